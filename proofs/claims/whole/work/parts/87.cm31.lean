/-! ===== the class itself: it is made ===== -/
theorem inj_up {f : Nat → Nat} {i x : Nat} (h : ∀ j k, j < i → k < i → f j = f k → j = k) (hn : ∀ j, j < i → f j ≠ x) : ∀ j k, j < i + 1 → k < i + 1 → va_up f i x j = va_up f i x k → j = k := by
  intro j k hj hk e
  by_cases a : j = i
  · by_cases b : k = i
    · omega
    · rw [a, va_up_self, va_up_ne _ _ b] at e
      exact absurd e.symm (hn k (by omega))
  · by_cases b : k = i
    · rw [b, va_up_self, va_up_ne _ _ a] at e
      exact absurd e (hn j (by omega))
    · rw [va_up_ne _ _ a, va_up_ne _ _ b] at e
      exact h j k (by omega) (by omega) e
/-- all that the constructor leaves -/
def IN (tc : Nat → ClassId) (T : HS) (q0 F su uu b : Nat) : Prop := ∃ q, q = q0 ∧ ∃ r l0 l1 l2 ca ba wa m9 b1 b2 v1 v2 t9, ∃ cl bk wt pl : Nat → Nat, (ob T q 10 [(64 * 10 + 2, nI b), (64 * 10 + 1, nI uu), (64 * 10 + 0, nI su), (649, 0), (650, 0)] [(64 * 10 + 8, some l2), (64 * 10 + 7, some l1), (64 * 10 + 6, some wa), (64 * 10 + 5, some ba), (64 * 10 + 4, some ca), (64 * 10 + 3, some r)]) ∧ (ob T r 7 [(449, 0)] [(448, some l0)]) ∧ (ob T l0 0 [(2, nI 0)] [(1, some (tc 100))]) ∧ (ar T ca 24 4 4 (fun j => some (cl j))) ∧ (∀ k9, k9 < 4 → ob T (cl k9) 2 [(128, 0), (130, 0), (131, 0), (132, 0), (133, 0)] [(129, none)]) ∧ (ar T ba 25 F F (fun j => some (bk j))) ∧ (ar T wa 26 F F (fun j => some (wt j))) ∧ (∀ k9, k9 < F → ob T (bk k9) 1 [(64, nI k9), (65, 0), (66, 0)] []) ∧ (∀ k9, k9 < F → ob T (wt k9) 9 [(576, nI k9), (577, nI su), (578, nI uu), (580, 0), (581, 0)] [(579, some (pl k9))]) ∧ (∀ k9, k9 < F → ar T (pl k9) 27 (su * uu) (su * uu) (fun _ => none)) ∧ (ob T l1 0 [(2, nI 1)] [(1, some t9)]) ∧ (ob T m9 5 [(320, nI 0), (321, nI b), (327, bI true), (328, 0), (329, 0), (330, 0), (331, 0)] [(322, some r), (323, some b1), (324, some b2), (325, some v1), (326, some v2)]) ∧ (ob T b1 0 [(2, nI 0)] [(1, some (tc 100))]) ∧ (ob T b2 0 [(2, nI 0)] [(1, some (tc 100))]) ∧ (ia T v1 16 0) ∧ (ia T v2 F (oI 0)) ∧ (ar T t9 23 10 1 (fun _ => some m9)) ∧ (ob T l2 0 [(2, nI 0)] [(1, some (tc 100))]) ∧ l0 ≠ l1 ∧ l2 ≠ l0 ∧ l2 ≠ l1 ∧ l2 ≠ b1 ∧ l2 ≠ b2 ∧ b1 ≠ l1 ∧ b2 ≠ l1 ∧ b1 ≠ l0 ∧ b2 ≠ l0 ∧ b1 ≠ b2 ∧ v1 ≠ v2 ∧ (∀ j k, j < 4 → k < 4 → cl j = cl k → j = k) ∧ (∀ j k, j < F → k < F → bk j = bk k → j = k) ∧ (∀ j k, j < F → k < F → wt j = wt k → j = k) ∧ (∀ j k, j < F → k < F → pl j = pl k → j = k)
set_option maxRecDepth 100000 in
set_option maxHeartbeats 8000000 in
theorem c_init10 {l : Launch} {D : va_G} {tc : Nat → ClassId} (hls : l.stackTraces = false) {T0 : HS} {q F su uu b : Nat} {x y z w : Int32} (hq : ob T0 q 10 [(649, 0), (650, 0)] []) (hF : nrF x 1 3 = F) (hs : nrF y 1 4 = su) (hu : nrF z 1 4 = uu) (hb : nrF w 1 10 = b) (hF3 : F ≤ 3) (hs4 : su ≤ 4) (hu4 : uu ≤ 4) {post : Option Value → HS → Prop} (hp : ∀ (T : HS), IN tc T q F su uu b → post none T) : CM l D tc yX10_init cX10_init 8 none 7 26 170 [.ref q, .int x, .int y, .int z, .int w] T0 post := by
  refine CM.of hls (by decide +kernel) (by simp [Value.category]) (Nat.le_of_ble_eq_true rfl) (fun A0 p e9 s m args below meth c sz h hr hnm hA => ?_)
  refine V.eqL (ls' := [some (.ref q), some (.int x), some (.int y), some (.int z), some (.int w), none, none, none]) rfl ?_
  refine V.blk h [(.aload_n 0, 1)] (by decide +kernel) (pc' := 1) (ls' := [some (.ref q), some (.int x), some (.int y), some (.int z), some (.int w), none, none, none]) (st' := [.ref q]) rfl rfl (Nat.le_of_ble_eq_true rfl) ?_
  refine V.objInit h wm_RX10_1 wi_objectInit wc_objectInit (by decide +kernel) (Nat.le_of_ble_eq_true rfl) (Nat.le_of_ble_eq_true rfl) ?_
  refine V.blk h [(.iload_n 1, 1), (.iconst 3, 1)] (by decide +kernel) (pc' := 6) (ls' := [some (.ref q), some (.int x), some (.int y), some (.int z), some (.int w), none, none, none]) (st' := [.int (nI 3), .int x]) rfl rfl (Nat.le_of_ble_eq_true rfl) ?_
  refine V.callS h (np := 2) (st := []) (c_nearest hls (x := x) (m := 3) (by decide) (by decide) (post := fun v S9 => v = some (.int (nI F)) ∧ T0 = S9) ⟨by rw [hF], rfl⟩) wc_X10_nearest wn_RX10 (Or.inl wm_RX10_9) wt_X10_nearest (by decide +kernel) rfl (Nat.le_of_ble_eq_true rfl) (Nat.le_of_ble_eq_true rfl) (Nat.le_of_ble_eq_true rfl) (Nat.le_of_ble_eq_true rfl) (by simp [Value.category]) (by decide +kernel) rfl (fun v S9 q9 => ?_)
  obtain ⟨rfl, hS9⟩ := q9
  subst hS9
  refine V.eq (S' := T0) (ls' := [some (.ref q), some (.int x), some (.int y), some (.int z), some (.int w), none, none, none]) (st' := [.int (nI F)]) rfl rfl rfl ?_
  refine V.blk h [(.istore 5, 2)] (by decide +kernel) (pc' := 11) (ls' := [some (.ref q), some (.int x), some (.int y), some (.int z), some (.int w), some (.int (nI F)), none, none]) (st' := []) rfl rfl (Nat.le_of_ble_eq_true rfl) ?_
  refine V.blk h [(.aload_n 0, 1), (.iload_n 2, 1), (.iconst 4, 1)] (by decide +kernel) (pc' := 14) (ls' := [some (.ref q), some (.int x), some (.int y), some (.int z), some (.int w), some (.int (nI F)), none, none]) (st' := [.int (nI 4), .int y, .ref q]) rfl rfl (Nat.le_of_ble_eq_true rfl) ?_
  refine V.callS h (np := 2) (st := [.ref q]) (c_nearest hls (x := y) (m := 4) (by decide) (by decide) (post := fun v S9 => v = some (.int (nI su)) ∧ T0 = S9) ⟨by rw [hs], rfl⟩) wc_X10_nearest wn_RX10 (Or.inl wm_RX10_9) wt_X10_nearest (by decide +kernel) rfl (Nat.le_of_ble_eq_true rfl) (Nat.le_of_ble_eq_true rfl) (Nat.le_of_ble_eq_true rfl) (Nat.le_of_ble_eq_true rfl) (by simp [Value.category]) (by decide +kernel) rfl (fun v S9 q9 => ?_)
  obtain ⟨rfl, hS9⟩ := q9
  subst hS9
  refine V.eq (S' := T0) (ls' := [some (.ref q), some (.int x), some (.int y), some (.int z), some (.int w), some (.int (nI F)), none, none]) (st' := [.int (nI su), .ref q]) rfl rfl rfl ?_
  refine V.putIF (S := T0) h hnm cls_10 (j := 0) rfl hq.1 hq.2.1 wf_RX10_13 rfl rfl rfl rfl (by decide +kernel) ?_
  have hk0 := rl_setI (T := T0) (q := q) (c := 64 * 10 + 0) (v := nI su)
  refine V.gen (P := fun T => (ob T q 10 [(64 * 10 + 0, nI su), (649, 0), (650, 0)] [])) (ob_setI hq ⟨by simp, by simp⟩) (fun T1 p9 => ?_)
  clear hq
  have hq := p9
  clear p9
  refine V.blk h [(.aload_n 0, 1), (.iload_n 3, 1), (.iconst 4, 1)] (by decide +kernel) (pc' := 23) (ls' := [some (.ref q), some (.int x), some (.int y), some (.int z), some (.int w), some (.int (nI F)), none, none]) (st' := [.int (nI 4), .int z, .ref q]) rfl rfl (Nat.le_of_ble_eq_true rfl) ?_
  refine V.callS h (np := 2) (st := [.ref q]) (c_nearest hls (x := z) (m := 4) (by decide) (by decide) (post := fun v S9 => v = some (.int (nI uu)) ∧ T1 = S9) ⟨by rw [hu], rfl⟩) wc_X10_nearest wn_RX10 (Or.inl wm_RX10_9) wt_X10_nearest (by decide +kernel) rfl (Nat.le_of_ble_eq_true rfl) (Nat.le_of_ble_eq_true rfl) (Nat.le_of_ble_eq_true rfl) (Nat.le_of_ble_eq_true rfl) (by simp [Value.category]) (by decide +kernel) rfl (fun v S9 q9 => ?_)
  obtain ⟨rfl, hS9⟩ := q9
  subst hS9
  refine V.eq (S' := T1) (ls' := [some (.ref q), some (.int x), some (.int y), some (.int z), some (.int w), some (.int (nI F)), none, none]) (st' := [.int (nI uu), .ref q]) rfl rfl rfl ?_
  refine V.putIF (S := T1) h hnm cls_10 (j := 1) rfl hq.1 hq.2.1 wf_RX10_17 rfl rfl rfl rfl (by decide +kernel) ?_
  have hk1 := rl_setI (T := T1) (q := q) (c := 64 * 10 + 1) (v := nI uu)
  refine V.gen (P := fun T => (ob T q 10 [(64 * 10 + 1, nI uu), (64 * 10 + 0, nI su), (649, 0), (650, 0)] [])) (ob_setI hq ⟨by simp, by simp⟩) (fun T2 p9 => ?_)
  clear hq
  have hq := p9
  clear p9
  refine V.blk h [(.aload_n 0, 1), (.iload 4, 2), (.bipush 10, 2)] (by decide +kernel) (pc' := 34) (ls' := [some (.ref q), some (.int x), some (.int y), some (.int z), some (.int w), some (.int (nI F)), none, none]) (st' := [.int (nI 10), .int w, .ref q]) rfl rfl (Nat.le_of_ble_eq_true rfl) ?_
  refine V.callS h (np := 2) (st := [.ref q]) (c_nearest hls (x := w) (m := 10) (by decide) (by decide) (post := fun v S9 => v = some (.int (nI b)) ∧ T2 = S9) ⟨by rw [hb], rfl⟩) wc_X10_nearest wn_RX10 (Or.inl wm_RX10_9) wt_X10_nearest (by decide +kernel) rfl (Nat.le_of_ble_eq_true rfl) (Nat.le_of_ble_eq_true rfl) (Nat.le_of_ble_eq_true rfl) (Nat.le_of_ble_eq_true rfl) (by simp [Value.category]) (by decide +kernel) rfl (fun v S9 q9 => ?_)
  obtain ⟨rfl, hS9⟩ := q9
  subst hS9
  refine V.eq (S' := T2) (ls' := [some (.ref q), some (.int x), some (.int y), some (.int z), some (.int w), some (.int (nI F)), none, none]) (st' := [.int (nI b), .ref q]) rfl rfl rfl ?_
  refine V.putIF (S := T2) h hnm cls_10 (j := 2) rfl hq.1 hq.2.1 wf_RX10_20 rfl rfl rfl rfl (by decide +kernel) ?_
  have hk2 := rl_setI (T := T2) (q := q) (c := 64 * 10 + 2) (v := nI b)
  refine V.gen (P := fun T => (ob T q 10 [(64 * 10 + 2, nI b), (64 * 10 + 1, nI uu), (64 * 10 + 0, nI su), (649, 0), (650, 0)] [])) (ob_setI hq ⟨by simp, by simp⟩) (fun T3 p9 => ?_)
  clear hq
  have hq := p9
  clear p9
  refine V.new h cls_7 wl_RX10_23 wz_RX7 wn_RX7 (Nat.le_of_ble_eq_true rfl) (Nat.le_of_ble_eq_true rfl) (by decide +kernel) (fun r hr0 => ?_)
  refine V.blk h [(.dup, 1)] (by decide +kernel) (pc' := 44) (ls' := [some (.ref q), some (.int x), some (.int y), some (.int z), some (.int w), some (.int (nI F)), none, none]) (st' := [.ref r, .ref r]) rfl rfl (Nat.le_of_ble_eq_true rfl) ?_
  refine V.callI h (np := 0) (st := [.ref r]) (c_init7 hls (T := T3) (q := r) hr0 (post := fun v S9 => v = none ∧ ∃ l0, hext T3 S9 ∧ l0 ∉ zL T3 ∧ l0 ≠ r ∧ ob S9 r 7 [(449, 0)] [(448, some l0)] ∧ ob S9 l0 0 [(2, nI 0)] [(1, some (tc 100))]) (fun S9 l0 a1 a2 a3 a4 a5 => ⟨rfl, l0, a1, a2, a3, a4, a5⟩)) wc_X7_init wn_RX7 (Or.inr ⟨_, wm_RX10_25⟩) wi_X7_init rfl (by decide +kernel) rfl (Nat.le_of_ble_eq_true rfl) (Nat.le_of_ble_eq_true rfl) (Nat.le_of_ble_eq_true rfl) (Nat.le_of_ble_eq_true rfl) (by simp [Value.category]) (by decide +kernel) rfl (fun v S9 q9 => ?_)
  obtain ⟨rfl, l0, a1, a2, a3, a4, a5⟩ := q9
  refine V.eq (S' := S9) (ls' := [some (.ref q), some (.int x), some (.int y), some (.int z), some (.int w), some (.int (nI F)), none, none]) (st' := [.ref r]) rfl rfl rfl ?_
  refine V.gen (P := fun T => (ob T q 10 [(64 * 10 + 2, nI b), (64 * 10 + 1, nI uu), (64 * 10 + 0, nI su), (649, 0), (650, 0)] []) ∧ (ob T r 7 [(449, 0)] [(448, some l0)]) ∧ (ob T l0 0 [(2, nI 0)] [(1, some (tc 100))])) ⟨a1.rl.ob hq (fun _ => ⟨by simp, by simp⟩),
      a4,
      a5⟩ (fun T4 p9 => ?_)
  clear hq
  obtain ⟨hq, hrow, hl0⟩ := p9
  clear a1 a2 a4 a5
  refine V.blk h [(.astore 6, 2)] (by decide +kernel) (pc' := 49) (ls' := [some (.ref q), some (.int x), some (.int y), some (.int z), some (.int w), some (.int (nI F)), some (.ref r), none]) (st' := []) rfl rfl (Nat.le_of_ble_eq_true rfl) ?_
  refine V.blk h [(.aload_n 0, 1), (.aload 6, 2)] (by decide +kernel) (pc' := 52) (ls' := [some (.ref q), some (.int x), some (.int y), some (.int z), some (.int w), some (.int (nI F)), some (.ref r), none]) (st' := [.ref r, .ref q]) rfl rfl (Nat.le_of_ble_eq_true rfl) ?_
  refine V.putPF (v := some r) (S := T4) h hnm cls_10 (j := 3) rfl hq.1 hq.2.1 wf_RX10_26 rfl rfl rfl rfl (by decide +kernel) ?_
  have hk3 := rl_setP (T := T4) (q := q) (c := 64 * 10 + 3) (w := some r)
  refine V.gen (P := fun T => (ob T q 10 [(64 * 10 + 2, nI b), (64 * 10 + 1, nI uu), (64 * 10 + 0, nI su), (649, 0), (650, 0)] [(64 * 10 + 3, some r)]) ∧ (ob T r 7 [(449, 0)] [(448, some l0)]) ∧ (ob T l0 0 [(2, nI 0)] [(1, some (tc 100))])) ⟨ob_setP hq ⟨by simp, by simp⟩,
      hk3.ob hrow (fun _ => ⟨by simp, by simp⟩),
      hk3.ob hl0 (fun _ => ⟨by simp, by simp⟩)⟩ (fun T5 p9 => ?_)
  clear hq hrow hl0
  obtain ⟨hq, hrow, hl0⟩ := p9
  obtain ⟨cl, hcl0⟩ : ∃ f : Nat → Nat, f = fun _ => 0 := ⟨_, rfl⟩
  refine V.blk h [(.aload_n 0, 1), (.iconst 4, 1)] (by decide +kernel) (pc' := 57) (ls' := [some (.ref q), some (.int x), some (.int y), some (.int z), some (.int w), some (.int (nI F)), some (.ref r), none]) (st' := [.int (nI 4), .ref q]) rfl rfl (Nat.le_of_ble_eq_true rfl) ?_
  refine V.anewarr h 24 (by decide) (E := "OneTrip$Client") rfl h.2.2.2.2.2.1.2.2.2.1.1 wl_RX10_30 (M := 4) (by omega) (by show _ ≤ 26; omega) (by show _ ≤ 170; omega) (by decide +kernel) (fun ca hca0 => ?_)
  have nca : q ≠ ca := fun z9 => hca0 (z9 ▸ hq.1)
  refine V.putPF (v := some ca) (S := newA T5 ca 24 4) h hnm cls_10 (j := 4) rfl (List.mem_append_left _ hq.1) ((va_up_ne _ _ nca).trans hq.2.1) wf_RX10_32 rfl rfl rfl rfl (by decide +kernel) ?_
  have hk4 := oa_rl (T := T5) (q := q) (c := 64 * 10 + 4) (ka := 24) (n := 4) hca0
  have hz4 := hk4.ob hq (fun _ => ⟨by simp, by simp⟩)
  refine V.gen (P := fun T => (ob T q 10 [(64 * 10 + 2, nI b), (64 * 10 + 1, nI uu), (64 * 10 + 0, nI su), (649, 0), (650, 0)] [(64 * 10 + 4, some ca), (64 * 10 + 3, some r)]) ∧ (ob T r 7 [(449, 0)] [(448, some l0)]) ∧ (ob T l0 0 [(2, nI 0)] [(1, some (tc 100))]) ∧ (ar T ca 24 4 0 (fun j => some (cl j)))) ⟨⟨hz4.1, hz4.2.1, hz4.2.2.1, fun p hp => (List.mem_cons.mp hp).elim (fun e9 => by rw [e9]; exact up2_at) (fun e9 => hz4.2.2.2 p e9)⟩,
      hk4.ob hrow (fun _ => ⟨by simp, by simp⟩),
      hk4.ob hl0 (fun _ => ⟨by simp, by simp⟩),
      (oa_new (m := 0)).none⟩ (fun T6 p9 => ?_)
  clear hq hrow hl0
  obtain ⟨hq, hrow, hl0, hca⟩ := p9
  refine V.blk h [(.iconst 0, 1)] (by decide +kernel) (pc' := 64) (ls' := [some (.ref q), some (.int x), some (.int y), some (.int z), some (.int w), some (.int (nI F)), some (.ref r), none]) (st' := [.int (nI 0)]) rfl rfl (Nat.le_of_ble_eq_true rfl) ?_
  refine V.blk h [(.istore 7, 2)] (by decide +kernel) (pc' := 66) (ls' := [some (.ref q), some (.int x), some (.int y), some (.int z), some (.int w), some (.int (nI F)), some (.ref r), some (.int (nI (0)))]) (st' := []) rfl rfl (Nat.le_of_ble_eq_true rfl) ?_
  have loop1 : ∀ (t i : Nat) (T : HS) (cl : Nat → Nat), 4 - i = t → i ≤ 4 → (ob T q 10 [(64 * 10 + 2, nI b), (64 * 10 + 1, nI uu), (64 * 10 + 0, nI su), (649, 0), (650, 0)] [(64 * 10 + 4, some ca), (64 * 10 + 3, some r)]) → (ob T r 7 [(449, 0)] [(448, some l0)]) → (ob T l0 0 [(2, nI 0)] [(1, some (tc 100))]) → (ar T ca 24 4 i (fun j => some (cl j))) → (∀ k9, k9 < i → ob T (cl k9) 2 [(128, 0), (130, 0), (131, 0), (132, 0), (133, 0)] [(129, none)]) → (∀ j k, j < i → k < i → cl j = cl k → j = k) → V l D tc A0 p e9 (rmd 7 26 170) s m args below meth c 8 (MQ below (zQ D tc post T0 sz) args s 26 170 (zAd T0 sz)) T (3 + i) (9 + 6 * i) 66 [some (.ref q), some (.int x), some (.int y), some (.int z), some (.int w), some (.int (nI F)), some (.ref r), some (.int (nI i))] [] := by
    intro t
    induction t with
    | zero =>
      intro i T cl ht hi hq hrow hl0 hca hcl cli
      have hi4 : i = 4 := by omega
      subst hi4
      refine V.blk h [(.iload 7, 2), (.aload_n 0, 1)] (by decide +kernel) (pc' := 69) (ls' := [some (.ref q), some (.int x), some (.int y), some (.int z), some (.int w), some (.int (nI F)), some (.ref r), some (.int (nI 4))]) (st' := [.ref q, .int (nI 4)]) rfl rfl (Nat.le_of_ble_eq_true rfl) ?_
      refine V.getP h cls_10 (j := 4) rfl hq.1 hq.2.1 (Or.inl wf_RX10_32) (by decide +kernel) (v := some ca) (hq.2.2.2 (644, some ca) (by simp)) ?_
      refine V.eq (S' := T) (ls' := [some (.ref q), some (.int x), some (.int y), some (.int z), some (.int w), some (.int (nI F)), some (.ref r), some (.int (nI 4))]) (st' := [.ref ca, .int (nI 4)]) rfl rfl rfl ?_
      refine V.alen h 24 hca.1 hca.2.1 (by decide) (M := 4) hca.2.2.1 (by decide +kernel) ?_
      refine V.icmp_ge h (off := 23) (by decide +kernel) (tgt := 96) (by decide) (fun _ => ?_) (fun q9 => absurd ((nI_leI (by decide) (by decide)).mpr (Nat.le_refl 4)) q9)
      obtain ⟨bk, hbk0⟩ : ∃ f : Nat → Nat, f = fun _ => 0 := ⟨_, rfl⟩
      obtain ⟨wt, hwt0⟩ : ∃ f : Nat → Nat, f = fun _ => 0 := ⟨_, rfl⟩
      refine V.blk h [(.aload_n 0, 1), (.iload 5, 2)] (by decide +kernel) (pc' := 99) (ls' := [some (.ref q), some (.int x), some (.int y), some (.int z), some (.int w), some (.int (nI F)), some (.ref r), some (.int (nI 4))]) (st' := [.int (nI F), .ref q]) rfl rfl (Nat.le_of_ble_eq_true rfl) ?_
      refine V.anewarr h 25 (by decide) (E := "OneTrip$Backup") rfl h.2.2.2.2.2.1.2.2.2.1.2.1 wl_RX10_37 (M := F) (by omega) (by show _ ≤ 26; omega) (by show _ ≤ 170; omega) (by decide +kernel) (fun ba hba0 => ?_)
      have nba : q ≠ ba := fun z9 => hba0 (z9 ▸ hq.1)
      refine V.putPF (v := some ba) (S := newA T ba 25 F) h hnm cls_10 (j := 5) rfl (List.mem_append_left _ hq.1) ((va_up_ne _ _ nba).trans hq.2.1) wf_RX10_39 rfl rfl rfl rfl (by decide +kernel) ?_
      have hk5 := oa_rl (T := T) (q := q) (c := 64 * 10 + 5) (ka := 25) (n := F) hba0
      have hz5 := hk5.ob hq (fun _ => ⟨by simp, by simp⟩)
      refine V.gen (P := fun T => (ob T q 10 [(64 * 10 + 2, nI b), (64 * 10 + 1, nI uu), (64 * 10 + 0, nI su), (649, 0), (650, 0)] [(64 * 10 + 5, some ba), (64 * 10 + 4, some ca), (64 * 10 + 3, some r)]) ∧ (ob T r 7 [(449, 0)] [(448, some l0)]) ∧ (ob T l0 0 [(2, nI 0)] [(1, some (tc 100))]) ∧ (ar T ca 24 4 4 (fun j => some (cl j))) ∧ (∀ k9, k9 < 4 → ob T (cl k9) 2 [(128, 0), (130, 0), (131, 0), (132, 0), (133, 0)] [(129, none)]) ∧ (ar T ba 25 F 0 (fun j => some (bk j)))) ⟨⟨hz5.1, hz5.2.1, hz5.2.2.1, fun p hp => (List.mem_cons.mp hp).elim (fun e9 => by rw [e9]; exact up2_at) (fun e9 => hz5.2.2.2 p e9)⟩,
          hk5.ob hrow (fun _ => ⟨by simp, by simp⟩),
          hk5.ob hl0 (fun _ => ⟨by simp, by simp⟩),
          hk5.ar hca (fun _ z => by cases z),
          fun k9 hk9 => hk5.ob (hcl k9 hk9) (fun _ => ⟨by simp, by simp⟩),
          (oa_new (m := 0)).none⟩ (fun T21 p9 => ?_)
      clear hq hrow hl0 hca hcl
      obtain ⟨hq, hrow, hl0, hca, hcl, hba⟩ := p9
      refine V.blk h [(.aload_n 0, 1), (.iload 5, 2)] (by decide +kernel) (pc' := 108) (ls' := [some (.ref q), some (.int x), some (.int y), some (.int z), some (.int w), some (.int (nI F)), some (.ref r), some (.int (nI 4))]) (st' := [.int (nI F), .ref q]) rfl rfl (Nat.le_of_ble_eq_true rfl) ?_
      refine V.anewarr h 26 (by decide) (E := "OneTrip$Witness") rfl h.2.2.2.2.2.1.2.2.2.1.2.2.1 wl_RX10_43 (M := F) (by omega) (by show _ ≤ 26; omega) (by show _ ≤ 170; omega) (by decide +kernel) (fun wa hwa0 => ?_)
      have nwa : q ≠ wa := fun z9 => hwa0 (z9 ▸ hq.1)
      refine V.putPF (v := some wa) (S := newA T21 wa 26 F) h hnm cls_10 (j := 6) rfl (List.mem_append_left _ hq.1) ((va_up_ne _ _ nwa).trans hq.2.1) wf_RX10_45 rfl rfl rfl rfl (by decide +kernel) ?_
      have hk6 := oa_rl (T := T21) (q := q) (c := 64 * 10 + 6) (ka := 26) (n := F) hwa0
      have hz6 := hk6.ob hq (fun _ => ⟨by simp, by simp⟩)
      refine V.gen (P := fun T => (ob T q 10 [(64 * 10 + 2, nI b), (64 * 10 + 1, nI uu), (64 * 10 + 0, nI su), (649, 0), (650, 0)] [(64 * 10 + 6, some wa), (64 * 10 + 5, some ba), (64 * 10 + 4, some ca), (64 * 10 + 3, some r)]) ∧ (ob T r 7 [(449, 0)] [(448, some l0)]) ∧ (ob T l0 0 [(2, nI 0)] [(1, some (tc 100))]) ∧ (ar T ca 24 4 4 (fun j => some (cl j))) ∧ (∀ k9, k9 < 4 → ob T (cl k9) 2 [(128, 0), (130, 0), (131, 0), (132, 0), (133, 0)] [(129, none)]) ∧ (ar T ba 25 F 0 (fun j => some (bk j))) ∧ (ar T wa 26 F 0 (fun j => some (wt j)))) ⟨⟨hz6.1, hz6.2.1, hz6.2.2.1, fun p hp => (List.mem_cons.mp hp).elim (fun e9 => by rw [e9]; exact up2_at) (fun e9 => hz6.2.2.2 p e9)⟩,
          hk6.ob hrow (fun _ => ⟨by simp, by simp⟩),
          hk6.ob hl0 (fun _ => ⟨by simp, by simp⟩),
          hk6.ar hca (fun _ z => by cases z),
          fun k9 hk9 => hk6.ob (hcl k9 hk9) (fun _ => ⟨by simp, by simp⟩),
          hk6.ar hba (fun _ z => by cases z),
          (oa_new (m := 0)).none⟩ (fun T22 p9 => ?_)
      clear hq hrow hl0 hca hcl hba
      obtain ⟨hq, hrow, hl0, hca, hcl, hba, hwa⟩ := p9
      refine V.blk h [(.iconst 0, 1)] (by decide +kernel) (pc' := 115) (ls' := [some (.ref q), some (.int x), some (.int y), some (.int z), some (.int w), some (.int (nI F)), some (.ref r), some (.int (nI 4))]) (st' := [.int (nI 0)]) rfl rfl (Nat.le_of_ble_eq_true rfl) ?_
      refine V.blk h [(.istore 7, 2)] (by decide +kernel) (pc' := 117) (ls' := [some (.ref q), some (.int x), some (.int y), some (.int z), some (.int w), some (.int (nI F)), some (.ref r), some (.int (nI (0)))]) (st' := []) rfl rfl (Nat.le_of_ble_eq_true rfl) ?_
      have loop2 : ∀ (t i : Nat) (T : HS) (bk wt pl : Nat → Nat), F - i = t → i ≤ F → (ob T q 10 [(64 * 10 + 2, nI b), (64 * 10 + 1, nI uu), (64 * 10 + 0, nI su), (649, 0), (650, 0)] [(64 * 10 + 6, some wa), (64 * 10 + 5, some ba), (64 * 10 + 4, some ca), (64 * 10 + 3, some r)]) → (ob T r 7 [(449, 0)] [(448, some l0)]) → (ob T l0 0 [(2, nI 0)] [(1, some (tc 100))]) → (ar T ca 24 4 4 (fun j => some (cl j))) → (∀ k9, k9 < 4 → ob T (cl k9) 2 [(128, 0), (130, 0), (131, 0), (132, 0), (133, 0)] [(129, none)]) → (ar T ba 25 F i (fun j => some (bk j))) → (ar T wa 26 F i (fun j => some (wt j))) → (∀ k9, k9 < i → ob T (bk k9) 1 [(64, nI k9), (65, 0), (66, 0)] []) → (∀ k9, k9 < i → ob T (wt k9) 9 [(576, nI k9), (577, nI su), (578, nI uu), (580, 0), (581, 0)] [(579, some (pl k9))]) → (∀ k9, k9 < i → ar T (pl k9) 27 (su * uu) (su * uu) (fun _ => none)) → (∀ j k, j < i → k < i → bk j = bk k → j = k) → (∀ j k, j < i → k < i → wt j = wt k → j = k) → (∀ j k, j < i → k < i → pl j = pl k → j = k) → V l D tc A0 p e9 (rmd 7 26 170) s m args below meth c 8 (MQ below (zQ D tc post T0 sz) args s 26 170 (zAd T0 sz)) T (9 + 3 * i) (39 + 25 * i) 117 [some (.ref q), some (.int x), some (.int y), some (.int z), some (.int w), some (.int (nI F)), some (.ref r), some (.int (nI i))] [] := by
        intro t
        induction t with
        | zero =>
          intro i T bk wt pl ht hi hq hrow hl0 hca hcl hba hwa hbk hwt hpl bki wti pli
          have hiF : i = F := by omega
          rw [hiF] at hba hwa hbk hwt hpl bki wti pli
          refine V.eqL (ls' := [some (.ref q), some (.int x), some (.int y), some (.int z), some (.int w), some (.int (nI F)), some (.ref r), some (.int (nI F))]) (by rw [hiF]) ?_
          refine V.blk h [(.iload 7, 2), (.iload 5, 2)] (by decide +kernel) (pc' := 121) (ls' := [some (.ref q), some (.int x), some (.int y), some (.int z), some (.int w), some (.int (nI F)), some (.ref r), some (.int (nI F))]) (st' := [.int (nI F), .int (nI F)]) rfl rfl (Nat.le_of_ble_eq_true rfl) ?_
          refine V.icmp_ge h (off := 49) (by decide +kernel) (tgt := 170) (by decide) (fun _ => ?_) (fun q9 => absurd ((nI_leI (by omega) (by omega)).mpr (Nat.le_refl F)) q9)
          refine V.blk h [(.aload_n 0, 1)] (by decide +kernel) (pc' := 171) (ls' := [some (.ref q), some (.int x), some (.int y), some (.int z), some (.int w), some (.int (nI F)), some (.ref r), some (.int (nI F))]) (st' := [.ref q]) rfl rfl (Nat.le_of_ble_eq_true rfl) ?_
          refine V.new h cls_0 wl_RX10_55 wz_RJx4a65c wn_RJx4a65c (by show _ ≤ 26; omega) (by show _ ≤ 170; omega) (by decide +kernel) (fun l1 hl10 => ?_)
          refine V.blk h [(.dup, 1)] (by decide +kernel) (pc' := 175) (ls' := [some (.ref q), some (.int x), some (.int y), some (.int z), some (.int w), some (.int (nI F)), some (.ref r), some (.int (nI F))]) (st' := [.ref l1, .ref l1, .ref q]) rfl rfl (Nat.le_of_ble_eq_true rfl) ?_
          refine V.callI h (np := 0) (st := [.ref l1, .ref q]) (m_newlist hls (b := l1) (S := newO T l1 0) (List.mem_append_right _ (List.mem_singleton.mpr rfl)) (va_up_self _ _ _) (post := fun v S9 => v = none ∧ setP (setI (newO T l1 0) 0 l1 (nI 0)) 1 l1 (some (tc 100)) = S9) ⟨rfl, rfl⟩) wc_Jx4a65c_init_da8c8 wn_RJx4a65c (Or.inl wm_RX10_57) wi_Jx4a65c_init_da8c8 rfl (by decide +kernel) rfl (Nat.le_of_ble_eq_true rfl) (Nat.le_of_ble_eq_true rfl) (by show _ ≤ 26; omega) (by show _ ≤ 170; omega) (by simp [Value.category]) (by decide +kernel) rfl (fun v S9 q9 => ?_)
          obtain ⟨rfl, hS9⟩ := q9
          subst hS9
          refine V.eq (S' := setP (setI (newO T l1 0) 0 l1 (nI 0)) 1 l1 (some (tc 100))) (ls' := [some (.ref q), some (.int x), some (.int y), some (.int z), some (.int w), some (.int (nI F)), some (.ref r), some (.int (nI F))]) (st' := [.ref l1, .ref q]) rfl rfl rfl ?_
          have nl1 : q ≠ l1 := fun z9 => hl10 (z9 ▸ hq.1)
          have nl01 : l0 ≠ l1 := fun z9 => hl10 (z9 ▸ hl0.1)
          refine V.putPF (v := some l1) (S := setP (setI (newO T l1 0) 0 l1 (nI 0)) 1 l1 (some (tc 100))) h hnm cls_10 (j := 7) rfl (List.mem_append_left _ hq.1) ((va_up_ne _ _ nl1).trans hq.2.1) wf_RX10_58 rfl rfl rfl rfl (by decide +kernel) ?_
          have hk7 := ol_rl (T := T) (q := q) (c := 64 * 10 + 7) (z := some (tc 100)) hl10
          have hz7 := hk7.ob hq (fun _ => ⟨by simp, by simp⟩)
          refine V.gen (P := fun T => (ob T q 10 [(64 * 10 + 2, nI b), (64 * 10 + 1, nI uu), (64 * 10 + 0, nI su), (649, 0), (650, 0)] [(64 * 10 + 7, some l1), (64 * 10 + 6, some wa), (64 * 10 + 5, some ba), (64 * 10 + 4, some ca), (64 * 10 + 3, some r)]) ∧ (ob T r 7 [(449, 0)] [(448, some l0)]) ∧ (ob T l0 0 [(2, nI 0)] [(1, some (tc 100))]) ∧ (ar T ca 24 4 4 (fun j => some (cl j))) ∧ (∀ k9, k9 < 4 → ob T (cl k9) 2 [(128, 0), (130, 0), (131, 0), (132, 0), (133, 0)] [(129, none)]) ∧ (ar T ba 25 F F (fun j => some (bk j))) ∧ (ar T wa 26 F F (fun j => some (wt j))) ∧ (∀ k9, k9 < F → ob T (bk k9) 1 [(64, nI k9), (65, 0), (66, 0)] []) ∧ (∀ k9, k9 < F → ob T (wt k9) 9 [(576, nI k9), (577, nI su), (578, nI uu), (580, 0), (581, 0)] [(579, some (pl k9))]) ∧ (∀ k9, k9 < F → ar T (pl k9) 27 (su * uu) (su * uu) (fun _ => none)) ∧ (ob T l1 0 [(2, nI 0)] [(1, some (tc 100))])) ⟨⟨hz7.1, hz7.2.1, hz7.2.2.1, fun p hp => (List.mem_cons.mp hp).elim (fun e9 => by rw [e9]; exact up2_at) (fun e9 => hz7.2.2.2 p e9)⟩,
              hk7.ob hrow (fun _ => ⟨by simp, by simp⟩),
              hk7.ob hl0 (fun _ => ⟨by simp, by simp⟩),
              hk7.ar hca (fun _ z => by cases z),
              fun k9 hk9 => hk7.ob (hcl k9 hk9) (fun _ => ⟨by simp, by simp⟩),
              hk7.ar hba (fun _ z => by cases z),
              hk7.ar hwa (fun _ z => by cases z),
              fun k9 hk9 => hk7.ob (hbk k9 hk9) (fun _ => ⟨by simp, by simp⟩),
              fun k9 hk9 => hk7.ob (hwt k9 hk9) (fun _ => ⟨by simp, by simp⟩),
              fun k9 hk9 => hk7.ar (hpl k9 hk9) (fun _ z => by cases z),
              ol_new hl10 hq.1⟩ (fun T41 p9 => ?_)
          clear hq hrow hl0 hca hcl hba hwa hbk hwt hpl
          obtain ⟨hq, hrow, hl0, hca, hcl, hba, hwa, hbk, hwt, hpl, hl1⟩ := p9
          refine V.blk h [(.aload_n 0, 1)] (by decide +kernel) (pc' := 182) (ls' := [some (.ref q), some (.int x), some (.int y), some (.int z), some (.int w), some (.int (nI F)), some (.ref r), some (.int (nI F))]) (st' := [.ref q]) rfl rfl (Nat.le_of_ble_eq_true rfl) ?_
          refine V.getP h cls_10 (j := 7) rfl hq.1 hq.2.1 (Or.inl wf_RX10_58) (by decide +kernel) (v := some l1) (hq.2.2.2 (647, some l1) (by simp)) ?_
          refine V.eq (S' := T41) (ls' := [some (.ref q), some (.int x), some (.int y), some (.int z), some (.int w), some (.int (nI F)), some (.ref r), some (.int (nI F))]) (st' := [.ref l1]) rfl rfl rfl ?_
          refine V.new h cls_5 wl_RX10_62 wz_RX5 wn_RX5 (by show _ ≤ 26; omega) (by show _ ≤ 170; omega) (by decide +kernel) (fun m9 hm0 => ?_)
          have hqx : ob (newO T41 m9 5) q 10 [(64 * 10 + 2, nI b), (64 * 10 + 1, nI uu), (64 * 10 + 0, nI su), (649, 0), (650, 0)] [(64 * 10 + 7, some l1), (64 * 10 + 6, some wa), (64 * 10 + 5, some ba), (64 * 10 + 4, some ca), (64 * 10 + 3, some r)] := ((hext.rfl (S := T41)).newO hm0).rl.ob hq (fun _ => ⟨by simp, by simp⟩)
          refine V.blk h [(.dup, 1), (.iconst 0, 1), (.iload 5, 2), (.aload_n 0, 1)] (by decide +kernel) (pc' := 193) (ls' := [some (.ref q), some (.int x), some (.int y), some (.int z), some (.int w), some (.int (nI F)), some (.ref r), some (.int (nI F))]) (st' := [.ref q, .int (nI F), .int (nI 0), .ref m9, .ref m9, .ref l1]) rfl rfl (Nat.le_of_ble_eq_true rfl) ?_
          refine V.getI h cls_10 (j := 2) rfl hqx.1 hqx.2.1 (Or.inl wf_RX10_20) (by decide +kernel) (v := nI b) (hqx.2.2.1 (642, nI b) (by simp)) ?_
          refine V.blk h [(.aload 6, 2)] (by decide +kernel) (pc' := 198) (ls' := [some (.ref q), some (.int x), some (.int y), some (.int z), some (.int w), some (.int (nI F)), some (.ref r), some (.int (nI F))]) (st' := [.ref r, .int (nI b), .int (nI F), .int (nI 0), .ref m9, .ref m9, .ref l1]) rfl rfl (Nat.le_of_ble_eq_true rfl) ?_
          refine V.callI h (np := 4) (st := [.ref m9, .ref l1]) (c_init5 hls (S0 := T41) (S := newO T41 m9 5) (q := m9) (e := 0) (f := F) (b := b) (r := r) (hext.rfl.newO hm0) (List.mem_append_right _ (List.mem_singleton.mpr rfl)) (va_up_self _ _ _) hm0 (if_pos rfl) (if_pos rfl) (if_pos rfl) (if_pos rfl) hF3 (post := fun v S9 => v = none ∧ ∃ b1 b2 v1 v2, MT tc T41 S9 m9 0 b r b1 b2 v1 v2 F) (fun S9 b1 b2 v1 v2 h7 => ⟨rfl, b1, b2, v1, v2, h7⟩)) wc_X5_init wn_RX5 (Or.inr ⟨_, wm_RX10_64⟩) wi_X5_init rfl (by decide +kernel) rfl (Nat.le_of_ble_eq_true rfl) (Nat.le_of_ble_eq_true rfl) (by show _ ≤ 26; omega) (by show _ ≤ 170; omega) (by simp [Value.category]) (by decide +kernel) rfl (fun v S9 q9 => ?_)
          obtain ⟨rfl, b1, b2, v1, v2, hmt⟩ := q9
          obtain ⟨k1, k2, k3, k4, k5, k6, k7, k8, k9a, k10, k11, nb12, nv12⟩ := hmt.obs
          refine V.eq (S' := S9) (ls' := [some (.ref q), some (.int x), some (.int y), some (.int z), some (.int w), some (.int (nI F)), some (.ref r), some (.int (nI F))]) (st' := [.ref m9, .ref l1]) rfl rfl rfl ?_
          have nb1 : b1 ≠ l1 := fun z9 => k8 (z9 ▸ hl1.1)
          have nb2 : b2 ≠ l1 := fun z9 => k9a (z9 ▸ hl1.1)
          have nb10 : b1 ≠ l0 := fun z9 => k8 (z9 ▸ hl0.1)
          have nb20 : b2 ≠ l0 := fun z9 => k9a (z9 ▸ hl0.1)
          refine V.gen (P := fun T => (ob T q 10 [(64 * 10 + 2, nI b), (64 * 10 + 1, nI uu), (64 * 10 + 0, nI su), (649, 0), (650, 0)] [(64 * 10 + 7, some l1), (64 * 10 + 6, some wa), (64 * 10 + 5, some ba), (64 * 10 + 4, some ca), (64 * 10 + 3, some r)]) ∧ (ob T r 7 [(449, 0)] [(448, some l0)]) ∧ (ob T l0 0 [(2, nI 0)] [(1, some (tc 100))]) ∧ (ar T ca 24 4 4 (fun j => some (cl j))) ∧ (∀ k9, k9 < 4 → ob T (cl k9) 2 [(128, 0), (130, 0), (131, 0), (132, 0), (133, 0)] [(129, none)]) ∧ (ar T ba 25 F F (fun j => some (bk j))) ∧ (ar T wa 26 F F (fun j => some (wt j))) ∧ (∀ k9, k9 < F → ob T (bk k9) 1 [(64, nI k9), (65, 0), (66, 0)] []) ∧ (∀ k9, k9 < F → ob T (wt k9) 9 [(576, nI k9), (577, nI su), (578, nI uu), (580, 0), (581, 0)] [(579, some (pl k9))]) ∧ (∀ k9, k9 < F → ar T (pl k9) 27 (su * uu) (su * uu) (fun _ => none)) ∧ (ob T l1 0 [(2, nI 0)] [(1, some (tc 100))]) ∧ (ob T m9 5 [(320, nI 0), (321, nI b), (327, bI true), (328, 0), (329, 0), (330, 0), (331, 0)] [(322, some r), (323, some b1), (324, some b2), (325, some v1), (326, some v2)]) ∧ (ob T b1 0 [(2, nI 0)] [(1, some (tc 100))]) ∧ (ob T b2 0 [(2, nI 0)] [(1, some (tc 100))]) ∧ (ia T v1 16 0) ∧ (ia T v2 F (oI 0))) ⟨k1.ob hq (fun _ => ⟨by simp, by simp⟩),
              k1.ob hrow (fun _ => ⟨by simp, by simp⟩),
              k1.ob hl0 (fun _ => ⟨by simp, by simp⟩),
              k1.ar hca (fun _ z => by cases z),
              fun k9 hk9 => k1.ob (hcl k9 hk9) (fun _ => ⟨by simp, by simp⟩),
              k1.ar hba (fun _ z => by cases z),
              k1.ar hwa (fun _ z => by cases z),
              fun k9 hk9 => k1.ob (hbk k9 hk9) (fun _ => ⟨by simp, by simp⟩),
              fun k9 hk9 => k1.ob (hwt k9 hk9) (fun _ => ⟨by simp, by simp⟩),
              fun k9 hk9 => k1.ar (hpl k9 hk9) (fun _ z => by cases z),
              k1.ob hl1 (fun _ => ⟨by simp, by simp⟩),
              k2,
              k3,
              k4,
              k5,
              k6⟩ (fun T42 p9 => ?_)
          clear hq hrow hl0 hca hcl hba hwa hbk hwt hpl hl1
          obtain ⟨hq, hrow, hl0, hca, hcl, hba, hwa, hbk, hwt, hpl, hl1, hm, hb1, hb2, hv1, hv2⟩ := p9
          refine V.callV h (np := 1) (st := []) (m_add hls cls_5 (by decide +kernel) (LX_0 hl1) (fun i9 y9 hi9 => absurd hi9 (Nat.not_lt_zero _)) hm.1 hm.2.1 (mc := 1) (ms := 10) (fun _ => Nat.le_refl _) (fun _ => Nat.le_refl _) (post := fun v S9 => v = some (.int (nI 1)) ∧ ∃ r9, r9 ∉ zL T42 ∧ adS (grS (mcS T42 l1) l1 (tc 100) 0 r9) l1 r9 m9 0 = S9) (fun z9 => absurd z9 (Nat.lt_irrefl _)) (fun _ r9 hr9 => ⟨rfl, r9, hr9, rfl⟩)) wc_Jx4a65c_add_9ea2d wn_RJx4a65c (Or.inl wm_RX10_67) wi_Jx4a65c_add_9ea2d we_Jx4a65c_add_9ea2d (by decide +kernel) rfl cls_0 hl1.1 hl1.2.1 (Nat.le_of_ble_eq_true rfl) (Nat.le_of_ble_eq_true rfl) (by show _ ≤ 26; omega) (by show _ ≤ 170; omega) (by simp [Value.category]) (by decide +kernel) rfl (fun v S9 q9 => ?_)
          obtain ⟨rfl, t9, ht9, hS9⟩ := q9
          obtain ⟨o1, o2, o3⟩ := fst_add (a := m9) hl1 ht9
          rw [hS9] at o1 o2 o3
          refine V.eq (S' := S9) (ls' := [some (.ref q), some (.int x), some (.int y), some (.int z), some (.int w), some (.int (nI F)), some (.ref r), some (.int (nI F))]) (st' := [.int (nI 1)]) rfl rfl rfl ?_
          refine V.blk h [(.pop, 1)] (by decide +kernel) (pc' := 205) (ls' := [some (.ref q), some (.int x), some (.int y), some (.int z), some (.int w), some (.int (nI F)), some (.ref r), some (.int (nI F))]) (st' := []) rfl rfl (Nat.le_of_ble_eq_true rfl) ?_
          refine V.gen (P := fun T => (ob T q 10 [(64 * 10 + 2, nI b), (64 * 10 + 1, nI uu), (64 * 10 + 0, nI su), (649, 0), (650, 0)] [(64 * 10 + 7, some l1), (64 * 10 + 6, some wa), (64 * 10 + 5, some ba), (64 * 10 + 4, some ca), (64 * 10 + 3, some r)]) ∧ (ob T r 7 [(449, 0)] [(448, some l0)]) ∧ (ob T l0 0 [(2, nI 0)] [(1, some (tc 100))]) ∧ (ar T ca 24 4 4 (fun j => some (cl j))) ∧ (∀ k9, k9 < 4 → ob T (cl k9) 2 [(128, 0), (130, 0), (131, 0), (132, 0), (133, 0)] [(129, none)]) ∧ (ar T ba 25 F F (fun j => some (bk j))) ∧ (ar T wa 26 F F (fun j => some (wt j))) ∧ (∀ k9, k9 < F → ob T (bk k9) 1 [(64, nI k9), (65, 0), (66, 0)] []) ∧ (∀ k9, k9 < F → ob T (wt k9) 9 [(576, nI k9), (577, nI su), (578, nI uu), (580, 0), (581, 0)] [(579, some (pl k9))]) ∧ (∀ k9, k9 < F → ar T (pl k9) 27 (su * uu) (su * uu) (fun _ => none)) ∧ (ob T l1 0 [(2, nI 1)] [(1, some t9)]) ∧ (ob T m9 5 [(320, nI 0), (321, nI b), (327, bI true), (328, 0), (329, 0), (330, 0), (331, 0)] [(322, some r), (323, some b1), (324, some b2), (325, some v1), (326, some v2)]) ∧ (ob T b1 0 [(2, nI 0)] [(1, some (tc 100))]) ∧ (ob T b2 0 [(2, nI 0)] [(1, some (tc 100))]) ∧ (ia T v1 16 0) ∧ (ia T v2 F (oI 0)) ∧ (ar T t9 23 10 1 (fun _ => some m9))) ⟨o1.ob hq (Or.inr ⟨by simp, by simp⟩),
              o1.ob hrow (Or.inr ⟨by simp, by simp⟩),
              o1.ob hl0 (Or.inl nl01),
              o1.ar ht9 hca,
              fun k9 hk9 => o1.ob (hcl k9 hk9) (Or.inr ⟨by simp, by simp⟩),
              o1.ar ht9 hba,
              o1.ar ht9 hwa,
              fun k9 hk9 => o1.ob (hbk k9 hk9) (Or.inr ⟨by simp, by simp⟩),
              fun k9 hk9 => o1.ob (hwt k9 hk9) (Or.inr ⟨by simp, by simp⟩),
              fun k9 hk9 => o1.ar ht9 (hpl k9 hk9),
              o2,
              o1.ob hm (Or.inr ⟨by simp, by simp⟩),
              o1.ob hb1 (Or.inl nb1),
              o1.ob hb2 (Or.inl nb2),
              o1.ia hv1,
              o1.ia hv2,
              o3⟩ (fun T43 p9 => ?_)
          clear hq hrow hl0 hca hcl hba hwa hbk hwt hpl hl1 hm hb1 hb2 hv1 hv2
          obtain ⟨hq, hrow, hl0, hca, hcl, hba, hwa, hbk, hwt, hpl, hl1, hm, hb1, hb2, hv1, hv2, ht⟩ := p9
          refine V.blk h [(.aload_n 0, 1)] (by decide +kernel) (pc' := 206) (ls' := [some (.ref q), some (.int x), some (.int y), some (.int z), some (.int w), some (.int (nI F)), some (.ref r), some (.int (nI F))]) (st' := [.ref q]) rfl rfl (Nat.le_of_ble_eq_true rfl) ?_
          refine V.new h cls_0 wl_RX10_55 wz_RJx4a65c wn_RJx4a65c (by show _ ≤ 26; omega) (by show _ ≤ 170; omega) (by decide +kernel) (fun l2 hl20 => ?_)
          refine V.blk h [(.dup, 1)] (by decide +kernel) (pc' := 210) (ls' := [some (.ref q), some (.int x), some (.int y), some (.int z), some (.int w), some (.int (nI F)), some (.ref r), some (.int (nI F))]) (st' := [.ref l2, .ref l2, .ref q]) rfl rfl (Nat.le_of_ble_eq_true rfl) ?_
          refine V.callI h (np := 0) (st := [.ref l2, .ref q]) (m_newlist hls (b := l2) (S := newO T43 l2 0) (List.mem_append_right _ (List.mem_singleton.mpr rfl)) (va_up_self _ _ _) (post := fun v S9 => v = none ∧ setP (setI (newO T43 l2 0) 0 l2 (nI 0)) 1 l2 (some (tc 100)) = S9) ⟨rfl, rfl⟩) wc_Jx4a65c_init_da8c8 wn_RJx4a65c (Or.inl wm_RX10_57) wi_Jx4a65c_init_da8c8 rfl (by decide +kernel) rfl (Nat.le_of_ble_eq_true rfl) (Nat.le_of_ble_eq_true rfl) (by show _ ≤ 26; omega) (by show _ ≤ 170; omega) (by simp [Value.category]) (by decide +kernel) rfl (fun v S9 q9 => ?_)
          obtain ⟨rfl, hS9⟩ := q9
          subst hS9
          refine V.eq (S' := setP (setI (newO T43 l2 0) 0 l2 (nI 0)) 1 l2 (some (tc 100))) (ls' := [some (.ref q), some (.int x), some (.int y), some (.int z), some (.int w), some (.int (nI F)), some (.ref r), some (.int (nI F))]) (st' := [.ref l2, .ref q]) rfl rfl rfl ?_
          have nl2 : q ≠ l2 := fun z9 => hl20 (z9 ▸ hq.1)
          have ml2 : l2 ≠ l0 ∧ l2 ≠ l1 ∧ l2 ≠ b1 ∧ l2 ≠ b2 := ⟨fun z9 => hl20 (z9 ▸ hl0.1), fun z9 => hl20 (z9 ▸ hl1.1), fun z9 => hl20 (z9 ▸ hb1.1), fun z9 => hl20 (z9 ▸ hb2.1)⟩
          refine V.putPF (v := some l2) (S := setP (setI (newO T43 l2 0) 0 l2 (nI 0)) 1 l2 (some (tc 100))) h hnm cls_10 (j := 8) rfl (List.mem_append_left _ hq.1) ((va_up_ne _ _ nl2).trans hq.2.1) wf_RX10_71 rfl rfl rfl rfl (by decide +kernel) ?_
          have hk8 := ol_rl (T := T43) (q := q) (c := 64 * 10 + 8) (z := some (tc 100)) hl20
          have hz8 := hk8.ob hq (fun _ => ⟨by simp, by simp⟩)
          refine V.gen (P := fun T => (ob T q 10 [(64 * 10 + 2, nI b), (64 * 10 + 1, nI uu), (64 * 10 + 0, nI su), (649, 0), (650, 0)] [(64 * 10 + 8, some l2), (64 * 10 + 7, some l1), (64 * 10 + 6, some wa), (64 * 10 + 5, some ba), (64 * 10 + 4, some ca), (64 * 10 + 3, some r)]) ∧ (ob T r 7 [(449, 0)] [(448, some l0)]) ∧ (ob T l0 0 [(2, nI 0)] [(1, some (tc 100))]) ∧ (ar T ca 24 4 4 (fun j => some (cl j))) ∧ (∀ k9, k9 < 4 → ob T (cl k9) 2 [(128, 0), (130, 0), (131, 0), (132, 0), (133, 0)] [(129, none)]) ∧ (ar T ba 25 F F (fun j => some (bk j))) ∧ (ar T wa 26 F F (fun j => some (wt j))) ∧ (∀ k9, k9 < F → ob T (bk k9) 1 [(64, nI k9), (65, 0), (66, 0)] []) ∧ (∀ k9, k9 < F → ob T (wt k9) 9 [(576, nI k9), (577, nI su), (578, nI uu), (580, 0), (581, 0)] [(579, some (pl k9))]) ∧ (∀ k9, k9 < F → ar T (pl k9) 27 (su * uu) (su * uu) (fun _ => none)) ∧ (ob T l1 0 [(2, nI 1)] [(1, some t9)]) ∧ (ob T m9 5 [(320, nI 0), (321, nI b), (327, bI true), (328, 0), (329, 0), (330, 0), (331, 0)] [(322, some r), (323, some b1), (324, some b2), (325, some v1), (326, some v2)]) ∧ (ob T b1 0 [(2, nI 0)] [(1, some (tc 100))]) ∧ (ob T b2 0 [(2, nI 0)] [(1, some (tc 100))]) ∧ (ia T v1 16 0) ∧ (ia T v2 F (oI 0)) ∧ (ar T t9 23 10 1 (fun _ => some m9)) ∧ (ob T l2 0 [(2, nI 0)] [(1, some (tc 100))])) ⟨⟨hz8.1, hz8.2.1, hz8.2.2.1, fun p hp => (List.mem_cons.mp hp).elim (fun e9 => by rw [e9]; exact up2_at) (fun e9 => hz8.2.2.2 p e9)⟩,
              hk8.ob hrow (fun _ => ⟨by simp, by simp⟩),
              hk8.ob hl0 (fun _ => ⟨by simp, by simp⟩),
              hk8.ar hca (fun _ z => by cases z),
              fun k9 hk9 => hk8.ob (hcl k9 hk9) (fun _ => ⟨by simp, by simp⟩),
              hk8.ar hba (fun _ z => by cases z),
              hk8.ar hwa (fun _ z => by cases z),
              fun k9 hk9 => hk8.ob (hbk k9 hk9) (fun _ => ⟨by simp, by simp⟩),
              fun k9 hk9 => hk8.ob (hwt k9 hk9) (fun _ => ⟨by simp, by simp⟩),
              fun k9 hk9 => hk8.ar (hpl k9 hk9) (fun _ z => by cases z),
              hk8.ob hl1 (fun _ => ⟨by simp, by simp⟩),
              hk8.ob hm (fun _ => ⟨by simp, by simp⟩),
              hk8.ob hb1 (fun _ => ⟨by simp, by simp⟩),
              hk8.ob hb2 (fun _ => ⟨by simp, by simp⟩),
              hk8.ia hv1,
              hk8.ia hv2,
              hk8.ar ht (fun _ z => by cases z),
              ol_new hl20 hq.1⟩ (fun T44 p9 => ?_)
          clear hq hrow hl0 hca hcl hba hwa hbk hwt hpl hl1 hm hb1 hb2 hv1 hv2 ht
          obtain ⟨hq, hrow, hl0, hca, hcl, hba, hwa, hbk, hwt, hpl, hl1, hm, hb1, hb2, hv1, hv2, ht, hl2⟩ := p9
          exact V.vret h hA hr (hp _ ⟨q, rfl, r, l0, l1, l2, ca, ba, wa, m9, b1, b2, v1, v2, t9, cl, bk, wt, pl, hq, hrow, hl0, hca, hcl, hba, hwa, hbk, hwt, hpl, hl1, hm, hb1, hb2, hv1, hv2, ht, hl2, nl01, ml2.1, ml2.2.1, ml2.2.2.1, ml2.2.2.2, nb1, nb2, nb10, nb20, nb12, nv12, cli, bki, wti, pli⟩) (by decide +kernel) (by omega) (by omega)
        | succ t ih =>
          intro i T bk wt pl ht hi hq hrow hl0 hca hcl hba hwa hbk hwt hpl bki wti pli
          have hlt : i < F := by omega
          refine V.blk h [(.iload 7, 2), (.iload 5, 2)] (by decide +kernel) (pc' := 121) (ls' := [some (.ref q), some (.int x), some (.int y), some (.int z), some (.int w), some (.int (nI F)), some (.ref r), some (.int (nI i))]) (st' := [.int (nI F), .int (nI i)]) rfl rfl (Nat.le_of_ble_eq_true rfl) ?_
          refine V.icmp_ge h (off := 49) (by decide +kernel) (tgt := 170) (by decide) (fun q9 => absurd ((nI_leI (by omega) (by omega)).mp q9) (by omega)) (fun _ => ?_)
          refine V.blk h [(.aload_n 0, 1)] (by decide +kernel) (pc' := 125) (ls' := [some (.ref q), some (.int x), some (.int y), some (.int z), some (.int w), some (.int (nI F)), some (.ref r), some (.int (nI i))]) (st' := [.ref q]) rfl rfl (Nat.le_of_ble_eq_true rfl) ?_
          refine V.getP h cls_10 (j := 5) rfl hq.1 hq.2.1 (Or.inl wf_RX10_39) (by decide +kernel) (v := some ba) (hq.2.2.2 (645, some ba) (by simp)) ?_
          refine V.eq (S' := T) (ls' := [some (.ref q), some (.int x), some (.int y), some (.int z), some (.int w), some (.int (nI F)), some (.ref r), some (.int (nI i))]) (st' := [.ref ba]) rfl rfl rfl ?_
          refine V.blk h [(.iload 7, 2)] (by decide +kernel) (pc' := 130) (ls' := [some (.ref q), some (.int x), some (.int y), some (.int z), some (.int w), some (.int (nI F)), some (.ref r), some (.int (nI i))]) (st' := [.int (nI i), .ref ba]) rfl rfl (Nat.le_of_ble_eq_true rfl) ?_
          refine V.new h cls_1 wl_RX10_37 wz_RX1 wn_RX1 (by show _ ≤ 26; omega) (by show _ ≤ 170; omega) (by decide +kernel) (fun xb hxb => ?_)
          refine V.blk h [(.dup, 1), (.iload 7, 2)] (by decide +kernel) (pc' := 136) (ls' := [some (.ref q), some (.int x), some (.int y), some (.int z), some (.int w), some (.int (nI F)), some (.ref r), some (.int (nI i))]) (st' := [.int (nI i), .ref xb, .ref xb, .int (nI i), .ref ba]) rfl rfl (Nat.le_of_ble_eq_true rfl) ?_
          have oxb : ob (newO T xb 1) xb 1 [(65, 0), (66, 0)] [] := ob_new (by simp) (by simp)
          refine V.callI h (np := 1) (st := [.ref xb, .int (nI i), .ref ba]) (c_init1 hls (S := newO T xb 1) (i := i) oxb.1 oxb.2.1 (post := fun v S9 => v = none ∧ setI (newO T xb 1) (64 * 1 + 0) xb (nI i) = S9) ⟨rfl, rfl⟩) wc_X1_init wn_RX1 (Or.inr ⟨_, wm_RX10_49⟩) wi_X1_init rfl (by decide +kernel) rfl (Nat.le_of_ble_eq_true rfl) (Nat.le_of_ble_eq_true rfl) (by show _ ≤ 26; omega) (by show _ ≤ 170; omega) (by simp [Value.category]) (by decide +kernel) rfl (fun v S9 q9 => ?_)
          obtain ⟨rfl, hS9⟩ := q9
          subst hS9
          have nbk : ∀ j, j < i → bk j ≠ xb := fun j hj z9 => hxb (z9 ▸ (hbk j hj).1)
          have hkb := ((hext.rfl (S := T)).newO (k := 1) hxb).setI (g := 64 * 1 + 0) (v := nI i) hxb
          have oxb2 : ob (setI (newO T xb 1) (64 * 1 + 0) xb (nI i)) xb 1 [(64, nI i), (65, 0), (66, 0)] [] := ob_setI oxb ⟨by simp, by simp⟩
          refine V.eq (S' := setI (newO T xb 1) (64 * 1 + 0) xb (nI i)) (ls' := [some (.ref q), some (.int x), some (.int y), some (.int z), some (.int w), some (.int (nI F)), some (.ref r), some (.int (nI i))]) (st' := [.ref xb, .int (nI i), .ref ba]) rfl rfl rfl ?_
          refine V.gen (P := fun T => (ob T q 10 [(64 * 10 + 2, nI b), (64 * 10 + 1, nI uu), (64 * 10 + 0, nI su), (649, 0), (650, 0)] [(64 * 10 + 6, some wa), (64 * 10 + 5, some ba), (64 * 10 + 4, some ca), (64 * 10 + 3, some r)]) ∧ (ob T r 7 [(449, 0)] [(448, some l0)]) ∧ (ob T l0 0 [(2, nI 0)] [(1, some (tc 100))]) ∧ (ar T ca 24 4 4 (fun j => some (cl j))) ∧ (∀ k9, k9 < 4 → ob T (cl k9) 2 [(128, 0), (130, 0), (131, 0), (132, 0), (133, 0)] [(129, none)]) ∧ (ar T ba 25 F i (fun j => some (bk j))) ∧ (ar T wa 26 F i (fun j => some (wt j))) ∧ (∀ k9, k9 < i → ob T (bk k9) 1 [(64, nI k9), (65, 0), (66, 0)] []) ∧ (∀ k9, k9 < i → ob T (wt k9) 9 [(576, nI k9), (577, nI su), (578, nI uu), (580, 0), (581, 0)] [(579, some (pl k9))]) ∧ (∀ k9, k9 < i → ar T (pl k9) 27 (su * uu) (su * uu) (fun _ => none)) ∧ (ob T xb 1 [(64, nI i), (65, 0), (66, 0)] [])) ⟨hkb.rl.ob hq (fun _ => ⟨by simp, by simp⟩),
              hkb.rl.ob hrow (fun _ => ⟨by simp, by simp⟩),
              hkb.rl.ob hl0 (fun _ => ⟨by simp, by simp⟩),
              hkb.rl.ar hca (fun _ z => by cases z),
              fun k9 hk9 => hkb.rl.ob (hcl k9 hk9) (fun _ => ⟨by simp, by simp⟩),
              hkb.rl.ar hba (fun _ z => by cases z),
              hkb.rl.ar hwa (fun _ z => by cases z),
              fun k9 hk9 => hkb.rl.ob (hbk k9 hk9) (fun _ => ⟨by simp, by simp⟩),
              fun k9 hk9 => hkb.rl.ob (hwt k9 hk9) (fun _ => ⟨by simp, by simp⟩),
              fun k9 hk9 => hkb.rl.ar (hpl k9 hk9) (fun _ z => by cases z),
              oxb2⟩ (fun T61 p9 => ?_)
          clear hq hrow hl0 hca hcl hba hwa hbk hwt hpl
          obtain ⟨hq, hrow, hl0, hca, hcl, hba, hwa, hbk, hwt, hpl, oxb3⟩ := p9
          refine V.aast h 25 hba.1 hba.2.1 (by decide) (E := "OneTrip$Backup") rfl (M := F) (i := i) hba.2.2.1 hlt (by omega) cls_1 oxb3.1 oxb3.2.1 (Or.inl rfl) (by decide +kernel) ?_
          have hka := ra_rl (T := T61) (a := ba) (i := i) (w := some xb)
          refine V.gen (P := fun T => (ob T q 10 [(64 * 10 + 2, nI b), (64 * 10 + 1, nI uu), (64 * 10 + 0, nI su), (649, 0), (650, 0)] [(64 * 10 + 6, some wa), (64 * 10 + 5, some ba), (64 * 10 + 4, some ca), (64 * 10 + 3, some r)]) ∧ (ob T r 7 [(449, 0)] [(448, some l0)]) ∧ (ob T l0 0 [(2, nI 0)] [(1, some (tc 100))]) ∧ (ar T ca 24 4 4 (fun j => some (cl j))) ∧ (∀ k9, k9 < 4 → ob T (cl k9) 2 [(128, 0), (130, 0), (131, 0), (132, 0), (133, 0)] [(129, none)]) ∧ (ar T ba 25 F (i + 1) (fun j => some (va_up bk i xb j))) ∧ (ar T wa 26 F i (fun j => some (wt j))) ∧ (∀ k9, k9 < i → ob T (bk k9) 1 [(64, nI k9), (65, 0), (66, 0)] []) ∧ (∀ k9, k9 < i → ob T (wt k9) 9 [(576, nI k9), (577, nI su), (578, nI uu), (580, 0), (581, 0)] [(579, some (pl k9))]) ∧ (∀ k9, k9 < i → ar T (pl k9) 27 (su * uu) (su * uu) (fun _ => none)) ∧ (ob T xb 1 [(64, nI i), (65, 0), (66, 0)] [])) ⟨hka.ob hq (fun _ => ⟨by simp, by simp⟩),
              hka.ob hrow (fun _ => ⟨by simp, by simp⟩),
              hka.ob hl0 (fun _ => ⟨by simp, by simp⟩),
              hka.ar hca (fun y9 z9 => by cases z9; rw [hba.2.1]; decide),
              fun k9 hk9 => hka.ob (hcl k9 hk9) (fun _ => ⟨by simp, by simp⟩),
              ra_new hba,
              hka.ar hwa (fun y9 z9 => by cases z9; rw [hba.2.1]; decide),
              fun k9 hk9 => hka.ob (hbk k9 hk9) (fun _ => ⟨by simp, by simp⟩),
              fun k9 hk9 => hka.ob (hwt k9 hk9) (fun _ => ⟨by simp, by simp⟩),
              fun k9 hk9 => hka.ar (hpl k9 hk9) (fun y9 z9 => by cases z9; rw [hba.2.1]; decide),
              hka.ob oxb3 (fun _ => ⟨by simp, by simp⟩)⟩ (fun T62 p9 => ?_)
          clear hq hrow hl0 hca hcl hba hwa hbk hwt hpl oxb3
          obtain ⟨hq, hrow, hl0, hca, hcl, hba, hwa, hbk, hwt, hpl, oxb3⟩ := p9
          refine V.blk h [(.aload_n 0, 1)] (by decide +kernel) (pc' := 141) (ls' := [some (.ref q), some (.int x), some (.int y), some (.int z), some (.int w), some (.int (nI F)), some (.ref r), some (.int (nI i))]) (st' := [.ref q]) rfl rfl (Nat.le_of_ble_eq_true rfl) ?_
          refine V.getP h cls_10 (j := 6) rfl hq.1 hq.2.1 (Or.inl wf_RX10_45) (by decide +kernel) (v := some wa) (hq.2.2.2 (646, some wa) (by simp)) ?_
          refine V.eq (S' := T62) (ls' := [some (.ref q), some (.int x), some (.int y), some (.int z), some (.int w), some (.int (nI F)), some (.ref r), some (.int (nI i))]) (st' := [.ref wa]) rfl rfl rfl ?_
          refine V.blk h [(.iload 7, 2)] (by decide +kernel) (pc' := 146) (ls' := [some (.ref q), some (.int x), some (.int y), some (.int z), some (.int w), some (.int (nI F)), some (.ref r), some (.int (nI i))]) (st' := [.int (nI i), .ref wa]) rfl rfl (Nat.le_of_ble_eq_true rfl) ?_
          refine V.new h cls_9 wl_RX10_43 wz_RX9 wn_RX9 (by show _ ≤ 26; omega) (by show _ ≤ 170; omega) (by decide +kernel) (fun xw hxw => ?_)
          have hqx : ob (newO T62 xw 9) q 10 [(64 * 10 + 2, nI b), (64 * 10 + 1, nI uu), (64 * 10 + 0, nI su), (649, 0), (650, 0)] [(64 * 10 + 6, some wa), (64 * 10 + 5, some ba), (64 * 10 + 4, some ca), (64 * 10 + 3, some r)] := ((hext.rfl (S := T62)).newO hxw).rl.ob hq (fun _ => ⟨by simp, by simp⟩)
          refine V.blk h [(.dup, 1), (.iload 7, 2), (.aload_n 0, 1)] (by decide +kernel) (pc' := 153) (ls' := [some (.ref q), some (.int x), some (.int y), some (.int z), some (.int w), some (.int (nI F)), some (.ref r), some (.int (nI i))]) (st' := [.ref q, .int (nI i), .ref xw, .ref xw, .int (nI i), .ref wa]) rfl rfl (Nat.le_of_ble_eq_true rfl) ?_
          refine V.getI h cls_10 (j := 0) rfl hqx.1 hqx.2.1 (Or.inl wf_RX10_13) (by decide +kernel) (v := nI su) (hqx.2.2.1 (640, nI su) (by simp)) ?_
          refine V.blk h [(.aload_n 0, 1)] (by decide +kernel) (pc' := 157) (ls' := [some (.ref q), some (.int x), some (.int y), some (.int z), some (.int w), some (.int (nI F)), some (.ref r), some (.int (nI i))]) (st' := [.ref q, .int (nI su), .int (nI i), .ref xw, .ref xw, .int (nI i), .ref wa]) rfl rfl (Nat.le_of_ble_eq_true rfl) ?_
          refine V.getI h cls_10 (j := 1) rfl hqx.1 hqx.2.1 (Or.inl wf_RX10_17) (by decide +kernel) (v := nI uu) (hqx.2.2.1 (641, nI uu) (by simp)) ?_
          refine V.callI h (np := 3) (st := [.ref xw, .int (nI i), .ref wa]) (c_init9 hls (T := T62) (q := xw) (i := i) (x := su) (y := uu) hxw hs4 hu4 (post := fun v S9 => v = none ∧ ∃ p9, hext T62 S9 ∧ p9 ∉ zL T62 ∧ ob S9 xw 9 [(576, nI i), (577, nI su), (578, nI uu), (580, 0), (581, 0)] [(579, some p9)] ∧ ar S9 p9 27 (su * uu) (su * uu) (fun _ => none)) (fun S9 p9 a1 a2 a3 a4 => ⟨rfl, p9, a1, a2, a3, a4⟩)) wc_X9_init wn_RX9 (Or.inr ⟨_, wm_RX10_52⟩) wi_X9_init rfl (by decide +kernel) rfl (Nat.le_of_ble_eq_true rfl) (Nat.le_of_ble_eq_true rfl) (by show _ ≤ 26; omega) (by show _ ≤ 170; omega) (by simp [Value.category]) (by decide +kernel) rfl (fun v S9 q9 => ?_)
          obtain ⟨rfl, xp, a1, a2, a3w, a4⟩ := q9
          refine V.eq (S' := S9) (ls' := [some (.ref q), some (.int x), some (.int y), some (.int z), some (.int w), some (.int (nI F)), some (.ref r), some (.int (nI i))]) (st' := [.ref xw, .int (nI i), .ref wa]) rfl rfl rfl ?_
          have nwt : ∀ j, j < i → wt j ≠ xw := fun j hj z9 => hxw (z9 ▸ (hwt j hj).1)
          have npl : ∀ j, j < i → pl j ≠ xp := fun j hj z9 => a2 (z9 ▸ (hpl j hj).1)
          refine V.gen (P := fun T => (ob T q 10 [(64 * 10 + 2, nI b), (64 * 10 + 1, nI uu), (64 * 10 + 0, nI su), (649, 0), (650, 0)] [(64 * 10 + 6, some wa), (64 * 10 + 5, some ba), (64 * 10 + 4, some ca), (64 * 10 + 3, some r)]) ∧ (ob T r 7 [(449, 0)] [(448, some l0)]) ∧ (ob T l0 0 [(2, nI 0)] [(1, some (tc 100))]) ∧ (ar T ca 24 4 4 (fun j => some (cl j))) ∧ (∀ k9, k9 < 4 → ob T (cl k9) 2 [(128, 0), (130, 0), (131, 0), (132, 0), (133, 0)] [(129, none)]) ∧ (ar T ba 25 F (i + 1) (fun j => some (va_up bk i xb j))) ∧ (ar T wa 26 F i (fun j => some (wt j))) ∧ (∀ k9, k9 < i → ob T (bk k9) 1 [(64, nI k9), (65, 0), (66, 0)] []) ∧ (∀ k9, k9 < i → ob T (wt k9) 9 [(576, nI k9), (577, nI su), (578, nI uu), (580, 0), (581, 0)] [(579, some (pl k9))]) ∧ (∀ k9, k9 < i → ar T (pl k9) 27 (su * uu) (su * uu) (fun _ => none)) ∧ (ob T xb 1 [(64, nI i), (65, 0), (66, 0)] []) ∧ (ob T xw 9 [(576, nI i), (577, nI su), (578, nI uu), (580, 0), (581, 0)] [(579, some xp)]) ∧ (ar T xp 27 (su * uu) (su * uu) (fun _ => none))) ⟨a1.rl.ob hq (fun _ => ⟨by simp, by simp⟩),
              a1.rl.ob hrow (fun _ => ⟨by simp, by simp⟩),
              a1.rl.ob hl0 (fun _ => ⟨by simp, by simp⟩),
              a1.rl.ar hca (fun _ z => by cases z),
              fun k9 hk9 => a1.rl.ob (hcl k9 hk9) (fun _ => ⟨by simp, by simp⟩),
              a1.rl.ar hba (fun _ z => by cases z),
              a1.rl.ar hwa (fun _ z => by cases z),
              fun k9 hk9 => a1.rl.ob (hbk k9 hk9) (fun _ => ⟨by simp, by simp⟩),
              fun k9 hk9 => a1.rl.ob (hwt k9 hk9) (fun _ => ⟨by simp, by simp⟩),
              fun k9 hk9 => a1.rl.ar (hpl k9 hk9) (fun _ z => by cases z),
              a1.rl.ob oxb3 (fun _ => ⟨by simp, by simp⟩),
              a3w,
              a4⟩ (fun T63 p9 => ?_)
          clear hq hrow hl0 hca hcl hba hwa hbk hwt hpl oxb3
          obtain ⟨hq, hrow, hl0, hca, hcl, hba, hwa, hbk, hwt, hpl, oxb3, oxw, oxp⟩ := p9
          refine V.aast h 26 hwa.1 hwa.2.1 (by decide) (E := "OneTrip$Witness") rfl (M := F) (i := i) hwa.2.2.1 hlt (by omega) cls_9 oxw.1 oxw.2.1 (Or.inl rfl) (by decide +kernel) ?_
          have hkw := ra_rl (T := T63) (a := wa) (i := i) (w := some xw)
          refine V.gen (P := fun T => (ob T q 10 [(64 * 10 + 2, nI b), (64 * 10 + 1, nI uu), (64 * 10 + 0, nI su), (649, 0), (650, 0)] [(64 * 10 + 6, some wa), (64 * 10 + 5, some ba), (64 * 10 + 4, some ca), (64 * 10 + 3, some r)]) ∧ (ob T r 7 [(449, 0)] [(448, some l0)]) ∧ (ob T l0 0 [(2, nI 0)] [(1, some (tc 100))]) ∧ (ar T ca 24 4 4 (fun j => some (cl j))) ∧ (∀ k9, k9 < 4 → ob T (cl k9) 2 [(128, 0), (130, 0), (131, 0), (132, 0), (133, 0)] [(129, none)]) ∧ (ar T ba 25 F (i + 1) (fun j => some (va_up bk i xb j))) ∧ (ar T wa 26 F (i + 1) (fun j => some (va_up wt i xw j))) ∧ (∀ k9, k9 < i → ob T (bk k9) 1 [(64, nI k9), (65, 0), (66, 0)] []) ∧ (∀ k9, k9 < i → ob T (wt k9) 9 [(576, nI k9), (577, nI su), (578, nI uu), (580, 0), (581, 0)] [(579, some (pl k9))]) ∧ (∀ k9, k9 < i → ar T (pl k9) 27 (su * uu) (su * uu) (fun _ => none)) ∧ (ob T xb 1 [(64, nI i), (65, 0), (66, 0)] []) ∧ (ob T xw 9 [(576, nI i), (577, nI su), (578, nI uu), (580, 0), (581, 0)] [(579, some xp)]) ∧ (ar T xp 27 (su * uu) (su * uu) (fun _ => none))) ⟨hkw.ob hq (fun _ => ⟨by simp, by simp⟩),
              hkw.ob hrow (fun _ => ⟨by simp, by simp⟩),
              hkw.ob hl0 (fun _ => ⟨by simp, by simp⟩),
              hkw.ar hca (fun y9 z9 => by cases z9; rw [hwa.2.1]; decide),
              fun k9 hk9 => hkw.ob (hcl k9 hk9) (fun _ => ⟨by simp, by simp⟩),
              hkw.ar hba (fun y9 z9 => by cases z9; rw [hwa.2.1]; decide),
              ra_new hwa,
              fun k9 hk9 => hkw.ob (hbk k9 hk9) (fun _ => ⟨by simp, by simp⟩),
              fun k9 hk9 => hkw.ob (hwt k9 hk9) (fun _ => ⟨by simp, by simp⟩),
              fun k9 hk9 => hkw.ar (hpl k9 hk9) (fun y9 z9 => by cases z9; rw [hwa.2.1]; decide),
              hkw.ob oxb3 (fun _ => ⟨by simp, by simp⟩),
              hkw.ob oxw (fun _ => ⟨by simp, by simp⟩),
              hkw.ar oxp (fun y9 z9 => by cases z9; rw [hwa.2.1]; decide)⟩ (fun T64 p9 => ?_)
          clear hq hrow hl0 hca hcl hba hwa hbk hwt hpl oxb3 oxw oxp
          obtain ⟨hq, hrow, hl0, hca, hcl, hba, hwa, hbk, hwt, hpl, oxb3, oxw, oxp⟩ := p9
          refine V.incN h (x := i) (i := 7) (by decide +kernel) rfl (Nat.le_of_ble_eq_true rfl) ?_
          refine V.eqL (ls' := [some (.ref q), some (.int x), some (.int y), some (.int z), some (.int w), some (.int (nI F)), some (.ref r), some (.int (nI (i + 1)))]) rfl ?_
          refine V.goto h (off := -50) (tgt := 117) (by decide +kernel) (by decide) ?_
          refine V.widen (k' := 9 + 3 * (i + 1)) (n' := 39 + 25 * (i + 1)) (by omega) (by omega) ?_
          exact ih (i + 1) T64 (va_up bk i xb) (va_up wt i xw) (va_up pl i xp) (by omega) (by omega) hq hrow hl0 hca hcl hba hwa
            (fun k9 hk9 => by
              by_cases y9 : k9 = i
              · subst y9; rw [va_up_self]; exact oxb3
              · rw [va_up_ne _ _ y9]; exact hbk k9 (by omega))
            (fun k9 hk9 => by
              by_cases y9 : k9 = i
              · subst y9; rw [va_up_self, va_up_self]; exact oxw
              · rw [va_up_ne _ _ y9, va_up_ne _ _ y9]; exact hwt k9 (by omega))
            (fun k9 hk9 => by
              by_cases y9 : k9 = i
              · subst y9; rw [va_up_self]; exact oxp
              · rw [va_up_ne _ _ y9]; exact hpl k9 (by omega))
            (inj_up bki nbk) (inj_up wti nwt) (inj_up pli npl)
      refine V.widen (k' := 9 + 3 * 0) (n' := 39 + 25 * 0) (by omega) (by omega) ?_
      exact loop2 F 0 _ bk wt (fun _ => 0) rfl (Nat.zero_le _) hq hrow hl0 hca hcl hba hwa (fun _ z9 => absurd z9 (Nat.not_lt_zero _)) (fun _ z9 => absurd z9 (Nat.not_lt_zero _)) (fun _ z9 => absurd z9 (Nat.not_lt_zero _)) (fun _ _ z9 => absurd z9 (Nat.not_lt_zero _)) (fun _ _ z9 => absurd z9 (Nat.not_lt_zero _)) (fun _ _ z9 => absurd z9 (Nat.not_lt_zero _))
    | succ t ih =>
      intro i T cl ht hi hq hrow hl0 hca hcl cli
      have hlt : i < 4 := by omega
      refine V.blk h [(.iload 7, 2), (.aload_n 0, 1)] (by decide +kernel) (pc' := 69) (ls' := [some (.ref q), some (.int x), some (.int y), some (.int z), some (.int w), some (.int (nI F)), some (.ref r), some (.int (nI i))]) (st' := [.ref q, .int (nI i)]) rfl rfl (Nat.le_of_ble_eq_true rfl) ?_
      refine V.getP h cls_10 (j := 4) rfl hq.1 hq.2.1 (Or.inl wf_RX10_32) (by decide +kernel) (v := some ca) (hq.2.2.2 (644, some ca) (by simp)) ?_
      refine V.eq (S' := T) (ls' := [some (.ref q), some (.int x), some (.int y), some (.int z), some (.int w), some (.int (nI F)), some (.ref r), some (.int (nI i))]) (st' := [.ref ca, .int (nI i)]) rfl rfl rfl ?_
      refine V.alen h 24 hca.1 hca.2.1 (by decide) (M := 4) hca.2.2.1 (by decide +kernel) ?_
      refine V.icmp_ge h (off := 23) (by decide +kernel) (tgt := 96) (by decide) (fun q9 => absurd ((nI_leI (by decide) (by omega)).mp q9) (by omega)) (fun _ => ?_)
      refine V.blk h [(.aload_n 0, 1)] (by decide +kernel) (pc' := 77) (ls' := [some (.ref q), some (.int x), some (.int y), some (.int z), some (.int w), some (.int (nI F)), some (.ref r), some (.int (nI i))]) (st' := [.ref q]) rfl rfl (Nat.le_of_ble_eq_true rfl) ?_
      refine V.getP h cls_10 (j := 4) rfl hq.1 hq.2.1 (Or.inl wf_RX10_32) (by decide +kernel) (v := some ca) (hq.2.2.2 (644, some ca) (by simp)) ?_
      refine V.eq (S' := T) (ls' := [some (.ref q), some (.int x), some (.int y), some (.int z), some (.int w), some (.int (nI F)), some (.ref r), some (.int (nI i))]) (st' := [.ref ca]) rfl rfl rfl ?_
      refine V.blk h [(.iload 7, 2)] (by decide +kernel) (pc' := 82) (ls' := [some (.ref q), some (.int x), some (.int y), some (.int z), some (.int w), some (.int (nI F)), some (.ref r), some (.int (nI i))]) (st' := [.int (nI i), .ref ca]) rfl rfl (Nat.le_of_ble_eq_true rfl) ?_
      refine V.new h cls_2 wl_RX10_30 wz_RX2 wn_RX2 (by show _ ≤ 26; omega) (by show _ ≤ 170; omega) (by decide +kernel) (fun xc hxc => ?_)
      refine V.blk h [(.dup, 1)] (by decide +kernel) (pc' := 86) (ls' := [some (.ref q), some (.int x), some (.int y), some (.int z), some (.int w), some (.int (nI F)), some (.ref r), some (.int (nI i))]) (st' := [.ref xc, .ref xc, .int (nI i), .ref ca]) rfl rfl (Nat.le_of_ble_eq_true rfl) ?_
      have oxc : ob (newO T xc 2) xc 2 [(128, 0), (130, 0), (131, 0), (132, 0), (133, 0)] [(129, none)] := ob_new (by simp) (by simp)
      refine V.callI h (np := 0) (st := [.ref xc, .int (nI i), .ref ca]) (c_init2 hls (S := newO T xc 2) oxc.1 oxc.2.1 (post := fun v S9 => v = none ∧ newO T xc 2 = S9) ⟨rfl, rfl⟩) wc_X2_init wn_RX2 (Or.inr ⟨_, wm_RX10_36⟩) wi_X2_init rfl (by decide +kernel) rfl (Nat.le_of_ble_eq_true rfl) (Nat.le_of_ble_eq_true rfl) (by show _ ≤ 26; omega) (by show _ ≤ 170; omega) (by simp [Value.category]) (by decide +kernel) rfl (fun v S9 q9 => ?_)
      obtain ⟨rfl, hS9⟩ := q9
      subst hS9
      refine V.eq (S' := newO T xc 2) (ls' := [some (.ref q), some (.int x), some (.int y), some (.int z), some (.int w), some (.int (nI F)), some (.ref r), some (.int (nI i))]) (st' := [.ref xc, .int (nI i), .ref ca]) rfl rfl rfl ?_
      have hkc := (hext.rfl (S := T)).newO (k := 2) hxc
      have ncl : ∀ j, j < i → cl j ≠ xc := fun j hj z9 => hxc (z9 ▸ (hcl j hj).1)
      refine V.gen (P := fun T => (ob T q 10 [(64 * 10 + 2, nI b), (64 * 10 + 1, nI uu), (64 * 10 + 0, nI su), (649, 0), (650, 0)] [(64 * 10 + 4, some ca), (64 * 10 + 3, some r)]) ∧ (ob T r 7 [(449, 0)] [(448, some l0)]) ∧ (ob T l0 0 [(2, nI 0)] [(1, some (tc 100))]) ∧ (ar T ca 24 4 i (fun j => some (cl j))) ∧ (∀ k9, k9 < i → ob T (cl k9) 2 [(128, 0), (130, 0), (131, 0), (132, 0), (133, 0)] [(129, none)]) ∧ (ob T xc 2 [(128, 0), (130, 0), (131, 0), (132, 0), (133, 0)] [(129, none)])) ⟨hkc.rl.ob hq (fun _ => ⟨by simp, by simp⟩),
          hkc.rl.ob hrow (fun _ => ⟨by simp, by simp⟩),
          hkc.rl.ob hl0 (fun _ => ⟨by simp, by simp⟩),
          hkc.rl.ar hca (fun _ z => by cases z),
          fun k9 hk9 => hkc.rl.ob (hcl k9 hk9) (fun _ => ⟨by simp, by simp⟩),
          oxc⟩ (fun T81 p9 => ?_)
      clear hq hrow hl0 hca hcl
      obtain ⟨hq, hrow, hl0, hca, hcl, oxc3⟩ := p9
      refine V.aast h 24 hca.1 hca.2.1 (by decide) (E := "OneTrip$Client") rfl (M := 4) (i := i) hca.2.2.1 hlt (by decide) cls_2 oxc3.1 oxc3.2.1 (Or.inl rfl) (by decide +kernel) ?_
      have hka := ra_rl (T := T81) (a := ca) (i := i) (w := some xc)
      refine V.gen (P := fun T => (ob T q 10 [(64 * 10 + 2, nI b), (64 * 10 + 1, nI uu), (64 * 10 + 0, nI su), (649, 0), (650, 0)] [(64 * 10 + 4, some ca), (64 * 10 + 3, some r)]) ∧ (ob T r 7 [(449, 0)] [(448, some l0)]) ∧ (ob T l0 0 [(2, nI 0)] [(1, some (tc 100))]) ∧ (ar T ca 24 4 (i + 1) (fun j => some (va_up cl i xc j))) ∧ (∀ k9, k9 < i → ob T (cl k9) 2 [(128, 0), (130, 0), (131, 0), (132, 0), (133, 0)] [(129, none)]) ∧ (ob T xc 2 [(128, 0), (130, 0), (131, 0), (132, 0), (133, 0)] [(129, none)])) ⟨hka.ob hq (fun _ => ⟨by simp, by simp⟩),
          hka.ob hrow (fun _ => ⟨by simp, by simp⟩),
          hka.ob hl0 (fun _ => ⟨by simp, by simp⟩),
          ra_new hca,
          fun k9 hk9 => hka.ob (hcl k9 hk9) (fun _ => ⟨by simp, by simp⟩),
          hka.ob oxc3 (fun _ => ⟨by simp, by simp⟩)⟩ (fun T82 p9 => ?_)
      clear hq hrow hl0 hca hcl oxc3
      obtain ⟨hq, hrow, hl0, hca, hcl, oxc3⟩ := p9
      refine V.incN h (x := i) (i := 7) (by decide +kernel) rfl (Nat.le_of_ble_eq_true rfl) ?_
      refine V.eqL (ls' := [some (.ref q), some (.int x), some (.int y), some (.int z), some (.int w), some (.int (nI F)), some (.ref r), some (.int (nI (i + 1)))]) rfl ?_
      refine V.goto h (off := -27) (tgt := 66) (by decide +kernel) (by decide) ?_
      refine V.widen (k' := 3 + (i + 1)) (n' := 9 + 6 * (i + 1)) (by omega) (by omega) ?_
      exact ih (i + 1) T82 (va_up cl i xc) (by omega) (by omega) hq hrow hl0 hca
        (fun k9 hk9 => by
          by_cases y9 : k9 = i
          · subst y9; rw [va_up_self]; exact oxc3
          · rw [va_up_ne _ _ y9]; exact hcl k9 (by omega))
        (inj_up cli ncl)
  refine V.widen (k' := 3 + 0) (n' := 9 + 6 * 0) (by omega) (by omega) ?_
  exact loop1 4 0 _ cl rfl (Nat.zero_le _) hq hrow hl0 hca (fun _ z9 => absurd z9 (Nat.not_lt_zero _)) (fun _ _ z9 => absurd z9 (Nat.not_lt_zero _))
