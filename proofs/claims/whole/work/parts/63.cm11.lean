/-! ===== a master answers what it owes ===== -/
theorem nxM_le {A : TS} {M : Nat} (h : tf A 53 ≤ 250) : M ≤ nxM A M ∧ (nxM A M = M ∨ nxM A M ≤ 373) := by
  unfold nxM
  split
  · exact ⟨Nat.le_refl _, Or.inl rfl⟩
  · split
    · have := gcap_4 (M := M) (by omega)
      exact ⟨this.2.1, Or.inr this.1⟩
    · exact ⟨Nat.le_refl _, Or.inl rfl⟩
theorem RA.gx {tc : Nat → ClassId} {ax ay : Nat → Nat → Nat} {A : TS} {S : HS} (h : RA tc (mx ax ay) A S) : tf A 53 ≠ 250 → tf A 53 = ay 50 0 → gcap (ay 50 0) ≤ 4 * (nxM A (ay 50 0) - ay 50 0) := fun z1 z2 => by
  have := h.2.2.2.1.2.2.2.2
  unfold nxM
  rw [if_neg z1, if_pos z2]
  exact (gcap_4 (by omega)).2.2
set_option maxRecDepth 100000 in
set_option maxHeartbeats 4000000 in
theorem c_answerAwaited {l : Launch} {D : va_G} {tc : Nat → ClassId} {ax ay : Nat → Nat → Nat} {A : TS} {S : HS} (hls : l.stackTraces = false) (hS : RA tc (mx ax ay) A S) {e : Nat} {was : Nat} {K : Nat}  (he : e < tf A 38) (hws : was ≤ tn A 28 e) (hsy : tn A 28 e ≤ tn A 26 e) (h13 : tn A 26 e ≤ tf A 13) (hB : NB K A) (hK : K < 1900000000) {post : Option Value → HS → Prop} (hp : ∀ (S8 : HS) (ay8 : Nat → Nat → Nat), RA tc (mx ax ay8) (aaL A e was (tn A 28 e - was)) S8 → post none S8) : CM l D tc yX5_answerAwaited cX5_answerAwaited 4 (none) 9 (2 * tf A 13) (7 * tf A 13 + 1492) [.ref (ax 5 e), .int (nI (was))] S post := by
  refine CM.of hls (by decide +kernel) (by simp [Value.category]) (Nat.le_of_ble_eq_true rfl) (fun A0 p e9 s m args below meth c sz h hr hnm hA => ?_)
  have hh13 := hS.2.2.2.1.2.2.2.1
  have h53 := hS.2.2.2.1.2.2.2.2
  have hb26 := hB.2 26 e
  refine V.eqL (ls' := [some (.ref (ax 5 e)), some (.int (nI (was))), none, none]) rfl ?_
  refine V.blk h [(.iconst 0, 1), (.iload_n 1, 1)] (by decide +kernel) (pc' := 2) (ls' := [some (.ref (ax 5 e)), some (.int (nI (was))), none, none]) (st' := [.int (nI (was)), .int (nI (0))]) rfl rfl (Nat.le_of_ble_eq_true rfl) ?_
  refine V.mmax h wm_RX5_36 (v := nI was) (mx_0n (by omega)) (by decide +kernel) (Nat.le_of_ble_eq_true rfl) (Nat.le_of_ble_eq_true rfl) (by show 0 ≤ 2 * tf A 13; omega) (by show 0 ≤ 7 * tf A 13 + 1492; omega) ?_
  refine V.blk h [(.istore_n 2, 1)] (by decide +kernel) (pc' := 6) (ls' := [some (.ref (ax 5 e)), some (.int (nI (was))), some (.int (nI (was))), none]) (st' := []) rfl rfl (Nat.le_of_ble_eq_true rfl) ?_
  have loop6 : ∀ (t k : Nat) (S9 : HS) (ay9 : Nat → Nat → Nat), RA tc (mx ax ay9) (aaL A e was k) S9 → (tn A 28 e - was) - k = t → k ≤ (tn A 28 e - was) → (ay 50 0 ≤ ay9 50 0 ∧ (ay9 50 0 ≤ 373 ∨ ay9 50 0 = ay 50 0)) → V l D tc A0 p e9 (rmd 9 (2 * tf A 13) (7 * tf A 13 + 1492)) s m args below meth c 4 (MQ below (zQ D tc post S sz) args s (2 * tf A 13) (7 * tf A 13 + 1492) (zAd S sz)) S9 (2 * k) (7 * k + 4 * (ay9 50 0 - ay 50 0)) 6 [some (.ref (ax 5 e)), some (.int (nI (was))), some (.int (nI (was + k))), none] [] := by
    intro t; induction t using Nat.strongRecOn with
    | _ t ih6 =>
      intro k S9 ay9 hS9 ht6 hk6 inv6
      have hw53 := hS9.2.2.2.1.2.2.2.2
      have hnx := nxM_le (M := ay9 50 0) hw53
      obtain ⟨G, hG⟩ : ∃ X9 : TS, X9 = (aaL A e was k) := ⟨_, rfl⟩
      rw [← hG] at hS9
      have kg : keepL A G := by rw [hG]; exact (aaL_keep (A := A) (e := e) (s := was) h53 k).1
      have heG : e < tf G 38 := by rw [kg.1 38 (by decide) (by decide)]; exact he
      have g28 : tn G 28 e = tn A 28 e := kg.2.1 28 e (by decide)
      have g26 : tn G 26 e = tn A 26 e := kg.2.1 26 e (by decide)
      rw [← hG] at hnx
      refine V.blk h [(.iload_n 2, 1), (.aload_n 0, 1)] (by decide +kernel) (pc' := 8) (ls' := [some (.ref (ax 5 e)), some (.int (nI (was))), some (.int (nI (was + k))), none]) (st' := [.ref (ax 5 e), .int (nI (was + k))]) rfl rfl (Nat.le_of_ble_eq_true rfl) ?_
      refine V.getI h cls_5 (j := 10) rfl (hS9.mem (show lv G 5 e from heG)) (hS9.knd (show lv G 5 e from heG)) (Or.inl wf_RX5_122) (by decide +kernel) (v := nI (tn G 28 e)) (hS9.int (show lv G 5 e from heG) (by decide) (by decide) rfl) ?_
      refine V.icmp_ge h (off := 52) (by decide +kernel) (tgt := 63) (by decide) (fun q => ?_) (fun q => ?_)
      · have q11_22 := ((nI_leI (by omega) (by omega)).mp q)
        clear q
        exact V.vret h hA hr (hp _ _ (by rw [show tn A 28 e - was = k from by omega, ← hG]; exact hS9)) (by decide +kernel) (by omega) (by omega)
      · have q11_22 : ¬ _ := (fun z => q ((nI_leI (by omega) (by omega)).mpr z))
        clear q
        refine V.blk h [(.iload_n 2, 1), (.aload_n 0, 1)] (by decide +kernel) (pc' := 16) (ls' := [some (.ref (ax 5 e)), some (.int (nI (was))), some (.int (nI (was + k))), none]) (st' := [.ref (ax 5 e), .int (nI (was + k))]) rfl rfl (Nat.le_of_ble_eq_true rfl) ?_
        refine V.getP h cls_5 (j := 3) rfl (hS9.mem (show lv G 5 e from heG)) (hS9.knd (show lv G 5 e from heG)) (Or.inl wf_RX5_25) (by decide +kernel) (v := some (ax 0 (3 + e))) (hS9.ptr (show lv G 5 e from heG) (by decide) (by decide) rfl) ?_
        refine V.eq (S' := S9) (ls' := [some (.ref (ax 5 e)), some (.int (nI (was))), some (.int (nI (was + k))), none]) (st' := [.ref (ax 0 (3 + e)), .int (nI (was + k))]) rfl rfl rfl ?_
        refine V.callV h (np := 0) (st := [.int (nI (was + k))]) (s_log hls hS9 heG (post := fun v S7 => v = some (.int (nI (tn G 26 e))) ∧ S9 = S7) ⟨rfl, rfl⟩) wc_Jx4a65c_size_8abf5 wn_RJx4a65c (Or.inl wm_RX5_58) wi_Jx4a65c_size_8abf5 we_Jx4a65c_size_8abf5 (by decide +kernel) rfl cls_0 (hS9.mem (show lv G 0 (3 + e) from (lv_log heG hS9.2.2.2.1.2.1))) (hS9.knd (show lv G 0 (3 + e) from (lv_log heG hS9.2.2.2.1.2.1))) (Nat.le_of_ble_eq_true rfl) (Nat.le_of_ble_eq_true rfl) (by show (2 * k) + 0 ≤ 2 * tf A 13; omega) (by show (7 * k + 4 * (ay9 50 0 - ay 50 0)) + 0 ≤ 7 * tf A 13 + 1492; omega) (by simp [Value.category]) (by decide +kernel) rfl (fun v Z1 q9 => ?_)
        obtain ⟨rfl, hS9⟩ := q9
        subst hS9
        refine V.eq (S' := S9) (ls' := [some (.ref (ax 5 e)), some (.int (nI (was))), some (.int (nI (was + k))), none]) (st' := [.int (nI (tn G 26 e)), .int (nI (was + k))]) rfl rfl rfl ?_
        refine V.icmp_ge h (off := 41) (by decide +kernel) (tgt := 63) (by decide) (fun q => ?_) (fun q => ?_)
        · have q22_35 := ((nI_leI (by omega) (by omega)).mp q)
          clear q
          omega
        · have q22_35 : ¬ _ := (fun z => q ((nI_leI (by omega) (by omega)).mpr z))
          clear q
          refine V.blk h [(.aload_n 0, 1)] (by decide +kernel) (pc' := 26) (ls' := [some (.ref (ax 5 e)), some (.int (nI (was))), some (.int (nI (was + k))), none]) (st' := [.ref (ax 5 e)]) rfl rfl (Nat.le_of_ble_eq_true rfl) ?_
          refine V.getP h cls_5 (j := 3) rfl (hS9.mem (show lv G 5 e from heG)) (hS9.knd (show lv G 5 e from heG)) (Or.inl wf_RX5_25) (by decide +kernel) (v := some (ax 0 (3 + e))) (hS9.ptr (show lv G 5 e from heG) (by decide) (by decide) rfl) ?_
          refine V.eq (S' := S9) (ls' := [some (.ref (ax 5 e)), some (.int (nI (was))), some (.int (nI (was + k))), none]) (st' := [.ref (ax 0 (3 + e))]) rfl rfl rfl ?_
          refine V.blk h [(.iload_n 2, 1)] (by decide +kernel) (pc' := 30) (ls' := [some (.ref (ax 5 e)), some (.int (nI (was))), some (.int (nI (was + k))), none]) (st' := [.int (nI (was + k)), .ref (ax 0 (3 + e))]) rfl rfl (Nat.le_of_ble_eq_true rfl) ?_
          refine V.callV h (np := 1) (st := []) (g_log hls hS9 heG (k := was + k) (by omega) (post := fun v S7 => v = some (.ref (ax 3 (600 * e + (was + k)))) ∧ S9 = S7) ⟨rfl, rfl⟩) wc_Jx4a65c_get_915e3 wn_RJx4a65c (Or.inl wm_RX5_62) wi_Jx4a65c_get_915e3 we_Jx4a65c_get_915e3 (by decide +kernel) rfl cls_0 (hS9.mem (show lv G 0 (3 + e) from (lv_log heG hS9.2.2.2.1.2.1))) (hS9.knd (show lv G 0 (3 + e) from (lv_log heG hS9.2.2.2.1.2.1))) (Nat.le_of_ble_eq_true rfl) (Nat.le_of_ble_eq_true rfl) (by show (2 * k) + 0 ≤ 2 * tf A 13; omega) (by show (7 * k + 4 * (ay9 50 0 - ay 50 0)) + 0 ≤ 7 * tf A 13 + 1492; omega) (by simp [Value.category]) (by decide +kernel) rfl (fun v Z2 q9 => ?_)
          obtain ⟨rfl, hS9⟩ := q9
          subst hS9
          refine V.eq (S' := S9) (ls' := [some (.ref (ax 5 e)), some (.int (nI (was))), some (.int (nI (was + k))), none]) (st' := [.ref (ax 3 (600 * e + (was + k)))]) rfl rfl rfl ?_
          refine V.castS h cls_3 (hS9.mem (show lv G 3 (600 * e + (was + k)) from (lv_ent hS9 heG (by omega)))) (hS9.knd (show lv G 3 (600 * e + (was + k)) from (lv_ent hS9 heG (by omega)))) wl_RX5_66 (by decide +kernel) ?_
          refine V.blk h [(.astore_n 3, 1), (.aload_n 3, 1)] (by decide +kernel) (pc' := 38) (ls' := [some (.ref (ax 5 e)), some (.int (nI (was))), some (.int (nI (was + k))), some (.ref (ax 3 (600 * e + (was + k))))]) (st' := [.ref (ax 3 (600 * e + (was + k)))]) rfl rfl (Nat.le_of_ble_eq_true rfl) ?_
          refine V.getI h cls_3 (j := 2) rfl (hS9.mem (show lv G 3 (600 * e + (was + k)) from (lv_ent hS9 heG (by omega)))) (hS9.knd (show lv G 3 (600 * e + (was + k)) from (lv_ent hS9 heG (by omega)))) (Or.inr ⟨_, wf_RX5_144⟩) (by decide +kernel) (v := bI (tb G 24 (600 * e + (was + k)))) (hS9.int (show lv G 3 (600 * e + (was + k)) from (lv_ent hS9 heG (by omega))) (by decide) (by decide) rfl) ?_
          refine V.if_ne h (off := 10) (by decide +kernel) (tgt := 51) (by decide) (fun q => ?_) (fun q => ?_)
          · have q41_52 := (bI_1 (fun z => q (bI_0.mpr z)))
            clear q
            refine V.blk h [(.aload_n 0, 1), (.aload_n 3, 1), (.iconst 1, 1)] (by decide +kernel) (pc' := 54) (ls' := [some (.ref (ax 5 e)), some (.int (nI (was))), some (.int (nI (was + k))), some (.ref (ax 3 (600 * e + (was + k))))]) (st' := [.int (nI (1)), .ref (ax 3 (600 * e + (was + k))), .ref (ax 5 e)]) rfl rfl (Nat.le_of_ble_eq_true rfl) ?_
            refine V.top (v' := .int (bI true)) (by decide) ?_
            refine V.callV h (np := 2) (st := []) (c_sendAnswer hls hS9 (e := e) (k := (was + k)) (sa := true) (ms := 4 * (nxM G (ay9 50 0) - ay9 50 0)) heG (by omega) hS9.gx (post := fun v S8 => v = none ∧ ∃ ay8, RA tc (mx ax ay8) (ansF G e (tn G 22 (600 * e + (was + k))) (tr G 23 (600 * e + (was + k))) true) S8 ∧ ay8 50 0 = nxM G (ay9 50 0)) (fun S8 ay8 hr8 hn8 => ⟨rfl, ay8, hr8, hn8⟩)) wc_X5_sendAnswer wn_RX5 (Or.inl wm_RX5_140) wi_X5_sendAnswer we_X5_sendAnswer (by decide +kernel) rfl cls_5 (hS9.mem (show lv G 5 e from heG)) (hS9.knd (show lv G 5 e from heG)) (Nat.le_of_ble_eq_true rfl) (Nat.le_of_ble_eq_true rfl) (by show (2 * k) + 2 ≤ 2 * tf A 13; omega) (by show (7 * k + 4 * (ay9 50 0 - ay 50 0)) + (7 + 4 * (nxM G (ay9 50 0) - ay9 50 0)) ≤ 7 * tf A 13 + 1492; omega) (by simp [Value.category]) (by decide +kernel) rfl (fun v Z3 q9 => ?_)
            obtain ⟨rfl, ay4, hS5, hn6⟩ := q9
            refine V.incN h (x := was + k) (i := 2) (by decide +kernel) rfl (Nat.le_of_ble_eq_true rfl) ?_
            refine V.eqL (ls' := [some (.ref (ax 5 e)), some (.int (nI (was))), some (.int (nI ((was + k) + 1))), some (.ref (ax 3 (600 * e + (was + k))))]) rfl ?_
            refine V.goto h (off := -54) (tgt := 6) (by decide +kernel) (by decide) ?_
            refine V.drop 3 (ls' := [some (.ref (ax 5 e)), some (.int (nI (was))), some (.int (nI ((was + k) + 1))), none]) rfl ?_
            refine V.eqL (ls' := [some (.ref (ax 5 e)), some (.int (nI (was))), some (.int (nI (was + (k + 1)))), none]) rfl ?_
            refine V.widen (k' := 2 * (k + 1)) (n' := 7 * (k + 1) + 4 * (ay4 50 0 - ay 50 0)) (by omega) (by omega) ?_
            exact ih6 ((tn A 28 e - was) - (k + 1)) (by omega) (k + 1) Z3 ay4 (by show RA tc _ (aaS e (was + k) (aaL A e was k)) _; unfold aaS; rw [← hG, if_pos (by first | exact Or.inl (by assumption) | exact Or.inr (by assumption))]; exact hS5) rfl (by omega) (by rw [hn6]; omega)
          · have q41_52 := (bI_0.mp q)
            clear q
            refine V.blk h [(.aload_n 3, 1)] (by decide +kernel) (pc' := 45) (ls' := [some (.ref (ax 5 e)), some (.int (nI (was))), some (.int (nI (was + k))), some (.ref (ax 3 (600 * e + (was + k))))]) (st' := [.ref (ax 3 (600 * e + (was + k)))]) rfl rfl (Nat.le_of_ble_eq_true rfl) ?_
            refine V.getI h cls_3 (j := 3) rfl (hS9.mem (show lv G 3 (600 * e + (was + k)) from (lv_ent hS9 heG (by omega)))) (hS9.knd (show lv G 3 (600 * e + (was + k)) from (lv_ent hS9 heG (by omega)))) (Or.inr ⟨_, wf_RX5_163⟩) (by decide +kernel) (v := bI (tb G 25 (600 * e + (was + k)))) (hS9.int (show lv G 3 (600 * e + (was + k)) from (lv_ent hS9 heG (by omega))) (by decide) (by decide) rfl) ?_
            refine V.if_eq h (off := 9) (by decide +kernel) (tgt := 57) (by decide) (fun q => ?_) (fun q => ?_)
            · have q48_70 := (bI_0.mp q)
              clear q
              refine V.incN h (x := was + k) (i := 2) (by decide +kernel) rfl (Nat.le_of_ble_eq_true rfl) ?_
              refine V.eqL (ls' := [some (.ref (ax 5 e)), some (.int (nI (was))), some (.int (nI ((was + k) + 1))), some (.ref (ax 3 (600 * e + (was + k))))]) rfl ?_
              refine V.goto h (off := -54) (tgt := 6) (by decide +kernel) (by decide) ?_
              refine V.drop 3 (ls' := [some (.ref (ax 5 e)), some (.int (nI (was))), some (.int (nI ((was + k) + 1))), none]) rfl ?_
              refine V.eqL (ls' := [some (.ref (ax 5 e)), some (.int (nI (was))), some (.int (nI (was + (k + 1)))), none]) rfl ?_
              refine V.widen (k' := 2 * (k + 1)) (n' := 7 * (k + 1) + 4 * (ay9 50 0 - ay 50 0)) (by omega) (by omega) ?_
              exact ih6 ((tn A 28 e - was) - (k + 1)) (by omega) (k + 1) S9 ay9 (by show RA tc _ (aaS e (was + k) (aaL A e was k)) _; unfold aaS; rw [← hG, if_neg (fun z => by rcases z with z | z <;> simp_all)]; exact hS9) rfl (by omega) (by omega)
            · have q48_70 := (bI_1 (fun z => q (bI_0.mpr z)))
              clear q
              refine V.blk h [(.aload_n 0, 1), (.aload_n 3, 1), (.iconst 1, 1)] (by decide +kernel) (pc' := 54) (ls' := [some (.ref (ax 5 e)), some (.int (nI (was))), some (.int (nI (was + k))), some (.ref (ax 3 (600 * e + (was + k))))]) (st' := [.int (nI (1)), .ref (ax 3 (600 * e + (was + k))), .ref (ax 5 e)]) rfl rfl (Nat.le_of_ble_eq_true rfl) ?_
              refine V.top (v' := .int (bI true)) (by decide) ?_
              refine V.callV h (np := 2) (st := []) (c_sendAnswer hls hS9 (e := e) (k := (was + k)) (sa := true) (ms := 4 * (nxM G (ay9 50 0) - ay9 50 0)) heG (by omega) hS9.gx (post := fun v S8 => v = none ∧ ∃ ay8, RA tc (mx ax ay8) (ansF G e (tn G 22 (600 * e + (was + k))) (tr G 23 (600 * e + (was + k))) true) S8 ∧ ay8 50 0 = nxM G (ay9 50 0)) (fun S8 ay8 hr8 hn8 => ⟨rfl, ay8, hr8, hn8⟩)) wc_X5_sendAnswer wn_RX5 (Or.inl wm_RX5_140) wi_X5_sendAnswer we_X5_sendAnswer (by decide +kernel) rfl cls_5 (hS9.mem (show lv G 5 e from heG)) (hS9.knd (show lv G 5 e from heG)) (Nat.le_of_ble_eq_true rfl) (Nat.le_of_ble_eq_true rfl) (by show (2 * k) + 2 ≤ 2 * tf A 13; omega) (by show (7 * k + 4 * (ay9 50 0 - ay 50 0)) + (7 + 4 * (nxM G (ay9 50 0) - ay9 50 0)) ≤ 7 * tf A 13 + 1492; omega) (by simp [Value.category]) (by decide +kernel) rfl (fun v Z7 q9 => ?_)
              obtain ⟨rfl, ay8, hS9, hn10⟩ := q9
              refine V.incN h (x := was + k) (i := 2) (by decide +kernel) rfl (Nat.le_of_ble_eq_true rfl) ?_
              refine V.eqL (ls' := [some (.ref (ax 5 e)), some (.int (nI (was))), some (.int (nI ((was + k) + 1))), some (.ref (ax 3 (600 * e + (was + k))))]) rfl ?_
              refine V.goto h (off := -54) (tgt := 6) (by decide +kernel) (by decide) ?_
              refine V.drop 3 (ls' := [some (.ref (ax 5 e)), some (.int (nI (was))), some (.int (nI ((was + k) + 1))), none]) rfl ?_
              refine V.eqL (ls' := [some (.ref (ax 5 e)), some (.int (nI (was))), some (.int (nI (was + (k + 1)))), none]) rfl ?_
              refine V.widen (k' := 2 * (k + 1)) (n' := 7 * (k + 1) + 4 * (ay8 50 0 - ay 50 0)) (by omega) (by omega) ?_
              exact ih6 ((tn A 28 e - was) - (k + 1)) (by omega) (k + 1) Z7 ay8 (by show RA tc _ (aaS e (was + k) (aaL A e was k)) _; unfold aaS; rw [← hG, if_pos (by first | exact Or.inl (by assumption) | exact Or.inr (by assumption))]; exact hS9) rfl (by omega) (by rw [hn10]; omega)
  refine V.eqL (ls' := [some (.ref (ax 5 e)), some (.int (nI (was))), some (.int (nI (was + 0))), none]) rfl ?_
  refine V.widen (k' := 2 * 0) (n' := 7 * 0 + 4 * (ay 50 0 - ay 50 0)) (by omega) (by omega) ?_
  exact loop6 _ 0 S ay (hS) rfl (Nat.zero_le _) ⟨Nat.le_refl _, Or.inr rfl⟩
def rdF (A : TS) (e i : Nat) : Bool := decide (tn A 36 i = 2 ^ tf A 1 - 1 ∧ tn A 34 i ≤ tn A 28 e)
set_option maxRecDepth 100000 in
set_option maxHeartbeats 4000000 in
theorem c_isReady {l : Launch} {D : va_G} {tc : Nat → ClassId} {ax ay : Nat → Nat → Nat} {A : TS} {S : HS} (hls : l.stackTraces = false) (hS : RA tc (mx ax ay) A S) {e : Nat} {k : Nat} {K : Nat}  (he : e < tf A 38) (hk : k < tn A 37 e) (h36 : tn A 36 (600 * e + k) < 2 ^ tf A 1) (hB : NB K A) (hK : K < 1900000000) {post : Option Value → HS → Prop} (hp : post (some (.int (bI (rdF A e (600 * e + k))))) S) : CM l D tc yX5_isReady cX5_isReady 3 (some .boolean) 1 0 0 [.ref (ax 5 e), .ref (ay 8 (600 * e + k))] S post := by
  refine CM.of hls (by decide +kernel) (by simp [Value.category]) (Nat.le_of_ble_eq_true rfl) (fun A0 p e9 s m args below meth c sz h hr hnm hA => ?_)
  have hf3 := hS.2.2.1.2.1
  have hp3 := pow3 hf3
  have h12 := hS.2.2.2.1.2.1
  have h13 := hS.2.2.2.1.2.2.2.1
  have h600 := hS.2.2.2.2.1 e he
  refine V.eqL (ls' := [some (.ref (ax 5 e)), some (.ref (ay 8 (600 * e + k))), none]) rfl ?_
  refine V.blk h [(.aload_n 1, 1)] (by decide +kernel) (pc' := 1) (ls' := [some (.ref (ax 5 e)), some (.ref (ay 8 (600 * e + k))), none]) (st' := [.ref (ay 8 (600 * e + k))]) rfl rfl (Nat.le_of_ble_eq_true rfl) ?_
  refine V.getI h cls_8 (j := 4) rfl (hS.mem (show lv A 8 (600 * e + k) from (lv_get hS he (by omega)))) (hS.knd (show lv A 8 (600 * e + k) from (lv_get hS he (by omega)))) (Or.inr ⟨_, wf_RX5_195⟩) (by decide +kernel) (v := nI (tn A 36 (600 * e + k))) (hS.int (show lv A 8 (600 * e + k) from (lv_get hS he (by omega))) (by decide) (by decide) rfl) ?_
  have nb8 := hB.2 36 (600 * e + k)
  refine V.callS h (np := 1) (st := []) (m_bitCount hls (post := fun v S7 => v = some (.int (bcF (nI (tn A 36 (600 * e + k))))) ∧ S = S7) ⟨rfl, rfl⟩) wc_J6_bitCount_0f7a4 wn_RJ6 (Or.inl wm_RX5_220) wt_J6_bitCount_0f7a4 (by decide +kernel) rfl (Nat.le_of_ble_eq_true rfl) (Nat.le_of_ble_eq_true rfl) (Nat.zero_le _) (Nat.zero_le _) (by simp [Value.category]) (by decide +kernel) rfl (fun v Z1 q9 => ?_)
  obtain ⟨rfl, hS9⟩ := q9
  subst hS9
  refine V.eq (S' := S) (ls' := [some (.ref (ax 5 e)), some (.ref (ay 8 (600 * e + k))), none]) (st' := [.int (bcF (nI (tn A 36 (600 * e + k))))]) rfl rfl rfl ?_
  refine V.blk h [(.aload_n 0, 1)] (by decide +kernel) (pc' := 8) (ls' := [some (.ref (ax 5 e)), some (.ref (ay 8 (600 * e + k))), none]) (st' := [.ref (ax 5 e), .int (bcF (nI (tn A 36 (600 * e + k))))]) rfl rfl (Nat.le_of_ble_eq_true rfl) ?_
  refine V.getP h cls_5 (j := 6) rfl (hS.mem (show lv A 5 e from he)) (hS.knd (show lv A 5 e from he)) (Or.inl wf_RX5_42) (by decide +kernel) (v := some (ax 20 (2 * e + 1))) (hS.ptr (show lv A 5 e from he) (by decide) (by decide) rfl) ?_
  refine V.eq (S' := S) (ls' := [some (.ref (ax 5 e)), some (.ref (ay 8 (600 * e + k))), none]) (st' := [.ref (ax 20 (2 * e + 1)), .int (bcF (nI (tn A 36 (600 * e + k))))]) rfl rfl rfl ?_
  refine V.alen h 20 (hS.mem (show lv A 20 (2 * e + 1) from (by have := he; show 2 * e + 1 < 2 * tf A 38; omega))) (hS.knd (show lv A 20 (2 * e + 1) from (by have := he; show 2 * e + 1 < 2 * tf A 38; omega))) (by decide) (M := tf A 1) ((hS.len (show lv A 20 (2 * e + 1) from (by have := he; show 2 * e + 1 < 2 * tf A 38; omega)) (by decide)).trans cln_t) (by decide +kernel) ?_
  refine V.icmp_ne h (off := 7) (by decide +kernel) (tgt := 19) (by decide) (fun q => ?_) (fun q => ?_)
  · have q12_17 := q
    clear q
    have q12_17b : ¬ _ := fun z => q12_17 ((bc_all (by omega) hf3 h36).mpr z)
    refine V.blk h [(.iconst 0, 1), (.istore_n 2, 1), (.iload_n 2, 1)] (by decide +kernel) (pc' := 22) (ls' := [some (.ref (ax 5 e)), some (.ref (ay 8 (600 * e + k))), some (.int (nI (0)))]) (st' := [.int (nI (0))]) rfl rfl (Nat.le_of_ble_eq_true rfl) ?_
    refine V.if_eq h (off := 18) (by decide +kernel) (tgt := 40) (by decide) (fun q => ?_) (fun q => ?_)
    · have q22_22 := ((nI_z_eq (by omega)).mp q)
      clear q
      refine V.blk h [(.iconst 0, 1)] (by decide +kernel) (pc' := 41) (ls' := [some (.ref (ax 5 e)), some (.ref (ay 8 (600 * e + k))), some (.int (nI (0)))]) (st' := [.int (nI (0))]) rfl rfl (Nat.le_of_ble_eq_true rfl) ?_
      refine V.top (v' := .int (bI false)) (by decide) ?_
      exact V.iret h hA hr (bI_nar _) (by rw [show rdF A e (600 * e + k) = false from by unfold rdF; first | (simp [q12_17b, q22_22]; done) | (simp; omega)] at hp; exact hp) (by decide +kernel) (Nat.zero_le _) (Nat.zero_le _)
    · have q22_22 : ¬ _ := (fun z => q ((nI_z_eq (by omega)).mpr z))
      clear q
      refine V.blk h [(.aload_n 1, 1)] (by decide +kernel) (pc' := 26) (ls' := [some (.ref (ax 5 e)), some (.ref (ay 8 (600 * e + k))), some (.int (nI (0)))]) (st' := [.ref (ay 8 (600 * e + k))]) rfl rfl (Nat.le_of_ble_eq_true rfl) ?_
      refine V.getI h cls_8 (j := 1) rfl (hS.mem (show lv A 8 (600 * e + k) from (lv_get hS he (by omega)))) (hS.knd (show lv A 8 (600 * e + k) from (lv_get hS he (by omega)))) (Or.inr ⟨_, wf_RX5_225⟩) (by decide +kernel) (v := nI (tn A 34 (600 * e + k))) (hS.int (show lv A 8 (600 * e + k) from (lv_get hS he (by omega))) (by decide) (by decide) rfl) ?_
      have nb32 := hB.2 34 (600 * e + k)
      refine V.blk h [(.aload_n 0, 1)] (by decide +kernel) (pc' := 30) (ls' := [some (.ref (ax 5 e)), some (.ref (ay 8 (600 * e + k))), some (.int (nI (0)))]) (st' := [.ref (ax 5 e), .int (nI (tn A 34 (600 * e + k)))]) rfl rfl (Nat.le_of_ble_eq_true rfl) ?_
      refine V.getI h cls_5 (j := 10) rfl (hS.mem (show lv A 5 e from he)) (hS.knd (show lv A 5 e from he)) (Or.inl wf_RX5_122) (by decide +kernel) (v := nI (tn A 28 e)) (hS.int (show lv A 5 e from he) (by decide) (by decide) rfl) ?_
      have nb35 := hB.2 28 e
      refine V.icmp_gt h (off := 7) (by decide +kernel) (tgt := 40) (by decide) (fun q => ?_) (fun q => ?_)
      · have q33_36 := ((nI_ltI (by omega) (by omega)).mp q)
        clear q
        refine V.blk h [(.iconst 0, 1)] (by decide +kernel) (pc' := 41) (ls' := [some (.ref (ax 5 e)), some (.ref (ay 8 (600 * e + k))), some (.int (nI (0)))]) (st' := [.int (nI (0))]) rfl rfl (Nat.le_of_ble_eq_true rfl) ?_
        refine V.top (v' := .int (bI false)) (by decide) ?_
        exact V.iret h hA hr (bI_nar _) (by rw [show rdF A e (600 * e + k) = false from by unfold rdF; first | (simp [q12_17b, q22_22, q33_36]; done) | (simp; omega)] at hp; exact hp) (by decide +kernel) (Nat.zero_le _) (Nat.zero_le _)
      · have q33_36 : ¬ _ := (fun z => q ((nI_ltI (by omega) (by omega)).mpr z))
        clear q
        refine V.blk h [(.iconst 1, 1)] (by decide +kernel) (pc' := 37) (ls' := [some (.ref (ax 5 e)), some (.ref (ay 8 (600 * e + k))), some (.int (nI (0)))]) (st' := [.int (nI (1))]) rfl rfl (Nat.le_of_ble_eq_true rfl) ?_
        refine V.goto h (off := 4) (tgt := 41) (by decide +kernel) (by decide) ?_
        refine V.top (v' := .int (bI true)) (by decide) ?_
        exact V.iret h hA hr (bI_nar _) (by rw [show rdF A e (600 * e + k) = true from by unfold rdF; first | (simp [q12_17b, q22_22, q33_36]; done) | (simp; omega)] at hp; exact hp) (by decide +kernel) (Nat.zero_le _) (Nat.zero_le _)
  · have q12_17 := q
    clear q
    have q12_17b := (bc_all (by omega) hf3 h36).mp q12_17
    refine V.blk h [(.iconst 1, 1)] (by decide +kernel) (pc' := 16) (ls' := [some (.ref (ax 5 e)), some (.ref (ay 8 (600 * e + k))), none]) (st' := [.int (nI (1))]) rfl rfl (Nat.le_of_ble_eq_true rfl) ?_
    refine V.goto h (off := 4) (tgt := 20) (by decide +kernel) (by decide) ?_
    refine V.blk h [(.istore_n 2, 1), (.iload_n 2, 1)] (by decide +kernel) (pc' := 22) (ls' := [some (.ref (ax 5 e)), some (.ref (ay 8 (600 * e + k))), some (.int (nI (1)))]) (st' := [.int (nI (1))]) rfl rfl (Nat.le_of_ble_eq_true rfl) ?_
    refine V.if_eq h (off := 18) (by decide +kernel) (tgt := 40) (by decide) (fun q => ?_) (fun q => ?_)
    · have q22_54 := ((nI_z_eq (by omega)).mp q)
      clear q
      refine V.blk h [(.iconst 0, 1)] (by decide +kernel) (pc' := 41) (ls' := [some (.ref (ax 5 e)), some (.ref (ay 8 (600 * e + k))), some (.int (nI (1)))]) (st' := [.int (nI (0))]) rfl rfl (Nat.le_of_ble_eq_true rfl) ?_
      refine V.top (v' := .int (bI false)) (by decide) ?_
      exact V.iret h hA hr (bI_nar _) (by rw [show rdF A e (600 * e + k) = false from by unfold rdF; first | (simp [q12_17b, q22_54]; done) | (simp; omega)] at hp; exact hp) (by decide +kernel) (Nat.zero_le _) (Nat.zero_le _)
    · have q22_54 : ¬ _ := (fun z => q ((nI_z_eq (by omega)).mpr z))
      clear q
      refine V.blk h [(.aload_n 1, 1)] (by decide +kernel) (pc' := 26) (ls' := [some (.ref (ax 5 e)), some (.ref (ay 8 (600 * e + k))), some (.int (nI (1)))]) (st' := [.ref (ay 8 (600 * e + k))]) rfl rfl (Nat.le_of_ble_eq_true rfl) ?_
      refine V.getI h cls_8 (j := 1) rfl (hS.mem (show lv A 8 (600 * e + k) from (lv_get hS he (by omega)))) (hS.knd (show lv A 8 (600 * e + k) from (lv_get hS he (by omega)))) (Or.inr ⟨_, wf_RX5_225⟩) (by decide +kernel) (v := nI (tn A 34 (600 * e + k))) (hS.int (show lv A 8 (600 * e + k) from (lv_get hS he (by omega))) (by decide) (by decide) rfl) ?_
      have nb64 := hB.2 34 (600 * e + k)
      refine V.blk h [(.aload_n 0, 1)] (by decide +kernel) (pc' := 30) (ls' := [some (.ref (ax 5 e)), some (.ref (ay 8 (600 * e + k))), some (.int (nI (1)))]) (st' := [.ref (ax 5 e), .int (nI (tn A 34 (600 * e + k)))]) rfl rfl (Nat.le_of_ble_eq_true rfl) ?_
      refine V.getI h cls_5 (j := 10) rfl (hS.mem (show lv A 5 e from he)) (hS.knd (show lv A 5 e from he)) (Or.inl wf_RX5_122) (by decide +kernel) (v := nI (tn A 28 e)) (hS.int (show lv A 5 e from he) (by decide) (by decide) rfl) ?_
      have nb67 := hB.2 28 e
      refine V.icmp_gt h (off := 7) (by decide +kernel) (tgt := 40) (by decide) (fun q => ?_) (fun q => ?_)
      · have q33_68 := ((nI_ltI (by omega) (by omega)).mp q)
        clear q
        refine V.blk h [(.iconst 0, 1)] (by decide +kernel) (pc' := 41) (ls' := [some (.ref (ax 5 e)), some (.ref (ay 8 (600 * e + k))), some (.int (nI (1)))]) (st' := [.int (nI (0))]) rfl rfl (Nat.le_of_ble_eq_true rfl) ?_
        refine V.top (v' := .int (bI false)) (by decide) ?_
        exact V.iret h hA hr (bI_nar _) (by rw [show rdF A e (600 * e + k) = false from by unfold rdF; first | (simp [q12_17b, q22_54, q33_68]; done) | (simp; omega)] at hp; exact hp) (by decide +kernel) (Nat.zero_le _) (Nat.zero_le _)
      · have q33_68 : ¬ _ := (fun z => q ((nI_ltI (by omega) (by omega)).mpr z))
        clear q
        refine V.blk h [(.iconst 1, 1)] (by decide +kernel) (pc' := 37) (ls' := [some (.ref (ax 5 e)), some (.ref (ay 8 (600 * e + k))), some (.int (nI (1)))]) (st' := [.int (nI (1))]) rfl rfl (Nat.le_of_ble_eq_true rfl) ?_
        refine V.goto h (off := 4) (tgt := 41) (by decide +kernel) (by decide) ?_
        refine V.top (v' := .int (bI true)) (by decide) ?_
        exact V.iret h hA hr (bI_nar _) (by rw [show rdF A e (600 * e + k) = true from by unfold rdF; first | (simp [q12_17b, q22_54, q33_68]; done) | (simp; omega)] at hp; exact hp) (by decide +kernel) (Nat.zero_le _) (Nat.zero_le _)
