/-! ===== a master sends ===== -/
theorem RA.gc {tc : Nat → ClassId} {ax ay : Nat → Nat → Nat} {A : TS} {S : HS} (h : RA tc (mx ax ay) A S) : tf A 53 ≠ 250 → tf A 53 = ay 50 0 → gcap (ay 50 0) ≤ 373 := fun z1 z2 => by
  have := h.2.2.2.1.2.2.2.2
  exact (gcap_4 (by omega)).1
set_option maxRecDepth 100000 in
set_option maxHeartbeats 4000000 in
theorem c_sendAnswer {l : Launch} {D : va_G} {tc : Nat → ClassId} {ax ay : Nat → Nat → Nat} {A : TS} {S : HS} (hls : l.stackTraces = false) (hS : RA tc (mx ax ay) A S) {e : Nat} {k : Nat} {sa : Bool} {ms : Nat}  (he : e < tf A 38) (hk : k < tn A 26 e) (hms : tf A 53 ≠ 250 → tf A 53 = ay 50 0 → gcap (ay 50 0) ≤ ms) {post : Option Value → HS → Prop} (hp : ∀ (S8 : HS) (ay8 : Nat → Nat → Nat), RA tc (mx ax ay8) (ansF A e (tn A 22 (600 * e + k)) (tr A 23 (600 * e + k)) sa) S8 → ay8 50 0 = nxM A (ay 50 0) → post none S8) : CM l D tc yX5_sendAnswer cX5_sendAnswer 3 (none) 8 2 (7 + ms) [.ref (ax 5 e), .ref (ax 3 (600 * e + k)), .int (bI (sa))] S post := by
  refine CM.of hls (by decide +kernel) (by simp [Value.category]) (Nat.le_of_ble_eq_true rfl) (fun A0 p e9 s m args below meth c sz h hr hnm hA => ?_)
  refine V.eqL (ls' := [some (.ref (ax 5 e)), some (.ref (ax 3 (600 * e + k))), some (.int (bI (sa)))]) rfl ?_
  refine V.blk h [(.aload_n 0, 1)] (by decide +kernel) (pc' := 1) (ls' := [some (.ref (ax 5 e)), some (.ref (ax 3 (600 * e + k))), some (.int (bI (sa)))]) (st' := [.ref (ax 5 e)]) rfl rfl (Nat.le_of_ble_eq_true rfl) ?_
  refine V.getP h cls_5 (j := 2) rfl (hS.mem (show lv A 5 e from he)) (hS.knd (show lv A 5 e from he)) (Or.inl wf_RX5_18) (by decide +kernel) (v := some (ax 7 0)) (hS.ptr (show lv A 5 e from he) (by decide) (by decide) rfl) ?_
  refine V.eq (S' := S) (ls' := [some (.ref (ax 5 e)), some (.ref (ax 3 (600 * e + k))), some (.int (bI (sa)))]) (st' := [.ref (ax 7 0)]) rfl rfl rfl ?_
  refine V.blk h [(.aload_n 0, 1)] (by decide +kernel) (pc' := 5) (ls' := [some (.ref (ax 5 e)), some (.ref (ax 3 (600 * e + k))), some (.int (bI (sa)))]) (st' := [.ref (ax 5 e), .ref (ax 7 0)]) rfl rfl (Nat.le_of_ble_eq_true rfl) ?_
  refine V.getI h cls_5 (j := 0) rfl (hS.mem (show lv A 5 e from he)) (hS.knd (show lv A 5 e from he)) (Or.inl wf_RX5_9) (by decide +kernel) (v := nI e) (hS.int (show lv A 5 e from he) (by decide) (by decide) rfl) ?_
  refine V.blk h [(.aload_n 1, 1)] (by decide +kernel) (pc' := 9) (ls' := [some (.ref (ax 5 e)), some (.ref (ax 3 (600 * e + k))), some (.int (bI (sa)))]) (st' := [.ref (ax 3 (600 * e + k)), .int (nI (e)), .ref (ax 7 0)]) rfl rfl (Nat.le_of_ble_eq_true rfl) ?_
  refine V.getP h cls_3 (j := 0) rfl (hS.mem (show lv A 3 (600 * e + k) from (lv_ent hS he (by omega)))) (hS.knd (show lv A 3 (600 * e + k) from (lv_ent hS he (by omega)))) (Or.inr ⟨_, wf_RX5_68⟩) (by decide +kernel) (v := some (ax 6 (tn A 22 (600 * e + k)))) (hS.ptr (show lv A 3 (600 * e + k) from (lv_ent hS he (by omega))) (by decide) (by decide) rfl) ?_
  refine V.eq (S' := S) (ls' := [some (.ref (ax 5 e)), some (.ref (ax 3 (600 * e + k))), some (.int (bI (sa)))]) (st' := [.ref (ax 6 (tn A 22 (600 * e + k))), .int (nI (e)), .ref (ax 7 0)]) rfl rfl rfl ?_
  refine V.blk h [(.aload_n 1, 1)] (by decide +kernel) (pc' := 13) (ls' := [some (.ref (ax 5 e)), some (.ref (ax 3 (600 * e + k))), some (.int (bI (sa)))]) (st' := [.ref (ax 3 (600 * e + k)), .ref (ax 6 (tn A 22 (600 * e + k))), .int (nI (e)), .ref (ax 7 0)]) rfl rfl (Nat.le_of_ble_eq_true rfl) ?_
  refine V.getI h cls_3 (j := 1) rfl (hS.mem (show lv A 3 (600 * e + k) from (lv_ent hS he (by omega)))) (hS.knd (show lv A 3 (600 * e + k) from (lv_ent hS he (by omega)))) (Or.inr ⟨_, wf_RX5_228⟩) (by decide +kernel) (v := tr A 23 (600 * e + k)) (hS.int (show lv A 3 (600 * e + k) from (lv_ent hS he (by omega))) (by decide) (by decide) rfl) ?_
  refine V.blk h [(.iload_n 2, 1)] (by decide +kernel) (pc' := 17) (ls' := [some (.ref (ax 5 e)), some (.ref (ax 3 (600 * e + k))), some (.int (bI (sa)))]) (st' := [.int (bI (sa)), .int (tr A 23 (600 * e + k)), .ref (ax 6 (tn A 22 (600 * e + k))), .int (nI (e)), .ref (ax 7 0)]) rfl rfl (Nat.le_of_ble_eq_true rfl) ?_
  refine V.callS h (np := 4) (st := [.ref (ax 7 0)]) (c_toAnswer hls hS (e := e) (op := tn A 22 (600 * e + k)) (x := tr A 23 (600 * e + k)) (sa := sa) (show lv A 6 (tn A 22 (600 * e + k)) from (hS.lop he (by omega))) (post := fun v S8 => ∃ q8, v = some (.ref q8) ∧ RA tc (mx ax ay) (A) S8 ∧ LT S8 q8 2 e (tn A 5 (tn A 22 (600 * e + k))) (opA (mx ax ay) ((tn A 22 (600 * e + k)) + 1)) (tn A 6 (tn A 22 (600 * e + k))) (tr A 23 (600 * e + k)) sa) (fun S8 q8 _ _ hr8 hl8 => ⟨q8, rfl, hr8, hl8⟩)) wc_X4_toAnswer wn_RX4 (Or.inr ⟨_, wm_RX5_205⟩) wt_X4_toAnswer (by decide +kernel) rfl (Nat.le_of_ble_eq_true rfl) (Nat.le_of_ble_eq_true rfl) (by show 0 + 1 ≤ 2; omega) (by show 0 + 7 ≤ 7 + ms; omega) (by simp [Value.category]) (by decide +kernel) rfl (fun v Z1 q9 => ?_)
  obtain ⟨lq2, rfl, hS3, hl4⟩ := q9
  refine V.eq (S' := Z1) (ls' := [some (.ref (ax 5 e)), some (.ref (ax 3 (600 * e + k))), some (.int (bI (sa)))]) (st' := [.ref lq2, .ref (ax 7 0)]) rfl rfl rfl ?_
  refine V.callV h (np := 1) (st := []) (c_r_send hls hS3 (so := 2) (e := e) (to := tn A 5 (tn A 22 (600 * e + k))) (op := (tn A 22 (600 * e + k)) + 1) (n := tn A 6 (tn A 22 (600 * e + k))) (c9 := 0) (x := tr A 23 (600 * e + k)) (sa := sa) (q := lq2) (ms := ms) (Nat.succ_le_of_lt (show lv A 6 (tn A 22 (600 * e + k)) from (hS.lop he (by omega)))) hl4 hms (post := fun v S8 => v = none ∧ ∃ ay8, RA tc (mx ax ay8) (sendF A 2 e (tn A 5 (tn A 22 (600 * e + k))) ((tn A 22 (600 * e + k)) + 1) (tn A 6 (tn A 22 (600 * e + k))) 0 (tr A 23 (600 * e + k)) sa) S8 ∧ ay8 50 0 = nxM A (ay 50 0)) (fun S8 ay8 hr8 hn8 => ⟨rfl, ay8, hr8, hn8⟩)) wc_X7_send wn_RX7 (Or.inr ⟨_, wm_RX5_211⟩) wi_X7_send we_X7_send (by decide +kernel) rfl cls_7 (hS3.mem (show lv A 7 0 from rfl)) (hS3.knd (show lv A 7 0 from rfl)) (Nat.le_of_ble_eq_true rfl) (Nat.le_of_ble_eq_true rfl) (by show 1 + 1 ≤ 2; omega) (by show 7 + ms ≤ 7 + ms; omega) (by simp [Value.category]) (by decide +kernel) rfl (fun v Z5 q9 => ?_)
  obtain ⟨rfl, ay6, hS7, hn8⟩ := q9
  exact V.vret h hA hr (hp _ _ hS7 hn8) (by decide +kernel) (by omega) (by omega)
set_option maxRecDepth 100000 in
set_option maxHeartbeats 4000000 in
theorem c_sendSyncs {l : Launch} {D : va_G} {tc : Nat → ClassId} {ax ay : Nat → Nat → Nat} {A : TS} {S : HS} (hls : l.stackTraces = false) (hS : RA tc (mx ax ay) A S) {e : Nat}  (he : e < tf A 38) {post : Option Value → HS → Prop} (hp : ∀ (S8 : HS) (ay8 : Nat → Nat → Nat), RA tc (mx ax ay8) (synF A e) S8 → post none S8) : CM l D tc yX5_sendSyncs cX5_sendSyncs 2 (none) 8 6 1140 [.ref (ax 5 e)] S post := by
  refine CM.of hls (by decide +kernel) (by simp [Value.category]) (Nat.le_of_ble_eq_true rfl) (fun A0 p e9 s m args below meth c sz h hr hnm hA => ?_)
  have hf3 := hS.2.2.1.2.1
  
  refine V.eqL (ls' := [some (.ref (ax 5 e)), none]) rfl ?_
  refine V.blk h [(.aload_n 0, 1), (.dup, 1)] (by decide +kernel) (pc' := 2) (ls' := [some (.ref (ax 5 e)), none]) (st' := [.ref (ax 5 e), .ref (ax 5 e)]) rfl rfl (Nat.le_of_ble_eq_true rfl) ?_
  refine V.getI h cls_5 (j := 11) rfl (hS.mem (show lv A 5 e from he)) (hS.knd (show lv A 5 e from he)) (Or.inl wf_RX5_157) (by decide +kernel) (v := nI (tn A 29 e)) (hS.int (show lv A 5 e from he) (by decide) (by decide) rfl) ?_
  refine V.blk h [(.iconst 1, 1)] (by decide +kernel) (pc' := 6) (ls' := [some (.ref (ax 5 e)), none]) (st' := [.int (nI (1)), .int (nI (tn A 29 e)), .ref (ax 5 e)]) rfl rfl (Nat.le_of_ble_eq_true rfl) ?_
  refine V.addN h (by decide +kernel) (Nat.le_of_ble_eq_true rfl) ?_
  refine V.putI h cls_5 (j := 11) rfl (hS.mem (show lv A 5 e from he)) (hS.knd (show lv A 5 e from he)) (Or.inl wf_RX5_157) rfl rfl rfl (by decide +kernel) ?_
  refine V.gen (P := fun S9 => RA tc (mx ax ay) (sn A 29 e ((tn A 29 e) + 1)) S9) (hS.p_5_11 (i := e) (v := ((tn A 29 e) + 1)) (show lv A 5 e from he)) (fun S1 hS1 => ?_)
  refine V.blk h [(.iconst 0, 1), (.istore_n 1, 1)] (by decide +kernel) (pc' := 12) (ls' := [some (.ref (ax 5 e)), some (.int (nI (0)))]) (st' := []) rfl rfl (Nat.le_of_ble_eq_true rfl) ?_
  have loop12 : ∀ (t k : Nat) (S9 : HS) (ay9 : Nat → Nat → Nat), RA tc (mx ax ay9) (synL (sn A 29 e (tn A 29 e + 1)) e (tn A 26 e) (tn A 29 e + 1) k) S9 → tf A 1 - k = t → k ≤ tf A 1 → V l D tc A0 p e9 (rmd 8 6 1140) s m args below meth c 2 (MQ below (zQ D tc post S sz) args s 6 1140 (zAd S sz)) S9 (2 * k) (380 * k) 12 [some (.ref (ax 5 e)), some (.int (nI (k)))] [] := by
    intro t; induction t using Nat.strongRecOn with
    | _ t ih12 =>
      intro k S9 ay9 hS9 ht12 hk12
      obtain ⟨G, hG⟩ : ∃ X9 : TS, X9 = (synL (sn A 29 e (tn A 29 e + 1)) e (tn A 26 e) (tn A 29 e + 1) k) := ⟨_, rfl⟩
      rw [← hG] at hS9
      have hkp := synL_keep (sn A 29 e (tn A 29 e + 1)) e (tn A 26 e) (tn A 29 e + 1) k
      rw [← hG] at hkp
      have f1 : tf G 1 = tf A 1 := hkp.1 1 (by decide) (by decide)
      have f38 : tf G 38 = tf A 38 := hkp.1 38 (by decide) (by decide)
      have heG : e < tf G 38 := by rw [f38]; exact he
      have f26 : tn G 26 e = tn A 26 e := (hkp.2.1 26 e (by decide)).trans (by rw [tn_sn, if_neg (by omega)])
      have f29 : tn G 29 e = tn A 29 e + 1 := (hkp.2.1 29 e (by decide)).trans (by rw [tn_sn, if_pos ⟨rfl, rfl⟩])
      refine V.blk h [(.iload_n 1, 1), (.aload_n 0, 1)] (by decide +kernel) (pc' := 14) (ls' := [some (.ref (ax 5 e)), some (.int (nI (k)))]) (st' := [.ref (ax 5 e), .int (nI (k))]) rfl rfl (Nat.le_of_ble_eq_true rfl) ?_
      refine V.getP h cls_5 (j := 6) rfl (hS9.mem (show lv G 5 e from heG)) (hS9.knd (show lv G 5 e from heG)) (Or.inl wf_RX5_42) (by decide +kernel) (v := some (ax 20 (2 * e + 1))) (hS9.ptr (show lv G 5 e from heG) (by decide) (by decide) rfl) ?_
      refine V.eq (S' := S9) (ls' := [some (.ref (ax 5 e)), some (.int (nI (k)))]) (st' := [.ref (ax 20 (2 * e + 1)), .int (nI (k))]) rfl rfl rfl ?_
      refine V.alen h 20 (hS9.mem (show lv G 20 (2 * e + 1) from (by have := heG; show 2 * e + 1 < 2 * tf G 38; omega))) (hS9.knd (show lv G 20 (2 * e + 1) from (by have := heG; show 2 * e + 1 < 2 * tf G 38; omega))) (by decide) (M := tf G 1) ((hS9.len (show lv G 20 (2 * e + 1) from (by have := heG; show 2 * e + 1 < 2 * tf G 38; omega)) (by decide)).trans cln_t) (by decide +kernel) ?_
      refine V.icmp_ge h (off := 35) (by decide +kernel) (tgt := 53) (by decide) (fun q => ?_) (fun q => ?_)
      · have q18_27 := ((nI_leI (by omega) (by omega)).mp q)
        clear q
        exact V.vret h hA hr (hp _ _ (by unfold synF; rw [show tf A 1 = k from by omega]; rw [← hG]; exact hS9)) (by decide +kernel) (by omega) (by omega)
      · have q18_27 : ¬ _ := (fun z => q ((nI_leI (by omega) (by omega)).mpr z))
        clear q
        refine V.blk h [(.aload_n 0, 1)] (by decide +kernel) (pc' := 22) (ls' := [some (.ref (ax 5 e)), some (.int (nI (k)))]) (st' := [.ref (ax 5 e)]) rfl rfl (Nat.le_of_ble_eq_true rfl) ?_
        refine V.getP h cls_5 (j := 2) rfl (hS9.mem (show lv G 5 e from heG)) (hS9.knd (show lv G 5 e from heG)) (Or.inl wf_RX5_18) (by decide +kernel) (v := some (ax 7 0)) (hS9.ptr (show lv G 5 e from heG) (by decide) (by decide) rfl) ?_
        refine V.eq (S' := S9) (ls' := [some (.ref (ax 5 e)), some (.int (nI (k)))]) (st' := [.ref (ax 7 0)]) rfl rfl rfl ?_
        refine V.blk h [(.aload_n 0, 1)] (by decide +kernel) (pc' := 26) (ls' := [some (.ref (ax 5 e)), some (.int (nI (k)))]) (st' := [.ref (ax 5 e), .ref (ax 7 0)]) rfl rfl (Nat.le_of_ble_eq_true rfl) ?_
        refine V.getI h cls_5 (j := 0) rfl (hS9.mem (show lv G 5 e from heG)) (hS9.knd (show lv G 5 e from heG)) (Or.inl wf_RX5_9) (by decide +kernel) (v := nI e) (hS9.int (show lv G 5 e from heG) (by decide) (by decide) rfl) ?_
        refine V.blk h [(.iload_n 1, 1), (.aload_n 0, 1)] (by decide +kernel) (pc' := 31) (ls' := [some (.ref (ax 5 e)), some (.int (nI (k)))]) (st' := [.ref (ax 5 e), .int (nI (k)), .int (nI (e)), .ref (ax 7 0)]) rfl rfl (Nat.le_of_ble_eq_true rfl) ?_
        refine V.getP h cls_5 (j := 3) rfl (hS9.mem (show lv G 5 e from heG)) (hS9.knd (show lv G 5 e from heG)) (Or.inl wf_RX5_25) (by decide +kernel) (v := some (ax 0 (3 + e))) (hS9.ptr (show lv G 5 e from heG) (by decide) (by decide) rfl) ?_
        refine V.eq (S' := S9) (ls' := [some (.ref (ax 5 e)), some (.int (nI (k)))]) (st' := [.ref (ax 0 (3 + e)), .int (nI (k)), .int (nI (e)), .ref (ax 7 0)]) rfl rfl rfl ?_
        refine V.callV h (np := 0) (st := [.int (nI (k)), .int (nI (e)), .ref (ax 7 0)]) (s_log hls hS9 heG (post := fun v S7 => v = some (.int (nI (tn G 26 e))) ∧ S9 = S7) ⟨rfl, rfl⟩) wc_Jx4a65c_size_8abf5 wn_RJx4a65c (Or.inl wm_RX5_58) wi_Jx4a65c_size_8abf5 we_Jx4a65c_size_8abf5 (by decide +kernel) rfl cls_0 (hS9.mem (show lv G 0 (3 + e) from (lv_log heG hS9.2.2.2.1.2.1))) (hS9.knd (show lv G 0 (3 + e) from (lv_log heG hS9.2.2.2.1.2.1))) (Nat.le_of_ble_eq_true rfl) (Nat.le_of_ble_eq_true rfl) (by show (2 * k) + 0 ≤ 6; omega) (by show (380 * k) + 0 ≤ 1140; omega) (by simp [Value.category]) (by decide +kernel) rfl (fun v Z2 q9 => ?_)
        obtain ⟨rfl, hS9⟩ := q9
        subst hS9
        refine V.eq (S' := S9) (ls' := [some (.ref (ax 5 e)), some (.int (nI (k)))]) (st' := [.int (nI (tn G 26 e)), .int (nI (k)), .int (nI (e)), .ref (ax 7 0)]) rfl rfl rfl ?_
        refine V.blk h [(.aload_n 0, 1)] (by decide +kernel) (pc' := 38) (ls' := [some (.ref (ax 5 e)), some (.int (nI (k)))]) (st' := [.ref (ax 5 e), .int (nI (tn G 26 e)), .int (nI (k)), .int (nI (e)), .ref (ax 7 0)]) rfl rfl (Nat.le_of_ble_eq_true rfl) ?_
        refine V.getI h cls_5 (j := 11) rfl (hS9.mem (show lv G 5 e from heG)) (hS9.knd (show lv G 5 e from heG)) (Or.inl wf_RX5_157) (by decide +kernel) (v := nI (tn G 29 e)) (hS9.int (show lv G 5 e from heG) (by decide) (by decide) rfl) ?_
        refine V.callS h (np := 4) (st := [.ref (ax 7 0)]) (c_toSync hls hS9 (e := e) (to := k) (n := tn G 26 e) (c9 := tn G 29 e) (post := fun v S8 => ∃ q8, v = some (.ref q8) ∧ RA tc (mx ax ay9) (G) S8 ∧ LT S8 q8 6 e k none (tn G 26 e) (nI (tn G 29 e)) false) (fun S8 q8 _ _ hr8 hl8 => ⟨q8, rfl, hr8, hl8⟩)) wc_X4_toSync wn_RX4 (Or.inr ⟨_, wm_RX5_231⟩) wt_X4_toSync (by decide +kernel) rfl (Nat.le_of_ble_eq_true rfl) (Nat.le_of_ble_eq_true rfl) (by show (2 * k) + 1 ≤ 6; omega) (by show (380 * k) + 7 ≤ 1140; omega) (by simp [Value.category]) (by decide +kernel) rfl (fun v Z3 q9 => ?_)
        obtain ⟨lq4, rfl, hS5, hl6⟩ := q9
        refine V.eq (S' := Z3) (ls' := [some (.ref (ax 5 e)), some (.int (nI (k)))]) (st' := [.ref lq4, .ref (ax 7 0)]) rfl rfl rfl ?_
        refine V.callV h (np := 1) (st := []) (c_r_send hls hS5 (so := 6) (e := e) (to := k) (op := 0) (n := tn G 26 e) (c9 := tn G 29 e) (x := nI 0) (sa := false) (q := lq4) (ms := 373) (Nat.zero_le _) hl6 hS5.gc (post := fun v S8 => v = none ∧ ∃ ay8, RA tc (mx ax ay8) (sendF G 6 e k 0 (tn G 26 e) (tn G 29 e) (nI 0) false) S8 ∧ ay8 50 0 = nxM G (ay9 50 0)) (fun S8 ay8 hr8 hn8 => ⟨rfl, ay8, hr8, hn8⟩)) wc_X7_send wn_RX7 (Or.inr ⟨_, wm_RX5_211⟩) wi_X7_send we_X7_send (by decide +kernel) rfl cls_7 (hS5.mem (show lv G 7 0 from rfl)) (hS5.knd (show lv G 7 0 from rfl)) (Nat.le_of_ble_eq_true rfl) (Nat.le_of_ble_eq_true rfl) (by show ((2 * k) + 1) + 1 ≤ 6; omega) (by show ((380 * k) + 7) + 373 ≤ 1140; omega) (by simp [Value.category]) (by decide +kernel) rfl (fun v Z7 q9 => ?_)
        obtain ⟨rfl, ay8, hS9, hn10⟩ := q9
        refine V.incN h (x := k) (i := 1) (by decide +kernel) rfl (Nat.le_of_ble_eq_true rfl) ?_
        refine V.eqL (ls' := [some (.ref (ax 5 e)), some (.int (nI (k + 1)))]) rfl ?_
        refine V.goto h (off := -38) (tgt := 12) (by decide +kernel) (by decide) ?_
        refine V.eqL (ls' := [some (.ref (ax 5 e)), some (.int (nI ((k + 1))))]) rfl ?_
        refine V.widen (k' := 2 * (k + 1)) (n' := 380 * (k + 1)) (by omega) (by omega) ?_
        exact ih12 (tf A 1 - (k + 1)) (by omega) (k + 1) Z7 ay8 ((by show RA tc _ (sendF (synL (sn A 29 e (tn A 29 e + 1)) e (tn A 26 e) (tn A 29 e + 1) k) 6 e k 0 (tn A 26 e) (tn A 29 e + 1) (nI 0) false) _; rw [← hG, ← f26, ← f29]; exact hS9)) rfl (by omega)
  refine V.eqL (ls' := [some (.ref (ax 5 e)), some (.int (nI (0)))]) rfl ?_
  refine V.widen (k' := 2 * 0) (n' := 380 * 0) (by omega) (by omega) ?_
  exact loop12 _ 0 S1 ay (hS1) rfl (Nat.zero_le _)
set_option maxRecDepth 100000 in
set_option maxHeartbeats 4000000 in
theorem c_sendGcs {l : Launch} {D : va_G} {tc : Nat → ClassId} {ax ay : Nat → Nat → Nat} {A : TS} {S : HS} (hls : l.stackTraces = false) (hS : RA tc (mx ax ay) A S) {e : Nat}  (he : e < tf A 38) {post : Option Value → HS → Prop} (hp : ∀ (S8 : HS) (ay8 : Nat → Nat → Nat), RA tc (mx ax ay8) (gsL A e (tf A 1)) S8 → post none S8) : CM l D tc yX5_sendGcs cX5_sendGcs 2 (none) 8 6 1140 [.ref (ax 5 e)] S post := by
  refine CM.of hls (by decide +kernel) (by simp [Value.category]) (Nat.le_of_ble_eq_true rfl) (fun A0 p e9 s m args below meth c sz h hr hnm hA => ?_)
  have hf3 := hS.2.2.1.2.1
  
  refine V.eqL (ls' := [some (.ref (ax 5 e)), none]) rfl ?_
  refine V.blk h [(.iconst 0, 1), (.istore_n 1, 1)] (by decide +kernel) (pc' := 2) (ls' := [some (.ref (ax 5 e)), some (.int (nI (0)))]) (st' := []) rfl rfl (Nat.le_of_ble_eq_true rfl) ?_
  have loop2 : ∀ (t k : Nat) (S9 : HS) (ay9 : Nat → Nat → Nat), RA tc (mx ax ay9) (gsL A e k) S9 → tf A 1 - k = t → k ≤ tf A 1 → V l D tc A0 p e9 (rmd 8 6 1140) s m args below meth c 2 (MQ below (zQ D tc post S sz) args s 6 1140 (zAd S sz)) S9 (2 * k) (380 * k) 2 [some (.ref (ax 5 e)), some (.int (nI (k)))] [] := by
    intro t; induction t using Nat.strongRecOn with
    | _ t ih2 =>
      intro k S9 ay9 hS9 ht2 hk2
      obtain ⟨G, hG⟩ : ∃ X9 : TS, X9 = (gsL A e k) := ⟨_, rfl⟩
      rw [← hG] at hS9
      have hkp := (gsL_keep (A := A) (e := e) hS.2.2.2.1.2.2.2.2 k).1
      rw [← hG] at hkp
      have f1 : tf G 1 = tf A 1 := hkp.1 1 (by decide) (by decide)
      have f38 : tf G 38 = tf A 38 := hkp.1 38 (by decide) (by decide)
      have heG : e < tf G 38 := by rw [f38]; exact he
      refine V.blk h [(.iload_n 1, 1), (.aload_n 0, 1)] (by decide +kernel) (pc' := 4) (ls' := [some (.ref (ax 5 e)), some (.int (nI (k)))]) (st' := [.ref (ax 5 e), .int (nI (k))]) rfl rfl (Nat.le_of_ble_eq_true rfl) ?_
      refine V.getP h cls_5 (j := 6) rfl (hS9.mem (show lv G 5 e from heG)) (hS9.knd (show lv G 5 e from heG)) (Or.inl wf_RX5_42) (by decide +kernel) (v := some (ax 20 (2 * e + 1))) (hS9.ptr (show lv G 5 e from heG) (by decide) (by decide) rfl) ?_
      refine V.eq (S' := S9) (ls' := [some (.ref (ax 5 e)), some (.int (nI (k)))]) (st' := [.ref (ax 20 (2 * e + 1)), .int (nI (k))]) rfl rfl rfl ?_
      refine V.alen h 20 (hS9.mem (show lv G 20 (2 * e + 1) from (by have := heG; show 2 * e + 1 < 2 * tf G 38; omega))) (hS9.knd (show lv G 20 (2 * e + 1) from (by have := heG; show 2 * e + 1 < 2 * tf G 38; omega))) (by decide) (M := tf G 1) ((hS9.len (show lv G 20 (2 * e + 1) from (by have := heG; show 2 * e + 1 < 2 * tf G 38; omega)) (by decide)).trans cln_t) (by decide +kernel) ?_
      refine V.icmp_ge h (off := 30) (by decide +kernel) (tgt := 38) (by decide) (fun q => ?_) (fun q => ?_)
      · have q8_19 := ((nI_leI (by omega) (by omega)).mp q)
        clear q
        exact V.vret h hA hr (hp _ _ (by rw [show tf A 1 = k from by omega]; rw [← hG]; exact hS9)) (by decide +kernel) (by omega) (by omega)
      · have q8_19 : ¬ _ := (fun z => q ((nI_leI (by omega) (by omega)).mpr z))
        clear q
        refine V.blk h [(.aload_n 0, 1)] (by decide +kernel) (pc' := 12) (ls' := [some (.ref (ax 5 e)), some (.int (nI (k)))]) (st' := [.ref (ax 5 e)]) rfl rfl (Nat.le_of_ble_eq_true rfl) ?_
        refine V.getP h cls_5 (j := 2) rfl (hS9.mem (show lv G 5 e from heG)) (hS9.knd (show lv G 5 e from heG)) (Or.inl wf_RX5_18) (by decide +kernel) (v := some (ax 7 0)) (hS9.ptr (show lv G 5 e from heG) (by decide) (by decide) rfl) ?_
        refine V.eq (S' := S9) (ls' := [some (.ref (ax 5 e)), some (.int (nI (k)))]) (st' := [.ref (ax 7 0)]) rfl rfl rfl ?_
        refine V.blk h [(.bipush 8, 2), (.aload_n 0, 1)] (by decide +kernel) (pc' := 18) (ls' := [some (.ref (ax 5 e)), some (.int (nI (k)))]) (st' := [.ref (ax 5 e), .int (nI (8)), .ref (ax 7 0)]) rfl rfl (Nat.le_of_ble_eq_true rfl) ?_
        refine V.getI h cls_5 (j := 0) rfl (hS9.mem (show lv G 5 e from heG)) (hS9.knd (show lv G 5 e from heG)) (Or.inl wf_RX5_9) (by decide +kernel) (v := nI e) (hS9.int (show lv G 5 e from heG) (by decide) (by decide) rfl) ?_
        refine V.blk h [(.iload_n 1, 1), (.aload_n 0, 1)] (by decide +kernel) (pc' := 23) (ls' := [some (.ref (ax 5 e)), some (.int (nI (k)))]) (st' := [.ref (ax 5 e), .int (nI (k)), .int (nI (e)), .int (nI (8)), .ref (ax 7 0)]) rfl rfl (Nat.le_of_ble_eq_true rfl) ?_
        refine V.getI h cls_5 (j := 10) rfl (hS9.mem (show lv G 5 e from heG)) (hS9.knd (show lv G 5 e from heG)) (Or.inl wf_RX5_122) (by decide +kernel) (v := nI (tn G 28 e)) (hS9.int (show lv G 5 e from heG) (by decide) (by decide) rfl) ?_
        refine V.callS h (np := 4) (st := [.ref (ax 7 0)]) (c_toWitness hls hS9 (so := 8) (e := e) (w := k) (n := tn G 28 e) (post := fun v S8 => ∃ q8, v = some (.ref q8) ∧ RA tc (mx ax ay9) (G) S8 ∧ LT S8 q8 8 e k none (tn G 28 e) (nI 0) false) (fun S8 q8 _ _ hr8 hl8 => ⟨q8, rfl, hr8, hl8⟩)) wc_X4_toWitness wn_RX4 (Or.inr ⟨_, wm_RX5_235⟩) wt_X4_toWitness (by decide +kernel) rfl (Nat.le_of_ble_eq_true rfl) (Nat.le_of_ble_eq_true rfl) (by show (2 * k) + 1 ≤ 6; omega) (by show (380 * k) + 7 ≤ 1140; omega) (by simp [Value.category]) (by decide +kernel) rfl (fun v Z1 q9 => ?_)
        obtain ⟨lq2, rfl, hS3, hl4⟩ := q9
        refine V.eq (S' := Z1) (ls' := [some (.ref (ax 5 e)), some (.int (nI (k)))]) (st' := [.ref lq2, .ref (ax 7 0)]) rfl rfl rfl ?_
        refine V.callV h (np := 1) (st := []) (c_r_send hls hS3 (so := 8) (e := e) (to := k) (op := 0) (n := tn G 28 e) (c9 := 0) (x := nI 0) (sa := false) (q := lq2) (ms := 373) (Nat.zero_le _) hl4 hS3.gc (post := fun v S8 => v = none ∧ ∃ ay8, RA tc (mx ax ay8) (sendF G 8 e k 0 (tn G 28 e) 0 (nI 0) false) S8 ∧ ay8 50 0 = nxM G (ay9 50 0)) (fun S8 ay8 hr8 hn8 => ⟨rfl, ay8, hr8, hn8⟩)) wc_X7_send wn_RX7 (Or.inr ⟨_, wm_RX5_211⟩) wi_X7_send we_X7_send (by decide +kernel) rfl cls_7 (hS3.mem (show lv G 7 0 from rfl)) (hS3.knd (show lv G 7 0 from rfl)) (Nat.le_of_ble_eq_true rfl) (Nat.le_of_ble_eq_true rfl) (by show ((2 * k) + 1) + 1 ≤ 6; omega) (by show ((380 * k) + 7) + 373 ≤ 1140; omega) (by simp [Value.category]) (by decide +kernel) rfl (fun v Z5 q9 => ?_)
        obtain ⟨rfl, ay6, hS7, hn8⟩ := q9
        refine V.incN h (x := k) (i := 1) (by decide +kernel) rfl (Nat.le_of_ble_eq_true rfl) ?_
        refine V.eqL (ls' := [some (.ref (ax 5 e)), some (.int (nI (k + 1)))]) rfl ?_
        refine V.goto h (off := -33) (tgt := 2) (by decide +kernel) (by decide) ?_
        refine V.eqL (ls' := [some (.ref (ax 5 e)), some (.int (nI ((k + 1))))]) rfl ?_
        refine V.widen (k' := 2 * (k + 1)) (n' := 380 * (k + 1)) (by omega) (by omega) ?_
        exact ih2 (tf A 1 - (k + 1)) (by omega) (k + 1) Z5 ay6 ((by show RA tc _ (sendF (gsL A e k) 8 e k 0 (tn (gsL A e k) 28 e) 0 (nI 0) false) _; rw [← hG]; exact hS7)) rfl (by omega)
  refine V.eqL (ls' := [some (.ref (ax 5 e)), some (.int (nI (0)))]) rfl ?_
  refine V.widen (k' := 2 * 0) (n' := 380 * 0) (by omega) (by omega) ?_
  exact loop2 _ 0 S ay (hS) rfl (Nat.zero_le _)
set_option maxRecDepth 100000 in
set_option maxHeartbeats 4000000 in
theorem c_sendResets {l : Launch} {D : va_G} {tc : Nat → ClassId} {ax ay : Nat → Nat → Nat} {A : TS} {S : HS} (hls : l.stackTraces = false) (hS : RA tc (mx ax ay) A S) {e : Nat}  (he : e < tf A 38) {post : Option Value → HS → Prop} (hp : ∀ (S8 : HS) (ay8 : Nat → Nat → Nat), RA tc (mx ax ay8) (if 0 < e then resF A e else A) S8 → post none S8) : CM l D tc yX5_sendResets cX5_sendResets 2 (none) 8 6 1140 [.ref (ax 5 e)] S post := by
  refine CM.of hls (by decide +kernel) (by simp [Value.category]) (Nat.le_of_ble_eq_true rfl) (fun A0 p e9 s m args below meth c sz h hr hnm hA => ?_)
  have hf3 := hS.2.2.1.2.1
  have h12 := hS.2.2.2.1.2.1
  refine V.eqL (ls' := [some (.ref (ax 5 e)), none]) rfl ?_
  refine V.blk h [(.aload_n 0, 1)] (by decide +kernel) (pc' := 1) (ls' := [some (.ref (ax 5 e)), none]) (st' := [.ref (ax 5 e)]) rfl rfl (Nat.le_of_ble_eq_true rfl) ?_
  refine V.getI h cls_5 (j := 0) rfl (hS.mem (show lv A 5 e from he)) (hS.knd (show lv A 5 e from he)) (Or.inl wf_RX5_9) (by decide +kernel) (v := nI e) (hS.int (show lv A 5 e from he) (by decide) (by decide) rfl) ?_
  refine V.if_ne h (off := 4) (by decide +kernel) (tgt := 8) (by decide) (fun q => ?_) (fun q => ?_)
  · have q4_5 : ¬ _ := (fun z => q ((nI_z_eq (by omega)).mpr z))
    clear q
    refine V.blk h [(.iconst 0, 1), (.istore_n 1, 1)] (by decide +kernel) (pc' := 10) (ls' := [some (.ref (ax 5 e)), some (.int (nI (0)))]) (st' := []) rfl rfl (Nat.le_of_ble_eq_true rfl) ?_
    have loop10 : ∀ (t k : Nat) (S9 : HS) (ay9 : Nat → Nat → Nat), RA tc (mx ax ay9) (resL A e k) S9 → tf A 1 - k = t → k ≤ tf A 1 → V l D tc A0 p e9 (rmd 8 6 1140) s m args below meth c 2 (MQ below (zQ D tc post S sz) args s 6 1140 (zAd S sz)) S9 (2 * k) (380 * k) 10 [some (.ref (ax 5 e)), some (.int (nI (k)))] [] := by
      intro t; induction t using Nat.strongRecOn with
      | _ t ih10 =>
        intro k S9 ay9 hS9 ht10 hk10
        obtain ⟨G, hG⟩ : ∃ X9 : TS, X9 = (resL A e k) := ⟨_, rfl⟩
        rw [← hG] at hS9
        have hkp := resL_keep A e k
        rw [← hG] at hkp
        have f1 : tf G 1 = tf A 1 := hkp.1 1 (by decide) (by decide)
        have f38 : tf G 38 = tf A 38 := hkp.1 38 (by decide) (by decide)
        have heG : e < tf G 38 := by rw [f38]; exact he
        refine V.blk h [(.iload_n 1, 1), (.aload_n 0, 1)] (by decide +kernel) (pc' := 12) (ls' := [some (.ref (ax 5 e)), some (.int (nI (k)))]) (st' := [.ref (ax 5 e), .int (nI (k))]) rfl rfl (Nat.le_of_ble_eq_true rfl) ?_
        refine V.getP h cls_5 (j := 6) rfl (hS9.mem (show lv G 5 e from heG)) (hS9.knd (show lv G 5 e from heG)) (Or.inl wf_RX5_42) (by decide +kernel) (v := some (ax 20 (2 * e + 1))) (hS9.ptr (show lv G 5 e from heG) (by decide) (by decide) rfl) ?_
        refine V.eq (S' := S9) (ls' := [some (.ref (ax 5 e)), some (.int (nI (k)))]) (st' := [.ref (ax 20 (2 * e + 1)), .int (nI (k))]) rfl rfl rfl ?_
        refine V.alen h 20 (hS9.mem (show lv G 20 (2 * e + 1) from (by have := heG; show 2 * e + 1 < 2 * tf G 38; omega))) (hS9.knd (show lv G 20 (2 * e + 1) from (by have := heG; show 2 * e + 1 < 2 * tf G 38; omega))) (by decide) (M := tf G 1) ((hS9.len (show lv G 20 (2 * e + 1) from (by have := heG; show 2 * e + 1 < 2 * tf G 38; omega)) (by decide)).trans cln_t) (by decide +kernel) ?_
        refine V.icmp_ge h (off := 27) (by decide +kernel) (tgt := 43) (by decide) (fun q => ?_) (fun q => ?_)
        · have q16_24 := ((nI_leI (by omega) (by omega)).mp q)
          clear q
          exact V.vret h hA hr (hp _ _ (by rw [if_pos (by omega)]; unfold resF; rw [show tf A 1 = k from by omega]; rw [← hG]; exact hS9)) (by decide +kernel) (by omega) (by omega)
        · have q16_24 : ¬ _ := (fun z => q ((nI_leI (by omega) (by omega)).mpr z))
          clear q
          refine V.blk h [(.aload_n 0, 1)] (by decide +kernel) (pc' := 20) (ls' := [some (.ref (ax 5 e)), some (.int (nI (k)))]) (st' := [.ref (ax 5 e)]) rfl rfl (Nat.le_of_ble_eq_true rfl) ?_
          refine V.getP h cls_5 (j := 2) rfl (hS9.mem (show lv G 5 e from heG)) (hS9.knd (show lv G 5 e from heG)) (Or.inl wf_RX5_18) (by decide +kernel) (v := some (ax 7 0)) (hS9.ptr (show lv G 5 e from heG) (by decide) (by decide) rfl) ?_
          refine V.eq (S' := S9) (ls' := [some (.ref (ax 5 e)), some (.int (nI (k)))]) (st' := [.ref (ax 7 0)]) rfl rfl rfl ?_
          refine V.blk h [(.bipush 9, 2), (.aload_n 0, 1)] (by decide +kernel) (pc' := 26) (ls' := [some (.ref (ax 5 e)), some (.int (nI (k)))]) (st' := [.ref (ax 5 e), .int (nI (9)), .ref (ax 7 0)]) rfl rfl (Nat.le_of_ble_eq_true rfl) ?_
          refine V.getI h cls_5 (j := 0) rfl (hS9.mem (show lv G 5 e from heG)) (hS9.knd (show lv G 5 e from heG)) (Or.inl wf_RX5_9) (by decide +kernel) (v := nI e) (hS9.int (show lv G 5 e from heG) (by decide) (by decide) rfl) ?_
          refine V.blk h [(.iload_n 1, 1), (.iconst 0, 1)] (by decide +kernel) (pc' := 31) (ls' := [some (.ref (ax 5 e)), some (.int (nI (k)))]) (st' := [.int (nI (0)), .int (nI (k)), .int (nI (e)), .int (nI (9)), .ref (ax 7 0)]) rfl rfl (Nat.le_of_ble_eq_true rfl) ?_
          refine V.callS h (np := 4) (st := [.ref (ax 7 0)]) (c_toWitness hls hS9 (so := 9) (e := e) (w := k) (n := 0) (post := fun v S8 => ∃ q8, v = some (.ref q8) ∧ RA tc (mx ax ay9) (G) S8 ∧ LT S8 q8 9 e k none 0 (nI 0) false) (fun S8 q8 _ _ hr8 hl8 => ⟨q8, rfl, hr8, hl8⟩)) wc_X4_toWitness wn_RX4 (Or.inr ⟨_, wm_RX5_235⟩) wt_X4_toWitness (by decide +kernel) rfl (Nat.le_of_ble_eq_true rfl) (Nat.le_of_ble_eq_true rfl) (by show (2 * k) + 1 ≤ 6; omega) (by show (380 * k) + 7 ≤ 1140; omega) (by simp [Value.category]) (by decide +kernel) rfl (fun v Z1 q9 => ?_)
          obtain ⟨lq2, rfl, hS3, hl4⟩ := q9
          refine V.eq (S' := Z1) (ls' := [some (.ref (ax 5 e)), some (.int (nI (k)))]) (st' := [.ref lq2, .ref (ax 7 0)]) rfl rfl rfl ?_
          refine V.callV h (np := 1) (st := []) (c_r_send hls hS3 (so := 9) (e := e) (to := k) (op := 0) (n := 0) (c9 := 0) (x := nI 0) (sa := false) (q := lq2) (ms := 373) (Nat.zero_le _) hl4 hS3.gc (post := fun v S8 => v = none ∧ ∃ ay8, RA tc (mx ax ay8) (sendF G 9 e k 0 0 0 (nI 0) false) S8 ∧ ay8 50 0 = nxM G (ay9 50 0)) (fun S8 ay8 hr8 hn8 => ⟨rfl, ay8, hr8, hn8⟩)) wc_X7_send wn_RX7 (Or.inr ⟨_, wm_RX5_211⟩) wi_X7_send we_X7_send (by decide +kernel) rfl cls_7 (hS3.mem (show lv G 7 0 from rfl)) (hS3.knd (show lv G 7 0 from rfl)) (Nat.le_of_ble_eq_true rfl) (Nat.le_of_ble_eq_true rfl) (by show ((2 * k) + 1) + 1 ≤ 6; omega) (by show ((380 * k) + 7) + 373 ≤ 1140; omega) (by simp [Value.category]) (by decide +kernel) rfl (fun v Z5 q9 => ?_)
          obtain ⟨rfl, ay6, hS7, hn8⟩ := q9
          refine V.incN h (x := k) (i := 1) (by decide +kernel) rfl (Nat.le_of_ble_eq_true rfl) ?_
          refine V.eqL (ls' := [some (.ref (ax 5 e)), some (.int (nI (k + 1)))]) rfl ?_
          refine V.goto h (off := -30) (tgt := 10) (by decide +kernel) (by decide) ?_
          refine V.eqL (ls' := [some (.ref (ax 5 e)), some (.int (nI ((k + 1))))]) rfl ?_
          refine V.widen (k' := 2 * (k + 1)) (n' := 380 * (k + 1)) (by omega) (by omega) ?_
          exact ih10 (tf A 1 - (k + 1)) (by omega) (k + 1) Z5 ay6 ((by show RA tc _ (sendF (resL A e k) 9 e k 0 0 0 (nI 0) false) _; rw [← hG]; exact hS7)) rfl (by omega)
    refine V.eqL (ls' := [some (.ref (ax 5 e)), some (.int (nI (0)))]) rfl ?_
    refine V.widen (k' := 2 * 0) (n' := 380 * 0) (by omega) (by omega) ?_
    exact loop10 _ 0 S ay (hS) rfl (Nat.zero_le _)
  · have q4_5 := ((nI_z_eq (by omega)).mp q)
    clear q
    exact V.vret h hA hr (hp _ ay (by rw [if_neg (by omega)]; exact hS)) (by decide +kernel) (Nat.zero_le _) (Nat.zero_le _)
