/-! ===== a request at a master ===== -/
def agnF (A : TS) (e k : Nat) : TS := if k < tn A 28 e then ansF A e (tn A 22 (600 * e + k)) (tr A 23 (600 * e + k)) true else if tb A 24 (600 * e + k) = true then synF A e else ansF A e (tn A 22 (600 * e + k)) (tr A 23 (600 * e + k)) false
set_option maxRecDepth 100000 in
set_option maxHeartbeats 4000000 in
theorem c_answerAgain {l : Launch} {D : va_G} {tc : Nat → ClassId} {ax ay : Nat → Nat → Nat} {A : TS} {S : HS} (hls : l.stackTraces = false) (hS : RA tc (mx ax ay) A S) {e : Nat} {k : Nat} {K : Nat}  (he : e < tf A 38) (hk : k < tn A 26 e) (hB : NB K A) (hK : K < 1900000000) {post : Option Value → HS → Prop} (hp : ∀ (S8 : HS) (ay8 : Nat → Nat → Nat), RA tc (mx ax ay8) (agnF A e k) S8 → post none S8) : CM l D tc yX5_answerAgain cX5_answerAgain 3 (none) 9 6 1140 [.ref (ax 5 e), .int (nI (k))] S post := by
  refine CM.of hls (by decide +kernel) (by simp [Value.category]) (Nat.le_of_ble_eq_true rfl) (fun A0 p e9 s m args below meth c sz h hr hnm hA => ?_)
  have h12 := hS.2.2.2.1.2.1
  have h13 := hS.2.2.2.1.2.2.2.1
  have h600 := hS.2.2.2.2.1 e he
  refine V.eqL (ls' := [some (.ref (ax 5 e)), some (.int (nI (k))), none]) rfl ?_
  refine V.blk h [(.iload_n 1, 1)] (by decide +kernel) (pc' := 1) (ls' := [some (.ref (ax 5 e)), some (.int (nI (k))), none]) (st' := [.int (nI (k))]) rfl rfl (Nat.le_of_ble_eq_true rfl) ?_
  refine V.if_lt h (off := 14) (by decide +kernel) (tgt := 15) (by decide) (fun q => ?_) (fun q => ?_)
  · have q1_5 := ((nI_z_lt (by omega)).mp q)
    clear q
    exact absurd q1_5 id
  · have q1_5 : ¬ _ := (fun z => q ((nI_z_lt (by omega)).mpr z))
    clear q
    refine V.blk h [(.iload_n 1, 1), (.aload_n 0, 1)] (by decide +kernel) (pc' := 6) (ls' := [some (.ref (ax 5 e)), some (.int (nI (k))), none]) (st' := [.ref (ax 5 e), .int (nI (k))]) rfl rfl (Nat.le_of_ble_eq_true rfl) ?_
    refine V.getP h cls_5 (j := 3) rfl (hS.mem (show lv A 5 e from he)) (hS.knd (show lv A 5 e from he)) (Or.inl wf_RX5_25) (by decide +kernel) (v := some (ax 0 (3 + e))) (hS.ptr (show lv A 5 e from he) (by decide) (by decide) rfl) ?_
    refine V.eq (S' := S) (ls' := [some (.ref (ax 5 e)), some (.int (nI (k))), none]) (st' := [.ref (ax 0 (3 + e)), .int (nI (k))]) rfl rfl rfl ?_
    refine V.callV h (np := 0) (st := [.int (nI (k))]) (s_log hls hS he (post := fun v S7 => v = some (.int (nI (tn A 26 e))) ∧ S = S7) ⟨rfl, rfl⟩) wc_Jx4a65c_size_8abf5 wn_RJx4a65c (Or.inl wm_RX5_58) wi_Jx4a65c_size_8abf5 we_Jx4a65c_size_8abf5 (by decide +kernel) rfl cls_0 (hS.mem (show lv A 0 (3 + e) from (lv_log he hS.2.2.2.1.2.1))) (hS.knd (show lv A 0 (3 + e) from (lv_log he hS.2.2.2.1.2.1))) (Nat.le_of_ble_eq_true rfl) (Nat.le_of_ble_eq_true rfl) (Nat.zero_le _) (Nat.zero_le _) (by simp [Value.category]) (by decide +kernel) rfl (fun v Z1 q9 => ?_)
    obtain ⟨rfl, hS9⟩ := q9
    subst hS9
    refine V.eq (S' := S) (ls' := [some (.ref (ax 5 e)), some (.int (nI (k))), none]) (st' := [.int (nI (tn A 26 e)), .int (nI (k))]) rfl rfl rfl ?_
    have nb18 := hB.2 26 e
    refine V.icmp_lt h (off := 4) (by decide +kernel) (tgt := 16) (by decide) (fun q => ?_) (fun q => ?_)
    · have q12_19 := ((nI_ltI (by omega) (by omega)).mp q)
      clear q
      refine V.blk h [(.aload_n 0, 1)] (by decide +kernel) (pc' := 17) (ls' := [some (.ref (ax 5 e)), some (.int (nI (k))), none]) (st' := [.ref (ax 5 e)]) rfl rfl (Nat.le_of_ble_eq_true rfl) ?_
      refine V.getP h cls_5 (j := 3) rfl (hS.mem (show lv A 5 e from he)) (hS.knd (show lv A 5 e from he)) (Or.inl wf_RX5_25) (by decide +kernel) (v := some (ax 0 (3 + e))) (hS.ptr (show lv A 5 e from he) (by decide) (by decide) rfl) ?_
      refine V.eq (S' := S) (ls' := [some (.ref (ax 5 e)), some (.int (nI (k))), none]) (st' := [.ref (ax 0 (3 + e))]) rfl rfl rfl ?_
      refine V.blk h [(.iload_n 1, 1)] (by decide +kernel) (pc' := 21) (ls' := [some (.ref (ax 5 e)), some (.int (nI (k))), none]) (st' := [.int (nI (k)), .ref (ax 0 (3 + e))]) rfl rfl (Nat.le_of_ble_eq_true rfl) ?_
      refine V.callV h (np := 1) (st := []) (g_log hls hS he (k := k) (by omega) (post := fun v S7 => v = some (.ref (ax 3 (600 * e + k))) ∧ S = S7) ⟨rfl, rfl⟩) wc_Jx4a65c_get_915e3 wn_RJx4a65c (Or.inl wm_RX5_62) wi_Jx4a65c_get_915e3 we_Jx4a65c_get_915e3 (by decide +kernel) rfl cls_0 (hS.mem (show lv A 0 (3 + e) from (lv_log he hS.2.2.2.1.2.1))) (hS.knd (show lv A 0 (3 + e) from (lv_log he hS.2.2.2.1.2.1))) (Nat.le_of_ble_eq_true rfl) (Nat.le_of_ble_eq_true rfl) (Nat.zero_le _) (Nat.zero_le _) (by simp [Value.category]) (by decide +kernel) rfl (fun v Z2 q9 => ?_)
      obtain ⟨rfl, hS9⟩ := q9
      subst hS9
      refine V.eq (S' := S) (ls' := [some (.ref (ax 5 e)), some (.int (nI (k))), none]) (st' := [.ref (ax 3 (600 * e + k))]) rfl rfl rfl ?_
      refine V.castS h cls_3 (hS.mem (show lv A 3 (600 * e + k) from (lv_ent hS he (by omega)))) (hS.knd (show lv A 3 (600 * e + k) from (lv_ent hS he (by omega)))) wl_RX5_66 (by decide +kernel) ?_
      refine V.blk h [(.astore_n 2, 1), (.iload_n 1, 1), (.aload_n 0, 1)] (by decide +kernel) (pc' := 30) (ls' := [some (.ref (ax 5 e)), some (.int (nI (k))), some (.ref (ax 3 (600 * e + k)))]) (st' := [.ref (ax 5 e), .int (nI (k))]) rfl rfl (Nat.le_of_ble_eq_true rfl) ?_
      refine V.getI h cls_5 (j := 10) rfl (hS.mem (show lv A 5 e from he)) (hS.knd (show lv A 5 e from he)) (Or.inl wf_RX5_122) (by decide +kernel) (v := nI (tn A 28 e)) (hS.int (show lv A 5 e from he) (by decide) (by decide) rfl) ?_
      have nb33 := hB.2 28 e
      refine V.icmp_ge h (off := 12) (by decide +kernel) (tgt := 45) (by decide) (fun q => ?_) (fun q => ?_)
      · have q33_34 := ((nI_leI (by omega) (by omega)).mp q)
        clear q
        refine V.blk h [(.aload_n 2, 1)] (by decide +kernel) (pc' := 46) (ls' := [some (.ref (ax 5 e)), some (.int (nI (k))), some (.ref (ax 3 (600 * e + k)))]) (st' := [.ref (ax 3 (600 * e + k))]) rfl rfl (Nat.le_of_ble_eq_true rfl) ?_
        refine V.getI h cls_3 (j := 2) rfl (hS.mem (show lv A 3 (600 * e + k) from (lv_ent hS he (by omega)))) (hS.knd (show lv A 3 (600 * e + k) from (lv_ent hS he (by omega)))) (Or.inr ⟨_, wf_RX5_144⟩) (by decide +kernel) (v := bI (tb A 24 (600 * e + k))) (hS.int (show lv A 3 (600 * e + k) from (lv_ent hS he (by omega))) (by decide) (by decide) rfl) ?_
        refine V.if_eq h (off := 10) (by decide +kernel) (tgt := 59) (by decide) (fun q => ?_) (fun q => ?_)
        · have q49_39 := (bI_0.mp q)
          clear q
          refine V.blk h [(.aload_n 0, 1), (.aload_n 2, 1), (.iconst 0, 1)] (by decide +kernel) (pc' := 62) (ls' := [some (.ref (ax 5 e)), some (.int (nI (k))), some (.ref (ax 3 (600 * e + k)))]) (st' := [.int (nI (0)), .ref (ax 3 (600 * e + k)), .ref (ax 5 e)]) rfl rfl (Nat.le_of_ble_eq_true rfl) ?_
          refine V.top (v' := .int (bI false)) (by decide) ?_
          refine V.callV h (np := 2) (st := []) (c_sendAnswer hls hS (e := e) (k := k) (sa := false) (ms := 373) he (by omega) hS.gc (post := fun v S8 => v = none ∧ ∃ ay8, RA tc (mx ax ay8) (ansF A e (tn A 22 (600 * e + k)) (tr A 23 (600 * e + k)) false) S8) (fun S8 ay8 hr8 _ => ⟨rfl, ay8, hr8⟩)) wc_X5_sendAnswer wn_RX5 (Or.inl wm_RX5_140) wi_X5_sendAnswer we_X5_sendAnswer (by decide +kernel) rfl cls_5 (hS.mem (show lv A 5 e from he)) (hS.knd (show lv A 5 e from he)) (Nat.le_of_ble_eq_true rfl) (Nat.le_of_ble_eq_true rfl) (by show 0 + 2 ≤ 6; omega) (by show 0 + 380 ≤ 1140; omega) (by simp [Value.category]) (by decide +kernel) rfl (fun v Z3 q9 => ?_)
          obtain ⟨rfl, ay4, hS5⟩ := q9
          exact V.vret h hA hr (hp _ _ (by unfold agnF; (repeat (first | rw [if_pos (by assumption)] | rw [if_neg (by assumption)] | rw [if_pos (by omega)] | rw [if_neg (by omega)]  | rw [if_neg (by simp [q1_5, q12_19, q33_34, q49_39])])); exact hS5)) (by decide +kernel) (by omega) (by omega)
        · have q49_39 := (bI_1 (fun z => q (bI_0.mpr z)))
          clear q
          refine V.blk h [(.aload_n 0, 1)] (by decide +kernel) (pc' := 53) (ls' := [some (.ref (ax 5 e)), some (.int (nI (k))), some (.ref (ax 3 (600 * e + k)))]) (st' := [.ref (ax 5 e)]) rfl rfl (Nat.le_of_ble_eq_true rfl) ?_
          refine V.callV h (np := 0) (st := []) (c_sendSyncs hls hS (e := e) he (post := fun v S8 => v = none ∧ ∃ ay8, RA tc (mx ax ay8) (synF A e) S8) (fun S8 ay8 hr8 => ⟨rfl, ay8, hr8⟩)) wc_X5_sendSyncs wn_RX5 (Or.inl wm_RX5_147) wi_X5_sendSyncs we_X5_sendSyncs (by decide +kernel) rfl cls_5 (hS.mem (show lv A 5 e from he)) (hS.knd (show lv A 5 e from he)) (Nat.le_of_ble_eq_true rfl) (Nat.le_of_ble_eq_true rfl) (by show 0 + 6 ≤ 6; omega) (by show 0 + 1140 ≤ 1140; omega) (by simp [Value.category]) (by decide +kernel) rfl (fun v Z6 q9 => ?_)
          obtain ⟨rfl, ay7, hS8⟩ := q9
          refine V.goto h (off := 9) (tgt := 65) (by decide +kernel) (by decide) ?_
          exact V.vret h hA hr (hp _ _ (by unfold agnF; (repeat (first | rw [if_pos (by assumption)] | rw [if_neg (by assumption)] | rw [if_pos (by omega)] | rw [if_neg (by omega)]  | rw [if_neg (by simp [q1_5, q12_19, q33_34, q49_39])])); exact hS8)) (by decide +kernel) (by omega) (by omega)
      · have q33_34 : ¬ _ := (fun z => q ((nI_leI (by omega) (by omega)).mpr z))
        clear q
        refine V.blk h [(.aload_n 0, 1), (.aload_n 2, 1), (.iconst 1, 1)] (by decide +kernel) (pc' := 39) (ls' := [some (.ref (ax 5 e)), some (.int (nI (k))), some (.ref (ax 3 (600 * e + k)))]) (st' := [.int (nI (1)), .ref (ax 3 (600 * e + k)), .ref (ax 5 e)]) rfl rfl (Nat.le_of_ble_eq_true rfl) ?_
        refine V.top (v' := .int (bI true)) (by decide) ?_
        refine V.callV h (np := 2) (st := []) (c_sendAnswer hls hS (e := e) (k := k) (sa := true) (ms := 373) he (by omega) hS.gc (post := fun v S8 => v = none ∧ ∃ ay8, RA tc (mx ax ay8) (ansF A e (tn A 22 (600 * e + k)) (tr A 23 (600 * e + k)) true) S8) (fun S8 ay8 hr8 _ => ⟨rfl, ay8, hr8⟩)) wc_X5_sendAnswer wn_RX5 (Or.inl wm_RX5_140) wi_X5_sendAnswer we_X5_sendAnswer (by decide +kernel) rfl cls_5 (hS.mem (show lv A 5 e from he)) (hS.knd (show lv A 5 e from he)) (Nat.le_of_ble_eq_true rfl) (Nat.le_of_ble_eq_true rfl) (by show 0 + 2 ≤ 6; omega) (by show 0 + 380 ≤ 1140; omega) (by simp [Value.category]) (by decide +kernel) rfl (fun v Z9 q9 => ?_)
        obtain ⟨rfl, ay10, hS11⟩ := q9
        refine V.goto h (off := 23) (tgt := 65) (by decide +kernel) (by decide) ?_
        exact V.vret h hA hr (hp _ _ (by unfold agnF; (repeat (first | rw [if_pos (by assumption)] | rw [if_neg (by assumption)] | rw [if_pos (by omega)] | rw [if_neg (by omega)]  | rw [if_neg (by simp [q1_5, q12_19, q33_34])])); exact hS11)) (by decide +kernel) (by omega) (by omega)
    · have q12_19 : ¬ _ := (fun z => q ((nI_ltI (by omega) (by omega)).mpr z))
      clear q
      omega
set_option maxRecDepth 100000 in
set_option maxHeartbeats 4000000 in
theorem c_readSyncNow {l : Launch} {D : va_G} {tc : Nat → ClassId} {ax ay : Nat → Nat → Nat} {A : TS} {S : HS} (hls : l.stackTraces = false) (hS : RA tc (mx ax ay) A S) {e : Nat} {op : Nat} {K : Nat}  (he : e < tf A 38) (ho : op < tf A 13) (hL : LogOK A e) (hB : NB K A) (hK : K < 1900000000) {post : Option Value → HS → Prop} (hp : ∀ (S8 : HS) (ay8 : Nat → Nat → Nat), RA tc (mx ax ay8) (snowF A e op) S8 → post none S8) : CM l D tc yX5_readSyncNow cX5_readSyncNow 4 (none) 9 6 1140 [.ref (ax 5 e), .ref (ax 6 op)] S post := by
  refine CM.of hls (by decide +kernel) (by simp [Value.category]) (Nat.le_of_ble_eq_true rfl) (fun A0 p e9 s m args below meth c sz h hr hnm hA => ?_)
  have h12 := hS.2.2.2.1.2.1
  have h13 := hS.2.2.2.1.2.2.2.1
  have h600 := hS.2.2.2.2.1 e he
  have hple := placeF_le A e op
  have hbple := hB.2 26 e
  refine V.eqL (ls' := [some (.ref (ax 5 e)), some (.ref (ax 6 op)), none, none]) rfl ?_
  refine V.blk h [(.aload_n 0, 1), (.aload_n 1, 1)] (by decide +kernel) (pc' := 2) (ls' := [some (.ref (ax 5 e)), some (.ref (ax 6 op)), none, none]) (st' := [.ref (ax 6 op), .ref (ax 5 e)]) rfl rfl (Nat.le_of_ble_eq_true rfl) ?_
  refine V.callV h (np := 1) (st := []) (c_placeOf hls hS (e := e) (op := op) he ho hL hB (by omega) (post := fun v S7 => v = some (.int (oI (placeF A e op))) ∧ S = S7) ⟨rfl, rfl⟩) wc_X5_placeOf wn_RX5 (Or.inl wm_RX5_86) wi_X5_placeOf we_X5_placeOf (by decide +kernel) rfl cls_5 (hS.mem (show lv A 5 e from he)) (hS.knd (show lv A 5 e from he)) (Nat.le_of_ble_eq_true rfl) (Nat.le_of_ble_eq_true rfl) (Nat.zero_le _) (Nat.zero_le _) (by simp [Value.category]) (by decide +kernel) rfl (fun v Z1 q9 => ?_)
  obtain ⟨rfl, hS9⟩ := q9
  subst hS9
  refine V.eq (S' := S) (ls' := [some (.ref (ax 5 e)), some (.ref (ax 6 op)), none, none]) (st' := [.int (oI (placeF A e op))]) rfl rfl rfl ?_
  refine V.blk h [(.istore_n 2, 1), (.iload_n 2, 1)] (by decide +kernel) (pc' := 7) (ls' := [some (.ref (ax 5 e)), some (.ref (ax 6 op)), some (.int (oI (placeF A e op))), none]) (st' := [.int (oI (placeF A e op))]) rfl rfl (Nat.le_of_ble_eq_true rfl) ?_
  refine V.if_lt h (off := 14) (by decide +kernel) (tgt := 21) (by decide) (fun q => ?_) (fun q => ?_)
  · have q7_12 := ((oI_neg (by omega)).mp q)
    clear q
    exact V.vret h hA hr (hp _ _ (by unfold snowF; rw [if_pos q7_12]; exact hS)) (by decide +kernel) (Nat.zero_le _) (Nat.zero_le _)
  · have q7_12 : ¬ _ := (fun z => q ((oI_neg (by omega)).mpr z))
    clear q
    have hpl := place_is q7_12
    refine V.blk h [(.iload_n 2, 1), (.aload_n 0, 1)] (by decide +kernel) (pc' := 12) (ls' := [some (.ref (ax 5 e)), some (.ref (ax 6 op)), some (.int (oI (placeF A e op))), none]) (st' := [.ref (ax 5 e), .int (oI (placeF A e op))]) rfl rfl (Nat.le_of_ble_eq_true rfl) ?_
    refine V.getP h cls_5 (j := 3) rfl (hS.mem (show lv A 5 e from he)) (hS.knd (show lv A 5 e from he)) (Or.inl wf_RX5_25) (by decide +kernel) (v := some (ax 0 (3 + e))) (hS.ptr (show lv A 5 e from he) (by decide) (by decide) rfl) ?_
    refine V.eq (S' := S) (ls' := [some (.ref (ax 5 e)), some (.ref (ax 6 op)), some (.int (oI (placeF A e op))), none]) (st' := [.ref (ax 0 (3 + e)), .int (oI (placeF A e op))]) rfl rfl rfl ?_
    refine V.callV h (np := 0) (st := [.int (oI (placeF A e op))]) (s_log hls hS he (post := fun v S7 => v = some (.int (nI (tn A 26 e))) ∧ S = S7) ⟨rfl, rfl⟩) wc_Jx4a65c_size_8abf5 wn_RJx4a65c (Or.inl wm_RX5_58) wi_Jx4a65c_size_8abf5 we_Jx4a65c_size_8abf5 (by decide +kernel) rfl cls_0 (hS.mem (show lv A 0 (3 + e) from (lv_log he hS.2.2.2.1.2.1))) (hS.knd (show lv A 0 (3 + e) from (lv_log he hS.2.2.2.1.2.1))) (Nat.le_of_ble_eq_true rfl) (Nat.le_of_ble_eq_true rfl) (Nat.zero_le _) (Nat.zero_le _) (by simp [Value.category]) (by decide +kernel) rfl (fun v Z2 q9 => ?_)
    obtain ⟨rfl, hS9⟩ := q9
    subst hS9
    refine V.eq (S' := S) (ls' := [some (.ref (ax 5 e)), some (.ref (ax 6 op)), some (.int (oI (placeF A e op))), none]) (st' := [.int (nI (tn A 26 e)), .int (oI (placeF A e op))]) rfl rfl rfl ?_
    have nb26 := hB.2 26 e
    refine V.icmp_lt h (off := 4) (by decide +kernel) (tgt := 22) (by decide) (fun q => ?_) (fun q => ?_)
    · have q18_27 := ((oI_ltN (by omega) (by omega)).mp q)
      clear q
      refine V.blk h [(.aload_n 0, 1)] (by decide +kernel) (pc' := 23) (ls' := [some (.ref (ax 5 e)), some (.ref (ax 6 op)), some (.int (oI (placeF A e op))), none]) (st' := [.ref (ax 5 e)]) rfl rfl (Nat.le_of_ble_eq_true rfl) ?_
      refine V.getP h cls_5 (j := 3) rfl (hS.mem (show lv A 5 e from he)) (hS.knd (show lv A 5 e from he)) (Or.inl wf_RX5_25) (by decide +kernel) (v := some (ax 0 (3 + e))) (hS.ptr (show lv A 5 e from he) (by decide) (by decide) rfl) ?_
      refine V.eq (S' := S) (ls' := [some (.ref (ax 5 e)), some (.ref (ax 6 op)), some (.int (oI (placeF A e op))), none]) (st' := [.ref (ax 0 (3 + e))]) rfl rfl rfl ?_
      refine V.blk h [(.iload_n 2, 1)] (by decide +kernel) (pc' := 27) (ls' := [some (.ref (ax 5 e)), some (.ref (ax 6 op)), some (.int (oI (placeF A e op))), none]) (st' := [.int (oI (placeF A e op)), .ref (ax 0 (3 + e))]) rfl rfl (Nat.le_of_ble_eq_true rfl) ?_
      refine V.top (v' := .int (nI ((placeF A e op) - 1))) (oI_pos (by omega)) ?_
      refine V.callV h (np := 1) (st := []) (g_log hls hS he (k := (placeF A e op) - 1) (by omega) (post := fun v S7 => v = some (.ref (ax 3 (600 * e + ((placeF A e op) - 1)))) ∧ S = S7) ⟨rfl, rfl⟩) wc_Jx4a65c_get_915e3 wn_RJx4a65c (Or.inl wm_RX5_62) wi_Jx4a65c_get_915e3 we_Jx4a65c_get_915e3 (by decide +kernel) rfl cls_0 (hS.mem (show lv A 0 (3 + e) from (lv_log he hS.2.2.2.1.2.1))) (hS.knd (show lv A 0 (3 + e) from (lv_log he hS.2.2.2.1.2.1))) (Nat.le_of_ble_eq_true rfl) (Nat.le_of_ble_eq_true rfl) (Nat.zero_le _) (Nat.zero_le _) (by simp [Value.category]) (by decide +kernel) rfl (fun v Z3 q9 => ?_)
      obtain ⟨rfl, hS9⟩ := q9
      subst hS9
      refine V.eq (S' := S) (ls' := [some (.ref (ax 5 e)), some (.ref (ax 6 op)), some (.int (oI (placeF A e op))), none]) (st' := [.ref (ax 3 (600 * e + ((placeF A e op) - 1)))]) rfl rfl rfl ?_
      refine V.castS h cls_3 (hS.mem (show lv A 3 (600 * e + ((placeF A e op) - 1)) from (lv_ent hS he (by omega)))) (hS.knd (show lv A 3 (600 * e + ((placeF A e op) - 1)) from (lv_ent hS he (by omega)))) wl_RX5_66 (by decide +kernel) ?_
      refine V.blk h [(.astore_n 3, 1), (.iload_n 2, 1), (.aload_n 0, 1)] (by decide +kernel) (pc' := 36) (ls' := [some (.ref (ax 5 e)), some (.ref (ax 6 op)), some (.int (oI (placeF A e op))), some (.ref (ax 3 (600 * e + ((placeF A e op) - 1))))]) (st' := [.ref (ax 5 e), .int (oI (placeF A e op))]) rfl rfl (Nat.le_of_ble_eq_true rfl) ?_
      refine V.getI h cls_5 (j := 10) rfl (hS.mem (show lv A 5 e from he)) (hS.knd (show lv A 5 e from he)) (Or.inl wf_RX5_122) (by decide +kernel) (v := nI (tn A 28 e)) (hS.int (show lv A 5 e from he) (by decide) (by decide) rfl) ?_
      have nb42 := hB.2 28 e
      refine V.icmp_ge h (off := 12) (by decide +kernel) (tgt := 51) (by decide) (fun q => ?_) (fun q => ?_)
      · have q39_43 := ((nI_leO (by omega) (by omega)).mp q)
        clear q
        refine V.blk h [(.aload_n 3, 1), (.iconst 1, 1)] (by decide +kernel) (pc' := 53) (ls' := [some (.ref (ax 5 e)), some (.ref (ax 6 op)), some (.int (oI (placeF A e op))), some (.ref (ax 3 (600 * e + ((placeF A e op) - 1))))]) (st' := [.int (nI (1)), .ref (ax 3 (600 * e + ((placeF A e op) - 1)))]) rfl rfl (Nat.le_of_ble_eq_true rfl) ?_
        refine V.top (v' := .int (bI true)) (by decide) ?_
        refine V.putI h cls_3 (j := 3) rfl (hS.mem (show lv A 3 (600 * e + ((placeF A e op) - 1)) from (lv_ent hS he (by omega)))) (hS.knd (show lv A 3 (600 * e + ((placeF A e op) - 1)) from (lv_ent hS he (by omega)))) (Or.inr ⟨_, wf_RX5_163⟩) rfl (bI_nar _) (bI_fit _) (by decide +kernel) ?_
        refine V.gen (P := fun S9 => RA tc (mx ax ay) (sb A 25 (600 * e + ((placeF A e op) - 1)) true) S9) (hS.p_3_3 (i := (600 * e + ((placeF A e op) - 1))) (v := true) (show lv A 3 (600 * e + ((placeF A e op) - 1)) from (lv_ent hS he (by omega)))) (fun S4 hS4 => ?_)
        refine V.blk h [(.aload_n 0, 1)] (by decide +kernel) (pc' := 57) (ls' := [some (.ref (ax 5 e)), some (.ref (ax 6 op)), some (.int (oI (placeF A e op))), some (.ref (ax 3 (600 * e + ((placeF A e op) - 1))))]) (st' := [.ref (ax 5 e)]) rfl rfl (Nat.le_of_ble_eq_true rfl) ?_
        refine V.callV h (np := 0) (st := []) (c_sendSyncs hls hS4 (e := e) he (post := fun v S8 => v = none ∧ ∃ ay8, RA tc (mx ax ay8) (synF (sb A 25 (600 * e + ((placeF A e op) - 1)) true) e) S8) (fun S8 ay8 hr8 => ⟨rfl, ay8, hr8⟩)) wc_X5_sendSyncs wn_RX5 (Or.inl wm_RX5_147) wi_X5_sendSyncs we_X5_sendSyncs (by decide +kernel) rfl cls_5 (hS4.mem (show lv (sb A 25 (600 * e + ((placeF A e op) - 1)) true) 5 e from he)) (hS4.knd (show lv (sb A 25 (600 * e + ((placeF A e op) - 1)) true) 5 e from he)) (Nat.le_of_ble_eq_true rfl) (Nat.le_of_ble_eq_true rfl) (by show 0 + 6 ≤ 6; omega) (by show 0 + 1140 ≤ 1140; omega) (by simp [Value.category]) (by decide +kernel) rfl (fun v Z5 q9 => ?_)
        obtain ⟨rfl, ay6, hS7⟩ := q9
        exact V.vret h hA hr (hp _ _ (by unfold snowF; rw [if_neg q7_12, if_neg (by omega)]; exact hS7)) (by decide +kernel) (by omega) (by omega)
      · have q39_43 : ¬ _ := (fun z => q ((nI_leO (by omega) (by omega)).mpr z))
        clear q
        refine V.blk h [(.aload_n 0, 1), (.aload_n 3, 1), (.iconst 1, 1)] (by decide +kernel) (pc' := 45) (ls' := [some (.ref (ax 5 e)), some (.ref (ax 6 op)), some (.int (oI (placeF A e op))), some (.ref (ax 3 (600 * e + ((placeF A e op) - 1))))]) (st' := [.int (nI (1)), .ref (ax 3 (600 * e + ((placeF A e op) - 1))), .ref (ax 5 e)]) rfl rfl (Nat.le_of_ble_eq_true rfl) ?_
        refine V.top (v' := .int (bI true)) (by decide) ?_
        refine V.callV h (np := 2) (st := []) (c_sendAnswer hls hS (e := e) (k := ((placeF A e op) - 1)) (sa := true) (ms := 373) he (by omega) hS.gc (post := fun v S8 => v = none ∧ ∃ ay8, RA tc (mx ax ay8) (ansF A e (tn A 22 (600 * e + ((placeF A e op) - 1))) (tr A 23 (600 * e + ((placeF A e op) - 1))) true) S8) (fun S8 ay8 hr8 _ => ⟨rfl, ay8, hr8⟩)) wc_X5_sendAnswer wn_RX5 (Or.inl wm_RX5_140) wi_X5_sendAnswer we_X5_sendAnswer (by decide +kernel) rfl cls_5 (hS.mem (show lv A 5 e from he)) (hS.knd (show lv A 5 e from he)) (Nat.le_of_ble_eq_true rfl) (Nat.le_of_ble_eq_true rfl) (by show 0 + 2 ≤ 6; omega) (by show 0 + 380 ≤ 1140; omega) (by simp [Value.category]) (by decide +kernel) rfl (fun v Z8 q9 => ?_)
        obtain ⟨rfl, ay9, hS10⟩ := q9
        refine V.goto h (off := 12) (tgt := 60) (by decide +kernel) (by decide) ?_
        exact V.vret h hA hr (hp _ _ (by unfold snowF; rw [if_neg q7_12, if_pos (by omega)]; have z := hS10; rw [hpl.2] at z; exact z)) (by decide +kernel) (by omega) (by omega)
    · have q18_27 : ¬ _ := (fun z => q ((oI_ltN (by omega) (by omega)).mpr z))
      clear q
      omega
