/-! ===== the class itself: its helpers ===== -/
set_option maxRecDepth 100000 in
set_option maxHeartbeats 4000000 in
theorem c_asBit {l : Launch} {D : va_G} {tc : Nat → ClassId} {ax ay : Nat → Nat → Nat} {A : TS} {S : HS} (hls : l.stackTraces = false) (hS : RA tc (mx ax ay) A S) {b9 : Bool}   {post : Option Value → HS → Prop} (hp : post (some (.int (one9 b9))) S) : CM l D tc yX10_asBit cX10_asBit 1 (some .int) 0 0 0 [.int (bI (b9))] S post := by
  refine CM.of hls (by decide +kernel) (by simp [Value.category]) (Nat.le_of_ble_eq_true rfl) (fun A0 p e9 s m args below meth c sz h hr hnm hA => ?_)
  refine V.eqL (ls' := [some (.int (bI (b9)))]) rfl ?_
  refine V.blk h [(.iload_n 0, 1)] (by decide +kernel) (pc' := 1) (ls' := [some (.int (bI (b9)))]) (st' := [.int (bI (b9))]) rfl rfl (Nat.le_of_ble_eq_true rfl) ?_
  refine V.if_eq h (off := 7) (by decide +kernel) (tgt := 8) (by decide) (fun q => ?_) (fun q => ?_)
  · have q1_2 := (bI_0.mp q)
    clear q
    refine V.blk h [(.iconst 0, 1)] (by decide +kernel) (pc' := 9) (ls' := [some (.int (bI (b9)))]) (st' := [.int (nI (0))]) rfl rfl (Nat.le_of_ble_eq_true rfl) ?_
    exact V.iret h hA hr rfl (by rw [show one9 b9 = nI 0 from by rw [q1_2]; rfl] at hp; exact hp) (by decide +kernel) (Nat.zero_le _) (Nat.zero_le _)
  · have q1_2 := (bI_1 (fun z => q (bI_0.mpr z)))
    clear q
    refine V.blk h [(.iconst 1, 1)] (by decide +kernel) (pc' := 5) (ls' := [some (.int (bI (b9)))]) (st' := [.int (nI (1))]) rfl rfl (Nat.le_of_ble_eq_true rfl) ?_
    refine V.goto h (off := 4) (tgt := 9) (by decide +kernel) (by decide) ?_
    exact V.iret h hA hr rfl (by rw [show one9 b9 = nI 1 from by rw [q1_2]; rfl] at hp; exact hp) (by decide +kernel) (Nat.zero_le _) (Nat.zero_le _)
set_option maxRecDepth 100000 in
set_option maxHeartbeats 4000000 in
theorem c_masterOf {l : Launch} {D : va_G} {tc : Nat → ClassId} {ax ay : Nat → Nat → Nat} {A : TS} {S : HS} (hls : l.stackTraces = false) (hS : RA tc (mx ax ay) A S) {e : Nat}  (he : e < tf A 5) {post : Option Value → HS → Prop} (hp : post (some (.ref (ax 5 e))) S) : CM l D tc yX10_masterOf cX10_masterOf 2 (some (.object "OneTrip$Master")) 3 0 0 [.ref (ax 10 0), .int (nI (e))] S post := by
  refine CM.of hls (by decide +kernel) (by simp [Value.category]) (Nat.le_of_ble_eq_true rfl) (fun A0 p e9 s m args below meth c sz h hr hnm hA => ?_)
  have h5 := hS.2.2.2.1.1
  have h12 := hS.2.2.2.1.2.1
  refine V.eqL (ls' := [some (.ref (ax 10 0)), some (.int (nI (e)))]) rfl ?_
  refine V.blk h [(.iload_n 1, 1)] (by decide +kernel) (pc' := 1) (ls' := [some (.ref (ax 10 0)), some (.int (nI (e)))]) (st' := [.int (nI (e))]) rfl rfl (Nat.le_of_ble_eq_true rfl) ?_
  refine V.if_lt h (off := 28) (by decide +kernel) (tgt := 29) (by decide) (fun q => ?_) (fun q => ?_)
  · have q1_4 := ((nI_z_lt (by omega)).mp q)
    clear q
    exact absurd q1_4 id
  · have q1_4 : ¬ _ := (fun z => q ((nI_z_lt (by omega)).mpr z))
    clear q
    refine V.blk h [(.iload_n 1, 1), (.aload_n 0, 1)] (by decide +kernel) (pc' := 6) (ls' := [some (.ref (ax 10 0)), some (.int (nI (e)))]) (st' := [.ref (ax 10 0), .int (nI (e))]) rfl rfl (Nat.le_of_ble_eq_true rfl) ?_
    refine V.getP h cls_10 (j := 7) rfl (hS.mem (show lv A 10 0 from rfl)) (hS.knd (show lv A 10 0 from rfl)) (Or.inl wf_RX10_58) (by decide +kernel) (v := some (ax 0 1)) (hS.ptr (show lv A 10 0 from rfl) (by decide) (by decide) rfl) ?_
    refine V.eq (S' := S) (ls' := [some (.ref (ax 10 0)), some (.int (nI (e)))]) (st' := [.ref (ax 0 1), .int (nI (e))]) rfl rfl rfl ?_
    refine V.callV h (np := 0) (st := [.int (nI (e))]) (s_mas hls hS (post := fun v S7 => v = some (.int (nI (tf A 5))) ∧ S = S7) ⟨rfl, rfl⟩) wc_Jx4a65c_size_8abf5 wn_RJx4a65c (Or.inl wm_RX10_85) wi_Jx4a65c_size_8abf5 we_Jx4a65c_size_8abf5 (by decide +kernel) rfl cls_0 (hS.mem (show lv A 0 1 from (Or.inl (by decide)))) (hS.knd (show lv A 0 1 from (Or.inl (by decide)))) (Nat.le_of_ble_eq_true rfl) (Nat.le_of_ble_eq_true rfl) (Nat.zero_le _) (Nat.zero_le _) (by simp [Value.category]) (by decide +kernel) rfl (fun v Z1 q9 => ?_)
    obtain ⟨rfl, hS9⟩ := q9
    subst hS9
    refine V.eq (S' := S) (ls' := [some (.ref (ax 10 0)), some (.int (nI (e)))]) (st' := [.int (nI (tf A 5)), .int (nI (e))]) rfl rfl rfl ?_
    refine V.icmp_ge h (off := 17) (by decide +kernel) (tgt := 29) (by decide) (fun q => ?_) (fun q => ?_)
    · have q12_17 := ((nI_leI (by omega) (by omega)).mp q)
      clear q
      omega
    · have q12_17 : ¬ _ := (fun z => q ((nI_leI (by omega) (by omega)).mpr z))
      clear q
      refine V.blk h [(.aload_n 0, 1)] (by decide +kernel) (pc' := 16) (ls' := [some (.ref (ax 10 0)), some (.int (nI (e)))]) (st' := [.ref (ax 10 0)]) rfl rfl (Nat.le_of_ble_eq_true rfl) ?_
      refine V.getP h cls_10 (j := 7) rfl (hS.mem (show lv A 10 0 from rfl)) (hS.knd (show lv A 10 0 from rfl)) (Or.inl wf_RX10_58) (by decide +kernel) (v := some (ax 0 1)) (hS.ptr (show lv A 10 0 from rfl) (by decide) (by decide) rfl) ?_
      refine V.eq (S' := S) (ls' := [some (.ref (ax 10 0)), some (.int (nI (e)))]) (st' := [.ref (ax 0 1)]) rfl rfl rfl ?_
      refine V.blk h [(.iload_n 1, 1)] (by decide +kernel) (pc' := 20) (ls' := [some (.ref (ax 10 0)), some (.int (nI (e)))]) (st' := [.int (nI (e)), .ref (ax 0 1)]) rfl rfl (Nat.le_of_ble_eq_true rfl) ?_
      refine V.callV h (np := 1) (st := []) (g_mas hls hS (k := e) (by omega) (post := fun v S7 => v = some (.ref (ax 5 e)) ∧ S = S7) ⟨rfl, rfl⟩) wc_Jx4a65c_get_915e3 wn_RJx4a65c (Or.inl wm_RX10_150) wi_Jx4a65c_get_915e3 we_Jx4a65c_get_915e3 (by decide +kernel) rfl cls_0 (hS.mem (show lv A 0 1 from (Or.inl (by decide)))) (hS.knd (show lv A 0 1 from (Or.inl (by decide)))) (Nat.le_of_ble_eq_true rfl) (Nat.le_of_ble_eq_true rfl) (Nat.zero_le _) (Nat.zero_le _) (by simp [Value.category]) (by decide +kernel) rfl (fun v Z2 q9 => ?_)
      obtain ⟨rfl, hS9⟩ := q9
      subst hS9
      refine V.eq (S' := S) (ls' := [some (.ref (ax 10 0)), some (.int (nI (e)))]) (st' := [.ref (ax 5 e)]) rfl rfl rfl ?_
      refine V.castS h cls_5 (hS.mem (show lv A 5 e from (show e < tf A 38 by omega))) (hS.knd (show lv A 5 e from (show e < tf A 38 by omega))) wl_RX10_62 (by decide +kernel) ?_
      refine V.goto h (off := 4) (tgt := 30) (by decide +kernel) (by decide) ?_
      exact V.aret h hA hr (o := some (ax 5 e)) (Or.inl ⟨_, rfl⟩) hp (by decide +kernel) (Nat.zero_le _) (Nat.zero_le _)
set_option maxRecDepth 100000 in
set_option maxHeartbeats 4000000 in
theorem c_livingMasterOf {l : Launch} {D : va_G} {tc : Nat → ClassId} {ax ay : Nat → Nat → Nat} {A : TS} {S : HS} (hls : l.stackTraces = false) (hS : RA tc (mx ax ay) A S) {e : Nat}  (he : e < tf A 5) {post : Option Value → HS → Prop} (hp : (tb A 30 e = true → post (some (.ref (ax 5 e))) S) ∧ (tb A 30 e = false → post (some .null) S)) : CM l D tc yX10_livingMasterOf cX10_livingMasterOf 3 (some (.object "OneTrip$Master")) 4 0 0 [.ref (ax 10 0), .int (nI (e))] S post := by
  refine CM.of hls (by decide +kernel) (by simp [Value.category]) (Nat.le_of_ble_eq_true rfl) (fun A0 p e9 s m args below meth c sz h hr hnm hA => ?_)
  have h5 := hS.2.2.2.1.1
  refine V.eqL (ls' := [some (.ref (ax 10 0)), some (.int (nI (e))), none]) rfl ?_
  refine V.blk h [(.aload_n 0, 1), (.iload_n 1, 1)] (by decide +kernel) (pc' := 2) (ls' := [some (.ref (ax 10 0)), some (.int (nI (e))), none]) (st' := [.int (nI (e)), .ref (ax 10 0)]) rfl rfl (Nat.le_of_ble_eq_true rfl) ?_
  refine V.callV h (np := 1) (st := []) (c_masterOf hls hS (e := e) he (post := fun v S7 => v = some (.ref (ax 5 e)) ∧ S = S7) ⟨rfl, rfl⟩) wc_X10_masterOf wn_RX10 (Or.inl wm_RX10_174) wi_X10_masterOf we_X10_masterOf (by decide +kernel) rfl cls_10 (hS.mem (show lv A 10 0 from rfl)) (hS.knd (show lv A 10 0 from rfl)) (Nat.le_of_ble_eq_true rfl) (Nat.le_of_ble_eq_true rfl) (Nat.zero_le _) (Nat.zero_le _) (by simp [Value.category]) (by decide +kernel) rfl (fun v Z1 q9 => ?_)
  obtain ⟨rfl, hS9⟩ := q9
  subst hS9
  refine V.eq (S' := S) (ls' := [some (.ref (ax 10 0)), some (.int (nI (e))), none]) (st' := [.ref (ax 5 e)]) rfl rfl rfl ?_
  refine V.blk h [(.astore_n 2, 1), (.aload_n 2, 1)] (by decide +kernel) (pc' := 7) (ls' := [some (.ref (ax 10 0)), some (.int (nI (e))), some (.ref (ax 5 e))]) (st' := [.ref (ax 5 e)]) rfl rfl (Nat.le_of_ble_eq_true rfl) ?_
  refine V.ifnull h (o := (some (ax 5 e))) (off := 14) (by decide +kernel) (tgt := 21) (by decide) (fun z => by cases z) (fun _ _ => ?_)
  refine V.blk h [(.aload_n 2, 1)] (by decide +kernel) (pc' := 11) (ls' := [some (.ref (ax 10 0)), some (.int (nI (e))), some (.ref (ax 5 e))]) (st' := [.ref (ax 5 e)]) rfl rfl (Nat.le_of_ble_eq_true rfl) ?_
  refine V.getI h cls_5 (j := 7) rfl (hS.mem (show lv A 5 e from (show e < tf A 38 by omega))) (hS.knd (show lv A 5 e from (show e < tf A 38 by omega))) (Or.inr ⟨_, wf_RX10_154⟩) (by decide +kernel) (v := bI (tb A 30 e)) (hS.int (show lv A 5 e from (show e < tf A 38 by omega)) (by decide) (by decide) rfl) ?_
  refine V.if_eq h (off := 7) (by decide +kernel) (tgt := 21) (by decide) (fun q => ?_) (fun q => ?_)
  · have q14_11 := (bI_0.mp q)
    clear q
    refine V.blk h [(.aconst_null, 1)] (by decide +kernel) (pc' := 22) (ls' := [some (.ref (ax 10 0)), some (.int (nI (e))), some (.ref (ax 5 e))]) (st' := [.null]) rfl rfl (Nat.le_of_ble_eq_true rfl) ?_
    exact V.aret h hA hr (o := none) (Or.inl ⟨_, rfl⟩) (hp.2 q14_11) (by decide +kernel) (Nat.zero_le _) (Nat.zero_le _)
  · have q14_11 := (bI_1 (fun z => q (bI_0.mpr z)))
    clear q
    refine V.blk h [(.aload_n 2, 1)] (by decide +kernel) (pc' := 18) (ls' := [some (.ref (ax 10 0)), some (.int (nI (e))), some (.ref (ax 5 e))]) (st' := [.ref (ax 5 e)]) rfl rfl (Nat.le_of_ble_eq_true rfl) ?_
    refine V.goto h (off := 4) (tgt := 22) (by decide +kernel) (by decide) ?_
    exact V.aret h hA hr (o := some (ax 5 e)) (Or.inl ⟨_, rfl⟩) (hp.1 q14_11) (by decide +kernel) (Nat.zero_le _) (Nat.zero_le _)
def begC0 (A : TS) (c9 op : Nat) : TS := sendF (sr (sb (sn A 18 c9 0) 19 c9 false) 1 c9 (nI 0)) 0 (tn A 17 c9) (tn A 5 op) (op + 1) (tn A 6 op) 0 (nI 0) false
def begC (A : TS) (c9 op : Nat) : TS := if tn A 7 op ≠ 2 then begL (begC0 A c9 op) (tn A 17 c9) op (tf A 1) else begC0 A c9 op
theorem begC0_keep (A : TS) (c9 op : Nat) : (∀ j, j ≠ 53 → j ≠ 54 → tf (begC0 A c9 op) j = tf A j) ∧ (∀ j i, j < 45 → j ≠ 18 → tn (begC0 A c9 op) j i = tn A j i) := by
  have h := send_keep (sr (sb (sn A 18 c9 0) 19 c9 false) 1 c9 (nI 0)) 0 (tn A 17 c9) (tn A 5 op) (op + 1) (tn A 6 op) 0 (nI 0) false
  refine ⟨fun j a b => h.1 j a b, fun j i a b => (h.2.1 j i a).trans ?_⟩
  show tn (sn A 18 c9 0) j i = _
  rw [tn_sn, if_neg (fun z => b z.1)]
theorem begC0_NB {K : Nat} {A : TS} {c9 op : Nat} (h : NB K A) (ho : op < K) : NB (K + 1) (begC0 A c9 op) := NB.send (A := sr (sb (sn A 18 c9 0) 19 c9 false) 1 c9 (nI 0)) (h.sn (Nat.zero_le _)).sb.sr (Nat.le_refl _) (Nat.zero_le _) (Nat.le_succ_of_le (h.2 _ _)) (Nat.le_succ_of_le (h.2 _ _)) (by omega) (Nat.le_succ_of_le (h.2 _ _)) (Nat.zero_le _)
set_option maxRecDepth 100000 in
set_option maxHeartbeats 4000000 in
theorem c_sendRequest {l : Launch} {D : va_G} {tc : Nat → ClassId} {ax ay : Nat → Nat → Nat} {A : TS} {S : HS} (hls : l.stackTraces = false) (hS : RA tc (mx ax ay) A S) {c9 : Nat} {op : Nat} {K : Nat}  (hc : c9 < 4) (ho : op < tf A 13) (hB : NB K A) (hK : K < 1800000000) (h9 : 700 ≤ K) {post : Option Value → HS → Prop} (hp : ∀ (S8 : HS) (ay8 : Nat → Nat → Nat), RA tc (mx ax ay8) (begC A c9 op) S8 → post none S8) : CM l D tc yX10_sendRequest cX10_sendRequest 4 (none) 8 8 1520 [.ref (ax 10 0), .ref (ax 2 c9), .ref (ax 6 op)] S post := by
  refine CM.of hls (by decide +kernel) (by simp [Value.category]) (Nat.le_of_ble_eq_true rfl) (fun A0 p e9 s m args below meth c sz h hr hnm hA => ?_)
  have hf3 := hS.2.2.1.2.1
  have h13 := hS.2.2.2.1.2.2.2.1
  refine V.eqL (ls' := [some (.ref (ax 10 0)), some (.ref (ax 2 c9)), some (.ref (ax 6 op)), none]) rfl ?_
  refine V.blk h [(.aload_n 1, 1)] (by decide +kernel) (pc' := 1) (ls' := [some (.ref (ax 10 0)), some (.ref (ax 2 c9)), some (.ref (ax 6 op)), none]) (st' := [.ref (ax 2 c9)]) rfl rfl (Nat.le_of_ble_eq_true rfl) ?_
  refine V.callV h (np := 0) (st := []) (c_forget hls hS (c9 := c9) hc (post := fun v S9 => v = none ∧ RA tc (mx ax ay) (sr (sb (sn A 18 c9 0) 19 c9 false) 1 c9 (nI 0)) S9) (fun S9 h9 => ⟨rfl, h9⟩)) wc_X2_forgetReplies wn_RX2 (Or.inr ⟨_, wm_RX10_270⟩) wi_X2_forgetReplies we_X2_forgetReplies (by decide +kernel) rfl cls_2 (hS.mem (show lv A 2 c9 from hc)) (hS.knd (show lv A 2 c9 from hc)) (Nat.le_of_ble_eq_true rfl) (Nat.le_of_ble_eq_true rfl) (Nat.zero_le _) (Nat.zero_le _) (by simp [Value.category]) (by decide +kernel) rfl (fun v Z1 q9 => ?_)
  obtain ⟨rfl, hq9⟩ := q9
  refine V.gen (P := fun S9 => RA tc (mx ax ay) (sr (sb (sn A 18 c9 0) 19 c9 false) 1 c9 (nI 0)) S9) hq9 (fun S2 hS2 => ?_)
  clear hq9
  obtain ⟨G0, hG0⟩ : ∃ X9 : TS, X9 = (sr (sb (sn A 18 c9 0) 19 c9 false) 1 c9 (nI 0)) := ⟨_, rfl⟩
  rw [← hG0] at hS2
  have g017 : tn G0 17 c9 = tn A 17 c9 := by rw [hG0]; show tn (sn A 18 c9 0) 17 c9 = _; rw [tn_sn, if_neg (by omega)]
  have g05 : tn G0 5 op = tn A 5 op := by rw [hG0]; show tn (sn A 18 c9 0) 5 op = _; rw [tn_sn, if_neg (by omega)]
  have g06 : tn G0 6 op = tn A 6 op := by rw [hG0]; show tn (sn A 18 c9 0) 6 op = _; rw [tn_sn, if_neg (by omega)]
  have g013 : op < tf G0 13 := by rw [hG0]; exact ho
  refine V.blk h [(.aload_n 0, 1)] (by decide +kernel) (pc' := 5) (ls' := [some (.ref (ax 10 0)), some (.ref (ax 2 c9)), some (.ref (ax 6 op)), none]) (st' := [.ref (ax 10 0)]) rfl rfl (Nat.le_of_ble_eq_true rfl) ?_
  refine V.getP h cls_10 (j := 3) rfl (hS2.mem (show lv G0 10 0 from rfl)) (hS2.knd (show lv G0 10 0 from rfl)) (Or.inl wf_RX10_26) (by decide +kernel) (v := some (ax 7 0)) (hS2.ptr (show lv G0 10 0 from rfl) (by decide) (by decide) rfl) ?_
  refine V.eq (S' := S2) (ls' := [some (.ref (ax 10 0)), some (.ref (ax 2 c9)), some (.ref (ax 6 op)), none]) (st' := [.ref (ax 7 0)]) rfl rfl rfl ?_
  refine V.blk h [(.iconst 0, 1), (.aload_n 1, 1)] (by decide +kernel) (pc' := 10) (ls' := [some (.ref (ax 10 0)), some (.ref (ax 2 c9)), some (.ref (ax 6 op)), none]) (st' := [.ref (ax 2 c9), .int (nI (0)), .ref (ax 7 0)]) rfl rfl (Nat.le_of_ble_eq_true rfl) ?_
  refine V.getI h cls_2 (j := 0) rfl (hS2.mem (show lv G0 2 c9 from hc)) (hS2.knd (show lv G0 2 c9 from hc)) (Or.inr ⟨_, wf_RX10_118⟩) (by decide +kernel) (v := nI (tn G0 17 c9)) (hS2.int (show lv G0 2 c9 from hc) (by decide) (by decide) rfl) ?_
  refine V.blk h [(.aload_n 2, 1)] (by decide +kernel) (pc' := 14) (ls' := [some (.ref (ax 10 0)), some (.ref (ax 2 c9)), some (.ref (ax 6 op)), none]) (st' := [.ref (ax 6 op), .int (nI (tn G0 17 c9)), .int (nI (0)), .ref (ax 7 0)]) rfl rfl (Nat.le_of_ble_eq_true rfl) ?_
  refine V.callS h (np := 3) (st := [.ref (ax 7 0)]) (c_toMaster hls hS2 (so := 0) (e := tn G0 17 c9) (op := op) (show lv G0 6 op from g013) (post := fun v S8 => ∃ q8, v = some (.ref q8) ∧ RA tc (mx ax ay) (G0) S8 ∧ LT S8 q8 0 (tn G0 17 c9) (tn G0 5 op) (opA (mx ax ay) (op + 1)) (tn G0 6 op) (nI 0) false) (fun S8 q8 _ _ hr8 hl8 => ⟨q8, rfl, hr8, hl8⟩)) wc_X4_toMaster wn_RX4 (Or.inr ⟨_, wm_RX10_273⟩) wt_X4_toMaster (by decide +kernel) rfl (Nat.le_of_ble_eq_true rfl) (Nat.le_of_ble_eq_true rfl) (by show 0 + 1 ≤ 8; omega) (by show 0 + 7 ≤ 1520; omega) (by simp [Value.category]) (by decide +kernel) rfl (fun v Z3 q9 => ?_)
  obtain ⟨lq4, rfl, hS5, hl6⟩ := q9
  refine V.eq (S' := Z3) (ls' := [some (.ref (ax 10 0)), some (.ref (ax 2 c9)), some (.ref (ax 6 op)), none]) (st' := [.ref lq4, .ref (ax 7 0)]) rfl rfl rfl ?_
  refine V.callV h (np := 1) (st := []) (c_r_send hls hS5 (so := 0) (e := tn G0 17 c9) (to := tn G0 5 op) (op := op + 1) (n := tn G0 6 op) (c9 := 0) (x := nI 0) (sa := false) (q := lq4) (ms := 373) (Nat.succ_le_of_lt (show lv G0 6 op from g013)) hl6 hS5.gc (post := fun v S8 => v = none ∧ ∃ ay8, RA tc (mx ax ay8) (sendF G0 0 (tn G0 17 c9) (tn G0 5 op) (op + 1) (tn G0 6 op) 0 (nI 0) false) S8 ∧ ay8 50 0 = nxM G0 (ay 50 0)) (fun S8 ay8 hr8 hn8 => ⟨rfl, ay8, hr8, hn8⟩)) wc_X7_send wn_RX7 (Or.inr ⟨_, wm_RX10_147⟩) wi_X7_send we_X7_send (by decide +kernel) rfl cls_7 (hS5.mem (show lv G0 7 0 from rfl)) (hS5.knd (show lv G0 7 0 from rfl)) (Nat.le_of_ble_eq_true rfl) (Nat.le_of_ble_eq_true rfl) (by show 1 + 1 ≤ 8; omega) (by show 7 + 373 ≤ 1520; omega) (by simp [Value.category]) (by decide +kernel) rfl (fun v Z7 q9 => ?_)
  obtain ⟨rfl, ay8, hS9, hn10⟩ := q9
  replace hS9 : RA tc (mx ax ay8) (begC0 A c9 op) Z7 := by unfold begC0; rw [← hG0, ← g017, ← g05, ← g06]; exact hS9
  obtain ⟨G1, hG1⟩ : ∃ X9 : TS, X9 = (begC0 A c9 op) := ⟨_, rfl⟩
  rw [← hG1] at hS9
  have kg := begC0_keep A c9 op
  have nbG1 : NB (K + 1) G1 := by rw [hG1]; exact begC0_NB hB (by omega)
  rw [← hG1] at kg
  have g11 : tf G1 1 = tf A 1 := kg.1 1 (by decide) (by decide)
  have g113 : op < tf G1 13 := by rw [kg.1 13 (by decide) (by decide)]; exact ho
  have g117 : tn G1 17 c9 = tn A 17 c9 := kg.2 17 c9 (by decide) (by decide)
  have g17 : tn G1 7 op = tn A 7 op := kg.2 7 op (by decide) (by decide)
  refine V.blk h [(.aload_n 2, 1)] (by decide +kernel) (pc' := 21) (ls' := [some (.ref (ax 10 0)), some (.ref (ax 2 c9)), some (.ref (ax 6 op)), none]) (st' := [.ref (ax 6 op)]) rfl rfl (Nat.le_of_ble_eq_true rfl) ?_
  refine V.callV h (np := 0) (st := []) (c_isUpdate hls hS9 (op := op) (show lv G1 6 op from g113) nbG1 (by omega) (post := fun v S7 => v = some (.int (bI (decide (tn G1 7 op ≠ 2)))) ∧ Z7 = S7) ⟨rfl, rfl⟩) wc_X6_isUpdate wn_RX6 (Or.inr ⟨_, wm_RX10_277⟩) wi_X6_isUpdate we_X6_isUpdate (by decide +kernel) rfl cls_6 (hS9.mem (show lv G1 6 op from g113)) (hS9.knd (show lv G1 6 op from g113)) (Nat.le_of_ble_eq_true rfl) (Nat.le_of_ble_eq_true rfl) (by show (1 + 1) + 0 ≤ 8; omega) (by show (7 + 373) + 0 ≤ 1520; omega) (by simp [Value.category]) (by decide +kernel) rfl (fun v Z11 q9 => ?_)
  obtain ⟨rfl, hS9⟩ := q9
  subst hS9
  refine V.eq (S' := Z7) (ls' := [some (.ref (ax 10 0)), some (.ref (ax 2 c9)), some (.ref (ax 6 op)), none]) (st' := [.int (bI (decide (tn G1 7 op ≠ 2)))]) rfl rfl rfl ?_
  refine V.if_eq h (off := 36) (by decide +kernel) (tgt := 60) (by decide) (fun q => ?_) (fun q => ?_)
  · have q24_40 := (bI_0.mp q)
    clear q
    exact V.vret h hA hr (hp _ _ (by unfold begC; rw [if_neg (by simpa [g17] using q24_40), ← hG1]; exact hS9)) (by decide +kernel) (by omega) (by omega)
  · have q24_40 := (bI_1 (fun z => q (bI_0.mpr z)))
    clear q
    refine V.blk h [(.iconst 0, 1), (.istore_n 3, 1)] (by decide +kernel) (pc' := 29) (ls' := [some (.ref (ax 10 0)), some (.ref (ax 2 c9)), some (.ref (ax 6 op)), some (.int (nI (0)))]) (st' := []) rfl rfl (Nat.le_of_ble_eq_true rfl) ?_
    have loop29 : ∀ (t k : Nat) (S9 : HS) (ay9 : Nat → Nat → Nat), RA tc (mx ax ay9) (begL G1 (tn A 17 c9) op k) S9 → tf A 1 - k = t → k ≤ tf A 1 → V l D tc A0 p e9 (rmd 8 8 1520) s m args below meth c 4 (MQ below (zQ D tc post S sz) args s 8 1520 (zAd S sz)) S9 (2 + 2 * k) (380 + 380 * k) 29 [some (.ref (ax 10 0)), some (.ref (ax 2 c9)), some (.ref (ax 6 op)), some (.int (nI (k)))] [] := by
      intro t; induction t using Nat.strongRecOn with
      | _ t ih29 =>
        intro k S9 ay9 hS9 ht29 hk29
        obtain ⟨G, hG⟩ : ∃ X9 : TS, X9 = (begL G1 (tn A 17 c9) op k) := ⟨_, rfl⟩
        rw [← hG] at hS9
        have kb := begL_keep G1 (tn A 17 c9) op k
        rw [← hG] at kb
        have g1 : tf G 1 = tf A 1 := (kb.1 1 (by decide) (by decide)).trans g11
        have g13 : op < tf G 13 := by rw [kb.1 13 (by decide) (by decide)]; exact g113
        have g17c : tn G 17 c9 = tn A 17 c9 := (kb.2.1 17 c9 (by decide)).trans g117
        refine V.blk h [(.iload_n 3, 1), (.aload_n 0, 1)] (by decide +kernel) (pc' := 31) (ls' := [some (.ref (ax 10 0)), some (.ref (ax 2 c9)), some (.ref (ax 6 op)), some (.int (nI (k)))]) (st' := [.ref (ax 10 0), .int (nI (k))]) rfl rfl (Nat.le_of_ble_eq_true rfl) ?_
        refine V.getP h cls_10 (j := 6) rfl (hS9.mem (show lv G 10 0 from rfl)) (hS9.knd (show lv G 10 0 from rfl)) (Or.inl wf_RX10_45) (by decide +kernel) (v := some (ax 26 0)) (hS9.ptr (show lv G 10 0 from rfl) (by decide) (by decide) rfl) ?_
        refine V.eq (S' := S9) (ls' := [some (.ref (ax 10 0)), some (.ref (ax 2 c9)), some (.ref (ax 6 op)), some (.int (nI (k)))]) (st' := [.ref (ax 26 0), .int (nI (k))]) rfl rfl rfl ?_
        refine V.alen h 26 (hS9.mem (show lv G 26 0 from rfl)) (hS9.knd (show lv G 26 0 from rfl)) (by decide) (M := tf G 1) (hS9.len (show lv G 26 0 from rfl) (by decide)) (by decide +kernel) ?_
        refine V.icmp_ge h (off := 25) (by decide +kernel) (tgt := 60) (by decide) (fun q => ?_) (fun q => ?_)
        · have q35_62 := ((nI_leI (by omega) (by omega)).mp q)
          clear q
          exact V.vret h hA hr (hp _ _ (by unfold begC; rw [if_pos (by simpa [g17] using q24_40), ← hG1, show tf A 1 = k from by omega, ← hG]; exact hS9)) (by decide +kernel) (by omega) (by omega)
        · have q35_62 : ¬ _ := (fun z => q ((nI_leI (by omega) (by omega)).mpr z))
          clear q
          refine V.blk h [(.aload_n 0, 1)] (by decide +kernel) (pc' := 39) (ls' := [some (.ref (ax 10 0)), some (.ref (ax 2 c9)), some (.ref (ax 6 op)), some (.int (nI (k)))]) (st' := [.ref (ax 10 0)]) rfl rfl (Nat.le_of_ble_eq_true rfl) ?_
          refine V.getP h cls_10 (j := 3) rfl (hS9.mem (show lv G 10 0 from rfl)) (hS9.knd (show lv G 10 0 from rfl)) (Or.inl wf_RX10_26) (by decide +kernel) (v := some (ax 7 0)) (hS9.ptr (show lv G 10 0 from rfl) (by decide) (by decide) rfl) ?_
          refine V.eq (S' := S9) (ls' := [some (.ref (ax 10 0)), some (.ref (ax 2 c9)), some (.ref (ax 6 op)), some (.int (nI (k)))]) (st' := [.ref (ax 7 0)]) rfl rfl rfl ?_
          refine V.blk h [(.aload_n 1, 1)] (by decide +kernel) (pc' := 43) (ls' := [some (.ref (ax 10 0)), some (.ref (ax 2 c9)), some (.ref (ax 6 op)), some (.int (nI (k)))]) (st' := [.ref (ax 2 c9), .ref (ax 7 0)]) rfl rfl (Nat.le_of_ble_eq_true rfl) ?_
          refine V.getI h cls_2 (j := 0) rfl (hS9.mem (show lv G 2 c9 from hc)) (hS9.knd (show lv G 2 c9 from hc)) (Or.inr ⟨_, wf_RX10_118⟩) (by decide +kernel) (v := nI (tn G 17 c9)) (hS9.int (show lv G 2 c9 from hc) (by decide) (by decide) rfl) ?_
          refine V.blk h [(.iload_n 3, 1), (.aload_n 2, 1)] (by decide +kernel) (pc' := 48) (ls' := [some (.ref (ax 10 0)), some (.ref (ax 2 c9)), some (.ref (ax 6 op)), some (.int (nI (k)))]) (st' := [.ref (ax 6 op), .int (nI (k)), .int (nI (tn G 17 c9)), .ref (ax 7 0)]) rfl rfl (Nat.le_of_ble_eq_true rfl) ?_
          refine V.callS h (np := 3) (st := [.ref (ax 7 0)]) (c_toRecord hls hS9 (e := tn G 17 c9) (w := k) (op := op) (show lv G 6 op from g13) (post := fun v S8 => ∃ q8, v = some (.ref q8) ∧ RA tc (mx ax ay9) (G) S8 ∧ LT S8 q8 1 (tn G 17 c9) k (opA (mx ax ay9) (op + 1)) (tn G 6 op) (nI 0) false) (fun S8 q8 _ _ hr8 hl8 => ⟨q8, rfl, hr8, hl8⟩)) wc_X4_toRecord wn_RX4 (Or.inr ⟨_, wm_RX10_280⟩) wt_X4_toRecord (by decide +kernel) rfl (Nat.le_of_ble_eq_true rfl) (Nat.le_of_ble_eq_true rfl) (by show (2 + 2 * k) + 1 ≤ 8; omega) (by show (380 + 380 * k) + 7 ≤ 1520; omega) (by simp [Value.category]) (by decide +kernel) rfl (fun v Z12 q9 => ?_)
          obtain ⟨lq13, rfl, hS14, hl15⟩ := q9
          refine V.eq (S' := Z12) (ls' := [some (.ref (ax 10 0)), some (.ref (ax 2 c9)), some (.ref (ax 6 op)), some (.int (nI (k)))]) (st' := [.ref lq13, .ref (ax 7 0)]) rfl rfl rfl ?_
          refine V.callV h (np := 1) (st := []) (c_r_send hls hS14 (so := 1) (e := tn G 17 c9) (to := k) (op := op + 1) (n := tn G 6 op) (c9 := 0) (x := nI 0) (sa := false) (q := lq13) (ms := 373) (Nat.succ_le_of_lt (show lv G 6 op from g13)) hl15 hS14.gc (post := fun v S8 => v = none ∧ ∃ ay8, RA tc (mx ax ay8) (sendF G 1 (tn G 17 c9) k (op + 1) (tn G 6 op) 0 (nI 0) false) S8 ∧ ay8 50 0 = nxM G (ay9 50 0)) (fun S8 ay8 hr8 hn8 => ⟨rfl, ay8, hr8, hn8⟩)) wc_X7_send wn_RX7 (Or.inr ⟨_, wm_RX10_147⟩) wi_X7_send we_X7_send (by decide +kernel) rfl cls_7 (hS14.mem (show lv G 7 0 from rfl)) (hS14.knd (show lv G 7 0 from rfl)) (Nat.le_of_ble_eq_true rfl) (Nat.le_of_ble_eq_true rfl) (by show ((2 + 2 * k) + 1) + 1 ≤ 8; omega) (by show ((380 + 380 * k) + 7) + 373 ≤ 1520; omega) (by simp [Value.category]) (by decide +kernel) rfl (fun v Z16 q9 => ?_)
          obtain ⟨rfl, ay17, hS18, hn19⟩ := q9
          refine V.incN h (x := k) (i := 3) (by decide +kernel) rfl (Nat.le_of_ble_eq_true rfl) ?_
          refine V.eqL (ls' := [some (.ref (ax 10 0)), some (.ref (ax 2 c9)), some (.ref (ax 6 op)), some (.int (nI (k + 1)))]) rfl ?_
          refine V.goto h (off := -28) (tgt := 29) (by decide +kernel) (by decide) ?_
          refine V.eqL (ls' := [some (.ref (ax 10 0)), some (.ref (ax 2 c9)), some (.ref (ax 6 op)), some (.int (nI ((k + 1))))]) rfl ?_
          refine V.widen (k' := 2 + 2 * (k + 1)) (n' := 380 + 380 * (k + 1)) (by omega) (by omega) ?_
          exact ih29 (tf A 1 - (k + 1)) (by omega) (k + 1) Z16 ay17 (by show RA tc _ (sendOpF (begL G1 (tn A 17 c9) op k) 1 (tn A 17 c9) k op) _; unfold sendOpF; rw [← hG, ← g17c]; exact hS18) rfl (by omega)
    refine V.eqL (ls' := [some (.ref (ax 10 0)), some (.ref (ax 2 c9)), some (.ref (ax 6 op)), some (.int (nI (0)))]) rfl ?_
    refine V.widen (k' := 2 + 2 * 0) (n' := 380 + 380 * 0) (by omega) (by omega) ?_
    exact loop29 _ 0 Z7 ay8 (hS9) rfl (Nat.zero_le _)
set_option maxRecDepth 100000 in
set_option maxHeartbeats 4000000 in
theorem c_tryAgain {l : Launch} {D : va_G} {tc : Nat → ClassId} {ax ay : Nat → Nat → Nat} {A : TS} {S : HS} (hls : l.stackTraces = false) (hS : RA tc (mx ax ay) A S) {c9 : Nat} {K : Nat}  (hc : c9 < 4) (hD : ∀ i, tn A 11 i ≠ 1) (hB : NB K A) (hK : K < 1800000000) (h9 : 700 ≤ K) {post : Option Value → HS → Prop} (hp : (opnF A c9 = false → post (some (.int (bI false))) S) ∧ (opnF A c9 = true → ∀ (S8 : HS) (ay8 : Nat → Nat → Nat), RA tc (mx ax ay8) (begC A c9 (tn A 16 c9 - 1)) S8 → post (some (.int (bI true))) S8)) : CM l D tc yX10_tryAgain cX10_tryAgain 3 (some .boolean) 9 8 1520 [.ref (ax 10 0), .ref (ax 2 c9)] S post := by
  refine CM.of hls (by decide +kernel) (by simp [Value.category]) (Nat.le_of_ble_eq_true rfl) (fun A0 p e9 s m args below meth c sz h hr hnm hA => ?_)
  refine V.eqL (ls' := [some (.ref (ax 10 0)), some (.ref (ax 2 c9)), none]) rfl ?_
  by_cases hlat0 : tn A 16 c9 = 0
  · skip
    refine V.blk h [(.aload_n 1, 1)] (by decide +kernel) (pc' := 1) (ls' := [some (.ref (ax 10 0)), some (.ref (ax 2 c9)), none]) (st' := [.ref (ax 2 c9)]) rfl rfl (Nat.le_of_ble_eq_true rfl) ?_
    refine V.getP h cls_2 (j := 1) rfl (hS.mem (show lv A 2 c9 from hc)) (hS.knd (show lv A 2 c9 from hc)) (Or.inr ⟨_, wf_RX10_103⟩) (by decide +kernel) (v := none) ((hS.ptr (show lv A 2 c9 from hc) (by decide) (by decide) rfl).trans (by show opA _ (tn A 16 c9) = none; rw [hlat0]; rfl)) ?_
    refine V.eq (S' := S) (ls' := [some (.ref (ax 10 0)), some (.ref (ax 2 c9)), none]) (st' := [.null]) rfl rfl rfl ?_
    refine V.blk h [(.astore_n 2, 1), (.aload_n 2, 1)] (by decide +kernel) (pc' := 6) (ls' := [some (.ref (ax 10 0)), some (.ref (ax 2 c9)), some (.null)]) (st' := [.null]) rfl rfl (Nat.le_of_ble_eq_true rfl) ?_
    refine V.ifnull h (o := none) (off := 10) (by decide +kernel) (tgt := 16) (by decide) (fun _ => ?_) (fun _ z => by cases z)
    refine V.blk h [(.iconst 0, 1)] (by decide +kernel) (pc' := 17) (ls' := [some (.ref (ax 10 0)), some (.ref (ax 2 c9)), some (.null)]) (st' := [.int (nI (0))]) rfl rfl (Nat.le_of_ble_eq_true rfl) ?_
    refine V.top (v' := .int (bI false)) (by decide) ?_
    exact V.iret h hA hr (bI_nar _) (hp.1 (by unfold opnF; simp [hlat0])) (by decide +kernel) (Nat.zero_le _) (Nat.zero_le _)
  · skip
    refine V.blk h [(.aload_n 1, 1)] (by decide +kernel) (pc' := 1) (ls' := [some (.ref (ax 10 0)), some (.ref (ax 2 c9)), none]) (st' := [.ref (ax 2 c9)]) rfl rfl (Nat.le_of_ble_eq_true rfl) ?_
    refine V.getP h cls_2 (j := 1) rfl (hS.mem (show lv A 2 c9 from hc)) (hS.knd (show lv A 2 c9 from hc)) (Or.inr ⟨_, wf_RX10_103⟩) (by decide +kernel) (v := some (ax 6 (tn A 16 c9 - 1))) ((hS.ptr (show lv A 2 c9 from hc) (by decide) (by decide) rfl).trans (by show opA _ (tn A 16 c9) = _; unfold opA; rw [if_neg hlat0]; rfl)) ?_
    refine V.eq (S' := S) (ls' := [some (.ref (ax 10 0)), some (.ref (ax 2 c9)), none]) (st' := [.ref (ax 6 (tn A 16 c9 - 1))]) rfl rfl rfl ?_
    refine V.blk h [(.astore_n 2, 1), (.aload_n 2, 1)] (by decide +kernel) (pc' := 6) (ls' := [some (.ref (ax 10 0)), some (.ref (ax 2 c9)), some (.ref (ax 6 (tn A 16 c9 - 1)))]) (st' := [.ref (ax 6 (tn A 16 c9 - 1))]) rfl rfl (Nat.le_of_ble_eq_true rfl) ?_
    refine V.ifnull h (o := (some (ax 6 (tn A 16 c9 - 1)))) (off := 10) (by decide +kernel) (tgt := 16) (by decide) (fun z => by cases z) (fun _ _ => ?_)
    refine V.blk h [(.aload_n 2, 1)] (by decide +kernel) (pc' := 10) (ls' := [some (.ref (ax 10 0)), some (.ref (ax 2 c9)), some (.ref (ax 6 (tn A 16 c9 - 1)))]) (st' := [.ref (ax 6 (tn A 16 c9 - 1))]) rfl rfl (Nat.le_of_ble_eq_true rfl) ?_
    refine V.callV h (np := 0) (st := []) (c_isDone hls hS (op := tn A 16 c9 - 1) (show lv A 6 (tn A 16 c9 - 1) from (by have z9 := hS.2.2.2.2.2.1 c9 hc; show tn A 16 c9 - 1 < tf A 13; omega)) hB (by omega) (hD _) (post := fun v S7 => v = some (.int (bI (decide (tn A 11 (tn A 16 c9 - 1) ≠ 0)))) ∧ S = S7) ⟨rfl, rfl⟩) wc_X6_isDone wn_RX6 (Or.inr ⟨_, wm_RX10_267⟩) wi_X6_isDone we_X6_isDone (by decide +kernel) rfl cls_6 (hS.mem (show lv A 6 (tn A 16 c9 - 1) from (by have z9 := hS.2.2.2.2.2.1 c9 hc; show tn A 16 c9 - 1 < tf A 13; omega))) (hS.knd (show lv A 6 (tn A 16 c9 - 1) from (by have z9 := hS.2.2.2.2.2.1 c9 hc; show tn A 16 c9 - 1 < tf A 13; omega))) (Nat.le_of_ble_eq_true rfl) (Nat.le_of_ble_eq_true rfl) (Nat.zero_le _) (Nat.zero_le _) (by simp [Value.category]) (by decide +kernel) rfl (fun v Z1 q9 => ?_)
    obtain ⟨rfl, hS9⟩ := q9
    subst hS9
    refine V.eq (S' := S) (ls' := [some (.ref (ax 10 0)), some (.ref (ax 2 c9)), some (.ref (ax 6 (tn A 16 c9 - 1)))]) (st' := [.int (bI (decide (tn A 11 (tn A 16 c9 - 1) ≠ 0)))]) rfl rfl rfl ?_
    refine V.if_eq h (off := 5) (by decide +kernel) (tgt := 18) (by decide) (fun q => ?_) (fun q => ?_)
    · have q13_22 := (Decidable.of_not_not (of_decide_eq_false (bI_0.mp q)))
      clear q
      refine V.blk h [(.aload_n 0, 1), (.aload_n 1, 1), (.aload_n 2, 1)] (by decide +kernel) (pc' := 21) (ls' := [some (.ref (ax 10 0)), some (.ref (ax 2 c9)), some (.ref (ax 6 (tn A 16 c9 - 1)))]) (st' := [.ref (ax 6 (tn A 16 c9 - 1)), .ref (ax 2 c9), .ref (ax 10 0)]) rfl rfl (Nat.le_of_ble_eq_true rfl) ?_
      refine V.callV h (np := 2) (st := []) (c_sendRequest hls hS (c9 := c9) (op := tn A 16 c9 - 1) hc (show lv A 6 (tn A 16 c9 - 1) from (by have z9 := hS.2.2.2.2.2.1 c9 hc; show tn A 16 c9 - 1 < tf A 13; omega)) hB hK h9 (post := fun v S8 => v = none ∧ ∃ ay8, RA tc (mx ax ay8) (begC A c9 (tn A 16 c9 - 1)) S8) (fun S8 ay8 hr8 => ⟨rfl, ay8, hr8⟩)) wc_X10_sendRequest wn_RX10 (Or.inl wm_RX10_107) wi_X10_sendRequest we_X10_sendRequest (by decide +kernel) rfl cls_10 (hS.mem (show lv A 10 0 from rfl)) (hS.knd (show lv A 10 0 from rfl)) (Nat.le_of_ble_eq_true rfl) (Nat.le_of_ble_eq_true rfl) (by show 0 + 8 ≤ 8; omega) (by show 0 + 1520 ≤ 1520; omega) (by simp [Value.category]) (by decide +kernel) rfl (fun v Z2 q9 => ?_)
      obtain ⟨rfl, ay3, hS4⟩ := q9
      refine V.blk h [(.iconst 1, 1)] (by decide +kernel) (pc' := 25) (ls' := [some (.ref (ax 10 0)), some (.ref (ax 2 c9)), some (.ref (ax 6 (tn A 16 c9 - 1)))]) (st' := [.int (nI (1))]) rfl rfl (Nat.le_of_ble_eq_true rfl) ?_
      refine V.top (v' := .int (bI true)) (by decide) ?_
      exact V.iret h hA hr (bI_nar _) (hp.2 (by unfold opnF; simp [hlat0, q13_22]) _ _ hS4) (by decide +kernel) (by omega) (by omega)
    · have q13_22 := (of_decide_eq_true (bI_1 (fun z => q (bI_0.mpr z))))
      clear q
      refine V.blk h [(.iconst 0, 1)] (by decide +kernel) (pc' := 17) (ls' := [some (.ref (ax 10 0)), some (.ref (ax 2 c9)), some (.ref (ax 6 (tn A 16 c9 - 1)))]) (st' := [.int (nI (0))]) rfl rfl (Nat.le_of_ble_eq_true rfl) ?_
      refine V.top (v' := .int (bI false)) (by decide) ?_
      exact V.iret h hA hr (bI_nar _) (hp.1 (by unfold opnF; simp [hlat0, q13_22])) (by decide +kernel) (Nat.zero_le _) (Nat.zero_le _)
def finC (A : TS) (c9 op : Nat) : TS := sf (sr (sn (sf A 14 (tf A 14 + 1)) 11 op (tf A 14 + 1 + 1)) 12 op (tr A 1 c9)) 15 (tf A 15 + 1)
def fiaC (A : TS) (c9 op : Nat) : TS := if tb A 19 c9 = true ∧ tn A 18 c9 = 2 ^ tf A 1 - 1 ∧ tn A 7 op ≠ 2 then sn (finC A c9 op) 21 c9 (tn A 21 c9 + 1) else A
def ranC (A : TS) (c9 op : Nat) (x : Int32) (sa : Bool) : TS := if sa = true then finC (sr (sb A 19 c9 true) 1 c9 x) c9 op else fiaC (sr (sb A 19 c9 true) 1 c9 x) c9 op
set_option maxRecDepth 100000 in
set_option maxHeartbeats 4000000 in
theorem c_finish {l : Launch} {D : va_G} {tc : Nat → ClassId} {ax ay : Nat → Nat → Nat} {A : TS} {S : HS} (hls : l.stackTraces = false) (hS : RA tc (mx ax ay) A S) {c9 : Nat} {op : Nat}  (hc : c9 < 4) (ho : op < tf A 13) {post : Option Value → HS → Prop} (hp : ∀ (S8 : HS), RA tc (mx ax ay) (finC A c9 op) S8 → post none S8) : CM l D tc yX10_finish cX10_finish 3 (none) 0 0 0 [.ref (ax 10 0), .ref (ax 2 c9), .ref (ax 6 op)] S post := by
  refine CM.of hls (by decide +kernel) (by simp [Value.category]) (Nat.le_of_ble_eq_true rfl) (fun A0 p e9 s m args below meth c sz h hr hnm hA => ?_)
  refine V.eqL (ls' := [some (.ref (ax 10 0)), some (.ref (ax 2 c9)), some (.ref (ax 6 op))]) rfl ?_
  refine V.blk h [(.aload_n 0, 1), (.dup, 1)] (by decide +kernel) (pc' := 2) (ls' := [some (.ref (ax 10 0)), some (.ref (ax 2 c9)), some (.ref (ax 6 op))]) (st' := [.ref (ax 10 0), .ref (ax 10 0)]) rfl rfl (Nat.le_of_ble_eq_true rfl) ?_
  refine V.getI h cls_10 (j := 10) rfl (hS.mem (show lv A 10 0 from rfl)) (hS.knd (show lv A 10 0 from rfl)) (Or.inl wf_RX10_97) (by decide +kernel) (v := nI (tf A 14)) (hS.int (show lv A 10 0 from rfl) (by decide) (by decide) rfl) ?_
  refine V.blk h [(.iconst 1, 1)] (by decide +kernel) (pc' := 6) (ls' := [some (.ref (ax 10 0)), some (.ref (ax 2 c9)), some (.ref (ax 6 op))]) (st' := [.int (nI (1)), .int (nI (tf A 14)), .ref (ax 10 0)]) rfl rfl (Nat.le_of_ble_eq_true rfl) ?_
  refine V.addN h (by decide +kernel) (Nat.le_of_ble_eq_true rfl) ?_
  refine V.putI h cls_10 (j := 10) rfl (hS.mem (show lv A 10 0 from rfl)) (hS.knd (show lv A 10 0 from rfl)) (Or.inl wf_RX10_97) rfl rfl rfl (by decide +kernel) ?_
  refine V.gen (P := fun S9 => RA tc (mx ax ay) (sf A 14 ((tf A 14) + 1)) S9) (hS.p_10_10 (v := ((tf A 14) + 1))) (fun S1 hS1 => ?_)
  refine V.blk h [(.aload_n 2, 1), (.aload_n 0, 1)] (by decide +kernel) (pc' := 12) (ls' := [some (.ref (ax 10 0)), some (.ref (ax 2 c9)), some (.ref (ax 6 op))]) (st' := [.ref (ax 10 0), .ref (ax 6 op)]) rfl rfl (Nat.le_of_ble_eq_true rfl) ?_
  refine V.getI h cls_10 (j := 10) rfl (hS1.mem (show lv (sf A 14 ((tf A 14) + 1)) 10 0 from rfl)) (hS1.knd (show lv (sf A 14 ((tf A 14) + 1)) 10 0 from rfl)) (Or.inl wf_RX10_97) (by decide +kernel) (v := nI (tf (sf A 14 ((tf A 14) + 1)) 14)) (hS1.int (show lv (sf A 14 ((tf A 14) + 1)) 10 0 from rfl) (by decide) (by decide) rfl) ?_
  refine V.putI h cls_6 (j := 6) rfl (hS1.mem (show lv (sf A 14 ((tf A 14) + 1)) 6 op from ho)) (hS1.knd (show lv (sf A 14 ((tf A 14) + 1)) 6 op from ho)) (Or.inr ⟨_, wf_RX10_343⟩) rfl rfl rfl (by decide +kernel) ?_
  refine V.gen (P := fun S9 => RA tc (mx ax ay) (sn (sf A 14 ((tf A 14) + 1)) 11 op ((tf (sf A 14 ((tf A 14) + 1)) 14) + 1)) S9) (hS1.p_6_6 (i := op) (v := (tf (sf A 14 ((tf A 14) + 1)) 14)) (show lv (sf A 14 ((tf A 14) + 1)) 6 op from ho)) (fun S2 hS2 => ?_)
  refine V.blk h [(.aload_n 2, 1), (.aload_n 1, 1)] (by decide +kernel) (pc' := 20) (ls' := [some (.ref (ax 10 0)), some (.ref (ax 2 c9)), some (.ref (ax 6 op))]) (st' := [.ref (ax 2 c9), .ref (ax 6 op)]) rfl rfl (Nat.le_of_ble_eq_true rfl) ?_
  refine V.getI h cls_2 (j := 4) rfl (hS2.mem (show lv (sn (sf A 14 ((tf A 14) + 1)) 11 op ((tf (sf A 14 ((tf A 14) + 1)) 14) + 1)) 2 c9 from hc)) (hS2.knd (show lv (sn (sf A 14 ((tf A 14) + 1)) 11 op ((tf (sf A 14 ((tf A 14) + 1)) 14) + 1)) 2 c9 from hc)) (Or.inr ⟨_, wf_RX10_334⟩) (by decide +kernel) (v := tr (sn (sf A 14 ((tf A 14) + 1)) 11 op ((tf (sf A 14 ((tf A 14) + 1)) 14) + 1)) 1 c9) (hS2.int (show lv (sn (sf A 14 ((tf A 14) + 1)) 11 op ((tf (sf A 14 ((tf A 14) + 1)) 14) + 1)) 2 c9 from hc) (by decide) (by decide) rfl) ?_
  refine V.putI h cls_6 (j := 7) rfl (hS2.mem (show lv (sn (sf A 14 ((tf A 14) + 1)) 11 op ((tf (sf A 14 ((tf A 14) + 1)) 14) + 1)) 6 op from ho)) (hS2.knd (show lv (sn (sf A 14 ((tf A 14) + 1)) 11 op ((tf (sf A 14 ((tf A 14) + 1)) 14) + 1)) 6 op from ho)) (Or.inr ⟨_, wf_RX10_346⟩) rfl rfl rfl (by decide +kernel) ?_
  refine V.gen (P := fun S9 => RA tc (mx ax ay) (sr (sn (sf A 14 ((tf A 14) + 1)) 11 op ((tf (sf A 14 ((tf A 14) + 1)) 14) + 1)) 12 op (tr (sn (sf A 14 ((tf A 14) + 1)) 11 op ((tf (sf A 14 ((tf A 14) + 1)) 14) + 1)) 1 c9)) S9) (hS2.p_6_7 (i := op) (v := tr (sn (sf A 14 ((tf A 14) + 1)) 11 op ((tf (sf A 14 ((tf A 14) + 1)) 14) + 1)) 1 c9) (show lv (sn (sf A 14 ((tf A 14) + 1)) 11 op ((tf (sf A 14 ((tf A 14) + 1)) 14) + 1)) 6 op from ho)) (fun S3 hS3 => ?_)
  refine V.blk h [(.aload_n 0, 1), (.dup, 1)] (by decide +kernel) (pc' := 28) (ls' := [some (.ref (ax 10 0)), some (.ref (ax 2 c9)), some (.ref (ax 6 op))]) (st' := [.ref (ax 10 0), .ref (ax 10 0)]) rfl rfl (Nat.le_of_ble_eq_true rfl) ?_
  refine V.getI h cls_10 (j := 9) rfl (hS3.mem (show lv (sr (sn (sf A 14 ((tf A 14) + 1)) 11 op ((tf (sf A 14 ((tf A 14) + 1)) 14) + 1)) 12 op (tr (sn (sf A 14 ((tf A 14) + 1)) 11 op ((tf (sf A 14 ((tf A 14) + 1)) 14) + 1)) 1 c9)) 10 0 from rfl)) (hS3.knd (show lv (sr (sn (sf A 14 ((tf A 14) + 1)) 11 op ((tf (sf A 14 ((tf A 14) + 1)) 14) + 1)) 12 op (tr (sn (sf A 14 ((tf A 14) + 1)) 11 op ((tf (sf A 14 ((tf A 14) + 1)) 14) + 1)) 1 c9)) 10 0 from rfl)) (Or.inl wf_RX10_247) (by decide +kernel) (v := nI (tf (sr (sn (sf A 14 ((tf A 14) + 1)) 11 op ((tf (sf A 14 ((tf A 14) + 1)) 14) + 1)) 12 op (tr (sn (sf A 14 ((tf A 14) + 1)) 11 op ((tf (sf A 14 ((tf A 14) + 1)) 14) + 1)) 1 c9)) 15)) (hS3.int (show lv (sr (sn (sf A 14 ((tf A 14) + 1)) 11 op ((tf (sf A 14 ((tf A 14) + 1)) 14) + 1)) 12 op (tr (sn (sf A 14 ((tf A 14) + 1)) 11 op ((tf (sf A 14 ((tf A 14) + 1)) 14) + 1)) 1 c9)) 10 0 from rfl) (by decide) (by decide) rfl) ?_
  refine V.blk h [(.iconst 1, 1)] (by decide +kernel) (pc' := 32) (ls' := [some (.ref (ax 10 0)), some (.ref (ax 2 c9)), some (.ref (ax 6 op))]) (st' := [.int (nI (1)), .int (nI (tf (sr (sn (sf A 14 ((tf A 14) + 1)) 11 op ((tf (sf A 14 ((tf A 14) + 1)) 14) + 1)) 12 op (tr (sn (sf A 14 ((tf A 14) + 1)) 11 op ((tf (sf A 14 ((tf A 14) + 1)) 14) + 1)) 1 c9)) 15)), .ref (ax 10 0)]) rfl rfl (Nat.le_of_ble_eq_true rfl) ?_
  refine V.addN h (by decide +kernel) (Nat.le_of_ble_eq_true rfl) ?_
  refine V.putI h cls_10 (j := 9) rfl (hS3.mem (show lv (sr (sn (sf A 14 ((tf A 14) + 1)) 11 op ((tf (sf A 14 ((tf A 14) + 1)) 14) + 1)) 12 op (tr (sn (sf A 14 ((tf A 14) + 1)) 11 op ((tf (sf A 14 ((tf A 14) + 1)) 14) + 1)) 1 c9)) 10 0 from rfl)) (hS3.knd (show lv (sr (sn (sf A 14 ((tf A 14) + 1)) 11 op ((tf (sf A 14 ((tf A 14) + 1)) 14) + 1)) 12 op (tr (sn (sf A 14 ((tf A 14) + 1)) 11 op ((tf (sf A 14 ((tf A 14) + 1)) 14) + 1)) 1 c9)) 10 0 from rfl)) (Or.inl wf_RX10_247) rfl rfl rfl (by decide +kernel) ?_
  refine V.gen (P := fun S9 => RA tc (mx ax ay) (sf (sr (sn (sf A 14 ((tf A 14) + 1)) 11 op ((tf (sf A 14 ((tf A 14) + 1)) 14) + 1)) 12 op (tr (sn (sf A 14 ((tf A 14) + 1)) 11 op ((tf (sf A 14 ((tf A 14) + 1)) 14) + 1)) 1 c9)) 15 ((tf (sr (sn (sf A 14 ((tf A 14) + 1)) 11 op ((tf (sf A 14 ((tf A 14) + 1)) 14) + 1)) 12 op (tr (sn (sf A 14 ((tf A 14) + 1)) 11 op ((tf (sf A 14 ((tf A 14) + 1)) 14) + 1)) 1 c9)) 15) + 1)) S9) (hS3.p_10_9 (v := ((tf (sr (sn (sf A 14 ((tf A 14) + 1)) 11 op ((tf (sf A 14 ((tf A 14) + 1)) 14) + 1)) 12 op (tr (sn (sf A 14 ((tf A 14) + 1)) 11 op ((tf (sf A 14 ((tf A 14) + 1)) 14) + 1)) 1 c9)) 15) + 1))) (fun S4 hS4 => ?_)
  exact V.vret h hA hr (hp _ hS4) (by decide +kernel) (Nat.zero_le _) (Nat.zero_le _)
set_option maxRecDepth 100000 in
set_option maxHeartbeats 4000000 in
theorem c_finishIfAccepted {l : Launch} {D : va_G} {tc : Nat → ClassId} {ax ay : Nat → Nat → Nat} {A : TS} {S : HS} (hls : l.stackTraces = false) (hS : RA tc (mx ax ay) A S) {c9 : Nat} {op : Nat} {K : Nat}  (hc : c9 < 4) (ho : op < tf A 13) (h18 : tn A 18 c9 < 2 ^ tf A 1) (hB : NB K A) (hK : K < 1800000000) (h9 : 700 ≤ K) {post : Option Value → HS → Prop} (hp : ∀ (S8 : HS), RA tc (mx ax ay) (fiaC A c9 op) S8 → post none S8) : CM l D tc yX10_finishIfAccepted cX10_finishIfAccepted 4 (none) 1 0 0 [.ref (ax 10 0), .ref (ax 2 c9), .ref (ax 6 op)] S post := by
  refine CM.of hls (by decide +kernel) (by simp [Value.category]) (Nat.le_of_ble_eq_true rfl) (fun A0 p e9 s m args below meth c sz h hr hnm hA => ?_)
  have hf3 := hS.2.2.1.2.1
  have hp3 := pow3 hf3
  refine V.eqL (ls' := [some (.ref (ax 10 0)), some (.ref (ax 2 c9)), some (.ref (ax 6 op)), none]) rfl ?_
  refine V.blk h [(.aload_n 1, 1)] (by decide +kernel) (pc' := 1) (ls' := [some (.ref (ax 10 0)), some (.ref (ax 2 c9)), some (.ref (ax 6 op)), none]) (st' := [.ref (ax 2 c9)]) rfl rfl (Nat.le_of_ble_eq_true rfl) ?_
  refine V.getI h cls_2 (j := 2) rfl (hS.mem (show lv A 2 c9 from hc)) (hS.knd (show lv A 2 c9 from hc)) (Or.inr ⟨_, wf_RX10_211⟩) (by decide +kernel) (v := nI (tn A 18 c9)) (hS.int (show lv A 2 c9 from hc) (by decide) (by decide) rfl) ?_
  have nb5 := hB.2 18 c9
  refine V.callS h (np := 1) (st := []) (m_bitCount hls (post := fun v S7 => v = some (.int (bcF (nI (tn A 18 c9)))) ∧ S = S7) ⟨rfl, rfl⟩) wc_J6_bitCount_0f7a4 wn_RJ6 (Or.inl wm_RX10_214) wt_J6_bitCount_0f7a4 (by decide +kernel) rfl (Nat.le_of_ble_eq_true rfl) (Nat.le_of_ble_eq_true rfl) (Nat.zero_le _) (Nat.zero_le _) (by simp [Value.category]) (by decide +kernel) rfl (fun v Z1 q9 => ?_)
  obtain ⟨rfl, hS9⟩ := q9
  subst hS9
  refine V.eq (S' := S) (ls' := [some (.ref (ax 10 0)), some (.ref (ax 2 c9)), some (.ref (ax 6 op)), none]) (st' := [.int (bcF (nI (tn A 18 c9)))]) rfl rfl rfl ?_
  refine V.blk h [(.aload_n 0, 1)] (by decide +kernel) (pc' := 8) (ls' := [some (.ref (ax 10 0)), some (.ref (ax 2 c9)), some (.ref (ax 6 op)), none]) (st' := [.ref (ax 10 0), .int (bcF (nI (tn A 18 c9)))]) rfl rfl (Nat.le_of_ble_eq_true rfl) ?_
  refine V.getP h cls_10 (j := 6) rfl (hS.mem (show lv A 10 0 from rfl)) (hS.knd (show lv A 10 0 from rfl)) (Or.inl wf_RX10_45) (by decide +kernel) (v := some (ax 26 0)) (hS.ptr (show lv A 10 0 from rfl) (by decide) (by decide) rfl) ?_
  refine V.eq (S' := S) (ls' := [some (.ref (ax 10 0)), some (.ref (ax 2 c9)), some (.ref (ax 6 op)), none]) (st' := [.ref (ax 26 0), .int (bcF (nI (tn A 18 c9)))]) rfl rfl rfl ?_
  refine V.alen h 26 (hS.mem (show lv A 26 0 from rfl)) (hS.knd (show lv A 26 0 from rfl)) (by decide) (M := tf A 1) (hS.len (show lv A 26 0 from rfl) (by decide)) (by decide +kernel) ?_
  refine V.icmp_ne h (off := 7) (by decide +kernel) (tgt := 19) (by decide) (fun q => ?_) (fun q => ?_)
  · have q12_14 := q
    clear q
    have q12_14b : ¬ _ := fun z => q12_14 ((bc_all (by omega) hf3 h18).mpr z)
    refine V.blk h [(.iconst 0, 1), (.istore_n 3, 1), (.aload_n 1, 1)] (by decide +kernel) (pc' := 22) (ls' := [some (.ref (ax 10 0)), some (.ref (ax 2 c9)), some (.ref (ax 6 op)), some (.int (nI (0)))]) (st' := [.ref (ax 2 c9)]) rfl rfl (Nat.le_of_ble_eq_true rfl) ?_
    refine V.getI h cls_2 (j := 3) rfl (hS.mem (show lv A 2 c9 from hc)) (hS.knd (show lv A 2 c9 from hc)) (Or.inr ⟨_, wf_RX10_220⟩) (by decide +kernel) (v := bI (tb A 19 c9)) (hS.int (show lv A 2 c9 from hc) (by decide) (by decide) rfl) ?_
    refine V.if_eq h (off := 30) (by decide +kernel) (tgt := 55) (by decide) (fun q => ?_) (fun q => ?_)
    · have q25_20 := (bI_0.mp q)
      clear q
      exact V.vret h hA hr (hp _ (by unfold fiaC; rw [if_neg (by simp [q12_14b, q25_20])]; exact hS)) (by decide +kernel) (Nat.zero_le _) (Nat.zero_le _)
    · have q25_20 := (bI_1 (fun z => q (bI_0.mpr z)))
      clear q
      refine V.blk h [(.iload_n 3, 1)] (by decide +kernel) (pc' := 29) (ls' := [some (.ref (ax 10 0)), some (.ref (ax 2 c9)), some (.ref (ax 6 op)), some (.int (nI (0)))]) (st' := [.int (nI (0))]) rfl rfl (Nat.le_of_ble_eq_true rfl) ?_
      refine V.if_eq h (off := 26) (by decide +kernel) (tgt := 55) (by decide) (fun _ => ?_) (fun q => absurd (by decide) q)
      exact V.vret h hA hr (hp _ (by unfold fiaC; rw [if_neg (by simp [q12_14b, q25_20])]; exact hS)) (by decide +kernel) (Nat.zero_le _) (Nat.zero_le _)
  · have q12_14 := q
    clear q
    have q12_14b := (bc_all (by omega) hf3 h18).mp q12_14
    refine V.blk h [(.iconst 1, 1)] (by decide +kernel) (pc' := 16) (ls' := [some (.ref (ax 10 0)), some (.ref (ax 2 c9)), some (.ref (ax 6 op)), none]) (st' := [.int (nI (1))]) rfl rfl (Nat.le_of_ble_eq_true rfl) ?_
    refine V.goto h (off := 4) (tgt := 20) (by decide +kernel) (by decide) ?_
    refine V.blk h [(.istore_n 3, 1), (.aload_n 1, 1)] (by decide +kernel) (pc' := 22) (ls' := [some (.ref (ax 10 0)), some (.ref (ax 2 c9)), some (.ref (ax 6 op)), some (.int (nI (1)))]) (st' := [.ref (ax 2 c9)]) rfl rfl (Nat.le_of_ble_eq_true rfl) ?_
    refine V.getI h cls_2 (j := 3) rfl (hS.mem (show lv A 2 c9 from hc)) (hS.knd (show lv A 2 c9 from hc)) (Or.inr ⟨_, wf_RX10_220⟩) (by decide +kernel) (v := bI (tb A 19 c9)) (hS.int (show lv A 2 c9 from hc) (by decide) (by decide) rfl) ?_
    refine V.if_eq h (off := 30) (by decide +kernel) (tgt := 55) (by decide) (fun q => ?_) (fun q => ?_)
    · have q25_36 := (bI_0.mp q)
      clear q
      exact V.vret h hA hr (hp _ (by unfold fiaC; rw [if_neg (by simp [q12_14b, q25_36])]; exact hS)) (by decide +kernel) (Nat.zero_le _) (Nat.zero_le _)
    · have q25_36 := (bI_1 (fun z => q (bI_0.mpr z)))
      clear q
      refine V.blk h [(.iload_n 3, 1)] (by decide +kernel) (pc' := 29) (ls' := [some (.ref (ax 10 0)), some (.ref (ax 2 c9)), some (.ref (ax 6 op)), some (.int (nI (1)))]) (st' := [.int (nI (1))]) rfl rfl (Nat.le_of_ble_eq_true rfl) ?_
      refine V.if_eq h (off := 26) (by decide +kernel) (tgt := 55) (by decide) (fun q => absurd q (by decide)) (fun _ => ?_)
      refine V.blk h [(.aload_n 2, 1)] (by decide +kernel) (pc' := 33) (ls' := [some (.ref (ax 10 0)), some (.ref (ax 2 c9)), some (.ref (ax 6 op)), some (.int (nI (1)))]) (st' := [.ref (ax 6 op)]) rfl rfl (Nat.le_of_ble_eq_true rfl) ?_
      refine V.callV h (np := 0) (st := []) (c_isUpdate hls hS (op := op) (show lv A 6 op from ho) hB (by omega) (post := fun v S7 => v = some (.int (bI (decide (tn A 7 op ≠ 2)))) ∧ S = S7) ⟨rfl, rfl⟩) wc_X6_isUpdate wn_RX6 (Or.inr ⟨_, wm_RX10_277⟩) wi_X6_isUpdate we_X6_isUpdate (by decide +kernel) rfl cls_6 (hS.mem (show lv A 6 op from ho)) (hS.knd (show lv A 6 op from ho)) (Nat.le_of_ble_eq_true rfl) (Nat.le_of_ble_eq_true rfl) (Nat.zero_le _) (Nat.zero_le _) (by simp [Value.category]) (by decide +kernel) rfl (fun v Z2 q9 => ?_)
      obtain ⟨rfl, hS9⟩ := q9
      subst hS9
      refine V.eq (S' := S) (ls' := [some (.ref (ax 10 0)), some (.ref (ax 2 c9)), some (.ref (ax 6 op)), some (.int (nI (1)))]) (st' := [.int (bI (decide (tn A 7 op ≠ 2)))]) rfl rfl rfl ?_
      refine V.if_eq h (off := 19) (by decide +kernel) (tgt := 55) (by decide) (fun q => ?_) (fun q => ?_)
      · have q36_49 := (Decidable.of_not_not (of_decide_eq_false (bI_0.mp q)))
        clear q
        exact V.vret h hA hr (hp _ (by unfold fiaC; rw [if_neg (by simp [q12_14b, q25_36, q36_49])]; exact hS)) (by decide +kernel) (Nat.zero_le _) (Nat.zero_le _)
      · have q36_49 := (of_decide_eq_true (bI_1 (fun z => q (bI_0.mpr z))))
        clear q
        refine V.blk h [(.aload_n 0, 1), (.aload_n 1, 1), (.aload_n 2, 1)] (by decide +kernel) (pc' := 42) (ls' := [some (.ref (ax 10 0)), some (.ref (ax 2 c9)), some (.ref (ax 6 op)), some (.int (nI (1)))]) (st' := [.ref (ax 6 op), .ref (ax 2 c9), .ref (ax 10 0)]) rfl rfl (Nat.le_of_ble_eq_true rfl) ?_
        refine V.callV h (np := 2) (st := []) (c_finish hls hS (c9 := c9) (op := op) hc (show op < tf A 13 from ho) (post := fun v S9 => v = none ∧ RA tc (mx ax ay) (finC A c9 op) S9) (fun S9 h9 => ⟨rfl, h9⟩)) wc_X10_finish wn_RX10 (Or.inl wm_RX10_340) wi_X10_finish we_X10_finish (by decide +kernel) rfl cls_10 (hS.mem (show lv A 10 0 from rfl)) (hS.knd (show lv A 10 0 from rfl)) (Nat.le_of_ble_eq_true rfl) (Nat.le_of_ble_eq_true rfl) (Nat.zero_le _) (Nat.zero_le _) (by simp [Value.category]) (by decide +kernel) rfl (fun v Z3 q9 => ?_)
        obtain ⟨rfl, hq9⟩ := q9
        refine V.gen (P := fun S9 => RA tc (mx ax ay) (finC A c9 op) S9) hq9 (fun S4 hS4 => ?_)
        clear hq9
        refine V.blk h [(.aload_n 1, 1), (.dup, 1)] (by decide +kernel) (pc' := 47) (ls' := [some (.ref (ax 10 0)), some (.ref (ax 2 c9)), some (.ref (ax 6 op)), some (.int (nI (1)))]) (st' := [.ref (ax 2 c9), .ref (ax 2 c9)]) rfl rfl (Nat.le_of_ble_eq_true rfl) ?_
        refine V.getI h cls_2 (j := 5) rfl (hS4.mem (show lv (finC A c9 op) 2 c9 from hc)) (hS4.knd (show lv (finC A c9 op) 2 c9 from hc)) (Or.inr ⟨_, wf_RX10_223⟩) (by decide +kernel) (v := nI (tn (finC A c9 op) 21 c9)) (hS4.int (show lv (finC A c9 op) 2 c9 from hc) (by decide) (by decide) rfl) ?_
        have nb62 := hB.2 21 c9
        refine V.blk h [(.iconst 1, 1)] (by decide +kernel) (pc' := 51) (ls' := [some (.ref (ax 10 0)), some (.ref (ax 2 c9)), some (.ref (ax 6 op)), some (.int (nI (1)))]) (st' := [.int (nI (1)), .int (nI (tn (finC A c9 op) 21 c9)), .ref (ax 2 c9)]) rfl rfl (Nat.le_of_ble_eq_true rfl) ?_
        refine V.addN h (by decide +kernel) (Nat.le_of_ble_eq_true rfl) ?_
        refine V.putI h cls_2 (j := 5) rfl (hS4.mem (show lv (finC A c9 op) 2 c9 from hc)) (hS4.knd (show lv (finC A c9 op) 2 c9 from hc)) (Or.inr ⟨_, wf_RX10_223⟩) rfl rfl rfl (by decide +kernel) ?_
        refine V.gen (P := fun S9 => RA tc (mx ax ay) (sn (finC A c9 op) 21 c9 ((tn (finC A c9 op) 21 c9) + 1)) S9) (hS4.p_2_5 (i := c9) (v := ((tn (finC A c9 op) 21 c9) + 1)) (show lv (finC A c9 op) 2 c9 from hc)) (fun S5 hS5 => ?_)
        exact V.vret h hA hr (hp _ (by unfold fiaC; rw [if_pos (by simp [q12_14b, q25_36, q36_49])]; exact hS5)) (by decide +kernel) (Nat.zero_le _) (Nat.zero_le _)
