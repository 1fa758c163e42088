/-! ===== letters are read ===== -/
theorem lfr.trans {S T U : HS} (h : lfr S T) (k : lfr T U) : lfr S U := fun x h1 h2 => by
  obtain ⟨a1, a2, a3⟩ := h x h1 h2
  obtain ⟨b1, b2, b3⟩ := k x a1 a2
  exact ⟨b1, b2, fun g p q => ⟨(b3 g p q).1.trans (a3 g p q).1, (b3 g p q).2.trans (a3 g p q).2⟩⟩
set_option maxRecDepth 100000 in
set_option maxHeartbeats 4000000 in
theorem c_readAnswer {l : Launch} {D : va_G} {tc : Nat → ClassId} {ax ay : Nat → Nat → Nat} {A : TS} {S : HS} (hls : l.stackTraces = false) (hS : RA tc (mx ax ay) A S) {c9 : Nat} {op : Nat} {q : Nat} {e : Nat} {n : Nat} {x : Int32} {sa : Bool} {K : Nat}  (hc : c9 < 4) (ho : op < tf A 13) (hq : LT S q 2 e c9 (opA (mx ax ay) (op + 1)) n x sa) (h18 : tn A 18 c9 < 2 ^ tf A 1) (hB : NB K A) (hK : K < 1800000000) (h9 : 700 ≤ K) {post : Option Value → HS → Prop} (hp : ∀ (S8 : HS), RA tc (mx ax ay) (ranC A c9 op x sa) S8 → post none S8) : CM l D tc yX10_readAnswer cX10_readAnswer 4 (none) 2 0 0 [.ref (ax 10 0), .ref (ax 2 c9), .ref (ax 6 op), .ref q] S post := by
  refine CM.of hls (by decide +kernel) (by simp [Value.category]) (Nat.le_of_ble_eq_true rfl) (fun A0 p e9 s m args below meth c sz h hr hnm hA => ?_)
  refine V.eqL (ls' := [some (.ref (ax 10 0)), some (.ref (ax 2 c9)), some (.ref (ax 6 op)), some (.ref q)]) rfl ?_
  refine V.blk h [(.aload_n 1, 1), (.iconst 1, 1)] (by decide +kernel) (pc' := 2) (ls' := [some (.ref (ax 10 0)), some (.ref (ax 2 c9)), some (.ref (ax 6 op)), some (.ref q)]) (st' := [.int (nI (1)), .ref (ax 2 c9)]) rfl rfl (Nat.le_of_ble_eq_true rfl) ?_
  refine V.top (v' := .int (bI true)) (by decide) ?_
  refine V.putI h cls_2 (j := 3) rfl (hS.mem (show lv A 2 c9 from hc)) (hS.knd (show lv A 2 c9 from hc)) (Or.inr ⟨_, wf_RX10_220⟩) rfl (bI_nar _) (bI_fit _) (by decide +kernel) ?_
  refine V.gen (P := fun S9 => RA tc (mx ax ay) (sb A 19 c9 true) S9 ∧ lfr S S9) ⟨(hS.p_2_3 (i := c9) (v := true) (show lv A 2 c9 from hc)), (lfr.rfl (S := S)).sI (by decide)⟩ (fun S1 q8 => ?_)
  obtain ⟨hS1, lf2⟩ := q8
  refine V.blk h [(.aload_n 1, 1), (.aload_n 3, 1)] (by decide +kernel) (pc' := 7) (ls' := [some (.ref (ax 10 0)), some (.ref (ax 2 c9)), some (.ref (ax 6 op)), some (.ref q)]) (st' := [.ref q, .ref (ax 2 c9)]) rfl rfl (Nat.le_of_ble_eq_true rfl) ?_
  refine V.getI h cls_4 (j := 5) rfl (hq.lfr lf2).1 (hq.lfr lf2).2.1 (Or.inr ⟨_, wf_RX10_286⟩) (by decide +kernel) (v := x) (hq.lfr lf2).2.2.2.2.2.2.2.1 ?_
  refine V.putI h cls_2 (j := 4) rfl (hS1.mem (show lv (sb A 19 c9 true) 2 c9 from hc)) (hS1.knd (show lv (sb A 19 c9 true) 2 c9 from hc)) (Or.inr ⟨_, wf_RX10_334⟩) rfl rfl rfl (by decide +kernel) ?_
  refine V.gen (P := fun S9 => RA tc (mx ax ay) (sr (sb A 19 c9 true) 1 c9 x) S9 ∧ lfr S S9) ⟨(hS1.p_2_4 (i := c9) (v := x) (show lv (sb A 19 c9 true) 2 c9 from hc)), lf2.sI (by decide)⟩ (fun S3 q8 => ?_)
  obtain ⟨hS3, lf4⟩ := q8
  refine V.blk h [(.aload_n 3, 1)] (by decide +kernel) (pc' := 14) (ls' := [some (.ref (ax 10 0)), some (.ref (ax 2 c9)), some (.ref (ax 6 op)), some (.ref q)]) (st' := [.ref q]) rfl rfl (Nat.le_of_ble_eq_true rfl) ?_
  refine V.getI h cls_4 (j := 6) rfl (hq.lfr lf4).1 (hq.lfr lf4).2.1 (Or.inr ⟨_, wf_RX10_337⟩) (by decide +kernel) (v := bI sa) (hq.lfr lf4).2.2.2.2.2.2.2.2 ?_
  refine V.if_eq h (off := 12) (by decide +kernel) (tgt := 29) (by decide) (fun q => ?_) (fun q => ?_)
  · have q17_13 := (bI_0.mp q)
    clear q
    refine V.blk h [(.aload_n 0, 1), (.aload_n 1, 1), (.aload_n 2, 1)] (by decide +kernel) (pc' := 32) (ls' := [some (.ref (ax 10 0)), some (.ref (ax 2 c9)), some (.ref (ax 6 op)), some (.ref q)]) (st' := [.ref (ax 6 op), .ref (ax 2 c9), .ref (ax 10 0)]) rfl rfl (Nat.le_of_ble_eq_true rfl) ?_
    refine V.callV h (np := 2) (st := []) (c_finishIfAccepted hls hS3 (c9 := c9) (op := op) hc (show op < tf A 13 from ho) h18 hB (by omega) (by omega) (post := fun v S9 => v = none ∧ RA tc (mx ax ay) (fiaC (sr (sb A 19 c9 true) 1 c9 x) c9 op) S9) (fun S9 h9 => ⟨rfl, h9⟩)) wc_X10_finishIfAccepted wn_RX10 (Or.inl wm_RX10_327) wi_X10_finishIfAccepted we_X10_finishIfAccepted (by decide +kernel) rfl cls_10 (hS3.mem (show lv (sr (sb A 19 c9 true) 1 c9 x) 10 0 from rfl)) (hS3.knd (show lv (sr (sb A 19 c9 true) 1 c9 x) 10 0 from rfl)) (Nat.le_of_ble_eq_true rfl) (Nat.le_of_ble_eq_true rfl) (Nat.zero_le _) (Nat.zero_le _) (by simp [Value.category]) (by decide +kernel) rfl (fun v Z5 q9 => ?_)
    obtain ⟨rfl, hq9⟩ := q9
    refine V.gen (P := fun S9 => RA tc (mx ax ay) (fiaC (sr (sb A 19 c9 true) 1 c9 x) c9 op) S9) hq9 (fun S6 hS6 => ?_)
    clear hq9
    exact V.vret h hA hr (hp _ (by unfold ranC; rw [if_neg (by rw [q17_13]; decide)]; exact hS6)) (by decide +kernel) (Nat.zero_le _) (Nat.zero_le _)
  · have q17_13 := (bI_1 (fun z => q (bI_0.mpr z)))
    clear q
    refine V.blk h [(.aload_n 0, 1), (.aload_n 1, 1), (.aload_n 2, 1)] (by decide +kernel) (pc' := 23) (ls' := [some (.ref (ax 10 0)), some (.ref (ax 2 c9)), some (.ref (ax 6 op)), some (.ref q)]) (st' := [.ref (ax 6 op), .ref (ax 2 c9), .ref (ax 10 0)]) rfl rfl (Nat.le_of_ble_eq_true rfl) ?_
    refine V.callV h (np := 2) (st := []) (c_finish hls hS3 (c9 := c9) (op := op) hc (show op < tf A 13 from ho) (post := fun v S9 => v = none ∧ RA tc (mx ax ay) (finC (sr (sb A 19 c9 true) 1 c9 x) c9 op) S9) (fun S9 h9 => ⟨rfl, h9⟩)) wc_X10_finish wn_RX10 (Or.inl wm_RX10_340) wi_X10_finish we_X10_finish (by decide +kernel) rfl cls_10 (hS3.mem (show lv (sr (sb A 19 c9 true) 1 c9 x) 10 0 from rfl)) (hS3.knd (show lv (sr (sb A 19 c9 true) 1 c9 x) 10 0 from rfl)) (Nat.le_of_ble_eq_true rfl) (Nat.le_of_ble_eq_true rfl) (Nat.zero_le _) (Nat.zero_le _) (by simp [Value.category]) (by decide +kernel) rfl (fun v Z7 q9 => ?_)
    obtain ⟨rfl, hq9⟩ := q9
    refine V.gen (P := fun S9 => RA tc (mx ax ay) (finC (sr (sb A 19 c9 true) 1 c9 x) c9 op) S9) hq9 (fun S8 hS8 => ?_)
    clear hq9
    refine V.goto h (off := 9) (tgt := 35) (by decide +kernel) (by decide) ?_
    exact V.vret h hA hr (hp _ (by unfold ranC; rw [if_pos q17_13]; exact hS8)) (by decide +kernel) (Nat.zero_le _) (Nat.zero_le _)
set_option maxRecDepth 100000 in
set_option maxHeartbeats 4000000 in
theorem c_rMaster0 {l : Launch} {D : va_G} {tc : Nat → ClassId} {ax ay : Nat → Nat → Nat} {A : TS} {S : HS} (hls : l.stackTraces = false) (hS : RA tc (mx ax ay) A S) {q : Nat} {e : Nat} {to : Nat} {n : Nat} {sa : Bool} {op : Nat} {x : Int32} {K : Nat}  (he5 : e < tf A 5) (hq : LT S q 0 e to (opA (mx ax ay) (op + 1)) n x sa) (ho : op < tf A 13) (hk16 : tn A 8 op < 16) (hL : LogOK A e) (hsy : tn A 28 e ≤ tn A 26 e) (hg6 : tn A 37 e < 600) (hB : NB K A) (hK : K < 1800000000) (h9 : 700 ≤ K) {post : Option Value → HS → Prop} (hp : (tb A 30 e = false → post none S) ∧ (tb A 30 e = true → ∀ (S8 : HS) (ax8 ay8 : Nat → Nat → Nat), (∀ g, g ≠ 3 → ax8 g = ax g) → RA tc (mx ax8 ay8) (rexC A e op) S8 → post none S8)) : CM l D tc yX10_readAtMaster cX10_readAtMaster 3 (none) 11 10 2422 [.ref (ax 10 0), .ref q] S post := by
  refine CM.of hls (by decide +kernel) (by simp [Value.category]) (Nat.le_of_ble_eq_true rfl) (fun A0 p e9 s m args below meth c sz h hr hnm hA => ?_)
  have h5 := hS.2.2.2.1.1
  have he : e < tf A 38 := by omega
  refine V.eqL (ls' := [some (.ref (ax 10 0)), some (.ref q), none]) rfl ?_
  rcases Bool.eq_false_or_eq_true (tb A 30 e) with hlv | hlv
  · skip
    refine V.blk h [(.aload_n 0, 1), (.aload_n 1, 1)] (by decide +kernel) (pc' := 2) (ls' := [some (.ref (ax 10 0)), some (.ref q), none]) (st' := [.ref q, .ref (ax 10 0)]) rfl rfl (Nat.le_of_ble_eq_true rfl) ?_
    refine V.getI h cls_4 (j := 1) rfl hq.1 hq.2.1 (Or.inr ⟨_, wf_RX10_199⟩) (by decide +kernel) (v := nI e) hq.2.2.2.1 ?_
    refine V.callV h (np := 1) (st := []) (c_livingMasterOf hls hS (e := e) he5 (post := fun v S7 => v = some (.ref (ax 5 e)) ∧ S = S7) ⟨fun _ => ⟨rfl, rfl⟩, fun z9 => absurd (z9.symm.trans hlv) (by decide)⟩) wc_X10_livingMasterOf wn_RX10 (Or.inl wm_RX10_283) wi_X10_livingMasterOf we_X10_livingMasterOf (by decide +kernel) rfl cls_10 (hS.mem (show lv A 10 0 from rfl)) (hS.knd (show lv A 10 0 from rfl)) (Nat.le_of_ble_eq_true rfl) (Nat.le_of_ble_eq_true rfl) (Nat.zero_le _) (Nat.zero_le _) (by simp [Value.category]) (by decide +kernel) rfl (fun v Z1 q9 => ?_)
    obtain ⟨rfl, hS9⟩ := q9
    subst hS9
    refine V.eq (S' := S) (ls' := [some (.ref (ax 10 0)), some (.ref q), none]) (st' := [.ref (ax 5 e)]) rfl rfl rfl ?_
    refine V.blk h [(.astore_n 2, 1), (.aload_n 2, 1)] (by decide +kernel) (pc' := 10) (ls' := [some (.ref (ax 10 0)), some (.ref q), some (.ref (ax 5 e))]) (st' := [.ref (ax 5 e)]) rfl rfl (Nat.le_of_ble_eq_true rfl) ?_
    refine V.ifnonnull h (o := (some (ax 5 e))) (off := 4) (by decide +kernel) (tgt := 14) (by decide) (fun _ _ => ?_) (fun z => by cases z)
    refine V.blk h [(.aload_n 1, 1)] (by decide +kernel) (pc' := 15) (ls' := [some (.ref (ax 10 0)), some (.ref q), some (.ref (ax 5 e))]) (st' := [.ref q]) rfl rfl (Nat.le_of_ble_eq_true rfl) ?_
    refine V.getI h cls_4 (j := 0) rfl hq.1 hq.2.1 (Or.inr ⟨_, wf_RX10_126⟩) (by decide +kernel) (v := nI 0) hq.2.2.1 ?_
    refine V.blk h [(.bipush 7, 2)] (by decide +kernel) (pc' := 20) (ls' := [some (.ref (ax 10 0)), some (.ref q), some (.ref (ax 5 e))]) (st' := [.int (nI (7)), .int (nI (0))]) rfl rfl (Nat.le_of_ble_eq_true rfl) ?_
    refine V.icmp_ne h (off := 22) (by decide +kernel) (tgt := 42) (by decide) (fun q => ?_) (fun q => ?_)
    · have q20_16 : ¬ _ := (fun z => q ((nI_eq (by omega) (by omega)).mpr z))
      clear q
      refine V.blk h [(.aload_n 1, 1)] (by decide +kernel) (pc' := 43) (ls' := [some (.ref (ax 10 0)), some (.ref q), some (.ref (ax 5 e))]) (st' := [.ref q]) rfl rfl (Nat.le_of_ble_eq_true rfl) ?_
      refine V.getP h cls_4 (j := 3) rfl hq.1 hq.2.1 (Or.inr ⟨_, wf_RX10_292⟩) (by decide +kernel) (v := some (ax 6 op)) hq.2.2.2.2.2.1 ?_
      refine V.eq (S' := S) (ls' := [some (.ref (ax 10 0)), some (.ref q), some (.ref (ax 5 e))]) (st' := [.ref (ax 6 op)]) rfl rfl rfl ?_
      refine V.ifnull h (o := (some (ax 6 op))) (off := 29) (by decide +kernel) (tgt := 75) (by decide) (fun z => by cases z) (fun _ _ => ?_)
      refine V.blk h [(.aload_n 1, 1)] (by decide +kernel) (pc' := 50) (ls' := [some (.ref (ax 10 0)), some (.ref q), some (.ref (ax 5 e))]) (st' := [.ref q]) rfl rfl (Nat.le_of_ble_eq_true rfl) ?_
      refine V.getI h cls_4 (j := 0) rfl hq.1 hq.2.1 (Or.inr ⟨_, wf_RX10_126⟩) (by decide +kernel) (v := nI 0) hq.2.2.1 ?_
      refine V.if_ne h (off := 14) (by decide +kernel) (tgt := 67) (by decide) (fun q => absurd (by decide) q) (fun _ => ?_)
      refine V.blk h [(.aload_n 2, 1), (.aload_n 1, 1)] (by decide +kernel) (pc' := 58) (ls' := [some (.ref (ax 10 0)), some (.ref q), some (.ref (ax 5 e))]) (st' := [.ref q, .ref (ax 5 e)]) rfl rfl (Nat.le_of_ble_eq_true rfl) ?_
      refine V.getP h cls_4 (j := 3) rfl hq.1 hq.2.1 (Or.inr ⟨_, wf_RX10_292⟩) (by decide +kernel) (v := some (ax 6 op)) hq.2.2.2.2.2.1 ?_
      refine V.eq (S' := S) (ls' := [some (.ref (ax 10 0)), some (.ref q), some (.ref (ax 5 e))]) (st' := [.ref (ax 6 op), .ref (ax 5 e)]) rfl rfl rfl ?_
      refine V.callV h (np := 1) (st := []) (c_readExec hls hS (e := e) (op := op) he ho hk16 hL hsy hg6 h9 hB (by omega) (post := fun v S8 => v = none ∧ ∃ ax8 ay8, (∀ g, g ≠ 3 → ax8 g = ax g) ∧ RA tc (mx ax8 ay8) (rexC A e op) S8) (fun S8 ax8 ay8 hx8 hr8 => ⟨rfl, ax8, ay8, hx8, hr8⟩)) wc_X5_readExec wn_RX5 (Or.inr ⟨_, wm_RX10_295⟩) wi_X5_readExec we_X5_readExec (by decide +kernel) rfl cls_5 (hS.mem (show lv A 5 e from he)) (hS.knd (show lv A 5 e from he)) (Nat.le_of_ble_eq_true rfl) (Nat.le_of_ble_eq_true rfl) (by show 0 + 10 ≤ 10; omega) (by show 0 + 2422 ≤ 2422; omega) (by simp [Value.category]) (by decide +kernel) rfl (fun v Z2 q9 => ?_)
      obtain ⟨rfl, ax1, ay1, hx1, hr1⟩ := q9
      refine V.goto h (off := 11) (tgt := 75) (by decide +kernel) (by decide) ?_
      exact V.vret h hA hr (hp.2 hlv _ _ _ hx1 hr1) (by decide +kernel) (by omega) (by omega)
    · have q20_16 := ((nI_eq (by omega) (by omega)).mp q)
      clear q
      exact absurd q20_16 (by decide)
  · skip
    refine V.blk h [(.aload_n 0, 1), (.aload_n 1, 1)] (by decide +kernel) (pc' := 2) (ls' := [some (.ref (ax 10 0)), some (.ref q), none]) (st' := [.ref q, .ref (ax 10 0)]) rfl rfl (Nat.le_of_ble_eq_true rfl) ?_
    refine V.getI h cls_4 (j := 1) rfl hq.1 hq.2.1 (Or.inr ⟨_, wf_RX10_199⟩) (by decide +kernel) (v := nI e) hq.2.2.2.1 ?_
    refine V.callV h (np := 1) (st := []) (c_livingMasterOf hls hS (e := e) he5 (post := fun v S7 => v = some (.null) ∧ S = S7) ⟨fun z9 => absurd (z9.symm.trans hlv) (by decide), fun _ => ⟨rfl, rfl⟩⟩) wc_X10_livingMasterOf wn_RX10 (Or.inl wm_RX10_283) wi_X10_livingMasterOf we_X10_livingMasterOf (by decide +kernel) rfl cls_10 (hS.mem (show lv A 10 0 from rfl)) (hS.knd (show lv A 10 0 from rfl)) (Nat.le_of_ble_eq_true rfl) (Nat.le_of_ble_eq_true rfl) (Nat.zero_le _) (Nat.zero_le _) (by simp [Value.category]) (by decide +kernel) rfl (fun v Z3 q9 => ?_)
    obtain ⟨rfl, hS9⟩ := q9
    subst hS9
    refine V.eq (S' := S) (ls' := [some (.ref (ax 10 0)), some (.ref q), none]) (st' := [.null]) rfl rfl rfl ?_
    refine V.blk h [(.astore_n 2, 1), (.aload_n 2, 1)] (by decide +kernel) (pc' := 10) (ls' := [some (.ref (ax 10 0)), some (.ref q), some (.null)]) (st' := [.null]) rfl rfl (Nat.le_of_ble_eq_true rfl) ?_
    refine V.ifnonnull h (o := none) (off := 4) (by decide +kernel) (tgt := 14) (by decide) (fun _ z => by cases z) (fun _ => ?_)
    exact V.vret h hA hr (hp.1 hlv) (by decide +kernel) (Nat.zero_le _) (Nat.zero_le _)
set_option maxRecDepth 100000 in
set_option maxHeartbeats 4000000 in
theorem c_rMaster5 {l : Launch} {D : va_G} {tc : Nat → ClassId} {ax ay : Nat → Nat → Nat} {A : TS} {S : HS} (hls : l.stackTraces = false) (hS : RA tc (mx ax ay) A S) {q : Nat} {e : Nat} {to : Nat} {n : Nat} {sa : Bool} {op : Nat} {x : Int32} {K : Nat}  (he5 : e < tf A 5) (hq : LT S q 5 e to (opA (mx ax ay) (op + 1)) n x sa) (ho : op < tf A 13) (hL : LogOK A e) (hB : NB K A) (hK : K < 1800000000) (h9 : 700 ≤ K) {post : Option Value → HS → Prop} (hp : (tb A 30 e = false → post none S) ∧ (tb A 30 e = true → ∀ (S8 : HS) (ay8 : Nat → Nat → Nat), RA tc (mx ax ay8) (snowF A e op) S8 → post none S8)) : CM l D tc yX10_readAtMaster cX10_readAtMaster 3 (none) 11 6 1140 [.ref (ax 10 0), .ref q] S post := by
  refine CM.of hls (by decide +kernel) (by simp [Value.category]) (Nat.le_of_ble_eq_true rfl) (fun A0 p e9 s m args below meth c sz h hr hnm hA => ?_)
  have h5 := hS.2.2.2.1.1
  have he : e < tf A 38 := by omega
  refine V.eqL (ls' := [some (.ref (ax 10 0)), some (.ref q), none]) rfl ?_
  rcases Bool.eq_false_or_eq_true (tb A 30 e) with hlv | hlv
  · skip
    refine V.blk h [(.aload_n 0, 1), (.aload_n 1, 1)] (by decide +kernel) (pc' := 2) (ls' := [some (.ref (ax 10 0)), some (.ref q), none]) (st' := [.ref q, .ref (ax 10 0)]) rfl rfl (Nat.le_of_ble_eq_true rfl) ?_
    refine V.getI h cls_4 (j := 1) rfl hq.1 hq.2.1 (Or.inr ⟨_, wf_RX10_199⟩) (by decide +kernel) (v := nI e) hq.2.2.2.1 ?_
    refine V.callV h (np := 1) (st := []) (c_livingMasterOf hls hS (e := e) he5 (post := fun v S7 => v = some (.ref (ax 5 e)) ∧ S = S7) ⟨fun _ => ⟨rfl, rfl⟩, fun z9 => absurd (z9.symm.trans hlv) (by decide)⟩) wc_X10_livingMasterOf wn_RX10 (Or.inl wm_RX10_283) wi_X10_livingMasterOf we_X10_livingMasterOf (by decide +kernel) rfl cls_10 (hS.mem (show lv A 10 0 from rfl)) (hS.knd (show lv A 10 0 from rfl)) (Nat.le_of_ble_eq_true rfl) (Nat.le_of_ble_eq_true rfl) (Nat.zero_le _) (Nat.zero_le _) (by simp [Value.category]) (by decide +kernel) rfl (fun v Z1 q9 => ?_)
    obtain ⟨rfl, hS9⟩ := q9
    subst hS9
    refine V.eq (S' := S) (ls' := [some (.ref (ax 10 0)), some (.ref q), none]) (st' := [.ref (ax 5 e)]) rfl rfl rfl ?_
    refine V.blk h [(.astore_n 2, 1), (.aload_n 2, 1)] (by decide +kernel) (pc' := 10) (ls' := [some (.ref (ax 10 0)), some (.ref q), some (.ref (ax 5 e))]) (st' := [.ref (ax 5 e)]) rfl rfl (Nat.le_of_ble_eq_true rfl) ?_
    refine V.ifnonnull h (o := (some (ax 5 e))) (off := 4) (by decide +kernel) (tgt := 14) (by decide) (fun _ _ => ?_) (fun z => by cases z)
    refine V.blk h [(.aload_n 1, 1)] (by decide +kernel) (pc' := 15) (ls' := [some (.ref (ax 10 0)), some (.ref q), some (.ref (ax 5 e))]) (st' := [.ref q]) rfl rfl (Nat.le_of_ble_eq_true rfl) ?_
    refine V.getI h cls_4 (j := 0) rfl hq.1 hq.2.1 (Or.inr ⟨_, wf_RX10_126⟩) (by decide +kernel) (v := nI 5) hq.2.2.1 ?_
    refine V.blk h [(.bipush 7, 2)] (by decide +kernel) (pc' := 20) (ls' := [some (.ref (ax 10 0)), some (.ref q), some (.ref (ax 5 e))]) (st' := [.int (nI (7)), .int (nI (5))]) rfl rfl (Nat.le_of_ble_eq_true rfl) ?_
    refine V.icmp_ne h (off := 22) (by decide +kernel) (tgt := 42) (by decide) (fun q => ?_) (fun q => ?_)
    · have q20_16 : ¬ _ := (fun z => q ((nI_eq (by omega) (by omega)).mpr z))
      clear q
      refine V.blk h [(.aload_n 1, 1)] (by decide +kernel) (pc' := 43) (ls' := [some (.ref (ax 10 0)), some (.ref q), some (.ref (ax 5 e))]) (st' := [.ref q]) rfl rfl (Nat.le_of_ble_eq_true rfl) ?_
      refine V.getP h cls_4 (j := 3) rfl hq.1 hq.2.1 (Or.inr ⟨_, wf_RX10_292⟩) (by decide +kernel) (v := some (ax 6 op)) hq.2.2.2.2.2.1 ?_
      refine V.eq (S' := S) (ls' := [some (.ref (ax 10 0)), some (.ref q), some (.ref (ax 5 e))]) (st' := [.ref (ax 6 op)]) rfl rfl rfl ?_
      refine V.ifnull h (o := (some (ax 6 op))) (off := 29) (by decide +kernel) (tgt := 75) (by decide) (fun z => by cases z) (fun _ _ => ?_)
      refine V.blk h [(.aload_n 1, 1)] (by decide +kernel) (pc' := 50) (ls' := [some (.ref (ax 10 0)), some (.ref q), some (.ref (ax 5 e))]) (st' := [.ref q]) rfl rfl (Nat.le_of_ble_eq_true rfl) ?_
      refine V.getI h cls_4 (j := 0) rfl hq.1 hq.2.1 (Or.inr ⟨_, wf_RX10_126⟩) (by decide +kernel) (v := nI 5) hq.2.2.1 ?_
      refine V.if_ne h (off := 14) (by decide +kernel) (tgt := 67) (by decide) (fun q => ?_) (fun q => ?_)
      · have q53_25 : ¬ _ := (fun z => q ((nI_z_eq (by omega)).mpr z))
        clear q
        refine V.blk h [(.aload_n 2, 1), (.aload_n 1, 1)] (by decide +kernel) (pc' := 69) (ls' := [some (.ref (ax 10 0)), some (.ref q), some (.ref (ax 5 e))]) (st' := [.ref q, .ref (ax 5 e)]) rfl rfl (Nat.le_of_ble_eq_true rfl) ?_
        refine V.getP h cls_4 (j := 3) rfl hq.1 hq.2.1 (Or.inr ⟨_, wf_RX10_292⟩) (by decide +kernel) (v := some (ax 6 op)) hq.2.2.2.2.2.1 ?_
        refine V.eq (S' := S) (ls' := [some (.ref (ax 10 0)), some (.ref q), some (.ref (ax 5 e))]) (st' := [.ref (ax 6 op), .ref (ax 5 e)]) rfl rfl rfl ?_
        refine V.callV h (np := 1) (st := []) (c_readSyncNow hls hS (e := e) (op := op) he ho hL hB (by omega) (post := fun v S8 => v = none ∧ ∃ ay8, RA tc (mx ax ay8) (snowF A e op) S8) (fun S8 ay8 hr8 => ⟨rfl, ay8, hr8⟩)) wc_X5_readSyncNow wn_RX5 (Or.inr ⟨_, wm_RX10_299⟩) wi_X5_readSyncNow we_X5_readSyncNow (by decide +kernel) rfl cls_5 (hS.mem (show lv A 5 e from he)) (hS.knd (show lv A 5 e from he)) (Nat.le_of_ble_eq_true rfl) (Nat.le_of_ble_eq_true rfl) (by show 0 + 6 ≤ 6; omega) (by show 0 + 1140 ≤ 1140; omega) (by simp [Value.category]) (by decide +kernel) rfl (fun v Z2 q9 => ?_)
        obtain ⟨rfl, ay3, hS4⟩ := q9
        exact V.vret h hA hr (hp.2 hlv _ _ hS4) (by decide +kernel) (by omega) (by omega)
      · have q53_25 := ((nI_z_eq (by omega)).mp q)
        clear q
        exact absurd q53_25 (by decide)
    · have q20_16 := ((nI_eq (by omega) (by omega)).mp q)
      clear q
      exact absurd q20_16 (by decide)
  · skip
    refine V.blk h [(.aload_n 0, 1), (.aload_n 1, 1)] (by decide +kernel) (pc' := 2) (ls' := [some (.ref (ax 10 0)), some (.ref q), none]) (st' := [.ref q, .ref (ax 10 0)]) rfl rfl (Nat.le_of_ble_eq_true rfl) ?_
    refine V.getI h cls_4 (j := 1) rfl hq.1 hq.2.1 (Or.inr ⟨_, wf_RX10_199⟩) (by decide +kernel) (v := nI e) hq.2.2.2.1 ?_
    refine V.callV h (np := 1) (st := []) (c_livingMasterOf hls hS (e := e) he5 (post := fun v S7 => v = some (.null) ∧ S = S7) ⟨fun z9 => absurd (z9.symm.trans hlv) (by decide), fun _ => ⟨rfl, rfl⟩⟩) wc_X10_livingMasterOf wn_RX10 (Or.inl wm_RX10_283) wi_X10_livingMasterOf we_X10_livingMasterOf (by decide +kernel) rfl cls_10 (hS.mem (show lv A 10 0 from rfl)) (hS.knd (show lv A 10 0 from rfl)) (Nat.le_of_ble_eq_true rfl) (Nat.le_of_ble_eq_true rfl) (Nat.zero_le _) (Nat.zero_le _) (by simp [Value.category]) (by decide +kernel) rfl (fun v Z5 q9 => ?_)
    obtain ⟨rfl, hS9⟩ := q9
    subst hS9
    refine V.eq (S' := S) (ls' := [some (.ref (ax 10 0)), some (.ref q), none]) (st' := [.null]) rfl rfl rfl ?_
    refine V.blk h [(.astore_n 2, 1), (.aload_n 2, 1)] (by decide +kernel) (pc' := 10) (ls' := [some (.ref (ax 10 0)), some (.ref q), some (.null)]) (st' := [.null]) rfl rfl (Nat.le_of_ble_eq_true rfl) ?_
    refine V.ifnonnull h (o := none) (off := 4) (by decide +kernel) (tgt := 14) (by decide) (fun _ z => by cases z) (fun _ => ?_)
    exact V.vret h hA hr (hp.1 hlv) (by decide +kernel) (Nat.zero_le _) (Nat.zero_le _)
set_option maxRecDepth 100000 in
set_option maxHeartbeats 4000000 in
theorem c_rMaster7 {l : Launch} {D : va_G} {tc : Nat → ClassId} {ax ay : Nat → Nat → Nat} {A : TS} {S : HS} (hls : l.stackTraces = false) (hS : RA tc (mx ax ay) A S) {q : Nat} {e : Nat} {b : Nat} {n : Nat} {c9 : Nat} {sa : Bool} {K : Nat}  (he5 : e < tf A 5) (hq : LT S q 7 e b none n (nI c9) sa) (hb : b < tf A 1) (hnK : n + 1 ≤ K) (hc9 : c9 ≤ K) (h36 : ∀ i, tn A 36 i < 2 ^ tf A 1) (h26 : tn A 26 e ≤ tf A 13) (h37 : tn A 37 e ≤ tf A 13) (hgo : ∀ i, tn A 33 i ≤ 600) (hop : ∀ i, tn A 22 i ≤ 600) (h9 : 7300 ≤ K) (hB : NB K A) (hK : K < 1700000000) {post : Option Value → HS → Prop} (hp : (tb A 30 e = false → post none S) ∧ (tb A 30 e = true → ∀ (S8 : HS) (ay8 : Nat → Nat → Nat), RA tc (mx ax ay8) (rakC A e b n c9) S8 → post none S8)) : CM l D tc yX10_readAtMaster cX10_readAtMaster 3 (none) 11 (4 * tf A 13 + 12) (14 * tf A 13 + 5264) [.ref (ax 10 0), .ref q] S post := by
  refine CM.of hls (by decide +kernel) (by simp [Value.category]) (Nat.le_of_ble_eq_true rfl) (fun A0 p e9 s m args below meth c sz h hr hnm hA => ?_)
  have h5 := hS.2.2.2.1.1
  have he : e < tf A 38 := by omega
  refine V.eqL (ls' := [some (.ref (ax 10 0)), some (.ref q), none]) rfl ?_
  rcases Bool.eq_false_or_eq_true (tb A 30 e) with hlv | hlv
  · skip
    refine V.blk h [(.aload_n 0, 1), (.aload_n 1, 1)] (by decide +kernel) (pc' := 2) (ls' := [some (.ref (ax 10 0)), some (.ref q), none]) (st' := [.ref q, .ref (ax 10 0)]) rfl rfl (Nat.le_of_ble_eq_true rfl) ?_
    refine V.getI h cls_4 (j := 1) rfl hq.1 hq.2.1 (Or.inr ⟨_, wf_RX10_199⟩) (by decide +kernel) (v := nI e) hq.2.2.2.1 ?_
    refine V.callV h (np := 1) (st := []) (c_livingMasterOf hls hS (e := e) he5 (post := fun v S7 => v = some (.ref (ax 5 e)) ∧ S = S7) ⟨fun _ => ⟨rfl, rfl⟩, fun z9 => absurd (z9.symm.trans hlv) (by decide)⟩) wc_X10_livingMasterOf wn_RX10 (Or.inl wm_RX10_283) wi_X10_livingMasterOf we_X10_livingMasterOf (by decide +kernel) rfl cls_10 (hS.mem (show lv A 10 0 from rfl)) (hS.knd (show lv A 10 0 from rfl)) (Nat.le_of_ble_eq_true rfl) (Nat.le_of_ble_eq_true rfl) (Nat.zero_le _) (Nat.zero_le _) (by simp [Value.category]) (by decide +kernel) rfl (fun v Z1 q9 => ?_)
    obtain ⟨rfl, hS9⟩ := q9
    subst hS9
    refine V.eq (S' := S) (ls' := [some (.ref (ax 10 0)), some (.ref q), none]) (st' := [.ref (ax 5 e)]) rfl rfl rfl ?_
    refine V.blk h [(.astore_n 2, 1), (.aload_n 2, 1)] (by decide +kernel) (pc' := 10) (ls' := [some (.ref (ax 10 0)), some (.ref q), some (.ref (ax 5 e))]) (st' := [.ref (ax 5 e)]) rfl rfl (Nat.le_of_ble_eq_true rfl) ?_
    refine V.ifnonnull h (o := (some (ax 5 e))) (off := 4) (by decide +kernel) (tgt := 14) (by decide) (fun _ _ => ?_) (fun z => by cases z)
    refine V.blk h [(.aload_n 1, 1)] (by decide +kernel) (pc' := 15) (ls' := [some (.ref (ax 10 0)), some (.ref q), some (.ref (ax 5 e))]) (st' := [.ref q]) rfl rfl (Nat.le_of_ble_eq_true rfl) ?_
    refine V.getI h cls_4 (j := 0) rfl hq.1 hq.2.1 (Or.inr ⟨_, wf_RX10_126⟩) (by decide +kernel) (v := nI 7) hq.2.2.1 ?_
    refine V.blk h [(.bipush 7, 2)] (by decide +kernel) (pc' := 20) (ls' := [some (.ref (ax 10 0)), some (.ref q), some (.ref (ax 5 e))]) (st' := [.int (nI (7)), .int (nI (7))]) rfl rfl (Nat.le_of_ble_eq_true rfl) ?_
    refine V.icmp_ne h (off := 22) (by decide +kernel) (tgt := 42) (by decide) (fun q => ?_) (fun q => ?_)
    · have q20_16 : ¬ _ := (fun z => q ((nI_eq (by omega) (by omega)).mpr z))
      clear q
      exact absurd rfl q20_16
    · have q20_16 := ((nI_eq (by omega) (by omega)).mp q)
      clear q
      refine V.blk h [(.aload_n 2, 1), (.aload_n 1, 1)] (by decide +kernel) (pc' := 25) (ls' := [some (.ref (ax 10 0)), some (.ref q), some (.ref (ax 5 e))]) (st' := [.ref q, .ref (ax 5 e)]) rfl rfl (Nat.le_of_ble_eq_true rfl) ?_
      refine V.getI h cls_4 (j := 2) rfl hq.1 hq.2.1 (Or.inr ⟨_, wf_RX10_200⟩) (by decide +kernel) (v := nI b) hq.2.2.2.2.1 ?_
      refine V.blk h [(.aload_n 1, 1)] (by decide +kernel) (pc' := 29) (ls' := [some (.ref (ax 10 0)), some (.ref q), some (.ref (ax 5 e))]) (st' := [.ref q, .int (nI (b)), .ref (ax 5 e)]) rfl rfl (Nat.le_of_ble_eq_true rfl) ?_
      refine V.getI h cls_4 (j := 4) rfl hq.1 hq.2.1 (Or.inr ⟨_, wf_RX10_203⟩) (by decide +kernel) (v := nI n) hq.2.2.2.2.2.2.1 ?_
      refine V.blk h [(.aload_n 1, 1)] (by decide +kernel) (pc' := 33) (ls' := [some (.ref (ax 10 0)), some (.ref q), some (.ref (ax 5 e))]) (st' := [.ref q, .int (nI (n)), .int (nI (b)), .ref (ax 5 e)]) rfl rfl (Nat.le_of_ble_eq_true rfl) ?_
      refine V.getI h cls_4 (j := 5) rfl hq.1 hq.2.1 (Or.inr ⟨_, wf_RX10_286⟩) (by decide +kernel) (v := nI c9) hq.2.2.2.2.2.2.2.1 ?_
      refine V.callV h (np := 3) (st := []) (c_readAck hls hS (e := e) (b := b) (n := n) (c9 := c9) he hb hnK hc9 h36 h26 h37 hgo hop h9 hB (by omega) (post := fun v S8 => v = none ∧ ∃ ay8, RA tc (mx ax ay8) (rakC A e b n c9) S8) (fun S8 ay8 hr8 => ⟨rfl, ay8, hr8⟩)) wc_X5_readAck wn_RX5 (Or.inr ⟨_, wm_RX10_289⟩) wi_X5_readAck we_X5_readAck (by decide +kernel) rfl cls_5 (hS.mem (show lv A 5 e from he)) (hS.knd (show lv A 5 e from he)) (Nat.le_of_ble_eq_true rfl) (Nat.le_of_ble_eq_true rfl) (by show 0 + (4 * tf A 13 + 12) ≤ 4 * tf A 13 + 12; omega) (by show 0 + (14 * tf A 13 + 5264) ≤ 14 * tf A 13 + 5264; omega) (by simp [Value.category]) (by decide +kernel) rfl (fun v Z2 q9 => ?_)
      obtain ⟨rfl, ay3, hS4⟩ := q9
      refine V.goto h (off := 36) (tgt := 75) (by decide +kernel) (by decide) ?_
      exact V.vret h hA hr (hp.2 hlv _ _ hS4) (by decide +kernel) (by omega) (by omega)
  · skip
    refine V.blk h [(.aload_n 0, 1), (.aload_n 1, 1)] (by decide +kernel) (pc' := 2) (ls' := [some (.ref (ax 10 0)), some (.ref q), none]) (st' := [.ref q, .ref (ax 10 0)]) rfl rfl (Nat.le_of_ble_eq_true rfl) ?_
    refine V.getI h cls_4 (j := 1) rfl hq.1 hq.2.1 (Or.inr ⟨_, wf_RX10_199⟩) (by decide +kernel) (v := nI e) hq.2.2.2.1 ?_
    refine V.callV h (np := 1) (st := []) (c_livingMasterOf hls hS (e := e) he5 (post := fun v S7 => v = some (.null) ∧ S = S7) ⟨fun z9 => absurd (z9.symm.trans hlv) (by decide), fun _ => ⟨rfl, rfl⟩⟩) wc_X10_livingMasterOf wn_RX10 (Or.inl wm_RX10_283) wi_X10_livingMasterOf we_X10_livingMasterOf (by decide +kernel) rfl cls_10 (hS.mem (show lv A 10 0 from rfl)) (hS.knd (show lv A 10 0 from rfl)) (Nat.le_of_ble_eq_true rfl) (Nat.le_of_ble_eq_true rfl) (Nat.zero_le _) (Nat.zero_le _) (by simp [Value.category]) (by decide +kernel) rfl (fun v Z5 q9 => ?_)
    obtain ⟨rfl, hS9⟩ := q9
    subst hS9
    refine V.eq (S' := S) (ls' := [some (.ref (ax 10 0)), some (.ref q), none]) (st' := [.null]) rfl rfl rfl ?_
    refine V.blk h [(.astore_n 2, 1), (.aload_n 2, 1)] (by decide +kernel) (pc' := 10) (ls' := [some (.ref (ax 10 0)), some (.ref q), some (.null)]) (st' := [.null]) rfl rfl (Nat.le_of_ble_eq_true rfl) ?_
    refine V.ifnonnull h (o := none) (off := 4) (by decide +kernel) (tgt := 14) (by decide) (fun _ z => by cases z) (fun _ => ?_)
    exact V.vret h hA hr (hp.1 hlv) (by decide +kernel) (Nat.zero_le _) (Nat.zero_le _)
set_option maxRecDepth 100000 in
set_option maxHeartbeats 4000000 in
theorem c_rBackup {l : Launch} {D : va_G} {tc : Nat → ClassId} {ax ay : Nat → Nat → Nat} {A : TS} {S : HS} (hls : l.stackTraces = false) (hS : RA tc (mx ax ay) A S) {q : Nat} {e : Nat} {b : Nat} {n : Nat} {c9 : Nat} {sa : Bool} {K : Nat}  (hb : b < tf A 1) (hq : LT S q 6 e b none n (nI c9) sa) (heK : e ≤ K) (hnK : n ≤ K) (hB : NB K A) (hK : K < 1800000000) (h9 : 700 ≤ K) {post : Option Value → HS → Prop} (hp : ∀ (S8 : HS) (ay8 : Nat → Nat → Nat), RA tc (mx ax ay8) (rsynF A b e n c9) S8 → post none S8) : CM l D tc yX10_readAtBackup cX10_readAtBackup 3 (none) 8 2 380 [.ref (ax 10 0), .ref q] S post := by
  refine CM.of hls (by decide +kernel) (by simp [Value.category]) (Nat.le_of_ble_eq_true rfl) (fun A0 p e9 s m args below meth c sz h hr hnm hA => ?_)
  have hf3 := hS.2.2.1.2.1
  refine V.eqL (ls' := [some (.ref (ax 10 0)), some (.ref q), none]) rfl ?_
  by_cases hold : e < tn A 39 b
  · skip
    refine V.blk h [(.aload_n 1, 1)] (by decide +kernel) (pc' := 1) (ls' := [some (.ref (ax 10 0)), some (.ref q), none]) (st' := [.ref q]) rfl rfl (Nat.le_of_ble_eq_true rfl) ?_
    refine V.getI h cls_4 (j := 2) rfl hq.1 hq.2.1 (Or.inr ⟨_, wf_RX10_200⟩) (by decide +kernel) (v := nI b) hq.2.2.2.2.1 ?_
    refine V.if_lt h (off := 15) (by decide +kernel) (tgt := 19) (by decide) (fun q => ?_) (fun q => ?_)
    · have q4_6 := ((nI_z_lt (by omega)).mp q)
      clear q
      exact absurd q4_6 id
    · have q4_6 : ¬ _ := (fun z => q ((nI_z_lt (by omega)).mpr z))
      clear q
      refine V.blk h [(.aload_n 1, 1)] (by decide +kernel) (pc' := 8) (ls' := [some (.ref (ax 10 0)), some (.ref q), none]) (st' := [.ref q]) rfl rfl (Nat.le_of_ble_eq_true rfl) ?_
      refine V.getI h cls_4 (j := 2) rfl hq.1 hq.2.1 (Or.inr ⟨_, wf_RX10_200⟩) (by decide +kernel) (v := nI b) hq.2.2.2.2.1 ?_
      refine V.blk h [(.aload_n 0, 1)] (by decide +kernel) (pc' := 12) (ls' := [some (.ref (ax 10 0)), some (.ref q), none]) (st' := [.ref (ax 10 0), .int (nI (b))]) rfl rfl (Nat.le_of_ble_eq_true rfl) ?_
      refine V.getP h cls_10 (j := 5) rfl (hS.mem (show lv A 10 0 from rfl)) (hS.knd (show lv A 10 0 from rfl)) (Or.inl wf_RX10_39) (by decide +kernel) (v := some (ax 25 0)) (hS.ptr (show lv A 10 0 from rfl) (by decide) (by decide) rfl) ?_
      refine V.eq (S' := S) (ls' := [some (.ref (ax 10 0)), some (.ref q), none]) (st' := [.ref (ax 25 0), .int (nI (b))]) rfl rfl rfl ?_
      refine V.alen h 25 (hS.mem (show lv A 25 0 from rfl)) (hS.knd (show lv A 25 0 from rfl)) (by decide) (M := tf A 1) (hS.len (show lv A 25 0 from rfl) (by decide)) (by decide +kernel) ?_
      refine V.icmp_lt h (off := 4) (by decide +kernel) (tgt := 20) (by decide) (fun q => ?_) (fun q => ?_)
      · have q16_18 := ((nI_ltI (by omega) (by omega)).mp q)
        clear q
        refine V.blk h [(.aload_n 0, 1)] (by decide +kernel) (pc' := 21) (ls' := [some (.ref (ax 10 0)), some (.ref q), none]) (st' := [.ref (ax 10 0)]) rfl rfl (Nat.le_of_ble_eq_true rfl) ?_
        refine V.getP h cls_10 (j := 5) rfl (hS.mem (show lv A 10 0 from rfl)) (hS.knd (show lv A 10 0 from rfl)) (Or.inl wf_RX10_39) (by decide +kernel) (v := some (ax 25 0)) (hS.ptr (show lv A 10 0 from rfl) (by decide) (by decide) rfl) ?_
        refine V.eq (S' := S) (ls' := [some (.ref (ax 10 0)), some (.ref q), none]) (st' := [.ref (ax 25 0)]) rfl rfl rfl ?_
        refine V.blk h [(.aload_n 1, 1)] (by decide +kernel) (pc' := 25) (ls' := [some (.ref (ax 10 0)), some (.ref q), none]) (st' := [.ref q, .ref (ax 25 0)]) rfl rfl (Nat.le_of_ble_eq_true rfl) ?_
        refine V.getI h cls_4 (j := 2) rfl hq.1 hq.2.1 (Or.inr ⟨_, wf_RX10_200⟩) (by decide +kernel) (v := nI b) hq.2.2.2.2.1 ?_
        refine V.aald h 25 (hS.mem (show lv A 25 0 from rfl)) (hS.knd (show lv A 25 0 from rfl)) (by decide) rfl (M := tf A 1) (hS.len (show lv A 25 0 from rfl) (by decide)) (i := b) (by omega) (by show _ < 2 ^ 31; first | omega | decide) (by decide +kernel) (v := some (ax 1 b)) (hS.ref (show lv A 25 0 from rfl) (by decide) (by show _ < tf A 1; omega)) ?_
        refine V.eq (S' := S) (ls' := [some (.ref (ax 10 0)), some (.ref q), none]) (st' := [.ref (ax 1 b)]) rfl rfl rfl ?_
        refine V.blk h [(.astore_n 2, 1), (.aload_n 2, 1), (.aload_n 1, 1)] (by decide +kernel) (pc' := 32) (ls' := [some (.ref (ax 10 0)), some (.ref q), some (.ref (ax 1 b))]) (st' := [.ref q, .ref (ax 1 b)]) rfl rfl (Nat.le_of_ble_eq_true rfl) ?_
        refine V.getI h cls_4 (j := 1) rfl hq.1 hq.2.1 (Or.inr ⟨_, wf_RX10_199⟩) (by decide +kernel) (v := nI e) hq.2.2.2.1 ?_
        refine V.blk h [(.aload_n 1, 1)] (by decide +kernel) (pc' := 36) (ls' := [some (.ref (ax 10 0)), some (.ref q), some (.ref (ax 1 b))]) (st' := [.ref q, .int (nI (e)), .ref (ax 1 b)]) rfl rfl (Nat.le_of_ble_eq_true rfl) ?_
        refine V.getI h cls_4 (j := 4) rfl hq.1 hq.2.1 (Or.inr ⟨_, wf_RX10_203⟩) (by decide +kernel) (v := nI n) hq.2.2.2.2.2.2.1 ?_
        refine V.callV h (np := 2) (st := []) (c_readSync hls hS (b := b) (e := e) (n := n) hb (by omega) (by omega) hB (by omega) (post := fun v S7 => v = some (.int (bI false)) ∧ S = S7) ⟨fun _ => ⟨rfl, rfl⟩, fun z9 => absurd hold z9⟩) wc_X1_readSync wn_RX1 (Or.inr ⟨_, wm_RX10_302⟩) wi_X1_readSync we_X1_readSync (by decide +kernel) rfl cls_1 (hS.mem (show lv A 1 b from hb)) (hS.knd (show lv A 1 b from hb)) (Nat.le_of_ble_eq_true rfl) (Nat.le_of_ble_eq_true rfl) (Nat.zero_le _) (Nat.zero_le _) (by simp [Value.category]) (by decide +kernel) rfl (fun v Z1 q9 => ?_)
        obtain ⟨rfl, hS9⟩ := q9
        subst hS9
        refine V.eq (S' := S) (ls' := [some (.ref (ax 10 0)), some (.ref q), some (.ref (ax 1 b))]) (st' := [.int (bI (false))]) rfl rfl rfl ?_
        refine V.if_eq h (off := 22) (by decide +kernel) (tgt := 64) (by decide) (fun _ => ?_) (fun q => absurd (by decide) q)
        exact V.vret h hA hr (hp _ ay (by unfold rsynF; rw [if_pos hold]; exact hS)) (by decide +kernel) (Nat.zero_le _) (Nat.zero_le _)
      · have q16_18 : ¬ _ := (fun z => q ((nI_ltI (by omega) (by omega)).mpr z))
        clear q
        omega
  · skip
    refine V.blk h [(.aload_n 1, 1)] (by decide +kernel) (pc' := 1) (ls' := [some (.ref (ax 10 0)), some (.ref q), none]) (st' := [.ref q]) rfl rfl (Nat.le_of_ble_eq_true rfl) ?_
    refine V.getI h cls_4 (j := 2) rfl hq.1 hq.2.1 (Or.inr ⟨_, wf_RX10_200⟩) (by decide +kernel) (v := nI b) hq.2.2.2.2.1 ?_
    refine V.if_lt h (off := 15) (by decide +kernel) (tgt := 19) (by decide) (fun q => ?_) (fun q => ?_)
    · have q4_44 := ((nI_z_lt (by omega)).mp q)
      clear q
      exact absurd q4_44 id
    · have q4_44 : ¬ _ := (fun z => q ((nI_z_lt (by omega)).mpr z))
      clear q
      refine V.blk h [(.aload_n 1, 1)] (by decide +kernel) (pc' := 8) (ls' := [some (.ref (ax 10 0)), some (.ref q), none]) (st' := [.ref q]) rfl rfl (Nat.le_of_ble_eq_true rfl) ?_
      refine V.getI h cls_4 (j := 2) rfl hq.1 hq.2.1 (Or.inr ⟨_, wf_RX10_200⟩) (by decide +kernel) (v := nI b) hq.2.2.2.2.1 ?_
      refine V.blk h [(.aload_n 0, 1)] (by decide +kernel) (pc' := 12) (ls' := [some (.ref (ax 10 0)), some (.ref q), none]) (st' := [.ref (ax 10 0), .int (nI (b))]) rfl rfl (Nat.le_of_ble_eq_true rfl) ?_
      refine V.getP h cls_10 (j := 5) rfl (hS.mem (show lv A 10 0 from rfl)) (hS.knd (show lv A 10 0 from rfl)) (Or.inl wf_RX10_39) (by decide +kernel) (v := some (ax 25 0)) (hS.ptr (show lv A 10 0 from rfl) (by decide) (by decide) rfl) ?_
      refine V.eq (S' := S) (ls' := [some (.ref (ax 10 0)), some (.ref q), none]) (st' := [.ref (ax 25 0), .int (nI (b))]) rfl rfl rfl ?_
      refine V.alen h 25 (hS.mem (show lv A 25 0 from rfl)) (hS.knd (show lv A 25 0 from rfl)) (by decide) (M := tf A 1) (hS.len (show lv A 25 0 from rfl) (by decide)) (by decide +kernel) ?_
      refine V.icmp_lt h (off := 4) (by decide +kernel) (tgt := 20) (by decide) (fun q => ?_) (fun q => ?_)
      · have q16_56 := ((nI_ltI (by omega) (by omega)).mp q)
        clear q
        refine V.blk h [(.aload_n 0, 1)] (by decide +kernel) (pc' := 21) (ls' := [some (.ref (ax 10 0)), some (.ref q), none]) (st' := [.ref (ax 10 0)]) rfl rfl (Nat.le_of_ble_eq_true rfl) ?_
        refine V.getP h cls_10 (j := 5) rfl (hS.mem (show lv A 10 0 from rfl)) (hS.knd (show lv A 10 0 from rfl)) (Or.inl wf_RX10_39) (by decide +kernel) (v := some (ax 25 0)) (hS.ptr (show lv A 10 0 from rfl) (by decide) (by decide) rfl) ?_
        refine V.eq (S' := S) (ls' := [some (.ref (ax 10 0)), some (.ref q), none]) (st' := [.ref (ax 25 0)]) rfl rfl rfl ?_
        refine V.blk h [(.aload_n 1, 1)] (by decide +kernel) (pc' := 25) (ls' := [some (.ref (ax 10 0)), some (.ref q), none]) (st' := [.ref q, .ref (ax 25 0)]) rfl rfl (Nat.le_of_ble_eq_true rfl) ?_
        refine V.getI h cls_4 (j := 2) rfl hq.1 hq.2.1 (Or.inr ⟨_, wf_RX10_200⟩) (by decide +kernel) (v := nI b) hq.2.2.2.2.1 ?_
        refine V.aald h 25 (hS.mem (show lv A 25 0 from rfl)) (hS.knd (show lv A 25 0 from rfl)) (by decide) rfl (M := tf A 1) (hS.len (show lv A 25 0 from rfl) (by decide)) (i := b) (by omega) (by show _ < 2 ^ 31; first | omega | decide) (by decide +kernel) (v := some (ax 1 b)) (hS.ref (show lv A 25 0 from rfl) (by decide) (by show _ < tf A 1; omega)) ?_
        refine V.eq (S' := S) (ls' := [some (.ref (ax 10 0)), some (.ref q), none]) (st' := [.ref (ax 1 b)]) rfl rfl rfl ?_
        refine V.blk h [(.astore_n 2, 1), (.aload_n 2, 1), (.aload_n 1, 1)] (by decide +kernel) (pc' := 32) (ls' := [some (.ref (ax 10 0)), some (.ref q), some (.ref (ax 1 b))]) (st' := [.ref q, .ref (ax 1 b)]) rfl rfl (Nat.le_of_ble_eq_true rfl) ?_
        refine V.getI h cls_4 (j := 1) rfl hq.1 hq.2.1 (Or.inr ⟨_, wf_RX10_199⟩) (by decide +kernel) (v := nI e) hq.2.2.2.1 ?_
        refine V.blk h [(.aload_n 1, 1)] (by decide +kernel) (pc' := 36) (ls' := [some (.ref (ax 10 0)), some (.ref q), some (.ref (ax 1 b))]) (st' := [.ref q, .int (nI (e)), .ref (ax 1 b)]) rfl rfl (Nat.le_of_ble_eq_true rfl) ?_
        refine V.getI h cls_4 (j := 4) rfl hq.1 hq.2.1 (Or.inr ⟨_, wf_RX10_203⟩) (by decide +kernel) (v := nI n) hq.2.2.2.2.2.2.1 ?_
        refine V.callV h (np := 2) (st := []) (c_readSync hls hS (b := b) (e := e) (n := n) hb (by omega) (by omega) hB (by omega) (post := fun v S7 => v = some (.int (bI true)) ∧ RA tc (mx ax ay) (rsynA A b e n) S7 ∧ lfr S S7) ⟨fun z9 => absurd z9 hold, fun _ S7 hr7 hl7 => ⟨rfl, hr7, hl7⟩⟩) wc_X1_readSync wn_RX1 (Or.inr ⟨_, wm_RX10_302⟩) wi_X1_readSync we_X1_readSync (by decide +kernel) rfl cls_1 (hS.mem (show lv A 1 b from hb)) (hS.knd (show lv A 1 b from hb)) (Nat.le_of_ble_eq_true rfl) (Nat.le_of_ble_eq_true rfl) (Nat.zero_le _) (Nat.zero_le _) (by simp [Value.category]) (by decide +kernel) rfl (fun v Z2 q9 => ?_)
        obtain ⟨rfl, hr1, hlf1⟩ := q9
        obtain ⟨G, hG⟩ : ∃ X9 : TS, X9 = (rsynA A b e n) := ⟨_, rfl⟩
        rw [← hG] at hr1
        have g1 : tf G 1 = tf A 1 := by rw [hG]; unfold rsynA; split <;> (try split) <;> rfl
        have hbG : b < tf G 1 := by rw [g1]; exact hb
        refine V.eq (S' := Z2) (ls' := [some (.ref (ax 10 0)), some (.ref q), some (.ref (ax 1 b))]) (st' := [.int (bI (true))]) rfl rfl rfl ?_
        refine V.if_eq h (off := 22) (by decide +kernel) (tgt := 64) (by decide) (fun q => absurd q (by decide)) (fun _ => ?_)
        refine V.blk h [(.aload_n 0, 1)] (by decide +kernel) (pc' := 46) (ls' := [some (.ref (ax 10 0)), some (.ref q), some (.ref (ax 1 b))]) (st' := [.ref (ax 10 0)]) rfl rfl (Nat.le_of_ble_eq_true rfl) ?_
        refine V.getP h cls_10 (j := 3) rfl (hr1.mem (show lv G 10 0 from rfl)) (hr1.knd (show lv G 10 0 from rfl)) (Or.inl wf_RX10_26) (by decide +kernel) (v := some (ax 7 0)) (hr1.ptr (show lv G 10 0 from rfl) (by decide) (by decide) rfl) ?_
        refine V.eq (S' := Z2) (ls' := [some (.ref (ax 10 0)), some (.ref q), some (.ref (ax 1 b))]) (st' := [.ref (ax 7 0)]) rfl rfl rfl ?_
        refine V.blk h [(.aload_n 1, 1)] (by decide +kernel) (pc' := 50) (ls' := [some (.ref (ax 10 0)), some (.ref q), some (.ref (ax 1 b))]) (st' := [.ref q, .ref (ax 7 0)]) rfl rfl (Nat.le_of_ble_eq_true rfl) ?_
        refine V.getI h cls_4 (j := 1) rfl (hq.lfr hlf1).1 (hq.lfr hlf1).2.1 (Or.inr ⟨_, wf_RX10_199⟩) (by decide +kernel) (v := nI e) (hq.lfr hlf1).2.2.2.1 ?_
        refine V.blk h [(.aload_n 2, 1), (.aload_n 1, 1)] (by decide +kernel) (pc' := 55) (ls' := [some (.ref (ax 10 0)), some (.ref q), some (.ref (ax 1 b))]) (st' := [.ref q, .ref (ax 1 b), .int (nI (e)), .ref (ax 7 0)]) rfl rfl (Nat.le_of_ble_eq_true rfl) ?_
        refine V.getI h cls_4 (j := 5) rfl (hq.lfr hlf1).1 (hq.lfr hlf1).2.1 (Or.inr ⟨_, wf_RX10_286⟩) (by decide +kernel) (v := nI c9) (hq.lfr hlf1).2.2.2.2.2.2.2.1 ?_
        refine V.callS h (np := 3) (st := [.ref (ax 7 0)]) (c_toAck hls hr1 (e := e) (i := b) (c9 := c9) (show lv G 1 b from hbG) (post := fun v S8 => ∃ q8, v = some (.ref q8) ∧ RA tc (mx ax ay) (G) S8 ∧ LT S8 q8 7 e b none (tn G 40 b) (nI c9) false) (fun S8 q8 _ _ hr8 hl8 => ⟨q8, rfl, hr8, hl8⟩)) wc_X4_toAck wn_RX4 (Or.inr ⟨_, wm_RX10_306⟩) wt_X4_toAck (by decide +kernel) rfl (Nat.le_of_ble_eq_true rfl) (Nat.le_of_ble_eq_true rfl) (by show 0 + 1 ≤ 2; omega) (by show 0 + 7 ≤ 380; omega) (by simp [Value.category]) (by decide +kernel) rfl (fun v Z3 q9 => ?_)
        obtain ⟨lq4, rfl, hS5, hl6⟩ := q9
        refine V.eq (S' := Z3) (ls' := [some (.ref (ax 10 0)), some (.ref q), some (.ref (ax 1 b))]) (st' := [.ref lq4, .ref (ax 7 0)]) rfl rfl rfl ?_
        refine V.callV h (np := 1) (st := []) (c_r_send hls hS5 (so := 7) (e := e) (to := b) (op := 0) (n := tn G 40 b) (c9 := c9) (x := nI 0) (sa := false) (q := lq4) (ms := 373) (Nat.zero_le _) hl6 hS5.gc (post := fun v S8 => v = none ∧ ∃ ay8, RA tc (mx ax ay8) (sendF G 7 e b 0 (tn G 40 b) c9 (nI 0) false) S8 ∧ ay8 50 0 = nxM G (ay 50 0)) (fun S8 ay8 hr8 hn8 => ⟨rfl, ay8, hr8, hn8⟩)) wc_X7_send wn_RX7 (Or.inr ⟨_, wm_RX10_147⟩) wi_X7_send we_X7_send (by decide +kernel) rfl cls_7 (hS5.mem (show lv G 7 0 from rfl)) (hS5.knd (show lv G 7 0 from rfl)) (Nat.le_of_ble_eq_true rfl) (Nat.le_of_ble_eq_true rfl) (by show 1 + 1 ≤ 2; omega) (by show 7 + 373 ≤ 380; omega) (by simp [Value.category]) (by decide +kernel) rfl (fun v Z7 q9 => ?_)
        obtain ⟨rfl, ay8, hS9, hn10⟩ := q9
        exact V.vret h hA hr (hp _ _ (by unfold rsynF; rw [if_neg hold, ← hG]; exact hS9)) (by decide +kernel) (by omega) (by omega)
      · have q16_56 : ¬ _ := (fun z => q ((nI_ltI (by omega) (by omega)).mpr z))
        clear q
        omega
