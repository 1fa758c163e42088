/-! ===== the class itself: a letter is delivered ===== -/
set_option maxRecDepth 100000 in
set_option maxHeartbeats 4000000 in
theorem c_deliver0 {l : Launch} {D : va_G} {tc : Nat → ClassId} {ax ay : Nat → Nat → Nat} {A : TS} {S : HS} (hls : l.stackTraces = false) (hS : RA tc (mx ax ay) A S) {k9 : Nat} {G : TS} {e : Nat} {op : Nat} {K : Nat}  (hG : G = tkF A k9) (hk : k9 < tf A 53) (h45 : tn A 45 k9 = 0) (h46 : tn A 46 k9 = e) (h48 : tn A 48 k9 = op + 1) (he5 : e < tf G 5) (ho : op < tf G 13) (hk16 : tn G 8 op < 16) (hL : LogOK G e) (hsy : tn G 28 e ≤ tn G 26 e) (hg6 : tn G 37 e < 600) (hB : NB K G) (hK : K < 1700000000) (h9 : 700 ≤ K) {post : Option Value → HS → Prop} (hp : (tb G 30 e = false → ∀ (S8 : HS) (ay8 : Nat → Nat → Nat), RA tc (mx ax ay8) (G) S8 → post (some (.int (nI (tf (G) 53)))) S8) ∧ (tb G 30 e = true → ∀ (S8 : HS) (ax8 ay8 : Nat → Nat → Nat), (∀ g, g ≠ 3 → ax8 g = ax g) → RA tc (mx ax8 ay8) (rexC G e op) S8 → post (some (.int (nI (tf (rexC G e op) 53)))) S8)) : CM l D tc yX10_deliver cX10_deliver 3 (some .int) 12 10 2422 [.ref (ax 10 0), .int (nI (k9))] S post := by
  refine CM.of hls (by decide +kernel) (by simp [Value.category]) (Nat.le_of_ble_eq_true rfl) (fun A0 p e9 s m args below meth c sz h hr hnm hA => ?_)
  have h5 := hS.2.2.2.1.1
  have h12 := hS.2.2.2.1.2.1
  have h53 := hS.2.2.2.1.2.2.2.2
  have hf3 := hS.2.2.1.2.1
  have hf1 := hS.2.2.1.1
  refine V.eqL (ls' := [some (.ref (ax 10 0)), some (.int (nI (k9))), none]) rfl ?_
  rcases Bool.eq_false_or_eq_true (tb G 30 e) with hlv | hlv
  · skip
    refine V.blk h [(.iload_n 1, 1), (.aload_n 0, 1)] (by decide +kernel) (pc' := 2) (ls' := [some (.ref (ax 10 0)), some (.int (nI (k9))), none]) (st' := [.ref (ax 10 0), .int (nI (k9))]) rfl rfl (Nat.le_of_ble_eq_true rfl) ?_
    refine V.getP h cls_10 (j := 3) rfl (hS.mem (show lv A 10 0 from rfl)) (hS.knd (show lv A 10 0 from rfl)) (Or.inl wf_RX10_26) (by decide +kernel) (v := some (ax 7 0)) (hS.ptr (show lv A 10 0 from rfl) (by decide) (by decide) rfl) ?_
    refine V.eq (S' := S) (ls' := [some (.ref (ax 10 0)), some (.int (nI (k9))), none]) (st' := [.ref (ax 7 0), .int (nI (k9))]) rfl rfl rfl ?_
    refine V.callV h (np := 0) (st := [.int (nI (k9))]) (c_r_size hls hS (post := fun v Sq7 => v = some (.int (nI (tf A 53))) ∧ S = Sq7) ⟨rfl, rfl⟩) wc_X7_size wn_RX7 (Or.inr ⟨_, wm_RX10_121⟩) wi_X7_size we_X7_size (by decide +kernel) rfl cls_7 (hS.mem (show lv A 7 0 from rfl)) (hS.knd (show lv A 7 0 from rfl)) (Nat.le_of_ble_eq_true rfl) (Nat.le_of_ble_eq_true rfl) (Nat.zero_le _) (Nat.zero_le _) (by simp [Value.category]) (by decide +kernel) rfl (fun v Z1 q9 => ?_)
    obtain ⟨rfl, hS9⟩ := q9
    subst hS9
    refine V.eq (S' := S) (ls' := [some (.ref (ax 10 0)), some (.int (nI (k9))), none]) (st' := [.int (nI (tf A 53)), .int (nI (k9))]) rfl rfl rfl ?_
    have nb15 := hB.1 53
    refine V.callS h (np := 2) (st := []) (c_checkIndex hls (x := nI k9) (n := tf A 53) (noIx_nI (by omega) (by omega)) (post := fun v Sq7 => v = none ∧ S = Sq7) ⟨rfl, rfl⟩) wc_X10_checkIndex wn_RX10 (Or.inl wm_RX10_74) wt_X10_checkIndex (by decide +kernel) rfl (Nat.le_of_ble_eq_true rfl) (Nat.le_of_ble_eq_true rfl) (Nat.zero_le _) (Nat.zero_le _) (by simp [Value.category]) (by decide +kernel) rfl (fun v Z2 q9 => ?_)
    obtain ⟨rfl, hS9⟩ := q9
    subst hS9
    refine V.blk h [(.aload_n 0, 1)] (by decide +kernel) (pc' := 12) (ls' := [some (.ref (ax 10 0)), some (.int (nI (k9))), none]) (st' := [.ref (ax 10 0)]) rfl rfl (Nat.le_of_ble_eq_true rfl) ?_
    refine V.getP h cls_10 (j := 3) rfl (hS.mem (show lv A 10 0 from rfl)) (hS.knd (show lv A 10 0 from rfl)) (Or.inl wf_RX10_26) (by decide +kernel) (v := some (ax 7 0)) (hS.ptr (show lv A 10 0 from rfl) (by decide) (by decide) rfl) ?_
    refine V.eq (S' := S) (ls' := [some (.ref (ax 10 0)), some (.int (nI (k9))), none]) (st' := [.ref (ax 7 0)]) rfl rfl rfl ?_
    refine V.blk h [(.iload_n 1, 1)] (by decide +kernel) (pc' := 16) (ls' := [some (.ref (ax 10 0)), some (.int (nI (k9))), none]) (st' := [.int (nI (k9)), .ref (ax 7 0)]) rfl rfl (Nat.le_of_ble_eq_true rfl) ?_
    refine V.callV h (np := 1) (st := []) (c_r_take hls hS (k := k9) hk (post := fun v Sq7 => v = some (.ref (ay 4 k9)) ∧ ∃ ay8, RA tc (mx ax ay8) (tkF A k9) Sq7 ∧ LT Sq7 (ay 4 k9) (tn A 45 k9) (tn A 46 k9) (tn A 47 k9) (opA (mx ax ay) (tn A 48 k9)) (tn A 49 k9) (if tn A 45 k9 = 2 then tr A 51 k9 else nI (tn A 50 k9)) (tb A 52 k9)) (fun Sq7 ay7 hr7 hl7 _ => ⟨rfl, ay7, hr7, hl7⟩)) wc_X7_take wn_RX7 (Or.inr ⟨_, wm_RX10_122⟩) wi_X7_take we_X7_take (by decide +kernel) rfl cls_7 (hS.mem (show lv A 7 0 from rfl)) (hS.knd (show lv A 7 0 from rfl)) (Nat.le_of_ble_eq_true rfl) (Nat.le_of_ble_eq_true rfl) (Nat.zero_le _) (Nat.zero_le _) (by simp [Value.category]) (by decide +kernel) rfl (fun v Z3 q9 => ?_)
    obtain ⟨rfl, ay1, hr1, hl1⟩ := q9
    rw [← hG] at hr1
    rw [h45, h46, h48, if_neg (by decide)] at hl1
    refine V.eq (S' := Z3) (ls' := [some (.ref (ax 10 0)), some (.int (nI (k9))), none]) (st' := [.ref ((ay 4 k9))]) rfl rfl rfl ?_
    refine V.blk h [(.astore_n 2, 1), (.aload_n 2, 1)] (by decide +kernel) (pc' := 21) (ls' := [some (.ref (ax 10 0)), some (.int (nI (k9))), some (.ref ((ay 4 k9)))]) (st' := [.ref ((ay 4 k9))]) rfl rfl (Nat.le_of_ble_eq_true rfl) ?_
    refine V.ifnonnull h (o := (some ((ay 4 k9)))) (off := 11) (by decide +kernel) (tgt := 32) (by decide) (fun _ _ => ?_) (fun z => by cases z)
    refine V.blk h [(.aload_n 2, 1)] (by decide +kernel) (pc' := 33) (ls' := [some (.ref (ax 10 0)), some (.int (nI (k9))), some (.ref ((ay 4 k9)))]) (st' := [.ref ((ay 4 k9))]) rfl rfl (Nat.le_of_ble_eq_true rfl) ?_
    refine V.getI h cls_4 (j := 0) rfl hl1.1 hl1.2.1 (Or.inr ⟨_, wf_RX10_126⟩) (by decide +kernel) (v := nI 0) hl1.2.2.1 ?_
    refine V.tableN h (dflt := 72) (hi := 7) (offs := #[48, 72, 56, 56, 56, 48, 64, 48]) (len := 48) (x := 0) (off := 48) (tgt := 84) (by decide) (by decide +kernel) (by decide) rfl (by decide) ?_
    refine V.blk h [(.aload_n 0, 1), (.aload_n 2, 1)] (by decide +kernel) (pc' := 86) (ls' := [some (.ref (ax 10 0)), some (.int (nI (k9))), some (.ref ((ay 4 k9)))]) (st' := [.ref ((ay 4 k9)), .ref (ax 10 0)]) rfl rfl (Nat.le_of_ble_eq_true rfl) ?_
    refine V.callV h (np := 1) (st := []) (c_rMaster0 hls hr1 (e := e) (op := op) (q := ay 4 k9) he5 hl1 ho hk16 hL hsy hg6 hB (by omega) h9 (post := fun v Sq7 => v = none ∧ ∃ ax8 ay8, (∀ g, g ≠ 3 → ax8 g = ax g) ∧ RA tc (mx ax8 ay8) (rexC G e op) Sq7) ⟨fun z9 => absurd (z9.symm.trans hlv) (by decide), fun _ => (fun Sq7 ax7 ay7 hx7 hr7 => ⟨rfl, ax7, ay7, hx7, hr7⟩)⟩) wc_X10_readAtMaster wn_RX10 (Or.inl wm_RX10_131) wi_X10_readAtMaster we_X10_readAtMaster (by decide +kernel) rfl cls_10 (hr1.mem (show lv G 10 0 from rfl)) (hr1.knd (show lv G 10 0 from rfl)) (Nat.le_of_ble_eq_true rfl) (Nat.le_of_ble_eq_true rfl) (by show 0 + 10 ≤ 10; omega) (by show 0 + 2422 ≤ 2422; omega) (by simp [Value.category]) (by decide +kernel) rfl (fun v Z4 q9 => ?_)
    obtain ⟨rfl, ax2, ay2, hx2, hr2⟩ := q9
    refine V.eqL (ls' := [some (.ref (ax2 10 0)), some (.int (nI (k9))), some (.ref ((ay 4 k9)))]) (by rw [hx2 10 (by decide)]) ?_
    refine V.goto h (off := 24) (tgt := 113) (by decide +kernel) (by decide) ?_
    refine V.blk h [(.aload_n 0, 1)] (by decide +kernel) (pc' := 114) (ls' := [some (.ref (ax2 10 0)), some (.int (nI (k9))), some (.ref ((ay 4 k9)))]) (st' := [.ref (ax2 10 0)]) rfl rfl (Nat.le_of_ble_eq_true rfl) ?_
    refine V.getP h cls_10 (j := 3) rfl (hr2.mem (show lv (rexC G e op) 10 0 from rfl)) (hr2.knd (show lv (rexC G e op) 10 0 from rfl)) (Or.inl wf_RX10_26) (by decide +kernel) (v := some (ax2 7 0)) (hr2.ptr (show lv (rexC G e op) 10 0 from rfl) (by decide) (by decide) rfl) ?_
    refine V.eq (S' := Z4) (ls' := [some (.ref (ax2 10 0)), some (.int (nI (k9))), some (.ref ((ay 4 k9)))]) (st' := [.ref (ax2 7 0)]) rfl rfl rfl ?_
    refine V.callV h (np := 0) (st := []) (c_r_size hls hr2 (post := fun v Sq7 => v = some (.int (nI (tf (rexC G e op) 53))) ∧ Z4 = Sq7) ⟨rfl, rfl⟩) wc_X7_size wn_RX7 (Or.inr ⟨_, wm_RX10_121⟩) wi_X7_size we_X7_size (by decide +kernel) rfl cls_7 (hr2.mem (show lv (rexC G e op) 7 0 from rfl)) (hr2.knd (show lv (rexC G e op) 7 0 from rfl)) (Nat.le_of_ble_eq_true rfl) (Nat.le_of_ble_eq_true rfl) (by show 10 + 0 ≤ 10; omega) (by show 2422 + 0 ≤ 2422; omega) (by simp [Value.category]) (by decide +kernel) rfl (fun v Z5 q9 => ?_)
    obtain ⟨rfl, hS9⟩ := q9
    subst hS9
    refine V.eq (S' := Z4) (ls' := [some (.ref (ax2 10 0)), some (.int (nI (k9))), some (.ref ((ay 4 k9)))]) (st' := [.int (nI (tf (rexC G e op) 53))]) rfl rfl rfl ?_
    exact V.iret h hA hr rfl (hp.2 hlv _ _ _ hx2 hr2) (by decide +kernel) (by omega) (by omega)
  · skip
    refine V.blk h [(.iload_n 1, 1), (.aload_n 0, 1)] (by decide +kernel) (pc' := 2) (ls' := [some (.ref (ax 10 0)), some (.int (nI (k9))), none]) (st' := [.ref (ax 10 0), .int (nI (k9))]) rfl rfl (Nat.le_of_ble_eq_true rfl) ?_
    refine V.getP h cls_10 (j := 3) rfl (hS.mem (show lv A 10 0 from rfl)) (hS.knd (show lv A 10 0 from rfl)) (Or.inl wf_RX10_26) (by decide +kernel) (v := some (ax 7 0)) (hS.ptr (show lv A 10 0 from rfl) (by decide) (by decide) rfl) ?_
    refine V.eq (S' := S) (ls' := [some (.ref (ax 10 0)), some (.int (nI (k9))), none]) (st' := [.ref (ax 7 0), .int (nI (k9))]) rfl rfl rfl ?_
    refine V.callV h (np := 0) (st := [.int (nI (k9))]) (c_r_size hls hS (post := fun v Sq7 => v = some (.int (nI (tf A 53))) ∧ S = Sq7) ⟨rfl, rfl⟩) wc_X7_size wn_RX7 (Or.inr ⟨_, wm_RX10_121⟩) wi_X7_size we_X7_size (by decide +kernel) rfl cls_7 (hS.mem (show lv A 7 0 from rfl)) (hS.knd (show lv A 7 0 from rfl)) (Nat.le_of_ble_eq_true rfl) (Nat.le_of_ble_eq_true rfl) (Nat.zero_le _) (Nat.zero_le _) (by simp [Value.category]) (by decide +kernel) rfl (fun v Z6 q9 => ?_)
    obtain ⟨rfl, hS9⟩ := q9
    subst hS9
    refine V.eq (S' := S) (ls' := [some (.ref (ax 10 0)), some (.int (nI (k9))), none]) (st' := [.int (nI (tf A 53)), .int (nI (k9))]) rfl rfl rfl ?_
    have nb54 := hB.1 53
    refine V.callS h (np := 2) (st := []) (c_checkIndex hls (x := nI k9) (n := tf A 53) (noIx_nI (by omega) (by omega)) (post := fun v Sq7 => v = none ∧ S = Sq7) ⟨rfl, rfl⟩) wc_X10_checkIndex wn_RX10 (Or.inl wm_RX10_74) wt_X10_checkIndex (by decide +kernel) rfl (Nat.le_of_ble_eq_true rfl) (Nat.le_of_ble_eq_true rfl) (Nat.zero_le _) (Nat.zero_le _) (by simp [Value.category]) (by decide +kernel) rfl (fun v Z7 q9 => ?_)
    obtain ⟨rfl, hS9⟩ := q9
    subst hS9
    refine V.blk h [(.aload_n 0, 1)] (by decide +kernel) (pc' := 12) (ls' := [some (.ref (ax 10 0)), some (.int (nI (k9))), none]) (st' := [.ref (ax 10 0)]) rfl rfl (Nat.le_of_ble_eq_true rfl) ?_
    refine V.getP h cls_10 (j := 3) rfl (hS.mem (show lv A 10 0 from rfl)) (hS.knd (show lv A 10 0 from rfl)) (Or.inl wf_RX10_26) (by decide +kernel) (v := some (ax 7 0)) (hS.ptr (show lv A 10 0 from rfl) (by decide) (by decide) rfl) ?_
    refine V.eq (S' := S) (ls' := [some (.ref (ax 10 0)), some (.int (nI (k9))), none]) (st' := [.ref (ax 7 0)]) rfl rfl rfl ?_
    refine V.blk h [(.iload_n 1, 1)] (by decide +kernel) (pc' := 16) (ls' := [some (.ref (ax 10 0)), some (.int (nI (k9))), none]) (st' := [.int (nI (k9)), .ref (ax 7 0)]) rfl rfl (Nat.le_of_ble_eq_true rfl) ?_
    refine V.callV h (np := 1) (st := []) (c_r_take hls hS (k := k9) hk (post := fun v Sq7 => v = some (.ref (ay 4 k9)) ∧ ∃ ay8, RA tc (mx ax ay8) (tkF A k9) Sq7 ∧ LT Sq7 (ay 4 k9) (tn A 45 k9) (tn A 46 k9) (tn A 47 k9) (opA (mx ax ay) (tn A 48 k9)) (tn A 49 k9) (if tn A 45 k9 = 2 then tr A 51 k9 else nI (tn A 50 k9)) (tb A 52 k9)) (fun Sq7 ay7 hr7 hl7 _ => ⟨rfl, ay7, hr7, hl7⟩)) wc_X7_take wn_RX7 (Or.inr ⟨_, wm_RX10_122⟩) wi_X7_take we_X7_take (by decide +kernel) rfl cls_7 (hS.mem (show lv A 7 0 from rfl)) (hS.knd (show lv A 7 0 from rfl)) (Nat.le_of_ble_eq_true rfl) (Nat.le_of_ble_eq_true rfl) (Nat.zero_le _) (Nat.zero_le _) (by simp [Value.category]) (by decide +kernel) rfl (fun v Z8 q9 => ?_)
    obtain ⟨rfl, ay1, hr1, hl1⟩ := q9
    rw [← hG] at hr1
    rw [h45, h46, h48, if_neg (by decide)] at hl1
    refine V.eq (S' := Z8) (ls' := [some (.ref (ax 10 0)), some (.int (nI (k9))), none]) (st' := [.ref ((ay 4 k9))]) rfl rfl rfl ?_
    refine V.blk h [(.astore_n 2, 1), (.aload_n 2, 1)] (by decide +kernel) (pc' := 21) (ls' := [some (.ref (ax 10 0)), some (.int (nI (k9))), some (.ref ((ay 4 k9)))]) (st' := [.ref ((ay 4 k9))]) rfl rfl (Nat.le_of_ble_eq_true rfl) ?_
    refine V.ifnonnull h (o := (some ((ay 4 k9)))) (off := 11) (by decide +kernel) (tgt := 32) (by decide) (fun _ _ => ?_) (fun z => by cases z)
    refine V.blk h [(.aload_n 2, 1)] (by decide +kernel) (pc' := 33) (ls' := [some (.ref (ax 10 0)), some (.int (nI (k9))), some (.ref ((ay 4 k9)))]) (st' := [.ref ((ay 4 k9))]) rfl rfl (Nat.le_of_ble_eq_true rfl) ?_
    refine V.getI h cls_4 (j := 0) rfl hl1.1 hl1.2.1 (Or.inr ⟨_, wf_RX10_126⟩) (by decide +kernel) (v := nI 0) hl1.2.2.1 ?_
    refine V.tableN h (dflt := 72) (hi := 7) (offs := #[48, 72, 56, 56, 56, 48, 64, 48]) (len := 48) (x := 0) (off := 48) (tgt := 84) (by decide) (by decide +kernel) (by decide) rfl (by decide) ?_
    refine V.blk h [(.aload_n 0, 1), (.aload_n 2, 1)] (by decide +kernel) (pc' := 86) (ls' := [some (.ref (ax 10 0)), some (.int (nI (k9))), some (.ref ((ay 4 k9)))]) (st' := [.ref ((ay 4 k9)), .ref (ax 10 0)]) rfl rfl (Nat.le_of_ble_eq_true rfl) ?_
    refine V.callV h (np := 1) (st := []) (c_rMaster0 hls hr1 (e := e) (op := op) (q := ay 4 k9) he5 hl1 ho hk16 hL hsy hg6 hB (by omega) h9 (post := fun v Sq7 => v = none ∧ Z8 = Sq7) ⟨fun _ => ⟨rfl, rfl⟩, fun z9 => absurd (z9.symm.trans hlv) (by decide)⟩) wc_X10_readAtMaster wn_RX10 (Or.inl wm_RX10_131) wi_X10_readAtMaster we_X10_readAtMaster (by decide +kernel) rfl cls_10 (hr1.mem (show lv G 10 0 from rfl)) (hr1.knd (show lv G 10 0 from rfl)) (Nat.le_of_ble_eq_true rfl) (Nat.le_of_ble_eq_true rfl) (by show 0 + 10 ≤ 10; omega) (by show 0 + 2422 ≤ 2422; omega) (by simp [Value.category]) (by decide +kernel) rfl (fun v Z9 q9 => ?_)
    obtain ⟨rfl, hS9⟩ := q9
    subst hS9
    refine V.goto h (off := 24) (tgt := 113) (by decide +kernel) (by decide) ?_
    refine V.blk h [(.aload_n 0, 1)] (by decide +kernel) (pc' := 114) (ls' := [some (.ref (ax 10 0)), some (.int (nI (k9))), some (.ref ((ay 4 k9)))]) (st' := [.ref (ax 10 0)]) rfl rfl (Nat.le_of_ble_eq_true rfl) ?_
    refine V.getP h cls_10 (j := 3) rfl (hr1.mem (show lv G 10 0 from rfl)) (hr1.knd (show lv G 10 0 from rfl)) (Or.inl wf_RX10_26) (by decide +kernel) (v := some (ax 7 0)) (hr1.ptr (show lv G 10 0 from rfl) (by decide) (by decide) rfl) ?_
    refine V.eq (S' := Z8) (ls' := [some (.ref (ax 10 0)), some (.int (nI (k9))), some (.ref ((ay 4 k9)))]) (st' := [.ref (ax 7 0)]) rfl rfl rfl ?_
    refine V.callV h (np := 0) (st := []) (c_r_size hls hr1 (post := fun v Sq7 => v = some (.int (nI (tf G 53))) ∧ Z8 = Sq7) ⟨rfl, rfl⟩) wc_X7_size wn_RX7 (Or.inr ⟨_, wm_RX10_121⟩) wi_X7_size we_X7_size (by decide +kernel) rfl cls_7 (hr1.mem (show lv G 7 0 from rfl)) (hr1.knd (show lv G 7 0 from rfl)) (Nat.le_of_ble_eq_true rfl) (Nat.le_of_ble_eq_true rfl) (by show 10 + 0 ≤ 10; omega) (by show 2422 + 0 ≤ 2422; omega) (by simp [Value.category]) (by decide +kernel) rfl (fun v Z10 q9 => ?_)
    obtain ⟨rfl, hS9⟩ := q9
    subst hS9
    refine V.eq (S' := Z8) (ls' := [some (.ref (ax 10 0)), some (.int (nI (k9))), some (.ref ((ay 4 k9)))]) (st' := [.int (nI (tf G 53))]) rfl rfl rfl ?_
    exact V.iret h hA hr rfl (hp.1 hlv _ _ hr1) (by decide +kernel) (by omega) (by omega)
set_option maxRecDepth 100000 in
set_option maxHeartbeats 4000000 in
theorem c_deliver5 {l : Launch} {D : va_G} {tc : Nat → ClassId} {ax ay : Nat → Nat → Nat} {A : TS} {S : HS} (hls : l.stackTraces = false) (hS : RA tc (mx ax ay) A S) {k9 : Nat} {G : TS} {e : Nat} {op : Nat} {K : Nat}  (hG : G = tkF A k9) (hk : k9 < tf A 53) (h45 : tn A 45 k9 = 5) (h46 : tn A 46 k9 = e) (h48 : tn A 48 k9 = op + 1) (he5 : e < tf G 5) (ho : op < tf G 13) (hL : LogOK G e) (hB : NB K G) (hK : K < 1700000000) (h9 : 700 ≤ K) {post : Option Value → HS → Prop} (hp : (tb G 30 e = false → ∀ (S8 : HS) (ay8 : Nat → Nat → Nat), RA tc (mx ax ay8) (G) S8 → post (some (.int (nI (tf (G) 53)))) S8) ∧ (tb G 30 e = true → ∀ (S8 : HS) (ay8 : Nat → Nat → Nat), RA tc (mx ax ay8) (snowF G e op) S8 → post (some (.int (nI (tf (snowF G e op) 53)))) S8)) : CM l D tc yX10_deliver cX10_deliver 3 (some .int) 12 6 1140 [.ref (ax 10 0), .int (nI (k9))] S post := by
  refine CM.of hls (by decide +kernel) (by simp [Value.category]) (Nat.le_of_ble_eq_true rfl) (fun A0 p e9 s m args below meth c sz h hr hnm hA => ?_)
  have h5 := hS.2.2.2.1.1
  have h12 := hS.2.2.2.1.2.1
  have h53 := hS.2.2.2.1.2.2.2.2
  have hf3 := hS.2.2.1.2.1
  have hf1 := hS.2.2.1.1
  refine V.eqL (ls' := [some (.ref (ax 10 0)), some (.int (nI (k9))), none]) rfl ?_
  rcases Bool.eq_false_or_eq_true (tb G 30 e) with hlv | hlv
  · skip
    refine V.blk h [(.iload_n 1, 1), (.aload_n 0, 1)] (by decide +kernel) (pc' := 2) (ls' := [some (.ref (ax 10 0)), some (.int (nI (k9))), none]) (st' := [.ref (ax 10 0), .int (nI (k9))]) rfl rfl (Nat.le_of_ble_eq_true rfl) ?_
    refine V.getP h cls_10 (j := 3) rfl (hS.mem (show lv A 10 0 from rfl)) (hS.knd (show lv A 10 0 from rfl)) (Or.inl wf_RX10_26) (by decide +kernel) (v := some (ax 7 0)) (hS.ptr (show lv A 10 0 from rfl) (by decide) (by decide) rfl) ?_
    refine V.eq (S' := S) (ls' := [some (.ref (ax 10 0)), some (.int (nI (k9))), none]) (st' := [.ref (ax 7 0), .int (nI (k9))]) rfl rfl rfl ?_
    refine V.callV h (np := 0) (st := [.int (nI (k9))]) (c_r_size hls hS (post := fun v Sq7 => v = some (.int (nI (tf A 53))) ∧ S = Sq7) ⟨rfl, rfl⟩) wc_X7_size wn_RX7 (Or.inr ⟨_, wm_RX10_121⟩) wi_X7_size we_X7_size (by decide +kernel) rfl cls_7 (hS.mem (show lv A 7 0 from rfl)) (hS.knd (show lv A 7 0 from rfl)) (Nat.le_of_ble_eq_true rfl) (Nat.le_of_ble_eq_true rfl) (Nat.zero_le _) (Nat.zero_le _) (by simp [Value.category]) (by decide +kernel) rfl (fun v Z1 q9 => ?_)
    obtain ⟨rfl, hS9⟩ := q9
    subst hS9
    refine V.eq (S' := S) (ls' := [some (.ref (ax 10 0)), some (.int (nI (k9))), none]) (st' := [.int (nI (tf A 53)), .int (nI (k9))]) rfl rfl rfl ?_
    have nb15 := hB.1 53
    refine V.callS h (np := 2) (st := []) (c_checkIndex hls (x := nI k9) (n := tf A 53) (noIx_nI (by omega) (by omega)) (post := fun v Sq7 => v = none ∧ S = Sq7) ⟨rfl, rfl⟩) wc_X10_checkIndex wn_RX10 (Or.inl wm_RX10_74) wt_X10_checkIndex (by decide +kernel) rfl (Nat.le_of_ble_eq_true rfl) (Nat.le_of_ble_eq_true rfl) (Nat.zero_le _) (Nat.zero_le _) (by simp [Value.category]) (by decide +kernel) rfl (fun v Z2 q9 => ?_)
    obtain ⟨rfl, hS9⟩ := q9
    subst hS9
    refine V.blk h [(.aload_n 0, 1)] (by decide +kernel) (pc' := 12) (ls' := [some (.ref (ax 10 0)), some (.int (nI (k9))), none]) (st' := [.ref (ax 10 0)]) rfl rfl (Nat.le_of_ble_eq_true rfl) ?_
    refine V.getP h cls_10 (j := 3) rfl (hS.mem (show lv A 10 0 from rfl)) (hS.knd (show lv A 10 0 from rfl)) (Or.inl wf_RX10_26) (by decide +kernel) (v := some (ax 7 0)) (hS.ptr (show lv A 10 0 from rfl) (by decide) (by decide) rfl) ?_
    refine V.eq (S' := S) (ls' := [some (.ref (ax 10 0)), some (.int (nI (k9))), none]) (st' := [.ref (ax 7 0)]) rfl rfl rfl ?_
    refine V.blk h [(.iload_n 1, 1)] (by decide +kernel) (pc' := 16) (ls' := [some (.ref (ax 10 0)), some (.int (nI (k9))), none]) (st' := [.int (nI (k9)), .ref (ax 7 0)]) rfl rfl (Nat.le_of_ble_eq_true rfl) ?_
    refine V.callV h (np := 1) (st := []) (c_r_take hls hS (k := k9) hk (post := fun v Sq7 => v = some (.ref (ay 4 k9)) ∧ ∃ ay8, RA tc (mx ax ay8) (tkF A k9) Sq7 ∧ LT Sq7 (ay 4 k9) (tn A 45 k9) (tn A 46 k9) (tn A 47 k9) (opA (mx ax ay) (tn A 48 k9)) (tn A 49 k9) (if tn A 45 k9 = 2 then tr A 51 k9 else nI (tn A 50 k9)) (tb A 52 k9)) (fun Sq7 ay7 hr7 hl7 _ => ⟨rfl, ay7, hr7, hl7⟩)) wc_X7_take wn_RX7 (Or.inr ⟨_, wm_RX10_122⟩) wi_X7_take we_X7_take (by decide +kernel) rfl cls_7 (hS.mem (show lv A 7 0 from rfl)) (hS.knd (show lv A 7 0 from rfl)) (Nat.le_of_ble_eq_true rfl) (Nat.le_of_ble_eq_true rfl) (Nat.zero_le _) (Nat.zero_le _) (by simp [Value.category]) (by decide +kernel) rfl (fun v Z3 q9 => ?_)
    obtain ⟨rfl, ay1, hr1, hl1⟩ := q9
    rw [← hG] at hr1
    rw [h45, h46, h48, if_neg (by decide)] at hl1
    refine V.eq (S' := Z3) (ls' := [some (.ref (ax 10 0)), some (.int (nI (k9))), none]) (st' := [.ref ((ay 4 k9))]) rfl rfl rfl ?_
    refine V.blk h [(.astore_n 2, 1), (.aload_n 2, 1)] (by decide +kernel) (pc' := 21) (ls' := [some (.ref (ax 10 0)), some (.int (nI (k9))), some (.ref ((ay 4 k9)))]) (st' := [.ref ((ay 4 k9))]) rfl rfl (Nat.le_of_ble_eq_true rfl) ?_
    refine V.ifnonnull h (o := (some ((ay 4 k9)))) (off := 11) (by decide +kernel) (tgt := 32) (by decide) (fun _ _ => ?_) (fun z => by cases z)
    refine V.blk h [(.aload_n 2, 1)] (by decide +kernel) (pc' := 33) (ls' := [some (.ref (ax 10 0)), some (.int (nI (k9))), some (.ref ((ay 4 k9)))]) (st' := [.ref ((ay 4 k9))]) rfl rfl (Nat.le_of_ble_eq_true rfl) ?_
    refine V.getI h cls_4 (j := 0) rfl hl1.1 hl1.2.1 (Or.inr ⟨_, wf_RX10_126⟩) (by decide +kernel) (v := nI 5) hl1.2.2.1 ?_
    refine V.tableN h (dflt := 72) (hi := 7) (offs := #[48, 72, 56, 56, 56, 48, 64, 48]) (len := 48) (x := 5) (off := 48) (tgt := 84) (by decide) (by decide +kernel) (by decide) rfl (by decide) ?_
    refine V.blk h [(.aload_n 0, 1), (.aload_n 2, 1)] (by decide +kernel) (pc' := 86) (ls' := [some (.ref (ax 10 0)), some (.int (nI (k9))), some (.ref ((ay 4 k9)))]) (st' := [.ref ((ay 4 k9)), .ref (ax 10 0)]) rfl rfl (Nat.le_of_ble_eq_true rfl) ?_
    refine V.callV h (np := 1) (st := []) (c_rMaster5 hls hr1 (e := e) (op := op) (q := ay 4 k9) he5 hl1 ho hL hB (by omega) h9 (post := fun v Sq7 => v = none ∧ ∃ ay8, RA tc (mx ax ay8) (snowF G e op) Sq7) ⟨fun z9 => absurd (z9.symm.trans hlv) (by decide), fun _ => (fun Sq7 ay7 hr7 => ⟨rfl, ay7, hr7⟩)⟩) wc_X10_readAtMaster wn_RX10 (Or.inl wm_RX10_131) wi_X10_readAtMaster we_X10_readAtMaster (by decide +kernel) rfl cls_10 (hr1.mem (show lv G 10 0 from rfl)) (hr1.knd (show lv G 10 0 from rfl)) (Nat.le_of_ble_eq_true rfl) (Nat.le_of_ble_eq_true rfl) (by show 0 + 6 ≤ 6; omega) (by show 0 + 1140 ≤ 1140; omega) (by simp [Value.category]) (by decide +kernel) rfl (fun v Z4 q9 => ?_)
    obtain ⟨rfl, ay2, hr2⟩ := q9
    refine V.goto h (off := 24) (tgt := 113) (by decide +kernel) (by decide) ?_
    refine V.blk h [(.aload_n 0, 1)] (by decide +kernel) (pc' := 114) (ls' := [some (.ref (ax 10 0)), some (.int (nI (k9))), some (.ref ((ay 4 k9)))]) (st' := [.ref (ax 10 0)]) rfl rfl (Nat.le_of_ble_eq_true rfl) ?_
    refine V.getP h cls_10 (j := 3) rfl (hr2.mem (show lv (snowF G e op) 10 0 from rfl)) (hr2.knd (show lv (snowF G e op) 10 0 from rfl)) (Or.inl wf_RX10_26) (by decide +kernel) (v := some (ax 7 0)) (hr2.ptr (show lv (snowF G e op) 10 0 from rfl) (by decide) (by decide) rfl) ?_
    refine V.eq (S' := Z4) (ls' := [some (.ref (ax 10 0)), some (.int (nI (k9))), some (.ref ((ay 4 k9)))]) (st' := [.ref (ax 7 0)]) rfl rfl rfl ?_
    refine V.callV h (np := 0) (st := []) (c_r_size hls hr2 (post := fun v Sq7 => v = some (.int (nI (tf (snowF G e op) 53))) ∧ Z4 = Sq7) ⟨rfl, rfl⟩) wc_X7_size wn_RX7 (Or.inr ⟨_, wm_RX10_121⟩) wi_X7_size we_X7_size (by decide +kernel) rfl cls_7 (hr2.mem (show lv (snowF G e op) 7 0 from rfl)) (hr2.knd (show lv (snowF G e op) 7 0 from rfl)) (Nat.le_of_ble_eq_true rfl) (Nat.le_of_ble_eq_true rfl) (by show 6 + 0 ≤ 6; omega) (by show 1140 + 0 ≤ 1140; omega) (by simp [Value.category]) (by decide +kernel) rfl (fun v Z5 q9 => ?_)
    obtain ⟨rfl, hS9⟩ := q9
    subst hS9
    refine V.eq (S' := Z4) (ls' := [some (.ref (ax 10 0)), some (.int (nI (k9))), some (.ref ((ay 4 k9)))]) (st' := [.int (nI (tf (snowF G e op) 53))]) rfl rfl rfl ?_
    exact V.iret h hA hr rfl (hp.2 hlv _ _ hr2) (by decide +kernel) (by omega) (by omega)
  · skip
    refine V.blk h [(.iload_n 1, 1), (.aload_n 0, 1)] (by decide +kernel) (pc' := 2) (ls' := [some (.ref (ax 10 0)), some (.int (nI (k9))), none]) (st' := [.ref (ax 10 0), .int (nI (k9))]) rfl rfl (Nat.le_of_ble_eq_true rfl) ?_
    refine V.getP h cls_10 (j := 3) rfl (hS.mem (show lv A 10 0 from rfl)) (hS.knd (show lv A 10 0 from rfl)) (Or.inl wf_RX10_26) (by decide +kernel) (v := some (ax 7 0)) (hS.ptr (show lv A 10 0 from rfl) (by decide) (by decide) rfl) ?_
    refine V.eq (S' := S) (ls' := [some (.ref (ax 10 0)), some (.int (nI (k9))), none]) (st' := [.ref (ax 7 0), .int (nI (k9))]) rfl rfl rfl ?_
    refine V.callV h (np := 0) (st := [.int (nI (k9))]) (c_r_size hls hS (post := fun v Sq7 => v = some (.int (nI (tf A 53))) ∧ S = Sq7) ⟨rfl, rfl⟩) wc_X7_size wn_RX7 (Or.inr ⟨_, wm_RX10_121⟩) wi_X7_size we_X7_size (by decide +kernel) rfl cls_7 (hS.mem (show lv A 7 0 from rfl)) (hS.knd (show lv A 7 0 from rfl)) (Nat.le_of_ble_eq_true rfl) (Nat.le_of_ble_eq_true rfl) (Nat.zero_le _) (Nat.zero_le _) (by simp [Value.category]) (by decide +kernel) rfl (fun v Z6 q9 => ?_)
    obtain ⟨rfl, hS9⟩ := q9
    subst hS9
    refine V.eq (S' := S) (ls' := [some (.ref (ax 10 0)), some (.int (nI (k9))), none]) (st' := [.int (nI (tf A 53)), .int (nI (k9))]) rfl rfl rfl ?_
    have nb53 := hB.1 53
    refine V.callS h (np := 2) (st := []) (c_checkIndex hls (x := nI k9) (n := tf A 53) (noIx_nI (by omega) (by omega)) (post := fun v Sq7 => v = none ∧ S = Sq7) ⟨rfl, rfl⟩) wc_X10_checkIndex wn_RX10 (Or.inl wm_RX10_74) wt_X10_checkIndex (by decide +kernel) rfl (Nat.le_of_ble_eq_true rfl) (Nat.le_of_ble_eq_true rfl) (Nat.zero_le _) (Nat.zero_le _) (by simp [Value.category]) (by decide +kernel) rfl (fun v Z7 q9 => ?_)
    obtain ⟨rfl, hS9⟩ := q9
    subst hS9
    refine V.blk h [(.aload_n 0, 1)] (by decide +kernel) (pc' := 12) (ls' := [some (.ref (ax 10 0)), some (.int (nI (k9))), none]) (st' := [.ref (ax 10 0)]) rfl rfl (Nat.le_of_ble_eq_true rfl) ?_
    refine V.getP h cls_10 (j := 3) rfl (hS.mem (show lv A 10 0 from rfl)) (hS.knd (show lv A 10 0 from rfl)) (Or.inl wf_RX10_26) (by decide +kernel) (v := some (ax 7 0)) (hS.ptr (show lv A 10 0 from rfl) (by decide) (by decide) rfl) ?_
    refine V.eq (S' := S) (ls' := [some (.ref (ax 10 0)), some (.int (nI (k9))), none]) (st' := [.ref (ax 7 0)]) rfl rfl rfl ?_
    refine V.blk h [(.iload_n 1, 1)] (by decide +kernel) (pc' := 16) (ls' := [some (.ref (ax 10 0)), some (.int (nI (k9))), none]) (st' := [.int (nI (k9)), .ref (ax 7 0)]) rfl rfl (Nat.le_of_ble_eq_true rfl) ?_
    refine V.callV h (np := 1) (st := []) (c_r_take hls hS (k := k9) hk (post := fun v Sq7 => v = some (.ref (ay 4 k9)) ∧ ∃ ay8, RA tc (mx ax ay8) (tkF A k9) Sq7 ∧ LT Sq7 (ay 4 k9) (tn A 45 k9) (tn A 46 k9) (tn A 47 k9) (opA (mx ax ay) (tn A 48 k9)) (tn A 49 k9) (if tn A 45 k9 = 2 then tr A 51 k9 else nI (tn A 50 k9)) (tb A 52 k9)) (fun Sq7 ay7 hr7 hl7 _ => ⟨rfl, ay7, hr7, hl7⟩)) wc_X7_take wn_RX7 (Or.inr ⟨_, wm_RX10_122⟩) wi_X7_take we_X7_take (by decide +kernel) rfl cls_7 (hS.mem (show lv A 7 0 from rfl)) (hS.knd (show lv A 7 0 from rfl)) (Nat.le_of_ble_eq_true rfl) (Nat.le_of_ble_eq_true rfl) (Nat.zero_le _) (Nat.zero_le _) (by simp [Value.category]) (by decide +kernel) rfl (fun v Z8 q9 => ?_)
    obtain ⟨rfl, ay1, hr1, hl1⟩ := q9
    rw [← hG] at hr1
    rw [h45, h46, h48, if_neg (by decide)] at hl1
    refine V.eq (S' := Z8) (ls' := [some (.ref (ax 10 0)), some (.int (nI (k9))), none]) (st' := [.ref ((ay 4 k9))]) rfl rfl rfl ?_
    refine V.blk h [(.astore_n 2, 1), (.aload_n 2, 1)] (by decide +kernel) (pc' := 21) (ls' := [some (.ref (ax 10 0)), some (.int (nI (k9))), some (.ref ((ay 4 k9)))]) (st' := [.ref ((ay 4 k9))]) rfl rfl (Nat.le_of_ble_eq_true rfl) ?_
    refine V.ifnonnull h (o := (some ((ay 4 k9)))) (off := 11) (by decide +kernel) (tgt := 32) (by decide) (fun _ _ => ?_) (fun z => by cases z)
    refine V.blk h [(.aload_n 2, 1)] (by decide +kernel) (pc' := 33) (ls' := [some (.ref (ax 10 0)), some (.int (nI (k9))), some (.ref ((ay 4 k9)))]) (st' := [.ref ((ay 4 k9))]) rfl rfl (Nat.le_of_ble_eq_true rfl) ?_
    refine V.getI h cls_4 (j := 0) rfl hl1.1 hl1.2.1 (Or.inr ⟨_, wf_RX10_126⟩) (by decide +kernel) (v := nI 5) hl1.2.2.1 ?_
    refine V.tableN h (dflt := 72) (hi := 7) (offs := #[48, 72, 56, 56, 56, 48, 64, 48]) (len := 48) (x := 5) (off := 48) (tgt := 84) (by decide) (by decide +kernel) (by decide) rfl (by decide) ?_
    refine V.blk h [(.aload_n 0, 1), (.aload_n 2, 1)] (by decide +kernel) (pc' := 86) (ls' := [some (.ref (ax 10 0)), some (.int (nI (k9))), some (.ref ((ay 4 k9)))]) (st' := [.ref ((ay 4 k9)), .ref (ax 10 0)]) rfl rfl (Nat.le_of_ble_eq_true rfl) ?_
    refine V.callV h (np := 1) (st := []) (c_rMaster5 hls hr1 (e := e) (op := op) (q := ay 4 k9) he5 hl1 ho hL hB (by omega) h9 (post := fun v Sq7 => v = none ∧ Z8 = Sq7) ⟨fun _ => ⟨rfl, rfl⟩, fun z9 => absurd (z9.symm.trans hlv) (by decide)⟩) wc_X10_readAtMaster wn_RX10 (Or.inl wm_RX10_131) wi_X10_readAtMaster we_X10_readAtMaster (by decide +kernel) rfl cls_10 (hr1.mem (show lv G 10 0 from rfl)) (hr1.knd (show lv G 10 0 from rfl)) (Nat.le_of_ble_eq_true rfl) (Nat.le_of_ble_eq_true rfl) (by show 0 + 6 ≤ 6; omega) (by show 0 + 1140 ≤ 1140; omega) (by simp [Value.category]) (by decide +kernel) rfl (fun v Z9 q9 => ?_)
    obtain ⟨rfl, hS9⟩ := q9
    subst hS9
    refine V.goto h (off := 24) (tgt := 113) (by decide +kernel) (by decide) ?_
    refine V.blk h [(.aload_n 0, 1)] (by decide +kernel) (pc' := 114) (ls' := [some (.ref (ax 10 0)), some (.int (nI (k9))), some (.ref ((ay 4 k9)))]) (st' := [.ref (ax 10 0)]) rfl rfl (Nat.le_of_ble_eq_true rfl) ?_
    refine V.getP h cls_10 (j := 3) rfl (hr1.mem (show lv G 10 0 from rfl)) (hr1.knd (show lv G 10 0 from rfl)) (Or.inl wf_RX10_26) (by decide +kernel) (v := some (ax 7 0)) (hr1.ptr (show lv G 10 0 from rfl) (by decide) (by decide) rfl) ?_
    refine V.eq (S' := Z8) (ls' := [some (.ref (ax 10 0)), some (.int (nI (k9))), some (.ref ((ay 4 k9)))]) (st' := [.ref (ax 7 0)]) rfl rfl rfl ?_
    refine V.callV h (np := 0) (st := []) (c_r_size hls hr1 (post := fun v Sq7 => v = some (.int (nI (tf G 53))) ∧ Z8 = Sq7) ⟨rfl, rfl⟩) wc_X7_size wn_RX7 (Or.inr ⟨_, wm_RX10_121⟩) wi_X7_size we_X7_size (by decide +kernel) rfl cls_7 (hr1.mem (show lv G 7 0 from rfl)) (hr1.knd (show lv G 7 0 from rfl)) (Nat.le_of_ble_eq_true rfl) (Nat.le_of_ble_eq_true rfl) (by show 6 + 0 ≤ 6; omega) (by show 1140 + 0 ≤ 1140; omega) (by simp [Value.category]) (by decide +kernel) rfl (fun v Z10 q9 => ?_)
    obtain ⟨rfl, hS9⟩ := q9
    subst hS9
    refine V.eq (S' := Z8) (ls' := [some (.ref (ax 10 0)), some (.int (nI (k9))), some (.ref ((ay 4 k9)))]) (st' := [.int (nI (tf G 53))]) rfl rfl rfl ?_
    exact V.iret h hA hr rfl (hp.1 hlv _ _ hr1) (by decide +kernel) (by omega) (by omega)
set_option maxRecDepth 100000 in
set_option maxHeartbeats 4000000 in
theorem c_deliver7 {l : Launch} {D : va_G} {tc : Nat → ClassId} {ax ay : Nat → Nat → Nat} {A : TS} {S : HS} (hls : l.stackTraces = false) (hS : RA tc (mx ax ay) A S) {k9 : Nat} {G : TS} {e : Nat} {b : Nat} {n : Nat} {c9 : Nat} {K : Nat}  (hG : G = tkF A k9) (hk : k9 < tf A 53) (h45 : tn A 45 k9 = 7) (h46 : tn A 46 k9 = e) (h47 : tn A 47 k9 = b) (h48 : tn A 48 k9 = 0) (h49 : tn A 49 k9 = n) (h50 : tn A 50 k9 = c9) (he5 : e < tf G 5) (hb : b < tf G 1) (hnK : n + 1 ≤ K) (hc9 : c9 ≤ K) (h36 : ∀ i, tn G 36 i < 2 ^ tf G 1) (h26 : tn G 26 e ≤ tf G 13) (h37 : tn G 37 e ≤ tf G 13) (hgo : ∀ i, tn G 33 i ≤ 600) (hop : ∀ i, tn G 22 i ≤ 600) (h97 : 7300 ≤ K) (hB : NB K G) (hK : K < 1700000000) (h9 : 700 ≤ K) {post : Option Value → HS → Prop} (hp : (tb G 30 e = false → ∀ (S8 : HS) (ay8 : Nat → Nat → Nat), RA tc (mx ax ay8) (G) S8 → post (some (.int (nI (tf (G) 53)))) S8) ∧ (tb G 30 e = true → ∀ (S8 : HS) (ay8 : Nat → Nat → Nat), RA tc (mx ax ay8) (rakC G e b n c9) S8 → post (some (.int (nI (tf (rakC G e b n c9) 53)))) S8)) : CM l D tc yX10_deliver cX10_deliver 3 (some .int) 12 (4 * tf G 13 + 12) (14 * tf G 13 + 5264) [.ref (ax 10 0), .int (nI (k9))] S post := by
  refine CM.of hls (by decide +kernel) (by simp [Value.category]) (Nat.le_of_ble_eq_true rfl) (fun A0 p e9 s m args below meth c sz h hr hnm hA => ?_)
  have h5 := hS.2.2.2.1.1
  have h12 := hS.2.2.2.1.2.1
  have h53 := hS.2.2.2.1.2.2.2.2
  have hf3 := hS.2.2.1.2.1
  have hf1 := hS.2.2.1.1
  refine V.eqL (ls' := [some (.ref (ax 10 0)), some (.int (nI (k9))), none]) rfl ?_
  rcases Bool.eq_false_or_eq_true (tb G 30 e) with hlv | hlv
  · skip
    refine V.blk h [(.iload_n 1, 1), (.aload_n 0, 1)] (by decide +kernel) (pc' := 2) (ls' := [some (.ref (ax 10 0)), some (.int (nI (k9))), none]) (st' := [.ref (ax 10 0), .int (nI (k9))]) rfl rfl (Nat.le_of_ble_eq_true rfl) ?_
    refine V.getP h cls_10 (j := 3) rfl (hS.mem (show lv A 10 0 from rfl)) (hS.knd (show lv A 10 0 from rfl)) (Or.inl wf_RX10_26) (by decide +kernel) (v := some (ax 7 0)) (hS.ptr (show lv A 10 0 from rfl) (by decide) (by decide) rfl) ?_
    refine V.eq (S' := S) (ls' := [some (.ref (ax 10 0)), some (.int (nI (k9))), none]) (st' := [.ref (ax 7 0), .int (nI (k9))]) rfl rfl rfl ?_
    refine V.callV h (np := 0) (st := [.int (nI (k9))]) (c_r_size hls hS (post := fun v Sq7 => v = some (.int (nI (tf A 53))) ∧ S = Sq7) ⟨rfl, rfl⟩) wc_X7_size wn_RX7 (Or.inr ⟨_, wm_RX10_121⟩) wi_X7_size we_X7_size (by decide +kernel) rfl cls_7 (hS.mem (show lv A 7 0 from rfl)) (hS.knd (show lv A 7 0 from rfl)) (Nat.le_of_ble_eq_true rfl) (Nat.le_of_ble_eq_true rfl) (Nat.zero_le _) (Nat.zero_le _) (by simp [Value.category]) (by decide +kernel) rfl (fun v Z1 q9 => ?_)
    obtain ⟨rfl, hS9⟩ := q9
    subst hS9
    refine V.eq (S' := S) (ls' := [some (.ref (ax 10 0)), some (.int (nI (k9))), none]) (st' := [.int (nI (tf A 53)), .int (nI (k9))]) rfl rfl rfl ?_
    have nb15 := hB.1 53
    refine V.used (k' := 0) (n' := 0) (by omega) (by omega) ?_
    refine V.callS h (np := 2) (st := []) (c_checkIndex hls (x := nI k9) (n := tf A 53) (noIx_nI (by omega) (by omega)) (post := fun v Sq7 => v = none ∧ S = Sq7) ⟨rfl, rfl⟩) wc_X10_checkIndex wn_RX10 (Or.inl wm_RX10_74) wt_X10_checkIndex (by decide +kernel) rfl (Nat.le_of_ble_eq_true rfl) (Nat.le_of_ble_eq_true rfl) (Nat.zero_le _) (Nat.zero_le _) (by simp [Value.category]) (by decide +kernel) rfl (fun v Z2 q9 => ?_)
    obtain ⟨rfl, hS9⟩ := q9
    subst hS9
    refine V.used (k' := 0) (n' := 0) (by omega) (by omega) ?_
    refine V.blk h [(.aload_n 0, 1)] (by decide +kernel) (pc' := 12) (ls' := [some (.ref (ax 10 0)), some (.int (nI (k9))), none]) (st' := [.ref (ax 10 0)]) rfl rfl (Nat.le_of_ble_eq_true rfl) ?_
    refine V.getP h cls_10 (j := 3) rfl (hS.mem (show lv A 10 0 from rfl)) (hS.knd (show lv A 10 0 from rfl)) (Or.inl wf_RX10_26) (by decide +kernel) (v := some (ax 7 0)) (hS.ptr (show lv A 10 0 from rfl) (by decide) (by decide) rfl) ?_
    refine V.eq (S' := S) (ls' := [some (.ref (ax 10 0)), some (.int (nI (k9))), none]) (st' := [.ref (ax 7 0)]) rfl rfl rfl ?_
    refine V.blk h [(.iload_n 1, 1)] (by decide +kernel) (pc' := 16) (ls' := [some (.ref (ax 10 0)), some (.int (nI (k9))), none]) (st' := [.int (nI (k9)), .ref (ax 7 0)]) rfl rfl (Nat.le_of_ble_eq_true rfl) ?_
    refine V.callV h (np := 1) (st := []) (c_r_take hls hS (k := k9) hk (post := fun v Sq7 => v = some (.ref (ay 4 k9)) ∧ ∃ ay8, RA tc (mx ax ay8) (tkF A k9) Sq7 ∧ LT Sq7 (ay 4 k9) (tn A 45 k9) (tn A 46 k9) (tn A 47 k9) (opA (mx ax ay) (tn A 48 k9)) (tn A 49 k9) (if tn A 45 k9 = 2 then tr A 51 k9 else nI (tn A 50 k9)) (tb A 52 k9)) (fun Sq7 ay7 hr7 hl7 _ => ⟨rfl, ay7, hr7, hl7⟩)) wc_X7_take wn_RX7 (Or.inr ⟨_, wm_RX10_122⟩) wi_X7_take we_X7_take (by decide +kernel) rfl cls_7 (hS.mem (show lv A 7 0 from rfl)) (hS.knd (show lv A 7 0 from rfl)) (Nat.le_of_ble_eq_true rfl) (Nat.le_of_ble_eq_true rfl) (Nat.zero_le _) (Nat.zero_le _) (by simp [Value.category]) (by decide +kernel) rfl (fun v Z3 q9 => ?_)
    obtain ⟨rfl, ay1, hr1, hl1⟩ := q9
    rw [← hG] at hr1
    rw [h45, h46, h47, h48, h49, h50, if_neg (by decide)] at hl1
    refine V.eq (S' := Z3) (ls' := [some (.ref (ax 10 0)), some (.int (nI (k9))), none]) (st' := [.ref ((ay 4 k9))]) rfl rfl rfl ?_
    refine V.used (k' := 0) (n' := 0) (by omega) (by omega) ?_
    refine V.blk h [(.astore_n 2, 1), (.aload_n 2, 1)] (by decide +kernel) (pc' := 21) (ls' := [some (.ref (ax 10 0)), some (.int (nI (k9))), some (.ref ((ay 4 k9)))]) (st' := [.ref ((ay 4 k9))]) rfl rfl (Nat.le_of_ble_eq_true rfl) ?_
    refine V.ifnonnull h (o := (some ((ay 4 k9)))) (off := 11) (by decide +kernel) (tgt := 32) (by decide) (fun _ _ => ?_) (fun z => by cases z)
    refine V.blk h [(.aload_n 2, 1)] (by decide +kernel) (pc' := 33) (ls' := [some (.ref (ax 10 0)), some (.int (nI (k9))), some (.ref ((ay 4 k9)))]) (st' := [.ref ((ay 4 k9))]) rfl rfl (Nat.le_of_ble_eq_true rfl) ?_
    refine V.getI h cls_4 (j := 0) rfl hl1.1 hl1.2.1 (Or.inr ⟨_, wf_RX10_126⟩) (by decide +kernel) (v := nI 7) hl1.2.2.1 ?_
    refine V.tableN h (dflt := 72) (hi := 7) (offs := #[48, 72, 56, 56, 56, 48, 64, 48]) (len := 48) (x := 7) (off := 48) (tgt := 84) (by decide) (by decide +kernel) (by decide) rfl (by decide) ?_
    refine V.blk h [(.aload_n 0, 1), (.aload_n 2, 1)] (by decide +kernel) (pc' := 86) (ls' := [some (.ref (ax 10 0)), some (.int (nI (k9))), some (.ref ((ay 4 k9)))]) (st' := [.ref ((ay 4 k9)), .ref (ax 10 0)]) rfl rfl (Nat.le_of_ble_eq_true rfl) ?_
    refine V.callV h (np := 1) (st := []) (c_rMaster7 hls hr1 (e := e) (b := b) (n := n) (c9 := c9) (q := ay 4 k9) he5 hl1 hb hnK hc9 h36 h26 h37 hgo hop h97 hB hK (post := fun v Sq7 => v = none ∧ ∃ ay8, RA tc (mx ax ay8) (rakC G e b n c9) Sq7) ⟨fun z9 => absurd (z9.symm.trans hlv) (by decide), fun _ => (fun Sq7 ay7 hr7 => ⟨rfl, ay7, hr7⟩)⟩) wc_X10_readAtMaster wn_RX10 (Or.inl wm_RX10_131) wi_X10_readAtMaster we_X10_readAtMaster (by decide +kernel) rfl cls_10 (hr1.mem (show lv G 10 0 from rfl)) (hr1.knd (show lv G 10 0 from rfl)) (Nat.le_of_ble_eq_true rfl) (Nat.le_of_ble_eq_true rfl) (by show 0 + (4 * tf G 13 + 12) ≤ 4 * tf G 13 + 12; omega) (by show 0 + (14 * tf G 13 + 5264) ≤ 14 * tf G 13 + 5264; omega) (by simp [Value.category]) (by decide +kernel) rfl (fun v Z4 q9 => ?_)
    obtain ⟨rfl, ay2, hr2⟩ := q9
    refine V.used (k' := 4 * tf G 13 + 12) (n' := 14 * tf G 13 + 5264) (by omega) (by omega) ?_
    refine V.goto h (off := 24) (tgt := 113) (by decide +kernel) (by decide) ?_
    refine V.blk h [(.aload_n 0, 1)] (by decide +kernel) (pc' := 114) (ls' := [some (.ref (ax 10 0)), some (.int (nI (k9))), some (.ref ((ay 4 k9)))]) (st' := [.ref (ax 10 0)]) rfl rfl (Nat.le_of_ble_eq_true rfl) ?_
    refine V.getP h cls_10 (j := 3) rfl (hr2.mem (show lv (rakC G e b n c9) 10 0 from rfl)) (hr2.knd (show lv (rakC G e b n c9) 10 0 from rfl)) (Or.inl wf_RX10_26) (by decide +kernel) (v := some (ax 7 0)) (hr2.ptr (show lv (rakC G e b n c9) 10 0 from rfl) (by decide) (by decide) rfl) ?_
    refine V.eq (S' := Z4) (ls' := [some (.ref (ax 10 0)), some (.int (nI (k9))), some (.ref ((ay 4 k9)))]) (st' := [.ref (ax 7 0)]) rfl rfl rfl ?_
    refine V.callV h (np := 0) (st := []) (c_r_size hls hr2 (post := fun v Sq7 => v = some (.int (nI (tf (rakC G e b n c9) 53))) ∧ Z4 = Sq7) ⟨rfl, rfl⟩) wc_X7_size wn_RX7 (Or.inr ⟨_, wm_RX10_121⟩) wi_X7_size we_X7_size (by decide +kernel) rfl cls_7 (hr2.mem (show lv (rakC G e b n c9) 7 0 from rfl)) (hr2.knd (show lv (rakC G e b n c9) 7 0 from rfl)) (Nat.le_of_ble_eq_true rfl) (Nat.le_of_ble_eq_true rfl) (by show (4 * tf G 13 + 12) + 0 ≤ 4 * tf G 13 + 12; omega) (by show (14 * tf G 13 + 5264) + 0 ≤ 14 * tf G 13 + 5264; omega) (by simp [Value.category]) (by decide +kernel) rfl (fun v Z5 q9 => ?_)
    obtain ⟨rfl, hS9⟩ := q9
    subst hS9
    refine V.eq (S' := Z4) (ls' := [some (.ref (ax 10 0)), some (.int (nI (k9))), some (.ref ((ay 4 k9)))]) (st' := [.int (nI (tf (rakC G e b n c9) 53))]) rfl rfl rfl ?_
    refine V.used (k' := 4 * tf G 13 + 12) (n' := 14 * tf G 13 + 5264) (by omega) (by omega) ?_
    exact V.iret h hA hr rfl (hp.2 hlv _ _ hr2) (by decide +kernel) (by omega) (by omega)
  · skip
    refine V.blk h [(.iload_n 1, 1), (.aload_n 0, 1)] (by decide +kernel) (pc' := 2) (ls' := [some (.ref (ax 10 0)), some (.int (nI (k9))), none]) (st' := [.ref (ax 10 0), .int (nI (k9))]) rfl rfl (Nat.le_of_ble_eq_true rfl) ?_
    refine V.getP h cls_10 (j := 3) rfl (hS.mem (show lv A 10 0 from rfl)) (hS.knd (show lv A 10 0 from rfl)) (Or.inl wf_RX10_26) (by decide +kernel) (v := some (ax 7 0)) (hS.ptr (show lv A 10 0 from rfl) (by decide) (by decide) rfl) ?_
    refine V.eq (S' := S) (ls' := [some (.ref (ax 10 0)), some (.int (nI (k9))), none]) (st' := [.ref (ax 7 0), .int (nI (k9))]) rfl rfl rfl ?_
    refine V.callV h (np := 0) (st := [.int (nI (k9))]) (c_r_size hls hS (post := fun v Sq7 => v = some (.int (nI (tf A 53))) ∧ S = Sq7) ⟨rfl, rfl⟩) wc_X7_size wn_RX7 (Or.inr ⟨_, wm_RX10_121⟩) wi_X7_size we_X7_size (by decide +kernel) rfl cls_7 (hS.mem (show lv A 7 0 from rfl)) (hS.knd (show lv A 7 0 from rfl)) (Nat.le_of_ble_eq_true rfl) (Nat.le_of_ble_eq_true rfl) (Nat.zero_le _) (Nat.zero_le _) (by simp [Value.category]) (by decide +kernel) rfl (fun v Z6 q9 => ?_)
    obtain ⟨rfl, hS9⟩ := q9
    subst hS9
    refine V.eq (S' := S) (ls' := [some (.ref (ax 10 0)), some (.int (nI (k9))), none]) (st' := [.int (nI (tf A 53)), .int (nI (k9))]) rfl rfl rfl ?_
    have nb58 := hB.1 53
    refine V.used (k' := 0) (n' := 0) (by omega) (by omega) ?_
    refine V.callS h (np := 2) (st := []) (c_checkIndex hls (x := nI k9) (n := tf A 53) (noIx_nI (by omega) (by omega)) (post := fun v Sq7 => v = none ∧ S = Sq7) ⟨rfl, rfl⟩) wc_X10_checkIndex wn_RX10 (Or.inl wm_RX10_74) wt_X10_checkIndex (by decide +kernel) rfl (Nat.le_of_ble_eq_true rfl) (Nat.le_of_ble_eq_true rfl) (Nat.zero_le _) (Nat.zero_le _) (by simp [Value.category]) (by decide +kernel) rfl (fun v Z7 q9 => ?_)
    obtain ⟨rfl, hS9⟩ := q9
    subst hS9
    refine V.used (k' := 0) (n' := 0) (by omega) (by omega) ?_
    refine V.blk h [(.aload_n 0, 1)] (by decide +kernel) (pc' := 12) (ls' := [some (.ref (ax 10 0)), some (.int (nI (k9))), none]) (st' := [.ref (ax 10 0)]) rfl rfl (Nat.le_of_ble_eq_true rfl) ?_
    refine V.getP h cls_10 (j := 3) rfl (hS.mem (show lv A 10 0 from rfl)) (hS.knd (show lv A 10 0 from rfl)) (Or.inl wf_RX10_26) (by decide +kernel) (v := some (ax 7 0)) (hS.ptr (show lv A 10 0 from rfl) (by decide) (by decide) rfl) ?_
    refine V.eq (S' := S) (ls' := [some (.ref (ax 10 0)), some (.int (nI (k9))), none]) (st' := [.ref (ax 7 0)]) rfl rfl rfl ?_
    refine V.blk h [(.iload_n 1, 1)] (by decide +kernel) (pc' := 16) (ls' := [some (.ref (ax 10 0)), some (.int (nI (k9))), none]) (st' := [.int (nI (k9)), .ref (ax 7 0)]) rfl rfl (Nat.le_of_ble_eq_true rfl) ?_
    refine V.callV h (np := 1) (st := []) (c_r_take hls hS (k := k9) hk (post := fun v Sq7 => v = some (.ref (ay 4 k9)) ∧ ∃ ay8, RA tc (mx ax ay8) (tkF A k9) Sq7 ∧ LT Sq7 (ay 4 k9) (tn A 45 k9) (tn A 46 k9) (tn A 47 k9) (opA (mx ax ay) (tn A 48 k9)) (tn A 49 k9) (if tn A 45 k9 = 2 then tr A 51 k9 else nI (tn A 50 k9)) (tb A 52 k9)) (fun Sq7 ay7 hr7 hl7 _ => ⟨rfl, ay7, hr7, hl7⟩)) wc_X7_take wn_RX7 (Or.inr ⟨_, wm_RX10_122⟩) wi_X7_take we_X7_take (by decide +kernel) rfl cls_7 (hS.mem (show lv A 7 0 from rfl)) (hS.knd (show lv A 7 0 from rfl)) (Nat.le_of_ble_eq_true rfl) (Nat.le_of_ble_eq_true rfl) (Nat.zero_le _) (Nat.zero_le _) (by simp [Value.category]) (by decide +kernel) rfl (fun v Z8 q9 => ?_)
    obtain ⟨rfl, ay1, hr1, hl1⟩ := q9
    rw [← hG] at hr1
    rw [h45, h46, h47, h48, h49, h50, if_neg (by decide)] at hl1
    refine V.eq (S' := Z8) (ls' := [some (.ref (ax 10 0)), some (.int (nI (k9))), none]) (st' := [.ref ((ay 4 k9))]) rfl rfl rfl ?_
    refine V.used (k' := 0) (n' := 0) (by omega) (by omega) ?_
    refine V.blk h [(.astore_n 2, 1), (.aload_n 2, 1)] (by decide +kernel) (pc' := 21) (ls' := [some (.ref (ax 10 0)), some (.int (nI (k9))), some (.ref ((ay 4 k9)))]) (st' := [.ref ((ay 4 k9))]) rfl rfl (Nat.le_of_ble_eq_true rfl) ?_
    refine V.ifnonnull h (o := (some ((ay 4 k9)))) (off := 11) (by decide +kernel) (tgt := 32) (by decide) (fun _ _ => ?_) (fun z => by cases z)
    refine V.blk h [(.aload_n 2, 1)] (by decide +kernel) (pc' := 33) (ls' := [some (.ref (ax 10 0)), some (.int (nI (k9))), some (.ref ((ay 4 k9)))]) (st' := [.ref ((ay 4 k9))]) rfl rfl (Nat.le_of_ble_eq_true rfl) ?_
    refine V.getI h cls_4 (j := 0) rfl hl1.1 hl1.2.1 (Or.inr ⟨_, wf_RX10_126⟩) (by decide +kernel) (v := nI 7) hl1.2.2.1 ?_
    refine V.tableN h (dflt := 72) (hi := 7) (offs := #[48, 72, 56, 56, 56, 48, 64, 48]) (len := 48) (x := 7) (off := 48) (tgt := 84) (by decide) (by decide +kernel) (by decide) rfl (by decide) ?_
    refine V.blk h [(.aload_n 0, 1), (.aload_n 2, 1)] (by decide +kernel) (pc' := 86) (ls' := [some (.ref (ax 10 0)), some (.int (nI (k9))), some (.ref ((ay 4 k9)))]) (st' := [.ref ((ay 4 k9)), .ref (ax 10 0)]) rfl rfl (Nat.le_of_ble_eq_true rfl) ?_
    refine V.callV h (np := 1) (st := []) (c_rMaster7 hls hr1 (e := e) (b := b) (n := n) (c9 := c9) (q := ay 4 k9) he5 hl1 hb hnK hc9 h36 h26 h37 hgo hop h97 hB hK (post := fun v Sq7 => v = none ∧ Z8 = Sq7) ⟨fun _ => ⟨rfl, rfl⟩, fun z9 => absurd (z9.symm.trans hlv) (by decide)⟩) wc_X10_readAtMaster wn_RX10 (Or.inl wm_RX10_131) wi_X10_readAtMaster we_X10_readAtMaster (by decide +kernel) rfl cls_10 (hr1.mem (show lv G 10 0 from rfl)) (hr1.knd (show lv G 10 0 from rfl)) (Nat.le_of_ble_eq_true rfl) (Nat.le_of_ble_eq_true rfl) (by show 0 + (4 * tf G 13 + 12) ≤ 4 * tf G 13 + 12; omega) (by show 0 + (14 * tf G 13 + 5264) ≤ 14 * tf G 13 + 5264; omega) (by simp [Value.category]) (by decide +kernel) rfl (fun v Z9 q9 => ?_)
    obtain ⟨rfl, hS9⟩ := q9
    subst hS9
    refine V.used (k' := 4 * tf G 13 + 12) (n' := 14 * tf G 13 + 5264) (by omega) (by omega) ?_
    refine V.goto h (off := 24) (tgt := 113) (by decide +kernel) (by decide) ?_
    refine V.blk h [(.aload_n 0, 1)] (by decide +kernel) (pc' := 114) (ls' := [some (.ref (ax 10 0)), some (.int (nI (k9))), some (.ref ((ay 4 k9)))]) (st' := [.ref (ax 10 0)]) rfl rfl (Nat.le_of_ble_eq_true rfl) ?_
    refine V.getP h cls_10 (j := 3) rfl (hr1.mem (show lv G 10 0 from rfl)) (hr1.knd (show lv G 10 0 from rfl)) (Or.inl wf_RX10_26) (by decide +kernel) (v := some (ax 7 0)) (hr1.ptr (show lv G 10 0 from rfl) (by decide) (by decide) rfl) ?_
    refine V.eq (S' := Z8) (ls' := [some (.ref (ax 10 0)), some (.int (nI (k9))), some (.ref ((ay 4 k9)))]) (st' := [.ref (ax 7 0)]) rfl rfl rfl ?_
    refine V.callV h (np := 0) (st := []) (c_r_size hls hr1 (post := fun v Sq7 => v = some (.int (nI (tf G 53))) ∧ Z8 = Sq7) ⟨rfl, rfl⟩) wc_X7_size wn_RX7 (Or.inr ⟨_, wm_RX10_121⟩) wi_X7_size we_X7_size (by decide +kernel) rfl cls_7 (hr1.mem (show lv G 7 0 from rfl)) (hr1.knd (show lv G 7 0 from rfl)) (Nat.le_of_ble_eq_true rfl) (Nat.le_of_ble_eq_true rfl) (by show (4 * tf G 13 + 12) + 0 ≤ 4 * tf G 13 + 12; omega) (by show (14 * tf G 13 + 5264) + 0 ≤ 14 * tf G 13 + 5264; omega) (by simp [Value.category]) (by decide +kernel) rfl (fun v Z10 q9 => ?_)
    obtain ⟨rfl, hS9⟩ := q9
    subst hS9
    refine V.eq (S' := Z8) (ls' := [some (.ref (ax 10 0)), some (.int (nI (k9))), some (.ref ((ay 4 k9)))]) (st' := [.int (nI (tf G 53))]) rfl rfl rfl ?_
    refine V.used (k' := 4 * tf G 13 + 12) (n' := 14 * tf G 13 + 5264) (by omega) (by omega) ?_
    exact V.iret h hA hr rfl (hp.1 hlv _ _ hr1) (by decide +kernel) (by omega) (by omega)
set_option maxRecDepth 100000 in
set_option maxHeartbeats 4000000 in
theorem c_deliver6 {l : Launch} {D : va_G} {tc : Nat → ClassId} {ax ay : Nat → Nat → Nat} {A : TS} {S : HS} (hls : l.stackTraces = false) (hS : RA tc (mx ax ay) A S) {k9 : Nat} {G : TS} {e : Nat} {b : Nat} {n : Nat} {c9 : Nat} {K : Nat}  (hG : G = tkF A k9) (hk : k9 < tf A 53) (h45 : tn A 45 k9 = 6) (h46 : tn A 46 k9 = e) (h47 : tn A 47 k9 = b) (h48 : tn A 48 k9 = 0) (h49 : tn A 49 k9 = n) (h50 : tn A 50 k9 = c9) (hb : b < tf G 1) (heK : e ≤ K) (hnK : n ≤ K) (hB : NB K G) (hK : K < 1700000000) (h9 : 700 ≤ K) {post : Option Value → HS → Prop} (hp : ∀ (S8 : HS) (ay8 : Nat → Nat → Nat), RA tc (mx ax ay8) (rsynF G b e n c9) S8 → post (some (.int (nI (tf (rsynF G b e n c9) 53)))) S8) : CM l D tc yX10_deliver cX10_deliver 3 (some .int) 9 2 380 [.ref (ax 10 0), .int (nI (k9))] S post := by
  refine CM.of hls (by decide +kernel) (by simp [Value.category]) (Nat.le_of_ble_eq_true rfl) (fun A0 p e9 s m args below meth c sz h hr hnm hA => ?_)
  have h5 := hS.2.2.2.1.1
  have h12 := hS.2.2.2.1.2.1
  have h53 := hS.2.2.2.1.2.2.2.2
  have hf3 := hS.2.2.1.2.1
  have hf1 := hS.2.2.1.1
  refine V.eqL (ls' := [some (.ref (ax 10 0)), some (.int (nI (k9))), none]) rfl ?_
  refine V.blk h [(.iload_n 1, 1), (.aload_n 0, 1)] (by decide +kernel) (pc' := 2) (ls' := [some (.ref (ax 10 0)), some (.int (nI (k9))), none]) (st' := [.ref (ax 10 0), .int (nI (k9))]) rfl rfl (Nat.le_of_ble_eq_true rfl) ?_
  refine V.getP h cls_10 (j := 3) rfl (hS.mem (show lv A 10 0 from rfl)) (hS.knd (show lv A 10 0 from rfl)) (Or.inl wf_RX10_26) (by decide +kernel) (v := some (ax 7 0)) (hS.ptr (show lv A 10 0 from rfl) (by decide) (by decide) rfl) ?_
  refine V.eq (S' := S) (ls' := [some (.ref (ax 10 0)), some (.int (nI (k9))), none]) (st' := [.ref (ax 7 0), .int (nI (k9))]) rfl rfl rfl ?_
  refine V.callV h (np := 0) (st := [.int (nI (k9))]) (c_r_size hls hS (post := fun v Sq7 => v = some (.int (nI (tf A 53))) ∧ S = Sq7) ⟨rfl, rfl⟩) wc_X7_size wn_RX7 (Or.inr ⟨_, wm_RX10_121⟩) wi_X7_size we_X7_size (by decide +kernel) rfl cls_7 (hS.mem (show lv A 7 0 from rfl)) (hS.knd (show lv A 7 0 from rfl)) (Nat.le_of_ble_eq_true rfl) (Nat.le_of_ble_eq_true rfl) (Nat.zero_le _) (Nat.zero_le _) (by simp [Value.category]) (by decide +kernel) rfl (fun v Z1 q9 => ?_)
  obtain ⟨rfl, hS9⟩ := q9
  subst hS9
  refine V.eq (S' := S) (ls' := [some (.ref (ax 10 0)), some (.int (nI (k9))), none]) (st' := [.int (nI (tf A 53)), .int (nI (k9))]) rfl rfl rfl ?_
  have nb13 := hB.1 53
  refine V.callS h (np := 2) (st := []) (c_checkIndex hls (x := nI k9) (n := tf A 53) (noIx_nI (by omega) (by omega)) (post := fun v Sq7 => v = none ∧ S = Sq7) ⟨rfl, rfl⟩) wc_X10_checkIndex wn_RX10 (Or.inl wm_RX10_74) wt_X10_checkIndex (by decide +kernel) rfl (Nat.le_of_ble_eq_true rfl) (Nat.le_of_ble_eq_true rfl) (Nat.zero_le _) (Nat.zero_le _) (by simp [Value.category]) (by decide +kernel) rfl (fun v Z2 q9 => ?_)
  obtain ⟨rfl, hS9⟩ := q9
  subst hS9
  refine V.blk h [(.aload_n 0, 1)] (by decide +kernel) (pc' := 12) (ls' := [some (.ref (ax 10 0)), some (.int (nI (k9))), none]) (st' := [.ref (ax 10 0)]) rfl rfl (Nat.le_of_ble_eq_true rfl) ?_
  refine V.getP h cls_10 (j := 3) rfl (hS.mem (show lv A 10 0 from rfl)) (hS.knd (show lv A 10 0 from rfl)) (Or.inl wf_RX10_26) (by decide +kernel) (v := some (ax 7 0)) (hS.ptr (show lv A 10 0 from rfl) (by decide) (by decide) rfl) ?_
  refine V.eq (S' := S) (ls' := [some (.ref (ax 10 0)), some (.int (nI (k9))), none]) (st' := [.ref (ax 7 0)]) rfl rfl rfl ?_
  refine V.blk h [(.iload_n 1, 1)] (by decide +kernel) (pc' := 16) (ls' := [some (.ref (ax 10 0)), some (.int (nI (k9))), none]) (st' := [.int (nI (k9)), .ref (ax 7 0)]) rfl rfl (Nat.le_of_ble_eq_true rfl) ?_
  refine V.callV h (np := 1) (st := []) (c_r_take hls hS (k := k9) hk (post := fun v Sq7 => v = some (.ref (ay 4 k9)) ∧ ∃ ay8, RA tc (mx ax ay8) (tkF A k9) Sq7 ∧ LT Sq7 (ay 4 k9) (tn A 45 k9) (tn A 46 k9) (tn A 47 k9) (opA (mx ax ay) (tn A 48 k9)) (tn A 49 k9) (if tn A 45 k9 = 2 then tr A 51 k9 else nI (tn A 50 k9)) (tb A 52 k9)) (fun Sq7 ay7 hr7 hl7 _ => ⟨rfl, ay7, hr7, hl7⟩)) wc_X7_take wn_RX7 (Or.inr ⟨_, wm_RX10_122⟩) wi_X7_take we_X7_take (by decide +kernel) rfl cls_7 (hS.mem (show lv A 7 0 from rfl)) (hS.knd (show lv A 7 0 from rfl)) (Nat.le_of_ble_eq_true rfl) (Nat.le_of_ble_eq_true rfl) (Nat.zero_le _) (Nat.zero_le _) (by simp [Value.category]) (by decide +kernel) rfl (fun v Z3 q9 => ?_)
  obtain ⟨rfl, ay1, hr1, hl1⟩ := q9
  rw [← hG] at hr1
  rw [h45, h46, h47, h48, h49, h50, if_neg (by decide)] at hl1
  refine V.eq (S' := Z3) (ls' := [some (.ref (ax 10 0)), some (.int (nI (k9))), none]) (st' := [.ref ((ay 4 k9))]) rfl rfl rfl ?_
  refine V.blk h [(.astore_n 2, 1), (.aload_n 2, 1)] (by decide +kernel) (pc' := 21) (ls' := [some (.ref (ax 10 0)), some (.int (nI (k9))), some (.ref ((ay 4 k9)))]) (st' := [.ref ((ay 4 k9))]) rfl rfl (Nat.le_of_ble_eq_true rfl) ?_
  refine V.ifnonnull h (o := (some ((ay 4 k9)))) (off := 11) (by decide +kernel) (tgt := 32) (by decide) (fun _ _ => ?_) (fun z => by cases z)
  refine V.blk h [(.aload_n 2, 1)] (by decide +kernel) (pc' := 33) (ls' := [some (.ref (ax 10 0)), some (.int (nI (k9))), some (.ref ((ay 4 k9)))]) (st' := [.ref ((ay 4 k9))]) rfl rfl (Nat.le_of_ble_eq_true rfl) ?_
  refine V.getI h cls_4 (j := 0) rfl hl1.1 hl1.2.1 (Or.inr ⟨_, wf_RX10_126⟩) (by decide +kernel) (v := nI 6) hl1.2.2.1 ?_
  refine V.tableN h (dflt := 72) (hi := 7) (offs := #[48, 72, 56, 56, 56, 48, 64, 48]) (len := 48) (x := 6) (off := 64) (tgt := 100) (by decide) (by decide +kernel) (by decide) rfl (by decide) ?_
  refine V.blk h [(.aload_n 0, 1), (.aload_n 2, 1)] (by decide +kernel) (pc' := 102) (ls' := [some (.ref (ax 10 0)), some (.int (nI (k9))), some (.ref ((ay 4 k9)))]) (st' := [.ref ((ay 4 k9)), .ref (ax 10 0)]) rfl rfl (Nat.le_of_ble_eq_true rfl) ?_
  refine V.callV h (np := 1) (st := []) (c_rBackup hls hr1 (e := e) (b := b) (n := n) (c9 := c9) (q := ay 4 k9) hb hl1 heK hnK hB (by omega) h9 (post := fun v Sq7 => v = none ∧ ∃ ay8, RA tc (mx ax ay8) (rsynF G b e n c9) Sq7) (fun Sq7 ay7 hr7 => ⟨rfl, ay7, hr7⟩)) wc_X10_readAtBackup wn_RX10 (Or.inl wm_RX10_138) wi_X10_readAtBackup we_X10_readAtBackup (by decide +kernel) rfl cls_10 (hr1.mem (show lv G 10 0 from rfl)) (hr1.knd (show lv G 10 0 from rfl)) (Nat.le_of_ble_eq_true rfl) (Nat.le_of_ble_eq_true rfl) (by show 0 + 2 ≤ 2; omega) (by show 0 + 380 ≤ 380; omega) (by simp [Value.category]) (by decide +kernel) rfl (fun v Z4 q9 => ?_)
  obtain ⟨rfl, ay2, hr2⟩ := q9
  refine V.goto h (off := 8) (tgt := 113) (by decide +kernel) (by decide) ?_
  refine V.blk h [(.aload_n 0, 1)] (by decide +kernel) (pc' := 114) (ls' := [some (.ref (ax 10 0)), some (.int (nI (k9))), some (.ref ((ay 4 k9)))]) (st' := [.ref (ax 10 0)]) rfl rfl (Nat.le_of_ble_eq_true rfl) ?_
  refine V.getP h cls_10 (j := 3) rfl (hr2.mem (show lv (rsynF G b e n c9) 10 0 from rfl)) (hr2.knd (show lv (rsynF G b e n c9) 10 0 from rfl)) (Or.inl wf_RX10_26) (by decide +kernel) (v := some (ax 7 0)) (hr2.ptr (show lv (rsynF G b e n c9) 10 0 from rfl) (by decide) (by decide) rfl) ?_
  refine V.eq (S' := Z4) (ls' := [some (.ref (ax 10 0)), some (.int (nI (k9))), some (.ref ((ay 4 k9)))]) (st' := [.ref (ax 7 0)]) rfl rfl rfl ?_
  refine V.callV h (np := 0) (st := []) (c_r_size hls hr2 (post := fun v Sq7 => v = some (.int (nI (tf (rsynF G b e n c9) 53))) ∧ Z4 = Sq7) ⟨rfl, rfl⟩) wc_X7_size wn_RX7 (Or.inr ⟨_, wm_RX10_121⟩) wi_X7_size we_X7_size (by decide +kernel) rfl cls_7 (hr2.mem (show lv (rsynF G b e n c9) 7 0 from rfl)) (hr2.knd (show lv (rsynF G b e n c9) 7 0 from rfl)) (Nat.le_of_ble_eq_true rfl) (Nat.le_of_ble_eq_true rfl) (by show 2 + 0 ≤ 2; omega) (by show 380 + 0 ≤ 380; omega) (by simp [Value.category]) (by decide +kernel) rfl (fun v Z5 q9 => ?_)
  obtain ⟨rfl, hS9⟩ := q9
  subst hS9
  refine V.eq (S' := Z4) (ls' := [some (.ref (ax 10 0)), some (.int (nI (k9))), some (.ref ((ay 4 k9)))]) (st' := [.int (nI (tf (rsynF G b e n c9) 53))]) rfl rfl rfl ?_
  exact V.iret h hA hr rfl (hp _ _ hr2) (by decide +kernel) (by omega) (by omega)
set_option maxRecDepth 100000 in
set_option maxHeartbeats 4000000 in
theorem c_deliver9 {l : Launch} {D : va_G} {tc : Nat → ClassId} {ax ay : Nat → Nat → Nat} {A : TS} {S : HS} (hls : l.stackTraces = false) (hS : RA tc (mx ax ay) A S) {k9 : Nat} {G : TS} {e : Nat} {w : Nat} {K : Nat}  (hG : G = tkF A k9) (hk : k9 < tf A 53) (h45 : tn A 45 k9 = 9) (h46 : tn A 46 k9 = e) (h47 : tn A 47 k9 = w) (h48 : tn A 48 k9 = 0) (hw : w < tf G 1) (heK : e ≤ K) (hB : NB K G) (hK : K < 1700000000) (h9 : 700 ≤ K) {post : Option Value → HS → Prop} (hp : ∀ (S8 : HS) (ay8 : Nat → Nat → Nat), RA tc (mx ax ay8) (wrsC G w e) S8 → post (some (.int (nI (tf (wrsC G w e) 53)))) S8) : CM l D tc yX10_deliver cX10_deliver 3 (some .int) 8 0 0 [.ref (ax 10 0), .int (nI (k9))] S post := by
  refine CM.of hls (by decide +kernel) (by simp [Value.category]) (Nat.le_of_ble_eq_true rfl) (fun A0 p e9 s m args below meth c sz h hr hnm hA => ?_)
  have h5 := hS.2.2.2.1.1
  have h12 := hS.2.2.2.1.2.1
  have h53 := hS.2.2.2.1.2.2.2.2
  have hf3 := hS.2.2.1.2.1
  have hf1 := hS.2.2.1.1
  refine V.eqL (ls' := [some (.ref (ax 10 0)), some (.int (nI (k9))), none]) rfl ?_
  refine V.blk h [(.iload_n 1, 1), (.aload_n 0, 1)] (by decide +kernel) (pc' := 2) (ls' := [some (.ref (ax 10 0)), some (.int (nI (k9))), none]) (st' := [.ref (ax 10 0), .int (nI (k9))]) rfl rfl (Nat.le_of_ble_eq_true rfl) ?_
  refine V.getP h cls_10 (j := 3) rfl (hS.mem (show lv A 10 0 from rfl)) (hS.knd (show lv A 10 0 from rfl)) (Or.inl wf_RX10_26) (by decide +kernel) (v := some (ax 7 0)) (hS.ptr (show lv A 10 0 from rfl) (by decide) (by decide) rfl) ?_
  refine V.eq (S' := S) (ls' := [some (.ref (ax 10 0)), some (.int (nI (k9))), none]) (st' := [.ref (ax 7 0), .int (nI (k9))]) rfl rfl rfl ?_
  refine V.callV h (np := 0) (st := [.int (nI (k9))]) (c_r_size hls hS (post := fun v Sq7 => v = some (.int (nI (tf A 53))) ∧ S = Sq7) ⟨rfl, rfl⟩) wc_X7_size wn_RX7 (Or.inr ⟨_, wm_RX10_121⟩) wi_X7_size we_X7_size (by decide +kernel) rfl cls_7 (hS.mem (show lv A 7 0 from rfl)) (hS.knd (show lv A 7 0 from rfl)) (Nat.le_of_ble_eq_true rfl) (Nat.le_of_ble_eq_true rfl) (Nat.zero_le _) (Nat.zero_le _) (by simp [Value.category]) (by decide +kernel) rfl (fun v Z1 q9 => ?_)
  obtain ⟨rfl, hS9⟩ := q9
  subst hS9
  refine V.eq (S' := S) (ls' := [some (.ref (ax 10 0)), some (.int (nI (k9))), none]) (st' := [.int (nI (tf A 53)), .int (nI (k9))]) rfl rfl rfl ?_
  have nb13 := hB.1 53
  refine V.callS h (np := 2) (st := []) (c_checkIndex hls (x := nI k9) (n := tf A 53) (noIx_nI (by omega) (by omega)) (post := fun v Sq7 => v = none ∧ S = Sq7) ⟨rfl, rfl⟩) wc_X10_checkIndex wn_RX10 (Or.inl wm_RX10_74) wt_X10_checkIndex (by decide +kernel) rfl (Nat.le_of_ble_eq_true rfl) (Nat.le_of_ble_eq_true rfl) (Nat.zero_le _) (Nat.zero_le _) (by simp [Value.category]) (by decide +kernel) rfl (fun v Z2 q9 => ?_)
  obtain ⟨rfl, hS9⟩ := q9
  subst hS9
  refine V.blk h [(.aload_n 0, 1)] (by decide +kernel) (pc' := 12) (ls' := [some (.ref (ax 10 0)), some (.int (nI (k9))), none]) (st' := [.ref (ax 10 0)]) rfl rfl (Nat.le_of_ble_eq_true rfl) ?_
  refine V.getP h cls_10 (j := 3) rfl (hS.mem (show lv A 10 0 from rfl)) (hS.knd (show lv A 10 0 from rfl)) (Or.inl wf_RX10_26) (by decide +kernel) (v := some (ax 7 0)) (hS.ptr (show lv A 10 0 from rfl) (by decide) (by decide) rfl) ?_
  refine V.eq (S' := S) (ls' := [some (.ref (ax 10 0)), some (.int (nI (k9))), none]) (st' := [.ref (ax 7 0)]) rfl rfl rfl ?_
  refine V.blk h [(.iload_n 1, 1)] (by decide +kernel) (pc' := 16) (ls' := [some (.ref (ax 10 0)), some (.int (nI (k9))), none]) (st' := [.int (nI (k9)), .ref (ax 7 0)]) rfl rfl (Nat.le_of_ble_eq_true rfl) ?_
  refine V.callV h (np := 1) (st := []) (c_r_take hls hS (k := k9) hk (post := fun v Sq7 => v = some (.ref (ay 4 k9)) ∧ ∃ ay8, RA tc (mx ax ay8) (tkF A k9) Sq7 ∧ LT Sq7 (ay 4 k9) (tn A 45 k9) (tn A 46 k9) (tn A 47 k9) (opA (mx ax ay) (tn A 48 k9)) (tn A 49 k9) (if tn A 45 k9 = 2 then tr A 51 k9 else nI (tn A 50 k9)) (tb A 52 k9)) (fun Sq7 ay7 hr7 hl7 _ => ⟨rfl, ay7, hr7, hl7⟩)) wc_X7_take wn_RX7 (Or.inr ⟨_, wm_RX10_122⟩) wi_X7_take we_X7_take (by decide +kernel) rfl cls_7 (hS.mem (show lv A 7 0 from rfl)) (hS.knd (show lv A 7 0 from rfl)) (Nat.le_of_ble_eq_true rfl) (Nat.le_of_ble_eq_true rfl) (Nat.zero_le _) (Nat.zero_le _) (by simp [Value.category]) (by decide +kernel) rfl (fun v Z3 q9 => ?_)
  obtain ⟨rfl, ay1, hr1, hl1⟩ := q9
  rw [← hG] at hr1
  rw [h45, h46, h47, h48, if_neg (by decide)] at hl1
  refine V.eq (S' := Z3) (ls' := [some (.ref (ax 10 0)), some (.int (nI (k9))), none]) (st' := [.ref ((ay 4 k9))]) rfl rfl rfl ?_
  refine V.blk h [(.astore_n 2, 1), (.aload_n 2, 1)] (by decide +kernel) (pc' := 21) (ls' := [some (.ref (ax 10 0)), some (.int (nI (k9))), some (.ref ((ay 4 k9)))]) (st' := [.ref ((ay 4 k9))]) rfl rfl (Nat.le_of_ble_eq_true rfl) ?_
  refine V.ifnonnull h (o := (some ((ay 4 k9)))) (off := 11) (by decide +kernel) (tgt := 32) (by decide) (fun _ _ => ?_) (fun z => by cases z)
  refine V.blk h [(.aload_n 2, 1)] (by decide +kernel) (pc' := 33) (ls' := [some (.ref (ax 10 0)), some (.int (nI (k9))), some (.ref ((ay 4 k9)))]) (st' := [.ref ((ay 4 k9))]) rfl rfl (Nat.le_of_ble_eq_true rfl) ?_
  refine V.getI h cls_4 (j := 0) rfl hl1.1 hl1.2.1 (Or.inr ⟨_, wf_RX10_126⟩) (by decide +kernel) (v := nI 9) hl1.2.2.1 ?_
  refine V.tableOut h (lo := 0) (dflt := 72) (hi := 7) (offs := #[48, 72, 56, 56, 56, 48, 64, 48]) (len := 48) (x := nI 9) (tgt := 108) (by decide +kernel) (Or.inr (by decide)) (by decide) ?_
  refine V.blk h [(.aload_n 0, 1), (.aload_n 2, 1)] (by decide +kernel) (pc' := 110) (ls' := [some (.ref (ax 10 0)), some (.int (nI (k9))), some (.ref ((ay 4 k9)))]) (st' := [.ref ((ay 4 k9)), .ref (ax 10 0)]) rfl rfl (Nat.le_of_ble_eq_true rfl) ?_
  refine V.callV h (np := 1) (st := []) (c_rWitness9 hls hr1 (e := e) (w := w) (q := ay 4 k9) hw hl1 heK hB (by omega) h9 (post := fun v Sq7 => v = none ∧ ∃ ay8, RA tc (mx ax ay8) (wrsC G w e) Sq7) (fun Sq7 ay7 hr7 => ⟨rfl, ay7, hr7⟩)) wc_X10_readAtWitness wn_RX10 (Or.inl wm_RX10_141) wi_X10_readAtWitness we_X10_readAtWitness (by decide +kernel) rfl cls_10 (hr1.mem (show lv G 10 0 from rfl)) (hr1.knd (show lv G 10 0 from rfl)) (Nat.le_of_ble_eq_true rfl) (Nat.le_of_ble_eq_true rfl) (Nat.zero_le _) (Nat.zero_le _) (by simp [Value.category]) (by decide +kernel) rfl (fun v Z4 q9 => ?_)
  obtain ⟨rfl, ay2, hr2⟩ := q9
  refine V.blk h [(.aload_n 0, 1)] (by decide +kernel) (pc' := 114) (ls' := [some (.ref (ax 10 0)), some (.int (nI (k9))), some (.ref ((ay 4 k9)))]) (st' := [.ref (ax 10 0)]) rfl rfl (Nat.le_of_ble_eq_true rfl) ?_
  refine V.getP h cls_10 (j := 3) rfl (hr2.mem (show lv (wrsC G w e) 10 0 from rfl)) (hr2.knd (show lv (wrsC G w e) 10 0 from rfl)) (Or.inl wf_RX10_26) (by decide +kernel) (v := some (ax 7 0)) (hr2.ptr (show lv (wrsC G w e) 10 0 from rfl) (by decide) (by decide) rfl) ?_
  refine V.eq (S' := Z4) (ls' := [some (.ref (ax 10 0)), some (.int (nI (k9))), some (.ref ((ay 4 k9)))]) (st' := [.ref (ax 7 0)]) rfl rfl rfl ?_
  refine V.callV h (np := 0) (st := []) (c_r_size hls hr2 (post := fun v Sq7 => v = some (.int (nI (tf (wrsC G w e) 53))) ∧ Z4 = Sq7) ⟨rfl, rfl⟩) wc_X7_size wn_RX7 (Or.inr ⟨_, wm_RX10_121⟩) wi_X7_size we_X7_size (by decide +kernel) rfl cls_7 (hr2.mem (show lv (wrsC G w e) 7 0 from rfl)) (hr2.knd (show lv (wrsC G w e) 7 0 from rfl)) (Nat.le_of_ble_eq_true rfl) (Nat.le_of_ble_eq_true rfl) (Nat.zero_le _) (Nat.zero_le _) (by simp [Value.category]) (by decide +kernel) rfl (fun v Z5 q9 => ?_)
  obtain ⟨rfl, hS9⟩ := q9
  subst hS9
  refine V.eq (S' := Z4) (ls' := [some (.ref (ax 10 0)), some (.int (nI (k9))), some (.ref ((ay 4 k9)))]) (st' := [.int (nI (tf (wrsC G w e) 53))]) rfl rfl rfl ?_
  exact V.iret h hA hr rfl (hp _ _ hr2) (by decide +kernel) (Nat.zero_le _) (Nat.zero_le _)
set_option maxRecDepth 100000 in
set_option maxHeartbeats 4000000 in
theorem c_deliver8 {l : Launch} {D : va_G} {tc : Nat → ClassId} {ax ay : Nat → Nat → Nat} {A : TS} {S : HS} (hls : l.stackTraces = false) (hS : RA tc (mx ax ay) A S) {k9 : Nat} {G : TS} {e : Nat} {w : Nat} {n : Nat} {K : Nat}  (hG : G = tkF A k9) (hk : k9 < tf A 53) (h45 : tn A 45 k9 = 8) (h46 : tn A 46 k9 = e) (h47 : tn A 47 k9 = w) (h48 : tn A 48 k9 = 0) (h49 : tn A 49 k9 = n) (hw : w < tf G 1) (he5 : e < tf G 5) (hnK : n ≤ K) (hL : LogOK G e) (hB : NB K G) (hK : K < 1700000000) (h9 : 700 ≤ K) {post : Option Value → HS → Prop} (hp : ∀ (S8 : HS) (ay8 : Nat → Nat → Nat), RA tc (mx ax ay8) (wgcC G w e n) S8 → post (some (.int (nI (tf (wgcC G w e n) 53)))) S8) : CM l D tc yX10_deliver cX10_deliver 3 (some .int) 8 0 0 [.ref (ax 10 0), .int (nI (k9))] S post := by
  refine CM.of hls (by decide +kernel) (by simp [Value.category]) (Nat.le_of_ble_eq_true rfl) (fun A0 p e9 s m args below meth c sz h hr hnm hA => ?_)
  have h5 := hS.2.2.2.1.1
  have h12 := hS.2.2.2.1.2.1
  have h53 := hS.2.2.2.1.2.2.2.2
  have hf3 := hS.2.2.1.2.1
  have hf1 := hS.2.2.1.1
  refine V.eqL (ls' := [some (.ref (ax 10 0)), some (.int (nI (k9))), none]) rfl ?_
  refine V.blk h [(.iload_n 1, 1), (.aload_n 0, 1)] (by decide +kernel) (pc' := 2) (ls' := [some (.ref (ax 10 0)), some (.int (nI (k9))), none]) (st' := [.ref (ax 10 0), .int (nI (k9))]) rfl rfl (Nat.le_of_ble_eq_true rfl) ?_
  refine V.getP h cls_10 (j := 3) rfl (hS.mem (show lv A 10 0 from rfl)) (hS.knd (show lv A 10 0 from rfl)) (Or.inl wf_RX10_26) (by decide +kernel) (v := some (ax 7 0)) (hS.ptr (show lv A 10 0 from rfl) (by decide) (by decide) rfl) ?_
  refine V.eq (S' := S) (ls' := [some (.ref (ax 10 0)), some (.int (nI (k9))), none]) (st' := [.ref (ax 7 0), .int (nI (k9))]) rfl rfl rfl ?_
  refine V.callV h (np := 0) (st := [.int (nI (k9))]) (c_r_size hls hS (post := fun v Sq7 => v = some (.int (nI (tf A 53))) ∧ S = Sq7) ⟨rfl, rfl⟩) wc_X7_size wn_RX7 (Or.inr ⟨_, wm_RX10_121⟩) wi_X7_size we_X7_size (by decide +kernel) rfl cls_7 (hS.mem (show lv A 7 0 from rfl)) (hS.knd (show lv A 7 0 from rfl)) (Nat.le_of_ble_eq_true rfl) (Nat.le_of_ble_eq_true rfl) (Nat.zero_le _) (Nat.zero_le _) (by simp [Value.category]) (by decide +kernel) rfl (fun v Z1 q9 => ?_)
  obtain ⟨rfl, hS9⟩ := q9
  subst hS9
  refine V.eq (S' := S) (ls' := [some (.ref (ax 10 0)), some (.int (nI (k9))), none]) (st' := [.int (nI (tf A 53)), .int (nI (k9))]) rfl rfl rfl ?_
  have nb13 := hB.1 53
  refine V.callS h (np := 2) (st := []) (c_checkIndex hls (x := nI k9) (n := tf A 53) (noIx_nI (by omega) (by omega)) (post := fun v Sq7 => v = none ∧ S = Sq7) ⟨rfl, rfl⟩) wc_X10_checkIndex wn_RX10 (Or.inl wm_RX10_74) wt_X10_checkIndex (by decide +kernel) rfl (Nat.le_of_ble_eq_true rfl) (Nat.le_of_ble_eq_true rfl) (Nat.zero_le _) (Nat.zero_le _) (by simp [Value.category]) (by decide +kernel) rfl (fun v Z2 q9 => ?_)
  obtain ⟨rfl, hS9⟩ := q9
  subst hS9
  refine V.blk h [(.aload_n 0, 1)] (by decide +kernel) (pc' := 12) (ls' := [some (.ref (ax 10 0)), some (.int (nI (k9))), none]) (st' := [.ref (ax 10 0)]) rfl rfl (Nat.le_of_ble_eq_true rfl) ?_
  refine V.getP h cls_10 (j := 3) rfl (hS.mem (show lv A 10 0 from rfl)) (hS.knd (show lv A 10 0 from rfl)) (Or.inl wf_RX10_26) (by decide +kernel) (v := some (ax 7 0)) (hS.ptr (show lv A 10 0 from rfl) (by decide) (by decide) rfl) ?_
  refine V.eq (S' := S) (ls' := [some (.ref (ax 10 0)), some (.int (nI (k9))), none]) (st' := [.ref (ax 7 0)]) rfl rfl rfl ?_
  refine V.blk h [(.iload_n 1, 1)] (by decide +kernel) (pc' := 16) (ls' := [some (.ref (ax 10 0)), some (.int (nI (k9))), none]) (st' := [.int (nI (k9)), .ref (ax 7 0)]) rfl rfl (Nat.le_of_ble_eq_true rfl) ?_
  refine V.callV h (np := 1) (st := []) (c_r_take hls hS (k := k9) hk (post := fun v Sq7 => v = some (.ref (ay 4 k9)) ∧ ∃ ay8, RA tc (mx ax ay8) (tkF A k9) Sq7 ∧ LT Sq7 (ay 4 k9) (tn A 45 k9) (tn A 46 k9) (tn A 47 k9) (opA (mx ax ay) (tn A 48 k9)) (tn A 49 k9) (if tn A 45 k9 = 2 then tr A 51 k9 else nI (tn A 50 k9)) (tb A 52 k9)) (fun Sq7 ay7 hr7 hl7 _ => ⟨rfl, ay7, hr7, hl7⟩)) wc_X7_take wn_RX7 (Or.inr ⟨_, wm_RX10_122⟩) wi_X7_take we_X7_take (by decide +kernel) rfl cls_7 (hS.mem (show lv A 7 0 from rfl)) (hS.knd (show lv A 7 0 from rfl)) (Nat.le_of_ble_eq_true rfl) (Nat.le_of_ble_eq_true rfl) (Nat.zero_le _) (Nat.zero_le _) (by simp [Value.category]) (by decide +kernel) rfl (fun v Z3 q9 => ?_)
  obtain ⟨rfl, ay1, hr1, hl1⟩ := q9
  rw [← hG] at hr1
  rw [h45, h46, h47, h48, h49, if_neg (by decide)] at hl1
  refine V.eq (S' := Z3) (ls' := [some (.ref (ax 10 0)), some (.int (nI (k9))), none]) (st' := [.ref ((ay 4 k9))]) rfl rfl rfl ?_
  refine V.blk h [(.astore_n 2, 1), (.aload_n 2, 1)] (by decide +kernel) (pc' := 21) (ls' := [some (.ref (ax 10 0)), some (.int (nI (k9))), some (.ref ((ay 4 k9)))]) (st' := [.ref ((ay 4 k9))]) rfl rfl (Nat.le_of_ble_eq_true rfl) ?_
  refine V.ifnonnull h (o := (some ((ay 4 k9)))) (off := 11) (by decide +kernel) (tgt := 32) (by decide) (fun _ _ => ?_) (fun z => by cases z)
  refine V.blk h [(.aload_n 2, 1)] (by decide +kernel) (pc' := 33) (ls' := [some (.ref (ax 10 0)), some (.int (nI (k9))), some (.ref ((ay 4 k9)))]) (st' := [.ref ((ay 4 k9))]) rfl rfl (Nat.le_of_ble_eq_true rfl) ?_
  refine V.getI h cls_4 (j := 0) rfl hl1.1 hl1.2.1 (Or.inr ⟨_, wf_RX10_126⟩) (by decide +kernel) (v := nI 8) hl1.2.2.1 ?_
  refine V.tableOut h (lo := 0) (dflt := 72) (hi := 7) (offs := #[48, 72, 56, 56, 56, 48, 64, 48]) (len := 48) (x := nI 8) (tgt := 108) (by decide +kernel) (Or.inr (by decide)) (by decide) ?_
  refine V.blk h [(.aload_n 0, 1), (.aload_n 2, 1)] (by decide +kernel) (pc' := 110) (ls' := [some (.ref (ax 10 0)), some (.int (nI (k9))), some (.ref ((ay 4 k9)))]) (st' := [.ref ((ay 4 k9)), .ref (ax 10 0)]) rfl rfl (Nat.le_of_ble_eq_true rfl) ?_
  refine V.callV h (np := 1) (st := []) (c_rWitness8 hls hr1 (e := e) (w := w) (n := n) (q := ay 4 k9) hw hl1 he5 hnK hL hB (by omega) h9 (post := fun v Sq7 => v = none ∧ ∃ ay8, RA tc (mx ax ay8) (wgcC G w e n) Sq7) (fun Sq7 ay7 hr7 => ⟨rfl, ay7, hr7⟩)) wc_X10_readAtWitness wn_RX10 (Or.inl wm_RX10_141) wi_X10_readAtWitness we_X10_readAtWitness (by decide +kernel) rfl cls_10 (hr1.mem (show lv G 10 0 from rfl)) (hr1.knd (show lv G 10 0 from rfl)) (Nat.le_of_ble_eq_true rfl) (Nat.le_of_ble_eq_true rfl) (Nat.zero_le _) (Nat.zero_le _) (by simp [Value.category]) (by decide +kernel) rfl (fun v Z4 q9 => ?_)
  obtain ⟨rfl, ay2, hr2⟩ := q9
  refine V.blk h [(.aload_n 0, 1)] (by decide +kernel) (pc' := 114) (ls' := [some (.ref (ax 10 0)), some (.int (nI (k9))), some (.ref ((ay 4 k9)))]) (st' := [.ref (ax 10 0)]) rfl rfl (Nat.le_of_ble_eq_true rfl) ?_
  refine V.getP h cls_10 (j := 3) rfl (hr2.mem (show lv (wgcC G w e n) 10 0 from rfl)) (hr2.knd (show lv (wgcC G w e n) 10 0 from rfl)) (Or.inl wf_RX10_26) (by decide +kernel) (v := some (ax 7 0)) (hr2.ptr (show lv (wgcC G w e n) 10 0 from rfl) (by decide) (by decide) rfl) ?_
  refine V.eq (S' := Z4) (ls' := [some (.ref (ax 10 0)), some (.int (nI (k9))), some (.ref ((ay 4 k9)))]) (st' := [.ref (ax 7 0)]) rfl rfl rfl ?_
  refine V.callV h (np := 0) (st := []) (c_r_size hls hr2 (post := fun v Sq7 => v = some (.int (nI (tf (wgcC G w e n) 53))) ∧ Z4 = Sq7) ⟨rfl, rfl⟩) wc_X7_size wn_RX7 (Or.inr ⟨_, wm_RX10_121⟩) wi_X7_size we_X7_size (by decide +kernel) rfl cls_7 (hr2.mem (show lv (wgcC G w e n) 7 0 from rfl)) (hr2.knd (show lv (wgcC G w e n) 7 0 from rfl)) (Nat.le_of_ble_eq_true rfl) (Nat.le_of_ble_eq_true rfl) (Nat.zero_le _) (Nat.zero_le _) (by simp [Value.category]) (by decide +kernel) rfl (fun v Z5 q9 => ?_)
  obtain ⟨rfl, hS9⟩ := q9
  subst hS9
  refine V.eq (S' := Z4) (ls' := [some (.ref (ax 10 0)), some (.int (nI (k9))), some (.ref ((ay 4 k9)))]) (st' := [.int (nI (tf (wgcC G w e n) 53))]) rfl rfl rfl ?_
  exact V.iret h hA hr rfl (hp _ _ hr2) (by decide +kernel) (Nat.zero_le _) (Nat.zero_le _)
set_option maxRecDepth 100000 in
set_option maxHeartbeats 4000000 in
theorem c_deliver1 {l : Launch} {D : va_G} {tc : Nat → ClassId} {ax ay : Nat → Nat → Nat} {A : TS} {S : HS} (hls : l.stackTraces = false) (hS : RA tc (mx ax ay) A S) {k9 : Nat} {G : TS} {e : Nat} {op : Nat} {w : Nat} {K : Nat}  (hG : G = tkF A k9) (hk : k9 < tf A 53) (h45 : tn A 45 k9 = 1) (h46 : tn A 46 k9 = e) (h47 : tn A 47 k9 = w) (h48 : tn A 48 k9 = op + 1) (hw : w < tf G 1) (ho : op < tf G 13) (heK : e ≤ K) (hB : NB K G) (hK : K < 1700000000) (h9 : 700 ≤ K) {post : Option Value → HS → Prop} (hp : ∀ (S8 : HS) (ay8 : Nat → Nat → Nat), RA tc (mx ax ay8) (wrcC G w e op) S8 → post (some (.int (nI (tf (wrcC G w e op) 53)))) S8) : CM l D tc yX10_deliver cX10_deliver 3 (some .int) 9 2 380 [.ref (ax 10 0), .int (nI (k9))] S post := by
  refine CM.of hls (by decide +kernel) (by simp [Value.category]) (Nat.le_of_ble_eq_true rfl) (fun A0 p e9 s m args below meth c sz h hr hnm hA => ?_)
  have h5 := hS.2.2.2.1.1
  have h12 := hS.2.2.2.1.2.1
  have h53 := hS.2.2.2.1.2.2.2.2
  have hf3 := hS.2.2.1.2.1
  have hf1 := hS.2.2.1.1
  refine V.eqL (ls' := [some (.ref (ax 10 0)), some (.int (nI (k9))), none]) rfl ?_
  refine V.blk h [(.iload_n 1, 1), (.aload_n 0, 1)] (by decide +kernel) (pc' := 2) (ls' := [some (.ref (ax 10 0)), some (.int (nI (k9))), none]) (st' := [.ref (ax 10 0), .int (nI (k9))]) rfl rfl (Nat.le_of_ble_eq_true rfl) ?_
  refine V.getP h cls_10 (j := 3) rfl (hS.mem (show lv A 10 0 from rfl)) (hS.knd (show lv A 10 0 from rfl)) (Or.inl wf_RX10_26) (by decide +kernel) (v := some (ax 7 0)) (hS.ptr (show lv A 10 0 from rfl) (by decide) (by decide) rfl) ?_
  refine V.eq (S' := S) (ls' := [some (.ref (ax 10 0)), some (.int (nI (k9))), none]) (st' := [.ref (ax 7 0), .int (nI (k9))]) rfl rfl rfl ?_
  refine V.callV h (np := 0) (st := [.int (nI (k9))]) (c_r_size hls hS (post := fun v Sq7 => v = some (.int (nI (tf A 53))) ∧ S = Sq7) ⟨rfl, rfl⟩) wc_X7_size wn_RX7 (Or.inr ⟨_, wm_RX10_121⟩) wi_X7_size we_X7_size (by decide +kernel) rfl cls_7 (hS.mem (show lv A 7 0 from rfl)) (hS.knd (show lv A 7 0 from rfl)) (Nat.le_of_ble_eq_true rfl) (Nat.le_of_ble_eq_true rfl) (Nat.zero_le _) (Nat.zero_le _) (by simp [Value.category]) (by decide +kernel) rfl (fun v Z1 q9 => ?_)
  obtain ⟨rfl, hS9⟩ := q9
  subst hS9
  refine V.eq (S' := S) (ls' := [some (.ref (ax 10 0)), some (.int (nI (k9))), none]) (st' := [.int (nI (tf A 53)), .int (nI (k9))]) rfl rfl rfl ?_
  have nb13 := hB.1 53
  refine V.callS h (np := 2) (st := []) (c_checkIndex hls (x := nI k9) (n := tf A 53) (noIx_nI (by omega) (by omega)) (post := fun v Sq7 => v = none ∧ S = Sq7) ⟨rfl, rfl⟩) wc_X10_checkIndex wn_RX10 (Or.inl wm_RX10_74) wt_X10_checkIndex (by decide +kernel) rfl (Nat.le_of_ble_eq_true rfl) (Nat.le_of_ble_eq_true rfl) (Nat.zero_le _) (Nat.zero_le _) (by simp [Value.category]) (by decide +kernel) rfl (fun v Z2 q9 => ?_)
  obtain ⟨rfl, hS9⟩ := q9
  subst hS9
  refine V.blk h [(.aload_n 0, 1)] (by decide +kernel) (pc' := 12) (ls' := [some (.ref (ax 10 0)), some (.int (nI (k9))), none]) (st' := [.ref (ax 10 0)]) rfl rfl (Nat.le_of_ble_eq_true rfl) ?_
  refine V.getP h cls_10 (j := 3) rfl (hS.mem (show lv A 10 0 from rfl)) (hS.knd (show lv A 10 0 from rfl)) (Or.inl wf_RX10_26) (by decide +kernel) (v := some (ax 7 0)) (hS.ptr (show lv A 10 0 from rfl) (by decide) (by decide) rfl) ?_
  refine V.eq (S' := S) (ls' := [some (.ref (ax 10 0)), some (.int (nI (k9))), none]) (st' := [.ref (ax 7 0)]) rfl rfl rfl ?_
  refine V.blk h [(.iload_n 1, 1)] (by decide +kernel) (pc' := 16) (ls' := [some (.ref (ax 10 0)), some (.int (nI (k9))), none]) (st' := [.int (nI (k9)), .ref (ax 7 0)]) rfl rfl (Nat.le_of_ble_eq_true rfl) ?_
  refine V.callV h (np := 1) (st := []) (c_r_take hls hS (k := k9) hk (post := fun v Sq7 => v = some (.ref (ay 4 k9)) ∧ ∃ ay8, RA tc (mx ax ay8) (tkF A k9) Sq7 ∧ LT Sq7 (ay 4 k9) (tn A 45 k9) (tn A 46 k9) (tn A 47 k9) (opA (mx ax ay) (tn A 48 k9)) (tn A 49 k9) (if tn A 45 k9 = 2 then tr A 51 k9 else nI (tn A 50 k9)) (tb A 52 k9)) (fun Sq7 ay7 hr7 hl7 _ => ⟨rfl, ay7, hr7, hl7⟩)) wc_X7_take wn_RX7 (Or.inr ⟨_, wm_RX10_122⟩) wi_X7_take we_X7_take (by decide +kernel) rfl cls_7 (hS.mem (show lv A 7 0 from rfl)) (hS.knd (show lv A 7 0 from rfl)) (Nat.le_of_ble_eq_true rfl) (Nat.le_of_ble_eq_true rfl) (Nat.zero_le _) (Nat.zero_le _) (by simp [Value.category]) (by decide +kernel) rfl (fun v Z3 q9 => ?_)
  obtain ⟨rfl, ay1, hr1, hl1⟩ := q9
  rw [← hG] at hr1
  rw [h45, h46, h47, h48, if_neg (by decide)] at hl1
  refine V.eq (S' := Z3) (ls' := [some (.ref (ax 10 0)), some (.int (nI (k9))), none]) (st' := [.ref ((ay 4 k9))]) rfl rfl rfl ?_
  refine V.blk h [(.astore_n 2, 1), (.aload_n 2, 1)] (by decide +kernel) (pc' := 21) (ls' := [some (.ref (ax 10 0)), some (.int (nI (k9))), some (.ref ((ay 4 k9)))]) (st' := [.ref ((ay 4 k9))]) rfl rfl (Nat.le_of_ble_eq_true rfl) ?_
  refine V.ifnonnull h (o := (some ((ay 4 k9)))) (off := 11) (by decide +kernel) (tgt := 32) (by decide) (fun _ _ => ?_) (fun z => by cases z)
  refine V.blk h [(.aload_n 2, 1)] (by decide +kernel) (pc' := 33) (ls' := [some (.ref (ax 10 0)), some (.int (nI (k9))), some (.ref ((ay 4 k9)))]) (st' := [.ref ((ay 4 k9))]) rfl rfl (Nat.le_of_ble_eq_true rfl) ?_
  refine V.getI h cls_4 (j := 0) rfl hl1.1 hl1.2.1 (Or.inr ⟨_, wf_RX10_126⟩) (by decide +kernel) (v := nI 1) hl1.2.2.1 ?_
  refine V.tableN h (dflt := 72) (hi := 7) (offs := #[48, 72, 56, 56, 56, 48, 64, 48]) (len := 48) (x := 1) (off := 72) (tgt := 108) (by decide) (by decide +kernel) (by decide) rfl (by decide) ?_
  refine V.blk h [(.aload_n 0, 1), (.aload_n 2, 1)] (by decide +kernel) (pc' := 110) (ls' := [some (.ref (ax 10 0)), some (.int (nI (k9))), some (.ref ((ay 4 k9)))]) (st' := [.ref ((ay 4 k9)), .ref (ax 10 0)]) rfl rfl (Nat.le_of_ble_eq_true rfl) ?_
  refine V.callV h (np := 1) (st := []) (c_rWitness1 hls hr1 (e := e) (w := w) (op := op) (q := ay 4 k9) hw hl1 ho heK hB (by omega) h9 (post := fun v Sq7 => v = none ∧ ∃ ay8, RA tc (mx ax ay8) (wrcC G w e op) Sq7) (fun Sq7 ay7 hr7 => ⟨rfl, ay7, hr7⟩)) wc_X10_readAtWitness wn_RX10 (Or.inl wm_RX10_141) wi_X10_readAtWitness we_X10_readAtWitness (by decide +kernel) rfl cls_10 (hr1.mem (show lv G 10 0 from rfl)) (hr1.knd (show lv G 10 0 from rfl)) (Nat.le_of_ble_eq_true rfl) (Nat.le_of_ble_eq_true rfl) (by show 0 + 2 ≤ 2; omega) (by show 0 + 380 ≤ 380; omega) (by simp [Value.category]) (by decide +kernel) rfl (fun v Z4 q9 => ?_)
  obtain ⟨rfl, ay2, hr2⟩ := q9
  refine V.blk h [(.aload_n 0, 1)] (by decide +kernel) (pc' := 114) (ls' := [some (.ref (ax 10 0)), some (.int (nI (k9))), some (.ref ((ay 4 k9)))]) (st' := [.ref (ax 10 0)]) rfl rfl (Nat.le_of_ble_eq_true rfl) ?_
  refine V.getP h cls_10 (j := 3) rfl (hr2.mem (show lv (wrcC G w e op) 10 0 from rfl)) (hr2.knd (show lv (wrcC G w e op) 10 0 from rfl)) (Or.inl wf_RX10_26) (by decide +kernel) (v := some (ax 7 0)) (hr2.ptr (show lv (wrcC G w e op) 10 0 from rfl) (by decide) (by decide) rfl) ?_
  refine V.eq (S' := Z4) (ls' := [some (.ref (ax 10 0)), some (.int (nI (k9))), some (.ref ((ay 4 k9)))]) (st' := [.ref (ax 7 0)]) rfl rfl rfl ?_
  refine V.callV h (np := 0) (st := []) (c_r_size hls hr2 (post := fun v Sq7 => v = some (.int (nI (tf (wrcC G w e op) 53))) ∧ Z4 = Sq7) ⟨rfl, rfl⟩) wc_X7_size wn_RX7 (Or.inr ⟨_, wm_RX10_121⟩) wi_X7_size we_X7_size (by decide +kernel) rfl cls_7 (hr2.mem (show lv (wrcC G w e op) 7 0 from rfl)) (hr2.knd (show lv (wrcC G w e op) 7 0 from rfl)) (Nat.le_of_ble_eq_true rfl) (Nat.le_of_ble_eq_true rfl) (by show 2 + 0 ≤ 2; omega) (by show 380 + 0 ≤ 380; omega) (by simp [Value.category]) (by decide +kernel) rfl (fun v Z5 q9 => ?_)
  obtain ⟨rfl, hS9⟩ := q9
  subst hS9
  refine V.eq (S' := Z4) (ls' := [some (.ref (ax 10 0)), some (.int (nI (k9))), some (.ref ((ay 4 k9)))]) (st' := [.int (nI (tf (wrcC G w e op) 53))]) rfl rfl rfl ?_
  exact V.iret h hA hr rfl (hp _ _ hr2) (by decide +kernel) (by omega) (by omega)
set_option maxRecDepth 100000 in
set_option maxHeartbeats 4000000 in
theorem c_deliver4 {l : Launch} {D : va_G} {tc : Nat → ClassId} {ax ay : Nat → Nat → Nat} {A : TS} {S : HS} (hls : l.stackTraces = false) (hS : RA tc (mx ax ay) A S) {k9 : Nat} {G : TS} {e : Nat} {op : Nat} {c9 : Nat} {K : Nat}  (hG : G = tkF A k9) (hk : k9 < tf A 53) (h45 : tn A 45 k9 = 4) (h46 : tn A 46 k9 = e) (h47 : tn A 47 k9 = c9) (h48 : tn A 48 k9 = op + 1) (hc : c9 < 4) (ho : op < tf G 13) (hD : ∀ i, tn G 11 i ≠ 1) (heK : e ≤ K) (hB : NB K G) (hK : K < 1700000000) (h9 : 700 ≤ K) {post : Option Value → HS → Prop} (hp : ∀ (S8 : HS) (ay8 : Nat → Nat → Nat), RA tc (mx ax ay8) (rclC G 4 e c9 op 0 (nI (tn A 50 k9)) (tb A 52 k9)) S8 → post (some (.int (nI (tf (rclC G 4 e c9 op 0 (nI (tn A 50 k9)) (tb A 52 k9)) 53)))) S8) : CM l D tc yX10_deliver cX10_deliver 3 (some .int) 9 2 380 [.ref (ax 10 0), .int (nI (k9))] S post := by
  refine CM.of hls (by decide +kernel) (by simp [Value.category]) (Nat.le_of_ble_eq_true rfl) (fun A0 p e9 s m args below meth c sz h hr hnm hA => ?_)
  have h5 := hS.2.2.2.1.1
  have h12 := hS.2.2.2.1.2.1
  have h53 := hS.2.2.2.1.2.2.2.2
  have hf3 := hS.2.2.1.2.1
  have hf1 := hS.2.2.1.1
  refine V.eqL (ls' := [some (.ref (ax 10 0)), some (.int (nI (k9))), none]) rfl ?_
  refine V.blk h [(.iload_n 1, 1), (.aload_n 0, 1)] (by decide +kernel) (pc' := 2) (ls' := [some (.ref (ax 10 0)), some (.int (nI (k9))), none]) (st' := [.ref (ax 10 0), .int (nI (k9))]) rfl rfl (Nat.le_of_ble_eq_true rfl) ?_
  refine V.getP h cls_10 (j := 3) rfl (hS.mem (show lv A 10 0 from rfl)) (hS.knd (show lv A 10 0 from rfl)) (Or.inl wf_RX10_26) (by decide +kernel) (v := some (ax 7 0)) (hS.ptr (show lv A 10 0 from rfl) (by decide) (by decide) rfl) ?_
  refine V.eq (S' := S) (ls' := [some (.ref (ax 10 0)), some (.int (nI (k9))), none]) (st' := [.ref (ax 7 0), .int (nI (k9))]) rfl rfl rfl ?_
  refine V.callV h (np := 0) (st := [.int (nI (k9))]) (c_r_size hls hS (post := fun v Sq7 => v = some (.int (nI (tf A 53))) ∧ S = Sq7) ⟨rfl, rfl⟩) wc_X7_size wn_RX7 (Or.inr ⟨_, wm_RX10_121⟩) wi_X7_size we_X7_size (by decide +kernel) rfl cls_7 (hS.mem (show lv A 7 0 from rfl)) (hS.knd (show lv A 7 0 from rfl)) (Nat.le_of_ble_eq_true rfl) (Nat.le_of_ble_eq_true rfl) (Nat.zero_le _) (Nat.zero_le _) (by simp [Value.category]) (by decide +kernel) rfl (fun v Z1 q9 => ?_)
  obtain ⟨rfl, hS9⟩ := q9
  subst hS9
  refine V.eq (S' := S) (ls' := [some (.ref (ax 10 0)), some (.int (nI (k9))), none]) (st' := [.int (nI (tf A 53)), .int (nI (k9))]) rfl rfl rfl ?_
  have nb13 := hB.1 53
  refine V.callS h (np := 2) (st := []) (c_checkIndex hls (x := nI k9) (n := tf A 53) (noIx_nI (by omega) (by omega)) (post := fun v Sq7 => v = none ∧ S = Sq7) ⟨rfl, rfl⟩) wc_X10_checkIndex wn_RX10 (Or.inl wm_RX10_74) wt_X10_checkIndex (by decide +kernel) rfl (Nat.le_of_ble_eq_true rfl) (Nat.le_of_ble_eq_true rfl) (Nat.zero_le _) (Nat.zero_le _) (by simp [Value.category]) (by decide +kernel) rfl (fun v Z2 q9 => ?_)
  obtain ⟨rfl, hS9⟩ := q9
  subst hS9
  refine V.blk h [(.aload_n 0, 1)] (by decide +kernel) (pc' := 12) (ls' := [some (.ref (ax 10 0)), some (.int (nI (k9))), none]) (st' := [.ref (ax 10 0)]) rfl rfl (Nat.le_of_ble_eq_true rfl) ?_
  refine V.getP h cls_10 (j := 3) rfl (hS.mem (show lv A 10 0 from rfl)) (hS.knd (show lv A 10 0 from rfl)) (Or.inl wf_RX10_26) (by decide +kernel) (v := some (ax 7 0)) (hS.ptr (show lv A 10 0 from rfl) (by decide) (by decide) rfl) ?_
  refine V.eq (S' := S) (ls' := [some (.ref (ax 10 0)), some (.int (nI (k9))), none]) (st' := [.ref (ax 7 0)]) rfl rfl rfl ?_
  refine V.blk h [(.iload_n 1, 1)] (by decide +kernel) (pc' := 16) (ls' := [some (.ref (ax 10 0)), some (.int (nI (k9))), none]) (st' := [.int (nI (k9)), .ref (ax 7 0)]) rfl rfl (Nat.le_of_ble_eq_true rfl) ?_
  refine V.callV h (np := 1) (st := []) (c_r_take hls hS (k := k9) hk (post := fun v Sq7 => v = some (.ref (ay 4 k9)) ∧ ∃ ay8, RA tc (mx ax ay8) (tkF A k9) Sq7 ∧ LT Sq7 (ay 4 k9) (tn A 45 k9) (tn A 46 k9) (tn A 47 k9) (opA (mx ax ay) (tn A 48 k9)) (tn A 49 k9) (if tn A 45 k9 = 2 then tr A 51 k9 else nI (tn A 50 k9)) (tb A 52 k9)) (fun Sq7 ay7 hr7 hl7 _ => ⟨rfl, ay7, hr7, hl7⟩)) wc_X7_take wn_RX7 (Or.inr ⟨_, wm_RX10_122⟩) wi_X7_take we_X7_take (by decide +kernel) rfl cls_7 (hS.mem (show lv A 7 0 from rfl)) (hS.knd (show lv A 7 0 from rfl)) (Nat.le_of_ble_eq_true rfl) (Nat.le_of_ble_eq_true rfl) (Nat.zero_le _) (Nat.zero_le _) (by simp [Value.category]) (by decide +kernel) rfl (fun v Z3 q9 => ?_)
  obtain ⟨rfl, ay1, hr1, hl1⟩ := q9
  rw [← hG] at hr1
  rw [h45, h46, h47, h48, if_neg (by decide)] at hl1
  refine V.eq (S' := Z3) (ls' := [some (.ref (ax 10 0)), some (.int (nI (k9))), none]) (st' := [.ref ((ay 4 k9))]) rfl rfl rfl ?_
  refine V.blk h [(.astore_n 2, 1), (.aload_n 2, 1)] (by decide +kernel) (pc' := 21) (ls' := [some (.ref (ax 10 0)), some (.int (nI (k9))), some (.ref ((ay 4 k9)))]) (st' := [.ref ((ay 4 k9))]) rfl rfl (Nat.le_of_ble_eq_true rfl) ?_
  refine V.ifnonnull h (o := (some ((ay 4 k9)))) (off := 11) (by decide +kernel) (tgt := 32) (by decide) (fun _ _ => ?_) (fun z => by cases z)
  refine V.blk h [(.aload_n 2, 1)] (by decide +kernel) (pc' := 33) (ls' := [some (.ref (ax 10 0)), some (.int (nI (k9))), some (.ref ((ay 4 k9)))]) (st' := [.ref ((ay 4 k9))]) rfl rfl (Nat.le_of_ble_eq_true rfl) ?_
  refine V.getI h cls_4 (j := 0) rfl hl1.1 hl1.2.1 (Or.inr ⟨_, wf_RX10_126⟩) (by decide +kernel) (v := nI 4) hl1.2.2.1 ?_
  refine V.tableN h (dflt := 72) (hi := 7) (offs := #[48, 72, 56, 56, 56, 48, 64, 48]) (len := 48) (x := 4) (off := 56) (tgt := 92) (by decide) (by decide +kernel) (by decide) rfl (by decide) ?_
  refine V.blk h [(.aload_n 0, 1), (.aload_n 2, 1)] (by decide +kernel) (pc' := 94) (ls' := [some (.ref (ax 10 0)), some (.int (nI (k9))), some (.ref ((ay 4 k9)))]) (st' := [.ref ((ay 4 k9)), .ref (ax 10 0)]) rfl rfl (Nat.le_of_ble_eq_true rfl) ?_
  refine V.callV h (np := 1) (st := []) (c_rClient4 hls hr1 (e := e) (c9 := c9) (op := op) (q := ay 4 k9) hl1 hc ho hD heK hB hK h9 (post := fun v Sq7 => v = none ∧ ∃ ay8, RA tc (mx ax ay8) (rclC G 4 e c9 op 0 (nI (tn A 50 k9)) (tb A 52 k9)) Sq7) (fun Sq7 ay7 hr7 => ⟨rfl, ay7, hr7⟩)) wc_X10_readAtClient wn_RX10 (Or.inl wm_RX10_135) wi_X10_readAtClient we_X10_readAtClient (by decide +kernel) rfl cls_10 (hr1.mem (show lv G 10 0 from rfl)) (hr1.knd (show lv G 10 0 from rfl)) (Nat.le_of_ble_eq_true rfl) (Nat.le_of_ble_eq_true rfl) (by show 0 + 2 ≤ 2; omega) (by show 0 + 380 ≤ 380; omega) (by simp [Value.category]) (by decide +kernel) rfl (fun v Z4 q9 => ?_)
  obtain ⟨rfl, ay2, hr2⟩ := q9
  refine V.goto h (off := 16) (tgt := 113) (by decide +kernel) (by decide) ?_
  refine V.blk h [(.aload_n 0, 1)] (by decide +kernel) (pc' := 114) (ls' := [some (.ref (ax 10 0)), some (.int (nI (k9))), some (.ref ((ay 4 k9)))]) (st' := [.ref (ax 10 0)]) rfl rfl (Nat.le_of_ble_eq_true rfl) ?_
  refine V.getP h cls_10 (j := 3) rfl (hr2.mem (show lv (rclC G 4 e c9 op 0 (nI (tn A 50 k9)) (tb A 52 k9)) 10 0 from rfl)) (hr2.knd (show lv (rclC G 4 e c9 op 0 (nI (tn A 50 k9)) (tb A 52 k9)) 10 0 from rfl)) (Or.inl wf_RX10_26) (by decide +kernel) (v := some (ax 7 0)) (hr2.ptr (show lv (rclC G 4 e c9 op 0 (nI (tn A 50 k9)) (tb A 52 k9)) 10 0 from rfl) (by decide) (by decide) rfl) ?_
  refine V.eq (S' := Z4) (ls' := [some (.ref (ax 10 0)), some (.int (nI (k9))), some (.ref ((ay 4 k9)))]) (st' := [.ref (ax 7 0)]) rfl rfl rfl ?_
  refine V.callV h (np := 0) (st := []) (c_r_size hls hr2 (post := fun v Sq7 => v = some (.int (nI (tf (rclC G 4 e c9 op 0 (nI (tn A 50 k9)) (tb A 52 k9)) 53))) ∧ Z4 = Sq7) ⟨rfl, rfl⟩) wc_X7_size wn_RX7 (Or.inr ⟨_, wm_RX10_121⟩) wi_X7_size we_X7_size (by decide +kernel) rfl cls_7 (hr2.mem (show lv (rclC G 4 e c9 op 0 (nI (tn A 50 k9)) (tb A 52 k9)) 7 0 from rfl)) (hr2.knd (show lv (rclC G 4 e c9 op 0 (nI (tn A 50 k9)) (tb A 52 k9)) 7 0 from rfl)) (Nat.le_of_ble_eq_true rfl) (Nat.le_of_ble_eq_true rfl) (by show 2 + 0 ≤ 2; omega) (by show 380 + 0 ≤ 380; omega) (by simp [Value.category]) (by decide +kernel) rfl (fun v Z5 q9 => ?_)
  obtain ⟨rfl, hS9⟩ := q9
  subst hS9
  refine V.eq (S' := Z4) (ls' := [some (.ref (ax 10 0)), some (.int (nI (k9))), some (.ref ((ay 4 k9)))]) (st' := [.int (nI (tf (rclC G 4 e c9 op 0 (nI (tn A 50 k9)) (tb A 52 k9)) 53))]) rfl rfl rfl ?_
  exact V.iret h hA hr rfl (hp _ _ hr2) (by decide +kernel) (by omega) (by omega)
set_option maxRecDepth 100000 in
set_option maxHeartbeats 4000000 in
theorem c_deliver3 {l : Launch} {D : va_G} {tc : Nat → ClassId} {ax ay : Nat → Nat → Nat} {A : TS} {S : HS} (hls : l.stackTraces = false) (hS : RA tc (mx ax ay) A S) {k9 : Nat} {G : TS} {e : Nat} {op : Nat} {c9 : Nat} {w : Nat} {K : Nat}  (hG : G = tkF A k9) (hk : k9 < tf A 53) (h45 : tn A 45 k9 = 3) (h46 : tn A 46 k9 = e) (h47 : tn A 47 k9 = c9) (h48 : tn A 48 k9 = op + 1) (h50 : tn A 50 k9 = w) (hc : c9 < 4) (ho : op < tf G 13) (hD : ∀ i, tn G 11 i ≠ 1) (hw : w < tf G 1) (h18 : tn G 18 c9 < 2 ^ tf G 1) (heK : e ≤ K) (hB : NB K G) (hK : K < 1700000000) (h9 : 700 ≤ K) {post : Option Value → HS → Prop} (hp : ∀ (S8 : HS) (ay8 : Nat → Nat → Nat), RA tc (mx ax ay8) (rclC G 3 e c9 op w (nI 0) (tb A 52 k9)) S8 → post (some (.int (nI (tf (rclC G 3 e c9 op w (nI 0) (tb A 52 k9)) 53)))) S8) : CM l D tc yX10_deliver cX10_deliver 3 (some .int) 4 0 0 [.ref (ax 10 0), .int (nI (k9))] S post := by
  refine CM.of hls (by decide +kernel) (by simp [Value.category]) (Nat.le_of_ble_eq_true rfl) (fun A0 p e9 s m args below meth c sz h hr hnm hA => ?_)
  have h5 := hS.2.2.2.1.1
  have h12 := hS.2.2.2.1.2.1
  have h53 := hS.2.2.2.1.2.2.2.2
  have hf3 := hS.2.2.1.2.1
  have hf1 := hS.2.2.1.1
  refine V.eqL (ls' := [some (.ref (ax 10 0)), some (.int (nI (k9))), none]) rfl ?_
  refine V.blk h [(.iload_n 1, 1), (.aload_n 0, 1)] (by decide +kernel) (pc' := 2) (ls' := [some (.ref (ax 10 0)), some (.int (nI (k9))), none]) (st' := [.ref (ax 10 0), .int (nI (k9))]) rfl rfl (Nat.le_of_ble_eq_true rfl) ?_
  refine V.getP h cls_10 (j := 3) rfl (hS.mem (show lv A 10 0 from rfl)) (hS.knd (show lv A 10 0 from rfl)) (Or.inl wf_RX10_26) (by decide +kernel) (v := some (ax 7 0)) (hS.ptr (show lv A 10 0 from rfl) (by decide) (by decide) rfl) ?_
  refine V.eq (S' := S) (ls' := [some (.ref (ax 10 0)), some (.int (nI (k9))), none]) (st' := [.ref (ax 7 0), .int (nI (k9))]) rfl rfl rfl ?_
  refine V.callV h (np := 0) (st := [.int (nI (k9))]) (c_r_size hls hS (post := fun v Sq7 => v = some (.int (nI (tf A 53))) ∧ S = Sq7) ⟨rfl, rfl⟩) wc_X7_size wn_RX7 (Or.inr ⟨_, wm_RX10_121⟩) wi_X7_size we_X7_size (by decide +kernel) rfl cls_7 (hS.mem (show lv A 7 0 from rfl)) (hS.knd (show lv A 7 0 from rfl)) (Nat.le_of_ble_eq_true rfl) (Nat.le_of_ble_eq_true rfl) (Nat.zero_le _) (Nat.zero_le _) (by simp [Value.category]) (by decide +kernel) rfl (fun v Z1 q9 => ?_)
  obtain ⟨rfl, hS9⟩ := q9
  subst hS9
  refine V.eq (S' := S) (ls' := [some (.ref (ax 10 0)), some (.int (nI (k9))), none]) (st' := [.int (nI (tf A 53)), .int (nI (k9))]) rfl rfl rfl ?_
  have nb13 := hB.1 53
  refine V.callS h (np := 2) (st := []) (c_checkIndex hls (x := nI k9) (n := tf A 53) (noIx_nI (by omega) (by omega)) (post := fun v Sq7 => v = none ∧ S = Sq7) ⟨rfl, rfl⟩) wc_X10_checkIndex wn_RX10 (Or.inl wm_RX10_74) wt_X10_checkIndex (by decide +kernel) rfl (Nat.le_of_ble_eq_true rfl) (Nat.le_of_ble_eq_true rfl) (Nat.zero_le _) (Nat.zero_le _) (by simp [Value.category]) (by decide +kernel) rfl (fun v Z2 q9 => ?_)
  obtain ⟨rfl, hS9⟩ := q9
  subst hS9
  refine V.blk h [(.aload_n 0, 1)] (by decide +kernel) (pc' := 12) (ls' := [some (.ref (ax 10 0)), some (.int (nI (k9))), none]) (st' := [.ref (ax 10 0)]) rfl rfl (Nat.le_of_ble_eq_true rfl) ?_
  refine V.getP h cls_10 (j := 3) rfl (hS.mem (show lv A 10 0 from rfl)) (hS.knd (show lv A 10 0 from rfl)) (Or.inl wf_RX10_26) (by decide +kernel) (v := some (ax 7 0)) (hS.ptr (show lv A 10 0 from rfl) (by decide) (by decide) rfl) ?_
  refine V.eq (S' := S) (ls' := [some (.ref (ax 10 0)), some (.int (nI (k9))), none]) (st' := [.ref (ax 7 0)]) rfl rfl rfl ?_
  refine V.blk h [(.iload_n 1, 1)] (by decide +kernel) (pc' := 16) (ls' := [some (.ref (ax 10 0)), some (.int (nI (k9))), none]) (st' := [.int (nI (k9)), .ref (ax 7 0)]) rfl rfl (Nat.le_of_ble_eq_true rfl) ?_
  refine V.callV h (np := 1) (st := []) (c_r_take hls hS (k := k9) hk (post := fun v Sq7 => v = some (.ref (ay 4 k9)) ∧ ∃ ay8, RA tc (mx ax ay8) (tkF A k9) Sq7 ∧ LT Sq7 (ay 4 k9) (tn A 45 k9) (tn A 46 k9) (tn A 47 k9) (opA (mx ax ay) (tn A 48 k9)) (tn A 49 k9) (if tn A 45 k9 = 2 then tr A 51 k9 else nI (tn A 50 k9)) (tb A 52 k9)) (fun Sq7 ay7 hr7 hl7 _ => ⟨rfl, ay7, hr7, hl7⟩)) wc_X7_take wn_RX7 (Or.inr ⟨_, wm_RX10_122⟩) wi_X7_take we_X7_take (by decide +kernel) rfl cls_7 (hS.mem (show lv A 7 0 from rfl)) (hS.knd (show lv A 7 0 from rfl)) (Nat.le_of_ble_eq_true rfl) (Nat.le_of_ble_eq_true rfl) (Nat.zero_le _) (Nat.zero_le _) (by simp [Value.category]) (by decide +kernel) rfl (fun v Z3 q9 => ?_)
  obtain ⟨rfl, ay1, hr1, hl1⟩ := q9
  rw [← hG] at hr1
  rw [h45, h46, h47, h48, h50, if_neg (by decide)] at hl1
  refine V.eq (S' := Z3) (ls' := [some (.ref (ax 10 0)), some (.int (nI (k9))), none]) (st' := [.ref ((ay 4 k9))]) rfl rfl rfl ?_
  refine V.blk h [(.astore_n 2, 1), (.aload_n 2, 1)] (by decide +kernel) (pc' := 21) (ls' := [some (.ref (ax 10 0)), some (.int (nI (k9))), some (.ref ((ay 4 k9)))]) (st' := [.ref ((ay 4 k9))]) rfl rfl (Nat.le_of_ble_eq_true rfl) ?_
  refine V.ifnonnull h (o := (some ((ay 4 k9)))) (off := 11) (by decide +kernel) (tgt := 32) (by decide) (fun _ _ => ?_) (fun z => by cases z)
  refine V.blk h [(.aload_n 2, 1)] (by decide +kernel) (pc' := 33) (ls' := [some (.ref (ax 10 0)), some (.int (nI (k9))), some (.ref ((ay 4 k9)))]) (st' := [.ref ((ay 4 k9))]) rfl rfl (Nat.le_of_ble_eq_true rfl) ?_
  refine V.getI h cls_4 (j := 0) rfl hl1.1 hl1.2.1 (Or.inr ⟨_, wf_RX10_126⟩) (by decide +kernel) (v := nI 3) hl1.2.2.1 ?_
  refine V.tableN h (dflt := 72) (hi := 7) (offs := #[48, 72, 56, 56, 56, 48, 64, 48]) (len := 48) (x := 3) (off := 56) (tgt := 92) (by decide) (by decide +kernel) (by decide) rfl (by decide) ?_
  refine V.blk h [(.aload_n 0, 1), (.aload_n 2, 1)] (by decide +kernel) (pc' := 94) (ls' := [some (.ref (ax 10 0)), some (.int (nI (k9))), some (.ref ((ay 4 k9)))]) (st' := [.ref ((ay 4 k9)), .ref (ax 10 0)]) rfl rfl (Nat.le_of_ble_eq_true rfl) ?_
  refine V.callV h (np := 1) (st := []) (c_rClient3 hls hr1 (e := e) (c9 := c9) (op := op) (w := w) (q := ay 4 k9) hl1 hc ho hD hw h18 heK hB hK h9 (post := fun v Sq7 => v = none ∧ ∃ ay8, RA tc (mx ax ay8) (rclC G 3 e c9 op w (nI 0) (tb A 52 k9)) Sq7) (fun Sq7 ay7 hr7 => ⟨rfl, ay7, hr7⟩)) wc_X10_readAtClient wn_RX10 (Or.inl wm_RX10_135) wi_X10_readAtClient we_X10_readAtClient (by decide +kernel) rfl cls_10 (hr1.mem (show lv G 10 0 from rfl)) (hr1.knd (show lv G 10 0 from rfl)) (Nat.le_of_ble_eq_true rfl) (Nat.le_of_ble_eq_true rfl) (Nat.zero_le _) (Nat.zero_le _) (by simp [Value.category]) (by decide +kernel) rfl (fun v Z4 q9 => ?_)
  obtain ⟨rfl, ay2, hr2⟩ := q9
  refine V.goto h (off := 16) (tgt := 113) (by decide +kernel) (by decide) ?_
  refine V.blk h [(.aload_n 0, 1)] (by decide +kernel) (pc' := 114) (ls' := [some (.ref (ax 10 0)), some (.int (nI (k9))), some (.ref ((ay 4 k9)))]) (st' := [.ref (ax 10 0)]) rfl rfl (Nat.le_of_ble_eq_true rfl) ?_
  refine V.getP h cls_10 (j := 3) rfl (hr2.mem (show lv (rclC G 3 e c9 op w (nI 0) (tb A 52 k9)) 10 0 from rfl)) (hr2.knd (show lv (rclC G 3 e c9 op w (nI 0) (tb A 52 k9)) 10 0 from rfl)) (Or.inl wf_RX10_26) (by decide +kernel) (v := some (ax 7 0)) (hr2.ptr (show lv (rclC G 3 e c9 op w (nI 0) (tb A 52 k9)) 10 0 from rfl) (by decide) (by decide) rfl) ?_
  refine V.eq (S' := Z4) (ls' := [some (.ref (ax 10 0)), some (.int (nI (k9))), some (.ref ((ay 4 k9)))]) (st' := [.ref (ax 7 0)]) rfl rfl rfl ?_
  refine V.callV h (np := 0) (st := []) (c_r_size hls hr2 (post := fun v Sq7 => v = some (.int (nI (tf (rclC G 3 e c9 op w (nI 0) (tb A 52 k9)) 53))) ∧ Z4 = Sq7) ⟨rfl, rfl⟩) wc_X7_size wn_RX7 (Or.inr ⟨_, wm_RX10_121⟩) wi_X7_size we_X7_size (by decide +kernel) rfl cls_7 (hr2.mem (show lv (rclC G 3 e c9 op w (nI 0) (tb A 52 k9)) 7 0 from rfl)) (hr2.knd (show lv (rclC G 3 e c9 op w (nI 0) (tb A 52 k9)) 7 0 from rfl)) (Nat.le_of_ble_eq_true rfl) (Nat.le_of_ble_eq_true rfl) (Nat.zero_le _) (Nat.zero_le _) (by simp [Value.category]) (by decide +kernel) rfl (fun v Z5 q9 => ?_)
  obtain ⟨rfl, hS9⟩ := q9
  subst hS9
  refine V.eq (S' := Z4) (ls' := [some (.ref (ax 10 0)), some (.int (nI (k9))), some (.ref ((ay 4 k9)))]) (st' := [.int (nI (tf (rclC G 3 e c9 op w (nI 0) (tb A 52 k9)) 53))]) rfl rfl rfl ?_
  exact V.iret h hA hr rfl (hp _ _ hr2) (by decide +kernel) (Nat.zero_le _) (Nat.zero_le _)
set_option maxRecDepth 100000 in
set_option maxHeartbeats 4000000 in
theorem c_deliver2 {l : Launch} {D : va_G} {tc : Nat → ClassId} {ax ay : Nat → Nat → Nat} {A : TS} {S : HS} (hls : l.stackTraces = false) (hS : RA tc (mx ax ay) A S) {k9 : Nat} {G : TS} {e : Nat} {op : Nat} {c9 : Nat} {x : Int32} {sa : Bool} {K : Nat}  (hG : G = tkF A k9) (hk : k9 < tf A 53) (h45 : tn A 45 k9 = 2) (h46 : tn A 46 k9 = e) (h47 : tn A 47 k9 = c9) (h48 : tn A 48 k9 = op + 1) (h51 : tr A 51 k9 = x) (h52 : tb A 52 k9 = sa) (hc : c9 < 4) (ho : op < tf G 13) (hD : ∀ i, tn G 11 i ≠ 1) (h18 : tn G 18 c9 < 2 ^ tf G 1) (heK : e ≤ K) (hB : NB K G) (hK : K < 1700000000) (h9 : 700 ≤ K) {post : Option Value → HS → Prop} (hp : ∀ (S8 : HS) (ay8 : Nat → Nat → Nat), RA tc (mx ax ay8) (rclC G 2 e c9 op 0 x sa) S8 → post (some (.int (nI (tf (rclC G 2 e c9 op 0 x sa) 53)))) S8) : CM l D tc yX10_deliver cX10_deliver 3 (some .int) 4 0 0 [.ref (ax 10 0), .int (nI (k9))] S post := by
  refine CM.of hls (by decide +kernel) (by simp [Value.category]) (Nat.le_of_ble_eq_true rfl) (fun A0 p e9 s m args below meth c sz h hr hnm hA => ?_)
  have h5 := hS.2.2.2.1.1
  have h12 := hS.2.2.2.1.2.1
  have h53 := hS.2.2.2.1.2.2.2.2
  have hf3 := hS.2.2.1.2.1
  have hf1 := hS.2.2.1.1
  refine V.eqL (ls' := [some (.ref (ax 10 0)), some (.int (nI (k9))), none]) rfl ?_
  refine V.blk h [(.iload_n 1, 1), (.aload_n 0, 1)] (by decide +kernel) (pc' := 2) (ls' := [some (.ref (ax 10 0)), some (.int (nI (k9))), none]) (st' := [.ref (ax 10 0), .int (nI (k9))]) rfl rfl (Nat.le_of_ble_eq_true rfl) ?_
  refine V.getP h cls_10 (j := 3) rfl (hS.mem (show lv A 10 0 from rfl)) (hS.knd (show lv A 10 0 from rfl)) (Or.inl wf_RX10_26) (by decide +kernel) (v := some (ax 7 0)) (hS.ptr (show lv A 10 0 from rfl) (by decide) (by decide) rfl) ?_
  refine V.eq (S' := S) (ls' := [some (.ref (ax 10 0)), some (.int (nI (k9))), none]) (st' := [.ref (ax 7 0), .int (nI (k9))]) rfl rfl rfl ?_
  refine V.callV h (np := 0) (st := [.int (nI (k9))]) (c_r_size hls hS (post := fun v Sq7 => v = some (.int (nI (tf A 53))) ∧ S = Sq7) ⟨rfl, rfl⟩) wc_X7_size wn_RX7 (Or.inr ⟨_, wm_RX10_121⟩) wi_X7_size we_X7_size (by decide +kernel) rfl cls_7 (hS.mem (show lv A 7 0 from rfl)) (hS.knd (show lv A 7 0 from rfl)) (Nat.le_of_ble_eq_true rfl) (Nat.le_of_ble_eq_true rfl) (Nat.zero_le _) (Nat.zero_le _) (by simp [Value.category]) (by decide +kernel) rfl (fun v Z1 q9 => ?_)
  obtain ⟨rfl, hS9⟩ := q9
  subst hS9
  refine V.eq (S' := S) (ls' := [some (.ref (ax 10 0)), some (.int (nI (k9))), none]) (st' := [.int (nI (tf A 53)), .int (nI (k9))]) rfl rfl rfl ?_
  have nb13 := hB.1 53
  refine V.callS h (np := 2) (st := []) (c_checkIndex hls (x := nI k9) (n := tf A 53) (noIx_nI (by omega) (by omega)) (post := fun v Sq7 => v = none ∧ S = Sq7) ⟨rfl, rfl⟩) wc_X10_checkIndex wn_RX10 (Or.inl wm_RX10_74) wt_X10_checkIndex (by decide +kernel) rfl (Nat.le_of_ble_eq_true rfl) (Nat.le_of_ble_eq_true rfl) (Nat.zero_le _) (Nat.zero_le _) (by simp [Value.category]) (by decide +kernel) rfl (fun v Z2 q9 => ?_)
  obtain ⟨rfl, hS9⟩ := q9
  subst hS9
  refine V.blk h [(.aload_n 0, 1)] (by decide +kernel) (pc' := 12) (ls' := [some (.ref (ax 10 0)), some (.int (nI (k9))), none]) (st' := [.ref (ax 10 0)]) rfl rfl (Nat.le_of_ble_eq_true rfl) ?_
  refine V.getP h cls_10 (j := 3) rfl (hS.mem (show lv A 10 0 from rfl)) (hS.knd (show lv A 10 0 from rfl)) (Or.inl wf_RX10_26) (by decide +kernel) (v := some (ax 7 0)) (hS.ptr (show lv A 10 0 from rfl) (by decide) (by decide) rfl) ?_
  refine V.eq (S' := S) (ls' := [some (.ref (ax 10 0)), some (.int (nI (k9))), none]) (st' := [.ref (ax 7 0)]) rfl rfl rfl ?_
  refine V.blk h [(.iload_n 1, 1)] (by decide +kernel) (pc' := 16) (ls' := [some (.ref (ax 10 0)), some (.int (nI (k9))), none]) (st' := [.int (nI (k9)), .ref (ax 7 0)]) rfl rfl (Nat.le_of_ble_eq_true rfl) ?_
  refine V.callV h (np := 1) (st := []) (c_r_take hls hS (k := k9) hk (post := fun v Sq7 => v = some (.ref (ay 4 k9)) ∧ ∃ ay8, RA tc (mx ax ay8) (tkF A k9) Sq7 ∧ LT Sq7 (ay 4 k9) (tn A 45 k9) (tn A 46 k9) (tn A 47 k9) (opA (mx ax ay) (tn A 48 k9)) (tn A 49 k9) (if tn A 45 k9 = 2 then tr A 51 k9 else nI (tn A 50 k9)) (tb A 52 k9)) (fun Sq7 ay7 hr7 hl7 _ => ⟨rfl, ay7, hr7, hl7⟩)) wc_X7_take wn_RX7 (Or.inr ⟨_, wm_RX10_122⟩) wi_X7_take we_X7_take (by decide +kernel) rfl cls_7 (hS.mem (show lv A 7 0 from rfl)) (hS.knd (show lv A 7 0 from rfl)) (Nat.le_of_ble_eq_true rfl) (Nat.le_of_ble_eq_true rfl) (Nat.zero_le _) (Nat.zero_le _) (by simp [Value.category]) (by decide +kernel) rfl (fun v Z3 q9 => ?_)
  obtain ⟨rfl, ay1, hr1, hl1⟩ := q9
  rw [← hG] at hr1
  rw [h45, h46, h47, h48, h51, h52, if_pos rfl] at hl1
  refine V.eq (S' := Z3) (ls' := [some (.ref (ax 10 0)), some (.int (nI (k9))), none]) (st' := [.ref ((ay 4 k9))]) rfl rfl rfl ?_
  refine V.blk h [(.astore_n 2, 1), (.aload_n 2, 1)] (by decide +kernel) (pc' := 21) (ls' := [some (.ref (ax 10 0)), some (.int (nI (k9))), some (.ref ((ay 4 k9)))]) (st' := [.ref ((ay 4 k9))]) rfl rfl (Nat.le_of_ble_eq_true rfl) ?_
  refine V.ifnonnull h (o := (some ((ay 4 k9)))) (off := 11) (by decide +kernel) (tgt := 32) (by decide) (fun _ _ => ?_) (fun z => by cases z)
  refine V.blk h [(.aload_n 2, 1)] (by decide +kernel) (pc' := 33) (ls' := [some (.ref (ax 10 0)), some (.int (nI (k9))), some (.ref ((ay 4 k9)))]) (st' := [.ref ((ay 4 k9))]) rfl rfl (Nat.le_of_ble_eq_true rfl) ?_
  refine V.getI h cls_4 (j := 0) rfl hl1.1 hl1.2.1 (Or.inr ⟨_, wf_RX10_126⟩) (by decide +kernel) (v := nI 2) hl1.2.2.1 ?_
  refine V.tableN h (dflt := 72) (hi := 7) (offs := #[48, 72, 56, 56, 56, 48, 64, 48]) (len := 48) (x := 2) (off := 56) (tgt := 92) (by decide) (by decide +kernel) (by decide) rfl (by decide) ?_
  refine V.blk h [(.aload_n 0, 1), (.aload_n 2, 1)] (by decide +kernel) (pc' := 94) (ls' := [some (.ref (ax 10 0)), some (.int (nI (k9))), some (.ref ((ay 4 k9)))]) (st' := [.ref ((ay 4 k9)), .ref (ax 10 0)]) rfl rfl (Nat.le_of_ble_eq_true rfl) ?_
  refine V.callV h (np := 1) (st := []) (c_rClient2 hls hr1 (e := e) (c9 := c9) (op := op) (x := x) (sa := sa) (q := ay 4 k9) hl1 hc ho hD h18 heK hB hK h9 (post := fun v Sq7 => v = none ∧ ∃ ay8, RA tc (mx ax ay8) (rclC G 2 e c9 op 0 x sa) Sq7) (fun Sq7 ay7 hr7 => ⟨rfl, ay7, hr7⟩)) wc_X10_readAtClient wn_RX10 (Or.inl wm_RX10_135) wi_X10_readAtClient we_X10_readAtClient (by decide +kernel) rfl cls_10 (hr1.mem (show lv G 10 0 from rfl)) (hr1.knd (show lv G 10 0 from rfl)) (Nat.le_of_ble_eq_true rfl) (Nat.le_of_ble_eq_true rfl) (Nat.zero_le _) (Nat.zero_le _) (by simp [Value.category]) (by decide +kernel) rfl (fun v Z4 q9 => ?_)
  obtain ⟨rfl, ay2, hr2⟩ := q9
  refine V.goto h (off := 16) (tgt := 113) (by decide +kernel) (by decide) ?_
  refine V.blk h [(.aload_n 0, 1)] (by decide +kernel) (pc' := 114) (ls' := [some (.ref (ax 10 0)), some (.int (nI (k9))), some (.ref ((ay 4 k9)))]) (st' := [.ref (ax 10 0)]) rfl rfl (Nat.le_of_ble_eq_true rfl) ?_
  refine V.getP h cls_10 (j := 3) rfl (hr2.mem (show lv (rclC G 2 e c9 op 0 x sa) 10 0 from rfl)) (hr2.knd (show lv (rclC G 2 e c9 op 0 x sa) 10 0 from rfl)) (Or.inl wf_RX10_26) (by decide +kernel) (v := some (ax 7 0)) (hr2.ptr (show lv (rclC G 2 e c9 op 0 x sa) 10 0 from rfl) (by decide) (by decide) rfl) ?_
  refine V.eq (S' := Z4) (ls' := [some (.ref (ax 10 0)), some (.int (nI (k9))), some (.ref ((ay 4 k9)))]) (st' := [.ref (ax 7 0)]) rfl rfl rfl ?_
  refine V.callV h (np := 0) (st := []) (c_r_size hls hr2 (post := fun v Sq7 => v = some (.int (nI (tf (rclC G 2 e c9 op 0 x sa) 53))) ∧ Z4 = Sq7) ⟨rfl, rfl⟩) wc_X7_size wn_RX7 (Or.inr ⟨_, wm_RX10_121⟩) wi_X7_size we_X7_size (by decide +kernel) rfl cls_7 (hr2.mem (show lv (rclC G 2 e c9 op 0 x sa) 7 0 from rfl)) (hr2.knd (show lv (rclC G 2 e c9 op 0 x sa) 7 0 from rfl)) (Nat.le_of_ble_eq_true rfl) (Nat.le_of_ble_eq_true rfl) (Nat.zero_le _) (Nat.zero_le _) (by simp [Value.category]) (by decide +kernel) rfl (fun v Z5 q9 => ?_)
  obtain ⟨rfl, hS9⟩ := q9
  subst hS9
  refine V.eq (S' := Z4) (ls' := [some (.ref (ax 10 0)), some (.int (nI (k9))), some (.ref ((ay 4 k9)))]) (st' := [.int (nI (tf (rclC G 2 e c9 op 0 x sa) 53))]) rfl rfl rfl ?_
  exact V.iret h hA hr rfl (hp _ _ hr2) (by decide +kernel) (Nat.zero_le _) (Nat.zero_le _)
