/-! ===== the class itself: what its calls answer ===== -/
def lrnC (A : TS) (c9 : Nat) : TS := if tn A 17 c9 = tf A 5 - 1 then A else if opnF A c9 = true then begC (sn A 17 c9 (tf A 5 - 1)) c9 (tn A 16 c9 - 1) else sn A 17 c9 (tf A 5 - 1)
def sycC (A : TS) (e : Nat) : TS := if tb A 31 e = true ∧ 0 < e then resF (synF A e) e else synF A e
def audC (A : TS) : Int32 := if tb A 30 (tf A 5 - 1) = false then nI 0 else one9 (!(ioC A (tf A 5 - 1) (tn A 26 (tf A 5 - 1)) && paC A (tf A 5 - 1) (tf A 6)))
set_option maxRecDepth 100000 in
set_option maxHeartbeats 4000000 in
theorem c_retry {l : Launch} {D : va_G} {tc : Nat → ClassId} {ax ay : Nat → Nat → Nat} {A : TS} {S : HS} (hls : l.stackTraces = false) (hS : RA tc (mx ax ay) A S) {c9 : Nat} {K : Nat}  (hc : c9 < 4) (hD : ∀ i, tn A 11 i ≠ 1) (hB : NB K A) (hK : K < 1800000000) (h9 : 700 ≤ K) {post : Option Value → HS → Prop} (hp : (opnF A c9 = false → post (some (.int (bI false))) S) ∧ (opnF A c9 = true → ∀ (S8 : HS) (ay8 : Nat → Nat → Nat), RA tc (mx ax ay8) (begC A c9 (tn A 16 c9 - 1)) S8 → post (some (.int (bI true))) S8)) : CM l D tc yX10_retry cX10_retry 2 (some .boolean) 10 8 1520 [.ref (ax 10 0), .int (nI (c9))] S post := by
  refine CM.of hls (by decide +kernel) (by simp [Value.category]) (Nat.le_of_ble_eq_true rfl) (fun A0 p e9 s m args below meth c sz h hr hnm hA => ?_)
  have h5 := hS.2.2.2.1.1
  have h12 := hS.2.2.2.1.2.1
  have h53 := hS.2.2.2.1.2.2.2.2
  have hf3 := hS.2.2.1.2.1
  have hf1 := hS.2.2.1.1
  refine V.eqL (ls' := [some (.ref (ax 10 0)), some (.int (nI (c9)))]) rfl ?_
  by_cases hopn0 : opnF A c9 = true
  · skip
    refine V.blk h [(.iload_n 1, 1), (.aload_n 0, 1)] (by decide +kernel) (pc' := 2) (ls' := [some (.ref (ax 10 0)), some (.int (nI (c9)))]) (st' := [.ref (ax 10 0), .int (nI (c9))]) rfl rfl (Nat.le_of_ble_eq_true rfl) ?_
    refine V.getP h cls_10 (j := 4) rfl (hS.mem (show lv A 10 0 from rfl)) (hS.knd (show lv A 10 0 from rfl)) (Or.inl wf_RX10_32) (by decide +kernel) (v := some (ax 24 0)) (hS.ptr (show lv A 10 0 from rfl) (by decide) (by decide) rfl) ?_
    refine V.eq (S' := S) (ls' := [some (.ref (ax 10 0)), some (.int (nI (c9)))]) (st' := [.ref (ax 24 0), .int (nI (c9))]) rfl rfl rfl ?_
    refine V.alen h 24 (hS.mem (show lv A 24 0 from rfl)) (hS.knd (show lv A 24 0 from rfl)) (by decide) (M := 4) (hS.len (show lv A 24 0 from rfl) (by decide)) (by decide +kernel) ?_
    refine V.callS h (np := 2) (st := []) (c_checkIndex hls (x := nI c9) (n := 4) (noIx_nI (by omega) (by omega)) (post := fun v Sq7 => v = none ∧ S = Sq7) ⟨rfl, rfl⟩) wc_X10_checkIndex wn_RX10 (Or.inl wm_RX10_74) wt_X10_checkIndex (by decide +kernel) rfl (Nat.le_of_ble_eq_true rfl) (Nat.le_of_ble_eq_true rfl) (Nat.zero_le _) (Nat.zero_le _) (by simp [Value.category]) (by decide +kernel) rfl (fun v Z1 q9 => ?_)
    obtain ⟨rfl, hS9⟩ := q9
    subst hS9
    refine V.blk h [(.aload_n 0, 1), (.aload_n 0, 1)] (by decide +kernel) (pc' := 11) (ls' := [some (.ref (ax 10 0)), some (.int (nI (c9)))]) (st' := [.ref (ax 10 0), .ref (ax 10 0)]) rfl rfl (Nat.le_of_ble_eq_true rfl) ?_
    refine V.getP h cls_10 (j := 4) rfl (hS.mem (show lv A 10 0 from rfl)) (hS.knd (show lv A 10 0 from rfl)) (Or.inl wf_RX10_32) (by decide +kernel) (v := some (ax 24 0)) (hS.ptr (show lv A 10 0 from rfl) (by decide) (by decide) rfl) ?_
    refine V.eq (S' := S) (ls' := [some (.ref (ax 10 0)), some (.int (nI (c9)))]) (st' := [.ref (ax 24 0), .ref (ax 10 0)]) rfl rfl rfl ?_
    refine V.blk h [(.iload_n 1, 1)] (by decide +kernel) (pc' := 15) (ls' := [some (.ref (ax 10 0)), some (.int (nI (c9)))]) (st' := [.int (nI (c9)), .ref (ax 24 0), .ref (ax 10 0)]) rfl rfl (Nat.le_of_ble_eq_true rfl) ?_
    refine V.aald h 24 (hS.mem (show lv A 24 0 from rfl)) (hS.knd (show lv A 24 0 from rfl)) (by decide) rfl (M := 4) (hS.len (show lv A 24 0 from rfl) (by decide)) (i := c9) (by omega) (by show _ < 2 ^ 31; first | omega | decide) (by decide +kernel) (v := some (ax 2 c9)) (hS.ref (show lv A 24 0 from rfl) (by decide) (by show _ < 4; omega)) ?_
    refine V.eq (S' := S) (ls' := [some (.ref (ax 10 0)), some (.int (nI (c9)))]) (st' := [.ref (ax 2 c9), .ref (ax 10 0)]) rfl rfl rfl ?_
    refine V.callV h (np := 1) (st := []) (c_tryAgain hls hS (c9 := c9) hc hD hB (by omega) (by omega) (post := fun v Sq7 => v = some (.int (bI true)) ∧ ∃ ay8, RA tc (mx ax ay8) (begC A c9 (tn A 16 c9 - 1)) Sq7) ⟨fun z9 => absurd (z9.symm.trans hopn0) (by decide), fun _ Sq7 ay7 hr7 => ⟨rfl, ay7, hr7⟩⟩) wc_X10_tryAgain wn_RX10 (Or.inl wm_RX10_114) wi_X10_tryAgain we_X10_tryAgain (by decide +kernel) rfl cls_10 (hS.mem (show lv A 10 0 from rfl)) (hS.knd (show lv A 10 0 from rfl)) (Nat.le_of_ble_eq_true rfl) (Nat.le_of_ble_eq_true rfl) (by show 0 + 8 ≤ 8; omega) (by show 0 + 1520 ≤ 1520; omega) (by simp [Value.category]) (by decide +kernel) rfl (fun v Z2 q9 => ?_)
    obtain ⟨rfl, ay1, hr1⟩ := q9
    refine V.eq (S' := Z2) (ls' := [some (.ref (ax 10 0)), some (.int (nI (c9)))]) (st' := [.int (bI (true))]) rfl rfl rfl ?_
    exact V.iret h hA hr (bI_nar _) (hp.2 hopn0 _ _ hr1) (by decide +kernel) (by omega) (by omega)
  · skip
    refine V.blk h [(.iload_n 1, 1), (.aload_n 0, 1)] (by decide +kernel) (pc' := 2) (ls' := [some (.ref (ax 10 0)), some (.int (nI (c9)))]) (st' := [.ref (ax 10 0), .int (nI (c9))]) rfl rfl (Nat.le_of_ble_eq_true rfl) ?_
    refine V.getP h cls_10 (j := 4) rfl (hS.mem (show lv A 10 0 from rfl)) (hS.knd (show lv A 10 0 from rfl)) (Or.inl wf_RX10_32) (by decide +kernel) (v := some (ax 24 0)) (hS.ptr (show lv A 10 0 from rfl) (by decide) (by decide) rfl) ?_
    refine V.eq (S' := S) (ls' := [some (.ref (ax 10 0)), some (.int (nI (c9)))]) (st' := [.ref (ax 24 0), .int (nI (c9))]) rfl rfl rfl ?_
    refine V.alen h 24 (hS.mem (show lv A 24 0 from rfl)) (hS.knd (show lv A 24 0 from rfl)) (by decide) (M := 4) (hS.len (show lv A 24 0 from rfl) (by decide)) (by decide +kernel) ?_
    refine V.callS h (np := 2) (st := []) (c_checkIndex hls (x := nI c9) (n := 4) (noIx_nI (by omega) (by omega)) (post := fun v Sq7 => v = none ∧ S = Sq7) ⟨rfl, rfl⟩) wc_X10_checkIndex wn_RX10 (Or.inl wm_RX10_74) wt_X10_checkIndex (by decide +kernel) rfl (Nat.le_of_ble_eq_true rfl) (Nat.le_of_ble_eq_true rfl) (Nat.zero_le _) (Nat.zero_le _) (by simp [Value.category]) (by decide +kernel) rfl (fun v Z3 q9 => ?_)
    obtain ⟨rfl, hS9⟩ := q9
    subst hS9
    refine V.blk h [(.aload_n 0, 1), (.aload_n 0, 1)] (by decide +kernel) (pc' := 11) (ls' := [some (.ref (ax 10 0)), some (.int (nI (c9)))]) (st' := [.ref (ax 10 0), .ref (ax 10 0)]) rfl rfl (Nat.le_of_ble_eq_true rfl) ?_
    refine V.getP h cls_10 (j := 4) rfl (hS.mem (show lv A 10 0 from rfl)) (hS.knd (show lv A 10 0 from rfl)) (Or.inl wf_RX10_32) (by decide +kernel) (v := some (ax 24 0)) (hS.ptr (show lv A 10 0 from rfl) (by decide) (by decide) rfl) ?_
    refine V.eq (S' := S) (ls' := [some (.ref (ax 10 0)), some (.int (nI (c9)))]) (st' := [.ref (ax 24 0), .ref (ax 10 0)]) rfl rfl rfl ?_
    refine V.blk h [(.iload_n 1, 1)] (by decide +kernel) (pc' := 15) (ls' := [some (.ref (ax 10 0)), some (.int (nI (c9)))]) (st' := [.int (nI (c9)), .ref (ax 24 0), .ref (ax 10 0)]) rfl rfl (Nat.le_of_ble_eq_true rfl) ?_
    refine V.aald h 24 (hS.mem (show lv A 24 0 from rfl)) (hS.knd (show lv A 24 0 from rfl)) (by decide) rfl (M := 4) (hS.len (show lv A 24 0 from rfl) (by decide)) (i := c9) (by omega) (by show _ < 2 ^ 31; first | omega | decide) (by decide +kernel) (v := some (ax 2 c9)) (hS.ref (show lv A 24 0 from rfl) (by decide) (by show _ < 4; omega)) ?_
    refine V.eq (S' := S) (ls' := [some (.ref (ax 10 0)), some (.int (nI (c9)))]) (st' := [.ref (ax 2 c9), .ref (ax 10 0)]) rfl rfl rfl ?_
    refine V.callV h (np := 1) (st := []) (c_tryAgain hls hS (c9 := c9) hc hD hB (by omega) (by omega) (post := fun v Sq7 => v = some (.int (bI false)) ∧ S = Sq7) ⟨fun _ => ⟨rfl, rfl⟩, fun z9 => absurd (z9.symm.trans (by simpa using hopn0)) (by decide)⟩) wc_X10_tryAgain wn_RX10 (Or.inl wm_RX10_114) wi_X10_tryAgain we_X10_tryAgain (by decide +kernel) rfl cls_10 (hS.mem (show lv A 10 0 from rfl)) (hS.knd (show lv A 10 0 from rfl)) (Nat.le_of_ble_eq_true rfl) (Nat.le_of_ble_eq_true rfl) (by show 0 + 8 ≤ 8; omega) (by show 0 + 1520 ≤ 1520; omega) (by simp [Value.category]) (by decide +kernel) rfl (fun v Z4 q9 => ?_)
    obtain ⟨rfl, hS9⟩ := q9
    subst hS9
    refine V.eq (S' := S) (ls' := [some (.ref (ax 10 0)), some (.int (nI (c9)))]) (st' := [.int (bI (false))]) rfl rfl rfl ?_
    exact V.iret h hA hr (bI_nar _) (hp.1 (by simpa using hopn0)) (by decide +kernel) (by omega) (by omega)
set_option maxRecDepth 100000 in
set_option maxHeartbeats 4000000 in
theorem c_learn {l : Launch} {D : va_G} {tc : Nat → ClassId} {ax ay : Nat → Nat → Nat} {A : TS} {S : HS} (hls : l.stackTraces = false) (hS : RA tc (mx ax ay) A S) {c9 : Nat} {K : Nat}  (hc : c9 < 4) (h1e : 1 ≤ tf A 5) (hD : ∀ i, tn A 11 i ≠ 1) (hB : NB K A) (hK : K < 1700000000) (h9 : 700 ≤ K) {post : Option Value → HS → Prop} (hp : ∀ (S8 : HS) (ay8 : Nat → Nat → Nat), RA tc (mx ax ay8) (lrnC A c9) S8 → post (some (.int (nI (tf A 5 - 1)))) S8) : CM l D tc yX10_learn cX10_learn 4 (some .int) 10 8 1520 [.ref (ax 10 0), .int (nI (c9))] S post := by
  refine CM.of hls (by decide +kernel) (by simp [Value.category]) (Nat.le_of_ble_eq_true rfl) (fun A0 p e9 s m args below meth c sz h hr hnm hA => ?_)
  have h5 := hS.2.2.2.1.1
  have h12 := hS.2.2.2.1.2.1
  have h53 := hS.2.2.2.1.2.2.2.2
  have hf3 := hS.2.2.1.2.1
  have hf1 := hS.2.2.1.1
  refine V.eqL (ls' := [some (.ref (ax 10 0)), some (.int (nI (c9))), none, none]) rfl ?_
  by_cases hopn0 : opnF A c9 = true
  · skip
    refine V.blk h [(.iload_n 1, 1), (.aload_n 0, 1)] (by decide +kernel) (pc' := 2) (ls' := [some (.ref (ax 10 0)), some (.int (nI (c9))), none, none]) (st' := [.ref (ax 10 0), .int (nI (c9))]) rfl rfl (Nat.le_of_ble_eq_true rfl) ?_
    refine V.getP h cls_10 (j := 4) rfl (hS.mem (show lv A 10 0 from rfl)) (hS.knd (show lv A 10 0 from rfl)) (Or.inl wf_RX10_32) (by decide +kernel) (v := some (ax 24 0)) (hS.ptr (show lv A 10 0 from rfl) (by decide) (by decide) rfl) ?_
    refine V.eq (S' := S) (ls' := [some (.ref (ax 10 0)), some (.int (nI (c9))), none, none]) (st' := [.ref (ax 24 0), .int (nI (c9))]) rfl rfl rfl ?_
    refine V.alen h 24 (hS.mem (show lv A 24 0 from rfl)) (hS.knd (show lv A 24 0 from rfl)) (by decide) (M := 4) (hS.len (show lv A 24 0 from rfl) (by decide)) (by decide +kernel) ?_
    refine V.callS h (np := 2) (st := []) (c_checkIndex hls (x := nI c9) (n := 4) (noIx_nI (by omega) (by omega)) (post := fun v Sq7 => v = none ∧ S = Sq7) ⟨rfl, rfl⟩) wc_X10_checkIndex wn_RX10 (Or.inl wm_RX10_74) wt_X10_checkIndex (by decide +kernel) rfl (Nat.le_of_ble_eq_true rfl) (Nat.le_of_ble_eq_true rfl) (Nat.zero_le _) (Nat.zero_le _) (by simp [Value.category]) (by decide +kernel) rfl (fun v Z1 q9 => ?_)
    obtain ⟨rfl, hS9⟩ := q9
    subst hS9
    refine V.blk h [(.aload_n 0, 1)] (by decide +kernel) (pc' := 10) (ls' := [some (.ref (ax 10 0)), some (.int (nI (c9))), none, none]) (st' := [.ref (ax 10 0)]) rfl rfl (Nat.le_of_ble_eq_true rfl) ?_
    refine V.getP h cls_10 (j := 4) rfl (hS.mem (show lv A 10 0 from rfl)) (hS.knd (show lv A 10 0 from rfl)) (Or.inl wf_RX10_32) (by decide +kernel) (v := some (ax 24 0)) (hS.ptr (show lv A 10 0 from rfl) (by decide) (by decide) rfl) ?_
    refine V.eq (S' := S) (ls' := [some (.ref (ax 10 0)), some (.int (nI (c9))), none, none]) (st' := [.ref (ax 24 0)]) rfl rfl rfl ?_
    refine V.blk h [(.iload_n 1, 1)] (by decide +kernel) (pc' := 14) (ls' := [some (.ref (ax 10 0)), some (.int (nI (c9))), none, none]) (st' := [.int (nI (c9)), .ref (ax 24 0)]) rfl rfl (Nat.le_of_ble_eq_true rfl) ?_
    refine V.aald h 24 (hS.mem (show lv A 24 0 from rfl)) (hS.knd (show lv A 24 0 from rfl)) (by decide) rfl (M := 4) (hS.len (show lv A 24 0 from rfl) (by decide)) (i := c9) (by omega) (by show _ < 2 ^ 31; first | omega | decide) (by decide +kernel) (v := some (ax 2 c9)) (hS.ref (show lv A 24 0 from rfl) (by decide) (by show _ < 4; omega)) ?_
    refine V.eq (S' := S) (ls' := [some (.ref (ax 10 0)), some (.int (nI (c9))), none, none]) (st' := [.ref (ax 2 c9)]) rfl rfl rfl ?_
    refine V.blk h [(.astore_n 2, 1), (.aload_n 0, 1)] (by decide +kernel) (pc' := 17) (ls' := [some (.ref (ax 10 0)), some (.int (nI (c9))), some (.ref (ax 2 c9)), none]) (st' := [.ref (ax 10 0)]) rfl rfl (Nat.le_of_ble_eq_true rfl) ?_
    refine V.getP h cls_10 (j := 7) rfl (hS.mem (show lv A 10 0 from rfl)) (hS.knd (show lv A 10 0 from rfl)) (Or.inl wf_RX10_58) (by decide +kernel) (v := some (ax 0 1)) (hS.ptr (show lv A 10 0 from rfl) (by decide) (by decide) rfl) ?_
    refine V.eq (S' := S) (ls' := [some (.ref (ax 10 0)), some (.int (nI (c9))), some (.ref (ax 2 c9)), none]) (st' := [.ref (ax 0 1)]) rfl rfl rfl ?_
    refine V.callV h (np := 0) (st := []) (s_mas hls hS (post := fun v Sq7 => v = some (.int (nI (tf A 5))) ∧ S = Sq7) ⟨rfl, rfl⟩) wc_Jx4a65c_size_8abf5 wn_RJx4a65c (Or.inl wm_RX10_85) wi_Jx4a65c_size_8abf5 we_Jx4a65c_size_8abf5 (by decide +kernel) rfl cls_0 (hS.mem (show lv A 0 1 from (Or.inl (by decide)))) (hS.knd (show lv A 0 1 from (Or.inl (by decide)))) (Nat.le_of_ble_eq_true rfl) (Nat.le_of_ble_eq_true rfl) (Nat.zero_le _) (Nat.zero_le _) (by simp [Value.category]) (by decide +kernel) rfl (fun v Z2 q9 => ?_)
    obtain ⟨rfl, hS9⟩ := q9
    subst hS9
    refine V.eq (S' := S) (ls' := [some (.ref (ax 10 0)), some (.int (nI (c9))), some (.ref (ax 2 c9)), none]) (st' := [.int (nI (tf A 5))]) rfl rfl rfl ?_
    have nb28 := hB.1 5
    refine V.blk h [(.iconst 1, 1)] (by decide +kernel) (pc' := 24) (ls' := [some (.ref (ax 10 0)), some (.int (nI (c9))), some (.ref (ax 2 c9)), none]) (st' := [.int (nI (1)), .int (nI (tf A 5))]) rfl rfl (Nat.le_of_ble_eq_true rfl) ?_
    refine V.subN h (by decide +kernel) (Nat.le_of_ble_eq_true rfl) (by omega) ?_
    refine V.blk h [(.istore_n 3, 1), (.aload_n 2, 1)] (by decide +kernel) (pc' := 27) (ls' := [some (.ref (ax 10 0)), some (.int (nI (c9))), some (.ref (ax 2 c9)), some (.int (nI ((tf A 5) - 1)))]) (st' := [.ref (ax 2 c9)]) rfl rfl (Nat.le_of_ble_eq_true rfl) ?_
    refine V.getI h cls_2 (j := 0) rfl (hS.mem (show lv A 2 c9 from hc)) (hS.knd (show lv A 2 c9 from hc)) (Or.inr ⟨_, wf_RX10_118⟩) (by decide +kernel) (v := nI (tn A 17 c9)) (hS.int (show lv A 2 c9 from hc) (by decide) (by decide) rfl) ?_
    have nb33 := hB.2 17 c9
    refine V.blk h [(.iload_n 3, 1)] (by decide +kernel) (pc' := 31) (ls' := [some (.ref (ax 10 0)), some (.int (nI (c9))), some (.ref (ax 2 c9)), some (.int (nI ((tf A 5) - 1)))]) (st' := [.int (nI ((tf A 5) - 1)), .int (nI (tn A 17 c9))]) rfl rfl (Nat.le_of_ble_eq_true rfl) ?_
    refine V.icmp_eq h (off := 14) (by decide +kernel) (tgt := 45) (by decide) (fun q => ?_) (fun q => ?_)
    · have q31_35 := ((nI_eq (by omega) (by omega)).mp q)
      clear q
      refine V.blk h [(.iload_n 3, 1)] (by decide +kernel) (pc' := 46) (ls' := [some (.ref (ax 10 0)), some (.int (nI (c9))), some (.ref (ax 2 c9)), some (.int (nI ((tf A 5) - 1)))]) (st' := [.int (nI ((tf A 5) - 1))]) rfl rfl (Nat.le_of_ble_eq_true rfl) ?_
      exact V.iret h hA hr rfl (hp _ ay (by unfold lrnC; rw [if_pos q31_35]; exact hS)) (by decide +kernel) (Nat.zero_le _) (Nat.zero_le _)
    · have q31_35 : ¬ _ := (fun z => q ((nI_eq (by omega) (by omega)).mpr z))
      clear q
      refine V.blk h [(.aload_n 2, 1), (.iload_n 3, 1)] (by decide +kernel) (pc' := 36) (ls' := [some (.ref (ax 10 0)), some (.int (nI (c9))), some (.ref (ax 2 c9)), some (.int (nI ((tf A 5) - 1)))]) (st' := [.int (nI ((tf A 5) - 1)), .ref (ax 2 c9)]) rfl rfl (Nat.le_of_ble_eq_true rfl) ?_
      refine V.putI h cls_2 (j := 0) rfl (hS.mem (show lv A 2 c9 from hc)) (hS.knd (show lv A 2 c9 from hc)) (Or.inr ⟨_, wf_RX10_118⟩) rfl rfl rfl (by decide +kernel) ?_
      refine V.gen (P := fun S9 => RA tc (mx ax ay) (sn A 17 c9 ((tf A 5) - 1)) S9) (hS.p_2_0 (i := c9) (v := ((tf A 5) - 1)) (show lv A 2 c9 from hc)) (fun S3 hS3 => ?_)
      obtain ⟨G, hG⟩ : ∃ X9 : TS, X9 = (sn A 17 c9 ((tf A 5) - 1)) := ⟨_, rfl⟩
      rw [← hG] at hS3
      have g16 : tn G 16 c9 = tn A 16 c9 := by rw [hG, tn_sn, if_neg (by omega)]
      have g11 : ∀ i, tn G 11 i = tn A 11 i := fun i => by rw [hG, tn_sn, if_neg (by omega)]
      have gop : opnF G c9 = opnF A c9 := by unfold opnF; rw [g16, g11]
      have nbG : NB (K + 12) G := by rw [hG]; exact (hB.mono (by omega)).sn (by omega)
      refine V.blk h [(.aload_n 0, 1), (.aload_n 2, 1)] (by decide +kernel) (pc' := 41) (ls' := [some (.ref (ax 10 0)), some (.int (nI (c9))), some (.ref (ax 2 c9)), some (.int (nI ((tf A 5) - 1)))]) (st' := [.ref (ax 2 c9), .ref (ax 10 0)]) rfl rfl (Nat.le_of_ble_eq_true rfl) ?_
      refine V.callV h (np := 1) (st := []) (c_tryAgain hls hS3 (c9 := c9) hc (fun i => by rw [g11]; exact hD i) nbG (by omega) (by omega) (post := fun v Sq7 => v = some (.int (bI true)) ∧ ∃ ay8, RA tc (mx ax ay8) (begC G c9 (tn G 16 c9 - 1)) Sq7) ⟨fun z9 => absurd (z9.symm.trans (gop.trans hopn0)) (by decide), fun _ Sq7 ay7 hr7 => ⟨rfl, ay7, hr7⟩⟩) wc_X10_tryAgain wn_RX10 (Or.inl wm_RX10_114) wi_X10_tryAgain we_X10_tryAgain (by decide +kernel) rfl cls_10 (hS3.mem (show lv G 10 0 from rfl)) (hS3.knd (show lv G 10 0 from rfl)) (Nat.le_of_ble_eq_true rfl) (Nat.le_of_ble_eq_true rfl) (by show 0 + 8 ≤ 8; omega) (by show 0 + 1520 ≤ 1520; omega) (by simp [Value.category]) (by decide +kernel) rfl (fun v Z4 q9 => ?_)
      obtain ⟨rfl, ay1, hr1⟩ := q9
      refine V.eq (S' := Z4) (ls' := [some (.ref (ax 10 0)), some (.int (nI (c9))), some (.ref (ax 2 c9)), some (.int (nI ((tf A 5) - 1)))]) (st' := [.int (bI (true))]) rfl rfl rfl ?_
      refine V.blk h [(.pop, 1), (.iload_n 3, 1)] (by decide +kernel) (pc' := 46) (ls' := [some (.ref (ax 10 0)), some (.int (nI (c9))), some (.ref (ax 2 c9)), some (.int (nI ((tf A 5) - 1)))]) (st' := [.int (nI ((tf A 5) - 1))]) rfl rfl (Nat.le_of_ble_eq_true rfl) ?_
      exact V.iret h hA hr rfl (hp _ _ (by unfold lrnC; rw [if_neg q31_35, if_pos hopn0, ← hG, ← g16]; exact hr1)) (by decide +kernel) (by omega) (by omega)
  · skip
    refine V.blk h [(.iload_n 1, 1), (.aload_n 0, 1)] (by decide +kernel) (pc' := 2) (ls' := [some (.ref (ax 10 0)), some (.int (nI (c9))), none, none]) (st' := [.ref (ax 10 0), .int (nI (c9))]) rfl rfl (Nat.le_of_ble_eq_true rfl) ?_
    refine V.getP h cls_10 (j := 4) rfl (hS.mem (show lv A 10 0 from rfl)) (hS.knd (show lv A 10 0 from rfl)) (Or.inl wf_RX10_32) (by decide +kernel) (v := some (ax 24 0)) (hS.ptr (show lv A 10 0 from rfl) (by decide) (by decide) rfl) ?_
    refine V.eq (S' := S) (ls' := [some (.ref (ax 10 0)), some (.int (nI (c9))), none, none]) (st' := [.ref (ax 24 0), .int (nI (c9))]) rfl rfl rfl ?_
    refine V.alen h 24 (hS.mem (show lv A 24 0 from rfl)) (hS.knd (show lv A 24 0 from rfl)) (by decide) (M := 4) (hS.len (show lv A 24 0 from rfl) (by decide)) (by decide +kernel) ?_
    refine V.callS h (np := 2) (st := []) (c_checkIndex hls (x := nI c9) (n := 4) (noIx_nI (by omega) (by omega)) (post := fun v Sq7 => v = none ∧ S = Sq7) ⟨rfl, rfl⟩) wc_X10_checkIndex wn_RX10 (Or.inl wm_RX10_74) wt_X10_checkIndex (by decide +kernel) rfl (Nat.le_of_ble_eq_true rfl) (Nat.le_of_ble_eq_true rfl) (Nat.zero_le _) (Nat.zero_le _) (by simp [Value.category]) (by decide +kernel) rfl (fun v Z5 q9 => ?_)
    obtain ⟨rfl, hS9⟩ := q9
    subst hS9
    refine V.blk h [(.aload_n 0, 1)] (by decide +kernel) (pc' := 10) (ls' := [some (.ref (ax 10 0)), some (.int (nI (c9))), none, none]) (st' := [.ref (ax 10 0)]) rfl rfl (Nat.le_of_ble_eq_true rfl) ?_
    refine V.getP h cls_10 (j := 4) rfl (hS.mem (show lv A 10 0 from rfl)) (hS.knd (show lv A 10 0 from rfl)) (Or.inl wf_RX10_32) (by decide +kernel) (v := some (ax 24 0)) (hS.ptr (show lv A 10 0 from rfl) (by decide) (by decide) rfl) ?_
    refine V.eq (S' := S) (ls' := [some (.ref (ax 10 0)), some (.int (nI (c9))), none, none]) (st' := [.ref (ax 24 0)]) rfl rfl rfl ?_
    refine V.blk h [(.iload_n 1, 1)] (by decide +kernel) (pc' := 14) (ls' := [some (.ref (ax 10 0)), some (.int (nI (c9))), none, none]) (st' := [.int (nI (c9)), .ref (ax 24 0)]) rfl rfl (Nat.le_of_ble_eq_true rfl) ?_
    refine V.aald h 24 (hS.mem (show lv A 24 0 from rfl)) (hS.knd (show lv A 24 0 from rfl)) (by decide) rfl (M := 4) (hS.len (show lv A 24 0 from rfl) (by decide)) (i := c9) (by omega) (by show _ < 2 ^ 31; first | omega | decide) (by decide +kernel) (v := some (ax 2 c9)) (hS.ref (show lv A 24 0 from rfl) (by decide) (by show _ < 4; omega)) ?_
    refine V.eq (S' := S) (ls' := [some (.ref (ax 10 0)), some (.int (nI (c9))), none, none]) (st' := [.ref (ax 2 c9)]) rfl rfl rfl ?_
    refine V.blk h [(.astore_n 2, 1), (.aload_n 0, 1)] (by decide +kernel) (pc' := 17) (ls' := [some (.ref (ax 10 0)), some (.int (nI (c9))), some (.ref (ax 2 c9)), none]) (st' := [.ref (ax 10 0)]) rfl rfl (Nat.le_of_ble_eq_true rfl) ?_
    refine V.getP h cls_10 (j := 7) rfl (hS.mem (show lv A 10 0 from rfl)) (hS.knd (show lv A 10 0 from rfl)) (Or.inl wf_RX10_58) (by decide +kernel) (v := some (ax 0 1)) (hS.ptr (show lv A 10 0 from rfl) (by decide) (by decide) rfl) ?_
    refine V.eq (S' := S) (ls' := [some (.ref (ax 10 0)), some (.int (nI (c9))), some (.ref (ax 2 c9)), none]) (st' := [.ref (ax 0 1)]) rfl rfl rfl ?_
    refine V.callV h (np := 0) (st := []) (s_mas hls hS (post := fun v Sq7 => v = some (.int (nI (tf A 5))) ∧ S = Sq7) ⟨rfl, rfl⟩) wc_Jx4a65c_size_8abf5 wn_RJx4a65c (Or.inl wm_RX10_85) wi_Jx4a65c_size_8abf5 we_Jx4a65c_size_8abf5 (by decide +kernel) rfl cls_0 (hS.mem (show lv A 0 1 from (Or.inl (by decide)))) (hS.knd (show lv A 0 1 from (Or.inl (by decide)))) (Nat.le_of_ble_eq_true rfl) (Nat.le_of_ble_eq_true rfl) (Nat.zero_le _) (Nat.zero_le _) (by simp [Value.category]) (by decide +kernel) rfl (fun v Z6 q9 => ?_)
    obtain ⟨rfl, hS9⟩ := q9
    subst hS9
    refine V.eq (S' := S) (ls' := [some (.ref (ax 10 0)), some (.int (nI (c9))), some (.ref (ax 2 c9)), none]) (st' := [.int (nI (tf A 5))]) rfl rfl rfl ?_
    have nb78 := hB.1 5
    refine V.blk h [(.iconst 1, 1)] (by decide +kernel) (pc' := 24) (ls' := [some (.ref (ax 10 0)), some (.int (nI (c9))), some (.ref (ax 2 c9)), none]) (st' := [.int (nI (1)), .int (nI (tf A 5))]) rfl rfl (Nat.le_of_ble_eq_true rfl) ?_
    refine V.subN h (by decide +kernel) (Nat.le_of_ble_eq_true rfl) (by omega) ?_
    refine V.blk h [(.istore_n 3, 1), (.aload_n 2, 1)] (by decide +kernel) (pc' := 27) (ls' := [some (.ref (ax 10 0)), some (.int (nI (c9))), some (.ref (ax 2 c9)), some (.int (nI ((tf A 5) - 1)))]) (st' := [.ref (ax 2 c9)]) rfl rfl (Nat.le_of_ble_eq_true rfl) ?_
    refine V.getI h cls_2 (j := 0) rfl (hS.mem (show lv A 2 c9 from hc)) (hS.knd (show lv A 2 c9 from hc)) (Or.inr ⟨_, wf_RX10_118⟩) (by decide +kernel) (v := nI (tn A 17 c9)) (hS.int (show lv A 2 c9 from hc) (by decide) (by decide) rfl) ?_
    have nb83 := hB.2 17 c9
    refine V.blk h [(.iload_n 3, 1)] (by decide +kernel) (pc' := 31) (ls' := [some (.ref (ax 10 0)), some (.int (nI (c9))), some (.ref (ax 2 c9)), some (.int (nI ((tf A 5) - 1)))]) (st' := [.int (nI ((tf A 5) - 1)), .int (nI (tn A 17 c9))]) rfl rfl (Nat.le_of_ble_eq_true rfl) ?_
    refine V.icmp_eq h (off := 14) (by decide +kernel) (tgt := 45) (by decide) (fun q => ?_) (fun q => ?_)
    · have q31_85 := ((nI_eq (by omega) (by omega)).mp q)
      clear q
      refine V.blk h [(.iload_n 3, 1)] (by decide +kernel) (pc' := 46) (ls' := [some (.ref (ax 10 0)), some (.int (nI (c9))), some (.ref (ax 2 c9)), some (.int (nI ((tf A 5) - 1)))]) (st' := [.int (nI ((tf A 5) - 1))]) rfl rfl (Nat.le_of_ble_eq_true rfl) ?_
      exact V.iret h hA hr rfl (hp _ ay (by unfold lrnC; rw [if_pos q31_85]; exact hS)) (by decide +kernel) (Nat.zero_le _) (Nat.zero_le _)
    · have q31_85 : ¬ _ := (fun z => q ((nI_eq (by omega) (by omega)).mpr z))
      clear q
      refine V.blk h [(.aload_n 2, 1), (.iload_n 3, 1)] (by decide +kernel) (pc' := 36) (ls' := [some (.ref (ax 10 0)), some (.int (nI (c9))), some (.ref (ax 2 c9)), some (.int (nI ((tf A 5) - 1)))]) (st' := [.int (nI ((tf A 5) - 1)), .ref (ax 2 c9)]) rfl rfl (Nat.le_of_ble_eq_true rfl) ?_
      refine V.putI h cls_2 (j := 0) rfl (hS.mem (show lv A 2 c9 from hc)) (hS.knd (show lv A 2 c9 from hc)) (Or.inr ⟨_, wf_RX10_118⟩) rfl rfl rfl (by decide +kernel) ?_
      refine V.gen (P := fun S9 => RA tc (mx ax ay) (sn A 17 c9 ((tf A 5) - 1)) S9) (hS.p_2_0 (i := c9) (v := ((tf A 5) - 1)) (show lv A 2 c9 from hc)) (fun S7 hS7 => ?_)
      obtain ⟨G, hG⟩ : ∃ X9 : TS, X9 = (sn A 17 c9 ((tf A 5) - 1)) := ⟨_, rfl⟩
      rw [← hG] at hS7
      have g16 : tn G 16 c9 = tn A 16 c9 := by rw [hG, tn_sn, if_neg (by omega)]
      have g11 : ∀ i, tn G 11 i = tn A 11 i := fun i => by rw [hG, tn_sn, if_neg (by omega)]
      have gop : opnF G c9 = opnF A c9 := by unfold opnF; rw [g16, g11]
      have nbG : NB (K + 12) G := by rw [hG]; exact (hB.mono (by omega)).sn (by omega)
      refine V.blk h [(.aload_n 0, 1), (.aload_n 2, 1)] (by decide +kernel) (pc' := 41) (ls' := [some (.ref (ax 10 0)), some (.int (nI (c9))), some (.ref (ax 2 c9)), some (.int (nI ((tf A 5) - 1)))]) (st' := [.ref (ax 2 c9), .ref (ax 10 0)]) rfl rfl (Nat.le_of_ble_eq_true rfl) ?_
      refine V.callV h (np := 1) (st := []) (c_tryAgain hls hS7 (c9 := c9) hc (fun i => by rw [g11]; exact hD i) nbG (by omega) (by omega) (post := fun v Sq7 => v = some (.int (bI false)) ∧ S7 = Sq7) ⟨fun _ => ⟨rfl, rfl⟩, fun z9 => absurd (z9.symm.trans (gop.trans (by simpa using hopn0 : opnF A c9 = false))) (by decide)⟩) wc_X10_tryAgain wn_RX10 (Or.inl wm_RX10_114) wi_X10_tryAgain we_X10_tryAgain (by decide +kernel) rfl cls_10 (hS7.mem (show lv G 10 0 from rfl)) (hS7.knd (show lv G 10 0 from rfl)) (Nat.le_of_ble_eq_true rfl) (Nat.le_of_ble_eq_true rfl) (by show 0 + 8 ≤ 8; omega) (by show 0 + 1520 ≤ 1520; omega) (by simp [Value.category]) (by decide +kernel) rfl (fun v Z8 q9 => ?_)
      obtain ⟨rfl, hS9⟩ := q9
      subst hS9
      refine V.eq (S' := S7) (ls' := [some (.ref (ax 10 0)), some (.int (nI (c9))), some (.ref (ax 2 c9)), some (.int (nI ((tf A 5) - 1)))]) (st' := [.int (bI (false))]) rfl rfl rfl ?_
      refine V.blk h [(.pop, 1), (.iload_n 3, 1)] (by decide +kernel) (pc' := 46) (ls' := [some (.ref (ax 10 0)), some (.int (nI (c9))), some (.ref (ax 2 c9)), some (.int (nI ((tf A 5) - 1)))]) (st' := [.int (nI ((tf A 5) - 1))]) rfl rfl (Nat.le_of_ble_eq_true rfl) ?_
      exact V.iret h hA hr rfl (hp _ _ (by unfold lrnC; rw [if_neg q31_85, if_neg (by rw [(by simpa using hopn0 : opnF A c9 = false)]; decide), ← hG]; exact hS7)) (by decide +kernel) (by omega) (by omega)
set_option maxRecDepth 100000 in
set_option maxHeartbeats 4000000 in
theorem c_lose {l : Launch} {D : va_G} {tc : Nat → ClassId} {ax ay : Nat → Nat → Nat} {A : TS} {S : HS} (hls : l.stackTraces = false) (hS : RA tc (mx ax ay) A S) {k9 : Nat}  (hk : k9 < tf A 53) {post : Option Value → HS → Prop} (hp : ∀ (S8 : HS) (ay8 : Nat → Nat → Nat), RA tc (mx ax ay8) (tkF A k9) S8 → post (some (.int (nI (tf (tkF A k9) 53)))) S8) : CM l D tc yX10_lose cX10_lose 2 (some .int) 4 0 0 [.ref (ax 10 0), .int (nI (k9))] S post := by
  refine CM.of hls (by decide +kernel) (by simp [Value.category]) (Nat.le_of_ble_eq_true rfl) (fun A0 p e9 s m args below meth c sz h hr hnm hA => ?_)
  have h5 := hS.2.2.2.1.1
  have h12 := hS.2.2.2.1.2.1
  have h53 := hS.2.2.2.1.2.2.2.2
  have hf3 := hS.2.2.1.2.1
  have hf1 := hS.2.2.1.1
  refine V.eqL (ls' := [some (.ref (ax 10 0)), some (.int (nI (k9)))]) rfl ?_
  refine V.blk h [(.iload_n 1, 1), (.aload_n 0, 1)] (by decide +kernel) (pc' := 2) (ls' := [some (.ref (ax 10 0)), some (.int (nI (k9)))]) (st' := [.ref (ax 10 0), .int (nI (k9))]) rfl rfl (Nat.le_of_ble_eq_true rfl) ?_
  refine V.getP h cls_10 (j := 3) rfl (hS.mem (show lv A 10 0 from rfl)) (hS.knd (show lv A 10 0 from rfl)) (Or.inl wf_RX10_26) (by decide +kernel) (v := some (ax 7 0)) (hS.ptr (show lv A 10 0 from rfl) (by decide) (by decide) rfl) ?_
  refine V.eq (S' := S) (ls' := [some (.ref (ax 10 0)), some (.int (nI (k9)))]) (st' := [.ref (ax 7 0), .int (nI (k9))]) rfl rfl rfl ?_
  refine V.callV h (np := 0) (st := [.int (nI (k9))]) (c_r_size hls hS (post := fun v Sq7 => v = some (.int (nI (tf A 53))) ∧ S = Sq7) ⟨rfl, rfl⟩) wc_X7_size wn_RX7 (Or.inr ⟨_, wm_RX10_121⟩) wi_X7_size we_X7_size (by decide +kernel) rfl cls_7 (hS.mem (show lv A 7 0 from rfl)) (hS.knd (show lv A 7 0 from rfl)) (Nat.le_of_ble_eq_true rfl) (Nat.le_of_ble_eq_true rfl) (Nat.zero_le _) (Nat.zero_le _) (by simp [Value.category]) (by decide +kernel) rfl (fun v Z1 q9 => ?_)
  obtain ⟨rfl, hS9⟩ := q9
  subst hS9
  refine V.eq (S' := S) (ls' := [some (.ref (ax 10 0)), some (.int (nI (k9)))]) (st' := [.int (nI (tf A 53)), .int (nI (k9))]) rfl rfl rfl ?_
  refine V.callS h (np := 2) (st := []) (c_checkIndex hls (x := nI k9) (n := tf A 53) (noIx_nI (by omega) (by omega)) (post := fun v Sq7 => v = none ∧ S = Sq7) ⟨rfl, rfl⟩) wc_X10_checkIndex wn_RX10 (Or.inl wm_RX10_74) wt_X10_checkIndex (by decide +kernel) rfl (Nat.le_of_ble_eq_true rfl) (Nat.le_of_ble_eq_true rfl) (Nat.zero_le _) (Nat.zero_le _) (by simp [Value.category]) (by decide +kernel) rfl (fun v Z2 q9 => ?_)
  obtain ⟨rfl, hS9⟩ := q9
  subst hS9
  refine V.blk h [(.aload_n 0, 1)] (by decide +kernel) (pc' := 12) (ls' := [some (.ref (ax 10 0)), some (.int (nI (k9)))]) (st' := [.ref (ax 10 0)]) rfl rfl (Nat.le_of_ble_eq_true rfl) ?_
  refine V.getP h cls_10 (j := 3) rfl (hS.mem (show lv A 10 0 from rfl)) (hS.knd (show lv A 10 0 from rfl)) (Or.inl wf_RX10_26) (by decide +kernel) (v := some (ax 7 0)) (hS.ptr (show lv A 10 0 from rfl) (by decide) (by decide) rfl) ?_
  refine V.eq (S' := S) (ls' := [some (.ref (ax 10 0)), some (.int (nI (k9)))]) (st' := [.ref (ax 7 0)]) rfl rfl rfl ?_
  refine V.blk h [(.iload_n 1, 1)] (by decide +kernel) (pc' := 16) (ls' := [some (.ref (ax 10 0)), some (.int (nI (k9)))]) (st' := [.int (nI (k9)), .ref (ax 7 0)]) rfl rfl (Nat.le_of_ble_eq_true rfl) ?_
  refine V.callV h (np := 1) (st := []) (c_r_take hls hS (k := k9) hk (post := fun v Sq7 => v = some (.ref (ay 4 k9)) ∧ ∃ ay8, RA tc (mx ax ay8) (tkF A k9) Sq7) (fun Sq7 ay7 hr7 _ _ => ⟨rfl, ay7, hr7⟩)) wc_X7_take wn_RX7 (Or.inr ⟨_, wm_RX10_122⟩) wi_X7_take we_X7_take (by decide +kernel) rfl cls_7 (hS.mem (show lv A 7 0 from rfl)) (hS.knd (show lv A 7 0 from rfl)) (Nat.le_of_ble_eq_true rfl) (Nat.le_of_ble_eq_true rfl) (Nat.zero_le _) (Nat.zero_le _) (by simp [Value.category]) (by decide +kernel) rfl (fun v Z3 q9 => ?_)
  obtain ⟨rfl, ay1, hr1⟩ := q9
  refine V.eq (S' := Z3) (ls' := [some (.ref (ax 10 0)), some (.int (nI (k9)))]) (st' := [.ref ((ay 4 k9))]) rfl rfl rfl ?_
  refine V.blk h [(.pop, 1), (.aload_n 0, 1)] (by decide +kernel) (pc' := 21) (ls' := [some (.ref (ax 10 0)), some (.int (nI (k9)))]) (st' := [.ref (ax 10 0)]) rfl rfl (Nat.le_of_ble_eq_true rfl) ?_
  refine V.getP h cls_10 (j := 3) rfl (hr1.mem (show lv (tkF A k9) 10 0 from rfl)) (hr1.knd (show lv (tkF A k9) 10 0 from rfl)) (Or.inl wf_RX10_26) (by decide +kernel) (v := some (ax 7 0)) (hr1.ptr (show lv (tkF A k9) 10 0 from rfl) (by decide) (by decide) rfl) ?_
  refine V.eq (S' := Z3) (ls' := [some (.ref (ax 10 0)), some (.int (nI (k9)))]) (st' := [.ref (ax 7 0)]) rfl rfl rfl ?_
  refine V.callV h (np := 0) (st := []) (c_r_size hls hr1 (post := fun v Sq7 => v = some (.int (nI (tf (tkF A k9) 53))) ∧ Z3 = Sq7) ⟨rfl, rfl⟩) wc_X7_size wn_RX7 (Or.inr ⟨_, wm_RX10_121⟩) wi_X7_size we_X7_size (by decide +kernel) rfl cls_7 (hr1.mem (show lv (tkF A k9) 7 0 from rfl)) (hr1.knd (show lv (tkF A k9) 7 0 from rfl)) (Nat.le_of_ble_eq_true rfl) (Nat.le_of_ble_eq_true rfl) (Nat.zero_le _) (Nat.zero_le _) (by simp [Value.category]) (by decide +kernel) rfl (fun v Z4 q9 => ?_)
  obtain ⟨rfl, hS9⟩ := q9
  subst hS9
  refine V.eq (S' := Z3) (ls' := [some (.ref (ax 10 0)), some (.int (nI (k9)))]) (st' := [.int (nI (tf (tkF A k9) 53))]) rfl rfl rfl ?_
  exact V.iret h hA hr rfl (hp _ _ hr1) (by decide +kernel) (Nat.zero_le _) (Nat.zero_le _)
set_option maxRecDepth 100000 in
set_option maxHeartbeats 4000000 in
theorem c_twice {l : Launch} {D : va_G} {tc : Nat → ClassId} {ax ay : Nat → Nat → Nat} {A : TS} {S : HS} (hls : l.stackTraces = false) (hS : RA tc (mx ax ay) A S) {k9 : Nat}  (hk : k9 < tf A 53) {post : Option Value → HS → Prop} (hp : ∀ (S8 : HS) (ay8 : Nat → Nat → Nat), RA tc (mx ax ay8) (twiF A k9) S8 → post (some (.int (nI (tf (twiF A k9) 53)))) S8) : CM l D tc yX10_twice cX10_twice 3 (some .int) 8 1 373 [.ref (ax 10 0), .int (nI (k9))] S post := by
  refine CM.of hls (by decide +kernel) (by simp [Value.category]) (Nat.le_of_ble_eq_true rfl) (fun A0 p e9 s m args below meth c sz h hr hnm hA => ?_)
  have h5 := hS.2.2.2.1.1
  have h12 := hS.2.2.2.1.2.1
  have h53 := hS.2.2.2.1.2.2.2.2
  have hf3 := hS.2.2.1.2.1
  have hf1 := hS.2.2.1.1
  refine V.eqL (ls' := [some (.ref (ax 10 0)), some (.int (nI (k9))), none]) rfl ?_
  refine V.blk h [(.iload_n 1, 1), (.aload_n 0, 1)] (by decide +kernel) (pc' := 2) (ls' := [some (.ref (ax 10 0)), some (.int (nI (k9))), none]) (st' := [.ref (ax 10 0), .int (nI (k9))]) rfl rfl (Nat.le_of_ble_eq_true rfl) ?_
  refine V.getP h cls_10 (j := 3) rfl (hS.mem (show lv A 10 0 from rfl)) (hS.knd (show lv A 10 0 from rfl)) (Or.inl wf_RX10_26) (by decide +kernel) (v := some (ax 7 0)) (hS.ptr (show lv A 10 0 from rfl) (by decide) (by decide) rfl) ?_
  refine V.eq (S' := S) (ls' := [some (.ref (ax 10 0)), some (.int (nI (k9))), none]) (st' := [.ref (ax 7 0), .int (nI (k9))]) rfl rfl rfl ?_
  refine V.callV h (np := 0) (st := [.int (nI (k9))]) (c_r_size hls hS (post := fun v Sq7 => v = some (.int (nI (tf A 53))) ∧ S = Sq7) ⟨rfl, rfl⟩) wc_X7_size wn_RX7 (Or.inr ⟨_, wm_RX10_121⟩) wi_X7_size we_X7_size (by decide +kernel) rfl cls_7 (hS.mem (show lv A 7 0 from rfl)) (hS.knd (show lv A 7 0 from rfl)) (Nat.le_of_ble_eq_true rfl) (Nat.le_of_ble_eq_true rfl) (Nat.zero_le _) (Nat.zero_le _) (by simp [Value.category]) (by decide +kernel) rfl (fun v Z1 q9 => ?_)
  obtain ⟨rfl, hS9⟩ := q9
  subst hS9
  refine V.eq (S' := S) (ls' := [some (.ref (ax 10 0)), some (.int (nI (k9))), none]) (st' := [.int (nI (tf A 53)), .int (nI (k9))]) rfl rfl rfl ?_
  refine V.callS h (np := 2) (st := []) (c_checkIndex hls (x := nI k9) (n := tf A 53) (noIx_nI (by omega) (by omega)) (post := fun v Sq7 => v = none ∧ S = Sq7) ⟨rfl, rfl⟩) wc_X10_checkIndex wn_RX10 (Or.inl wm_RX10_74) wt_X10_checkIndex (by decide +kernel) rfl (Nat.le_of_ble_eq_true rfl) (Nat.le_of_ble_eq_true rfl) (Nat.zero_le _) (Nat.zero_le _) (by simp [Value.category]) (by decide +kernel) rfl (fun v Z2 q9 => ?_)
  obtain ⟨rfl, hS9⟩ := q9
  subst hS9
  refine V.blk h [(.aload_n 0, 1)] (by decide +kernel) (pc' := 12) (ls' := [some (.ref (ax 10 0)), some (.int (nI (k9))), none]) (st' := [.ref (ax 10 0)]) rfl rfl (Nat.le_of_ble_eq_true rfl) ?_
  refine V.getP h cls_10 (j := 3) rfl (hS.mem (show lv A 10 0 from rfl)) (hS.knd (show lv A 10 0 from rfl)) (Or.inl wf_RX10_26) (by decide +kernel) (v := some (ax 7 0)) (hS.ptr (show lv A 10 0 from rfl) (by decide) (by decide) rfl) ?_
  refine V.eq (S' := S) (ls' := [some (.ref (ax 10 0)), some (.int (nI (k9))), none]) (st' := [.ref (ax 7 0)]) rfl rfl rfl ?_
  refine V.blk h [(.iload_n 1, 1)] (by decide +kernel) (pc' := 16) (ls' := [some (.ref (ax 10 0)), some (.int (nI (k9))), none]) (st' := [.int (nI (k9)), .ref (ax 7 0)]) rfl rfl (Nat.le_of_ble_eq_true rfl) ?_
  refine V.callV h (np := 1) (st := []) (c_r_at hls hS (k := k9) hk (post := fun v Sq7 => v = some (.ref (ay 4 k9)) ∧ S = Sq7) ⟨rfl, rfl⟩) wc_X7_at wn_RX7 (Or.inr ⟨_, wm_RX10_144⟩) wi_X7_at we_X7_at (by decide +kernel) rfl cls_7 (hS.mem (show lv A 7 0 from rfl)) (hS.knd (show lv A 7 0 from rfl)) (Nat.le_of_ble_eq_true rfl) (Nat.le_of_ble_eq_true rfl) (Nat.zero_le _) (Nat.zero_le _) (by simp [Value.category]) (by decide +kernel) rfl (fun v Z3 q9 => ?_)
  obtain ⟨rfl, hS9⟩ := q9
  subst hS9
  refine V.eq (S' := S) (ls' := [some (.ref (ax 10 0)), some (.int (nI (k9))), none]) (st' := [.ref (ay 4 k9)]) rfl rfl rfl ?_
  refine V.blk h [(.astore_n 2, 1), (.aload_n 2, 1)] (by decide +kernel) (pc' := 21) (ls' := [some (.ref (ax 10 0)), some (.int (nI (k9))), some (.ref (ay 4 k9))]) (st' := [.ref (ay 4 k9)]) rfl rfl (Nat.le_of_ble_eq_true rfl) ?_
  refine V.ifnull h (o := (some (ay 4 k9))) (off := 11) (by decide +kernel) (tgt := 32) (by decide) (fun z => by cases z) (fun _ _ => ?_)
  refine V.blk h [(.aload_n 0, 1)] (by decide +kernel) (pc' := 25) (ls' := [some (.ref (ax 10 0)), some (.int (nI (k9))), some (.ref (ay 4 k9))]) (st' := [.ref (ax 10 0)]) rfl rfl (Nat.le_of_ble_eq_true rfl) ?_
  refine V.getP h cls_10 (j := 3) rfl (hS.mem (show lv A 10 0 from rfl)) (hS.knd (show lv A 10 0 from rfl)) (Or.inl wf_RX10_26) (by decide +kernel) (v := some (ax 7 0)) (hS.ptr (show lv A 10 0 from rfl) (by decide) (by decide) rfl) ?_
  refine V.eq (S' := S) (ls' := [some (.ref (ax 10 0)), some (.int (nI (k9))), some (.ref (ay 4 k9))]) (st' := [.ref (ax 7 0)]) rfl rfl rfl ?_
  refine V.blk h [(.aload_n 2, 1)] (by decide +kernel) (pc' := 29) (ls' := [some (.ref (ax 10 0)), some (.int (nI (k9))), some (.ref (ay 4 k9))]) (st' := [.ref (ay 4 k9), .ref (ax 7 0)]) rfl rfl (Nat.le_of_ble_eq_true rfl) ?_
  refine V.callV h (np := 1) (st := []) (c_r_send hls hS (so := tn A 45 k9) (e := tn A 46 k9) (to := tn A 47 k9) (op := tn A 48 k9) (n := tn A 49 k9) (c9 := tn A 50 k9) (x := tr A 51 k9) (sa := tb A 52 k9) (q := ay 4 k9) (ms := 373) (hS.2.2.2.2.2.2.2.1 k9 hk) (hS.let hk) hS.gc (post := fun v Sq7 => v = none ∧ ∃ ay8, RA tc (mx ax ay8) (twiF A k9) Sq7) (fun Sq7 ay7 hr7 _ => ⟨rfl, ay7, hr7⟩)) wc_X7_send wn_RX7 (Or.inr ⟨_, wm_RX10_147⟩) wi_X7_send we_X7_send (by decide +kernel) rfl cls_7 (hS.mem (show lv A 7 0 from rfl)) (hS.knd (show lv A 7 0 from rfl)) (Nat.le_of_ble_eq_true rfl) (Nat.le_of_ble_eq_true rfl) (by show 0 + 1 ≤ 1; omega) (by show 0 + 373 ≤ 373; omega) (by simp [Value.category]) (by decide +kernel) rfl (fun v Z4 q9 => ?_)
  obtain ⟨rfl, ay1, hr1⟩ := q9
  refine V.blk h [(.aload_n 0, 1)] (by decide +kernel) (pc' := 33) (ls' := [some (.ref (ax 10 0)), some (.int (nI (k9))), some (.ref (ay 4 k9))]) (st' := [.ref (ax 10 0)]) rfl rfl (Nat.le_of_ble_eq_true rfl) ?_
  refine V.getP h cls_10 (j := 3) rfl (hr1.mem (show lv (twiF A k9) 10 0 from rfl)) (hr1.knd (show lv (twiF A k9) 10 0 from rfl)) (Or.inl wf_RX10_26) (by decide +kernel) (v := some (ax 7 0)) (hr1.ptr (show lv (twiF A k9) 10 0 from rfl) (by decide) (by decide) rfl) ?_
  refine V.eq (S' := Z4) (ls' := [some (.ref (ax 10 0)), some (.int (nI (k9))), some (.ref (ay 4 k9))]) (st' := [.ref (ax 7 0)]) rfl rfl rfl ?_
  refine V.callV h (np := 0) (st := []) (c_r_size hls hr1 (post := fun v Sq7 => v = some (.int (nI (tf (twiF A k9) 53))) ∧ Z4 = Sq7) ⟨rfl, rfl⟩) wc_X7_size wn_RX7 (Or.inr ⟨_, wm_RX10_121⟩) wi_X7_size we_X7_size (by decide +kernel) rfl cls_7 (hr1.mem (show lv (twiF A k9) 7 0 from rfl)) (hr1.knd (show lv (twiF A k9) 7 0 from rfl)) (Nat.le_of_ble_eq_true rfl) (Nat.le_of_ble_eq_true rfl) (by show 1 + 0 ≤ 1; omega) (by show 373 + 0 ≤ 373; omega) (by simp [Value.category]) (by decide +kernel) rfl (fun v Z5 q9 => ?_)
  obtain ⟨rfl, hS9⟩ := q9
  subst hS9
  refine V.eq (S' := Z4) (ls' := [some (.ref (ax 10 0)), some (.int (nI (k9))), some (.ref (ay 4 k9))]) (st' := [.int (nI (tf (twiF A k9) 53))]) rfl rfl rfl ?_
  exact V.iret h hA hr rfl (hp _ _ hr1) (by decide +kernel) (by omega) (by omega)
set_option maxRecDepth 100000 in
set_option maxHeartbeats 4000000 in
theorem c_sync {l : Launch} {D : va_G} {tc : Nat → ClassId} {ax ay : Nat → Nat → Nat} {A : TS} {S : HS} (hls : l.stackTraces = false) (hS : RA tc (mx ax ay) A S) {e : Nat}  (he5 : e < tf A 5) {post : Option Value → HS → Prop} (hp : (tb A 30 e = false → post (some (.int (bI false))) S) ∧ (tb A 30 e = true → ∀ (S8 : HS) (ay8 : Nat → Nat → Nat), RA tc (mx ax ay8) (sycC A e) S8 → post (some (.int (bI true))) S8)) : CM l D tc yX10_sync cX10_sync 3 (some .boolean) 9 12 2280 [.ref (ax 10 0), .int (nI (e))] S post := by
  refine CM.of hls (by decide +kernel) (by simp [Value.category]) (Nat.le_of_ble_eq_true rfl) (fun A0 p e9 s m args below meth c sz h hr hnm hA => ?_)
  have h5 := hS.2.2.2.1.1
  have h12 := hS.2.2.2.1.2.1
  have h53 := hS.2.2.2.1.2.2.2.2
  have hf3 := hS.2.2.1.2.1
  have hf1 := hS.2.2.1.1
  refine V.eqL (ls' := [some (.ref (ax 10 0)), some (.int (nI (e))), none]) rfl ?_
  refine V.blk h [(.iload_n 1, 1), (.aload_n 0, 1)] (by decide +kernel) (pc' := 2) (ls' := [some (.ref (ax 10 0)), some (.int (nI (e))), none]) (st' := [.ref (ax 10 0), .int (nI (e))]) rfl rfl (Nat.le_of_ble_eq_true rfl) ?_
  refine V.getP h cls_10 (j := 7) rfl (hS.mem (show lv A 10 0 from rfl)) (hS.knd (show lv A 10 0 from rfl)) (Or.inl wf_RX10_58) (by decide +kernel) (v := some (ax 0 1)) (hS.ptr (show lv A 10 0 from rfl) (by decide) (by decide) rfl) ?_
  refine V.eq (S' := S) (ls' := [some (.ref (ax 10 0)), some (.int (nI (e))), none]) (st' := [.ref (ax 0 1), .int (nI (e))]) rfl rfl rfl ?_
  refine V.callV h (np := 0) (st := [.int (nI (e))]) (s_mas hls hS (post := fun v Sq7 => v = some (.int (nI (tf A 5))) ∧ S = Sq7) ⟨rfl, rfl⟩) wc_Jx4a65c_size_8abf5 wn_RJx4a65c (Or.inl wm_RX10_85) wi_Jx4a65c_size_8abf5 we_Jx4a65c_size_8abf5 (by decide +kernel) rfl cls_0 (hS.mem (show lv A 0 1 from (Or.inl (by decide)))) (hS.knd (show lv A 0 1 from (Or.inl (by decide)))) (Nat.le_of_ble_eq_true rfl) (Nat.le_of_ble_eq_true rfl) (Nat.zero_le _) (Nat.zero_le _) (by simp [Value.category]) (by decide +kernel) rfl (fun v Z1 q9 => ?_)
  obtain ⟨rfl, hS9⟩ := q9
  subst hS9
  refine V.eq (S' := S) (ls' := [some (.ref (ax 10 0)), some (.int (nI (e))), none]) (st' := [.int (nI (tf A 5)), .int (nI (e))]) rfl rfl rfl ?_
  refine V.callS h (np := 2) (st := []) (c_checkIndex hls (x := nI e) (n := tf A 5) (noIx_nI (by omega) (by omega)) (post := fun v Sq7 => v = none ∧ S = Sq7) ⟨rfl, rfl⟩) wc_X10_checkIndex wn_RX10 (Or.inl wm_RX10_74) wt_X10_checkIndex (by decide +kernel) rfl (Nat.le_of_ble_eq_true rfl) (Nat.le_of_ble_eq_true rfl) (Nat.zero_le _) (Nat.zero_le _) (by simp [Value.category]) (by decide +kernel) rfl (fun v Z2 q9 => ?_)
  obtain ⟨rfl, hS9⟩ := q9
  subst hS9
  refine V.blk h [(.aload_n 0, 1)] (by decide +kernel) (pc' := 12) (ls' := [some (.ref (ax 10 0)), some (.int (nI (e))), none]) (st' := [.ref (ax 10 0)]) rfl rfl (Nat.le_of_ble_eq_true rfl) ?_
  refine V.getP h cls_10 (j := 7) rfl (hS.mem (show lv A 10 0 from rfl)) (hS.knd (show lv A 10 0 from rfl)) (Or.inl wf_RX10_58) (by decide +kernel) (v := some (ax 0 1)) (hS.ptr (show lv A 10 0 from rfl) (by decide) (by decide) rfl) ?_
  refine V.eq (S' := S) (ls' := [some (.ref (ax 10 0)), some (.int (nI (e))), none]) (st' := [.ref (ax 0 1)]) rfl rfl rfl ?_
  refine V.blk h [(.iload_n 1, 1)] (by decide +kernel) (pc' := 16) (ls' := [some (.ref (ax 10 0)), some (.int (nI (e))), none]) (st' := [.int (nI (e)), .ref (ax 0 1)]) rfl rfl (Nat.le_of_ble_eq_true rfl) ?_
  refine V.callV h (np := 1) (st := []) (g_mas hls hS (k := e) (by omega) (post := fun v Sq7 => v = some (.ref (ax 5 e)) ∧ S = Sq7) ⟨rfl, rfl⟩) wc_Jx4a65c_get_915e3 wn_RJx4a65c (Or.inl wm_RX10_150) wi_Jx4a65c_get_915e3 we_Jx4a65c_get_915e3 (by decide +kernel) rfl cls_0 (hS.mem (show lv A 0 1 from (Or.inl (by decide)))) (hS.knd (show lv A 0 1 from (Or.inl (by decide)))) (Nat.le_of_ble_eq_true rfl) (Nat.le_of_ble_eq_true rfl) (Nat.zero_le _) (Nat.zero_le _) (by simp [Value.category]) (by decide +kernel) rfl (fun v Z3 q9 => ?_)
  obtain ⟨rfl, hS9⟩ := q9
  subst hS9
  refine V.eq (S' := S) (ls' := [some (.ref (ax 10 0)), some (.int (nI (e))), none]) (st' := [.ref (ax 5 e)]) rfl rfl rfl ?_
  refine V.castS h cls_5 (hS.mem (show lv A 5 e from (show e < tf A 38 by omega))) (hS.knd (show lv A 5 e from (show e < tf A 38 by omega))) wl_RX10_62 (by decide +kernel) ?_
  refine V.blk h [(.astore_n 2, 1), (.aload_n 2, 1)] (by decide +kernel) (pc' := 24) (ls' := [some (.ref (ax 10 0)), some (.int (nI (e))), some (.ref (ax 5 e))]) (st' := [.ref (ax 5 e)]) rfl rfl (Nat.le_of_ble_eq_true rfl) ?_
  refine V.getI h cls_5 (j := 7) rfl (hS.mem (show lv A 5 e from (show e < tf A 38 by omega))) (hS.knd (show lv A 5 e from (show e < tf A 38 by omega))) (Or.inr ⟨_, wf_RX10_154⟩) (by decide +kernel) (v := bI (tb A 30 e)) (hS.int (show lv A 5 e from (show e < tf A 38 by omega)) (by decide) (by decide) rfl) ?_
  refine V.if_ne h (off := 5) (by decide +kernel) (tgt := 32) (by decide) (fun q => ?_) (fun q => ?_)
  · have q27_27 := (bI_1 (fun z => q (bI_0.mpr z)))
    clear q
    refine V.blk h [(.aload_n 2, 1)] (by decide +kernel) (pc' := 33) (ls' := [some (.ref (ax 10 0)), some (.int (nI (e))), some (.ref (ax 5 e))]) (st' := [.ref (ax 5 e)]) rfl rfl (Nat.le_of_ble_eq_true rfl) ?_
    refine V.callV h (np := 0) (st := []) (c_sendSyncs hls hS (e := e) (show e < tf A 38 by omega) (post := fun v S8 => v = none ∧ ∃ ay8, RA tc (mx ax ay8) (synF A e) S8) (fun S8 ay8 hr8 => ⟨rfl, ay8, hr8⟩)) wc_X5_sendSyncs wn_RX5 (Or.inr ⟨_, wm_RX10_158⟩) wi_X5_sendSyncs we_X5_sendSyncs (by decide +kernel) rfl cls_5 (hS.mem (show lv A 5 e from (show e < tf A 38 by omega))) (hS.knd (show lv A 5 e from (show e < tf A 38 by omega))) (Nat.le_of_ble_eq_true rfl) (Nat.le_of_ble_eq_true rfl) (by show 0 + 6 ≤ 12; omega) (by show 0 + 1140 ≤ 2280; omega) (by simp [Value.category]) (by decide +kernel) rfl (fun v Z4 q9 => ?_)
    obtain ⟨rfl, ay5, hS6⟩ := q9
    obtain ⟨G, hG⟩ : ∃ X9 : TS, X9 = (synF A e) := ⟨_, rfl⟩
    rw [← hG] at hS6
    have kg := syn_keep A e
    have kb := syn_keepB A e
    rw [← hG] at kg kb
    have g38 : e < tf G 38 := by rw [kg.1 38 (by decide) (by decide)]; omega
    have g31 : tb G 31 e = tb A 31 e := kb.2 31 e (by decide)
    refine V.blk h [(.aload_n 2, 1)] (by decide +kernel) (pc' := 37) (ls' := [some (.ref (ax 10 0)), some (.int (nI (e))), some (.ref (ax 5 e))]) (st' := [.ref (ax 5 e)]) rfl rfl (Nat.le_of_ble_eq_true rfl) ?_
    refine V.getI h cls_5 (j := 8) rfl (hS6.mem (show lv G 5 e from g38)) (hS6.knd (show lv G 5 e from g38)) (Or.inr ⟨_, wf_RX10_161⟩) (by decide +kernel) (v := bI (tb G 31 e)) (hS6.int (show lv G 5 e from g38) (by decide) (by decide) rfl) ?_
    refine V.if_eq h (off := 7) (by decide +kernel) (tgt := 47) (by decide) (fun q => ?_) (fun q => ?_)
    · have q40_42 := (bI_0.mp q)
      clear q
      refine V.blk h [(.iconst 1, 1)] (by decide +kernel) (pc' := 48) (ls' := [some (.ref (ax 10 0)), some (.int (nI (e))), some (.ref (ax 5 e))]) (st' := [.int (nI (1))]) rfl rfl (Nat.le_of_ble_eq_true rfl) ?_
      refine V.top (v' := .int (bI true)) (by decide) ?_
      exact V.iret h hA hr (bI_nar _) (hp.2 q27_27 _ _ (by unfold sycC; rw [if_neg (fun z => absurd (z.1.symm.trans (g31.symm.trans q40_42)) (by decide)), ← hG]; exact hS6)) (by decide +kernel) (by omega) (by omega)
    · have q40_42 := (bI_1 (fun z => q (bI_0.mpr z)))
      clear q
      refine V.blk h [(.aload_n 2, 1)] (by decide +kernel) (pc' := 44) (ls' := [some (.ref (ax 10 0)), some (.int (nI (e))), some (.ref (ax 5 e))]) (st' := [.ref (ax 5 e)]) rfl rfl (Nat.le_of_ble_eq_true rfl) ?_
      refine V.callV h (np := 0) (st := []) (c_sendResets hls hS6 (e := e) g38 (post := fun v S8 => v = none ∧ ∃ ay8, RA tc (mx ax ay8) (if 0 < e then resF G e else G) S8) (fun S8 ay8 hr8 => ⟨rfl, ay8, hr8⟩)) wc_X5_sendResets wn_RX5 (Or.inr ⟨_, wm_RX10_164⟩) wi_X5_sendResets we_X5_sendResets (by decide +kernel) rfl cls_5 (hS6.mem (show lv G 5 e from g38)) (hS6.knd (show lv G 5 e from g38)) (Nat.le_of_ble_eq_true rfl) (Nat.le_of_ble_eq_true rfl) (by show 6 + 6 ≤ 12; omega) (by show 1140 + 1140 ≤ 2280; omega) (by simp [Value.category]) (by decide +kernel) rfl (fun v Z7 q9 => ?_)
      obtain ⟨rfl, ay8, hS9⟩ := q9
      refine V.blk h [(.iconst 1, 1)] (by decide +kernel) (pc' := 48) (ls' := [some (.ref (ax 10 0)), some (.int (nI (e))), some (.ref (ax 5 e))]) (st' := [.int (nI (1))]) rfl rfl (Nat.le_of_ble_eq_true rfl) ?_
      refine V.top (v' := .int (bI true)) (by decide) ?_
      exact V.iret h hA hr (bI_nar _) (hp.2 q27_27 _ _ (by unfold sycC; rw [← hG, ← g31]; by_cases z : 0 < e <;> simp only [q40_42, z, and_true, and_false, if_true, if_false] at hS9 ⊢ <;> exact hS9)) (by decide +kernel) (by omega) (by omega)
  · have q27_27 := (bI_0.mp q)
    clear q
    refine V.blk h [(.iconst 0, 1)] (by decide +kernel) (pc' := 31) (ls' := [some (.ref (ax 10 0)), some (.int (nI (e))), some (.ref (ax 5 e))]) (st' := [.int (nI (0))]) rfl rfl (Nat.le_of_ble_eq_true rfl) ?_
    refine V.top (v' := .int (bI false)) (by decide) ?_
    exact V.iret h hA hr (bI_nar _) (hp.1 q27_27) (by decide +kernel) (Nat.zero_le _) (Nat.zero_le _)
set_option maxRecDepth 100000 in
set_option maxHeartbeats 4000000 in
theorem c_crash {l : Launch} {D : va_G} {tc : Nat → ClassId} {ax ay : Nat → Nat → Nat} {A : TS} {S : HS} (hls : l.stackTraces = false) (hS : RA tc (mx ax ay) A S) {e : Nat}  (he5 : e < tf A 5) {post : Option Value → HS → Prop} (hp : ∀ (S8 : HS), RA tc (mx ax ay) (craF A e) S8 → post (some (.int (bI (tb A 30 e)))) S8) : CM l D tc yX10_crash cX10_crash 2 (some .boolean) 3 0 0 [.ref (ax 10 0), .int (nI (e))] S post := by
  refine CM.of hls (by decide +kernel) (by simp [Value.category]) (Nat.le_of_ble_eq_true rfl) (fun A0 p e9 s m args below meth c sz h hr hnm hA => ?_)
  have h5 := hS.2.2.2.1.1
  have h12 := hS.2.2.2.1.2.1
  have h53 := hS.2.2.2.1.2.2.2.2
  have hf3 := hS.2.2.1.2.1
  have hf1 := hS.2.2.1.1
  refine V.eqL (ls' := [some (.ref (ax 10 0)), some (.int (nI (e)))]) rfl ?_
  refine V.blk h [(.iload_n 1, 1), (.aload_n 0, 1)] (by decide +kernel) (pc' := 2) (ls' := [some (.ref (ax 10 0)), some (.int (nI (e)))]) (st' := [.ref (ax 10 0), .int (nI (e))]) rfl rfl (Nat.le_of_ble_eq_true rfl) ?_
  refine V.getP h cls_10 (j := 7) rfl (hS.mem (show lv A 10 0 from rfl)) (hS.knd (show lv A 10 0 from rfl)) (Or.inl wf_RX10_58) (by decide +kernel) (v := some (ax 0 1)) (hS.ptr (show lv A 10 0 from rfl) (by decide) (by decide) rfl) ?_
  refine V.eq (S' := S) (ls' := [some (.ref (ax 10 0)), some (.int (nI (e)))]) (st' := [.ref (ax 0 1), .int (nI (e))]) rfl rfl rfl ?_
  refine V.callV h (np := 0) (st := [.int (nI (e))]) (s_mas hls hS (post := fun v Sq7 => v = some (.int (nI (tf A 5))) ∧ S = Sq7) ⟨rfl, rfl⟩) wc_Jx4a65c_size_8abf5 wn_RJx4a65c (Or.inl wm_RX10_85) wi_Jx4a65c_size_8abf5 we_Jx4a65c_size_8abf5 (by decide +kernel) rfl cls_0 (hS.mem (show lv A 0 1 from (Or.inl (by decide)))) (hS.knd (show lv A 0 1 from (Or.inl (by decide)))) (Nat.le_of_ble_eq_true rfl) (Nat.le_of_ble_eq_true rfl) (Nat.zero_le _) (Nat.zero_le _) (by simp [Value.category]) (by decide +kernel) rfl (fun v Z1 q9 => ?_)
  obtain ⟨rfl, hS9⟩ := q9
  subst hS9
  refine V.eq (S' := S) (ls' := [some (.ref (ax 10 0)), some (.int (nI (e)))]) (st' := [.int (nI (tf A 5)), .int (nI (e))]) rfl rfl rfl ?_
  refine V.callS h (np := 2) (st := []) (c_checkIndex hls (x := nI e) (n := tf A 5) (noIx_nI (by omega) (by omega)) (post := fun v Sq7 => v = none ∧ S = Sq7) ⟨rfl, rfl⟩) wc_X10_checkIndex wn_RX10 (Or.inl wm_RX10_74) wt_X10_checkIndex (by decide +kernel) rfl (Nat.le_of_ble_eq_true rfl) (Nat.le_of_ble_eq_true rfl) (Nat.zero_le _) (Nat.zero_le _) (by simp [Value.category]) (by decide +kernel) rfl (fun v Z2 q9 => ?_)
  obtain ⟨rfl, hS9⟩ := q9
  subst hS9
  refine V.blk h [(.aload_n 0, 1)] (by decide +kernel) (pc' := 12) (ls' := [some (.ref (ax 10 0)), some (.int (nI (e)))]) (st' := [.ref (ax 10 0)]) rfl rfl (Nat.le_of_ble_eq_true rfl) ?_
  refine V.getP h cls_10 (j := 7) rfl (hS.mem (show lv A 10 0 from rfl)) (hS.knd (show lv A 10 0 from rfl)) (Or.inl wf_RX10_58) (by decide +kernel) (v := some (ax 0 1)) (hS.ptr (show lv A 10 0 from rfl) (by decide) (by decide) rfl) ?_
  refine V.eq (S' := S) (ls' := [some (.ref (ax 10 0)), some (.int (nI (e)))]) (st' := [.ref (ax 0 1)]) rfl rfl rfl ?_
  refine V.blk h [(.iload_n 1, 1)] (by decide +kernel) (pc' := 16) (ls' := [some (.ref (ax 10 0)), some (.int (nI (e)))]) (st' := [.int (nI (e)), .ref (ax 0 1)]) rfl rfl (Nat.le_of_ble_eq_true rfl) ?_
  refine V.callV h (np := 1) (st := []) (g_mas hls hS (k := e) (by omega) (post := fun v Sq7 => v = some (.ref (ax 5 e)) ∧ S = Sq7) ⟨rfl, rfl⟩) wc_Jx4a65c_get_915e3 wn_RJx4a65c (Or.inl wm_RX10_150) wi_Jx4a65c_get_915e3 we_Jx4a65c_get_915e3 (by decide +kernel) rfl cls_0 (hS.mem (show lv A 0 1 from (Or.inl (by decide)))) (hS.knd (show lv A 0 1 from (Or.inl (by decide)))) (Nat.le_of_ble_eq_true rfl) (Nat.le_of_ble_eq_true rfl) (Nat.zero_le _) (Nat.zero_le _) (by simp [Value.category]) (by decide +kernel) rfl (fun v Z3 q9 => ?_)
  obtain ⟨rfl, hS9⟩ := q9
  subst hS9
  refine V.eq (S' := S) (ls' := [some (.ref (ax 10 0)), some (.int (nI (e)))]) (st' := [.ref (ax 5 e)]) rfl rfl rfl ?_
  refine V.castS h cls_5 (hS.mem (show lv A 5 e from (show e < tf A 38 by omega))) (hS.knd (show lv A 5 e from (show e < tf A 38 by omega))) wl_RX10_62 (by decide +kernel) ?_
  refine V.callV h (np := 0) (st := []) (c_fall hls hS (e := e) (show e < tf A 38 by omega) (post := fun v S9 => v = some (.int (bI (tb A 30 e))) ∧ RA tc (mx ax ay) (craF A e) S9) (fun S9 h9 => ⟨rfl, h9⟩)) wc_X5_fall wn_RX5 (Or.inr ⟨_, wm_RX10_167⟩) wi_X5_fall we_X5_fall (by decide +kernel) rfl cls_5 (hS.mem (show lv A 5 e from (show e < tf A 38 by omega))) (hS.knd (show lv A 5 e from (show e < tf A 38 by omega))) (Nat.le_of_ble_eq_true rfl) (Nat.le_of_ble_eq_true rfl) (Nat.zero_le _) (Nat.zero_le _) (by simp [Value.category]) (by decide +kernel) rfl (fun v Z4 q9 => ?_)
  obtain ⟨rfl, hq9⟩ := q9
  refine V.gen (P := fun S9 => RA tc (mx ax ay) (craF A e) S9) hq9 (fun S5 hS5 => ?_)
  clear hq9
  refine V.eq (S' := S5) (ls' := [some (.ref (ax 10 0)), some (.int (nI (e)))]) (st' := [.int (bI (tb A 30 e))]) rfl rfl rfl ?_
  exact V.iret h hA hr (bI_nar _) (hp _ hS5) (by decide +kernel) (Nat.zero_le _) (Nat.zero_le _)
set_option maxRecDepth 100000 in
set_option maxHeartbeats 4000000 in
theorem c_letter {l : Launch} {D : va_G} {tc : Nat → ClassId} {ax ay : Nat → Nat → Nat} {A : TS} {S : HS} (hls : l.stackTraces = false) (hS : RA tc (mx ax ay) A S) {k9 : Nat} {t : Nat} {K : Nat}  (hk : k9 < tf A 53) (ht : t < 4) {post : Option Value → HS → Prop} (hp : post (some (.int (nI (letV A k9 t)))) S) : CM l D tc yX10_letter cX10_letter 4 (some .int) 4 0 0 [.ref (ax 10 0), .int (nI (k9)), .int (nI (t))] S post := by
  refine CM.of hls (by decide +kernel) (by simp [Value.category]) (Nat.le_of_ble_eq_true rfl) (fun A0 p e9 s m args below meth c sz h hr hnm hA => ?_)
  have h5 := hS.2.2.2.1.1
  have h12 := hS.2.2.2.1.2.1
  have h53 := hS.2.2.2.1.2.2.2.2
  have hf3 := hS.2.2.1.2.1
  have hf1 := hS.2.2.1.1
  refine V.eqL (ls' := [some (.ref (ax 10 0)), some (.int (nI (k9))), some (.int (nI (t))), none]) rfl ?_
  refine V.blk h [(.iload_n 1, 1), (.aload_n 0, 1)] (by decide +kernel) (pc' := 2) (ls' := [some (.ref (ax 10 0)), some (.int (nI (k9))), some (.int (nI (t))), none]) (st' := [.ref (ax 10 0), .int (nI (k9))]) rfl rfl (Nat.le_of_ble_eq_true rfl) ?_
  refine V.getP h cls_10 (j := 3) rfl (hS.mem (show lv A 10 0 from rfl)) (hS.knd (show lv A 10 0 from rfl)) (Or.inl wf_RX10_26) (by decide +kernel) (v := some (ax 7 0)) (hS.ptr (show lv A 10 0 from rfl) (by decide) (by decide) rfl) ?_
  refine V.eq (S' := S) (ls' := [some (.ref (ax 10 0)), some (.int (nI (k9))), some (.int (nI (t))), none]) (st' := [.ref (ax 7 0), .int (nI (k9))]) rfl rfl rfl ?_
  refine V.callV h (np := 0) (st := [.int (nI (k9))]) (c_r_size hls hS (post := fun v Sq7 => v = some (.int (nI (tf A 53))) ∧ S = Sq7) ⟨rfl, rfl⟩) wc_X7_size wn_RX7 (Or.inr ⟨_, wm_RX10_121⟩) wi_X7_size we_X7_size (by decide +kernel) rfl cls_7 (hS.mem (show lv A 7 0 from rfl)) (hS.knd (show lv A 7 0 from rfl)) (Nat.le_of_ble_eq_true rfl) (Nat.le_of_ble_eq_true rfl) (Nat.zero_le _) (Nat.zero_le _) (by simp [Value.category]) (by decide +kernel) rfl (fun v Z1 q9 => ?_)
  obtain ⟨rfl, hS9⟩ := q9
  subst hS9
  refine V.eq (S' := S) (ls' := [some (.ref (ax 10 0)), some (.int (nI (k9))), some (.int (nI (t))), none]) (st' := [.int (nI (tf A 53)), .int (nI (k9))]) rfl rfl rfl ?_
  refine V.callS h (np := 2) (st := []) (c_checkIndex hls (x := nI k9) (n := tf A 53) (noIx_nI (by omega) (by omega)) (post := fun v Sq7 => v = none ∧ S = Sq7) ⟨rfl, rfl⟩) wc_X10_checkIndex wn_RX10 (Or.inl wm_RX10_74) wt_X10_checkIndex (by decide +kernel) rfl (Nat.le_of_ble_eq_true rfl) (Nat.le_of_ble_eq_true rfl) (Nat.zero_le _) (Nat.zero_le _) (by simp [Value.category]) (by decide +kernel) rfl (fun v Z2 q9 => ?_)
  obtain ⟨rfl, hS9⟩ := q9
  subst hS9
  refine V.blk h [(.iload_n 2, 1), (.iconst 3, 1)] (by decide +kernel) (pc' := 13) (ls' := [some (.ref (ax 10 0)), some (.int (nI (k9))), some (.int (nI (t))), none]) (st' := [.int (nI (3)), .int (nI (t))]) rfl rfl (Nat.le_of_ble_eq_true rfl) ?_
  refine V.callS h (np := 2) (st := []) (c_checkWhat hls (x := nI t) (n := 3) (by decide) (noIx_nI (by omega) (by omega)) (post := fun v Sq7 => v = none ∧ S = Sq7) ⟨rfl, rfl⟩) wc_X10_checkWhat wn_RX10 (Or.inl wm_RX10_78) wt_X10_checkWhat (by decide +kernel) rfl (Nat.le_of_ble_eq_true rfl) (Nat.le_of_ble_eq_true rfl) (Nat.zero_le _) (Nat.zero_le _) (by simp [Value.category]) (by decide +kernel) rfl (fun v Z3 q9 => ?_)
  obtain ⟨rfl, hS9⟩ := q9
  subst hS9
  refine V.blk h [(.aload_n 0, 1)] (by decide +kernel) (pc' := 17) (ls' := [some (.ref (ax 10 0)), some (.int (nI (k9))), some (.int (nI (t))), none]) (st' := [.ref (ax 10 0)]) rfl rfl (Nat.le_of_ble_eq_true rfl) ?_
  refine V.getP h cls_10 (j := 3) rfl (hS.mem (show lv A 10 0 from rfl)) (hS.knd (show lv A 10 0 from rfl)) (Or.inl wf_RX10_26) (by decide +kernel) (v := some (ax 7 0)) (hS.ptr (show lv A 10 0 from rfl) (by decide) (by decide) rfl) ?_
  refine V.eq (S' := S) (ls' := [some (.ref (ax 10 0)), some (.int (nI (k9))), some (.int (nI (t))), none]) (st' := [.ref (ax 7 0)]) rfl rfl rfl ?_
  refine V.blk h [(.iload_n 1, 1)] (by decide +kernel) (pc' := 21) (ls' := [some (.ref (ax 10 0)), some (.int (nI (k9))), some (.int (nI (t))), none]) (st' := [.int (nI (k9)), .ref (ax 7 0)]) rfl rfl (Nat.le_of_ble_eq_true rfl) ?_
  refine V.callV h (np := 1) (st := []) (c_r_at hls hS (k := k9) hk (post := fun v Sq7 => v = some (.ref (ay 4 k9)) ∧ S = Sq7) ⟨rfl, rfl⟩) wc_X7_at wn_RX7 (Or.inr ⟨_, wm_RX10_144⟩) wi_X7_at we_X7_at (by decide +kernel) rfl cls_7 (hS.mem (show lv A 7 0 from rfl)) (hS.knd (show lv A 7 0 from rfl)) (Nat.le_of_ble_eq_true rfl) (Nat.le_of_ble_eq_true rfl) (Nat.zero_le _) (Nat.zero_le _) (by simp [Value.category]) (by decide +kernel) rfl (fun v Z4 q9 => ?_)
  obtain ⟨rfl, hS9⟩ := q9
  subst hS9
  refine V.eq (S' := S) (ls' := [some (.ref (ax 10 0)), some (.int (nI (k9))), some (.int (nI (t))), none]) (st' := [.ref (ay 4 k9)]) rfl rfl rfl ?_
  refine V.blk h [(.astore_n 3, 1), (.aload_n 3, 1)] (by decide +kernel) (pc' := 26) (ls' := [some (.ref (ax 10 0)), some (.int (nI (k9))), some (.int (nI (t))), some (.ref (ay 4 k9))]) (st' := [.ref (ay 4 k9)]) rfl rfl (Nat.le_of_ble_eq_true rfl) ?_
  refine V.ifnonnull h (o := (some (ay 4 k9))) (off := 5) (by decide +kernel) (tgt := 31) (by decide) (fun _ _ => ?_) (fun z => by cases z)
  refine V.blk h [(.iload_n 2, 1)] (by decide +kernel) (pc' := 32) (ls' := [some (.ref (ax 10 0)), some (.int (nI (k9))), some (.int (nI (t))), some (.ref (ay 4 k9))]) (st' := [.int (nI (t))]) rfl rfl (Nat.le_of_ble_eq_true rfl) ?_
  rcases (show t = 0 ∨ t = 1 ∨ t = 2 ∨ t = 3 from by omega) with rfl | rfl | rfl | rfl
  · skip
    refine V.tableN h (dflt := 43) (hi := 2) (offs := #[28, 33, 38]) (len := 28) (x := 0) (off := 28) (tgt := 60) (by decide) (by decide +kernel) (by decide) rfl (by decide) ?_
    refine V.blk h [(.aload_n 3, 1)] (by decide +kernel) (pc' := 61) (ls' := [some (.ref (ax 10 0)), some (.int (nI (k9))), some (.int (nI (0))), some (.ref (ay 4 k9))]) (st' := [.ref (ay 4 k9)]) rfl rfl (Nat.le_of_ble_eq_true rfl) ?_
    refine V.getI h cls_4 (j := 0) rfl (hS.mem (show lv A 4 k9 from hk)) (hS.knd (show lv A 4 k9 from hk)) (Or.inr ⟨_, wf_RX10_126⟩) (by decide +kernel) (v := nI (tn A 45 k9)) (hS.int (show lv A 4 k9 from hk) (by decide) (by decide) rfl) ?_
    exact V.iret h hA hr rfl hp (by decide +kernel) (Nat.zero_le _) (Nat.zero_le _)
  · skip
    refine V.tableN h (dflt := 43) (hi := 2) (offs := #[28, 33, 38]) (len := 28) (x := 1) (off := 33) (tgt := 65) (by decide) (by decide +kernel) (by decide) rfl (by decide) ?_
    refine V.blk h [(.aload_n 3, 1)] (by decide +kernel) (pc' := 66) (ls' := [some (.ref (ax 10 0)), some (.int (nI (k9))), some (.int (nI (1))), some (.ref (ay 4 k9))]) (st' := [.ref (ay 4 k9)]) rfl rfl (Nat.le_of_ble_eq_true rfl) ?_
    refine V.getI h cls_4 (j := 1) rfl (hS.mem (show lv A 4 k9 from hk)) (hS.knd (show lv A 4 k9 from hk)) (Or.inr ⟨_, wf_RX10_199⟩) (by decide +kernel) (v := nI (tn A 46 k9)) (hS.int (show lv A 4 k9 from hk) (by decide) (by decide) rfl) ?_
    exact V.iret h hA hr rfl hp (by decide +kernel) (Nat.zero_le _) (Nat.zero_le _)
  · skip
    refine V.tableN h (dflt := 43) (hi := 2) (offs := #[28, 33, 38]) (len := 28) (x := 2) (off := 38) (tgt := 70) (by decide) (by decide +kernel) (by decide) rfl (by decide) ?_
    refine V.blk h [(.aload_n 3, 1)] (by decide +kernel) (pc' := 71) (ls' := [some (.ref (ax 10 0)), some (.int (nI (k9))), some (.int (nI (2))), some (.ref (ay 4 k9))]) (st' := [.ref (ay 4 k9)]) rfl rfl (Nat.le_of_ble_eq_true rfl) ?_
    refine V.getI h cls_4 (j := 2) rfl (hS.mem (show lv A 4 k9 from hk)) (hS.knd (show lv A 4 k9 from hk)) (Or.inr ⟨_, wf_RX10_200⟩) (by decide +kernel) (v := nI (tn A 47 k9)) (hS.int (show lv A 4 k9 from hk) (by decide) (by decide) rfl) ?_
    exact V.iret h hA hr rfl hp (by decide +kernel) (Nat.zero_le _) (Nat.zero_le _)
  · skip
    refine V.tableOut h (lo := 0) (dflt := 43) (hi := 2) (offs := #[28, 33, 38]) (len := 28) (x := nI 3) (tgt := 75) (by decide +kernel) (Or.inr (by decide)) (by decide) ?_
    refine V.blk h [(.aload_n 3, 1)] (by decide +kernel) (pc' := 76) (ls' := [some (.ref (ax 10 0)), some (.int (nI (k9))), some (.int (nI (3))), some (.ref (ay 4 k9))]) (st' := [.ref (ay 4 k9)]) rfl rfl (Nat.le_of_ble_eq_true rfl) ?_
    refine V.getI h cls_4 (j := 4) rfl (hS.mem (show lv A 4 k9 from hk)) (hS.knd (show lv A 4 k9 from hk)) (Or.inr ⟨_, wf_RX10_203⟩) (by decide +kernel) (v := nI (tn A 49 k9)) (hS.int (show lv A 4 k9 from hk) (by decide) (by decide) rfl) ?_
    exact V.iret h hA hr rfl hp (by decide +kernel) (Nat.zero_le _) (Nat.zero_le _)
def cliC (A : TS) (c : Nat) : Nat → Int32
  | 0 => nI (if tn A 16 c = 0 then 0 else tn A 6 (tn A 16 c - 1))
  | 1 => one9 (!opnF A c)
  | 2 => if tn A 16 c = 0 then nI 0 else tr A 12 (tn A 16 c - 1)
  | 3 => nI (tn A 17 c)
  | 4 => bcF (nI (tn A 18 c))
  | 5 => one9 (tb A 19 c && opnF A c)
  | _ => nI (tn A 21 c)
set_option maxRecDepth 100000 in
set_option maxHeartbeats 4000000 in
theorem c_client {l : Launch} {D : va_G} {tc : Nat → ClassId} {ax ay : Nat → Nat → Nat} {A : TS} {S : HS} (hls : l.stackTraces = false) (hS : RA tc (mx ax ay) A S) {c9 : Nat} {t : Nat} {K : Nat}  (hc : c9 < 4) (ht : t < 7) (hD : ∀ i, tn A 11 i ≠ 1) (hB : NB K A) (hK : K < 1800000000) (h9 : 700 ≤ K) {post : Option Value → HS → Prop} (hp : post (some (.int (cliC A c9 t))) S) : CM l D tc yX10_client cX10_client 4 (some .int) 3 0 0 [.ref (ax 10 0), .int (nI (c9)), .int (nI (t))] S post := by
  refine CM.of hls (by decide +kernel) (by simp [Value.category]) (Nat.le_of_ble_eq_true rfl) (fun A0 p e9 s m args below meth c sz h hr hnm hA => ?_)
  have h5 := hS.2.2.2.1.1
  have h12 := hS.2.2.2.1.2.1
  have h53 := hS.2.2.2.1.2.2.2.2
  have hf3 := hS.2.2.1.2.1
  have hf1 := hS.2.2.1.1
  refine V.eqL (ls' := [some (.ref (ax 10 0)), some (.int (nI (c9))), some (.int (nI (t))), none]) rfl ?_
  refine V.blk h [(.iload_n 1, 1), (.aload_n 0, 1)] (by decide +kernel) (pc' := 2) (ls' := [some (.ref (ax 10 0)), some (.int (nI (c9))), some (.int (nI (t))), none]) (st' := [.ref (ax 10 0), .int (nI (c9))]) rfl rfl (Nat.le_of_ble_eq_true rfl) ?_
  refine V.getP h cls_10 (j := 4) rfl (hS.mem (show lv A 10 0 from rfl)) (hS.knd (show lv A 10 0 from rfl)) (Or.inl wf_RX10_32) (by decide +kernel) (v := some (ax 24 0)) (hS.ptr (show lv A 10 0 from rfl) (by decide) (by decide) rfl) ?_
  refine V.eq (S' := S) (ls' := [some (.ref (ax 10 0)), some (.int (nI (c9))), some (.int (nI (t))), none]) (st' := [.ref (ax 24 0), .int (nI (c9))]) rfl rfl rfl ?_
  refine V.alen h 24 (hS.mem (show lv A 24 0 from rfl)) (hS.knd (show lv A 24 0 from rfl)) (by decide) (M := 4) (hS.len (show lv A 24 0 from rfl) (by decide)) (by decide +kernel) ?_
  refine V.callS h (np := 2) (st := []) (c_checkIndex hls (x := nI c9) (n := 4) (noIx_nI (by omega) (by omega)) (post := fun v Sq7 => v = none ∧ S = Sq7) ⟨rfl, rfl⟩) wc_X10_checkIndex wn_RX10 (Or.inl wm_RX10_74) wt_X10_checkIndex (by decide +kernel) rfl (Nat.le_of_ble_eq_true rfl) (Nat.le_of_ble_eq_true rfl) (Nat.zero_le _) (Nat.zero_le _) (by simp [Value.category]) (by decide +kernel) rfl (fun v Z1 q9 => ?_)
  obtain ⟨rfl, hS9⟩ := q9
  subst hS9
  refine V.blk h [(.iload_n 2, 1), (.bipush 6, 2)] (by decide +kernel) (pc' := 12) (ls' := [some (.ref (ax 10 0)), some (.int (nI (c9))), some (.int (nI (t))), none]) (st' := [.int (nI (6)), .int (nI (t))]) rfl rfl (Nat.le_of_ble_eq_true rfl) ?_
  refine V.callS h (np := 2) (st := []) (c_checkWhat hls (x := nI t) (n := 6) (by decide) (noIx_nI (by omega) (by omega)) (post := fun v Sq7 => v = none ∧ S = Sq7) ⟨rfl, rfl⟩) wc_X10_checkWhat wn_RX10 (Or.inl wm_RX10_78) wt_X10_checkWhat (by decide +kernel) rfl (Nat.le_of_ble_eq_true rfl) (Nat.le_of_ble_eq_true rfl) (Nat.zero_le _) (Nat.zero_le _) (by simp [Value.category]) (by decide +kernel) rfl (fun v Z2 q9 => ?_)
  obtain ⟨rfl, hS9⟩ := q9
  subst hS9
  refine V.blk h [(.aload_n 0, 1)] (by decide +kernel) (pc' := 16) (ls' := [some (.ref (ax 10 0)), some (.int (nI (c9))), some (.int (nI (t))), none]) (st' := [.ref (ax 10 0)]) rfl rfl (Nat.le_of_ble_eq_true rfl) ?_
  refine V.getP h cls_10 (j := 4) rfl (hS.mem (show lv A 10 0 from rfl)) (hS.knd (show lv A 10 0 from rfl)) (Or.inl wf_RX10_32) (by decide +kernel) (v := some (ax 24 0)) (hS.ptr (show lv A 10 0 from rfl) (by decide) (by decide) rfl) ?_
  refine V.eq (S' := S) (ls' := [some (.ref (ax 10 0)), some (.int (nI (c9))), some (.int (nI (t))), none]) (st' := [.ref (ax 24 0)]) rfl rfl rfl ?_
  refine V.blk h [(.iload_n 1, 1)] (by decide +kernel) (pc' := 20) (ls' := [some (.ref (ax 10 0)), some (.int (nI (c9))), some (.int (nI (t))), none]) (st' := [.int (nI (c9)), .ref (ax 24 0)]) rfl rfl (Nat.le_of_ble_eq_true rfl) ?_
  refine V.aald h 24 (hS.mem (show lv A 24 0 from rfl)) (hS.knd (show lv A 24 0 from rfl)) (by decide) rfl (M := 4) (hS.len (show lv A 24 0 from rfl) (by decide)) (i := c9) (by omega) (by show _ < 2 ^ 31; first | omega | decide) (by decide +kernel) (v := some (ax 2 c9)) (hS.ref (show lv A 24 0 from rfl) (by decide) (by show _ < 4; omega)) ?_
  refine V.eq (S' := S) (ls' := [some (.ref (ax 10 0)), some (.int (nI (c9))), some (.int (nI (t))), none]) (st' := [.ref (ax 2 c9)]) rfl rfl rfl ?_
  refine V.blk h [(.astore_n 3, 1), (.iload_n 2, 1)] (by decide +kernel) (pc' := 23) (ls' := [some (.ref (ax 10 0)), some (.int (nI (c9))), some (.int (nI (t))), some (.ref (ax 2 c9))]) (st' := [.int (nI (t))]) rfl rfl (Nat.le_of_ble_eq_true rfl) ?_
  rcases (show t = 0 ∨ t = 1 ∨ t = 2 ∨ t = 3 ∨ t = 4 ∨ t = 5 ∨ t = 6 from by omega) with rfl | rfl | rfl | rfl | rfl | rfl | rfl
  · skip
    refine V.tableN h (dflt := 99) (hi := 5) (offs := #[37, 42, 58, 63, 68, 76]) (len := 37) (x := 0) (off := 37) (tgt := 60) (by decide) (by decide +kernel) (by decide) rfl (by decide) ?_
    refine V.blk h [(.aload_n 3, 1)] (by decide +kernel) (pc' := 61) (ls' := [some (.ref (ax 10 0)), some (.int (nI (c9))), some (.int (nI (0))), some (.ref (ax 2 c9))]) (st' := [.ref (ax 2 c9)]) rfl rfl (Nat.le_of_ble_eq_true rfl) ?_
    refine V.callV h (np := 0) (st := []) (c_latestNumber hls hS (c9 := c9) hc hB (by omega) (post := fun v Sq7 => v = some (.int (nI (if tn A 16 c9 = 0 then 0 else tn A 6 (tn A 16 c9 - 1)))) ∧ S = Sq7) ⟨rfl, rfl⟩) wc_X2_latestNumber wn_RX2 (Or.inr ⟨_, wm_RX10_91⟩) wi_X2_latestNumber we_X2_latestNumber (by decide +kernel) rfl cls_2 (hS.mem (show lv A 2 c9 from hc)) (hS.knd (show lv A 2 c9 from hc)) (Nat.le_of_ble_eq_true rfl) (Nat.le_of_ble_eq_true rfl) (Nat.zero_le _) (Nat.zero_le _) (by simp [Value.category]) (by decide +kernel) rfl (fun v Z3 q9 => ?_)
    obtain ⟨rfl, hS9⟩ := q9
    subst hS9
    refine V.eq (S' := S) (ls' := [some (.ref (ax 10 0)), some (.int (nI (c9))), some (.int (nI (0))), some (.ref (ax 2 c9))]) (st' := [.int (nI (if tn A 16 c9 = 0 then 0 else tn A 6 (tn A 16 c9 - 1)))]) rfl rfl rfl ?_
    exact V.iret h hA hr rfl hp (by decide +kernel) (Nat.zero_le _) (Nat.zero_le _)
  · skip
    refine V.tableN h (dflt := 99) (hi := 5) (offs := #[37, 42, 58, 63, 68, 76]) (len := 37) (x := 1) (off := 42) (tgt := 65) (by decide) (by decide +kernel) (by decide) rfl (by decide) ?_
    refine V.blk h [(.aload_n 3, 1)] (by decide +kernel) (pc' := 66) (ls' := [some (.ref (ax 10 0)), some (.int (nI (c9))), some (.int (nI (1))), some (.ref (ax 2 c9))]) (st' := [.ref (ax 2 c9)]) rfl rfl (Nat.le_of_ble_eq_true rfl) ?_
    refine V.callV h (np := 0) (st := []) (c_isBusy hls hS (c9 := c9) hc hB (by omega) hD (post := fun v Sq7 => v = some (.int (bI (opnF A c9))) ∧ S = Sq7) ⟨rfl, rfl⟩) wc_X2_isBusy wn_RX2 (Or.inr ⟨_, wm_RX10_81⟩) wi_X2_isBusy we_X2_isBusy (by decide +kernel) rfl cls_2 (hS.mem (show lv A 2 c9 from hc)) (hS.knd (show lv A 2 c9 from hc)) (Nat.le_of_ble_eq_true rfl) (Nat.le_of_ble_eq_true rfl) (Nat.zero_le _) (Nat.zero_le _) (by simp [Value.category]) (by decide +kernel) rfl (fun v Z4 q9 => ?_)
    obtain ⟨rfl, hS9⟩ := q9
    subst hS9
    refine V.eq (S' := S) (ls' := [some (.ref (ax 10 0)), some (.int (nI (c9))), some (.int (nI (1))), some (.ref (ax 2 c9))]) (st' := [.int (bI (opnF A c9))]) rfl rfl rfl ?_
    refine V.if_ne h (off := 7) (by decide +kernel) (tgt := 76) (by decide) (fun q => ?_) (fun q => ?_)
    · have q69_40 := (bI_1 (fun z => q (bI_0.mpr z)))
      clear q
      refine V.blk h [(.iconst 0, 1)] (by decide +kernel) (pc' := 77) (ls' := [some (.ref (ax 10 0)), some (.int (nI (c9))), some (.int (nI (1))), some (.ref (ax 2 c9))]) (st' := [.int (nI (0))]) rfl rfl (Nat.le_of_ble_eq_true rfl) ?_
      refine V.top (v' := .int (bI false)) (by decide) ?_
      refine V.callS h (np := 1) (st := []) (c_asBit hls hS (b9 := false) (post := fun v Sq7 => v = some (.int (one9 false)) ∧ S = Sq7) ⟨rfl, rfl⟩) wc_X10_asBit wn_RX10 (Or.inl wm_RX10_204) wt_X10_asBit (by decide +kernel) rfl (Nat.le_of_ble_eq_true rfl) (Nat.le_of_ble_eq_true rfl) (Nat.zero_le _) (Nat.zero_le _) (by simp [Value.category]) (by decide +kernel) rfl (fun v Z5 q9 => ?_)
      obtain ⟨rfl, hS9⟩ := q9
      subst hS9
      refine V.eq (S' := S) (ls' := [some (.ref (ax 10 0)), some (.int (nI (c9))), some (.int (nI (1))), some (.ref (ax 2 c9))]) (st' := [.int (one9 false)]) rfl rfl rfl ?_
      exact V.iret h hA hr rfl (by rw [show cliC A c9 1 = one9 false from by show one9 _ = _; simp [q69_40]] at hp; exact hp) (by decide +kernel) (Nat.zero_le _) (Nat.zero_le _)
    · have q69_40 := (bI_0.mp q)
      clear q
      refine V.blk h [(.iconst 1, 1)] (by decide +kernel) (pc' := 73) (ls' := [some (.ref (ax 10 0)), some (.int (nI (c9))), some (.int (nI (1))), some (.ref (ax 2 c9))]) (st' := [.int (nI (1))]) rfl rfl (Nat.le_of_ble_eq_true rfl) ?_
      refine V.goto h (off := 4) (tgt := 77) (by decide +kernel) (by decide) ?_
      refine V.top (v' := .int (bI true)) (by decide) ?_
      refine V.callS h (np := 1) (st := []) (c_asBit hls hS (b9 := true) (post := fun v Sq7 => v = some (.int (one9 true)) ∧ S = Sq7) ⟨rfl, rfl⟩) wc_X10_asBit wn_RX10 (Or.inl wm_RX10_204) wt_X10_asBit (by decide +kernel) rfl (Nat.le_of_ble_eq_true rfl) (Nat.le_of_ble_eq_true rfl) (Nat.zero_le _) (Nat.zero_le _) (by simp [Value.category]) (by decide +kernel) rfl (fun v Z6 q9 => ?_)
      obtain ⟨rfl, hS9⟩ := q9
      subst hS9
      refine V.eq (S' := S) (ls' := [some (.ref (ax 10 0)), some (.int (nI (c9))), some (.int (nI (1))), some (.ref (ax 2 c9))]) (st' := [.int (one9 true)]) rfl rfl rfl ?_
      exact V.iret h hA hr rfl (by rw [show cliC A c9 1 = one9 true from by show one9 _ = _; simp [q69_40]] at hp; exact hp) (by decide +kernel) (Nat.zero_le _) (Nat.zero_le _)
  · skip
    refine V.tableN h (dflt := 99) (hi := 5) (offs := #[37, 42, 58, 63, 68, 76]) (len := 37) (x := 2) (off := 58) (tgt := 81) (by decide) (by decide +kernel) (by decide) rfl (by decide) ?_
    refine V.blk h [(.aload_n 3, 1)] (by decide +kernel) (pc' := 82) (ls' := [some (.ref (ax 10 0)), some (.int (nI (c9))), some (.int (nI (2))), some (.ref (ax 2 c9))]) (st' := [.ref (ax 2 c9)]) rfl rfl (Nat.le_of_ble_eq_true rfl) ?_
    refine V.callV h (np := 0) (st := []) (c_told hls hS (c9 := c9) hc hB (by omega) (post := fun v Sq7 => v = some (.int (if tn A 16 c9 = 0 then nI 0 else tr A 12 (tn A 16 c9 - 1))) ∧ S = Sq7) ⟨rfl, rfl⟩) wc_X2_told wn_RX2 (Or.inr ⟨_, wm_RX10_208⟩) wi_X2_told we_X2_told (by decide +kernel) rfl cls_2 (hS.mem (show lv A 2 c9 from hc)) (hS.knd (show lv A 2 c9 from hc)) (Nat.le_of_ble_eq_true rfl) (Nat.le_of_ble_eq_true rfl) (Nat.zero_le _) (Nat.zero_le _) (by simp [Value.category]) (by decide +kernel) rfl (fun v Z7 q9 => ?_)
    obtain ⟨rfl, hS9⟩ := q9
    subst hS9
    refine V.eq (S' := S) (ls' := [some (.ref (ax 10 0)), some (.int (nI (c9))), some (.int (nI (2))), some (.ref (ax 2 c9))]) (st' := [.int (if tn A 16 c9 = 0 then nI 0 else tr A 12 (tn A 16 c9 - 1))]) rfl rfl rfl ?_
    exact V.iret h hA hr rfl hp (by decide +kernel) (Nat.zero_le _) (Nat.zero_le _)
  · skip
    refine V.tableN h (dflt := 99) (hi := 5) (offs := #[37, 42, 58, 63, 68, 76]) (len := 37) (x := 3) (off := 63) (tgt := 86) (by decide) (by decide +kernel) (by decide) rfl (by decide) ?_
    refine V.blk h [(.aload_n 3, 1)] (by decide +kernel) (pc' := 87) (ls' := [some (.ref (ax 10 0)), some (.int (nI (c9))), some (.int (nI (3))), some (.ref (ax 2 c9))]) (st' := [.ref (ax 2 c9)]) rfl rfl (Nat.le_of_ble_eq_true rfl) ?_
    refine V.getI h cls_2 (j := 0) rfl (hS.mem (show lv A 2 c9 from hc)) (hS.knd (show lv A 2 c9 from hc)) (Or.inr ⟨_, wf_RX10_118⟩) (by decide +kernel) (v := nI (tn A 17 c9)) (hS.int (show lv A 2 c9 from hc) (by decide) (by decide) rfl) ?_
    have nb72 := hB.2 17 c9
    exact V.iret h hA hr rfl hp (by decide +kernel) (Nat.zero_le _) (Nat.zero_le _)
  · skip
    refine V.tableN h (dflt := 99) (hi := 5) (offs := #[37, 42, 58, 63, 68, 76]) (len := 37) (x := 4) (off := 68) (tgt := 91) (by decide) (by decide +kernel) (by decide) rfl (by decide) ?_
    refine V.blk h [(.aload_n 3, 1)] (by decide +kernel) (pc' := 92) (ls' := [some (.ref (ax 10 0)), some (.int (nI (c9))), some (.int (nI (4))), some (.ref (ax 2 c9))]) (st' := [.ref (ax 2 c9)]) rfl rfl (Nat.le_of_ble_eq_true rfl) ?_
    refine V.getI h cls_2 (j := 2) rfl (hS.mem (show lv A 2 c9 from hc)) (hS.knd (show lv A 2 c9 from hc)) (Or.inr ⟨_, wf_RX10_211⟩) (by decide +kernel) (v := nI (tn A 18 c9)) (hS.int (show lv A 2 c9 from hc) (by decide) (by decide) rfl) ?_
    have nb78 := hB.2 18 c9
    refine V.callS h (np := 1) (st := []) (m_bitCount hls (x := nI (tn A 18 c9)) (post := fun v Sq7 => v = some (.int (bcF (nI (tn A 18 c9)))) ∧ S = Sq7) ⟨rfl, rfl⟩) wc_J6_bitCount_0f7a4 wn_RJ6 (Or.inl wm_RX10_214) wt_J6_bitCount_0f7a4 (by decide +kernel) rfl (Nat.le_of_ble_eq_true rfl) (Nat.le_of_ble_eq_true rfl) (Nat.zero_le _) (Nat.zero_le _) (by simp [Value.category]) (by decide +kernel) rfl (fun v Z8 q9 => ?_)
    obtain ⟨rfl, hS9⟩ := q9
    subst hS9
    refine V.eq (S' := S) (ls' := [some (.ref (ax 10 0)), some (.int (nI (c9))), some (.int (nI (4))), some (.ref (ax 2 c9))]) (st' := [.int (bcF (nI (tn A 18 c9)))]) rfl rfl rfl ?_
    exact V.iret h hA hr rfl hp (by decide +kernel) (Nat.zero_le _) (Nat.zero_le _)
  · skip
    refine V.tableN h (dflt := 99) (hi := 5) (offs := #[37, 42, 58, 63, 68, 76]) (len := 37) (x := 5) (off := 76) (tgt := 99) (by decide) (by decide +kernel) (by decide) rfl (by decide) ?_
    refine V.blk h [(.aload_n 3, 1)] (by decide +kernel) (pc' := 100) (ls' := [some (.ref (ax 10 0)), some (.int (nI (c9))), some (.int (nI (5))), some (.ref (ax 2 c9))]) (st' := [.ref (ax 2 c9)]) rfl rfl (Nat.le_of_ble_eq_true rfl) ?_
    refine V.getI h cls_2 (j := 3) rfl (hS.mem (show lv A 2 c9 from hc)) (hS.knd (show lv A 2 c9 from hc)) (Or.inr ⟨_, wf_RX10_220⟩) (by decide +kernel) (v := bI (tb A 19 c9)) (hS.int (show lv A 2 c9 from hc) (by decide) (by decide) rfl) ?_
    refine V.if_eq h (off := 14) (by decide +kernel) (tgt := 117) (by decide) (fun q => ?_) (fun q => ?_)
    · have q103_88 := (bI_0.mp q)
      clear q
      refine V.blk h [(.iconst 0, 1)] (by decide +kernel) (pc' := 118) (ls' := [some (.ref (ax 10 0)), some (.int (nI (c9))), some (.int (nI (5))), some (.ref (ax 2 c9))]) (st' := [.int (nI (0))]) rfl rfl (Nat.le_of_ble_eq_true rfl) ?_
      refine V.top (v' := .int (bI false)) (by decide) ?_
      refine V.callS h (np := 1) (st := []) (c_asBit hls hS (b9 := false) (post := fun v Sq7 => v = some (.int (one9 false)) ∧ S = Sq7) ⟨rfl, rfl⟩) wc_X10_asBit wn_RX10 (Or.inl wm_RX10_204) wt_X10_asBit (by decide +kernel) rfl (Nat.le_of_ble_eq_true rfl) (Nat.le_of_ble_eq_true rfl) (Nat.zero_le _) (Nat.zero_le _) (by simp [Value.category]) (by decide +kernel) rfl (fun v Z9 q9 => ?_)
      obtain ⟨rfl, hS9⟩ := q9
      subst hS9
      refine V.eq (S' := S) (ls' := [some (.ref (ax 10 0)), some (.int (nI (c9))), some (.int (nI (5))), some (.ref (ax 2 c9))]) (st' := [.int (one9 false)]) rfl rfl rfl ?_
      exact V.iret h hA hr rfl (by rw [show cliC A c9 5 = one9 false from by show one9 _ = _; simp [q103_88]] at hp; exact hp) (by decide +kernel) (Nat.zero_le _) (Nat.zero_le _)
    · have q103_88 := (bI_1 (fun z => q (bI_0.mpr z)))
      clear q
      refine V.blk h [(.aload_n 3, 1)] (by decide +kernel) (pc' := 107) (ls' := [some (.ref (ax 10 0)), some (.int (nI (c9))), some (.int (nI (5))), some (.ref (ax 2 c9))]) (st' := [.ref (ax 2 c9)]) rfl rfl (Nat.le_of_ble_eq_true rfl) ?_
      refine V.callV h (np := 0) (st := []) (c_isBusy hls hS (c9 := c9) hc hB (by omega) hD (post := fun v Sq7 => v = some (.int (bI (opnF A c9))) ∧ S = Sq7) ⟨rfl, rfl⟩) wc_X2_isBusy wn_RX2 (Or.inr ⟨_, wm_RX10_81⟩) wi_X2_isBusy we_X2_isBusy (by decide +kernel) rfl cls_2 (hS.mem (show lv A 2 c9 from hc)) (hS.knd (show lv A 2 c9 from hc)) (Nat.le_of_ble_eq_true rfl) (Nat.le_of_ble_eq_true rfl) (Nat.zero_le _) (Nat.zero_le _) (by simp [Value.category]) (by decide +kernel) rfl (fun v Z10 q9 => ?_)
      obtain ⟨rfl, hS9⟩ := q9
      subst hS9
      refine V.eq (S' := S) (ls' := [some (.ref (ax 10 0)), some (.int (nI (c9))), some (.int (nI (5))), some (.ref (ax 2 c9))]) (st' := [.int (bI (opnF A c9))]) rfl rfl rfl ?_
      refine V.if_eq h (off := 7) (by decide +kernel) (tgt := 117) (by decide) (fun q => ?_) (fun q => ?_)
      · have q110_105 := (bI_0.mp q)
        clear q
        refine V.blk h [(.iconst 0, 1)] (by decide +kernel) (pc' := 118) (ls' := [some (.ref (ax 10 0)), some (.int (nI (c9))), some (.int (nI (5))), some (.ref (ax 2 c9))]) (st' := [.int (nI (0))]) rfl rfl (Nat.le_of_ble_eq_true rfl) ?_
        refine V.top (v' := .int (bI false)) (by decide) ?_
        refine V.callS h (np := 1) (st := []) (c_asBit hls hS (b9 := false) (post := fun v Sq7 => v = some (.int (one9 false)) ∧ S = Sq7) ⟨rfl, rfl⟩) wc_X10_asBit wn_RX10 (Or.inl wm_RX10_204) wt_X10_asBit (by decide +kernel) rfl (Nat.le_of_ble_eq_true rfl) (Nat.le_of_ble_eq_true rfl) (Nat.zero_le _) (Nat.zero_le _) (by simp [Value.category]) (by decide +kernel) rfl (fun v Z11 q9 => ?_)
        obtain ⟨rfl, hS9⟩ := q9
        subst hS9
        refine V.eq (S' := S) (ls' := [some (.ref (ax 10 0)), some (.int (nI (c9))), some (.int (nI (5))), some (.ref (ax 2 c9))]) (st' := [.int (one9 false)]) rfl rfl rfl ?_
        exact V.iret h hA hr rfl (by rw [show cliC A c9 5 = one9 false from by show one9 _ = _; simp [q103_88, q110_105]] at hp; exact hp) (by decide +kernel) (Nat.zero_le _) (Nat.zero_le _)
      · have q110_105 := (bI_1 (fun z => q (bI_0.mpr z)))
        clear q
        refine V.blk h [(.iconst 1, 1)] (by decide +kernel) (pc' := 114) (ls' := [some (.ref (ax 10 0)), some (.int (nI (c9))), some (.int (nI (5))), some (.ref (ax 2 c9))]) (st' := [.int (nI (1))]) rfl rfl (Nat.le_of_ble_eq_true rfl) ?_
        refine V.goto h (off := 4) (tgt := 118) (by decide +kernel) (by decide) ?_
        refine V.top (v' := .int (bI true)) (by decide) ?_
        refine V.callS h (np := 1) (st := []) (c_asBit hls hS (b9 := true) (post := fun v Sq7 => v = some (.int (one9 true)) ∧ S = Sq7) ⟨rfl, rfl⟩) wc_X10_asBit wn_RX10 (Or.inl wm_RX10_204) wt_X10_asBit (by decide +kernel) rfl (Nat.le_of_ble_eq_true rfl) (Nat.le_of_ble_eq_true rfl) (Nat.zero_le _) (Nat.zero_le _) (by simp [Value.category]) (by decide +kernel) rfl (fun v Z12 q9 => ?_)
        obtain ⟨rfl, hS9⟩ := q9
        subst hS9
        refine V.eq (S' := S) (ls' := [some (.ref (ax 10 0)), some (.int (nI (c9))), some (.int (nI (5))), some (.ref (ax 2 c9))]) (st' := [.int (one9 true)]) rfl rfl rfl ?_
        exact V.iret h hA hr rfl (by rw [show cliC A c9 5 = one9 true from by show one9 _ = _; simp [q103_88, q110_105]] at hp; exact hp) (by decide +kernel) (Nat.zero_le _) (Nat.zero_le _)
  · skip
    refine V.tableOut h (lo := 0) (dflt := 99) (hi := 5) (offs := #[37, 42, 58, 63, 68, 76]) (len := 37) (x := nI 6) (tgt := 122) (by decide +kernel) (Or.inr (by decide)) (by decide) ?_
    refine V.blk h [(.aload_n 3, 1)] (by decide +kernel) (pc' := 123) (ls' := [some (.ref (ax 10 0)), some (.int (nI (c9))), some (.int (nI (6))), some (.ref (ax 2 c9))]) (st' := [.ref (ax 2 c9)]) rfl rfl (Nat.le_of_ble_eq_true rfl) ?_
    refine V.getI h cls_2 (j := 5) rfl (hS.mem (show lv A 2 c9 from hc)) (hS.knd (show lv A 2 c9 from hc)) (Or.inr ⟨_, wf_RX10_223⟩) (by decide +kernel) (v := nI (tn A 21 c9)) (hS.int (show lv A 2 c9 from hc) (by decide) (by decide) rfl) ?_
    have nb129 := hB.2 21 c9
    exact V.iret h hA hr rfl hp (by decide +kernel) (Nat.zero_le _) (Nat.zero_le _)
set_option maxRecDepth 100000 in
set_option maxHeartbeats 4000000 in
theorem c_master {l : Launch} {D : va_G} {tc : Nat → ClassId} {ax ay : Nat → Nat → Nat} {A : TS} {S : HS} (hls : l.stackTraces = false) (hS : RA tc (mx ax ay) A S) {e : Nat} {t : Nat}  (he5 : e < tf A 5) (ht : t < 5) {post : Option Value → HS → Prop} (hp : post (some (.int (masV A e t))) S) : CM l D tc yX10_master cX10_master 4 (some .int) 3 0 0 [.ref (ax 10 0), .int (nI (e)), .int (nI (t))] S post := by
  refine CM.of hls (by decide +kernel) (by simp [Value.category]) (Nat.le_of_ble_eq_true rfl) (fun A0 p e9 s m args below meth c sz h hr hnm hA => ?_)
  have h5 := hS.2.2.2.1.1
  have h12 := hS.2.2.2.1.2.1
  have h53 := hS.2.2.2.1.2.2.2.2
  have hf3 := hS.2.2.1.2.1
  have hf1 := hS.2.2.1.1
  refine V.eqL (ls' := [some (.ref (ax 10 0)), some (.int (nI (e))), some (.int (nI (t))), none]) rfl ?_
  refine V.blk h [(.iload_n 1, 1), (.aload_n 0, 1)] (by decide +kernel) (pc' := 2) (ls' := [some (.ref (ax 10 0)), some (.int (nI (e))), some (.int (nI (t))), none]) (st' := [.ref (ax 10 0), .int (nI (e))]) rfl rfl (Nat.le_of_ble_eq_true rfl) ?_
  refine V.getP h cls_10 (j := 7) rfl (hS.mem (show lv A 10 0 from rfl)) (hS.knd (show lv A 10 0 from rfl)) (Or.inl wf_RX10_58) (by decide +kernel) (v := some (ax 0 1)) (hS.ptr (show lv A 10 0 from rfl) (by decide) (by decide) rfl) ?_
  refine V.eq (S' := S) (ls' := [some (.ref (ax 10 0)), some (.int (nI (e))), some (.int (nI (t))), none]) (st' := [.ref (ax 0 1), .int (nI (e))]) rfl rfl rfl ?_
  refine V.callV h (np := 0) (st := [.int (nI (e))]) (s_mas hls hS (post := fun v Sq7 => v = some (.int (nI (tf A 5))) ∧ S = Sq7) ⟨rfl, rfl⟩) wc_Jx4a65c_size_8abf5 wn_RJx4a65c (Or.inl wm_RX10_85) wi_Jx4a65c_size_8abf5 we_Jx4a65c_size_8abf5 (by decide +kernel) rfl cls_0 (hS.mem (show lv A 0 1 from (Or.inl (by decide)))) (hS.knd (show lv A 0 1 from (Or.inl (by decide)))) (Nat.le_of_ble_eq_true rfl) (Nat.le_of_ble_eq_true rfl) (Nat.zero_le _) (Nat.zero_le _) (by simp [Value.category]) (by decide +kernel) rfl (fun v Z1 q9 => ?_)
  obtain ⟨rfl, hS9⟩ := q9
  subst hS9
  refine V.eq (S' := S) (ls' := [some (.ref (ax 10 0)), some (.int (nI (e))), some (.int (nI (t))), none]) (st' := [.int (nI (tf A 5)), .int (nI (e))]) rfl rfl rfl ?_
  refine V.callS h (np := 2) (st := []) (c_checkIndex hls (x := nI e) (n := tf A 5) (noIx_nI (by omega) (by omega)) (post := fun v Sq7 => v = none ∧ S = Sq7) ⟨rfl, rfl⟩) wc_X10_checkIndex wn_RX10 (Or.inl wm_RX10_74) wt_X10_checkIndex (by decide +kernel) rfl (Nat.le_of_ble_eq_true rfl) (Nat.le_of_ble_eq_true rfl) (Nat.zero_le _) (Nat.zero_le _) (by simp [Value.category]) (by decide +kernel) rfl (fun v Z2 q9 => ?_)
  obtain ⟨rfl, hS9⟩ := q9
  subst hS9
  refine V.blk h [(.iload_n 2, 1), (.iconst 4, 1)] (by decide +kernel) (pc' := 13) (ls' := [some (.ref (ax 10 0)), some (.int (nI (e))), some (.int (nI (t))), none]) (st' := [.int (nI (4)), .int (nI (t))]) rfl rfl (Nat.le_of_ble_eq_true rfl) ?_
  refine V.callS h (np := 2) (st := []) (c_checkWhat hls (x := nI t) (n := 4) (by decide) (noIx_nI (by omega) (by omega)) (post := fun v Sq7 => v = none ∧ S = Sq7) ⟨rfl, rfl⟩) wc_X10_checkWhat wn_RX10 (Or.inl wm_RX10_78) wt_X10_checkWhat (by decide +kernel) rfl (Nat.le_of_ble_eq_true rfl) (Nat.le_of_ble_eq_true rfl) (Nat.zero_le _) (Nat.zero_le _) (by simp [Value.category]) (by decide +kernel) rfl (fun v Z3 q9 => ?_)
  obtain ⟨rfl, hS9⟩ := q9
  subst hS9
  refine V.blk h [(.aload_n 0, 1)] (by decide +kernel) (pc' := 17) (ls' := [some (.ref (ax 10 0)), some (.int (nI (e))), some (.int (nI (t))), none]) (st' := [.ref (ax 10 0)]) rfl rfl (Nat.le_of_ble_eq_true rfl) ?_
  refine V.getP h cls_10 (j := 7) rfl (hS.mem (show lv A 10 0 from rfl)) (hS.knd (show lv A 10 0 from rfl)) (Or.inl wf_RX10_58) (by decide +kernel) (v := some (ax 0 1)) (hS.ptr (show lv A 10 0 from rfl) (by decide) (by decide) rfl) ?_
  refine V.eq (S' := S) (ls' := [some (.ref (ax 10 0)), some (.int (nI (e))), some (.int (nI (t))), none]) (st' := [.ref (ax 0 1)]) rfl rfl rfl ?_
  refine V.blk h [(.iload_n 1, 1)] (by decide +kernel) (pc' := 21) (ls' := [some (.ref (ax 10 0)), some (.int (nI (e))), some (.int (nI (t))), none]) (st' := [.int (nI (e)), .ref (ax 0 1)]) rfl rfl (Nat.le_of_ble_eq_true rfl) ?_
  refine V.callV h (np := 1) (st := []) (g_mas hls hS (k := e) (by omega) (post := fun v Sq7 => v = some (.ref (ax 5 e)) ∧ S = Sq7) ⟨rfl, rfl⟩) wc_Jx4a65c_get_915e3 wn_RJx4a65c (Or.inl wm_RX10_150) wi_Jx4a65c_get_915e3 we_Jx4a65c_get_915e3 (by decide +kernel) rfl cls_0 (hS.mem (show lv A 0 1 from (Or.inl (by decide)))) (hS.knd (show lv A 0 1 from (Or.inl (by decide)))) (Nat.le_of_ble_eq_true rfl) (Nat.le_of_ble_eq_true rfl) (Nat.zero_le _) (Nat.zero_le _) (by simp [Value.category]) (by decide +kernel) rfl (fun v Z4 q9 => ?_)
  obtain ⟨rfl, hS9⟩ := q9
  subst hS9
  refine V.eq (S' := S) (ls' := [some (.ref (ax 10 0)), some (.int (nI (e))), some (.int (nI (t))), none]) (st' := [.ref (ax 5 e)]) rfl rfl rfl ?_
  refine V.castS h cls_5 (hS.mem (show lv A 5 e from (show e < tf A 38 by omega))) (hS.knd (show lv A 5 e from (show e < tf A 38 by omega))) wl_RX10_62 (by decide +kernel) ?_
  refine V.blk h [(.astore_n 3, 1), (.iload_n 2, 1)] (by decide +kernel) (pc' := 29) (ls' := [some (.ref (ax 10 0)), some (.int (nI (e))), some (.int (nI (t))), some (.ref (ax 5 e))]) (st' := [.int (nI (t))]) rfl rfl (Nat.le_of_ble_eq_true rfl) ?_
  rcases (show t = 0 ∨ t = 1 ∨ t = 2 ∨ t = 3 ∨ t = 4 from by omega) with rfl | rfl | rfl | rfl | rfl
  · skip
    refine V.tableN h (dflt := 60) (hi := 3) (offs := #[31, 39, 47, 52]) (len := 31) (x := 0) (off := 31) (tgt := 60) (by decide) (by decide +kernel) (by decide) rfl (by decide) ?_
    refine V.blk h [(.aload_n 3, 1)] (by decide +kernel) (pc' := 61) (ls' := [some (.ref (ax 10 0)), some (.int (nI (e))), some (.int (nI (0))), some (.ref (ax 5 e))]) (st' := [.ref (ax 5 e)]) rfl rfl (Nat.le_of_ble_eq_true rfl) ?_
    refine V.getI h cls_5 (j := 7) rfl (hS.mem (show lv A 5 e from (show e < tf A 38 by omega))) (hS.knd (show lv A 5 e from (show e < tf A 38 by omega))) (Or.inr ⟨_, wf_RX10_154⟩) (by decide +kernel) (v := bI (tb A 30 e)) (hS.int (show lv A 5 e from (show e < tf A 38 by omega)) (by decide) (by decide) rfl) ?_
    refine V.callS h (np := 1) (st := []) (c_asBit hls hS (b9 := tb A 30 e) (post := fun v Sq7 => v = some (.int (one9 (tb A 30 e))) ∧ S = Sq7) ⟨rfl, rfl⟩) wc_X10_asBit wn_RX10 (Or.inl wm_RX10_204) wt_X10_asBit (by decide +kernel) rfl (Nat.le_of_ble_eq_true rfl) (Nat.le_of_ble_eq_true rfl) (Nat.zero_le _) (Nat.zero_le _) (by simp [Value.category]) (by decide +kernel) rfl (fun v Z5 q9 => ?_)
    obtain ⟨rfl, hS9⟩ := q9
    subst hS9
    refine V.eq (S' := S) (ls' := [some (.ref (ax 10 0)), some (.int (nI (e))), some (.int (nI (0))), some (.ref (ax 5 e))]) (st' := [.int (one9 (tb A 30 e))]) rfl rfl rfl ?_
    exact V.iret h hA hr rfl hp (by decide +kernel) (Nat.zero_le _) (Nat.zero_le _)
  · skip
    refine V.tableN h (dflt := 60) (hi := 3) (offs := #[31, 39, 47, 52]) (len := 31) (x := 1) (off := 39) (tgt := 68) (by decide) (by decide +kernel) (by decide) rfl (by decide) ?_
    refine V.blk h [(.aload_n 3, 1)] (by decide +kernel) (pc' := 69) (ls' := [some (.ref (ax 10 0)), some (.int (nI (e))), some (.int (nI (1))), some (.ref (ax 5 e))]) (st' := [.ref (ax 5 e)]) rfl rfl (Nat.le_of_ble_eq_true rfl) ?_
    refine V.getP h cls_5 (j := 3) rfl (hS.mem (show lv A 5 e from (show e < tf A 38 by omega))) (hS.knd (show lv A 5 e from (show e < tf A 38 by omega))) (Or.inr ⟨_, wf_RX10_189⟩) (by decide +kernel) (v := some (ax 0 (3 + e))) (hS.ptr (show lv A 5 e from (show e < tf A 38 by omega)) (by decide) (by decide) rfl) ?_
    refine V.eq (S' := S) (ls' := [some (.ref (ax 10 0)), some (.int (nI (e))), some (.int (nI (1))), some (.ref (ax 5 e))]) (st' := [.ref (ax 0 (3 + e))]) rfl rfl rfl ?_
    refine V.callV h (np := 0) (st := []) (s_log hls hS (show e < tf A 38 by omega) (post := fun v Sq7 => v = some (.int (nI (tn A 26 e))) ∧ S = Sq7) ⟨rfl, rfl⟩) wc_Jx4a65c_size_8abf5 wn_RJx4a65c (Or.inl wm_RX10_85) wi_Jx4a65c_size_8abf5 we_Jx4a65c_size_8abf5 (by decide +kernel) rfl cls_0 (hS.mem (show lv A 0 (3 + e) from (lv_log (show e < tf A 38 by omega) hS.2.2.2.1.2.1))) (hS.knd (show lv A 0 (3 + e) from (lv_log (show e < tf A 38 by omega) hS.2.2.2.1.2.1))) (Nat.le_of_ble_eq_true rfl) (Nat.le_of_ble_eq_true rfl) (Nat.zero_le _) (Nat.zero_le _) (by simp [Value.category]) (by decide +kernel) rfl (fun v Z6 q9 => ?_)
    obtain ⟨rfl, hS9⟩ := q9
    subst hS9
    refine V.eq (S' := S) (ls' := [some (.ref (ax 10 0)), some (.int (nI (e))), some (.int (nI (1))), some (.ref (ax 5 e))]) (st' := [.int (nI (tn A 26 e))]) rfl rfl rfl ?_
    exact V.iret h hA hr rfl hp (by decide +kernel) (Nat.zero_le _) (Nat.zero_le _)
  · skip
    refine V.tableN h (dflt := 60) (hi := 3) (offs := #[31, 39, 47, 52]) (len := 31) (x := 2) (off := 47) (tgt := 76) (by decide) (by decide +kernel) (by decide) rfl (by decide) ?_
    refine V.blk h [(.aload_n 3, 1)] (by decide +kernel) (pc' := 77) (ls' := [some (.ref (ax 10 0)), some (.int (nI (e))), some (.int (nI (2))), some (.ref (ax 5 e))]) (st' := [.ref (ax 5 e)]) rfl rfl (Nat.le_of_ble_eq_true rfl) ?_
    refine V.getI h cls_5 (j := 10) rfl (hS.mem (show lv A 5 e from (show e < tf A 38 by omega))) (hS.knd (show lv A 5 e from (show e < tf A 38 by omega))) (Or.inr ⟨_, wf_RX10_226⟩) (by decide +kernel) (v := nI (tn A 28 e)) (hS.int (show lv A 5 e from (show e < tf A 38 by omega)) (by decide) (by decide) rfl) ?_
    exact V.iret h hA hr rfl hp (by decide +kernel) (Nat.zero_le _) (Nat.zero_le _)
  · skip
    refine V.tableN h (dflt := 60) (hi := 3) (offs := #[31, 39, 47, 52]) (len := 31) (x := 3) (off := 52) (tgt := 81) (by decide) (by decide +kernel) (by decide) rfl (by decide) ?_
    refine V.blk h [(.aload_n 3, 1)] (by decide +kernel) (pc' := 82) (ls' := [some (.ref (ax 10 0)), some (.int (nI (e))), some (.int (nI (3))), some (.ref (ax 5 e))]) (st' := [.ref (ax 5 e)]) rfl rfl (Nat.le_of_ble_eq_true rfl) ?_
    refine V.getP h cls_5 (j := 4) rfl (hS.mem (show lv A 5 e from (show e < tf A 38 by omega))) (hS.knd (show lv A 5 e from (show e < tf A 38 by omega))) (Or.inr ⟨_, wf_RX10_229⟩) (by decide +kernel) (v := some (ax 0 (15 + e))) (hS.ptr (show lv A 5 e from (show e < tf A 38 by omega)) (by decide) (by decide) rfl) ?_
    refine V.eq (S' := S) (ls' := [some (.ref (ax 10 0)), some (.int (nI (e))), some (.int (nI (3))), some (.ref (ax 5 e))]) (st' := [.ref (ax 0 (15 + e))]) rfl rfl rfl ?_
    refine V.callV h (np := 0) (st := []) (s_gts hls hS (show e < tf A 38 by omega) (post := fun v Sq7 => v = some (.int (nI (tn A 37 e))) ∧ S = Sq7) ⟨rfl, rfl⟩) wc_Jx4a65c_size_8abf5 wn_RJx4a65c (Or.inl wm_RX10_85) wi_Jx4a65c_size_8abf5 we_Jx4a65c_size_8abf5 (by decide +kernel) rfl cls_0 (hS.mem (show lv A 0 (15 + e) from (lv_gts (show e < tf A 38 by omega)))) (hS.knd (show lv A 0 (15 + e) from (lv_gts (show e < tf A 38 by omega)))) (Nat.le_of_ble_eq_true rfl) (Nat.le_of_ble_eq_true rfl) (Nat.zero_le _) (Nat.zero_le _) (by simp [Value.category]) (by decide +kernel) rfl (fun v Z7 q9 => ?_)
    obtain ⟨rfl, hS9⟩ := q9
    subst hS9
    refine V.eq (S' := S) (ls' := [some (.ref (ax 10 0)), some (.int (nI (e))), some (.int (nI (3))), some (.ref (ax 5 e))]) (st' := [.int (nI (tn A 37 e))]) rfl rfl rfl ?_
    exact V.iret h hA hr rfl hp (by decide +kernel) (Nat.zero_le _) (Nat.zero_le _)
  · skip
    refine V.tableOut h (lo := 0) (dflt := 60) (hi := 3) (offs := #[31, 39, 47, 52]) (len := 31) (x := nI 4) (tgt := 89) (by decide +kernel) (Or.inr (by decide)) (by decide) ?_
    refine V.blk h [(.aload_n 3, 1)] (by decide +kernel) (pc' := 90) (ls' := [some (.ref (ax 10 0)), some (.int (nI (e))), some (.int (nI (4))), some (.ref (ax 5 e))]) (st' := [.ref (ax 5 e)]) rfl rfl (Nat.le_of_ble_eq_true rfl) ?_
    refine V.getI h cls_5 (j := 9) rfl (hS.mem (show lv A 5 e from (show e < tf A 38 by omega))) (hS.knd (show lv A 5 e from (show e < tf A 38 by omega))) (Or.inr ⟨_, wf_RX10_192⟩) (by decide +kernel) (v := nI (tn A 27 e)) (hS.int (show lv A 5 e from (show e < tf A 38 by omega)) (by decide) (by decide) rfl) ?_
    exact V.iret h hA hr rfl hp (by decide +kernel) (Nat.zero_le _) (Nat.zero_le _)
set_option maxRecDepth 100000 in
set_option maxHeartbeats 4000000 in
theorem c_value {l : Launch} {D : va_G} {tc : Nat → ClassId} {ax ay : Nat → Nat → Nat} {A : TS} {S : HS} (hls : l.stackTraces = false) (hS : RA tc (mx ax ay) A S) {e : Nat} {ky : Nat}  (he5 : e < tf A 5) (hky : ky < 16) {post : Option Value → HS → Prop} (hp : post (some (.int (tr A 3 (16 * e + ky)))) S) : CM l D tc yX10_value cX10_value 3 (some .int) 3 0 0 [.ref (ax 10 0), .int (nI (e)), .int (nI (ky))] S post := by
  refine CM.of hls (by decide +kernel) (by simp [Value.category]) (Nat.le_of_ble_eq_true rfl) (fun A0 p e9 s m args below meth c sz h hr hnm hA => ?_)
  have h5 := hS.2.2.2.1.1
  have h12 := hS.2.2.2.1.2.1
  have h53 := hS.2.2.2.1.2.2.2.2
  have hf3 := hS.2.2.1.2.1
  have hf1 := hS.2.2.1.1
  refine V.eqL (ls' := [some (.ref (ax 10 0)), some (.int (nI (e))), some (.int (nI (ky)))]) rfl ?_
  refine V.blk h [(.iload_n 1, 1), (.aload_n 0, 1)] (by decide +kernel) (pc' := 2) (ls' := [some (.ref (ax 10 0)), some (.int (nI (e))), some (.int (nI (ky)))]) (st' := [.ref (ax 10 0), .int (nI (e))]) rfl rfl (Nat.le_of_ble_eq_true rfl) ?_
  refine V.getP h cls_10 (j := 7) rfl (hS.mem (show lv A 10 0 from rfl)) (hS.knd (show lv A 10 0 from rfl)) (Or.inl wf_RX10_58) (by decide +kernel) (v := some (ax 0 1)) (hS.ptr (show lv A 10 0 from rfl) (by decide) (by decide) rfl) ?_
  refine V.eq (S' := S) (ls' := [some (.ref (ax 10 0)), some (.int (nI (e))), some (.int (nI (ky)))]) (st' := [.ref (ax 0 1), .int (nI (e))]) rfl rfl rfl ?_
  refine V.callV h (np := 0) (st := [.int (nI (e))]) (s_mas hls hS (post := fun v Sq7 => v = some (.int (nI (tf A 5))) ∧ S = Sq7) ⟨rfl, rfl⟩) wc_Jx4a65c_size_8abf5 wn_RJx4a65c (Or.inl wm_RX10_85) wi_Jx4a65c_size_8abf5 we_Jx4a65c_size_8abf5 (by decide +kernel) rfl cls_0 (hS.mem (show lv A 0 1 from (Or.inl (by decide)))) (hS.knd (show lv A 0 1 from (Or.inl (by decide)))) (Nat.le_of_ble_eq_true rfl) (Nat.le_of_ble_eq_true rfl) (Nat.zero_le _) (Nat.zero_le _) (by simp [Value.category]) (by decide +kernel) rfl (fun v Z1 q9 => ?_)
  obtain ⟨rfl, hS9⟩ := q9
  subst hS9
  refine V.eq (S' := S) (ls' := [some (.ref (ax 10 0)), some (.int (nI (e))), some (.int (nI (ky)))]) (st' := [.int (nI (tf A 5)), .int (nI (e))]) rfl rfl rfl ?_
  refine V.callS h (np := 2) (st := []) (c_checkIndex hls (x := nI e) (n := tf A 5) (noIx_nI (by omega) (by omega)) (post := fun v Sq7 => v = none ∧ S = Sq7) ⟨rfl, rfl⟩) wc_X10_checkIndex wn_RX10 (Or.inl wm_RX10_74) wt_X10_checkIndex (by decide +kernel) rfl (Nat.le_of_ble_eq_true rfl) (Nat.le_of_ble_eq_true rfl) (Nat.zero_le _) (Nat.zero_le _) (by simp [Value.category]) (by decide +kernel) rfl (fun v Z2 q9 => ?_)
  obtain ⟨rfl, hS9⟩ := q9
  subst hS9
  refine V.blk h [(.iload_n 2, 1), (.bipush 16, 2)] (by decide +kernel) (pc' := 14) (ls' := [some (.ref (ax 10 0)), some (.int (nI (e))), some (.int (nI (ky)))]) (st' := [.int (nI (16)), .int (nI (ky))]) rfl rfl (Nat.le_of_ble_eq_true rfl) ?_
  refine V.callS h (np := 2) (st := []) (c_checkIndex hls (x := nI ky) (n := 16) (noIx_nI (by omega) (by omega)) (post := fun v Sq7 => v = none ∧ S = Sq7) ⟨rfl, rfl⟩) wc_X10_checkIndex wn_RX10 (Or.inl wm_RX10_74) wt_X10_checkIndex (by decide +kernel) rfl (Nat.le_of_ble_eq_true rfl) (Nat.le_of_ble_eq_true rfl) (Nat.zero_le _) (Nat.zero_le _) (by simp [Value.category]) (by decide +kernel) rfl (fun v Z3 q9 => ?_)
  obtain ⟨rfl, hS9⟩ := q9
  subst hS9
  refine V.blk h [(.aload_n 0, 1)] (by decide +kernel) (pc' := 18) (ls' := [some (.ref (ax 10 0)), some (.int (nI (e))), some (.int (nI (ky)))]) (st' := [.ref (ax 10 0)]) rfl rfl (Nat.le_of_ble_eq_true rfl) ?_
  refine V.getP h cls_10 (j := 7) rfl (hS.mem (show lv A 10 0 from rfl)) (hS.knd (show lv A 10 0 from rfl)) (Or.inl wf_RX10_58) (by decide +kernel) (v := some (ax 0 1)) (hS.ptr (show lv A 10 0 from rfl) (by decide) (by decide) rfl) ?_
  refine V.eq (S' := S) (ls' := [some (.ref (ax 10 0)), some (.int (nI (e))), some (.int (nI (ky)))]) (st' := [.ref (ax 0 1)]) rfl rfl rfl ?_
  refine V.blk h [(.iload_n 1, 1)] (by decide +kernel) (pc' := 22) (ls' := [some (.ref (ax 10 0)), some (.int (nI (e))), some (.int (nI (ky)))]) (st' := [.int (nI (e)), .ref (ax 0 1)]) rfl rfl (Nat.le_of_ble_eq_true rfl) ?_
  refine V.callV h (np := 1) (st := []) (g_mas hls hS (k := e) (by omega) (post := fun v Sq7 => v = some (.ref (ax 5 e)) ∧ S = Sq7) ⟨rfl, rfl⟩) wc_Jx4a65c_get_915e3 wn_RJx4a65c (Or.inl wm_RX10_150) wi_Jx4a65c_get_915e3 we_Jx4a65c_get_915e3 (by decide +kernel) rfl cls_0 (hS.mem (show lv A 0 1 from (Or.inl (by decide)))) (hS.knd (show lv A 0 1 from (Or.inl (by decide)))) (Nat.le_of_ble_eq_true rfl) (Nat.le_of_ble_eq_true rfl) (Nat.zero_le _) (Nat.zero_le _) (by simp [Value.category]) (by decide +kernel) rfl (fun v Z4 q9 => ?_)
  obtain ⟨rfl, hS9⟩ := q9
  subst hS9
  refine V.eq (S' := S) (ls' := [some (.ref (ax 10 0)), some (.int (nI (e))), some (.int (nI (ky)))]) (st' := [.ref (ax 5 e)]) rfl rfl rfl ?_
  refine V.castS h cls_5 (hS.mem (show lv A 5 e from (show e < tf A 38 by omega))) (hS.knd (show lv A 5 e from (show e < tf A 38 by omega))) wl_RX10_62 (by decide +kernel) ?_
  refine V.blk h [(.iload_n 2, 1)] (by decide +kernel) (pc' := 29) (ls' := [some (.ref (ax 10 0)), some (.int (nI (e))), some (.int (nI (ky)))]) (st' := [.int (nI (ky)), .ref (ax 5 e)]) rfl rfl (Nat.le_of_ble_eq_true rfl) ?_
  refine V.callV h (np := 1) (st := []) (c_valueOf hls hS (e := e) (ky := ky) (show e < tf A 38 by omega) hky (post := fun v Sq7 => v = some (.int (tr A 3 (16 * e + ky))) ∧ S = Sq7) ⟨rfl, rfl⟩) wc_X5_valueOf wn_RX5 (Or.inr ⟨_, wm_RX10_232⟩) wi_X5_valueOf we_X5_valueOf (by decide +kernel) rfl cls_5 (hS.mem (show lv A 5 e from (show e < tf A 38 by omega))) (hS.knd (show lv A 5 e from (show e < tf A 38 by omega))) (Nat.le_of_ble_eq_true rfl) (Nat.le_of_ble_eq_true rfl) (Nat.zero_le _) (Nat.zero_le _) (by simp [Value.category]) (by decide +kernel) rfl (fun v Z5 q9 => ?_)
  obtain ⟨rfl, hS9⟩ := q9
  subst hS9
  refine V.eq (S' := S) (ls' := [some (.ref (ax 10 0)), some (.int (nI (e))), some (.int (nI (ky)))]) (st' := [.int (tr A 3 (16 * e + ky))]) rfl rfl rfl ?_
  exact V.iret h hA hr rfl hp (by decide +kernel) (Nat.zero_le _) (Nat.zero_le _)
set_option maxRecDepth 100000 in
set_option maxHeartbeats 4000000 in
theorem c_backup {l : Launch} {D : va_G} {tc : Nat → ClassId} {ax ay : Nat → Nat → Nat} {A : TS} {S : HS} (hls : l.stackTraces = false) (hS : RA tc (mx ax ay) A S) {b : Nat} {t : Nat}  (hb : b < tf A 1) (ht : t < 2) {post : Option Value → HS → Prop} (hp : post (some (.int (if t = 0 then nI (tn A 39 b) else nI (tn A 40 b)))) S) : CM l D tc yX10_backup cX10_backup 4 (some .int) 1 0 0 [.ref (ax 10 0), .int (nI (b)), .int (nI (t))] S post := by
  refine CM.of hls (by decide +kernel) (by simp [Value.category]) (Nat.le_of_ble_eq_true rfl) (fun A0 p e9 s m args below meth c sz h hr hnm hA => ?_)
  have h5 := hS.2.2.2.1.1
  have h12 := hS.2.2.2.1.2.1
  have h53 := hS.2.2.2.1.2.2.2.2
  have hf3 := hS.2.2.1.2.1
  have hf1 := hS.2.2.1.1
  refine V.eqL (ls' := [some (.ref (ax 10 0)), some (.int (nI (b))), some (.int (nI (t))), none]) rfl ?_
  refine V.blk h [(.iload_n 1, 1), (.aload_n 0, 1)] (by decide +kernel) (pc' := 2) (ls' := [some (.ref (ax 10 0)), some (.int (nI (b))), some (.int (nI (t))), none]) (st' := [.ref (ax 10 0), .int (nI (b))]) rfl rfl (Nat.le_of_ble_eq_true rfl) ?_
  refine V.getP h cls_10 (j := 5) rfl (hS.mem (show lv A 10 0 from rfl)) (hS.knd (show lv A 10 0 from rfl)) (Or.inl wf_RX10_39) (by decide +kernel) (v := some (ax 25 0)) (hS.ptr (show lv A 10 0 from rfl) (by decide) (by decide) rfl) ?_
  refine V.eq (S' := S) (ls' := [some (.ref (ax 10 0)), some (.int (nI (b))), some (.int (nI (t))), none]) (st' := [.ref (ax 25 0), .int (nI (b))]) rfl rfl rfl ?_
  refine V.alen h 25 (hS.mem (show lv A 25 0 from rfl)) (hS.knd (show lv A 25 0 from rfl)) (by decide) (M := tf A 1) (hS.len (show lv A 25 0 from rfl) (by decide)) (by decide +kernel) ?_
  refine V.callS h (np := 2) (st := []) (c_checkIndex hls (x := nI b) (n := tf A 1) (noIx_nI (by omega) (by omega)) (post := fun v Sq7 => v = none ∧ S = Sq7) ⟨rfl, rfl⟩) wc_X10_checkIndex wn_RX10 (Or.inl wm_RX10_74) wt_X10_checkIndex (by decide +kernel) rfl (Nat.le_of_ble_eq_true rfl) (Nat.le_of_ble_eq_true rfl) (Nat.zero_le _) (Nat.zero_le _) (by simp [Value.category]) (by decide +kernel) rfl (fun v Z1 q9 => ?_)
  obtain ⟨rfl, hS9⟩ := q9
  subst hS9
  refine V.blk h [(.iload_n 2, 1), (.iconst 1, 1)] (by decide +kernel) (pc' := 11) (ls' := [some (.ref (ax 10 0)), some (.int (nI (b))), some (.int (nI (t))), none]) (st' := [.int (nI (1)), .int (nI (t))]) rfl rfl (Nat.le_of_ble_eq_true rfl) ?_
  refine V.callS h (np := 2) (st := []) (c_checkWhat hls (x := nI t) (n := 1) (by decide) (noIx_nI (by omega) (by omega)) (post := fun v Sq7 => v = none ∧ S = Sq7) ⟨rfl, rfl⟩) wc_X10_checkWhat wn_RX10 (Or.inl wm_RX10_78) wt_X10_checkWhat (by decide +kernel) rfl (Nat.le_of_ble_eq_true rfl) (Nat.le_of_ble_eq_true rfl) (Nat.zero_le _) (Nat.zero_le _) (by simp [Value.category]) (by decide +kernel) rfl (fun v Z2 q9 => ?_)
  obtain ⟨rfl, hS9⟩ := q9
  subst hS9
  refine V.blk h [(.aload_n 0, 1)] (by decide +kernel) (pc' := 15) (ls' := [some (.ref (ax 10 0)), some (.int (nI (b))), some (.int (nI (t))), none]) (st' := [.ref (ax 10 0)]) rfl rfl (Nat.le_of_ble_eq_true rfl) ?_
  refine V.getP h cls_10 (j := 5) rfl (hS.mem (show lv A 10 0 from rfl)) (hS.knd (show lv A 10 0 from rfl)) (Or.inl wf_RX10_39) (by decide +kernel) (v := some (ax 25 0)) (hS.ptr (show lv A 10 0 from rfl) (by decide) (by decide) rfl) ?_
  refine V.eq (S' := S) (ls' := [some (.ref (ax 10 0)), some (.int (nI (b))), some (.int (nI (t))), none]) (st' := [.ref (ax 25 0)]) rfl rfl rfl ?_
  refine V.blk h [(.iload_n 1, 1)] (by decide +kernel) (pc' := 19) (ls' := [some (.ref (ax 10 0)), some (.int (nI (b))), some (.int (nI (t))), none]) (st' := [.int (nI (b)), .ref (ax 25 0)]) rfl rfl (Nat.le_of_ble_eq_true rfl) ?_
  refine V.aald h 25 (hS.mem (show lv A 25 0 from rfl)) (hS.knd (show lv A 25 0 from rfl)) (by decide) rfl (M := tf A 1) (hS.len (show lv A 25 0 from rfl) (by decide)) (i := b) (by omega) (by show _ < 2 ^ 31; first | omega | decide) (by decide +kernel) (v := some (ax 1 b)) (hS.ref (show lv A 25 0 from rfl) (by decide) (by show _ < tf A 1; omega)) ?_
  refine V.eq (S' := S) (ls' := [some (.ref (ax 10 0)), some (.int (nI (b))), some (.int (nI (t))), none]) (st' := [.ref (ax 1 b)]) rfl rfl rfl ?_
  refine V.blk h [(.astore_n 3, 1), (.iload_n 2, 1)] (by decide +kernel) (pc' := 22) (ls' := [some (.ref (ax 10 0)), some (.int (nI (b))), some (.int (nI (t))), some (.ref (ax 1 b))]) (st' := [.int (nI (t))]) rfl rfl (Nat.le_of_ble_eq_true rfl) ?_
  refine V.if_ne h (off := 10) (by decide +kernel) (tgt := 32) (by decide) (fun q => ?_) (fun q => ?_)
  · have q22_24 : ¬ _ := (fun z => q ((nI_z_eq (by omega)).mpr z))
    clear q
    refine V.blk h [(.aload_n 3, 1)] (by decide +kernel) (pc' := 33) (ls' := [some (.ref (ax 10 0)), some (.int (nI (b))), some (.int (nI (t))), some (.ref (ax 1 b))]) (st' := [.ref (ax 1 b)]) rfl rfl (Nat.le_of_ble_eq_true rfl) ?_
    refine V.getI h cls_1 (j := 2) rfl (hS.mem (show lv A 1 b from hb)) (hS.knd (show lv A 1 b from hb)) (Or.inr ⟨_, wf_RX10_178⟩) (by decide +kernel) (v := nI (tn A 40 b)) (hS.int (show lv A 1 b from hb) (by decide) (by decide) rfl) ?_
    exact V.iret h hA hr rfl (by rw [if_neg q22_24] at hp; exact hp) (by decide +kernel) (Nat.zero_le _) (Nat.zero_le _)
  · have q22_24 := ((nI_z_eq (by omega)).mp q)
    clear q
    refine V.blk h [(.aload_n 3, 1)] (by decide +kernel) (pc' := 26) (ls' := [some (.ref (ax 10 0)), some (.int (nI (b))), some (.int (nI (t))), some (.ref (ax 1 b))]) (st' := [.ref (ax 1 b)]) rfl rfl (Nat.le_of_ble_eq_true rfl) ?_
    refine V.getI h cls_1 (j := 1) rfl (hS.mem (show lv A 1 b from hb)) (hS.knd (show lv A 1 b from hb)) (Or.inr ⟨_, wf_RX10_173⟩) (by decide +kernel) (v := nI (tn A 39 b)) (hS.int (show lv A 1 b from hb) (by decide) (by decide) rfl) ?_
    refine V.goto h (off := 7) (tgt := 36) (by decide +kernel) (by decide) ?_
    exact V.iret h hA hr rfl (by rw [if_pos q22_24] at hp; exact hp) (by decide +kernel) (Nat.zero_le _) (Nat.zero_le _)
def witC (A : TS) (w : Nat) : Nat → Int32
  | 0 => nI (tn A 41 w)
  | 1 => one9 (tb A 42 w)
  | 2 => nI (hdF A w (tf A 2 * tf A 3))
  | _ => nI (kyF A w (tf A 2 * tf A 3))
set_option maxRecDepth 100000 in
set_option maxHeartbeats 4000000 in
theorem c_witness {l : Launch} {D : va_G} {tc : Nat → ClassId} {ax ay : Nat → Nat → Nat} {A : TS} {S : HS} (hls : l.stackTraces = false) (hS : RA tc (mx ax ay) A S) {w : Nat} {t : Nat} {K : Nat}  (hw : w < tf A 1) (ht : t < 4) (hk16 : ∀ i, tn A 8 i < 16) (hB : NB K A) (hK : K < 1800000000) (h9 : 700 ≤ K) {post : Option Value → HS → Prop} (hp : post (some (.int (witC A w t))) S) : CM l D tc yX10_witness cX10_witness 4 (some .int) 3 0 0 [.ref (ax 10 0), .int (nI (w)), .int (nI (t))] S post := by
  refine CM.of hls (by decide +kernel) (by simp [Value.category]) (Nat.le_of_ble_eq_true rfl) (fun A0 p e9 s m args below meth c sz h hr hnm hA => ?_)
  have h5 := hS.2.2.2.1.1
  have h12 := hS.2.2.2.1.2.1
  have h53 := hS.2.2.2.1.2.2.2.2
  have hf3 := hS.2.2.1.2.1
  have hf1 := hS.2.2.1.1
  refine V.eqL (ls' := [some (.ref (ax 10 0)), some (.int (nI (w))), some (.int (nI (t))), none]) rfl ?_
  refine V.blk h [(.iload_n 1, 1), (.aload_n 0, 1)] (by decide +kernel) (pc' := 2) (ls' := [some (.ref (ax 10 0)), some (.int (nI (w))), some (.int (nI (t))), none]) (st' := [.ref (ax 10 0), .int (nI (w))]) rfl rfl (Nat.le_of_ble_eq_true rfl) ?_
  refine V.getP h cls_10 (j := 6) rfl (hS.mem (show lv A 10 0 from rfl)) (hS.knd (show lv A 10 0 from rfl)) (Or.inl wf_RX10_45) (by decide +kernel) (v := some (ax 26 0)) (hS.ptr (show lv A 10 0 from rfl) (by decide) (by decide) rfl) ?_
  refine V.eq (S' := S) (ls' := [some (.ref (ax 10 0)), some (.int (nI (w))), some (.int (nI (t))), none]) (st' := [.ref (ax 26 0), .int (nI (w))]) rfl rfl rfl ?_
  refine V.alen h 26 (hS.mem (show lv A 26 0 from rfl)) (hS.knd (show lv A 26 0 from rfl)) (by decide) (M := tf A 1) (hS.len (show lv A 26 0 from rfl) (by decide)) (by decide +kernel) ?_
  refine V.callS h (np := 2) (st := []) (c_checkIndex hls (x := nI w) (n := tf A 1) (noIx_nI (by omega) (by omega)) (post := fun v Sq7 => v = none ∧ S = Sq7) ⟨rfl, rfl⟩) wc_X10_checkIndex wn_RX10 (Or.inl wm_RX10_74) wt_X10_checkIndex (by decide +kernel) rfl (Nat.le_of_ble_eq_true rfl) (Nat.le_of_ble_eq_true rfl) (Nat.zero_le _) (Nat.zero_le _) (by simp [Value.category]) (by decide +kernel) rfl (fun v Z1 q9 => ?_)
  obtain ⟨rfl, hS9⟩ := q9
  subst hS9
  refine V.blk h [(.iload_n 2, 1), (.iconst 3, 1)] (by decide +kernel) (pc' := 11) (ls' := [some (.ref (ax 10 0)), some (.int (nI (w))), some (.int (nI (t))), none]) (st' := [.int (nI (3)), .int (nI (t))]) rfl rfl (Nat.le_of_ble_eq_true rfl) ?_
  refine V.callS h (np := 2) (st := []) (c_checkWhat hls (x := nI t) (n := 3) (by decide) (noIx_nI (by omega) (by omega)) (post := fun v Sq7 => v = none ∧ S = Sq7) ⟨rfl, rfl⟩) wc_X10_checkWhat wn_RX10 (Or.inl wm_RX10_78) wt_X10_checkWhat (by decide +kernel) rfl (Nat.le_of_ble_eq_true rfl) (Nat.le_of_ble_eq_true rfl) (Nat.zero_le _) (Nat.zero_le _) (by simp [Value.category]) (by decide +kernel) rfl (fun v Z2 q9 => ?_)
  obtain ⟨rfl, hS9⟩ := q9
  subst hS9
  refine V.blk h [(.aload_n 0, 1)] (by decide +kernel) (pc' := 15) (ls' := [some (.ref (ax 10 0)), some (.int (nI (w))), some (.int (nI (t))), none]) (st' := [.ref (ax 10 0)]) rfl rfl (Nat.le_of_ble_eq_true rfl) ?_
  refine V.getP h cls_10 (j := 6) rfl (hS.mem (show lv A 10 0 from rfl)) (hS.knd (show lv A 10 0 from rfl)) (Or.inl wf_RX10_45) (by decide +kernel) (v := some (ax 26 0)) (hS.ptr (show lv A 10 0 from rfl) (by decide) (by decide) rfl) ?_
  refine V.eq (S' := S) (ls' := [some (.ref (ax 10 0)), some (.int (nI (w))), some (.int (nI (t))), none]) (st' := [.ref (ax 26 0)]) rfl rfl rfl ?_
  refine V.blk h [(.iload_n 1, 1)] (by decide +kernel) (pc' := 19) (ls' := [some (.ref (ax 10 0)), some (.int (nI (w))), some (.int (nI (t))), none]) (st' := [.int (nI (w)), .ref (ax 26 0)]) rfl rfl (Nat.le_of_ble_eq_true rfl) ?_
  refine V.aald h 26 (hS.mem (show lv A 26 0 from rfl)) (hS.knd (show lv A 26 0 from rfl)) (by decide) rfl (M := tf A 1) (hS.len (show lv A 26 0 from rfl) (by decide)) (i := w) (by omega) (by show _ < 2 ^ 31; first | omega | decide) (by decide +kernel) (v := some (ax 9 w)) (hS.ref (show lv A 26 0 from rfl) (by decide) (by show _ < tf A 1; omega)) ?_
  refine V.eq (S' := S) (ls' := [some (.ref (ax 10 0)), some (.int (nI (w))), some (.int (nI (t))), none]) (st' := [.ref (ax 9 w)]) rfl rfl rfl ?_
  refine V.blk h [(.astore_n 3, 1), (.iload_n 2, 1)] (by decide +kernel) (pc' := 22) (ls' := [some (.ref (ax 10 0)), some (.int (nI (w))), some (.int (nI (t))), some (.ref (ax 9 w))]) (st' := [.int (nI (t))]) rfl rfl (Nat.le_of_ble_eq_true rfl) ?_
  rcases (show t = 0 ∨ t = 1 ∨ t = 2 ∨ t = 3 from by omega) with rfl | rfl | rfl | rfl
  · skip
    refine V.tableN h (dflt := 44) (hi := 2) (offs := #[26, 31, 39]) (len := 26) (x := 0) (off := 26) (tgt := 48) (by decide) (by decide +kernel) (by decide) rfl (by decide) ?_
    refine V.blk h [(.aload_n 3, 1)] (by decide +kernel) (pc' := 49) (ls' := [some (.ref (ax 10 0)), some (.int (nI (w))), some (.int (nI (0))), some (.ref (ax 9 w))]) (st' := [.ref (ax 9 w)]) rfl rfl (Nat.le_of_ble_eq_true rfl) ?_
    refine V.getI h cls_9 (j := 4) rfl (hS.mem (show lv A 9 w from hw)) (hS.knd (show lv A 9 w from hw)) (Or.inr ⟨_, wf_RX10_195⟩) (by decide +kernel) (v := nI (tn A 41 w)) (hS.int (show lv A 9 w from hw) (by decide) (by decide) rfl) ?_
    have nb29 := hB.2 41 w
    exact V.iret h hA hr rfl hp (by decide +kernel) (Nat.zero_le _) (Nat.zero_le _)
  · skip
    refine V.tableN h (dflt := 44) (hi := 2) (offs := #[26, 31, 39]) (len := 26) (x := 1) (off := 31) (tgt := 53) (by decide) (by decide +kernel) (by decide) rfl (by decide) ?_
    refine V.blk h [(.aload_n 3, 1)] (by decide +kernel) (pc' := 54) (ls' := [some (.ref (ax 10 0)), some (.int (nI (w))), some (.int (nI (1))), some (.ref (ax 9 w))]) (st' := [.ref (ax 9 w)]) rfl rfl (Nat.le_of_ble_eq_true rfl) ?_
    refine V.getI h cls_9 (j := 5) rfl (hS.mem (show lv A 9 w from hw)) (hS.knd (show lv A 9 w from hw)) (Or.inr ⟨_, wf_RX10_196⟩) (by decide +kernel) (v := bI (tb A 42 w)) (hS.int (show lv A 9 w from hw) (by decide) (by decide) rfl) ?_
    refine V.callS h (np := 1) (st := []) (c_asBit hls hS (b9 := tb A 42 w) (post := fun v Sq7 => v = some (.int (one9 (tb A 42 w))) ∧ S = Sq7) ⟨rfl, rfl⟩) wc_X10_asBit wn_RX10 (Or.inl wm_RX10_204) wt_X10_asBit (by decide +kernel) rfl (Nat.le_of_ble_eq_true rfl) (Nat.le_of_ble_eq_true rfl) (Nat.zero_le _) (Nat.zero_le _) (by simp [Value.category]) (by decide +kernel) rfl (fun v Z3 q9 => ?_)
    obtain ⟨rfl, hS9⟩ := q9
    subst hS9
    refine V.eq (S' := S) (ls' := [some (.ref (ax 10 0)), some (.int (nI (w))), some (.int (nI (1))), some (.ref (ax 9 w))]) (st' := [.int (one9 (tb A 42 w))]) rfl rfl rfl ?_
    exact V.iret h hA hr rfl hp (by decide +kernel) (Nat.zero_le _) (Nat.zero_le _)
  · skip
    refine V.tableN h (dflt := 44) (hi := 2) (offs := #[26, 31, 39]) (len := 26) (x := 2) (off := 39) (tgt := 61) (by decide) (by decide +kernel) (by decide) rfl (by decide) ?_
    refine V.blk h [(.aload_n 3, 1)] (by decide +kernel) (pc' := 62) (ls' := [some (.ref (ax 10 0)), some (.int (nI (w))), some (.int (nI (2))), some (.ref (ax 9 w))]) (st' := [.ref (ax 9 w)]) rfl rfl (Nat.le_of_ble_eq_true rfl) ?_
    refine V.callV h (np := 0) (st := []) (c_held hls hS (w := w) hw (post := fun v Sq7 => v = some (.int (nI (hdF A w (tf A 2 * tf A 3)))) ∧ S = Sq7) ⟨rfl, rfl⟩) wc_X9_held wn_RX9 (Or.inr ⟨_, wm_RX10_235⟩) wi_X9_held we_X9_held (by decide +kernel) rfl cls_9 (hS.mem (show lv A 9 w from hw)) (hS.knd (show lv A 9 w from hw)) (Nat.le_of_ble_eq_true rfl) (Nat.le_of_ble_eq_true rfl) (Nat.zero_le _) (Nat.zero_le _) (by simp [Value.category]) (by decide +kernel) rfl (fun v Z4 q9 => ?_)
    obtain ⟨rfl, hS9⟩ := q9
    subst hS9
    refine V.eq (S' := S) (ls' := [some (.ref (ax 10 0)), some (.int (nI (w))), some (.int (nI (2))), some (.ref (ax 9 w))]) (st' := [.int (nI (hdF A w (tf A 2 * tf A 3)))]) rfl rfl rfl ?_
    exact V.iret h hA hr rfl hp (by decide +kernel) (Nat.zero_le _) (Nat.zero_le _)
  · skip
    refine V.tableOut h (lo := 0) (dflt := 44) (hi := 2) (offs := #[26, 31, 39]) (len := 26) (x := nI 3) (tgt := 66) (by decide +kernel) (Or.inr (by decide)) (by decide) ?_
    refine V.blk h [(.aload_n 3, 1)] (by decide +kernel) (pc' := 67) (ls' := [some (.ref (ax 10 0)), some (.int (nI (w))), some (.int (nI (3))), some (.ref (ax 9 w))]) (st' := [.ref (ax 9 w)]) rfl rfl (Nat.le_of_ble_eq_true rfl) ?_
    refine V.callV h (np := 0) (st := []) (c_keysHeld hls hS (w := w) hw hk16 hB (by omega) (post := fun v Sq7 => v = some (.int (nI (kyF A w (tf A 2 * tf A 3)))) ∧ S = Sq7) ⟨rfl, rfl⟩) wc_X9_keysHeld wn_RX9 (Or.inr ⟨_, wm_RX10_238⟩) wi_X9_keysHeld we_X9_keysHeld (by decide +kernel) rfl cls_9 (hS.mem (show lv A 9 w from hw)) (hS.knd (show lv A 9 w from hw)) (Nat.le_of_ble_eq_true rfl) (Nat.le_of_ble_eq_true rfl) (Nat.zero_le _) (Nat.zero_le _) (by simp [Value.category]) (by decide +kernel) rfl (fun v Z5 q9 => ?_)
    obtain ⟨rfl, hS9⟩ := q9
    subst hS9
    refine V.eq (S' := S) (ls' := [some (.ref (ax 10 0)), some (.int (nI (w))), some (.int (nI (3))), some (.ref (ax 9 w))]) (st' := [.int (nI (kyF A w (tf A 2 * tf A 3)))]) rfl rfl rfl ?_
    exact V.iret h hA hr rfl hp (by decide +kernel) (Nat.zero_le _) (Nat.zero_le _)
set_option maxRecDepth 100000 in
set_option maxHeartbeats 4000000 in
theorem c_audit {l : Launch} {D : va_G} {tc : Nat → ClassId} {ax ay : Nat → Nat → Nat} {A : TS} {S : HS} (hls : l.stackTraces = false) (hS : RA tc (mx ax ay) A S) {e : Nat} {K : Nat}  (hee : tf A 5 - 1 = e) (he1 : 1 ≤ tf A 5) (hD : ∀ i, tn A 11 i ≠ 1) (hB : NB K A) (hK : K < 1800000000) (h9 : 700 ≤ K) {post : Option Value → HS → Prop} (hp : post (some (.int (audC A))) S) : CM l D tc yX10_audit cX10_audit 2 (some .int) 6 0 0 [.ref (ax 10 0)] S post := by
  refine CM.of hls (by decide +kernel) (by simp [Value.category]) (Nat.le_of_ble_eq_true rfl) (fun A0 p e9 s m args below meth c sz h hr hnm hA => ?_)
  have h5 := hS.2.2.2.1.1
  have h12 := hS.2.2.2.1.2.1
  have h53 := hS.2.2.2.1.2.2.2.2
  have hf3 := hS.2.2.1.2.1
  have hf1 := hS.2.2.1.1
  refine V.eqL (ls' := [some (.ref (ax 10 0)), none]) rfl ?_
  refine V.blk h [(.aload_n 0, 1), (.aload_n 0, 1)] (by decide +kernel) (pc' := 2) (ls' := [some (.ref (ax 10 0)), none]) (st' := [.ref (ax 10 0), .ref (ax 10 0)]) rfl rfl (Nat.le_of_ble_eq_true rfl) ?_
  refine V.getP h cls_10 (j := 7) rfl (hS.mem (show lv A 10 0 from rfl)) (hS.knd (show lv A 10 0 from rfl)) (Or.inl wf_RX10_58) (by decide +kernel) (v := some (ax 0 1)) (hS.ptr (show lv A 10 0 from rfl) (by decide) (by decide) rfl) ?_
  refine V.eq (S' := S) (ls' := [some (.ref (ax 10 0)), none]) (st' := [.ref (ax 0 1), .ref (ax 10 0)]) rfl rfl rfl ?_
  refine V.callV h (np := 0) (st := [.ref (ax 10 0)]) (s_mas hls hS (post := fun v Sq7 => v = some (.int (nI (tf A 5))) ∧ S = Sq7) ⟨rfl, rfl⟩) wc_Jx4a65c_size_8abf5 wn_RJx4a65c (Or.inl wm_RX10_85) wi_Jx4a65c_size_8abf5 we_Jx4a65c_size_8abf5 (by decide +kernel) rfl cls_0 (hS.mem (show lv A 0 1 from (Or.inl (by decide)))) (hS.knd (show lv A 0 1 from (Or.inl (by decide)))) (Nat.le_of_ble_eq_true rfl) (Nat.le_of_ble_eq_true rfl) (Nat.zero_le _) (Nat.zero_le _) (by simp [Value.category]) (by decide +kernel) rfl (fun v Z1 q9 => ?_)
  obtain ⟨rfl, hS9⟩ := q9
  subst hS9
  refine V.eq (S' := S) (ls' := [some (.ref (ax 10 0)), none]) (st' := [.int (nI (tf A 5)), .ref (ax 10 0)]) rfl rfl rfl ?_
  have nb13 := hB.1 5
  refine V.blk h [(.iconst 1, 1)] (by decide +kernel) (pc' := 9) (ls' := [some (.ref (ax 10 0)), none]) (st' := [.int (nI (1)), .int (nI (tf A 5)), .ref (ax 10 0)]) rfl rfl (Nat.le_of_ble_eq_true rfl) ?_
  refine V.subN h (by decide +kernel) (Nat.le_of_ble_eq_true rfl) (by omega) ?_
  refine V.top (v' := .int (nI e)) (by rw [hee]) ?_
  refine V.callV h (np := 1) (st := []) (c_masterOf hls hS (e := e) (show e < tf A 5 by omega) (post := fun v Sq7 => v = some (.ref (ax 5 e)) ∧ S = Sq7) ⟨rfl, rfl⟩) wc_X10_masterOf wn_RX10 (Or.inl wm_RX10_174) wi_X10_masterOf we_X10_masterOf (by decide +kernel) rfl cls_10 (hS.mem (show lv A 10 0 from rfl)) (hS.knd (show lv A 10 0 from rfl)) (Nat.le_of_ble_eq_true rfl) (Nat.le_of_ble_eq_true rfl) (Nat.zero_le _) (Nat.zero_le _) (by simp [Value.category]) (by decide +kernel) rfl (fun v Z2 q9 => ?_)
  obtain ⟨rfl, hS9⟩ := q9
  subst hS9
  refine V.eq (S' := S) (ls' := [some (.ref (ax 10 0)), none]) (st' := [.ref (ax 5 e)]) rfl rfl rfl ?_
  refine V.blk h [(.astore_n 1, 1), (.aload_n 1, 1)] (by decide +kernel) (pc' := 15) (ls' := [some (.ref (ax 10 0)), some (.ref (ax 5 e))]) (st' := [.ref (ax 5 e)]) rfl rfl (Nat.le_of_ble_eq_true rfl) ?_
  refine V.ifnull h (o := (some (ax 5 e))) (off := 10) (by decide +kernel) (tgt := 25) (by decide) (fun z => by cases z) (fun _ _ => ?_)
  refine V.blk h [(.aload_n 1, 1)] (by decide +kernel) (pc' := 19) (ls' := [some (.ref (ax 10 0)), some (.ref (ax 5 e))]) (st' := [.ref (ax 5 e)]) rfl rfl (Nat.le_of_ble_eq_true rfl) ?_
  refine V.getI h cls_5 (j := 7) rfl (hS.mem (show lv A 5 e from (show e < tf A 38 by omega))) (hS.knd (show lv A 5 e from (show e < tf A 38 by omega))) (Or.inr ⟨_, wf_RX10_154⟩) (by decide +kernel) (v := bI (tb A 30 e)) (hS.int (show lv A 5 e from (show e < tf A 38 by omega)) (by decide) (by decide) rfl) ?_
  refine V.if_ne h (off := 5) (by decide +kernel) (tgt := 27) (by decide) (fun q => ?_) (fun q => ?_)
  · have q22_25 := (bI_1 (fun z => q (bI_0.mpr z)))
    clear q
    refine V.blk h [(.aload_n 1, 1)] (by decide +kernel) (pc' := 28) (ls' := [some (.ref (ax 10 0)), some (.ref (ax 5 e))]) (st' := [.ref (ax 5 e)]) rfl rfl (Nat.le_of_ble_eq_true rfl) ?_
    refine V.getP h cls_5 (j := 3) rfl (hS.mem (show lv A 5 e from (show e < tf A 38 by omega))) (hS.knd (show lv A 5 e from (show e < tf A 38 by omega))) (Or.inr ⟨_, wf_RX10_189⟩) (by decide +kernel) (v := some (ax 0 (3 + e))) (hS.ptr (show lv A 5 e from (show e < tf A 38 by omega)) (by decide) (by decide) rfl) ?_
    refine V.eq (S' := S) (ls' := [some (.ref (ax 10 0)), some (.ref (ax 5 e))]) (st' := [.ref (ax 0 (3 + e))]) rfl rfl rfl ?_
    refine V.blk h [(.aload_n 0, 1)] (by decide +kernel) (pc' := 32) (ls' := [some (.ref (ax 10 0)), some (.ref (ax 5 e))]) (st' := [.ref (ax 10 0), .ref (ax 0 (3 + e))]) rfl rfl (Nat.le_of_ble_eq_true rfl) ?_
    refine V.getP h cls_10 (j := 8) rfl (hS.mem (show lv A 10 0 from rfl)) (hS.knd (show lv A 10 0 from rfl)) (Or.inl wf_RX10_71) (by decide +kernel) (v := some (ax 0 2)) (hS.ptr (show lv A 10 0 from rfl) (by decide) (by decide) rfl) ?_
    refine V.eq (S' := S) (ls' := [some (.ref (ax 10 0)), some (.ref (ax 5 e))]) (st' := [.ref (ax 0 2), .ref (ax 0 (3 + e))]) rfl rfl rfl ?_
    refine V.callS h (np := 2) (st := []) (c_passes hls hS (e := e) (show e < tf A 38 by omega) hD hB (by omega) (post := fun v Sq7 => v = some (.int (bI (ioC A e (tn A 26 e) && paC A e (tf A 6)))) ∧ S = Sq7) ⟨rfl, rfl⟩) wc_X0_passes wn_RX0 (Or.inr ⟨_, wm_RX10_241⟩) wt_X0_passes (by decide +kernel) rfl (Nat.le_of_ble_eq_true rfl) (Nat.le_of_ble_eq_true rfl) (Nat.zero_le _) (Nat.zero_le _) (by simp [Value.category]) (by decide +kernel) rfl (fun v Z3 q9 => ?_)
    obtain ⟨rfl, hS9⟩ := q9
    subst hS9
    refine V.eq (S' := S) (ls' := [some (.ref (ax 10 0)), some (.ref (ax 5 e))]) (st' := [.int (bI (ioC A e (tn A 26 e) && paC A e (tf A 6)))]) rfl rfl rfl ?_
    refine V.if_ne h (off := 7) (by decide +kernel) (tgt := 45) (by decide) (fun q => ?_) (fun q => ?_)
    · have q38_38 := (bI_1 (fun z => q (bI_0.mpr z)))
      clear q
      refine V.blk h [(.iconst 0, 1)] (by decide +kernel) (pc' := 46) (ls' := [some (.ref (ax 10 0)), some (.ref (ax 5 e))]) (st' := [.int (nI (0))]) rfl rfl (Nat.le_of_ble_eq_true rfl) ?_
      refine V.top (v' := .int (bI false)) (by decide) ?_
      refine V.callS h (np := 1) (st := []) (c_asBit hls hS (b9 := false) (post := fun v Sq7 => v = some (.int (one9 false)) ∧ S = Sq7) ⟨rfl, rfl⟩) wc_X10_asBit wn_RX10 (Or.inl wm_RX10_204) wt_X10_asBit (by decide +kernel) rfl (Nat.le_of_ble_eq_true rfl) (Nat.le_of_ble_eq_true rfl) (Nat.zero_le _) (Nat.zero_le _) (by simp [Value.category]) (by decide +kernel) rfl (fun v Z4 q9 => ?_)
      obtain ⟨rfl, hS9⟩ := q9
      subst hS9
      refine V.eq (S' := S) (ls' := [some (.ref (ax 10 0)), some (.ref (ax 5 e))]) (st' := [.int (one9 false)]) rfl rfl rfl ?_
      exact V.iret h hA hr rfl (by rw [show audC A = one9 false from by unfold audC; rw [hee, if_neg (by rw [q22_25]; decide), q38_38]; rfl] at hp; exact hp) (by decide +kernel) (Nat.zero_le _) (Nat.zero_le _)
    · have q38_38 := (bI_0.mp q)
      clear q
      refine V.blk h [(.iconst 1, 1)] (by decide +kernel) (pc' := 42) (ls' := [some (.ref (ax 10 0)), some (.ref (ax 5 e))]) (st' := [.int (nI (1))]) rfl rfl (Nat.le_of_ble_eq_true rfl) ?_
      refine V.goto h (off := 4) (tgt := 46) (by decide +kernel) (by decide) ?_
      refine V.top (v' := .int (bI true)) (by decide) ?_
      refine V.callS h (np := 1) (st := []) (c_asBit hls hS (b9 := true) (post := fun v Sq7 => v = some (.int (one9 true)) ∧ S = Sq7) ⟨rfl, rfl⟩) wc_X10_asBit wn_RX10 (Or.inl wm_RX10_204) wt_X10_asBit (by decide +kernel) rfl (Nat.le_of_ble_eq_true rfl) (Nat.le_of_ble_eq_true rfl) (Nat.zero_le _) (Nat.zero_le _) (by simp [Value.category]) (by decide +kernel) rfl (fun v Z5 q9 => ?_)
      obtain ⟨rfl, hS9⟩ := q9
      subst hS9
      refine V.eq (S' := S) (ls' := [some (.ref (ax 10 0)), some (.ref (ax 5 e))]) (st' := [.int (one9 true)]) rfl rfl rfl ?_
      exact V.iret h hA hr rfl (by rw [show audC A = one9 true from by unfold audC; rw [hee, if_neg (by rw [q22_25]; decide), q38_38]; rfl] at hp; exact hp) (by decide +kernel) (Nat.zero_le _) (Nat.zero_le _)
  · have q22_25 := (bI_0.mp q)
    clear q
    refine V.blk h [(.iconst 0, 1)] (by decide +kernel) (pc' := 26) (ls' := [some (.ref (ax 10 0)), some (.ref (ax 5 e))]) (st' := [.int (nI (0))]) rfl rfl (Nat.le_of_ble_eq_true rfl) ?_
    exact V.iret h hA hr rfl (by rw [show audC A = nI 0 from by unfold audC; rw [hee, if_pos q22_25]] at hp; exact hp) (by decide +kernel) (Nat.zero_le _) (Nat.zero_le _)
set_option maxRecDepth 100000 in
set_option maxHeartbeats 4000000 in
theorem c_count {l : Launch} {D : va_G} {tc : Nat → ClassId} {ax ay : Nat → Nat → Nat} {A : TS} {S : HS} (hls : l.stackTraces = false) (hS : RA tc (mx ax ay) A S) {t : Nat}  (ht : t < 9) {post : Option Value → HS → Prop} (hp : post (some (.int (nI (if t = 1 then tf A 5 else if t = 2 then tf A 6 else cntV A t)))) S) : CM l D tc yX10_count cX10_count 2 (some .int) 3 0 0 [.ref (ax 10 0), .int (nI (t))] S post := by
  refine CM.of hls (by decide +kernel) (by simp [Value.category]) (Nat.le_of_ble_eq_true rfl) (fun A0 p e9 s m args below meth c sz h hr hnm hA => ?_)
  have h5 := hS.2.2.2.1.1
  have h12 := hS.2.2.2.1.2.1
  have h53 := hS.2.2.2.1.2.2.2.2
  have hf3 := hS.2.2.1.2.1
  have hf1 := hS.2.2.1.1
  refine V.eqL (ls' := [some (.ref (ax 10 0)), some (.int (nI (t)))]) rfl ?_
  refine V.blk h [(.iload_n 1, 1)] (by decide +kernel) (pc' := 1) (ls' := [some (.ref (ax 10 0)), some (.int (nI (t)))]) (st' := [.int (nI (t))]) rfl rfl (Nat.le_of_ble_eq_true rfl) ?_
  rcases (show t = 0 ∨ t = 1 ∨ t = 2 ∨ t = 3 ∨ t = 4 ∨ t = 5 ∨ t = 6 ∨ t = 7 ∨ t = 8 from by omega) with rfl | rfl | rfl | rfl | rfl | rfl | rfl | rfl | rfl
  · skip
    refine V.tableN h (dflt := 109) (hi := 8) (offs := #[51, 59, 67, 75, 80, 88, 94, 99, 104]) (len := 51) (x := 0) (off := 51) (tgt := 52) (by decide) (by decide +kernel) (by decide) rfl (by decide) ?_
    refine V.blk h [(.aload_n 0, 1)] (by decide +kernel) (pc' := 53) (ls' := [some (.ref (ax 10 0)), some (.int (nI (0)))]) (st' := [.ref (ax 10 0)]) rfl rfl (Nat.le_of_ble_eq_true rfl) ?_
    refine V.getP h cls_10 (j := 3) rfl (hS.mem (show lv A 10 0 from rfl)) (hS.knd (show lv A 10 0 from rfl)) (Or.inl wf_RX10_26) (by decide +kernel) (v := some (ax 7 0)) (hS.ptr (show lv A 10 0 from rfl) (by decide) (by decide) rfl) ?_
    refine V.eq (S' := S) (ls' := [some (.ref (ax 10 0)), some (.int (nI (0)))]) (st' := [.ref (ax 7 0)]) rfl rfl rfl ?_
    refine V.callV h (np := 0) (st := []) (c_r_size hls hS (post := fun v Sq7 => v = some (.int (nI (tf A 53))) ∧ S = Sq7) ⟨rfl, rfl⟩) wc_X7_size wn_RX7 (Or.inr ⟨_, wm_RX10_121⟩) wi_X7_size we_X7_size (by decide +kernel) rfl cls_7 (hS.mem (show lv A 7 0 from rfl)) (hS.knd (show lv A 7 0 from rfl)) (Nat.le_of_ble_eq_true rfl) (Nat.le_of_ble_eq_true rfl) (Nat.zero_le _) (Nat.zero_le _) (by simp [Value.category]) (by decide +kernel) rfl (fun v Z1 q9 => ?_)
    obtain ⟨rfl, hS9⟩ := q9
    subst hS9
    refine V.eq (S' := S) (ls' := [some (.ref (ax 10 0)), some (.int (nI (0)))]) (st' := [.int (nI (tf A 53))]) rfl rfl rfl ?_
    exact V.iret h hA hr rfl hp (by decide +kernel) (Nat.zero_le _) (Nat.zero_le _)
  · skip
    refine V.tableN h (dflt := 109) (hi := 8) (offs := #[51, 59, 67, 75, 80, 88, 94, 99, 104]) (len := 51) (x := 1) (off := 59) (tgt := 60) (by decide) (by decide +kernel) (by decide) rfl (by decide) ?_
    refine V.blk h [(.aload_n 0, 1)] (by decide +kernel) (pc' := 61) (ls' := [some (.ref (ax 10 0)), some (.int (nI (1)))]) (st' := [.ref (ax 10 0)]) rfl rfl (Nat.le_of_ble_eq_true rfl) ?_
    refine V.getP h cls_10 (j := 7) rfl (hS.mem (show lv A 10 0 from rfl)) (hS.knd (show lv A 10 0 from rfl)) (Or.inl wf_RX10_58) (by decide +kernel) (v := some (ax 0 1)) (hS.ptr (show lv A 10 0 from rfl) (by decide) (by decide) rfl) ?_
    refine V.eq (S' := S) (ls' := [some (.ref (ax 10 0)), some (.int (nI (1)))]) (st' := [.ref (ax 0 1)]) rfl rfl rfl ?_
    refine V.callV h (np := 0) (st := []) (s_mas hls hS (post := fun v Sq7 => v = some (.int (nI (tf A 5))) ∧ S = Sq7) ⟨rfl, rfl⟩) wc_Jx4a65c_size_8abf5 wn_RJx4a65c (Or.inl wm_RX10_85) wi_Jx4a65c_size_8abf5 we_Jx4a65c_size_8abf5 (by decide +kernel) rfl cls_0 (hS.mem (show lv A 0 1 from (Or.inl (by decide)))) (hS.knd (show lv A 0 1 from (Or.inl (by decide)))) (Nat.le_of_ble_eq_true rfl) (Nat.le_of_ble_eq_true rfl) (Nat.zero_le _) (Nat.zero_le _) (by simp [Value.category]) (by decide +kernel) rfl (fun v Z2 q9 => ?_)
    obtain ⟨rfl, hS9⟩ := q9
    subst hS9
    refine V.eq (S' := S) (ls' := [some (.ref (ax 10 0)), some (.int (nI (1)))]) (st' := [.int (nI (tf A 5))]) rfl rfl rfl ?_
    exact V.iret h hA hr rfl hp (by decide +kernel) (Nat.zero_le _) (Nat.zero_le _)
  · skip
    refine V.tableN h (dflt := 109) (hi := 8) (offs := #[51, 59, 67, 75, 80, 88, 94, 99, 104]) (len := 51) (x := 2) (off := 67) (tgt := 68) (by decide) (by decide +kernel) (by decide) rfl (by decide) ?_
    refine V.blk h [(.aload_n 0, 1)] (by decide +kernel) (pc' := 69) (ls' := [some (.ref (ax 10 0)), some (.int (nI (2)))]) (st' := [.ref (ax 10 0)]) rfl rfl (Nat.le_of_ble_eq_true rfl) ?_
    refine V.getP h cls_10 (j := 8) rfl (hS.mem (show lv A 10 0 from rfl)) (hS.knd (show lv A 10 0 from rfl)) (Or.inl wf_RX10_71) (by decide +kernel) (v := some (ax 0 2)) (hS.ptr (show lv A 10 0 from rfl) (by decide) (by decide) rfl) ?_
    refine V.eq (S' := S) (ls' := [some (.ref (ax 10 0)), some (.int (nI (2)))]) (st' := [.ref (ax 0 2)]) rfl rfl rfl ?_
    refine V.callV h (np := 0) (st := []) (s_ops hls hS (post := fun v Sq7 => v = some (.int (nI (tf A 6))) ∧ S = Sq7) ⟨rfl, rfl⟩) wc_Jx4a65c_size_8abf5 wn_RJx4a65c (Or.inl wm_RX10_85) wi_Jx4a65c_size_8abf5 we_Jx4a65c_size_8abf5 (by decide +kernel) rfl cls_0 (hS.mem (show lv A 0 2 from (Or.inl (by decide)))) (hS.knd (show lv A 0 2 from (Or.inl (by decide)))) (Nat.le_of_ble_eq_true rfl) (Nat.le_of_ble_eq_true rfl) (Nat.zero_le _) (Nat.zero_le _) (by simp [Value.category]) (by decide +kernel) rfl (fun v Z3 q9 => ?_)
    obtain ⟨rfl, hS9⟩ := q9
    subst hS9
    refine V.eq (S' := S) (ls' := [some (.ref (ax 10 0)), some (.int (nI (2)))]) (st' := [.int (nI (tf A 6))]) rfl rfl rfl ?_
    exact V.iret h hA hr rfl hp (by decide +kernel) (Nat.zero_le _) (Nat.zero_le _)
  · skip
    refine V.tableN h (dflt := 109) (hi := 8) (offs := #[51, 59, 67, 75, 80, 88, 94, 99, 104]) (len := 51) (x := 3) (off := 75) (tgt := 76) (by decide) (by decide +kernel) (by decide) rfl (by decide) ?_
    refine V.blk h [(.aload_n 0, 1)] (by decide +kernel) (pc' := 77) (ls' := [some (.ref (ax 10 0)), some (.int (nI (3)))]) (st' := [.ref (ax 10 0)]) rfl rfl (Nat.le_of_ble_eq_true rfl) ?_
    refine V.getI h cls_10 (j := 9) rfl (hS.mem (show lv A 10 0 from rfl)) (hS.knd (show lv A 10 0 from rfl)) (Or.inl wf_RX10_247) (by decide +kernel) (v := nI (tf A 15)) (hS.int (show lv A 10 0 from rfl) (by decide) (by decide) rfl) ?_
    exact V.iret h hA hr rfl hp (by decide +kernel) (Nat.zero_le _) (Nat.zero_le _)
  · skip
    refine V.tableN h (dflt := 109) (hi := 8) (offs := #[51, 59, 67, 75, 80, 88, 94, 99, 104]) (len := 51) (x := 4) (off := 80) (tgt := 81) (by decide) (by decide +kernel) (by decide) rfl (by decide) ?_
    refine V.blk h [(.aload_n 0, 1)] (by decide +kernel) (pc' := 82) (ls' := [some (.ref (ax 10 0)), some (.int (nI (4)))]) (st' := [.ref (ax 10 0)]) rfl rfl (Nat.le_of_ble_eq_true rfl) ?_
    refine V.getP h cls_10 (j := 3) rfl (hS.mem (show lv A 10 0 from rfl)) (hS.knd (show lv A 10 0 from rfl)) (Or.inl wf_RX10_26) (by decide +kernel) (v := some (ax 7 0)) (hS.ptr (show lv A 10 0 from rfl) (by decide) (by decide) rfl) ?_
    refine V.eq (S' := S) (ls' := [some (.ref (ax 10 0)), some (.int (nI (4)))]) (st' := [.ref (ax 7 0)]) rfl rfl rfl ?_
    refine V.getI h cls_7 (j := 1) rfl (hS.mem (show lv A 7 0 from rfl)) (hS.knd (show lv A 7 0 from rfl)) (Or.inr ⟨_, wf_RX10_250⟩) (by decide +kernel) (v := nI (tf A 54)) (hS.int (show lv A 7 0 from rfl) (by decide) (by decide) rfl) ?_
    exact V.iret h hA hr rfl hp (by decide +kernel) (Nat.zero_le _) (Nat.zero_le _)
  · skip
    refine V.tableN h (dflt := 109) (hi := 8) (offs := #[51, 59, 67, 75, 80, 88, 94, 99, 104]) (len := 51) (x := 5) (off := 88) (tgt := 89) (by decide) (by decide +kernel) (by decide) rfl (by decide) ?_
    refine V.blk h [(.aload_n 0, 1)] (by decide +kernel) (pc' := 90) (ls' := [some (.ref (ax 10 0)), some (.int (nI (5)))]) (st' := [.ref (ax 10 0)]) rfl rfl (Nat.le_of_ble_eq_true rfl) ?_
    refine V.getP h cls_10 (j := 5) rfl (hS.mem (show lv A 10 0 from rfl)) (hS.knd (show lv A 10 0 from rfl)) (Or.inl wf_RX10_39) (by decide +kernel) (v := some (ax 25 0)) (hS.ptr (show lv A 10 0 from rfl) (by decide) (by decide) rfl) ?_
    refine V.eq (S' := S) (ls' := [some (.ref (ax 10 0)), some (.int (nI (5)))]) (st' := [.ref (ax 25 0)]) rfl rfl rfl ?_
    refine V.alen h 25 (hS.mem (show lv A 25 0 from rfl)) (hS.knd (show lv A 25 0 from rfl)) (by decide) (M := tf A 1) (hS.len (show lv A 25 0 from rfl) (by decide)) (by decide +kernel) ?_
    exact V.iret h hA hr rfl hp (by decide +kernel) (Nat.zero_le _) (Nat.zero_le _)
  · skip
    refine V.tableN h (dflt := 109) (hi := 8) (offs := #[51, 59, 67, 75, 80, 88, 94, 99, 104]) (len := 51) (x := 6) (off := 94) (tgt := 95) (by decide) (by decide +kernel) (by decide) rfl (by decide) ?_
    refine V.blk h [(.aload_n 0, 1)] (by decide +kernel) (pc' := 96) (ls' := [some (.ref (ax 10 0)), some (.int (nI (6)))]) (st' := [.ref (ax 10 0)]) rfl rfl (Nat.le_of_ble_eq_true rfl) ?_
    refine V.getI h cls_10 (j := 0) rfl (hS.mem (show lv A 10 0 from rfl)) (hS.knd (show lv A 10 0 from rfl)) (Or.inl wf_RX10_13) (by decide +kernel) (v := nI (tf A 2)) (hS.int (show lv A 10 0 from rfl) (by decide) (by decide) rfl) ?_
    exact V.iret h hA hr rfl hp (by decide +kernel) (Nat.zero_le _) (Nat.zero_le _)
  · skip
    refine V.tableN h (dflt := 109) (hi := 8) (offs := #[51, 59, 67, 75, 80, 88, 94, 99, 104]) (len := 51) (x := 7) (off := 99) (tgt := 100) (by decide) (by decide +kernel) (by decide) rfl (by decide) ?_
    refine V.blk h [(.aload_n 0, 1)] (by decide +kernel) (pc' := 101) (ls' := [some (.ref (ax 10 0)), some (.int (nI (7)))]) (st' := [.ref (ax 10 0)]) rfl rfl (Nat.le_of_ble_eq_true rfl) ?_
    refine V.getI h cls_10 (j := 1) rfl (hS.mem (show lv A 10 0 from rfl)) (hS.knd (show lv A 10 0 from rfl)) (Or.inl wf_RX10_17) (by decide +kernel) (v := nI (tf A 3)) (hS.int (show lv A 10 0 from rfl) (by decide) (by decide) rfl) ?_
    exact V.iret h hA hr rfl hp (by decide +kernel) (Nat.zero_le _) (Nat.zero_le _)
  · skip
    refine V.tableN h (dflt := 109) (hi := 8) (offs := #[51, 59, 67, 75, 80, 88, 94, 99, 104]) (len := 51) (x := 8) (off := 104) (tgt := 105) (by decide) (by decide +kernel) (by decide) rfl (by decide) ?_
    refine V.blk h [(.aload_n 0, 1)] (by decide +kernel) (pc' := 106) (ls' := [some (.ref (ax 10 0)), some (.int (nI (8)))]) (st' := [.ref (ax 10 0)]) rfl rfl (Nat.le_of_ble_eq_true rfl) ?_
    refine V.getI h cls_10 (j := 2) rfl (hS.mem (show lv A 10 0 from rfl)) (hS.knd (show lv A 10 0 from rfl)) (Or.inl wf_RX10_20) (by decide +kernel) (v := nI (tf A 4)) (hS.int (show lv A 10 0 from rfl) (by decide) (by decide) rfl) ?_
    exact V.iret h hA hr rfl hp (by decide +kernel) (Nat.zero_le _) (Nat.zero_le _)
set_option maxRecDepth 100000 in
set_option maxHeartbeats 4000000 in
theorem c_count_w {l : Launch} {D : va_G} {tc : Nat → ClassId} {ax ay : Nat → Nat → Nat} {A : TS} {S : HS} (hls : l.stackTraces = false) (hS : RA tc (mx ax ay) A S) {y : Int32}  (hy : noIx y 9 = true) {post : Option Value → HS → Prop} (hp : post (some (.int (oI 0))) S) : CM l D tc yX10_count cX10_count 2 (some .int) 3 0 0 [.ref (ax 10 0), .int (y)] S post := by
  refine CM.of hls (by decide +kernel) (by simp [Value.category]) (Nat.le_of_ble_eq_true rfl) (fun A0 p e9 s m args below meth c sz h hr hnm hA => ?_)
  have h5 := hS.2.2.2.1.1
  have h12 := hS.2.2.2.1.2.1
  have h53 := hS.2.2.2.1.2.2.2.2
  have hf3 := hS.2.2.1.2.1
  have hf1 := hS.2.2.1.1
  refine V.eqL (ls' := [some (.ref (ax 10 0)), some (.int (y))]) rfl ?_
  refine V.blk h [(.iload_n 1, 1)] (by decide +kernel) (pc' := 1) (ls' := [some (.ref (ax 10 0)), some (.int (y))]) (st' := [.int (y)]) rfl rfl (Nat.le_of_ble_eq_true rfl) ?_
  refine V.tableOut h (lo := 0) (dflt := 109) (hi := 8) (offs := #[51, 59, 67, 75, 80, 88, 94, 99, 104]) (len := 51) (x := y) (tgt := 110) (by decide +kernel) (noIx_out (by decide) hy) (by decide) ?_
  refine V.m1 h (by decide +kernel) (Nat.le_of_ble_eq_true rfl) ?_
  exact V.iret h hA hr rfl hp (by decide +kernel) (Nat.zero_le _) (Nat.zero_le _)
