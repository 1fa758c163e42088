/-! ===== the class itself: ask ===== -/
def asC1 (A : TS) (c wh ky : Nat) (v : Int32) : TS := sn (sf (nwO (sf A 14 (tf A 14 + 1)) c (asnF A c) wh ky v (tf A 14 + 1)) 6 (tf A 6 + 1)) 16 c (tf A 13 + 1)
def askC (A : TS) (c wh ky : Nat) (v : Int32) : TS := begC (asC1 A c wh ky v) c (tf A 13)
theorem asC1_NB {K : Nat} {A : TS} {c wh ky : Nat} {v : Int32} (h : NB K A) (hc : c ≤ K) (hw : wh ≤ K) (hk : ky ≤ K) : NB (K + 1) (asC1 A c wh ky v) := by
  have h' := h.mono (K' := K + 1) (by omega)
  have a := h.1 13
  have b := h.1 14
  have g := h.1 6
  have d := asn_le h c
  have n0 : NB (K + 1) (sf A 14 (tf A 14 + 1)) := h'.sf (by omega)
  have n1 : NB (K + 1) (nwO (sf A 14 (tf A 14 + 1)) c (asnF A c) wh ky v (tf A 14 + 1)) := (((((((((n0.sf (show tf A 13 + 1 ≤ K + 1 by omega)).sn (by omega)).sn d).sn (by omega)).sn (by omega)).sr).sn (by omega)).sn (by omega)).sr)
  exact (n1.sf (by omega)).sn (by omega)
theorem begC_6 {A : TS} {c op x : Nat} : tn (begC A c op) 6 x = tn A 6 x := by
  have h := (begC0_keep A c op).2 6 x (by decide) (by decide)
  unfold begC
  split
  · exact ((begL_keep (begC0 A c op) (tn A 17 c) op (tf A 1)).2.1 6 x (by decide)).trans h
  · exact h
set_option maxRecDepth 100000 in
set_option maxHeartbeats 4000000 in
theorem c_ask_n {l : Launch} {D : va_G} {tc : Nat → ClassId} {ax ay : Nat → Nat → Nat} {A : TS} {S : HS} (hls : l.stackTraces = false) (hS : RA tc (mx ax ay) A S) {c9 : Nat} {wh : Nat} {ky : Nat} {v9 : Int32} {K : Nat}  (hc : c9 < 4) (hky : ky < 16) (hwh : wh < 3) (hD : ∀ i, tn A 11 i ≠ 1) (ho : opnF A c9 = true) (hB : NB K A) (hK : K < 1700000000) (h9 : 700 ≤ K) {post : Option Value → HS → Prop} (hp : post (some (.int (oI 0))) S) : CM l D tc yX10_ask cX10_ask 7 (some .int) 3 0 0 [.ref (ax 10 0), .int (nI (c9)), .int (nI (wh)), .int (nI (ky)), .int (v9)] S post := by
  refine CM.of hls (by decide +kernel) (by simp [Value.category]) (Nat.le_of_ble_eq_true rfl) (fun A0 p e9 s m args below meth c sz h hr hnm hA => ?_)
  have h5 := hS.2.2.2.1.1
  have h12 := hS.2.2.2.1.2.1
  have h53 := hS.2.2.2.1.2.2.2.2
  have hf3 := hS.2.2.1.2.1
  have hf1 := hS.2.2.1.1
  refine V.eqL (ls' := [some (.ref (ax 10 0)), some (.int (nI (c9))), some (.int (nI (wh))), some (.int (nI (ky))), some (.int (v9)), none, none]) rfl ?_
  refine V.blk h [(.iload_n 1, 1), (.aload_n 0, 1)] (by decide +kernel) (pc' := 2) (ls' := [some (.ref (ax 10 0)), some (.int (nI (c9))), some (.int (nI (wh))), some (.int (nI (ky))), some (.int (v9)), none, none]) (st' := [.ref (ax 10 0), .int (nI (c9))]) rfl rfl (Nat.le_of_ble_eq_true rfl) ?_
  refine V.getP h cls_10 (j := 4) rfl (hS.mem (show lv A 10 0 from rfl)) (hS.knd (show lv A 10 0 from rfl)) (Or.inl wf_RX10_32) (by decide +kernel) (v := some (ax 24 0)) (hS.ptr (show lv A 10 0 from rfl) (by decide) (by decide) rfl) ?_
  refine V.eq (S' := S) (ls' := [some (.ref (ax 10 0)), some (.int (nI (c9))), some (.int (nI (wh))), some (.int (nI (ky))), some (.int (v9)), none, none]) (st' := [.ref (ax 24 0), .int (nI (c9))]) rfl rfl rfl ?_
  refine V.alen h 24 (hS.mem (show lv A 24 0 from rfl)) (hS.knd (show lv A 24 0 from rfl)) (by decide) (M := 4) (hS.len (show lv A 24 0 from rfl) (by decide)) (by decide +kernel) ?_
  refine V.callS h (np := 2) (st := []) (c_checkIndex hls (x := nI c9) (n := 4) (noIx_nI (by omega) (by omega)) (post := fun v Sq7 => v = none ∧ S = Sq7) ⟨rfl, rfl⟩) wc_X10_checkIndex wn_RX10 (Or.inl wm_RX10_74) wt_X10_checkIndex (by decide +kernel) rfl (Nat.le_of_ble_eq_true rfl) (Nat.le_of_ble_eq_true rfl) (Nat.zero_le _) (Nat.zero_le _) (by simp [Value.category]) (by decide +kernel) rfl (fun v Z1 q9 => ?_)
  obtain ⟨rfl, hS9⟩ := q9
  subst hS9
  refine V.blk h [(.iload_n 3, 1), (.bipush 16, 2)] (by decide +kernel) (pc' := 12) (ls' := [some (.ref (ax 10 0)), some (.int (nI (c9))), some (.int (nI (wh))), some (.int (nI (ky))), some (.int (v9)), none, none]) (st' := [.int (nI (16)), .int (nI (ky))]) rfl rfl (Nat.le_of_ble_eq_true rfl) ?_
  refine V.callS h (np := 2) (st := []) (c_checkIndex hls (x := nI ky) (n := 16) (noIx_nI (by omega) (by omega)) (post := fun v Sq7 => v = none ∧ S = Sq7) ⟨rfl, rfl⟩) wc_X10_checkIndex wn_RX10 (Or.inl wm_RX10_74) wt_X10_checkIndex (by decide +kernel) rfl (Nat.le_of_ble_eq_true rfl) (Nat.le_of_ble_eq_true rfl) (Nat.zero_le _) (Nat.zero_le _) (by simp [Value.category]) (by decide +kernel) rfl (fun v Z2 q9 => ?_)
  obtain ⟨rfl, hS9⟩ := q9
  subst hS9
  refine V.blk h [(.iload_n 2, 1), (.iconst 2, 1)] (by decide +kernel) (pc' := 17) (ls' := [some (.ref (ax 10 0)), some (.int (nI (c9))), some (.int (nI (wh))), some (.int (nI (ky))), some (.int (v9)), none, none]) (st' := [.int (nI (2)), .int (nI (wh))]) rfl rfl (Nat.le_of_ble_eq_true rfl) ?_
  refine V.callS h (np := 2) (st := []) (c_checkWhat hls (x := nI wh) (n := 2) (by decide) (noIx_nI (by omega) (by omega)) (post := fun v Sq7 => v = none ∧ S = Sq7) ⟨rfl, rfl⟩) wc_X10_checkWhat wn_RX10 (Or.inl wm_RX10_78) wt_X10_checkWhat (by decide +kernel) rfl (Nat.le_of_ble_eq_true rfl) (Nat.le_of_ble_eq_true rfl) (Nat.zero_le _) (Nat.zero_le _) (by simp [Value.category]) (by decide +kernel) rfl (fun v Z3 q9 => ?_)
  obtain ⟨rfl, hS9⟩ := q9
  subst hS9
  refine V.blk h [(.aload_n 0, 1)] (by decide +kernel) (pc' := 21) (ls' := [some (.ref (ax 10 0)), some (.int (nI (c9))), some (.int (nI (wh))), some (.int (nI (ky))), some (.int (v9)), none, none]) (st' := [.ref (ax 10 0)]) rfl rfl (Nat.le_of_ble_eq_true rfl) ?_
  refine V.getP h cls_10 (j := 4) rfl (hS.mem (show lv A 10 0 from rfl)) (hS.knd (show lv A 10 0 from rfl)) (Or.inl wf_RX10_32) (by decide +kernel) (v := some (ax 24 0)) (hS.ptr (show lv A 10 0 from rfl) (by decide) (by decide) rfl) ?_
  refine V.eq (S' := S) (ls' := [some (.ref (ax 10 0)), some (.int (nI (c9))), some (.int (nI (wh))), some (.int (nI (ky))), some (.int (v9)), none, none]) (st' := [.ref (ax 24 0)]) rfl rfl rfl ?_
  refine V.blk h [(.iload_n 1, 1)] (by decide +kernel) (pc' := 25) (ls' := [some (.ref (ax 10 0)), some (.int (nI (c9))), some (.int (nI (wh))), some (.int (nI (ky))), some (.int (v9)), none, none]) (st' := [.int (nI (c9)), .ref (ax 24 0)]) rfl rfl (Nat.le_of_ble_eq_true rfl) ?_
  refine V.aald h 24 (hS.mem (show lv A 24 0 from rfl)) (hS.knd (show lv A 24 0 from rfl)) (by decide) rfl (M := 4) (hS.len (show lv A 24 0 from rfl) (by decide)) (i := c9) (by omega) (by show _ < 2 ^ 31; first | omega | decide) (by decide +kernel) (v := some (ax 2 c9)) (hS.ref (show lv A 24 0 from rfl) (by decide) (by show _ < 4; omega)) ?_
  refine V.eq (S' := S) (ls' := [some (.ref (ax 10 0)), some (.int (nI (c9))), some (.int (nI (wh))), some (.int (nI (ky))), some (.int (v9)), none, none]) (st' := [.ref (ax 2 c9)]) rfl rfl rfl ?_
  refine V.blk h [(.astore 5, 2), (.aload 5, 2)] (by decide +kernel) (pc' := 30) (ls' := [some (.ref (ax 10 0)), some (.int (nI (c9))), some (.int (nI (wh))), some (.int (nI (ky))), some (.int (v9)), some (.ref (ax 2 c9)), none]) (st' := [.ref (ax 2 c9)]) rfl rfl (Nat.le_of_ble_eq_true rfl) ?_
  refine V.callV h (np := 0) (st := []) (c_isBusy hls hS (c9 := c9) hc hB (by omega) hD (post := fun v Sq7 => v = some (.int (bI (opnF A c9))) ∧ S = Sq7) ⟨rfl, rfl⟩) wc_X2_isBusy wn_RX2 (Or.inr ⟨_, wm_RX10_81⟩) wi_X2_isBusy we_X2_isBusy (by decide +kernel) rfl cls_2 (hS.mem (show lv A 2 c9 from hc)) (hS.knd (show lv A 2 c9 from hc)) (Nat.le_of_ble_eq_true rfl) (Nat.le_of_ble_eq_true rfl) (Nat.zero_le _) (Nat.zero_le _) (by simp [Value.category]) (by decide +kernel) rfl (fun v Z4 q9 => ?_)
  obtain ⟨rfl, hS9⟩ := q9
  subst hS9
  refine V.eq (S' := S) (ls' := [some (.ref (ax 10 0)), some (.int (nI (c9))), some (.int (nI (wh))), some (.int (nI (ky))), some (.int (v9)), some (.ref (ax 2 c9)), none]) (st' := [.int (bI (opnF A c9))]) rfl rfl rfl ?_
  refine V.if_ne h (off := 16) (by decide +kernel) (tgt := 49) (by decide) (fun q => ?_) (fun q => ?_)
  · have q33_32 := (bI_1 (fun z => q (bI_0.mpr z)))
    clear q
    refine V.m1 h (by decide +kernel) (Nat.le_of_ble_eq_true rfl) ?_
    exact V.iret h hA hr rfl hp (by decide +kernel) (Nat.zero_le _) (Nat.zero_le _)
  · have q33_32 := (bI_0.mp q)
    clear q
    exact absurd (ho.symm.trans q33_32) (by decide)
set_option maxRecDepth 100000 in
set_option maxHeartbeats 4000000 in
theorem c_ask_f {l : Launch} {D : va_G} {tc : Nat → ClassId} {ax ay : Nat → Nat → Nat} {A : TS} {S : HS} (hls : l.stackTraces = false) (hS : RA tc (mx ax ay) A S) {c9 : Nat} {wh : Nat} {ky : Nat} {v9 : Int32} {K : Nat}  (hc : c9 < 4) (hky : ky < 16) (hwh : wh < 3) (hD : ∀ i, tn A 11 i ≠ 1) (ho : opnF A c9 = false) (h600 : tf A 6 = 600) (hB : NB K A) (hK : K < 1700000000) (h9 : 700 ≤ K) {post : Option Value → HS → Prop} (hp : post (some (.int (oI 0))) S) : CM l D tc yX10_ask cX10_ask 7 (some .int) 3 0 0 [.ref (ax 10 0), .int (nI (c9)), .int (nI (wh)), .int (nI (ky)), .int (v9)] S post := by
  refine CM.of hls (by decide +kernel) (by simp [Value.category]) (Nat.le_of_ble_eq_true rfl) (fun A0 p e9 s m args below meth c sz h hr hnm hA => ?_)
  have h5 := hS.2.2.2.1.1
  have h12 := hS.2.2.2.1.2.1
  have h53 := hS.2.2.2.1.2.2.2.2
  have hf3 := hS.2.2.1.2.1
  have hf1 := hS.2.2.1.1
  refine V.eqL (ls' := [some (.ref (ax 10 0)), some (.int (nI (c9))), some (.int (nI (wh))), some (.int (nI (ky))), some (.int (v9)), none, none]) rfl ?_
  refine V.blk h [(.iload_n 1, 1), (.aload_n 0, 1)] (by decide +kernel) (pc' := 2) (ls' := [some (.ref (ax 10 0)), some (.int (nI (c9))), some (.int (nI (wh))), some (.int (nI (ky))), some (.int (v9)), none, none]) (st' := [.ref (ax 10 0), .int (nI (c9))]) rfl rfl (Nat.le_of_ble_eq_true rfl) ?_
  refine V.getP h cls_10 (j := 4) rfl (hS.mem (show lv A 10 0 from rfl)) (hS.knd (show lv A 10 0 from rfl)) (Or.inl wf_RX10_32) (by decide +kernel) (v := some (ax 24 0)) (hS.ptr (show lv A 10 0 from rfl) (by decide) (by decide) rfl) ?_
  refine V.eq (S' := S) (ls' := [some (.ref (ax 10 0)), some (.int (nI (c9))), some (.int (nI (wh))), some (.int (nI (ky))), some (.int (v9)), none, none]) (st' := [.ref (ax 24 0), .int (nI (c9))]) rfl rfl rfl ?_
  refine V.alen h 24 (hS.mem (show lv A 24 0 from rfl)) (hS.knd (show lv A 24 0 from rfl)) (by decide) (M := 4) (hS.len (show lv A 24 0 from rfl) (by decide)) (by decide +kernel) ?_
  refine V.callS h (np := 2) (st := []) (c_checkIndex hls (x := nI c9) (n := 4) (noIx_nI (by omega) (by omega)) (post := fun v Sq7 => v = none ∧ S = Sq7) ⟨rfl, rfl⟩) wc_X10_checkIndex wn_RX10 (Or.inl wm_RX10_74) wt_X10_checkIndex (by decide +kernel) rfl (Nat.le_of_ble_eq_true rfl) (Nat.le_of_ble_eq_true rfl) (Nat.zero_le _) (Nat.zero_le _) (by simp [Value.category]) (by decide +kernel) rfl (fun v Z1 q9 => ?_)
  obtain ⟨rfl, hS9⟩ := q9
  subst hS9
  refine V.blk h [(.iload_n 3, 1), (.bipush 16, 2)] (by decide +kernel) (pc' := 12) (ls' := [some (.ref (ax 10 0)), some (.int (nI (c9))), some (.int (nI (wh))), some (.int (nI (ky))), some (.int (v9)), none, none]) (st' := [.int (nI (16)), .int (nI (ky))]) rfl rfl (Nat.le_of_ble_eq_true rfl) ?_
  refine V.callS h (np := 2) (st := []) (c_checkIndex hls (x := nI ky) (n := 16) (noIx_nI (by omega) (by omega)) (post := fun v Sq7 => v = none ∧ S = Sq7) ⟨rfl, rfl⟩) wc_X10_checkIndex wn_RX10 (Or.inl wm_RX10_74) wt_X10_checkIndex (by decide +kernel) rfl (Nat.le_of_ble_eq_true rfl) (Nat.le_of_ble_eq_true rfl) (Nat.zero_le _) (Nat.zero_le _) (by simp [Value.category]) (by decide +kernel) rfl (fun v Z2 q9 => ?_)
  obtain ⟨rfl, hS9⟩ := q9
  subst hS9
  refine V.blk h [(.iload_n 2, 1), (.iconst 2, 1)] (by decide +kernel) (pc' := 17) (ls' := [some (.ref (ax 10 0)), some (.int (nI (c9))), some (.int (nI (wh))), some (.int (nI (ky))), some (.int (v9)), none, none]) (st' := [.int (nI (2)), .int (nI (wh))]) rfl rfl (Nat.le_of_ble_eq_true rfl) ?_
  refine V.callS h (np := 2) (st := []) (c_checkWhat hls (x := nI wh) (n := 2) (by decide) (noIx_nI (by omega) (by omega)) (post := fun v Sq7 => v = none ∧ S = Sq7) ⟨rfl, rfl⟩) wc_X10_checkWhat wn_RX10 (Or.inl wm_RX10_78) wt_X10_checkWhat (by decide +kernel) rfl (Nat.le_of_ble_eq_true rfl) (Nat.le_of_ble_eq_true rfl) (Nat.zero_le _) (Nat.zero_le _) (by simp [Value.category]) (by decide +kernel) rfl (fun v Z3 q9 => ?_)
  obtain ⟨rfl, hS9⟩ := q9
  subst hS9
  refine V.blk h [(.aload_n 0, 1)] (by decide +kernel) (pc' := 21) (ls' := [some (.ref (ax 10 0)), some (.int (nI (c9))), some (.int (nI (wh))), some (.int (nI (ky))), some (.int (v9)), none, none]) (st' := [.ref (ax 10 0)]) rfl rfl (Nat.le_of_ble_eq_true rfl) ?_
  refine V.getP h cls_10 (j := 4) rfl (hS.mem (show lv A 10 0 from rfl)) (hS.knd (show lv A 10 0 from rfl)) (Or.inl wf_RX10_32) (by decide +kernel) (v := some (ax 24 0)) (hS.ptr (show lv A 10 0 from rfl) (by decide) (by decide) rfl) ?_
  refine V.eq (S' := S) (ls' := [some (.ref (ax 10 0)), some (.int (nI (c9))), some (.int (nI (wh))), some (.int (nI (ky))), some (.int (v9)), none, none]) (st' := [.ref (ax 24 0)]) rfl rfl rfl ?_
  refine V.blk h [(.iload_n 1, 1)] (by decide +kernel) (pc' := 25) (ls' := [some (.ref (ax 10 0)), some (.int (nI (c9))), some (.int (nI (wh))), some (.int (nI (ky))), some (.int (v9)), none, none]) (st' := [.int (nI (c9)), .ref (ax 24 0)]) rfl rfl (Nat.le_of_ble_eq_true rfl) ?_
  refine V.aald h 24 (hS.mem (show lv A 24 0 from rfl)) (hS.knd (show lv A 24 0 from rfl)) (by decide) rfl (M := 4) (hS.len (show lv A 24 0 from rfl) (by decide)) (i := c9) (by omega) (by show _ < 2 ^ 31; first | omega | decide) (by decide +kernel) (v := some (ax 2 c9)) (hS.ref (show lv A 24 0 from rfl) (by decide) (by show _ < 4; omega)) ?_
  refine V.eq (S' := S) (ls' := [some (.ref (ax 10 0)), some (.int (nI (c9))), some (.int (nI (wh))), some (.int (nI (ky))), some (.int (v9)), none, none]) (st' := [.ref (ax 2 c9)]) rfl rfl rfl ?_
  refine V.blk h [(.astore 5, 2), (.aload 5, 2)] (by decide +kernel) (pc' := 30) (ls' := [some (.ref (ax 10 0)), some (.int (nI (c9))), some (.int (nI (wh))), some (.int (nI (ky))), some (.int (v9)), some (.ref (ax 2 c9)), none]) (st' := [.ref (ax 2 c9)]) rfl rfl (Nat.le_of_ble_eq_true rfl) ?_
  refine V.callV h (np := 0) (st := []) (c_isBusy hls hS (c9 := c9) hc hB (by omega) hD (post := fun v Sq7 => v = some (.int (bI (opnF A c9))) ∧ S = Sq7) ⟨rfl, rfl⟩) wc_X2_isBusy wn_RX2 (Or.inr ⟨_, wm_RX10_81⟩) wi_X2_isBusy we_X2_isBusy (by decide +kernel) rfl cls_2 (hS.mem (show lv A 2 c9 from hc)) (hS.knd (show lv A 2 c9 from hc)) (Nat.le_of_ble_eq_true rfl) (Nat.le_of_ble_eq_true rfl) (Nat.zero_le _) (Nat.zero_le _) (by simp [Value.category]) (by decide +kernel) rfl (fun v Z4 q9 => ?_)
  obtain ⟨rfl, hS9⟩ := q9
  subst hS9
  refine V.eq (S' := S) (ls' := [some (.ref (ax 10 0)), some (.int (nI (c9))), some (.int (nI (wh))), some (.int (nI (ky))), some (.int (v9)), some (.ref (ax 2 c9)), none]) (st' := [.int (bI (opnF A c9))]) rfl rfl rfl ?_
  refine V.if_ne h (off := 16) (by decide +kernel) (tgt := 49) (by decide) (fun q => ?_) (fun q => ?_)
  · have q33_32 := (bI_1 (fun z => q (bI_0.mpr z)))
    clear q
    exact absurd (ho.symm.trans q33_32) (by decide)
  · have q33_32 := (bI_0.mp q)
    clear q
    refine V.blk h [(.aload_n 0, 1)] (by decide +kernel) (pc' := 37) (ls' := [some (.ref (ax 10 0)), some (.int (nI (c9))), some (.int (nI (wh))), some (.int (nI (ky))), some (.int (v9)), some (.ref (ax 2 c9)), none]) (st' := [.ref (ax 10 0)]) rfl rfl (Nat.le_of_ble_eq_true rfl) ?_
    refine V.getP h cls_10 (j := 8) rfl (hS.mem (show lv A 10 0 from rfl)) (hS.knd (show lv A 10 0 from rfl)) (Or.inl wf_RX10_71) (by decide +kernel) (v := some (ax 0 2)) (hS.ptr (show lv A 10 0 from rfl) (by decide) (by decide) rfl) ?_
    refine V.eq (S' := S) (ls' := [some (.ref (ax 10 0)), some (.int (nI (c9))), some (.int (nI (wh))), some (.int (nI (ky))), some (.int (v9)), some (.ref (ax 2 c9)), none]) (st' := [.ref (ax 0 2)]) rfl rfl rfl ?_
    refine V.callV h (np := 0) (st := []) (s_ops hls hS (post := fun v Sq7 => v = some (.int (nI (tf A 6))) ∧ S = Sq7) ⟨rfl, rfl⟩) wc_Jx4a65c_size_8abf5 wn_RJx4a65c (Or.inl wm_RX10_85) wi_Jx4a65c_size_8abf5 we_Jx4a65c_size_8abf5 (by decide +kernel) rfl cls_0 (hS.mem (show lv A 0 2 from (Or.inl (by decide)))) (hS.knd (show lv A 0 2 from (Or.inl (by decide)))) (Nat.le_of_ble_eq_true rfl) (Nat.le_of_ble_eq_true rfl) (Nat.zero_le _) (Nat.zero_le _) (by simp [Value.category]) (by decide +kernel) rfl (fun v Z5 q9 => ?_)
    obtain ⟨rfl, hS9⟩ := q9
    subst hS9
    refine V.eq (S' := S) (ls' := [some (.ref (ax 10 0)), some (.int (nI (c9))), some (.int (nI (wh))), some (.int (nI (ky))), some (.int (v9)), some (.ref (ax 2 c9)), none]) (st' := [.int (nI (tf A 6))]) rfl rfl rfl ?_
    have nb45 := hB.1 6
    refine V.blk h [(.sipush 600, 3)] (by decide +kernel) (pc' := 46) (ls' := [some (.ref (ax 10 0)), some (.int (nI (c9))), some (.int (nI (wh))), some (.int (nI (ky))), some (.int (v9)), some (.ref (ax 2 c9)), none]) (st' := [.int (nI (600)), .int (nI (tf A 6))]) rfl rfl (Nat.le_of_ble_eq_true rfl) ?_
    refine V.icmp_lt h (off := 5) (by decide +kernel) (tgt := 51) (by decide) (fun q => ?_) (fun q => ?_)
    · have q46_47 := ((nI_ltI (by omega) (by omega)).mp q)
      clear q
      omega
    · have q46_47 : ¬ _ := (fun z => q ((nI_ltI (by omega) (by omega)).mpr z))
      clear q
      refine V.m1 h (by decide +kernel) (Nat.le_of_ble_eq_true rfl) ?_
      exact V.iret h hA hr rfl hp (by decide +kernel) (Nat.zero_le _) (Nat.zero_le _)
set_option maxRecDepth 100000 in
set_option maxHeartbeats 4000000 in
theorem c_ask {l : Launch} {D : va_G} {tc : Nat → ClassId} {ax ay : Nat → Nat → Nat} {A : TS} {S : HS} (hls : l.stackTraces = false) (hS : RA tc (mx ax ay) A S) {c9 : Nat} {wh : Nat} {ky : Nat} {v9 : Int32} {K : Nat}  (hc : c9 < 4) (hky : ky < 16) (hwh : wh < 3) (hD : ∀ i, tn A 11 i ≠ 1) (ho : opnF A c9 = false) (h600 : tf A 6 < 600) (h613 : tf A 6 = tf A 13) (hB : NB K A) (hK : K < 1700000000) (h9 : 700 ≤ K) {post : Option Value → HS → Prop} (hp : ∀ (S8 : HS) (ax8 ay8 : Nat → Nat → Nat), (∀ g, g ≠ 6 → ax8 g = ax g) → RA tc (mx ax8 ay8) (askC A c9 wh ky v9) S8 → post (some (.int (nI (asnF A c9)))) S8) : CM l D tc yX10_ask cX10_ask 7 (some .int) 9 10 2426 [.ref (ax 10 0), .int (nI (c9)), .int (nI (wh)), .int (nI (ky)), .int (v9)] S post := by
  refine CM.of hls (by decide +kernel) (by simp [Value.category]) (Nat.le_of_ble_eq_true rfl) (fun A0 p e9 s m args below meth c sz h hr hnm hA => ?_)
  have h5 := hS.2.2.2.1.1
  have h12 := hS.2.2.2.1.2.1
  have h53 := hS.2.2.2.1.2.2.2.2
  have hf3 := hS.2.2.1.2.1
  have hf1 := hS.2.2.1.1
  refine V.eqL (ls' := [some (.ref (ax 10 0)), some (.int (nI (c9))), some (.int (nI (wh))), some (.int (nI (ky))), some (.int (v9)), none, none]) rfl ?_
  refine V.blk h [(.iload_n 1, 1), (.aload_n 0, 1)] (by decide +kernel) (pc' := 2) (ls' := [some (.ref (ax 10 0)), some (.int (nI (c9))), some (.int (nI (wh))), some (.int (nI (ky))), some (.int (v9)), none, none]) (st' := [.ref (ax 10 0), .int (nI (c9))]) rfl rfl (Nat.le_of_ble_eq_true rfl) ?_
  refine V.getP h cls_10 (j := 4) rfl (hS.mem (show lv A 10 0 from rfl)) (hS.knd (show lv A 10 0 from rfl)) (Or.inl wf_RX10_32) (by decide +kernel) (v := some (ax 24 0)) (hS.ptr (show lv A 10 0 from rfl) (by decide) (by decide) rfl) ?_
  refine V.eq (S' := S) (ls' := [some (.ref (ax 10 0)), some (.int (nI (c9))), some (.int (nI (wh))), some (.int (nI (ky))), some (.int (v9)), none, none]) (st' := [.ref (ax 24 0), .int (nI (c9))]) rfl rfl rfl ?_
  refine V.alen h 24 (hS.mem (show lv A 24 0 from rfl)) (hS.knd (show lv A 24 0 from rfl)) (by decide) (M := 4) (hS.len (show lv A 24 0 from rfl) (by decide)) (by decide +kernel) ?_
  refine V.callS h (np := 2) (st := []) (c_checkIndex hls (x := nI c9) (n := 4) (noIx_nI (by omega) (by omega)) (post := fun v Sq7 => v = none ∧ S = Sq7) ⟨rfl, rfl⟩) wc_X10_checkIndex wn_RX10 (Or.inl wm_RX10_74) wt_X10_checkIndex (by decide +kernel) rfl (Nat.le_of_ble_eq_true rfl) (Nat.le_of_ble_eq_true rfl) (Nat.zero_le _) (Nat.zero_le _) (by simp [Value.category]) (by decide +kernel) rfl (fun v Z1 q9 => ?_)
  obtain ⟨rfl, hS9⟩ := q9
  subst hS9
  refine V.blk h [(.iload_n 3, 1), (.bipush 16, 2)] (by decide +kernel) (pc' := 12) (ls' := [some (.ref (ax 10 0)), some (.int (nI (c9))), some (.int (nI (wh))), some (.int (nI (ky))), some (.int (v9)), none, none]) (st' := [.int (nI (16)), .int (nI (ky))]) rfl rfl (Nat.le_of_ble_eq_true rfl) ?_
  refine V.callS h (np := 2) (st := []) (c_checkIndex hls (x := nI ky) (n := 16) (noIx_nI (by omega) (by omega)) (post := fun v Sq7 => v = none ∧ S = Sq7) ⟨rfl, rfl⟩) wc_X10_checkIndex wn_RX10 (Or.inl wm_RX10_74) wt_X10_checkIndex (by decide +kernel) rfl (Nat.le_of_ble_eq_true rfl) (Nat.le_of_ble_eq_true rfl) (Nat.zero_le _) (Nat.zero_le _) (by simp [Value.category]) (by decide +kernel) rfl (fun v Z2 q9 => ?_)
  obtain ⟨rfl, hS9⟩ := q9
  subst hS9
  refine V.blk h [(.iload_n 2, 1), (.iconst 2, 1)] (by decide +kernel) (pc' := 17) (ls' := [some (.ref (ax 10 0)), some (.int (nI (c9))), some (.int (nI (wh))), some (.int (nI (ky))), some (.int (v9)), none, none]) (st' := [.int (nI (2)), .int (nI (wh))]) rfl rfl (Nat.le_of_ble_eq_true rfl) ?_
  refine V.callS h (np := 2) (st := []) (c_checkWhat hls (x := nI wh) (n := 2) (by decide) (noIx_nI (by omega) (by omega)) (post := fun v Sq7 => v = none ∧ S = Sq7) ⟨rfl, rfl⟩) wc_X10_checkWhat wn_RX10 (Or.inl wm_RX10_78) wt_X10_checkWhat (by decide +kernel) rfl (Nat.le_of_ble_eq_true rfl) (Nat.le_of_ble_eq_true rfl) (Nat.zero_le _) (Nat.zero_le _) (by simp [Value.category]) (by decide +kernel) rfl (fun v Z3 q9 => ?_)
  obtain ⟨rfl, hS9⟩ := q9
  subst hS9
  refine V.blk h [(.aload_n 0, 1)] (by decide +kernel) (pc' := 21) (ls' := [some (.ref (ax 10 0)), some (.int (nI (c9))), some (.int (nI (wh))), some (.int (nI (ky))), some (.int (v9)), none, none]) (st' := [.ref (ax 10 0)]) rfl rfl (Nat.le_of_ble_eq_true rfl) ?_
  refine V.getP h cls_10 (j := 4) rfl (hS.mem (show lv A 10 0 from rfl)) (hS.knd (show lv A 10 0 from rfl)) (Or.inl wf_RX10_32) (by decide +kernel) (v := some (ax 24 0)) (hS.ptr (show lv A 10 0 from rfl) (by decide) (by decide) rfl) ?_
  refine V.eq (S' := S) (ls' := [some (.ref (ax 10 0)), some (.int (nI (c9))), some (.int (nI (wh))), some (.int (nI (ky))), some (.int (v9)), none, none]) (st' := [.ref (ax 24 0)]) rfl rfl rfl ?_
  refine V.blk h [(.iload_n 1, 1)] (by decide +kernel) (pc' := 25) (ls' := [some (.ref (ax 10 0)), some (.int (nI (c9))), some (.int (nI (wh))), some (.int (nI (ky))), some (.int (v9)), none, none]) (st' := [.int (nI (c9)), .ref (ax 24 0)]) rfl rfl (Nat.le_of_ble_eq_true rfl) ?_
  refine V.aald h 24 (hS.mem (show lv A 24 0 from rfl)) (hS.knd (show lv A 24 0 from rfl)) (by decide) rfl (M := 4) (hS.len (show lv A 24 0 from rfl) (by decide)) (i := c9) (by omega) (by show _ < 2 ^ 31; first | omega | decide) (by decide +kernel) (v := some (ax 2 c9)) (hS.ref (show lv A 24 0 from rfl) (by decide) (by show _ < 4; omega)) ?_
  refine V.eq (S' := S) (ls' := [some (.ref (ax 10 0)), some (.int (nI (c9))), some (.int (nI (wh))), some (.int (nI (ky))), some (.int (v9)), none, none]) (st' := [.ref (ax 2 c9)]) rfl rfl rfl ?_
  refine V.blk h [(.astore 5, 2), (.aload 5, 2)] (by decide +kernel) (pc' := 30) (ls' := [some (.ref (ax 10 0)), some (.int (nI (c9))), some (.int (nI (wh))), some (.int (nI (ky))), some (.int (v9)), some (.ref (ax 2 c9)), none]) (st' := [.ref (ax 2 c9)]) rfl rfl (Nat.le_of_ble_eq_true rfl) ?_
  refine V.callV h (np := 0) (st := []) (c_isBusy hls hS (c9 := c9) hc hB (by omega) hD (post := fun v Sq7 => v = some (.int (bI (opnF A c9))) ∧ S = Sq7) ⟨rfl, rfl⟩) wc_X2_isBusy wn_RX2 (Or.inr ⟨_, wm_RX10_81⟩) wi_X2_isBusy we_X2_isBusy (by decide +kernel) rfl cls_2 (hS.mem (show lv A 2 c9 from hc)) (hS.knd (show lv A 2 c9 from hc)) (Nat.le_of_ble_eq_true rfl) (Nat.le_of_ble_eq_true rfl) (Nat.zero_le _) (Nat.zero_le _) (by simp [Value.category]) (by decide +kernel) rfl (fun v Z4 q9 => ?_)
  obtain ⟨rfl, hS9⟩ := q9
  subst hS9
  refine V.eq (S' := S) (ls' := [some (.ref (ax 10 0)), some (.int (nI (c9))), some (.int (nI (wh))), some (.int (nI (ky))), some (.int (v9)), some (.ref (ax 2 c9)), none]) (st' := [.int (bI (opnF A c9))]) rfl rfl rfl ?_
  refine V.if_ne h (off := 16) (by decide +kernel) (tgt := 49) (by decide) (fun q => ?_) (fun q => ?_)
  · have q33_32 := (bI_1 (fun z => q (bI_0.mpr z)))
    clear q
    exact absurd (ho.symm.trans q33_32) (by decide)
  · have q33_32 := (bI_0.mp q)
    clear q
    refine V.blk h [(.aload_n 0, 1)] (by decide +kernel) (pc' := 37) (ls' := [some (.ref (ax 10 0)), some (.int (nI (c9))), some (.int (nI (wh))), some (.int (nI (ky))), some (.int (v9)), some (.ref (ax 2 c9)), none]) (st' := [.ref (ax 10 0)]) rfl rfl (Nat.le_of_ble_eq_true rfl) ?_
    refine V.getP h cls_10 (j := 8) rfl (hS.mem (show lv A 10 0 from rfl)) (hS.knd (show lv A 10 0 from rfl)) (Or.inl wf_RX10_71) (by decide +kernel) (v := some (ax 0 2)) (hS.ptr (show lv A 10 0 from rfl) (by decide) (by decide) rfl) ?_
    refine V.eq (S' := S) (ls' := [some (.ref (ax 10 0)), some (.int (nI (c9))), some (.int (nI (wh))), some (.int (nI (ky))), some (.int (v9)), some (.ref (ax 2 c9)), none]) (st' := [.ref (ax 0 2)]) rfl rfl rfl ?_
    refine V.callV h (np := 0) (st := []) (s_ops hls hS (post := fun v Sq7 => v = some (.int (nI (tf A 6))) ∧ S = Sq7) ⟨rfl, rfl⟩) wc_Jx4a65c_size_8abf5 wn_RJx4a65c (Or.inl wm_RX10_85) wi_Jx4a65c_size_8abf5 we_Jx4a65c_size_8abf5 (by decide +kernel) rfl cls_0 (hS.mem (show lv A 0 2 from (Or.inl (by decide)))) (hS.knd (show lv A 0 2 from (Or.inl (by decide)))) (Nat.le_of_ble_eq_true rfl) (Nat.le_of_ble_eq_true rfl) (Nat.zero_le _) (Nat.zero_le _) (by simp [Value.category]) (by decide +kernel) rfl (fun v Z5 q9 => ?_)
    obtain ⟨rfl, hS9⟩ := q9
    subst hS9
    refine V.eq (S' := S) (ls' := [some (.ref (ax 10 0)), some (.int (nI (c9))), some (.int (nI (wh))), some (.int (nI (ky))), some (.int (v9)), some (.ref (ax 2 c9)), none]) (st' := [.int (nI (tf A 6))]) rfl rfl rfl ?_
    have nb45 := hB.1 6
    refine V.blk h [(.sipush 600, 3)] (by decide +kernel) (pc' := 46) (ls' := [some (.ref (ax 10 0)), some (.int (nI (c9))), some (.int (nI (wh))), some (.int (nI (ky))), some (.int (v9)), some (.ref (ax 2 c9)), none]) (st' := [.int (nI (600)), .int (nI (tf A 6))]) rfl rfl (Nat.le_of_ble_eq_true rfl) ?_
    refine V.icmp_lt h (off := 5) (by decide +kernel) (tgt := 51) (by decide) (fun q => ?_) (fun q => ?_)
    · have q46_47 := ((nI_ltI (by omega) (by omega)).mp q)
      clear q
      refine V.new h cls_6 wl_RX10_89 wz_RX6 wn_RX6 (by show 0 + 1 ≤ 10; omega) (by show 0 + 8 ≤ 2426; omega) (by decide +kernel) (fun q6 hq6 => ?_)
      have hn7 := hS.ext (hext.rfl.newO (k := 6) hq6)
      refine V.blk h [(.dup, 1), (.iload_n 1, 1), (.aload 5, 2)] (by decide +kernel) (pc' := 58) (ls' := [some (.ref (ax 10 0)), some (.int (nI (c9))), some (.int (nI (wh))), some (.int (nI (ky))), some (.int (v9)), some (.ref (ax 2 c9)), none]) (st' := [.ref (ax 2 c9), .int (nI (c9)), .ref q6, .ref q6]) rfl rfl (Nat.le_of_ble_eq_true rfl) ?_
      refine V.callV h (np := 0) (st := [.int (nI (c9)), .ref q6, .ref q6]) (c_latestNumber hls hn7 (c9 := c9) hc hB (by omega) (post := fun v Sq7 => v = some (.int (nI (if tn A 16 c9 = 0 then 0 else tn A 6 (tn A 16 c9 - 1)))) ∧ (newO S q6 6) = Sq7) ⟨rfl, rfl⟩) wc_X2_latestNumber wn_RX2 (Or.inr ⟨_, wm_RX10_91⟩) wi_X2_latestNumber we_X2_latestNumber (by decide +kernel) rfl cls_2 (hn7.mem (show lv A 2 c9 from hc)) (hn7.knd (show lv A 2 c9 from hc)) (Nat.le_of_ble_eq_true rfl) (Nat.le_of_ble_eq_true rfl) (by show 1 + 0 ≤ 10; omega) (by show 8 + 0 ≤ 2426; omega) (by simp [Value.category]) (by decide +kernel) rfl (fun v Z8 q9 => ?_)
      obtain ⟨rfl, hS9⟩ := q9
      subst hS9
      refine V.eq (S' := (newO S q6 6)) (ls' := [some (.ref (ax 10 0)), some (.int (nI (c9))), some (.int (nI (wh))), some (.int (nI (ky))), some (.int (v9)), some (.ref (ax 2 c9)), none]) (st' := [.int (nI (if tn A 16 c9 = 0 then 0 else tn A 6 (tn A 16 c9 - 1))), .int (nI (c9)), .ref q6, .ref q6]) rfl rfl rfl ?_
      refine V.blk h [(.iconst 1, 1)] (by decide +kernel) (pc' := 62) (ls' := [some (.ref (ax 10 0)), some (.int (nI (c9))), some (.int (nI (wh))), some (.int (nI (ky))), some (.int (v9)), some (.ref (ax 2 c9)), none]) (st' := [.int (nI (1)), .int (nI (if tn A 16 c9 = 0 then 0 else tn A 6 (tn A 16 c9 - 1))), .int (nI (c9)), .ref q6, .ref q6]) rfl rfl (Nat.le_of_ble_eq_true rfl) ?_
      refine V.addN h (by decide +kernel) (Nat.le_of_ble_eq_true rfl) ?_
      refine V.top (v' := .int (nI (asnF A c9))) (by rw [asn_is]) ?_
      refine V.blk h [(.iload_n 2, 1), (.iload_n 3, 1), (.iload 4, 2)] (by decide +kernel) (pc' := 67) (ls' := [some (.ref (ax 10 0)), some (.int (nI (c9))), some (.int (nI (wh))), some (.int (nI (ky))), some (.int (v9)), some (.ref (ax 2 c9)), none]) (st' := [.int (v9), .int (nI (ky)), .int (nI (wh)), .int (nI (asnF A c9)), .int (nI (c9)), .ref q6, .ref q6]) rfl rfl (Nat.le_of_ble_eq_true rfl) ?_
      refine V.callI h (np := 5) (st := [.ref q6]) (c_init6 hls (q := q6) (cl := c9) (nr := asnF A c9) (wh := wh) (ky := ky) (v := v9) (show q6 ∈ zL (newO S q6 6) from List.mem_append_right _ (List.mem_singleton.mpr rfl)) (show zK (newO S q6 6) q6 = 6 from va_up_self _ _ _) (post := fun v Sq7 => v = none ∧ _ = Sq7) ⟨rfl, rfl⟩) wc_X6_init wn_RX6 (Or.inr ⟨_, wm_RX10_94⟩) wi_X6_init rfl (by decide +kernel) rfl (Nat.le_of_ble_eq_true rfl) (Nat.le_of_ble_eq_true rfl) (by show 1 + 0 ≤ 10; omega) (by show 8 + 0 ≤ 2426; omega) (by simp [Value.category]) (by decide +kernel) rfl (fun v Z9 q9 => ?_)
      obtain ⟨rfl, hq9⟩ := q9
      refine V.gen (P := fun S7 => hext S S7 ∧ OT S7 q6 c9 (asnF A c9) wh ky v9) (hq9 ▸ new6 hq6) (fun S10 hS10 => ?_)
      clear hq9
      have hRS10 := hS.ext hS10.1
      refine V.blk h [(.astore 6, 2), (.aload_n 0, 1), (.dup, 1)] (by decide +kernel) (pc' := 74) (ls' := [some (.ref (ax 10 0)), some (.int (nI (c9))), some (.int (nI (wh))), some (.int (nI (ky))), some (.int (v9)), some (.ref (ax 2 c9)), some (.ref q6)]) (st' := [.ref (ax 10 0), .ref (ax 10 0)]) rfl rfl (Nat.le_of_ble_eq_true rfl) ?_
      refine V.getI h cls_10 (j := 10) rfl (hRS10.mem (show lv A 10 0 from rfl)) (hRS10.knd (show lv A 10 0 from rfl)) (Or.inl wf_RX10_97) (by decide +kernel) (v := nI (tf A 14)) (hRS10.int (show lv A 10 0 from rfl) (by decide) (by decide) rfl) ?_
      have nb68 := hB.1 14
      refine V.blk h [(.iconst 1, 1)] (by decide +kernel) (pc' := 78) (ls' := [some (.ref (ax 10 0)), some (.int (nI (c9))), some (.int (nI (wh))), some (.int (nI (ky))), some (.int (v9)), some (.ref (ax 2 c9)), some (.ref q6)]) (st' := [.int (nI (1)), .int (nI (tf A 14)), .ref (ax 10 0)]) rfl rfl (Nat.le_of_ble_eq_true rfl) ?_
      refine V.addN h (by decide +kernel) (Nat.le_of_ble_eq_true rfl) ?_
      refine V.putI h cls_10 (j := 10) rfl (hRS10.mem (show lv A 10 0 from rfl)) (hRS10.knd (show lv A 10 0 from rfl)) (Or.inl wf_RX10_97) rfl rfl rfl (by decide +kernel) ?_
      refine V.blk h [(.aload 6, 2), (.aload_n 0, 1)] (by decide +kernel) (pc' := 85) (ls' := [some (.ref (ax 10 0)), some (.int (nI (c9))), some (.int (nI (wh))), some (.int (nI (ky))), some (.int (v9)), some (.ref (ax 2 c9)), some (.ref q6)]) (st' := [.ref (ax 10 0), .ref q6]) rfl rfl (Nat.le_of_ble_eq_true rfl) ?_
      refine V.getI h cls_10 (j := 10) rfl ((hRS10.p_10_10 (v := tf A 14 + 1)).mem (show lv (sf A 14 (tf A 14 + 1)) 10 0 from rfl)) ((hRS10.p_10_10 (v := tf A 14 + 1)).knd (show lv (sf A 14 (tf A 14 + 1)) 10 0 from rfl)) (Or.inl wf_RX10_97) (by decide +kernel) (v := nI (tf A 14 + 1)) ((hRS10.p_10_10 (v := tf A 14 + 1)).int (show lv (sf A 14 (tf A 14 + 1)) 10 0 from rfl) (by decide) (by decide) rfl) ?_
      refine V.putI (S := (setI S10 (64 * 10 + 10) (ax 10 0) (nI (tf A 14 + 1)))) h cls_6 (j := 5) rfl hS10.2.1 hS10.2.2.1 (Or.inr ⟨_, wf_RX10_100⟩) rfl rfl rfl (by decide +kernel) ?_
      refine V.gen (P := fun S9 => RA tc (mx ax ay) (sf A 14 (tf A 14 + 1)) S9 ∧ OX S9 q6 c9 (asnF A c9) wh ky v9 (tf A 14 + 1)) (OT.at hS hS10.1 hS10.2 hq6) (fun S11 hS11 => ?_)
      have hr1 := RA.newop hS11.1 (show tf A 13 < 600 by omega) hS11.2 (fun i hi z => hq6 (by rw [← z]; exact hS.mem (g := 6) (show lv A 6 i from hi)))
      obtain ⟨ax1, hax1⟩ : ∃ z, z = ax6 ax (tf (sf A 14 (tf A 14 + 1)) 13) q6 := ⟨_, rfl⟩
      rw [← hax1] at hr1
      have hx1 : ∀ g, g ≠ 6 → ax1 g = ax g := fun g hg => by rw [hax1]; funext i; exact if_neg (fun z => hg z.1)
      have hx6 : ax1 6 (tf A 13) = q6 := by rw [hax1]; exact if_pos ⟨rfl, rfl⟩
      obtain ⟨G, hG⟩ : ∃ X9 : TS, X9 = (nwO (sf A 14 (tf A 14 + 1)) c9 (asnF A c9) wh ky v9 (tf A 14 + 1)) := ⟨_, rfl⟩
      rw [← hG] at hr1
      obtain ⟨n1, n2, n3, n4, -⟩ := nwO_row (A := sf A 14 (tf A 14 + 1)) (c := c9) (nr := asnF A c9) (wh := wh) (ky := ky) (v := v9) (at9 := tf A 14 + 1)
      rw [← hG] at n1 n2 n3 n4
      have g6 : tf G 6 = tf A 6 := n1 6
      have g13 : tf G 13 = tf A 13 + 1 := n1 13
      have g1 : tf G 1 = tf A 1 := n1 1
      refine V.eq (S' := S11) (ls' := [some (.ref (ax1 10 0)), some (.int (nI (c9))), some (.int (nI (wh))), some (.int (nI (ky))), some (.int (v9)), some (.ref (ax1 2 c9)), some (.ref (ax1 6 (tf A 13)))]) (st' := []) rfl (by rw [hx6, hx1 10 (by decide), hx1 2 (by decide)]) rfl ?_
      refine V.blk h [(.aload_n 0, 1)] (by decide +kernel) (pc' := 92) (ls' := [some (.ref (ax1 10 0)), some (.int (nI (c9))), some (.int (nI (wh))), some (.int (nI (ky))), some (.int (v9)), some (.ref (ax1 2 c9)), some (.ref (ax1 6 (tf A 13)))]) (st' := [.ref (ax1 10 0)]) rfl rfl (Nat.le_of_ble_eq_true rfl) ?_
      refine V.getP h cls_10 (j := 8) rfl (hr1.mem (show lv G 10 0 from rfl)) (hr1.knd (show lv G 10 0 from rfl)) (Or.inl wf_RX10_71) (by decide +kernel) (v := some (ax1 0 2)) (hr1.ptr (show lv G 10 0 from rfl) (by decide) (by decide) rfl) ?_
      refine V.eq (S' := S11) (ls' := [some (.ref (ax1 10 0)), some (.int (nI (c9))), some (.int (nI (wh))), some (.int (nI (ky))), some (.int (v9)), some (.ref (ax1 2 c9)), some (.ref (ax1 6 (tf A 13)))]) (st' := [.ref (ax1 0 2)]) rfl rfl rfl ?_
      refine V.blk h [(.aload 6, 2)] (by decide +kernel) (pc' := 97) (ls' := [some (.ref (ax1 10 0)), some (.int (nI (c9))), some (.int (nI (wh))), some (.int (nI (ky))), some (.int (v9)), some (.ref (ax1 2 c9)), some (.ref (ax1 6 (tf A 13)))]) (st' := [.ref (ax1 6 (tf A 13)), .ref (ax1 0 2)]) rfl rfl (Nat.le_of_ble_eq_true rfl) ?_
      refine V.callV h (np := 1) (st := []) (l_add hls hr1 (i := 2) (q := ax1 6 (tf A 13)) (mc := 1) (ms := 898) (Or.inl (by decide)) (by show tf G 6 < 600; omega) (hr1.mem (g := 6) (show lv G 6 (tf A 13) from (show tf A 13 < tf G 13 by omega))) (hr1.knd (g := 6) (show lv G 6 (tf A 13) from (show tf A 13 < tf G 13 by omega))) (fun _ => Nat.le_refl _) (fun z => gcap_898 (by rw [← z]; show tf G 6 < 600; omega)) (post := fun v Sq7 => v = some (.int (nI 1)) ∧ ∃ t9 M9, LAdd tc (mx ax1 ay) G S11 2 (ax1 6 (tf A 13)) Sq7 t9 M9) (fun Sq7 t9 M9 h9 => ⟨rfl, t9, M9, h9⟩)) wc_Jx4a65c_add_9ea2d wn_RJx4a65c (Or.inl wm_RX10_67) wi_Jx4a65c_add_9ea2d we_Jx4a65c_add_9ea2d (by decide +kernel) rfl cls_0 (hr1.mem (show lv G 0 2 from (Or.inl (by decide)))) (hr1.knd (show lv G 0 2 from (Or.inl (by decide)))) (Nat.le_of_ble_eq_true rfl) (Nat.le_of_ble_eq_true rfl) (by show 1 + 1 ≤ 10; omega) (by show 8 + 898 ≤ 2426; omega) (by simp [Value.category]) (by decide +kernel) rfl (fun v Z12 q9 => ?_)
      obtain ⟨rfl, t9, M9, hL9⟩ := q9
      have hr9 := RA.listed (v := 2) (f := 6) (Or.inr ⟨rfl, rfl⟩) hr1 (by show tf G 6 < tf G 13; omega) (by show ax1 6 (tf A 13) = ax1 6 (tf G 6); rw [g6, h613]) hL9
      rw [SL.is (aS_sl (by show ax1 6 (tf A 13) = ax1 6 (tf G 6); rw [g6, h613]))] at hr9
      obtain ⟨ay2, hay2⟩ : ∃ z, z = aS (mx ax1 ay) 6 (lsz G 2) 2 (ax1 6 (tf A 13)) t9 M9 := ⟨_, rfl⟩
      rw [← hay2] at hr9
      replace hr9 : RA tc (mx ax1 ay2) (sf G 6 (tf A 6 + 1)) Z12 := by rw [← g6]; exact hr9
      refine V.eq (S' := Z12) (ls' := [some (.ref (ax1 10 0)), some (.int (nI (c9))), some (.int (nI (wh))), some (.int (nI (ky))), some (.int (v9)), some (.ref (ax1 2 c9)), some (.ref (ax1 6 (tf A 13)))]) (st' := [.int (nI (1))]) rfl rfl rfl ?_
      refine V.blk h [(.pop, 1), (.aload 5, 2), (.aload 6, 2)] (by decide +kernel) (pc' := 105) (ls' := [some (.ref (ax1 10 0)), some (.int (nI (c9))), some (.int (nI (wh))), some (.int (nI (ky))), some (.int (v9)), some (.ref (ax1 2 c9)), some (.ref (ax1 6 (tf A 13)))]) (st' := [.ref (ax1 6 (tf A 13)), .ref (ax1 2 c9)]) rfl rfl (Nat.le_of_ble_eq_true rfl) ?_
      refine V.putP (v := some (ax1 6 (tf A 13))) h cls_2 (j := 1) rfl (hr9.mem (show lv (sf G 6 (tf A 6 + 1)) 2 c9 from hc)) (hr9.knd (show lv (sf G 6 (tf A 6 + 1)) 2 c9 from hc)) (Or.inr ⟨_, wf_RX10_103⟩) rfl rfl rfl (by decide +kernel) ?_
      refine V.gen (P := fun S9 => RA tc (mx ax1 ay2) (sn (sf G 6 (tf A 6 + 1)) 16 c9 ((tf A 13) + 1)) S9) (hr9.p_2_1 (i := c9) (t := (tf A 13) + 1) (show lv (sf G 6 (tf A 6 + 1)) 2 c9 from hc) (show tf A 13 + 1 ≤ tf G 13 by omega)) (fun S13 hS13 => ?_)
      have hA1 : sn (sf G 6 (tf A 6 + 1)) 16 c9 (tf A 13 + 1) = asC1 A c9 wh ky v9 := by rw [hG]; rfl
      have nb1 : NB (K + 17) (asC1 A c9 wh ky v9) := asC1_NB (hB.mono (by omega)) (by omega) (by omega) (by omega)
      refine V.blk h [(.aload_n 0, 1), (.aload 5, 2), (.aload 6, 2)] (by decide +kernel) (pc' := 113) (ls' := [some (.ref (ax1 10 0)), some (.int (nI (c9))), some (.int (nI (wh))), some (.int (nI (ky))), some (.int (v9)), some (.ref (ax1 2 c9)), some (.ref (ax1 6 (tf A 13)))]) (st' := [.ref (ax1 6 (tf A 13)), .ref (ax1 2 c9), .ref (ax1 10 0)]) rfl rfl (Nat.le_of_ble_eq_true rfl) ?_
      refine V.callV h (np := 2) (st := []) (c_sendRequest hls (hA1 ▸ hS13) (c9 := c9) (op := tf A 13) hc (by rw [← hA1]; show tf A 13 < tf G 13; omega) nb1 (by omega) (by omega) (post := fun v Sq7 => v = none ∧ ∃ ay8, RA tc (mx ax1 ay8) (askC A c9 wh ky v9) Sq7) (fun Sq7 ay7 hr7 => ⟨rfl, ay7, hr7⟩)) wc_X10_sendRequest wn_RX10 (Or.inl wm_RX10_107) wi_X10_sendRequest we_X10_sendRequest (by decide +kernel) rfl cls_10 (hS13.mem (show lv (sn (sf G 6 (tf A 6 + 1)) 16 c9 ((tf A 13) + 1)) 10 0 from rfl)) (hS13.knd (show lv (sn (sf G 6 (tf A 6 + 1)) 16 c9 ((tf A 13) + 1)) 10 0 from rfl)) (Nat.le_of_ble_eq_true rfl) (Nat.le_of_ble_eq_true rfl) (by show (1 + 1) + 8 ≤ 10; omega) (by show (8 + 898) + 1520 ≤ 2426; omega) (by simp [Value.category]) (by decide +kernel) rfl (fun v Z14 q9 => ?_)
      obtain ⟨rfl, ay3, hr3⟩ := q9
      have h613x : tf A 13 < tf (askC A c9 wh ky v9) 13 := by
        unfold askC begC
        have z := (begC0_keep (asC1 A c9 wh ky v9) c9 (tf A 13)).1 13 (by decide) (by decide)
        have z2 : tf (asC1 A c9 wh ky v9) 13 = tf A 13 + 1 := by rw [← hA1]; exact g13
        split
        · rw [(begL_keep _ _ _ _).1 13 (by decide) (by decide), z, z2]; omega
        · rw [z, z2]; omega
      refine V.blk h [(.aload 6, 2)] (by decide +kernel) (pc' := 118) (ls' := [some (.ref (ax1 10 0)), some (.int (nI (c9))), some (.int (nI (wh))), some (.int (nI (ky))), some (.int (v9)), some (.ref (ax1 2 c9)), some (.ref (ax1 6 (tf A 13)))]) (st' := [.ref (ax1 6 (tf A 13))]) rfl rfl (Nat.le_of_ble_eq_true rfl) ?_
      refine V.getI h cls_6 (j := 1) rfl (hr3.mem (show lv (askC A c9 wh ky v9) 6 (tf A 13) from h613x)) (hr3.knd (show lv (askC A c9 wh ky v9) 6 (tf A 13) from h613x)) (Or.inr ⟨_, wf_RX10_111⟩) (by decide +kernel) (v := nI (tn (askC A c9 wh ky v9) 6 (tf A 13))) (hr3.int (show lv (askC A c9 wh ky v9) 6 (tf A 13) from h613x) (by decide) (by decide) rfl) ?_
      have hn6 : tn (askC A c9 wh ky v9) 6 (tf A 13) = asnF A c9 := by
        unfold askC
        rw [begC_6, ← hA1, tn_sn, if_neg (by omega), tn_sf, hG]
        exact (nwO_row (A := sf A 14 (tf A 14 + 1))).2.2.2.2.2.1
      rw [hn6]
      exact V.iret h hA hr rfl (hp _ _ _ hx1 hr3) (by decide +kernel) (by omega) (by omega)
    · have q46_47 : ¬ _ := (fun z => q ((nI_ltI (by omega) (by omega)).mpr z))
      clear q
      omega
