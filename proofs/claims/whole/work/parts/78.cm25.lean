/-! ===== the class itself: calls that are refused ===== -/
set_option maxRecDepth 100000 in
set_option maxHeartbeats 4000000 in
theorem t_ask_b {l : Launch} {D : va_G} {tc : Nat → ClassId} {ax ay : Nat → Nat → Nat} {A : TS} {S : HS} (hls : l.stackTraces = false) (hS : RA tc (mx ax ay) A S) {x : Int32} {y : Int32} {z : Int32} {v9 : Int32} (hx : noIx x 4 = true) : CT l D tc yX10_ask cX10_ask 7 (some .int) 7 1 6 [.ref (ax 10 0), .int (x), .int (y), .int (z), .int (v9)] S "java/lang/IndexOutOfBoundsException" := by
  refine CT.of hls (by decide +kernel) (by simp [Value.category]) (Nat.le_of_ble_eq_true rfl) (fun A0 p e9 s m args below meth c sz h hnx hA => ?_)
  have h5 := hS.2.2.2.1.1
  have h12 := hS.2.2.2.1.2.1
  have h53 := hS.2.2.2.1.2.2.2.2
  have hf3 := hS.2.2.1.2.1
  have hf1 := hS.2.2.1.1
  refine V.eqL (ls' := [some (.ref (ax 10 0)), some (.int (x)), some (.int (y)), some (.int (z)), some (.int (v9)), none, none]) rfl ?_
  refine V.blk h [(.iload_n 1, 1), (.aload_n 0, 1)] (by decide +kernel) (pc' := 2) (ls' := [some (.ref (ax 10 0)), some (.int (x)), some (.int (y)), some (.int (z)), some (.int (v9)), none, none]) (st' := [.ref (ax 10 0), .int (x)]) rfl rfl (Nat.le_of_ble_eq_true rfl) ?_
  refine V.getP h cls_10 (j := 4) rfl (hS.mem (show lv A 10 0 from rfl)) (hS.knd (show lv A 10 0 from rfl)) (Or.inl wf_RX10_32) (by decide +kernel) (v := some (ax 24 0)) (hS.ptr (show lv A 10 0 from rfl) (by decide) (by decide) rfl) ?_
  refine V.eq (S' := S) (ls' := [some (.ref (ax 10 0)), some (.int (x)), some (.int (y)), some (.int (z)), some (.int (v9)), none, none]) (st' := [.ref (ax 24 0), .int (x)]) rfl rfl rfl ?_
  refine V.alen h 24 (hS.mem (show lv A 24 0 from rfl)) (hS.knd (show lv A 24 0 from rfl)) (by decide) (M := 4) (hS.len (show lv A 24 0 from rfl) (by decide)) (by decide +kernel) ?_
  refine V.callSX h (np := 2) (st := []) (t_checkIndex hls (n := 4) hx) wc_X10_checkIndex wn_RX10 wm_RX10_74 wt_X10_checkIndex (by decide +kernel) rfl (by decide) (by decide) (by decide) (by decide) (by simp [Value.category]) (by decide +kernel) rfl ?_
  exact VX.out h hA hnx (by decide) (by decide)
set_option maxRecDepth 100000 in
set_option maxHeartbeats 4000000 in
theorem t_ask_k {l : Launch} {D : va_G} {tc : Nat → ClassId} {ax ay : Nat → Nat → Nat} {A : TS} {S : HS} (hls : l.stackTraces = false) (hS : RA tc (mx ax ay) A S) {c9 : Nat} {y : Int32} {z : Int32} {v9 : Int32} (hc : c9 < 4) (hz : noIx z 16 = true) : CT l D tc yX10_ask cX10_ask 7 (some .int) 7 1 6 [.ref (ax 10 0), .int (nI (c9)), .int (y), .int (z), .int (v9)] S "java/lang/IndexOutOfBoundsException" := by
  refine CT.of hls (by decide +kernel) (by simp [Value.category]) (Nat.le_of_ble_eq_true rfl) (fun A0 p e9 s m args below meth c sz h hnx hA => ?_)
  have h5 := hS.2.2.2.1.1
  have h12 := hS.2.2.2.1.2.1
  have h53 := hS.2.2.2.1.2.2.2.2
  have hf3 := hS.2.2.1.2.1
  have hf1 := hS.2.2.1.1
  refine V.eqL (ls' := [some (.ref (ax 10 0)), some (.int (nI (c9))), some (.int (y)), some (.int (z)), some (.int (v9)), none, none]) rfl ?_
  refine V.blk h [(.iload_n 1, 1), (.aload_n 0, 1)] (by decide +kernel) (pc' := 2) (ls' := [some (.ref (ax 10 0)), some (.int (nI (c9))), some (.int (y)), some (.int (z)), some (.int (v9)), none, none]) (st' := [.ref (ax 10 0), .int (nI (c9))]) rfl rfl (Nat.le_of_ble_eq_true rfl) ?_
  refine V.getP h cls_10 (j := 4) rfl (hS.mem (show lv A 10 0 from rfl)) (hS.knd (show lv A 10 0 from rfl)) (Or.inl wf_RX10_32) (by decide +kernel) (v := some (ax 24 0)) (hS.ptr (show lv A 10 0 from rfl) (by decide) (by decide) rfl) ?_
  refine V.eq (S' := S) (ls' := [some (.ref (ax 10 0)), some (.int (nI (c9))), some (.int (y)), some (.int (z)), some (.int (v9)), none, none]) (st' := [.ref (ax 24 0), .int (nI (c9))]) rfl rfl rfl ?_
  refine V.alen h 24 (hS.mem (show lv A 24 0 from rfl)) (hS.knd (show lv A 24 0 from rfl)) (by decide) (M := 4) (hS.len (show lv A 24 0 from rfl) (by decide)) (by decide +kernel) ?_
  refine V.callS h (np := 2) (st := []) (c_checkIndex hls (x := nI c9) (n := 4) (noIx_nI (by omega) (by omega)) (post := fun v S7 => v = none ∧ S = S7) ⟨rfl, rfl⟩) wc_X10_checkIndex wn_RX10 (Or.inl wm_RX10_74) wt_X10_checkIndex (by decide +kernel) rfl (Nat.le_of_ble_eq_true rfl) (Nat.le_of_ble_eq_true rfl) (Nat.zero_le _) (Nat.zero_le _) (by simp [Value.category]) (by decide +kernel) rfl (fun v Z1 q9 => ?_)
  obtain ⟨rfl, hS9⟩ := q9
  subst hS9
  refine V.blk h [(.iload_n 3, 1), (.bipush 16, 2)] (by decide +kernel) (pc' := 12) (ls' := [some (.ref (ax 10 0)), some (.int (nI (c9))), some (.int (y)), some (.int (z)), some (.int (v9)), none, none]) (st' := [.int (nI (16)), .int (z)]) rfl rfl (Nat.le_of_ble_eq_true rfl) ?_
  refine V.callSX h (np := 2) (st := []) (t_checkIndex hls (n := 16) hz) wc_X10_checkIndex wn_RX10 wm_RX10_74 wt_X10_checkIndex (by decide +kernel) rfl (by decide) (by decide) (by decide) (by decide) (by simp [Value.category]) (by decide +kernel) rfl ?_
  exact VX.out h hA hnx (by decide) (by decide)
set_option maxRecDepth 100000 in
set_option maxHeartbeats 4000000 in
theorem t_ask_w {l : Launch} {D : va_G} {tc : Nat → ClassId} {ax ay : Nat → Nat → Nat} {A : TS} {S : HS} (hls : l.stackTraces = false) (hS : RA tc (mx ax ay) A S) {c9 : Nat} {ky : Nat} {y : Int32} {v9 : Int32} (hc : c9 < 4) (hky : ky < 16) (hy : noIx y 3 = true) : CT l D tc yX10_ask cX10_ask 7 (some .int) 7 1 6 [.ref (ax 10 0), .int (nI (c9)), .int (y), .int (nI (ky)), .int (v9)] S "java/lang/IllegalArgumentException" := by
  refine CT.of hls (by decide +kernel) (by simp [Value.category]) (Nat.le_of_ble_eq_true rfl) (fun A0 p e9 s m args below meth c sz h hnx hA => ?_)
  have h5 := hS.2.2.2.1.1
  have h12 := hS.2.2.2.1.2.1
  have h53 := hS.2.2.2.1.2.2.2.2
  have hf3 := hS.2.2.1.2.1
  have hf1 := hS.2.2.1.1
  refine V.eqL (ls' := [some (.ref (ax 10 0)), some (.int (nI (c9))), some (.int (y)), some (.int (nI (ky))), some (.int (v9)), none, none]) rfl ?_
  refine V.blk h [(.iload_n 1, 1), (.aload_n 0, 1)] (by decide +kernel) (pc' := 2) (ls' := [some (.ref (ax 10 0)), some (.int (nI (c9))), some (.int (y)), some (.int (nI (ky))), some (.int (v9)), none, none]) (st' := [.ref (ax 10 0), .int (nI (c9))]) rfl rfl (Nat.le_of_ble_eq_true rfl) ?_
  refine V.getP h cls_10 (j := 4) rfl (hS.mem (show lv A 10 0 from rfl)) (hS.knd (show lv A 10 0 from rfl)) (Or.inl wf_RX10_32) (by decide +kernel) (v := some (ax 24 0)) (hS.ptr (show lv A 10 0 from rfl) (by decide) (by decide) rfl) ?_
  refine V.eq (S' := S) (ls' := [some (.ref (ax 10 0)), some (.int (nI (c9))), some (.int (y)), some (.int (nI (ky))), some (.int (v9)), none, none]) (st' := [.ref (ax 24 0), .int (nI (c9))]) rfl rfl rfl ?_
  refine V.alen h 24 (hS.mem (show lv A 24 0 from rfl)) (hS.knd (show lv A 24 0 from rfl)) (by decide) (M := 4) (hS.len (show lv A 24 0 from rfl) (by decide)) (by decide +kernel) ?_
  refine V.callS h (np := 2) (st := []) (c_checkIndex hls (x := nI c9) (n := 4) (noIx_nI (by omega) (by omega)) (post := fun v S7 => v = none ∧ S = S7) ⟨rfl, rfl⟩) wc_X10_checkIndex wn_RX10 (Or.inl wm_RX10_74) wt_X10_checkIndex (by decide +kernel) rfl (Nat.le_of_ble_eq_true rfl) (Nat.le_of_ble_eq_true rfl) (Nat.zero_le _) (Nat.zero_le _) (by simp [Value.category]) (by decide +kernel) rfl (fun v Z1 q9 => ?_)
  obtain ⟨rfl, hS9⟩ := q9
  subst hS9
  refine V.blk h [(.iload_n 3, 1), (.bipush 16, 2)] (by decide +kernel) (pc' := 12) (ls' := [some (.ref (ax 10 0)), some (.int (nI (c9))), some (.int (y)), some (.int (nI (ky))), some (.int (v9)), none, none]) (st' := [.int (nI (16)), .int (nI (ky))]) rfl rfl (Nat.le_of_ble_eq_true rfl) ?_
  refine V.callS h (np := 2) (st := []) (c_checkIndex hls (x := nI ky) (n := 16) (noIx_nI (by omega) (by omega)) (post := fun v S7 => v = none ∧ S = S7) ⟨rfl, rfl⟩) wc_X10_checkIndex wn_RX10 (Or.inl wm_RX10_74) wt_X10_checkIndex (by decide +kernel) rfl (Nat.le_of_ble_eq_true rfl) (Nat.le_of_ble_eq_true rfl) (Nat.zero_le _) (Nat.zero_le _) (by simp [Value.category]) (by decide +kernel) rfl (fun v Z2 q9 => ?_)
  obtain ⟨rfl, hS9⟩ := q9
  subst hS9
  refine V.blk h [(.iload_n 2, 1), (.iconst 2, 1)] (by decide +kernel) (pc' := 17) (ls' := [some (.ref (ax 10 0)), some (.int (nI (c9))), some (.int (y)), some (.int (nI (ky))), some (.int (v9)), none, none]) (st' := [.int (nI (2)), .int (y)]) rfl rfl (Nat.le_of_ble_eq_true rfl) ?_
  refine V.callSX h (np := 2) (st := []) (t_checkWhat hls (n := 2) (by decide) hy) wc_X10_checkWhat wn_RX10 wm_RX10_78 wt_X10_checkWhat (by decide +kernel) rfl (by decide) (by decide) (by decide) (by decide) (by simp [Value.category]) (by decide +kernel) rfl ?_
  exact VX.out h hA hnx (by decide) (by decide)
set_option maxRecDepth 100000 in
set_option maxHeartbeats 4000000 in
theorem t_retry_b {l : Launch} {D : va_G} {tc : Nat → ClassId} {ax ay : Nat → Nat → Nat} {A : TS} {S : HS} (hls : l.stackTraces = false) (hS : RA tc (mx ax ay) A S) {x : Int32} (hx : noIx x 4 = true) : CT l D tc yX10_retry cX10_retry 2 (some .boolean) 7 1 6 [.ref (ax 10 0), .int (x)] S "java/lang/IndexOutOfBoundsException" := by
  refine CT.of hls (by decide +kernel) (by simp [Value.category]) (Nat.le_of_ble_eq_true rfl) (fun A0 p e9 s m args below meth c sz h hnx hA => ?_)
  have h5 := hS.2.2.2.1.1
  have h12 := hS.2.2.2.1.2.1
  have h53 := hS.2.2.2.1.2.2.2.2
  have hf3 := hS.2.2.1.2.1
  have hf1 := hS.2.2.1.1
  refine V.eqL (ls' := [some (.ref (ax 10 0)), some (.int (x))]) rfl ?_
  refine V.blk h [(.iload_n 1, 1), (.aload_n 0, 1)] (by decide +kernel) (pc' := 2) (ls' := [some (.ref (ax 10 0)), some (.int (x))]) (st' := [.ref (ax 10 0), .int (x)]) rfl rfl (Nat.le_of_ble_eq_true rfl) ?_
  refine V.getP h cls_10 (j := 4) rfl (hS.mem (show lv A 10 0 from rfl)) (hS.knd (show lv A 10 0 from rfl)) (Or.inl wf_RX10_32) (by decide +kernel) (v := some (ax 24 0)) (hS.ptr (show lv A 10 0 from rfl) (by decide) (by decide) rfl) ?_
  refine V.eq (S' := S) (ls' := [some (.ref (ax 10 0)), some (.int (x))]) (st' := [.ref (ax 24 0), .int (x)]) rfl rfl rfl ?_
  refine V.alen h 24 (hS.mem (show lv A 24 0 from rfl)) (hS.knd (show lv A 24 0 from rfl)) (by decide) (M := 4) (hS.len (show lv A 24 0 from rfl) (by decide)) (by decide +kernel) ?_
  refine V.callSX h (np := 2) (st := []) (t_checkIndex hls (n := 4) hx) wc_X10_checkIndex wn_RX10 wm_RX10_74 wt_X10_checkIndex (by decide +kernel) rfl (by decide) (by decide) (by decide) (by decide) (by simp [Value.category]) (by decide +kernel) rfl ?_
  exact VX.out h hA hnx (by decide) (by decide)
set_option maxRecDepth 100000 in
set_option maxHeartbeats 4000000 in
theorem t_learn_b {l : Launch} {D : va_G} {tc : Nat → ClassId} {ax ay : Nat → Nat → Nat} {A : TS} {S : HS} (hls : l.stackTraces = false) (hS : RA tc (mx ax ay) A S) {x : Int32} (hx : noIx x 4 = true) : CT l D tc yX10_learn cX10_learn 4 (some .int) 7 1 6 [.ref (ax 10 0), .int (x)] S "java/lang/IndexOutOfBoundsException" := by
  refine CT.of hls (by decide +kernel) (by simp [Value.category]) (Nat.le_of_ble_eq_true rfl) (fun A0 p e9 s m args below meth c sz h hnx hA => ?_)
  have h5 := hS.2.2.2.1.1
  have h12 := hS.2.2.2.1.2.1
  have h53 := hS.2.2.2.1.2.2.2.2
  have hf3 := hS.2.2.1.2.1
  have hf1 := hS.2.2.1.1
  refine V.eqL (ls' := [some (.ref (ax 10 0)), some (.int (x)), none, none]) rfl ?_
  refine V.blk h [(.iload_n 1, 1), (.aload_n 0, 1)] (by decide +kernel) (pc' := 2) (ls' := [some (.ref (ax 10 0)), some (.int (x)), none, none]) (st' := [.ref (ax 10 0), .int (x)]) rfl rfl (Nat.le_of_ble_eq_true rfl) ?_
  refine V.getP h cls_10 (j := 4) rfl (hS.mem (show lv A 10 0 from rfl)) (hS.knd (show lv A 10 0 from rfl)) (Or.inl wf_RX10_32) (by decide +kernel) (v := some (ax 24 0)) (hS.ptr (show lv A 10 0 from rfl) (by decide) (by decide) rfl) ?_
  refine V.eq (S' := S) (ls' := [some (.ref (ax 10 0)), some (.int (x)), none, none]) (st' := [.ref (ax 24 0), .int (x)]) rfl rfl rfl ?_
  refine V.alen h 24 (hS.mem (show lv A 24 0 from rfl)) (hS.knd (show lv A 24 0 from rfl)) (by decide) (M := 4) (hS.len (show lv A 24 0 from rfl) (by decide)) (by decide +kernel) ?_
  refine V.callSX h (np := 2) (st := []) (t_checkIndex hls (n := 4) hx) wc_X10_checkIndex wn_RX10 wm_RX10_74 wt_X10_checkIndex (by decide +kernel) rfl (by decide) (by decide) (by decide) (by decide) (by simp [Value.category]) (by decide +kernel) rfl ?_
  exact VX.out h hA hnx (by decide) (by decide)
set_option maxRecDepth 100000 in
set_option maxHeartbeats 4000000 in
theorem t_deliver_b {l : Launch} {D : va_G} {tc : Nat → ClassId} {ax ay : Nat → Nat → Nat} {A : TS} {S : HS} (hls : l.stackTraces = false) (hS : RA tc (mx ax ay) A S) {x : Int32} (hx : noIx x (tf A 53) = true) : CT l D tc yX10_deliver cX10_deliver 3 (some .int) 7 1 6 [.ref (ax 10 0), .int (x)] S "java/lang/IndexOutOfBoundsException" := by
  refine CT.of hls (by decide +kernel) (by simp [Value.category]) (Nat.le_of_ble_eq_true rfl) (fun A0 p e9 s m args below meth c sz h hnx hA => ?_)
  have h5 := hS.2.2.2.1.1
  have h12 := hS.2.2.2.1.2.1
  have h53 := hS.2.2.2.1.2.2.2.2
  have hf3 := hS.2.2.1.2.1
  have hf1 := hS.2.2.1.1
  refine V.eqL (ls' := [some (.ref (ax 10 0)), some (.int (x)), none]) rfl ?_
  refine V.blk h [(.iload_n 1, 1), (.aload_n 0, 1)] (by decide +kernel) (pc' := 2) (ls' := [some (.ref (ax 10 0)), some (.int (x)), none]) (st' := [.ref (ax 10 0), .int (x)]) rfl rfl (Nat.le_of_ble_eq_true rfl) ?_
  refine V.getP h cls_10 (j := 3) rfl (hS.mem (show lv A 10 0 from rfl)) (hS.knd (show lv A 10 0 from rfl)) (Or.inl wf_RX10_26) (by decide +kernel) (v := some (ax 7 0)) (hS.ptr (show lv A 10 0 from rfl) (by decide) (by decide) rfl) ?_
  refine V.eq (S' := S) (ls' := [some (.ref (ax 10 0)), some (.int (x)), none]) (st' := [.ref (ax 7 0), .int (x)]) rfl rfl rfl ?_
  refine V.callV h (np := 0) (st := [.int (x)]) (c_r_size hls hS (post := fun v S7 => v = some (.int (nI (tf A 53))) ∧ S = S7) ⟨rfl, rfl⟩) wc_X7_size wn_RX7 (Or.inr ⟨_, wm_RX10_121⟩) wi_X7_size we_X7_size (by decide +kernel) rfl cls_7 (hS.mem (show lv A 7 0 from rfl)) (hS.knd (show lv A 7 0 from rfl)) (Nat.le_of_ble_eq_true rfl) (Nat.le_of_ble_eq_true rfl) (Nat.zero_le _) (Nat.zero_le _) (by simp [Value.category]) (by decide +kernel) rfl (fun v Z1 q9 => ?_)
  obtain ⟨rfl, hS9⟩ := q9
  subst hS9
  refine V.eq (S' := S) (ls' := [some (.ref (ax 10 0)), some (.int (x)), none]) (st' := [.int (nI (tf A 53)), .int (x)]) rfl rfl rfl ?_
  refine V.callSX h (np := 2) (st := []) (t_checkIndex hls (n := tf A 53) hx) wc_X10_checkIndex wn_RX10 wm_RX10_74 wt_X10_checkIndex (by decide +kernel) rfl (by decide) (by decide) (by decide) (by decide) (by simp [Value.category]) (by decide +kernel) rfl ?_
  exact VX.out h hA hnx (by decide) (by decide)
set_option maxRecDepth 100000 in
set_option maxHeartbeats 4000000 in
theorem t_lose_b {l : Launch} {D : va_G} {tc : Nat → ClassId} {ax ay : Nat → Nat → Nat} {A : TS} {S : HS} (hls : l.stackTraces = false) (hS : RA tc (mx ax ay) A S) {x : Int32} (hx : noIx x (tf A 53) = true) : CT l D tc yX10_lose cX10_lose 2 (some .int) 7 1 6 [.ref (ax 10 0), .int (x)] S "java/lang/IndexOutOfBoundsException" := by
  refine CT.of hls (by decide +kernel) (by simp [Value.category]) (Nat.le_of_ble_eq_true rfl) (fun A0 p e9 s m args below meth c sz h hnx hA => ?_)
  have h5 := hS.2.2.2.1.1
  have h12 := hS.2.2.2.1.2.1
  have h53 := hS.2.2.2.1.2.2.2.2
  have hf3 := hS.2.2.1.2.1
  have hf1 := hS.2.2.1.1
  refine V.eqL (ls' := [some (.ref (ax 10 0)), some (.int (x))]) rfl ?_
  refine V.blk h [(.iload_n 1, 1), (.aload_n 0, 1)] (by decide +kernel) (pc' := 2) (ls' := [some (.ref (ax 10 0)), some (.int (x))]) (st' := [.ref (ax 10 0), .int (x)]) rfl rfl (Nat.le_of_ble_eq_true rfl) ?_
  refine V.getP h cls_10 (j := 3) rfl (hS.mem (show lv A 10 0 from rfl)) (hS.knd (show lv A 10 0 from rfl)) (Or.inl wf_RX10_26) (by decide +kernel) (v := some (ax 7 0)) (hS.ptr (show lv A 10 0 from rfl) (by decide) (by decide) rfl) ?_
  refine V.eq (S' := S) (ls' := [some (.ref (ax 10 0)), some (.int (x))]) (st' := [.ref (ax 7 0), .int (x)]) rfl rfl rfl ?_
  refine V.callV h (np := 0) (st := [.int (x)]) (c_r_size hls hS (post := fun v S7 => v = some (.int (nI (tf A 53))) ∧ S = S7) ⟨rfl, rfl⟩) wc_X7_size wn_RX7 (Or.inr ⟨_, wm_RX10_121⟩) wi_X7_size we_X7_size (by decide +kernel) rfl cls_7 (hS.mem (show lv A 7 0 from rfl)) (hS.knd (show lv A 7 0 from rfl)) (Nat.le_of_ble_eq_true rfl) (Nat.le_of_ble_eq_true rfl) (Nat.zero_le _) (Nat.zero_le _) (by simp [Value.category]) (by decide +kernel) rfl (fun v Z1 q9 => ?_)
  obtain ⟨rfl, hS9⟩ := q9
  subst hS9
  refine V.eq (S' := S) (ls' := [some (.ref (ax 10 0)), some (.int (x))]) (st' := [.int (nI (tf A 53)), .int (x)]) rfl rfl rfl ?_
  refine V.callSX h (np := 2) (st := []) (t_checkIndex hls (n := tf A 53) hx) wc_X10_checkIndex wn_RX10 wm_RX10_74 wt_X10_checkIndex (by decide +kernel) rfl (by decide) (by decide) (by decide) (by decide) (by simp [Value.category]) (by decide +kernel) rfl ?_
  exact VX.out h hA hnx (by decide) (by decide)
set_option maxRecDepth 100000 in
set_option maxHeartbeats 4000000 in
theorem t_twice_b {l : Launch} {D : va_G} {tc : Nat → ClassId} {ax ay : Nat → Nat → Nat} {A : TS} {S : HS} (hls : l.stackTraces = false) (hS : RA tc (mx ax ay) A S) {x : Int32} (hx : noIx x (tf A 53) = true) : CT l D tc yX10_twice cX10_twice 3 (some .int) 7 1 6 [.ref (ax 10 0), .int (x)] S "java/lang/IndexOutOfBoundsException" := by
  refine CT.of hls (by decide +kernel) (by simp [Value.category]) (Nat.le_of_ble_eq_true rfl) (fun A0 p e9 s m args below meth c sz h hnx hA => ?_)
  have h5 := hS.2.2.2.1.1
  have h12 := hS.2.2.2.1.2.1
  have h53 := hS.2.2.2.1.2.2.2.2
  have hf3 := hS.2.2.1.2.1
  have hf1 := hS.2.2.1.1
  refine V.eqL (ls' := [some (.ref (ax 10 0)), some (.int (x)), none]) rfl ?_
  refine V.blk h [(.iload_n 1, 1), (.aload_n 0, 1)] (by decide +kernel) (pc' := 2) (ls' := [some (.ref (ax 10 0)), some (.int (x)), none]) (st' := [.ref (ax 10 0), .int (x)]) rfl rfl (Nat.le_of_ble_eq_true rfl) ?_
  refine V.getP h cls_10 (j := 3) rfl (hS.mem (show lv A 10 0 from rfl)) (hS.knd (show lv A 10 0 from rfl)) (Or.inl wf_RX10_26) (by decide +kernel) (v := some (ax 7 0)) (hS.ptr (show lv A 10 0 from rfl) (by decide) (by decide) rfl) ?_
  refine V.eq (S' := S) (ls' := [some (.ref (ax 10 0)), some (.int (x)), none]) (st' := [.ref (ax 7 0), .int (x)]) rfl rfl rfl ?_
  refine V.callV h (np := 0) (st := [.int (x)]) (c_r_size hls hS (post := fun v S7 => v = some (.int (nI (tf A 53))) ∧ S = S7) ⟨rfl, rfl⟩) wc_X7_size wn_RX7 (Or.inr ⟨_, wm_RX10_121⟩) wi_X7_size we_X7_size (by decide +kernel) rfl cls_7 (hS.mem (show lv A 7 0 from rfl)) (hS.knd (show lv A 7 0 from rfl)) (Nat.le_of_ble_eq_true rfl) (Nat.le_of_ble_eq_true rfl) (Nat.zero_le _) (Nat.zero_le _) (by simp [Value.category]) (by decide +kernel) rfl (fun v Z1 q9 => ?_)
  obtain ⟨rfl, hS9⟩ := q9
  subst hS9
  refine V.eq (S' := S) (ls' := [some (.ref (ax 10 0)), some (.int (x)), none]) (st' := [.int (nI (tf A 53)), .int (x)]) rfl rfl rfl ?_
  refine V.callSX h (np := 2) (st := []) (t_checkIndex hls (n := tf A 53) hx) wc_X10_checkIndex wn_RX10 wm_RX10_74 wt_X10_checkIndex (by decide +kernel) rfl (by decide) (by decide) (by decide) (by decide) (by simp [Value.category]) (by decide +kernel) rfl ?_
  exact VX.out h hA hnx (by decide) (by decide)
set_option maxRecDepth 100000 in
set_option maxHeartbeats 4000000 in
theorem t_sync_b {l : Launch} {D : va_G} {tc : Nat → ClassId} {ax ay : Nat → Nat → Nat} {A : TS} {S : HS} (hls : l.stackTraces = false) (hS : RA tc (mx ax ay) A S) {x : Int32} (hx : noIx x (tf A 5) = true) : CT l D tc yX10_sync cX10_sync 3 (some .boolean) 7 1 6 [.ref (ax 10 0), .int (x)] S "java/lang/IndexOutOfBoundsException" := by
  refine CT.of hls (by decide +kernel) (by simp [Value.category]) (Nat.le_of_ble_eq_true rfl) (fun A0 p e9 s m args below meth c sz h hnx hA => ?_)
  have h5 := hS.2.2.2.1.1
  have h12 := hS.2.2.2.1.2.1
  have h53 := hS.2.2.2.1.2.2.2.2
  have hf3 := hS.2.2.1.2.1
  have hf1 := hS.2.2.1.1
  refine V.eqL (ls' := [some (.ref (ax 10 0)), some (.int (x)), none]) rfl ?_
  refine V.blk h [(.iload_n 1, 1), (.aload_n 0, 1)] (by decide +kernel) (pc' := 2) (ls' := [some (.ref (ax 10 0)), some (.int (x)), none]) (st' := [.ref (ax 10 0), .int (x)]) rfl rfl (Nat.le_of_ble_eq_true rfl) ?_
  refine V.getP h cls_10 (j := 7) rfl (hS.mem (show lv A 10 0 from rfl)) (hS.knd (show lv A 10 0 from rfl)) (Or.inl wf_RX10_58) (by decide +kernel) (v := some (ax 0 1)) (hS.ptr (show lv A 10 0 from rfl) (by decide) (by decide) rfl) ?_
  refine V.eq (S' := S) (ls' := [some (.ref (ax 10 0)), some (.int (x)), none]) (st' := [.ref (ax 0 1), .int (x)]) rfl rfl rfl ?_
  refine V.callV h (np := 0) (st := [.int (x)]) (s_mas hls hS (post := fun v S7 => v = some (.int (nI (tf A 5))) ∧ S = S7) ⟨rfl, rfl⟩) wc_Jx4a65c_size_8abf5 wn_RJx4a65c (Or.inl wm_RX10_85) wi_Jx4a65c_size_8abf5 we_Jx4a65c_size_8abf5 (by decide +kernel) rfl cls_0 (hS.mem (show lv A 0 1 from (Or.inl (by decide)))) (hS.knd (show lv A 0 1 from (Or.inl (by decide)))) (Nat.le_of_ble_eq_true rfl) (Nat.le_of_ble_eq_true rfl) (Nat.zero_le _) (Nat.zero_le _) (by simp [Value.category]) (by decide +kernel) rfl (fun v Z1 q9 => ?_)
  obtain ⟨rfl, hS9⟩ := q9
  subst hS9
  refine V.eq (S' := S) (ls' := [some (.ref (ax 10 0)), some (.int (x)), none]) (st' := [.int (nI (tf A 5)), .int (x)]) rfl rfl rfl ?_
  refine V.callSX h (np := 2) (st := []) (t_checkIndex hls (n := tf A 5) hx) wc_X10_checkIndex wn_RX10 wm_RX10_74 wt_X10_checkIndex (by decide +kernel) rfl (by decide) (by decide) (by decide) (by decide) (by simp [Value.category]) (by decide +kernel) rfl ?_
  exact VX.out h hA hnx (by decide) (by decide)
set_option maxRecDepth 100000 in
set_option maxHeartbeats 4000000 in
theorem t_crash_b {l : Launch} {D : va_G} {tc : Nat → ClassId} {ax ay : Nat → Nat → Nat} {A : TS} {S : HS} (hls : l.stackTraces = false) (hS : RA tc (mx ax ay) A S) {x : Int32} (hx : noIx x (tf A 5) = true) : CT l D tc yX10_crash cX10_crash 2 (some .boolean) 7 1 6 [.ref (ax 10 0), .int (x)] S "java/lang/IndexOutOfBoundsException" := by
  refine CT.of hls (by decide +kernel) (by simp [Value.category]) (Nat.le_of_ble_eq_true rfl) (fun A0 p e9 s m args below meth c sz h hnx hA => ?_)
  have h5 := hS.2.2.2.1.1
  have h12 := hS.2.2.2.1.2.1
  have h53 := hS.2.2.2.1.2.2.2.2
  have hf3 := hS.2.2.1.2.1
  have hf1 := hS.2.2.1.1
  refine V.eqL (ls' := [some (.ref (ax 10 0)), some (.int (x))]) rfl ?_
  refine V.blk h [(.iload_n 1, 1), (.aload_n 0, 1)] (by decide +kernel) (pc' := 2) (ls' := [some (.ref (ax 10 0)), some (.int (x))]) (st' := [.ref (ax 10 0), .int (x)]) rfl rfl (Nat.le_of_ble_eq_true rfl) ?_
  refine V.getP h cls_10 (j := 7) rfl (hS.mem (show lv A 10 0 from rfl)) (hS.knd (show lv A 10 0 from rfl)) (Or.inl wf_RX10_58) (by decide +kernel) (v := some (ax 0 1)) (hS.ptr (show lv A 10 0 from rfl) (by decide) (by decide) rfl) ?_
  refine V.eq (S' := S) (ls' := [some (.ref (ax 10 0)), some (.int (x))]) (st' := [.ref (ax 0 1), .int (x)]) rfl rfl rfl ?_
  refine V.callV h (np := 0) (st := [.int (x)]) (s_mas hls hS (post := fun v S7 => v = some (.int (nI (tf A 5))) ∧ S = S7) ⟨rfl, rfl⟩) wc_Jx4a65c_size_8abf5 wn_RJx4a65c (Or.inl wm_RX10_85) wi_Jx4a65c_size_8abf5 we_Jx4a65c_size_8abf5 (by decide +kernel) rfl cls_0 (hS.mem (show lv A 0 1 from (Or.inl (by decide)))) (hS.knd (show lv A 0 1 from (Or.inl (by decide)))) (Nat.le_of_ble_eq_true rfl) (Nat.le_of_ble_eq_true rfl) (Nat.zero_le _) (Nat.zero_le _) (by simp [Value.category]) (by decide +kernel) rfl (fun v Z1 q9 => ?_)
  obtain ⟨rfl, hS9⟩ := q9
  subst hS9
  refine V.eq (S' := S) (ls' := [some (.ref (ax 10 0)), some (.int (x))]) (st' := [.int (nI (tf A 5)), .int (x)]) rfl rfl rfl ?_
  refine V.callSX h (np := 2) (st := []) (t_checkIndex hls (n := tf A 5) hx) wc_X10_checkIndex wn_RX10 wm_RX10_74 wt_X10_checkIndex (by decide +kernel) rfl (by decide) (by decide) (by decide) (by decide) (by simp [Value.category]) (by decide +kernel) rfl ?_
  exact VX.out h hA hnx (by decide) (by decide)
set_option maxRecDepth 100000 in
set_option maxHeartbeats 4000000 in
theorem t_letter_b {l : Launch} {D : va_G} {tc : Nat → ClassId} {ax ay : Nat → Nat → Nat} {A : TS} {S : HS} (hls : l.stackTraces = false) (hS : RA tc (mx ax ay) A S) {x : Int32} {y : Int32} (hx : noIx x (tf A 53) = true) : CT l D tc yX10_letter cX10_letter 4 (some .int) 7 1 6 [.ref (ax 10 0), .int (x), .int (y)] S "java/lang/IndexOutOfBoundsException" := by
  refine CT.of hls (by decide +kernel) (by simp [Value.category]) (Nat.le_of_ble_eq_true rfl) (fun A0 p e9 s m args below meth c sz h hnx hA => ?_)
  have h5 := hS.2.2.2.1.1
  have h12 := hS.2.2.2.1.2.1
  have h53 := hS.2.2.2.1.2.2.2.2
  have hf3 := hS.2.2.1.2.1
  have hf1 := hS.2.2.1.1
  refine V.eqL (ls' := [some (.ref (ax 10 0)), some (.int (x)), some (.int (y)), none]) rfl ?_
  refine V.blk h [(.iload_n 1, 1), (.aload_n 0, 1)] (by decide +kernel) (pc' := 2) (ls' := [some (.ref (ax 10 0)), some (.int (x)), some (.int (y)), none]) (st' := [.ref (ax 10 0), .int (x)]) rfl rfl (Nat.le_of_ble_eq_true rfl) ?_
  refine V.getP h cls_10 (j := 3) rfl (hS.mem (show lv A 10 0 from rfl)) (hS.knd (show lv A 10 0 from rfl)) (Or.inl wf_RX10_26) (by decide +kernel) (v := some (ax 7 0)) (hS.ptr (show lv A 10 0 from rfl) (by decide) (by decide) rfl) ?_
  refine V.eq (S' := S) (ls' := [some (.ref (ax 10 0)), some (.int (x)), some (.int (y)), none]) (st' := [.ref (ax 7 0), .int (x)]) rfl rfl rfl ?_
  refine V.callV h (np := 0) (st := [.int (x)]) (c_r_size hls hS (post := fun v S7 => v = some (.int (nI (tf A 53))) ∧ S = S7) ⟨rfl, rfl⟩) wc_X7_size wn_RX7 (Or.inr ⟨_, wm_RX10_121⟩) wi_X7_size we_X7_size (by decide +kernel) rfl cls_7 (hS.mem (show lv A 7 0 from rfl)) (hS.knd (show lv A 7 0 from rfl)) (Nat.le_of_ble_eq_true rfl) (Nat.le_of_ble_eq_true rfl) (Nat.zero_le _) (Nat.zero_le _) (by simp [Value.category]) (by decide +kernel) rfl (fun v Z1 q9 => ?_)
  obtain ⟨rfl, hS9⟩ := q9
  subst hS9
  refine V.eq (S' := S) (ls' := [some (.ref (ax 10 0)), some (.int (x)), some (.int (y)), none]) (st' := [.int (nI (tf A 53)), .int (x)]) rfl rfl rfl ?_
  refine V.callSX h (np := 2) (st := []) (t_checkIndex hls (n := tf A 53) hx) wc_X10_checkIndex wn_RX10 wm_RX10_74 wt_X10_checkIndex (by decide +kernel) rfl (by decide) (by decide) (by decide) (by decide) (by simp [Value.category]) (by decide +kernel) rfl ?_
  exact VX.out h hA hnx (by decide) (by decide)
set_option maxRecDepth 100000 in
set_option maxHeartbeats 4000000 in
theorem t_letter_w {l : Launch} {D : va_G} {tc : Nat → ClassId} {ax ay : Nat → Nat → Nat} {A : TS} {S : HS} (hls : l.stackTraces = false) (hS : RA tc (mx ax ay) A S) {k9 : Nat} {y : Int32} (hk : k9 < tf A 53) (hy : noIx y 4 = true) : CT l D tc yX10_letter cX10_letter 4 (some .int) 7 1 6 [.ref (ax 10 0), .int (nI (k9)), .int (y)] S "java/lang/IllegalArgumentException" := by
  refine CT.of hls (by decide +kernel) (by simp [Value.category]) (Nat.le_of_ble_eq_true rfl) (fun A0 p e9 s m args below meth c sz h hnx hA => ?_)
  have h5 := hS.2.2.2.1.1
  have h12 := hS.2.2.2.1.2.1
  have h53 := hS.2.2.2.1.2.2.2.2
  have hf3 := hS.2.2.1.2.1
  have hf1 := hS.2.2.1.1
  refine V.eqL (ls' := [some (.ref (ax 10 0)), some (.int (nI (k9))), some (.int (y)), none]) rfl ?_
  refine V.blk h [(.iload_n 1, 1), (.aload_n 0, 1)] (by decide +kernel) (pc' := 2) (ls' := [some (.ref (ax 10 0)), some (.int (nI (k9))), some (.int (y)), none]) (st' := [.ref (ax 10 0), .int (nI (k9))]) rfl rfl (Nat.le_of_ble_eq_true rfl) ?_
  refine V.getP h cls_10 (j := 3) rfl (hS.mem (show lv A 10 0 from rfl)) (hS.knd (show lv A 10 0 from rfl)) (Or.inl wf_RX10_26) (by decide +kernel) (v := some (ax 7 0)) (hS.ptr (show lv A 10 0 from rfl) (by decide) (by decide) rfl) ?_
  refine V.eq (S' := S) (ls' := [some (.ref (ax 10 0)), some (.int (nI (k9))), some (.int (y)), none]) (st' := [.ref (ax 7 0), .int (nI (k9))]) rfl rfl rfl ?_
  refine V.callV h (np := 0) (st := [.int (nI (k9))]) (c_r_size hls hS (post := fun v S7 => v = some (.int (nI (tf A 53))) ∧ S = S7) ⟨rfl, rfl⟩) wc_X7_size wn_RX7 (Or.inr ⟨_, wm_RX10_121⟩) wi_X7_size we_X7_size (by decide +kernel) rfl cls_7 (hS.mem (show lv A 7 0 from rfl)) (hS.knd (show lv A 7 0 from rfl)) (Nat.le_of_ble_eq_true rfl) (Nat.le_of_ble_eq_true rfl) (Nat.zero_le _) (Nat.zero_le _) (by simp [Value.category]) (by decide +kernel) rfl (fun v Z1 q9 => ?_)
  obtain ⟨rfl, hS9⟩ := q9
  subst hS9
  refine V.eq (S' := S) (ls' := [some (.ref (ax 10 0)), some (.int (nI (k9))), some (.int (y)), none]) (st' := [.int (nI (tf A 53)), .int (nI (k9))]) rfl rfl rfl ?_
  refine V.callS h (np := 2) (st := []) (c_checkIndex hls (x := nI k9) (n := tf A 53) (noIx_nI (by omega) (by omega)) (post := fun v S7 => v = none ∧ S = S7) ⟨rfl, rfl⟩) wc_X10_checkIndex wn_RX10 (Or.inl wm_RX10_74) wt_X10_checkIndex (by decide +kernel) rfl (Nat.le_of_ble_eq_true rfl) (Nat.le_of_ble_eq_true rfl) (Nat.zero_le _) (Nat.zero_le _) (by simp [Value.category]) (by decide +kernel) rfl (fun v Z2 q9 => ?_)
  obtain ⟨rfl, hS9⟩ := q9
  subst hS9
  refine V.blk h [(.iload_n 2, 1), (.iconst 3, 1)] (by decide +kernel) (pc' := 13) (ls' := [some (.ref (ax 10 0)), some (.int (nI (k9))), some (.int (y)), none]) (st' := [.int (nI (3)), .int (y)]) rfl rfl (Nat.le_of_ble_eq_true rfl) ?_
  refine V.callSX h (np := 2) (st := []) (t_checkWhat hls (n := 3) (by decide) hy) wc_X10_checkWhat wn_RX10 wm_RX10_78 wt_X10_checkWhat (by decide +kernel) rfl (by decide) (by decide) (by decide) (by decide) (by simp [Value.category]) (by decide +kernel) rfl ?_
  exact VX.out h hA hnx (by decide) (by decide)
set_option maxRecDepth 100000 in
set_option maxHeartbeats 4000000 in
theorem t_client_b {l : Launch} {D : va_G} {tc : Nat → ClassId} {ax ay : Nat → Nat → Nat} {A : TS} {S : HS} (hls : l.stackTraces = false) (hS : RA tc (mx ax ay) A S) {x : Int32} {y : Int32} (hx : noIx x 4 = true) : CT l D tc yX10_client cX10_client 4 (some .int) 7 1 6 [.ref (ax 10 0), .int (x), .int (y)] S "java/lang/IndexOutOfBoundsException" := by
  refine CT.of hls (by decide +kernel) (by simp [Value.category]) (Nat.le_of_ble_eq_true rfl) (fun A0 p e9 s m args below meth c sz h hnx hA => ?_)
  have h5 := hS.2.2.2.1.1
  have h12 := hS.2.2.2.1.2.1
  have h53 := hS.2.2.2.1.2.2.2.2
  have hf3 := hS.2.2.1.2.1
  have hf1 := hS.2.2.1.1
  refine V.eqL (ls' := [some (.ref (ax 10 0)), some (.int (x)), some (.int (y)), none]) rfl ?_
  refine V.blk h [(.iload_n 1, 1), (.aload_n 0, 1)] (by decide +kernel) (pc' := 2) (ls' := [some (.ref (ax 10 0)), some (.int (x)), some (.int (y)), none]) (st' := [.ref (ax 10 0), .int (x)]) rfl rfl (Nat.le_of_ble_eq_true rfl) ?_
  refine V.getP h cls_10 (j := 4) rfl (hS.mem (show lv A 10 0 from rfl)) (hS.knd (show lv A 10 0 from rfl)) (Or.inl wf_RX10_32) (by decide +kernel) (v := some (ax 24 0)) (hS.ptr (show lv A 10 0 from rfl) (by decide) (by decide) rfl) ?_
  refine V.eq (S' := S) (ls' := [some (.ref (ax 10 0)), some (.int (x)), some (.int (y)), none]) (st' := [.ref (ax 24 0), .int (x)]) rfl rfl rfl ?_
  refine V.alen h 24 (hS.mem (show lv A 24 0 from rfl)) (hS.knd (show lv A 24 0 from rfl)) (by decide) (M := 4) (hS.len (show lv A 24 0 from rfl) (by decide)) (by decide +kernel) ?_
  refine V.callSX h (np := 2) (st := []) (t_checkIndex hls (n := 4) hx) wc_X10_checkIndex wn_RX10 wm_RX10_74 wt_X10_checkIndex (by decide +kernel) rfl (by decide) (by decide) (by decide) (by decide) (by simp [Value.category]) (by decide +kernel) rfl ?_
  exact VX.out h hA hnx (by decide) (by decide)
set_option maxRecDepth 100000 in
set_option maxHeartbeats 4000000 in
theorem t_client_w {l : Launch} {D : va_G} {tc : Nat → ClassId} {ax ay : Nat → Nat → Nat} {A : TS} {S : HS} (hls : l.stackTraces = false) (hS : RA tc (mx ax ay) A S) {c9 : Nat} {y : Int32} (hc : c9 < 4) (hy : noIx y 7 = true) : CT l D tc yX10_client cX10_client 4 (some .int) 7 1 6 [.ref (ax 10 0), .int (nI (c9)), .int (y)] S "java/lang/IllegalArgumentException" := by
  refine CT.of hls (by decide +kernel) (by simp [Value.category]) (Nat.le_of_ble_eq_true rfl) (fun A0 p e9 s m args below meth c sz h hnx hA => ?_)
  have h5 := hS.2.2.2.1.1
  have h12 := hS.2.2.2.1.2.1
  have h53 := hS.2.2.2.1.2.2.2.2
  have hf3 := hS.2.2.1.2.1
  have hf1 := hS.2.2.1.1
  refine V.eqL (ls' := [some (.ref (ax 10 0)), some (.int (nI (c9))), some (.int (y)), none]) rfl ?_
  refine V.blk h [(.iload_n 1, 1), (.aload_n 0, 1)] (by decide +kernel) (pc' := 2) (ls' := [some (.ref (ax 10 0)), some (.int (nI (c9))), some (.int (y)), none]) (st' := [.ref (ax 10 0), .int (nI (c9))]) rfl rfl (Nat.le_of_ble_eq_true rfl) ?_
  refine V.getP h cls_10 (j := 4) rfl (hS.mem (show lv A 10 0 from rfl)) (hS.knd (show lv A 10 0 from rfl)) (Or.inl wf_RX10_32) (by decide +kernel) (v := some (ax 24 0)) (hS.ptr (show lv A 10 0 from rfl) (by decide) (by decide) rfl) ?_
  refine V.eq (S' := S) (ls' := [some (.ref (ax 10 0)), some (.int (nI (c9))), some (.int (y)), none]) (st' := [.ref (ax 24 0), .int (nI (c9))]) rfl rfl rfl ?_
  refine V.alen h 24 (hS.mem (show lv A 24 0 from rfl)) (hS.knd (show lv A 24 0 from rfl)) (by decide) (M := 4) (hS.len (show lv A 24 0 from rfl) (by decide)) (by decide +kernel) ?_
  refine V.callS h (np := 2) (st := []) (c_checkIndex hls (x := nI c9) (n := 4) (noIx_nI (by omega) (by omega)) (post := fun v S7 => v = none ∧ S = S7) ⟨rfl, rfl⟩) wc_X10_checkIndex wn_RX10 (Or.inl wm_RX10_74) wt_X10_checkIndex (by decide +kernel) rfl (Nat.le_of_ble_eq_true rfl) (Nat.le_of_ble_eq_true rfl) (Nat.zero_le _) (Nat.zero_le _) (by simp [Value.category]) (by decide +kernel) rfl (fun v Z1 q9 => ?_)
  obtain ⟨rfl, hS9⟩ := q9
  subst hS9
  refine V.blk h [(.iload_n 2, 1), (.bipush 6, 2)] (by decide +kernel) (pc' := 12) (ls' := [some (.ref (ax 10 0)), some (.int (nI (c9))), some (.int (y)), none]) (st' := [.int (nI (6)), .int (y)]) rfl rfl (Nat.le_of_ble_eq_true rfl) ?_
  refine V.callSX h (np := 2) (st := []) (t_checkWhat hls (n := 6) (by decide) hy) wc_X10_checkWhat wn_RX10 wm_RX10_78 wt_X10_checkWhat (by decide +kernel) rfl (by decide) (by decide) (by decide) (by decide) (by simp [Value.category]) (by decide +kernel) rfl ?_
  exact VX.out h hA hnx (by decide) (by decide)
set_option maxRecDepth 100000 in
set_option maxHeartbeats 4000000 in
theorem t_master_b {l : Launch} {D : va_G} {tc : Nat → ClassId} {ax ay : Nat → Nat → Nat} {A : TS} {S : HS} (hls : l.stackTraces = false) (hS : RA tc (mx ax ay) A S) {x : Int32} {y : Int32} (hx : noIx x (tf A 5) = true) : CT l D tc yX10_master cX10_master 4 (some .int) 7 1 6 [.ref (ax 10 0), .int (x), .int (y)] S "java/lang/IndexOutOfBoundsException" := by
  refine CT.of hls (by decide +kernel) (by simp [Value.category]) (Nat.le_of_ble_eq_true rfl) (fun A0 p e9 s m args below meth c sz h hnx hA => ?_)
  have h5 := hS.2.2.2.1.1
  have h12 := hS.2.2.2.1.2.1
  have h53 := hS.2.2.2.1.2.2.2.2
  have hf3 := hS.2.2.1.2.1
  have hf1 := hS.2.2.1.1
  refine V.eqL (ls' := [some (.ref (ax 10 0)), some (.int (x)), some (.int (y)), none]) rfl ?_
  refine V.blk h [(.iload_n 1, 1), (.aload_n 0, 1)] (by decide +kernel) (pc' := 2) (ls' := [some (.ref (ax 10 0)), some (.int (x)), some (.int (y)), none]) (st' := [.ref (ax 10 0), .int (x)]) rfl rfl (Nat.le_of_ble_eq_true rfl) ?_
  refine V.getP h cls_10 (j := 7) rfl (hS.mem (show lv A 10 0 from rfl)) (hS.knd (show lv A 10 0 from rfl)) (Or.inl wf_RX10_58) (by decide +kernel) (v := some (ax 0 1)) (hS.ptr (show lv A 10 0 from rfl) (by decide) (by decide) rfl) ?_
  refine V.eq (S' := S) (ls' := [some (.ref (ax 10 0)), some (.int (x)), some (.int (y)), none]) (st' := [.ref (ax 0 1), .int (x)]) rfl rfl rfl ?_
  refine V.callV h (np := 0) (st := [.int (x)]) (s_mas hls hS (post := fun v S7 => v = some (.int (nI (tf A 5))) ∧ S = S7) ⟨rfl, rfl⟩) wc_Jx4a65c_size_8abf5 wn_RJx4a65c (Or.inl wm_RX10_85) wi_Jx4a65c_size_8abf5 we_Jx4a65c_size_8abf5 (by decide +kernel) rfl cls_0 (hS.mem (show lv A 0 1 from (Or.inl (by decide)))) (hS.knd (show lv A 0 1 from (Or.inl (by decide)))) (Nat.le_of_ble_eq_true rfl) (Nat.le_of_ble_eq_true rfl) (Nat.zero_le _) (Nat.zero_le _) (by simp [Value.category]) (by decide +kernel) rfl (fun v Z1 q9 => ?_)
  obtain ⟨rfl, hS9⟩ := q9
  subst hS9
  refine V.eq (S' := S) (ls' := [some (.ref (ax 10 0)), some (.int (x)), some (.int (y)), none]) (st' := [.int (nI (tf A 5)), .int (x)]) rfl rfl rfl ?_
  refine V.callSX h (np := 2) (st := []) (t_checkIndex hls (n := tf A 5) hx) wc_X10_checkIndex wn_RX10 wm_RX10_74 wt_X10_checkIndex (by decide +kernel) rfl (by decide) (by decide) (by decide) (by decide) (by simp [Value.category]) (by decide +kernel) rfl ?_
  exact VX.out h hA hnx (by decide) (by decide)
set_option maxRecDepth 100000 in
set_option maxHeartbeats 4000000 in
theorem t_master_w {l : Launch} {D : va_G} {tc : Nat → ClassId} {ax ay : Nat → Nat → Nat} {A : TS} {S : HS} (hls : l.stackTraces = false) (hS : RA tc (mx ax ay) A S) {e : Nat} {y : Int32} (he5 : e < tf A 5) (hy : noIx y 5 = true) : CT l D tc yX10_master cX10_master 4 (some .int) 7 1 6 [.ref (ax 10 0), .int (nI (e)), .int (y)] S "java/lang/IllegalArgumentException" := by
  refine CT.of hls (by decide +kernel) (by simp [Value.category]) (Nat.le_of_ble_eq_true rfl) (fun A0 p e9 s m args below meth c sz h hnx hA => ?_)
  have h5 := hS.2.2.2.1.1
  have h12 := hS.2.2.2.1.2.1
  have h53 := hS.2.2.2.1.2.2.2.2
  have hf3 := hS.2.2.1.2.1
  have hf1 := hS.2.2.1.1
  refine V.eqL (ls' := [some (.ref (ax 10 0)), some (.int (nI (e))), some (.int (y)), none]) rfl ?_
  refine V.blk h [(.iload_n 1, 1), (.aload_n 0, 1)] (by decide +kernel) (pc' := 2) (ls' := [some (.ref (ax 10 0)), some (.int (nI (e))), some (.int (y)), none]) (st' := [.ref (ax 10 0), .int (nI (e))]) rfl rfl (Nat.le_of_ble_eq_true rfl) ?_
  refine V.getP h cls_10 (j := 7) rfl (hS.mem (show lv A 10 0 from rfl)) (hS.knd (show lv A 10 0 from rfl)) (Or.inl wf_RX10_58) (by decide +kernel) (v := some (ax 0 1)) (hS.ptr (show lv A 10 0 from rfl) (by decide) (by decide) rfl) ?_
  refine V.eq (S' := S) (ls' := [some (.ref (ax 10 0)), some (.int (nI (e))), some (.int (y)), none]) (st' := [.ref (ax 0 1), .int (nI (e))]) rfl rfl rfl ?_
  refine V.callV h (np := 0) (st := [.int (nI (e))]) (s_mas hls hS (post := fun v S7 => v = some (.int (nI (tf A 5))) ∧ S = S7) ⟨rfl, rfl⟩) wc_Jx4a65c_size_8abf5 wn_RJx4a65c (Or.inl wm_RX10_85) wi_Jx4a65c_size_8abf5 we_Jx4a65c_size_8abf5 (by decide +kernel) rfl cls_0 (hS.mem (show lv A 0 1 from (Or.inl (by decide)))) (hS.knd (show lv A 0 1 from (Or.inl (by decide)))) (Nat.le_of_ble_eq_true rfl) (Nat.le_of_ble_eq_true rfl) (Nat.zero_le _) (Nat.zero_le _) (by simp [Value.category]) (by decide +kernel) rfl (fun v Z1 q9 => ?_)
  obtain ⟨rfl, hS9⟩ := q9
  subst hS9
  refine V.eq (S' := S) (ls' := [some (.ref (ax 10 0)), some (.int (nI (e))), some (.int (y)), none]) (st' := [.int (nI (tf A 5)), .int (nI (e))]) rfl rfl rfl ?_
  refine V.callS h (np := 2) (st := []) (c_checkIndex hls (x := nI e) (n := tf A 5) (noIx_nI (by omega) (by omega)) (post := fun v S7 => v = none ∧ S = S7) ⟨rfl, rfl⟩) wc_X10_checkIndex wn_RX10 (Or.inl wm_RX10_74) wt_X10_checkIndex (by decide +kernel) rfl (Nat.le_of_ble_eq_true rfl) (Nat.le_of_ble_eq_true rfl) (Nat.zero_le _) (Nat.zero_le _) (by simp [Value.category]) (by decide +kernel) rfl (fun v Z2 q9 => ?_)
  obtain ⟨rfl, hS9⟩ := q9
  subst hS9
  refine V.blk h [(.iload_n 2, 1), (.iconst 4, 1)] (by decide +kernel) (pc' := 13) (ls' := [some (.ref (ax 10 0)), some (.int (nI (e))), some (.int (y)), none]) (st' := [.int (nI (4)), .int (y)]) rfl rfl (Nat.le_of_ble_eq_true rfl) ?_
  refine V.callSX h (np := 2) (st := []) (t_checkWhat hls (n := 4) (by decide) hy) wc_X10_checkWhat wn_RX10 wm_RX10_78 wt_X10_checkWhat (by decide +kernel) rfl (by decide) (by decide) (by decide) (by decide) (by simp [Value.category]) (by decide +kernel) rfl ?_
  exact VX.out h hA hnx (by decide) (by decide)
set_option maxRecDepth 100000 in
set_option maxHeartbeats 4000000 in
theorem t_value_b {l : Launch} {D : va_G} {tc : Nat → ClassId} {ax ay : Nat → Nat → Nat} {A : TS} {S : HS} (hls : l.stackTraces = false) (hS : RA tc (mx ax ay) A S) {x : Int32} {y : Int32} (hx : noIx x (tf A 5) = true) : CT l D tc yX10_value cX10_value 3 (some .int) 7 1 6 [.ref (ax 10 0), .int (x), .int (y)] S "java/lang/IndexOutOfBoundsException" := by
  refine CT.of hls (by decide +kernel) (by simp [Value.category]) (Nat.le_of_ble_eq_true rfl) (fun A0 p e9 s m args below meth c sz h hnx hA => ?_)
  have h5 := hS.2.2.2.1.1
  have h12 := hS.2.2.2.1.2.1
  have h53 := hS.2.2.2.1.2.2.2.2
  have hf3 := hS.2.2.1.2.1
  have hf1 := hS.2.2.1.1
  refine V.eqL (ls' := [some (.ref (ax 10 0)), some (.int (x)), some (.int (y))]) rfl ?_
  refine V.blk h [(.iload_n 1, 1), (.aload_n 0, 1)] (by decide +kernel) (pc' := 2) (ls' := [some (.ref (ax 10 0)), some (.int (x)), some (.int (y))]) (st' := [.ref (ax 10 0), .int (x)]) rfl rfl (Nat.le_of_ble_eq_true rfl) ?_
  refine V.getP h cls_10 (j := 7) rfl (hS.mem (show lv A 10 0 from rfl)) (hS.knd (show lv A 10 0 from rfl)) (Or.inl wf_RX10_58) (by decide +kernel) (v := some (ax 0 1)) (hS.ptr (show lv A 10 0 from rfl) (by decide) (by decide) rfl) ?_
  refine V.eq (S' := S) (ls' := [some (.ref (ax 10 0)), some (.int (x)), some (.int (y))]) (st' := [.ref (ax 0 1), .int (x)]) rfl rfl rfl ?_
  refine V.callV h (np := 0) (st := [.int (x)]) (s_mas hls hS (post := fun v S7 => v = some (.int (nI (tf A 5))) ∧ S = S7) ⟨rfl, rfl⟩) wc_Jx4a65c_size_8abf5 wn_RJx4a65c (Or.inl wm_RX10_85) wi_Jx4a65c_size_8abf5 we_Jx4a65c_size_8abf5 (by decide +kernel) rfl cls_0 (hS.mem (show lv A 0 1 from (Or.inl (by decide)))) (hS.knd (show lv A 0 1 from (Or.inl (by decide)))) (Nat.le_of_ble_eq_true rfl) (Nat.le_of_ble_eq_true rfl) (Nat.zero_le _) (Nat.zero_le _) (by simp [Value.category]) (by decide +kernel) rfl (fun v Z1 q9 => ?_)
  obtain ⟨rfl, hS9⟩ := q9
  subst hS9
  refine V.eq (S' := S) (ls' := [some (.ref (ax 10 0)), some (.int (x)), some (.int (y))]) (st' := [.int (nI (tf A 5)), .int (x)]) rfl rfl rfl ?_
  refine V.callSX h (np := 2) (st := []) (t_checkIndex hls (n := tf A 5) hx) wc_X10_checkIndex wn_RX10 wm_RX10_74 wt_X10_checkIndex (by decide +kernel) rfl (by decide) (by decide) (by decide) (by decide) (by simp [Value.category]) (by decide +kernel) rfl ?_
  exact VX.out h hA hnx (by decide) (by decide)
set_option maxRecDepth 100000 in
set_option maxHeartbeats 4000000 in
theorem t_value_y {l : Launch} {D : va_G} {tc : Nat → ClassId} {ax ay : Nat → Nat → Nat} {A : TS} {S : HS} (hls : l.stackTraces = false) (hS : RA tc (mx ax ay) A S) {e : Nat} {y : Int32} (he5 : e < tf A 5) (hy : noIx y 16 = true) : CT l D tc yX10_value cX10_value 3 (some .int) 7 1 6 [.ref (ax 10 0), .int (nI (e)), .int (y)] S "java/lang/IndexOutOfBoundsException" := by
  refine CT.of hls (by decide +kernel) (by simp [Value.category]) (Nat.le_of_ble_eq_true rfl) (fun A0 p e9 s m args below meth c sz h hnx hA => ?_)
  have h5 := hS.2.2.2.1.1
  have h12 := hS.2.2.2.1.2.1
  have h53 := hS.2.2.2.1.2.2.2.2
  have hf3 := hS.2.2.1.2.1
  have hf1 := hS.2.2.1.1
  refine V.eqL (ls' := [some (.ref (ax 10 0)), some (.int (nI (e))), some (.int (y))]) rfl ?_
  refine V.blk h [(.iload_n 1, 1), (.aload_n 0, 1)] (by decide +kernel) (pc' := 2) (ls' := [some (.ref (ax 10 0)), some (.int (nI (e))), some (.int (y))]) (st' := [.ref (ax 10 0), .int (nI (e))]) rfl rfl (Nat.le_of_ble_eq_true rfl) ?_
  refine V.getP h cls_10 (j := 7) rfl (hS.mem (show lv A 10 0 from rfl)) (hS.knd (show lv A 10 0 from rfl)) (Or.inl wf_RX10_58) (by decide +kernel) (v := some (ax 0 1)) (hS.ptr (show lv A 10 0 from rfl) (by decide) (by decide) rfl) ?_
  refine V.eq (S' := S) (ls' := [some (.ref (ax 10 0)), some (.int (nI (e))), some (.int (y))]) (st' := [.ref (ax 0 1), .int (nI (e))]) rfl rfl rfl ?_
  refine V.callV h (np := 0) (st := [.int (nI (e))]) (s_mas hls hS (post := fun v S7 => v = some (.int (nI (tf A 5))) ∧ S = S7) ⟨rfl, rfl⟩) wc_Jx4a65c_size_8abf5 wn_RJx4a65c (Or.inl wm_RX10_85) wi_Jx4a65c_size_8abf5 we_Jx4a65c_size_8abf5 (by decide +kernel) rfl cls_0 (hS.mem (show lv A 0 1 from (Or.inl (by decide)))) (hS.knd (show lv A 0 1 from (Or.inl (by decide)))) (Nat.le_of_ble_eq_true rfl) (Nat.le_of_ble_eq_true rfl) (Nat.zero_le _) (Nat.zero_le _) (by simp [Value.category]) (by decide +kernel) rfl (fun v Z1 q9 => ?_)
  obtain ⟨rfl, hS9⟩ := q9
  subst hS9
  refine V.eq (S' := S) (ls' := [some (.ref (ax 10 0)), some (.int (nI (e))), some (.int (y))]) (st' := [.int (nI (tf A 5)), .int (nI (e))]) rfl rfl rfl ?_
  refine V.callS h (np := 2) (st := []) (c_checkIndex hls (x := nI e) (n := tf A 5) (noIx_nI (by omega) (by omega)) (post := fun v S7 => v = none ∧ S = S7) ⟨rfl, rfl⟩) wc_X10_checkIndex wn_RX10 (Or.inl wm_RX10_74) wt_X10_checkIndex (by decide +kernel) rfl (Nat.le_of_ble_eq_true rfl) (Nat.le_of_ble_eq_true rfl) (Nat.zero_le _) (Nat.zero_le _) (by simp [Value.category]) (by decide +kernel) rfl (fun v Z2 q9 => ?_)
  obtain ⟨rfl, hS9⟩ := q9
  subst hS9
  refine V.blk h [(.iload_n 2, 1), (.bipush 16, 2)] (by decide +kernel) (pc' := 14) (ls' := [some (.ref (ax 10 0)), some (.int (nI (e))), some (.int (y))]) (st' := [.int (nI (16)), .int (y)]) rfl rfl (Nat.le_of_ble_eq_true rfl) ?_
  refine V.callSX h (np := 2) (st := []) (t_checkIndex hls (n := 16) hy) wc_X10_checkIndex wn_RX10 wm_RX10_74 wt_X10_checkIndex (by decide +kernel) rfl (by decide) (by decide) (by decide) (by decide) (by simp [Value.category]) (by decide +kernel) rfl ?_
  exact VX.out h hA hnx (by decide) (by decide)
set_option maxRecDepth 100000 in
set_option maxHeartbeats 4000000 in
theorem t_backup_b {l : Launch} {D : va_G} {tc : Nat → ClassId} {ax ay : Nat → Nat → Nat} {A : TS} {S : HS} (hls : l.stackTraces = false) (hS : RA tc (mx ax ay) A S) {x : Int32} {y : Int32} (hx : noIx x (tf A 1) = true) : CT l D tc yX10_backup cX10_backup 4 (some .int) 7 1 6 [.ref (ax 10 0), .int (x), .int (y)] S "java/lang/IndexOutOfBoundsException" := by
  refine CT.of hls (by decide +kernel) (by simp [Value.category]) (Nat.le_of_ble_eq_true rfl) (fun A0 p e9 s m args below meth c sz h hnx hA => ?_)
  have h5 := hS.2.2.2.1.1
  have h12 := hS.2.2.2.1.2.1
  have h53 := hS.2.2.2.1.2.2.2.2
  have hf3 := hS.2.2.1.2.1
  have hf1 := hS.2.2.1.1
  refine V.eqL (ls' := [some (.ref (ax 10 0)), some (.int (x)), some (.int (y)), none]) rfl ?_
  refine V.blk h [(.iload_n 1, 1), (.aload_n 0, 1)] (by decide +kernel) (pc' := 2) (ls' := [some (.ref (ax 10 0)), some (.int (x)), some (.int (y)), none]) (st' := [.ref (ax 10 0), .int (x)]) rfl rfl (Nat.le_of_ble_eq_true rfl) ?_
  refine V.getP h cls_10 (j := 5) rfl (hS.mem (show lv A 10 0 from rfl)) (hS.knd (show lv A 10 0 from rfl)) (Or.inl wf_RX10_39) (by decide +kernel) (v := some (ax 25 0)) (hS.ptr (show lv A 10 0 from rfl) (by decide) (by decide) rfl) ?_
  refine V.eq (S' := S) (ls' := [some (.ref (ax 10 0)), some (.int (x)), some (.int (y)), none]) (st' := [.ref (ax 25 0), .int (x)]) rfl rfl rfl ?_
  refine V.alen h 25 (hS.mem (show lv A 25 0 from rfl)) (hS.knd (show lv A 25 0 from rfl)) (by decide) (M := tf A 1) (hS.len (show lv A 25 0 from rfl) (by decide)) (by decide +kernel) ?_
  refine V.callSX h (np := 2) (st := []) (t_checkIndex hls (n := tf A 1) hx) wc_X10_checkIndex wn_RX10 wm_RX10_74 wt_X10_checkIndex (by decide +kernel) rfl (by decide) (by decide) (by decide) (by decide) (by simp [Value.category]) (by decide +kernel) rfl ?_
  exact VX.out h hA hnx (by decide) (by decide)
set_option maxRecDepth 100000 in
set_option maxHeartbeats 4000000 in
theorem t_backup_w {l : Launch} {D : va_G} {tc : Nat → ClassId} {ax ay : Nat → Nat → Nat} {A : TS} {S : HS} (hls : l.stackTraces = false) (hS : RA tc (mx ax ay) A S) {b : Nat} {y : Int32} (hb : b < tf A 1) (hy : noIx y 2 = true) : CT l D tc yX10_backup cX10_backup 4 (some .int) 7 1 6 [.ref (ax 10 0), .int (nI (b)), .int (y)] S "java/lang/IllegalArgumentException" := by
  refine CT.of hls (by decide +kernel) (by simp [Value.category]) (Nat.le_of_ble_eq_true rfl) (fun A0 p e9 s m args below meth c sz h hnx hA => ?_)
  have h5 := hS.2.2.2.1.1
  have h12 := hS.2.2.2.1.2.1
  have h53 := hS.2.2.2.1.2.2.2.2
  have hf3 := hS.2.2.1.2.1
  have hf1 := hS.2.2.1.1
  refine V.eqL (ls' := [some (.ref (ax 10 0)), some (.int (nI (b))), some (.int (y)), none]) rfl ?_
  refine V.blk h [(.iload_n 1, 1), (.aload_n 0, 1)] (by decide +kernel) (pc' := 2) (ls' := [some (.ref (ax 10 0)), some (.int (nI (b))), some (.int (y)), none]) (st' := [.ref (ax 10 0), .int (nI (b))]) rfl rfl (Nat.le_of_ble_eq_true rfl) ?_
  refine V.getP h cls_10 (j := 5) rfl (hS.mem (show lv A 10 0 from rfl)) (hS.knd (show lv A 10 0 from rfl)) (Or.inl wf_RX10_39) (by decide +kernel) (v := some (ax 25 0)) (hS.ptr (show lv A 10 0 from rfl) (by decide) (by decide) rfl) ?_
  refine V.eq (S' := S) (ls' := [some (.ref (ax 10 0)), some (.int (nI (b))), some (.int (y)), none]) (st' := [.ref (ax 25 0), .int (nI (b))]) rfl rfl rfl ?_
  refine V.alen h 25 (hS.mem (show lv A 25 0 from rfl)) (hS.knd (show lv A 25 0 from rfl)) (by decide) (M := tf A 1) (hS.len (show lv A 25 0 from rfl) (by decide)) (by decide +kernel) ?_
  refine V.callS h (np := 2) (st := []) (c_checkIndex hls (x := nI b) (n := tf A 1) (noIx_nI (by omega) (by omega)) (post := fun v S7 => v = none ∧ S = S7) ⟨rfl, rfl⟩) wc_X10_checkIndex wn_RX10 (Or.inl wm_RX10_74) wt_X10_checkIndex (by decide +kernel) rfl (Nat.le_of_ble_eq_true rfl) (Nat.le_of_ble_eq_true rfl) (Nat.zero_le _) (Nat.zero_le _) (by simp [Value.category]) (by decide +kernel) rfl (fun v Z1 q9 => ?_)
  obtain ⟨rfl, hS9⟩ := q9
  subst hS9
  refine V.blk h [(.iload_n 2, 1), (.iconst 1, 1)] (by decide +kernel) (pc' := 11) (ls' := [some (.ref (ax 10 0)), some (.int (nI (b))), some (.int (y)), none]) (st' := [.int (nI (1)), .int (y)]) rfl rfl (Nat.le_of_ble_eq_true rfl) ?_
  refine V.callSX h (np := 2) (st := []) (t_checkWhat hls (n := 1) (by decide) hy) wc_X10_checkWhat wn_RX10 wm_RX10_78 wt_X10_checkWhat (by decide +kernel) rfl (by decide) (by decide) (by decide) (by decide) (by simp [Value.category]) (by decide +kernel) rfl ?_
  exact VX.out h hA hnx (by decide) (by decide)
set_option maxRecDepth 100000 in
set_option maxHeartbeats 4000000 in
theorem t_witness_b {l : Launch} {D : va_G} {tc : Nat → ClassId} {ax ay : Nat → Nat → Nat} {A : TS} {S : HS} (hls : l.stackTraces = false) (hS : RA tc (mx ax ay) A S) {x : Int32} {y : Int32} (hx : noIx x (tf A 1) = true) : CT l D tc yX10_witness cX10_witness 4 (some .int) 7 1 6 [.ref (ax 10 0), .int (x), .int (y)] S "java/lang/IndexOutOfBoundsException" := by
  refine CT.of hls (by decide +kernel) (by simp [Value.category]) (Nat.le_of_ble_eq_true rfl) (fun A0 p e9 s m args below meth c sz h hnx hA => ?_)
  have h5 := hS.2.2.2.1.1
  have h12 := hS.2.2.2.1.2.1
  have h53 := hS.2.2.2.1.2.2.2.2
  have hf3 := hS.2.2.1.2.1
  have hf1 := hS.2.2.1.1
  refine V.eqL (ls' := [some (.ref (ax 10 0)), some (.int (x)), some (.int (y)), none]) rfl ?_
  refine V.blk h [(.iload_n 1, 1), (.aload_n 0, 1)] (by decide +kernel) (pc' := 2) (ls' := [some (.ref (ax 10 0)), some (.int (x)), some (.int (y)), none]) (st' := [.ref (ax 10 0), .int (x)]) rfl rfl (Nat.le_of_ble_eq_true rfl) ?_
  refine V.getP h cls_10 (j := 6) rfl (hS.mem (show lv A 10 0 from rfl)) (hS.knd (show lv A 10 0 from rfl)) (Or.inl wf_RX10_45) (by decide +kernel) (v := some (ax 26 0)) (hS.ptr (show lv A 10 0 from rfl) (by decide) (by decide) rfl) ?_
  refine V.eq (S' := S) (ls' := [some (.ref (ax 10 0)), some (.int (x)), some (.int (y)), none]) (st' := [.ref (ax 26 0), .int (x)]) rfl rfl rfl ?_
  refine V.alen h 26 (hS.mem (show lv A 26 0 from rfl)) (hS.knd (show lv A 26 0 from rfl)) (by decide) (M := tf A 1) (hS.len (show lv A 26 0 from rfl) (by decide)) (by decide +kernel) ?_
  refine V.callSX h (np := 2) (st := []) (t_checkIndex hls (n := tf A 1) hx) wc_X10_checkIndex wn_RX10 wm_RX10_74 wt_X10_checkIndex (by decide +kernel) rfl (by decide) (by decide) (by decide) (by decide) (by simp [Value.category]) (by decide +kernel) rfl ?_
  exact VX.out h hA hnx (by decide) (by decide)
set_option maxRecDepth 100000 in
set_option maxHeartbeats 4000000 in
theorem t_witness_w {l : Launch} {D : va_G} {tc : Nat → ClassId} {ax ay : Nat → Nat → Nat} {A : TS} {S : HS} (hls : l.stackTraces = false) (hS : RA tc (mx ax ay) A S) {w : Nat} {y : Int32} (hw : w < tf A 1) (hy : noIx y 4 = true) : CT l D tc yX10_witness cX10_witness 4 (some .int) 7 1 6 [.ref (ax 10 0), .int (nI (w)), .int (y)] S "java/lang/IllegalArgumentException" := by
  refine CT.of hls (by decide +kernel) (by simp [Value.category]) (Nat.le_of_ble_eq_true rfl) (fun A0 p e9 s m args below meth c sz h hnx hA => ?_)
  have h5 := hS.2.2.2.1.1
  have h12 := hS.2.2.2.1.2.1
  have h53 := hS.2.2.2.1.2.2.2.2
  have hf3 := hS.2.2.1.2.1
  have hf1 := hS.2.2.1.1
  refine V.eqL (ls' := [some (.ref (ax 10 0)), some (.int (nI (w))), some (.int (y)), none]) rfl ?_
  refine V.blk h [(.iload_n 1, 1), (.aload_n 0, 1)] (by decide +kernel) (pc' := 2) (ls' := [some (.ref (ax 10 0)), some (.int (nI (w))), some (.int (y)), none]) (st' := [.ref (ax 10 0), .int (nI (w))]) rfl rfl (Nat.le_of_ble_eq_true rfl) ?_
  refine V.getP h cls_10 (j := 6) rfl (hS.mem (show lv A 10 0 from rfl)) (hS.knd (show lv A 10 0 from rfl)) (Or.inl wf_RX10_45) (by decide +kernel) (v := some (ax 26 0)) (hS.ptr (show lv A 10 0 from rfl) (by decide) (by decide) rfl) ?_
  refine V.eq (S' := S) (ls' := [some (.ref (ax 10 0)), some (.int (nI (w))), some (.int (y)), none]) (st' := [.ref (ax 26 0), .int (nI (w))]) rfl rfl rfl ?_
  refine V.alen h 26 (hS.mem (show lv A 26 0 from rfl)) (hS.knd (show lv A 26 0 from rfl)) (by decide) (M := tf A 1) (hS.len (show lv A 26 0 from rfl) (by decide)) (by decide +kernel) ?_
  refine V.callS h (np := 2) (st := []) (c_checkIndex hls (x := nI w) (n := tf A 1) (noIx_nI (by omega) (by omega)) (post := fun v S7 => v = none ∧ S = S7) ⟨rfl, rfl⟩) wc_X10_checkIndex wn_RX10 (Or.inl wm_RX10_74) wt_X10_checkIndex (by decide +kernel) rfl (Nat.le_of_ble_eq_true rfl) (Nat.le_of_ble_eq_true rfl) (Nat.zero_le _) (Nat.zero_le _) (by simp [Value.category]) (by decide +kernel) rfl (fun v Z1 q9 => ?_)
  obtain ⟨rfl, hS9⟩ := q9
  subst hS9
  refine V.blk h [(.iload_n 2, 1), (.iconst 3, 1)] (by decide +kernel) (pc' := 11) (ls' := [some (.ref (ax 10 0)), some (.int (nI (w))), some (.int (y)), none]) (st' := [.int (nI (3)), .int (y)]) rfl rfl (Nat.le_of_ble_eq_true rfl) ?_
  refine V.callSX h (np := 2) (st := []) (t_checkWhat hls (n := 3) (by decide) hy) wc_X10_checkWhat wn_RX10 wm_RX10_78 wt_X10_checkWhat (by decide +kernel) rfl (by decide) (by decide) (by decide) (by decide) (by simp [Value.category]) (by decide +kernel) rfl ?_
  exact VX.out h hA hnx (by decide) (by decide)
set_option maxRecDepth 100000 in
set_option maxHeartbeats 4000000 in
theorem t_decide_b {l : Launch} {D : va_G} {tc : Nat → ClassId} {ax ay : Nat → Nat → Nat} {A : TS} {S : HS} (hls : l.stackTraces = false) (hS : RA tc (mx ax ay) A S) {x : Int32} {y : Int32} (hx : noIx x (tf A 1) = true) : CT l D tc yX10_decide cX10_decide 8 (some .int) 7 1 6 [.ref (ax 10 0), .int (x), .int (y)] S "java/lang/IndexOutOfBoundsException" := by
  refine CT.of hls (by decide +kernel) (by simp [Value.category]) (Nat.le_of_ble_eq_true rfl) (fun A0 p e9 s m args below meth c sz h hnx hA => ?_)
  have h5 := hS.2.2.2.1.1
  have h12 := hS.2.2.2.1.2.1
  have h53 := hS.2.2.2.1.2.2.2.2
  have hf3 := hS.2.2.1.2.1
  have hf1 := hS.2.2.1.1
  refine V.eqL (ls' := [some (.ref (ax 10 0)), some (.int (x)), some (.int (y)), none, none, none, none, none]) rfl ?_
  refine V.blk h [(.iload_n 1, 1), (.aload_n 0, 1)] (by decide +kernel) (pc' := 2) (ls' := [some (.ref (ax 10 0)), some (.int (x)), some (.int (y)), none, none, none, none, none]) (st' := [.ref (ax 10 0), .int (x)]) rfl rfl (Nat.le_of_ble_eq_true rfl) ?_
  refine V.getP h cls_10 (j := 5) rfl (hS.mem (show lv A 10 0 from rfl)) (hS.knd (show lv A 10 0 from rfl)) (Or.inl wf_RX10_39) (by decide +kernel) (v := some (ax 25 0)) (hS.ptr (show lv A 10 0 from rfl) (by decide) (by decide) rfl) ?_
  refine V.eq (S' := S) (ls' := [some (.ref (ax 10 0)), some (.int (x)), some (.int (y)), none, none, none, none, none]) (st' := [.ref (ax 25 0), .int (x)]) rfl rfl rfl ?_
  refine V.alen h 25 (hS.mem (show lv A 25 0 from rfl)) (hS.knd (show lv A 25 0 from rfl)) (by decide) (M := tf A 1) (hS.len (show lv A 25 0 from rfl) (by decide)) (by decide +kernel) ?_
  refine V.callSX h (np := 2) (st := []) (t_checkIndex hls (n := tf A 1) hx) wc_X10_checkIndex wn_RX10 wm_RX10_74 wt_X10_checkIndex (by decide +kernel) rfl (by decide) (by decide) (by decide) (by decide) (by simp [Value.category]) (by decide +kernel) rfl ?_
  exact VX.out h hA hnx (by decide) (by decide)
set_option maxRecDepth 100000 in
set_option maxHeartbeats 4000000 in
theorem t_decide_w {l : Launch} {D : va_G} {tc : Nat → ClassId} {ax ay : Nat → Nat → Nat} {A : TS} {S : HS} (hls : l.stackTraces = false) (hS : RA tc (mx ax ay) A S) {b : Nat} {y : Int32} (hb : b < tf A 1) (hy : noIx y (tf A 1) = true) : CT l D tc yX10_decide cX10_decide 8 (some .int) 7 1 6 [.ref (ax 10 0), .int (nI (b)), .int (y)] S "java/lang/IndexOutOfBoundsException" := by
  refine CT.of hls (by decide +kernel) (by simp [Value.category]) (Nat.le_of_ble_eq_true rfl) (fun A0 p e9 s m args below meth c sz h hnx hA => ?_)
  have h5 := hS.2.2.2.1.1
  have h12 := hS.2.2.2.1.2.1
  have h53 := hS.2.2.2.1.2.2.2.2
  have hf3 := hS.2.2.1.2.1
  have hf1 := hS.2.2.1.1
  refine V.eqL (ls' := [some (.ref (ax 10 0)), some (.int (nI (b))), some (.int (y)), none, none, none, none, none]) rfl ?_
  refine V.blk h [(.iload_n 1, 1), (.aload_n 0, 1)] (by decide +kernel) (pc' := 2) (ls' := [some (.ref (ax 10 0)), some (.int (nI (b))), some (.int (y)), none, none, none, none, none]) (st' := [.ref (ax 10 0), .int (nI (b))]) rfl rfl (Nat.le_of_ble_eq_true rfl) ?_
  refine V.getP h cls_10 (j := 5) rfl (hS.mem (show lv A 10 0 from rfl)) (hS.knd (show lv A 10 0 from rfl)) (Or.inl wf_RX10_39) (by decide +kernel) (v := some (ax 25 0)) (hS.ptr (show lv A 10 0 from rfl) (by decide) (by decide) rfl) ?_
  refine V.eq (S' := S) (ls' := [some (.ref (ax 10 0)), some (.int (nI (b))), some (.int (y)), none, none, none, none, none]) (st' := [.ref (ax 25 0), .int (nI (b))]) rfl rfl rfl ?_
  refine V.alen h 25 (hS.mem (show lv A 25 0 from rfl)) (hS.knd (show lv A 25 0 from rfl)) (by decide) (M := tf A 1) (hS.len (show lv A 25 0 from rfl) (by decide)) (by decide +kernel) ?_
  refine V.callS h (np := 2) (st := []) (c_checkIndex hls (x := nI b) (n := tf A 1) (noIx_nI (by omega) (by omega)) (post := fun v S7 => v = none ∧ S = S7) ⟨rfl, rfl⟩) wc_X10_checkIndex wn_RX10 (Or.inl wm_RX10_74) wt_X10_checkIndex (by decide +kernel) rfl (Nat.le_of_ble_eq_true rfl) (Nat.le_of_ble_eq_true rfl) (Nat.zero_le _) (Nat.zero_le _) (by simp [Value.category]) (by decide +kernel) rfl (fun v Z1 q9 => ?_)
  obtain ⟨rfl, hS9⟩ := q9
  subst hS9
  refine V.blk h [(.iload_n 2, 1), (.aload_n 0, 1)] (by decide +kernel) (pc' := 11) (ls' := [some (.ref (ax 10 0)), some (.int (nI (b))), some (.int (y)), none, none, none, none, none]) (st' := [.ref (ax 10 0), .int (y)]) rfl rfl (Nat.le_of_ble_eq_true rfl) ?_
  refine V.getP h cls_10 (j := 6) rfl (hS.mem (show lv A 10 0 from rfl)) (hS.knd (show lv A 10 0 from rfl)) (Or.inl wf_RX10_45) (by decide +kernel) (v := some (ax 26 0)) (hS.ptr (show lv A 10 0 from rfl) (by decide) (by decide) rfl) ?_
  refine V.eq (S' := S) (ls' := [some (.ref (ax 10 0)), some (.int (nI (b))), some (.int (y)), none, none, none, none, none]) (st' := [.ref (ax 26 0), .int (y)]) rfl rfl rfl ?_
  refine V.alen h 26 (hS.mem (show lv A 26 0 from rfl)) (hS.knd (show lv A 26 0 from rfl)) (by decide) (M := tf A 1) (hS.len (show lv A 26 0 from rfl) (by decide)) (by decide +kernel) ?_
  refine V.callSX h (np := 2) (st := []) (t_checkIndex hls (n := tf A 1) hy) wc_X10_checkIndex wn_RX10 wm_RX10_74 wt_X10_checkIndex (by decide +kernel) rfl (by decide) (by decide) (by decide) (by decide) (by simp [Value.category]) (by decide +kernel) rfl ?_
  exact VX.out h hA hnx (by decide) (by decide)
set_option maxRecDepth 100000 in
set_option maxHeartbeats 4000000 in
theorem t_decide_f {l : Launch} {D : va_G} {tc : Nat → ClassId} {ax ay : Nat → Nat → Nat} {A : TS} {S : HS} (hls : l.stackTraces = false) (hS : RA tc (mx ax ay) A S) {b : Nat} {w : Nat} (hb : b < tf A 1) (hw : w < tf A 1) (h12e : tf A 5 = 12) : CT l D tc yX10_decide cX10_decide 8 (some .int) 7 1 6 [.ref (ax 10 0), .int (nI (b)), .int (nI (w))] S "java/lang/UnsupportedOperationException" := by
  refine CT.of hls (by decide +kernel) (by simp [Value.category]) (Nat.le_of_ble_eq_true rfl) (fun A0 p e9 s m args below meth c sz h hnx hA => ?_)
  have h5 := hS.2.2.2.1.1
  have h12 := hS.2.2.2.1.2.1
  have h53 := hS.2.2.2.1.2.2.2.2
  have hf3 := hS.2.2.1.2.1
  have hf1 := hS.2.2.1.1
  refine V.eqL (ls' := [some (.ref (ax 10 0)), some (.int (nI (b))), some (.int (nI (w))), none, none, none, none, none]) rfl ?_
  refine V.blk h [(.iload_n 1, 1), (.aload_n 0, 1)] (by decide +kernel) (pc' := 2) (ls' := [some (.ref (ax 10 0)), some (.int (nI (b))), some (.int (nI (w))), none, none, none, none, none]) (st' := [.ref (ax 10 0), .int (nI (b))]) rfl rfl (Nat.le_of_ble_eq_true rfl) ?_
  refine V.getP h cls_10 (j := 5) rfl (hS.mem (show lv A 10 0 from rfl)) (hS.knd (show lv A 10 0 from rfl)) (Or.inl wf_RX10_39) (by decide +kernel) (v := some (ax 25 0)) (hS.ptr (show lv A 10 0 from rfl) (by decide) (by decide) rfl) ?_
  refine V.eq (S' := S) (ls' := [some (.ref (ax 10 0)), some (.int (nI (b))), some (.int (nI (w))), none, none, none, none, none]) (st' := [.ref (ax 25 0), .int (nI (b))]) rfl rfl rfl ?_
  refine V.alen h 25 (hS.mem (show lv A 25 0 from rfl)) (hS.knd (show lv A 25 0 from rfl)) (by decide) (M := tf A 1) (hS.len (show lv A 25 0 from rfl) (by decide)) (by decide +kernel) ?_
  refine V.callS h (np := 2) (st := []) (c_checkIndex hls (x := nI b) (n := tf A 1) (noIx_nI (by omega) (by omega)) (post := fun v S7 => v = none ∧ S = S7) ⟨rfl, rfl⟩) wc_X10_checkIndex wn_RX10 (Or.inl wm_RX10_74) wt_X10_checkIndex (by decide +kernel) rfl (Nat.le_of_ble_eq_true rfl) (Nat.le_of_ble_eq_true rfl) (Nat.zero_le _) (Nat.zero_le _) (by simp [Value.category]) (by decide +kernel) rfl (fun v Z1 q9 => ?_)
  obtain ⟨rfl, hS9⟩ := q9
  subst hS9
  refine V.blk h [(.iload_n 2, 1), (.aload_n 0, 1)] (by decide +kernel) (pc' := 11) (ls' := [some (.ref (ax 10 0)), some (.int (nI (b))), some (.int (nI (w))), none, none, none, none, none]) (st' := [.ref (ax 10 0), .int (nI (w))]) rfl rfl (Nat.le_of_ble_eq_true rfl) ?_
  refine V.getP h cls_10 (j := 6) rfl (hS.mem (show lv A 10 0 from rfl)) (hS.knd (show lv A 10 0 from rfl)) (Or.inl wf_RX10_45) (by decide +kernel) (v := some (ax 26 0)) (hS.ptr (show lv A 10 0 from rfl) (by decide) (by decide) rfl) ?_
  refine V.eq (S' := S) (ls' := [some (.ref (ax 10 0)), some (.int (nI (b))), some (.int (nI (w))), none, none, none, none, none]) (st' := [.ref (ax 26 0), .int (nI (w))]) rfl rfl rfl ?_
  refine V.alen h 26 (hS.mem (show lv A 26 0 from rfl)) (hS.knd (show lv A 26 0 from rfl)) (by decide) (M := tf A 1) (hS.len (show lv A 26 0 from rfl) (by decide)) (by decide +kernel) ?_
  refine V.callS h (np := 2) (st := []) (c_checkIndex hls (x := nI w) (n := tf A 1) (noIx_nI (by omega) (by omega)) (post := fun v S7 => v = none ∧ S = S7) ⟨rfl, rfl⟩) wc_X10_checkIndex wn_RX10 (Or.inl wm_RX10_74) wt_X10_checkIndex (by decide +kernel) rfl (Nat.le_of_ble_eq_true rfl) (Nat.le_of_ble_eq_true rfl) (Nat.zero_le _) (Nat.zero_le _) (by simp [Value.category]) (by decide +kernel) rfl (fun v Z2 q9 => ?_)
  obtain ⟨rfl, hS9⟩ := q9
  subst hS9
  refine V.blk h [(.aload_n 0, 1)] (by decide +kernel) (pc' := 19) (ls' := [some (.ref (ax 10 0)), some (.int (nI (b))), some (.int (nI (w))), none, none, none, none, none]) (st' := [.ref (ax 10 0)]) rfl rfl (Nat.le_of_ble_eq_true rfl) ?_
  refine V.getP h cls_10 (j := 7) rfl (hS.mem (show lv A 10 0 from rfl)) (hS.knd (show lv A 10 0 from rfl)) (Or.inl wf_RX10_58) (by decide +kernel) (v := some (ax 0 1)) (hS.ptr (show lv A 10 0 from rfl) (by decide) (by decide) rfl) ?_
  refine V.eq (S' := S) (ls' := [some (.ref (ax 10 0)), some (.int (nI (b))), some (.int (nI (w))), none, none, none, none, none]) (st' := [.ref (ax 0 1)]) rfl rfl rfl ?_
  refine V.callV h (np := 0) (st := []) (s_mas hls hS (post := fun v S7 => v = some (.int (nI (tf A 5))) ∧ S = S7) ⟨rfl, rfl⟩) wc_Jx4a65c_size_8abf5 wn_RJx4a65c (Or.inl wm_RX10_85) wi_Jx4a65c_size_8abf5 we_Jx4a65c_size_8abf5 (by decide +kernel) rfl cls_0 (hS.mem (show lv A 0 1 from (Or.inl (by decide)))) (hS.knd (show lv A 0 1 from (Or.inl (by decide)))) (Nat.le_of_ble_eq_true rfl) (Nat.le_of_ble_eq_true rfl) (Nat.zero_le _) (Nat.zero_le _) (by simp [Value.category]) (by decide +kernel) rfl (fun v Z3 q9 => ?_)
  obtain ⟨rfl, hS9⟩ := q9
  subst hS9
  refine V.eq (S' := S) (ls' := [some (.ref (ax 10 0)), some (.int (nI (b))), some (.int (nI (w))), none, none, none, none, none]) (st' := [.int (nI (tf A 5))]) rfl rfl rfl ?_
  refine V.blk h [(.bipush 12, 2)] (by decide +kernel) (pc' := 27) (ls' := [some (.ref (ax 10 0)), some (.int (nI (b))), some (.int (nI (w))), none, none, none, none, none]) (st' := [.int (nI (12)), .int (nI (tf A 5))]) rfl rfl (Nat.le_of_ble_eq_true rfl) ?_
  refine V.icmp_lt h (off := 11) (by decide +kernel) (tgt := 38) (by decide) (fun q => ?_) (fun q => ?_)
  · have q27_28 := ((nI_ltI (by omega) (by omega)).mp q)
    clear q
    omega
  · have q27_28 : ¬ _ := (fun z => q ((nI_ltI (by omega) (by omega)).mpr z))
    clear q
    exact V.throw0 h hA hnx (by decide +kernel) wl_RX10_170 wn_java_lang_UnsupportedOperationException hat_UOE hgx_UOE (by decide +kernel) (by decide +kernel) (by decide +kernel) (by decide +kernel) (by decide) (by decide) (by decide) (by decide) (by decide) (by decide)
