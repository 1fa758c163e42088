theorem nI_le2 (y : Int32) : y ≤ nI 2 ↔ y < nI 3 := by
  rw [Int32.le_iff_toInt_le, Int32.lt_iff_toInt_lt, nI_toInt (by decide), nI_toInt (by decide)]
  omega
set_option maxRecDepth 100000 in
set_option maxHeartbeats 4000000 in
theorem r_value_b {l : Launch} {D : va_G} {tc : Nat → ClassId} {am : Nat} {ad : Nat → Nat} (hls : l.stackTraces = false) (A : TS) (A1 : TS) (x : Int32) (y : Int32) (hA1 : A1 = sf A 0 0) (hx : noIx x (tf A1 38) = true) : RM l D tc am ad yX11_value cX11_value 3 (some .int) 3 [.ref am, .int (x), .int (y)] A (some (.int (nI 0))) (sf A1 0 1) := by
  refine RM.of hls (by decide +kernel) (by simp [Value.category]) (Nat.le_of_ble_eq_true rfl) (fun A0 p e9 s m args below meth c S0 sz Q h hr hA hQ => ?_)
  refine VR.eqL (ls' := [some (.ref am), some (.int (x)), some (.int (y))]) rfl ?_
  refine VR.blk h [(.aload_n 0, 1), (.iconst 0, 1)] (by decide +kernel) (pc' := 2) (ls' := [some (.ref am), some (.int (x)), some (.int (y))]) (st' := [.int (nI (0)), .ref am]) rfl rfl (Nat.le_of_ble_eq_true rfl) ?_
  refine VR.putI h (j := 0) rfl rfl rfl (Or.inl wf_RX11_1) (by decide +kernel) ?_
  refine VR.eqA (A' := A1) hA1 ?_
  refine VR.blk h [(.aload_n 0, 1), (.aload_n 0, 1), (.iload_n 1, 1)] (by decide +kernel) (pc' := 8) (ls' := [some (.ref am), some (.int (x)), some (.int (y))]) (st' := [.int (x), .ref am, .ref am]) rfl rfl (Nat.le_of_ble_eq_true rfl) ?_
  refine VR.call h (np := 1) (st := [.ref am]) (r_noEpoch_ hls A1 hx) wc_X11_noEpoch wn_RX11 (Or.inl wm_RX11_289) wi_X11_noEpoch we_X11_noEpoch (by decide +kernel) rfl (by decide) (by decide) (by simp [Value.category]) (by decide +kernel) rfl ?_
  refine VR.if_ne h (off := 13) (by decide +kernel) (tgt := 24) (by decide) (fun _ => ?_) (fun q => absurd q (by decide))
  refine VR.blk h [(.iconst 1, 1)] (by decide +kernel) (pc' := 25) (ls' := [some (.ref am), some (.int (x)), some (.int (y))]) (st' := [.int (nI (1)), .ref am]) rfl rfl (Nat.le_of_ble_eq_true rfl) ?_
  refine VR.goto h (off := 4) (tgt := 29) (by decide +kernel) (by decide) ?_
  refine VR.blk h [(.iconst 1, 1)] (by decide +kernel) (pc' := 30) (ls' := [some (.ref am), some (.int (x)), some (.int (y))]) (st' := [.int (nI (1)), .int (nI (1)), .ref am]) rfl rfl (Nat.le_of_ble_eq_true rfl) ?_
  refine VR.call h (np := 2) (st := []) (r_throwsT hls A1 1) wc_X11_throwsIf wn_RX11 (Or.inl wm_RX11_247) wi_X11_throwsIf we_X11_throwsIf (by decide +kernel) rfl (by decide) (by decide) (by simp [Value.category]) (by decide +kernel) (by simp [oI_s, bI_f, bI_t]) ?_
  refine VR.if_eq h (off := 5) (by decide +kernel) (tgt := 38) (by decide) (fun q => absurd q (by decide)) (fun _ => ?_)
  refine VR.blk h [(.iconst 0, 1)] (by decide +kernel) (pc' := 37) (ls' := [some (.ref am), some (.int (x)), some (.int (y))]) (st' := [.int (nI (0))]) rfl rfl (Nat.le_of_ble_eq_true rfl) ?_
  exact VR.iret h hA hQ hr rfl rfl rfl (by decide +kernel)

set_option maxRecDepth 100000 in
set_option maxHeartbeats 4000000 in
theorem r_value_y {l : Launch} {D : va_G} {tc : Nat → ClassId} {am : Nat} {ad : Nat → Nat} (hls : l.stackTraces = false) (A : TS) (A1 : TS) (e K : Nat) (y : Int32) (hA1 : A1 = sf A 0 0) (he : e < tf A1 38) (he2 : tf A1 38 ≤ 12) (hB : NB K A1) (hK : K < 1999980000) (hy : noIx y 16 = true) : RM l D tc am ad yX11_value cX11_value 3 (some .int) 3 [.ref am, .int (nI (e)), .int (y)] A (some (.int (nI 0))) (sf A1 0 1) := by
  refine RM.of hls (by decide +kernel) (by simp [Value.category]) (Nat.le_of_ble_eq_true rfl) (fun A0 p e9 s m args below meth c S0 sz Q h hr hA hQ => ?_)
  refine VR.eqL (ls' := [some (.ref am), some (.int (nI (e))), some (.int (y))]) rfl ?_
  refine VR.blk h [(.aload_n 0, 1), (.iconst 0, 1)] (by decide +kernel) (pc' := 2) (ls' := [some (.ref am), some (.int (nI (e))), some (.int (y))]) (st' := [.int (nI (0)), .ref am]) rfl rfl (Nat.le_of_ble_eq_true rfl) ?_
  refine VR.putI h (j := 0) rfl rfl rfl (Or.inl wf_RX11_1) (by decide +kernel) ?_
  refine VR.eqA (A' := A1) hA1 ?_
  refine VR.blk h [(.aload_n 0, 1), (.aload_n 0, 1), (.iload_n 1, 1)] (by decide +kernel) (pc' := 8) (ls' := [some (.ref am), some (.int (nI (e))), some (.int (y))]) (st' := [.int (nI (e)), .ref am, .ref am]) rfl rfl (Nat.le_of_ble_eq_true rfl) ?_
  refine VR.call h (np := 1) (st := [.ref am]) (r_noEpoch_ hls A1 (noIx_nI (by omega) (by omega))) wc_X11_noEpoch wn_RX11 (Or.inl wm_RX11_289) wi_X11_noEpoch we_X11_noEpoch (by decide +kernel) rfl (by decide) (by decide) (by simp [Value.category]) (by decide +kernel) rfl ?_
  refine VR.if_ne h (off := 13) (by decide +kernel) (tgt := 24) (by decide) (fun q => absurd (by decide) q) (fun _ => ?_)
  refine VR.blk h [(.iload_n 2, 1)] (by decide +kernel) (pc' := 15) (ls' := [some (.ref am), some (.int (nI (e))), some (.int (y))]) (st' := [.int (y), .ref am]) rfl rfl (Nat.le_of_ble_eq_true rfl) ?_
  refine VR.if_lt h (off := 9) (by decide +kernel) (tgt := 24) (by decide) (fun q => ?_) (fun q => ?_)
  · have q15_8 := q
    clear q
    refine VR.blk h [(.iconst 1, 1)] (by decide +kernel) (pc' := 25) (ls' := [some (.ref am), some (.int (nI (e))), some (.int (y))]) (st' := [.int (nI (1)), .ref am]) rfl rfl (Nat.le_of_ble_eq_true rfl) ?_
    refine VR.goto h (off := 4) (tgt := 29) (by decide +kernel) (by decide) ?_
    refine VR.blk h [(.iconst 1, 1)] (by decide +kernel) (pc' := 30) (ls' := [some (.ref am), some (.int (nI (e))), some (.int (y))]) (st' := [.int (nI (1)), .int (nI (1)), .ref am]) rfl rfl (Nat.le_of_ble_eq_true rfl) ?_
    refine VR.call h (np := 2) (st := []) (r_throwsT hls A1 1) wc_X11_throwsIf wn_RX11 (Or.inl wm_RX11_247) wi_X11_throwsIf we_X11_throwsIf (by decide +kernel) rfl (by decide) (by decide) (by simp [Value.category]) (by decide +kernel) (by simp [oI_s, bI_f, bI_t]) ?_
    refine VR.if_eq h (off := 5) (by decide +kernel) (tgt := 38) (by decide) (fun q => absurd q (by decide)) (fun _ => ?_)
    refine VR.blk h [(.iconst 0, 1)] (by decide +kernel) (pc' := 37) (ls' := [some (.ref am), some (.int (nI (e))), some (.int (y))]) (st' := [.int (nI (0))]) rfl rfl (Nat.le_of_ble_eq_true rfl) ?_
    exact VR.iret h hA hQ hr rfl rfl rfl (by decide +kernel)
  · have q15_8 := q
    clear q
    refine VR.blk h [(.iload_n 2, 1), (.bipush 16, 2)] (by decide +kernel) (pc' := 21) (ls' := [some (.ref am), some (.int (nI (e))), some (.int (y))]) (st' := [.int (nI (16)), .int (y), .ref am]) rfl rfl (Nat.le_of_ble_eq_true rfl) ?_
    refine VR.icmp_lt h (off := 7) (by decide +kernel) (tgt := 28) (by decide) (fun q => ?_) (fun q => ?_)
    · have q21_21 := q
      clear q
      exact absurd hy (by rw [noIx_2 q15_8 q21_21]; decide)
    · have q21_21 := q
      clear q
      refine VR.blk h [(.iconst 1, 1)] (by decide +kernel) (pc' := 25) (ls' := [some (.ref am), some (.int (nI (e))), some (.int (y))]) (st' := [.int (nI (1)), .ref am]) rfl rfl (Nat.le_of_ble_eq_true rfl) ?_
      refine VR.goto h (off := 4) (tgt := 29) (by decide +kernel) (by decide) ?_
      refine VR.blk h [(.iconst 1, 1)] (by decide +kernel) (pc' := 30) (ls' := [some (.ref am), some (.int (nI (e))), some (.int (y))]) (st' := [.int (nI (1)), .int (nI (1)), .ref am]) rfl rfl (Nat.le_of_ble_eq_true rfl) ?_
      refine VR.call h (np := 2) (st := []) (r_throwsT hls A1 1) wc_X11_throwsIf wn_RX11 (Or.inl wm_RX11_247) wi_X11_throwsIf we_X11_throwsIf (by decide +kernel) rfl (by decide) (by decide) (by simp [Value.category]) (by decide +kernel) (by simp [oI_s, bI_f, bI_t]) ?_
      refine VR.if_eq h (off := 5) (by decide +kernel) (tgt := 38) (by decide) (fun q => absurd q (by decide)) (fun _ => ?_)
      refine VR.blk h [(.iconst 0, 1)] (by decide +kernel) (pc' := 37) (ls' := [some (.ref am), some (.int (nI (e))), some (.int (y))]) (st' := [.int (nI (0))]) rfl rfl (Nat.le_of_ble_eq_true rfl) ?_
      exact VR.iret h hA hQ hr rfl rfl rfl (by decide +kernel)

set_option maxRecDepth 100000 in
set_option maxHeartbeats 4000000 in
theorem r_value {l : Launch} {D : va_G} {tc : Nat → ClassId} {am : Nat} {ad : Nat → Nat} (hls : l.stackTraces = false) (A : TS) (A1 : TS) (e ky K : Nat) (hA1 : A1 = sf A 0 0) (he : e < tf A1 38) (he2 : tf A1 38 ≤ 12) (hB : NB K A1) (hK : K < 1999980000) (hky : ky < 16) (hm : tn A1 26 e ≤ 600) (hlo : ∀ k, k < tn A1 26 e → tn A1 22 (600 * e + k) < 600) : RM l D tc am ad yX11_value cX11_value 3 (some .int) 3 [.ref am, .int (nI (e)), .int (nI (ky))] A (some (.int (vaF A1 e ky (tn A1 26 e)))) (A1) := by
  refine RM.of hls (by decide +kernel) (by simp [Value.category]) (Nat.le_of_ble_eq_true rfl) (fun A0 p e9 s m args below meth c S0 sz Q h hr hA hQ => ?_)
  refine VR.eqL (ls' := [some (.ref am), some (.int (nI (e))), some (.int (nI (ky)))]) rfl ?_
  refine VR.blk h [(.aload_n 0, 1), (.iconst 0, 1)] (by decide +kernel) (pc' := 2) (ls' := [some (.ref am), some (.int (nI (e))), some (.int (nI (ky)))]) (st' := [.int (nI (0)), .ref am]) rfl rfl (Nat.le_of_ble_eq_true rfl) ?_
  refine VR.putI h (j := 0) rfl rfl rfl (Or.inl wf_RX11_1) (by decide +kernel) ?_
  refine VR.eqA (A' := A1) hA1 ?_
  refine VR.blk h [(.aload_n 0, 1), (.aload_n 0, 1), (.iload_n 1, 1)] (by decide +kernel) (pc' := 8) (ls' := [some (.ref am), some (.int (nI (e))), some (.int (nI (ky)))]) (st' := [.int (nI (e)), .ref am, .ref am]) rfl rfl (Nat.le_of_ble_eq_true rfl) ?_
  refine VR.call h (np := 1) (st := [.ref am]) (r_noEpoch_ hls A1 (noIx_nI (by omega) (by omega))) wc_X11_noEpoch wn_RX11 (Or.inl wm_RX11_289) wi_X11_noEpoch we_X11_noEpoch (by decide +kernel) rfl (by decide) (by decide) (by simp [Value.category]) (by decide +kernel) rfl ?_
  refine VR.if_ne h (off := 13) (by decide +kernel) (tgt := 24) (by decide) (fun q => absurd (by decide) q) (fun _ => ?_)
  refine VR.blk h [(.iload_n 2, 1)] (by decide +kernel) (pc' := 15) (ls' := [some (.ref am), some (.int (nI (e))), some (.int (nI (ky)))]) (st' := [.int (nI (ky)), .ref am]) rfl rfl (Nat.le_of_ble_eq_true rfl) ?_
  refine VR.if_lt h (off := 9) (by decide +kernel) (tgt := 24) (by decide) (fun q => ?_) (fun q => ?_)
  · have q15_8 := ((nI_z_lt (by omega)).mp q)
    clear q
    exfalso; omega
  · have q15_8 : ¬ _ := (fun z => q ((nI_z_lt (by omega)).mpr z))
    clear q
    refine VR.blk h [(.iload_n 2, 1), (.bipush 16, 2)] (by decide +kernel) (pc' := 21) (ls' := [some (.ref am), some (.int (nI (e))), some (.int (nI (ky)))]) (st' := [.int (nI (16)), .int (nI (ky)), .ref am]) rfl rfl (Nat.le_of_ble_eq_true rfl) ?_
    refine VR.icmp_lt h (off := 7) (by decide +kernel) (tgt := 28) (by decide) (fun q => ?_) (fun q => ?_)
    · have q21_15 := ((nI_ltI (by omega) (by omega)).mp q)
      clear q
      refine VR.blk h [(.iconst 0, 1), (.iconst 1, 1)] (by decide +kernel) (pc' := 30) (ls' := [some (.ref am), some (.int (nI (e))), some (.int (nI (ky)))]) (st' := [.int (nI (1)), .int (nI (0)), .ref am]) rfl rfl (Nat.le_of_ble_eq_true rfl) ?_
      refine VR.call h (np := 2) (st := []) (r_throwsN hls A1 1) wc_X11_throwsIf wn_RX11 (Or.inl wm_RX11_247) wi_X11_throwsIf we_X11_throwsIf (by decide +kernel) rfl (by decide) (by decide) (by simp [Value.category]) (by decide +kernel) (by simp [oI_s, bI_f, bI_t]) ?_
      refine VR.if_eq h (off := 5) (by decide +kernel) (tgt := 38) (by decide) (fun _ => ?_) (fun q => absurd (by decide) q)
      refine VR.blk h [(.aload_n 0, 1), (.iload_n 1, 1), (.aload_n 0, 1)] (by decide +kernel) (pc' := 41) (ls' := [some (.ref am), some (.int (nI (e))), some (.int (nI (ky)))]) (st' := [.ref am, .int (nI (e)), .ref am]) rfl rfl (Nat.le_of_ble_eq_true rfl) ?_
      refine VR.getA h (j := 26) rfl (Or.inl wf_RX11_69) (by decide +kernel) ?_
      refine VR.blk h [(.iload_n 1, 1)] (by decide +kernel) (pc' := 45) (ls' := [some (.ref am), some (.int (nI (e))), some (.int (nI (ky)))]) (st' := [.int (nI (e)), .ref (ad 26), .int (nI (e)), .ref am]) rfl rfl (Nat.le_of_ble_eq_true rfl) ?_
      refine VR.iald h (j := 26) (i := e) rfl rfl (by show _ < 12; omega) (by decide +kernel) (v := (nI (tn A1 26 e))) (mval_1 rfl) ?_
      have nb25 := hB.2 26 e
      refine VR.blk h [(.iload_n 2, 1)] (by decide +kernel) (pc' := 47) (ls' := [some (.ref am), some (.int (nI (e))), some (.int (nI (ky)))]) (st' := [.int (nI (ky)), .int (nI (tn A1 26 e)), .int (nI (e)), .ref am]) rfl rfl (Nat.le_of_ble_eq_true rfl) ?_
      refine VR.call h (np := 3) (st := []) (r_valueAt hls A1 e (tn A1 26 e) ky K (by omega) hm hlo hB (by omega) (by omega)) wc_X11_valueAt wn_RX11 (Or.inl wm_RX11_180) wi_X11_valueAt we_X11_valueAt (by decide +kernel) rfl (by decide) (by decide) (by simp [Value.category]) (by decide +kernel) rfl ?_
      exact VR.iret h hA hQ hr rfl rfl rfl (by decide +kernel)
    · have q21_15 : ¬ _ := (fun z => q ((nI_ltI (by omega) (by omega)).mpr z))
      clear q
      exfalso; omega

set_option maxRecDepth 100000 in
set_option maxHeartbeats 4000000 in
theorem r_backup_b {l : Launch} {D : va_G} {tc : Nat → ClassId} {am : Nat} {ad : Nat → Nat} (hls : l.stackTraces = false) (A : TS) (A1 : TS) (x : Int32) (y : Int32) (hA1 : A1 = sf A 0 0) (hx : noIx x (tf A1 1) = true) : RM l D tc am ad yX11_backup cX11_backup 3 (some .int) 3 [.ref am, .int (x), .int (y)] A (some (.int (nI 0))) (sf A1 0 1) := by
  refine RM.of hls (by decide +kernel) (by simp [Value.category]) (Nat.le_of_ble_eq_true rfl) (fun A0 p e9 s m args below meth c S0 sz Q h hr hA hQ => ?_)
  refine VR.eqL (ls' := [some (.ref am), some (.int (x)), some (.int (y))]) rfl ?_
  refine VR.blk h [(.aload_n 0, 1), (.iconst 0, 1)] (by decide +kernel) (pc' := 2) (ls' := [some (.ref am), some (.int (x)), some (.int (y))]) (st' := [.int (nI (0)), .ref am]) rfl rfl (Nat.le_of_ble_eq_true rfl) ?_
  refine VR.putI h (j := 0) rfl rfl rfl (Or.inl wf_RX11_1) (by decide +kernel) ?_
  refine VR.eqA (A' := A1) hA1 ?_
  refine VR.blk h [(.aload_n 0, 1), (.iload_n 1, 1)] (by decide +kernel) (pc' := 7) (ls' := [some (.ref am), some (.int (x)), some (.int (y))]) (st' := [.int (x), .ref am]) rfl rfl (Nat.le_of_ble_eq_true rfl) ?_
  refine VR.if_lt h (off := 11) (by decide +kernel) (tgt := 18) (by decide) (fun q => ?_) (fun q => ?_)
  · have q7_5 := q
    clear q
    refine VR.blk h [(.iconst 1, 1)] (by decide +kernel) (pc' := 19) (ls' := [some (.ref am), some (.int (x)), some (.int (y))]) (st' := [.int (nI (1)), .ref am]) rfl rfl (Nat.le_of_ble_eq_true rfl) ?_
    refine VR.goto h (off := 4) (tgt := 23) (by decide +kernel) (by decide) ?_
    refine VR.blk h [(.iconst 1, 1)] (by decide +kernel) (pc' := 24) (ls' := [some (.ref am), some (.int (x)), some (.int (y))]) (st' := [.int (nI (1)), .int (nI (1)), .ref am]) rfl rfl (Nat.le_of_ble_eq_true rfl) ?_
    refine VR.call h (np := 2) (st := []) (r_throwsT hls A1 1) wc_X11_throwsIf wn_RX11 (Or.inl wm_RX11_247) wi_X11_throwsIf we_X11_throwsIf (by decide +kernel) rfl (by decide) (by decide) (by simp [Value.category]) (by decide +kernel) (by simp [oI_s, bI_f, bI_t]) ?_
    refine VR.if_ne h (off := 25) (by decide +kernel) (tgt := 52) (by decide) (fun _ => ?_) (fun q => absurd q (by decide))
    refine VR.blk h [(.iconst 0, 1)] (by decide +kernel) (pc' := 53) (ls' := [some (.ref am), some (.int (x)), some (.int (y))]) (st' := [.int (nI (0))]) rfl rfl (Nat.le_of_ble_eq_true rfl) ?_
    exact VR.iret h hA hQ hr rfl rfl rfl (by decide +kernel)
  · have q7_5 := q
    clear q
    refine VR.blk h [(.iload_n 1, 1), (.aload_n 0, 1)] (by decide +kernel) (pc' := 12) (ls' := [some (.ref am), some (.int (x)), some (.int (y))]) (st' := [.ref am, .int (x), .ref am]) rfl rfl (Nat.le_of_ble_eq_true rfl) ?_
    refine VR.getI h (j := 1) rfl (Or.inl wf_RX11_151) (by decide +kernel) (v := tf A1 1) rfl ?_
    refine VR.icmp_lt h (off := 7) (by decide +kernel) (tgt := 22) (by decide) (fun q => ?_) (fun q => ?_)
    · have q15_19 := q
      clear q
      exact absurd hx (by rw [noIx_2 q7_5 q15_19]; decide)
    · have q15_19 := q
      clear q
      refine VR.blk h [(.iconst 1, 1)] (by decide +kernel) (pc' := 19) (ls' := [some (.ref am), some (.int (x)), some (.int (y))]) (st' := [.int (nI (1)), .ref am]) rfl rfl (Nat.le_of_ble_eq_true rfl) ?_
      refine VR.goto h (off := 4) (tgt := 23) (by decide +kernel) (by decide) ?_
      refine VR.blk h [(.iconst 1, 1)] (by decide +kernel) (pc' := 24) (ls' := [some (.ref am), some (.int (x)), some (.int (y))]) (st' := [.int (nI (1)), .int (nI (1)), .ref am]) rfl rfl (Nat.le_of_ble_eq_true rfl) ?_
      refine VR.call h (np := 2) (st := []) (r_throwsT hls A1 1) wc_X11_throwsIf wn_RX11 (Or.inl wm_RX11_247) wi_X11_throwsIf we_X11_throwsIf (by decide +kernel) rfl (by decide) (by decide) (by simp [Value.category]) (by decide +kernel) (by simp [oI_s, bI_f, bI_t]) ?_
      refine VR.if_ne h (off := 25) (by decide +kernel) (tgt := 52) (by decide) (fun _ => ?_) (fun q => absurd q (by decide))
      refine VR.blk h [(.iconst 0, 1)] (by decide +kernel) (pc' := 53) (ls' := [some (.ref am), some (.int (x)), some (.int (y))]) (st' := [.int (nI (0))]) rfl rfl (Nat.le_of_ble_eq_true rfl) ?_
      exact VR.iret h hA hQ hr rfl rfl rfl (by decide +kernel)

set_option maxRecDepth 100000 in
set_option maxHeartbeats 4000000 in
theorem r_backup_w {l : Launch} {D : va_G} {tc : Nat → ClassId} {am : Nat} {ad : Nat → Nat} (hls : l.stackTraces = false) (A : TS) (A1 : TS) (b K : Nat) (y : Int32) (hA1 : A1 = sf A 0 0) (hb : b < tf A1 1) (hf : tf A1 1 ≤ 3) (hB : NB K A1) (hK : K < 1999980000) (hy0 : ¬ y = 0) (hy1 : ¬ y = nI 1) : RM l D tc am ad yX11_backup cX11_backup 3 (some .int) 3 [.ref am, .int (nI (b)), .int (y)] A (some (.int (nI 0))) (sf A1 0 2) := by
  refine RM.of hls (by decide +kernel) (by simp [Value.category]) (Nat.le_of_ble_eq_true rfl) (fun A0 p e9 s m args below meth c S0 sz Q h hr hA hQ => ?_)
  refine VR.eqL (ls' := [some (.ref am), some (.int (nI (b))), some (.int (y))]) rfl ?_
  refine VR.blk h [(.aload_n 0, 1), (.iconst 0, 1)] (by decide +kernel) (pc' := 2) (ls' := [some (.ref am), some (.int (nI (b))), some (.int (y))]) (st' := [.int (nI (0)), .ref am]) rfl rfl (Nat.le_of_ble_eq_true rfl) ?_
  refine VR.putI h (j := 0) rfl rfl rfl (Or.inl wf_RX11_1) (by decide +kernel) ?_
  refine VR.eqA (A' := A1) hA1 ?_
  refine VR.blk h [(.aload_n 0, 1), (.iload_n 1, 1)] (by decide +kernel) (pc' := 7) (ls' := [some (.ref am), some (.int (nI (b))), some (.int (y))]) (st' := [.int (nI (b)), .ref am]) rfl rfl (Nat.le_of_ble_eq_true rfl) ?_
  refine VR.if_lt h (off := 11) (by decide +kernel) (tgt := 18) (by decide) (fun q => ?_) (fun q => ?_)
  · have q7_5 := ((nI_z_lt (by omega)).mp q)
    clear q
    exfalso; omega
  · have q7_5 : ¬ _ := (fun z => q ((nI_z_lt (by omega)).mpr z))
    clear q
    refine VR.blk h [(.iload_n 1, 1), (.aload_n 0, 1)] (by decide +kernel) (pc' := 12) (ls' := [some (.ref am), some (.int (nI (b))), some (.int (y))]) (st' := [.ref am, .int (nI (b)), .ref am]) rfl rfl (Nat.le_of_ble_eq_true rfl) ?_
    refine VR.getI h (j := 1) rfl (Or.inl wf_RX11_151) (by decide +kernel) (v := tf A1 1) rfl ?_
    refine VR.icmp_lt h (off := 7) (by decide +kernel) (tgt := 22) (by decide) (fun q => ?_) (fun q => ?_)
    · have q15_13 := ((nI_ltI (by omega) (by omega)).mp q)
      clear q
      refine VR.blk h [(.iconst 0, 1), (.iconst 1, 1)] (by decide +kernel) (pc' := 24) (ls' := [some (.ref am), some (.int (nI (b))), some (.int (y))]) (st' := [.int (nI (1)), .int (nI (0)), .ref am]) rfl rfl (Nat.le_of_ble_eq_true rfl) ?_
      refine VR.call h (np := 2) (st := []) (r_throwsN hls A1 1) wc_X11_throwsIf wn_RX11 (Or.inl wm_RX11_247) wi_X11_throwsIf we_X11_throwsIf (by decide +kernel) rfl (by decide) (by decide) (by simp [Value.category]) (by decide +kernel) (by simp [oI_s, bI_f, bI_t]) ?_
      refine VR.if_ne h (off := 25) (by decide +kernel) (tgt := 52) (by decide) (fun q => absurd (by decide) q) (fun _ => ?_)
      refine VR.blk h [(.aload_n 0, 1), (.iload_n 2, 1)] (by decide +kernel) (pc' := 32) (ls' := [some (.ref am), some (.int (nI (b))), some (.int (y))]) (st' := [.int (y), .ref am]) rfl rfl (Nat.le_of_ble_eq_true rfl) ?_
      refine VR.if_eq h (off := 12) (by decide +kernel) (tgt := 44) (by decide) (fun q => ?_) (fun q => ?_)
      · have q32_20 := q
        clear q
        exact absurd q32_20 hy0
      · have q32_20 := q
        clear q
        refine VR.blk h [(.iload_n 2, 1), (.iconst 1, 1)] (by decide +kernel) (pc' := 37) (ls' := [some (.ref am), some (.int (nI (b))), some (.int (y))]) (st' := [.int (nI (1)), .int (y), .ref am]) rfl rfl (Nat.le_of_ble_eq_true rfl) ?_
        refine VR.icmp_eq h (off := 7) (by decide +kernel) (tgt := 44) (by decide) (fun q => ?_) (fun q => ?_)
        · have q37_27 := q
          clear q
          exact absurd q37_27 hy1
        · have q37_27 := q
          clear q
          refine VR.blk h [(.iconst 1, 1)] (by decide +kernel) (pc' := 41) (ls' := [some (.ref am), some (.int (nI (b))), some (.int (y))]) (st' := [.int (nI (1)), .ref am]) rfl rfl (Nat.le_of_ble_eq_true rfl) ?_
          refine VR.goto h (off := 4) (tgt := 45) (by decide +kernel) (by decide) ?_
          refine VR.blk h [(.iconst 2, 1)] (by decide +kernel) (pc' := 46) (ls' := [some (.ref am), some (.int (nI (b))), some (.int (y))]) (st' := [.int (nI (2)), .int (nI (1)), .ref am]) rfl rfl (Nat.le_of_ble_eq_true rfl) ?_
          refine VR.call h (np := 2) (st := []) (r_throwsT hls A1 2) wc_X11_throwsIf wn_RX11 (Or.inl wm_RX11_247) wi_X11_throwsIf we_X11_throwsIf (by decide +kernel) rfl (by decide) (by decide) (by simp [Value.category]) (by decide +kernel) (by simp [oI_s, bI_f, bI_t]) ?_
          refine VR.if_eq h (off := 5) (by decide +kernel) (tgt := 54) (by decide) (fun q => absurd q (by decide)) (fun _ => ?_)
          refine VR.blk h [(.iconst 0, 1)] (by decide +kernel) (pc' := 53) (ls' := [some (.ref am), some (.int (nI (b))), some (.int (y))]) (st' := [.int (nI (0))]) rfl rfl (Nat.le_of_ble_eq_true rfl) ?_
          exact VR.iret h hA hQ hr rfl rfl rfl (by decide +kernel)
    · have q15_13 : ¬ _ := (fun z => q ((nI_ltI (by omega) (by omega)).mpr z))
      clear q
      exfalso; omega

set_option maxRecDepth 100000 in
set_option maxHeartbeats 4000000 in
theorem r_backup_0 {l : Launch} {D : va_G} {tc : Nat → ClassId} {am : Nat} {ad : Nat → Nat} (hls : l.stackTraces = false) (A : TS) (A1 : TS) (b K : Nat) (hA1 : A1 = sf A 0 0) (hb : b < tf A1 1) (hf : tf A1 1 ≤ 3) (hB : NB K A1) (hK : K < 1999980000) : RM l D tc am ad yX11_backup cX11_backup 3 (some .int) 3 [.ref am, .int (nI (b)), .int (nI (0))] A (some (.int (nI (tn A1 39 b)))) (A1) := by
  refine RM.of hls (by decide +kernel) (by simp [Value.category]) (Nat.le_of_ble_eq_true rfl) (fun A0 p e9 s m args below meth c S0 sz Q h hr hA hQ => ?_)
  refine VR.eqL (ls' := [some (.ref am), some (.int (nI (b))), some (.int (nI (0)))]) rfl ?_
  refine VR.blk h [(.aload_n 0, 1), (.iconst 0, 1)] (by decide +kernel) (pc' := 2) (ls' := [some (.ref am), some (.int (nI (b))), some (.int (nI (0)))]) (st' := [.int (nI (0)), .ref am]) rfl rfl (Nat.le_of_ble_eq_true rfl) ?_
  refine VR.putI h (j := 0) rfl rfl rfl (Or.inl wf_RX11_1) (by decide +kernel) ?_
  refine VR.eqA (A' := A1) hA1 ?_
  refine VR.blk h [(.aload_n 0, 1), (.iload_n 1, 1)] (by decide +kernel) (pc' := 7) (ls' := [some (.ref am), some (.int (nI (b))), some (.int (nI (0)))]) (st' := [.int (nI (b)), .ref am]) rfl rfl (Nat.le_of_ble_eq_true rfl) ?_
  refine VR.if_lt h (off := 11) (by decide +kernel) (tgt := 18) (by decide) (fun q => ?_) (fun q => ?_)
  · have q7_5 := ((nI_z_lt (by omega)).mp q)
    clear q
    exfalso; omega
  · have q7_5 : ¬ _ := (fun z => q ((nI_z_lt (by omega)).mpr z))
    clear q
    refine VR.blk h [(.iload_n 1, 1), (.aload_n 0, 1)] (by decide +kernel) (pc' := 12) (ls' := [some (.ref am), some (.int (nI (b))), some (.int (nI (0)))]) (st' := [.ref am, .int (nI (b)), .ref am]) rfl rfl (Nat.le_of_ble_eq_true rfl) ?_
    refine VR.getI h (j := 1) rfl (Or.inl wf_RX11_151) (by decide +kernel) (v := tf A1 1) rfl ?_
    refine VR.icmp_lt h (off := 7) (by decide +kernel) (tgt := 22) (by decide) (fun q => ?_) (fun q => ?_)
    · have q15_13 := ((nI_ltI (by omega) (by omega)).mp q)
      clear q
      refine VR.blk h [(.iconst 0, 1), (.iconst 1, 1)] (by decide +kernel) (pc' := 24) (ls' := [some (.ref am), some (.int (nI (b))), some (.int (nI (0)))]) (st' := [.int (nI (1)), .int (nI (0)), .ref am]) rfl rfl (Nat.le_of_ble_eq_true rfl) ?_
      refine VR.call h (np := 2) (st := []) (r_throwsN hls A1 1) wc_X11_throwsIf wn_RX11 (Or.inl wm_RX11_247) wi_X11_throwsIf we_X11_throwsIf (by decide +kernel) rfl (by decide) (by decide) (by simp [Value.category]) (by decide +kernel) (by simp [oI_s, bI_f, bI_t]) ?_
      refine VR.if_ne h (off := 25) (by decide +kernel) (tgt := 52) (by decide) (fun q => absurd (by decide) q) (fun _ => ?_)
      refine VR.blk h [(.aload_n 0, 1), (.iload_n 2, 1)] (by decide +kernel) (pc' := 32) (ls' := [some (.ref am), some (.int (nI (b))), some (.int (nI (0)))]) (st' := [.int (nI (0)), .ref am]) rfl rfl (Nat.le_of_ble_eq_true rfl) ?_
      refine VR.if_eq h (off := 12) (by decide +kernel) (tgt := 44) (by decide) (fun q => ?_) (fun q => ?_)
      · have q32_20 := ((nI_z_eq (by omega)).mp q)
        clear q
        refine VR.blk h [(.iconst 0, 1), (.iconst 2, 1)] (by decide +kernel) (pc' := 46) (ls' := [some (.ref am), some (.int (nI (b))), some (.int (nI (0)))]) (st' := [.int (nI (2)), .int (nI (0)), .ref am]) rfl rfl (Nat.le_of_ble_eq_true rfl) ?_
        refine VR.call h (np := 2) (st := []) (r_throwsN hls A1 2) wc_X11_throwsIf wn_RX11 (Or.inl wm_RX11_247) wi_X11_throwsIf we_X11_throwsIf (by decide +kernel) rfl (by decide) (by decide) (by simp [Value.category]) (by decide +kernel) (by simp [oI_s, bI_f, bI_t]) ?_
        refine VR.if_eq h (off := 5) (by decide +kernel) (tgt := 54) (by decide) (fun _ => ?_) (fun q => absurd (by decide) q)
        refine VR.blk h [(.iload_n 2, 1)] (by decide +kernel) (pc' := 55) (ls' := [some (.ref am), some (.int (nI (b))), some (.int (nI (0)))]) (st' := [.int (nI (0))]) rfl rfl (Nat.le_of_ble_eq_true rfl) ?_
        refine VR.if_ne h (off := 12) (by decide +kernel) (tgt := 67) (by decide) (fun q => ?_) (fun q => ?_)
        · have q55_27 : ¬ _ := (fun z => q ((nI_z_eq (by omega)).mpr z))
          clear q
          exfalso; omega
        · have q55_27 := ((nI_z_eq (by omega)).mp q)
          clear q
          refine VR.blk h [(.aload_n 0, 1)] (by decide +kernel) (pc' := 59) (ls' := [some (.ref am), some (.int (nI (b))), some (.int (nI (0)))]) (st' := [.ref am]) rfl rfl (Nat.le_of_ble_eq_true rfl) ?_
          refine VR.getA h (j := 39) rfl (Or.inl wf_RX11_105) (by decide +kernel) ?_
          refine VR.blk h [(.iload_n 1, 1)] (by decide +kernel) (pc' := 63) (ls' := [some (.ref am), some (.int (nI (b))), some (.int (nI (0)))]) (st' := [.int (nI (b)), .ref (ad 39)]) rfl rfl (Nat.le_of_ble_eq_true rfl) ?_
          refine VR.iald h (j := 39) (i := b) rfl rfl (by show _ < 3; omega) (by decide +kernel) (v := (nI (tn A1 39 b))) (mval_1 rfl) ?_
          have nb37 := hB.2 39 b
          refine VR.goto h (off := 9) (tgt := 73) (by decide +kernel) (by decide) ?_
          exact VR.iret h hA hQ hr rfl rfl rfl (by decide +kernel)
      · have q32_20 : ¬ _ := (fun z => q ((nI_z_eq (by omega)).mpr z))
        clear q
        exfalso; omega
    · have q15_13 : ¬ _ := (fun z => q ((nI_ltI (by omega) (by omega)).mpr z))
      clear q
      exfalso; omega

set_option maxRecDepth 100000 in
set_option maxHeartbeats 4000000 in
theorem r_backup_1 {l : Launch} {D : va_G} {tc : Nat → ClassId} {am : Nat} {ad : Nat → Nat} (hls : l.stackTraces = false) (A : TS) (A1 : TS) (b K : Nat) (hA1 : A1 = sf A 0 0) (hb : b < tf A1 1) (hf : tf A1 1 ≤ 3) (hB : NB K A1) (hK : K < 1999980000) : RM l D tc am ad yX11_backup cX11_backup 3 (some .int) 3 [.ref am, .int (nI (b)), .int (nI (1))] A (some (.int (nI (tn A1 40 b)))) (A1) := by
  refine RM.of hls (by decide +kernel) (by simp [Value.category]) (Nat.le_of_ble_eq_true rfl) (fun A0 p e9 s m args below meth c S0 sz Q h hr hA hQ => ?_)
  refine VR.eqL (ls' := [some (.ref am), some (.int (nI (b))), some (.int (nI (1)))]) rfl ?_
  refine VR.blk h [(.aload_n 0, 1), (.iconst 0, 1)] (by decide +kernel) (pc' := 2) (ls' := [some (.ref am), some (.int (nI (b))), some (.int (nI (1)))]) (st' := [.int (nI (0)), .ref am]) rfl rfl (Nat.le_of_ble_eq_true rfl) ?_
  refine VR.putI h (j := 0) rfl rfl rfl (Or.inl wf_RX11_1) (by decide +kernel) ?_
  refine VR.eqA (A' := A1) hA1 ?_
  refine VR.blk h [(.aload_n 0, 1), (.iload_n 1, 1)] (by decide +kernel) (pc' := 7) (ls' := [some (.ref am), some (.int (nI (b))), some (.int (nI (1)))]) (st' := [.int (nI (b)), .ref am]) rfl rfl (Nat.le_of_ble_eq_true rfl) ?_
  refine VR.if_lt h (off := 11) (by decide +kernel) (tgt := 18) (by decide) (fun q => ?_) (fun q => ?_)
  · have q7_5 := ((nI_z_lt (by omega)).mp q)
    clear q
    exfalso; omega
  · have q7_5 : ¬ _ := (fun z => q ((nI_z_lt (by omega)).mpr z))
    clear q
    refine VR.blk h [(.iload_n 1, 1), (.aload_n 0, 1)] (by decide +kernel) (pc' := 12) (ls' := [some (.ref am), some (.int (nI (b))), some (.int (nI (1)))]) (st' := [.ref am, .int (nI (b)), .ref am]) rfl rfl (Nat.le_of_ble_eq_true rfl) ?_
    refine VR.getI h (j := 1) rfl (Or.inl wf_RX11_151) (by decide +kernel) (v := tf A1 1) rfl ?_
    refine VR.icmp_lt h (off := 7) (by decide +kernel) (tgt := 22) (by decide) (fun q => ?_) (fun q => ?_)
    · have q15_13 := ((nI_ltI (by omega) (by omega)).mp q)
      clear q
      refine VR.blk h [(.iconst 0, 1), (.iconst 1, 1)] (by decide +kernel) (pc' := 24) (ls' := [some (.ref am), some (.int (nI (b))), some (.int (nI (1)))]) (st' := [.int (nI (1)), .int (nI (0)), .ref am]) rfl rfl (Nat.le_of_ble_eq_true rfl) ?_
      refine VR.call h (np := 2) (st := []) (r_throwsN hls A1 1) wc_X11_throwsIf wn_RX11 (Or.inl wm_RX11_247) wi_X11_throwsIf we_X11_throwsIf (by decide +kernel) rfl (by decide) (by decide) (by simp [Value.category]) (by decide +kernel) (by simp [oI_s, bI_f, bI_t]) ?_
      refine VR.if_ne h (off := 25) (by decide +kernel) (tgt := 52) (by decide) (fun q => absurd (by decide) q) (fun _ => ?_)
      refine VR.blk h [(.aload_n 0, 1), (.iload_n 2, 1)] (by decide +kernel) (pc' := 32) (ls' := [some (.ref am), some (.int (nI (b))), some (.int (nI (1)))]) (st' := [.int (nI (1)), .ref am]) rfl rfl (Nat.le_of_ble_eq_true rfl) ?_
      refine VR.if_eq h (off := 12) (by decide +kernel) (tgt := 44) (by decide) (fun q => ?_) (fun q => ?_)
      · have q32_20 := ((nI_z_eq (by omega)).mp q)
        clear q
        exfalso; omega
      · have q32_20 : ¬ _ := (fun z => q ((nI_z_eq (by omega)).mpr z))
        clear q
        refine VR.blk h [(.iload_n 2, 1), (.iconst 1, 1)] (by decide +kernel) (pc' := 37) (ls' := [some (.ref am), some (.int (nI (b))), some (.int (nI (1)))]) (st' := [.int (nI (1)), .int (nI (1)), .ref am]) rfl rfl (Nat.le_of_ble_eq_true rfl) ?_
        refine VR.icmp_eq h (off := 7) (by decide +kernel) (tgt := 44) (by decide) (fun q => ?_) (fun q => ?_)
        · have q37_27 := ((nI_eq (by omega) (by omega)).mp q)
          clear q
          refine VR.blk h [(.iconst 0, 1), (.iconst 2, 1)] (by decide +kernel) (pc' := 46) (ls' := [some (.ref am), some (.int (nI (b))), some (.int (nI (1)))]) (st' := [.int (nI (2)), .int (nI (0)), .ref am]) rfl rfl (Nat.le_of_ble_eq_true rfl) ?_
          refine VR.call h (np := 2) (st := []) (r_throwsN hls A1 2) wc_X11_throwsIf wn_RX11 (Or.inl wm_RX11_247) wi_X11_throwsIf we_X11_throwsIf (by decide +kernel) rfl (by decide) (by decide) (by simp [Value.category]) (by decide +kernel) (by simp [oI_s, bI_f, bI_t]) ?_
          refine VR.if_eq h (off := 5) (by decide +kernel) (tgt := 54) (by decide) (fun _ => ?_) (fun q => absurd (by decide) q)
          refine VR.blk h [(.iload_n 2, 1)] (by decide +kernel) (pc' := 55) (ls' := [some (.ref am), some (.int (nI (b))), some (.int (nI (1)))]) (st' := [.int (nI (1))]) rfl rfl (Nat.le_of_ble_eq_true rfl) ?_
          refine VR.if_ne h (off := 12) (by decide +kernel) (tgt := 67) (by decide) (fun q => ?_) (fun q => ?_)
          · have q55_34 : ¬ _ := (fun z => q ((nI_z_eq (by omega)).mpr z))
            clear q
            refine VR.blk h [(.aload_n 0, 1)] (by decide +kernel) (pc' := 68) (ls' := [some (.ref am), some (.int (nI (b))), some (.int (nI (1)))]) (st' := [.ref am]) rfl rfl (Nat.le_of_ble_eq_true rfl) ?_
            refine VR.getA h (j := 40) rfl (Or.inl wf_RX11_108) (by decide +kernel) ?_
            refine VR.blk h [(.iload_n 1, 1)] (by decide +kernel) (pc' := 72) (ls' := [some (.ref am), some (.int (nI (b))), some (.int (nI (1)))]) (st' := [.int (nI (b)), .ref (ad 40)]) rfl rfl (Nat.le_of_ble_eq_true rfl) ?_
            refine VR.iald h (j := 40) (i := b) rfl rfl (by show _ < 3; omega) (by decide +kernel) (v := (nI (tn A1 40 b))) (mval_1 rfl) ?_
            have nb41 := hB.2 40 b
            exact VR.iret h hA hQ hr rfl rfl rfl (by decide +kernel)
          · have q55_34 := ((nI_z_eq (by omega)).mp q)
            clear q
            exfalso; omega
        · have q37_27 : ¬ _ := (fun z => q ((nI_eq (by omega) (by omega)).mpr z))
          clear q
          exfalso; omega
    · have q15_13 : ¬ _ := (fun z => q ((nI_ltI (by omega) (by omega)).mpr z))
      clear q
      exfalso; omega

set_option maxRecDepth 100000 in
set_option maxHeartbeats 4000000 in
theorem r_witness_b {l : Launch} {D : va_G} {tc : Nat → ClassId} {am : Nat} {ad : Nat → Nat} (hls : l.stackTraces = false) (A : TS) (A1 : TS) (x : Int32) (y : Int32) (hA1 : A1 = sf A 0 0) (hx : noIx x (tf A1 1) = true) : RM l D tc am ad yX11_witness cX11_witness 5 (some .int) 3 [.ref am, .int (x), .int (y)] A (some (.int (nI 0))) (sf A1 0 1) := by
  refine RM.of hls (by decide +kernel) (by simp [Value.category]) (Nat.le_of_ble_eq_true rfl) (fun A0 p e9 s m args below meth c S0 sz Q h hr hA hQ => ?_)
  refine VR.eqL (ls' := [some (.ref am), some (.int (x)), some (.int (y)), none, none]) rfl ?_
  refine VR.blk h [(.aload_n 0, 1), (.iconst 0, 1)] (by decide +kernel) (pc' := 2) (ls' := [some (.ref am), some (.int (x)), some (.int (y)), none, none]) (st' := [.int (nI (0)), .ref am]) rfl rfl (Nat.le_of_ble_eq_true rfl) ?_
  refine VR.putI h (j := 0) rfl rfl rfl (Or.inl wf_RX11_1) (by decide +kernel) ?_
  refine VR.eqA (A' := A1) hA1 ?_
  refine VR.blk h [(.aload_n 0, 1), (.iload_n 1, 1)] (by decide +kernel) (pc' := 7) (ls' := [some (.ref am), some (.int (x)), some (.int (y)), none, none]) (st' := [.int (x), .ref am]) rfl rfl (Nat.le_of_ble_eq_true rfl) ?_
  refine VR.if_lt h (off := 11) (by decide +kernel) (tgt := 18) (by decide) (fun q => ?_) (fun q => ?_)
  · have q7_5 := q
    clear q
    refine VR.blk h [(.iconst 1, 1)] (by decide +kernel) (pc' := 19) (ls' := [some (.ref am), some (.int (x)), some (.int (y)), none, none]) (st' := [.int (nI (1)), .ref am]) rfl rfl (Nat.le_of_ble_eq_true rfl) ?_
    refine VR.goto h (off := 4) (tgt := 23) (by decide +kernel) (by decide) ?_
    refine VR.blk h [(.iconst 1, 1)] (by decide +kernel) (pc' := 24) (ls' := [some (.ref am), some (.int (x)), some (.int (y)), none, none]) (st' := [.int (nI (1)), .int (nI (1)), .ref am]) rfl rfl (Nat.le_of_ble_eq_true rfl) ?_
    refine VR.call h (np := 2) (st := []) (r_throwsT hls A1 1) wc_X11_throwsIf wn_RX11 (Or.inl wm_RX11_247) wi_X11_throwsIf we_X11_throwsIf (by decide +kernel) rfl (by decide) (by decide) (by simp [Value.category]) (by decide +kernel) (by simp [oI_s, bI_f, bI_t]) ?_
    refine VR.if_eq h (off := 5) (by decide +kernel) (tgt := 32) (by decide) (fun q => absurd q (by decide)) (fun _ => ?_)
    refine VR.blk h [(.iconst 0, 1)] (by decide +kernel) (pc' := 31) (ls' := [some (.ref am), some (.int (x)), some (.int (y)), none, none]) (st' := [.int (nI (0))]) rfl rfl (Nat.le_of_ble_eq_true rfl) ?_
    exact VR.iret h hA hQ hr rfl rfl rfl (by decide +kernel)
  · have q7_5 := q
    clear q
    refine VR.blk h [(.iload_n 1, 1), (.aload_n 0, 1)] (by decide +kernel) (pc' := 12) (ls' := [some (.ref am), some (.int (x)), some (.int (y)), none, none]) (st' := [.ref am, .int (x), .ref am]) rfl rfl (Nat.le_of_ble_eq_true rfl) ?_
    refine VR.getI h (j := 1) rfl (Or.inl wf_RX11_151) (by decide +kernel) (v := tf A1 1) rfl ?_
    refine VR.icmp_lt h (off := 7) (by decide +kernel) (tgt := 22) (by decide) (fun q => ?_) (fun q => ?_)
    · have q15_19 := q
      clear q
      exact absurd hx (by rw [noIx_2 q7_5 q15_19]; decide)
    · have q15_19 := q
      clear q
      refine VR.blk h [(.iconst 1, 1)] (by decide +kernel) (pc' := 19) (ls' := [some (.ref am), some (.int (x)), some (.int (y)), none, none]) (st' := [.int (nI (1)), .ref am]) rfl rfl (Nat.le_of_ble_eq_true rfl) ?_
      refine VR.goto h (off := 4) (tgt := 23) (by decide +kernel) (by decide) ?_
      refine VR.blk h [(.iconst 1, 1)] (by decide +kernel) (pc' := 24) (ls' := [some (.ref am), some (.int (x)), some (.int (y)), none, none]) (st' := [.int (nI (1)), .int (nI (1)), .ref am]) rfl rfl (Nat.le_of_ble_eq_true rfl) ?_
      refine VR.call h (np := 2) (st := []) (r_throwsT hls A1 1) wc_X11_throwsIf wn_RX11 (Or.inl wm_RX11_247) wi_X11_throwsIf we_X11_throwsIf (by decide +kernel) rfl (by decide) (by decide) (by simp [Value.category]) (by decide +kernel) (by simp [oI_s, bI_f, bI_t]) ?_
      refine VR.if_eq h (off := 5) (by decide +kernel) (tgt := 32) (by decide) (fun q => absurd q (by decide)) (fun _ => ?_)
      refine VR.blk h [(.iconst 0, 1)] (by decide +kernel) (pc' := 31) (ls' := [some (.ref am), some (.int (x)), some (.int (y)), none, none]) (st' := [.int (nI (0))]) rfl rfl (Nat.le_of_ble_eq_true rfl) ?_
      exact VR.iret h hA hQ hr rfl rfl rfl (by decide +kernel)

set_option maxRecDepth 100000 in
set_option maxHeartbeats 4000000 in
theorem r_witness_w {l : Launch} {D : va_G} {tc : Nat → ClassId} {am : Nat} {ad : Nat → Nat} (hls : l.stackTraces = false) (A : TS) (A1 : TS) (w K : Nat) (y : Int32) (hA1 : A1 = sf A 0 0) (hw : w < tf A1 1) (hf : tf A1 1 ≤ 3) (hB : NB K A1) (hK : K < 1999980000) (hy : noIx y 4 = true) : RM l D tc am ad yX11_witness cX11_witness 5 (some .int) 3 [.ref am, .int (nI (w)), .int (y)] A (some (.int (nI 0))) (sf A1 0 2) := by
  refine RM.of hls (by decide +kernel) (by simp [Value.category]) (Nat.le_of_ble_eq_true rfl) (fun A0 p e9 s m args below meth c S0 sz Q h hr hA hQ => ?_)
  refine VR.eqL (ls' := [some (.ref am), some (.int (nI (w))), some (.int (y)), none, none]) rfl ?_
  refine VR.blk h [(.aload_n 0, 1), (.iconst 0, 1)] (by decide +kernel) (pc' := 2) (ls' := [some (.ref am), some (.int (nI (w))), some (.int (y)), none, none]) (st' := [.int (nI (0)), .ref am]) rfl rfl (Nat.le_of_ble_eq_true rfl) ?_
  refine VR.putI h (j := 0) rfl rfl rfl (Or.inl wf_RX11_1) (by decide +kernel) ?_
  refine VR.eqA (A' := A1) hA1 ?_
  refine VR.blk h [(.aload_n 0, 1), (.iload_n 1, 1)] (by decide +kernel) (pc' := 7) (ls' := [some (.ref am), some (.int (nI (w))), some (.int (y)), none, none]) (st' := [.int (nI (w)), .ref am]) rfl rfl (Nat.le_of_ble_eq_true rfl) ?_
  refine VR.if_lt h (off := 11) (by decide +kernel) (tgt := 18) (by decide) (fun q => ?_) (fun q => ?_)
  · have q7_5 := ((nI_z_lt (by omega)).mp q)
    clear q
    exfalso; omega
  · have q7_5 : ¬ _ := (fun z => q ((nI_z_lt (by omega)).mpr z))
    clear q
    refine VR.blk h [(.iload_n 1, 1), (.aload_n 0, 1)] (by decide +kernel) (pc' := 12) (ls' := [some (.ref am), some (.int (nI (w))), some (.int (y)), none, none]) (st' := [.ref am, .int (nI (w)), .ref am]) rfl rfl (Nat.le_of_ble_eq_true rfl) ?_
    refine VR.getI h (j := 1) rfl (Or.inl wf_RX11_151) (by decide +kernel) (v := tf A1 1) rfl ?_
    refine VR.icmp_lt h (off := 7) (by decide +kernel) (tgt := 22) (by decide) (fun q => ?_) (fun q => ?_)
    · have q15_13 := ((nI_ltI (by omega) (by omega)).mp q)
      clear q
      refine VR.blk h [(.iconst 0, 1), (.iconst 1, 1)] (by decide +kernel) (pc' := 24) (ls' := [some (.ref am), some (.int (nI (w))), some (.int (y)), none, none]) (st' := [.int (nI (1)), .int (nI (0)), .ref am]) rfl rfl (Nat.le_of_ble_eq_true rfl) ?_
      refine VR.call h (np := 2) (st := []) (r_throwsN hls A1 1) wc_X11_throwsIf wn_RX11 (Or.inl wm_RX11_247) wi_X11_throwsIf we_X11_throwsIf (by decide +kernel) rfl (by decide) (by decide) (by simp [Value.category]) (by decide +kernel) (by simp [oI_s, bI_f, bI_t]) ?_
      refine VR.if_eq h (off := 5) (by decide +kernel) (tgt := 32) (by decide) (fun _ => ?_) (fun q => absurd (by decide) q)
      refine VR.blk h [(.iload_n 2, 1)] (by decide +kernel) (pc' := 33) (ls' := [some (.ref am), some (.int (nI (w))), some (.int (y)), none, none]) (st' := [.int (y)]) rfl rfl (Nat.le_of_ble_eq_true rfl) ?_
      refine VR.tableOut h (dflt := 101) (hi := 3) (offs := #[31, 38, 48, 55]) (len := 31) (by decide +kernel) (noIx_out (n := 4) (by decide) hy) (tgt := 134) (by decide) ?_
      refine VR.blk h [(.aload_n 0, 1), (.iconst 2, 1)] (by decide +kernel) (pc' := 136) (ls' := [some (.ref am), some (.int (nI (w))), some (.int (y)), none, none]) (st' := [.int (nI (2)), .ref am]) rfl rfl (Nat.le_of_ble_eq_true rfl) ?_
      refine VR.putI h (j := 0) rfl rfl rfl (Or.inl wf_RX11_1) (by decide +kernel) ?_
      refine VR.blk h [(.iconst 0, 1)] (by decide +kernel) (pc' := 140) (ls' := [some (.ref am), some (.int (nI (w))), some (.int (y)), none, none]) (st' := [.int (nI (0))]) rfl rfl (Nat.le_of_ble_eq_true rfl) ?_
      exact VR.iret h hA hQ hr rfl rfl rfl (by decide +kernel)
    · have q15_13 : ¬ _ := (fun z => q ((nI_ltI (by omega) (by omega)).mpr z))
      clear q
      exfalso; omega

set_option maxRecDepth 100000 in
set_option maxHeartbeats 4000000 in
theorem r_witness {l : Launch} {D : va_G} {tc : Nat → ClassId} {am : Nat} {ad : Nat → Nat} (hls : l.stackTraces = false) (A : TS) (A1 : TS) (w t K : Nat) (hA1 : A1 = sf A 0 0) (hw : w < tf A1 1) (hf : tf A1 1 ≤ 3) (hB : NB K A1) (hK : K < 1999980000) (ht : t < 4) (hm : tn A1 44 w ≤ 16) (hrec : ∀ k, k < tn A1 44 w → tn A1 43 (16 * w + k) < 600) (h8 : ∀ i, tn A1 8 i < 16) : RM l D tc am ad yX11_witness cX11_witness 5 (some .int) 3 [.ref am, .int (nI (w)), .int (nI (t))] A (some (.int (witV A1 w t))) (A1) := by
  refine RM.of hls (by decide +kernel) (by simp [Value.category]) (Nat.le_of_ble_eq_true rfl) (fun A0 p e9 s m args below meth c S0 sz Q h hr hA hQ => ?_)
  refine VR.eqL (ls' := [some (.ref am), some (.int (nI (w))), some (.int (nI (t))), none, none]) rfl ?_
  refine VR.blk h [(.aload_n 0, 1), (.iconst 0, 1)] (by decide +kernel) (pc' := 2) (ls' := [some (.ref am), some (.int (nI (w))), some (.int (nI (t))), none, none]) (st' := [.int (nI (0)), .ref am]) rfl rfl (Nat.le_of_ble_eq_true rfl) ?_
  refine VR.putI h (j := 0) rfl rfl rfl (Or.inl wf_RX11_1) (by decide +kernel) ?_
  refine VR.eqA (A' := A1) hA1 ?_
  refine VR.blk h [(.aload_n 0, 1), (.iload_n 1, 1)] (by decide +kernel) (pc' := 7) (ls' := [some (.ref am), some (.int (nI (w))), some (.int (nI (t))), none, none]) (st' := [.int (nI (w)), .ref am]) rfl rfl (Nat.le_of_ble_eq_true rfl) ?_
  refine VR.if_lt h (off := 11) (by decide +kernel) (tgt := 18) (by decide) (fun q => ?_) (fun q => ?_)
  · have q7_5 := ((nI_z_lt (by omega)).mp q)
    clear q
    exfalso; omega
  · have q7_5 : ¬ _ := (fun z => q ((nI_z_lt (by omega)).mpr z))
    clear q
    refine VR.blk h [(.iload_n 1, 1), (.aload_n 0, 1)] (by decide +kernel) (pc' := 12) (ls' := [some (.ref am), some (.int (nI (w))), some (.int (nI (t))), none, none]) (st' := [.ref am, .int (nI (w)), .ref am]) rfl rfl (Nat.le_of_ble_eq_true rfl) ?_
    refine VR.getI h (j := 1) rfl (Or.inl wf_RX11_151) (by decide +kernel) (v := tf A1 1) rfl ?_
    refine VR.icmp_lt h (off := 7) (by decide +kernel) (tgt := 22) (by decide) (fun q => ?_) (fun q => ?_)
    · have q15_13 := ((nI_ltI (by omega) (by omega)).mp q)
      clear q
      refine VR.blk h [(.iconst 0, 1), (.iconst 1, 1)] (by decide +kernel) (pc' := 24) (ls' := [some (.ref am), some (.int (nI (w))), some (.int (nI (t))), none, none]) (st' := [.int (nI (1)), .int (nI (0)), .ref am]) rfl rfl (Nat.le_of_ble_eq_true rfl) ?_
      refine VR.call h (np := 2) (st := []) (r_throwsN hls A1 1) wc_X11_throwsIf wn_RX11 (Or.inl wm_RX11_247) wi_X11_throwsIf we_X11_throwsIf (by decide +kernel) rfl (by decide) (by decide) (by simp [Value.category]) (by decide +kernel) (by simp [oI_s, bI_f, bI_t]) ?_
      refine VR.if_eq h (off := 5) (by decide +kernel) (tgt := 32) (by decide) (fun _ => ?_) (fun q => absurd (by decide) q)
      refine VR.blk h [(.iload_n 2, 1)] (by decide +kernel) (pc' := 33) (ls' := [some (.ref am), some (.int (nI (w))), some (.int (nI (t))), none, none]) (st' := [.int (nI (t))]) rfl rfl (Nat.le_of_ble_eq_true rfl) ?_
      have tsw : t = 0 ∨ t = 1 ∨ t = 2 ∨ t = 3 := by omega
      rcases tsw with rfl | rfl | rfl | rfl
      · skip
        refine VR.tableIn h (dflt := 101) (hi := 3) (offs := #[31, 38, 48, 55]) (len := 31) (x := 0) (off := 31) (by decide) (by decide +kernel) (by decide) rfl (tgt := 64) (by decide) ?_
        refine VR.blk h [(.aload_n 0, 1)] (by decide +kernel) (pc' := 65) (ls' := [some (.ref am), some (.int (nI (w))), some (.int (nI (0))), none, none]) (st' := [.ref am]) rfl rfl (Nat.le_of_ble_eq_true rfl) ?_
        refine VR.getA h (j := 41) rfl (Or.inl wf_RX11_111) (by decide +kernel) ?_
        refine VR.blk h [(.iload_n 1, 1)] (by decide +kernel) (pc' := 69) (ls' := [some (.ref am), some (.int (nI (w))), some (.int (nI (0))), none, none]) (st' := [.int (nI (w)), .ref (ad 41)]) rfl rfl (Nat.le_of_ble_eq_true rfl) ?_
        refine VR.iald h (j := 41) (i := w) rfl rfl (by show _ < 3; omega) (by decide +kernel) (v := (nI (tn A1 41 w))) (mval_1 rfl) ?_
        have nb28 := hB.2 41 w
        exact VR.iret h hA hQ hr rfl rfl rfl (by decide +kernel)
      · skip
        refine VR.tableIn h (dflt := 101) (hi := 3) (offs := #[31, 38, 48, 55]) (len := 31) (x := 1) (off := 38) (by decide) (by decide +kernel) (by decide) rfl (tgt := 71) (by decide) ?_
        refine VR.blk h [(.aload_n 0, 1)] (by decide +kernel) (pc' := 72) (ls' := [some (.ref am), some (.int (nI (w))), some (.int (nI (1))), none, none]) (st' := [.ref am]) rfl rfl (Nat.le_of_ble_eq_true rfl) ?_
        refine VR.getA h (j := 42) rfl (Or.inl wf_RX11_114) (by decide +kernel) ?_
        refine VR.blk h [(.iload_n 1, 1)] (by decide +kernel) (pc' := 76) (ls' := [some (.ref am), some (.int (nI (w))), some (.int (nI (1))), none, none]) (st' := [.int (nI (w)), .ref (ad 42)]) rfl rfl (Nat.le_of_ble_eq_true rfl) ?_
        refine VR.bald h (j := 42) (i := w) rfl rfl (by show _ < 3; omega) (by decide +kernel) (v := (bI (tb A1 42 w))) (mval_4 rfl) ?_
        refine VR.callS h (np := 1) (st := []) (r_one hls A1 (tb A1 42 w)) wc_X11_one wn_RX11 (Or.inl wm_RX11_304) wt_X11_one (by decide +kernel) rfl (by decide) (by decide) (by simp [Value.category]) (by decide +kernel) rfl ?_
        exact VR.iret h hA hQ hr rfl rfl rfl (by decide +kernel)
      · skip
        refine VR.tableIn h (dflt := 101) (hi := 3) (offs := #[31, 38, 48, 55]) (len := 31) (x := 2) (off := 48) (by decide) (by decide +kernel) (by decide) rfl (tgt := 81) (by decide) ?_
        refine VR.blk h [(.aload_n 0, 1)] (by decide +kernel) (pc' := 82) (ls' := [some (.ref am), some (.int (nI (w))), some (.int (nI (2))), none, none]) (st' := [.ref am]) rfl rfl (Nat.le_of_ble_eq_true rfl) ?_
        refine VR.getA h (j := 44) rfl (Or.inl wf_RX11_120) (by decide +kernel) ?_
        refine VR.blk h [(.iload_n 1, 1)] (by decide +kernel) (pc' := 86) (ls' := [some (.ref am), some (.int (nI (w))), some (.int (nI (2))), none, none]) (st' := [.int (nI (w)), .ref (ad 44)]) rfl rfl (Nat.le_of_ble_eq_true rfl) ?_
        refine VR.iald h (j := 44) (i := w) rfl rfl (by show _ < 3; omega) (by decide +kernel) (v := (nI (tn A1 44 w))) (mval_1 rfl) ?_
        have nb44 := hB.2 44 w
        exact VR.iret h hA hQ hr rfl rfl rfl (by decide +kernel)
      · skip
        refine VR.tableIn h (dflt := 101) (hi := 3) (offs := #[31, 38, 48, 55]) (len := 31) (x := 3) (off := 55) (by decide) (by decide +kernel) (by decide) rfl (tgt := 88) (by decide) ?_
        refine VR.blk h [(.iconst 0, 1), (.istore_n 3, 1), (.iconst 0, 1), (.istore 4, 2)] (by decide +kernel) (pc' := 93) (ls' := [some (.ref am), some (.int (nI (w))), some (.int (nI (3))), some (.int (nI (0))), some (.int (nI (0)))]) (st' := []) rfl rfl (Nat.le_of_ble_eq_true rfl) ?_
        have loop93 : ∀ (t k : Nat), tn A1 44 w - k = t → k ≤ tn A1 44 w → VR l D tc A0 p e9 (rmd 3 0 0) s m args below meth c 5 Q am ad A1 93 [some (.ref am), some (.int (nI (w))), some (.int (nI (3))), some (.int (nI (bitF A1 w k))), some (.int (nI (k)))] [] := by
          intro t; induction t using Nat.strongRecOn with
          | _ t ih93 =>
            intro k ht93 hk93
            refine VR.blk h [(.iload 4, 2), (.aload_n 0, 1)] (by decide +kernel) (pc' := 96) (ls' := [some (.ref am), some (.int (nI (w))), some (.int (nI (3))), some (.int (nI (bitF A1 w k))), some (.int (nI (k)))]) (st' := [.ref am, .int (nI (k))]) rfl rfl (Nat.le_of_ble_eq_true rfl) ?_
            refine VR.getA h (j := 44) rfl (Or.inl wf_RX11_120) (by decide +kernel) ?_
            refine VR.blk h [(.iload_n 1, 1)] (by decide +kernel) (pc' := 100) (ls' := [some (.ref am), some (.int (nI (w))), some (.int (nI (3))), some (.int (nI (bitF A1 w k))), some (.int (nI (k)))]) (st' := [.int (nI (w)), .ref (ad 44), .int (nI (k))]) rfl rfl (Nat.le_of_ble_eq_true rfl) ?_
            refine VR.iald h (j := 44) (i := w) rfl rfl (by show _ < 3; omega) (by decide +kernel) (v := (nI (tn A1 44 w))) (mval_1 rfl) ?_
            have nb57 := hB.2 44 w
            refine VR.icmp_ge h (off := 31) (by decide +kernel) (tgt := 132) (by decide) (fun q => ?_) (fun q => ?_)
            · have q101_58 := ((nI_leI (by omega) (by omega)).mp q)
              clear q
              refine VR.blk h [(.iload_n 3, 1)] (by decide +kernel) (pc' := 133) (ls' := [some (.ref am), some (.int (nI (w))), some (.int (nI (3))), some (.int (nI (bitF A1 w k))), some (.int (nI (k)))]) (st' := [.int (nI (bitF A1 w k))]) rfl rfl (Nat.le_of_ble_eq_true rfl) ?_
              exact VR.iret h hA hQ hr rfl (by obtain rfl : k = tn A1 44 w := (by omega); rfl) rfl (by decide +kernel)
            · have q101_58 : ¬ _ := (fun z => q ((nI_leI (by omega) (by omega)).mpr z))
              clear q
              refine VR.blk h [(.iload_n 3, 1), (.iconst 1, 1), (.aload_n 0, 1)] (by decide +kernel) (pc' := 107) (ls' := [some (.ref am), some (.int (nI (w))), some (.int (nI (3))), some (.int (nI (bitF A1 w k))), some (.int (nI (k)))]) (st' := [.ref am, .int (nI (1)), .int (nI (bitF A1 w k))]) rfl rfl (Nat.le_of_ble_eq_true rfl) ?_
              refine VR.getA h (j := 8) rfl (Or.inl wf_RX11_23) (by decide +kernel) ?_
              refine VR.blk h [(.aload_n 0, 1)] (by decide +kernel) (pc' := 111) (ls' := [some (.ref am), some (.int (nI (w))), some (.int (nI (3))), some (.int (nI (bitF A1 w k))), some (.int (nI (k)))]) (st' := [.ref am, .ref (ad 8), .int (nI (1)), .int (nI (bitF A1 w k))]) rfl rfl (Nat.le_of_ble_eq_true rfl) ?_
              refine VR.getA h (j := 43) rfl (Or.inl wf_RX11_117) (by decide +kernel) ?_
              refine VR.blk h [(.bipush 16, 2), (.iload_n 1, 1)] (by decide +kernel) (pc' := 117) (ls' := [some (.ref am), some (.int (nI (w))), some (.int (nI (3))), some (.int (nI (bitF A1 w k))), some (.int (nI (k)))]) (st' := [.int (nI (w)), .int (nI (16)), .ref (ad 43), .ref (ad 8), .int (nI (1)), .int (nI (bitF A1 w k))]) rfl rfl (Nat.le_of_ble_eq_true rfl) ?_
              refine VR.mulN h (by decide +kernel) (Nat.le_of_ble_eq_true rfl) ?_
              refine VR.blk h [(.iload 4, 2)] (by decide +kernel) (pc' := 120) (ls' := [some (.ref am), some (.int (nI (w))), some (.int (nI (3))), some (.int (nI (bitF A1 w k))), some (.int (nI (k)))]) (st' := [.int (nI (k)), .int (nI (16 * w)), .ref (ad 43), .ref (ad 8), .int (nI (1)), .int (nI (bitF A1 w k))]) rfl rfl (Nat.le_of_ble_eq_true rfl) ?_
              refine VR.addN h (by decide +kernel) (Nat.le_of_ble_eq_true rfl) ?_
              have hop := hrec k (by omega)
              refine VR.iald h (j := 43) (i := (16 * w) + k) rfl rfl (by show _ < 48; omega) (by decide +kernel) (v := (nI (tn A1 43 ((16 * w) + k)))) (mval_1 rfl) ?_
              have nb75 := hB.2 43 ((16 * w) + k)
              have h16 := h8 (tn A1 43 (16 * w + k))
              refine VR.iald h (j := 8) (i := tn A1 43 ((16 * w) + k)) rfl rfl (by show _ < 600; omega) (by decide +kernel) (v := (nI (tn A1 8 (tn A1 43 ((16 * w) + k))))) (mval_1 rfl) ?_
              have nb78 := hB.2 8 (tn A1 43 ((16 * w) + k))
              refine VR.shl1 h (v := nI (2 ^ (tn A1 8 (tn A1 43 ((16 * w) + k))))) (shl1 (by omega)) (by decide +kernel) ?_
              refine VR.orN h (v := nI ((bitF A1 w k) ||| (2 ^ (tn A1 8 (tn A1 43 ((16 * w) + k)))))) (nI_or _ _) (by decide +kernel) (Nat.le_of_ble_eq_true rfl) ?_
              refine VR.blk h [(.istore_n 3, 1)] (by decide +kernel) (pc' := 126) (ls' := [some (.ref am), some (.int (nI (w))), some (.int (nI (3))), some (.int (nI ((bitF A1 w k) ||| (2 ^ (tn A1 8 (tn A1 43 ((16 * w) + k))))))), some (.int (nI (k)))]) (st' := []) rfl rfl (Nat.le_of_ble_eq_true rfl) ?_
              refine VR.incN h (x := k) (i := 4) (by decide +kernel) rfl (Nat.le_of_ble_eq_true rfl) ?_
              refine VR.eqL (ls' := [some (.ref am), some (.int (nI (w))), some (.int (nI (3))), some (.int (nI ((bitF A1 w k) ||| (2 ^ (tn A1 8 (tn A1 43 ((16 * w) + k))))))), some (.int (nI (k + 1)))]) rfl ?_
              refine VR.goto h (off := -36) (tgt := 93) (by decide +kernel) (by decide) ?_
              refine VR.eqL (ls' := [some (.ref am), some (.int (nI (w))), some (.int (nI (3))), some (.int (nI (bitF A1 w ((k + 1))))), some (.int (nI ((k + 1))))]) rfl ?_
              exact ih93 (tn A1 44 w - (k + 1)) (by omega) (k + 1) rfl (by omega)
        refine VR.eqL (ls' := [some (.ref am), some (.int (nI (w))), some (.int (nI (3))), some (.int (nI (bitF A1 w 0))), some (.int (nI (0)))]) rfl ?_
        exact loop93 _ 0 rfl (Nat.zero_le _)
    · have q15_13 : ¬ _ := (fun z => q ((nI_ltI (by omega) (by omega)).mpr z))
      clear q
      exfalso; omega

set_option maxRecDepth 100000 in
set_option maxHeartbeats 4000000 in
theorem r_client_w {l : Launch} {D : va_G} {tc : Nat → ClassId} {am : Nat} {ad : Nat → Nat} (hls : l.stackTraces = false) (A : TS) (A1 : TS) (c9 K : Nat) (y : Int32) (hA1 : A1 = sf A 0 0) (hc : c9 < 4) (hlt : tn A1 16 c9 ≤ 600) (hB : NB K A1) (hK : K < 1999980000) (hy : noIx y 7 = true) : RM l D tc am ad yX11_client cX11_client 4 (some .int) 3 [.ref am, .int (nI (c9)), .int (y)] A (some (.int (nI 0))) (sf A1 0 2) := by
  refine RM.of hls (by decide +kernel) (by simp [Value.category]) (Nat.le_of_ble_eq_true rfl) (fun A0 p e9 s m args below meth c S0 sz Q h hr hA hQ => ?_)
  refine VR.eqL (ls' := [some (.ref am), some (.int (nI (c9))), some (.int (y)), none]) rfl ?_
  refine VR.blk h [(.aload_n 0, 1), (.iconst 0, 1)] (by decide +kernel) (pc' := 2) (ls' := [some (.ref am), some (.int (nI (c9))), some (.int (y)), none]) (st' := [.int (nI (0)), .ref am]) rfl rfl (Nat.le_of_ble_eq_true rfl) ?_
  refine VR.putI h (j := 0) rfl rfl rfl (Or.inl wf_RX11_1) (by decide +kernel) ?_
  refine VR.eqA (A' := A1) hA1 ?_
  refine VR.blk h [(.aload_n 0, 1), (.iload_n 1, 1)] (by decide +kernel) (pc' := 7) (ls' := [some (.ref am), some (.int (nI (c9))), some (.int (y)), none]) (st' := [.int (nI (c9)), .ref am]) rfl rfl (Nat.le_of_ble_eq_true rfl) ?_
  refine VR.callS h (np := 1) (st := [.ref am]) (r_noClient_ hls A1 (by rw [noIx_nI (by omega) (by decide)])) wc_X11_noClient wn_RX11 (Or.inl wm_RX11_244) wt_X11_noClient (by decide +kernel) rfl (by decide) (by decide) (by simp [Value.category]) (by decide +kernel) rfl ?_
  refine VR.blk h [(.iconst 1, 1)] (by decide +kernel) (pc' := 11) (ls' := [some (.ref am), some (.int (nI (c9))), some (.int (y)), none]) (st' := [.int (nI (1)), .int (bI (false)), .ref am]) rfl rfl (Nat.le_of_ble_eq_true rfl) ?_
  refine VR.call h (np := 2) (st := []) (r_throwsN hls A1 1) wc_X11_throwsIf wn_RX11 (Or.inl wm_RX11_247) wi_X11_throwsIf we_X11_throwsIf (by decide +kernel) rfl (by decide) (by decide) (by simp [Value.category]) (by decide +kernel) rfl ?_
  refine VR.if_eq h (off := 5) (by decide +kernel) (tgt := 19) (by decide) (fun _ => ?_) (fun q => absurd (by decide) q)
  refine VR.blk h [(.aload_n 0, 1)] (by decide +kernel) (pc' := 20) (ls' := [some (.ref am), some (.int (nI (c9))), some (.int (y)), none]) (st' := [.ref am]) rfl rfl (Nat.le_of_ble_eq_true rfl) ?_
  refine VR.getA h (j := 16) rfl (Or.inl wf_RX11_38) (by decide +kernel) ?_
  refine VR.blk h [(.iload_n 1, 1)] (by decide +kernel) (pc' := 24) (ls' := [some (.ref am), some (.int (nI (c9))), some (.int (y)), none]) (st' := [.int (nI (c9)), .ref (ad 16)]) rfl rfl (Nat.le_of_ble_eq_true rfl) ?_
  refine VR.iald h (j := 16) (i := c9) rfl rfl (by show _ < 4; omega) (by decide +kernel) (v := (oI (tn A1 16 c9))) (mval_2 rfl) ?_
  have nb13 := hB.2 16 c9
  refine VR.blk h [(.istore_n 3, 1), (.iload_n 2, 1)] (by decide +kernel) (pc' := 27) (ls' := [some (.ref am), some (.int (nI (c9))), some (.int (y)), some (.int (oI (tn A1 16 c9)))]) (st' := [.int (y)]) rfl rfl (Nat.le_of_ble_eq_true rfl) ?_
  refine VR.tableOut h (dflt := 146) (hi := 6) (offs := #[41, 56, 73, 96, 103, 113, 139]) (len := 41) (by decide +kernel) (noIx_out (n := 7) (by decide) hy) (tgt := 173) (by decide) ?_
  refine VR.blk h [(.aload_n 0, 1), (.iconst 2, 1)] (by decide +kernel) (pc' := 175) (ls' := [some (.ref am), some (.int (nI (c9))), some (.int (y)), some (.int (oI (tn A1 16 c9)))]) (st' := [.int (nI (2)), .ref am]) rfl rfl (Nat.le_of_ble_eq_true rfl) ?_
  refine VR.putI h (j := 0) rfl rfl rfl (Or.inl wf_RX11_1) (by decide +kernel) ?_
  refine VR.blk h [(.iconst 0, 1)] (by decide +kernel) (pc' := 179) (ls' := [some (.ref am), some (.int (nI (c9))), some (.int (y)), some (.int (oI (tn A1 16 c9)))]) (st' := [.int (nI (0))]) rfl rfl (Nat.le_of_ble_eq_true rfl) ?_
  exact VR.iret h hA hQ hr rfl rfl rfl (by decide +kernel)

set_option maxRecDepth 100000 in
set_option maxHeartbeats 4000000 in
theorem r_client {l : Launch} {D : va_G} {tc : Nat → ClassId} {am : Nat} {ad : Nat → Nat} (hls : l.stackTraces = false) (A : TS) (A1 : TS) (c9 t K : Nat) (bc : Int32 → Int32) (hA1 : A1 = sf A 0 0) (hc : c9 < 4) (hlt : tn A1 16 c9 ≤ 600) (hB : NB K A1) (hK : K < 1999980000) (hBC : ∀ (A : TS) (x : Int32), RM l D tc am ad yJ6_bitCount_0f7a4 cJ6_bitCount_0f7a4 1 (some .int) 0 [.int x] A (some (.int (bc x))) A) (ht : t < 7) : RM l D tc am ad yX11_client cX11_client 4 (some .int) 3 [.ref am, .int (nI (c9)), .int (nI (t))] A (some (.int (if t = 4 then bc (nI (tn A1 18 c9)) else cliV A1 c9 t))) (A1) := by
  refine RM.of hls (by decide +kernel) (by simp [Value.category]) (Nat.le_of_ble_eq_true rfl) (fun A0 p e9 s m args below meth c S0 sz Q h hr hA hQ => ?_)
  refine VR.eqL (ls' := [some (.ref am), some (.int (nI (c9))), some (.int (nI (t))), none]) rfl ?_
  refine VR.blk h [(.aload_n 0, 1), (.iconst 0, 1)] (by decide +kernel) (pc' := 2) (ls' := [some (.ref am), some (.int (nI (c9))), some (.int (nI (t))), none]) (st' := [.int (nI (0)), .ref am]) rfl rfl (Nat.le_of_ble_eq_true rfl) ?_
  refine VR.putI h (j := 0) rfl rfl rfl (Or.inl wf_RX11_1) (by decide +kernel) ?_
  refine VR.eqA (A' := A1) hA1 ?_
  refine VR.blk h [(.aload_n 0, 1), (.iload_n 1, 1)] (by decide +kernel) (pc' := 7) (ls' := [some (.ref am), some (.int (nI (c9))), some (.int (nI (t))), none]) (st' := [.int (nI (c9)), .ref am]) rfl rfl (Nat.le_of_ble_eq_true rfl) ?_
  refine VR.callS h (np := 1) (st := [.ref am]) (r_noClient_ hls A1 (by rw [noIx_nI (by omega) (by decide)])) wc_X11_noClient wn_RX11 (Or.inl wm_RX11_244) wt_X11_noClient (by decide +kernel) rfl (by decide) (by decide) (by simp [Value.category]) (by decide +kernel) rfl ?_
  refine VR.blk h [(.iconst 1, 1)] (by decide +kernel) (pc' := 11) (ls' := [some (.ref am), some (.int (nI (c9))), some (.int (nI (t))), none]) (st' := [.int (nI (1)), .int (bI (false)), .ref am]) rfl rfl (Nat.le_of_ble_eq_true rfl) ?_
  refine VR.call h (np := 2) (st := []) (r_throwsN hls A1 1) wc_X11_throwsIf wn_RX11 (Or.inl wm_RX11_247) wi_X11_throwsIf we_X11_throwsIf (by decide +kernel) rfl (by decide) (by decide) (by simp [Value.category]) (by decide +kernel) rfl ?_
  refine VR.if_eq h (off := 5) (by decide +kernel) (tgt := 19) (by decide) (fun _ => ?_) (fun q => absurd (by decide) q)
  refine VR.blk h [(.aload_n 0, 1)] (by decide +kernel) (pc' := 20) (ls' := [some (.ref am), some (.int (nI (c9))), some (.int (nI (t))), none]) (st' := [.ref am]) rfl rfl (Nat.le_of_ble_eq_true rfl) ?_
  refine VR.getA h (j := 16) rfl (Or.inl wf_RX11_38) (by decide +kernel) ?_
  refine VR.blk h [(.iload_n 1, 1)] (by decide +kernel) (pc' := 24) (ls' := [some (.ref am), some (.int (nI (c9))), some (.int (nI (t))), none]) (st' := [.int (nI (c9)), .ref (ad 16)]) rfl rfl (Nat.le_of_ble_eq_true rfl) ?_
  refine VR.iald h (j := 16) (i := c9) rfl rfl (by show _ < 4; omega) (by decide +kernel) (v := (oI (tn A1 16 c9))) (mval_2 rfl) ?_
  have nb13 := hB.2 16 c9
  refine VR.blk h [(.istore_n 3, 1), (.iload_n 2, 1)] (by decide +kernel) (pc' := 27) (ls' := [some (.ref am), some (.int (nI (c9))), some (.int (nI (t))), some (.int (oI (tn A1 16 c9)))]) (st' := [.int (nI (t))]) rfl rfl (Nat.le_of_ble_eq_true rfl) ?_
  have tsw : t = 0 ∨ t = 1 ∨ t = 2 ∨ t = 3 ∨ t = 4 ∨ t = 5 ∨ t = 6 := by omega
  rcases tsw with rfl | rfl | rfl | rfl | rfl | rfl | rfl
  · skip
    refine VR.tableIn h (dflt := 146) (hi := 6) (offs := #[41, 56, 73, 96, 103, 113, 139]) (len := 41) (x := 0) (off := 41) (by decide) (by decide +kernel) (by decide) rfl (tgt := 68) (by decide) ?_
    refine VR.blk h [(.iload_n 3, 1)] (by decide +kernel) (pc' := 69) (ls' := [some (.ref am), some (.int (nI (c9))), some (.int (nI (0))), some (.int (oI (tn A1 16 c9)))]) (st' := [.int (oI (tn A1 16 c9))]) rfl rfl (Nat.le_of_ble_eq_true rfl) ?_
    refine VR.if_ge h (off := 7) (by decide +kernel) (tgt := 76) (by decide) (fun q => ?_) (fun q => ?_)
    · have q69_20 := ((oI_nn (by omega)).mp q)
      clear q
      refine VR.blk h [(.aload_n 0, 1)] (by decide +kernel) (pc' := 77) (ls' := [some (.ref am), some (.int (nI (c9))), some (.int (nI (0))), some (.int (oI (tn A1 16 c9)))]) (st' := [.ref am]) rfl rfl (Nat.le_of_ble_eq_true rfl) ?_
      refine VR.getA h (j := 6) rfl (Or.inl wf_RX11_17) (by decide +kernel) ?_
      refine VR.blk h [(.iload_n 3, 1)] (by decide +kernel) (pc' := 81) (ls' := [some (.ref am), some (.int (nI (c9))), some (.int (nI (0))), some (.int (oI (tn A1 16 c9)))]) (st' := [.int (oI (tn A1 16 c9)), .ref (ad 6)]) rfl rfl (Nat.le_of_ble_eq_true rfl) ?_
      refine VR.top (v' := .int (nI ((tn A1 16 c9) - 1))) (oI_pos (by omega)) ?_
      refine VR.iald h (j := 6) (i := (tn A1 16 c9) - 1) rfl rfl (by show _ < 600; omega) (by decide +kernel) (v := (nI (tn A1 6 ((tn A1 16 c9) - 1)))) (mval_1 rfl) ?_
      have nb28 := hB.2 6 ((tn A1 16 c9) - 1)
      exact VR.iret h hA hQ hr rfl (by first | rfl | (show some (Value.int (cliV A1 c9 0)) = _; unfold cliV; simp only [q69_20, ne_eq, if_true, if_false, not_true_eq_false, not_false_eq_true, false_or, or_false, true_or, or_true, Bool.false_eq_true])) rfl (by decide +kernel)
    · have q69_20 := (Decidable.of_not_not (fun z => q ((oI_nn (by omega)).mpr z)))
      clear q
      refine VR.blk h [(.iconst 0, 1)] (by decide +kernel) (pc' := 73) (ls' := [some (.ref am), some (.int (nI (c9))), some (.int (nI (0))), some (.int (oI (tn A1 16 c9)))]) (st' := [.int (nI (0))]) rfl rfl (Nat.le_of_ble_eq_true rfl) ?_
      refine VR.goto h (off := 9) (tgt := 82) (by decide +kernel) (by decide) ?_
      exact VR.iret h hA hQ hr rfl (by first | rfl | (show some (Value.int (cliV A1 c9 0)) = _; unfold cliV; simp only [q69_20, ne_eq, if_true, if_false, not_true_eq_false, not_false_eq_true, false_or, or_false, true_or, or_true, Bool.false_eq_true])) rfl (by decide +kernel)
  · skip
    refine VR.tableIn h (dflt := 146) (hi := 6) (offs := #[41, 56, 73, 96, 103, 113, 139]) (len := 41) (x := 1) (off := 56) (by decide) (by decide +kernel) (by decide) rfl (tgt := 83) (by decide) ?_
    refine VR.blk h [(.aload_n 0, 1), (.iload_n 1, 1)] (by decide +kernel) (pc' := 85) (ls' := [some (.ref am), some (.int (nI (c9))), some (.int (nI (1))), some (.int (oI (tn A1 16 c9)))]) (st' := [.int (nI (c9)), .ref am]) rfl rfl (Nat.le_of_ble_eq_true rfl) ?_
    refine VR.call h (np := 1) (st := []) (r_isOpen hls A1 c9 K hc hlt hB (by omega)) wc_X11_isOpen wn_RX11 (Or.inl wm_RX11_238) wi_X11_isOpen we_X11_isOpen (by decide +kernel) rfl (by decide) (by decide) (by simp [Value.category]) (by decide +kernel) rfl ?_
    refine VR.if_ne h (off := 7) (by decide +kernel) (tgt := 95) (by decide) (fun q => ?_) (fun q => ?_)
    · have q88_39 := (bI_1 (fun z => q (bI_0.mpr z)))
      clear q
      refine VR.blk h [(.iconst 0, 1)] (by decide +kernel) (pc' := 96) (ls' := [some (.ref am), some (.int (nI (c9))), some (.int (nI (1))), some (.int (oI (tn A1 16 c9)))]) (st' := [.int (nI (0))]) rfl rfl (Nat.le_of_ble_eq_true rfl) ?_
      refine VR.callS h (np := 1) (st := []) (r_one hls A1 false) wc_X11_one wn_RX11 (Or.inl wm_RX11_304) wt_X11_one (by decide +kernel) rfl (by decide) (by decide) (by simp [Value.category]) (by decide +kernel) (by simp [oI_s, bI_f, bI_t]) ?_
      exact VR.iret h hA hQ hr rfl (by show some (Value.int (cliV A1 c9 1)) = _; unfold cliV; simp [one9, q88_39]) rfl (by decide +kernel)
    · have q88_39 := (bI_0.mp q)
      clear q
      refine VR.blk h [(.iconst 1, 1)] (by decide +kernel) (pc' := 92) (ls' := [some (.ref am), some (.int (nI (c9))), some (.int (nI (1))), some (.int (oI (tn A1 16 c9)))]) (st' := [.int (nI (1))]) rfl rfl (Nat.le_of_ble_eq_true rfl) ?_
      refine VR.goto h (off := 4) (tgt := 96) (by decide +kernel) (by decide) ?_
      refine VR.callS h (np := 1) (st := []) (r_one hls A1 true) wc_X11_one wn_RX11 (Or.inl wm_RX11_304) wt_X11_one (by decide +kernel) rfl (by decide) (by decide) (by simp [Value.category]) (by decide +kernel) (by simp [oI_s, bI_f, bI_t]) ?_
      exact VR.iret h hA hQ hr rfl (by show some (Value.int (cliV A1 c9 1)) = _; unfold cliV; simp [one9, q88_39]) rfl (by decide +kernel)
  · skip
    refine VR.tableIn h (dflt := 146) (hi := 6) (offs := #[41, 56, 73, 96, 103, 113, 139]) (len := 41) (x := 2) (off := 73) (by decide) (by decide +kernel) (by decide) rfl (tgt := 100) (by decide) ?_
    refine VR.blk h [(.iload_n 3, 1)] (by decide +kernel) (pc' := 101) (ls' := [some (.ref am), some (.int (nI (c9))), some (.int (nI (2))), some (.int (oI (tn A1 16 c9)))]) (st' := [.int (oI (tn A1 16 c9))]) rfl rfl (Nat.le_of_ble_eq_true rfl) ?_
    refine VR.if_lt h (off := 11) (by decide +kernel) (tgt := 112) (by decide) (fun q => ?_) (fun q => ?_)
    · have q101_54 := ((oI_neg (by omega)).mp q)
      clear q
      refine VR.blk h [(.iconst 0, 1)] (by decide +kernel) (pc' := 113) (ls' := [some (.ref am), some (.int (nI (c9))), some (.int (nI (2))), some (.int (oI (tn A1 16 c9)))]) (st' := [.int (nI (0))]) rfl rfl (Nat.le_of_ble_eq_true rfl) ?_
      refine VR.goto h (off := 9) (tgt := 122) (by decide +kernel) (by decide) ?_
      exact VR.iret h hA hQ hr rfl (by first | rfl | (show some (Value.int (cliV A1 c9 2)) = _; unfold cliV; simp only [q101_54, ne_eq, if_true, if_false, not_true_eq_false, not_false_eq_true, false_or, or_false, true_or, or_true, Bool.false_eq_true])) rfl (by decide +kernel)
    · have q101_54 : ¬ _ := (fun z => q ((oI_neg (by omega)).mpr z))
      clear q
      refine VR.blk h [(.aload_n 0, 1), (.iload_n 1, 1)] (by decide +kernel) (pc' := 106) (ls' := [some (.ref am), some (.int (nI (c9))), some (.int (nI (2))), some (.int (oI (tn A1 16 c9)))]) (st' := [.int (nI (c9)), .ref am]) rfl rfl (Nat.le_of_ble_eq_true rfl) ?_
      refine VR.call h (np := 1) (st := []) (r_isOpen hls A1 c9 K hc hlt hB (by omega)) wc_X11_isOpen wn_RX11 (Or.inl wm_RX11_238) wi_X11_isOpen we_X11_isOpen (by decide +kernel) rfl (by decide) (by decide) (by simp [Value.category]) (by decide +kernel) rfl ?_
      refine VR.if_eq h (off := 7) (by decide +kernel) (tgt := 116) (by decide) (fun q => ?_) (fun q => ?_)
      · have q109_64 := (bI_0.mp q)
        clear q
        refine VR.blk h [(.aload_n 0, 1)] (by decide +kernel) (pc' := 117) (ls' := [some (.ref am), some (.int (nI (c9))), some (.int (nI (2))), some (.int (oI (tn A1 16 c9)))]) (st' := [.ref am]) rfl rfl (Nat.le_of_ble_eq_true rfl) ?_
        refine VR.getA h (j := 12) rfl (Or.inl wf_RX11_35) (by decide +kernel) ?_
        refine VR.blk h [(.iload_n 3, 1)] (by decide +kernel) (pc' := 121) (ls' := [some (.ref am), some (.int (nI (c9))), some (.int (nI (2))), some (.int (oI (tn A1 16 c9)))]) (st' := [.int (oI (tn A1 16 c9)), .ref (ad 12)]) rfl rfl (Nat.le_of_ble_eq_true rfl) ?_
        refine VR.top (v' := .int (nI ((tn A1 16 c9) - 1))) (oI_pos (by omega)) ?_
        refine VR.iald h (j := 12) (i := (tn A1 16 c9) - 1) rfl rfl (by show _ < 600; omega) (by decide +kernel) (v := (tr A1 12 ((tn A1 16 c9) - 1))) (mval_3 rfl) ?_
        exact VR.iret h hA hQ hr rfl (by first | rfl | (show some (Value.int (cliV A1 c9 2)) = _; unfold cliV; simp only [q101_54, q109_64, ne_eq, if_true, if_false, not_true_eq_false, not_false_eq_true, false_or, or_false, true_or, or_true, Bool.false_eq_true])) rfl (by decide +kernel)
      · have q109_64 := (bI_1 (fun z => q (bI_0.mpr z)))
        clear q
        refine VR.blk h [(.iconst 0, 1)] (by decide +kernel) (pc' := 113) (ls' := [some (.ref am), some (.int (nI (c9))), some (.int (nI (2))), some (.int (oI (tn A1 16 c9)))]) (st' := [.int (nI (0))]) rfl rfl (Nat.le_of_ble_eq_true rfl) ?_
        refine VR.goto h (off := 9) (tgt := 122) (by decide +kernel) (by decide) ?_
        exact VR.iret h hA hQ hr rfl (by first | rfl | (show some (Value.int (cliV A1 c9 2)) = _; unfold cliV; simp only [q101_54, q109_64, ne_eq, if_true, if_false, not_true_eq_false, not_false_eq_true, false_or, or_false, true_or, or_true, Bool.false_eq_true])) rfl (by decide +kernel)
  · skip
    refine VR.tableIn h (dflt := 146) (hi := 6) (offs := #[41, 56, 73, 96, 103, 113, 139]) (len := 41) (x := 3) (off := 96) (by decide) (by decide +kernel) (by decide) rfl (tgt := 123) (by decide) ?_
    refine VR.blk h [(.aload_n 0, 1)] (by decide +kernel) (pc' := 124) (ls' := [some (.ref am), some (.int (nI (c9))), some (.int (nI (3))), some (.int (oI (tn A1 16 c9)))]) (st' := [.ref am]) rfl rfl (Nat.le_of_ble_eq_true rfl) ?_
    refine VR.getA h (j := 17) rfl (Or.inl wf_RX11_41) (by decide +kernel) ?_
    refine VR.blk h [(.iload_n 1, 1)] (by decide +kernel) (pc' := 128) (ls' := [some (.ref am), some (.int (nI (c9))), some (.int (nI (3))), some (.int (oI (tn A1 16 c9)))]) (st' := [.int (nI (c9)), .ref (ad 17)]) rfl rfl (Nat.le_of_ble_eq_true rfl) ?_
    refine VR.iald h (j := 17) (i := c9) rfl rfl (by show _ < 4; omega) (by decide +kernel) (v := (nI (tn A1 17 c9))) (mval_1 rfl) ?_
    have nb84 := hB.2 17 c9
    exact VR.iret h hA hQ hr rfl rfl rfl (by decide +kernel)
  · skip
    refine VR.tableIn h (dflt := 146) (hi := 6) (offs := #[41, 56, 73, 96, 103, 113, 139]) (len := 41) (x := 4) (off := 103) (by decide) (by decide +kernel) (by decide) rfl (tgt := 130) (by decide) ?_
    refine VR.blk h [(.aload_n 0, 1)] (by decide +kernel) (pc' := 131) (ls' := [some (.ref am), some (.int (nI (c9))), some (.int (nI (4))), some (.int (oI (tn A1 16 c9)))]) (st' := [.ref am]) rfl rfl (Nat.le_of_ble_eq_true rfl) ?_
    refine VR.getA h (j := 18) rfl (Or.inl wf_RX11_44) (by decide +kernel) ?_
    refine VR.blk h [(.iload_n 1, 1)] (by decide +kernel) (pc' := 135) (ls' := [some (.ref am), some (.int (nI (c9))), some (.int (nI (4))), some (.int (oI (tn A1 16 c9)))]) (st' := [.int (nI (c9)), .ref (ad 18)]) rfl rfl (Nat.le_of_ble_eq_true rfl) ?_
    refine VR.iald h (j := 18) (i := c9) rfl rfl (by show _ < 4; omega) (by decide +kernel) (v := (nI (tn A1 18 c9))) (mval_1 rfl) ?_
    have nb92 := hB.2 18 c9
    refine VR.callS h (np := 1) (st := []) (hBC A1 (nI (tn A1 18 c9))) wc_J6_bitCount_0f7a4 wn_RJ6 (Or.inl wm_RX11_308) wt_J6_bitCount_0f7a4 (by decide +kernel) rfl (by decide) (by decide) (by simp [Value.category]) (by decide +kernel) rfl ?_
    exact VR.iret h hA hQ hr rfl rfl rfl (by decide +kernel)
  · skip
    refine VR.tableIn h (dflt := 146) (hi := 6) (offs := #[41, 56, 73, 96, 103, 113, 139]) (len := 41) (x := 5) (off := 113) (by decide) (by decide +kernel) (by decide) rfl (tgt := 140) (by decide) ?_
    refine VR.blk h [(.aload_n 0, 1), (.iload_n 1, 1)] (by decide +kernel) (pc' := 142) (ls' := [some (.ref am), some (.int (nI (c9))), some (.int (nI (5))), some (.int (oI (tn A1 16 c9)))]) (st' := [.int (nI (c9)), .ref am]) rfl rfl (Nat.le_of_ble_eq_true rfl) ?_
    refine VR.call h (np := 1) (st := []) (r_isOpen hls A1 c9 K hc hlt hB (by omega)) wc_X11_isOpen wn_RX11 (Or.inl wm_RX11_238) wi_X11_isOpen we_X11_isOpen (by decide +kernel) rfl (by decide) (by decide) (by simp [Value.category]) (by decide +kernel) rfl ?_
    refine VR.if_eq h (off := 16) (by decide +kernel) (tgt := 161) (by decide) (fun q => ?_) (fun q => ?_)
    · have q145_99 := (bI_0.mp q)
      clear q
      refine VR.blk h [(.iconst 0, 1)] (by decide +kernel) (pc' := 162) (ls' := [some (.ref am), some (.int (nI (c9))), some (.int (nI (5))), some (.int (oI (tn A1 16 c9)))]) (st' := [.int (nI (0))]) rfl rfl (Nat.le_of_ble_eq_true rfl) ?_
      refine VR.callS h (np := 1) (st := []) (r_one hls A1 false) wc_X11_one wn_RX11 (Or.inl wm_RX11_304) wt_X11_one (by decide +kernel) rfl (by decide) (by decide) (by simp [Value.category]) (by decide +kernel) (by simp [oI_s, bI_f, bI_t]) ?_
      exact VR.iret h hA hQ hr rfl (by show some (Value.int (cliV A1 c9 5)) = _; unfold cliV; simp [one9, q145_99]) rfl (by decide +kernel)
    · have q145_99 := (bI_1 (fun z => q (bI_0.mpr z)))
      clear q
      refine VR.blk h [(.aload_n 0, 1)] (by decide +kernel) (pc' := 149) (ls' := [some (.ref am), some (.int (nI (c9))), some (.int (nI (5))), some (.int (oI (tn A1 16 c9)))]) (st' := [.ref am]) rfl rfl (Nat.le_of_ble_eq_true rfl) ?_
      refine VR.getA h (j := 19) rfl (Or.inl wf_RX11_47) (by decide +kernel) ?_
      refine VR.blk h [(.iload_n 1, 1)] (by decide +kernel) (pc' := 153) (ls' := [some (.ref am), some (.int (nI (c9))), some (.int (nI (5))), some (.int (oI (tn A1 16 c9)))]) (st' := [.int (nI (c9)), .ref (ad 19)]) rfl rfl (Nat.le_of_ble_eq_true rfl) ?_
      refine VR.bald h (j := 19) (i := c9) rfl rfl (by show _ < 4; omega) (by decide +kernel) (v := (bI (tb A1 19 c9))) (mval_4 rfl) ?_
      refine VR.if_eq h (off := 7) (by decide +kernel) (tgt := 161) (by decide) (fun q => ?_) (fun q => ?_)
      · have q154_111 := (bI_0.mp q)
        clear q
        refine VR.blk h [(.iconst 0, 1)] (by decide +kernel) (pc' := 162) (ls' := [some (.ref am), some (.int (nI (c9))), some (.int (nI (5))), some (.int (oI (tn A1 16 c9)))]) (st' := [.int (nI (0))]) rfl rfl (Nat.le_of_ble_eq_true rfl) ?_
        refine VR.callS h (np := 1) (st := []) (r_one hls A1 false) wc_X11_one wn_RX11 (Or.inl wm_RX11_304) wt_X11_one (by decide +kernel) rfl (by decide) (by decide) (by simp [Value.category]) (by decide +kernel) (by simp [oI_s, bI_f, bI_t]) ?_
        exact VR.iret h hA hQ hr rfl (by show some (Value.int (cliV A1 c9 5)) = _; unfold cliV; simp [one9, q145_99, q154_111]) rfl (by decide +kernel)
      · have q154_111 := (bI_1 (fun z => q (bI_0.mpr z)))
        clear q
        refine VR.blk h [(.iconst 1, 1)] (by decide +kernel) (pc' := 158) (ls' := [some (.ref am), some (.int (nI (c9))), some (.int (nI (5))), some (.int (oI (tn A1 16 c9)))]) (st' := [.int (nI (1))]) rfl rfl (Nat.le_of_ble_eq_true rfl) ?_
        refine VR.goto h (off := 4) (tgt := 162) (by decide +kernel) (by decide) ?_
        refine VR.callS h (np := 1) (st := []) (r_one hls A1 true) wc_X11_one wn_RX11 (Or.inl wm_RX11_304) wt_X11_one (by decide +kernel) rfl (by decide) (by decide) (by simp [Value.category]) (by decide +kernel) (by simp [oI_s, bI_f, bI_t]) ?_
        exact VR.iret h hA hQ hr rfl (by show some (Value.int (cliV A1 c9 5)) = _; unfold cliV; simp [one9, q145_99, q154_111]) rfl (by decide +kernel)
  · skip
    refine VR.tableIn h (dflt := 146) (hi := 6) (offs := #[41, 56, 73, 96, 103, 113, 139]) (len := 41) (x := 6) (off := 139) (by decide) (by decide +kernel) (by decide) rfl (tgt := 166) (by decide) ?_
    refine VR.blk h [(.aload_n 0, 1)] (by decide +kernel) (pc' := 167) (ls' := [some (.ref am), some (.int (nI (c9))), some (.int (nI (6))), some (.int (oI (tn A1 16 c9)))]) (st' := [.ref am]) rfl rfl (Nat.le_of_ble_eq_true rfl) ?_
    refine VR.getA h (j := 21) rfl (Or.inl wf_RX11_54) (by decide +kernel) ?_
    refine VR.blk h [(.iload_n 1, 1)] (by decide +kernel) (pc' := 171) (ls' := [some (.ref am), some (.int (nI (c9))), some (.int (nI (6))), some (.int (oI (tn A1 16 c9)))]) (st' := [.int (nI (c9)), .ref (ad 21)]) rfl rfl (Nat.le_of_ble_eq_true rfl) ?_
    refine VR.iald h (j := 21) (i := c9) rfl rfl (by show _ < 4; omega) (by decide +kernel) (v := (nI (tn A1 21 c9))) (mval_1 rfl) ?_
    have nb129 := hB.2 21 c9
    exact VR.iret h hA hQ hr rfl rfl rfl (by decide +kernel)

set_option maxRecDepth 100000 in
set_option maxHeartbeats 4000000 in
theorem r_ask_b {l : Launch} {D : va_G} {tc : Nat → ClassId} {am : Nat} {ad : Nat → Nat} (hls : l.stackTraces = false) (A : TS) (A1 : TS) (x : Int32) (y z v9 : Int32) (hA1 : A1 = sf A 0 0) (hx : noIx x 4 = true) : RM l D tc am ad yX11_ask cX11_ask 6 (some .int) 3 [.ref am, .int (x), .int (y), .int (z), .int (v9)] A (some (.int (nI 0))) (sf A1 0 1) := by
  refine RM.of hls (by decide +kernel) (by simp [Value.category]) (Nat.le_of_ble_eq_true rfl) (fun A0 p e9 s m args below meth c S0 sz Q h hr hA hQ => ?_)
  refine VR.eqL (ls' := [some (.ref am), some (.int (x)), some (.int (y)), some (.int (z)), some (.int (v9)), none]) rfl ?_
  refine VR.blk h [(.aload_n 0, 1), (.iconst 0, 1)] (by decide +kernel) (pc' := 2) (ls' := [some (.ref am), some (.int (x)), some (.int (y)), some (.int (z)), some (.int (v9)), none]) (st' := [.int (nI (0)), .ref am]) rfl rfl (Nat.le_of_ble_eq_true rfl) ?_
  refine VR.putI h (j := 0) rfl rfl rfl (Or.inl wf_RX11_1) (by decide +kernel) ?_
  refine VR.eqA (A' := A1) hA1 ?_
  refine VR.blk h [(.aload_n 0, 1), (.iload_n 1, 1)] (by decide +kernel) (pc' := 7) (ls' := [some (.ref am), some (.int (x)), some (.int (y)), some (.int (z)), some (.int (v9)), none]) (st' := [.int (x), .ref am]) rfl rfl (Nat.le_of_ble_eq_true rfl) ?_
  refine VR.callS h (np := 1) (st := [.ref am]) (r_noClient_ hls A1 hx) wc_X11_noClient wn_RX11 (Or.inl wm_RX11_244) wt_X11_noClient (by decide +kernel) rfl (by decide) (by decide) (by simp [Value.category]) (by decide +kernel) rfl ?_
  refine VR.if_ne h (off := 13) (by decide +kernel) (tgt := 23) (by decide) (fun _ => ?_) (fun q => absurd q (by decide))
  refine VR.blk h [(.iconst 1, 1)] (by decide +kernel) (pc' := 24) (ls' := [some (.ref am), some (.int (x)), some (.int (y)), some (.int (z)), some (.int (v9)), none]) (st' := [.int (nI (1)), .ref am]) rfl rfl (Nat.le_of_ble_eq_true rfl) ?_
  refine VR.goto h (off := 4) (tgt := 28) (by decide +kernel) (by decide) ?_
  refine VR.blk h [(.iconst 1, 1)] (by decide +kernel) (pc' := 29) (ls' := [some (.ref am), some (.int (x)), some (.int (y)), some (.int (z)), some (.int (v9)), none]) (st' := [.int (nI (1)), .int (nI (1)), .ref am]) rfl rfl (Nat.le_of_ble_eq_true rfl) ?_
  refine VR.call h (np := 2) (st := []) (r_throwsT hls A1 1) wc_X11_throwsIf wn_RX11 (Or.inl wm_RX11_247) wi_X11_throwsIf we_X11_throwsIf (by decide +kernel) rfl (by decide) (by decide) (by simp [Value.category]) (by decide +kernel) (by simp [oI_s, bI_f, bI_t]) ?_
  refine VR.if_ne h (off := 25) (by decide +kernel) (tgt := 57) (by decide) (fun _ => ?_) (fun q => absurd q (by decide))
  refine VR.blk h [(.iconst 0, 1)] (by decide +kernel) (pc' := 58) (ls' := [some (.ref am), some (.int (x)), some (.int (y)), some (.int (z)), some (.int (v9)), none]) (st' := [.int (nI (0))]) rfl rfl (Nat.le_of_ble_eq_true rfl) ?_
  exact VR.iret h hA hQ hr rfl rfl rfl (by decide +kernel)

set_option maxRecDepth 100000 in
set_option maxHeartbeats 4000000 in
theorem r_ask_k {l : Launch} {D : va_G} {tc : Nat → ClassId} {am : Nat} {ad : Nat → Nat} (hls : l.stackTraces = false) (A : TS) (A1 : TS) (c9 K : Nat) (y z v9 : Int32) (hA1 : A1 = sf A 0 0) (hc : c9 < 4) (hB : NB K A1) (hK : K < 1999980000) (hz : noIx z 16 = true) : RM l D tc am ad yX11_ask cX11_ask 6 (some .int) 3 [.ref am, .int (nI (c9)), .int (y), .int (z), .int (v9)] A (some (.int (nI 0))) (sf A1 0 1) := by
  refine RM.of hls (by decide +kernel) (by simp [Value.category]) (Nat.le_of_ble_eq_true rfl) (fun A0 p e9 s m args below meth c S0 sz Q h hr hA hQ => ?_)
  refine VR.eqL (ls' := [some (.ref am), some (.int (nI (c9))), some (.int (y)), some (.int (z)), some (.int (v9)), none]) rfl ?_
  refine VR.blk h [(.aload_n 0, 1), (.iconst 0, 1)] (by decide +kernel) (pc' := 2) (ls' := [some (.ref am), some (.int (nI (c9))), some (.int (y)), some (.int (z)), some (.int (v9)), none]) (st' := [.int (nI (0)), .ref am]) rfl rfl (Nat.le_of_ble_eq_true rfl) ?_
  refine VR.putI h (j := 0) rfl rfl rfl (Or.inl wf_RX11_1) (by decide +kernel) ?_
  refine VR.eqA (A' := A1) hA1 ?_
  refine VR.blk h [(.aload_n 0, 1), (.iload_n 1, 1)] (by decide +kernel) (pc' := 7) (ls' := [some (.ref am), some (.int (nI (c9))), some (.int (y)), some (.int (z)), some (.int (v9)), none]) (st' := [.int (nI (c9)), .ref am]) rfl rfl (Nat.le_of_ble_eq_true rfl) ?_
  refine VR.callS h (np := 1) (st := [.ref am]) (r_noClient_ hls A1 (by rw [noIx_nI (by omega) (by decide)])) wc_X11_noClient wn_RX11 (Or.inl wm_RX11_244) wt_X11_noClient (by decide +kernel) rfl (by decide) (by decide) (by simp [Value.category]) (by decide +kernel) rfl ?_
  refine VR.if_ne h (off := 13) (by decide +kernel) (tgt := 23) (by decide) (fun q => absurd (by decide) q) (fun _ => ?_)
  refine VR.blk h [(.iload_n 3, 1)] (by decide +kernel) (pc' := 14) (ls' := [some (.ref am), some (.int (nI (c9))), some (.int (y)), some (.int (z)), some (.int (v9)), none]) (st' := [.int (z), .ref am]) rfl rfl (Nat.le_of_ble_eq_true rfl) ?_
  refine VR.if_lt h (off := 9) (by decide +kernel) (tgt := 23) (by decide) (fun q => ?_) (fun q => ?_)
  · have q14_8 := q
    clear q
    refine VR.blk h [(.iconst 1, 1)] (by decide +kernel) (pc' := 24) (ls' := [some (.ref am), some (.int (nI (c9))), some (.int (y)), some (.int (z)), some (.int (v9)), none]) (st' := [.int (nI (1)), .ref am]) rfl rfl (Nat.le_of_ble_eq_true rfl) ?_
    refine VR.goto h (off := 4) (tgt := 28) (by decide +kernel) (by decide) ?_
    refine VR.blk h [(.iconst 1, 1)] (by decide +kernel) (pc' := 29) (ls' := [some (.ref am), some (.int (nI (c9))), some (.int (y)), some (.int (z)), some (.int (v9)), none]) (st' := [.int (nI (1)), .int (nI (1)), .ref am]) rfl rfl (Nat.le_of_ble_eq_true rfl) ?_
    refine VR.call h (np := 2) (st := []) (r_throwsT hls A1 1) wc_X11_throwsIf wn_RX11 (Or.inl wm_RX11_247) wi_X11_throwsIf we_X11_throwsIf (by decide +kernel) rfl (by decide) (by decide) (by simp [Value.category]) (by decide +kernel) (by simp [oI_s, bI_f, bI_t]) ?_
    refine VR.if_ne h (off := 25) (by decide +kernel) (tgt := 57) (by decide) (fun _ => ?_) (fun q => absurd q (by decide))
    refine VR.blk h [(.iconst 0, 1)] (by decide +kernel) (pc' := 58) (ls' := [some (.ref am), some (.int (nI (c9))), some (.int (y)), some (.int (z)), some (.int (v9)), none]) (st' := [.int (nI (0))]) rfl rfl (Nat.le_of_ble_eq_true rfl) ?_
    exact VR.iret h hA hQ hr rfl rfl rfl (by decide +kernel)
  · have q14_8 := q
    clear q
    refine VR.blk h [(.iload_n 3, 1), (.bipush 16, 2)] (by decide +kernel) (pc' := 20) (ls' := [some (.ref am), some (.int (nI (c9))), some (.int (y)), some (.int (z)), some (.int (v9)), none]) (st' := [.int (nI (16)), .int (z), .ref am]) rfl rfl (Nat.le_of_ble_eq_true rfl) ?_
    refine VR.icmp_lt h (off := 7) (by decide +kernel) (tgt := 27) (by decide) (fun q => ?_) (fun q => ?_)
    · have q20_21 := q
      clear q
      exact absurd hz (by rw [noIx_2 q14_8 q20_21]; decide)
    · have q20_21 := q
      clear q
      refine VR.blk h [(.iconst 1, 1)] (by decide +kernel) (pc' := 24) (ls' := [some (.ref am), some (.int (nI (c9))), some (.int (y)), some (.int (z)), some (.int (v9)), none]) (st' := [.int (nI (1)), .ref am]) rfl rfl (Nat.le_of_ble_eq_true rfl) ?_
      refine VR.goto h (off := 4) (tgt := 28) (by decide +kernel) (by decide) ?_
      refine VR.blk h [(.iconst 1, 1)] (by decide +kernel) (pc' := 29) (ls' := [some (.ref am), some (.int (nI (c9))), some (.int (y)), some (.int (z)), some (.int (v9)), none]) (st' := [.int (nI (1)), .int (nI (1)), .ref am]) rfl rfl (Nat.le_of_ble_eq_true rfl) ?_
      refine VR.call h (np := 2) (st := []) (r_throwsT hls A1 1) wc_X11_throwsIf wn_RX11 (Or.inl wm_RX11_247) wi_X11_throwsIf we_X11_throwsIf (by decide +kernel) rfl (by decide) (by decide) (by simp [Value.category]) (by decide +kernel) (by simp [oI_s, bI_f, bI_t]) ?_
      refine VR.if_ne h (off := 25) (by decide +kernel) (tgt := 57) (by decide) (fun _ => ?_) (fun q => absurd q (by decide))
      refine VR.blk h [(.iconst 0, 1)] (by decide +kernel) (pc' := 58) (ls' := [some (.ref am), some (.int (nI (c9))), some (.int (y)), some (.int (z)), some (.int (v9)), none]) (st' := [.int (nI (0))]) rfl rfl (Nat.le_of_ble_eq_true rfl) ?_
      exact VR.iret h hA hQ hr rfl rfl rfl (by decide +kernel)

set_option maxRecDepth 100000 in
set_option maxHeartbeats 4000000 in
theorem r_ask_w {l : Launch} {D : va_G} {tc : Nat → ClassId} {am : Nat} {ad : Nat → Nat} (hls : l.stackTraces = false) (A : TS) (A1 : TS) (c9 ky K : Nat) (y v9 : Int32) (hA1 : A1 = sf A 0 0) (hc : c9 < 4) (hky : ky < 16) (hB : NB K A1) (hK : K < 1999980000) (hy : noIx y 3 = true) : RM l D tc am ad yX11_ask cX11_ask 6 (some .int) 3 [.ref am, .int (nI (c9)), .int (y), .int (nI (ky)), .int (v9)] A (some (.int (nI 0))) (sf A1 0 2) := by
  refine RM.of hls (by decide +kernel) (by simp [Value.category]) (Nat.le_of_ble_eq_true rfl) (fun A0 p e9 s m args below meth c S0 sz Q h hr hA hQ => ?_)
  refine VR.eqL (ls' := [some (.ref am), some (.int (nI (c9))), some (.int (y)), some (.int (nI (ky))), some (.int (v9)), none]) rfl ?_
  refine VR.blk h [(.aload_n 0, 1), (.iconst 0, 1)] (by decide +kernel) (pc' := 2) (ls' := [some (.ref am), some (.int (nI (c9))), some (.int (y)), some (.int (nI (ky))), some (.int (v9)), none]) (st' := [.int (nI (0)), .ref am]) rfl rfl (Nat.le_of_ble_eq_true rfl) ?_
  refine VR.putI h (j := 0) rfl rfl rfl (Or.inl wf_RX11_1) (by decide +kernel) ?_
  refine VR.eqA (A' := A1) hA1 ?_
  refine VR.blk h [(.aload_n 0, 1), (.iload_n 1, 1)] (by decide +kernel) (pc' := 7) (ls' := [some (.ref am), some (.int (nI (c9))), some (.int (y)), some (.int (nI (ky))), some (.int (v9)), none]) (st' := [.int (nI (c9)), .ref am]) rfl rfl (Nat.le_of_ble_eq_true rfl) ?_
  refine VR.callS h (np := 1) (st := [.ref am]) (r_noClient_ hls A1 (by rw [noIx_nI (by omega) (by decide)])) wc_X11_noClient wn_RX11 (Or.inl wm_RX11_244) wt_X11_noClient (by decide +kernel) rfl (by decide) (by decide) (by simp [Value.category]) (by decide +kernel) rfl ?_
  refine VR.if_ne h (off := 13) (by decide +kernel) (tgt := 23) (by decide) (fun q => absurd (by decide) q) (fun _ => ?_)
  refine VR.blk h [(.iload_n 3, 1)] (by decide +kernel) (pc' := 14) (ls' := [some (.ref am), some (.int (nI (c9))), some (.int (y)), some (.int (nI (ky))), some (.int (v9)), none]) (st' := [.int (nI (ky)), .ref am]) rfl rfl (Nat.le_of_ble_eq_true rfl) ?_
  refine VR.if_lt h (off := 9) (by decide +kernel) (tgt := 23) (by decide) (fun q => ?_) (fun q => ?_)
  · have q14_8 := ((nI_z_lt (by omega)).mp q)
    clear q
    exfalso; omega
  · have q14_8 : ¬ _ := (fun z => q ((nI_z_lt (by omega)).mpr z))
    clear q
    refine VR.blk h [(.iload_n 3, 1), (.bipush 16, 2)] (by decide +kernel) (pc' := 20) (ls' := [some (.ref am), some (.int (nI (c9))), some (.int (y)), some (.int (nI (ky))), some (.int (v9)), none]) (st' := [.int (nI (16)), .int (nI (ky)), .ref am]) rfl rfl (Nat.le_of_ble_eq_true rfl) ?_
    refine VR.icmp_lt h (off := 7) (by decide +kernel) (tgt := 27) (by decide) (fun q => ?_) (fun q => ?_)
    · have q20_15 := ((nI_ltI (by omega) (by omega)).mp q)
      clear q
      refine VR.blk h [(.iconst 0, 1), (.iconst 1, 1)] (by decide +kernel) (pc' := 29) (ls' := [some (.ref am), some (.int (nI (c9))), some (.int (y)), some (.int (nI (ky))), some (.int (v9)), none]) (st' := [.int (nI (1)), .int (nI (0)), .ref am]) rfl rfl (Nat.le_of_ble_eq_true rfl) ?_
      refine VR.call h (np := 2) (st := []) (r_throwsN hls A1 1) wc_X11_throwsIf wn_RX11 (Or.inl wm_RX11_247) wi_X11_throwsIf we_X11_throwsIf (by decide +kernel) rfl (by decide) (by decide) (by simp [Value.category]) (by decide +kernel) (by simp [oI_s, bI_f, bI_t]) ?_
      refine VR.if_ne h (off := 25) (by decide +kernel) (tgt := 57) (by decide) (fun q => absurd (by decide) q) (fun _ => ?_)
      refine VR.blk h [(.aload_n 0, 1), (.iload_n 2, 1)] (by decide +kernel) (pc' := 37) (ls' := [some (.ref am), some (.int (nI (c9))), some (.int (y)), some (.int (nI (ky))), some (.int (v9)), none]) (st' := [.int (y), .ref am]) rfl rfl (Nat.le_of_ble_eq_true rfl) ?_
      refine VR.if_lt h (off := 8) (by decide +kernel) (tgt := 45) (by decide) (fun q => ?_) (fun q => ?_)
      · have q37_22 := q
        clear q
        refine VR.blk h [(.iconst 1, 1)] (by decide +kernel) (pc' := 46) (ls' := [some (.ref am), some (.int (nI (c9))), some (.int (y)), some (.int (nI (ky))), some (.int (v9)), none]) (st' := [.int (nI (1)), .ref am]) rfl rfl (Nat.le_of_ble_eq_true rfl) ?_
        refine VR.goto h (off := 4) (tgt := 50) (by decide +kernel) (by decide) ?_
        refine VR.blk h [(.iconst 2, 1)] (by decide +kernel) (pc' := 51) (ls' := [some (.ref am), some (.int (nI (c9))), some (.int (y)), some (.int (nI (ky))), some (.int (v9)), none]) (st' := [.int (nI (2)), .int (nI (1)), .ref am]) rfl rfl (Nat.le_of_ble_eq_true rfl) ?_
        refine VR.call h (np := 2) (st := []) (r_throwsT hls A1 2) wc_X11_throwsIf wn_RX11 (Or.inl wm_RX11_247) wi_X11_throwsIf we_X11_throwsIf (by decide +kernel) rfl (by decide) (by decide) (by simp [Value.category]) (by decide +kernel) (by simp [oI_s, bI_f, bI_t]) ?_
        refine VR.if_eq h (off := 5) (by decide +kernel) (tgt := 59) (by decide) (fun q => absurd q (by decide)) (fun _ => ?_)
        refine VR.blk h [(.iconst 0, 1)] (by decide +kernel) (pc' := 58) (ls' := [some (.ref am), some (.int (nI (c9))), some (.int (y)), some (.int (nI (ky))), some (.int (v9)), none]) (st' := [.int (nI (0))]) rfl rfl (Nat.le_of_ble_eq_true rfl) ?_
        exact VR.iret h hA hQ hr rfl rfl rfl (by decide +kernel)
      · have q37_22 := q
        clear q
        refine VR.blk h [(.iload_n 2, 1), (.iconst 2, 1)] (by decide +kernel) (pc' := 42) (ls' := [some (.ref am), some (.int (nI (c9))), some (.int (y)), some (.int (nI (ky))), some (.int (v9)), none]) (st' := [.int (nI (2)), .int (y), .ref am]) rfl rfl (Nat.le_of_ble_eq_true rfl) ?_
        refine VR.icmp_le h (off := 7) (by decide +kernel) (tgt := 49) (by decide) (fun q => ?_) (fun q => ?_)
        · have q42_35 := q
          clear q
          exact absurd hy (by rw [noIx_2 q37_22 ((nI_le2 _).mp q42_35)]; decide)
        · have q42_35 := q
          clear q
          refine VR.blk h [(.iconst 1, 1)] (by decide +kernel) (pc' := 46) (ls' := [some (.ref am), some (.int (nI (c9))), some (.int (y)), some (.int (nI (ky))), some (.int (v9)), none]) (st' := [.int (nI (1)), .ref am]) rfl rfl (Nat.le_of_ble_eq_true rfl) ?_
          refine VR.goto h (off := 4) (tgt := 50) (by decide +kernel) (by decide) ?_
          refine VR.blk h [(.iconst 2, 1)] (by decide +kernel) (pc' := 51) (ls' := [some (.ref am), some (.int (nI (c9))), some (.int (y)), some (.int (nI (ky))), some (.int (v9)), none]) (st' := [.int (nI (2)), .int (nI (1)), .ref am]) rfl rfl (Nat.le_of_ble_eq_true rfl) ?_
          refine VR.call h (np := 2) (st := []) (r_throwsT hls A1 2) wc_X11_throwsIf wn_RX11 (Or.inl wm_RX11_247) wi_X11_throwsIf we_X11_throwsIf (by decide +kernel) rfl (by decide) (by decide) (by simp [Value.category]) (by decide +kernel) (by simp [oI_s, bI_f, bI_t]) ?_
          refine VR.if_eq h (off := 5) (by decide +kernel) (tgt := 59) (by decide) (fun q => absurd q (by decide)) (fun _ => ?_)
          refine VR.blk h [(.iconst 0, 1)] (by decide +kernel) (pc' := 58) (ls' := [some (.ref am), some (.int (nI (c9))), some (.int (y)), some (.int (nI (ky))), some (.int (v9)), none]) (st' := [.int (nI (0))]) rfl rfl (Nat.le_of_ble_eq_true rfl) ?_
          exact VR.iret h hA hQ hr rfl rfl rfl (by decide +kernel)
    · have q20_15 : ¬ _ := (fun z => q ((nI_ltI (by omega) (by omega)).mpr z))
      clear q
      exfalso; omega

set_option maxRecDepth 100000 in
set_option maxHeartbeats 4000000 in
theorem r_ask_n {l : Launch} {D : va_G} {tc : Nat → ClassId} {am : Nat} {ad : Nat → Nat} (hls : l.stackTraces = false) (A : TS) (A1 : TS) (c9 wh ky K : Nat) (v9 : Int32) (hA1 : A1 = sf A 0 0) (hc : c9 < 4) (hlt : tn A1 16 c9 ≤ 600) (hB : NB K A1) (hK : K < 1999980000) (hky : ky < 16) (hwh : wh < 3) (ho : opnF A1 c9 = true) : RM l D tc am ad yX11_ask cX11_ask 6 (some .int) 3 [.ref am, .int (nI (c9)), .int (nI (wh)), .int (nI (ky)), .int (v9)] A (some (.int (oI 0))) (A1) := by
  refine RM.of hls (by decide +kernel) (by simp [Value.category]) (Nat.le_of_ble_eq_true rfl) (fun A0 p e9 s m args below meth c S0 sz Q h hr hA hQ => ?_)
  refine VR.eqL (ls' := [some (.ref am), some (.int (nI (c9))), some (.int (nI (wh))), some (.int (nI (ky))), some (.int (v9)), none]) rfl ?_
  refine VR.blk h [(.aload_n 0, 1), (.iconst 0, 1)] (by decide +kernel) (pc' := 2) (ls' := [some (.ref am), some (.int (nI (c9))), some (.int (nI (wh))), some (.int (nI (ky))), some (.int (v9)), none]) (st' := [.int (nI (0)), .ref am]) rfl rfl (Nat.le_of_ble_eq_true rfl) ?_
  refine VR.putI h (j := 0) rfl rfl rfl (Or.inl wf_RX11_1) (by decide +kernel) ?_
  refine VR.eqA (A' := A1) hA1 ?_
  refine VR.blk h [(.aload_n 0, 1), (.iload_n 1, 1)] (by decide +kernel) (pc' := 7) (ls' := [some (.ref am), some (.int (nI (c9))), some (.int (nI (wh))), some (.int (nI (ky))), some (.int (v9)), none]) (st' := [.int (nI (c9)), .ref am]) rfl rfl (Nat.le_of_ble_eq_true rfl) ?_
  refine VR.callS h (np := 1) (st := [.ref am]) (r_noClient_ hls A1 (by rw [noIx_nI (by omega) (by decide)])) wc_X11_noClient wn_RX11 (Or.inl wm_RX11_244) wt_X11_noClient (by decide +kernel) rfl (by decide) (by decide) (by simp [Value.category]) (by decide +kernel) rfl ?_
  refine VR.if_ne h (off := 13) (by decide +kernel) (tgt := 23) (by decide) (fun q => absurd (by decide) q) (fun _ => ?_)
  refine VR.blk h [(.iload_n 3, 1)] (by decide +kernel) (pc' := 14) (ls' := [some (.ref am), some (.int (nI (c9))), some (.int (nI (wh))), some (.int (nI (ky))), some (.int (v9)), none]) (st' := [.int (nI (ky)), .ref am]) rfl rfl (Nat.le_of_ble_eq_true rfl) ?_
  refine VR.if_lt h (off := 9) (by decide +kernel) (tgt := 23) (by decide) (fun q => ?_) (fun q => ?_)
  · have q14_8 := ((nI_z_lt (by omega)).mp q)
    clear q
    exfalso; omega
  · have q14_8 : ¬ _ := (fun z => q ((nI_z_lt (by omega)).mpr z))
    clear q
    refine VR.blk h [(.iload_n 3, 1), (.bipush 16, 2)] (by decide +kernel) (pc' := 20) (ls' := [some (.ref am), some (.int (nI (c9))), some (.int (nI (wh))), some (.int (nI (ky))), some (.int (v9)), none]) (st' := [.int (nI (16)), .int (nI (ky)), .ref am]) rfl rfl (Nat.le_of_ble_eq_true rfl) ?_
    refine VR.icmp_lt h (off := 7) (by decide +kernel) (tgt := 27) (by decide) (fun q => ?_) (fun q => ?_)
    · have q20_15 := ((nI_ltI (by omega) (by omega)).mp q)
      clear q
      refine VR.blk h [(.iconst 0, 1), (.iconst 1, 1)] (by decide +kernel) (pc' := 29) (ls' := [some (.ref am), some (.int (nI (c9))), some (.int (nI (wh))), some (.int (nI (ky))), some (.int (v9)), none]) (st' := [.int (nI (1)), .int (nI (0)), .ref am]) rfl rfl (Nat.le_of_ble_eq_true rfl) ?_
      refine VR.call h (np := 2) (st := []) (r_throwsN hls A1 1) wc_X11_throwsIf wn_RX11 (Or.inl wm_RX11_247) wi_X11_throwsIf we_X11_throwsIf (by decide +kernel) rfl (by decide) (by decide) (by simp [Value.category]) (by decide +kernel) (by simp [oI_s, bI_f, bI_t]) ?_
      refine VR.if_ne h (off := 25) (by decide +kernel) (tgt := 57) (by decide) (fun q => absurd (by decide) q) (fun _ => ?_)
      refine VR.blk h [(.aload_n 0, 1), (.iload_n 2, 1)] (by decide +kernel) (pc' := 37) (ls' := [some (.ref am), some (.int (nI (c9))), some (.int (nI (wh))), some (.int (nI (ky))), some (.int (v9)), none]) (st' := [.int (nI (wh)), .ref am]) rfl rfl (Nat.le_of_ble_eq_true rfl) ?_
      refine VR.if_lt h (off := 8) (by decide +kernel) (tgt := 45) (by decide) (fun q => ?_) (fun q => ?_)
      · have q37_22 := ((nI_z_lt (by omega)).mp q)
        clear q
        exfalso; omega
      · have q37_22 : ¬ _ := (fun z => q ((nI_z_lt (by omega)).mpr z))
        clear q
        refine VR.blk h [(.iload_n 2, 1), (.iconst 2, 1)] (by decide +kernel) (pc' := 42) (ls' := [some (.ref am), some (.int (nI (c9))), some (.int (nI (wh))), some (.int (nI (ky))), some (.int (v9)), none]) (st' := [.int (nI (2)), .int (nI (wh)), .ref am]) rfl rfl (Nat.le_of_ble_eq_true rfl) ?_
        refine VR.icmp_le h (off := 7) (by decide +kernel) (tgt := 49) (by decide) (fun q => ?_) (fun q => ?_)
        · have q42_29 := ((nI_leI (by omega) (by omega)).mp q)
          clear q
          refine VR.blk h [(.iconst 0, 1), (.iconst 2, 1)] (by decide +kernel) (pc' := 51) (ls' := [some (.ref am), some (.int (nI (c9))), some (.int (nI (wh))), some (.int (nI (ky))), some (.int (v9)), none]) (st' := [.int (nI (2)), .int (nI (0)), .ref am]) rfl rfl (Nat.le_of_ble_eq_true rfl) ?_
          refine VR.call h (np := 2) (st := []) (r_throwsN hls A1 2) wc_X11_throwsIf wn_RX11 (Or.inl wm_RX11_247) wi_X11_throwsIf we_X11_throwsIf (by decide +kernel) rfl (by decide) (by decide) (by simp [Value.category]) (by decide +kernel) (by simp [oI_s, bI_f, bI_t]) ?_
          refine VR.if_eq h (off := 5) (by decide +kernel) (tgt := 59) (by decide) (fun _ => ?_) (fun q => absurd (by decide) q)
          refine VR.blk h [(.aload_n 0, 1), (.iload_n 1, 1)] (by decide +kernel) (pc' := 61) (ls' := [some (.ref am), some (.int (nI (c9))), some (.int (nI (wh))), some (.int (nI (ky))), some (.int (v9)), none]) (st' := [.int (nI (c9)), .ref am]) rfl rfl (Nat.le_of_ble_eq_true rfl) ?_
          refine VR.call h (np := 1) (st := []) (r_isOpen_ hls A1 (K := K) (b := true) ho hc hlt hB (by omega)) wc_X11_isOpen wn_RX11 (Or.inl wm_RX11_238) wi_X11_isOpen we_X11_isOpen (by decide +kernel) rfl (by decide) (by decide) (by simp [Value.category]) (by decide +kernel) rfl ?_
          refine VR.if_ne h (off := 13) (by decide +kernel) (tgt := 77) (by decide) (fun _ => ?_) (fun q => absurd q (by decide))
          refine VR.m1 h (by decide +kernel) (Nat.le_of_ble_eq_true rfl) ?_
          exact VR.iret h hA hQ hr rfl rfl rfl (by decide +kernel)
        · have q42_29 : ¬ _ := (fun z => q ((nI_leI (by omega) (by omega)).mpr z))
          clear q
          exfalso; omega
    · have q20_15 : ¬ _ := (fun z => q ((nI_ltI (by omega) (by omega)).mpr z))
      clear q
      exfalso; omega

set_option maxRecDepth 100000 in
set_option maxHeartbeats 4000000 in
theorem r_ask_f {l : Launch} {D : va_G} {tc : Nat → ClassId} {am : Nat} {ad : Nat → Nat} (hls : l.stackTraces = false) (A : TS) (A1 : TS) (c9 wh ky K : Nat) (v9 : Int32) (hA1 : A1 = sf A 0 0) (hc : c9 < 4) (hlt : tn A1 16 c9 ≤ 600) (hB : NB K A1) (hK : K < 1999980000) (hky : ky < 16) (hwh : wh < 3) (ho : opnF A1 c9 = false) (hn : tf A1 13 = 600) : RM l D tc am ad yX11_ask cX11_ask 6 (some .int) 3 [.ref am, .int (nI (c9)), .int (nI (wh)), .int (nI (ky)), .int (v9)] A (some (.int (oI 0))) (A1) := by
  refine RM.of hls (by decide +kernel) (by simp [Value.category]) (Nat.le_of_ble_eq_true rfl) (fun A0 p e9 s m args below meth c S0 sz Q h hr hA hQ => ?_)
  have nb13 := hB.1 13
  refine VR.eqL (ls' := [some (.ref am), some (.int (nI (c9))), some (.int (nI (wh))), some (.int (nI (ky))), some (.int (v9)), none]) rfl ?_
  refine VR.blk h [(.aload_n 0, 1), (.iconst 0, 1)] (by decide +kernel) (pc' := 2) (ls' := [some (.ref am), some (.int (nI (c9))), some (.int (nI (wh))), some (.int (nI (ky))), some (.int (v9)), none]) (st' := [.int (nI (0)), .ref am]) rfl rfl (Nat.le_of_ble_eq_true rfl) ?_
  refine VR.putI h (j := 0) rfl rfl rfl (Or.inl wf_RX11_1) (by decide +kernel) ?_
  refine VR.eqA (A' := A1) hA1 ?_
  refine VR.blk h [(.aload_n 0, 1), (.iload_n 1, 1)] (by decide +kernel) (pc' := 7) (ls' := [some (.ref am), some (.int (nI (c9))), some (.int (nI (wh))), some (.int (nI (ky))), some (.int (v9)), none]) (st' := [.int (nI (c9)), .ref am]) rfl rfl (Nat.le_of_ble_eq_true rfl) ?_
  refine VR.callS h (np := 1) (st := [.ref am]) (r_noClient_ hls A1 (by rw [noIx_nI (by omega) (by decide)])) wc_X11_noClient wn_RX11 (Or.inl wm_RX11_244) wt_X11_noClient (by decide +kernel) rfl (by decide) (by decide) (by simp [Value.category]) (by decide +kernel) rfl ?_
  refine VR.if_ne h (off := 13) (by decide +kernel) (tgt := 23) (by decide) (fun q => absurd (by decide) q) (fun _ => ?_)
  refine VR.blk h [(.iload_n 3, 1)] (by decide +kernel) (pc' := 14) (ls' := [some (.ref am), some (.int (nI (c9))), some (.int (nI (wh))), some (.int (nI (ky))), some (.int (v9)), none]) (st' := [.int (nI (ky)), .ref am]) rfl rfl (Nat.le_of_ble_eq_true rfl) ?_
  refine VR.if_lt h (off := 9) (by decide +kernel) (tgt := 23) (by decide) (fun q => ?_) (fun q => ?_)
  · have q14_9 := ((nI_z_lt (by omega)).mp q)
    clear q
    exfalso; omega
  · have q14_9 : ¬ _ := (fun z => q ((nI_z_lt (by omega)).mpr z))
    clear q
    refine VR.blk h [(.iload_n 3, 1), (.bipush 16, 2)] (by decide +kernel) (pc' := 20) (ls' := [some (.ref am), some (.int (nI (c9))), some (.int (nI (wh))), some (.int (nI (ky))), some (.int (v9)), none]) (st' := [.int (nI (16)), .int (nI (ky)), .ref am]) rfl rfl (Nat.le_of_ble_eq_true rfl) ?_
    refine VR.icmp_lt h (off := 7) (by decide +kernel) (tgt := 27) (by decide) (fun q => ?_) (fun q => ?_)
    · have q20_16 := ((nI_ltI (by omega) (by omega)).mp q)
      clear q
      refine VR.blk h [(.iconst 0, 1), (.iconst 1, 1)] (by decide +kernel) (pc' := 29) (ls' := [some (.ref am), some (.int (nI (c9))), some (.int (nI (wh))), some (.int (nI (ky))), some (.int (v9)), none]) (st' := [.int (nI (1)), .int (nI (0)), .ref am]) rfl rfl (Nat.le_of_ble_eq_true rfl) ?_
      refine VR.call h (np := 2) (st := []) (r_throwsN hls A1 1) wc_X11_throwsIf wn_RX11 (Or.inl wm_RX11_247) wi_X11_throwsIf we_X11_throwsIf (by decide +kernel) rfl (by decide) (by decide) (by simp [Value.category]) (by decide +kernel) (by simp [oI_s, bI_f, bI_t]) ?_
      refine VR.if_ne h (off := 25) (by decide +kernel) (tgt := 57) (by decide) (fun q => absurd (by decide) q) (fun _ => ?_)
      refine VR.blk h [(.aload_n 0, 1), (.iload_n 2, 1)] (by decide +kernel) (pc' := 37) (ls' := [some (.ref am), some (.int (nI (c9))), some (.int (nI (wh))), some (.int (nI (ky))), some (.int (v9)), none]) (st' := [.int (nI (wh)), .ref am]) rfl rfl (Nat.le_of_ble_eq_true rfl) ?_
      refine VR.if_lt h (off := 8) (by decide +kernel) (tgt := 45) (by decide) (fun q => ?_) (fun q => ?_)
      · have q37_23 := ((nI_z_lt (by omega)).mp q)
        clear q
        exfalso; omega
      · have q37_23 : ¬ _ := (fun z => q ((nI_z_lt (by omega)).mpr z))
        clear q
        refine VR.blk h [(.iload_n 2, 1), (.iconst 2, 1)] (by decide +kernel) (pc' := 42) (ls' := [some (.ref am), some (.int (nI (c9))), some (.int (nI (wh))), some (.int (nI (ky))), some (.int (v9)), none]) (st' := [.int (nI (2)), .int (nI (wh)), .ref am]) rfl rfl (Nat.le_of_ble_eq_true rfl) ?_
        refine VR.icmp_le h (off := 7) (by decide +kernel) (tgt := 49) (by decide) (fun q => ?_) (fun q => ?_)
        · have q42_30 := ((nI_leI (by omega) (by omega)).mp q)
          clear q
          refine VR.blk h [(.iconst 0, 1), (.iconst 2, 1)] (by decide +kernel) (pc' := 51) (ls' := [some (.ref am), some (.int (nI (c9))), some (.int (nI (wh))), some (.int (nI (ky))), some (.int (v9)), none]) (st' := [.int (nI (2)), .int (nI (0)), .ref am]) rfl rfl (Nat.le_of_ble_eq_true rfl) ?_
          refine VR.call h (np := 2) (st := []) (r_throwsN hls A1 2) wc_X11_throwsIf wn_RX11 (Or.inl wm_RX11_247) wi_X11_throwsIf we_X11_throwsIf (by decide +kernel) rfl (by decide) (by decide) (by simp [Value.category]) (by decide +kernel) (by simp [oI_s, bI_f, bI_t]) ?_
          refine VR.if_eq h (off := 5) (by decide +kernel) (tgt := 59) (by decide) (fun _ => ?_) (fun q => absurd (by decide) q)
          refine VR.blk h [(.aload_n 0, 1), (.iload_n 1, 1)] (by decide +kernel) (pc' := 61) (ls' := [some (.ref am), some (.int (nI (c9))), some (.int (nI (wh))), some (.int (nI (ky))), some (.int (v9)), none]) (st' := [.int (nI (c9)), .ref am]) rfl rfl (Nat.le_of_ble_eq_true rfl) ?_
          refine VR.call h (np := 1) (st := []) (r_isOpen_ hls A1 (K := K) (b := false) ho hc hlt hB (by omega)) wc_X11_isOpen wn_RX11 (Or.inl wm_RX11_238) wi_X11_isOpen we_X11_isOpen (by decide +kernel) rfl (by decide) (by decide) (by simp [Value.category]) (by decide +kernel) rfl ?_
          refine VR.if_ne h (off := 13) (by decide +kernel) (tgt := 77) (by decide) (fun q => absurd (by decide) q) (fun _ => ?_)
          refine VR.blk h [(.aload_n 0, 1)] (by decide +kernel) (pc' := 68) (ls' := [some (.ref am), some (.int (nI (c9))), some (.int (nI (wh))), some (.int (nI (ky))), some (.int (v9)), none]) (st' := [.ref am]) rfl rfl (Nat.le_of_ble_eq_true rfl) ?_
          refine VR.getI h (j := 13) rfl (Or.inl wf_RX11_251) (by decide +kernel) (v := tf A1 13) rfl ?_
          refine VR.blk h [(.sipush 600, 3)] (by decide +kernel) (pc' := 74) (ls' := [some (.ref am), some (.int (nI (c9))), some (.int (nI (wh))), some (.int (nI (ky))), some (.int (v9)), none]) (st' := [.int (nI (600)), .int (nI (tf A1 13))]) rfl rfl (Nat.le_of_ble_eq_true rfl) ?_
          refine VR.icmp_ne h (off := 5) (by decide +kernel) (tgt := 79) (by decide) (fun q => ?_) (fun q => ?_)
          · have q74_42 : ¬ _ := (fun z => q ((nI_eq (by omega) (by omega)).mpr z))
            clear q
            exfalso; omega
          · have q74_42 := ((nI_eq (by omega) (by omega)).mp q)
            clear q
            refine VR.m1 h (by decide +kernel) (Nat.le_of_ble_eq_true rfl) ?_
            exact VR.iret h hA hQ hr rfl rfl rfl (by decide +kernel)
        · have q42_30 : ¬ _ := (fun z => q ((nI_leI (by omega) (by omega)).mpr z))
          clear q
          exfalso; omega
    · have q20_16 : ¬ _ := (fun z => q ((nI_ltI (by omega) (by omega)).mpr z))
      clear q
      exfalso; omega

set_option maxRecDepth 100000 in
set_option maxHeartbeats 4000000 in
theorem r_ask {l : Launch} {D : va_G} {tc : Nat → ClassId} {am : Nat} {ad : Nat → Nat} (hls : l.stackTraces = false) (A : TS) (A1 : TS) (c9 wh ky K : Nat) (v9 : Int32) (hA1 : A1 = sf A 0 0) (hc : c9 < 4) (hlt : tn A1 16 c9 ≤ 600) (hB : NB K A1) (hK : K < 1999980000) (hky : ky < 16) (hwh : wh < 3) (ho : opnF A1 c9 = false) (hn : tf A1 13 < 600) (hf : tf A1 1 ≤ 3) (hl : tf A1 53 ≤ 250) (hK9 : 7300 ≤ K) : RM l D tc am ad yX11_ask cX11_ask 6 (some .int) 3 [.ref am, .int (nI (c9)), .int (nI (wh)), .int (nI (ky)), .int (v9)] A (some (.int (nI (asnF A1 c9)))) (askF A1 c9 wh ky v9) := by
  refine RM.of hls (by decide +kernel) (by simp [Value.category]) (Nat.le_of_ble_eq_true rfl) (fun A0 p e9 s m args below meth c S0 sz Q h hr hA hQ => ?_)
  have nb13 := hB.1 13
  have nb14 := hB.1 14
  refine VR.eqL (ls' := [some (.ref am), some (.int (nI (c9))), some (.int (nI (wh))), some (.int (nI (ky))), some (.int (v9)), none]) rfl ?_
  refine VR.blk h [(.aload_n 0, 1), (.iconst 0, 1)] (by decide +kernel) (pc' := 2) (ls' := [some (.ref am), some (.int (nI (c9))), some (.int (nI (wh))), some (.int (nI (ky))), some (.int (v9)), none]) (st' := [.int (nI (0)), .ref am]) rfl rfl (Nat.le_of_ble_eq_true rfl) ?_
  refine VR.putI h (j := 0) rfl rfl rfl (Or.inl wf_RX11_1) (by decide +kernel) ?_
  refine VR.eqA (A' := A1) hA1 ?_
  refine VR.blk h [(.aload_n 0, 1), (.iload_n 1, 1)] (by decide +kernel) (pc' := 7) (ls' := [some (.ref am), some (.int (nI (c9))), some (.int (nI (wh))), some (.int (nI (ky))), some (.int (v9)), none]) (st' := [.int (nI (c9)), .ref am]) rfl rfl (Nat.le_of_ble_eq_true rfl) ?_
  refine VR.callS h (np := 1) (st := [.ref am]) (r_noClient_ hls A1 (by rw [noIx_nI (by omega) (by decide)])) wc_X11_noClient wn_RX11 (Or.inl wm_RX11_244) wt_X11_noClient (by decide +kernel) rfl (by decide) (by decide) (by simp [Value.category]) (by decide +kernel) rfl ?_
  refine VR.if_ne h (off := 13) (by decide +kernel) (tgt := 23) (by decide) (fun q => absurd (by decide) q) (fun _ => ?_)
  refine VR.blk h [(.iload_n 3, 1)] (by decide +kernel) (pc' := 14) (ls' := [some (.ref am), some (.int (nI (c9))), some (.int (nI (wh))), some (.int (nI (ky))), some (.int (v9)), none]) (st' := [.int (nI (ky)), .ref am]) rfl rfl (Nat.le_of_ble_eq_true rfl) ?_
  refine VR.if_lt h (off := 9) (by decide +kernel) (tgt := 23) (by decide) (fun q => ?_) (fun q => ?_)
  · have q14_10 := ((nI_z_lt (by omega)).mp q)
    clear q
    exfalso; omega
  · have q14_10 : ¬ _ := (fun z => q ((nI_z_lt (by omega)).mpr z))
    clear q
    refine VR.blk h [(.iload_n 3, 1), (.bipush 16, 2)] (by decide +kernel) (pc' := 20) (ls' := [some (.ref am), some (.int (nI (c9))), some (.int (nI (wh))), some (.int (nI (ky))), some (.int (v9)), none]) (st' := [.int (nI (16)), .int (nI (ky)), .ref am]) rfl rfl (Nat.le_of_ble_eq_true rfl) ?_
    refine VR.icmp_lt h (off := 7) (by decide +kernel) (tgt := 27) (by decide) (fun q => ?_) (fun q => ?_)
    · have q20_17 := ((nI_ltI (by omega) (by omega)).mp q)
      clear q
      refine VR.blk h [(.iconst 0, 1), (.iconst 1, 1)] (by decide +kernel) (pc' := 29) (ls' := [some (.ref am), some (.int (nI (c9))), some (.int (nI (wh))), some (.int (nI (ky))), some (.int (v9)), none]) (st' := [.int (nI (1)), .int (nI (0)), .ref am]) rfl rfl (Nat.le_of_ble_eq_true rfl) ?_
      refine VR.call h (np := 2) (st := []) (r_throwsN hls A1 1) wc_X11_throwsIf wn_RX11 (Or.inl wm_RX11_247) wi_X11_throwsIf we_X11_throwsIf (by decide +kernel) rfl (by decide) (by decide) (by simp [Value.category]) (by decide +kernel) (by simp [oI_s, bI_f, bI_t]) ?_
      refine VR.if_ne h (off := 25) (by decide +kernel) (tgt := 57) (by decide) (fun q => absurd (by decide) q) (fun _ => ?_)
      refine VR.blk h [(.aload_n 0, 1), (.iload_n 2, 1)] (by decide +kernel) (pc' := 37) (ls' := [some (.ref am), some (.int (nI (c9))), some (.int (nI (wh))), some (.int (nI (ky))), some (.int (v9)), none]) (st' := [.int (nI (wh)), .ref am]) rfl rfl (Nat.le_of_ble_eq_true rfl) ?_
      refine VR.if_lt h (off := 8) (by decide +kernel) (tgt := 45) (by decide) (fun q => ?_) (fun q => ?_)
      · have q37_24 := ((nI_z_lt (by omega)).mp q)
        clear q
        exfalso; omega
      · have q37_24 : ¬ _ := (fun z => q ((nI_z_lt (by omega)).mpr z))
        clear q
        refine VR.blk h [(.iload_n 2, 1), (.iconst 2, 1)] (by decide +kernel) (pc' := 42) (ls' := [some (.ref am), some (.int (nI (c9))), some (.int (nI (wh))), some (.int (nI (ky))), some (.int (v9)), none]) (st' := [.int (nI (2)), .int (nI (wh)), .ref am]) rfl rfl (Nat.le_of_ble_eq_true rfl) ?_
        refine VR.icmp_le h (off := 7) (by decide +kernel) (tgt := 49) (by decide) (fun q => ?_) (fun q => ?_)
        · have q42_31 := ((nI_leI (by omega) (by omega)).mp q)
          clear q
          refine VR.blk h [(.iconst 0, 1), (.iconst 2, 1)] (by decide +kernel) (pc' := 51) (ls' := [some (.ref am), some (.int (nI (c9))), some (.int (nI (wh))), some (.int (nI (ky))), some (.int (v9)), none]) (st' := [.int (nI (2)), .int (nI (0)), .ref am]) rfl rfl (Nat.le_of_ble_eq_true rfl) ?_
          refine VR.call h (np := 2) (st := []) (r_throwsN hls A1 2) wc_X11_throwsIf wn_RX11 (Or.inl wm_RX11_247) wi_X11_throwsIf we_X11_throwsIf (by decide +kernel) rfl (by decide) (by decide) (by simp [Value.category]) (by decide +kernel) (by simp [oI_s, bI_f, bI_t]) ?_
          refine VR.if_eq h (off := 5) (by decide +kernel) (tgt := 59) (by decide) (fun _ => ?_) (fun q => absurd (by decide) q)
          refine VR.blk h [(.aload_n 0, 1), (.iload_n 1, 1)] (by decide +kernel) (pc' := 61) (ls' := [some (.ref am), some (.int (nI (c9))), some (.int (nI (wh))), some (.int (nI (ky))), some (.int (v9)), none]) (st' := [.int (nI (c9)), .ref am]) rfl rfl (Nat.le_of_ble_eq_true rfl) ?_
          refine VR.call h (np := 1) (st := []) (r_isOpen_ hls A1 (K := K) (b := false) ho hc hlt hB (by omega)) wc_X11_isOpen wn_RX11 (Or.inl wm_RX11_238) wi_X11_isOpen we_X11_isOpen (by decide +kernel) rfl (by decide) (by decide) (by simp [Value.category]) (by decide +kernel) rfl ?_
          refine VR.if_ne h (off := 13) (by decide +kernel) (tgt := 77) (by decide) (fun q => absurd (by decide) q) (fun _ => ?_)
          refine VR.blk h [(.aload_n 0, 1)] (by decide +kernel) (pc' := 68) (ls' := [some (.ref am), some (.int (nI (c9))), some (.int (nI (wh))), some (.int (nI (ky))), some (.int (v9)), none]) (st' := [.ref am]) rfl rfl (Nat.le_of_ble_eq_true rfl) ?_
          refine VR.getI h (j := 13) rfl (Or.inl wf_RX11_251) (by decide +kernel) (v := tf A1 13) rfl ?_
          refine VR.blk h [(.sipush 600, 3)] (by decide +kernel) (pc' := 74) (ls' := [some (.ref am), some (.int (nI (c9))), some (.int (nI (wh))), some (.int (nI (ky))), some (.int (v9)), none]) (st' := [.int (nI (600)), .int (nI (tf A1 13))]) rfl rfl (Nat.le_of_ble_eq_true rfl) ?_
          refine VR.icmp_ne h (off := 5) (by decide +kernel) (tgt := 79) (by decide) (fun q => ?_) (fun q => ?_)
          · have q74_43 : ¬ _ := (fun z => q ((nI_eq (by omega) (by omega)).mpr z))
            clear q
            refine VR.blk h [(.aload_n 0, 1)] (by decide +kernel) (pc' := 80) (ls' := [some (.ref am), some (.int (nI (c9))), some (.int (nI (wh))), some (.int (nI (ky))), some (.int (v9)), none]) (st' := [.ref am]) rfl rfl (Nat.le_of_ble_eq_true rfl) ?_
            refine VR.getI h (j := 13) rfl (Or.inl wf_RX11_251) (by decide +kernel) (v := tf A1 13) rfl ?_
            refine VR.blk h [(.istore 5, 2), (.aload_n 0, 1), (.dup, 1)] (by decide +kernel) (pc' := 87) (ls' := [some (.ref am), some (.int (nI (c9))), some (.int (nI (wh))), some (.int (nI (ky))), some (.int (v9)), some (.int (nI (tf A1 13)))]) (st' := [.ref am, .ref am]) rfl rfl (Nat.le_of_ble_eq_true rfl) ?_
            refine VR.getI h (j := 13) rfl (Or.inl wf_RX11_251) (by decide +kernel) (v := tf A1 13) rfl ?_
            refine VR.blk h [(.iconst 1, 1)] (by decide +kernel) (pc' := 91) (ls' := [some (.ref am), some (.int (nI (c9))), some (.int (nI (wh))), some (.int (nI (ky))), some (.int (v9)), some (.int (nI (tf A1 13)))]) (st' := [.int (nI (1)), .int (nI (tf A1 13)), .ref am]) rfl rfl (Nat.le_of_ble_eq_true rfl) ?_
            refine VR.addN h (by decide +kernel) (Nat.le_of_ble_eq_true rfl) ?_
            refine VR.putI h (j := 13) rfl rfl rfl (Or.inl wf_RX11_251) (by decide +kernel) ?_
            refine VR.blk h [(.aload_n 0, 1)] (by decide +kernel) (pc' := 96) (ls' := [some (.ref am), some (.int (nI (c9))), some (.int (nI (wh))), some (.int (nI (ky))), some (.int (v9)), some (.int (nI (tf A1 13)))]) (st' := [.ref am]) rfl rfl (Nat.le_of_ble_eq_true rfl) ?_
            refine VR.getA h (j := 5) rfl (Or.inl wf_RX11_13) (by decide +kernel) ?_
            refine VR.blk h [(.iload 5, 2), (.iload_n 1, 1)] (by decide +kernel) (pc' := 102) (ls' := [some (.ref am), some (.int (nI (c9))), some (.int (nI (wh))), some (.int (nI (ky))), some (.int (v9)), some (.int (nI (tf A1 13)))]) (st' := [.int (nI (c9)), .int (nI (tf A1 13)), .ref (ad 5)]) rfl rfl (Nat.le_of_ble_eq_true rfl) ?_
            refine VR.iastN h (j := 5) (i := tf A1 13) rfl rfl (by show _ < 600; omega) (by decide +kernel) ?_
            refine VR.blk h [(.aload_n 0, 1)] (by decide +kernel) (pc' := 104) (ls' := [some (.ref am), some (.int (nI (c9))), some (.int (nI (wh))), some (.int (nI (ky))), some (.int (v9)), some (.int (nI (tf A1 13)))]) (st' := [.ref am]) rfl rfl (Nat.le_of_ble_eq_true rfl) ?_
            refine VR.getA h (j := 6) rfl (Or.inl wf_RX11_17) (by decide +kernel) ?_
            refine VR.blk h [(.iload 5, 2)] (by decide +kernel) (pc' := 109) (ls' := [some (.ref am), some (.int (nI (c9))), some (.int (nI (wh))), some (.int (nI (ky))), some (.int (v9)), some (.int (nI (tf A1 13)))]) (st' := [.int (nI (tf A1 13)), .ref (ad 6)]) rfl rfl (Nat.le_of_ble_eq_true rfl) ?_
            have join135 : ∀ bb135 : Nat, bb135 = (asnF A1 c9) → VR l D tc A0 p e9 (rmd 3 0 0) s m args below meth c 6 Q am ad (sn (sf A1 13 ((tf A1 13) + 1)) 5 (tf A1 13) c9) 135 [some (.ref am), some (.int (nI (c9))), some (.int (nI (wh))), some (.int (nI (ky))), some (.int (v9)), some (.int (nI (tf A1 13)))] [.int (nI (bb135)), .int (nI (tf A1 13)), .ref (ad 6)] := by
              intro bb135 hb135; subst hb135
              refine VR.iastN h (j := 6) (i := tf A1 13) rfl rfl (by show _ < 600; omega) (by decide +kernel) ?_
              refine VR.blk h [(.aload_n 0, 1)] (by decide +kernel) (pc' := 137) (ls' := [some (.ref am), some (.int (nI (c9))), some (.int (nI (wh))), some (.int (nI (ky))), some (.int (v9)), some (.int (nI (tf A1 13)))]) (st' := [.ref am]) rfl rfl (Nat.le_of_ble_eq_true rfl) ?_
              refine VR.getA h (j := 7) rfl (Or.inl wf_RX11_20) (by decide +kernel) ?_
              refine VR.blk h [(.iload 5, 2), (.iload_n 2, 1)] (by decide +kernel) (pc' := 143) (ls' := [some (.ref am), some (.int (nI (c9))), some (.int (nI (wh))), some (.int (nI (ky))), some (.int (v9)), some (.int (nI (tf A1 13)))]) (st' := [.int (nI (wh)), .int (nI (tf A1 13)), .ref (ad 7)]) rfl rfl (Nat.le_of_ble_eq_true rfl) ?_
              refine VR.iastN h (j := 7) (i := tf A1 13) rfl rfl (by show _ < 600; omega) (by decide +kernel) ?_
              refine VR.blk h [(.aload_n 0, 1)] (by decide +kernel) (pc' := 145) (ls' := [some (.ref am), some (.int (nI (c9))), some (.int (nI (wh))), some (.int (nI (ky))), some (.int (v9)), some (.int (nI (tf A1 13)))]) (st' := [.ref am]) rfl rfl (Nat.le_of_ble_eq_true rfl) ?_
              refine VR.getA h (j := 8) rfl (Or.inl wf_RX11_23) (by decide +kernel) ?_
              refine VR.blk h [(.iload 5, 2), (.iload_n 3, 1)] (by decide +kernel) (pc' := 151) (ls' := [some (.ref am), some (.int (nI (c9))), some (.int (nI (wh))), some (.int (nI (ky))), some (.int (v9)), some (.int (nI (tf A1 13)))]) (st' := [.int (nI (ky)), .int (nI (tf A1 13)), .ref (ad 8)]) rfl rfl (Nat.le_of_ble_eq_true rfl) ?_
              refine VR.iastN h (j := 8) (i := tf A1 13) rfl rfl (by show _ < 600; omega) (by decide +kernel) ?_
              refine VR.blk h [(.aload_n 0, 1)] (by decide +kernel) (pc' := 153) (ls' := [some (.ref am), some (.int (nI (c9))), some (.int (nI (wh))), some (.int (nI (ky))), some (.int (v9)), some (.int (nI (tf A1 13)))]) (st' := [.ref am]) rfl rfl (Nat.le_of_ble_eq_true rfl) ?_
              refine VR.getA h (j := 9) rfl (Or.inl wf_RX11_26) (by decide +kernel) ?_
              refine VR.blk h [(.iload 5, 2), (.iload 4, 2)] (by decide +kernel) (pc' := 160) (ls' := [some (.ref am), some (.int (nI (c9))), some (.int (nI (wh))), some (.int (nI (ky))), some (.int (v9)), some (.int (nI (tf A1 13)))]) (st' := [.int (v9), .int (nI (tf A1 13)), .ref (ad 9)]) rfl rfl (Nat.le_of_ble_eq_true rfl) ?_
              refine VR.iastR h (j := 9) (i := tf A1 13) rfl rfl (by show _ < 600; omega) (by decide +kernel) ?_
              refine VR.blk h [(.aload_n 0, 1), (.dup, 1)] (by decide +kernel) (pc' := 163) (ls' := [some (.ref am), some (.int (nI (c9))), some (.int (nI (wh))), some (.int (nI (ky))), some (.int (v9)), some (.int (nI (tf A1 13)))]) (st' := [.ref am, .ref am]) rfl rfl (Nat.le_of_ble_eq_true rfl) ?_
              refine VR.getI h (j := 14) rfl (Or.inl wf_RX11_232) (by decide +kernel) (v := tf A1 14) rfl ?_
              refine VR.blk h [(.iconst 1, 1)] (by decide +kernel) (pc' := 167) (ls' := [some (.ref am), some (.int (nI (c9))), some (.int (nI (wh))), some (.int (nI (ky))), some (.int (v9)), some (.int (nI (tf A1 13)))]) (st' := [.int (nI (1)), .int (nI (tf A1 14)), .ref am]) rfl rfl (Nat.le_of_ble_eq_true rfl) ?_
              refine VR.addN h (by decide +kernel) (Nat.le_of_ble_eq_true rfl) ?_
              refine VR.putI h (j := 14) rfl rfl rfl (Or.inl wf_RX11_232) (by decide +kernel) ?_
              refine VR.blk h [(.aload_n 0, 1)] (by decide +kernel) (pc' := 172) (ls' := [some (.ref am), some (.int (nI (c9))), some (.int (nI (wh))), some (.int (nI (ky))), some (.int (v9)), some (.int (nI (tf A1 13)))]) (st' := [.ref am]) rfl rfl (Nat.le_of_ble_eq_true rfl) ?_
              refine VR.getA h (j := 10) rfl (Or.inl wf_RX11_29) (by decide +kernel) ?_
              refine VR.blk h [(.iload 5, 2), (.aload_n 0, 1)] (by decide +kernel) (pc' := 178) (ls' := [some (.ref am), some (.int (nI (c9))), some (.int (nI (wh))), some (.int (nI (ky))), some (.int (v9)), some (.int (nI (tf A1 13)))]) (st' := [.ref am, .int (nI (tf A1 13)), .ref (ad 10)]) rfl rfl (Nat.le_of_ble_eq_true rfl) ?_
              refine VR.getI h (j := 14) rfl (Or.inl wf_RX11_232) (by decide +kernel) (v := (tf A1 14) + 1) rfl ?_
              refine VR.iastN h (j := 10) (i := tf A1 13) rfl rfl (by show _ < 600; omega) (by decide +kernel) ?_
              refine VR.blk h [(.aload_n 0, 1)] (by decide +kernel) (pc' := 183) (ls' := [some (.ref am), some (.int (nI (c9))), some (.int (nI (wh))), some (.int (nI (ky))), some (.int (v9)), some (.int (nI (tf A1 13)))]) (st' := [.ref am]) rfl rfl (Nat.le_of_ble_eq_true rfl) ?_
              refine VR.getA h (j := 11) rfl (Or.inl wf_RX11_32) (by decide +kernel) ?_
              refine VR.blk h [(.iload 5, 2)] (by decide +kernel) (pc' := 188) (ls' := [some (.ref am), some (.int (nI (c9))), some (.int (nI (wh))), some (.int (nI (ky))), some (.int (v9)), some (.int (nI (tf A1 13)))]) (st' := [.int (nI (tf A1 13)), .ref (ad 11)]) rfl rfl (Nat.le_of_ble_eq_true rfl) ?_
              refine VR.m1 h (by decide +kernel) (Nat.le_of_ble_eq_true rfl) ?_
              refine VR.iastO h (j := 11) (i := tf A1 13) rfl rfl (by show _ < 600; omega) (by decide +kernel) ?_
              refine VR.blk h [(.aload_n 0, 1)] (by decide +kernel) (pc' := 191) (ls' := [some (.ref am), some (.int (nI (c9))), some (.int (nI (wh))), some (.int (nI (ky))), some (.int (v9)), some (.int (nI (tf A1 13)))]) (st' := [.ref am]) rfl rfl (Nat.le_of_ble_eq_true rfl) ?_
              refine VR.getA h (j := 16) rfl (Or.inl wf_RX11_38) (by decide +kernel) ?_
              refine VR.blk h [(.iload_n 1, 1), (.iload 5, 2)] (by decide +kernel) (pc' := 197) (ls' := [some (.ref am), some (.int (nI (c9))), some (.int (nI (wh))), some (.int (nI (ky))), some (.int (v9)), some (.int (nI (tf A1 13)))]) (st' := [.int (nI (tf A1 13)), .int (nI (c9)), .ref (ad 16)]) rfl rfl (Nat.le_of_ble_eq_true rfl) ?_
              refine VR.top (v' := .int (oI ((tf A1 13) + 1))) (by rw [oI_s]) ?_
              refine VR.iastO h (j := 16) (i := c9) rfl rfl (by show _ < 4; omega) (by decide +kernel) ?_
              refine VR.eqA (A' := askA A1 c9 wh ky v9) rfl ?_
              refine VR.blk h [(.aload_n 0, 1), (.iload_n 1, 1)] (by decide +kernel) (pc' := 200) (ls' := [some (.ref am), some (.int (nI (c9))), some (.int (nI (wh))), some (.int (nI (ky))), some (.int (v9)), some (.int (nI (tf A1 13)))]) (st' := [.int (nI (c9)), .ref am]) rfl rfl (Nat.le_of_ble_eq_true rfl) ?_
              refine VR.call h (np := 1) (st := []) (r_begins hls (askA A1 c9 wh ky v9) c9 (K + 1) hc (by rw [ask_16]; omega) (by rw [ask_16]; omega) (by rw [ask_16]; omega) hf hl (by omega) (ask_NB hB (by omega) (by omega) (by omega)) (by omega)) wc_X11_begins wn_RX11 (Or.inl wm_RX11_254) wi_X11_begins we_X11_begins (by decide +kernel) rfl (by decide) (by decide) (by simp [Value.category]) (by decide +kernel) rfl ?_
              refine VR.blk h [(.aload_n 0, 1)] (by decide +kernel) (pc' := 204) (ls' := [some (.ref am), some (.int (nI (c9))), some (.int (nI (wh))), some (.int (nI (ky))), some (.int (v9)), some (.int (nI (tf A1 13)))]) (st' := [.ref am]) rfl rfl (Nat.le_of_ble_eq_true rfl) ?_
              refine VR.getA h (j := 6) rfl (Or.inl wf_RX11_17) (by decide +kernel) ?_
              refine VR.blk h [(.iload 5, 2)] (by decide +kernel) (pc' := 209) (ls' := [some (.ref am), some (.int (nI (c9))), some (.int (nI (wh))), some (.int (nI (ky))), some (.int (v9)), some (.int (nI (tf A1 13)))]) (st' := [.int (nI (tf A1 13)), .ref (ad 6)]) rfl rfl (Nat.le_of_ble_eq_true rfl) ?_
              refine VR.iald h (j := 6) (i := tf A1 13) rfl rfl (by show _ < 600; omega) (by decide +kernel) (v := (nI (asnF A1 c9))) ((mval_1 rfl).trans (congrArg nI (ask_6 A1 c9 wh ky v9))) ?_
              exact VR.iret h hA hQ hr rfl rfl rfl (by decide +kernel)
            refine VR.blk h [(.aload_n 0, 1)] (by decide +kernel) (pc' := 110) (ls' := [some (.ref am), some (.int (nI (c9))), some (.int (nI (wh))), some (.int (nI (ky))), some (.int (v9)), some (.int (nI (tf A1 13)))]) (st' := [.ref am, .int (nI (tf A1 13)), .ref (ad 6)]) rfl rfl (Nat.le_of_ble_eq_true rfl) ?_
            refine VR.getA h (j := 16) rfl (Or.inl wf_RX11_38) (by decide +kernel) ?_
            refine VR.blk h [(.iload_n 1, 1)] (by decide +kernel) (pc' := 114) (ls' := [some (.ref am), some (.int (nI (c9))), some (.int (nI (wh))), some (.int (nI (ky))), some (.int (v9)), some (.int (nI (tf A1 13)))]) (st' := [.int (nI (c9)), .ref (ad 16), .int (nI (tf A1 13)), .ref (ad 6)]) rfl rfl (Nat.le_of_ble_eq_true rfl) ?_
            refine VR.iald h (j := 16) (i := c9) rfl rfl (by show _ < 4; omega) (by decide +kernel) (v := (oI (tn A1 16 c9))) (mval_2 rfl) ?_
            have nb107 := hB.2 16 c9
            refine VR.if_ge h (off := 7) (by decide +kernel) (tgt := 122) (by decide) (fun q => ?_) (fun q => ?_)
            · have q115_108 := ((oI_nn (by omega)).mp q)
              clear q
              refine VR.blk h [(.aload_n 0, 1)] (by decide +kernel) (pc' := 123) (ls' := [some (.ref am), some (.int (nI (c9))), some (.int (nI (wh))), some (.int (nI (ky))), some (.int (v9)), some (.int (nI (tf A1 13)))]) (st' := [.ref am, .int (nI (tf A1 13)), .ref (ad 6)]) rfl rfl (Nat.le_of_ble_eq_true rfl) ?_
              refine VR.getA h (j := 6) rfl (Or.inl wf_RX11_17) (by decide +kernel) ?_
              refine VR.blk h [(.aload_n 0, 1)] (by decide +kernel) (pc' := 127) (ls' := [some (.ref am), some (.int (nI (c9))), some (.int (nI (wh))), some (.int (nI (ky))), some (.int (v9)), some (.int (nI (tf A1 13)))]) (st' := [.ref am, .ref (ad 6), .int (nI (tf A1 13)), .ref (ad 6)]) rfl rfl (Nat.le_of_ble_eq_true rfl) ?_
              refine VR.getA h (j := 16) rfl (Or.inl wf_RX11_38) (by decide +kernel) ?_
              refine VR.blk h [(.iload_n 1, 1)] (by decide +kernel) (pc' := 131) (ls' := [some (.ref am), some (.int (nI (c9))), some (.int (nI (wh))), some (.int (nI (ky))), some (.int (v9)), some (.int (nI (tf A1 13)))]) (st' := [.int (nI (c9)), .ref (ad 16), .ref (ad 6), .int (nI (tf A1 13)), .ref (ad 6)]) rfl rfl (Nat.le_of_ble_eq_true rfl) ?_
              refine VR.iald h (j := 16) (i := c9) rfl rfl (by show _ < 4; omega) (by decide +kernel) (v := (oI (tn A1 16 c9))) (mval_2 rfl) ?_
              have nb117 := hB.2 16 c9
              refine VR.top (v' := .int (nI ((tn A1 16 c9) - 1))) (oI_pos (by omega)) ?_
              refine VR.iald h (j := 6) (i := (tn A1 16 c9) - 1) rfl rfl (by show _ < 600; omega) (by decide +kernel) (v := (nI (tn A1 6 ((tn A1 16 c9) - 1)))) (mval_1 rfl) ?_
              have nb120 := hB.2 6 ((tn A1 16 c9) - 1)
              refine VR.blk h [(.iconst 1, 1)] (by decide +kernel) (pc' := 134) (ls' := [some (.ref am), some (.int (nI (c9))), some (.int (nI (wh))), some (.int (nI (ky))), some (.int (v9)), some (.int (nI (tf A1 13)))]) (st' := [.int (nI (1)), .int (nI (tn A1 6 ((tn A1 16 c9) - 1))), .int (nI (tf A1 13)), .ref (ad 6)]) rfl rfl (Nat.le_of_ble_eq_true rfl) ?_
              refine VR.addN h (by decide +kernel) (Nat.le_of_ble_eq_true rfl) ?_
              exact join135 _ (by first | exact (if_pos q115_108).symm | exact (if_neg q115_108).symm | exact (if_neg (by omega)).symm | exact (if_pos (by omega)).symm | exact (if_neg (by rw [q115_108]; decide)).symm)
            · have q115_108 := (Decidable.of_not_not (fun z => q ((oI_nn (by omega)).mpr z)))
              clear q
              refine VR.blk h [(.iconst 1, 1)] (by decide +kernel) (pc' := 119) (ls' := [some (.ref am), some (.int (nI (c9))), some (.int (nI (wh))), some (.int (nI (ky))), some (.int (v9)), some (.int (nI (tf A1 13)))]) (st' := [.int (nI (1)), .int (nI (tf A1 13)), .ref (ad 6)]) rfl rfl (Nat.le_of_ble_eq_true rfl) ?_
              refine VR.goto h (off := 16) (tgt := 135) (by decide +kernel) (by decide) ?_
              exact join135 _ (by first | exact (if_pos q115_108).symm | exact (if_neg q115_108).symm | exact (if_neg (by omega)).symm | exact (if_pos (by omega)).symm | exact (if_neg (by rw [q115_108]; decide)).symm)
          · have q74_43 := ((nI_eq (by omega) (by omega)).mp q)
            clear q
            exfalso; omega
        · have q42_31 : ¬ _ := (fun z => q ((nI_leI (by omega) (by omega)).mpr z))
          clear q
          exfalso; omega
    · have q20_17 : ¬ _ := (fun z => q ((nI_ltI (by omega) (by omega)).mpr z))
      clear q
      exfalso; omega
