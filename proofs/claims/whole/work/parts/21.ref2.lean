set_option maxRecDepth 100000 in
set_option maxHeartbeats 4000000 in
theorem r_send {l : Launch} {D : va_G} {tc : Nat → ClassId} {am : Nat} {ad : Nat → Nat} (hls : l.stackTraces = false) (A : TS) (so e to op n c9 : Nat) (v : Int32) (b : Bool) (K : Nat) (h1 : so ≤ K) (h2 : e ≤ K) (h3 : to ≤ K) (h4 : op ≤ K) (h5 : n ≤ K) (h6 : c9 ≤ K) (hl : tf A 53 ≤ 250) (hB : NB K A) (hK : K < 2000000000) : RM l D tc am ad yX11_send cX11_send 9 (none) 0 [.ref am, .int (nI (so)), .int (nI (e)), .int (nI (to)), .int (oI (op)), .int (nI (n)), .int (nI (c9)), .int (v), .int (bI (b))] A (none) (sendF A so e to op n c9 v b) := by
  refine RM.of hls (by decide +kernel) (by simp [Value.category]) (Nat.le_of_ble_eq_true rfl) (fun A0 p e9 s m args below meth c S0 sz Q h hr hA hQ => ?_)
  refine VR.eqL (ls' := [some (.ref am), some (.int (nI (so))), some (.int (nI (e))), some (.int (nI (to))), some (.int (oI (op))), some (.int (nI (n))), some (.int (nI (c9))), some (.int (v)), some (.int (bI (b)))]) rfl ?_
  refine VR.blk h [(.aload_n 0, 1)] (by decide +kernel) (pc' := 1) (ls' := [some (.ref am), some (.int (nI (so))), some (.int (nI (e))), some (.int (nI (to))), some (.int (oI (op))), some (.int (nI (n))), some (.int (nI (c9))), some (.int (v)), some (.int (bI (b)))]) (st' := [.ref am]) rfl rfl (Nat.le_of_ble_eq_true rfl) ?_
  refine VR.getI h (j := 53) rfl (Or.inl wf_RX11_170) (by decide +kernel) (v := tf A 53) rfl ?_
  refine VR.blk h [(.sipush 250, 3)] (by decide +kernel) (pc' := 7) (ls' := [some (.ref am), some (.int (nI (so))), some (.int (nI (e))), some (.int (nI (to))), some (.int (oI (op))), some (.int (nI (n))), some (.int (nI (c9))), some (.int (v)), some (.int (bI (b)))]) (st' := [.int (nI (250)), .int (nI (tf A 53))]) rfl rfl (Nat.le_of_ble_eq_true rfl) ?_
  refine VR.icmp_ne h (off := 14) (by decide +kernel) (tgt := 21) (by decide) (fun q => ?_) (fun q => ?_)
  · have q7_4 : ¬ _ := (fun z => q ((nI_eq (by omega) (by omega)).mpr z))
    clear q
    refine VR.blk h [(.aload_n 0, 1)] (by decide +kernel) (pc' := 22) (ls' := [some (.ref am), some (.int (nI (so))), some (.int (nI (e))), some (.int (nI (to))), some (.int (oI (op))), some (.int (nI (n))), some (.int (nI (c9))), some (.int (v)), some (.int (bI (b)))]) (st' := [.ref am]) rfl rfl (Nat.le_of_ble_eq_true rfl) ?_
    refine VR.getA h (j := 45) rfl (Or.inl wf_RX11_123) (by decide +kernel) ?_
    refine VR.blk h [(.aload_n 0, 1)] (by decide +kernel) (pc' := 26) (ls' := [some (.ref am), some (.int (nI (so))), some (.int (nI (e))), some (.int (nI (to))), some (.int (oI (op))), some (.int (nI (n))), some (.int (nI (c9))), some (.int (v)), some (.int (bI (b)))]) (st' := [.ref am, .ref (ad 45)]) rfl rfl (Nat.le_of_ble_eq_true rfl) ?_
    refine VR.getI h (j := 53) rfl (Or.inl wf_RX11_170) (by decide +kernel) (v := tf A 53) rfl ?_
    refine VR.blk h [(.iload_n 1, 1)] (by decide +kernel) (pc' := 30) (ls' := [some (.ref am), some (.int (nI (so))), some (.int (nI (e))), some (.int (nI (to))), some (.int (oI (op))), some (.int (nI (n))), some (.int (nI (c9))), some (.int (v)), some (.int (bI (b)))]) (st' := [.int (nI (so)), .int (nI (tf A 53)), .ref (ad 45)]) rfl rfl (Nat.le_of_ble_eq_true rfl) ?_
    refine VR.iastN h (j := 45) (i := tf A 53) rfl rfl (by show _ < 250; omega) (by decide +kernel) ?_
    refine VR.blk h [(.aload_n 0, 1)] (by decide +kernel) (pc' := 32) (ls' := [some (.ref am), some (.int (nI (so))), some (.int (nI (e))), some (.int (nI (to))), some (.int (oI (op))), some (.int (nI (n))), some (.int (nI (c9))), some (.int (v)), some (.int (bI (b)))]) (st' := [.ref am]) rfl rfl (Nat.le_of_ble_eq_true rfl) ?_
    refine VR.getA h (j := 46) rfl (Or.inl wf_RX11_126) (by decide +kernel) ?_
    refine VR.blk h [(.aload_n 0, 1)] (by decide +kernel) (pc' := 36) (ls' := [some (.ref am), some (.int (nI (so))), some (.int (nI (e))), some (.int (nI (to))), some (.int (oI (op))), some (.int (nI (n))), some (.int (nI (c9))), some (.int (v)), some (.int (bI (b)))]) (st' := [.ref am, .ref (ad 46)]) rfl rfl (Nat.le_of_ble_eq_true rfl) ?_
    refine VR.getI h (j := 53) rfl (Or.inl wf_RX11_170) (by decide +kernel) (v := tf A 53) rfl ?_
    refine VR.blk h [(.iload_n 2, 1)] (by decide +kernel) (pc' := 40) (ls' := [some (.ref am), some (.int (nI (so))), some (.int (nI (e))), some (.int (nI (to))), some (.int (oI (op))), some (.int (nI (n))), some (.int (nI (c9))), some (.int (v)), some (.int (bI (b)))]) (st' := [.int (nI (e)), .int (nI (tf A 53)), .ref (ad 46)]) rfl rfl (Nat.le_of_ble_eq_true rfl) ?_
    refine VR.iastN h (j := 46) (i := tf A 53) rfl rfl (by show _ < 250; omega) (by decide +kernel) ?_
    refine VR.blk h [(.aload_n 0, 1)] (by decide +kernel) (pc' := 42) (ls' := [some (.ref am), some (.int (nI (so))), some (.int (nI (e))), some (.int (nI (to))), some (.int (oI (op))), some (.int (nI (n))), some (.int (nI (c9))), some (.int (v)), some (.int (bI (b)))]) (st' := [.ref am]) rfl rfl (Nat.le_of_ble_eq_true rfl) ?_
    refine VR.getA h (j := 47) rfl (Or.inl wf_RX11_129) (by decide +kernel) ?_
    refine VR.blk h [(.aload_n 0, 1)] (by decide +kernel) (pc' := 46) (ls' := [some (.ref am), some (.int (nI (so))), some (.int (nI (e))), some (.int (nI (to))), some (.int (oI (op))), some (.int (nI (n))), some (.int (nI (c9))), some (.int (v)), some (.int (bI (b)))]) (st' := [.ref am, .ref (ad 47)]) rfl rfl (Nat.le_of_ble_eq_true rfl) ?_
    refine VR.getI h (j := 53) rfl (Or.inl wf_RX11_170) (by decide +kernel) (v := tf A 53) rfl ?_
    refine VR.blk h [(.iload_n 3, 1)] (by decide +kernel) (pc' := 50) (ls' := [some (.ref am), some (.int (nI (so))), some (.int (nI (e))), some (.int (nI (to))), some (.int (oI (op))), some (.int (nI (n))), some (.int (nI (c9))), some (.int (v)), some (.int (bI (b)))]) (st' := [.int (nI (to)), .int (nI (tf A 53)), .ref (ad 47)]) rfl rfl (Nat.le_of_ble_eq_true rfl) ?_
    refine VR.iastN h (j := 47) (i := tf A 53) rfl rfl (by show _ < 250; omega) (by decide +kernel) ?_
    refine VR.blk h [(.aload_n 0, 1)] (by decide +kernel) (pc' := 52) (ls' := [some (.ref am), some (.int (nI (so))), some (.int (nI (e))), some (.int (nI (to))), some (.int (oI (op))), some (.int (nI (n))), some (.int (nI (c9))), some (.int (v)), some (.int (bI (b)))]) (st' := [.ref am]) rfl rfl (Nat.le_of_ble_eq_true rfl) ?_
    refine VR.getA h (j := 48) rfl (Or.inl wf_RX11_132) (by decide +kernel) ?_
    refine VR.blk h [(.aload_n 0, 1)] (by decide +kernel) (pc' := 56) (ls' := [some (.ref am), some (.int (nI (so))), some (.int (nI (e))), some (.int (nI (to))), some (.int (oI (op))), some (.int (nI (n))), some (.int (nI (c9))), some (.int (v)), some (.int (bI (b)))]) (st' := [.ref am, .ref (ad 48)]) rfl rfl (Nat.le_of_ble_eq_true rfl) ?_
    refine VR.getI h (j := 53) rfl (Or.inl wf_RX11_170) (by decide +kernel) (v := tf A 53) rfl ?_
    refine VR.blk h [(.iload 4, 2)] (by decide +kernel) (pc' := 61) (ls' := [some (.ref am), some (.int (nI (so))), some (.int (nI (e))), some (.int (nI (to))), some (.int (oI (op))), some (.int (nI (n))), some (.int (nI (c9))), some (.int (v)), some (.int (bI (b)))]) (st' := [.int (oI (op)), .int (nI (tf A 53)), .ref (ad 48)]) rfl rfl (Nat.le_of_ble_eq_true rfl) ?_
    refine VR.iastO h (j := 48) (i := tf A 53) rfl rfl (by show _ < 250; omega) (by decide +kernel) ?_
    refine VR.blk h [(.aload_n 0, 1)] (by decide +kernel) (pc' := 63) (ls' := [some (.ref am), some (.int (nI (so))), some (.int (nI (e))), some (.int (nI (to))), some (.int (oI (op))), some (.int (nI (n))), some (.int (nI (c9))), some (.int (v)), some (.int (bI (b)))]) (st' := [.ref am]) rfl rfl (Nat.le_of_ble_eq_true rfl) ?_
    refine VR.getA h (j := 49) rfl (Or.inl wf_RX11_135) (by decide +kernel) ?_
    refine VR.blk h [(.aload_n 0, 1)] (by decide +kernel) (pc' := 67) (ls' := [some (.ref am), some (.int (nI (so))), some (.int (nI (e))), some (.int (nI (to))), some (.int (oI (op))), some (.int (nI (n))), some (.int (nI (c9))), some (.int (v)), some (.int (bI (b)))]) (st' := [.ref am, .ref (ad 49)]) rfl rfl (Nat.le_of_ble_eq_true rfl) ?_
    refine VR.getI h (j := 53) rfl (Or.inl wf_RX11_170) (by decide +kernel) (v := tf A 53) rfl ?_
    refine VR.blk h [(.iload 5, 2)] (by decide +kernel) (pc' := 72) (ls' := [some (.ref am), some (.int (nI (so))), some (.int (nI (e))), some (.int (nI (to))), some (.int (oI (op))), some (.int (nI (n))), some (.int (nI (c9))), some (.int (v)), some (.int (bI (b)))]) (st' := [.int (nI (n)), .int (nI (tf A 53)), .ref (ad 49)]) rfl rfl (Nat.le_of_ble_eq_true rfl) ?_
    refine VR.iastN h (j := 49) (i := tf A 53) rfl rfl (by show _ < 250; omega) (by decide +kernel) ?_
    refine VR.blk h [(.aload_n 0, 1)] (by decide +kernel) (pc' := 74) (ls' := [some (.ref am), some (.int (nI (so))), some (.int (nI (e))), some (.int (nI (to))), some (.int (oI (op))), some (.int (nI (n))), some (.int (nI (c9))), some (.int (v)), some (.int (bI (b)))]) (st' := [.ref am]) rfl rfl (Nat.le_of_ble_eq_true rfl) ?_
    refine VR.getA h (j := 50) rfl (Or.inl wf_RX11_138) (by decide +kernel) ?_
    refine VR.blk h [(.aload_n 0, 1)] (by decide +kernel) (pc' := 78) (ls' := [some (.ref am), some (.int (nI (so))), some (.int (nI (e))), some (.int (nI (to))), some (.int (oI (op))), some (.int (nI (n))), some (.int (nI (c9))), some (.int (v)), some (.int (bI (b)))]) (st' := [.ref am, .ref (ad 50)]) rfl rfl (Nat.le_of_ble_eq_true rfl) ?_
    refine VR.getI h (j := 53) rfl (Or.inl wf_RX11_170) (by decide +kernel) (v := tf A 53) rfl ?_
    refine VR.blk h [(.iload 6, 2)] (by decide +kernel) (pc' := 83) (ls' := [some (.ref am), some (.int (nI (so))), some (.int (nI (e))), some (.int (nI (to))), some (.int (oI (op))), some (.int (nI (n))), some (.int (nI (c9))), some (.int (v)), some (.int (bI (b)))]) (st' := [.int (nI (c9)), .int (nI (tf A 53)), .ref (ad 50)]) rfl rfl (Nat.le_of_ble_eq_true rfl) ?_
    refine VR.iastN h (j := 50) (i := tf A 53) rfl rfl (by show _ < 250; omega) (by decide +kernel) ?_
    refine VR.blk h [(.aload_n 0, 1)] (by decide +kernel) (pc' := 85) (ls' := [some (.ref am), some (.int (nI (so))), some (.int (nI (e))), some (.int (nI (to))), some (.int (oI (op))), some (.int (nI (n))), some (.int (nI (c9))), some (.int (v)), some (.int (bI (b)))]) (st' := [.ref am]) rfl rfl (Nat.le_of_ble_eq_true rfl) ?_
    refine VR.getA h (j := 51) rfl (Or.inl wf_RX11_141) (by decide +kernel) ?_
    refine VR.blk h [(.aload_n 0, 1)] (by decide +kernel) (pc' := 89) (ls' := [some (.ref am), some (.int (nI (so))), some (.int (nI (e))), some (.int (nI (to))), some (.int (oI (op))), some (.int (nI (n))), some (.int (nI (c9))), some (.int (v)), some (.int (bI (b)))]) (st' := [.ref am, .ref (ad 51)]) rfl rfl (Nat.le_of_ble_eq_true rfl) ?_
    refine VR.getI h (j := 53) rfl (Or.inl wf_RX11_170) (by decide +kernel) (v := tf A 53) rfl ?_
    refine VR.blk h [(.iload 7, 2)] (by decide +kernel) (pc' := 94) (ls' := [some (.ref am), some (.int (nI (so))), some (.int (nI (e))), some (.int (nI (to))), some (.int (oI (op))), some (.int (nI (n))), some (.int (nI (c9))), some (.int (v)), some (.int (bI (b)))]) (st' := [.int (v), .int (nI (tf A 53)), .ref (ad 51)]) rfl rfl (Nat.le_of_ble_eq_true rfl) ?_
    refine VR.iastR h (j := 51) (i := tf A 53) rfl rfl (by show _ < 250; omega) (by decide +kernel) ?_
    refine VR.blk h [(.aload_n 0, 1)] (by decide +kernel) (pc' := 96) (ls' := [some (.ref am), some (.int (nI (so))), some (.int (nI (e))), some (.int (nI (to))), some (.int (oI (op))), some (.int (nI (n))), some (.int (nI (c9))), some (.int (v)), some (.int (bI (b)))]) (st' := [.ref am]) rfl rfl (Nat.le_of_ble_eq_true rfl) ?_
    refine VR.getA h (j := 52) rfl (Or.inl wf_RX11_144) (by decide +kernel) ?_
    refine VR.blk h [(.aload_n 0, 1)] (by decide +kernel) (pc' := 100) (ls' := [some (.ref am), some (.int (nI (so))), some (.int (nI (e))), some (.int (nI (to))), some (.int (oI (op))), some (.int (nI (n))), some (.int (nI (c9))), some (.int (v)), some (.int (bI (b)))]) (st' := [.ref am, .ref (ad 52)]) rfl rfl (Nat.le_of_ble_eq_true rfl) ?_
    refine VR.getI h (j := 53) rfl (Or.inl wf_RX11_170) (by decide +kernel) (v := tf A 53) rfl ?_
    refine VR.blk h [(.iload 8, 2)] (by decide +kernel) (pc' := 105) (ls' := [some (.ref am), some (.int (nI (so))), some (.int (nI (e))), some (.int (nI (to))), some (.int (oI (op))), some (.int (nI (n))), some (.int (nI (c9))), some (.int (v)), some (.int (bI (b)))]) (st' := [.int (bI (b)), .int (nI (tf A 53)), .ref (ad 52)]) rfl rfl (Nat.le_of_ble_eq_true rfl) ?_
    refine VR.bast h (j := 52) (i := tf A 53) rfl rfl (by show _ < 250; omega) (by decide +kernel) ?_
    refine VR.blk h [(.aload_n 0, 1), (.dup, 1)] (by decide +kernel) (pc' := 108) (ls' := [some (.ref am), some (.int (nI (so))), some (.int (nI (e))), some (.int (nI (to))), some (.int (oI (op))), some (.int (nI (n))), some (.int (nI (c9))), some (.int (v)), some (.int (bI (b)))]) (st' := [.ref am, .ref am]) rfl rfl (Nat.le_of_ble_eq_true rfl) ?_
    refine VR.getI h (j := 53) rfl (Or.inl wf_RX11_170) (by decide +kernel) (v := tf A 53) rfl ?_
    refine VR.blk h [(.iconst 1, 1)] (by decide +kernel) (pc' := 112) (ls' := [some (.ref am), some (.int (nI (so))), some (.int (nI (e))), some (.int (nI (to))), some (.int (oI (op))), some (.int (nI (n))), some (.int (nI (c9))), some (.int (v)), some (.int (bI (b)))]) (st' := [.int (nI (1)), .int (nI (tf A 53)), .ref am]) rfl rfl (Nat.le_of_ble_eq_true rfl) ?_
    refine VR.addN h (by decide +kernel) (Nat.le_of_ble_eq_true rfl) ?_
    refine VR.putI h (j := 53) rfl rfl rfl (Or.inl wf_RX11_170) (by decide +kernel) ?_
    exact VR.vret h hA hQ hr rfl (by rw [sendF, if_neg q7_4]) (by decide +kernel)
  · have q7_4 := ((nI_eq (by omega) (by omega)).mp q)
    clear q
    refine VR.blk h [(.aload_n 0, 1), (.dup, 1)] (by decide +kernel) (pc' := 12) (ls' := [some (.ref am), some (.int (nI (so))), some (.int (nI (e))), some (.int (nI (to))), some (.int (oI (op))), some (.int (nI (n))), some (.int (nI (c9))), some (.int (v)), some (.int (bI (b)))]) (st' := [.ref am, .ref am]) rfl rfl (Nat.le_of_ble_eq_true rfl) ?_
    refine VR.getI h (j := 54) rfl (Or.inl wf_RX11_173) (by decide +kernel) (v := tf A 54) rfl ?_
    refine VR.blk h [(.iconst 1, 1)] (by decide +kernel) (pc' := 16) (ls' := [some (.ref am), some (.int (nI (so))), some (.int (nI (e))), some (.int (nI (to))), some (.int (oI (op))), some (.int (nI (n))), some (.int (nI (c9))), some (.int (v)), some (.int (bI (b)))]) (st' := [.int (nI (1)), .int (nI (tf A 54)), .ref am]) rfl rfl (Nat.le_of_ble_eq_true rfl) ?_
    refine VR.addN h (by decide +kernel) (Nat.le_of_ble_eq_true rfl) ?_
    refine VR.putI h (j := 54) rfl rfl rfl (Or.inl wf_RX11_173) (by decide +kernel) ?_
    exact VR.vret h hA hQ hr rfl (by rw [sendF, if_pos q7_4]) (by decide +kernel)

set_option maxRecDepth 100000 in
set_option maxHeartbeats 4000000 in
theorem r_sendOp {l : Launch} {D : va_G} {tc : Nat → ClassId} {am : Nat} {ad : Nat → Nat} (hls : l.stackTraces = false) (A : TS) (so e to op K : Nat) (h1 : so ≤ K) (h2 : e ≤ K) (h3 : to ≤ K) (ho : op < 600) (ho2 : op < K) (hl : tf A 53 ≤ 250) (hB : NB K A) (hK : K < 2000000000) : RM l D tc am ad yX11_sendOp cX11_sendOp 5 (none) 1 [.ref am, .int (nI (so)), .int (nI (e)), .int (nI (to)), .int (nI (op))] A (none) (sendOpF A so e to op) := by
  refine RM.of hls (by decide +kernel) (by simp [Value.category]) (Nat.le_of_ble_eq_true rfl) (fun A0 p e9 s m args below meth c S0 sz Q h hr hA hQ => ?_)
  refine VR.eqL (ls' := [some (.ref am), some (.int (nI (so))), some (.int (nI (e))), some (.int (nI (to))), some (.int (nI (op)))]) rfl ?_
  refine VR.blk h [(.aload_n 0, 1), (.iload_n 1, 1), (.iload_n 2, 1), (.iload_n 3, 1), (.iload 4, 2), (.aload_n 0, 1)] (by decide +kernel) (pc' := 7) (ls' := [some (.ref am), some (.int (nI (so))), some (.int (nI (e))), some (.int (nI (to))), some (.int (nI (op)))]) (st' := [.ref am, .int (nI (op)), .int (nI (to)), .int (nI (e)), .int (nI (so)), .ref am]) rfl rfl (Nat.le_of_ble_eq_true rfl) ?_
  refine VR.getA h (j := 6) rfl (Or.inl wf_RX11_17) (by decide +kernel) ?_
  refine VR.blk h [(.iload 4, 2)] (by decide +kernel) (pc' := 12) (ls' := [some (.ref am), some (.int (nI (so))), some (.int (nI (e))), some (.int (nI (to))), some (.int (nI (op)))]) (st' := [.int (nI (op)), .ref (ad 6), .int (nI (op)), .int (nI (to)), .int (nI (e)), .int (nI (so)), .ref am]) rfl rfl (Nat.le_of_ble_eq_true rfl) ?_
  refine VR.iald h (j := 6) (i := op) rfl rfl (by show _ < 600; omega) (by decide +kernel) (v := (nI (tn A 6 op))) (mval_1 rfl) ?_
  have nb5 := hB.2 6 op
  refine VR.blk h [(.iconst 0, 1), (.iconst 0, 1), (.iconst 0, 1)] (by decide +kernel) (pc' := 16) (ls' := [some (.ref am), some (.int (nI (so))), some (.int (nI (e))), some (.int (nI (to))), some (.int (nI (op)))]) (st' := [.int (nI (0)), .int (nI (0)), .int (nI (0)), .int (nI (tn A 6 op)), .int (nI (op)), .int (nI (to)), .int (nI (e)), .int (nI (so)), .ref am]) rfl rfl (Nat.le_of_ble_eq_true rfl) ?_
  refine VR.call h (np := 8) (st := []) (r_send hls A so e to (op + 1) (tn A 6 op) 0 (nI 0) false K (by omega) (by omega) (by omega) (by omega) (by omega) (by omega) hl hB hK) wc_X11_send wn_RX11 (Or.inl wm_RX11_176) wi_X11_send we_X11_send (by decide +kernel) rfl (by decide) (by decide) (by simp [Value.category]) (by decide +kernel) (by simp [oI_s, bI_f, bI_t]) ?_
  exact VR.vret h hA hQ hr rfl rfl (by decide +kernel)

set_option maxRecDepth 100000 in
set_option maxHeartbeats 4000000 in
theorem r_answers {l : Launch} {D : va_G} {tc : Nat → ClassId} {am : Nat} {ad : Nat → Nat} (hls : l.stackTraces = false) (A : TS) (e op : Nat) (v : Int32) (b : Bool) (K : Nat) (h2 : e ≤ K) (ho : op < 600) (ho2 : op < K) (hl : tf A 53 ≤ 250) (hK9 : 7300 ≤ K) (hB : NB K A) (hK : K < 2000000000) : RM l D tc am ad yX11_answers cX11_answers 5 (none) 1 [.ref am, .int (nI (e)), .int (nI (op)), .int (v), .int (bI (b))] A (none) (ansF A e op v b) := by
  refine RM.of hls (by decide +kernel) (by simp [Value.category]) (Nat.le_of_ble_eq_true rfl) (fun A0 p e9 s m args below meth c S0 sz Q h hr hA hQ => ?_)
  refine VR.eqL (ls' := [some (.ref am), some (.int (nI (e))), some (.int (nI (op))), some (.int (v)), some (.int (bI (b)))]) rfl ?_
  refine VR.blk h [(.aload_n 0, 1), (.iconst 2, 1), (.iload_n 1, 1), (.aload_n 0, 1)] (by decide +kernel) (pc' := 4) (ls' := [some (.ref am), some (.int (nI (e))), some (.int (nI (op))), some (.int (v)), some (.int (bI (b)))]) (st' := [.ref am, .int (nI (e)), .int (nI (2)), .ref am]) rfl rfl (Nat.le_of_ble_eq_true rfl) ?_
  refine VR.getA h (j := 5) rfl (Or.inl wf_RX11_13) (by decide +kernel) ?_
  refine VR.blk h [(.iload_n 2, 1)] (by decide +kernel) (pc' := 8) (ls' := [some (.ref am), some (.int (nI (e))), some (.int (nI (op))), some (.int (v)), some (.int (bI (b)))]) (st' := [.int (nI (op)), .ref (ad 5), .int (nI (e)), .int (nI (2)), .ref am]) rfl rfl (Nat.le_of_ble_eq_true rfl) ?_
  refine VR.iald h (j := 5) (i := op) rfl rfl (by show _ < 600; omega) (by decide +kernel) (v := (nI (tn A 5 op))) (mval_1 rfl) ?_
  have nb5 := hB.2 5 op
  refine VR.blk h [(.iload_n 2, 1), (.aload_n 0, 1)] (by decide +kernel) (pc' := 11) (ls' := [some (.ref am), some (.int (nI (e))), some (.int (nI (op))), some (.int (v)), some (.int (bI (b)))]) (st' := [.ref am, .int (nI (op)), .int (nI (tn A 5 op)), .int (nI (e)), .int (nI (2)), .ref am]) rfl rfl (Nat.le_of_ble_eq_true rfl) ?_
  refine VR.getA h (j := 6) rfl (Or.inl wf_RX11_17) (by decide +kernel) ?_
  refine VR.blk h [(.iload_n 2, 1)] (by decide +kernel) (pc' := 15) (ls' := [some (.ref am), some (.int (nI (e))), some (.int (nI (op))), some (.int (v)), some (.int (bI (b)))]) (st' := [.int (nI (op)), .ref (ad 6), .int (nI (op)), .int (nI (tn A 5 op)), .int (nI (e)), .int (nI (2)), .ref am]) rfl rfl (Nat.le_of_ble_eq_true rfl) ?_
  refine VR.iald h (j := 6) (i := op) rfl rfl (by show _ < 600; omega) (by decide +kernel) (v := (nI (tn A 6 op))) (mval_1 rfl) ?_
  have nb10 := hB.2 6 op
  refine VR.blk h [(.iconst 0, 1), (.iload_n 3, 1), (.iload 4, 2)] (by decide +kernel) (pc' := 20) (ls' := [some (.ref am), some (.int (nI (e))), some (.int (nI (op))), some (.int (v)), some (.int (bI (b)))]) (st' := [.int (bI (b)), .int (v), .int (nI (0)), .int (nI (tn A 6 op)), .int (nI (op)), .int (nI (tn A 5 op)), .int (nI (e)), .int (nI (2)), .ref am]) rfl rfl (Nat.le_of_ble_eq_true rfl) ?_
  refine VR.call h (np := 8) (st := []) (r_send hls A 2 e (tn A 5 op) (op + 1) (tn A 6 op) 0 v b K (by omega) (by omega) (by omega) (by omega) (by omega) (by omega) hl hB hK) wc_X11_send wn_RX11 (Or.inl wm_RX11_176) wi_X11_send we_X11_send (by decide +kernel) rfl (by decide) (by decide) (by simp [Value.category]) (by decide +kernel) (by simp [oI_s, bI_f, bI_t]) ?_
  exact VR.vret h hA hQ hr rfl rfl (by decide +kernel)

set_option maxRecDepth 100000 in
set_option maxHeartbeats 4000000 in
theorem r_syncs {l : Launch} {D : va_G} {tc : Nat → ClassId} {am : Nat} {ad : Nat → Nat} (hls : l.stackTraces = false) (A : TS) (e K : Nat) (he : e < 12) (hf : tf A 1 ≤ 3) (hl : tf A 53 ≤ 250) (hK9 : 7300 ≤ K) (hB : NB K A) (hK : K < 1999999000) : RM l D tc am ad yX11_syncs cX11_syncs 3 (none) 1 [.ref am, .int (nI (e))] A (none) (synF A e) := by
  refine RM.of hls (by decide +kernel) (by simp [Value.category]) (Nat.le_of_ble_eq_true rfl) (fun A0 p e9 s m args below meth c S0 sz Q h hr hA hQ => ?_)
  have nf := hB.1 1
  have n26 := hB.2 26 e
  have n29 := hB.2 29 e
  refine VR.eqL (ls' := [some (.ref am), some (.int (nI (e))), none]) rfl ?_
  refine VR.blk h [(.aload_n 0, 1)] (by decide +kernel) (pc' := 1) (ls' := [some (.ref am), some (.int (nI (e))), none]) (st' := [.ref am]) rfl rfl (Nat.le_of_ble_eq_true rfl) ?_
  refine VR.getA h (j := 29) rfl (Or.inl wf_RX11_78) (by decide +kernel) ?_
  refine VR.blk h [(.iload_n 1, 1), (.dup2, 1)] (by decide +kernel) (pc' := 6) (ls' := [some (.ref am), some (.int (nI (e))), none]) (st' := [.int (nI (e)), .ref (ad 29), .int (nI (e)), .ref (ad 29)]) rfl rfl (Nat.le_of_ble_eq_true rfl) ?_
  refine VR.iald h (j := 29) (i := e) rfl rfl (by show _ < 12; omega) (by decide +kernel) (v := (nI (tn A 29 e))) (mval_1 rfl) ?_
  have nb8 := hB.2 29 e
  refine VR.blk h [(.iconst 1, 1)] (by decide +kernel) (pc' := 8) (ls' := [some (.ref am), some (.int (nI (e))), none]) (st' := [.int (nI (1)), .int (nI (tn A 29 e)), .int (nI (e)), .ref (ad 29)]) rfl rfl (Nat.le_of_ble_eq_true rfl) ?_
  refine VR.addN h (by decide +kernel) (Nat.le_of_ble_eq_true rfl) ?_
  refine VR.iastN h (j := 29) (i := e) rfl rfl (by show _ < 12; omega) (by decide +kernel) ?_
  refine VR.blk h [(.iconst 0, 1), (.istore_n 2, 1)] (by decide +kernel) (pc' := 12) (ls' := [some (.ref am), some (.int (nI (e))), some (.int (nI (0)))]) (st' := []) rfl rfl (Nat.le_of_ble_eq_true rfl) ?_
  have loop12 : ∀ (t k : Nat), tf A 1 - k = t → k ≤ tf A 1 → VR l D tc A0 p e9 (rmd 1 0 0) s m args below meth c 3 Q am ad (synL (sn A 29 e (tn A 29 e + 1)) e (tn A 26 e) (tn A 29 e + 1) k) 12 [some (.ref am), some (.int (nI (e))), some (.int (nI (k)))] [] := by
    intro t; induction t using Nat.strongRecOn with
    | _ t ih12 =>
      intro k ht12 hk12
      refine VR.blk h [(.iload_n 2, 1), (.aload_n 0, 1)] (by decide +kernel) (pc' := 14) (ls' := [some (.ref am), some (.int (nI (e))), some (.int (nI (k)))]) (st' := [.ref am, .int (nI (k))]) rfl rfl (Nat.le_of_ble_eq_true rfl) ?_
      refine VR.getI h (j := 1) rfl (Or.inl wf_RX11_151) (by decide +kernel) (v := tf A 1) ((synL_keep _ _ _ _ k).1 1 (by decide) (by decide)) ?_
      refine VR.icmp_ge h (off := 32) (by decide +kernel) (tgt := 49) (by decide) (fun q => ?_) (fun q => ?_)
      · have q17_19 := ((nI_leI (by omega) (by omega)).mp q)
        clear q
        exact VR.vret h hA hQ hr rfl (by rw [synF, show k = tf A 1 by omega]) (by decide +kernel)
      · have q17_19 : ¬ _ := (fun z => q ((nI_leI (by omega) (by omega)).mpr z))
        clear q
        refine VR.blk h [(.aload_n 0, 1), (.bipush 6, 2), (.iload_n 1, 1), (.iload_n 2, 1)] (by decide +kernel) (pc' := 25) (ls' := [some (.ref am), some (.int (nI (e))), some (.int (nI (k)))]) (st' := [.int (nI (k)), .int (nI (e)), .int (nI (6)), .ref am]) rfl rfl (Nat.le_of_ble_eq_true rfl) ?_
        refine VR.m1 h (by decide +kernel) (Nat.le_of_ble_eq_true rfl) ?_
        refine VR.blk h [(.aload_n 0, 1)] (by decide +kernel) (pc' := 27) (ls' := [some (.ref am), some (.int (nI (e))), some (.int (nI (k)))]) (st' := [.ref am, .int (oI (0)), .int (nI (k)), .int (nI (e)), .int (nI (6)), .ref am]) rfl rfl (Nat.le_of_ble_eq_true rfl) ?_
        refine VR.getA h (j := 26) rfl (Or.inl wf_RX11_69) (by decide +kernel) ?_
        refine VR.blk h [(.iload_n 1, 1)] (by decide +kernel) (pc' := 31) (ls' := [some (.ref am), some (.int (nI (e))), some (.int (nI (k)))]) (st' := [.int (nI (e)), .ref (ad 26), .int (oI (0)), .int (nI (k)), .int (nI (e)), .int (nI (6)), .ref am]) rfl rfl (Nat.le_of_ble_eq_true rfl) ?_
        refine VR.iald h (j := 26) (i := e) rfl rfl (by show _ < 12; omega) (by decide +kernel) (v := (nI (tn A 26 e))) ((mval_1 rfl).trans (congrArg nI ((synL_keep _ _ _ _ k).2.1 26 e (by decide)))) ?_
        have nb31 := hB.2 26 e
        refine VR.blk h [(.aload_n 0, 1)] (by decide +kernel) (pc' := 33) (ls' := [some (.ref am), some (.int (nI (e))), some (.int (nI (k)))]) (st' := [.ref am, .int (nI (tn A 26 e)), .int (oI (0)), .int (nI (k)), .int (nI (e)), .int (nI (6)), .ref am]) rfl rfl (Nat.le_of_ble_eq_true rfl) ?_
        refine VR.getA h (j := 29) rfl (Or.inl wf_RX11_78) (by decide +kernel) ?_
        refine VR.blk h [(.iload_n 1, 1)] (by decide +kernel) (pc' := 37) (ls' := [some (.ref am), some (.int (nI (e))), some (.int (nI (k)))]) (st' := [.int (nI (e)), .ref (ad 29), .int (nI (tn A 26 e)), .int (oI (0)), .int (nI (k)), .int (nI (e)), .int (nI (6)), .ref am]) rfl rfl (Nat.le_of_ble_eq_true rfl) ?_
        refine VR.iald h (j := 29) (i := e) rfl rfl (by show _ < 12; omega) (by decide +kernel) (v := (nI (tn A 29 e + 1))) ((mval_1 rfl).trans (congrArg nI (((synL_keep _ _ _ _ k).2.1 29 e (by decide)).trans (by rw [tn_sn, if_pos ⟨rfl, rfl⟩])))) ?_
        refine VR.blk h [(.iconst 0, 1), (.iconst 0, 1)] (by decide +kernel) (pc' := 40) (ls' := [some (.ref am), some (.int (nI (e))), some (.int (nI (k)))]) (st' := [.int (nI (0)), .int (nI (0)), .int (nI (tn A 29 e + 1)), .int (nI (tn A 26 e)), .int (oI (0)), .int (nI (k)), .int (nI (e)), .int (nI (6)), .ref am]) rfl rfl (Nat.le_of_ble_eq_true rfl) ?_
        refine VR.call h (np := 8) (st := []) (r_send hls (synL (sn A 29 e (tn A 29 e + 1)) e (tn A 26 e) (tn A 29 e + 1) k) 6 e k 0 (tn A 26 e) (tn A 29 e + 1) (nI 0) false (K + 5) (by omega) (by omega) (by omega) (by omega) (by omega) (by omega) (synL_le (A := (sn A 29 e (tn A 29 e + 1))) hl k) (synL_NB ((hB.mono (K' := K + 1) (by omega)).sn (by omega)) (K := K + 1) (by omega) (by omega) (by omega) (by omega) k (by omega)) (by omega)) wc_X11_send wn_RX11 (Or.inl wm_RX11_176) wi_X11_send we_X11_send (by decide +kernel) rfl (by decide) (by decide) (by simp [Value.category]) (by decide +kernel) (by simp [oI_s, bI_f, bI_t]) ?_
        refine VR.incN h (x := k) (i := 2) (by decide +kernel) rfl (Nat.le_of_ble_eq_true rfl) ?_
        refine VR.eqL (ls' := [some (.ref am), some (.int (nI (e))), some (.int (nI (k + 1)))]) rfl ?_
        refine VR.goto h (off := -34) (tgt := 12) (by decide +kernel) (by decide) ?_
        refine VR.eqL (ls' := [some (.ref am), some (.int (nI (e))), some (.int (nI ((k + 1))))]) rfl ?_
        exact ih12 (tf A 1 - (k + 1)) (by omega) (k + 1) rfl (by omega)
  refine VR.eqL (ls' := [some (.ref am), some (.int (nI (e))), some (.int (nI (0)))]) rfl ?_
  exact loop12 _ 0 rfl (Nat.zero_le _)

set_option maxRecDepth 100000 in
set_option maxHeartbeats 4000000 in
theorem r_resets {l : Launch} {D : va_G} {tc : Nat → ClassId} {am : Nat} {ad : Nat → Nat} (hls : l.stackTraces = false) (A : TS) (e K : Nat) (he : e < 12) (hf : tf A 1 ≤ 3) (hl : tf A 53 ≤ 250) (hK9 : 7300 ≤ K) (hB : NB K A) (hK : K < 1999999000) : RM l D tc am ad yX11_resets cX11_resets 3 (none) 1 [.ref am, .int (nI (e))] A (none) (resF A e) := by
  refine RM.of hls (by decide +kernel) (by simp [Value.category]) (Nat.le_of_ble_eq_true rfl) (fun A0 p e9 s m args below meth c S0 sz Q h hr hA hQ => ?_)
  have nf := hB.1 1
  refine VR.eqL (ls' := [some (.ref am), some (.int (nI (e))), none]) rfl ?_
  refine VR.blk h [(.iconst 0, 1), (.istore_n 2, 1)] (by decide +kernel) (pc' := 2) (ls' := [some (.ref am), some (.int (nI (e))), some (.int (nI (0)))]) (st' := []) rfl rfl (Nat.le_of_ble_eq_true rfl) ?_
  have loop2 : ∀ (t k : Nat), tf A 1 - k = t → k ≤ tf A 1 → VR l D tc A0 p e9 (rmd 1 0 0) s m args below meth c 3 Q am ad (resL A e k) 2 [some (.ref am), some (.int (nI (e))), some (.int (nI (k)))] [] := by
    intro t; induction t using Nat.strongRecOn with
    | _ t ih2 =>
      intro k ht2 hk2
      refine VR.blk h [(.iload_n 2, 1), (.aload_n 0, 1)] (by decide +kernel) (pc' := 4) (ls' := [some (.ref am), some (.int (nI (e))), some (.int (nI (k)))]) (st' := [.ref am, .int (nI (k))]) rfl rfl (Nat.le_of_ble_eq_true rfl) ?_
      refine VR.getI h (j := 1) rfl (Or.inl wf_RX11_151) (by decide +kernel) (v := tf A 1) ((resL_keep _ _ k).1 1 (by decide) (by decide)) ?_
      refine VR.icmp_ge h (off := 22) (by decide +kernel) (tgt := 29) (by decide) (fun q => ?_) (fun q => ?_)
      · have q7_9 := ((nI_leI (by omega) (by omega)).mp q)
        clear q
        exact VR.vret h hA hQ hr rfl (by rw [resF, show k = tf A 1 by omega]) (by decide +kernel)
      · have q7_9 : ¬ _ := (fun z => q ((nI_leI (by omega) (by omega)).mpr z))
        clear q
        refine VR.blk h [(.aload_n 0, 1), (.bipush 9, 2), (.iload_n 1, 1), (.iload_n 2, 1)] (by decide +kernel) (pc' := 15) (ls' := [some (.ref am), some (.int (nI (e))), some (.int (nI (k)))]) (st' := [.int (nI (k)), .int (nI (e)), .int (nI (9)), .ref am]) rfl rfl (Nat.le_of_ble_eq_true rfl) ?_
        refine VR.m1 h (by decide +kernel) (Nat.le_of_ble_eq_true rfl) ?_
        refine VR.blk h [(.iconst 0, 1), (.iconst 0, 1), (.iconst 0, 1), (.iconst 0, 1)] (by decide +kernel) (pc' := 20) (ls' := [some (.ref am), some (.int (nI (e))), some (.int (nI (k)))]) (st' := [.int (nI (0)), .int (nI (0)), .int (nI (0)), .int (nI (0)), .int (oI (0)), .int (nI (k)), .int (nI (e)), .int (nI (9)), .ref am]) rfl rfl (Nat.le_of_ble_eq_true rfl) ?_
        refine VR.call h (np := 8) (st := []) (r_send hls (resL A e k) 9 e k 0 0 0 (nI 0) false (K + 3) (by omega) (by omega) (by omega) (by omega) (by omega) (by omega) (resL_le hl k) (resL_NB hB (by omega) (by omega) k (by omega)) (by omega)) wc_X11_send wn_RX11 (Or.inl wm_RX11_176) wi_X11_send we_X11_send (by decide +kernel) rfl (by decide) (by decide) (by simp [Value.category]) (by decide +kernel) (by simp [oI_s, bI_f, bI_t]) ?_
        refine VR.incN h (x := k) (i := 2) (by decide +kernel) rfl (Nat.le_of_ble_eq_true rfl) ?_
        refine VR.eqL (ls' := [some (.ref am), some (.int (nI (e))), some (.int (nI (k + 1)))]) rfl ?_
        refine VR.goto h (off := -24) (tgt := 2) (by decide +kernel) (by decide) ?_
        refine VR.eqL (ls' := [some (.ref am), some (.int (nI (e))), some (.int (nI ((k + 1))))]) rfl ?_
        exact ih2 (tf A 1 - (k + 1)) (by omega) (k + 1) rfl (by omega)
  refine VR.eqL (ls' := [some (.ref am), some (.int (nI (e))), some (.int (nI (0)))]) rfl ?_
  exact loop2 _ 0 rfl (Nat.zero_le _)

set_option maxRecDepth 100000 in
set_option maxHeartbeats 4000000 in
theorem r_appends {l : Launch} {D : va_G} {tc : Nat → ClassId} {am : Nat} {ad : Nat → Nat} (hls : l.stackTraces = false) (A : TS) (e op : Nat) (b : Bool) (K : Nat) (he : e < 12) (hm : tn A 26 e < 600) (ho : op < 600) (hlo : ∀ k, k < tn A 26 e → tn A 22 (600 * e + k) < 600) (hB : NB K A) (hK : K < 2000000000) : RM l D tc am ad yX11_appends cX11_appends 6 (none) 1 [.ref am, .int (nI (e)), .int (nI (op)), .int (bI (b))] A (none) (appF A e op b) := by
  refine RM.of hls (by decide +kernel) (by simp [Value.category]) (Nat.le_of_ble_eq_true rfl) (fun A0 p e9 s m args below meth c S0 sz Q h hr hA hQ => ?_)
  have nb8 := hB.2 8 op
  refine VR.eqL (ls' := [some (.ref am), some (.int (nI (e))), some (.int (nI (op))), some (.int (bI (b))), none, none]) rfl ?_
  refine VR.blk h [(.sipush 600, 3), (.iload_n 1, 1)] (by decide +kernel) (pc' := 4) (ls' := [some (.ref am), some (.int (nI (e))), some (.int (nI (op))), some (.int (bI (b))), none, none]) (st' := [.int (nI (e)), .int (nI (600))]) rfl rfl (Nat.le_of_ble_eq_true rfl) ?_
  refine VR.mulN h (by decide +kernel) (Nat.le_of_ble_eq_true rfl) ?_
  refine VR.blk h [(.aload_n 0, 1)] (by decide +kernel) (pc' := 6) (ls' := [some (.ref am), some (.int (nI (e))), some (.int (nI (op))), some (.int (bI (b))), none, none]) (st' := [.ref am, .int (nI (600 * e))]) rfl rfl (Nat.le_of_ble_eq_true rfl) ?_
  refine VR.getA h (j := 26) rfl (Or.inl wf_RX11_69) (by decide +kernel) ?_
  refine VR.blk h [(.iload_n 1, 1)] (by decide +kernel) (pc' := 10) (ls' := [some (.ref am), some (.int (nI (e))), some (.int (nI (op))), some (.int (bI (b))), none, none]) (st' := [.int (nI (e)), .ref (ad 26), .int (nI (600 * e))]) rfl rfl (Nat.le_of_ble_eq_true rfl) ?_
  refine VR.iald h (j := 26) (i := e) rfl rfl (by show _ < 12; omega) (by decide +kernel) (v := (nI (tn A 26 e))) (mval_1 rfl) ?_
  have nb8 := hB.2 26 e
  refine VR.addN h (by decide +kernel) (Nat.le_of_ble_eq_true rfl) ?_
  refine VR.blk h [(.istore 4, 2), (.aload_n 0, 1), (.iload_n 1, 1), (.aload_n 0, 1)] (by decide +kernel) (pc' := 17) (ls' := [some (.ref am), some (.int (nI (e))), some (.int (nI (op))), some (.int (bI (b))), some (.int (nI ((600 * e) + (tn A 26 e)))), none]) (st' := [.ref am, .int (nI (e)), .ref am]) rfl rfl (Nat.le_of_ble_eq_true rfl) ?_
  refine VR.getA h (j := 26) rfl (Or.inl wf_RX11_69) (by decide +kernel) ?_
  refine VR.blk h [(.iload_n 1, 1)] (by decide +kernel) (pc' := 21) (ls' := [some (.ref am), some (.int (nI (e))), some (.int (nI (op))), some (.int (bI (b))), some (.int (nI ((600 * e) + (tn A 26 e)))), none]) (st' := [.int (nI (e)), .ref (ad 26), .int (nI (e)), .ref am]) rfl rfl (Nat.le_of_ble_eq_true rfl) ?_
  refine VR.iald h (j := 26) (i := e) rfl rfl (by show _ < 12; omega) (by decide +kernel) (v := (nI (tn A 26 e))) (mval_1 rfl) ?_
  have nb14 := hB.2 26 e
  refine VR.blk h [(.aload_n 0, 1)] (by decide +kernel) (pc' := 23) (ls' := [some (.ref am), some (.int (nI (e))), some (.int (nI (op))), some (.int (bI (b))), some (.int (nI ((600 * e) + (tn A 26 e)))), none]) (st' := [.ref am, .int (nI (tn A 26 e)), .int (nI (e)), .ref am]) rfl rfl (Nat.le_of_ble_eq_true rfl) ?_
  refine VR.getA h (j := 8) rfl (Or.inl wf_RX11_23) (by decide +kernel) ?_
  refine VR.blk h [(.iload_n 2, 1)] (by decide +kernel) (pc' := 27) (ls' := [some (.ref am), some (.int (nI (e))), some (.int (nI (op))), some (.int (bI (b))), some (.int (nI ((600 * e) + (tn A 26 e)))), none]) (st' := [.int (nI (op)), .ref (ad 8), .int (nI (tn A 26 e)), .int (nI (e)), .ref am]) rfl rfl (Nat.le_of_ble_eq_true rfl) ?_
  refine VR.iald h (j := 8) (i := op) rfl rfl (by show _ < 600; omega) (by decide +kernel) (v := (nI (tn A 8 op))) (mval_1 rfl) ?_
  have nb19 := hB.2 8 op
  refine VR.call h (np := 3) (st := []) (r_valueAt hls A e (tn A 26 e) (tn A 8 op) K he (by omega) hlo hB hK (by omega)) wc_X11_valueAt wn_RX11 (Or.inl wm_RX11_180) wi_X11_valueAt we_X11_valueAt (by decide +kernel) rfl (by decide) (by decide) (by simp [Value.category]) (by decide +kernel) rfl ?_
  refine VR.blk h [(.istore 5, 2), (.aload_n 0, 1)] (by decide +kernel) (pc' := 34) (ls' := [some (.ref am), some (.int (nI (e))), some (.int (nI (op))), some (.int (bI (b))), some (.int (nI ((600 * e) + (tn A 26 e)))), some (.int (vaF A e (tn A 8 op) (tn A 26 e)))]) (st' := [.ref am]) rfl rfl (Nat.le_of_ble_eq_true rfl) ?_
  refine VR.getA h (j := 22) rfl (Or.inl wf_RX11_57) (by decide +kernel) ?_
  refine VR.blk h [(.iload 4, 2), (.iload_n 2, 1)] (by decide +kernel) (pc' := 40) (ls' := [some (.ref am), some (.int (nI (e))), some (.int (nI (op))), some (.int (bI (b))), some (.int (nI ((600 * e) + (tn A 26 e)))), some (.int (vaF A e (tn A 8 op) (tn A 26 e)))]) (st' := [.int (nI (op)), .int (nI ((600 * e) + (tn A 26 e))), .ref (ad 22)]) rfl rfl (Nat.le_of_ble_eq_true rfl) ?_
  refine VR.iastN h (j := 22) (i := (600 * e) + (tn A 26 e)) rfl rfl (by show _ < 7200; omega) (by decide +kernel) ?_
  refine VR.blk h [(.aload_n 0, 1)] (by decide +kernel) (pc' := 42) (ls' := [some (.ref am), some (.int (nI (e))), some (.int (nI (op))), some (.int (bI (b))), some (.int (nI ((600 * e) + (tn A 26 e)))), some (.int (vaF A e (tn A 8 op) (tn A 26 e)))]) (st' := [.ref am]) rfl rfl (Nat.le_of_ble_eq_true rfl) ?_
  refine VR.getA h (j := 23) rfl (Or.inl wf_RX11_60) (by decide +kernel) ?_
  refine VR.blk h [(.iload 4, 2)] (by decide +kernel) (pc' := 47) (ls' := [some (.ref am), some (.int (nI (e))), some (.int (nI (op))), some (.int (bI (b))), some (.int (nI ((600 * e) + (tn A 26 e)))), some (.int (vaF A e (tn A 8 op) (tn A 26 e)))]) (st' := [.int (nI ((600 * e) + (tn A 26 e))), .ref (ad 23)]) rfl rfl (Nat.le_of_ble_eq_true rfl) ?_
  have join70 : ∀ bb70 : Int32, bb70 = (if tn A 7 op = 0 then vaF A e (tn A 8 op) (tn A 26 e) else vaF A e (tn A 8 op) (tn A 26 e) + tr A 9 op) → VR l D tc A0 p e9 (rmd 1 0 0) s m args below meth c 6 Q am ad (sn A 22 ((600 * e) + (tn A 26 e)) op) 70 [some (.ref am), some (.int (nI (e))), some (.int (nI (op))), some (.int (bI (b))), some (.int (nI ((600 * e) + (tn A 26 e)))), some (.int (vaF A e (tn A 8 op) (tn A 26 e)))] [.int (bb70), .int (nI ((600 * e) + (tn A 26 e))), .ref (ad 23)] := by
    intro bb70 hb70; subst hb70
    refine VR.iastR h (j := 23) (i := (600 * e) + (tn A 26 e)) rfl rfl (by show _ < 7200; omega) (by decide +kernel) ?_
    refine VR.blk h [(.aload_n 0, 1)] (by decide +kernel) (pc' := 72) (ls' := [some (.ref am), some (.int (nI (e))), some (.int (nI (op))), some (.int (bI (b))), some (.int (nI ((600 * e) + (tn A 26 e)))), some (.int (vaF A e (tn A 8 op) (tn A 26 e)))]) (st' := [.ref am]) rfl rfl (Nat.le_of_ble_eq_true rfl) ?_
    refine VR.getA h (j := 24) rfl (Or.inl wf_RX11_63) (by decide +kernel) ?_
    refine VR.blk h [(.iload 4, 2), (.iload_n 3, 1)] (by decide +kernel) (pc' := 78) (ls' := [some (.ref am), some (.int (nI (e))), some (.int (nI (op))), some (.int (bI (b))), some (.int (nI ((600 * e) + (tn A 26 e)))), some (.int (vaF A e (tn A 8 op) (tn A 26 e)))]) (st' := [.int (bI (b)), .int (nI ((600 * e) + (tn A 26 e))), .ref (ad 24)]) rfl rfl (Nat.le_of_ble_eq_true rfl) ?_
    refine VR.bast h (j := 24) (i := (600 * e) + (tn A 26 e)) rfl rfl (by show _ < 7200; omega) (by decide +kernel) ?_
    refine VR.blk h [(.aload_n 0, 1)] (by decide +kernel) (pc' := 80) (ls' := [some (.ref am), some (.int (nI (e))), some (.int (nI (op))), some (.int (bI (b))), some (.int (nI ((600 * e) + (tn A 26 e)))), some (.int (vaF A e (tn A 8 op) (tn A 26 e)))]) (st' := [.ref am]) rfl rfl (Nat.le_of_ble_eq_true rfl) ?_
    refine VR.getA h (j := 25) rfl (Or.inl wf_RX11_66) (by decide +kernel) ?_
    refine VR.blk h [(.iload 4, 2), (.iconst 0, 1)] (by decide +kernel) (pc' := 86) (ls' := [some (.ref am), some (.int (nI (e))), some (.int (nI (op))), some (.int (bI (b))), some (.int (nI ((600 * e) + (tn A 26 e)))), some (.int (vaF A e (tn A 8 op) (tn A 26 e)))]) (st' := [.int (nI (0)), .int (nI ((600 * e) + (tn A 26 e))), .ref (ad 25)]) rfl rfl (Nat.le_of_ble_eq_true rfl) ?_
    refine VR.bast h (j := 25) (i := (600 * e) + (tn A 26 e)) (v := false) rfl rfl (by show _ < 7200; omega) (by decide +kernel) ?_
    refine VR.blk h [(.aload_n 0, 1)] (by decide +kernel) (pc' := 88) (ls' := [some (.ref am), some (.int (nI (e))), some (.int (nI (op))), some (.int (bI (b))), some (.int (nI ((600 * e) + (tn A 26 e)))), some (.int (vaF A e (tn A 8 op) (tn A 26 e)))]) (st' := [.ref am]) rfl rfl (Nat.le_of_ble_eq_true rfl) ?_
    refine VR.getA h (j := 26) rfl (Or.inl wf_RX11_69) (by decide +kernel) ?_
    refine VR.blk h [(.iload_n 1, 1), (.dup2, 1)] (by decide +kernel) (pc' := 93) (ls' := [some (.ref am), some (.int (nI (e))), some (.int (nI (op))), some (.int (bI (b))), some (.int (nI ((600 * e) + (tn A 26 e)))), some (.int (vaF A e (tn A 8 op) (tn A 26 e)))]) (st' := [.int (nI (e)), .ref (ad 26), .int (nI (e)), .ref (ad 26)]) rfl rfl (Nat.le_of_ble_eq_true rfl) ?_
    refine VR.iald h (j := 26) (i := e) rfl rfl (by show _ < 12; omega) (by decide +kernel) (v := (nI (tn A 26 e))) (mval_1 rfl) ?_
    have nb43 := hB.2 26 e
    refine VR.blk h [(.iconst 1, 1)] (by decide +kernel) (pc' := 95) (ls' := [some (.ref am), some (.int (nI (e))), some (.int (nI (op))), some (.int (bI (b))), some (.int (nI ((600 * e) + (tn A 26 e)))), some (.int (vaF A e (tn A 8 op) (tn A 26 e)))]) (st' := [.int (nI (1)), .int (nI (tn A 26 e)), .int (nI (e)), .ref (ad 26)]) rfl rfl (Nat.le_of_ble_eq_true rfl) ?_
    refine VR.addN h (by decide +kernel) (Nat.le_of_ble_eq_true rfl) ?_
    refine VR.iastN h (j := 26) (i := e) rfl rfl (by show _ < 12; omega) (by decide +kernel) ?_
    exact VR.vret h hA hQ hr rfl rfl (by decide +kernel)
  refine VR.blk h [(.aload_n 0, 1)] (by decide +kernel) (pc' := 48) (ls' := [some (.ref am), some (.int (nI (e))), some (.int (nI (op))), some (.int (bI (b))), some (.int (nI ((600 * e) + (tn A 26 e)))), some (.int (vaF A e (tn A 8 op) (tn A 26 e)))]) (st' := [.ref am, .int (nI ((600 * e) + (tn A 26 e))), .ref (ad 23)]) rfl rfl (Nat.le_of_ble_eq_true rfl) ?_
  refine VR.getA h (j := 7) rfl (Or.inl wf_RX11_20) (by decide +kernel) ?_
  refine VR.blk h [(.iload_n 2, 1)] (by decide +kernel) (pc' := 52) (ls' := [some (.ref am), some (.int (nI (e))), some (.int (nI (op))), some (.int (bI (b))), some (.int (nI ((600 * e) + (tn A 26 e)))), some (.int (vaF A e (tn A 8 op) (tn A 26 e)))]) (st' := [.int (nI (op)), .ref (ad 7), .int (nI ((600 * e) + (tn A 26 e))), .ref (ad 23)]) rfl rfl (Nat.le_of_ble_eq_true rfl) ?_
  refine VR.iald h (j := 7) (i := op) rfl rfl (by show _ < 600; omega) (by decide +kernel) (v := (nI (tn A 7 op))) (mval_1 rfl) ?_
  have nb52 := hB.2 7 op
  refine VR.if_ne h (off := 8) (by decide +kernel) (tgt := 61) (by decide) (fun q => ?_) (fun q => ?_)
  · have q53_53 : ¬ _ := (fun z => q ((nI_z_eq (by omega)).mpr z))
    clear q
    refine VR.blk h [(.iload 5, 2), (.aload_n 0, 1)] (by decide +kernel) (pc' := 64) (ls' := [some (.ref am), some (.int (nI (e))), some (.int (nI (op))), some (.int (bI (b))), some (.int (nI ((600 * e) + (tn A 26 e)))), some (.int (vaF A e (tn A 8 op) (tn A 26 e)))]) (st' := [.ref am, .int (vaF A e (tn A 8 op) (tn A 26 e)), .int (nI ((600 * e) + (tn A 26 e))), .ref (ad 23)]) rfl rfl (Nat.le_of_ble_eq_true rfl) ?_
    refine VR.getA h (j := 9) rfl (Or.inl wf_RX11_26) (by decide +kernel) ?_
    refine VR.blk h [(.iload_n 2, 1)] (by decide +kernel) (pc' := 68) (ls' := [some (.ref am), some (.int (nI (e))), some (.int (nI (op))), some (.int (bI (b))), some (.int (nI ((600 * e) + (tn A 26 e)))), some (.int (vaF A e (tn A 8 op) (tn A 26 e)))]) (st' := [.int (nI (op)), .ref (ad 9), .int (vaF A e (tn A 8 op) (tn A 26 e)), .int (nI ((600 * e) + (tn A 26 e))), .ref (ad 23)]) rfl rfl (Nat.le_of_ble_eq_true rfl) ?_
    refine VR.iald h (j := 9) (i := op) rfl rfl (by show _ < 600; omega) (by decide +kernel) (v := (tr A 9 op)) (mval_3 rfl) ?_
    refine VR.blk h [(.iadd, 1)] (by decide +kernel) (pc' := 70) (ls' := [some (.ref am), some (.int (nI (e))), some (.int (nI (op))), some (.int (bI (b))), some (.int (nI ((600 * e) + (tn A 26 e)))), some (.int (vaF A e (tn A 8 op) (tn A 26 e)))]) (st' := [.int ((vaF A e (tn A 8 op) (tn A 26 e)) + (tr A 9 op)), .int (nI ((600 * e) + (tn A 26 e))), .ref (ad 23)]) rfl rfl (Nat.le_of_ble_eq_true rfl) ?_
    exact join70 _ (by first | exact (if_pos q53_53).symm | exact (if_neg q53_53).symm | exact (if_neg (by omega)).symm | exact (if_pos (by omega)).symm | exact (if_neg (by rw [q53_53]; decide)).symm)
  · have q53_53 := ((nI_z_eq (by omega)).mp q)
    clear q
    refine VR.blk h [(.iload 5, 2)] (by decide +kernel) (pc' := 58) (ls' := [some (.ref am), some (.int (nI (e))), some (.int (nI (op))), some (.int (bI (b))), some (.int (nI ((600 * e) + (tn A 26 e)))), some (.int (vaF A e (tn A 8 op) (tn A 26 e)))]) (st' := [.int (vaF A e (tn A 8 op) (tn A 26 e)), .int (nI ((600 * e) + (tn A 26 e))), .ref (ad 23)]) rfl rfl (Nat.le_of_ble_eq_true rfl) ?_
    refine VR.goto h (off := 12) (tgt := 70) (by decide +kernel) (by decide) ?_
    exact join70 _ (by first | exact (if_pos q53_53).symm | exact (if_neg q53_53).symm | exact (if_neg (by omega)).symm | exact (if_pos (by omega)).symm | exact (if_neg (by rw [q53_53]; decide)).symm)

set_option maxRecDepth 100000 in
set_option maxHeartbeats 4000000 in
theorem r_leastKnown {l : Launch} {D : va_G} {tc : Nat → ClassId} {am : Nat} {ad : Nat → Nat} (hls : l.stackTraces = false) (A : TS) (e K : Nat) (he : e < 12) (hf : tf A 1 ≤ 3) (hf1 : 1 ≤ tf A 1) (hB : NB K A) (hK : K < 2000000000) : RM l D tc am ad yX11_leastKnown cX11_leastKnown 4 (some .int) 0 [.ref am, .int (nI (e))] A (some (.int (oI (lkF A e (tf A 1 - 1))))) (A) := by
  refine RM.of hls (by decide +kernel) (by simp [Value.category]) (Nat.le_of_ble_eq_true rfl) (fun A0 p e9 s m args below meth c S0 sz Q h hr hA hQ => ?_)
  refine VR.eqL (ls' := [some (.ref am), some (.int (nI (e))), none, none]) rfl ?_
  refine VR.blk h [(.aload_n 0, 1)] (by decide +kernel) (pc' := 1) (ls' := [some (.ref am), some (.int (nI (e))), none, none]) (st' := [.ref am]) rfl rfl (Nat.le_of_ble_eq_true rfl) ?_
  refine VR.getA h (j := 32) rfl (Or.inl wf_RX11_87) (by decide +kernel) ?_
  refine VR.blk h [(.iconst 3, 1), (.iload_n 1, 1)] (by decide +kernel) (pc' := 6) (ls' := [some (.ref am), some (.int (nI (e))), none, none]) (st' := [.int (nI (e)), .int (nI (3)), .ref (ad 32)]) rfl rfl (Nat.le_of_ble_eq_true rfl) ?_
  refine VR.mulN h (by decide +kernel) (Nat.le_of_ble_eq_true rfl) ?_
  refine VR.iald h (j := 32) (i := 3 * e) rfl rfl (by show _ < 36; omega) (by decide +kernel) (v := (oI (tn A 32 (3 * e)))) (mval_2 rfl) ?_
  have nb6 := hB.2 32 (3 * e)
  refine VR.blk h [(.istore_n 2, 1), (.iconst 1, 1), (.istore_n 3, 1)] (by decide +kernel) (pc' := 11) (ls' := [some (.ref am), some (.int (nI (e))), some (.int (oI (tn A 32 (3 * e)))), some (.int (nI (1)))]) (st' := []) rfl rfl (Nat.le_of_ble_eq_true rfl) ?_
  have loop11 : ∀ (t k : Nat), tf A 1 - k = t → k ≤ tf A 1 → 1 ≤ k → VR l D tc A0 p e9 (rmd 0 0 0) s m args below meth c 4 Q am ad A 11 [some (.ref am), some (.int (nI (e))), some (.int (oI (lkF A e (k - 1)))), some (.int (nI (k)))] [] := by
    intro t; induction t using Nat.strongRecOn with
    | _ t ih11 =>
      intro k ht11 hk11 hlo11
      have lkb := lkF_le hB (e := e) (k - 1)
      refine VR.blk h [(.iload_n 3, 1), (.aload_n 0, 1)] (by decide +kernel) (pc' := 13) (ls' := [some (.ref am), some (.int (nI (e))), some (.int (oI (lkF A e (k - 1)))), some (.int (nI (k)))]) (st' := [.ref am, .int (nI (k))]) rfl rfl (Nat.le_of_ble_eq_true rfl) ?_
      refine VR.getI h (j := 1) rfl (Or.inl wf_RX11_151) (by decide +kernel) (v := tf A 1) rfl ?_
      refine VR.icmp_ge h (off := 38) (by decide +kernel) (tgt := 54) (by decide) (fun q => ?_) (fun q => ?_)
      · have q16_15 := ((nI_leI (by omega) (by omega)).mp q)
        clear q
        refine VR.blk h [(.iload_n 2, 1)] (by decide +kernel) (pc' := 55) (ls' := [some (.ref am), some (.int (nI (e))), some (.int (oI (lkF A e (k - 1)))), some (.int (nI (k)))]) (st' := [.int (oI (lkF A e (k - 1)))]) rfl rfl (Nat.le_of_ble_eq_true rfl) ?_
        exact VR.iret h hA hQ hr rfl (by rw [show k = tf A 1 by omega]) rfl (by decide +kernel)
      · have q16_15 : ¬ _ := (fun z => q ((nI_leI (by omega) (by omega)).mpr z))
        clear q
        have join47 : ∀ bb47 : Nat, bb47 = (if tn A 32 (3 * e + k) < lkF A e (k - 1) then tn A 32 (3 * e + k) else lkF A e (k - 1)) → VR l D tc A0 p e9 (rmd 0 0 0) s m args below meth c 4 Q am ad A 47 [some (.ref am), some (.int (nI (e))), some (.int (oI (lkF A e (k - 1)))), some (.int (nI (k)))] [.int (oI (bb47))] := by
          intro bb47 hb47; subst hb47
          refine VR.blk h [(.istore_n 2, 1)] (by decide +kernel) (pc' := 48) (ls' := [some (.ref am), some (.int (nI (e))), some (.int (oI ((if tn A 32 (3 * e + k) < lkF A e (k - 1) then tn A 32 (3 * e + k) else lkF A e (k - 1))))), some (.int (nI (k)))]) (st' := []) rfl rfl (Nat.le_of_ble_eq_true rfl) ?_
          refine VR.incN h (x := k) (i := 3) (by decide +kernel) rfl (Nat.le_of_ble_eq_true rfl) ?_
          refine VR.eqL (ls' := [some (.ref am), some (.int (nI (e))), some (.int (oI ((if tn A 32 (3 * e + k) < lkF A e (k - 1) then tn A 32 (3 * e + k) else lkF A e (k - 1))))), some (.int (nI (k + 1)))]) rfl ?_
          refine VR.goto h (off := -40) (tgt := 11) (by decide +kernel) (by decide) ?_
          refine VR.eqL (ls' := [some (.ref am), some (.int (nI (e))), some (.int (oI (lkF A e ((k + 1) - 1)))), some (.int (nI ((k + 1))))]) (by obtain ⟨w, rfl⟩ : ∃ w, k = w + 1 := ⟨k - 1, by omega⟩; rfl) ?_
          exact ih11 (tf A 1 - (k + 1)) (by omega) (k + 1) rfl (by omega) (by omega)
        refine VR.blk h [(.aload_n 0, 1)] (by decide +kernel) (pc' := 20) (ls' := [some (.ref am), some (.int (nI (e))), some (.int (oI (lkF A e (k - 1)))), some (.int (nI (k)))]) (st' := [.ref am]) rfl rfl (Nat.le_of_ble_eq_true rfl) ?_
        refine VR.getA h (j := 32) rfl (Or.inl wf_RX11_87) (by decide +kernel) ?_
        refine VR.blk h [(.iconst 3, 1), (.iload_n 1, 1)] (by decide +kernel) (pc' := 25) (ls' := [some (.ref am), some (.int (nI (e))), some (.int (oI (lkF A e (k - 1)))), some (.int (nI (k)))]) (st' := [.int (nI (e)), .int (nI (3)), .ref (ad 32)]) rfl rfl (Nat.le_of_ble_eq_true rfl) ?_
        refine VR.mulN h (by decide +kernel) (Nat.le_of_ble_eq_true rfl) ?_
        refine VR.blk h [(.iload_n 3, 1)] (by decide +kernel) (pc' := 27) (ls' := [some (.ref am), some (.int (nI (e))), some (.int (oI (lkF A e (k - 1)))), some (.int (nI (k)))]) (st' := [.int (nI (k)), .int (nI (3 * e)), .ref (ad 32)]) rfl rfl (Nat.le_of_ble_eq_true rfl) ?_
        refine VR.addN h (by decide +kernel) (Nat.le_of_ble_eq_true rfl) ?_
        refine VR.iald h (j := 32) (i := (3 * e) + k) rfl rfl (by show _ < 36; omega) (by decide +kernel) (v := (oI (tn A 32 ((3 * e) + k)))) (mval_2 rfl) ?_
        have nb37 := hB.2 32 ((3 * e) + k)
        refine VR.blk h [(.iload_n 2, 1)] (by decide +kernel) (pc' := 30) (ls' := [some (.ref am), some (.int (nI (e))), some (.int (oI (lkF A e (k - 1)))), some (.int (nI (k)))]) (st' := [.int (oI (lkF A e (k - 1))), .int (oI (tn A 32 ((3 * e) + k)))]) rfl rfl (Nat.le_of_ble_eq_true rfl) ?_
        refine VR.icmp_ge h (off := 16) (by decide +kernel) (tgt := 46) (by decide) (fun q => ?_) (fun q => ?_)
        · have q30_39 := ((oI_le (by omega) (by omega)).mp q)
          clear q
          refine VR.blk h [(.iload_n 2, 1)] (by decide +kernel) (pc' := 47) (ls' := [some (.ref am), some (.int (nI (e))), some (.int (oI (lkF A e (k - 1)))), some (.int (nI (k)))]) (st' := [.int (oI (lkF A e (k - 1)))]) rfl rfl (Nat.le_of_ble_eq_true rfl) ?_
          exact join47 _ (by first | exact (if_pos q30_39).symm | exact (if_neg q30_39).symm | exact (if_neg (by omega)).symm | exact (if_pos (by omega)).symm | exact (if_neg (by rw [q30_39]; decide)).symm)
        · have q30_39 : ¬ _ := (fun z => q ((oI_le (by omega) (by omega)).mpr z))
          clear q
          refine VR.blk h [(.aload_n 0, 1)] (by decide +kernel) (pc' := 34) (ls' := [some (.ref am), some (.int (nI (e))), some (.int (oI (lkF A e (k - 1)))), some (.int (nI (k)))]) (st' := [.ref am]) rfl rfl (Nat.le_of_ble_eq_true rfl) ?_
          refine VR.getA h (j := 32) rfl (Or.inl wf_RX11_87) (by decide +kernel) ?_
          refine VR.blk h [(.iconst 3, 1), (.iload_n 1, 1)] (by decide +kernel) (pc' := 39) (ls' := [some (.ref am), some (.int (nI (e))), some (.int (oI (lkF A e (k - 1)))), some (.int (nI (k)))]) (st' := [.int (nI (e)), .int (nI (3)), .ref (ad 32)]) rfl rfl (Nat.le_of_ble_eq_true rfl) ?_
          refine VR.mulN h (by decide +kernel) (Nat.le_of_ble_eq_true rfl) ?_
          refine VR.blk h [(.iload_n 3, 1)] (by decide +kernel) (pc' := 41) (ls' := [some (.ref am), some (.int (nI (e))), some (.int (oI (lkF A e (k - 1)))), some (.int (nI (k)))]) (st' := [.int (nI (k)), .int (nI (3 * e)), .ref (ad 32)]) rfl rfl (Nat.le_of_ble_eq_true rfl) ?_
          refine VR.addN h (by decide +kernel) (Nat.le_of_ble_eq_true rfl) ?_
          refine VR.iald h (j := 32) (i := (3 * e) + k) rfl rfl (by show _ < 36; omega) (by decide +kernel) (v := (oI (tn A 32 ((3 * e) + k)))) (mval_2 rfl) ?_
          have nb53 := hB.2 32 ((3 * e) + k)
          refine VR.goto h (off := 4) (tgt := 47) (by decide +kernel) (by decide) ?_
          exact join47 _ (by first | exact (if_pos q30_39).symm | exact (if_neg q30_39).symm | exact (if_neg (by omega)).symm | exact (if_pos (by omega)).symm | exact (if_neg (by rw [q30_39]; decide)).symm)
  refine VR.eqL (ls' := [some (.ref am), some (.int (nI (e))), some (.int (oI (lkF A e (1 - 1)))), some (.int (nI (1)))]) rfl ?_
  exact loop11 _ 1 rfl hf1 (Nat.le_refl _)
