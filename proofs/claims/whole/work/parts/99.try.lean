set_option maxRecDepth 100000 in
set_option maxHeartbeats 4000000 in
theorem r_place {l : Launch} {D : va_G} {tc : Nat → ClassId} {am : Nat} {ad : Nat → Nat} (hls : l.stackTraces = false) (A : TS) (e op K : Nat) (he : e < 12) (hm : tn A 26 e ≤ 600) (hB : NB K A) (hK : K < 2000000000) (ho : op < 2000000000) : RM l D tc am ad yX11_place cX11_place 5 (some .int) 0 [.ref am, .int (nI (e)), .int (nI (op))] A (some (.int (oI (placeF A e op)))) (A) := by
  refine RM.of hls (by decide +kernel) (by simp [Value.category]) (Nat.le_of_ble_eq_true rfl) (fun A0 p e9 s m args below meth c S0 sz Q h hr hA hQ => ?_)
  have hb26 := hB.2 26 e
  refine VR.eqL (ls' := [some (.ref am), some (.int (nI (e))), some (.int (nI (op))), none, none]) rfl ?_
  refine VR.m1 h (by decide +kernel) (Nat.le_of_ble_eq_true rfl) ?_
  refine VR.blk h [(.istore_n 3, 1), (.iconst 0, 1), (.istore 4, 2)] (by decide +kernel) (pc' := 5) (ls' := [some (.ref am), some (.int (nI (e))), some (.int (nI (op))), some (.int (oI (0))), some (.int (nI (0)))]) (st' := []) rfl rfl (Nat.le_of_ble_eq_true rfl) ?_
  have loop5 : ∀ (t k : Nat), tn A 26 e - k = t → k ≤ tn A 26 e → VR l D tc A0 p e9 (rmd 0 0 0) s m args below meth c 5 Q am ad A 5 [some (.ref am), some (.int (nI (e))), some (.int (nI (op))), some (.int (oI (plF A e op k))), some (.int (nI (k)))] [] := by
    intro t; induction t using Nat.strongRecOn with
    | _ t ih5 =>
      intro k ht5 hk5
      refine VR.blk h [(.iload 4, 2), (.aload_n 0, 1)] (by decide +kernel) (pc' := 8) (ls' := [some (.ref am), some (.int (nI (e))), some (.int (nI (op))), some (.int (oI (plF A e op k))), some (.int (nI (k)))]) (st' := [.ref am, .int (nI (k))]) rfl rfl (Nat.le_of_ble_eq_true rfl) ?_
      refine VR.getA h (j := 26) rfl (Or.inl wf_RX11_69) (by decide +kernel) ?_
      refine VR.blk h [(.iload_n 1, 1)] (by decide +kernel) (pc' := 12) (ls' := [some (.ref am), some (.int (nI (e))), some (.int (nI (op))), some (.int (oI (plF A e op k))), some (.int (nI (k)))]) (st' := [.int (nI (e)), .ref (ad 26), .int (nI (k))]) rfl rfl (Nat.le_of_ble_eq_true rfl) ?_
      refine VR.iald h (j := 26) (i := e) rfl rfl (by show _ < 12; omega) (by decide +kernel) (v := (nI (tn A 26 e))) (mval_1 rfl) ?_
      have nb12 := hB.2 26 e
      refine VR.icmp_ge h (off := 29) (by decide +kernel) (tgt := 42) (by decide) (fun q => ?_) (fun q => ?_)
      · have q13_13 := ((nI_leI (by omega) (by omega)).mp q)
        clear q
        refine VR.blk h [(.iload_n 3, 1)] (by decide +kernel) (pc' := 43) (ls' := [some (.ref am), some (.int (nI (e))), some (.int (nI (op))), some (.int (oI (plF A e op k))), some (.int (nI (k)))]) (st' := [.int (oI (plF A e op k))]) rfl rfl (Nat.le_of_ble_eq_true rfl) ?_
        exact VR.iret h hA hQ hr rfl (by rw [placeF, show k = tn A 26 e by omega]) rfl (by decide +kernel)
      · have q13_13 : ¬ _ := (fun z => q ((nI_leI (by omega) (by omega)).mpr z))
        clear q
        refine VR.blk h [(.aload_n 0, 1)] (by decide +kernel) (pc' := 17) (ls' := [some (.ref am), some (.int (nI (e))), some (.int (nI (op))), some (.int (oI (plF A e op k))), some (.int (nI (k)))]) (st' := [.ref am]) rfl rfl (Nat.le_of_ble_eq_true rfl) ?_
        refine VR.getA h (j := 22) rfl (Or.inl wf_RX11_57) (by decide +kernel) ?_
        refine VR.blk h [(.sipush 600, 3), (.iload_n 1, 1)] (by decide +kernel) (pc' := 24) (ls' := [some (.ref am), some (.int (nI (e))), some (.int (nI (op))), some (.int (oI (plF A e op k))), some (.int (nI (k)))]) (st' := [.int (nI (e)), .int (nI (600)), .ref (ad 22)]) rfl rfl (Nat.le_of_ble_eq_true rfl) ?_
        refine VR.mulN h (by decide +kernel) (Nat.le_of_ble_eq_true rfl) ?_
        refine VR.blk h [(.iload 4, 2)] (by decide +kernel) (pc' := 27) (ls' := [some (.ref am), some (.int (nI (e))), some (.int (nI (op))), some (.int (oI (plF A e op k))), some (.int (nI (k)))]) (st' := [.int (nI (k)), .int (nI (600 * e)), .ref (ad 22)]) rfl rfl (Nat.le_of_ble_eq_true rfl) ?_
        refine VR.addN h (by decide +kernel) (Nat.le_of_ble_eq_true rfl) ?_
        refine VR.iald h (j := 22) (i := (600 * e) + k) rfl rfl (by show _ < 7200; omega) (by decide +kernel) (v := (nI (tn A 22 ((600 * e) + k)))) (mval_1 rfl) ?_
        have nb27 := hB.2 22 ((600 * e) + k)
        refine VR.blk h [(.iload_n 2, 1)] (by decide +kernel) (pc' := 30) (ls' := [some (.ref am), some (.int (nI (e))), some (.int (nI (op))), some (.int (oI (plF A e op k))), some (.int (nI (k)))]) (st' := [.int (nI (op)), .int (nI (tn A 22 ((600 * e) + k)))]) rfl rfl (Nat.le_of_ble_eq_true rfl) ?_
        refine VR.icmp_ne h (off := 6) (by decide +kernel) (tgt := 36) (by decide) (fun q => ?_) (fun q => ?_)
        · have q30_29 : ¬ _ := (fun z => q ((nI_eq (by omega) (by omega)).mpr z))
          clear q
          refine VR.incN h (x := k) (i := 4) (by decide +kernel) rfl (Nat.le_of_ble_eq_true rfl) ?_
          refine VR.eqL (ls' := [some (.ref am), some (.int (nI (e))), some (.int (nI (op))), some (.int (oI (plF A e op k))), some (.int (nI (k + 1)))]) rfl ?_
          refine VR.goto h (off := -34) (tgt := 5) (by decide +kernel) (by decide) ?_
          refine VR.eqL (ls' := [some (.ref am), some (.int (nI (e))), some (.int (nI (op))), some (.int (oI (plF A e op ((k + 1))))), some (.int (nI ((k + 1))))]) (by simp only [plF, *, if_true, if_false, oI_s]) ?_
          exact ih5 (tn A 26 e - (k + 1)) (by omega) (k + 1) rfl (by omega)
        · have q30_29 := ((nI_eq (by omega) (by omega)).mp q)
          clear q
          refine VR.blk h [(.iload 4, 2), (.istore_n 3, 1)] (by decide +kernel) (pc' := 36) (ls' := [some (.ref am), some (.int (nI (e))), some (.int (nI (op))), some (.int (nI (k))), some (.int (nI (k)))]) (st' := []) rfl rfl (Nat.le_of_ble_eq_true rfl) ?_
          refine VR.incN h (x := k) (i := 4) (by decide +kernel) rfl (Nat.le_of_ble_eq_true rfl) ?_
          refine VR.eqL (ls' := [some (.ref am), some (.int (nI (e))), some (.int (nI (op))), some (.int (nI (k))), some (.int (nI (k + 1)))]) rfl ?_
          refine VR.goto h (off := -34) (tgt := 5) (by decide +kernel) (by decide) ?_
          refine VR.eqL (ls' := [some (.ref am), some (.int (nI (e))), some (.int (nI (op))), some (.int (oI (plF A e op ((k + 1))))), some (.int (nI ((k + 1))))]) (by simp only [plF, *, if_true, if_false, oI_s]) ?_
          exact ih5 (tn A 26 e - (k + 1)) (by omega) (k + 1) rfl (by omega)
  refine VR.eqL (ls' := [some (.ref am), some (.int (nI (e))), some (.int (nI (op))), some (.int (oI (plF A e op 0))), some (.int (nI (0)))]) rfl ?_
  exact loop5 _ 0 rfl (Nat.zero_le _)

