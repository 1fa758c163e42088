set_option maxRecDepth 100000 in
set_option maxHeartbeats 4000000 in
theorem r_rises {l : Launch} {D : va_G} {tc : Nat → ClassId} {am : Nat} {ad : Nat → Nat} (hls : l.stackTraces = false) (A : TS) (e K : Nat) (he : e < 12) (hB : NB K A) (hK : K < 2000000000) : RM l D tc am ad yX11_rises cX11_rises 3 (none) 0 [.ref am, .int (nI (e))] A (none) (riF A e) := by
  refine RM.of hls (by decide +kernel) (by simp [Value.category]) (Nat.le_of_ble_eq_true rfl) (fun A0 p e9 s m args below meth c S0 sz Q h hr hA hQ => ?_)
  refine VR.eqL (ls' := [some (.ref am), some (.int (nI (e))), none]) rfl ?_
  refine VR.blk h [(.aload_n 0, 1)] (by decide +kernel) (pc' := 1) (ls' := [some (.ref am), some (.int (nI (e))), none]) (st' := [.ref am]) rfl rfl (Nat.le_of_ble_eq_true rfl) ?_
  refine VR.getA h (j := 30) rfl (Or.inl wf_RX11_81) (by decide +kernel) ?_
  refine VR.blk h [(.iload_n 1, 1), (.iconst 1, 1)] (by decide +kernel) (pc' := 6) (ls' := [some (.ref am), some (.int (nI (e))), none]) (st' := [.int (nI (1)), .int (nI (e)), .ref (ad 30)]) rfl rfl (Nat.le_of_ble_eq_true rfl) ?_
  refine VR.bast h (j := 30) (i := e) (v := true) rfl rfl (by show _ < 12; omega) (by decide +kernel) ?_
  refine VR.blk h [(.iconst 0, 1), (.istore_n 2, 1)] (by decide +kernel) (pc' := 9) (ls' := [some (.ref am), some (.int (nI (e))), some (.int (nI (0)))]) (st' := []) rfl rfl (Nat.le_of_ble_eq_true rfl) ?_
  have loop9 : ∀ (t k : Nat), 3 - k = t → k ≤ 3 → VR l D tc A0 p e9 (rmd 0 0 0) s m args below meth c 3 Q am ad (riL A e k) 9 [some (.ref am), some (.int (nI (e))), some (.int (nI (k)))] [] := by
    intro t; induction t using Nat.strongRecOn with
    | _ t ih9 =>
      intro k ht9 hk9
      refine VR.blk h [(.iload_n 2, 1), (.iconst 3, 1)] (by decide +kernel) (pc' := 11) (ls' := [some (.ref am), some (.int (nI (e))), some (.int (nI (k)))]) (st' := [.int (nI (3)), .int (nI (k))]) rfl rfl (Nat.le_of_ble_eq_true rfl) ?_
      refine VR.icmp_ge h (off := 20) (by decide +kernel) (tgt := 31) (by decide) (fun q => ?_) (fun q => ?_)
      · have q11_11 := ((nI_leI (by omega) (by omega)).mp q)
        clear q
        refine VR.blk h [(.aload_n 0, 1), (.iload_n 1, 1), (.iconst 1, 1)] (by decide +kernel) (pc' := 34) (ls' := [some (.ref am), some (.int (nI (e))), some (.int (nI (k)))]) (st' := [.int (nI (1)), .int (nI (e)), .ref am]) rfl rfl (Nat.le_of_ble_eq_true rfl) ?_
        refine VR.addN h (by decide +kernel) (Nat.le_of_ble_eq_true rfl) ?_
        refine VR.putI h (j := 38) rfl rfl rfl (Or.inl wf_RX11_167) (by decide +kernel) ?_
        exact VR.vret h hA hQ hr rfl (by obtain rfl : k = 3 := (by omega); rfl) (by decide +kernel)
      · have q11_11 : ¬ _ := (fun z => q ((nI_leI (by omega) (by omega)).mpr z))
        clear q
        refine VR.blk h [(.aload_n 0, 1)] (by decide +kernel) (pc' := 15) (ls' := [some (.ref am), some (.int (nI (e))), some (.int (nI (k)))]) (st' := [.ref am]) rfl rfl (Nat.le_of_ble_eq_true rfl) ?_
        refine VR.getA h (j := 32) rfl (Or.inl wf_RX11_87) (by decide +kernel) ?_
        refine VR.blk h [(.iconst 3, 1), (.iload_n 1, 1)] (by decide +kernel) (pc' := 20) (ls' := [some (.ref am), some (.int (nI (e))), some (.int (nI (k)))]) (st' := [.int (nI (e)), .int (nI (3)), .ref (ad 32)]) rfl rfl (Nat.le_of_ble_eq_true rfl) ?_
        refine VR.mulN h (by decide +kernel) (Nat.le_of_ble_eq_true rfl) ?_
        refine VR.blk h [(.iload_n 2, 1)] (by decide +kernel) (pc' := 22) (ls' := [some (.ref am), some (.int (nI (e))), some (.int (nI (k)))]) (st' := [.int (nI (k)), .int (nI (3 * e)), .ref (ad 32)]) rfl rfl (Nat.le_of_ble_eq_true rfl) ?_
        refine VR.addN h (by decide +kernel) (Nat.le_of_ble_eq_true rfl) ?_
        refine VR.m1 h (by decide +kernel) (Nat.le_of_ble_eq_true rfl) ?_
        refine VR.iastO h (j := 32) (i := (3 * e) + k) rfl rfl (by show _ < 36; omega) (by decide +kernel) ?_
        refine VR.incN h (x := k) (i := 2) (by decide +kernel) rfl (Nat.le_of_ble_eq_true rfl) ?_
        refine VR.eqL (ls' := [some (.ref am), some (.int (nI (e))), some (.int (nI (k + 1)))]) rfl ?_
        refine VR.goto h (off := -19) (tgt := 9) (by decide +kernel) (by decide) ?_
        refine VR.eqL (ls' := [some (.ref am), some (.int (nI (e))), some (.int (nI ((k + 1))))]) rfl ?_
        exact ih9 (3 - (k + 1)) (by omega) (k + 1) rfl (by omega)
  refine VR.eqL (ls' := [some (.ref am), some (.int (nI (e))), some (.int (nI (0)))]) rfl ?_
  exact loop9 _ 0 rfl (Nat.zero_le _)

set_option maxRecDepth 100000 in
set_option maxHeartbeats 4000000 in
theorem r_answersGets {l : Launch} {D : va_G} {tc : Nat → ClassId} {am : Nat} {ad : Nat → Nat} (hls : l.stackTraces = false) (A : TS) (e K : Nat) (he : e < 12) (hm : tn A 37 e ≤ 600) (hm6 : tn A 26 e ≤ 600) (hf : tf A 1 ≤ 3) (h33 : ∀ i, tn A 33 i ≤ 600) (hwt0 : ∀ k, k < tn A 37 e → tn A 33 (600 * e + k) < 600 ∧ tn A 34 (600 * e + k) ≤ tn A 26 e) (hlo : ∀ k, k < tn A 26 e → tn A 22 (600 * e + k) < 600) (hl : tf A 53 ≤ 250) (hK9 : 7300 ≤ K) (hB : NB K A) (hK : K < 1999990000) : RM l D tc am ad yX11_answersGets cX11_answersGets 6 (none) 2 [.ref am, .int (nI (e))] A (none) (agF A e) := by
  refine RM.of hls (by decide +kernel) (by simp [Value.category]) (Nat.le_of_ble_eq_true rfl) (fun A0 p e9 s m args below meth c S0 sz Q h hr hA hQ => ?_)
  refine VR.eqL (ls' := [some (.ref am), some (.int (nI (e))), none, none, none, none]) rfl ?_
  refine VR.blk h [(.iconst 0, 1), (.istore_n 2, 1), (.iconst 0, 1), (.istore_n 3, 1)] (by decide +kernel) (pc' := 4) (ls' := [some (.ref am), some (.int (nI (e))), some (.int (nI (0))), some (.int (nI (0))), none, none]) (st' := []) rfl rfl (Nat.le_of_ble_eq_true rfl) ?_
  have loop4 : ∀ (t k : Nat), tn A 37 e - k = t → k ≤ tn A 37 e → VR l D tc A0 p e9 (rmd 2 0 0) s m args below meth c 6 Q am ad ((agL A e k).1) 4 [some (.ref am), some (.int (nI (e))), some (.int (nI ((agL A e k).2))), some (.int (nI (k))), none, none] [] := by
    intro t; induction t using Nat.strongRecOn with
    | _ t ih4 =>
      intro k ht4 hk4
      have hBG := agL_NB (e := e) hB hK9 he (agL_op (e := e) h33) k
      have F := agL_inv (e := e) hl k
      rcases hGL : agL A e k with ⟨G, L⟩
      rw [hGL] at F hBG; dsimp only at F hBG ⊢
      obtain ⟨F0, F1, F53, F3, F4, F5, F6⟩ := F
      have f1 := F1 1 (by decide) (by decide)
      have f37 := F3 37 e (by decide) (by decide)
      have f28 := F3 28 e (by decide) (by decide)
      have f33 := F4 33 (600 * e + k) (by decide) (by omega)
      have f34 := F4 34 (600 * e + k) (by decide) (by omega)
      have f26 := F3 26 e (by decide) (by decide)
      refine VR.blk h [(.iload_n 3, 1), (.aload_n 0, 1)] (by decide +kernel) (pc' := 6) (ls' := [some (.ref am), some (.int (nI (e))), some (.int (nI (L))), some (.int (nI (k))), none, none]) (st' := [.ref am, .int (nI (k))]) rfl rfl (Nat.le_of_ble_eq_true rfl) ?_
      refine VR.getA h (j := 37) rfl (Or.inl wf_RX11_102) (by decide +kernel) ?_
      refine VR.blk h [(.iload_n 1, 1)] (by decide +kernel) (pc' := 10) (ls' := [some (.ref am), some (.int (nI (e))), some (.int (nI (L))), some (.int (nI (k))), none, none]) (st' := [.int (nI (e)), .ref (ad 37), .int (nI (k))]) rfl rfl (Nat.le_of_ble_eq_true rfl) ?_
      refine VR.iald h (j := 37) (i := e) rfl rfl (by show _ < 12; omega) (by decide +kernel) (v := (nI (tn G 37 e))) (mval_1 rfl) ?_
      have nb21 := hBG.2 37 e
      refine VR.icmp_ge h (off := 160) (by decide +kernel) (tgt := 171) (by decide) (fun q => ?_) (fun q => ?_)
      · have q11_22 := ((nI_leI (by omega) (by omega)).mp q)
        clear q
        refine VR.blk h [(.aload_n 0, 1)] (by decide +kernel) (pc' := 172) (ls' := [some (.ref am), some (.int (nI (e))), some (.int (nI (L))), some (.int (nI (k))), none, none]) (st' := [.ref am]) rfl rfl (Nat.le_of_ble_eq_true rfl) ?_
        refine VR.getA h (j := 37) rfl (Or.inl wf_RX11_102) (by decide +kernel) ?_
        refine VR.blk h [(.iload_n 1, 1), (.iload_n 2, 1)] (by decide +kernel) (pc' := 177) (ls' := [some (.ref am), some (.int (nI (e))), some (.int (nI (L))), some (.int (nI (k))), none, none]) (st' := [.int (nI (L)), .int (nI (e)), .ref (ad 37)]) rfl rfl (Nat.le_of_ble_eq_true rfl) ?_
        refine VR.iastN h (j := 37) (i := e) rfl rfl (by show _ < 12; omega) (by decide +kernel) ?_
        exact VR.vret h hA hQ hr rfl (by obtain rfl : k = tn A 37 e := (by omega); rw [agF, hGL]) (by decide +kernel)
      · have q11_22 : ¬ _ := (fun z => q ((nI_leI (by omega) (by omega)).mpr z))
        clear q
        have hwt := hwt0 k (by omega)
        refine VR.blk h [(.sipush 600, 3), (.iload_n 1, 1)] (by decide +kernel) (pc' := 18) (ls' := [some (.ref am), some (.int (nI (e))), some (.int (nI (L))), some (.int (nI (k))), none, none]) (st' := [.int (nI (e)), .int (nI (600))]) rfl rfl (Nat.le_of_ble_eq_true rfl) ?_
        refine VR.mulN h (by decide +kernel) (Nat.le_of_ble_eq_true rfl) ?_
        refine VR.blk h [(.iload_n 3, 1)] (by decide +kernel) (pc' := 20) (ls' := [some (.ref am), some (.int (nI (e))), some (.int (nI (L))), some (.int (nI (k))), none, none]) (st' := [.int (nI (k)), .int (nI (600 * e))]) rfl rfl (Nat.le_of_ble_eq_true rfl) ?_
        refine VR.addN h (by decide +kernel) (Nat.le_of_ble_eq_true rfl) ?_
        refine VR.blk h [(.istore 4, 2), (.aload_n 0, 1)] (by decide +kernel) (pc' := 24) (ls' := [some (.ref am), some (.int (nI (e))), some (.int (nI (L))), some (.int (nI (k))), some (.int (nI ((600 * e) + k))), none]) (st' := [.ref am]) rfl rfl (Nat.le_of_ble_eq_true rfl) ?_
        refine VR.getA h (j := 36) rfl (Or.inl wf_RX11_99) (by decide +kernel) ?_
        refine VR.blk h [(.iload 4, 2)] (by decide +kernel) (pc' := 29) (ls' := [some (.ref am), some (.int (nI (e))), some (.int (nI (L))), some (.int (nI (k))), some (.int (nI ((600 * e) + k))), none]) (st' := [.int (nI ((600 * e) + k)), .ref (ad 36)]) rfl rfl (Nat.le_of_ble_eq_true rfl) ?_
        refine VR.iald h (j := 36) (i := (600 * e) + k) rfl rfl (by show _ < 7200; omega) (by decide +kernel) (v := (nI (tn G 36 ((600 * e) + k)))) (mval_1 rfl) ?_
        have nb41 := hBG.2 36 ((600 * e) + k)
        have pw : 2 ^ tf G 1 ≤ 8 := by rw [f1]; exact pow3 hf
        have pw0 : 0 < 2 ^ tf G 1 := Nat.pow_pos (by decide)
        refine VR.blk h [(.iconst 1, 1), (.aload_n 0, 1)] (by decide +kernel) (pc' := 32) (ls' := [some (.ref am), some (.int (nI (e))), some (.int (nI (L))), some (.int (nI (k))), some (.int (nI ((600 * e) + k))), none]) (st' := [.ref am, .int (nI (1)), .int (nI (tn G 36 ((600 * e) + k)))]) rfl rfl (Nat.le_of_ble_eq_true rfl) ?_
        refine VR.getI h (j := 1) rfl (Or.inl wf_RX11_151) (by decide +kernel) (v := tf G 1) rfl ?_
        refine VR.shl1 h (v := nI (2 ^ (tf G 1))) (shl1 (by omega)) (by decide +kernel) ?_
        refine VR.blk h [(.iconst 1, 1)] (by decide +kernel) (pc' := 37) (ls' := [some (.ref am), some (.int (nI (e))), some (.int (nI (L))), some (.int (nI (k))), some (.int (nI ((600 * e) + k))), none]) (st' := [.int (nI (1)), .int (nI (2 ^ (tf G 1))), .int (nI (tn G 36 ((600 * e) + k)))]) rfl rfl (Nat.le_of_ble_eq_true rfl) ?_
        refine VR.subN h (by decide +kernel) (Nat.le_of_ble_eq_true rfl) (by omega) ?_
        refine VR.icmp_ne h (off := 59) (by decide +kernel) (tgt := 97) (by decide) (fun q => ?_) (fun q => ?_)
        · have q38_49 : ¬ _ := (fun z => q ((nI_eq (by omega) (by omega)).mpr z))
          clear q
          refine VR.blk h [(.sipush 600, 3), (.iload_n 1, 1)] (by decide +kernel) (pc' := 101) (ls' := [some (.ref am), some (.int (nI (e))), some (.int (nI (L))), some (.int (nI (k))), some (.int (nI ((600 * e) + k))), none]) (st' := [.int (nI (e)), .int (nI (600))]) rfl rfl (Nat.le_of_ble_eq_true rfl) ?_
          refine VR.mulN h (by decide +kernel) (Nat.le_of_ble_eq_true rfl) ?_
          refine VR.blk h [(.iload_n 2, 1)] (by decide +kernel) (pc' := 103) (ls' := [some (.ref am), some (.int (nI (e))), some (.int (nI (L))), some (.int (nI (k))), some (.int (nI ((600 * e) + k))), none]) (st' := [.int (nI (L)), .int (nI (600 * e))]) rfl rfl (Nat.le_of_ble_eq_true rfl) ?_
          refine VR.addN h (by decide +kernel) (Nat.le_of_ble_eq_true rfl) ?_
          refine VR.blk h [(.istore 5, 2), (.aload_n 0, 1)] (by decide +kernel) (pc' := 107) (ls' := [some (.ref am), some (.int (nI (e))), some (.int (nI (L))), some (.int (nI (k))), some (.int (nI ((600 * e) + k))), some (.int (nI ((600 * e) + L)))]) (st' := [.ref am]) rfl rfl (Nat.le_of_ble_eq_true rfl) ?_
          refine VR.getA h (j := 33) rfl (Or.inl wf_RX11_90) (by decide +kernel) ?_
          refine VR.blk h [(.iload 5, 2), (.aload_n 0, 1)] (by decide +kernel) (pc' := 113) (ls' := [some (.ref am), some (.int (nI (e))), some (.int (nI (L))), some (.int (nI (k))), some (.int (nI ((600 * e) + k))), some (.int (nI ((600 * e) + L)))]) (st' := [.ref am, .int (nI ((600 * e) + L)), .ref (ad 33)]) rfl rfl (Nat.le_of_ble_eq_true rfl) ?_
          refine VR.getA h (j := 33) rfl (Or.inl wf_RX11_90) (by decide +kernel) ?_
          refine VR.blk h [(.iload 4, 2)] (by decide +kernel) (pc' := 118) (ls' := [some (.ref am), some (.int (nI (e))), some (.int (nI (L))), some (.int (nI (k))), some (.int (nI ((600 * e) + k))), some (.int (nI ((600 * e) + L)))]) (st' := [.int (nI ((600 * e) + k)), .ref (ad 33), .int (nI ((600 * e) + L)), .ref (ad 33)]) rfl rfl (Nat.le_of_ble_eq_true rfl) ?_
          have nb33x := hBG.2 8 (tn G 33 (600 * e + k))
          refine VR.iald h (j := 33) (i := (600 * e) + k) rfl rfl (by show _ < 7200; omega) (by decide +kernel) (v := (nI (tn G 33 ((600 * e) + k)))) (mval_1 rfl) ?_
          have nb63 := hBG.2 33 ((600 * e) + k)
          refine VR.iastN h (j := 33) (i := (600 * e) + L) rfl rfl (by show _ < 7200; omega) (by decide +kernel) ?_
          refine VR.blk h [(.aload_n 0, 1)] (by decide +kernel) (pc' := 121) (ls' := [some (.ref am), some (.int (nI (e))), some (.int (nI (L))), some (.int (nI (k))), some (.int (nI ((600 * e) + k))), some (.int (nI ((600 * e) + L)))]) (st' := [.ref am]) rfl rfl (Nat.le_of_ble_eq_true rfl) ?_
          refine VR.getA h (j := 34) rfl (Or.inl wf_RX11_93) (by decide +kernel) ?_
          refine VR.blk h [(.iload 5, 2), (.aload_n 0, 1)] (by decide +kernel) (pc' := 127) (ls' := [some (.ref am), some (.int (nI (e))), some (.int (nI (L))), some (.int (nI (k))), some (.int (nI ((600 * e) + k))), some (.int (nI ((600 * e) + L)))]) (st' := [.ref am, .int (nI ((600 * e) + L)), .ref (ad 34)]) rfl rfl (Nat.le_of_ble_eq_true rfl) ?_
          refine VR.getA h (j := 34) rfl (Or.inl wf_RX11_93) (by decide +kernel) ?_
          refine VR.blk h [(.iload 4, 2)] (by decide +kernel) (pc' := 132) (ls' := [some (.ref am), some (.int (nI (e))), some (.int (nI (L))), some (.int (nI (k))), some (.int (nI ((600 * e) + k))), some (.int (nI ((600 * e) + L)))]) (st' := [.int (nI ((600 * e) + k)), .ref (ad 34), .int (nI ((600 * e) + L)), .ref (ad 34)]) rfl rfl (Nat.le_of_ble_eq_true rfl) ?_
          refine VR.iald h (j := 34) (i := (600 * e) + k) rfl rfl (by show _ < 7200; omega) (by decide +kernel) (v := (nI (tn G 34 ((600 * e) + k)))) (mval_1 rfl) ?_
          have nb71 := hBG.2 34 ((600 * e) + k)
          refine VR.iastN h (j := 34) (i := (600 * e) + L) rfl rfl (by show _ < 7200; omega) (by decide +kernel) ?_
          refine VR.blk h [(.aload_n 0, 1)] (by decide +kernel) (pc' := 135) (ls' := [some (.ref am), some (.int (nI (e))), some (.int (nI (L))), some (.int (nI (k))), some (.int (nI ((600 * e) + k))), some (.int (nI ((600 * e) + L)))]) (st' := [.ref am]) rfl rfl (Nat.le_of_ble_eq_true rfl) ?_
          refine VR.getA h (j := 35) rfl (Or.inl wf_RX11_96) (by decide +kernel) ?_
          refine VR.blk h [(.iload 5, 2), (.aload_n 0, 1)] (by decide +kernel) (pc' := 141) (ls' := [some (.ref am), some (.int (nI (e))), some (.int (nI (L))), some (.int (nI (k))), some (.int (nI ((600 * e) + k))), some (.int (nI ((600 * e) + L)))]) (st' := [.ref am, .int (nI ((600 * e) + L)), .ref (ad 35)]) rfl rfl (Nat.le_of_ble_eq_true rfl) ?_
          refine VR.getA h (j := 35) rfl (Or.inl wf_RX11_96) (by decide +kernel) ?_
          refine VR.blk h [(.iload 4, 2)] (by decide +kernel) (pc' := 146) (ls' := [some (.ref am), some (.int (nI (e))), some (.int (nI (L))), some (.int (nI (k))), some (.int (nI ((600 * e) + k))), some (.int (nI ((600 * e) + L)))]) (st' := [.int (nI ((600 * e) + k)), .ref (ad 35), .int (nI ((600 * e) + L)), .ref (ad 35)]) rfl rfl (Nat.le_of_ble_eq_true rfl) ?_
          refine VR.iald h (j := 35) (i := (600 * e) + k) rfl rfl (by show _ < 7200; omega) (by decide +kernel) (v := (nI (tn G 35 ((600 * e) + k)))) (mval_1 rfl) ?_
          have nb79 := hBG.2 35 ((600 * e) + k)
          refine VR.iastN h (j := 35) (i := (600 * e) + L) rfl rfl (by show _ < 7200; omega) (by decide +kernel) ?_
          refine VR.blk h [(.aload_n 0, 1)] (by decide +kernel) (pc' := 149) (ls' := [some (.ref am), some (.int (nI (e))), some (.int (nI (L))), some (.int (nI (k))), some (.int (nI ((600 * e) + k))), some (.int (nI ((600 * e) + L)))]) (st' := [.ref am]) rfl rfl (Nat.le_of_ble_eq_true rfl) ?_
          refine VR.getA h (j := 36) rfl (Or.inl wf_RX11_99) (by decide +kernel) ?_
          refine VR.blk h [(.iload 5, 2), (.aload_n 0, 1)] (by decide +kernel) (pc' := 155) (ls' := [some (.ref am), some (.int (nI (e))), some (.int (nI (L))), some (.int (nI (k))), some (.int (nI ((600 * e) + k))), some (.int (nI ((600 * e) + L)))]) (st' := [.ref am, .int (nI ((600 * e) + L)), .ref (ad 36)]) rfl rfl (Nat.le_of_ble_eq_true rfl) ?_
          refine VR.getA h (j := 36) rfl (Or.inl wf_RX11_99) (by decide +kernel) ?_
          refine VR.blk h [(.iload 4, 2)] (by decide +kernel) (pc' := 160) (ls' := [some (.ref am), some (.int (nI (e))), some (.int (nI (L))), some (.int (nI (k))), some (.int (nI ((600 * e) + k))), some (.int (nI ((600 * e) + L)))]) (st' := [.int (nI ((600 * e) + k)), .ref (ad 36), .int (nI ((600 * e) + L)), .ref (ad 36)]) rfl rfl (Nat.le_of_ble_eq_true rfl) ?_
          refine VR.iald h (j := 36) (i := (600 * e) + k) rfl rfl (by show _ < 7200; omega) (by decide +kernel) (v := (nI (tn G 36 ((600 * e) + k)))) (mval_1 rfl) ?_
          have nb87 := hBG.2 36 ((600 * e) + k)
          refine VR.iastN h (j := 36) (i := (600 * e) + L) rfl rfl (by show _ < 7200; omega) (by decide +kernel) ?_
          refine VR.incN h (x := L) (i := 2) (by decide +kernel) rfl (Nat.le_of_ble_eq_true rfl) ?_
          refine VR.eqL (ls' := [some (.ref am), some (.int (nI (e))), some (.int (nI (L + 1))), some (.int (nI (k))), some (.int (nI ((600 * e) + k))), some (.int (nI ((600 * e) + L)))]) rfl ?_
          refine VR.incN h (x := k) (i := 3) (by decide +kernel) rfl (Nat.le_of_ble_eq_true rfl) ?_
          refine VR.eqL (ls' := [some (.ref am), some (.int (nI (e))), some (.int (nI (L + 1))), some (.int (nI (k + 1))), some (.int (nI ((600 * e) + k))), some (.int (nI ((600 * e) + L)))]) rfl ?_
          refine VR.goto h (off := -164) (tgt := 4) (by decide +kernel) (by decide) ?_
          refine VR.eqA (A' := ((agL A e ((k + 1))).1)) (by rw [agL, hGL]; unfold agS; dsimp only; rw [if_neg (by omega)]) ?_
          refine VR.drop 4 (ls' := [some (.ref am), some (.int (nI (e))), some (.int (nI (L + 1))), some (.int (nI (k + 1))), none, some (.int (nI ((600 * e) + L)))]) rfl ?_
          refine VR.drop 5 (ls' := [some (.ref am), some (.int (nI (e))), some (.int (nI (L + 1))), some (.int (nI (k + 1))), none, none]) rfl ?_
          refine VR.eqL (ls' := [some (.ref am), some (.int (nI (e))), some (.int (nI ((agL A e ((k + 1))).2))), some (.int (nI ((k + 1)))), none, none]) (by rw [agL, hGL]; unfold agS; dsimp only; rw [if_neg (by omega)]) ?_
          exact ih4 (tn A 37 e - (k + 1)) (by omega) (k + 1) rfl (by omega)
        · have q38_49 := ((nI_eq (by omega) (by omega)).mp q)
          clear q
          refine VR.blk h [(.aload_n 0, 1)] (by decide +kernel) (pc' := 42) (ls' := [some (.ref am), some (.int (nI (e))), some (.int (nI (L))), some (.int (nI (k))), some (.int (nI ((600 * e) + k))), none]) (st' := [.ref am]) rfl rfl (Nat.le_of_ble_eq_true rfl) ?_
          refine VR.getA h (j := 34) rfl (Or.inl wf_RX11_93) (by decide +kernel) ?_
          refine VR.blk h [(.iload 4, 2)] (by decide +kernel) (pc' := 47) (ls' := [some (.ref am), some (.int (nI (e))), some (.int (nI (L))), some (.int (nI (k))), some (.int (nI ((600 * e) + k))), none]) (st' := [.int (nI ((600 * e) + k)), .ref (ad 34)]) rfl rfl (Nat.le_of_ble_eq_true rfl) ?_
          refine VR.iald h (j := 34) (i := (600 * e) + k) rfl rfl (by show _ < 7200; omega) (by decide +kernel) (v := (nI (tn G 34 ((600 * e) + k)))) (mval_1 rfl) ?_
          have nb105 := hBG.2 34 ((600 * e) + k)
          refine VR.blk h [(.aload_n 0, 1)] (by decide +kernel) (pc' := 49) (ls' := [some (.ref am), some (.int (nI (e))), some (.int (nI (L))), some (.int (nI (k))), some (.int (nI ((600 * e) + k))), none]) (st' := [.ref am, .int (nI (tn G 34 ((600 * e) + k)))]) rfl rfl (Nat.le_of_ble_eq_true rfl) ?_
          refine VR.getA h (j := 28) rfl (Or.inl wf_RX11_75) (by decide +kernel) ?_
          refine VR.blk h [(.iload_n 1, 1)] (by decide +kernel) (pc' := 53) (ls' := [some (.ref am), some (.int (nI (e))), some (.int (nI (L))), some (.int (nI (k))), some (.int (nI ((600 * e) + k))), none]) (st' := [.int (nI (e)), .ref (ad 28), .int (nI (tn G 34 ((600 * e) + k)))]) rfl rfl (Nat.le_of_ble_eq_true rfl) ?_
          refine VR.iald h (j := 28) (i := e) rfl rfl (by show _ < 12; omega) (by decide +kernel) (v := (nI (tn G 28 e))) (mval_1 rfl) ?_
          have nb110 := hBG.2 28 e
          refine VR.icmp_gt h (off := 43) (by decide +kernel) (tgt := 97) (by decide) (fun q => ?_) (fun q => ?_)
          · have q54_111 := ((nI_ltI (by omega) (by omega)).mp q)
            clear q
            refine VR.blk h [(.sipush 600, 3), (.iload_n 1, 1)] (by decide +kernel) (pc' := 101) (ls' := [some (.ref am), some (.int (nI (e))), some (.int (nI (L))), some (.int (nI (k))), some (.int (nI ((600 * e) + k))), none]) (st' := [.int (nI (e)), .int (nI (600))]) rfl rfl (Nat.le_of_ble_eq_true rfl) ?_
            refine VR.mulN h (by decide +kernel) (Nat.le_of_ble_eq_true rfl) ?_
            refine VR.blk h [(.iload_n 2, 1)] (by decide +kernel) (pc' := 103) (ls' := [some (.ref am), some (.int (nI (e))), some (.int (nI (L))), some (.int (nI (k))), some (.int (nI ((600 * e) + k))), none]) (st' := [.int (nI (L)), .int (nI (600 * e))]) rfl rfl (Nat.le_of_ble_eq_true rfl) ?_
            refine VR.addN h (by decide +kernel) (Nat.le_of_ble_eq_true rfl) ?_
            refine VR.blk h [(.istore 5, 2), (.aload_n 0, 1)] (by decide +kernel) (pc' := 107) (ls' := [some (.ref am), some (.int (nI (e))), some (.int (nI (L))), some (.int (nI (k))), some (.int (nI ((600 * e) + k))), some (.int (nI ((600 * e) + L)))]) (st' := [.ref am]) rfl rfl (Nat.le_of_ble_eq_true rfl) ?_
            refine VR.getA h (j := 33) rfl (Or.inl wf_RX11_90) (by decide +kernel) ?_
            refine VR.blk h [(.iload 5, 2), (.aload_n 0, 1)] (by decide +kernel) (pc' := 113) (ls' := [some (.ref am), some (.int (nI (e))), some (.int (nI (L))), some (.int (nI (k))), some (.int (nI ((600 * e) + k))), some (.int (nI ((600 * e) + L)))]) (st' := [.ref am, .int (nI ((600 * e) + L)), .ref (ad 33)]) rfl rfl (Nat.le_of_ble_eq_true rfl) ?_
            refine VR.getA h (j := 33) rfl (Or.inl wf_RX11_90) (by decide +kernel) ?_
            refine VR.blk h [(.iload 4, 2)] (by decide +kernel) (pc' := 118) (ls' := [some (.ref am), some (.int (nI (e))), some (.int (nI (L))), some (.int (nI (k))), some (.int (nI ((600 * e) + k))), some (.int (nI ((600 * e) + L)))]) (st' := [.int (nI ((600 * e) + k)), .ref (ad 33), .int (nI ((600 * e) + L)), .ref (ad 33)]) rfl rfl (Nat.le_of_ble_eq_true rfl) ?_
            have nb33x := hBG.2 8 (tn G 33 (600 * e + k))
            refine VR.iald h (j := 33) (i := (600 * e) + k) rfl rfl (by show _ < 7200; omega) (by decide +kernel) (v := (nI (tn G 33 ((600 * e) + k)))) (mval_1 rfl) ?_
            have nb125 := hBG.2 33 ((600 * e) + k)
            refine VR.iastN h (j := 33) (i := (600 * e) + L) rfl rfl (by show _ < 7200; omega) (by decide +kernel) ?_
            refine VR.blk h [(.aload_n 0, 1)] (by decide +kernel) (pc' := 121) (ls' := [some (.ref am), some (.int (nI (e))), some (.int (nI (L))), some (.int (nI (k))), some (.int (nI ((600 * e) + k))), some (.int (nI ((600 * e) + L)))]) (st' := [.ref am]) rfl rfl (Nat.le_of_ble_eq_true rfl) ?_
            refine VR.getA h (j := 34) rfl (Or.inl wf_RX11_93) (by decide +kernel) ?_
            refine VR.blk h [(.iload 5, 2), (.aload_n 0, 1)] (by decide +kernel) (pc' := 127) (ls' := [some (.ref am), some (.int (nI (e))), some (.int (nI (L))), some (.int (nI (k))), some (.int (nI ((600 * e) + k))), some (.int (nI ((600 * e) + L)))]) (st' := [.ref am, .int (nI ((600 * e) + L)), .ref (ad 34)]) rfl rfl (Nat.le_of_ble_eq_true rfl) ?_
            refine VR.getA h (j := 34) rfl (Or.inl wf_RX11_93) (by decide +kernel) ?_
            refine VR.blk h [(.iload 4, 2)] (by decide +kernel) (pc' := 132) (ls' := [some (.ref am), some (.int (nI (e))), some (.int (nI (L))), some (.int (nI (k))), some (.int (nI ((600 * e) + k))), some (.int (nI ((600 * e) + L)))]) (st' := [.int (nI ((600 * e) + k)), .ref (ad 34), .int (nI ((600 * e) + L)), .ref (ad 34)]) rfl rfl (Nat.le_of_ble_eq_true rfl) ?_
            refine VR.iald h (j := 34) (i := (600 * e) + k) rfl rfl (by show _ < 7200; omega) (by decide +kernel) (v := (nI (tn G 34 ((600 * e) + k)))) (mval_1 rfl) ?_
            have nb133 := hBG.2 34 ((600 * e) + k)
            refine VR.iastN h (j := 34) (i := (600 * e) + L) rfl rfl (by show _ < 7200; omega) (by decide +kernel) ?_
            refine VR.blk h [(.aload_n 0, 1)] (by decide +kernel) (pc' := 135) (ls' := [some (.ref am), some (.int (nI (e))), some (.int (nI (L))), some (.int (nI (k))), some (.int (nI ((600 * e) + k))), some (.int (nI ((600 * e) + L)))]) (st' := [.ref am]) rfl rfl (Nat.le_of_ble_eq_true rfl) ?_
            refine VR.getA h (j := 35) rfl (Or.inl wf_RX11_96) (by decide +kernel) ?_
            refine VR.blk h [(.iload 5, 2), (.aload_n 0, 1)] (by decide +kernel) (pc' := 141) (ls' := [some (.ref am), some (.int (nI (e))), some (.int (nI (L))), some (.int (nI (k))), some (.int (nI ((600 * e) + k))), some (.int (nI ((600 * e) + L)))]) (st' := [.ref am, .int (nI ((600 * e) + L)), .ref (ad 35)]) rfl rfl (Nat.le_of_ble_eq_true rfl) ?_
            refine VR.getA h (j := 35) rfl (Or.inl wf_RX11_96) (by decide +kernel) ?_
            refine VR.blk h [(.iload 4, 2)] (by decide +kernel) (pc' := 146) (ls' := [some (.ref am), some (.int (nI (e))), some (.int (nI (L))), some (.int (nI (k))), some (.int (nI ((600 * e) + k))), some (.int (nI ((600 * e) + L)))]) (st' := [.int (nI ((600 * e) + k)), .ref (ad 35), .int (nI ((600 * e) + L)), .ref (ad 35)]) rfl rfl (Nat.le_of_ble_eq_true rfl) ?_
            refine VR.iald h (j := 35) (i := (600 * e) + k) rfl rfl (by show _ < 7200; omega) (by decide +kernel) (v := (nI (tn G 35 ((600 * e) + k)))) (mval_1 rfl) ?_
            have nb141 := hBG.2 35 ((600 * e) + k)
            refine VR.iastN h (j := 35) (i := (600 * e) + L) rfl rfl (by show _ < 7200; omega) (by decide +kernel) ?_
            refine VR.blk h [(.aload_n 0, 1)] (by decide +kernel) (pc' := 149) (ls' := [some (.ref am), some (.int (nI (e))), some (.int (nI (L))), some (.int (nI (k))), some (.int (nI ((600 * e) + k))), some (.int (nI ((600 * e) + L)))]) (st' := [.ref am]) rfl rfl (Nat.le_of_ble_eq_true rfl) ?_
            refine VR.getA h (j := 36) rfl (Or.inl wf_RX11_99) (by decide +kernel) ?_
            refine VR.blk h [(.iload 5, 2), (.aload_n 0, 1)] (by decide +kernel) (pc' := 155) (ls' := [some (.ref am), some (.int (nI (e))), some (.int (nI (L))), some (.int (nI (k))), some (.int (nI ((600 * e) + k))), some (.int (nI ((600 * e) + L)))]) (st' := [.ref am, .int (nI ((600 * e) + L)), .ref (ad 36)]) rfl rfl (Nat.le_of_ble_eq_true rfl) ?_
            refine VR.getA h (j := 36) rfl (Or.inl wf_RX11_99) (by decide +kernel) ?_
            refine VR.blk h [(.iload 4, 2)] (by decide +kernel) (pc' := 160) (ls' := [some (.ref am), some (.int (nI (e))), some (.int (nI (L))), some (.int (nI (k))), some (.int (nI ((600 * e) + k))), some (.int (nI ((600 * e) + L)))]) (st' := [.int (nI ((600 * e) + k)), .ref (ad 36), .int (nI ((600 * e) + L)), .ref (ad 36)]) rfl rfl (Nat.le_of_ble_eq_true rfl) ?_
            refine VR.iald h (j := 36) (i := (600 * e) + k) rfl rfl (by show _ < 7200; omega) (by decide +kernel) (v := (nI (tn G 36 ((600 * e) + k)))) (mval_1 rfl) ?_
            have nb149 := hBG.2 36 ((600 * e) + k)
            refine VR.iastN h (j := 36) (i := (600 * e) + L) rfl rfl (by show _ < 7200; omega) (by decide +kernel) ?_
            refine VR.incN h (x := L) (i := 2) (by decide +kernel) rfl (Nat.le_of_ble_eq_true rfl) ?_
            refine VR.eqL (ls' := [some (.ref am), some (.int (nI (e))), some (.int (nI (L + 1))), some (.int (nI (k))), some (.int (nI ((600 * e) + k))), some (.int (nI ((600 * e) + L)))]) rfl ?_
            refine VR.incN h (x := k) (i := 3) (by decide +kernel) rfl (Nat.le_of_ble_eq_true rfl) ?_
            refine VR.eqL (ls' := [some (.ref am), some (.int (nI (e))), some (.int (nI (L + 1))), some (.int (nI (k + 1))), some (.int (nI ((600 * e) + k))), some (.int (nI ((600 * e) + L)))]) rfl ?_
            refine VR.goto h (off := -164) (tgt := 4) (by decide +kernel) (by decide) ?_
            refine VR.eqA (A' := ((agL A e ((k + 1))).1)) (by rw [agL, hGL]; unfold agS; dsimp only; rw [if_neg (by omega)]) ?_
            refine VR.drop 4 (ls' := [some (.ref am), some (.int (nI (e))), some (.int (nI (L + 1))), some (.int (nI (k + 1))), none, some (.int (nI ((600 * e) + L)))]) rfl ?_
            refine VR.drop 5 (ls' := [some (.ref am), some (.int (nI (e))), some (.int (nI (L + 1))), some (.int (nI (k + 1))), none, none]) rfl ?_
            refine VR.eqL (ls' := [some (.ref am), some (.int (nI (e))), some (.int (nI ((agL A e ((k + 1))).2))), some (.int (nI ((k + 1)))), none, none]) (by rw [agL, hGL]; unfold agS; dsimp only; rw [if_neg (by omega)]) ?_
            exact ih4 (tn A 37 e - (k + 1)) (by omega) (k + 1) rfl (by omega)
          · have q54_111 : ¬ _ := (fun z => q ((nI_ltI (by omega) (by omega)).mpr z))
            clear q
            refine VR.blk h [(.aload_n 0, 1), (.iload_n 1, 1), (.aload_n 0, 1)] (by decide +kernel) (pc' := 60) (ls' := [some (.ref am), some (.int (nI (e))), some (.int (nI (L))), some (.int (nI (k))), some (.int (nI ((600 * e) + k))), none]) (st' := [.ref am, .int (nI (e)), .ref am]) rfl rfl (Nat.le_of_ble_eq_true rfl) ?_
            refine VR.getA h (j := 33) rfl (Or.inl wf_RX11_90) (by decide +kernel) ?_
            refine VR.blk h [(.iload 4, 2)] (by decide +kernel) (pc' := 65) (ls' := [some (.ref am), some (.int (nI (e))), some (.int (nI (L))), some (.int (nI (k))), some (.int (nI ((600 * e) + k))), none]) (st' := [.int (nI ((600 * e) + k)), .ref (ad 33), .int (nI (e)), .ref am]) rfl rfl (Nat.le_of_ble_eq_true rfl) ?_
            have nb33x := hBG.2 8 (tn G 33 (600 * e + k))
            refine VR.iald h (j := 33) (i := (600 * e) + k) rfl rfl (by show _ < 7200; omega) (by decide +kernel) (v := (nI (tn G 33 ((600 * e) + k)))) (mval_1 rfl) ?_
            have nb168 := hBG.2 33 ((600 * e) + k)
            refine VR.blk h [(.aload_n 0, 1), (.iload_n 1, 1), (.aload_n 0, 1)] (by decide +kernel) (pc' := 69) (ls' := [some (.ref am), some (.int (nI (e))), some (.int (nI (L))), some (.int (nI (k))), some (.int (nI ((600 * e) + k))), none]) (st' := [.ref am, .int (nI (e)), .ref am, .int (nI (tn G 33 ((600 * e) + k))), .int (nI (e)), .ref am]) rfl rfl (Nat.le_of_ble_eq_true rfl) ?_
            refine VR.getA h (j := 34) rfl (Or.inl wf_RX11_93) (by decide +kernel) ?_
            refine VR.blk h [(.iload 4, 2)] (by decide +kernel) (pc' := 74) (ls' := [some (.ref am), some (.int (nI (e))), some (.int (nI (L))), some (.int (nI (k))), some (.int (nI ((600 * e) + k))), none]) (st' := [.int (nI ((600 * e) + k)), .ref (ad 34), .int (nI (e)), .ref am, .int (nI (tn G 33 ((600 * e) + k))), .int (nI (e)), .ref am]) rfl rfl (Nat.le_of_ble_eq_true rfl) ?_
            refine VR.iald h (j := 34) (i := (600 * e) + k) rfl rfl (by show _ < 7200; omega) (by decide +kernel) (v := (nI (tn G 34 ((600 * e) + k)))) (mval_1 rfl) ?_
            have nb173 := hBG.2 34 ((600 * e) + k)
            refine VR.blk h [(.aload_n 0, 1)] (by decide +kernel) (pc' := 76) (ls' := [some (.ref am), some (.int (nI (e))), some (.int (nI (L))), some (.int (nI (k))), some (.int (nI ((600 * e) + k))), none]) (st' := [.ref am, .int (nI (tn G 34 ((600 * e) + k))), .int (nI (e)), .ref am, .int (nI (tn G 33 ((600 * e) + k))), .int (nI (e)), .ref am]) rfl rfl (Nat.le_of_ble_eq_true rfl) ?_
            refine VR.getA h (j := 8) rfl (Or.inl wf_RX11_23) (by decide +kernel) ?_
            refine VR.blk h [(.aload_n 0, 1)] (by decide +kernel) (pc' := 80) (ls' := [some (.ref am), some (.int (nI (e))), some (.int (nI (L))), some (.int (nI (k))), some (.int (nI ((600 * e) + k))), none]) (st' := [.ref am, .ref (ad 8), .int (nI (tn G 34 ((600 * e) + k))), .int (nI (e)), .ref am, .int (nI (tn G 33 ((600 * e) + k))), .int (nI (e)), .ref am]) rfl rfl (Nat.le_of_ble_eq_true rfl) ?_
            refine VR.getA h (j := 33) rfl (Or.inl wf_RX11_90) (by decide +kernel) ?_
            refine VR.blk h [(.iload 4, 2)] (by decide +kernel) (pc' := 85) (ls' := [some (.ref am), some (.int (nI (e))), some (.int (nI (L))), some (.int (nI (k))), some (.int (nI ((600 * e) + k))), none]) (st' := [.int (nI ((600 * e) + k)), .ref (ad 33), .ref (ad 8), .int (nI (tn G 34 ((600 * e) + k))), .int (nI (e)), .ref am, .int (nI (tn G 33 ((600 * e) + k))), .int (nI (e)), .ref am]) rfl rfl (Nat.le_of_ble_eq_true rfl) ?_
            have nb33x := hBG.2 8 (tn G 33 (600 * e + k))
            refine VR.iald h (j := 33) (i := (600 * e) + k) rfl rfl (by show _ < 7200; omega) (by decide +kernel) (v := (nI (tn G 33 ((600 * e) + k)))) (mval_1 rfl) ?_
            have nb181 := hBG.2 33 ((600 * e) + k)
            refine VR.iald h (j := 8) (i := tn G 33 ((600 * e) + k)) rfl rfl (by show _ < 600; omega) (by decide +kernel) (v := (nI (tn G 8 (tn G 33 ((600 * e) + k))))) (mval_1 rfl) ?_
            have nb183 := hBG.2 8 (tn G 33 ((600 * e) + k))
            refine VR.call h (np := 3) (st := [.int (nI (tn G 33 ((600 * e) + k))), .int (nI (e)), .ref am]) (r_valueAt hls G e (tn G 34 ((600 * e) + k)) (tn G 8 (tn G 33 ((600 * e) + k))) (K + k) he (by omega) (fun i hi => by rw [F3 22 _ (by decide) (by decide)]; exact hlo i (by omega)) hBG (by omega) (by omega)) wc_X11_valueAt wn_RX11 (Or.inl wm_RX11_180) wi_X11_valueAt we_X11_valueAt (by decide +kernel) rfl (by decide) (by decide) (by simp [Value.category]) (by decide +kernel) rfl ?_
            refine VR.blk h [(.iconst 1, 1)] (by decide +kernel) (pc' := 91) (ls' := [some (.ref am), some (.int (nI (e))), some (.int (nI (L))), some (.int (nI (k))), some (.int (nI ((600 * e) + k))), none]) (st' := [.int (nI (1)), .int (vaF G e (tn G 8 (tn G 33 ((600 * e) + k))) (tn G 34 ((600 * e) + k))), .int (nI (tn G 33 ((600 * e) + k))), .int (nI (e)), .ref am]) rfl rfl (Nat.le_of_ble_eq_true rfl) ?_
            refine VR.call h (np := 4) (st := []) (r_answers hls G e (tn G 33 ((600 * e) + k)) (vaF G e (tn G 8 (tn G 33 ((600 * e) + k))) (tn G 34 ((600 * e) + k))) true (K + k) (by omega) (by omega) (by omega) F53 (by omega) hBG (by omega)) wc_X11_answers wn_RX11 (Or.inl wm_RX11_187) wi_X11_answers we_X11_answers (by decide +kernel) rfl (by decide) (by decide) (by simp [Value.category]) (by decide +kernel) (by simp [oI_s, bI_f, bI_t]) ?_
            refine VR.goto h (off := 71) (tgt := 165) (by decide +kernel) (by decide) ?_
            refine VR.incN h (x := k) (i := 3) (by decide +kernel) rfl (Nat.le_of_ble_eq_true rfl) ?_
            refine VR.eqL (ls' := [some (.ref am), some (.int (nI (e))), some (.int (nI (L))), some (.int (nI (k + 1))), some (.int (nI ((600 * e) + k))), none]) rfl ?_
            refine VR.goto h (off := -164) (tgt := 4) (by decide +kernel) (by decide) ?_
            refine VR.eqA (A' := ((agL A e ((k + 1))).1)) (by rw [agL, hGL]; unfold agS; dsimp only; rw [if_pos ⟨(by omega), (by omega)⟩]) ?_
            refine VR.drop 4 (ls' := [some (.ref am), some (.int (nI (e))), some (.int (nI (L))), some (.int (nI (k + 1))), none, none]) rfl ?_
            refine VR.eqL (ls' := [some (.ref am), some (.int (nI (e))), some (.int (nI ((agL A e ((k + 1))).2))), some (.int (nI ((k + 1)))), none, none]) (by rw [agL, hGL]; unfold agS; dsimp only; rw [if_pos ⟨(by omega), (by omega)⟩]) ?_
            exact ih4 (tn A 37 e - (k + 1)) (by omega) (k + 1) rfl (by omega)
  refine VR.eqA (A' := ((agL A e 0).1)) rfl ?_
  refine VR.eqL (ls' := [some (.ref am), some (.int (nI (e))), some (.int (nI ((agL A e 0).2))), some (.int (nI (0))), none, none]) rfl ?_
  exact loop4 _ 0 rfl (Nat.zero_le _)

set_option maxRecDepth 100000 in
set_option maxHeartbeats 4000000 in
theorem r_readsClient {l : Launch} {D : va_G} {tc : Nat → ClassId} {am : Nat} {ad : Nat → Nat} (hls : l.stackTraces = false) (A : TS) (so e op z9 : Nat) (v : Int32) (b : Bool) (K : Nat) (h1 : so ≤ 9) (he : e ≤ K) (ho : op < 600) (hc : tn A 5 op < 4) (hz : z9 < 3) (hlt : tn A 16 (tn A 5 op) ≤ 600) (hf : tf A 1 ≤ 3) (hacc : ∀ c, tn A 18 c < 8) (hl : tf A 53 ≤ 250) (hK9 : 7300 ≤ K) (hB : NB K A) (hK : K < 1999990000) : RM l D tc am ad yX11_readsClient cX11_readsClient 8 (none) 2 [.ref am, .int (nI (so)), .int (nI (e)), .int (nI (op)), .int (nI (z9)), .int (v), .int (bI (b))] A (none) (rcF A so e op z9 v b) := by
  refine RM.of hls (by decide +kernel) (by simp [Value.category]) (Nat.le_of_ble_eq_true rfl) (fun A0 p e9 s m args below meth c S0 sz Q h hr hA hQ => ?_)
  have nb7 := hB.2 7 op
  have nb18 := hB.2 18 (tn A 5 op)
  refine VR.eqL (ls' := [some (.ref am), some (.int (nI (so))), some (.int (nI (e))), some (.int (nI (op))), some (.int (nI (z9))), some (.int (v)), some (.int (bI (b))), none]) rfl ?_
  refine VR.blk h [(.aload_n 0, 1)] (by decide +kernel) (pc' := 1) (ls' := [some (.ref am), some (.int (nI (so))), some (.int (nI (e))), some (.int (nI (op))), some (.int (nI (z9))), some (.int (v)), some (.int (bI (b))), none]) (st' := [.ref am]) rfl rfl (Nat.le_of_ble_eq_true rfl) ?_
  refine VR.getA h (j := 5) rfl (Or.inl wf_RX11_13) (by decide +kernel) ?_
  refine VR.blk h [(.iload_n 3, 1)] (by decide +kernel) (pc' := 5) (ls' := [some (.ref am), some (.int (nI (so))), some (.int (nI (e))), some (.int (nI (op))), some (.int (nI (z9))), some (.int (v)), some (.int (bI (b))), none]) (st' := [.int (nI (op)), .ref (ad 5)]) rfl rfl (Nat.le_of_ble_eq_true rfl) ?_
  refine VR.iald h (j := 5) (i := op) rfl rfl (by show _ < 600; omega) (by decide +kernel) (v := (nI (tn A 5 op))) (mval_1 rfl) ?_
  have nb7 := hB.2 5 op
  refine VR.blk h [(.istore 7, 2), (.aload_n 0, 1)] (by decide +kernel) (pc' := 9) (ls' := [some (.ref am), some (.int (nI (so))), some (.int (nI (e))), some (.int (nI (op))), some (.int (nI (z9))), some (.int (v)), some (.int (bI (b))), some (.int (nI (tn A 5 op)))]) (st' := [.ref am]) rfl rfl (Nat.le_of_ble_eq_true rfl) ?_
  refine VR.getA h (j := 17) rfl (Or.inl wf_RX11_41) (by decide +kernel) ?_
  refine VR.blk h [(.iload 7, 2)] (by decide +kernel) (pc' := 14) (ls' := [some (.ref am), some (.int (nI (so))), some (.int (nI (e))), some (.int (nI (op))), some (.int (nI (z9))), some (.int (v)), some (.int (bI (b))), some (.int (nI (tn A 5 op)))]) (st' := [.int (nI (tn A 5 op)), .ref (ad 17)]) rfl rfl (Nat.le_of_ble_eq_true rfl) ?_
  refine VR.iald h (j := 17) (i := tn A 5 op) rfl rfl (by show _ < 4; omega) (by decide +kernel) (v := (nI (tn A 17 (tn A 5 op)))) (mval_1 rfl) ?_
  have nb12 := hB.2 17 (tn A 5 op)
  refine VR.blk h [(.iload_n 2, 1)] (by decide +kernel) (pc' := 16) (ls' := [some (.ref am), some (.int (nI (so))), some (.int (nI (e))), some (.int (nI (op))), some (.int (nI (z9))), some (.int (v)), some (.int (bI (b))), some (.int (nI (tn A 5 op)))]) (st' := [.int (nI (e)), .int (nI (tn A 17 (tn A 5 op)))]) rfl rfl (Nat.le_of_ble_eq_true rfl) ?_
  refine VR.icmp_ne h (off := 23) (by decide +kernel) (tgt := 39) (by decide) (fun q => ?_) (fun q => ?_)
  · have q16_14 : ¬ _ := (fun z => q ((nI_eq (by omega) (by omega)).mpr z))
    clear q
    exact VR.vret h hA hQ hr rfl (by unfold rcF rcC; exact (if_pos (Or.inl q16_14)).symm) (by decide +kernel)
  · have q16_14 := ((nI_eq (by omega) (by omega)).mp q)
    clear q
    refine VR.blk h [(.aload_n 0, 1)] (by decide +kernel) (pc' := 20) (ls' := [some (.ref am), some (.int (nI (so))), some (.int (nI (e))), some (.int (nI (op))), some (.int (nI (z9))), some (.int (v)), some (.int (bI (b))), some (.int (nI (tn A 5 op)))]) (st' := [.ref am]) rfl rfl (Nat.le_of_ble_eq_true rfl) ?_
    refine VR.getA h (j := 16) rfl (Or.inl wf_RX11_38) (by decide +kernel) ?_
    refine VR.blk h [(.iload 7, 2)] (by decide +kernel) (pc' := 25) (ls' := [some (.ref am), some (.int (nI (so))), some (.int (nI (e))), some (.int (nI (op))), some (.int (nI (z9))), some (.int (v)), some (.int (bI (b))), some (.int (nI (tn A 5 op)))]) (st' := [.int (nI (tn A 5 op)), .ref (ad 16)]) rfl rfl (Nat.le_of_ble_eq_true rfl) ?_
    refine VR.iald h (j := 16) (i := tn A 5 op) rfl rfl (by show _ < 4; omega) (by decide +kernel) (v := (oI (tn A 16 (tn A 5 op)))) (mval_2 rfl) ?_
    have nb24 := hB.2 16 (tn A 5 op)
    refine VR.blk h [(.iload_n 3, 1)] (by decide +kernel) (pc' := 27) (ls' := [some (.ref am), some (.int (nI (so))), some (.int (nI (e))), some (.int (nI (op))), some (.int (nI (z9))), some (.int (v)), some (.int (bI (b))), some (.int (nI (tn A 5 op)))]) (st' := [.int (nI (op)), .int (oI (tn A 16 (tn A 5 op)))]) rfl rfl (Nat.le_of_ble_eq_true rfl) ?_
    refine VR.icmp_ne h (off := 12) (by decide +kernel) (tgt := 39) (by decide) (fun q => ?_) (fun q => ?_)
    · have q27_26 : ¬ _ := (fun z => q ((oI_eqN (by omega) (by omega)).mpr z))
      clear q
      exact VR.vret h hA hQ hr rfl (by unfold rcF rcC; exact (if_pos (Or.inr (Or.inl q27_26))).symm) (by decide +kernel)
    · have q27_26 := ((oI_eqN (by omega) (by omega)).mp q)
      clear q
      refine VR.blk h [(.aload_n 0, 1), (.iload 7, 2)] (by decide +kernel) (pc' := 33) (ls' := [some (.ref am), some (.int (nI (so))), some (.int (nI (e))), some (.int (nI (op))), some (.int (nI (z9))), some (.int (v)), some (.int (bI (b))), some (.int (nI (tn A 5 op)))]) (st' := [.int (nI (tn A 5 op)), .ref am]) rfl rfl (Nat.le_of_ble_eq_true rfl) ?_
      refine VR.call h (np := 1) (st := []) (r_isOpen hls A (tn A 5 op) K hc (by omega) hB (by omega)) wc_X11_isOpen wn_RX11 (Or.inl wm_RX11_238) wi_X11_isOpen we_X11_isOpen (by decide +kernel) rfl (by decide) (by decide) (by simp [Value.category]) (by decide +kernel) rfl ?_
      refine VR.if_ne h (off := 4) (by decide +kernel) (tgt := 40) (by decide) (fun q => ?_) (fun q => ?_)
      · have q36_34 := (bI_1 (fun z => q (bI_0.mpr z)))
        clear q
        refine VR.blk h [(.iload_n 1, 1), (.iconst 4, 1)] (by decide +kernel) (pc' := 42) (ls' := [some (.ref am), some (.int (nI (so))), some (.int (nI (e))), some (.int (nI (op))), some (.int (nI (z9))), some (.int (v)), some (.int (bI (b))), some (.int (nI (tn A 5 op)))]) (st' := [.int (nI (4)), .int (nI (so))]) rfl rfl (Nat.le_of_ble_eq_true rfl) ?_
        refine VR.icmp_ne h (off := 13) (by decide +kernel) (tgt := 55) (by decide) (fun q => ?_) (fun q => ?_)
        · have q42_38 : ¬ _ := (fun z => q ((nI_eq (by omega) (by omega)).mpr z))
          clear q
          refine VR.blk h [(.iload_n 1, 1), (.iconst 3, 1)] (by decide +kernel) (pc' := 57) (ls' := [some (.ref am), some (.int (nI (so))), some (.int (nI (e))), some (.int (nI (op))), some (.int (nI (z9))), some (.int (v)), some (.int (bI (b))), some (.int (nI (tn A 5 op)))]) (st' := [.int (nI (3)), .int (nI (so))]) rfl rfl (Nat.le_of_ble_eq_true rfl) ?_
          refine VR.icmp_ne h (off := 20) (by decide +kernel) (tgt := 77) (by decide) (fun q => ?_) (fun q => ?_)
          · have q57_42 : ¬ _ := (fun z => q ((nI_eq (by omega) (by omega)).mpr z))
            clear q
            refine VR.blk h [(.aload_n 0, 1)] (by decide +kernel) (pc' := 78) (ls' := [some (.ref am), some (.int (nI (so))), some (.int (nI (e))), some (.int (nI (op))), some (.int (nI (z9))), some (.int (v)), some (.int (bI (b))), some (.int (nI (tn A 5 op)))]) (st' := [.ref am]) rfl rfl (Nat.le_of_ble_eq_true rfl) ?_
            refine VR.getA h (j := 19) rfl (Or.inl wf_RX11_47) (by decide +kernel) ?_
            refine VR.blk h [(.iload 7, 2), (.iconst 1, 1)] (by decide +kernel) (pc' := 84) (ls' := [some (.ref am), some (.int (nI (so))), some (.int (nI (e))), some (.int (nI (op))), some (.int (nI (z9))), some (.int (v)), some (.int (bI (b))), some (.int (nI (tn A 5 op)))]) (st' := [.int (nI (1)), .int (nI (tn A 5 op)), .ref (ad 19)]) rfl rfl (Nat.le_of_ble_eq_true rfl) ?_
            refine VR.bast h (j := 19) (i := tn A 5 op) (v := true) rfl rfl (by show _ < 4; omega) (by decide +kernel) ?_
            refine VR.blk h [(.aload_n 0, 1)] (by decide +kernel) (pc' := 86) (ls' := [some (.ref am), some (.int (nI (so))), some (.int (nI (e))), some (.int (nI (op))), some (.int (nI (z9))), some (.int (v)), some (.int (bI (b))), some (.int (nI (tn A 5 op)))]) (st' := [.ref am]) rfl rfl (Nat.le_of_ble_eq_true rfl) ?_
            refine VR.getA h (j := 20) rfl (Or.inl wf_RX11_51) (by decide +kernel) ?_
            refine VR.blk h [(.iload 7, 2), (.iload 5, 2)] (by decide +kernel) (pc' := 93) (ls' := [some (.ref am), some (.int (nI (so))), some (.int (nI (e))), some (.int (nI (op))), some (.int (nI (z9))), some (.int (v)), some (.int (bI (b))), some (.int (nI (tn A 5 op)))]) (st' := [.int (v), .int (nI (tn A 5 op)), .ref (ad 20)]) rfl rfl (Nat.le_of_ble_eq_true rfl) ?_
            refine VR.iastR h (j := 20) (i := tn A 5 op) rfl rfl (by show _ < 4; omega) (by decide +kernel) ?_
            refine VR.blk h [(.iload 6, 2)] (by decide +kernel) (pc' := 96) (ls' := [some (.ref am), some (.int (nI (so))), some (.int (nI (e))), some (.int (nI (op))), some (.int (nI (z9))), some (.int (v)), some (.int (bI (b))), some (.int (nI (tn A 5 op)))]) (st' := [.int (bI (b))]) rfl rfl (Nat.le_of_ble_eq_true rfl) ?_
            refine VR.if_eq h (off := 12) (by decide +kernel) (tgt := 108) (by decide) (fun q => ?_) (fun q => ?_)
            · have q96_54 := (bI_0.mp q)
              clear q
              refine VR.blk h [(.aload_n 0, 1)] (by decide +kernel) (pc' := 109) (ls' := [some (.ref am), some (.int (nI (so))), some (.int (nI (e))), some (.int (nI (op))), some (.int (nI (z9))), some (.int (v)), some (.int (bI (b))), some (.int (nI (tn A 5 op)))]) (st' := [.ref am]) rfl rfl (Nat.le_of_ble_eq_true rfl) ?_
              refine VR.getA h (j := 19) rfl (Or.inl wf_RX11_47) (by decide +kernel) ?_
              refine VR.blk h [(.iload 7, 2)] (by decide +kernel) (pc' := 114) (ls' := [some (.ref am), some (.int (nI (so))), some (.int (nI (e))), some (.int (nI (op))), some (.int (nI (z9))), some (.int (v)), some (.int (bI (b))), some (.int (nI (tn A 5 op)))]) (st' := [.int (nI (tn A 5 op)), .ref (ad 19)]) rfl rfl (Nat.le_of_ble_eq_true rfl) ?_
              refine VR.bald h (j := 19) (i := tn A 5 op) rfl rfl (by show _ < 4; omega) (by decide +kernel) (v := (bI (tb (sr (sb A 19 (tn A 5 op) true) 20 (tn A 5 op) v) 19 (tn A 5 op)))) (mval_4 rfl) ?_
              refine VR.if_eq h (off := 57) (by decide +kernel) (tgt := 172) (by decide) (fun q => ?_) (fun q => ?_)
              · have q115_61 := (bI_0.mp q)
                clear q
                exact VR.vret h hA hQ hr rfl (by unfold rcF rcC; exact ((if_neg (fun z => z.elim (fun a => a q16_14) (fun z => z.elim (fun a => a q27_26) (fun a => by rw [q36_34] at a; cases a)))).trans ((if_neg q42_38).trans ((if_neg q57_42).trans ((if_neg (by rw [q96_54]; decide)).trans (if_neg (fun z => Bool.noConfusion (z.1.symm.trans q115_61))))))).symm) (by decide +kernel)
              · have q115_61 := (bI_1 (fun z => q (bI_0.mpr z)))
                clear q
                refine VR.blk h [(.aload_n 0, 1)] (by decide +kernel) (pc' := 119) (ls' := [some (.ref am), some (.int (nI (so))), some (.int (nI (e))), some (.int (nI (op))), some (.int (nI (z9))), some (.int (v)), some (.int (bI (b))), some (.int (nI (tn A 5 op)))]) (st' := [.ref am]) rfl rfl (Nat.le_of_ble_eq_true rfl) ?_
                refine VR.getA h (j := 7) rfl (Or.inl wf_RX11_20) (by decide +kernel) ?_
                refine VR.blk h [(.iload_n 3, 1)] (by decide +kernel) (pc' := 123) (ls' := [some (.ref am), some (.int (nI (so))), some (.int (nI (e))), some (.int (nI (op))), some (.int (nI (z9))), some (.int (v)), some (.int (bI (b))), some (.int (nI (tn A 5 op)))]) (st' := [.int (nI (op)), .ref (ad 7)]) rfl rfl (Nat.le_of_ble_eq_true rfl) ?_
                refine VR.iald h (j := 7) (i := op) rfl rfl (by show _ < 600; omega) (by decide +kernel) (v := (nI (tn A 7 op))) (mval_1 rfl) ?_
                have nb71 := hB.2 7 op
                refine VR.callS h (np := 1) (st := []) (r_isUpdate hls (sr (sb A 19 (tn A 5 op) true) 20 (tn A 5 op) v) (tn A 7 op) (by omega)) wc_X11_isUpdate wn_RX11 (Or.inl wm_RX11_197) wt_X11_isUpdate (by decide +kernel) rfl (by decide) (by decide) (by simp [Value.category]) (by decide +kernel) rfl ?_
                refine VR.if_eq h (off := 45) (by decide +kernel) (tgt := 172) (by decide) (fun q => ?_) (fun q => ?_)
                · have q127_73 := (bI_0.mp q)
                  clear q
                  exact VR.vret h hA hQ hr rfl (by unfold rcF rcC; exact ((if_neg (fun z => z.elim (fun a => a q16_14) (fun z => z.elim (fun a => a q27_26) (fun a => by rw [q36_34] at a; cases a)))).trans ((if_neg q42_38).trans ((if_neg q57_42).trans ((if_neg (by rw [q96_54]; decide)).trans (if_neg (fun z => of_decide_eq_false q127_73 z.2.1)))))).symm) (by decide +kernel)
                · have q127_73 := (bI_1 (fun z => q (bI_0.mpr z)))
                  clear q
                  refine VR.blk h [(.aload_n 0, 1)] (by decide +kernel) (pc' := 131) (ls' := [some (.ref am), some (.int (nI (so))), some (.int (nI (e))), some (.int (nI (op))), some (.int (nI (z9))), some (.int (v)), some (.int (bI (b))), some (.int (nI (tn A 5 op)))]) (st' := [.ref am]) rfl rfl (Nat.le_of_ble_eq_true rfl) ?_
                  refine VR.getA h (j := 18) rfl (Or.inl wf_RX11_44) (by decide +kernel) ?_
                  refine VR.blk h [(.iload 7, 2)] (by decide +kernel) (pc' := 136) (ls' := [some (.ref am), some (.int (nI (so))), some (.int (nI (e))), some (.int (nI (op))), some (.int (nI (z9))), some (.int (v)), some (.int (bI (b))), some (.int (nI (tn A 5 op)))]) (st' := [.int (nI (tn A 5 op)), .ref (ad 18)]) rfl rfl (Nat.le_of_ble_eq_true rfl) ?_
                  refine VR.iald h (j := 18) (i := tn A 5 op) rfl rfl (by show _ < 4; omega) (by decide +kernel) (v := (nI (tn A 18 (tn A 5 op)))) (mval_1 rfl) ?_
                  have nb83 := hB.2 18 (tn A 5 op)
                  have pw : 2 ^ tf A 1 ≤ 8 := pow3 hf
                  have pw0 : 0 < 2 ^ tf A 1 := Nat.pow_pos (by decide)
                  refine VR.blk h [(.iconst 1, 1), (.aload_n 0, 1)] (by decide +kernel) (pc' := 139) (ls' := [some (.ref am), some (.int (nI (so))), some (.int (nI (e))), some (.int (nI (op))), some (.int (nI (z9))), some (.int (v)), some (.int (bI (b))), some (.int (nI (tn A 5 op)))]) (st' := [.ref am, .int (nI (1)), .int (nI (tn A 18 (tn A 5 op)))]) rfl rfl (Nat.le_of_ble_eq_true rfl) ?_
                  refine VR.getI h (j := 1) rfl (Or.inl wf_RX11_151) (by decide +kernel) (v := tf A 1) rfl ?_
                  refine VR.shl1 h (v := nI (2 ^ (tf A 1))) (shl1 (by omega)) (by decide +kernel) ?_
                  refine VR.blk h [(.iconst 1, 1)] (by decide +kernel) (pc' := 144) (ls' := [some (.ref am), some (.int (nI (so))), some (.int (nI (e))), some (.int (nI (op))), some (.int (nI (z9))), some (.int (v)), some (.int (bI (b))), some (.int (nI (tn A 5 op)))]) (st' := [.int (nI (1)), .int (nI (2 ^ (tf A 1))), .int (nI (tn A 18 (tn A 5 op)))]) rfl rfl (Nat.le_of_ble_eq_true rfl) ?_
                  refine VR.subN h (by decide +kernel) (Nat.le_of_ble_eq_true rfl) (by omega) ?_
                  refine VR.icmp_ne h (off := 27) (by decide +kernel) (tgt := 172) (by decide) (fun q => ?_) (fun q => ?_)
                  · have q145_91 : ¬ _ := (fun z => q ((nI_eq (by omega) (by omega)).mpr z))
                    clear q
                    exact VR.vret h hA hQ hr rfl (by unfold rcF rcC; exact ((if_neg (fun z => z.elim (fun a => a q16_14) (fun z => z.elim (fun a => a q27_26) (fun a => by rw [q36_34] at a; cases a)))).trans ((if_neg q42_38).trans ((if_neg q57_42).trans ((if_neg (by rw [q96_54]; decide)).trans (if_neg (fun z => q145_91 z.2.2)))))).symm) (by decide +kernel)
                  · have q145_91 := ((nI_eq (by omega) (by omega)).mp q)
                    clear q
                    refine VR.blk h [(.aload_n 0, 1), (.iload 7, 2), (.aload_n 0, 1)] (by decide +kernel) (pc' := 152) (ls' := [some (.ref am), some (.int (nI (so))), some (.int (nI (e))), some (.int (nI (op))), some (.int (nI (z9))), some (.int (v)), some (.int (bI (b))), some (.int (nI (tn A 5 op)))]) (st' := [.ref am, .int (nI (tn A 5 op)), .ref am]) rfl rfl (Nat.le_of_ble_eq_true rfl) ?_
                    refine VR.getA h (j := 20) rfl (Or.inl wf_RX11_51) (by decide +kernel) ?_
                    refine VR.blk h [(.iload 7, 2)] (by decide +kernel) (pc' := 157) (ls' := [some (.ref am), some (.int (nI (so))), some (.int (nI (e))), some (.int (nI (op))), some (.int (nI (z9))), some (.int (v)), some (.int (bI (b))), some (.int (nI (tn A 5 op)))]) (st' := [.int (nI (tn A 5 op)), .ref (ad 20), .int (nI (tn A 5 op)), .ref am]) rfl rfl (Nat.le_of_ble_eq_true rfl) ?_
                    refine VR.iald h (j := 20) (i := tn A 5 op) rfl rfl (by show _ < 4; omega) (by decide +kernel) (v := (tr (sr (sb A 19 (tn A 5 op) true) 20 (tn A 5 op) v) 20 (tn A 5 op))) (mval_3 rfl) ?_
                    have E16 : tn (sr (sb A 19 (tn A 5 op) true) 20 (tn A 5 op) v) 16 (tn A 5 op) = op + 1 := q27_26
                    refine VR.call h (np := 2) (st := []) (r_ends hls (sr (sb A 19 (tn A 5 op) true) 20 (tn A 5 op) v) (tn A 5 op) (tr (sr (sb A 19 (tn A 5 op) true) 20 (tn A 5 op) v) 20 (tn A 5 op)) K hc (by rw [E16]; omega) (by rw [E16]; omega) (hB.sb.sr) (by omega)) wc_X11_ends wn_RX11 (Or.inl wm_RX11_241) wi_X11_ends we_X11_ends (by decide +kernel) rfl (by decide) (by decide) (by simp [Value.category]) (by decide +kernel) rfl ?_
                    refine VR.blk h [(.aload_n 0, 1)] (by decide +kernel) (pc' := 162) (ls' := [some (.ref am), some (.int (nI (so))), some (.int (nI (e))), some (.int (nI (op))), some (.int (nI (z9))), some (.int (v)), some (.int (bI (b))), some (.int (nI (tn A 5 op)))]) (st' := [.ref am]) rfl rfl (Nat.le_of_ble_eq_true rfl) ?_
                    refine VR.getA h (j := 21) rfl (Or.inl wf_RX11_54) (by decide +kernel) ?_
                    refine VR.blk h [(.iload 7, 2), (.dup2, 1)] (by decide +kernel) (pc' := 168) (ls' := [some (.ref am), some (.int (nI (so))), some (.int (nI (e))), some (.int (nI (op))), some (.int (nI (z9))), some (.int (v)), some (.int (bI (b))), some (.int (nI (tn A 5 op)))]) (st' := [.int (nI (tn A 5 op)), .ref (ad 21), .int (nI (tn A 5 op)), .ref (ad 21)]) rfl rfl (Nat.le_of_ble_eq_true rfl) ?_
                    refine VR.iald h (j := 21) (i := tn A 5 op) rfl rfl (by show _ < 4; omega) (by decide +kernel) (v := (nI (tn A 21 (tn A 5 op)))) ((mval_1 rfl).trans (congrArg nI (end_21 ..))) ?_
                    have nb107 := hB.2 21 (tn A 5 op)
                    refine VR.blk h [(.iconst 1, 1)] (by decide +kernel) (pc' := 170) (ls' := [some (.ref am), some (.int (nI (so))), some (.int (nI (e))), some (.int (nI (op))), some (.int (nI (z9))), some (.int (v)), some (.int (bI (b))), some (.int (nI (tn A 5 op)))]) (st' := [.int (nI (1)), .int (nI (tn A 21 (tn A 5 op))), .int (nI (tn A 5 op)), .ref (ad 21)]) rfl rfl (Nat.le_of_ble_eq_true rfl) ?_
                    refine VR.addN h (by decide +kernel) (Nat.le_of_ble_eq_true rfl) ?_
                    refine VR.iastN h (j := 21) (i := tn A 5 op) rfl rfl (by show _ < 4; omega) (by decide +kernel) ?_
                    exact VR.vret h hA hQ hr rfl (by unfold rcF rcC; exact ((if_neg (fun z => z.elim (fun a => a q16_14) (fun z => z.elim (fun a => a q27_26) (fun a => by rw [q36_34] at a; cases a)))).trans ((if_neg q42_38).trans ((if_neg q57_42).trans ((if_neg (by rw [q96_54]; decide)).trans (if_pos ⟨q115_61, of_decide_eq_true q127_73, q145_91⟩))))).symm) (by decide +kernel)
            · have q96_54 := (bI_1 (fun z => q (bI_0.mpr z)))
              clear q
              refine VR.blk h [(.aload_n 0, 1), (.iload 7, 2), (.iload 5, 2)] (by decide +kernel) (pc' := 104) (ls' := [some (.ref am), some (.int (nI (so))), some (.int (nI (e))), some (.int (nI (op))), some (.int (nI (z9))), some (.int (v)), some (.int (bI (b))), some (.int (nI (tn A 5 op)))]) (st' := [.int (v), .int (nI (tn A 5 op)), .ref am]) rfl rfl (Nat.le_of_ble_eq_true rfl) ?_
              have E16 : tn (sr (sb A 19 (tn A 5 op) true) 20 (tn A 5 op) v) 16 (tn A 5 op) = op + 1 := q27_26
              refine VR.call h (np := 2) (st := []) (r_ends hls (sr (sb A 19 (tn A 5 op) true) 20 (tn A 5 op) v) (tn A 5 op) v K hc (by rw [E16]; omega) (by rw [E16]; omega) (hB.sb.sr) (by omega)) wc_X11_ends wn_RX11 (Or.inl wm_RX11_241) wi_X11_ends we_X11_ends (by decide +kernel) rfl (by decide) (by decide) (by simp [Value.category]) (by decide +kernel) rfl ?_
              exact VR.vret h hA hQ hr rfl (by unfold rcF rcC; exact ((if_neg (fun z => z.elim (fun a => a q16_14) (fun z => z.elim (fun a => a q27_26) (fun a => by rw [q36_34] at a; cases a)))).trans ((if_neg q42_38).trans ((if_neg q57_42).trans (if_pos q96_54)))).symm) (by decide +kernel)
          · have q57_42 := ((nI_eq (by omega) (by omega)).mp q)
            clear q
            refine VR.blk h [(.aload_n 0, 1)] (by decide +kernel) (pc' := 61) (ls' := [some (.ref am), some (.int (nI (so))), some (.int (nI (e))), some (.int (nI (op))), some (.int (nI (z9))), some (.int (v)), some (.int (bI (b))), some (.int (nI (tn A 5 op)))]) (st' := [.ref am]) rfl rfl (Nat.le_of_ble_eq_true rfl) ?_
            refine VR.getA h (j := 18) rfl (Or.inl wf_RX11_44) (by decide +kernel) ?_
            refine VR.blk h [(.iload 7, 2), (.dup2, 1)] (by decide +kernel) (pc' := 67) (ls' := [some (.ref am), some (.int (nI (so))), some (.int (nI (e))), some (.int (nI (op))), some (.int (nI (z9))), some (.int (v)), some (.int (bI (b))), some (.int (nI (tn A 5 op)))]) (st' := [.int (nI (tn A 5 op)), .ref (ad 18), .int (nI (tn A 5 op)), .ref (ad 18)]) rfl rfl (Nat.le_of_ble_eq_true rfl) ?_
            refine VR.iald h (j := 18) (i := tn A 5 op) rfl rfl (by show _ < 4; omega) (by decide +kernel) (v := (nI (tn A 18 (tn A 5 op)))) (mval_1 rfl) ?_
            have nb124 := hB.2 18 (tn A 5 op)
            have pwz : 2 ^ z9 ≤ 4 := pow2 hz
            refine VR.blk h [(.iconst 1, 1), (.iload 4, 2)] (by decide +kernel) (pc' := 71) (ls' := [some (.ref am), some (.int (nI (so))), some (.int (nI (e))), some (.int (nI (op))), some (.int (nI (z9))), some (.int (v)), some (.int (bI (b))), some (.int (nI (tn A 5 op)))]) (st' := [.int (nI (z9)), .int (nI (1)), .int (nI (tn A 18 (tn A 5 op))), .int (nI (tn A 5 op)), .ref (ad 18)]) rfl rfl (Nat.le_of_ble_eq_true rfl) ?_
            refine VR.shl1 h (v := nI (2 ^ z9)) (shl1 (by omega)) (by decide +kernel) ?_
            refine VR.orN h (v := nI ((tn A 18 (tn A 5 op)) ||| (2 ^ z9))) (nI_or _ _) (by decide +kernel) (Nat.le_of_ble_eq_true rfl) ?_
            refine VR.iastN h (j := 18) (i := tn A 5 op) rfl rfl (by show _ < 4; omega) (by decide +kernel) ?_
            have o8 : tn A 18 (tn A 5 op) ||| 2 ^ z9 < 8 := Nat.or_lt_two_pow (n := 3) (hacc _) (by omega)
            have hB1 : NB K (sn A 18 (tn A 5 op) ((tn A 18 (tn A 5 op)) ||| (2 ^ z9))) := hB.sn (by omega)
            have nbx := hB1.2 18 (tn A 5 op)
            refine VR.goto h (off := 34) (tgt := 108) (by decide +kernel) (by decide) ?_
            refine VR.blk h [(.aload_n 0, 1)] (by decide +kernel) (pc' := 109) (ls' := [some (.ref am), some (.int (nI (so))), some (.int (nI (e))), some (.int (nI (op))), some (.int (nI (z9))), some (.int (v)), some (.int (bI (b))), some (.int (nI (tn A 5 op)))]) (st' := [.ref am]) rfl rfl (Nat.le_of_ble_eq_true rfl) ?_
            refine VR.getA h (j := 19) rfl (Or.inl wf_RX11_47) (by decide +kernel) ?_
            refine VR.blk h [(.iload 7, 2)] (by decide +kernel) (pc' := 114) (ls' := [some (.ref am), some (.int (nI (so))), some (.int (nI (e))), some (.int (nI (op))), some (.int (nI (z9))), some (.int (v)), some (.int (bI (b))), some (.int (nI (tn A 5 op)))]) (st' := [.int (nI (tn A 5 op)), .ref (ad 19)]) rfl rfl (Nat.le_of_ble_eq_true rfl) ?_
            refine VR.bald h (j := 19) (i := tn A 5 op) rfl rfl (by show _ < 4; omega) (by decide +kernel) (v := (bI (tb A 19 (tn A 5 op)))) (mval_4 rfl) ?_
            refine VR.if_eq h (off := 57) (by decide +kernel) (tgt := 172) (by decide) (fun q => ?_) (fun q => ?_)
            · have q115_138 := (bI_0.mp q)
              clear q
              exact VR.vret h hA hQ hr rfl (by unfold rcF rcC; exact ((if_neg (fun z => z.elim (fun a => a q16_14) (fun z => z.elim (fun a => a q27_26) (fun a => by rw [q36_34] at a; cases a)))).trans ((if_neg q42_38).trans ((if_pos q57_42).trans (if_neg (fun z => Bool.noConfusion (z.1.symm.trans q115_138)))))).symm) (by decide +kernel)
            · have q115_138 := (bI_1 (fun z => q (bI_0.mpr z)))
              clear q
              refine VR.blk h [(.aload_n 0, 1)] (by decide +kernel) (pc' := 119) (ls' := [some (.ref am), some (.int (nI (so))), some (.int (nI (e))), some (.int (nI (op))), some (.int (nI (z9))), some (.int (v)), some (.int (bI (b))), some (.int (nI (tn A 5 op)))]) (st' := [.ref am]) rfl rfl (Nat.le_of_ble_eq_true rfl) ?_
              refine VR.getA h (j := 7) rfl (Or.inl wf_RX11_20) (by decide +kernel) ?_
              refine VR.blk h [(.iload_n 3, 1)] (by decide +kernel) (pc' := 123) (ls' := [some (.ref am), some (.int (nI (so))), some (.int (nI (e))), some (.int (nI (op))), some (.int (nI (z9))), some (.int (v)), some (.int (bI (b))), some (.int (nI (tn A 5 op)))]) (st' := [.int (nI (op)), .ref (ad 7)]) rfl rfl (Nat.le_of_ble_eq_true rfl) ?_
              refine VR.iald h (j := 7) (i := op) rfl rfl (by show _ < 600; omega) (by decide +kernel) (v := (nI (tn A 7 op))) (mval_1 rfl) ?_
              have nb148 := hB.2 7 op
              refine VR.callS h (np := 1) (st := []) (r_isUpdate hls (sn A 18 (tn A 5 op) ((tn A 18 (tn A 5 op)) ||| (2 ^ z9))) (tn A 7 op) (by omega)) wc_X11_isUpdate wn_RX11 (Or.inl wm_RX11_197) wt_X11_isUpdate (by decide +kernel) rfl (by decide) (by decide) (by simp [Value.category]) (by decide +kernel) rfl ?_
              refine VR.if_eq h (off := 45) (by decide +kernel) (tgt := 172) (by decide) (fun q => ?_) (fun q => ?_)
              · have q127_150 := (bI_0.mp q)
                clear q
                exact VR.vret h hA hQ hr rfl (by unfold rcF rcC; exact ((if_neg (fun z => z.elim (fun a => a q16_14) (fun z => z.elim (fun a => a q27_26) (fun a => by rw [q36_34] at a; cases a)))).trans ((if_neg q42_38).trans ((if_pos q57_42).trans (if_neg (fun z => of_decide_eq_false q127_150 z.2.1))))).symm) (by decide +kernel)
              · have q127_150 := (bI_1 (fun z => q (bI_0.mpr z)))
                clear q
                refine VR.blk h [(.aload_n 0, 1)] (by decide +kernel) (pc' := 131) (ls' := [some (.ref am), some (.int (nI (so))), some (.int (nI (e))), some (.int (nI (op))), some (.int (nI (z9))), some (.int (v)), some (.int (bI (b))), some (.int (nI (tn A 5 op)))]) (st' := [.ref am]) rfl rfl (Nat.le_of_ble_eq_true rfl) ?_
                refine VR.getA h (j := 18) rfl (Or.inl wf_RX11_44) (by decide +kernel) ?_
                refine VR.blk h [(.iload 7, 2)] (by decide +kernel) (pc' := 136) (ls' := [some (.ref am), some (.int (nI (so))), some (.int (nI (e))), some (.int (nI (op))), some (.int (nI (z9))), some (.int (v)), some (.int (bI (b))), some (.int (nI (tn A 5 op)))]) (st' := [.int (nI (tn A 5 op)), .ref (ad 18)]) rfl rfl (Nat.le_of_ble_eq_true rfl) ?_
                refine VR.iald h (j := 18) (i := tn A 5 op) rfl rfl (by show _ < 4; omega) (by decide +kernel) (v := (nI (tn (sn A 18 (tn A 5 op) ((tn A 18 (tn A 5 op)) ||| (2 ^ z9))) 18 (tn A 5 op)))) (mval_1 rfl) ?_
                have pw : 2 ^ tf A 1 ≤ 8 := pow3 hf
                have pw0 : 0 < 2 ^ tf A 1 := Nat.pow_pos (by decide)
                refine VR.blk h [(.iconst 1, 1), (.aload_n 0, 1)] (by decide +kernel) (pc' := 139) (ls' := [some (.ref am), some (.int (nI (so))), some (.int (nI (e))), some (.int (nI (op))), some (.int (nI (z9))), some (.int (v)), some (.int (bI (b))), some (.int (nI (tn A 5 op)))]) (st' := [.ref am, .int (nI (1)), .int (nI (tn (sn A 18 (tn A 5 op) ((tn A 18 (tn A 5 op)) ||| (2 ^ z9))) 18 (tn A 5 op)))]) rfl rfl (Nat.le_of_ble_eq_true rfl) ?_
                refine VR.getI h (j := 1) rfl (Or.inl wf_RX11_151) (by decide +kernel) (v := tf A 1) rfl ?_
                refine VR.shl1 h (v := nI (2 ^ (tf A 1))) (shl1 (by omega)) (by decide +kernel) ?_
                refine VR.blk h [(.iconst 1, 1)] (by decide +kernel) (pc' := 144) (ls' := [some (.ref am), some (.int (nI (so))), some (.int (nI (e))), some (.int (nI (op))), some (.int (nI (z9))), some (.int (v)), some (.int (bI (b))), some (.int (nI (tn A 5 op)))]) (st' := [.int (nI (1)), .int (nI (2 ^ (tf A 1))), .int (nI (tn (sn A 18 (tn A 5 op) ((tn A 18 (tn A 5 op)) ||| (2 ^ z9))) 18 (tn A 5 op)))]) rfl rfl (Nat.le_of_ble_eq_true rfl) ?_
                refine VR.subN h (by decide +kernel) (Nat.le_of_ble_eq_true rfl) (by omega) ?_
                refine VR.icmp_ne h (off := 27) (by decide +kernel) (tgt := 172) (by decide) (fun q => ?_) (fun q => ?_)
                · have q145_167 : ¬ _ := (fun z => q ((nI_eq (by omega) (by omega)).mpr z))
                  clear q
                  exact VR.vret h hA hQ hr rfl (by unfold rcF rcC; exact ((if_neg (fun z => z.elim (fun a => a q16_14) (fun z => z.elim (fun a => a q27_26) (fun a => by rw [q36_34] at a; cases a)))).trans ((if_neg q42_38).trans ((if_pos q57_42).trans (if_neg (fun z => q145_167 z.2.2))))).symm) (by decide +kernel)
                · have q145_167 := ((nI_eq (by omega) (by omega)).mp q)
                  clear q
                  refine VR.blk h [(.aload_n 0, 1), (.iload 7, 2), (.aload_n 0, 1)] (by decide +kernel) (pc' := 152) (ls' := [some (.ref am), some (.int (nI (so))), some (.int (nI (e))), some (.int (nI (op))), some (.int (nI (z9))), some (.int (v)), some (.int (bI (b))), some (.int (nI (tn A 5 op)))]) (st' := [.ref am, .int (nI (tn A 5 op)), .ref am]) rfl rfl (Nat.le_of_ble_eq_true rfl) ?_
                  refine VR.getA h (j := 20) rfl (Or.inl wf_RX11_51) (by decide +kernel) ?_
                  refine VR.blk h [(.iload 7, 2)] (by decide +kernel) (pc' := 157) (ls' := [some (.ref am), some (.int (nI (so))), some (.int (nI (e))), some (.int (nI (op))), some (.int (nI (z9))), some (.int (v)), some (.int (bI (b))), some (.int (nI (tn A 5 op)))]) (st' := [.int (nI (tn A 5 op)), .ref (ad 20), .int (nI (tn A 5 op)), .ref am]) rfl rfl (Nat.le_of_ble_eq_true rfl) ?_
                  refine VR.iald h (j := 20) (i := tn A 5 op) rfl rfl (by show _ < 4; omega) (by decide +kernel) (v := (tr A 20 (tn A 5 op))) (mval_3 rfl) ?_
                  have E16 : tn (sn A 18 (tn A 5 op) ((tn A 18 (tn A 5 op)) ||| (2 ^ z9))) 16 (tn A 5 op) = op + 1 := q27_26
                  refine VR.call h (np := 2) (st := []) (r_ends hls (sn A 18 (tn A 5 op) ((tn A 18 (tn A 5 op)) ||| (2 ^ z9))) (tn A 5 op) (tr A 20 (tn A 5 op)) K hc (by rw [E16]; omega) (by rw [E16]; omega) (hB1) (by omega)) wc_X11_ends wn_RX11 (Or.inl wm_RX11_241) wi_X11_ends we_X11_ends (by decide +kernel) rfl (by decide) (by decide) (by simp [Value.category]) (by decide +kernel) rfl ?_
                  refine VR.blk h [(.aload_n 0, 1)] (by decide +kernel) (pc' := 162) (ls' := [some (.ref am), some (.int (nI (so))), some (.int (nI (e))), some (.int (nI (op))), some (.int (nI (z9))), some (.int (v)), some (.int (bI (b))), some (.int (nI (tn A 5 op)))]) (st' := [.ref am]) rfl rfl (Nat.le_of_ble_eq_true rfl) ?_
                  refine VR.getA h (j := 21) rfl (Or.inl wf_RX11_54) (by decide +kernel) ?_
                  refine VR.blk h [(.iload 7, 2), (.dup2, 1)] (by decide +kernel) (pc' := 168) (ls' := [some (.ref am), some (.int (nI (so))), some (.int (nI (e))), some (.int (nI (op))), some (.int (nI (z9))), some (.int (v)), some (.int (bI (b))), some (.int (nI (tn A 5 op)))]) (st' := [.int (nI (tn A 5 op)), .ref (ad 21), .int (nI (tn A 5 op)), .ref (ad 21)]) rfl rfl (Nat.le_of_ble_eq_true rfl) ?_
                  refine VR.iald h (j := 21) (i := tn A 5 op) rfl rfl (by show _ < 4; omega) (by decide +kernel) (v := (nI (tn A 21 (tn A 5 op)))) ((mval_1 rfl).trans (congrArg nI (end_21 ..))) ?_
                  have nb183 := hB.2 21 (tn A 5 op)
                  refine VR.blk h [(.iconst 1, 1)] (by decide +kernel) (pc' := 170) (ls' := [some (.ref am), some (.int (nI (so))), some (.int (nI (e))), some (.int (nI (op))), some (.int (nI (z9))), some (.int (v)), some (.int (bI (b))), some (.int (nI (tn A 5 op)))]) (st' := [.int (nI (1)), .int (nI (tn A 21 (tn A 5 op))), .int (nI (tn A 5 op)), .ref (ad 21)]) rfl rfl (Nat.le_of_ble_eq_true rfl) ?_
                  refine VR.addN h (by decide +kernel) (Nat.le_of_ble_eq_true rfl) ?_
                  refine VR.iastN h (j := 21) (i := tn A 5 op) rfl rfl (by show _ < 4; omega) (by decide +kernel) ?_
                  exact VR.vret h hA hQ hr rfl (by unfold rcF rcC; exact ((if_neg (fun z => z.elim (fun a => a q16_14) (fun z => z.elim (fun a => a q27_26) (fun a => by rw [q36_34] at a; cases a)))).trans ((if_neg q42_38).trans ((if_pos q57_42).trans (if_pos ⟨q115_138, of_decide_eq_true q127_150, q145_167⟩)))).symm) (by decide +kernel)
        · have q42_38 := ((nI_eq (by omega) (by omega)).mp q)
          clear q
          refine VR.blk h [(.aload_n 0, 1), (.iconst 5, 1), (.iload_n 2, 1), (.iload 7, 2), (.iload_n 3, 1)] (by decide +kernel) (pc' := 51) (ls' := [some (.ref am), some (.int (nI (so))), some (.int (nI (e))), some (.int (nI (op))), some (.int (nI (z9))), some (.int (v)), some (.int (bI (b))), some (.int (nI (tn A 5 op)))]) (st' := [.int (nI (op)), .int (nI (tn A 5 op)), .int (nI (e)), .int (nI (5)), .ref am]) rfl rfl (Nat.le_of_ble_eq_true rfl) ?_
          refine VR.call h (np := 4) (st := []) (r_sendOp hls A 5 e (tn A 5 op) op K (by omega) (by omega) (by omega) ho (by omega) hl hB (by omega)) wc_X11_sendOp wn_RX11 (Or.inl wm_RX11_228) wi_X11_sendOp we_X11_sendOp (by decide +kernel) rfl (by decide) (by decide) (by simp [Value.category]) (by decide +kernel) rfl ?_
          exact VR.vret h hA hQ hr rfl (by unfold rcF rcC; exact ((if_neg (fun z => z.elim (fun a => a q16_14) (fun z => z.elim (fun a => a q27_26) (fun a => by rw [q36_34] at a; cases a)))).trans (if_pos q42_38)).symm) (by decide +kernel)
      · have q36_34 := (bI_0.mp q)
        clear q
        exact VR.vret h hA hQ hr rfl (by unfold rcF rcC; exact (if_pos (Or.inr (Or.inr q36_34))).symm) (by decide +kernel)
