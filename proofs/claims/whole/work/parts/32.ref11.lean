set_option maxRecDepth 100000 in
set_option maxHeartbeats 4000000 in
theorem r_isOnce {l : Launch} {D : va_G} {tc : Nat → ClassId} {am : Nat} {ad : Nat → Nat} (hls : l.stackTraces = false) (A : TS) (e K : Nat) (he : e < 12) (hm : tn A 26 e ≤ 600) (hlo : ∀ k, k < tn A 26 e → tn A 22 (600 * e + k) < 600) (hB : NB K A) (hK : K < 2000000000) : RM l D tc am ad yX11_isOnce cX11_isOnce 4 (some .boolean) 1 [.ref am, .int (nI (e))] A (some (.int (bI (onL A e (tn A 26 e))))) (A) := by
  refine RM.of hls (by decide +kernel) (by simp [Value.category]) (Nat.le_of_ble_eq_true rfl) (fun A0 p e9 s m args below meth c S0 sz Q h hr hA hQ => ?_)
  refine VR.eqL (ls' := [some (.ref am), some (.int (nI (e))), none, none]) rfl ?_
  refine VR.blk h [(.iconst 1, 1), (.istore_n 2, 1), (.iconst 0, 1), (.istore_n 3, 1)] (by decide +kernel) (pc' := 4) (ls' := [some (.ref am), some (.int (nI (e))), some (.int (nI (1))), some (.int (nI (0)))]) (st' := []) rfl rfl (Nat.le_of_ble_eq_true rfl) ?_
  have loop4 : ∀ (t k : Nat), tn A 26 e - k = t → k ≤ tn A 26 e → VR l D tc A0 p e9 (rmd 1 0 0) s m args below meth c 4 Q am ad A 4 [some (.ref am), some (.int (nI (e))), some (.int (bI (onL A e k))), some (.int (nI (k)))] [] := by
    intro t; induction t using Nat.strongRecOn with
    | _ t ih4 =>
      intro k ht4 hk4
      have gpl := placeF_le A e (tn A 22 (600 * e + k))
      refine VR.blk h [(.iload_n 3, 1), (.aload_n 0, 1)] (by decide +kernel) (pc' := 6) (ls' := [some (.ref am), some (.int (nI (e))), some (.int (bI (onL A e k))), some (.int (nI (k)))]) (st' := [.ref am, .int (nI (k))]) rfl rfl (Nat.le_of_ble_eq_true rfl) ?_
      refine VR.getA h (j := 26) rfl (Or.inl wf_RX11_69) (by decide +kernel) ?_
      refine VR.blk h [(.iload_n 1, 1)] (by decide +kernel) (pc' := 10) (ls' := [some (.ref am), some (.int (nI (e))), some (.int (bI (onL A e k))), some (.int (nI (k)))]) (st' := [.int (nI (e)), .ref (ad 26), .int (nI (k))]) rfl rfl (Nat.le_of_ble_eq_true rfl) ?_
      refine VR.iald h (j := 26) (i := e) rfl rfl (by show _ < 12; omega) (by decide +kernel) (v := (nI (tn A 26 e))) (mval_1 rfl) ?_
      have nb11 := hB.2 26 e
      refine VR.icmp_ge h (off := 40) (by decide +kernel) (tgt := 51) (by decide) (fun q => ?_) (fun q => ?_)
      · have q11_12 := ((nI_leI (by omega) (by omega)).mp q)
        clear q
        refine VR.blk h [(.iload_n 2, 1)] (by decide +kernel) (pc' := 52) (ls' := [some (.ref am), some (.int (nI (e))), some (.int (bI (onL A e k))), some (.int (nI (k)))]) (st' := [.int (bI (onL A e k))]) rfl rfl (Nat.le_of_ble_eq_true rfl) ?_
        exact VR.iret h hA hQ hr (bI_nar _) (by rw [show k = tn A 26 e by omega]) rfl (by decide +kernel)
      · have q11_12 : ¬ _ := (fun z => q ((nI_leI (by omega) (by omega)).mpr z))
        clear q
        have join44 : ∀ bb44 : Bool, bb44 = (onL A e k && decide (placeF A e (tn A 22 (600 * e + k)) = k + 1)) → VR l D tc A0 p e9 (rmd 1 0 0) s m args below meth c 4 Q am ad A 44 [some (.ref am), some (.int (nI (e))), some (.int (bI (onL A e k))), some (.int (nI (k)))] [.int (bI (bb44))] := by
          intro bb44 hb44; subst hb44
          refine VR.blk h [(.istore_n 2, 1)] (by decide +kernel) (pc' := 45) (ls' := [some (.ref am), some (.int (nI (e))), some (.int (bI ((onL A e k && decide (placeF A e (tn A 22 (600 * e + k)) = k + 1))))), some (.int (nI (k)))]) (st' := []) rfl rfl (Nat.le_of_ble_eq_true rfl) ?_
          refine VR.incN h (x := k) (i := 3) (by decide +kernel) rfl (Nat.le_of_ble_eq_true rfl) ?_
          refine VR.eqL (ls' := [some (.ref am), some (.int (nI (e))), some (.int (bI ((onL A e k && decide (placeF A e (tn A 22 (600 * e + k)) = k + 1))))), some (.int (nI (k + 1)))]) rfl ?_
          refine VR.goto h (off := -44) (tgt := 4) (by decide +kernel) (by decide) ?_
          refine VR.eqL (ls' := [some (.ref am), some (.int (nI (e))), some (.int (bI (onL A e ((k + 1))))), some (.int (nI ((k + 1))))]) (by simp only [onL]) ?_
          exact ih4 (tn A 26 e - (k + 1)) (by omega) (k + 1) rfl (by omega)
        refine VR.blk h [(.iload_n 2, 1)] (by decide +kernel) (pc' := 15) (ls' := [some (.ref am), some (.int (nI (e))), some (.int (bI (onL A e k))), some (.int (nI (k)))]) (st' := [.int (bI (onL A e k))]) rfl rfl (Nat.le_of_ble_eq_true rfl) ?_
        refine VR.if_eq h (off := 28) (by decide +kernel) (tgt := 43) (by decide) (fun q => ?_) (fun q => ?_)
        · have q15_28 := (bI_0.mp q)
          clear q
          refine VR.blk h [(.iconst 0, 1)] (by decide +kernel) (pc' := 44) (ls' := [some (.ref am), some (.int (nI (e))), some (.int (bI (onL A e k))), some (.int (nI (k)))]) (st' := [.int (nI (0))]) rfl rfl (Nat.le_of_ble_eq_true rfl) ?_
          refine VR.top (v' := .int (bI false)) (by rw [bI_f]) ?_
          exact join44 _ (by first | (simp [q11_12, q15_28]; done) | (simp [q11_12, q15_28]; omega))
        · have q15_28 := (bI_1 (fun z => q (bI_0.mpr z)))
          clear q
          refine VR.blk h [(.aload_n 0, 1), (.iload_n 1, 1), (.aload_n 0, 1)] (by decide +kernel) (pc' := 21) (ls' := [some (.ref am), some (.int (nI (e))), some (.int (bI (onL A e k))), some (.int (nI (k)))]) (st' := [.ref am, .int (nI (e)), .ref am]) rfl rfl (Nat.le_of_ble_eq_true rfl) ?_
          refine VR.getA h (j := 22) rfl (Or.inl wf_RX11_57) (by decide +kernel) ?_
          refine VR.blk h [(.sipush 600, 3), (.iload_n 1, 1)] (by decide +kernel) (pc' := 28) (ls' := [some (.ref am), some (.int (nI (e))), some (.int (bI (onL A e k))), some (.int (nI (k)))]) (st' := [.int (nI (e)), .int (nI (600)), .ref (ad 22), .int (nI (e)), .ref am]) rfl rfl (Nat.le_of_ble_eq_true rfl) ?_
          refine VR.mulN h (by decide +kernel) (Nat.le_of_ble_eq_true rfl) ?_
          refine VR.blk h [(.iload_n 3, 1)] (by decide +kernel) (pc' := 30) (ls' := [some (.ref am), some (.int (nI (e))), some (.int (bI (onL A e k))), some (.int (nI (k)))]) (st' := [.int (nI (k)), .int (nI (600 * e)), .ref (ad 22), .int (nI (e)), .ref am]) rfl rfl (Nat.le_of_ble_eq_true rfl) ?_
          refine VR.addN h (by decide +kernel) (Nat.le_of_ble_eq_true rfl) ?_
          have hop := hlo k (by omega)
          refine VR.iald h (j := 22) (i := (600 * e) + k) rfl rfl (by show _ < 7200; omega) (by decide +kernel) (v := (nI (tn A 22 ((600 * e) + k)))) (mval_1 rfl) ?_
          have nb44 := hB.2 22 ((600 * e) + k)
          refine VR.call h (np := 2) (st := []) (r_place hls A e (tn A 22 ((600 * e) + k)) K he hm hB (by omega) (by omega)) wc_X11_place wn_RX11 (Or.inl wm_RX11_183) wi_X11_place we_X11_place (by decide +kernel) rfl (by decide) (by decide) (by simp [Value.category]) (by decide +kernel) rfl ?_
          refine VR.blk h [(.iload_n 3, 1)] (by decide +kernel) (pc' := 36) (ls' := [some (.ref am), some (.int (nI (e))), some (.int (bI (onL A e k))), some (.int (nI (k)))]) (st' := [.int (nI (k)), .int (oI (placeF A e (tn A 22 ((600 * e) + k))))]) rfl rfl (Nat.le_of_ble_eq_true rfl) ?_
          refine VR.icmp_ne h (off := 7) (by decide +kernel) (tgt := 43) (by decide) (fun q => ?_) (fun q => ?_)
          · have q36_47 : ¬ _ := (fun z => q ((oI_eqN (by omega) (by omega)).mpr z))
            clear q
            refine VR.blk h [(.iconst 0, 1)] (by decide +kernel) (pc' := 44) (ls' := [some (.ref am), some (.int (nI (e))), some (.int (bI (onL A e k))), some (.int (nI (k)))]) (st' := [.int (nI (0))]) rfl rfl (Nat.le_of_ble_eq_true rfl) ?_
            refine VR.top (v' := .int (bI false)) (by rw [bI_f]) ?_
            exact join44 _ (by first | (simp [q11_12, q15_28, q36_47]; done) | (simp [q11_12, q15_28, q36_47]; omega))
          · have q36_47 := ((oI_eqN (by omega) (by omega)).mp q)
            clear q
            refine VR.blk h [(.iconst 1, 1)] (by decide +kernel) (pc' := 40) (ls' := [some (.ref am), some (.int (nI (e))), some (.int (bI (onL A e k))), some (.int (nI (k)))]) (st' := [.int (nI (1))]) rfl rfl (Nat.le_of_ble_eq_true rfl) ?_
            refine VR.goto h (off := 4) (tgt := 44) (by decide +kernel) (by decide) ?_
            refine VR.top (v' := .int (bI true)) (by rw [bI_t]) ?_
            exact join44 _ (by first | (simp [q11_12, q15_28, q36_47]; done) | (simp [q11_12, q15_28, q36_47]; omega))
  refine VR.eqL (ls' := [some (.ref am), some (.int (nI (e))), some (.int (bI (onL A e 0))), some (.int (nI (0)))]) (by rw [onL, bI_t]) ?_
  exact loop4 _ 0 rfl (Nat.zero_le _)

set_option maxRecDepth 100000 in
set_option maxHeartbeats 4000000 in
theorem r_areInOrder {l : Launch} {D : va_G} {tc : Nat → ClassId} {am : Nat} {ad : Nat → Nat} (hls : l.stackTraces = false) (A : TS) (e K : Nat) (he : e < 12) (hm : tn A 26 e ≤ 600) (hn13 : tf A 13 ≤ 600) (hB : NB K A) (hK : K < 2000000000) : RM l D tc am ad yX11_areInOrder cX11_areInOrder 7 (some .boolean) 1 [.ref am, .int (nI (e))] A (some (.int (bI (ioL A e (tf A 13))))) (A) := by
  refine RM.of hls (by decide +kernel) (by simp [Value.category]) (Nat.le_of_ble_eq_true rfl) (fun A0 p e9 s m args below meth c S0 sz Q h hr hA hQ => ?_)
  refine VR.eqL (ls' := [some (.ref am), some (.int (nI (e))), none, none, none, none, none]) rfl ?_
  refine VR.blk h [(.iconst 1, 1), (.istore_n 2, 1), (.iconst 0, 1), (.istore_n 3, 1)] (by decide +kernel) (pc' := 4) (ls' := [some (.ref am), some (.int (nI (e))), some (.int (nI (1))), some (.int (nI (0))), none, none, none]) (st' := []) rfl rfl (Nat.le_of_ble_eq_true rfl) ?_
  have loop4 : ∀ (t a : Nat), tf A 13 - a = t → a ≤ tf A 13 → VR l D tc A0 p e9 (rmd 1 0 0) s m args below meth c 7 Q am ad A 4 [some (.ref am), some (.int (nI (e))), some (.int (bI (ioL A e a))), some (.int (nI (a))), none, none, none] [] := by
    intro t; induction t using Nat.strongRecOn with
    | _ t ih4 =>
      intro a ht4 hk4
      have gpa := placeF_le A e a
      refine VR.blk h [(.iload_n 3, 1), (.aload_n 0, 1)] (by decide +kernel) (pc' := 6) (ls' := [some (.ref am), some (.int (nI (e))), some (.int (bI (ioL A e a))), some (.int (nI (a))), none, none, none]) (st' := [.ref am, .int (nI (a))]) rfl rfl (Nat.le_of_ble_eq_true rfl) ?_
      refine VR.getI h (j := 13) rfl (Or.inl wf_RX11_251) (by decide +kernel) (v := tf A 13) rfl ?_
      refine VR.icmp_ge h (off := 175) (by decide +kernel) (tgt := 184) (by decide) (fun q => ?_) (fun q => ?_)
      · have q9_9 := ((nI_leI (by omega) (by omega)).mp q)
        clear q
        refine VR.blk h [(.iload_n 2, 1)] (by decide +kernel) (pc' := 185) (ls' := [some (.ref am), some (.int (nI (e))), some (.int (bI (ioL A e a))), some (.int (nI (a))), none, none, none]) (st' := [.int (bI (ioL A e a))]) rfl rfl (Nat.le_of_ble_eq_true rfl) ?_
        exact VR.iret h hA hQ hr (bI_nar _) (by rw [show a = tf A 13 by omega]) rfl (by decide +kernel)
      · have q9_9 : ¬ _ := (fun z => q ((nI_leI (by omega) (by omega)).mpr z))
        clear q
        refine VR.blk h [(.aload_n 0, 1)] (by decide +kernel) (pc' := 13) (ls' := [some (.ref am), some (.int (nI (e))), some (.int (bI (ioL A e a))), some (.int (nI (a))), none, none, none]) (st' := [.ref am]) rfl rfl (Nat.le_of_ble_eq_true rfl) ?_
        refine VR.getA h (j := 7) rfl (Or.inl wf_RX11_20) (by decide +kernel) ?_
        refine VR.blk h [(.iload_n 3, 1)] (by decide +kernel) (pc' := 17) (ls' := [some (.ref am), some (.int (nI (e))), some (.int (bI (ioL A e a))), some (.int (nI (a))), none, none, none]) (st' := [.int (nI (a)), .ref (ad 7)]) rfl rfl (Nat.le_of_ble_eq_true rfl) ?_
        refine VR.iald h (j := 7) (i := a) rfl rfl (by show _ < 600; omega) (by decide +kernel) (v := (nI (tn A 7 a))) (mval_1 rfl) ?_
        have nb20 := hB.2 7 a
        refine VR.callS h (np := 1) (st := []) (r_isUpdate hls A (tn A 7 a) (by omega)) wc_X11_isUpdate wn_RX11 (Or.inl wm_RX11_197) wt_X11_isUpdate (by decide +kernel) rfl (by decide) (by decide) (by simp [Value.category]) (by decide +kernel) rfl ?_
        refine VR.if_eq h (off := 157) (by decide +kernel) (tgt := 178) (by decide) (fun q => ?_) (fun q => ?_)
        · have q21_22 := (bI_0.mp q)
          clear q
          refine VR.incN h (x := a) (i := 3) (by decide +kernel) rfl (Nat.le_of_ble_eq_true rfl) ?_
          refine VR.eqL (ls' := [some (.ref am), some (.int (nI (e))), some (.int (bI (ioL A e a))), some (.int (nI (a + 1))), none, none, none]) rfl ?_
          refine VR.goto h (off := -177) (tgt := 4) (by decide +kernel) (by decide) ?_
          refine VR.eqL (ls' := [some (.ref am), some (.int (nI (e))), some (.int (bI (ioL A e ((a + 1))))), some (.int (nI ((a + 1)))), none, none, none]) (by rw [ioL, if_neg (fun z => (of_decide_eq_false q21_22) z.1)]) ?_
          exact ih4 (tf A 13 - (a + 1)) (by omega) (a + 1) rfl (by omega)
        · have q21_22 := (bI_1 (fun z => q (bI_0.mpr z)))
          clear q
          refine VR.blk h [(.aload_n 0, 1)] (by decide +kernel) (pc' := 25) (ls' := [some (.ref am), some (.int (nI (e))), some (.int (bI (ioL A e a))), some (.int (nI (a))), none, none, none]) (st' := [.ref am]) rfl rfl (Nat.le_of_ble_eq_true rfl) ?_
          refine VR.getA h (j := 11) rfl (Or.inl wf_RX11_32) (by decide +kernel) ?_
          refine VR.blk h [(.iload_n 3, 1)] (by decide +kernel) (pc' := 29) (ls' := [some (.ref am), some (.int (nI (e))), some (.int (bI (ioL A e a))), some (.int (nI (a))), none, none, none]) (st' := [.int (nI (a)), .ref (ad 11)]) rfl rfl (Nat.le_of_ble_eq_true rfl) ?_
          refine VR.iald h (j := 11) (i := a) rfl rfl (by show _ < 600; omega) (by decide +kernel) (v := (oI (tn A 11 a))) (mval_2 rfl) ?_
          have nb36 := hB.2 11 a
          refine VR.if_ge h (off := 6) (by decide +kernel) (tgt := 36) (by decide) (fun q => ?_) (fun q => ?_)
          · have q30_37 := ((oI_nn (by omega)).mp q)
            clear q
            refine VR.blk h [(.aload_n 0, 1), (.iload_n 1, 1), (.iload_n 3, 1)] (by decide +kernel) (pc' := 39) (ls' := [some (.ref am), some (.int (nI (e))), some (.int (bI (ioL A e a))), some (.int (nI (a))), none, none, none]) (st' := [.int (nI (a)), .int (nI (e)), .ref am]) rfl rfl (Nat.le_of_ble_eq_true rfl) ?_
            refine VR.call h (np := 2) (st := []) (r_place hls A e a K he hm hB (by omega) (by omega)) wc_X11_place wn_RX11 (Or.inl wm_RX11_183) wi_X11_place we_X11_place (by decide +kernel) rfl (by decide) (by decide) (by simp [Value.category]) (by decide +kernel) rfl ?_
            refine VR.blk h [(.istore 4, 2)] (by decide +kernel) (pc' := 44) (ls' := [some (.ref am), some (.int (nI (e))), some (.int (bI (ioL A e a))), some (.int (nI (a))), some (.int (oI (placeF A e a))), none, none]) (st' := []) rfl rfl (Nat.le_of_ble_eq_true rfl) ?_
            have join80 : ∀ bb80 : Bool, bb80 = (ioL A e a && ioX A e a) → VR l D tc A0 p e9 (rmd 1 0 0) s m args below meth c 7 Q am ad A 80 [some (.ref am), some (.int (nI (e))), some (.int (bI (ioL A e a))), some (.int (nI (a))), some (.int (oI (placeF A e a))), none, none] [.int (bI (bb80))] := by
              intro bb80 hb80; subst hb80
              refine VR.blk h [(.istore_n 2, 1), (.iconst 0, 1), (.istore 5, 2)] (by decide +kernel) (pc' := 84) (ls' := [some (.ref am), some (.int (nI (e))), some (.int (bI ((ioL A e a && ioX A e a)))), some (.int (nI (a))), some (.int (oI (placeF A e a))), some (.int (nI (0))), none]) (st' := []) rfl rfl (Nat.le_of_ble_eq_true rfl) ?_
              have loop84 : ∀ (t b : Nat), tf A 13 - b = t → b ≤ tf A 13 → VR l D tc A0 p e9 (rmd 1 0 0) s m args below meth c 7 Q am ad A 84 [some (.ref am), some (.int (nI (e))), some (.int (bI (ibL A e a (ioL A e a && ioX A e a) b))), some (.int (nI (a))), some (.int (oI (placeF A e a))), some (.int (nI (b))), none] [] := by
                intro t; induction t using Nat.strongRecOn with
                | _ t ih84 =>
                  intro b ht84 hk84
                  have gpb := placeF_le A e b
                  have nb11 := hB.2 11 a
                  refine VR.blk h [(.iload 5, 2), (.aload_n 0, 1)] (by decide +kernel) (pc' := 87) (ls' := [some (.ref am), some (.int (nI (e))), some (.int (bI (ibL A e a (ioL A e a && ioX A e a) b))), some (.int (nI (a))), some (.int (oI (placeF A e a))), some (.int (nI (b))), none]) (st' := [.ref am, .int (nI (b))]) rfl rfl (Nat.le_of_ble_eq_true rfl) ?_
                  refine VR.getI h (j := 13) rfl (Or.inl wf_RX11_251) (by decide +kernel) (v := tf A 13) rfl ?_
                  refine VR.icmp_ge h (off := 88) (by decide +kernel) (tgt := 178) (by decide) (fun q => ?_) (fun q => ?_)
                  · have q90_54 := ((nI_leI (by omega) (by omega)).mp q)
                    clear q
                    refine VR.incN h (x := a) (i := 3) (by decide +kernel) rfl (Nat.le_of_ble_eq_true rfl) ?_
                    refine VR.eqL (ls' := [some (.ref am), some (.int (nI (e))), some (.int (bI (ibL A e a (ioL A e a && ioX A e a) b))), some (.int (nI (a + 1))), some (.int (oI (placeF A e a))), some (.int (nI (b))), none]) rfl ?_
                    refine VR.goto h (off := -177) (tgt := 4) (by decide +kernel) (by decide) ?_
                    refine VR.drop 4 (ls' := [some (.ref am), some (.int (nI (e))), some (.int (bI (ibL A e a (ioL A e a && ioX A e a) b))), some (.int (nI (a + 1))), none, some (.int (nI (b))), none]) rfl ?_
                    refine VR.drop 5 (ls' := [some (.ref am), some (.int (nI (e))), some (.int (bI (ibL A e a (ioL A e a && ioX A e a) b))), some (.int (nI (a + 1))), none, none, none]) rfl ?_
                    refine VR.eqL (ls' := [some (.ref am), some (.int (nI (e))), some (.int (bI (ioL A e ((a + 1))))), some (.int (nI ((a + 1)))), none, none, none]) (by rw [ioL, if_pos ⟨of_decide_eq_true q21_22, q30_37⟩, show b = tf A 13 by omega]) ?_
                    exact ih4 (tf A 13 - (a + 1)) (by omega) (a + 1) rfl (by omega)
                  · have q90_54 : ¬ _ := (fun z => q ((nI_leI (by omega) (by omega)).mpr z))
                    clear q
                    refine VR.blk h [(.iload_n 2, 1)] (by decide +kernel) (pc' := 94) (ls' := [some (.ref am), some (.int (nI (e))), some (.int (bI (ibL A e a (ioL A e a && ioX A e a) b))), some (.int (nI (a))), some (.int (oI (placeF A e a))), some (.int (nI (b))), none]) (st' := [.int (bI (ibL A e a (ioL A e a && ioX A e a) b))]) rfl rfl (Nat.le_of_ble_eq_true rfl) ?_
                    refine VR.if_eq h (off := 84) (by decide +kernel) (tgt := 178) (by decide) (fun q => ?_) (fun q => ?_)
                    · have q94_67 := (bI_0.mp q)
                      clear q
                      refine VR.incN h (x := a) (i := 3) (by decide +kernel) rfl (Nat.le_of_ble_eq_true rfl) ?_
                      refine VR.eqL (ls' := [some (.ref am), some (.int (nI (e))), some (.int (bI (ibL A e a (ioL A e a && ioX A e a) b))), some (.int (nI (a + 1))), some (.int (oI (placeF A e a))), some (.int (nI (b))), none]) rfl ?_
                      refine VR.goto h (off := -177) (tgt := 4) (by decide +kernel) (by decide) ?_
                      refine VR.drop 4 (ls' := [some (.ref am), some (.int (nI (e))), some (.int (bI (ibL A e a (ioL A e a && ioX A e a) b))), some (.int (nI (a + 1))), none, some (.int (nI (b))), none]) rfl ?_
                      refine VR.drop 5 (ls' := [some (.ref am), some (.int (nI (e))), some (.int (bI (ibL A e a (ioL A e a && ioX A e a) b))), some (.int (nI (a + 1))), none, none, none]) rfl ?_
                      refine VR.eqL (ls' := [some (.ref am), some (.int (nI (e))), some (.int (bI (ioL A e ((a + 1))))), some (.int (nI ((a + 1)))), none, none, none]) (by rw [ioL, if_pos ⟨of_decide_eq_true q21_22, q30_37⟩, ibL_false q94_67 _ (by omega), q94_67]) ?_
                      exact ih4 (tf A 13 - (a + 1)) (by omega) (a + 1) rfl (by omega)
                    · have q94_67 := (bI_1 (fun z => q (bI_0.mpr z)))
                      clear q
                      refine VR.blk h [(.aload_n 0, 1)] (by decide +kernel) (pc' := 98) (ls' := [some (.ref am), some (.int (nI (e))), some (.int (bI (ibL A e a (ioL A e a && ioX A e a) b))), some (.int (nI (a))), some (.int (oI (placeF A e a))), some (.int (nI (b))), none]) (st' := [.ref am]) rfl rfl (Nat.le_of_ble_eq_true rfl) ?_
                      refine VR.getA h (j := 7) rfl (Or.inl wf_RX11_20) (by decide +kernel) ?_
                      refine VR.blk h [(.iload 5, 2)] (by decide +kernel) (pc' := 103) (ls' := [some (.ref am), some (.int (nI (e))), some (.int (bI (ibL A e a (ioL A e a && ioX A e a) b))), some (.int (nI (a))), some (.int (oI (placeF A e a))), some (.int (nI (b))), none]) (st' := [.int (nI (b)), .ref (ad 7)]) rfl rfl (Nat.le_of_ble_eq_true rfl) ?_
                      refine VR.iald h (j := 7) (i := b) rfl rfl (by show _ < 600; omega) (by decide +kernel) (v := (nI (tn A 7 b))) (mval_1 rfl) ?_
                      have nb83 := hB.2 7 b
                      refine VR.callS h (np := 1) (st := []) (r_isUpdate hls A (tn A 7 b) (by omega)) wc_X11_isUpdate wn_RX11 (Or.inl wm_RX11_197) wt_X11_isUpdate (by decide +kernel) rfl (by decide) (by decide) (by simp [Value.category]) (by decide +kernel) rfl ?_
                      refine VR.if_eq h (off := 65) (by decide +kernel) (tgt := 172) (by decide) (fun q => ?_) (fun q => ?_)
                      · have q107_85 := (bI_0.mp q)
                        clear q
                        refine VR.incN h (x := b) (i := 5) (by decide +kernel) rfl (Nat.le_of_ble_eq_true rfl) ?_
                        refine VR.eqL (ls' := [some (.ref am), some (.int (nI (e))), some (.int (bI (ibL A e a (ioL A e a && ioX A e a) b))), some (.int (nI (a))), some (.int (oI (placeF A e a))), some (.int (nI (b + 1))), none]) rfl ?_
                        refine VR.goto h (off := -91) (tgt := 84) (by decide +kernel) (by decide) ?_
                        refine VR.eqL (ls' := [some (.ref am), some (.int (nI (e))), some (.int (bI (ibL A e a (ioL A e a && ioX A e a) ((b + 1))))), some (.int (nI (a))), some (.int (oI (placeF A e a))), some (.int (nI ((b + 1)))), none]) (by rw [ibL_s q94_67, q94_67, ibS, if_neg (fun z => (of_decide_eq_false q107_85) z.1)]) ?_
                        exact ih84 (tf A 13 - (b + 1)) (by omega) (b + 1) rfl (by omega)
                      · have q107_85 := (bI_1 (fun z => q (bI_0.mpr z)))
                        clear q
                        refine VR.blk h [(.aload_n 0, 1)] (by decide +kernel) (pc' := 111) (ls' := [some (.ref am), some (.int (nI (e))), some (.int (bI (ibL A e a (ioL A e a && ioX A e a) b))), some (.int (nI (a))), some (.int (oI (placeF A e a))), some (.int (nI (b))), none]) (st' := [.ref am]) rfl rfl (Nat.le_of_ble_eq_true rfl) ?_
                        refine VR.getA h (j := 8) rfl (Or.inl wf_RX11_23) (by decide +kernel) ?_
                        refine VR.blk h [(.iload 5, 2)] (by decide +kernel) (pc' := 116) (ls' := [some (.ref am), some (.int (nI (e))), some (.int (bI (ibL A e a (ioL A e a && ioX A e a) b))), some (.int (nI (a))), some (.int (oI (placeF A e a))), some (.int (nI (b))), none]) (st' := [.int (nI (b)), .ref (ad 8)]) rfl rfl (Nat.le_of_ble_eq_true rfl) ?_
                        refine VR.iald h (j := 8) (i := b) rfl rfl (by show _ < 600; omega) (by decide +kernel) (v := (nI (tn A 8 b))) (mval_1 rfl) ?_
                        have nb99 := hB.2 8 b
                        refine VR.blk h [(.aload_n 0, 1)] (by decide +kernel) (pc' := 118) (ls' := [some (.ref am), some (.int (nI (e))), some (.int (bI (ibL A e a (ioL A e a && ioX A e a) b))), some (.int (nI (a))), some (.int (oI (placeF A e a))), some (.int (nI (b))), none]) (st' := [.ref am, .int (nI (tn A 8 b))]) rfl rfl (Nat.le_of_ble_eq_true rfl) ?_
                        refine VR.getA h (j := 8) rfl (Or.inl wf_RX11_23) (by decide +kernel) ?_
                        refine VR.blk h [(.iload_n 3, 1)] (by decide +kernel) (pc' := 122) (ls' := [some (.ref am), some (.int (nI (e))), some (.int (bI (ibL A e a (ioL A e a && ioX A e a) b))), some (.int (nI (a))), some (.int (oI (placeF A e a))), some (.int (nI (b))), none]) (st' := [.int (nI (a)), .ref (ad 8), .int (nI (tn A 8 b))]) rfl rfl (Nat.le_of_ble_eq_true rfl) ?_
                        refine VR.iald h (j := 8) (i := a) rfl rfl (by show _ < 600; omega) (by decide +kernel) (v := (nI (tn A 8 a))) (mval_1 rfl) ?_
                        have nb104 := hB.2 8 a
                        refine VR.icmp_ne h (off := 49) (by decide +kernel) (tgt := 172) (by decide) (fun q => ?_) (fun q => ?_)
                        · have q123_105 : ¬ _ := (fun z => q ((nI_eq (by omega) (by omega)).mpr z))
                          clear q
                          refine VR.incN h (x := b) (i := 5) (by decide +kernel) rfl (Nat.le_of_ble_eq_true rfl) ?_
                          refine VR.eqL (ls' := [some (.ref am), some (.int (nI (e))), some (.int (bI (ibL A e a (ioL A e a && ioX A e a) b))), some (.int (nI (a))), some (.int (oI (placeF A e a))), some (.int (nI (b + 1))), none]) rfl ?_
                          refine VR.goto h (off := -91) (tgt := 84) (by decide +kernel) (by decide) ?_
                          refine VR.eqL (ls' := [some (.ref am), some (.int (nI (e))), some (.int (bI (ibL A e a (ioL A e a && ioX A e a) ((b + 1))))), some (.int (nI (a))), some (.int (oI (placeF A e a))), some (.int (nI ((b + 1)))), none]) (by rw [ibL_s q94_67, q94_67, ibS, if_neg (fun z => q123_105 z.2.1)]) ?_
                          exact ih84 (tf A 13 - (b + 1)) (by omega) (b + 1) rfl (by omega)
                        · have q123_105 := ((nI_eq (by omega) (by omega)).mp q)
                          clear q
                          refine VR.blk h [(.aload_n 0, 1)] (by decide +kernel) (pc' := 127) (ls' := [some (.ref am), some (.int (nI (e))), some (.int (bI (ibL A e a (ioL A e a && ioX A e a) b))), some (.int (nI (a))), some (.int (oI (placeF A e a))), some (.int (nI (b))), none]) (st' := [.ref am]) rfl rfl (Nat.le_of_ble_eq_true rfl) ?_
                          refine VR.getA h (j := 10) rfl (Or.inl wf_RX11_29) (by decide +kernel) ?_
                          refine VR.blk h [(.iload 5, 2)] (by decide +kernel) (pc' := 132) (ls' := [some (.ref am), some (.int (nI (e))), some (.int (bI (ibL A e a (ioL A e a && ioX A e a) b))), some (.int (nI (a))), some (.int (oI (placeF A e a))), some (.int (nI (b))), none]) (st' := [.int (nI (b)), .ref (ad 10)]) rfl rfl (Nat.le_of_ble_eq_true rfl) ?_
                          refine VR.iald h (j := 10) (i := b) rfl rfl (by show _ < 600; omega) (by decide +kernel) (v := (nI (tn A 10 b))) (mval_1 rfl) ?_
                          have nb119 := hB.2 10 b
                          refine VR.blk h [(.aload_n 0, 1)] (by decide +kernel) (pc' := 134) (ls' := [some (.ref am), some (.int (nI (e))), some (.int (bI (ibL A e a (ioL A e a && ioX A e a) b))), some (.int (nI (a))), some (.int (oI (placeF A e a))), some (.int (nI (b))), none]) (st' := [.ref am, .int (nI (tn A 10 b))]) rfl rfl (Nat.le_of_ble_eq_true rfl) ?_
                          refine VR.getA h (j := 11) rfl (Or.inl wf_RX11_32) (by decide +kernel) ?_
                          refine VR.blk h [(.iload_n 3, 1)] (by decide +kernel) (pc' := 138) (ls' := [some (.ref am), some (.int (nI (e))), some (.int (bI (ibL A e a (ioL A e a && ioX A e a) b))), some (.int (nI (a))), some (.int (oI (placeF A e a))), some (.int (nI (b))), none]) (st' := [.int (nI (a)), .ref (ad 11), .int (nI (tn A 10 b))]) rfl rfl (Nat.le_of_ble_eq_true rfl) ?_
                          refine VR.iald h (j := 11) (i := a) rfl rfl (by show _ < 600; omega) (by decide +kernel) (v := (oI (tn A 11 a))) (mval_2 rfl) ?_
                          have nb124 := hB.2 11 a
                          refine VR.icmp_gt h (off := 6) (by decide +kernel) (tgt := 145) (by decide) (fun q => ?_) (fun q => ?_)
                          · have q139_125 := ((oI_ltN (by omega) (by omega)).mp q)
                            clear q
                            refine VR.blk h [(.aload_n 0, 1), (.iload_n 1, 1), (.iload 5, 2)] (by decide +kernel) (pc' := 149) (ls' := [some (.ref am), some (.int (nI (e))), some (.int (bI (ibL A e a (ioL A e a && ioX A e a) b))), some (.int (nI (a))), some (.int (oI (placeF A e a))), some (.int (nI (b))), none]) (st' := [.int (nI (b)), .int (nI (e)), .ref am]) rfl rfl (Nat.le_of_ble_eq_true rfl) ?_
                            refine VR.call h (np := 2) (st := []) (r_place hls A e b K he hm hB (by omega) (by omega)) wc_X11_place wn_RX11 (Or.inl wm_RX11_183) wi_X11_place we_X11_place (by decide +kernel) rfl (by decide) (by decide) (by simp [Value.category]) (by decide +kernel) rfl ?_
                            refine VR.blk h [(.istore 6, 2)] (by decide +kernel) (pc' := 154) (ls' := [some (.ref am), some (.int (nI (e))), some (.int (bI (ibL A e a (ioL A e a && ioX A e a) b))), some (.int (nI (a))), some (.int (oI (placeF A e a))), some (.int (nI (b))), some (.int (oI (placeF A e b)))]) (st' := []) rfl rfl (Nat.le_of_ble_eq_true rfl) ?_
                            have join171 : ∀ bb171 : Bool, bb171 = (decide (placeF A e b = 0 ∨ placeF A e a < placeF A e b)) → VR l D tc A0 p e9 (rmd 1 0 0) s m args below meth c 7 Q am ad A 171 [some (.ref am), some (.int (nI (e))), some (.int (bI (ibL A e a (ioL A e a && ioX A e a) b))), some (.int (nI (a))), some (.int (oI (placeF A e a))), some (.int (nI (b))), some (.int (oI (placeF A e b)))] [.int (bI (bb171))] := by
                              intro bb171 hb171; subst hb171
                              refine VR.blk h [(.istore_n 2, 1)] (by decide +kernel) (pc' := 172) (ls' := [some (.ref am), some (.int (nI (e))), some (.int (bI ((decide (placeF A e b = 0 ∨ placeF A e a < placeF A e b))))), some (.int (nI (a))), some (.int (oI (placeF A e a))), some (.int (nI (b))), some (.int (oI (placeF A e b)))]) (st' := []) rfl rfl (Nat.le_of_ble_eq_true rfl) ?_
                              refine VR.incN h (x := b) (i := 5) (by decide +kernel) rfl (Nat.le_of_ble_eq_true rfl) ?_
                              refine VR.eqL (ls' := [some (.ref am), some (.int (nI (e))), some (.int (bI ((decide (placeF A e b = 0 ∨ placeF A e a < placeF A e b))))), some (.int (nI (a))), some (.int (oI (placeF A e a))), some (.int (nI (b + 1))), some (.int (oI (placeF A e b)))]) rfl ?_
                              refine VR.goto h (off := -91) (tgt := 84) (by decide +kernel) (by decide) ?_
                              refine VR.drop 6 (ls' := [some (.ref am), some (.int (nI (e))), some (.int (bI ((decide (placeF A e b = 0 ∨ placeF A e a < placeF A e b))))), some (.int (nI (a))), some (.int (oI (placeF A e a))), some (.int (nI (b + 1))), none]) rfl ?_
                              refine VR.eqL (ls' := [some (.ref am), some (.int (nI (e))), some (.int (bI (ibL A e a (ioL A e a && ioX A e a) ((b + 1))))), some (.int (nI (a))), some (.int (oI (placeF A e a))), some (.int (nI ((b + 1)))), none]) (by rw [ibL_s q94_67, ibS, if_pos ⟨of_decide_eq_true q107_85, q123_105, q139_125⟩]) ?_
                              exact ih84 (tf A 13 - (b + 1)) (by omega) (b + 1) rfl (by omega)
                            refine VR.blk h [(.iload 6, 2)] (by decide +kernel) (pc' := 156) (ls' := [some (.ref am), some (.int (nI (e))), some (.int (bI (ibL A e a (ioL A e a && ioX A e a) b))), some (.int (nI (a))), some (.int (oI (placeF A e a))), some (.int (nI (b))), some (.int (oI (placeF A e b)))]) (st' := [.int (oI (placeF A e b))]) rfl rfl (Nat.le_of_ble_eq_true rfl) ?_
                            refine VR.if_lt h (off := 10) (by decide +kernel) (tgt := 166) (by decide) (fun q => ?_) (fun q => ?_)
                            · have q156_141 := ((oI_neg (by omega)).mp q)
                              clear q
                              refine VR.blk h [(.iconst 1, 1)] (by decide +kernel) (pc' := 167) (ls' := [some (.ref am), some (.int (nI (e))), some (.int (bI (ibL A e a (ioL A e a && ioX A e a) b))), some (.int (nI (a))), some (.int (oI (placeF A e a))), some (.int (nI (b))), some (.int (oI (placeF A e b)))]) (st' := [.int (nI (1))]) rfl rfl (Nat.le_of_ble_eq_true rfl) ?_
                              refine VR.goto h (off := 4) (tgt := 171) (by decide +kernel) (by decide) ?_
                              refine VR.top (v' := .int (bI true)) (by rw [bI_t]) ?_
                              exact join171 _ (by first | (simp [q9_9, q21_22, q30_37, q90_54, q94_67, q107_85, q123_105, q139_125, q156_141]; done) | (simp [q9_9, q21_22, q30_37, q90_54, q94_67, q107_85, q123_105, q139_125, q156_141]; omega))
                            · have q156_141 : ¬ _ := (fun z => q ((oI_neg (by omega)).mpr z))
                              clear q
                              refine VR.blk h [(.iload 6, 2), (.iload 4, 2)] (by decide +kernel) (pc' := 163) (ls' := [some (.ref am), some (.int (nI (e))), some (.int (bI (ibL A e a (ioL A e a && ioX A e a) b))), some (.int (nI (a))), some (.int (oI (placeF A e a))), some (.int (nI (b))), some (.int (oI (placeF A e b)))]) (st' := [.int (oI (placeF A e a)), .int (oI (placeF A e b))]) rfl rfl (Nat.le_of_ble_eq_true rfl) ?_
                              refine VR.icmp_le h (off := 7) (by decide +kernel) (tgt := 170) (by decide) (fun q => ?_) (fun q => ?_)
                              · have q163_151 := ((oI_le (by omega) (by omega)).mp q)
                                clear q
                                refine VR.blk h [(.iconst 0, 1)] (by decide +kernel) (pc' := 171) (ls' := [some (.ref am), some (.int (nI (e))), some (.int (bI (ibL A e a (ioL A e a && ioX A e a) b))), some (.int (nI (a))), some (.int (oI (placeF A e a))), some (.int (nI (b))), some (.int (oI (placeF A e b)))]) (st' := [.int (nI (0))]) rfl rfl (Nat.le_of_ble_eq_true rfl) ?_
                                refine VR.top (v' := .int (bI false)) (by rw [bI_f]) ?_
                                exact join171 _ (by first | (simp [q9_9, q21_22, q30_37, q90_54, q94_67, q107_85, q123_105, q139_125, q156_141, q163_151]; done) | (simp [q9_9, q21_22, q30_37, q90_54, q94_67, q107_85, q123_105, q139_125, q156_141, q163_151]; omega))
                              · have q163_151 : ¬ _ := (fun z => q ((oI_le (by omega) (by omega)).mpr z))
                                clear q
                                refine VR.blk h [(.iconst 1, 1)] (by decide +kernel) (pc' := 167) (ls' := [some (.ref am), some (.int (nI (e))), some (.int (bI (ibL A e a (ioL A e a && ioX A e a) b))), some (.int (nI (a))), some (.int (oI (placeF A e a))), some (.int (nI (b))), some (.int (oI (placeF A e b)))]) (st' := [.int (nI (1))]) rfl rfl (Nat.le_of_ble_eq_true rfl) ?_
                                refine VR.goto h (off := 4) (tgt := 171) (by decide +kernel) (by decide) ?_
                                refine VR.top (v' := .int (bI true)) (by rw [bI_t]) ?_
                                exact join171 _ (by first | (simp [q9_9, q21_22, q30_37, q90_54, q94_67, q107_85, q123_105, q139_125, q156_141, q163_151]; done) | (simp [q9_9, q21_22, q30_37, q90_54, q94_67, q107_85, q123_105, q139_125, q156_141, q163_151]; omega))
                          · have q139_125 : ¬ _ := (fun z => q ((oI_ltN (by omega) (by omega)).mpr z))
                            clear q
                            refine VR.goto h (off := 30) (tgt := 172) (by decide +kernel) (by decide) ?_
                            refine VR.incN h (x := b) (i := 5) (by decide +kernel) rfl (Nat.le_of_ble_eq_true rfl) ?_
                            refine VR.eqL (ls' := [some (.ref am), some (.int (nI (e))), some (.int (bI (ibL A e a (ioL A e a && ioX A e a) b))), some (.int (nI (a))), some (.int (oI (placeF A e a))), some (.int (nI (b + 1))), none]) rfl ?_
                            refine VR.goto h (off := -91) (tgt := 84) (by decide +kernel) (by decide) ?_
                            refine VR.eqL (ls' := [some (.ref am), some (.int (nI (e))), some (.int (bI (ibL A e a (ioL A e a && ioX A e a) ((b + 1))))), some (.int (nI (a))), some (.int (oI (placeF A e a))), some (.int (nI ((b + 1)))), none]) (by rw [ibL_s q94_67, q94_67, ibS, if_neg (fun z => q139_125 z.2.2)]) ?_
                            exact ih84 (tf A 13 - (b + 1)) (by omega) (b + 1) rfl (by omega)
              refine VR.eqL (ls' := [some (.ref am), some (.int (nI (e))), some (.int (bI (ibL A e a (ioL A e a && ioX A e a) 0))), some (.int (nI (a))), some (.int (oI (placeF A e a))), some (.int (nI (0))), none]) rfl ?_
              exact loop84 _ 0 rfl (Nat.zero_le _)
            refine VR.blk h [(.iload_n 2, 1)] (by decide +kernel) (pc' := 45) (ls' := [some (.ref am), some (.int (nI (e))), some (.int (bI (ioL A e a))), some (.int (nI (a))), some (.int (oI (placeF A e a))), none, none]) (st' := [.int (bI (ioL A e a))]) rfl rfl (Nat.le_of_ble_eq_true rfl) ?_
            refine VR.if_eq h (off := 34) (by decide +kernel) (tgt := 79) (by decide) (fun q => ?_) (fun q => ?_)
            · have q45_174 := (bI_0.mp q)
              clear q
              refine VR.blk h [(.iconst 0, 1)] (by decide +kernel) (pc' := 80) (ls' := [some (.ref am), some (.int (nI (e))), some (.int (bI (ioL A e a))), some (.int (nI (a))), some (.int (oI (placeF A e a))), none, none]) (st' := [.int (nI (0))]) rfl rfl (Nat.le_of_ble_eq_true rfl) ?_
              refine VR.top (v' := .int (bI false)) (by rw [bI_f]) ?_
              exact join80 _ (by first | (simp [ioX, q9_9, q21_22, q30_37, q45_174]; done) | (simp [ioX, q9_9, q21_22, q30_37, q45_174]; omega))
            · have q45_174 := (bI_1 (fun z => q (bI_0.mpr z)))
              clear q
              refine VR.blk h [(.iload 4, 2)] (by decide +kernel) (pc' := 50) (ls' := [some (.ref am), some (.int (nI (e))), some (.int (bI (ioL A e a))), some (.int (nI (a))), some (.int (oI (placeF A e a))), none, none]) (st' := [.int (oI (placeF A e a))]) rfl rfl (Nat.le_of_ble_eq_true rfl) ?_
              refine VR.if_lt h (off := 29) (by decide +kernel) (tgt := 79) (by decide) (fun q => ?_) (fun q => ?_)
              · have q50_183 := ((oI_neg (by omega)).mp q)
                clear q
                refine VR.blk h [(.iconst 0, 1)] (by decide +kernel) (pc' := 80) (ls' := [some (.ref am), some (.int (nI (e))), some (.int (bI (ioL A e a))), some (.int (nI (a))), some (.int (oI (placeF A e a))), none, none]) (st' := [.int (nI (0))]) rfl rfl (Nat.le_of_ble_eq_true rfl) ?_
                refine VR.top (v' := .int (bI false)) (by rw [bI_f]) ?_
                exact join80 _ (by first | (simp [ioX, q9_9, q21_22, q30_37, q45_174, q50_183]; done) | (simp [ioX, q9_9, q21_22, q30_37, q45_174, q50_183]; omega))
              · have q50_183 : ¬ _ := (fun z => q ((oI_neg (by omega)).mpr z))
                clear q
                refine VR.blk h [(.aload_n 0, 1)] (by decide +kernel) (pc' := 54) (ls' := [some (.ref am), some (.int (nI (e))), some (.int (bI (ioL A e a))), some (.int (nI (a))), some (.int (oI (placeF A e a))), none, none]) (st' := [.ref am]) rfl rfl (Nat.le_of_ble_eq_true rfl) ?_
                refine VR.getA h (j := 23) rfl (Or.inl wf_RX11_60) (by decide +kernel) ?_
                refine VR.blk h [(.sipush 600, 3), (.iload_n 1, 1)] (by decide +kernel) (pc' := 61) (ls' := [some (.ref am), some (.int (nI (e))), some (.int (bI (ioL A e a))), some (.int (nI (a))), some (.int (oI (placeF A e a))), none, none]) (st' := [.int (nI (e)), .int (nI (600)), .ref (ad 23)]) rfl rfl (Nat.le_of_ble_eq_true rfl) ?_
                refine VR.mulN h (by decide +kernel) (Nat.le_of_ble_eq_true rfl) ?_
                refine VR.blk h [(.iload 4, 2)] (by decide +kernel) (pc' := 64) (ls' := [some (.ref am), some (.int (nI (e))), some (.int (bI (ioL A e a))), some (.int (nI (a))), some (.int (oI (placeF A e a))), none, none]) (st' := [.int (oI (placeF A e a)), .int (nI (600 * e)), .ref (ad 23)]) rfl rfl (Nat.le_of_ble_eq_true rfl) ?_
                refine VR.top (v' := .int (nI ((placeF A e a) - 1))) (oI_pos (by omega)) ?_
                refine VR.addN h (by decide +kernel) (Nat.le_of_ble_eq_true rfl) ?_
                refine VR.iald h (j := 23) (i := (600 * e) + ((placeF A e a) - 1)) rfl rfl (by show _ < 7200; omega) (by decide +kernel) (v := (tr A 23 ((600 * e) + ((placeF A e a) - 1)))) (mval_3 rfl) ?_
                refine VR.blk h [(.aload_n 0, 1)] (by decide +kernel) (pc' := 67) (ls' := [some (.ref am), some (.int (nI (e))), some (.int (bI (ioL A e a))), some (.int (nI (a))), some (.int (oI (placeF A e a))), none, none]) (st' := [.ref am, .int (tr A 23 ((600 * e) + ((placeF A e a) - 1)))]) rfl rfl (Nat.le_of_ble_eq_true rfl) ?_
                refine VR.getA h (j := 12) rfl (Or.inl wf_RX11_35) (by decide +kernel) ?_
                refine VR.blk h [(.iload_n 3, 1)] (by decide +kernel) (pc' := 71) (ls' := [some (.ref am), some (.int (nI (e))), some (.int (bI (ioL A e a))), some (.int (nI (a))), some (.int (oI (placeF A e a))), none, none]) (st' := [.int (nI (a)), .ref (ad 12), .int (tr A 23 ((600 * e) + ((placeF A e a) - 1)))]) rfl rfl (Nat.le_of_ble_eq_true rfl) ?_
                refine VR.iald h (j := 12) (i := a) rfl rfl (by show _ < 600; omega) (by decide +kernel) (v := (tr A 12 a)) (mval_3 rfl) ?_
                refine VR.icmp_ne h (off := 7) (by decide +kernel) (tgt := 79) (by decide) (fun q => ?_) (fun q => ?_)
                · have q72_203 := q
                  clear q
                  refine VR.blk h [(.iconst 0, 1)] (by decide +kernel) (pc' := 80) (ls' := [some (.ref am), some (.int (nI (e))), some (.int (bI (ioL A e a))), some (.int (nI (a))), some (.int (oI (placeF A e a))), none, none]) (st' := [.int (nI (0))]) rfl rfl (Nat.le_of_ble_eq_true rfl) ?_
                  refine VR.top (v' := .int (bI false)) (by rw [bI_f]) ?_
                  exact join80 _ (by first | (simp [ioX, q9_9, q21_22, q30_37, q45_174, q50_183, q72_203]; done) | (simp [ioX, q9_9, q21_22, q30_37, q45_174, q50_183, q72_203]; omega))
                · have q72_203 := q
                  clear q
                  refine VR.blk h [(.iconst 1, 1)] (by decide +kernel) (pc' := 76) (ls' := [some (.ref am), some (.int (nI (e))), some (.int (bI (ioL A e a))), some (.int (nI (a))), some (.int (oI (placeF A e a))), none, none]) (st' := [.int (nI (1))]) rfl rfl (Nat.le_of_ble_eq_true rfl) ?_
                  refine VR.goto h (off := 4) (tgt := 80) (by decide +kernel) (by decide) ?_
                  refine VR.top (v' := .int (bI true)) (by rw [bI_t]) ?_
                  exact join80 _ (by first | (simp [ioX, q9_9, q21_22, q30_37, q45_174, q50_183, q72_203]; done) | (simp [ioX, q9_9, q21_22, q30_37, q45_174, q50_183, q72_203]; omega))
          · have q30_37 := (Decidable.of_not_not (fun z => q ((oI_nn (by omega)).mpr z)))
            clear q
            refine VR.goto h (off := 145) (tgt := 178) (by decide +kernel) (by decide) ?_
            refine VR.incN h (x := a) (i := 3) (by decide +kernel) rfl (Nat.le_of_ble_eq_true rfl) ?_
            refine VR.eqL (ls' := [some (.ref am), some (.int (nI (e))), some (.int (bI (ioL A e a))), some (.int (nI (a + 1))), none, none, none]) rfl ?_
            refine VR.goto h (off := -177) (tgt := 4) (by decide +kernel) (by decide) ?_
            refine VR.eqL (ls' := [some (.ref am), some (.int (nI (e))), some (.int (bI (ioL A e ((a + 1))))), some (.int (nI ((a + 1)))), none, none, none]) (by rw [ioL, if_neg (fun z => z.2 q30_37)]) ?_
            exact ih4 (tf A 13 - (a + 1)) (by omega) (a + 1) rfl (by omega)
  refine VR.eqL (ls' := [some (.ref am), some (.int (nI (e))), some (.int (bI (ioL A e 0))), some (.int (nI (0))), none, none, none]) (by rw [ioL, bI_t]) ?_
  exact loop4 _ 0 rfl (Nat.zero_le _)

set_option maxRecDepth 100000 in
set_option maxHeartbeats 4000000 in
theorem r_isSeen {l : Launch} {D : va_G} {tc : Nat → ClassId} {am : Nat} {ad : Nat → Nat} (hls : l.stackTraces = false) (A : TS) (e g K : Nat) (he : e < 12) (hm : tn A 26 e ≤ 600) (hlo : ∀ k, k < tn A 26 e → tn A 22 (600 * e + k) < 600) (hg : g < 600) (hB : NB K A) (hK : K < 2000000000) : RM l D tc am ad yX11_isSeen cX11_isSeen 7 (some .boolean) 1 [.ref am, .int (nI (e)), .int (nI (g))] A (some (.int (bI (seenF A e g)))) (A) := by
  refine RM.of hls (by decide +kernel) (by simp [Value.category]) (Nat.le_of_ble_eq_true rfl) (fun A0 p e9 s m args below meth c S0 sz Q h hr hA hQ => ?_)
  refine VR.eqL (ls' := [some (.ref am), some (.int (nI (e))), some (.int (nI (g))), none, none, none, none]) rfl ?_
  refine VR.blk h [(.iconst 0, 1), (.istore_n 3, 1), (.aload_n 0, 1)] (by decide +kernel) (pc' := 3) (ls' := [some (.ref am), some (.int (nI (e))), some (.int (nI (g))), some (.int (nI (0))), none, none, none]) (st' := [.ref am]) rfl rfl (Nat.le_of_ble_eq_true rfl) ?_
  refine VR.getA h (j := 26) rfl (Or.inl wf_RX11_69) (by decide +kernel) ?_
  refine VR.blk h [(.iload_n 1, 1)] (by decide +kernel) (pc' := 7) (ls' := [some (.ref am), some (.int (nI (e))), some (.int (nI (g))), some (.int (nI (0))), none, none, none]) (st' := [.int (nI (e)), .ref (ad 26)]) rfl rfl (Nat.le_of_ble_eq_true rfl) ?_
  refine VR.iald h (j := 26) (i := e) rfl rfl (by show _ < 12; omega) (by decide +kernel) (v := (nI (tn A 26 e))) (mval_1 rfl) ?_
  have nb5 := hB.2 26 e
  refine VR.blk h [(.istore 4, 2), (.iconst 0, 1), (.istore 5, 2)] (by decide +kernel) (pc' := 13) (ls' := [some (.ref am), some (.int (nI (e))), some (.int (nI (g))), some (.int (nI (0))), some (.int (nI (tn A 26 e))), some (.int (nI (0))), none]) (st' := []) rfl rfl (Nat.le_of_ble_eq_true rfl) ?_
  have loop13 : ∀ (t k : Nat), tn A 26 e - k = t → k ≤ tn A 26 e → VR l D tc A0 p e9 (rmd 1 0 0) s m args below meth c 7 Q am ad A 13 [some (.ref am), some (.int (nI (e))), some (.int (nI (g))), some (.int (nI (frL A e g k))), some (.int (nI (toL A e g k))), some (.int (nI (k))), none] [] := by
    intro t; induction t using Nat.strongRecOn with
    | _ t ih13 =>
      intro k ht13 hk13
      have gfr := frL_le A e g k
      have gto := toL_le A e g k
      refine VR.blk h [(.iload 5, 2), (.aload_n 0, 1)] (by decide +kernel) (pc' := 16) (ls' := [some (.ref am), some (.int (nI (e))), some (.int (nI (g))), some (.int (nI (frL A e g k))), some (.int (nI (toL A e g k))), some (.int (nI (k))), none]) (st' := [.ref am, .int (nI (k))]) rfl rfl (Nat.le_of_ble_eq_true rfl) ?_
      refine VR.getA h (j := 26) rfl (Or.inl wf_RX11_69) (by decide +kernel) ?_
      refine VR.blk h [(.iload_n 1, 1)] (by decide +kernel) (pc' := 20) (ls' := [some (.ref am), some (.int (nI (e))), some (.int (nI (g))), some (.int (nI (frL A e g k))), some (.int (nI (toL A e g k))), some (.int (nI (k))), none]) (st' := [.int (nI (e)), .ref (ad 26), .int (nI (k))]) rfl rfl (Nat.le_of_ble_eq_true rfl) ?_
      refine VR.iald h (j := 26) (i := e) rfl rfl (by show _ < 12; omega) (by decide +kernel) (v := (nI (tn A 26 e))) (mval_1 rfl) ?_
      have nb17 := hB.2 26 e
      refine VR.icmp_ge h (off := 101) (by decide +kernel) (tgt := 122) (by decide) (fun q => ?_) (fun q => ?_)
      · have q21_18 := ((nI_leI (by omega) (by omega)).mp q)
        clear q
        refine VR.blk h [(.iconst 0, 1), (.istore 5, 2), (.iload_n 3, 1), (.istore 6, 2)] (by decide +kernel) (pc' := 128) (ls' := [some (.ref am), some (.int (nI (e))), some (.int (nI (g))), some (.int (nI (frL A e g k))), some (.int (nI (toL A e g k))), some (.int (nI (0))), some (.int (nI (frL A e g k)))]) (st' := []) rfl rfl (Nat.le_of_ble_eq_true rfl) ?_
        have loop128 : ∀ (t j : Nat), (toL A e g (tn A 26 e) + 1 - frL A e g (tn A 26 e)) - j = t → j ≤ (toL A e g (tn A 26 e) + 1 - frL A e g (tn A 26 e)) → VR l D tc A0 p e9 (rmd 1 0 0) s m args below meth c 7 Q am ad A 128 [some (.ref am), some (.int (nI (e))), some (.int (nI (g))), some (.int (nI (frL A e g (tn A 26 e)))), some (.int (nI (toL A e g (tn A 26 e)))), some (.int (bI (seL A e g (frL A e g (tn A 26 e)) j))), some (.int (nI (frL A e g (tn A 26 e) + j)))] [] := by
          intro t; induction t using Nat.strongRecOn with
          | _ t ih128 =>
            intro j ht128 hk128
            have gfr2 := frL_le A e g (tn A 26 e)
            have gto2 := toL_le A e g (tn A 26 e)
            have nb8 := hB.2 8 g
            refine VR.blk h [(.iload 6, 2), (.iload 4, 2)] (by decide +kernel) (pc' := 132) (ls' := [some (.ref am), some (.int (nI (e))), some (.int (nI (g))), some (.int (nI (frL A e g (tn A 26 e)))), some (.int (nI (toL A e g (tn A 26 e)))), some (.int (bI (seL A e g (frL A e g (tn A 26 e)) j))), some (.int (nI (frL A e g (tn A 26 e) + j)))]) (st' := [.int (nI (toL A e g (tn A 26 e))), .int (nI (frL A e g (tn A 26 e) + j))]) rfl rfl (Nat.le_of_ble_eq_true rfl) ?_
            refine VR.icmp_gt h (off := 43) (by decide +kernel) (tgt := 175) (by decide) (fun q => ?_) (fun q => ?_)
            · have q132_30 := ((nI_ltI (by omega) (by omega)).mp q)
              clear q
              refine VR.blk h [(.iload 5, 2)] (by decide +kernel) (pc' := 177) (ls' := [some (.ref am), some (.int (nI (e))), some (.int (nI (g))), some (.int (nI (frL A e g (tn A 26 e)))), some (.int (nI (toL A e g (tn A 26 e)))), some (.int (bI (seL A e g (frL A e g (tn A 26 e)) j))), some (.int (nI (frL A e g (tn A 26 e) + j)))]) (st' := [.int (bI (seL A e g (frL A e g (tn A 26 e)) j))]) rfl rfl (Nat.le_of_ble_eq_true rfl) ?_
              exact VR.iret h hA hQ hr (bI_nar _) (by obtain rfl : j = toL A e g (tn A 26 e) + 1 - frL A e g (tn A 26 e) := (by omega); rfl) rfl (by decide +kernel)
            · have q132_30 : ¬ _ := (fun z => q ((nI_ltI (by omega) (by omega)).mpr z))
              clear q
              have join167 : ∀ bb167 : Bool, bb167 = (seL A e g (frL A e g (tn A 26 e)) j || decide (vaF A e (tn A 8 g) (frL A e g (tn A 26 e) + j) = tr A 12 g)) → VR l D tc A0 p e9 (rmd 1 0 0) s m args below meth c 7 Q am ad A 167 [some (.ref am), some (.int (nI (e))), some (.int (nI (g))), some (.int (nI (frL A e g (tn A 26 e)))), some (.int (nI (toL A e g (tn A 26 e)))), some (.int (bI (seL A e g (frL A e g (tn A 26 e)) j))), some (.int (nI (frL A e g (tn A 26 e) + j)))] [.int (bI (bb167))] := by
                intro bb167 hb167; subst hb167
                refine VR.blk h [(.istore 5, 2)] (by decide +kernel) (pc' := 169) (ls' := [some (.ref am), some (.int (nI (e))), some (.int (nI (g))), some (.int (nI (frL A e g (tn A 26 e)))), some (.int (nI (toL A e g (tn A 26 e)))), some (.int (bI ((seL A e g (frL A e g (tn A 26 e)) j || decide (vaF A e (tn A 8 g) (frL A e g (tn A 26 e) + j) = tr A 12 g))))), some (.int (nI (frL A e g (tn A 26 e) + j)))]) (st' := []) rfl rfl (Nat.le_of_ble_eq_true rfl) ?_
                refine VR.incN h (x := frL A e g (tn A 26 e) + j) (i := 6) (by decide +kernel) rfl (Nat.le_of_ble_eq_true rfl) ?_
                refine VR.eqL (ls' := [some (.ref am), some (.int (nI (e))), some (.int (nI (g))), some (.int (nI (frL A e g (tn A 26 e)))), some (.int (nI (toL A e g (tn A 26 e)))), some (.int (bI ((seL A e g (frL A e g (tn A 26 e)) j || decide (vaF A e (tn A 8 g) (frL A e g (tn A 26 e) + j) = tr A 12 g))))), some (.int (nI ((frL A e g (tn A 26 e) + j) + 1)))]) rfl ?_
                refine VR.goto h (off := -44) (tgt := 128) (by decide +kernel) (by decide) ?_
                refine VR.eqL (ls' := [some (.ref am), some (.int (nI (e))), some (.int (nI (g))), some (.int (nI (frL A e g (tn A 26 e)))), some (.int (nI (toL A e g (tn A 26 e)))), some (.int (bI (seL A e g (frL A e g (tn A 26 e)) ((j + 1))))), some (.int (nI (frL A e g (tn A 26 e) + ((j + 1)))))]) rfl ?_
                exact ih128 ((toL A e g (tn A 26 e) + 1 - frL A e g (tn A 26 e)) - (j + 1)) (by omega) (j + 1) rfl (by omega)
              refine VR.blk h [(.iload 5, 2)] (by decide +kernel) (pc' := 137) (ls' := [some (.ref am), some (.int (nI (e))), some (.int (nI (g))), some (.int (nI (frL A e g (tn A 26 e)))), some (.int (nI (toL A e g (tn A 26 e)))), some (.int (bI (seL A e g (frL A e g (tn A 26 e)) j))), some (.int (nI (frL A e g (tn A 26 e) + j)))]) (st' := [.int (bI (seL A e g (frL A e g (tn A 26 e)) j))]) rfl rfl (Nat.le_of_ble_eq_true rfl) ?_
              refine VR.if_ne h (off := 25) (by decide +kernel) (tgt := 162) (by decide) (fun q => ?_) (fun q => ?_)
              · have q137_46 := (bI_1 (fun z => q (bI_0.mpr z)))
                clear q
                refine VR.blk h [(.iconst 1, 1)] (by decide +kernel) (pc' := 163) (ls' := [some (.ref am), some (.int (nI (e))), some (.int (nI (g))), some (.int (nI (frL A e g (tn A 26 e)))), some (.int (nI (toL A e g (tn A 26 e)))), some (.int (bI (seL A e g (frL A e g (tn A 26 e)) j))), some (.int (nI (frL A e g (tn A 26 e) + j)))]) (st' := [.int (nI (1))]) rfl rfl (Nat.le_of_ble_eq_true rfl) ?_
                refine VR.goto h (off := 4) (tgt := 167) (by decide +kernel) (by decide) ?_
                refine VR.top (v' := .int (bI true)) (by rw [bI_t]) ?_
                exact join167 _ (by first | (simp [q21_18, q132_30, q137_46]; done) | (simp [q21_18, q132_30, q137_46]; omega))
              · have q137_46 := (bI_0.mp q)
                clear q
                refine VR.blk h [(.aload_n 0, 1), (.iload_n 1, 1), (.iload 6, 2), (.aload_n 0, 1)] (by decide +kernel) (pc' := 145) (ls' := [some (.ref am), some (.int (nI (e))), some (.int (nI (g))), some (.int (nI (frL A e g (tn A 26 e)))), some (.int (nI (toL A e g (tn A 26 e)))), some (.int (bI (seL A e g (frL A e g (tn A 26 e)) j))), some (.int (nI (frL A e g (tn A 26 e) + j)))]) (st' := [.ref am, .int (nI (frL A e g (tn A 26 e) + j)), .int (nI (e)), .ref am]) rfl rfl (Nat.le_of_ble_eq_true rfl) ?_
                refine VR.getA h (j := 8) rfl (Or.inl wf_RX11_23) (by decide +kernel) ?_
                refine VR.blk h [(.iload_n 2, 1)] (by decide +kernel) (pc' := 149) (ls' := [some (.ref am), some (.int (nI (e))), some (.int (nI (g))), some (.int (nI (frL A e g (tn A 26 e)))), some (.int (nI (toL A e g (tn A 26 e)))), some (.int (bI (seL A e g (frL A e g (tn A 26 e)) j))), some (.int (nI (frL A e g (tn A 26 e) + j)))]) (st' := [.int (nI (g)), .ref (ad 8), .int (nI (frL A e g (tn A 26 e) + j)), .int (nI (e)), .ref am]) rfl rfl (Nat.le_of_ble_eq_true rfl) ?_
                refine VR.iald h (j := 8) (i := g) rfl rfl (by show _ < 600; omega) (by decide +kernel) (v := (nI (tn A 8 g))) (mval_1 rfl) ?_
                have nb59 := hB.2 8 g
                refine VR.call h (np := 3) (st := []) (r_valueAt hls A e (frL A e g (tn A 26 e) + j) (tn A 8 g) K he (by omega) (fun i hi => hlo i (by omega)) hB (by omega) (by omega)) wc_X11_valueAt wn_RX11 (Or.inl wm_RX11_180) wi_X11_valueAt we_X11_valueAt (by decide +kernel) rfl (by decide) (by decide) (by simp [Value.category]) (by decide +kernel) rfl ?_
                refine VR.blk h [(.aload_n 0, 1)] (by decide +kernel) (pc' := 154) (ls' := [some (.ref am), some (.int (nI (e))), some (.int (nI (g))), some (.int (nI (frL A e g (tn A 26 e)))), some (.int (nI (toL A e g (tn A 26 e)))), some (.int (bI (seL A e g (frL A e g (tn A 26 e)) j))), some (.int (nI (frL A e g (tn A 26 e) + j)))]) (st' := [.ref am, .int (vaF A e (tn A 8 g) (frL A e g (tn A 26 e) + j))]) rfl rfl (Nat.le_of_ble_eq_true rfl) ?_
                refine VR.getA h (j := 12) rfl (Or.inl wf_RX11_35) (by decide +kernel) ?_
                refine VR.blk h [(.iload_n 2, 1)] (by decide +kernel) (pc' := 158) (ls' := [some (.ref am), some (.int (nI (e))), some (.int (nI (g))), some (.int (nI (frL A e g (tn A 26 e)))), some (.int (nI (toL A e g (tn A 26 e)))), some (.int (bI (seL A e g (frL A e g (tn A 26 e)) j))), some (.int (nI (frL A e g (tn A 26 e) + j)))]) (st' := [.int (nI (g)), .ref (ad 12), .int (vaF A e (tn A 8 g) (frL A e g (tn A 26 e) + j))]) rfl rfl (Nat.le_of_ble_eq_true rfl) ?_
                refine VR.iald h (j := 12) (i := g) rfl rfl (by show _ < 600; omega) (by decide +kernel) (v := (tr A 12 g)) (mval_3 rfl) ?_
                refine VR.icmp_ne h (off := 7) (by decide +kernel) (tgt := 166) (by decide) (fun q => ?_) (fun q => ?_)
                · have q159_65 := q
                  clear q
                  refine VR.blk h [(.iconst 0, 1)] (by decide +kernel) (pc' := 167) (ls' := [some (.ref am), some (.int (nI (e))), some (.int (nI (g))), some (.int (nI (frL A e g (tn A 26 e)))), some (.int (nI (toL A e g (tn A 26 e)))), some (.int (bI (seL A e g (frL A e g (tn A 26 e)) j))), some (.int (nI (frL A e g (tn A 26 e) + j)))]) (st' := [.int (nI (0))]) rfl rfl (Nat.le_of_ble_eq_true rfl) ?_
                  refine VR.top (v' := .int (bI false)) (by rw [bI_f]) ?_
                  exact join167 _ (by first | (simp [q21_18, q132_30, q137_46, q159_65]; done) | (simp [q21_18, q132_30, q137_46, q159_65]; omega))
                · have q159_65 := q
                  clear q
                  refine VR.blk h [(.iconst 1, 1)] (by decide +kernel) (pc' := 163) (ls' := [some (.ref am), some (.int (nI (e))), some (.int (nI (g))), some (.int (nI (frL A e g (tn A 26 e)))), some (.int (nI (toL A e g (tn A 26 e)))), some (.int (bI (seL A e g (frL A e g (tn A 26 e)) j))), some (.int (nI (frL A e g (tn A 26 e) + j)))]) (st' := [.int (nI (1))]) rfl rfl (Nat.le_of_ble_eq_true rfl) ?_
                  refine VR.goto h (off := 4) (tgt := 167) (by decide +kernel) (by decide) ?_
                  refine VR.top (v' := .int (bI true)) (by rw [bI_t]) ?_
                  exact join167 _ (by first | (simp [q21_18, q132_30, q137_46, q159_65]; done) | (simp [q21_18, q132_30, q137_46, q159_65]; omega))
        refine VR.eqL (ls' := [some (.ref am), some (.int (nI (e))), some (.int (nI (g))), some (.int (nI (frL A e g (tn A 26 e)))), some (.int (nI (toL A e g (tn A 26 e)))), some (.int (bI (seL A e g (frL A e g (tn A 26 e)) 0))), some (.int (nI (frL A e g (tn A 26 e) + 0)))]) (by obtain rfl : k = tn A 26 e := (by omega); rfl) ?_
        exact loop128 _ 0 rfl (Nat.zero_le _)
      · have q21_18 : ¬ _ := (fun z => q ((nI_leI (by omega) (by omega)).mpr z))
        clear q
        refine VR.blk h [(.aload_n 0, 1)] (by decide +kernel) (pc' := 25) (ls' := [some (.ref am), some (.int (nI (e))), some (.int (nI (g))), some (.int (nI (frL A e g k))), some (.int (nI (toL A e g k))), some (.int (nI (k))), none]) (st' := [.ref am]) rfl rfl (Nat.le_of_ble_eq_true rfl) ?_
        refine VR.getA h (j := 22) rfl (Or.inl wf_RX11_57) (by decide +kernel) ?_
        refine VR.blk h [(.sipush 600, 3), (.iload_n 1, 1)] (by decide +kernel) (pc' := 32) (ls' := [some (.ref am), some (.int (nI (e))), some (.int (nI (g))), some (.int (nI (frL A e g k))), some (.int (nI (toL A e g k))), some (.int (nI (k))), none]) (st' := [.int (nI (e)), .int (nI (600)), .ref (ad 22)]) rfl rfl (Nat.le_of_ble_eq_true rfl) ?_
        refine VR.mulN h (by decide +kernel) (Nat.le_of_ble_eq_true rfl) ?_
        refine VR.blk h [(.iload 5, 2)] (by decide +kernel) (pc' := 35) (ls' := [some (.ref am), some (.int (nI (e))), some (.int (nI (g))), some (.int (nI (frL A e g k))), some (.int (nI (toL A e g k))), some (.int (nI (k))), none]) (st' := [.int (nI (k)), .int (nI (600 * e)), .ref (ad 22)]) rfl rfl (Nat.le_of_ble_eq_true rfl) ?_
        refine VR.addN h (by decide +kernel) (Nat.le_of_ble_eq_true rfl) ?_
        have hop := hlo k (by omega)
        refine VR.iald h (j := 22) (i := (600 * e) + k) rfl rfl (by show _ < 7200; omega) (by decide +kernel) (v := (nI (tn A 22 ((600 * e) + k)))) (mval_1 rfl) ?_
        have nb89 := hB.2 22 ((600 * e) + k)
        refine VR.blk h [(.istore 6, 2), (.aload_n 0, 1)] (by decide +kernel) (pc' := 40) (ls' := [some (.ref am), some (.int (nI (e))), some (.int (nI (g))), some (.int (nI (frL A e g k))), some (.int (nI (toL A e g k))), some (.int (nI (k))), some (.int (nI (tn A 22 ((600 * e) + k))))]) (st' := [.ref am]) rfl rfl (Nat.le_of_ble_eq_true rfl) ?_
        refine VR.getA h (j := 8) rfl (Or.inl wf_RX11_23) (by decide +kernel) ?_
        refine VR.blk h [(.iload 6, 2)] (by decide +kernel) (pc' := 45) (ls' := [some (.ref am), some (.int (nI (e))), some (.int (nI (g))), some (.int (nI (frL A e g k))), some (.int (nI (toL A e g k))), some (.int (nI (k))), some (.int (nI (tn A 22 ((600 * e) + k))))]) (st' := [.int (nI (tn A 22 ((600 * e) + k))), .ref (ad 8)]) rfl rfl (Nat.le_of_ble_eq_true rfl) ?_
        refine VR.iald h (j := 8) (i := tn A 22 ((600 * e) + k)) rfl rfl (by show _ < 600; omega) (by decide +kernel) (v := (nI (tn A 8 (tn A 22 ((600 * e) + k))))) (mval_1 rfl) ?_
        have nb94 := hB.2 8 (tn A 22 ((600 * e) + k))
        refine VR.blk h [(.aload_n 0, 1)] (by decide +kernel) (pc' := 47) (ls' := [some (.ref am), some (.int (nI (e))), some (.int (nI (g))), some (.int (nI (frL A e g k))), some (.int (nI (toL A e g k))), some (.int (nI (k))), some (.int (nI (tn A 22 ((600 * e) + k))))]) (st' := [.ref am, .int (nI (tn A 8 (tn A 22 ((600 * e) + k))))]) rfl rfl (Nat.le_of_ble_eq_true rfl) ?_
        refine VR.getA h (j := 8) rfl (Or.inl wf_RX11_23) (by decide +kernel) ?_
        refine VR.blk h [(.iload_n 2, 1)] (by decide +kernel) (pc' := 51) (ls' := [some (.ref am), some (.int (nI (e))), some (.int (nI (g))), some (.int (nI (frL A e g k))), some (.int (nI (toL A e g k))), some (.int (nI (k))), some (.int (nI (tn A 22 ((600 * e) + k))))]) (st' := [.int (nI (g)), .ref (ad 8), .int (nI (tn A 8 (tn A 22 ((600 * e) + k))))]) rfl rfl (Nat.le_of_ble_eq_true rfl) ?_
        refine VR.iald h (j := 8) (i := g) rfl rfl (by show _ < 600; omega) (by decide +kernel) (v := (nI (tn A 8 g))) (mval_1 rfl) ?_
        have nb99 := hB.2 8 g
        refine VR.icmp_eq h (off := 6) (by decide +kernel) (tgt := 58) (by decide) (fun q => ?_) (fun q => ?_)
        · have q52_100 := ((nI_eq (by omega) (by omega)).mp q)
          clear q
          refine VR.blk h [(.aload_n 0, 1)] (by decide +kernel) (pc' := 59) (ls' := [some (.ref am), some (.int (nI (e))), some (.int (nI (g))), some (.int (nI (frL A e g k))), some (.int (nI (toL A e g k))), some (.int (nI (k))), some (.int (nI (tn A 22 ((600 * e) + k))))]) (st' := [.ref am]) rfl rfl (Nat.le_of_ble_eq_true rfl) ?_
          refine VR.getA h (j := 11) rfl (Or.inl wf_RX11_32) (by decide +kernel) ?_
          refine VR.blk h [(.iload 6, 2)] (by decide +kernel) (pc' := 64) (ls' := [some (.ref am), some (.int (nI (e))), some (.int (nI (g))), some (.int (nI (frL A e g k))), some (.int (nI (toL A e g k))), some (.int (nI (k))), some (.int (nI (tn A 22 ((600 * e) + k))))]) (st' := [.int (nI (tn A 22 ((600 * e) + k))), .ref (ad 11)]) rfl rfl (Nat.le_of_ble_eq_true rfl) ?_
          refine VR.iald h (j := 11) (i := tn A 22 ((600 * e) + k)) rfl rfl (by show _ < 600; omega) (by decide +kernel) (v := (oI (tn A 11 (tn A 22 ((600 * e) + k))))) (mval_2 rfl) ?_
          have nb107 := hB.2 11 (tn A 22 ((600 * e) + k))
          refine VR.if_lt h (off := 24) (by decide +kernel) (tgt := 89) (by decide) (fun q => ?_) (fun q => ?_)
          · have q65_108 := ((oI_neg (by omega)).mp q)
            clear q
            refine VR.blk h [(.aload_n 0, 1)] (by decide +kernel) (pc' := 90) (ls' := [some (.ref am), some (.int (nI (e))), some (.int (nI (g))), some (.int (nI (frL A e g k))), some (.int (nI (toL A e g k))), some (.int (nI (k))), some (.int (nI (tn A 22 ((600 * e) + k))))]) (st' := [.ref am]) rfl rfl (Nat.le_of_ble_eq_true rfl) ?_
            refine VR.getA h (j := 10) rfl (Or.inl wf_RX11_29) (by decide +kernel) ?_
            refine VR.blk h [(.iload 6, 2)] (by decide +kernel) (pc' := 95) (ls' := [some (.ref am), some (.int (nI (e))), some (.int (nI (g))), some (.int (nI (frL A e g k))), some (.int (nI (toL A e g k))), some (.int (nI (k))), some (.int (nI (tn A 22 ((600 * e) + k))))]) (st' := [.int (nI (tn A 22 ((600 * e) + k))), .ref (ad 10)]) rfl rfl (Nat.le_of_ble_eq_true rfl) ?_
            refine VR.iald h (j := 10) (i := tn A 22 ((600 * e) + k)) rfl rfl (by show _ < 600; omega) (by decide +kernel) (v := (nI (tn A 10 (tn A 22 ((600 * e) + k))))) (mval_1 rfl) ?_
            have nb115 := hB.2 10 (tn A 22 ((600 * e) + k))
            refine VR.blk h [(.aload_n 0, 1)] (by decide +kernel) (pc' := 97) (ls' := [some (.ref am), some (.int (nI (e))), some (.int (nI (g))), some (.int (nI (frL A e g k))), some (.int (nI (toL A e g k))), some (.int (nI (k))), some (.int (nI (tn A 22 ((600 * e) + k))))]) (st' := [.ref am, .int (nI (tn A 10 (tn A 22 ((600 * e) + k))))]) rfl rfl (Nat.le_of_ble_eq_true rfl) ?_
            refine VR.getA h (j := 11) rfl (Or.inl wf_RX11_32) (by decide +kernel) ?_
            refine VR.blk h [(.iload_n 2, 1)] (by decide +kernel) (pc' := 101) (ls' := [some (.ref am), some (.int (nI (e))), some (.int (nI (g))), some (.int (nI (frL A e g k))), some (.int (nI (toL A e g k))), some (.int (nI (k))), some (.int (nI (tn A 22 ((600 * e) + k))))]) (st' := [.int (nI (g)), .ref (ad 11), .int (nI (tn A 10 (tn A 22 ((600 * e) + k))))]) rfl rfl (Nat.le_of_ble_eq_true rfl) ?_
            refine VR.iald h (j := 11) (i := g) rfl rfl (by show _ < 600; omega) (by decide +kernel) (v := (oI (tn A 11 g))) (mval_2 rfl) ?_
            have nb120 := hB.2 11 g
            refine VR.icmp_le h (off := 14) (by decide +kernel) (tgt := 116) (by decide) (fun q => ?_) (fun q => ?_)
            · have q102_121 := ((nI_leO (by omega) (by omega)).mp q)
              clear q
              refine VR.incN h (x := k) (i := 5) (by decide +kernel) rfl (Nat.le_of_ble_eq_true rfl) ?_
              refine VR.eqL (ls' := [some (.ref am), some (.int (nI (e))), some (.int (nI (g))), some (.int (nI (frL A e g k))), some (.int (nI (toL A e g k))), some (.int (nI (k + 1))), some (.int (nI (tn A 22 ((600 * e) + k))))]) rfl ?_
              refine VR.goto h (off := -106) (tgt := 13) (by decide +kernel) (by decide) ?_
              refine VR.drop 6 (ls' := [some (.ref am), some (.int (nI (e))), some (.int (nI (g))), some (.int (nI (frL A e g k))), some (.int (nI (toL A e g k))), some (.int (nI (k + 1))), none]) rfl ?_
              refine VR.eqL (ls' := [some (.ref am), some (.int (nI (e))), some (.int (nI (g))), some (.int (nI (frL A e g ((k + 1))))), some (.int (nI (toL A e g ((k + 1))))), some (.int (nI ((k + 1)))), none]) (by rw [frL, toL]; (repeat (first | rw [if_pos (by omega)] | rw [if_neg (by omega)])) <;> rfl) ?_
              exact ih13 (tn A 26 e - (k + 1)) (by omega) (k + 1) rfl (by omega)
            · have q102_121 : ¬ _ := (fun z => q ((nI_leO (by omega) (by omega)).mpr z))
              clear q
              refine VR.blk h [(.iload 5, 2), (.iload 4, 2)] (by decide +kernel) (pc' := 109) (ls' := [some (.ref am), some (.int (nI (e))), some (.int (nI (g))), some (.int (nI (frL A e g k))), some (.int (nI (toL A e g k))), some (.int (nI (k))), some (.int (nI (tn A 22 ((600 * e) + k))))]) (st' := [.int (nI (toL A e g k)), .int (nI (k))]) rfl rfl (Nat.le_of_ble_eq_true rfl) ?_
              refine VR.icmp_ge h (off := 7) (by decide +kernel) (tgt := 116) (by decide) (fun q => ?_) (fun q => ?_)
              · have q109_133 := ((nI_leI (by omega) (by omega)).mp q)
                clear q
                refine VR.incN h (x := k) (i := 5) (by decide +kernel) rfl (Nat.le_of_ble_eq_true rfl) ?_
                refine VR.eqL (ls' := [some (.ref am), some (.int (nI (e))), some (.int (nI (g))), some (.int (nI (frL A e g k))), some (.int (nI (toL A e g k))), some (.int (nI (k + 1))), some (.int (nI (tn A 22 ((600 * e) + k))))]) rfl ?_
                refine VR.goto h (off := -106) (tgt := 13) (by decide +kernel) (by decide) ?_
                refine VR.drop 6 (ls' := [some (.ref am), some (.int (nI (e))), some (.int (nI (g))), some (.int (nI (frL A e g k))), some (.int (nI (toL A e g k))), some (.int (nI (k + 1))), none]) rfl ?_
                refine VR.eqL (ls' := [some (.ref am), some (.int (nI (e))), some (.int (nI (g))), some (.int (nI (frL A e g ((k + 1))))), some (.int (nI (toL A e g ((k + 1))))), some (.int (nI ((k + 1)))), none]) (by rw [frL, toL]; (repeat (first | rw [if_pos (by omega)] | rw [if_neg (by omega)])) <;> rfl) ?_
                exact ih13 (tn A 26 e - (k + 1)) (by omega) (k + 1) rfl (by omega)
              · have q109_133 : ¬ _ := (fun z => q ((nI_leI (by omega) (by omega)).mpr z))
                clear q
                refine VR.blk h [(.iload 5, 2), (.istore 4, 2)] (by decide +kernel) (pc' := 116) (ls' := [some (.ref am), some (.int (nI (e))), some (.int (nI (g))), some (.int (nI (frL A e g k))), some (.int (nI (k))), some (.int (nI (k))), some (.int (nI (tn A 22 ((600 * e) + k))))]) (st' := []) rfl rfl (Nat.le_of_ble_eq_true rfl) ?_
                refine VR.incN h (x := k) (i := 5) (by decide +kernel) rfl (Nat.le_of_ble_eq_true rfl) ?_
                refine VR.eqL (ls' := [some (.ref am), some (.int (nI (e))), some (.int (nI (g))), some (.int (nI (frL A e g k))), some (.int (nI (k))), some (.int (nI (k + 1))), some (.int (nI (tn A 22 ((600 * e) + k))))]) rfl ?_
                refine VR.goto h (off := -106) (tgt := 13) (by decide +kernel) (by decide) ?_
                refine VR.drop 6 (ls' := [some (.ref am), some (.int (nI (e))), some (.int (nI (g))), some (.int (nI (frL A e g k))), some (.int (nI (k))), some (.int (nI (k + 1))), none]) rfl ?_
                refine VR.eqL (ls' := [some (.ref am), some (.int (nI (e))), some (.int (nI (g))), some (.int (nI (frL A e g ((k + 1))))), some (.int (nI (toL A e g ((k + 1))))), some (.int (nI ((k + 1)))), none]) (by rw [frL, toL]; (repeat (first | rw [if_pos (by omega)] | rw [if_neg (by omega)])) <;> rfl) ?_
                exact ih13 (tn A 26 e - (k + 1)) (by omega) (k + 1) rfl (by omega)
          · have q65_108 : ¬ _ := (fun z => q ((oI_neg (by omega)).mpr z))
            clear q
            refine VR.blk h [(.aload_n 0, 1)] (by decide +kernel) (pc' := 69) (ls' := [some (.ref am), some (.int (nI (e))), some (.int (nI (g))), some (.int (nI (frL A e g k))), some (.int (nI (toL A e g k))), some (.int (nI (k))), some (.int (nI (tn A 22 ((600 * e) + k))))]) (st' := [.ref am]) rfl rfl (Nat.le_of_ble_eq_true rfl) ?_
            refine VR.getA h (j := 11) rfl (Or.inl wf_RX11_32) (by decide +kernel) ?_
            refine VR.blk h [(.iload 6, 2)] (by decide +kernel) (pc' := 74) (ls' := [some (.ref am), some (.int (nI (e))), some (.int (nI (g))), some (.int (nI (frL A e g k))), some (.int (nI (toL A e g k))), some (.int (nI (k))), some (.int (nI (tn A 22 ((600 * e) + k))))]) (st' := [.int (nI (tn A 22 ((600 * e) + k))), .ref (ad 11)]) rfl rfl (Nat.le_of_ble_eq_true rfl) ?_
            refine VR.iald h (j := 11) (i := tn A 22 ((600 * e) + k)) rfl rfl (by show _ < 600; omega) (by decide +kernel) (v := (oI (tn A 11 (tn A 22 ((600 * e) + k))))) (mval_2 rfl) ?_
            have nb157 := hB.2 11 (tn A 22 ((600 * e) + k))
            refine VR.blk h [(.aload_n 0, 1)] (by decide +kernel) (pc' := 76) (ls' := [some (.ref am), some (.int (nI (e))), some (.int (nI (g))), some (.int (nI (frL A e g k))), some (.int (nI (toL A e g k))), some (.int (nI (k))), some (.int (nI (tn A 22 ((600 * e) + k))))]) (st' := [.ref am, .int (oI (tn A 11 (tn A 22 ((600 * e) + k))))]) rfl rfl (Nat.le_of_ble_eq_true rfl) ?_
            refine VR.getA h (j := 10) rfl (Or.inl wf_RX11_29) (by decide +kernel) ?_
            refine VR.blk h [(.iload_n 2, 1)] (by decide +kernel) (pc' := 80) (ls' := [some (.ref am), some (.int (nI (e))), some (.int (nI (g))), some (.int (nI (frL A e g k))), some (.int (nI (toL A e g k))), some (.int (nI (k))), some (.int (nI (tn A 22 ((600 * e) + k))))]) (st' := [.int (nI (g)), .ref (ad 10), .int (oI (tn A 11 (tn A 22 ((600 * e) + k))))]) rfl rfl (Nat.le_of_ble_eq_true rfl) ?_
            refine VR.iald h (j := 10) (i := g) rfl rfl (by show _ < 600; omega) (by decide +kernel) (v := (nI (tn A 10 g))) (mval_1 rfl) ?_
            have nb162 := hB.2 10 g
            refine VR.icmp_ge h (off := 8) (by decide +kernel) (tgt := 89) (by decide) (fun q => ?_) (fun q => ?_)
            · have q81_163 := ((nI_leO (by omega) (by omega)).mp q)
              clear q
              refine VR.blk h [(.aload_n 0, 1)] (by decide +kernel) (pc' := 90) (ls' := [some (.ref am), some (.int (nI (e))), some (.int (nI (g))), some (.int (nI (frL A e g k))), some (.int (nI (toL A e g k))), some (.int (nI (k))), some (.int (nI (tn A 22 ((600 * e) + k))))]) (st' := [.ref am]) rfl rfl (Nat.le_of_ble_eq_true rfl) ?_
              refine VR.getA h (j := 10) rfl (Or.inl wf_RX11_29) (by decide +kernel) ?_
              refine VR.blk h [(.iload 6, 2)] (by decide +kernel) (pc' := 95) (ls' := [some (.ref am), some (.int (nI (e))), some (.int (nI (g))), some (.int (nI (frL A e g k))), some (.int (nI (toL A e g k))), some (.int (nI (k))), some (.int (nI (tn A 22 ((600 * e) + k))))]) (st' := [.int (nI (tn A 22 ((600 * e) + k))), .ref (ad 10)]) rfl rfl (Nat.le_of_ble_eq_true rfl) ?_
              refine VR.iald h (j := 10) (i := tn A 22 ((600 * e) + k)) rfl rfl (by show _ < 600; omega) (by decide +kernel) (v := (nI (tn A 10 (tn A 22 ((600 * e) + k))))) (mval_1 rfl) ?_
              have nb170 := hB.2 10 (tn A 22 ((600 * e) + k))
              refine VR.blk h [(.aload_n 0, 1)] (by decide +kernel) (pc' := 97) (ls' := [some (.ref am), some (.int (nI (e))), some (.int (nI (g))), some (.int (nI (frL A e g k))), some (.int (nI (toL A e g k))), some (.int (nI (k))), some (.int (nI (tn A 22 ((600 * e) + k))))]) (st' := [.ref am, .int (nI (tn A 10 (tn A 22 ((600 * e) + k))))]) rfl rfl (Nat.le_of_ble_eq_true rfl) ?_
              refine VR.getA h (j := 11) rfl (Or.inl wf_RX11_32) (by decide +kernel) ?_
              refine VR.blk h [(.iload_n 2, 1)] (by decide +kernel) (pc' := 101) (ls' := [some (.ref am), some (.int (nI (e))), some (.int (nI (g))), some (.int (nI (frL A e g k))), some (.int (nI (toL A e g k))), some (.int (nI (k))), some (.int (nI (tn A 22 ((600 * e) + k))))]) (st' := [.int (nI (g)), .ref (ad 11), .int (nI (tn A 10 (tn A 22 ((600 * e) + k))))]) rfl rfl (Nat.le_of_ble_eq_true rfl) ?_
              refine VR.iald h (j := 11) (i := g) rfl rfl (by show _ < 600; omega) (by decide +kernel) (v := (oI (tn A 11 g))) (mval_2 rfl) ?_
              have nb175 := hB.2 11 g
              refine VR.icmp_le h (off := 14) (by decide +kernel) (tgt := 116) (by decide) (fun q => ?_) (fun q => ?_)
              · have q102_176 := ((nI_leO (by omega) (by omega)).mp q)
                clear q
                refine VR.incN h (x := k) (i := 5) (by decide +kernel) rfl (Nat.le_of_ble_eq_true rfl) ?_
                refine VR.eqL (ls' := [some (.ref am), some (.int (nI (e))), some (.int (nI (g))), some (.int (nI (frL A e g k))), some (.int (nI (toL A e g k))), some (.int (nI (k + 1))), some (.int (nI (tn A 22 ((600 * e) + k))))]) rfl ?_
                refine VR.goto h (off := -106) (tgt := 13) (by decide +kernel) (by decide) ?_
                refine VR.drop 6 (ls' := [some (.ref am), some (.int (nI (e))), some (.int (nI (g))), some (.int (nI (frL A e g k))), some (.int (nI (toL A e g k))), some (.int (nI (k + 1))), none]) rfl ?_
                refine VR.eqL (ls' := [some (.ref am), some (.int (nI (e))), some (.int (nI (g))), some (.int (nI (frL A e g ((k + 1))))), some (.int (nI (toL A e g ((k + 1))))), some (.int (nI ((k + 1)))), none]) (by rw [frL, toL]; (repeat (first | rw [if_pos (by omega)] | rw [if_neg (by omega)])) <;> rfl) ?_
                exact ih13 (tn A 26 e - (k + 1)) (by omega) (k + 1) rfl (by omega)
              · have q102_176 : ¬ _ := (fun z => q ((nI_leO (by omega) (by omega)).mpr z))
                clear q
                refine VR.blk h [(.iload 5, 2), (.iload 4, 2)] (by decide +kernel) (pc' := 109) (ls' := [some (.ref am), some (.int (nI (e))), some (.int (nI (g))), some (.int (nI (frL A e g k))), some (.int (nI (toL A e g k))), some (.int (nI (k))), some (.int (nI (tn A 22 ((600 * e) + k))))]) (st' := [.int (nI (toL A e g k)), .int (nI (k))]) rfl rfl (Nat.le_of_ble_eq_true rfl) ?_
                refine VR.icmp_ge h (off := 7) (by decide +kernel) (tgt := 116) (by decide) (fun q => ?_) (fun q => ?_)
                · have q109_188 := ((nI_leI (by omega) (by omega)).mp q)
                  clear q
                  refine VR.incN h (x := k) (i := 5) (by decide +kernel) rfl (Nat.le_of_ble_eq_true rfl) ?_
                  refine VR.eqL (ls' := [some (.ref am), some (.int (nI (e))), some (.int (nI (g))), some (.int (nI (frL A e g k))), some (.int (nI (toL A e g k))), some (.int (nI (k + 1))), some (.int (nI (tn A 22 ((600 * e) + k))))]) rfl ?_
                  refine VR.goto h (off := -106) (tgt := 13) (by decide +kernel) (by decide) ?_
                  refine VR.drop 6 (ls' := [some (.ref am), some (.int (nI (e))), some (.int (nI (g))), some (.int (nI (frL A e g k))), some (.int (nI (toL A e g k))), some (.int (nI (k + 1))), none]) rfl ?_
                  refine VR.eqL (ls' := [some (.ref am), some (.int (nI (e))), some (.int (nI (g))), some (.int (nI (frL A e g ((k + 1))))), some (.int (nI (toL A e g ((k + 1))))), some (.int (nI ((k + 1)))), none]) (by rw [frL, toL]; (repeat (first | rw [if_pos (by omega)] | rw [if_neg (by omega)])) <;> rfl) ?_
                  exact ih13 (tn A 26 e - (k + 1)) (by omega) (k + 1) rfl (by omega)
                · have q109_188 : ¬ _ := (fun z => q ((nI_leI (by omega) (by omega)).mpr z))
                  clear q
                  refine VR.blk h [(.iload 5, 2), (.istore 4, 2)] (by decide +kernel) (pc' := 116) (ls' := [some (.ref am), some (.int (nI (e))), some (.int (nI (g))), some (.int (nI (frL A e g k))), some (.int (nI (k))), some (.int (nI (k))), some (.int (nI (tn A 22 ((600 * e) + k))))]) (st' := []) rfl rfl (Nat.le_of_ble_eq_true rfl) ?_
                  refine VR.incN h (x := k) (i := 5) (by decide +kernel) rfl (Nat.le_of_ble_eq_true rfl) ?_
                  refine VR.eqL (ls' := [some (.ref am), some (.int (nI (e))), some (.int (nI (g))), some (.int (nI (frL A e g k))), some (.int (nI (k))), some (.int (nI (k + 1))), some (.int (nI (tn A 22 ((600 * e) + k))))]) rfl ?_
                  refine VR.goto h (off := -106) (tgt := 13) (by decide +kernel) (by decide) ?_
                  refine VR.drop 6 (ls' := [some (.ref am), some (.int (nI (e))), some (.int (nI (g))), some (.int (nI (frL A e g k))), some (.int (nI (k))), some (.int (nI (k + 1))), none]) rfl ?_
                  refine VR.eqL (ls' := [some (.ref am), some (.int (nI (e))), some (.int (nI (g))), some (.int (nI (frL A e g ((k + 1))))), some (.int (nI (toL A e g ((k + 1))))), some (.int (nI ((k + 1)))), none]) (by rw [frL, toL]; (repeat (first | rw [if_pos (by omega)] | rw [if_neg (by omega)])) <;> rfl) ?_
                  exact ih13 (tn A 26 e - (k + 1)) (by omega) (k + 1) rfl (by omega)
            · have q81_163 : ¬ _ := (fun z => q ((nI_leO (by omega) (by omega)).mpr z))
              clear q
              refine VR.blk h [(.iload 5, 2), (.iconst 1, 1)] (by decide +kernel) (pc' := 87) (ls' := [some (.ref am), some (.int (nI (e))), some (.int (nI (g))), some (.int (nI (frL A e g k))), some (.int (nI (toL A e g k))), some (.int (nI (k))), some (.int (nI (tn A 22 ((600 * e) + k))))]) (st' := [.int (nI (1)), .int (nI (k))]) rfl rfl (Nat.le_of_ble_eq_true rfl) ?_
              refine VR.addN h (by decide +kernel) (Nat.le_of_ble_eq_true rfl) ?_
              refine VR.blk h [(.istore_n 3, 1), (.aload_n 0, 1)] (by decide +kernel) (pc' := 90) (ls' := [some (.ref am), some (.int (nI (e))), some (.int (nI (g))), some (.int (nI (k + 1))), some (.int (nI (toL A e g k))), some (.int (nI (k))), some (.int (nI (tn A 22 ((600 * e) + k))))]) (st' := [.ref am]) rfl rfl (Nat.le_of_ble_eq_true rfl) ?_
              refine VR.getA h (j := 10) rfl (Or.inl wf_RX11_29) (by decide +kernel) ?_
              refine VR.blk h [(.iload 6, 2)] (by decide +kernel) (pc' := 95) (ls' := [some (.ref am), some (.int (nI (e))), some (.int (nI (g))), some (.int (nI (k + 1))), some (.int (nI (toL A e g k))), some (.int (nI (k))), some (.int (nI (tn A 22 ((600 * e) + k))))]) (st' := [.int (nI (tn A 22 ((600 * e) + k))), .ref (ad 10)]) rfl rfl (Nat.le_of_ble_eq_true rfl) ?_
              refine VR.iald h (j := 10) (i := tn A 22 ((600 * e) + k)) rfl rfl (by show _ < 600; omega) (by decide +kernel) (v := (nI (tn A 10 (tn A 22 ((600 * e) + k))))) (mval_1 rfl) ?_
              have nb214 := hB.2 10 (tn A 22 ((600 * e) + k))
              refine VR.blk h [(.aload_n 0, 1)] (by decide +kernel) (pc' := 97) (ls' := [some (.ref am), some (.int (nI (e))), some (.int (nI (g))), some (.int (nI (k + 1))), some (.int (nI (toL A e g k))), some (.int (nI (k))), some (.int (nI (tn A 22 ((600 * e) + k))))]) (st' := [.ref am, .int (nI (tn A 10 (tn A 22 ((600 * e) + k))))]) rfl rfl (Nat.le_of_ble_eq_true rfl) ?_
              refine VR.getA h (j := 11) rfl (Or.inl wf_RX11_32) (by decide +kernel) ?_
              refine VR.blk h [(.iload_n 2, 1)] (by decide +kernel) (pc' := 101) (ls' := [some (.ref am), some (.int (nI (e))), some (.int (nI (g))), some (.int (nI (k + 1))), some (.int (nI (toL A e g k))), some (.int (nI (k))), some (.int (nI (tn A 22 ((600 * e) + k))))]) (st' := [.int (nI (g)), .ref (ad 11), .int (nI (tn A 10 (tn A 22 ((600 * e) + k))))]) rfl rfl (Nat.le_of_ble_eq_true rfl) ?_
              refine VR.iald h (j := 11) (i := g) rfl rfl (by show _ < 600; omega) (by decide +kernel) (v := (oI (tn A 11 g))) (mval_2 rfl) ?_
              have nb219 := hB.2 11 g
              refine VR.icmp_le h (off := 14) (by decide +kernel) (tgt := 116) (by decide) (fun q => ?_) (fun q => ?_)
              · have q102_220 := ((nI_leO (by omega) (by omega)).mp q)
                clear q
                refine VR.incN h (x := k) (i := 5) (by decide +kernel) rfl (Nat.le_of_ble_eq_true rfl) ?_
                refine VR.eqL (ls' := [some (.ref am), some (.int (nI (e))), some (.int (nI (g))), some (.int (nI (k + 1))), some (.int (nI (toL A e g k))), some (.int (nI (k + 1))), some (.int (nI (tn A 22 ((600 * e) + k))))]) rfl ?_
                refine VR.goto h (off := -106) (tgt := 13) (by decide +kernel) (by decide) ?_
                refine VR.drop 6 (ls' := [some (.ref am), some (.int (nI (e))), some (.int (nI (g))), some (.int (nI (k + 1))), some (.int (nI (toL A e g k))), some (.int (nI (k + 1))), none]) rfl ?_
                refine VR.eqL (ls' := [some (.ref am), some (.int (nI (e))), some (.int (nI (g))), some (.int (nI (frL A e g ((k + 1))))), some (.int (nI (toL A e g ((k + 1))))), some (.int (nI ((k + 1)))), none]) (by rw [frL, toL]; (repeat (first | rw [if_pos (by omega)] | rw [if_neg (by omega)])) <;> rfl) ?_
                exact ih13 (tn A 26 e - (k + 1)) (by omega) (k + 1) rfl (by omega)
              · have q102_220 : ¬ _ := (fun z => q ((nI_leO (by omega) (by omega)).mpr z))
                clear q
                refine VR.blk h [(.iload 5, 2), (.iload 4, 2)] (by decide +kernel) (pc' := 109) (ls' := [some (.ref am), some (.int (nI (e))), some (.int (nI (g))), some (.int (nI (k + 1))), some (.int (nI (toL A e g k))), some (.int (nI (k))), some (.int (nI (tn A 22 ((600 * e) + k))))]) (st' := [.int (nI (toL A e g k)), .int (nI (k))]) rfl rfl (Nat.le_of_ble_eq_true rfl) ?_
                refine VR.icmp_ge h (off := 7) (by decide +kernel) (tgt := 116) (by decide) (fun q => ?_) (fun q => ?_)
                · have q109_232 := ((nI_leI (by omega) (by omega)).mp q)
                  clear q
                  refine VR.incN h (x := k) (i := 5) (by decide +kernel) rfl (Nat.le_of_ble_eq_true rfl) ?_
                  refine VR.eqL (ls' := [some (.ref am), some (.int (nI (e))), some (.int (nI (g))), some (.int (nI (k + 1))), some (.int (nI (toL A e g k))), some (.int (nI (k + 1))), some (.int (nI (tn A 22 ((600 * e) + k))))]) rfl ?_
                  refine VR.goto h (off := -106) (tgt := 13) (by decide +kernel) (by decide) ?_
                  refine VR.drop 6 (ls' := [some (.ref am), some (.int (nI (e))), some (.int (nI (g))), some (.int (nI (k + 1))), some (.int (nI (toL A e g k))), some (.int (nI (k + 1))), none]) rfl ?_
                  refine VR.eqL (ls' := [some (.ref am), some (.int (nI (e))), some (.int (nI (g))), some (.int (nI (frL A e g ((k + 1))))), some (.int (nI (toL A e g ((k + 1))))), some (.int (nI ((k + 1)))), none]) (by rw [frL, toL]; (repeat (first | rw [if_pos (by omega)] | rw [if_neg (by omega)])) <;> rfl) ?_
                  exact ih13 (tn A 26 e - (k + 1)) (by omega) (k + 1) rfl (by omega)
                · have q109_232 : ¬ _ := (fun z => q ((nI_leI (by omega) (by omega)).mpr z))
                  clear q
                  refine VR.blk h [(.iload 5, 2), (.istore 4, 2)] (by decide +kernel) (pc' := 116) (ls' := [some (.ref am), some (.int (nI (e))), some (.int (nI (g))), some (.int (nI (k + 1))), some (.int (nI (k))), some (.int (nI (k))), some (.int (nI (tn A 22 ((600 * e) + k))))]) (st' := []) rfl rfl (Nat.le_of_ble_eq_true rfl) ?_
                  refine VR.incN h (x := k) (i := 5) (by decide +kernel) rfl (Nat.le_of_ble_eq_true rfl) ?_
                  refine VR.eqL (ls' := [some (.ref am), some (.int (nI (e))), some (.int (nI (g))), some (.int (nI (k + 1))), some (.int (nI (k))), some (.int (nI (k + 1))), some (.int (nI (tn A 22 ((600 * e) + k))))]) rfl ?_
                  refine VR.goto h (off := -106) (tgt := 13) (by decide +kernel) (by decide) ?_
                  refine VR.drop 6 (ls' := [some (.ref am), some (.int (nI (e))), some (.int (nI (g))), some (.int (nI (k + 1))), some (.int (nI (k))), some (.int (nI (k + 1))), none]) rfl ?_
                  refine VR.eqL (ls' := [some (.ref am), some (.int (nI (e))), some (.int (nI (g))), some (.int (nI (frL A e g ((k + 1))))), some (.int (nI (toL A e g ((k + 1))))), some (.int (nI ((k + 1)))), none]) (by rw [frL, toL]; (repeat (first | rw [if_pos (by omega)] | rw [if_neg (by omega)])) <;> rfl) ?_
                  exact ih13 (tn A 26 e - (k + 1)) (by omega) (k + 1) rfl (by omega)
        · have q52_100 : ¬ _ := (fun z => q ((nI_eq (by omega) (by omega)).mpr z))
          clear q
          refine VR.goto h (off := 61) (tgt := 116) (by decide +kernel) (by decide) ?_
          refine VR.incN h (x := k) (i := 5) (by decide +kernel) rfl (Nat.le_of_ble_eq_true rfl) ?_
          refine VR.eqL (ls' := [some (.ref am), some (.int (nI (e))), some (.int (nI (g))), some (.int (nI (frL A e g k))), some (.int (nI (toL A e g k))), some (.int (nI (k + 1))), some (.int (nI (tn A 22 ((600 * e) + k))))]) rfl ?_
          refine VR.goto h (off := -106) (tgt := 13) (by decide +kernel) (by decide) ?_
          refine VR.drop 6 (ls' := [some (.ref am), some (.int (nI (e))), some (.int (nI (g))), some (.int (nI (frL A e g k))), some (.int (nI (toL A e g k))), some (.int (nI (k + 1))), none]) rfl ?_
          refine VR.eqL (ls' := [some (.ref am), some (.int (nI (e))), some (.int (nI (g))), some (.int (nI (frL A e g ((k + 1))))), some (.int (nI (toL A e g ((k + 1))))), some (.int (nI ((k + 1)))), none]) (by rw [frL, toL]; (repeat (first | rw [if_pos (by omega)] | rw [if_neg (by omega)])) <;> rfl) ?_
          exact ih13 (tn A 26 e - (k + 1)) (by omega) (k + 1) rfl (by omega)
  refine VR.eqL (ls' := [some (.ref am), some (.int (nI (e))), some (.int (nI (g))), some (.int (nI (frL A e g 0))), some (.int (nI (toL A e g 0))), some (.int (nI (0))), none]) rfl ?_
  exact loop13 _ 0 rfl (Nat.zero_le _)

set_option maxRecDepth 100000 in
set_option maxHeartbeats 4000000 in
theorem r_audit {l : Launch} {D : va_G} {tc : Nat → ClassId} {am : Nat} {ad : Nat → Nat} (hls : l.stackTraces = false) (A : TS) (A1 : TS) (K : Nat) (hA1 : A1 = sf A 0 0) (he1 : 1 ≤ tf A1 38) (he2 : tf A1 38 ≤ 12) (hm : tn A1 26 (tf A1 38 - 1) ≤ 600) (hlo : ∀ k, k < tn A1 26 (tf A1 38 - 1) → tn A1 22 (600 * (tf A1 38 - 1) + k) < 600) (hn13 : tf A1 13 ≤ 600) (hB : NB K A1) (hK : K < 1999980000) : RM l D tc am ad yX11_audit cX11_audit 4 (some .int) 3 [.ref am] A (some (.int (nI (audF A1)))) (A1) := by
  refine RM.of hls (by decide +kernel) (by simp [Value.category]) (Nat.le_of_ble_eq_true rfl) (fun A0 p e9 s m args below meth c S0 sz Q h hr hA hQ => ?_)
  have nb38 := hB.1 38
  refine VR.eqL (ls' := [some (.ref am), none, none, none]) rfl ?_
  refine VR.blk h [(.aload_n 0, 1), (.iconst 0, 1)] (by decide +kernel) (pc' := 2) (ls' := [some (.ref am), none, none, none]) (st' := [.int (nI (0)), .ref am]) rfl rfl (Nat.le_of_ble_eq_true rfl) ?_
  refine VR.putI h (j := 0) rfl rfl rfl (Or.inl wf_RX11_1) (by decide +kernel) ?_
  refine VR.eqA (A' := A1) hA1 ?_
  refine VR.blk h [(.aload_n 0, 1)] (by decide +kernel) (pc' := 6) (ls' := [some (.ref am), none, none, none]) (st' := [.ref am]) rfl rfl (Nat.le_of_ble_eq_true rfl) ?_
  refine VR.getI h (j := 38) rfl (Or.inl wf_RX11_167) (by decide +kernel) (v := tf A1 38) rfl ?_
  refine VR.blk h [(.iconst 1, 1)] (by decide +kernel) (pc' := 10) (ls' := [some (.ref am), none, none, none]) (st' := [.int (nI (1)), .int (nI (tf A1 38))]) rfl rfl (Nat.le_of_ble_eq_true rfl) ?_
  refine VR.subN h (by decide +kernel) (Nat.le_of_ble_eq_true rfl) (by omega) ?_
  refine VR.blk h [(.istore_n 1, 1), (.aload_n 0, 1)] (by decide +kernel) (pc' := 13) (ls' := [some (.ref am), some (.int (nI ((tf A1 38) - 1))), none, none]) (st' := [.ref am]) rfl rfl (Nat.le_of_ble_eq_true rfl) ?_
  refine VR.getA h (j := 30) rfl (Or.inl wf_RX11_81) (by decide +kernel) ?_
  refine VR.blk h [(.iload_n 1, 1)] (by decide +kernel) (pc' := 17) (ls' := [some (.ref am), some (.int (nI ((tf A1 38) - 1))), none, none]) (st' := [.int (nI ((tf A1 38) - 1)), .ref (ad 30)]) rfl rfl (Nat.le_of_ble_eq_true rfl) ?_
  refine VR.bald h (j := 30) (i := (tf A1 38) - 1) rfl rfl (by show _ < 12; omega) (by decide +kernel) (v := (bI (tb A1 30 ((tf A1 38) - 1)))) (mval_4 rfl) ?_
  refine VR.if_ne h (off := 5) (by decide +kernel) (tgt := 23) (by decide) (fun q => ?_) (fun q => ?_)
  · have q18_13 := (bI_1 (fun z => q (bI_0.mpr z)))
    clear q
    have join44 : ∀ bb44 : Bool, bb44 = (onL A1 (tf A1 38 - 1) (tn A1 26 (tf A1 38 - 1)) && ioL A1 (tf A1 38 - 1) (tf A1 13)) → VR l D tc A0 p e9 (rmd 3 0 0) s m args below meth c 4 Q am ad A1 44 [some (.ref am), some (.int (nI ((tf A1 38) - 1))), none, none] [.int (bI (bb44))] := by
      intro bb44 hb44; subst hb44
      refine VR.blk h [(.istore_n 2, 1), (.iconst 0, 1), (.istore_n 3, 1)] (by decide +kernel) (pc' := 47) (ls' := [some (.ref am), some (.int (nI ((tf A1 38) - 1))), some (.int (bI ((onL A1 (tf A1 38 - 1) (tn A1 26 (tf A1 38 - 1)) && ioL A1 (tf A1 38 - 1) (tf A1 13))))), some (.int (nI (0)))]) (st' := []) rfl rfl (Nat.le_of_ble_eq_true rfl) ?_
      have loop47 : ∀ (t g : Nat), tf A1 13 - g = t → g ≤ tf A1 13 → VR l D tc A0 p e9 (rmd 3 0 0) s m args below meth c 4 Q am ad A1 47 [some (.ref am), some (.int (nI (tf A1 38 - 1))), some (.int (bI (auL A1 (tf A1 38 - 1) (onL A1 (tf A1 38 - 1) (tn A1 26 (tf A1 38 - 1)) && ioL A1 (tf A1 38 - 1) (tf A1 13)) g))), some (.int (nI (g)))] [] := by
        intro t; induction t using Nat.strongRecOn with
        | _ t ih47 =>
          intro g ht47 hk47
          refine VR.blk h [(.iload_n 3, 1), (.aload_n 0, 1)] (by decide +kernel) (pc' := 49) (ls' := [some (.ref am), some (.int (nI (tf A1 38 - 1))), some (.int (bI (auL A1 (tf A1 38 - 1) (onL A1 (tf A1 38 - 1) (tn A1 26 (tf A1 38 - 1)) && ioL A1 (tf A1 38 - 1) (tf A1 13)) g))), some (.int (nI (g)))]) (st' := [.ref am, .int (nI (g))]) rfl rfl (Nat.le_of_ble_eq_true rfl) ?_
          refine VR.getI h (j := 13) rfl (Or.inl wf_RX11_251) (by decide +kernel) (v := tf A1 13) rfl ?_
          refine VR.icmp_ge h (off := 39) (by decide +kernel) (tgt := 91) (by decide) (fun q => ?_) (fun q => ?_)
          · have q52_25 := ((nI_leI (by omega) (by omega)).mp q)
            clear q
            refine VR.blk h [(.iload_n 2, 1)] (by decide +kernel) (pc' := 92) (ls' := [some (.ref am), some (.int (nI (tf A1 38 - 1))), some (.int (bI (auL A1 (tf A1 38 - 1) (onL A1 (tf A1 38 - 1) (tn A1 26 (tf A1 38 - 1)) && ioL A1 (tf A1 38 - 1) (tf A1 13)) g))), some (.int (nI (g)))]) (st' := [.int (bI (auL A1 (tf A1 38 - 1) (onL A1 (tf A1 38 - 1) (tn A1 26 (tf A1 38 - 1)) && ioL A1 (tf A1 38 - 1) (tf A1 13)) g))]) rfl rfl (Nat.le_of_ble_eq_true rfl) ?_
            refine VR.if_eq h (off := 7) (by decide +kernel) (tgt := 99) (by decide) (fun q => ?_) (fun q => ?_)
            · have q92_29 := (bI_0.mp q)
              clear q
              refine VR.blk h [(.iconst 1, 1)] (by decide +kernel) (pc' := 100) (ls' := [some (.ref am), some (.int (nI (tf A1 38 - 1))), some (.int (bI (auL A1 (tf A1 38 - 1) (onL A1 (tf A1 38 - 1) (tn A1 26 (tf A1 38 - 1)) && ioL A1 (tf A1 38 - 1) (tf A1 13)) g))), some (.int (nI (g)))]) (st' := [.int (nI (1))]) rfl rfl (Nat.le_of_ble_eq_true rfl) ?_
              exact VR.iret h hA hQ hr rfl (by obtain rfl : g = tf A1 13 := (by omega); rw [audF_1 q18_13 q92_29]) rfl (by decide +kernel)
            · have q92_29 := (bI_1 (fun z => q (bI_0.mpr z)))
              clear q
              refine VR.blk h [(.iconst 0, 1)] (by decide +kernel) (pc' := 96) (ls' := [some (.ref am), some (.int (nI (tf A1 38 - 1))), some (.int (bI (auL A1 (tf A1 38 - 1) (onL A1 (tf A1 38 - 1) (tn A1 26 (tf A1 38 - 1)) && ioL A1 (tf A1 38 - 1) (tf A1 13)) g))), some (.int (nI (g)))]) (st' := [.int (nI (0))]) rfl rfl (Nat.le_of_ble_eq_true rfl) ?_
              refine VR.goto h (off := 4) (tgt := 100) (by decide +kernel) (by decide) ?_
              exact VR.iret h hA hQ hr rfl (by obtain rfl : g = tf A1 13 := (by omega); rw [audF_0 q18_13 q92_29]) rfl (by decide +kernel)
          · have q52_25 : ¬ _ := (fun z => q ((nI_leI (by omega) (by omega)).mpr z))
            clear q
            refine VR.blk h [(.iload_n 2, 1)] (by decide +kernel) (pc' := 56) (ls' := [some (.ref am), some (.int (nI (tf A1 38 - 1))), some (.int (bI (auL A1 (tf A1 38 - 1) (onL A1 (tf A1 38 - 1) (tn A1 26 (tf A1 38 - 1)) && ioL A1 (tf A1 38 - 1) (tf A1 13)) g))), some (.int (nI (g)))]) (st' := [.int (bI (auL A1 (tf A1 38 - 1) (onL A1 (tf A1 38 - 1) (tn A1 26 (tf A1 38 - 1)) && ioL A1 (tf A1 38 - 1) (tf A1 13)) g))]) rfl rfl (Nat.le_of_ble_eq_true rfl) ?_
            refine VR.if_eq h (off := 35) (by decide +kernel) (tgt := 91) (by decide) (fun q => ?_) (fun q => ?_)
            · have q56_42 := (bI_0.mp q)
              clear q
              refine VR.blk h [(.iload_n 2, 1)] (by decide +kernel) (pc' := 92) (ls' := [some (.ref am), some (.int (nI (tf A1 38 - 1))), some (.int (bI (auL A1 (tf A1 38 - 1) (onL A1 (tf A1 38 - 1) (tn A1 26 (tf A1 38 - 1)) && ioL A1 (tf A1 38 - 1) (tf A1 13)) g))), some (.int (nI (g)))]) (st' := [.int (bI (auL A1 (tf A1 38 - 1) (onL A1 (tf A1 38 - 1) (tn A1 26 (tf A1 38 - 1)) && ioL A1 (tf A1 38 - 1) (tf A1 13)) g))]) rfl rfl (Nat.le_of_ble_eq_true rfl) ?_
              refine VR.if_eq h (off := 7) (by decide +kernel) (tgt := 99) (by decide) (fun q => ?_) (fun q => ?_)
              · have q92_46 := (bI_0.mp q)
                clear q
                refine VR.blk h [(.iconst 1, 1)] (by decide +kernel) (pc' := 100) (ls' := [some (.ref am), some (.int (nI (tf A1 38 - 1))), some (.int (bI (auL A1 (tf A1 38 - 1) (onL A1 (tf A1 38 - 1) (tn A1 26 (tf A1 38 - 1)) && ioL A1 (tf A1 38 - 1) (tf A1 13)) g))), some (.int (nI (g)))]) (st' := [.int (nI (1))]) rfl rfl (Nat.le_of_ble_eq_true rfl) ?_
                exact VR.iret h hA hQ hr rfl (by rw [audF_1 q18_13 (auL_false q56_42 _ (by omega))]) rfl (by decide +kernel)
              · have q92_46 := (bI_1 (fun z => q (bI_0.mpr z)))
                clear q
                exact Bool.noConfusion (q56_42.symm.trans q92_46)
            · have q56_42 := (bI_1 (fun z => q (bI_0.mpr z)))
              clear q
              refine VR.blk h [(.aload_n 0, 1)] (by decide +kernel) (pc' := 60) (ls' := [some (.ref am), some (.int (nI (tf A1 38 - 1))), some (.int (bI (auL A1 (tf A1 38 - 1) (onL A1 (tf A1 38 - 1) (tn A1 26 (tf A1 38 - 1)) && ioL A1 (tf A1 38 - 1) (tf A1 13)) g))), some (.int (nI (g)))]) (st' := [.ref am]) rfl rfl (Nat.le_of_ble_eq_true rfl) ?_
              refine VR.getA h (j := 7) rfl (Or.inl wf_RX11_20) (by decide +kernel) ?_
              refine VR.blk h [(.iload_n 3, 1)] (by decide +kernel) (pc' := 64) (ls' := [some (.ref am), some (.int (nI (tf A1 38 - 1))), some (.int (bI (auL A1 (tf A1 38 - 1) (onL A1 (tf A1 38 - 1) (tn A1 26 (tf A1 38 - 1)) && ioL A1 (tf A1 38 - 1) (tf A1 13)) g))), some (.int (nI (g)))]) (st' := [.int (nI (g)), .ref (ad 7)]) rfl rfl (Nat.le_of_ble_eq_true rfl) ?_
              refine VR.iald h (j := 7) (i := g) rfl rfl (by show _ < 600; omega) (by decide +kernel) (v := (nI (tn A1 7 g))) (mval_1 rfl) ?_
              have nb60 := hB.2 7 g
              refine VR.blk h [(.iconst 2, 1)] (by decide +kernel) (pc' := 66) (ls' := [some (.ref am), some (.int (nI (tf A1 38 - 1))), some (.int (bI (auL A1 (tf A1 38 - 1) (onL A1 (tf A1 38 - 1) (tn A1 26 (tf A1 38 - 1)) && ioL A1 (tf A1 38 - 1) (tf A1 13)) g))), some (.int (nI (g)))]) (st' := [.int (nI (2)), .int (nI (tn A1 7 g))]) rfl rfl (Nat.le_of_ble_eq_true rfl) ?_
              refine VR.icmp_ne h (off := 19) (by decide +kernel) (tgt := 85) (by decide) (fun q => ?_) (fun q => ?_)
              · have q66_62 : ¬ _ := (fun z => q ((nI_eq (by omega) (by omega)).mpr z))
                clear q
                refine VR.incN h (x := g) (i := 3) (by decide +kernel) rfl (Nat.le_of_ble_eq_true rfl) ?_
                refine VR.eqL (ls' := [some (.ref am), some (.int (nI (tf A1 38 - 1))), some (.int (bI (auL A1 (tf A1 38 - 1) (onL A1 (tf A1 38 - 1) (tn A1 26 (tf A1 38 - 1)) && ioL A1 (tf A1 38 - 1) (tf A1 13)) g))), some (.int (nI (g + 1)))]) rfl ?_
                refine VR.goto h (off := -41) (tgt := 47) (by decide +kernel) (by decide) ?_
                refine VR.eqL (ls' := [some (.ref am), some (.int (nI (tf A1 38 - 1))), some (.int (bI (auL A1 (tf A1 38 - 1) (onL A1 (tf A1 38 - 1) (tn A1 26 (tf A1 38 - 1)) && ioL A1 (tf A1 38 - 1) (tf A1 13)) ((g + 1))))), some (.int (nI ((g + 1))))]) (by rw [auL_s q56_42, q56_42, if_neg (fun z => q66_62 z.1)]) ?_
                exact ih47 (tf A1 13 - (g + 1)) (by omega) (g + 1) rfl (by omega)
              · have q66_62 := ((nI_eq (by omega) (by omega)).mp q)
                clear q
                refine VR.blk h [(.aload_n 0, 1)] (by decide +kernel) (pc' := 70) (ls' := [some (.ref am), some (.int (nI (tf A1 38 - 1))), some (.int (bI (auL A1 (tf A1 38 - 1) (onL A1 (tf A1 38 - 1) (tn A1 26 (tf A1 38 - 1)) && ioL A1 (tf A1 38 - 1) (tf A1 13)) g))), some (.int (nI (g)))]) (st' := [.ref am]) rfl rfl (Nat.le_of_ble_eq_true rfl) ?_
                refine VR.getA h (j := 11) rfl (Or.inl wf_RX11_32) (by decide +kernel) ?_
                refine VR.blk h [(.iload_n 3, 1)] (by decide +kernel) (pc' := 74) (ls' := [some (.ref am), some (.int (nI (tf A1 38 - 1))), some (.int (bI (auL A1 (tf A1 38 - 1) (onL A1 (tf A1 38 - 1) (tn A1 26 (tf A1 38 - 1)) && ioL A1 (tf A1 38 - 1) (tf A1 13)) g))), some (.int (nI (g)))]) (st' := [.int (nI (g)), .ref (ad 11)]) rfl rfl (Nat.le_of_ble_eq_true rfl) ?_
                refine VR.iald h (j := 11) (i := g) rfl rfl (by show _ < 600; omega) (by decide +kernel) (v := (oI (tn A1 11 g))) (mval_2 rfl) ?_
                have nb76 := hB.2 11 g
                refine VR.if_lt h (off := 10) (by decide +kernel) (tgt := 85) (by decide) (fun q => ?_) (fun q => ?_)
                · have q75_77 := ((oI_neg (by omega)).mp q)
                  clear q
                  refine VR.incN h (x := g) (i := 3) (by decide +kernel) rfl (Nat.le_of_ble_eq_true rfl) ?_
                  refine VR.eqL (ls' := [some (.ref am), some (.int (nI (tf A1 38 - 1))), some (.int (bI (auL A1 (tf A1 38 - 1) (onL A1 (tf A1 38 - 1) (tn A1 26 (tf A1 38 - 1)) && ioL A1 (tf A1 38 - 1) (tf A1 13)) g))), some (.int (nI (g + 1)))]) rfl ?_
                  refine VR.goto h (off := -41) (tgt := 47) (by decide +kernel) (by decide) ?_
                  refine VR.eqL (ls' := [some (.ref am), some (.int (nI (tf A1 38 - 1))), some (.int (bI (auL A1 (tf A1 38 - 1) (onL A1 (tf A1 38 - 1) (tn A1 26 (tf A1 38 - 1)) && ioL A1 (tf A1 38 - 1) (tf A1 13)) ((g + 1))))), some (.int (nI ((g + 1))))]) (by rw [auL_s q56_42, q56_42, if_neg (fun z => z.2 q75_77)]) ?_
                  exact ih47 (tf A1 13 - (g + 1)) (by omega) (g + 1) rfl (by omega)
                · have q75_77 : ¬ _ := (fun z => q ((oI_neg (by omega)).mpr z))
                  clear q
                  refine VR.blk h [(.aload_n 0, 1), (.iload_n 1, 1), (.iload_n 3, 1)] (by decide +kernel) (pc' := 81) (ls' := [some (.ref am), some (.int (nI (tf A1 38 - 1))), some (.int (bI (auL A1 (tf A1 38 - 1) (onL A1 (tf A1 38 - 1) (tn A1 26 (tf A1 38 - 1)) && ioL A1 (tf A1 38 - 1) (tf A1 13)) g))), some (.int (nI (g)))]) (st' := [.int (nI (g)), .int (nI (tf A1 38 - 1)), .ref am]) rfl rfl (Nat.le_of_ble_eq_true rfl) ?_
                  refine VR.call h (np := 2) (st := []) (r_isSeen hls A1 (tf A1 38 - 1) g K (by omega) hm hlo (by omega) hB (by omega)) wc_X11_isSeen wn_RX11 (Or.inl wm_RX11_301) wi_X11_isSeen we_X11_isSeen (by decide +kernel) rfl (by decide) (by decide) (by simp [Value.category]) (by decide +kernel) rfl ?_
                  refine VR.blk h [(.istore_n 2, 1)] (by decide +kernel) (pc' := 85) (ls' := [some (.ref am), some (.int (nI (tf A1 38 - 1))), some (.int (bI (seenF A1 (tf A1 38 - 1) g))), some (.int (nI (g)))]) (st' := []) rfl rfl (Nat.le_of_ble_eq_true rfl) ?_
                  refine VR.incN h (x := g) (i := 3) (by decide +kernel) rfl (Nat.le_of_ble_eq_true rfl) ?_
                  refine VR.eqL (ls' := [some (.ref am), some (.int (nI (tf A1 38 - 1))), some (.int (bI (seenF A1 (tf A1 38 - 1) g))), some (.int (nI (g + 1)))]) rfl ?_
                  refine VR.goto h (off := -41) (tgt := 47) (by decide +kernel) (by decide) ?_
                  refine VR.eqL (ls' := [some (.ref am), some (.int (nI (tf A1 38 - 1))), some (.int (bI (auL A1 (tf A1 38 - 1) (onL A1 (tf A1 38 - 1) (tn A1 26 (tf A1 38 - 1)) && ioL A1 (tf A1 38 - 1) (tf A1 13)) ((g + 1))))), some (.int (nI ((g + 1))))]) (by rw [auL_s q56_42, if_pos ⟨q66_62, q75_77⟩]) ?_
                  exact ih47 (tf A1 13 - (g + 1)) (by omega) (g + 1) rfl (by omega)
      refine VR.eqL (ls' := [some (.ref am), some (.int (nI (tf A1 38 - 1))), some (.int (bI (auL A1 (tf A1 38 - 1) (onL A1 (tf A1 38 - 1) (tn A1 26 (tf A1 38 - 1)) && ioL A1 (tf A1 38 - 1) (tf A1 13)) 0))), some (.int (nI (0)))]) rfl ?_
      exact loop47 _ 0 rfl (Nat.zero_le _)
    refine VR.blk h [(.aload_n 0, 1), (.iload_n 1, 1)] (by decide +kernel) (pc' := 25) (ls' := [some (.ref am), some (.int (nI ((tf A1 38) - 1))), none, none]) (st' := [.int (nI ((tf A1 38) - 1)), .ref am]) rfl rfl (Nat.le_of_ble_eq_true rfl) ?_
    refine VR.call h (np := 1) (st := []) (r_isOnce hls A1 (tf A1 38 - 1) K (by omega) hm hlo hB (by omega)) wc_X11_isOnce wn_RX11 (Or.inl wm_RX11_295) wi_X11_isOnce we_X11_isOnce (by decide +kernel) rfl (by decide) (by decide) (by simp [Value.category]) (by decide +kernel) rfl ?_
    refine VR.if_eq h (off := 15) (by decide +kernel) (tgt := 43) (by decide) (fun q => ?_) (fun q => ?_)
    · have q28_99 := (bI_0.mp q)
      clear q
      refine VR.blk h [(.iconst 0, 1)] (by decide +kernel) (pc' := 44) (ls' := [some (.ref am), some (.int (nI ((tf A1 38) - 1))), none, none]) (st' := [.int (nI (0))]) rfl rfl (Nat.le_of_ble_eq_true rfl) ?_
      refine VR.top (v' := .int (bI false)) (by rw [bI_f]) ?_
      exact join44 _ (by first | (simp [q18_13, q28_99]; done) | (simp [q18_13, q28_99]; omega))
    · have q28_99 := (bI_1 (fun z => q (bI_0.mpr z)))
      clear q
      refine VR.blk h [(.aload_n 0, 1), (.iload_n 1, 1)] (by decide +kernel) (pc' := 33) (ls' := [some (.ref am), some (.int (nI ((tf A1 38) - 1))), none, none]) (st' := [.int (nI ((tf A1 38) - 1)), .ref am]) rfl rfl (Nat.le_of_ble_eq_true rfl) ?_
      refine VR.call h (np := 1) (st := []) (r_areInOrder hls A1 (tf A1 38 - 1) K (by omega) hm hn13 hB (by omega)) wc_X11_areInOrder wn_RX11 (Or.inl wm_RX11_298) wi_X11_areInOrder we_X11_areInOrder (by decide +kernel) rfl (by decide) (by decide) (by simp [Value.category]) (by decide +kernel) rfl ?_
      refine VR.if_eq h (off := 7) (by decide +kernel) (tgt := 43) (by decide) (fun q => ?_) (fun q => ?_)
      · have q36_109 := (bI_0.mp q)
        clear q
        refine VR.blk h [(.iconst 0, 1)] (by decide +kernel) (pc' := 44) (ls' := [some (.ref am), some (.int (nI ((tf A1 38) - 1))), none, none]) (st' := [.int (nI (0))]) rfl rfl (Nat.le_of_ble_eq_true rfl) ?_
        refine VR.top (v' := .int (bI false)) (by rw [bI_f]) ?_
        exact join44 _ (by first | (simp [q18_13, q28_99, q36_109]; done) | (simp [q18_13, q28_99, q36_109]; omega))
      · have q36_109 := (bI_1 (fun z => q (bI_0.mpr z)))
        clear q
        refine VR.blk h [(.iconst 1, 1)] (by decide +kernel) (pc' := 40) (ls' := [some (.ref am), some (.int (nI ((tf A1 38) - 1))), none, none]) (st' := [.int (nI (1))]) rfl rfl (Nat.le_of_ble_eq_true rfl) ?_
        refine VR.goto h (off := 4) (tgt := 44) (by decide +kernel) (by decide) ?_
        refine VR.top (v' := .int (bI true)) (by rw [bI_t]) ?_
        exact join44 _ (by first | (simp [q18_13, q28_99, q36_109]; done) | (simp [q18_13, q28_99, q36_109]; omega))
  · have q18_13 := (bI_0.mp q)
    clear q
    refine VR.blk h [(.iconst 0, 1)] (by decide +kernel) (pc' := 22) (ls' := [some (.ref am), some (.int (nI ((tf A1 38) - 1))), none, none]) (st' := [.int (nI (0))]) rfl rfl (Nat.le_of_ble_eq_true rfl) ?_
    exact VR.iret h hA hQ hr rfl (by rw [audF_d q18_13]) rfl (by decide +kernel)

set_option maxRecDepth 100000 in
set_option maxHeartbeats 4000000 in
theorem r_near {l : Launch} {D : va_G} {tc : Nat → ClassId} {am : Nat} {ad : Nat → Nat} (hls : l.stackTraces = false) (A : TS) (x : Int32) (lo hi : Nat) (hl0 : lo < 2 ^ 31) : RM l D tc am ad yX11_near cX11_near 3 (some .int) 0 [.int (x), .int (nI (lo)), .int (nI (hi))] A (some (.int (nI (nrF x lo hi)))) (A) := by
  refine RM.of hls (by decide +kernel) (by simp [Value.category]) (Nat.le_of_ble_eq_true rfl) (fun A0 p e9 s m args below meth c S0 sz Q h hr hA hQ => ?_)
  refine VR.eqL (ls' := [some (.int (x)), some (.int (nI (lo))), some (.int (nI (hi)))]) rfl ?_
  refine VR.blk h [(.iload_n 0, 1), (.iload_n 1, 1)] (by decide +kernel) (pc' := 2) (ls' := [some (.int (x)), some (.int (nI (lo))), some (.int (nI (hi)))]) (st' := [.int (nI (lo)), .int (x)]) rfl rfl (Nat.le_of_ble_eq_true rfl) ?_
  refine VR.icmp_ge h (off := 7) (by decide +kernel) (tgt := 9) (by decide) (fun q => ?_) (fun q => ?_)
  · have q2_2 := q
    clear q
    refine VR.blk h [(.iload_n 0, 1), (.iload_n 2, 1)] (by decide +kernel) (pc' := 11) (ls' := [some (.int (x)), some (.int (nI (lo))), some (.int (nI (hi)))]) (st' := [.int (nI (hi)), .int (x)]) rfl rfl (Nat.le_of_ble_eq_true rfl) ?_
    refine VR.icmp_le h (off := 7) (by decide +kernel) (tgt := 18) (by decide) (fun q => ?_) (fun q => ?_)
    · have q11_6 := q
      clear q
      refine VR.blk h [(.iload_n 0, 1)] (by decide +kernel) (pc' := 19) (ls' := [some (.int (x)), some (.int (nI (lo))), some (.int (nI (hi)))]) (st' := [.int (x)]) rfl rfl (Nat.le_of_ble_eq_true rfl) ?_
      exact VR.iret h hA hQ hr rfl (by rw [nrF_3 hl0 (i32_le.mp q2_2) (i32_le.mp q11_6)]) rfl (by decide +kernel)
    · have q11_6 := q
      clear q
      refine VR.blk h [(.iload_n 2, 1)] (by decide +kernel) (pc' := 15) (ls' := [some (.int (x)), some (.int (nI (lo))), some (.int (nI (hi)))]) (st' := [.int (nI (hi))]) rfl rfl (Nat.le_of_ble_eq_true rfl) ?_
      refine VR.goto h (off := 4) (tgt := 19) (by decide +kernel) (by decide) ?_
      exact VR.iret h hA hQ hr rfl (by rw [nrF_2 (i32_le.mp q2_2) (i32_lt q11_6)]) rfl (by decide +kernel)
  · have q2_2 := q
    clear q
    refine VR.blk h [(.iload_n 1, 1)] (by decide +kernel) (pc' := 6) (ls' := [some (.int (x)), some (.int (nI (lo))), some (.int (nI (hi)))]) (st' := [.int (nI (lo))]) rfl rfl (Nat.le_of_ble_eq_true rfl) ?_
    refine VR.goto h (off := 13) (tgt := 19) (by decide +kernel) (by decide) ?_
    exact VR.iret h hA hQ hr rfl (by rw [nrF_1 (i32_lt q2_2)]) rfl (by decide +kernel)
