set_option maxRecDepth 100000 in
set_option maxHeartbeats 4000000 in
theorem r_readsGc {l : Launch} {D : va_G} {tc : Nat → ClassId} {am : Nat} {ad : Nat → Nat} (hls : l.stackTraces = false) (A : TS) (w e n K : Nat) (hw : w < 3) (hm : tn A 44 w ≤ 16) (hrec : ∀ k, k < tn A 44 w → tn A 43 (16 * w + k) < 600) (he : e < 12) (hm6 : tn A 26 e ≤ 600) (hn : n ≤ K) (hK9 : 7300 ≤ K) (hB : NB K A) (hK : K < 1999990000) : RM l D tc am ad yX11_readsGc cX11_readsGc 8 (none) 1 [.ref am, .int (nI (w)), .int (nI (e)), .int (nI (n))] A (none) (gcF A w e n) := by
  refine RM.of hls (by decide +kernel) (by simp [Value.category]) (Nat.le_of_ble_eq_true rfl) (fun A0 p e9 s m args below meth c S0 sz Q h hr hA hQ => ?_)
  refine VR.eqL (ls' := [some (.ref am), some (.int (nI (w))), some (.int (nI (e))), some (.int (nI (n))), none, none, none, none]) rfl ?_
  refine VR.blk h [(.aload_n 0, 1)] (by decide +kernel) (pc' := 1) (ls' := [some (.ref am), some (.int (nI (w))), some (.int (nI (e))), some (.int (nI (n))), none, none, none, none]) (st' := [.ref am]) rfl rfl (Nat.le_of_ble_eq_true rfl) ?_
  refine VR.getA h (j := 41) rfl (Or.inl wf_RX11_111) (by decide +kernel) ?_
  refine VR.blk h [(.iload_n 1, 1)] (by decide +kernel) (pc' := 5) (ls' := [some (.ref am), some (.int (nI (w))), some (.int (nI (e))), some (.int (nI (n))), none, none, none, none]) (st' := [.int (nI (w)), .ref (ad 41)]) rfl rfl (Nat.le_of_ble_eq_true rfl) ?_
  refine VR.iald h (j := 41) (i := w) rfl rfl (by show _ < 3; omega) (by decide +kernel) (v := (nI (tn A 41 w))) (mval_1 rfl) ?_
  have nb5 := hB.2 41 w
  refine VR.blk h [(.iload_n 2, 1)] (by decide +kernel) (pc' := 7) (ls' := [some (.ref am), some (.int (nI (w))), some (.int (nI (e))), some (.int (nI (n))), none, none, none, none]) (st' := [.int (nI (e)), .int (nI (tn A 41 w))]) rfl rfl (Nat.le_of_ble_eq_true rfl) ?_
  refine VR.icmp_eq h (off := 4) (by decide +kernel) (tgt := 11) (by decide) (fun q => ?_) (fun q => ?_)
  · have q7_7 := ((nI_eq (by omega) (by omega)).mp q)
    clear q
    refine VR.blk h [(.iconst 0, 1), (.istore 4, 2), (.iconst 0, 1), (.istore 5, 2)] (by decide +kernel) (pc' := 17) (ls' := [some (.ref am), some (.int (nI (w))), some (.int (nI (e))), some (.int (nI (n))), some (.int (nI (0))), some (.int (nI (0))), none, none]) (st' := []) rfl rfl (Nat.le_of_ble_eq_true rfl) ?_
    have loop17 : ∀ (t k : Nat), tn A 44 w - k = t → k ≤ tn A 44 w → VR l D tc A0 p e9 (rmd 1 0 0) s m args below meth c 8 Q am ad ((gcL A w e n k).1) 17 [some (.ref am), some (.int (nI (w))), some (.int (nI (e))), some (.int (nI (n))), some (.int (nI ((gcL A w e n k).2))), some (.int (nI (k))), none, none] [] := by
      intro t; induction t using Nat.strongRecOn with
      | _ t ih17 =>
        intro k ht17 hk17
        have hBG := gcL_NB (w := w) (e := e) (n := n) hB k
        have F := gcL_inv A w e n k
        rcases hGL : gcL A w e n k with ⟨G, L⟩
        rw [hGL] at F hBG; dsimp only at F hBG ⊢
        obtain ⟨F0, F1, F2, F3, F4, F5⟩ := F
        have hplG := placeF_le G e (tn G 43 (16 * w + k))
        have F44 := F2 44 w (by decide)
        have F26 := F2 26 e (by decide)
        have F43 := F3 (16 * w + k) (by omega)
        refine VR.blk h [(.iload 5, 2), (.aload_n 0, 1)] (by decide +kernel) (pc' := 20) (ls' := [some (.ref am), some (.int (nI (w))), some (.int (nI (e))), some (.int (nI (n))), some (.int (nI (L))), some (.int (nI (k))), none, none]) (st' := [.ref am, .int (nI (k))]) rfl rfl (Nat.le_of_ble_eq_true rfl) ?_
        refine VR.getA h (j := 44) rfl (Or.inl wf_RX11_120) (by decide +kernel) ?_
        refine VR.blk h [(.iload_n 1, 1)] (by decide +kernel) (pc' := 24) (ls' := [some (.ref am), some (.int (nI (w))), some (.int (nI (e))), some (.int (nI (n))), some (.int (nI (L))), some (.int (nI (k))), none, none]) (st' := [.int (nI (w)), .ref (ad 44), .int (nI (k))]) rfl rfl (Nat.le_of_ble_eq_true rfl) ?_
        refine VR.iald h (j := 44) (i := w) rfl rfl (by show _ < 3; omega) (by decide +kernel) (v := (nI (tn G 44 w))) (mval_1 rfl) ?_
        have nb28 := hBG.2 44 w
        refine VR.icmp_ge h (off := 63) (by decide +kernel) (tgt := 88) (by decide) (fun q => ?_) (fun q => ?_)
        · have q25_29 := ((nI_leI (by omega) (by omega)).mp q)
          clear q
          refine VR.blk h [(.aload_n 0, 1)] (by decide +kernel) (pc' := 89) (ls' := [some (.ref am), some (.int (nI (w))), some (.int (nI (e))), some (.int (nI (n))), some (.int (nI (L))), some (.int (nI (k))), none, none]) (st' := [.ref am]) rfl rfl (Nat.le_of_ble_eq_true rfl) ?_
          refine VR.getA h (j := 44) rfl (Or.inl wf_RX11_120) (by decide +kernel) ?_
          refine VR.blk h [(.iload_n 1, 1), (.iload 4, 2)] (by decide +kernel) (pc' := 95) (ls' := [some (.ref am), some (.int (nI (w))), some (.int (nI (e))), some (.int (nI (n))), some (.int (nI (L))), some (.int (nI (k))), none, none]) (st' := [.int (nI (L)), .int (nI (w)), .ref (ad 44)]) rfl rfl (Nat.le_of_ble_eq_true rfl) ?_
          refine VR.iastN h (j := 44) (i := w) rfl rfl (by show _ < 3; omega) (by decide +kernel) ?_
          exact VR.vret h hA hQ hr rfl (by obtain rfl : k = tn A 44 w := (by omega); rw [gcF, if_pos q7_7, hGL]) (by decide +kernel)
        · have q25_29 : ¬ _ := (fun z => q ((nI_leI (by omega) (by omega)).mpr z))
          clear q
          refine VR.blk h [(.aload_n 0, 1)] (by decide +kernel) (pc' := 29) (ls' := [some (.ref am), some (.int (nI (w))), some (.int (nI (e))), some (.int (nI (n))), some (.int (nI (L))), some (.int (nI (k))), none, none]) (st' := [.ref am]) rfl rfl (Nat.le_of_ble_eq_true rfl) ?_
          refine VR.getA h (j := 43) rfl (Or.inl wf_RX11_117) (by decide +kernel) ?_
          refine VR.blk h [(.bipush 16, 2), (.iload_n 1, 1)] (by decide +kernel) (pc' := 35) (ls' := [some (.ref am), some (.int (nI (w))), some (.int (nI (e))), some (.int (nI (n))), some (.int (nI (L))), some (.int (nI (k))), none, none]) (st' := [.int (nI (w)), .int (nI (16)), .ref (ad 43)]) rfl rfl (Nat.le_of_ble_eq_true rfl) ?_
          refine VR.mulN h (by decide +kernel) (Nat.le_of_ble_eq_true rfl) ?_
          refine VR.blk h [(.iload 5, 2)] (by decide +kernel) (pc' := 38) (ls' := [some (.ref am), some (.int (nI (w))), some (.int (nI (e))), some (.int (nI (n))), some (.int (nI (L))), some (.int (nI (k))), none, none]) (st' := [.int (nI (k)), .int (nI (16 * w)), .ref (ad 43)]) rfl rfl (Nat.le_of_ble_eq_true rfl) ?_
          refine VR.addN h (by decide +kernel) (Nat.le_of_ble_eq_true rfl) ?_
          have hop := hrec k (by omega)
          refine VR.iald h (j := 43) (i := (16 * w) + k) rfl rfl (by show _ < 48; omega) (by decide +kernel) (v := (nI (tn G 43 ((16 * w) + k)))) (mval_1 rfl) ?_
          have nb47 := hBG.2 43 ((16 * w) + k)
          refine VR.blk h [(.istore 6, 2), (.aload_n 0, 1), (.iload_n 2, 1), (.iload 6, 2)] (by decide +kernel) (pc' := 46) (ls' := [some (.ref am), some (.int (nI (w))), some (.int (nI (e))), some (.int (nI (n))), some (.int (nI (L))), some (.int (nI (k))), some (.int (nI (tn G 43 ((16 * w) + k)))), none]) (st' := [.int (nI (tn G 43 ((16 * w) + k))), .int (nI (e)), .ref am]) rfl rfl (Nat.le_of_ble_eq_true rfl) ?_
          refine VR.call h (np := 2) (st := []) (r_place hls G e (tn G 43 (16 * w + k)) K he (by omega) hBG (by omega) (by omega)) wc_X11_place wn_RX11 (Or.inl wm_RX11_183) wi_X11_place we_X11_place (by decide +kernel) rfl (by decide) (by decide) (by simp [Value.category]) (by decide +kernel) rfl ?_
          refine VR.blk h [(.istore 7, 2), (.iload 7, 2)] (by decide +kernel) (pc' := 53) (ls' := [some (.ref am), some (.int (nI (w))), some (.int (nI (e))), some (.int (nI (n))), some (.int (nI (L))), some (.int (nI (k))), some (.int (nI (tn G 43 ((16 * w) + k)))), some (.int (oI (placeF G e (tn G 43 (16 * w + k)))))]) (st' := [.int (oI (placeF G e (tn G 43 (16 * w + k))))]) rfl rfl (Nat.le_of_ble_eq_true rfl) ?_
          refine VR.if_lt h (off := 12) (by decide +kernel) (tgt := 65) (by decide) (fun q => ?_) (fun q => ?_)
          · have q53_51 := ((oI_neg (by omega)).mp q)
            clear q
            refine VR.blk h [(.aload_n 0, 1)] (by decide +kernel) (pc' := 66) (ls' := [some (.ref am), some (.int (nI (w))), some (.int (nI (e))), some (.int (nI (n))), some (.int (nI (L))), some (.int (nI (k))), some (.int (nI (tn G 43 ((16 * w) + k)))), some (.int (oI (placeF G e (tn G 43 (16 * w + k)))))]) (st' := [.ref am]) rfl rfl (Nat.le_of_ble_eq_true rfl) ?_
            refine VR.getA h (j := 43) rfl (Or.inl wf_RX11_117) (by decide +kernel) ?_
            refine VR.blk h [(.bipush 16, 2), (.iload_n 1, 1)] (by decide +kernel) (pc' := 72) (ls' := [some (.ref am), some (.int (nI (w))), some (.int (nI (e))), some (.int (nI (n))), some (.int (nI (L))), some (.int (nI (k))), some (.int (nI (tn G 43 ((16 * w) + k)))), some (.int (oI (placeF G e (tn G 43 (16 * w + k)))))]) (st' := [.int (nI (w)), .int (nI (16)), .ref (ad 43)]) rfl rfl (Nat.le_of_ble_eq_true rfl) ?_
            refine VR.mulN h (by decide +kernel) (Nat.le_of_ble_eq_true rfl) ?_
            refine VR.blk h [(.iload 4, 2)] (by decide +kernel) (pc' := 75) (ls' := [some (.ref am), some (.int (nI (w))), some (.int (nI (e))), some (.int (nI (n))), some (.int (nI (L))), some (.int (nI (k))), some (.int (nI (tn G 43 ((16 * w) + k)))), some (.int (oI (placeF G e (tn G 43 (16 * w + k)))))]) (st' := [.int (nI (L)), .int (nI (16 * w)), .ref (ad 43)]) rfl rfl (Nat.le_of_ble_eq_true rfl) ?_
            refine VR.addN h (by decide +kernel) (Nat.le_of_ble_eq_true rfl) ?_
            refine VR.blk h [(.iload 6, 2)] (by decide +kernel) (pc' := 78) (ls' := [some (.ref am), some (.int (nI (w))), some (.int (nI (e))), some (.int (nI (n))), some (.int (nI (L))), some (.int (nI (k))), some (.int (nI (tn G 43 ((16 * w) + k)))), some (.int (oI (placeF G e (tn G 43 (16 * w + k)))))]) (st' := [.int (nI (tn G 43 ((16 * w) + k))), .int (nI ((16 * w) + L)), .ref (ad 43)]) rfl rfl (Nat.le_of_ble_eq_true rfl) ?_
            refine VR.iastN h (j := 43) (i := (16 * w) + L) rfl rfl (by show _ < 48; omega) (by decide +kernel) ?_
            refine VR.incN h (x := L) (i := 4) (by decide +kernel) rfl (Nat.le_of_ble_eq_true rfl) ?_
            refine VR.eqL (ls' := [some (.ref am), some (.int (nI (w))), some (.int (nI (e))), some (.int (nI (n))), some (.int (nI (L + 1))), some (.int (nI (k))), some (.int (nI (tn G 43 ((16 * w) + k)))), some (.int (oI (placeF G e (tn G 43 (16 * w + k)))))]) rfl ?_
            refine VR.incN h (x := k) (i := 5) (by decide +kernel) rfl (Nat.le_of_ble_eq_true rfl) ?_
            refine VR.eqL (ls' := [some (.ref am), some (.int (nI (w))), some (.int (nI (e))), some (.int (nI (n))), some (.int (nI (L + 1))), some (.int (nI (k + 1))), some (.int (nI (tn G 43 ((16 * w) + k)))), some (.int (oI (placeF G e (tn G 43 (16 * w + k)))))]) rfl ?_
            refine VR.goto h (off := -68) (tgt := 17) (by decide +kernel) (by decide) ?_
            refine VR.eqA (A' := ((gcL A w e n ((k + 1))).1)) (by rw [gcL, hGL]; unfold gcS; dsimp only; rw [if_neg (by omega)]) ?_
            refine VR.drop 6 (ls' := [some (.ref am), some (.int (nI (w))), some (.int (nI (e))), some (.int (nI (n))), some (.int (nI (L + 1))), some (.int (nI (k + 1))), none, some (.int (oI (placeF G e (tn G 43 (16 * w + k)))))]) rfl ?_
            refine VR.drop 7 (ls' := [some (.ref am), some (.int (nI (w))), some (.int (nI (e))), some (.int (nI (n))), some (.int (nI (L + 1))), some (.int (nI (k + 1))), none, none]) rfl ?_
            refine VR.eqL (ls' := [some (.ref am), some (.int (nI (w))), some (.int (nI (e))), some (.int (nI (n))), some (.int (nI ((gcL A w e n ((k + 1))).2))), some (.int (nI ((k + 1)))), none, none]) (by rw [gcL, hGL]; unfold gcS; dsimp only; rw [if_neg (by omega)]) ?_
            exact ih17 (tn A 44 w - (k + 1)) (by omega) (k + 1) rfl (by omega)
          · have q53_51 : ¬ _ := (fun z => q ((oI_neg (by omega)).mpr z))
            clear q
            refine VR.blk h [(.iload 7, 2), (.iload_n 3, 1)] (by decide +kernel) (pc' := 59) (ls' := [some (.ref am), some (.int (nI (w))), some (.int (nI (e))), some (.int (nI (n))), some (.int (nI (L))), some (.int (nI (k))), some (.int (nI (tn G 43 ((16 * w) + k)))), some (.int (oI (placeF G e (tn G 43 (16 * w + k)))))]) (st' := [.int (nI (n)), .int (oI (placeF G e (tn G 43 (16 * w + k))))]) rfl rfl (Nat.le_of_ble_eq_true rfl) ?_
            refine VR.icmp_ge h (off := 6) (by decide +kernel) (tgt := 65) (by decide) (fun q => ?_) (fun q => ?_)
            · have q59_75 := ((nI_leO (by omega) (by omega)).mp q)
              clear q
              refine VR.blk h [(.aload_n 0, 1)] (by decide +kernel) (pc' := 66) (ls' := [some (.ref am), some (.int (nI (w))), some (.int (nI (e))), some (.int (nI (n))), some (.int (nI (L))), some (.int (nI (k))), some (.int (nI (tn G 43 ((16 * w) + k)))), some (.int (oI (placeF G e (tn G 43 (16 * w + k)))))]) (st' := [.ref am]) rfl rfl (Nat.le_of_ble_eq_true rfl) ?_
              refine VR.getA h (j := 43) rfl (Or.inl wf_RX11_117) (by decide +kernel) ?_
              refine VR.blk h [(.bipush 16, 2), (.iload_n 1, 1)] (by decide +kernel) (pc' := 72) (ls' := [some (.ref am), some (.int (nI (w))), some (.int (nI (e))), some (.int (nI (n))), some (.int (nI (L))), some (.int (nI (k))), some (.int (nI (tn G 43 ((16 * w) + k)))), some (.int (oI (placeF G e (tn G 43 (16 * w + k)))))]) (st' := [.int (nI (w)), .int (nI (16)), .ref (ad 43)]) rfl rfl (Nat.le_of_ble_eq_true rfl) ?_
              refine VR.mulN h (by decide +kernel) (Nat.le_of_ble_eq_true rfl) ?_
              refine VR.blk h [(.iload 4, 2)] (by decide +kernel) (pc' := 75) (ls' := [some (.ref am), some (.int (nI (w))), some (.int (nI (e))), some (.int (nI (n))), some (.int (nI (L))), some (.int (nI (k))), some (.int (nI (tn G 43 ((16 * w) + k)))), some (.int (oI (placeF G e (tn G 43 (16 * w + k)))))]) (st' := [.int (nI (L)), .int (nI (16 * w)), .ref (ad 43)]) rfl rfl (Nat.le_of_ble_eq_true rfl) ?_
              refine VR.addN h (by decide +kernel) (Nat.le_of_ble_eq_true rfl) ?_
              refine VR.blk h [(.iload 6, 2)] (by decide +kernel) (pc' := 78) (ls' := [some (.ref am), some (.int (nI (w))), some (.int (nI (e))), some (.int (nI (n))), some (.int (nI (L))), some (.int (nI (k))), some (.int (nI (tn G 43 ((16 * w) + k)))), some (.int (oI (placeF G e (tn G 43 (16 * w + k)))))]) (st' := [.int (nI (tn G 43 ((16 * w) + k))), .int (nI ((16 * w) + L)), .ref (ad 43)]) rfl rfl (Nat.le_of_ble_eq_true rfl) ?_
              refine VR.iastN h (j := 43) (i := (16 * w) + L) rfl rfl (by show _ < 48; omega) (by decide +kernel) ?_
              refine VR.incN h (x := L) (i := 4) (by decide +kernel) rfl (Nat.le_of_ble_eq_true rfl) ?_
              refine VR.eqL (ls' := [some (.ref am), some (.int (nI (w))), some (.int (nI (e))), some (.int (nI (n))), some (.int (nI (L + 1))), some (.int (nI (k))), some (.int (nI (tn G 43 ((16 * w) + k)))), some (.int (oI (placeF G e (tn G 43 (16 * w + k)))))]) rfl ?_
              refine VR.incN h (x := k) (i := 5) (by decide +kernel) rfl (Nat.le_of_ble_eq_true rfl) ?_
              refine VR.eqL (ls' := [some (.ref am), some (.int (nI (w))), some (.int (nI (e))), some (.int (nI (n))), some (.int (nI (L + 1))), some (.int (nI (k + 1))), some (.int (nI (tn G 43 ((16 * w) + k)))), some (.int (oI (placeF G e (tn G 43 (16 * w + k)))))]) rfl ?_
              refine VR.goto h (off := -68) (tgt := 17) (by decide +kernel) (by decide) ?_
              refine VR.eqA (A' := ((gcL A w e n ((k + 1))).1)) (by rw [gcL, hGL]; unfold gcS; dsimp only; rw [if_neg (by omega)]) ?_
              refine VR.drop 6 (ls' := [some (.ref am), some (.int (nI (w))), some (.int (nI (e))), some (.int (nI (n))), some (.int (nI (L + 1))), some (.int (nI (k + 1))), none, some (.int (oI (placeF G e (tn G 43 (16 * w + k)))))]) rfl ?_
              refine VR.drop 7 (ls' := [some (.ref am), some (.int (nI (w))), some (.int (nI (e))), some (.int (nI (n))), some (.int (nI (L + 1))), some (.int (nI (k + 1))), none, none]) rfl ?_
              refine VR.eqL (ls' := [some (.ref am), some (.int (nI (w))), some (.int (nI (e))), some (.int (nI (n))), some (.int (nI ((gcL A w e n ((k + 1))).2))), some (.int (nI ((k + 1)))), none, none]) (by rw [gcL, hGL]; unfold gcS; dsimp only; rw [if_neg (by omega)]) ?_
              exact ih17 (tn A 44 w - (k + 1)) (by omega) (k + 1) rfl (by omega)
            · have q59_75 : ¬ _ := (fun z => q ((nI_leO (by omega) (by omega)).mpr z))
              clear q
              refine VR.goto h (off := 20) (tgt := 82) (by decide +kernel) (by decide) ?_
              refine VR.incN h (x := k) (i := 5) (by decide +kernel) rfl (Nat.le_of_ble_eq_true rfl) ?_
              refine VR.eqL (ls' := [some (.ref am), some (.int (nI (w))), some (.int (nI (e))), some (.int (nI (n))), some (.int (nI (L))), some (.int (nI (k + 1))), some (.int (nI (tn G 43 ((16 * w) + k)))), some (.int (oI (placeF G e (tn G 43 (16 * w + k)))))]) rfl ?_
              refine VR.goto h (off := -68) (tgt := 17) (by decide +kernel) (by decide) ?_
              refine VR.eqA (A' := ((gcL A w e n ((k + 1))).1)) (by rw [gcL, hGL]; unfold gcS; dsimp only; rw [if_pos ⟨(by omega), (by omega)⟩]) ?_
              refine VR.drop 6 (ls' := [some (.ref am), some (.int (nI (w))), some (.int (nI (e))), some (.int (nI (n))), some (.int (nI (L))), some (.int (nI (k + 1))), none, some (.int (oI (placeF G e (tn G 43 (16 * w + k)))))]) rfl ?_
              refine VR.drop 7 (ls' := [some (.ref am), some (.int (nI (w))), some (.int (nI (e))), some (.int (nI (n))), some (.int (nI (L))), some (.int (nI (k + 1))), none, none]) rfl ?_
              refine VR.eqL (ls' := [some (.ref am), some (.int (nI (w))), some (.int (nI (e))), some (.int (nI (n))), some (.int (nI ((gcL A w e n ((k + 1))).2))), some (.int (nI ((k + 1)))), none, none]) (by rw [gcL, hGL]; unfold gcS; dsimp only; rw [if_pos ⟨(by omega), (by omega)⟩]) ?_
              exact ih17 (tn A 44 w - (k + 1)) (by omega) (k + 1) rfl (by omega)
    refine VR.eqA (A' := ((gcL A w e n 0).1)) rfl ?_
    refine VR.eqL (ls' := [some (.ref am), some (.int (nI (w))), some (.int (nI (e))), some (.int (nI (n))), some (.int (nI ((gcL A w e n 0).2))), some (.int (nI (0))), none, none]) rfl ?_
    exact loop17 _ 0 rfl (Nat.zero_le _)
  · have q7_7 : ¬ _ := (fun z => q ((nI_eq (by omega) (by omega)).mpr z))
    clear q
    exact VR.vret h hA hQ hr rfl (by rw [gcF, if_neg q7_7]) (by decide +kernel)

set_option maxRecDepth 100000 in
set_option maxHeartbeats 4000000 in
theorem r_takes {l : Launch} {D : va_G} {tc : Nat → ClassId} {am : Nat} {ad : Nat → Nat} (hls : l.stackTraces = false) (A : TS) (k9 K : Nat) (hk9 : k9 < tf A 53) (hl : tf A 53 ≤ 250) (hB : NB K A) (hK : K < 2000000000) : RM l D tc am ad yX11_takes cX11_takes 3 (none) 0 [.ref am, .int (nI (k9))] A (none) (tkF A k9) := by
  refine RM.of hls (by decide +kernel) (by simp [Value.category]) (Nat.le_of_ble_eq_true rfl) (fun A0 p e9 s m args below meth c S0 sz Q h hr hA hQ => ?_)
  refine VR.eqL (ls' := [some (.ref am), some (.int (nI (k9))), none]) rfl ?_
  refine VR.blk h [(.aload_n 0, 1), (.dup, 1)] (by decide +kernel) (pc' := 2) (ls' := [some (.ref am), some (.int (nI (k9))), none]) (st' := [.ref am, .ref am]) rfl rfl (Nat.le_of_ble_eq_true rfl) ?_
  refine VR.getI h (j := 53) rfl (Or.inl wf_RX11_170) (by decide +kernel) (v := tf A 53) rfl ?_
  refine VR.blk h [(.iconst 1, 1)] (by decide +kernel) (pc' := 6) (ls' := [some (.ref am), some (.int (nI (k9))), none]) (st' := [.int (nI (1)), .int (nI (tf A 53)), .ref am]) rfl rfl (Nat.le_of_ble_eq_true rfl) ?_
  refine VR.subN h (by decide +kernel) (Nat.le_of_ble_eq_true rfl) (by omega) ?_
  refine VR.putI h (j := 53) rfl rfl rfl (Or.inl wf_RX11_170) (by decide +kernel) ?_
  refine VR.blk h [(.iload_n 1, 1), (.istore_n 2, 1)] (by decide +kernel) (pc' := 12) (ls' := [some (.ref am), some (.int (nI (k9))), some (.int (nI (k9)))]) (st' := []) rfl rfl (Nat.le_of_ble_eq_true rfl) ?_
  have loop12 : ∀ (t k : Nat), (tf A 53 - 1 - k9) - k = t → k ≤ (tf A 53 - 1 - k9) → VR l D tc A0 p e9 (rmd 0 0 0) s m args below meth c 3 Q am ad (tkL A k9 k) 12 [some (.ref am), some (.int (nI (k9))), some (.int (nI (k9 + k)))] [] := by
    intro t; induction t using Nat.strongRecOn with
    | _ t ih12 =>
      intro k ht12 hk12
      have hBG := tkL_NB (k := k9) hB k
      have F := tkL_keep A k9 k
      generalize hG : tkL A k9 k = G at F hBG ⊢
      obtain ⟨F1, F2, F3, F4⟩ := F
      have F53 : tf G 53 = tf A 53 - 1 := F1 53
      refine VR.blk h [(.iload_n 2, 1), (.aload_n 0, 1)] (by decide +kernel) (pc' := 14) (ls' := [some (.ref am), some (.int (nI (k9))), some (.int (nI (k9 + k)))]) (st' := [.ref am, .int (nI (k9 + k))]) rfl rfl (Nat.le_of_ble_eq_true rfl) ?_
      refine VR.getI h (j := 53) rfl (Or.inl wf_RX11_170) (by decide +kernel) (v := tf G 53) rfl ?_
      refine VR.icmp_ge h (off := 121) (by decide +kernel) (tgt := 138) (by decide) (fun q => ?_) (fun q => ?_)
      · have q17_18 := ((nI_leI (by omega) (by omega)).mp q)
        clear q
        exact VR.vret h hA hQ hr rfl (by obtain rfl : k = tf A 53 - 1 - k9 := (by omega); rw [tkF, hG]) (by decide +kernel)
      · have q17_18 : ¬ _ := (fun z => q ((nI_leI (by omega) (by omega)).mpr z))
        clear q
        refine VR.blk h [(.aload_n 0, 1)] (by decide +kernel) (pc' := 21) (ls' := [some (.ref am), some (.int (nI (k9))), some (.int (nI (k9 + k)))]) (st' := [.ref am]) rfl rfl (Nat.le_of_ble_eq_true rfl) ?_
        refine VR.getA h (j := 45) rfl (Or.inl wf_RX11_123) (by decide +kernel) ?_
        refine VR.blk h [(.iload_n 2, 1), (.aload_n 0, 1)] (by decide +kernel) (pc' := 26) (ls' := [some (.ref am), some (.int (nI (k9))), some (.int (nI (k9 + k)))]) (st' := [.ref am, .int (nI (k9 + k)), .ref (ad 45)]) rfl rfl (Nat.le_of_ble_eq_true rfl) ?_
        refine VR.getA h (j := 45) rfl (Or.inl wf_RX11_123) (by decide +kernel) ?_
        refine VR.blk h [(.iload_n 2, 1), (.iconst 1, 1)] (by decide +kernel) (pc' := 31) (ls' := [some (.ref am), some (.int (nI (k9))), some (.int (nI (k9 + k)))]) (st' := [.int (nI (1)), .int (nI (k9 + k)), .ref (ad 45), .int (nI (k9 + k)), .ref (ad 45)]) rfl rfl (Nat.le_of_ble_eq_true rfl) ?_
        refine VR.addN h (by decide +kernel) (Nat.le_of_ble_eq_true rfl) ?_
        refine VR.iald h (j := 45) (i := (k9 + k) + 1) rfl rfl (by show _ < 250; omega) (by decide +kernel) (v := (nI (tn G 45 ((k9 + k) + 1)))) (mval_1 rfl) ?_
        have nb31 := hBG.2 45 ((k9 + k) + 1)
        refine VR.iastN h (j := 45) (i := k9 + k) rfl rfl (by show _ < 250; omega) (by decide +kernel) ?_
        refine VR.blk h [(.aload_n 0, 1)] (by decide +kernel) (pc' := 35) (ls' := [some (.ref am), some (.int (nI (k9))), some (.int (nI (k9 + k)))]) (st' := [.ref am]) rfl rfl (Nat.le_of_ble_eq_true rfl) ?_
        refine VR.getA h (j := 46) rfl (Or.inl wf_RX11_126) (by decide +kernel) ?_
        refine VR.blk h [(.iload_n 2, 1), (.aload_n 0, 1)] (by decide +kernel) (pc' := 40) (ls' := [some (.ref am), some (.int (nI (k9))), some (.int (nI (k9 + k)))]) (st' := [.ref am, .int (nI (k9 + k)), .ref (ad 46)]) rfl rfl (Nat.le_of_ble_eq_true rfl) ?_
        refine VR.getA h (j := 46) rfl (Or.inl wf_RX11_126) (by decide +kernel) ?_
        refine VR.blk h [(.iload_n 2, 1), (.iconst 1, 1)] (by decide +kernel) (pc' := 45) (ls' := [some (.ref am), some (.int (nI (k9))), some (.int (nI (k9 + k)))]) (st' := [.int (nI (1)), .int (nI (k9 + k)), .ref (ad 46), .int (nI (k9 + k)), .ref (ad 46)]) rfl rfl (Nat.le_of_ble_eq_true rfl) ?_
        refine VR.addN h (by decide +kernel) (Nat.le_of_ble_eq_true rfl) ?_
        refine VR.iald h (j := 46) (i := (k9 + k) + 1) rfl rfl (by show _ < 250; omega) (by decide +kernel) (v := (nI (tn G 46 ((k9 + k) + 1)))) (mval_1 rfl) ?_
        have nb40 := hBG.2 46 ((k9 + k) + 1)
        refine VR.iastN h (j := 46) (i := k9 + k) rfl rfl (by show _ < 250; omega) (by decide +kernel) ?_
        refine VR.blk h [(.aload_n 0, 1)] (by decide +kernel) (pc' := 49) (ls' := [some (.ref am), some (.int (nI (k9))), some (.int (nI (k9 + k)))]) (st' := [.ref am]) rfl rfl (Nat.le_of_ble_eq_true rfl) ?_
        refine VR.getA h (j := 47) rfl (Or.inl wf_RX11_129) (by decide +kernel) ?_
        refine VR.blk h [(.iload_n 2, 1), (.aload_n 0, 1)] (by decide +kernel) (pc' := 54) (ls' := [some (.ref am), some (.int (nI (k9))), some (.int (nI (k9 + k)))]) (st' := [.ref am, .int (nI (k9 + k)), .ref (ad 47)]) rfl rfl (Nat.le_of_ble_eq_true rfl) ?_
        refine VR.getA h (j := 47) rfl (Or.inl wf_RX11_129) (by decide +kernel) ?_
        refine VR.blk h [(.iload_n 2, 1), (.iconst 1, 1)] (by decide +kernel) (pc' := 59) (ls' := [some (.ref am), some (.int (nI (k9))), some (.int (nI (k9 + k)))]) (st' := [.int (nI (1)), .int (nI (k9 + k)), .ref (ad 47), .int (nI (k9 + k)), .ref (ad 47)]) rfl rfl (Nat.le_of_ble_eq_true rfl) ?_
        refine VR.addN h (by decide +kernel) (Nat.le_of_ble_eq_true rfl) ?_
        refine VR.iald h (j := 47) (i := (k9 + k) + 1) rfl rfl (by show _ < 250; omega) (by decide +kernel) (v := (nI (tn G 47 ((k9 + k) + 1)))) (mval_1 rfl) ?_
        have nb49 := hBG.2 47 ((k9 + k) + 1)
        refine VR.iastN h (j := 47) (i := k9 + k) rfl rfl (by show _ < 250; omega) (by decide +kernel) ?_
        refine VR.blk h [(.aload_n 0, 1)] (by decide +kernel) (pc' := 63) (ls' := [some (.ref am), some (.int (nI (k9))), some (.int (nI (k9 + k)))]) (st' := [.ref am]) rfl rfl (Nat.le_of_ble_eq_true rfl) ?_
        refine VR.getA h (j := 48) rfl (Or.inl wf_RX11_132) (by decide +kernel) ?_
        refine VR.blk h [(.iload_n 2, 1), (.aload_n 0, 1)] (by decide +kernel) (pc' := 68) (ls' := [some (.ref am), some (.int (nI (k9))), some (.int (nI (k9 + k)))]) (st' := [.ref am, .int (nI (k9 + k)), .ref (ad 48)]) rfl rfl (Nat.le_of_ble_eq_true rfl) ?_
        refine VR.getA h (j := 48) rfl (Or.inl wf_RX11_132) (by decide +kernel) ?_
        refine VR.blk h [(.iload_n 2, 1), (.iconst 1, 1)] (by decide +kernel) (pc' := 73) (ls' := [some (.ref am), some (.int (nI (k9))), some (.int (nI (k9 + k)))]) (st' := [.int (nI (1)), .int (nI (k9 + k)), .ref (ad 48), .int (nI (k9 + k)), .ref (ad 48)]) rfl rfl (Nat.le_of_ble_eq_true rfl) ?_
        refine VR.addN h (by decide +kernel) (Nat.le_of_ble_eq_true rfl) ?_
        refine VR.iald h (j := 48) (i := (k9 + k) + 1) rfl rfl (by show _ < 250; omega) (by decide +kernel) (v := (oI (tn G 48 ((k9 + k) + 1)))) (mval_2 rfl) ?_
        have nb58 := hBG.2 48 ((k9 + k) + 1)
        refine VR.iastO h (j := 48) (i := k9 + k) rfl rfl (by show _ < 250; omega) (by decide +kernel) ?_
        refine VR.blk h [(.aload_n 0, 1)] (by decide +kernel) (pc' := 77) (ls' := [some (.ref am), some (.int (nI (k9))), some (.int (nI (k9 + k)))]) (st' := [.ref am]) rfl rfl (Nat.le_of_ble_eq_true rfl) ?_
        refine VR.getA h (j := 49) rfl (Or.inl wf_RX11_135) (by decide +kernel) ?_
        refine VR.blk h [(.iload_n 2, 1), (.aload_n 0, 1)] (by decide +kernel) (pc' := 82) (ls' := [some (.ref am), some (.int (nI (k9))), some (.int (nI (k9 + k)))]) (st' := [.ref am, .int (nI (k9 + k)), .ref (ad 49)]) rfl rfl (Nat.le_of_ble_eq_true rfl) ?_
        refine VR.getA h (j := 49) rfl (Or.inl wf_RX11_135) (by decide +kernel) ?_
        refine VR.blk h [(.iload_n 2, 1), (.iconst 1, 1)] (by decide +kernel) (pc' := 87) (ls' := [some (.ref am), some (.int (nI (k9))), some (.int (nI (k9 + k)))]) (st' := [.int (nI (1)), .int (nI (k9 + k)), .ref (ad 49), .int (nI (k9 + k)), .ref (ad 49)]) rfl rfl (Nat.le_of_ble_eq_true rfl) ?_
        refine VR.addN h (by decide +kernel) (Nat.le_of_ble_eq_true rfl) ?_
        refine VR.iald h (j := 49) (i := (k9 + k) + 1) rfl rfl (by show _ < 250; omega) (by decide +kernel) (v := (nI (tn G 49 ((k9 + k) + 1)))) (mval_1 rfl) ?_
        have nb67 := hBG.2 49 ((k9 + k) + 1)
        refine VR.iastN h (j := 49) (i := k9 + k) rfl rfl (by show _ < 250; omega) (by decide +kernel) ?_
        refine VR.blk h [(.aload_n 0, 1)] (by decide +kernel) (pc' := 91) (ls' := [some (.ref am), some (.int (nI (k9))), some (.int (nI (k9 + k)))]) (st' := [.ref am]) rfl rfl (Nat.le_of_ble_eq_true rfl) ?_
        refine VR.getA h (j := 50) rfl (Or.inl wf_RX11_138) (by decide +kernel) ?_
        refine VR.blk h [(.iload_n 2, 1), (.aload_n 0, 1)] (by decide +kernel) (pc' := 96) (ls' := [some (.ref am), some (.int (nI (k9))), some (.int (nI (k9 + k)))]) (st' := [.ref am, .int (nI (k9 + k)), .ref (ad 50)]) rfl rfl (Nat.le_of_ble_eq_true rfl) ?_
        refine VR.getA h (j := 50) rfl (Or.inl wf_RX11_138) (by decide +kernel) ?_
        refine VR.blk h [(.iload_n 2, 1), (.iconst 1, 1)] (by decide +kernel) (pc' := 101) (ls' := [some (.ref am), some (.int (nI (k9))), some (.int (nI (k9 + k)))]) (st' := [.int (nI (1)), .int (nI (k9 + k)), .ref (ad 50), .int (nI (k9 + k)), .ref (ad 50)]) rfl rfl (Nat.le_of_ble_eq_true rfl) ?_
        refine VR.addN h (by decide +kernel) (Nat.le_of_ble_eq_true rfl) ?_
        refine VR.iald h (j := 50) (i := (k9 + k) + 1) rfl rfl (by show _ < 250; omega) (by decide +kernel) (v := (nI (tn G 50 ((k9 + k) + 1)))) (mval_1 rfl) ?_
        have nb76 := hBG.2 50 ((k9 + k) + 1)
        refine VR.iastN h (j := 50) (i := k9 + k) rfl rfl (by show _ < 250; omega) (by decide +kernel) ?_
        refine VR.blk h [(.aload_n 0, 1)] (by decide +kernel) (pc' := 105) (ls' := [some (.ref am), some (.int (nI (k9))), some (.int (nI (k9 + k)))]) (st' := [.ref am]) rfl rfl (Nat.le_of_ble_eq_true rfl) ?_
        refine VR.getA h (j := 51) rfl (Or.inl wf_RX11_141) (by decide +kernel) ?_
        refine VR.blk h [(.iload_n 2, 1), (.aload_n 0, 1)] (by decide +kernel) (pc' := 110) (ls' := [some (.ref am), some (.int (nI (k9))), some (.int (nI (k9 + k)))]) (st' := [.ref am, .int (nI (k9 + k)), .ref (ad 51)]) rfl rfl (Nat.le_of_ble_eq_true rfl) ?_
        refine VR.getA h (j := 51) rfl (Or.inl wf_RX11_141) (by decide +kernel) ?_
        refine VR.blk h [(.iload_n 2, 1), (.iconst 1, 1)] (by decide +kernel) (pc' := 115) (ls' := [some (.ref am), some (.int (nI (k9))), some (.int (nI (k9 + k)))]) (st' := [.int (nI (1)), .int (nI (k9 + k)), .ref (ad 51), .int (nI (k9 + k)), .ref (ad 51)]) rfl rfl (Nat.le_of_ble_eq_true rfl) ?_
        refine VR.addN h (by decide +kernel) (Nat.le_of_ble_eq_true rfl) ?_
        refine VR.iald h (j := 51) (i := (k9 + k) + 1) rfl rfl (by show _ < 250; omega) (by decide +kernel) (v := (tr G 51 ((k9 + k) + 1))) (mval_3 rfl) ?_
        refine VR.iastR h (j := 51) (i := k9 + k) rfl rfl (by show _ < 250; omega) (by decide +kernel) ?_
        refine VR.blk h [(.aload_n 0, 1)] (by decide +kernel) (pc' := 119) (ls' := [some (.ref am), some (.int (nI (k9))), some (.int (nI (k9 + k)))]) (st' := [.ref am]) rfl rfl (Nat.le_of_ble_eq_true rfl) ?_
        refine VR.getA h (j := 52) rfl (Or.inl wf_RX11_144) (by decide +kernel) ?_
        refine VR.blk h [(.iload_n 2, 1), (.aload_n 0, 1)] (by decide +kernel) (pc' := 124) (ls' := [some (.ref am), some (.int (nI (k9))), some (.int (nI (k9 + k)))]) (st' := [.ref am, .int (nI (k9 + k)), .ref (ad 52)]) rfl rfl (Nat.le_of_ble_eq_true rfl) ?_
        refine VR.getA h (j := 52) rfl (Or.inl wf_RX11_144) (by decide +kernel) ?_
        refine VR.blk h [(.iload_n 2, 1), (.iconst 1, 1)] (by decide +kernel) (pc' := 129) (ls' := [some (.ref am), some (.int (nI (k9))), some (.int (nI (k9 + k)))]) (st' := [.int (nI (1)), .int (nI (k9 + k)), .ref (ad 52), .int (nI (k9 + k)), .ref (ad 52)]) rfl rfl (Nat.le_of_ble_eq_true rfl) ?_
        refine VR.addN h (by decide +kernel) (Nat.le_of_ble_eq_true rfl) ?_
        refine VR.bald h (j := 52) (i := (k9 + k) + 1) rfl rfl (by show _ < 250; omega) (by decide +kernel) (v := (bI (tb G 52 ((k9 + k) + 1)))) (mval_4 rfl) ?_
        refine VR.bast h (j := 52) (i := k9 + k) rfl rfl (by show _ < 250; omega) (by decide +kernel) ?_
        refine VR.incN h (x := k9 + k) (i := 2) (by decide +kernel) rfl (Nat.le_of_ble_eq_true rfl) ?_
        refine VR.eqL (ls' := [some (.ref am), some (.int (nI (k9))), some (.int (nI ((k9 + k) + 1)))]) rfl ?_
        refine VR.goto h (off := -123) (tgt := 12) (by decide +kernel) (by decide) ?_
        refine VR.eqA (A' := (tkL A k9 ((k + 1)))) (by rw [tkL, hG]; rfl) ?_
        refine VR.eqL (ls' := [some (.ref am), some (.int (nI (k9))), some (.int (nI (k9 + ((k + 1)))))]) rfl ?_
        exact ih12 ((tf A 53 - 1 - k9) - (k + 1)) (by omega) (k + 1) rfl (by omega)
  refine VR.eqA (A' := (tkL A k9 0)) rfl ?_
  refine VR.eqL (ls' := [some (.ref am), some (.int (nI (k9))), some (.int (nI (k9 + 0)))]) rfl ?_
  exact loop12 _ 0 rfl (Nat.zero_le _)

set_option maxRecDepth 100000 in
set_option maxHeartbeats 4000000 in
theorem r_waitsFor {l : Launch} {D : va_G} {tc : Nat → ClassId} {am : Nat} {ad : Nat → Nat} (hls : l.stackTraces = false) (A : TS) (e op K : Nat) (he : e < 12) (hm : tn A 37 e < 600) (hf : tf A 1 ≤ 3) (ho : op < 600) (hl : tf A 53 ≤ 250) (hK9 : 7300 ≤ K) (hB : NB K A) (hK : K < 1999990000) : RM l D tc am ad yX11_waitsFor cX11_waitsFor 5 (none) 2 [.ref am, .int (nI (e)), .int (nI (op))] A (none) (waF A e op) := by
  refine RM.of hls (by decide +kernel) (by simp [Value.category]) (Nat.le_of_ble_eq_true rfl) (fun A0 p e9 s m args below meth c S0 sz Q h hr hA hQ => ?_)
  have nb37 := hB.2 37 e
  refine VR.eqL (ls' := [some (.ref am), some (.int (nI (e))), some (.int (nI (op))), none, none]) rfl ?_
  refine VR.blk h [(.iconst 0, 1), (.istore_n 3, 1), (.iconst 0, 1), (.istore 4, 2)] (by decide +kernel) (pc' := 5) (ls' := [some (.ref am), some (.int (nI (e))), some (.int (nI (op))), some (.int (nI (0))), some (.int (nI (0)))]) (st' := []) rfl rfl (Nat.le_of_ble_eq_true rfl) ?_
  have loop5 : ∀ (t k : Nat), tn A 37 e - k = t → k ≤ tn A 37 e → VR l D tc A0 p e9 (rmd 2 0 0) s m args below meth c 5 Q am ad A 5 [some (.ref am), some (.int (nI (e))), some (.int (nI (op))), some (.int (bI (wfL A e op k))), some (.int (nI (k)))] [] := by
    intro t; induction t using Nat.strongRecOn with
    | _ t ih5 =>
      intro k ht5 hk5
      refine VR.blk h [(.iload 4, 2), (.aload_n 0, 1)] (by decide +kernel) (pc' := 8) (ls' := [some (.ref am), some (.int (nI (e))), some (.int (nI (op))), some (.int (bI (wfL A e op k))), some (.int (nI (k)))]) (st' := [.ref am, .int (nI (k))]) rfl rfl (Nat.le_of_ble_eq_true rfl) ?_
      refine VR.getA h (j := 37) rfl (Or.inl wf_RX11_102) (by decide +kernel) ?_
      refine VR.blk h [(.iload_n 1, 1)] (by decide +kernel) (pc' := 12) (ls' := [some (.ref am), some (.int (nI (e))), some (.int (nI (op))), some (.int (bI (wfL A e op k))), some (.int (nI (k)))]) (st' := [.int (nI (e)), .ref (ad 37), .int (nI (k))]) rfl rfl (Nat.le_of_ble_eq_true rfl) ?_
      refine VR.iald h (j := 37) (i := e) rfl rfl (by show _ < 12; omega) (by decide +kernel) (v := (nI (tn A 37 e))) (mval_1 rfl) ?_
      have nb11 := hB.2 37 e
      refine VR.icmp_ge h (off := 36) (by decide +kernel) (tgt := 49) (by decide) (fun q => ?_) (fun q => ?_)
      · have q13_12 := ((nI_leI (by omega) (by omega)).mp q)
        clear q
        refine VR.blk h [(.aload_n 0, 1), (.iload_n 1, 1)] (by decide +kernel) (pc' := 51) (ls' := [some (.ref am), some (.int (nI (e))), some (.int (nI (op))), some (.int (bI (wfL A e op k))), some (.int (nI (k)))]) (st' := [.int (nI (e)), .ref am]) rfl rfl (Nat.le_of_ble_eq_true rfl) ?_
        refine VR.call h (np := 1) (st := []) (r_syncs hls A e K he hf hl hK9 hB (by omega)) wc_X11_syncs wn_RX11 (Or.inl wm_RX11_191) wi_X11_syncs we_X11_syncs (by decide +kernel) rfl (by decide) (by decide) (by simp [Value.category]) (by decide +kernel) rfl ?_
        have W := syn_keep A e
        have W37 := W.2.1 37 e (by decide) (by omega)
        have W26 := W.2.1 26 e (by decide) (by omega)
        have W29 := W.2.2
        have hW := syn_NB hB (e := e) (by omega) (by omega) hf
        refine VR.blk h [(.iload_n 3, 1)] (by decide +kernel) (pc' := 55) (ls' := [some (.ref am), some (.int (nI (e))), some (.int (nI (op))), some (.int (bI (wfL A e op k))), some (.int (nI (k)))]) (st' := [.int (bI (wfL A e op k))]) rfl rfl (Nat.le_of_ble_eq_true rfl) ?_
        refine VR.if_eq h (off := 4) (by decide +kernel) (tgt := 59) (by decide) (fun q => ?_) (fun q => ?_)
        · have q55_23 := (bI_0.mp q)
          clear q
          refine VR.blk h [(.sipush 600, 3), (.iload_n 1, 1)] (by decide +kernel) (pc' := 63) (ls' := [some (.ref am), some (.int (nI (e))), some (.int (nI (op))), some (.int (bI (wfL A e op k))), some (.int (nI (k)))]) (st' := [.int (nI (e)), .int (nI (600))]) rfl rfl (Nat.le_of_ble_eq_true rfl) ?_
          refine VR.mulN h (by decide +kernel) (Nat.le_of_ble_eq_true rfl) ?_
          refine VR.blk h [(.aload_n 0, 1)] (by decide +kernel) (pc' := 65) (ls' := [some (.ref am), some (.int (nI (e))), some (.int (nI (op))), some (.int (bI (wfL A e op k))), some (.int (nI (k)))]) (st' := [.ref am, .int (nI (600 * e))]) rfl rfl (Nat.le_of_ble_eq_true rfl) ?_
          refine VR.getA h (j := 37) rfl (Or.inl wf_RX11_102) (by decide +kernel) ?_
          refine VR.blk h [(.iload_n 1, 1)] (by decide +kernel) (pc' := 69) (ls' := [some (.ref am), some (.int (nI (e))), some (.int (nI (op))), some (.int (bI (wfL A e op k))), some (.int (nI (k)))]) (st' := [.int (nI (e)), .ref (ad 37), .int (nI (600 * e))]) rfl rfl (Nat.le_of_ble_eq_true rfl) ?_
          refine VR.iald h (j := 37) (i := e) rfl rfl (by show _ < 12; omega) (by decide +kernel) (v := (nI (tn A 37 e))) ((mval_1 rfl).trans (congrArg nI W37)) ?_
          have nb32 := hB.2 37 e
          refine VR.addN h (by decide +kernel) (Nat.le_of_ble_eq_true rfl) ?_
          refine VR.blk h [(.istore 4, 2), (.aload_n 0, 1)] (by decide +kernel) (pc' := 74) (ls' := [some (.ref am), some (.int (nI (e))), some (.int (nI (op))), some (.int (bI (wfL A e op k))), some (.int (nI ((600 * e) + (tn A 37 e))))]) (st' := [.ref am]) rfl rfl (Nat.le_of_ble_eq_true rfl) ?_
          refine VR.getA h (j := 33) rfl (Or.inl wf_RX11_90) (by decide +kernel) ?_
          refine VR.blk h [(.iload 4, 2), (.iload_n 2, 1)] (by decide +kernel) (pc' := 80) (ls' := [some (.ref am), some (.int (nI (e))), some (.int (nI (op))), some (.int (bI (wfL A e op k))), some (.int (nI ((600 * e) + (tn A 37 e))))]) (st' := [.int (nI (op)), .int (nI ((600 * e) + (tn A 37 e))), .ref (ad 33)]) rfl rfl (Nat.le_of_ble_eq_true rfl) ?_
          refine VR.iastN h (j := 33) (i := (600 * e) + (tn A 37 e)) rfl rfl (by show _ < 7200; omega) (by decide +kernel) ?_
          refine VR.blk h [(.aload_n 0, 1)] (by decide +kernel) (pc' := 82) (ls' := [some (.ref am), some (.int (nI (e))), some (.int (nI (op))), some (.int (bI (wfL A e op k))), some (.int (nI ((600 * e) + (tn A 37 e))))]) (st' := [.ref am]) rfl rfl (Nat.le_of_ble_eq_true rfl) ?_
          refine VR.getA h (j := 34) rfl (Or.inl wf_RX11_93) (by decide +kernel) ?_
          refine VR.blk h [(.iload 4, 2), (.aload_n 0, 1)] (by decide +kernel) (pc' := 88) (ls' := [some (.ref am), some (.int (nI (e))), some (.int (nI (op))), some (.int (bI (wfL A e op k))), some (.int (nI ((600 * e) + (tn A 37 e))))]) (st' := [.ref am, .int (nI ((600 * e) + (tn A 37 e))), .ref (ad 34)]) rfl rfl (Nat.le_of_ble_eq_true rfl) ?_
          refine VR.getA h (j := 26) rfl (Or.inl wf_RX11_69) (by decide +kernel) ?_
          refine VR.blk h [(.iload_n 1, 1)] (by decide +kernel) (pc' := 92) (ls' := [some (.ref am), some (.int (nI (e))), some (.int (nI (op))), some (.int (bI (wfL A e op k))), some (.int (nI ((600 * e) + (tn A 37 e))))]) (st' := [.int (nI (e)), .ref (ad 26), .int (nI ((600 * e) + (tn A 37 e))), .ref (ad 34)]) rfl rfl (Nat.le_of_ble_eq_true rfl) ?_
          refine VR.iald h (j := 26) (i := e) rfl rfl (by show _ < 12; omega) (by decide +kernel) (v := (nI (tn A 26 e))) ((mval_1 rfl).trans (congrArg nI W26)) ?_
          have nb44 := hB.2 26 e
          refine VR.iastN h (j := 34) (i := (600 * e) + (tn A 37 e)) rfl rfl (by show _ < 7200; omega) (by decide +kernel) ?_
          refine VR.blk h [(.aload_n 0, 1)] (by decide +kernel) (pc' := 95) (ls' := [some (.ref am), some (.int (nI (e))), some (.int (nI (op))), some (.int (bI (wfL A e op k))), some (.int (nI ((600 * e) + (tn A 37 e))))]) (st' := [.ref am]) rfl rfl (Nat.le_of_ble_eq_true rfl) ?_
          refine VR.getA h (j := 35) rfl (Or.inl wf_RX11_96) (by decide +kernel) ?_
          refine VR.blk h [(.iload 4, 2), (.aload_n 0, 1)] (by decide +kernel) (pc' := 101) (ls' := [some (.ref am), some (.int (nI (e))), some (.int (nI (op))), some (.int (bI (wfL A e op k))), some (.int (nI ((600 * e) + (tn A 37 e))))]) (st' := [.ref am, .int (nI ((600 * e) + (tn A 37 e))), .ref (ad 35)]) rfl rfl (Nat.le_of_ble_eq_true rfl) ?_
          refine VR.getA h (j := 29) rfl (Or.inl wf_RX11_78) (by decide +kernel) ?_
          refine VR.blk h [(.iload_n 1, 1)] (by decide +kernel) (pc' := 105) (ls' := [some (.ref am), some (.int (nI (e))), some (.int (nI (op))), some (.int (bI (wfL A e op k))), some (.int (nI ((600 * e) + (tn A 37 e))))]) (st' := [.int (nI (e)), .ref (ad 29), .int (nI ((600 * e) + (tn A 37 e))), .ref (ad 35)]) rfl rfl (Nat.le_of_ble_eq_true rfl) ?_
          refine VR.iald h (j := 29) (i := e) rfl rfl (by show _ < 12; omega) (by decide +kernel) (v := (nI (tn A 29 e + 1))) ((mval_1 rfl).trans (congrArg nI W29)) ?_
          refine VR.iastN h (j := 35) (i := (600 * e) + (tn A 37 e)) rfl rfl (by show _ < 7200; omega) (by decide +kernel) ?_
          refine VR.blk h [(.aload_n 0, 1)] (by decide +kernel) (pc' := 108) (ls' := [some (.ref am), some (.int (nI (e))), some (.int (nI (op))), some (.int (bI (wfL A e op k))), some (.int (nI ((600 * e) + (tn A 37 e))))]) (st' := [.ref am]) rfl rfl (Nat.le_of_ble_eq_true rfl) ?_
          refine VR.getA h (j := 36) rfl (Or.inl wf_RX11_99) (by decide +kernel) ?_
          refine VR.blk h [(.iload 4, 2), (.iconst 0, 1)] (by decide +kernel) (pc' := 114) (ls' := [some (.ref am), some (.int (nI (e))), some (.int (nI (op))), some (.int (bI (wfL A e op k))), some (.int (nI ((600 * e) + (tn A 37 e))))]) (st' := [.int (nI (0)), .int (nI ((600 * e) + (tn A 37 e))), .ref (ad 36)]) rfl rfl (Nat.le_of_ble_eq_true rfl) ?_
          refine VR.iastN h (j := 36) (i := (600 * e) + (tn A 37 e)) rfl rfl (by show _ < 7200; omega) (by decide +kernel) ?_
          refine VR.blk h [(.aload_n 0, 1)] (by decide +kernel) (pc' := 116) (ls' := [some (.ref am), some (.int (nI (e))), some (.int (nI (op))), some (.int (bI (wfL A e op k))), some (.int (nI ((600 * e) + (tn A 37 e))))]) (st' := [.ref am]) rfl rfl (Nat.le_of_ble_eq_true rfl) ?_
          refine VR.getA h (j := 37) rfl (Or.inl wf_RX11_102) (by decide +kernel) ?_
          refine VR.blk h [(.iload_n 1, 1), (.dup2, 1)] (by decide +kernel) (pc' := 121) (ls' := [some (.ref am), some (.int (nI (e))), some (.int (nI (op))), some (.int (bI (wfL A e op k))), some (.int (nI ((600 * e) + (tn A 37 e))))]) (st' := [.int (nI (e)), .ref (ad 37), .int (nI (e)), .ref (ad 37)]) rfl rfl (Nat.le_of_ble_eq_true rfl) ?_
          refine VR.iald h (j := 37) (i := e) rfl rfl (by show _ < 12; omega) (by decide +kernel) (v := (nI (tn A 37 e))) ((mval_1 rfl).trans (congrArg nI W37)) ?_
          have nb61 := hB.2 37 e
          refine VR.blk h [(.iconst 1, 1)] (by decide +kernel) (pc' := 123) (ls' := [some (.ref am), some (.int (nI (e))), some (.int (nI (op))), some (.int (bI (wfL A e op k))), some (.int (nI ((600 * e) + (tn A 37 e))))]) (st' := [.int (nI (1)), .int (nI (tn A 37 e)), .int (nI (e)), .ref (ad 37)]) rfl rfl (Nat.le_of_ble_eq_true rfl) ?_
          refine VR.addN h (by decide +kernel) (Nat.le_of_ble_eq_true rfl) ?_
          refine VR.iastN h (j := 37) (i := e) rfl rfl (by show _ < 12; omega) (by decide +kernel) ?_
          exact VR.vret h hA hQ hr rfl (by obtain rfl : k = tn A 37 e := (by omega); rw [waF, if_neg (by rw [q55_23]; decide)]) (by decide +kernel)
        · have q55_23 := (bI_1 (fun z => q (bI_0.mpr z)))
          clear q
          exact VR.vret h hA hQ hr rfl (by obtain rfl : k = tn A 37 e := (by omega); rw [waF, if_pos q55_23]) (by decide +kernel)
      · have q13_12 : ¬ _ := (fun z => q ((nI_leI (by omega) (by omega)).mpr z))
        clear q
        have join42 : ∀ bb42 : Bool, bb42 = (wfL A e op k || decide (tn A 33 (600 * e + k) = op)) → VR l D tc A0 p e9 (rmd 2 0 0) s m args below meth c 5 Q am ad A 42 [some (.ref am), some (.int (nI (e))), some (.int (nI (op))), some (.int (bI (wfL A e op k))), some (.int (nI (k)))] [.int (bI (bb42))] := by
          intro bb42 hb42; subst hb42
          refine VR.blk h [(.istore_n 3, 1)] (by decide +kernel) (pc' := 43) (ls' := [some (.ref am), some (.int (nI (e))), some (.int (nI (op))), some (.int (bI ((wfL A e op k || decide (tn A 33 (600 * e + k) = op))))), some (.int (nI (k)))]) (st' := []) rfl rfl (Nat.le_of_ble_eq_true rfl) ?_
          refine VR.incN h (x := k) (i := 4) (by decide +kernel) rfl (Nat.le_of_ble_eq_true rfl) ?_
          refine VR.eqL (ls' := [some (.ref am), some (.int (nI (e))), some (.int (nI (op))), some (.int (bI ((wfL A e op k || decide (tn A 33 (600 * e + k) = op))))), some (.int (nI (k + 1)))]) rfl ?_
          refine VR.goto h (off := -41) (tgt := 5) (by decide +kernel) (by decide) ?_
          refine VR.eqL (ls' := [some (.ref am), some (.int (nI (e))), some (.int (nI (op))), some (.int (bI (wfL A e op ((k + 1))))), some (.int (nI ((k + 1))))]) (by simp only [wfL]) ?_
          exact ih5 (tn A 37 e - (k + 1)) (by omega) (k + 1) rfl (by omega)
        refine VR.blk h [(.iload_n 3, 1)] (by decide +kernel) (pc' := 17) (ls' := [some (.ref am), some (.int (nI (e))), some (.int (nI (op))), some (.int (bI (wfL A e op k))), some (.int (nI (k)))]) (st' := [.int (bI (wfL A e op k))]) rfl rfl (Nat.le_of_ble_eq_true rfl) ?_
        refine VR.if_ne h (off := 20) (by decide +kernel) (tgt := 37) (by decide) (fun q => ?_) (fun q => ?_)
        · have q17_80 := (bI_1 (fun z => q (bI_0.mpr z)))
          clear q
          refine VR.blk h [(.iconst 1, 1)] (by decide +kernel) (pc' := 38) (ls' := [some (.ref am), some (.int (nI (e))), some (.int (nI (op))), some (.int (bI (wfL A e op k))), some (.int (nI (k)))]) (st' := [.int (nI (1))]) rfl rfl (Nat.le_of_ble_eq_true rfl) ?_
          refine VR.goto h (off := 4) (tgt := 42) (by decide +kernel) (by decide) ?_
          refine VR.top (v' := .int (bI true)) (by rw [bI_t]) ?_
          exact join42 _ (by first | (simp [q13_12, q17_80]; done) | (simp [q13_12, q17_80]; omega))
        · have q17_80 := (bI_0.mp q)
          clear q
          refine VR.blk h [(.aload_n 0, 1)] (by decide +kernel) (pc' := 21) (ls' := [some (.ref am), some (.int (nI (e))), some (.int (nI (op))), some (.int (bI (wfL A e op k))), some (.int (nI (k)))]) (st' := [.ref am]) rfl rfl (Nat.le_of_ble_eq_true rfl) ?_
          refine VR.getA h (j := 33) rfl (Or.inl wf_RX11_90) (by decide +kernel) ?_
          refine VR.blk h [(.sipush 600, 3), (.iload_n 1, 1)] (by decide +kernel) (pc' := 28) (ls' := [some (.ref am), some (.int (nI (e))), some (.int (nI (op))), some (.int (bI (wfL A e op k))), some (.int (nI (k)))]) (st' := [.int (nI (e)), .int (nI (600)), .ref (ad 33)]) rfl rfl (Nat.le_of_ble_eq_true rfl) ?_
          refine VR.mulN h (by decide +kernel) (Nat.le_of_ble_eq_true rfl) ?_
          refine VR.blk h [(.iload 4, 2)] (by decide +kernel) (pc' := 31) (ls' := [some (.ref am), some (.int (nI (e))), some (.int (nI (op))), some (.int (bI (wfL A e op k))), some (.int (nI (k)))]) (st' := [.int (nI (k)), .int (nI (600 * e)), .ref (ad 33)]) rfl rfl (Nat.le_of_ble_eq_true rfl) ?_
          refine VR.addN h (by decide +kernel) (Nat.le_of_ble_eq_true rfl) ?_
          refine VR.iald h (j := 33) (i := (600 * e) + k) rfl rfl (by show _ < 7200; omega) (by decide +kernel) (v := (nI (tn A 33 ((600 * e) + k)))) (mval_1 rfl) ?_
          have nb96 := hB.2 33 ((600 * e) + k)
          refine VR.blk h [(.iload_n 2, 1)] (by decide +kernel) (pc' := 34) (ls' := [some (.ref am), some (.int (nI (e))), some (.int (nI (op))), some (.int (bI (wfL A e op k))), some (.int (nI (k)))]) (st' := [.int (nI (op)), .int (nI (tn A 33 ((600 * e) + k)))]) rfl rfl (Nat.le_of_ble_eq_true rfl) ?_
          refine VR.icmp_ne h (off := 7) (by decide +kernel) (tgt := 41) (by decide) (fun q => ?_) (fun q => ?_)
          · have q34_98 : ¬ _ := (fun z => q ((nI_eq (by omega) (by omega)).mpr z))
            clear q
            refine VR.blk h [(.iconst 0, 1)] (by decide +kernel) (pc' := 42) (ls' := [some (.ref am), some (.int (nI (e))), some (.int (nI (op))), some (.int (bI (wfL A e op k))), some (.int (nI (k)))]) (st' := [.int (nI (0))]) rfl rfl (Nat.le_of_ble_eq_true rfl) ?_
            refine VR.top (v' := .int (bI false)) (by rw [bI_f]) ?_
            exact join42 _ (by first | (simp [q13_12, q17_80, q34_98]; done) | (simp [q13_12, q17_80, q34_98]; omega))
          · have q34_98 := ((nI_eq (by omega) (by omega)).mp q)
            clear q
            refine VR.blk h [(.iconst 1, 1)] (by decide +kernel) (pc' := 38) (ls' := [some (.ref am), some (.int (nI (e))), some (.int (nI (op))), some (.int (bI (wfL A e op k))), some (.int (nI (k)))]) (st' := [.int (nI (1))]) rfl rfl (Nat.le_of_ble_eq_true rfl) ?_
            refine VR.goto h (off := 4) (tgt := 42) (by decide +kernel) (by decide) ?_
            refine VR.top (v' := .int (bI true)) (by rw [bI_t]) ?_
            exact join42 _ (by first | (simp [q13_12, q17_80, q34_98]; done) | (simp [q13_12, q17_80, q34_98]; omega))
  refine VR.eqL (ls' := [some (.ref am), some (.int (nI (e))), some (.int (nI (op))), some (.int (bI (wfL A e op 0))), some (.int (nI (0)))]) (by rw [wfL, bI_f]) ?_
  exact loop5 _ 0 rfl (Nat.zero_le _)

set_option maxRecDepth 100000 in
set_option maxHeartbeats 4000000 in
theorem r_reads {l : Launch} {D : va_G} {tc : Nat → ClassId} {am : Nat} {ad : Nat → Nat} (hls : l.stackTraces = false) (A : TS) (e op K : Nat) (he : e < 12) (hm : tn A 26 e < 600) (hs : tn A 28 e ≤ tn A 26 e) (hw : tn A 37 e < 600) (ho : op < 600) (hlo : ∀ k, k < tn A 26 e → tn A 22 (600 * e + k) < 600) (hf : tf A 1 ≤ 3) (hb4 : tf A 4 ≤ 10) (hl : tf A 53 ≤ 250) (hK9 : 7300 ≤ K) (hB : NB K A) (hK : K < 1999990000) : RM l D tc am ad yX11_reads cX11_reads 5 (none) 3 [.ref am, .int (nI (e)), .int (nI (op))] A (none) (exeF A e op) := by
  refine RM.of hls (by decide +kernel) (by simp [Value.category]) (Nat.le_of_ble_eq_true rfl) (fun A0 p e9 s m args below meth c S0 sz Q h hr hA hQ => ?_)
  have hpl := placeF_le A e op
  have nb7 := hB.2 7 op
  have nb8 := hB.2 8 op
  refine VR.eqL (ls' := [some (.ref am), some (.int (nI (e))), some (.int (nI (op))), none, none]) rfl ?_
  refine VR.blk h [(.aload_n 0, 1), (.iload_n 1, 1), (.iload_n 2, 1)] (by decide +kernel) (pc' := 3) (ls' := [some (.ref am), some (.int (nI (e))), some (.int (nI (op))), none, none]) (st' := [.int (nI (op)), .int (nI (e)), .ref am]) rfl rfl (Nat.le_of_ble_eq_true rfl) ?_
  refine VR.call h (np := 2) (st := []) (r_place hls A e op K he (by omega) hB (by omega) (by omega)) wc_X11_place wn_RX11 (Or.inl wm_RX11_183) wi_X11_place we_X11_place (by decide +kernel) rfl (by decide) (by decide) (by simp [Value.category]) (by decide +kernel) rfl ?_
  refine VR.blk h [(.istore_n 3, 1), (.iload_n 3, 1)] (by decide +kernel) (pc' := 8) (ls' := [some (.ref am), some (.int (nI (e))), some (.int (nI (op))), some (.int (oI (placeF A e op))), none]) (st' := [.int (oI (placeF A e op))]) rfl rfl (Nat.le_of_ble_eq_true rfl) ?_
  refine VR.if_lt h (off := 78) (by decide +kernel) (tgt := 86) (by decide) (fun q => ?_) (fun q => ?_)
  · have q8_7 := ((oI_neg (by omega)).mp q)
    clear q
    refine VR.blk h [(.aload_n 0, 1), (.iload_n 1, 1), (.iload_n 2, 1)] (by decide +kernel) (pc' := 89) (ls' := [some (.ref am), some (.int (nI (e))), some (.int (nI (op))), some (.int (oI (placeF A e op))), none]) (st' := [.int (nI (op)), .int (nI (e)), .ref am]) rfl rfl (Nat.le_of_ble_eq_true rfl) ?_
    refine VR.call h (np := 2) (st := []) (r_hasGreater hls A e op K he (by omega) hlo hB (by omega) ho) wc_X11_hasGreater wn_RX11 (Or.inl wm_RX11_193) wi_X11_hasGreater we_X11_hasGreater (by decide +kernel) rfl (by decide) (by decide) (by simp [Value.category]) (by decide +kernel) rfl ?_
    refine VR.if_eq h (off := 4) (by decide +kernel) (tgt := 96) (by decide) (fun q => ?_) (fun q => ?_)
    · have q92_12 := (bI_0.mp q)
      clear q
      refine VR.blk h [(.aload_n 0, 1)] (by decide +kernel) (pc' := 97) (ls' := [some (.ref am), some (.int (nI (e))), some (.int (nI (op))), some (.int (oI (placeF A e op))), none]) (st' := [.ref am]) rfl rfl (Nat.le_of_ble_eq_true rfl) ?_
      refine VR.getA h (j := 7) rfl (Or.inl wf_RX11_20) (by decide +kernel) ?_
      refine VR.blk h [(.iload_n 2, 1)] (by decide +kernel) (pc' := 101) (ls' := [some (.ref am), some (.int (nI (e))), some (.int (nI (op))), some (.int (oI (placeF A e op))), none]) (st' := [.int (nI (op)), .ref (ad 7)]) rfl rfl (Nat.le_of_ble_eq_true rfl) ?_
      refine VR.iald h (j := 7) (i := op) rfl rfl (by show _ < 600; omega) (by decide +kernel) (v := (nI (tn A 7 op))) (mval_1 rfl) ?_
      have nb19 := hB.2 7 op
      refine VR.callS h (np := 1) (st := []) (r_isUpdate hls A (tn A 7 op) (by omega)) wc_X11_isUpdate wn_RX11 (Or.inl wm_RX11_197) wt_X11_isUpdate (by decide +kernel) rfl (by decide) (by decide) (by simp [Value.category]) (by decide +kernel) rfl ?_
      refine VR.if_ne h (off := 10) (by decide +kernel) (tgt := 115) (by decide) (fun q => ?_) (fun q => ?_)
      · have q105_21 := (bI_1 (fun z => q (bI_0.mpr z)))
        clear q
        refine VR.blk h [(.aload_n 0, 1), (.iload_n 1, 1), (.aload_n 0, 1)] (by decide +kernel) (pc' := 118) (ls' := [some (.ref am), some (.int (nI (e))), some (.int (nI (op))), some (.int (oI (placeF A e op))), none]) (st' := [.ref am, .int (nI (e)), .ref am]) rfl rfl (Nat.le_of_ble_eq_true rfl) ?_
        refine VR.getA h (j := 8) rfl (Or.inl wf_RX11_23) (by decide +kernel) ?_
        refine VR.blk h [(.iload_n 2, 1)] (by decide +kernel) (pc' := 122) (ls' := [some (.ref am), some (.int (nI (e))), some (.int (nI (op))), some (.int (oI (placeF A e op))), none]) (st' := [.int (nI (op)), .ref (ad 8), .int (nI (e)), .ref am]) rfl rfl (Nat.le_of_ble_eq_true rfl) ?_
        refine VR.iald h (j := 8) (i := op) rfl rfl (by show _ < 600; omega) (by decide +kernel) (v := (nI (tn A 8 op))) (mval_1 rfl) ?_
        have nb28 := hB.2 8 op
        refine VR.call h (np := 2) (st := []) (r_isKeyBehind hls A e (tn A 8 op) K he (by omega) hs hlo hB (by omega) (by omega)) wc_X11_isKeyBehind wn_RX11 (Or.inl wm_RX11_205) wi_X11_isKeyBehind we_X11_isKeyBehind (by decide +kernel) rfl (by decide) (by decide) (by simp [Value.category]) (by decide +kernel) rfl ?_
        refine VR.blk h [(.istore 4, 2)] (by decide +kernel) (pc' := 128) (ls' := [some (.ref am), some (.int (nI (e))), some (.int (nI (op))), some (.int (oI (placeF A e op))), some (.int (bI (kbF A e (tn A 8 op) (tn A 28 e) (tn A 26 e))))]) (st' := []) rfl rfl (Nat.le_of_ble_eq_true rfl) ?_
        generalize hlate : kbF A e (tn A 8 op) (tn A 28 e) (tn A 26 e) = lt
        have hP : NB (K + 1) (appF A e op lt) := app_NB (hB.mono (by omega)) (by omega) (by omega)
        refine VR.blk h [(.aload_n 0, 1), (.iload_n 1, 1), (.iload_n 2, 1), (.iload 4, 2)] (by decide +kernel) (pc' := 133) (ls' := [some (.ref am), some (.int (nI (e))), some (.int (nI (op))), some (.int (oI (placeF A e op))), some (.int (bI (lt)))]) (st' := [.int (bI (lt)), .int (nI (op)), .int (nI (e)), .ref am]) rfl rfl (Nat.le_of_ble_eq_true rfl) ?_
        refine VR.call h (np := 3) (st := []) (r_appends hls A e op lt K he hm ho hlo hB (by omega)) wc_X11_appends wn_RX11 (Or.inl wm_RX11_208) wi_X11_appends we_X11_appends (by decide +kernel) rfl (by decide) (by decide) (by simp [Value.category]) (by decide +kernel) rfl ?_
        refine VR.blk h [(.iload 4, 2)] (by decide +kernel) (pc' := 138) (ls' := [some (.ref am), some (.int (nI (e))), some (.int (nI (op))), some (.int (oI (placeF A e op))), some (.int (bI (lt)))]) (st' := [.int (bI (lt))]) rfl rfl (Nat.le_of_ble_eq_true rfl) ?_
        refine VR.if_eq h (off := 9) (by decide +kernel) (tgt := 147) (by decide) (fun q => ?_) (fun q => ?_)
        · have q138_36 := (bI_0.mp q)
          clear q
          subst q138_36
          have P26 : tn (appF A e op false) 26 e = tn A 26 e + 1 := by rw [appF, tn_sn, if_pos ⟨rfl, rfl⟩]
          have P28 : tn (appF A e op false) 28 e = tn A 28 e := rfl
          refine VR.blk h [(.aload_n 0, 1), (.iload_n 1, 1), (.iload_n 2, 1), (.aload_n 0, 1)] (by decide +kernel) (pc' := 151) (ls' := [some (.ref am), some (.int (nI (e))), some (.int (nI (op))), some (.int (oI (placeF A e op))), some (.int (bI (false)))]) (st' := [.ref am, .int (nI (op)), .int (nI (e)), .ref am]) rfl rfl (Nat.le_of_ble_eq_true rfl) ?_
          refine VR.getA h (j := 23) rfl (Or.inl wf_RX11_60) (by decide +kernel) ?_
          refine VR.blk h [(.sipush 600, 3), (.iload_n 1, 1)] (by decide +kernel) (pc' := 158) (ls' := [some (.ref am), some (.int (nI (e))), some (.int (nI (op))), some (.int (oI (placeF A e op))), some (.int (bI (false)))]) (st' := [.int (nI (e)), .int (nI (600)), .ref (ad 23), .int (nI (op)), .int (nI (e)), .ref am]) rfl rfl (Nat.le_of_ble_eq_true rfl) ?_
          refine VR.mulN h (by decide +kernel) (Nat.le_of_ble_eq_true rfl) ?_
          refine VR.blk h [(.aload_n 0, 1)] (by decide +kernel) (pc' := 160) (ls' := [some (.ref am), some (.int (nI (e))), some (.int (nI (op))), some (.int (oI (placeF A e op))), some (.int (bI (false)))]) (st' := [.ref am, .int (nI (600 * e)), .ref (ad 23), .int (nI (op)), .int (nI (e)), .ref am]) rfl rfl (Nat.le_of_ble_eq_true rfl) ?_
          refine VR.getA h (j := 26) rfl (Or.inl wf_RX11_69) (by decide +kernel) ?_
          refine VR.blk h [(.iload_n 1, 1)] (by decide +kernel) (pc' := 164) (ls' := [some (.ref am), some (.int (nI (e))), some (.int (nI (op))), some (.int (oI (placeF A e op))), some (.int (bI (false)))]) (st' := [.int (nI (e)), .ref (ad 26), .int (nI (600 * e)), .ref (ad 23), .int (nI (op)), .int (nI (e)), .ref am]) rfl rfl (Nat.le_of_ble_eq_true rfl) ?_
          refine VR.iald h (j := 26) (i := e) rfl rfl (by show _ < 12; omega) (by decide +kernel) (v := (nI (tn A 26 e + 1))) ((mval_1 rfl).trans (congrArg nI P26)) ?_
          refine VR.addN h (by decide +kernel) (Nat.le_of_ble_eq_true rfl) ?_
          refine VR.blk h [(.iconst 1, 1)] (by decide +kernel) (pc' := 167) (ls' := [some (.ref am), some (.int (nI (e))), some (.int (nI (op))), some (.int (oI (placeF A e op))), some (.int (bI (false)))]) (st' := [.int (nI (1)), .int (nI ((600 * e) + (tn A 26 e + 1))), .ref (ad 23), .int (nI (op)), .int (nI (e)), .ref am]) rfl rfl (Nat.le_of_ble_eq_true rfl) ?_
          refine VR.subN h (by decide +kernel) (Nat.le_of_ble_eq_true rfl) (by omega) ?_
          refine VR.top (v' := .int (nI (600 * e + tn A 26 e))) (by rw [show ((600 * e) + (tn A 26 e + 1)) - 1 = 600 * e + tn A 26 e by omega]) ?_
          refine VR.iald h (j := 23) (i := 600 * e + tn A 26 e) rfl rfl (by show _ < 7200; omega) (by decide +kernel) (v := (tr (appF A e op false) 23 (600 * e + tn A 26 e))) (mval_3 rfl) ?_
          refine VR.blk h [(.iconst 0, 1)] (by decide +kernel) (pc' := 170) (ls' := [some (.ref am), some (.int (nI (e))), some (.int (nI (op))), some (.int (oI (placeF A e op))), some (.int (bI (false)))]) (st' := [.int (nI (0)), .int (tr (appF A e op false) 23 (600 * e + tn A 26 e)), .int (nI (op)), .int (nI (e)), .ref am]) rfl rfl (Nat.le_of_ble_eq_true rfl) ?_
          refine VR.call h (np := 4) (st := []) (r_answers hls (appF A e op false) e op (tr (appF A e op false) 23 (600 * e + tn A 26 e)) false (K + 1) (by omega) ho (by omega) hl (by omega) hP (by omega)) wc_X11_answers wn_RX11 (Or.inl wm_RX11_187) wi_X11_answers we_X11_answers (by decide +kernel) rfl (by decide) (by decide) (by simp [Value.category]) (by decide +kernel) (by simp [oI_s, bI_f, bI_t]) ?_
          have hP2 : NB (K + 2) (ansF (appF A e op false) e op (tr (appF A e op false) 23 (600 * e + tn A 26 e)) false) := by have o5 := hB.2 5 op; have o6 := hB.2 6 op; exact hP.send (by omega) (by omega) (by omega) (by show tn A 5 op ≤ _; omega) (by omega) (by show tn A 6 op ≤ _; omega) (by omega)
          refine VR.blk h [(.aload_n 0, 1)] (by decide +kernel) (pc' := 174) (ls' := [some (.ref am), some (.int (nI (e))), some (.int (nI (op))), some (.int (oI (placeF A e op))), some (.int (bI (false)))]) (st' := [.ref am]) rfl rfl (Nat.le_of_ble_eq_true rfl) ?_
          refine VR.getA h (j := 26) rfl (Or.inl wf_RX11_69) (by decide +kernel) ?_
          refine VR.blk h [(.iload_n 1, 1)] (by decide +kernel) (pc' := 178) (ls' := [some (.ref am), some (.int (nI (e))), some (.int (nI (op))), some (.int (oI (placeF A e op))), some (.int (bI (false)))]) (st' := [.int (nI (e)), .ref (ad 26)]) rfl rfl (Nat.le_of_ble_eq_true rfl) ?_
          refine VR.iald h (j := 26) (i := e) rfl rfl (by show _ < 12; omega) (by decide +kernel) (v := (nI (tn A 26 e + 1))) ((mval_1 rfl).trans (congrArg nI (((send_keep ..).2.1 26 e (by decide)).trans P26))) ?_
          refine VR.blk h [(.aload_n 0, 1)] (by decide +kernel) (pc' := 180) (ls' := [some (.ref am), some (.int (nI (e))), some (.int (nI (op))), some (.int (oI (placeF A e op))), some (.int (bI (false)))]) (st' := [.ref am, .int (nI (tn A 26 e + 1))]) rfl rfl (Nat.le_of_ble_eq_true rfl) ?_
          refine VR.getA h (j := 28) rfl (Or.inl wf_RX11_75) (by decide +kernel) ?_
          refine VR.blk h [(.iload_n 1, 1)] (by decide +kernel) (pc' := 184) (ls' := [some (.ref am), some (.int (nI (e))), some (.int (nI (op))), some (.int (oI (placeF A e op))), some (.int (bI (false)))]) (st' := [.int (nI (e)), .ref (ad 28), .int (nI (tn A 26 e + 1))]) rfl rfl (Nat.le_of_ble_eq_true rfl) ?_
          refine VR.iald h (j := 28) (i := e) rfl rfl (by show _ < 12; omega) (by decide +kernel) (v := (nI (tn A 28 e))) ((mval_1 rfl).trans (congrArg nI (((send_keep ..).2.1 28 e (by decide)).trans P28))) ?_
          have nb66 := hB.2 28 e
          refine VR.subN h (by decide +kernel) (Nat.le_of_ble_eq_true rfl) (by omega) ?_
          refine VR.blk h [(.aload_n 0, 1)] (by decide +kernel) (pc' := 187) (ls' := [some (.ref am), some (.int (nI (e))), some (.int (nI (op))), some (.int (oI (placeF A e op))), some (.int (bI (false)))]) (st' := [.ref am, .int (nI ((tn A 26 e + 1) - (tn A 28 e)))]) rfl rfl (Nat.le_of_ble_eq_true rfl) ?_
          refine VR.getI h (j := 4) rfl (Or.inl wf_RX11_160) (by decide +kernel) (v := tf A 4) ((ans_keep ..).1 4 (by decide) (by decide)) ?_
          refine VR.icmp_lt h (off := 8) (by decide +kernel) (tgt := 198) (by decide) (fun q => ?_) (fun q => ?_)
          · have q190_70 := ((nI_ltI (by omega) (by omega)).mp q)
            clear q
            exact VR.vret h hA hQ hr rfl (by rw [exeF, if_neg (by omega), if_neg (by rw [q92_12]; decide), if_neg (of_decide_eq_true q105_21), if_neg (by rw [hlate]; decide), if_neg (by omega)]) (by decide +kernel)
          · have q190_70 : ¬ _ := (fun z => q ((nI_ltI (by omega) (by omega)).mpr z))
            clear q
            refine VR.blk h [(.aload_n 0, 1), (.iload_n 1, 1)] (by decide +kernel) (pc' := 195) (ls' := [some (.ref am), some (.int (nI (e))), some (.int (nI (op))), some (.int (oI (placeF A e op))), some (.int (bI (false)))]) (st' := [.int (nI (e)), .ref am]) rfl rfl (Nat.le_of_ble_eq_true rfl) ?_
            refine VR.call h (np := 1) (st := []) (r_syncs hls (ansF (appF A e op false) e op (tr (appF A e op false) 23 (600 * e + tn A 26 e)) false) e (K + 2) he (by rw [(ans_keep ..).1 1 (by decide) (by decide)]; exact hf) (send_le _ _ _ _ _ _ _ _ hl) (by omega) hP2 (by omega)) wc_X11_syncs wn_RX11 (Or.inl wm_RX11_191) wi_X11_syncs we_X11_syncs (by decide +kernel) rfl (by decide) (by decide) (by simp [Value.category]) (by decide +kernel) rfl ?_
            exact VR.vret h hA hQ hr rfl (by rw [exeF, if_neg (by omega), if_neg (by rw [q92_12]; decide), if_neg (of_decide_eq_true q105_21), if_neg (by rw [hlate]; decide), if_pos (by omega)]) (by decide +kernel)
        · have q138_36 := (bI_1 (fun z => q (bI_0.mpr z)))
          clear q
          subst q138_36
          have P26 : tn (appF A e op true) 26 e = tn A 26 e + 1 := by rw [appF, tn_sn, if_pos ⟨rfl, rfl⟩]
          have P28 : tn (appF A e op true) 28 e = tn A 28 e := rfl
          refine VR.blk h [(.aload_n 0, 1), (.iload_n 1, 1)] (by decide +kernel) (pc' := 143) (ls' := [some (.ref am), some (.int (nI (e))), some (.int (nI (op))), some (.int (oI (placeF A e op))), some (.int (bI (true)))]) (st' := [.int (nI (e)), .ref am]) rfl rfl (Nat.le_of_ble_eq_true rfl) ?_
          refine VR.call h (np := 1) (st := []) (r_syncs hls (appF A e op true) e (K + 1) he hf hl (by omega) hP (by omega)) wc_X11_syncs wn_RX11 (Or.inl wm_RX11_191) wi_X11_syncs we_X11_syncs (by decide +kernel) rfl (by decide) (by decide) (by simp [Value.category]) (by decide +kernel) rfl ?_
          exact VR.vret h hA hQ hr rfl (by rw [exeF, if_neg (by omega), if_neg (by rw [q92_12]; decide), if_neg (of_decide_eq_true q105_21), if_pos hlate]) (by decide +kernel)
      · have q105_21 := (bI_0.mp q)
        clear q
        refine VR.blk h [(.aload_n 0, 1), (.iload_n 1, 1), (.iload_n 2, 1)] (by decide +kernel) (pc' := 111) (ls' := [some (.ref am), some (.int (nI (e))), some (.int (nI (op))), some (.int (oI (placeF A e op))), none]) (st' := [.int (nI (op)), .int (nI (e)), .ref am]) rfl rfl (Nat.le_of_ble_eq_true rfl) ?_
        refine VR.call h (np := 2) (st := []) (r_waitsFor hls A e op K he hw hf ho hl hK9 hB (by omega)) wc_X11_waitsFor wn_RX11 (Or.inl wm_RX11_201) wi_X11_waitsFor we_X11_waitsFor (by decide +kernel) rfl (by decide) (by decide) (by simp [Value.category]) (by decide +kernel) rfl ?_
        exact VR.vret h hA hQ hr rfl (by rw [exeF, if_neg (by omega), if_neg (by rw [q92_12]; decide), if_pos (Decidable.of_not_not (of_decide_eq_false q105_21))]) (by decide +kernel)
    · have q92_12 := (bI_1 (fun z => q (bI_0.mpr z)))
      clear q
      exact VR.vret h hA hQ hr rfl (by rw [exeF, if_neg (by omega), if_pos q92_12]) (by decide +kernel)
  · have q8_7 : ¬ _ := (fun z => q ((oI_neg (by omega)).mpr z))
    clear q
    refine VR.eqL (ls' := [some (.ref am), some (.int (nI (e))), some (.int (nI (op))), some (.int (nI ((placeF A e op) - 1))), none]) (by rw [oI_posI (by omega)]) ?_
    refine VR.blk h [(.iload_n 3, 1), (.aload_n 0, 1)] (by decide +kernel) (pc' := 13) (ls' := [some (.ref am), some (.int (nI (e))), some (.int (nI (op))), some (.int (nI ((placeF A e op) - 1))), none]) (st' := [.ref am, .int (nI ((placeF A e op) - 1))]) rfl rfl (Nat.le_of_ble_eq_true rfl) ?_
    refine VR.getA h (j := 28) rfl (Or.inl wf_RX11_75) (by decide +kernel) ?_
    refine VR.blk h [(.iload_n 1, 1)] (by decide +kernel) (pc' := 17) (ls' := [some (.ref am), some (.int (nI (e))), some (.int (nI (op))), some (.int (nI ((placeF A e op) - 1))), none]) (st' := [.int (nI (e)), .ref (ad 28), .int (nI ((placeF A e op) - 1))]) rfl rfl (Nat.le_of_ble_eq_true rfl) ?_
    refine VR.iald h (j := 28) (i := e) rfl rfl (by show _ < 12; omega) (by decide +kernel) (v := (nI (tn A 28 e))) (mval_1 rfl) ?_
    have nb102 := hB.2 28 e
    refine VR.icmp_ge h (off := 25) (by decide +kernel) (tgt := 43) (by decide) (fun q => ?_) (fun q => ?_)
    · have q18_103 := ((nI_leI (by omega) (by omega)).mp q)
      clear q
      refine VR.blk h [(.aload_n 0, 1)] (by decide +kernel) (pc' := 44) (ls' := [some (.ref am), some (.int (nI (e))), some (.int (nI (op))), some (.int (nI ((placeF A e op) - 1))), none]) (st' := [.ref am]) rfl rfl (Nat.le_of_ble_eq_true rfl) ?_
      refine VR.getA h (j := 24) rfl (Or.inl wf_RX11_63) (by decide +kernel) ?_
      refine VR.blk h [(.sipush 600, 3), (.iload_n 1, 1)] (by decide +kernel) (pc' := 51) (ls' := [some (.ref am), some (.int (nI (e))), some (.int (nI (op))), some (.int (nI ((placeF A e op) - 1))), none]) (st' := [.int (nI (e)), .int (nI (600)), .ref (ad 24)]) rfl rfl (Nat.le_of_ble_eq_true rfl) ?_
      refine VR.mulN h (by decide +kernel) (Nat.le_of_ble_eq_true rfl) ?_
      refine VR.blk h [(.iload_n 3, 1)] (by decide +kernel) (pc' := 53) (ls' := [some (.ref am), some (.int (nI (e))), some (.int (nI (op))), some (.int (nI ((placeF A e op) - 1))), none]) (st' := [.int (nI ((placeF A e op) - 1)), .int (nI (600 * e)), .ref (ad 24)]) rfl rfl (Nat.le_of_ble_eq_true rfl) ?_
      refine VR.addN h (by decide +kernel) (Nat.le_of_ble_eq_true rfl) ?_
      refine VR.bald h (j := 24) (i := (600 * e) + ((placeF A e op) - 1)) rfl rfl (by show _ < 7200; omega) (by decide +kernel) (v := (bI (tb A 24 ((600 * e) + ((placeF A e op) - 1))))) (mval_4 rfl) ?_
      refine VR.if_eq h (off := 11) (by decide +kernel) (tgt := 66) (by decide) (fun q => ?_) (fun q => ?_)
      · have q55_113 := (bI_0.mp q)
        clear q
        refine VR.blk h [(.aload_n 0, 1), (.iload_n 1, 1), (.iload_n 2, 1), (.aload_n 0, 1)] (by decide +kernel) (pc' := 70) (ls' := [some (.ref am), some (.int (nI (e))), some (.int (nI (op))), some (.int (nI ((placeF A e op) - 1))), none]) (st' := [.ref am, .int (nI (op)), .int (nI (e)), .ref am]) rfl rfl (Nat.le_of_ble_eq_true rfl) ?_
        refine VR.getA h (j := 23) rfl (Or.inl wf_RX11_60) (by decide +kernel) ?_
        refine VR.blk h [(.sipush 600, 3), (.iload_n 1, 1)] (by decide +kernel) (pc' := 77) (ls' := [some (.ref am), some (.int (nI (e))), some (.int (nI (op))), some (.int (nI ((placeF A e op) - 1))), none]) (st' := [.int (nI (e)), .int (nI (600)), .ref (ad 23), .int (nI (op)), .int (nI (e)), .ref am]) rfl rfl (Nat.le_of_ble_eq_true rfl) ?_
        refine VR.mulN h (by decide +kernel) (Nat.le_of_ble_eq_true rfl) ?_
        refine VR.blk h [(.iload_n 3, 1)] (by decide +kernel) (pc' := 79) (ls' := [some (.ref am), some (.int (nI (e))), some (.int (nI (op))), some (.int (nI ((placeF A e op) - 1))), none]) (st' := [.int (nI ((placeF A e op) - 1)), .int (nI (600 * e)), .ref (ad 23), .int (nI (op)), .int (nI (e)), .ref am]) rfl rfl (Nat.le_of_ble_eq_true rfl) ?_
        refine VR.addN h (by decide +kernel) (Nat.le_of_ble_eq_true rfl) ?_
        refine VR.iald h (j := 23) (i := (600 * e) + ((placeF A e op) - 1)) rfl rfl (by show _ < 7200; omega) (by decide +kernel) (v := (tr A 23 ((600 * e) + ((placeF A e op) - 1)))) (mval_3 rfl) ?_
        refine VR.blk h [(.iconst 0, 1)] (by decide +kernel) (pc' := 82) (ls' := [some (.ref am), some (.int (nI (e))), some (.int (nI (op))), some (.int (nI ((placeF A e op) - 1))), none]) (st' := [.int (nI (0)), .int (tr A 23 ((600 * e) + ((placeF A e op) - 1))), .int (nI (op)), .int (nI (e)), .ref am]) rfl rfl (Nat.le_of_ble_eq_true rfl) ?_
        refine VR.call h (np := 4) (st := []) (r_answers hls A e op (tr A 23 ((600 * e) + ((placeF A e op) - 1))) false K (by omega) ho (by omega) hl (by omega) hB (by omega)) wc_X11_answers wn_RX11 (Or.inl wm_RX11_187) wi_X11_answers we_X11_answers (by decide +kernel) rfl (by decide) (by decide) (by simp [Value.category]) (by decide +kernel) (by simp [oI_s, bI_f, bI_t]) ?_
        exact VR.vret h hA hQ hr rfl (by rw [exeF, if_pos (by omega), if_neg (by omega), if_neg (by rw [q55_113]; decide)]) (by decide +kernel)
      · have q55_113 := (bI_1 (fun z => q (bI_0.mpr z)))
        clear q
        refine VR.blk h [(.aload_n 0, 1), (.iload_n 1, 1)] (by decide +kernel) (pc' := 60) (ls' := [some (.ref am), some (.int (nI (e))), some (.int (nI (op))), some (.int (nI ((placeF A e op) - 1))), none]) (st' := [.int (nI (e)), .ref am]) rfl rfl (Nat.le_of_ble_eq_true rfl) ?_
        refine VR.call h (np := 1) (st := []) (r_syncs hls A e K he hf hl hK9 hB (by omega)) wc_X11_syncs wn_RX11 (Or.inl wm_RX11_191) wi_X11_syncs we_X11_syncs (by decide +kernel) rfl (by decide) (by decide) (by simp [Value.category]) (by decide +kernel) rfl ?_
        refine VR.goto h (off := 22) (tgt := 85) (by decide +kernel) (by decide) ?_
        exact VR.vret h hA hQ hr rfl (by rw [exeF, if_pos (by omega), if_neg (by omega), if_pos q55_113]) (by decide +kernel)
    · have q18_103 : ¬ _ := (fun z => q ((nI_leI (by omega) (by omega)).mpr z))
      clear q
      refine VR.blk h [(.aload_n 0, 1), (.iload_n 1, 1), (.iload_n 2, 1), (.aload_n 0, 1)] (by decide +kernel) (pc' := 25) (ls' := [some (.ref am), some (.int (nI (e))), some (.int (nI (op))), some (.int (nI ((placeF A e op) - 1))), none]) (st' := [.ref am, .int (nI (op)), .int (nI (e)), .ref am]) rfl rfl (Nat.le_of_ble_eq_true rfl) ?_
      refine VR.getA h (j := 23) rfl (Or.inl wf_RX11_60) (by decide +kernel) ?_
      refine VR.blk h [(.sipush 600, 3), (.iload_n 1, 1)] (by decide +kernel) (pc' := 32) (ls' := [some (.ref am), some (.int (nI (e))), some (.int (nI (op))), some (.int (nI ((placeF A e op) - 1))), none]) (st' := [.int (nI (e)), .int (nI (600)), .ref (ad 23), .int (nI (op)), .int (nI (e)), .ref am]) rfl rfl (Nat.le_of_ble_eq_true rfl) ?_
      refine VR.mulN h (by decide +kernel) (Nat.le_of_ble_eq_true rfl) ?_
      refine VR.blk h [(.iload_n 3, 1)] (by decide +kernel) (pc' := 34) (ls' := [some (.ref am), some (.int (nI (e))), some (.int (nI (op))), some (.int (nI ((placeF A e op) - 1))), none]) (st' := [.int (nI ((placeF A e op) - 1)), .int (nI (600 * e)), .ref (ad 23), .int (nI (op)), .int (nI (e)), .ref am]) rfl rfl (Nat.le_of_ble_eq_true rfl) ?_
      refine VR.addN h (by decide +kernel) (Nat.le_of_ble_eq_true rfl) ?_
      refine VR.iald h (j := 23) (i := (600 * e) + ((placeF A e op) - 1)) rfl rfl (by show _ < 7200; omega) (by decide +kernel) (v := (tr A 23 ((600 * e) + ((placeF A e op) - 1)))) (mval_3 rfl) ?_
      refine VR.blk h [(.iconst 1, 1)] (by decide +kernel) (pc' := 37) (ls' := [some (.ref am), some (.int (nI (e))), some (.int (nI (op))), some (.int (nI ((placeF A e op) - 1))), none]) (st' := [.int (nI (1)), .int (tr A 23 ((600 * e) + ((placeF A e op) - 1))), .int (nI (op)), .int (nI (e)), .ref am]) rfl rfl (Nat.le_of_ble_eq_true rfl) ?_
      refine VR.call h (np := 4) (st := []) (r_answers hls A e op (tr A 23 ((600 * e) + ((placeF A e op) - 1))) true K (by omega) ho (by omega) hl (by omega) hB (by omega)) wc_X11_answers wn_RX11 (Or.inl wm_RX11_187) wi_X11_answers we_X11_answers (by decide +kernel) rfl (by decide) (by decide) (by simp [Value.category]) (by decide +kernel) (by simp [oI_s, bI_f, bI_t]) ?_
      refine VR.goto h (off := 45) (tgt := 85) (by decide +kernel) (by decide) ?_
      exact VR.vret h hA hQ hr rfl (by rw [exeF, if_pos (by omega), if_pos (by omega)]) (by decide +kernel)
