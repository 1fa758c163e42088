/-! ===== the next record; a new master takes a log ===== -/
theorem opA_n {a : Nat → Nat → Nat} {t : Nat} (h : t ≠ 0) : opA a t = some (a 6 (t - 1)) := if_neg h
def nbF (A : TS) (w lo : Nat) : Nat → Nat
  | 0 => 0
  | k + 1 => if plW A w k ≠ 0 ∧ (lo = 0 ∨ cbF A (plW A w k - 1) (lo - 1) = true) ∧ (nbF A w lo k = 0 ∨ cbF A (nbF A w lo k - 1) (plW A w k - 1) = true) then plW A w k else nbF A w lo k
theorem nbF_le {A : TS} {w lo m n : Nat} (h : ∀ i, i < n → plW A w i ≤ m) : ∀ k, k ≤ n → nbF A w lo k ≤ m
  | 0, _ => Nat.zero_le _
  | k + 1, hk => by
    have := nbF_le (lo := lo) h k (by omega)
    unfold nbF
    split
    · exact h k (by omega)
    · exact this
set_option maxRecDepth 100000 in
set_option maxHeartbeats 4000000 in
theorem c_recordBehind0 {l : Launch} {D : va_G} {tc : Nat → ClassId} {ax ay : Nat → Nat → Nat} {A : TS} {S : HS} (hls : l.stackTraces = false) (hS : RA tc (mx ax ay) A S) {w : Nat} {K : Nat}  (hw : w < tf A 1) (hB : NB K A) (hK : K < 1900000000) {post : Option Value → HS → Prop} (hp : post (some (va_rf (opA (mx ax ay) (nbF A w 0 (tf A 2 * tf A 3))))) S) : CM l D tc yX9_recordBehind cX9_recordBehind 5 (some (.object "OneTrip$Operation")) 1 0 0 [.ref (ax 9 w), .null] S post := by
  refine CM.of hls (by decide +kernel) (by simp [Value.category]) (Nat.le_of_ble_eq_true rfl) (fun A0 p e9 s m args below meth c sz h hr hnm hA => ?_)
  obtain ⟨f1, f2, f3, f4, f5, f6⟩ := hS.2.2.1
  have hsw : tf A 2 * tf A 3 ≤ 4 * 4 := Nat.mul_le_mul f4 f6
  have h13 := hS.2.2.2.1.2.2.2.1
  have hpl : ∀ i, i < tf A 2 * tf A 3 → plW A w i ≤ tf A 13 := fun i hi => hS.2.2.2.2.2.2.2.2.2 w i hw (by omega)
  refine V.eqL (ls' := [some (.ref (ax 9 w)), some (.null), none, none, none]) rfl ?_
  refine V.blk h [(.aconst_null, 1), (.astore_n 2, 1), (.iconst 0, 1), (.istore_n 3, 1)] (by decide +kernel) (pc' := 4) (ls' := [some (.ref (ax 9 w)), some (.null), some (.null), some (.int (nI (0))), none]) (st' := []) rfl rfl (Nat.le_of_ble_eq_true rfl) ?_
  have loop4 : ∀ (t k : Nat), (tf A 2 * tf A 3) - k = t → k ≤ (tf A 2 * tf A 3) → V l D tc A0 p e9 (rmd 1 0 0) s m args below meth c 5 (MQ below (zQ D tc post S sz) args s 0 0 (zAd S sz)) S 0 0 4 [some (.ref (ax 9 w)), some (.null), some (va_rf (opA (mx ax ay) (nbF A w 0 k))), some (.int (nI (k))), none] [] := by
    intro t; induction t using Nat.strongRecOn with
    | _ t ih4 =>
      intro k ht4 hk4
      have hnb := nbF_le (lo := 0) (k := k) hpl hk4
      refine V.blk h [(.iload_n 3, 1), (.aload_n 0, 1)] (by decide +kernel) (pc' := 6) (ls' := [some (.ref (ax 9 w)), some (.null), some (va_rf (opA (mx ax ay) (nbF A w 0 k))), some (.int (nI (k))), none]) (st' := [.ref (ax 9 w), .int (nI (k))]) rfl rfl (Nat.le_of_ble_eq_true rfl) ?_
      refine V.getP h cls_9 (j := 3) rfl (hS.mem (show lv A 9 w from hw)) (hS.knd (show lv A 9 w from hw)) (Or.inl wf_RX9_29) (by decide +kernel) (v := some (ax 27 w)) (hS.ptr (show lv A 9 w from hw) (by decide) (by decide) rfl) ?_
      refine V.eq (S' := S) (ls' := [some (.ref (ax 9 w)), some (.null), some (va_rf (opA (mx ax ay) (nbF A w 0 k))), some (.int (nI (k))), none]) (st' := [.ref (ax 27 w), .int (nI (k))]) rfl rfl rfl ?_
      refine V.alen h 27 (hS.mem (show lv A 27 w from hw)) (hS.knd (show lv A 27 w from hw)) (by decide) (M := tf A 2 * tf A 3) (hS.len (show lv A 27 w from hw) (by decide)) (by decide +kernel) ?_
      refine V.icmp_ge h (off := 51) (by decide +kernel) (tgt := 61) (by decide) (fun q => ?_) (fun q => ?_)
      · have q10_15 := ((nI_leI (by omega) (by omega)).mp q)
        clear q
        by_cases hnx61 : nbF A w 0 k = 0
        · skip
          refine V.eqL (ls' := [some (.ref (ax 9 w)), some (.null), some (.null), some (.int (nI (k))), none]) (by rw [hnx61]; rfl) ?_
          refine V.blk h [(.aload_n 2, 1)] (by decide +kernel) (pc' := 62) (ls' := [some (.ref (ax 9 w)), some (.null), some (.null), some (.int (nI (k))), none]) (st' := [.null]) rfl rfl (Nat.le_of_ble_eq_true rfl) ?_
          exact V.aret h hA hr (o := none) (Or.inl ⟨_, rfl⟩) (by have z9 := hp; rw [show tf A 2 * tf A 3 = k from by omega, hnx61] at z9; exact z9) (by decide +kernel) (Nat.zero_le _) (Nat.zero_le _)
        · skip
          refine V.eqL (ls' := [some (.ref (ax 9 w)), some (.null), some (.ref (ax 6 (nbF A w 0 k - 1))), some (.int (nI (k))), none]) (by rw [opA_n hnx61]; rfl) ?_
          refine V.blk h [(.aload_n 2, 1)] (by decide +kernel) (pc' := 62) (ls' := [some (.ref (ax 9 w)), some (.null), some (.ref (ax 6 (nbF A w 0 k - 1))), some (.int (nI (k))), none]) (st' := [.ref (ax 6 (nbF A w 0 k - 1))]) rfl rfl (Nat.le_of_ble_eq_true rfl) ?_
          exact V.aret h hA hr (o := some (ax 6 (nbF A w 0 k - 1))) (Or.inl ⟨_, rfl⟩) (by have z9 := hp; rw [show tf A 2 * tf A 3 = k from by omega, opA_n hnx61] at z9; exact z9) (by decide +kernel) (Nat.zero_le _) (Nat.zero_le _)
      · have q10_15 : ¬ _ := (fun z => q ((nI_leI (by omega) (by omega)).mpr z))
        clear q
        by_cases hpl13 : tn A 1 (16 * w + k) = 0
        · skip
          refine V.blk h [(.aload_n 0, 1)] (by decide +kernel) (pc' := 14) (ls' := [some (.ref (ax 9 w)), some (.null), some (va_rf (opA (mx ax ay) (nbF A w 0 k))), some (.int (nI (k))), none]) (st' := [.ref (ax 9 w)]) rfl rfl (Nat.le_of_ble_eq_true rfl) ?_
          by_cases hnx14 : nbF A w 0 k = 0
          · skip
            refine V.eqL (ls' := [some (.ref (ax 9 w)), some (.null), some (.null), some (.int (nI (k))), none]) (by rw [hnx14]; rfl) ?_
            refine V.getP h cls_9 (j := 3) rfl (hS.mem (show lv A 9 w from hw)) (hS.knd (show lv A 9 w from hw)) (Or.inl wf_RX9_29) (by decide +kernel) (v := some (ax 27 w)) (hS.ptr (show lv A 9 w from hw) (by decide) (by decide) rfl) ?_
            refine V.eq (S' := S) (ls' := [some (.ref (ax 9 w)), some (.null), some (.null), some (.int (nI (k))), none]) (st' := [.ref (ax 27 w)]) rfl rfl rfl ?_
            refine V.blk h [(.iload_n 3, 1)] (by decide +kernel) (pc' := 18) (ls' := [some (.ref (ax 9 w)), some (.null), some (.null), some (.int (nI (k))), none]) (st' := [.int (nI (k)), .ref (ax 27 w)]) rfl rfl (Nat.le_of_ble_eq_true rfl) ?_
            refine V.aald h 27 (hS.mem (show lv A 27 w from hw)) (hS.knd (show lv A 27 w from hw)) (by decide) rfl (M := tf A 2 * tf A 3) (hS.len (show lv A 27 w from hw) (by decide)) (i := k) (by omega) (by show _ < 2 ^ 31; first | omega | decide) (by decide +kernel) (v := none) ((hS.ref (show lv A 27 w from hw) (by decide) (by show _ < tf A 2 * tf A 3; omega)).trans (by show opA _ (tn A 1 (16 * w + k)) = none; rw [hpl13]; rfl)) ?_
            refine V.eq (S' := S) (ls' := [some (.ref (ax 9 w)), some (.null), some (.null), some (.int (nI (k))), none]) (st' := [.null]) rfl rfl rfl ?_
            refine V.blk h [(.astore 4, 2), (.aload 4, 2)] (by decide +kernel) (pc' := 23) (ls' := [some (.ref (ax 9 w)), some (.null), some (.null), some (.int (nI (k))), some (.null)]) (st' := [.null]) rfl rfl (Nat.le_of_ble_eq_true rfl) ?_
            refine V.ifnull h (o := none) (off := 32) (by decide +kernel) (tgt := 55) (by decide) (fun _ => ?_) (fun _ z => by cases z)
            refine V.incN h (x := k) (i := 3) (by decide +kernel) rfl (Nat.le_of_ble_eq_true rfl) ?_
            refine V.eqL (ls' := [some (.ref (ax 9 w)), some (.null), some (.null), some (.int (nI (k + 1))), some (.null)]) rfl ?_
            refine V.goto h (off := -54) (tgt := 4) (by decide +kernel) (by decide) ?_
            refine V.drop 4 (ls' := [some (.ref (ax 9 w)), some (.null), some (.null), some (.int (nI (k + 1))), none]) rfl ?_
            refine V.eqL (ls' := [some (.ref (ax 9 w)), some (.null), some (va_rf (opA (mx ax ay) (nbF A w 0 ((k + 1))))), some (.int (nI ((k + 1)))), none]) (by rw [show nbF A w 0 (k + 1) = 0 from by simp [nbF, plW, hpl13, hnx14, q10_15]]; rfl) ?_
            exact ih4 ((tf A 2 * tf A 3) - (k + 1)) (by omega) (k + 1) rfl (by omega)
          · skip
            refine V.eqL (ls' := [some (.ref (ax 9 w)), some (.null), some (.ref (ax 6 (nbF A w 0 k - 1))), some (.int (nI (k))), none]) (by rw [opA_n hnx14]; rfl) ?_
            refine V.getP h cls_9 (j := 3) rfl (hS.mem (show lv A 9 w from hw)) (hS.knd (show lv A 9 w from hw)) (Or.inl wf_RX9_29) (by decide +kernel) (v := some (ax 27 w)) (hS.ptr (show lv A 9 w from hw) (by decide) (by decide) rfl) ?_
            refine V.eq (S' := S) (ls' := [some (.ref (ax 9 w)), some (.null), some (.ref (ax 6 (nbF A w 0 k - 1))), some (.int (nI (k))), none]) (st' := [.ref (ax 27 w)]) rfl rfl rfl ?_
            refine V.blk h [(.iload_n 3, 1)] (by decide +kernel) (pc' := 18) (ls' := [some (.ref (ax 9 w)), some (.null), some (.ref (ax 6 (nbF A w 0 k - 1))), some (.int (nI (k))), none]) (st' := [.int (nI (k)), .ref (ax 27 w)]) rfl rfl (Nat.le_of_ble_eq_true rfl) ?_
            refine V.aald h 27 (hS.mem (show lv A 27 w from hw)) (hS.knd (show lv A 27 w from hw)) (by decide) rfl (M := tf A 2 * tf A 3) (hS.len (show lv A 27 w from hw) (by decide)) (i := k) (by omega) (by show _ < 2 ^ 31; first | omega | decide) (by decide +kernel) (v := none) ((hS.ref (show lv A 27 w from hw) (by decide) (by show _ < tf A 2 * tf A 3; omega)).trans (by show opA _ (tn A 1 (16 * w + k)) = none; rw [hpl13]; rfl)) ?_
            refine V.eq (S' := S) (ls' := [some (.ref (ax 9 w)), some (.null), some (.ref (ax 6 (nbF A w 0 k - 1))), some (.int (nI (k))), none]) (st' := [.null]) rfl rfl rfl ?_
            refine V.blk h [(.astore 4, 2), (.aload 4, 2)] (by decide +kernel) (pc' := 23) (ls' := [some (.ref (ax 9 w)), some (.null), some (.ref (ax 6 (nbF A w 0 k - 1))), some (.int (nI (k))), some (.null)]) (st' := [.null]) rfl rfl (Nat.le_of_ble_eq_true rfl) ?_
            refine V.ifnull h (o := none) (off := 32) (by decide +kernel) (tgt := 55) (by decide) (fun _ => ?_) (fun _ z => by cases z)
            refine V.incN h (x := k) (i := 3) (by decide +kernel) rfl (Nat.le_of_ble_eq_true rfl) ?_
            refine V.eqL (ls' := [some (.ref (ax 9 w)), some (.null), some (.ref (ax 6 (nbF A w 0 k - 1))), some (.int (nI (k + 1))), some (.null)]) rfl ?_
            refine V.goto h (off := -54) (tgt := 4) (by decide +kernel) (by decide) ?_
            refine V.drop 4 (ls' := [some (.ref (ax 9 w)), some (.null), some (.ref (ax 6 (nbF A w 0 k - 1))), some (.int (nI (k + 1))), none]) rfl ?_
            refine V.eqL (ls' := [some (.ref (ax 9 w)), some (.null), some (va_rf (opA (mx ax ay) (nbF A w 0 ((k + 1))))), some (.int (nI ((k + 1)))), none]) (by rw [show nbF A w 0 (k + 1) = nbF A w 0 k from by simp [nbF, plW, hpl13, hnx14, q10_15]]; rw [opA_n hnx14]; rfl) ?_
            exact ih4 ((tf A 2 * tf A 3) - (k + 1)) (by omega) (k + 1) rfl (by omega)
        · skip
          refine V.blk h [(.aload_n 0, 1)] (by decide +kernel) (pc' := 14) (ls' := [some (.ref (ax 9 w)), some (.null), some (va_rf (opA (mx ax ay) (nbF A w 0 k))), some (.int (nI (k))), none]) (st' := [.ref (ax 9 w)]) rfl rfl (Nat.le_of_ble_eq_true rfl) ?_
          by_cases hnx14 : nbF A w 0 k = 0
          · skip
            refine V.eqL (ls' := [some (.ref (ax 9 w)), some (.null), some (.null), some (.int (nI (k))), none]) (by rw [hnx14]; rfl) ?_
            refine V.getP h cls_9 (j := 3) rfl (hS.mem (show lv A 9 w from hw)) (hS.knd (show lv A 9 w from hw)) (Or.inl wf_RX9_29) (by decide +kernel) (v := some (ax 27 w)) (hS.ptr (show lv A 9 w from hw) (by decide) (by decide) rfl) ?_
            refine V.eq (S' := S) (ls' := [some (.ref (ax 9 w)), some (.null), some (.null), some (.int (nI (k))), none]) (st' := [.ref (ax 27 w)]) rfl rfl rfl ?_
            refine V.blk h [(.iload_n 3, 1)] (by decide +kernel) (pc' := 18) (ls' := [some (.ref (ax 9 w)), some (.null), some (.null), some (.int (nI (k))), none]) (st' := [.int (nI (k)), .ref (ax 27 w)]) rfl rfl (Nat.le_of_ble_eq_true rfl) ?_
            refine V.aald h 27 (hS.mem (show lv A 27 w from hw)) (hS.knd (show lv A 27 w from hw)) (by decide) rfl (M := tf A 2 * tf A 3) (hS.len (show lv A 27 w from hw) (by decide)) (i := k) (by omega) (by show _ < 2 ^ 31; first | omega | decide) (by decide +kernel) (v := some (ax 6 (tn A 1 (16 * w + k) - 1))) ((hS.ref (show lv A 27 w from hw) (by decide) (by show _ < tf A 2 * tf A 3; omega)).trans (by show opA _ (tn A 1 (16 * w + k)) = _; unfold opA; rw [if_neg hpl13]; rfl)) ?_
            refine V.eq (S' := S) (ls' := [some (.ref (ax 9 w)), some (.null), some (.null), some (.int (nI (k))), none]) (st' := [.ref (ax 6 (tn A 1 (16 * w + k) - 1))]) rfl rfl rfl ?_
            refine V.blk h [(.astore 4, 2), (.aload 4, 2)] (by decide +kernel) (pc' := 23) (ls' := [some (.ref (ax 9 w)), some (.null), some (.null), some (.int (nI (k))), some (.ref (ax 6 (tn A 1 (16 * w + k) - 1)))]) (st' := [.ref (ax 6 (tn A 1 (16 * w + k) - 1))]) rfl rfl (Nat.le_of_ble_eq_true rfl) ?_
            refine V.ifnull h (o := (some (ax 6 (tn A 1 (16 * w + k) - 1)))) (off := 32) (by decide +kernel) (tgt := 55) (by decide) (fun z => by cases z) (fun _ _ => ?_)
            refine V.blk h [(.aload_n 1, 1)] (by decide +kernel) (pc' := 27) (ls' := [some (.ref (ax 9 w)), some (.null), some (.null), some (.int (nI (k))), some (.ref (ax 6 (tn A 1 (16 * w + k) - 1)))]) (st' := [.null]) rfl rfl (Nat.le_of_ble_eq_true rfl) ?_
            refine V.ifnull h (o := none) (off := 12) (by decide +kernel) (tgt := 39) (by decide) (fun _ => ?_) (fun _ z => by cases z)
            refine V.blk h [(.aload_n 2, 1)] (by decide +kernel) (pc' := 40) (ls' := [some (.ref (ax 9 w)), some (.null), some (.null), some (.int (nI (k))), some (.ref (ax 6 (tn A 1 (16 * w + k) - 1)))]) (st' := [.null]) rfl rfl (Nat.le_of_ble_eq_true rfl) ?_
            refine V.ifnull h (o := none) (off := 12) (by decide +kernel) (tgt := 52) (by decide) (fun _ => ?_) (fun _ z => by cases z)
            refine V.blk h [(.aload 4, 2), (.astore_n 2, 1)] (by decide +kernel) (pc' := 55) (ls' := [some (.ref (ax 9 w)), some (.null), some (.ref (ax 6 (tn A 1 (16 * w + k) - 1))), some (.int (nI (k))), some (.ref (ax 6 (tn A 1 (16 * w + k) - 1)))]) (st' := []) rfl rfl (Nat.le_of_ble_eq_true rfl) ?_
            refine V.incN h (x := k) (i := 3) (by decide +kernel) rfl (Nat.le_of_ble_eq_true rfl) ?_
            refine V.eqL (ls' := [some (.ref (ax 9 w)), some (.null), some (.ref (ax 6 (tn A 1 (16 * w + k) - 1))), some (.int (nI (k + 1))), some (.ref (ax 6 (tn A 1 (16 * w + k) - 1)))]) rfl ?_
            refine V.goto h (off := -54) (tgt := 4) (by decide +kernel) (by decide) ?_
            refine V.drop 4 (ls' := [some (.ref (ax 9 w)), some (.null), some (.ref (ax 6 (tn A 1 (16 * w + k) - 1))), some (.int (nI (k + 1))), none]) rfl ?_
            refine V.eqL (ls' := [some (.ref (ax 9 w)), some (.null), some (va_rf (opA (mx ax ay) (nbF A w 0 ((k + 1))))), some (.int (nI ((k + 1)))), none]) (by rw [show nbF A w 0 (k + 1) = tn A 1 (16 * w + k) from by simp [nbF, plW, hpl13, hnx14, q10_15]]; rw [opA_n hpl13]; rfl) ?_
            exact ih4 ((tf A 2 * tf A 3) - (k + 1)) (by omega) (k + 1) rfl (by omega)
          · skip
            refine V.eqL (ls' := [some (.ref (ax 9 w)), some (.null), some (.ref (ax 6 (nbF A w 0 k - 1))), some (.int (nI (k))), none]) (by rw [opA_n hnx14]; rfl) ?_
            refine V.getP h cls_9 (j := 3) rfl (hS.mem (show lv A 9 w from hw)) (hS.knd (show lv A 9 w from hw)) (Or.inl wf_RX9_29) (by decide +kernel) (v := some (ax 27 w)) (hS.ptr (show lv A 9 w from hw) (by decide) (by decide) rfl) ?_
            refine V.eq (S' := S) (ls' := [some (.ref (ax 9 w)), some (.null), some (.ref (ax 6 (nbF A w 0 k - 1))), some (.int (nI (k))), none]) (st' := [.ref (ax 27 w)]) rfl rfl rfl ?_
            refine V.blk h [(.iload_n 3, 1)] (by decide +kernel) (pc' := 18) (ls' := [some (.ref (ax 9 w)), some (.null), some (.ref (ax 6 (nbF A w 0 k - 1))), some (.int (nI (k))), none]) (st' := [.int (nI (k)), .ref (ax 27 w)]) rfl rfl (Nat.le_of_ble_eq_true rfl) ?_
            refine V.aald h 27 (hS.mem (show lv A 27 w from hw)) (hS.knd (show lv A 27 w from hw)) (by decide) rfl (M := tf A 2 * tf A 3) (hS.len (show lv A 27 w from hw) (by decide)) (i := k) (by omega) (by show _ < 2 ^ 31; first | omega | decide) (by decide +kernel) (v := some (ax 6 (tn A 1 (16 * w + k) - 1))) ((hS.ref (show lv A 27 w from hw) (by decide) (by show _ < tf A 2 * tf A 3; omega)).trans (by show opA _ (tn A 1 (16 * w + k)) = _; unfold opA; rw [if_neg hpl13]; rfl)) ?_
            refine V.eq (S' := S) (ls' := [some (.ref (ax 9 w)), some (.null), some (.ref (ax 6 (nbF A w 0 k - 1))), some (.int (nI (k))), none]) (st' := [.ref (ax 6 (tn A 1 (16 * w + k) - 1))]) rfl rfl rfl ?_
            refine V.blk h [(.astore 4, 2), (.aload 4, 2)] (by decide +kernel) (pc' := 23) (ls' := [some (.ref (ax 9 w)), some (.null), some (.ref (ax 6 (nbF A w 0 k - 1))), some (.int (nI (k))), some (.ref (ax 6 (tn A 1 (16 * w + k) - 1)))]) (st' := [.ref (ax 6 (tn A 1 (16 * w + k) - 1))]) rfl rfl (Nat.le_of_ble_eq_true rfl) ?_
            refine V.ifnull h (o := (some (ax 6 (tn A 1 (16 * w + k) - 1)))) (off := 32) (by decide +kernel) (tgt := 55) (by decide) (fun z => by cases z) (fun _ _ => ?_)
            refine V.blk h [(.aload_n 1, 1)] (by decide +kernel) (pc' := 27) (ls' := [some (.ref (ax 9 w)), some (.null), some (.ref (ax 6 (nbF A w 0 k - 1))), some (.int (nI (k))), some (.ref (ax 6 (tn A 1 (16 * w + k) - 1)))]) (st' := [.null]) rfl rfl (Nat.le_of_ble_eq_true rfl) ?_
            refine V.ifnull h (o := none) (off := 12) (by decide +kernel) (tgt := 39) (by decide) (fun _ => ?_) (fun _ z => by cases z)
            refine V.blk h [(.aload_n 2, 1)] (by decide +kernel) (pc' := 40) (ls' := [some (.ref (ax 9 w)), some (.null), some (.ref (ax 6 (nbF A w 0 k - 1))), some (.int (nI (k))), some (.ref (ax 6 (tn A 1 (16 * w + k) - 1)))]) (st' := [.ref (ax 6 (nbF A w 0 k - 1))]) rfl rfl (Nat.le_of_ble_eq_true rfl) ?_
            refine V.ifnull h (o := (some (ax 6 (nbF A w 0 k - 1)))) (off := 12) (by decide +kernel) (tgt := 52) (by decide) (fun z => by cases z) (fun _ _ => ?_)
            refine V.blk h [(.aload_n 2, 1), (.aload 4, 2)] (by decide +kernel) (pc' := 46) (ls' := [some (.ref (ax 9 w)), some (.null), some (.ref (ax 6 (nbF A w 0 k - 1))), some (.int (nI (k))), some (.ref (ax 6 (tn A 1 (16 * w + k) - 1)))]) (st' := [.ref (ax 6 (tn A 1 (16 * w + k) - 1)), .ref (ax 6 (nbF A w 0 k - 1))]) rfl rfl (Nat.le_of_ble_eq_true rfl) ?_
            refine V.callV h (np := 1) (st := []) (c_comesBehind hls hS (op := nbF A w 0 k - 1) (ot := tn A 1 (16 * w + k) - 1) (show lv A 6 (nbF A w 0 k - 1) from (by show nbF A w 0 k - 1 < tf A 13; omega)) hB (by omega) (show lv A 6 (tn A 1 (16 * w + k) - 1) from (by have z9 := hS.2.2.2.2.2.2.2.2.2 w k hw (by omega); show tn A 1 (16 * w + k) - 1 < tf A 13; omega)) (post := fun v S7 => v = some (.int (bI (cbF A (nbF A w 0 k - 1) (tn A 1 (16 * w + k) - 1)))) ∧ S = S7) ⟨rfl, rfl⟩) wc_X6_comesBehind wn_RX6 (Or.inr ⟨_, wm_RX9_49⟩) wi_X6_comesBehind we_X6_comesBehind (by decide +kernel) rfl cls_6 (hS.mem (show lv A 6 (nbF A w 0 k - 1) from (by show nbF A w 0 k - 1 < tf A 13; omega))) (hS.knd (show lv A 6 (nbF A w 0 k - 1) from (by show nbF A w 0 k - 1 < tf A 13; omega))) (Nat.le_of_ble_eq_true rfl) (Nat.le_of_ble_eq_true rfl) (Nat.zero_le _) (Nat.zero_le _) (by simp [Value.category]) (by decide +kernel) rfl (fun v Z1 q9 => ?_)
            obtain ⟨rfl, hS9⟩ := q9
            subst hS9
            refine V.eq (S' := S) (ls' := [some (.ref (ax 9 w)), some (.null), some (.ref (ax 6 (nbF A w 0 k - 1))), some (.int (nI (k))), some (.ref (ax 6 (tn A 1 (16 * w + k) - 1)))]) (st' := [.int (bI (cbF A (nbF A w 0 k - 1) (tn A 1 (16 * w + k) - 1)))]) rfl rfl rfl ?_
            refine V.if_eq h (off := 6) (by decide +kernel) (tgt := 55) (by decide) (fun q => ?_) (fun q => ?_)
            · have q49_104 := (bI_0.mp q)
              clear q
              refine V.incN h (x := k) (i := 3) (by decide +kernel) rfl (Nat.le_of_ble_eq_true rfl) ?_
              refine V.eqL (ls' := [some (.ref (ax 9 w)), some (.null), some (.ref (ax 6 (nbF A w 0 k - 1))), some (.int (nI (k + 1))), some (.ref (ax 6 (tn A 1 (16 * w + k) - 1)))]) rfl ?_
              refine V.goto h (off := -54) (tgt := 4) (by decide +kernel) (by decide) ?_
              refine V.drop 4 (ls' := [some (.ref (ax 9 w)), some (.null), some (.ref (ax 6 (nbF A w 0 k - 1))), some (.int (nI (k + 1))), none]) rfl ?_
              refine V.eqL (ls' := [some (.ref (ax 9 w)), some (.null), some (va_rf (opA (mx ax ay) (nbF A w 0 ((k + 1))))), some (.int (nI ((k + 1)))), none]) (by rw [show nbF A w 0 (k + 1) = nbF A w 0 k from by simp [nbF, plW, hpl13, hnx14, q10_15, q49_104]]; rw [opA_n hnx14]; rfl) ?_
              exact ih4 ((tf A 2 * tf A 3) - (k + 1)) (by omega) (k + 1) rfl (by omega)
            · have q49_104 := (bI_1 (fun z => q (bI_0.mpr z)))
              clear q
              refine V.blk h [(.aload 4, 2), (.astore_n 2, 1)] (by decide +kernel) (pc' := 55) (ls' := [some (.ref (ax 9 w)), some (.null), some (.ref (ax 6 (tn A 1 (16 * w + k) - 1))), some (.int (nI (k))), some (.ref (ax 6 (tn A 1 (16 * w + k) - 1)))]) (st' := []) rfl rfl (Nat.le_of_ble_eq_true rfl) ?_
              refine V.incN h (x := k) (i := 3) (by decide +kernel) rfl (Nat.le_of_ble_eq_true rfl) ?_
              refine V.eqL (ls' := [some (.ref (ax 9 w)), some (.null), some (.ref (ax 6 (tn A 1 (16 * w + k) - 1))), some (.int (nI (k + 1))), some (.ref (ax 6 (tn A 1 (16 * w + k) - 1)))]) rfl ?_
              refine V.goto h (off := -54) (tgt := 4) (by decide +kernel) (by decide) ?_
              refine V.drop 4 (ls' := [some (.ref (ax 9 w)), some (.null), some (.ref (ax 6 (tn A 1 (16 * w + k) - 1))), some (.int (nI (k + 1))), none]) rfl ?_
              refine V.eqL (ls' := [some (.ref (ax 9 w)), some (.null), some (va_rf (opA (mx ax ay) (nbF A w 0 ((k + 1))))), some (.int (nI ((k + 1)))), none]) (by rw [show nbF A w 0 (k + 1) = tn A 1 (16 * w + k) from by simp [nbF, plW, hpl13, hnx14, q10_15, q49_104]]; rw [opA_n hpl13]; rfl) ?_
              exact ih4 ((tf A 2 * tf A 3) - (k + 1)) (by omega) (k + 1) rfl (by omega)
  refine V.eqL (ls' := [some (.ref (ax 9 w)), some (.null), some (va_rf (opA (mx ax ay) (nbF A w 0 0))), some (.int (nI (0))), none]) rfl ?_
  exact loop4 _ 0 rfl (Nat.zero_le _)
set_option maxRecDepth 100000 in
set_option maxHeartbeats 4000000 in
theorem c_recordBehindS {l : Launch} {D : va_G} {tc : Nat → ClassId} {ax ay : Nat → Nat → Nat} {A : TS} {S : HS} (hls : l.stackTraces = false) (hS : RA tc (mx ax ay) A S) {w : Nat} {lo : Nat} {K : Nat}  (hw : w < tf A 1) (hl0 : lo ≠ 0) (hl : lo ≤ tf A 13) (hB : NB K A) (hK : K < 1900000000) {post : Option Value → HS → Prop} (hp : post (some (va_rf (opA (mx ax ay) (nbF A w lo (tf A 2 * tf A 3))))) S) : CM l D tc yX9_recordBehind cX9_recordBehind 5 (some (.object "OneTrip$Operation")) 1 0 0 [.ref (ax 9 w), .ref (ax 6 (lo - 1))] S post := by
  refine CM.of hls (by decide +kernel) (by simp [Value.category]) (Nat.le_of_ble_eq_true rfl) (fun A0 p e9 s m args below meth c sz h hr hnm hA => ?_)
  obtain ⟨f1, f2, f3, f4, f5, f6⟩ := hS.2.2.1
  have hsw : tf A 2 * tf A 3 ≤ 4 * 4 := Nat.mul_le_mul f4 f6
  have h13 := hS.2.2.2.1.2.2.2.1
  have hpl : ∀ i, i < tf A 2 * tf A 3 → plW A w i ≤ tf A 13 := fun i hi => hS.2.2.2.2.2.2.2.2.2 w i hw (by omega)
  refine V.eqL (ls' := [some (.ref (ax 9 w)), some (.ref (ax 6 (lo - 1))), none, none, none]) rfl ?_
  refine V.blk h [(.aconst_null, 1), (.astore_n 2, 1), (.iconst 0, 1), (.istore_n 3, 1)] (by decide +kernel) (pc' := 4) (ls' := [some (.ref (ax 9 w)), some (.ref (ax 6 (lo - 1))), some (.null), some (.int (nI (0))), none]) (st' := []) rfl rfl (Nat.le_of_ble_eq_true rfl) ?_
  have loop4 : ∀ (t k : Nat), (tf A 2 * tf A 3) - k = t → k ≤ (tf A 2 * tf A 3) → V l D tc A0 p e9 (rmd 1 0 0) s m args below meth c 5 (MQ below (zQ D tc post S sz) args s 0 0 (zAd S sz)) S 0 0 4 [some (.ref (ax 9 w)), some (.ref (ax 6 (lo - 1))), some (va_rf (opA (mx ax ay) (nbF A w lo k))), some (.int (nI (k))), none] [] := by
    intro t; induction t using Nat.strongRecOn with
    | _ t ih4 =>
      intro k ht4 hk4
      have hnb := nbF_le (lo := lo) (k := k) hpl hk4
      refine V.blk h [(.iload_n 3, 1), (.aload_n 0, 1)] (by decide +kernel) (pc' := 6) (ls' := [some (.ref (ax 9 w)), some (.ref (ax 6 (lo - 1))), some (va_rf (opA (mx ax ay) (nbF A w lo k))), some (.int (nI (k))), none]) (st' := [.ref (ax 9 w), .int (nI (k))]) rfl rfl (Nat.le_of_ble_eq_true rfl) ?_
      refine V.getP h cls_9 (j := 3) rfl (hS.mem (show lv A 9 w from hw)) (hS.knd (show lv A 9 w from hw)) (Or.inl wf_RX9_29) (by decide +kernel) (v := some (ax 27 w)) (hS.ptr (show lv A 9 w from hw) (by decide) (by decide) rfl) ?_
      refine V.eq (S' := S) (ls' := [some (.ref (ax 9 w)), some (.ref (ax 6 (lo - 1))), some (va_rf (opA (mx ax ay) (nbF A w lo k))), some (.int (nI (k))), none]) (st' := [.ref (ax 27 w), .int (nI (k))]) rfl rfl rfl ?_
      refine V.alen h 27 (hS.mem (show lv A 27 w from hw)) (hS.knd (show lv A 27 w from hw)) (by decide) (M := tf A 2 * tf A 3) (hS.len (show lv A 27 w from hw) (by decide)) (by decide +kernel) ?_
      refine V.icmp_ge h (off := 51) (by decide +kernel) (tgt := 61) (by decide) (fun q => ?_) (fun q => ?_)
      · have q10_15 := ((nI_leI (by omega) (by omega)).mp q)
        clear q
        by_cases hnx61 : nbF A w lo k = 0
        · skip
          refine V.eqL (ls' := [some (.ref (ax 9 w)), some (.ref (ax 6 (lo - 1))), some (.null), some (.int (nI (k))), none]) (by rw [hnx61]; rfl) ?_
          refine V.blk h [(.aload_n 2, 1)] (by decide +kernel) (pc' := 62) (ls' := [some (.ref (ax 9 w)), some (.ref (ax 6 (lo - 1))), some (.null), some (.int (nI (k))), none]) (st' := [.null]) rfl rfl (Nat.le_of_ble_eq_true rfl) ?_
          exact V.aret h hA hr (o := none) (Or.inl ⟨_, rfl⟩) (by have z9 := hp; rw [show tf A 2 * tf A 3 = k from by omega, hnx61] at z9; exact z9) (by decide +kernel) (Nat.zero_le _) (Nat.zero_le _)
        · skip
          refine V.eqL (ls' := [some (.ref (ax 9 w)), some (.ref (ax 6 (lo - 1))), some (.ref (ax 6 (nbF A w lo k - 1))), some (.int (nI (k))), none]) (by rw [opA_n hnx61]; rfl) ?_
          refine V.blk h [(.aload_n 2, 1)] (by decide +kernel) (pc' := 62) (ls' := [some (.ref (ax 9 w)), some (.ref (ax 6 (lo - 1))), some (.ref (ax 6 (nbF A w lo k - 1))), some (.int (nI (k))), none]) (st' := [.ref (ax 6 (nbF A w lo k - 1))]) rfl rfl (Nat.le_of_ble_eq_true rfl) ?_
          exact V.aret h hA hr (o := some (ax 6 (nbF A w lo k - 1))) (Or.inl ⟨_, rfl⟩) (by have z9 := hp; rw [show tf A 2 * tf A 3 = k from by omega, opA_n hnx61] at z9; exact z9) (by decide +kernel) (Nat.zero_le _) (Nat.zero_le _)
      · have q10_15 : ¬ _ := (fun z => q ((nI_leI (by omega) (by omega)).mpr z))
        clear q
        by_cases hpl13 : tn A 1 (16 * w + k) = 0
        · skip
          refine V.blk h [(.aload_n 0, 1)] (by decide +kernel) (pc' := 14) (ls' := [some (.ref (ax 9 w)), some (.ref (ax 6 (lo - 1))), some (va_rf (opA (mx ax ay) (nbF A w lo k))), some (.int (nI (k))), none]) (st' := [.ref (ax 9 w)]) rfl rfl (Nat.le_of_ble_eq_true rfl) ?_
          by_cases hnx14 : nbF A w lo k = 0
          · skip
            refine V.eqL (ls' := [some (.ref (ax 9 w)), some (.ref (ax 6 (lo - 1))), some (.null), some (.int (nI (k))), none]) (by rw [hnx14]; rfl) ?_
            refine V.getP h cls_9 (j := 3) rfl (hS.mem (show lv A 9 w from hw)) (hS.knd (show lv A 9 w from hw)) (Or.inl wf_RX9_29) (by decide +kernel) (v := some (ax 27 w)) (hS.ptr (show lv A 9 w from hw) (by decide) (by decide) rfl) ?_
            refine V.eq (S' := S) (ls' := [some (.ref (ax 9 w)), some (.ref (ax 6 (lo - 1))), some (.null), some (.int (nI (k))), none]) (st' := [.ref (ax 27 w)]) rfl rfl rfl ?_
            refine V.blk h [(.iload_n 3, 1)] (by decide +kernel) (pc' := 18) (ls' := [some (.ref (ax 9 w)), some (.ref (ax 6 (lo - 1))), some (.null), some (.int (nI (k))), none]) (st' := [.int (nI (k)), .ref (ax 27 w)]) rfl rfl (Nat.le_of_ble_eq_true rfl) ?_
            refine V.aald h 27 (hS.mem (show lv A 27 w from hw)) (hS.knd (show lv A 27 w from hw)) (by decide) rfl (M := tf A 2 * tf A 3) (hS.len (show lv A 27 w from hw) (by decide)) (i := k) (by omega) (by show _ < 2 ^ 31; first | omega | decide) (by decide +kernel) (v := none) ((hS.ref (show lv A 27 w from hw) (by decide) (by show _ < tf A 2 * tf A 3; omega)).trans (by show opA _ (tn A 1 (16 * w + k)) = none; rw [hpl13]; rfl)) ?_
            refine V.eq (S' := S) (ls' := [some (.ref (ax 9 w)), some (.ref (ax 6 (lo - 1))), some (.null), some (.int (nI (k))), none]) (st' := [.null]) rfl rfl rfl ?_
            refine V.blk h [(.astore 4, 2), (.aload 4, 2)] (by decide +kernel) (pc' := 23) (ls' := [some (.ref (ax 9 w)), some (.ref (ax 6 (lo - 1))), some (.null), some (.int (nI (k))), some (.null)]) (st' := [.null]) rfl rfl (Nat.le_of_ble_eq_true rfl) ?_
            refine V.ifnull h (o := none) (off := 32) (by decide +kernel) (tgt := 55) (by decide) (fun _ => ?_) (fun _ z => by cases z)
            refine V.incN h (x := k) (i := 3) (by decide +kernel) rfl (Nat.le_of_ble_eq_true rfl) ?_
            refine V.eqL (ls' := [some (.ref (ax 9 w)), some (.ref (ax 6 (lo - 1))), some (.null), some (.int (nI (k + 1))), some (.null)]) rfl ?_
            refine V.goto h (off := -54) (tgt := 4) (by decide +kernel) (by decide) ?_
            refine V.drop 4 (ls' := [some (.ref (ax 9 w)), some (.ref (ax 6 (lo - 1))), some (.null), some (.int (nI (k + 1))), none]) rfl ?_
            refine V.eqL (ls' := [some (.ref (ax 9 w)), some (.ref (ax 6 (lo - 1))), some (va_rf (opA (mx ax ay) (nbF A w lo ((k + 1))))), some (.int (nI ((k + 1)))), none]) (by rw [show nbF A w lo (k + 1) = 0 from by simp [nbF, plW, hl0, hpl13, hnx14, q10_15]]; rfl) ?_
            exact ih4 ((tf A 2 * tf A 3) - (k + 1)) (by omega) (k + 1) rfl (by omega)
          · skip
            refine V.eqL (ls' := [some (.ref (ax 9 w)), some (.ref (ax 6 (lo - 1))), some (.ref (ax 6 (nbF A w lo k - 1))), some (.int (nI (k))), none]) (by rw [opA_n hnx14]; rfl) ?_
            refine V.getP h cls_9 (j := 3) rfl (hS.mem (show lv A 9 w from hw)) (hS.knd (show lv A 9 w from hw)) (Or.inl wf_RX9_29) (by decide +kernel) (v := some (ax 27 w)) (hS.ptr (show lv A 9 w from hw) (by decide) (by decide) rfl) ?_
            refine V.eq (S' := S) (ls' := [some (.ref (ax 9 w)), some (.ref (ax 6 (lo - 1))), some (.ref (ax 6 (nbF A w lo k - 1))), some (.int (nI (k))), none]) (st' := [.ref (ax 27 w)]) rfl rfl rfl ?_
            refine V.blk h [(.iload_n 3, 1)] (by decide +kernel) (pc' := 18) (ls' := [some (.ref (ax 9 w)), some (.ref (ax 6 (lo - 1))), some (.ref (ax 6 (nbF A w lo k - 1))), some (.int (nI (k))), none]) (st' := [.int (nI (k)), .ref (ax 27 w)]) rfl rfl (Nat.le_of_ble_eq_true rfl) ?_
            refine V.aald h 27 (hS.mem (show lv A 27 w from hw)) (hS.knd (show lv A 27 w from hw)) (by decide) rfl (M := tf A 2 * tf A 3) (hS.len (show lv A 27 w from hw) (by decide)) (i := k) (by omega) (by show _ < 2 ^ 31; first | omega | decide) (by decide +kernel) (v := none) ((hS.ref (show lv A 27 w from hw) (by decide) (by show _ < tf A 2 * tf A 3; omega)).trans (by show opA _ (tn A 1 (16 * w + k)) = none; rw [hpl13]; rfl)) ?_
            refine V.eq (S' := S) (ls' := [some (.ref (ax 9 w)), some (.ref (ax 6 (lo - 1))), some (.ref (ax 6 (nbF A w lo k - 1))), some (.int (nI (k))), none]) (st' := [.null]) rfl rfl rfl ?_
            refine V.blk h [(.astore 4, 2), (.aload 4, 2)] (by decide +kernel) (pc' := 23) (ls' := [some (.ref (ax 9 w)), some (.ref (ax 6 (lo - 1))), some (.ref (ax 6 (nbF A w lo k - 1))), some (.int (nI (k))), some (.null)]) (st' := [.null]) rfl rfl (Nat.le_of_ble_eq_true rfl) ?_
            refine V.ifnull h (o := none) (off := 32) (by decide +kernel) (tgt := 55) (by decide) (fun _ => ?_) (fun _ z => by cases z)
            refine V.incN h (x := k) (i := 3) (by decide +kernel) rfl (Nat.le_of_ble_eq_true rfl) ?_
            refine V.eqL (ls' := [some (.ref (ax 9 w)), some (.ref (ax 6 (lo - 1))), some (.ref (ax 6 (nbF A w lo k - 1))), some (.int (nI (k + 1))), some (.null)]) rfl ?_
            refine V.goto h (off := -54) (tgt := 4) (by decide +kernel) (by decide) ?_
            refine V.drop 4 (ls' := [some (.ref (ax 9 w)), some (.ref (ax 6 (lo - 1))), some (.ref (ax 6 (nbF A w lo k - 1))), some (.int (nI (k + 1))), none]) rfl ?_
            refine V.eqL (ls' := [some (.ref (ax 9 w)), some (.ref (ax 6 (lo - 1))), some (va_rf (opA (mx ax ay) (nbF A w lo ((k + 1))))), some (.int (nI ((k + 1)))), none]) (by rw [show nbF A w lo (k + 1) = nbF A w lo k from by simp [nbF, plW, hl0, hpl13, hnx14, q10_15]]; rw [opA_n hnx14]; rfl) ?_
            exact ih4 ((tf A 2 * tf A 3) - (k + 1)) (by omega) (k + 1) rfl (by omega)
        · skip
          refine V.blk h [(.aload_n 0, 1)] (by decide +kernel) (pc' := 14) (ls' := [some (.ref (ax 9 w)), some (.ref (ax 6 (lo - 1))), some (va_rf (opA (mx ax ay) (nbF A w lo k))), some (.int (nI (k))), none]) (st' := [.ref (ax 9 w)]) rfl rfl (Nat.le_of_ble_eq_true rfl) ?_
          by_cases hnx14 : nbF A w lo k = 0
          · skip
            refine V.eqL (ls' := [some (.ref (ax 9 w)), some (.ref (ax 6 (lo - 1))), some (.null), some (.int (nI (k))), none]) (by rw [hnx14]; rfl) ?_
            refine V.getP h cls_9 (j := 3) rfl (hS.mem (show lv A 9 w from hw)) (hS.knd (show lv A 9 w from hw)) (Or.inl wf_RX9_29) (by decide +kernel) (v := some (ax 27 w)) (hS.ptr (show lv A 9 w from hw) (by decide) (by decide) rfl) ?_
            refine V.eq (S' := S) (ls' := [some (.ref (ax 9 w)), some (.ref (ax 6 (lo - 1))), some (.null), some (.int (nI (k))), none]) (st' := [.ref (ax 27 w)]) rfl rfl rfl ?_
            refine V.blk h [(.iload_n 3, 1)] (by decide +kernel) (pc' := 18) (ls' := [some (.ref (ax 9 w)), some (.ref (ax 6 (lo - 1))), some (.null), some (.int (nI (k))), none]) (st' := [.int (nI (k)), .ref (ax 27 w)]) rfl rfl (Nat.le_of_ble_eq_true rfl) ?_
            refine V.aald h 27 (hS.mem (show lv A 27 w from hw)) (hS.knd (show lv A 27 w from hw)) (by decide) rfl (M := tf A 2 * tf A 3) (hS.len (show lv A 27 w from hw) (by decide)) (i := k) (by omega) (by show _ < 2 ^ 31; first | omega | decide) (by decide +kernel) (v := some (ax 6 (tn A 1 (16 * w + k) - 1))) ((hS.ref (show lv A 27 w from hw) (by decide) (by show _ < tf A 2 * tf A 3; omega)).trans (by show opA _ (tn A 1 (16 * w + k)) = _; unfold opA; rw [if_neg hpl13]; rfl)) ?_
            refine V.eq (S' := S) (ls' := [some (.ref (ax 9 w)), some (.ref (ax 6 (lo - 1))), some (.null), some (.int (nI (k))), none]) (st' := [.ref (ax 6 (tn A 1 (16 * w + k) - 1))]) rfl rfl rfl ?_
            refine V.blk h [(.astore 4, 2), (.aload 4, 2)] (by decide +kernel) (pc' := 23) (ls' := [some (.ref (ax 9 w)), some (.ref (ax 6 (lo - 1))), some (.null), some (.int (nI (k))), some (.ref (ax 6 (tn A 1 (16 * w + k) - 1)))]) (st' := [.ref (ax 6 (tn A 1 (16 * w + k) - 1))]) rfl rfl (Nat.le_of_ble_eq_true rfl) ?_
            refine V.ifnull h (o := (some (ax 6 (tn A 1 (16 * w + k) - 1)))) (off := 32) (by decide +kernel) (tgt := 55) (by decide) (fun z => by cases z) (fun _ _ => ?_)
            refine V.blk h [(.aload_n 1, 1)] (by decide +kernel) (pc' := 27) (ls' := [some (.ref (ax 9 w)), some (.ref (ax 6 (lo - 1))), some (.null), some (.int (nI (k))), some (.ref (ax 6 (tn A 1 (16 * w + k) - 1)))]) (st' := [.ref (ax 6 (lo - 1))]) rfl rfl (Nat.le_of_ble_eq_true rfl) ?_
            refine V.ifnull h (o := (some (ax 6 (lo - 1)))) (off := 12) (by decide +kernel) (tgt := 39) (by decide) (fun z => by cases z) (fun _ _ => ?_)
            refine V.blk h [(.aload 4, 2), (.aload_n 1, 1)] (by decide +kernel) (pc' := 33) (ls' := [some (.ref (ax 9 w)), some (.ref (ax 6 (lo - 1))), some (.null), some (.int (nI (k))), some (.ref (ax 6 (tn A 1 (16 * w + k) - 1)))]) (st' := [.ref (ax 6 (lo - 1)), .ref (ax 6 (tn A 1 (16 * w + k) - 1))]) rfl rfl (Nat.le_of_ble_eq_true rfl) ?_
            refine V.callV h (np := 1) (st := []) (c_comesBehind hls hS (op := tn A 1 (16 * w + k) - 1) (ot := lo - 1) (show lv A 6 (tn A 1 (16 * w + k) - 1) from (by have z9 := hS.2.2.2.2.2.2.2.2.2 w k hw (by omega); show tn A 1 (16 * w + k) - 1 < tf A 13; omega)) hB (by omega) (show lv A 6 (lo - 1) from (show lo - 1 < tf A 13 by omega)) (post := fun v S7 => v = some (.int (bI (cbF A (tn A 1 (16 * w + k) - 1) (lo - 1)))) ∧ S = S7) ⟨rfl, rfl⟩) wc_X6_comesBehind wn_RX6 (Or.inr ⟨_, wm_RX9_49⟩) wi_X6_comesBehind we_X6_comesBehind (by decide +kernel) rfl cls_6 (hS.mem (show lv A 6 (tn A 1 (16 * w + k) - 1) from (by have z9 := hS.2.2.2.2.2.2.2.2.2 w k hw (by omega); show tn A 1 (16 * w + k) - 1 < tf A 13; omega))) (hS.knd (show lv A 6 (tn A 1 (16 * w + k) - 1) from (by have z9 := hS.2.2.2.2.2.2.2.2.2 w k hw (by omega); show tn A 1 (16 * w + k) - 1 < tf A 13; omega))) (Nat.le_of_ble_eq_true rfl) (Nat.le_of_ble_eq_true rfl) (Nat.zero_le _) (Nat.zero_le _) (by simp [Value.category]) (by decide +kernel) rfl (fun v Z1 q9 => ?_)
            obtain ⟨rfl, hS9⟩ := q9
            subst hS9
            refine V.eq (S' := S) (ls' := [some (.ref (ax 9 w)), some (.ref (ax 6 (lo - 1))), some (.null), some (.int (nI (k))), some (.ref (ax 6 (tn A 1 (16 * w + k) - 1)))]) (st' := [.int (bI (cbF A (tn A 1 (16 * w + k) - 1) (lo - 1)))]) rfl rfl rfl ?_
            refine V.if_eq h (off := 19) (by decide +kernel) (tgt := 55) (by decide) (fun q => ?_) (fun q => ?_)
            · have q36_82 := (bI_0.mp q)
              clear q
              refine V.incN h (x := k) (i := 3) (by decide +kernel) rfl (Nat.le_of_ble_eq_true rfl) ?_
              refine V.eqL (ls' := [some (.ref (ax 9 w)), some (.ref (ax 6 (lo - 1))), some (.null), some (.int (nI (k + 1))), some (.ref (ax 6 (tn A 1 (16 * w + k) - 1)))]) rfl ?_
              refine V.goto h (off := -54) (tgt := 4) (by decide +kernel) (by decide) ?_
              refine V.drop 4 (ls' := [some (.ref (ax 9 w)), some (.ref (ax 6 (lo - 1))), some (.null), some (.int (nI (k + 1))), none]) rfl ?_
              refine V.eqL (ls' := [some (.ref (ax 9 w)), some (.ref (ax 6 (lo - 1))), some (va_rf (opA (mx ax ay) (nbF A w lo ((k + 1))))), some (.int (nI ((k + 1)))), none]) (by rw [show nbF A w lo (k + 1) = 0 from by simp [nbF, plW, hl0, hpl13, hnx14, q10_15, q36_82]]; rfl) ?_
              exact ih4 ((tf A 2 * tf A 3) - (k + 1)) (by omega) (k + 1) rfl (by omega)
            · have q36_82 := (bI_1 (fun z => q (bI_0.mpr z)))
              clear q
              refine V.blk h [(.aload_n 2, 1)] (by decide +kernel) (pc' := 40) (ls' := [some (.ref (ax 9 w)), some (.ref (ax 6 (lo - 1))), some (.null), some (.int (nI (k))), some (.ref (ax 6 (tn A 1 (16 * w + k) - 1)))]) (st' := [.null]) rfl rfl (Nat.le_of_ble_eq_true rfl) ?_
              refine V.ifnull h (o := none) (off := 12) (by decide +kernel) (tgt := 52) (by decide) (fun _ => ?_) (fun _ z => by cases z)
              refine V.blk h [(.aload 4, 2), (.astore_n 2, 1)] (by decide +kernel) (pc' := 55) (ls' := [some (.ref (ax 9 w)), some (.ref (ax 6 (lo - 1))), some (.ref (ax 6 (tn A 1 (16 * w + k) - 1))), some (.int (nI (k))), some (.ref (ax 6 (tn A 1 (16 * w + k) - 1)))]) (st' := []) rfl rfl (Nat.le_of_ble_eq_true rfl) ?_
              refine V.incN h (x := k) (i := 3) (by decide +kernel) rfl (Nat.le_of_ble_eq_true rfl) ?_
              refine V.eqL (ls' := [some (.ref (ax 9 w)), some (.ref (ax 6 (lo - 1))), some (.ref (ax 6 (tn A 1 (16 * w + k) - 1))), some (.int (nI (k + 1))), some (.ref (ax 6 (tn A 1 (16 * w + k) - 1)))]) rfl ?_
              refine V.goto h (off := -54) (tgt := 4) (by decide +kernel) (by decide) ?_
              refine V.drop 4 (ls' := [some (.ref (ax 9 w)), some (.ref (ax 6 (lo - 1))), some (.ref (ax 6 (tn A 1 (16 * w + k) - 1))), some (.int (nI (k + 1))), none]) rfl ?_
              refine V.eqL (ls' := [some (.ref (ax 9 w)), some (.ref (ax 6 (lo - 1))), some (va_rf (opA (mx ax ay) (nbF A w lo ((k + 1))))), some (.int (nI ((k + 1)))), none]) (by rw [show nbF A w lo (k + 1) = tn A 1 (16 * w + k) from by simp [nbF, plW, hl0, hpl13, hnx14, q10_15, q36_82]]; rw [opA_n hpl13]; rfl) ?_
              exact ih4 ((tf A 2 * tf A 3) - (k + 1)) (by omega) (k + 1) rfl (by omega)
          · skip
            refine V.eqL (ls' := [some (.ref (ax 9 w)), some (.ref (ax 6 (lo - 1))), some (.ref (ax 6 (nbF A w lo k - 1))), some (.int (nI (k))), none]) (by rw [opA_n hnx14]; rfl) ?_
            refine V.getP h cls_9 (j := 3) rfl (hS.mem (show lv A 9 w from hw)) (hS.knd (show lv A 9 w from hw)) (Or.inl wf_RX9_29) (by decide +kernel) (v := some (ax 27 w)) (hS.ptr (show lv A 9 w from hw) (by decide) (by decide) rfl) ?_
            refine V.eq (S' := S) (ls' := [some (.ref (ax 9 w)), some (.ref (ax 6 (lo - 1))), some (.ref (ax 6 (nbF A w lo k - 1))), some (.int (nI (k))), none]) (st' := [.ref (ax 27 w)]) rfl rfl rfl ?_
            refine V.blk h [(.iload_n 3, 1)] (by decide +kernel) (pc' := 18) (ls' := [some (.ref (ax 9 w)), some (.ref (ax 6 (lo - 1))), some (.ref (ax 6 (nbF A w lo k - 1))), some (.int (nI (k))), none]) (st' := [.int (nI (k)), .ref (ax 27 w)]) rfl rfl (Nat.le_of_ble_eq_true rfl) ?_
            refine V.aald h 27 (hS.mem (show lv A 27 w from hw)) (hS.knd (show lv A 27 w from hw)) (by decide) rfl (M := tf A 2 * tf A 3) (hS.len (show lv A 27 w from hw) (by decide)) (i := k) (by omega) (by show _ < 2 ^ 31; first | omega | decide) (by decide +kernel) (v := some (ax 6 (tn A 1 (16 * w + k) - 1))) ((hS.ref (show lv A 27 w from hw) (by decide) (by show _ < tf A 2 * tf A 3; omega)).trans (by show opA _ (tn A 1 (16 * w + k)) = _; unfold opA; rw [if_neg hpl13]; rfl)) ?_
            refine V.eq (S' := S) (ls' := [some (.ref (ax 9 w)), some (.ref (ax 6 (lo - 1))), some (.ref (ax 6 (nbF A w lo k - 1))), some (.int (nI (k))), none]) (st' := [.ref (ax 6 (tn A 1 (16 * w + k) - 1))]) rfl rfl rfl ?_
            refine V.blk h [(.astore 4, 2), (.aload 4, 2)] (by decide +kernel) (pc' := 23) (ls' := [some (.ref (ax 9 w)), some (.ref (ax 6 (lo - 1))), some (.ref (ax 6 (nbF A w lo k - 1))), some (.int (nI (k))), some (.ref (ax 6 (tn A 1 (16 * w + k) - 1)))]) (st' := [.ref (ax 6 (tn A 1 (16 * w + k) - 1))]) rfl rfl (Nat.le_of_ble_eq_true rfl) ?_
            refine V.ifnull h (o := (some (ax 6 (tn A 1 (16 * w + k) - 1)))) (off := 32) (by decide +kernel) (tgt := 55) (by decide) (fun z => by cases z) (fun _ _ => ?_)
            refine V.blk h [(.aload_n 1, 1)] (by decide +kernel) (pc' := 27) (ls' := [some (.ref (ax 9 w)), some (.ref (ax 6 (lo - 1))), some (.ref (ax 6 (nbF A w lo k - 1))), some (.int (nI (k))), some (.ref (ax 6 (tn A 1 (16 * w + k) - 1)))]) (st' := [.ref (ax 6 (lo - 1))]) rfl rfl (Nat.le_of_ble_eq_true rfl) ?_
            refine V.ifnull h (o := (some (ax 6 (lo - 1)))) (off := 12) (by decide +kernel) (tgt := 39) (by decide) (fun z => by cases z) (fun _ _ => ?_)
            refine V.blk h [(.aload 4, 2), (.aload_n 1, 1)] (by decide +kernel) (pc' := 33) (ls' := [some (.ref (ax 9 w)), some (.ref (ax 6 (lo - 1))), some (.ref (ax 6 (nbF A w lo k - 1))), some (.int (nI (k))), some (.ref (ax 6 (tn A 1 (16 * w + k) - 1)))]) (st' := [.ref (ax 6 (lo - 1)), .ref (ax 6 (tn A 1 (16 * w + k) - 1))]) rfl rfl (Nat.le_of_ble_eq_true rfl) ?_
            refine V.callV h (np := 1) (st := []) (c_comesBehind hls hS (op := tn A 1 (16 * w + k) - 1) (ot := lo - 1) (show lv A 6 (tn A 1 (16 * w + k) - 1) from (by have z9 := hS.2.2.2.2.2.2.2.2.2 w k hw (by omega); show tn A 1 (16 * w + k) - 1 < tf A 13; omega)) hB (by omega) (show lv A 6 (lo - 1) from (show lo - 1 < tf A 13 by omega)) (post := fun v S7 => v = some (.int (bI (cbF A (tn A 1 (16 * w + k) - 1) (lo - 1)))) ∧ S = S7) ⟨rfl, rfl⟩) wc_X6_comesBehind wn_RX6 (Or.inr ⟨_, wm_RX9_49⟩) wi_X6_comesBehind we_X6_comesBehind (by decide +kernel) rfl cls_6 (hS.mem (show lv A 6 (tn A 1 (16 * w + k) - 1) from (by have z9 := hS.2.2.2.2.2.2.2.2.2 w k hw (by omega); show tn A 1 (16 * w + k) - 1 < tf A 13; omega))) (hS.knd (show lv A 6 (tn A 1 (16 * w + k) - 1) from (by have z9 := hS.2.2.2.2.2.2.2.2.2 w k hw (by omega); show tn A 1 (16 * w + k) - 1 < tf A 13; omega))) (Nat.le_of_ble_eq_true rfl) (Nat.le_of_ble_eq_true rfl) (Nat.zero_le _) (Nat.zero_le _) (by simp [Value.category]) (by decide +kernel) rfl (fun v Z2 q9 => ?_)
            obtain ⟨rfl, hS9⟩ := q9
            subst hS9
            refine V.eq (S' := S) (ls' := [some (.ref (ax 9 w)), some (.ref (ax 6 (lo - 1))), some (.ref (ax 6 (nbF A w lo k - 1))), some (.int (nI (k))), some (.ref (ax 6 (tn A 1 (16 * w + k) - 1)))]) (st' := [.int (bI (cbF A (tn A 1 (16 * w + k) - 1) (lo - 1)))]) rfl rfl rfl ?_
            refine V.if_eq h (off := 19) (by decide +kernel) (tgt := 55) (by decide) (fun q => ?_) (fun q => ?_)
            · have q36_118 := (bI_0.mp q)
              clear q
              refine V.incN h (x := k) (i := 3) (by decide +kernel) rfl (Nat.le_of_ble_eq_true rfl) ?_
              refine V.eqL (ls' := [some (.ref (ax 9 w)), some (.ref (ax 6 (lo - 1))), some (.ref (ax 6 (nbF A w lo k - 1))), some (.int (nI (k + 1))), some (.ref (ax 6 (tn A 1 (16 * w + k) - 1)))]) rfl ?_
              refine V.goto h (off := -54) (tgt := 4) (by decide +kernel) (by decide) ?_
              refine V.drop 4 (ls' := [some (.ref (ax 9 w)), some (.ref (ax 6 (lo - 1))), some (.ref (ax 6 (nbF A w lo k - 1))), some (.int (nI (k + 1))), none]) rfl ?_
              refine V.eqL (ls' := [some (.ref (ax 9 w)), some (.ref (ax 6 (lo - 1))), some (va_rf (opA (mx ax ay) (nbF A w lo ((k + 1))))), some (.int (nI ((k + 1)))), none]) (by rw [show nbF A w lo (k + 1) = nbF A w lo k from by simp [nbF, plW, hl0, hpl13, hnx14, q10_15, q36_118]]; rw [opA_n hnx14]; rfl) ?_
              exact ih4 ((tf A 2 * tf A 3) - (k + 1)) (by omega) (k + 1) rfl (by omega)
            · have q36_118 := (bI_1 (fun z => q (bI_0.mpr z)))
              clear q
              refine V.blk h [(.aload_n 2, 1)] (by decide +kernel) (pc' := 40) (ls' := [some (.ref (ax 9 w)), some (.ref (ax 6 (lo - 1))), some (.ref (ax 6 (nbF A w lo k - 1))), some (.int (nI (k))), some (.ref (ax 6 (tn A 1 (16 * w + k) - 1)))]) (st' := [.ref (ax 6 (nbF A w lo k - 1))]) rfl rfl (Nat.le_of_ble_eq_true rfl) ?_
              refine V.ifnull h (o := (some (ax 6 (nbF A w lo k - 1)))) (off := 12) (by decide +kernel) (tgt := 52) (by decide) (fun z => by cases z) (fun _ _ => ?_)
              refine V.blk h [(.aload_n 2, 1), (.aload 4, 2)] (by decide +kernel) (pc' := 46) (ls' := [some (.ref (ax 9 w)), some (.ref (ax 6 (lo - 1))), some (.ref (ax 6 (nbF A w lo k - 1))), some (.int (nI (k))), some (.ref (ax 6 (tn A 1 (16 * w + k) - 1)))]) (st' := [.ref (ax 6 (tn A 1 (16 * w + k) - 1)), .ref (ax 6 (nbF A w lo k - 1))]) rfl rfl (Nat.le_of_ble_eq_true rfl) ?_
              refine V.callV h (np := 1) (st := []) (c_comesBehind hls hS (op := nbF A w lo k - 1) (ot := tn A 1 (16 * w + k) - 1) (show lv A 6 (nbF A w lo k - 1) from (by show nbF A w lo k - 1 < tf A 13; omega)) hB (by omega) (show lv A 6 (tn A 1 (16 * w + k) - 1) from (by have z9 := hS.2.2.2.2.2.2.2.2.2 w k hw (by omega); show tn A 1 (16 * w + k) - 1 < tf A 13; omega)) (post := fun v S7 => v = some (.int (bI (cbF A (nbF A w lo k - 1) (tn A 1 (16 * w + k) - 1)))) ∧ S = S7) ⟨rfl, rfl⟩) wc_X6_comesBehind wn_RX6 (Or.inr ⟨_, wm_RX9_49⟩) wi_X6_comesBehind we_X6_comesBehind (by decide +kernel) rfl cls_6 (hS.mem (show lv A 6 (nbF A w lo k - 1) from (by show nbF A w lo k - 1 < tf A 13; omega))) (hS.knd (show lv A 6 (nbF A w lo k - 1) from (by show nbF A w lo k - 1 < tf A 13; omega))) (Nat.le_of_ble_eq_true rfl) (Nat.le_of_ble_eq_true rfl) (Nat.zero_le _) (Nat.zero_le _) (by simp [Value.category]) (by decide +kernel) rfl (fun v Z3 q9 => ?_)
              obtain ⟨rfl, hS9⟩ := q9
              subst hS9
              refine V.eq (S' := S) (ls' := [some (.ref (ax 9 w)), some (.ref (ax 6 (lo - 1))), some (.ref (ax 6 (nbF A w lo k - 1))), some (.int (nI (k))), some (.ref (ax 6 (tn A 1 (16 * w + k) - 1)))]) (st' := [.int (bI (cbF A (nbF A w lo k - 1) (tn A 1 (16 * w + k) - 1)))]) rfl rfl rfl ?_
              refine V.if_eq h (off := 6) (by decide +kernel) (tgt := 55) (by decide) (fun q => ?_) (fun q => ?_)
              · have q49_136 := (bI_0.mp q)
                clear q
                refine V.incN h (x := k) (i := 3) (by decide +kernel) rfl (Nat.le_of_ble_eq_true rfl) ?_
                refine V.eqL (ls' := [some (.ref (ax 9 w)), some (.ref (ax 6 (lo - 1))), some (.ref (ax 6 (nbF A w lo k - 1))), some (.int (nI (k + 1))), some (.ref (ax 6 (tn A 1 (16 * w + k) - 1)))]) rfl ?_
                refine V.goto h (off := -54) (tgt := 4) (by decide +kernel) (by decide) ?_
                refine V.drop 4 (ls' := [some (.ref (ax 9 w)), some (.ref (ax 6 (lo - 1))), some (.ref (ax 6 (nbF A w lo k - 1))), some (.int (nI (k + 1))), none]) rfl ?_
                refine V.eqL (ls' := [some (.ref (ax 9 w)), some (.ref (ax 6 (lo - 1))), some (va_rf (opA (mx ax ay) (nbF A w lo ((k + 1))))), some (.int (nI ((k + 1)))), none]) (by rw [show nbF A w lo (k + 1) = nbF A w lo k from by simp [nbF, plW, hl0, hpl13, hnx14, q10_15, q36_118, q49_136]]; rw [opA_n hnx14]; rfl) ?_
                exact ih4 ((tf A 2 * tf A 3) - (k + 1)) (by omega) (k + 1) rfl (by omega)
              · have q49_136 := (bI_1 (fun z => q (bI_0.mpr z)))
                clear q
                refine V.blk h [(.aload 4, 2), (.astore_n 2, 1)] (by decide +kernel) (pc' := 55) (ls' := [some (.ref (ax 9 w)), some (.ref (ax 6 (lo - 1))), some (.ref (ax 6 (tn A 1 (16 * w + k) - 1))), some (.int (nI (k))), some (.ref (ax 6 (tn A 1 (16 * w + k) - 1)))]) (st' := []) rfl rfl (Nat.le_of_ble_eq_true rfl) ?_
                refine V.incN h (x := k) (i := 3) (by decide +kernel) rfl (Nat.le_of_ble_eq_true rfl) ?_
                refine V.eqL (ls' := [some (.ref (ax 9 w)), some (.ref (ax 6 (lo - 1))), some (.ref (ax 6 (tn A 1 (16 * w + k) - 1))), some (.int (nI (k + 1))), some (.ref (ax 6 (tn A 1 (16 * w + k) - 1)))]) rfl ?_
                refine V.goto h (off := -54) (tgt := 4) (by decide +kernel) (by decide) ?_
                refine V.drop 4 (ls' := [some (.ref (ax 9 w)), some (.ref (ax 6 (lo - 1))), some (.ref (ax 6 (tn A 1 (16 * w + k) - 1))), some (.int (nI (k + 1))), none]) rfl ?_
                refine V.eqL (ls' := [some (.ref (ax 9 w)), some (.ref (ax 6 (lo - 1))), some (va_rf (opA (mx ax ay) (nbF A w lo ((k + 1))))), some (.int (nI ((k + 1)))), none]) (by rw [show nbF A w lo (k + 1) = tn A 1 (16 * w + k) from by simp [nbF, plW, hl0, hpl13, hnx14, q10_15, q36_118, q49_136]]; rw [opA_n hpl13]; rfl) ?_
                exact ih4 ((tf A 2 * tf A 3) - (k + 1)) (by omega) (k + 1) rfl (by omega)
  refine V.eqL (ls' := [some (.ref (ax 9 w)), some (.ref (ax 6 (lo - 1))), some (va_rf (opA (mx ax ay) (nbF A w lo 0))), some (.int (nI (0))), none]) rfl ?_
  exact loop4 _ 0 rfl (Nat.zero_le _)
