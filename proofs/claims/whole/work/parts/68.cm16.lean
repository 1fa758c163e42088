/-! ===== a record at a witness; the records in a new master's order ===== -/
/-- the places of a set, k of them, from fi on: 0 nothing yet, 1 it stands there, 2 another of its key does -/
def rrD (A : TS) (w op fi : Nat) : Nat → Nat
  | 0 => 0
  | k + 1 => if rrD A w op fi k ≠ 0 then rrD A w op fi k else if plW A w (fi + k) = op + 1 then 1 else if plW A w (fi + k) = 0 then 0 else if tn A 8 (plW A w (fi + k) - 1) = tn A 8 op then 2 else 0
def frW (A : TS) (w fi : Nat) : Nat → Nat
  | 0 => 0
  | k + 1 => if plW A w (fi + k) = 0 then fi + k + 1 else frW A w fi k
theorem frW_le (A : TS) (w fi : Nat) : ∀ k, frW A w fi k ≤ fi + k
  | 0 => Nat.zero_le _
  | k + 1 => by have := frW_le A w fi k; unfold frW; split <;> omega
theorem rrD_stay {A : TS} {w op fi k c : Nat} (h : rrD A w op fi (k + 1) = c) (hc : c ≠ 0) : ∀ n, k < n → rrD A w op fi n = c
  | 0, z => absurd z (by omega)
  | n + 1, z => by
    by_cases y : k = n
    · subst y; exact h
    · have := rrD_stay h hc n (by omega)
      unfold rrD
      rw [this, if_pos hc]
/-- what the witness makes of it: 0 refused, 1 it had it, f + 2 it goes to the place f -/
def rrF (A : TS) (w e op : Nat) : Nat :=
  if tn A 41 w = e ∧ tb A 42 w = false then
    (if rrD A w op (tn A 8 op % tf A 2 * tf A 3) (tf A 3) = 1 then 1 else if rrD A w op (tn A 8 op % tf A 2 * tf A 3) (tf A 3) = 2 then 0
     else if frW A w (tn A 8 op % tf A 2 * tf A 3) (tf A 3) = 0 then 0 else frW A w (tn A 8 op % tf A 2 * tf A 3) (tf A 3) + 1)
  else 0
def rrA (A : TS) (w e op : Nat) : TS := if 2 ≤ rrF A w e op then sn A 1 (16 * w + (rrF A w e op - 2)) (op + 1) else A
set_option maxRecDepth 100000 in
set_option maxHeartbeats 4000000 in
theorem c_readRecord {l : Launch} {D : va_G} {tc : Nat → ClassId} {ax ay : Nat → Nat → Nat} {A : TS} {S : HS} (hls : l.stackTraces = false) (hS : RA tc (mx ax ay) A S) {w : Nat} {e : Nat} {op : Nat} {K : Nat}  (hw : w < tf A 1) (ho : op < tf A 13) (he : e ≤ K) (hB : NB K A) (hK : K < 1900000000) {post : Option Value → HS → Prop} (hp : ∀ (S8 : HS), RA tc (mx ax ay) (rrA A w e op) S8 → lfr S S8 → ∀ (z : Nat), rrF A w e op = z → ∀ {b9 : Bool}, decide (z ≠ 0) = b9 → post (some (.int (bI b9))) S8) : CM l D tc yX9_readRecord cX9_readRecord 7 (some .boolean) 1 0 0 [.ref (ax 9 w), .int (nI (e)), .ref (ax 6 op)] S post := by
  refine CM.of hls (by decide +kernel) (by simp [Value.category]) (Nat.le_of_ble_eq_true rfl) (fun A0 p e9 s m args below meth c sz h hr hnm hA => ?_)
  obtain ⟨f1, f2, f3, f4, f5, f6⟩ := hS.2.2.1
  have hsw : tf A 2 * tf A 3 ≤ 4 * 4 := Nat.mul_le_mul f4 f6
  have h13 := hS.2.2.2.1.2.2.2.1
  have hr9 : tn A 8 op % tf A 2 < tf A 2 := Nat.mod_lt _ (by omega)
  have hfw : tn A 8 op % tf A 2 * tf A 3 + tf A 3 ≤ tf A 2 * tf A 3 := by
    have := Nat.mul_le_mul_right (tf A 3) (show tn A 8 op % tf A 2 + 1 ≤ tf A 2 by omega)
    rwa [Nat.succ_mul] at this
  have hb8 := hB.2 8 op
  refine V.eqL (ls' := [some (.ref (ax 9 w)), some (.int (nI (e))), some (.ref (ax 6 op)), none, none, none, none]) rfl ?_
  refine V.blk h [(.iload_n 1, 1), (.aload_n 0, 1)] (by decide +kernel) (pc' := 2) (ls' := [some (.ref (ax 9 w)), some (.int (nI (e))), some (.ref (ax 6 op)), none, none, none, none]) (st' := [.ref (ax 9 w), .int (nI (e))]) rfl rfl (Nat.le_of_ble_eq_true rfl) ?_
  refine V.getI h cls_9 (j := 4) rfl (hS.mem (show lv A 9 w from hw)) (hS.knd (show lv A 9 w from hw)) (Or.inl wf_RX9_33) (by decide +kernel) (v := nI (tn A 41 w)) (hS.int (show lv A 9 w from hw) (by decide) (by decide) rfl) ?_
  have nb11 := hB.2 41 w
  refine V.icmp_ne h (off := 10) (by decide +kernel) (tgt := 15) (by decide) (fun q => ?_) (fun q => ?_)
  · have q5_12 : ¬ _ := (fun z => q ((nI_eq (by omega) (by omega)).mpr z))
    clear q
    refine V.blk h [(.iconst 0, 1)] (by decide +kernel) (pc' := 16) (ls' := [some (.ref (ax 9 w)), some (.int (nI (e))), some (.ref (ax 6 op)), none, none, none, none]) (st' := [.int (nI (0))]) rfl rfl (Nat.le_of_ble_eq_true rfl) ?_
    refine V.top (v' := .int (bI false)) (by decide) ?_
    exact V.iret h hA hr (bI_nar _) (hp _ (by unfold rrA; rw [show rrF A w e op = 0 from (by unfold rrF; rw [if_neg (by intro z; first | omega | exact absurd (z.2.symm.trans q5_12) (by decide))]), if_neg (by omega)]; exact hS) lfr.rfl 0 (by unfold rrF; rw [if_neg (by intro z; first | omega | exact absurd (z.2.symm.trans q5_12) (by decide))]) rfl) (by decide +kernel) (Nat.zero_le _) (Nat.zero_le _)
  · have q5_12 := ((nI_eq (by omega) (by omega)).mp q)
    clear q
    refine V.blk h [(.aload_n 0, 1)] (by decide +kernel) (pc' := 9) (ls' := [some (.ref (ax 9 w)), some (.int (nI (e))), some (.ref (ax 6 op)), none, none, none, none]) (st' := [.ref (ax 9 w)]) rfl rfl (Nat.le_of_ble_eq_true rfl) ?_
    refine V.getI h cls_9 (j := 5) rfl (hS.mem (show lv A 9 w from hw)) (hS.knd (show lv A 9 w from hw)) (Or.inl wf_RX9_36) (by decide +kernel) (v := bI (tb A 42 w)) (hS.int (show lv A 9 w from hw) (by decide) (by decide) rfl) ?_
    refine V.if_eq h (off := 5) (by decide +kernel) (tgt := 17) (by decide) (fun q => ?_) (fun q => ?_)
    · have q12_22 := (bI_0.mp q)
      clear q
      refine V.m1 h (by decide +kernel) (Nat.le_of_ble_eq_true rfl) ?_
      refine V.blk h [(.istore_n 3, 1), (.aload_n 0, 1)] (by decide +kernel) (pc' := 20) (ls' := [some (.ref (ax 9 w)), some (.int (nI (e))), some (.ref (ax 6 op)), some (.int (oI (0))), none, none, none]) (st' := [.ref (ax 9 w)]) rfl rfl (Nat.le_of_ble_eq_true rfl) ?_
      refine V.getI h cls_9 (j := 1) rfl (hS.mem (show lv A 9 w from hw)) (hS.knd (show lv A 9 w from hw)) (Or.inl wf_RX9_15) (by decide +kernel) (v := nI (tf A 2)) (hS.int (show lv A 9 w from hw) (by decide) (by decide) rfl) ?_
      have nb28 := hB.1 2
      refine V.if_le h (off := 20) (by decide +kernel) (tgt := 43) (by decide) (fun q => ?_) (fun q => ?_)
      · have q23_29 := ((nI_z_le (by omega)).mp q)
        clear q
        omega
      · have q23_29 : ¬ _ := (fun z => q ((nI_z_le (by omega)).mpr z))
        clear q
        refine V.blk h [(.aload_n 2, 1)] (by decide +kernel) (pc' := 27) (ls' := [some (.ref (ax 9 w)), some (.int (nI (e))), some (.ref (ax 6 op)), some (.int (oI (0))), none, none, none]) (st' := [.ref (ax 6 op)]) rfl rfl (Nat.le_of_ble_eq_true rfl) ?_
        refine V.getI h cls_6 (j := 3) rfl (hS.mem (show lv A 6 op from ho)) (hS.knd (show lv A 6 op from ho)) (Or.inr ⟨_, wf_RX9_40⟩) (by decide +kernel) (v := nI (tn A 8 op)) (hS.int (show lv A 6 op from ho) (by decide) (by decide) rfl) ?_
        have nb37 := hB.2 8 op
        refine V.blk h [(.aload_n 0, 1)] (by decide +kernel) (pc' := 31) (ls' := [some (.ref (ax 9 w)), some (.int (nI (e))), some (.ref (ax 6 op)), some (.int (oI (0))), none, none, none]) (st' := [.ref (ax 9 w), .int (nI (tn A 8 op))]) rfl rfl (Nat.le_of_ble_eq_true rfl) ?_
        refine V.getI h cls_9 (j := 1) rfl (hS.mem (show lv A 9 w from hw)) (hS.knd (show lv A 9 w from hw)) (Or.inl wf_RX9_15) (by decide +kernel) (v := nI (tf A 2)) (hS.int (show lv A 9 w from hw) (by decide) (by decide) rfl) ?_
        have nb40 := hB.1 2
        refine V.remN h (by decide +kernel) (by omega) (by omega) (by omega) ?_
        have rm42 := Nat.mod_lt (tn A 8 op) (show 0 < tf A 2 by omega)
        refine V.blk h [(.aload_n 0, 1)] (by decide +kernel) (pc' := 36) (ls' := [some (.ref (ax 9 w)), some (.int (nI (e))), some (.ref (ax 6 op)), some (.int (oI (0))), none, none, none]) (st' := [.ref (ax 9 w), .int (nI ((tn A 8 op) % (tf A 2)))]) rfl rfl (Nat.le_of_ble_eq_true rfl) ?_
        refine V.getI h cls_9 (j := 2) rfl (hS.mem (show lv A 9 w from hw)) (hS.knd (show lv A 9 w from hw)) (Or.inl wf_RX9_18) (by decide +kernel) (v := nI (tf A 3)) (hS.int (show lv A 9 w from hw) (by decide) (by decide) rfl) ?_
        have nb45 := hB.1 3
        refine V.mulN h (by decide +kernel) (Nat.le_of_ble_eq_true rfl) ?_
        refine V.goto h (off := 4) (tgt := 44) (by decide +kernel) (by decide) ?_
        refine V.blk h [(.istore 4, 2), (.iload 4, 2), (.istore 5, 2)] (by decide +kernel) (pc' := 50) (ls' := [some (.ref (ax 9 w)), some (.int (nI (e))), some (.ref (ax 6 op)), some (.int (oI (0))), some (.int (nI (((tn A 8 op) % (tf A 2)) * (tf A 3)))), some (.int (nI (((tn A 8 op) % (tf A 2)) * (tf A 3)))), none]) (st' := []) rfl rfl (Nat.le_of_ble_eq_true rfl) ?_
        have loop50 : ∀ (t k : Nat), (tf A 3) - k = t → k ≤ (tf A 3) → (rrD A w op (tn A 8 op % tf A 2 * tf A 3) k = 0) → V l D tc A0 p e9 (rmd 1 0 0) s m args below meth c 7 (MQ below (zQ D tc post S sz) args s 0 0 (zAd S sz)) S 0 0 50 [some (.ref (ax 9 w)), some (.int (nI (e))), some (.ref (ax 6 op)), some (.int (oI (frW A w (tn A 8 op % tf A 2 * tf A 3) k))), some (.int (nI (tn A 8 op % tf A 2 * tf A 3))), some (.int (nI ((tn A 8 op % tf A 2 * tf A 3) + k))), none] [] := by
          intro t; induction t using Nat.strongRecOn with
          | _ t ih50 =>
            intro k ht50 hk50 inv50
            have hfl9 := frW_le A w (tn A 8 op % tf A 2 * tf A 3) k
            refine V.blk h [(.iload 5, 2)] (by decide +kernel) (pc' := 52) (ls' := [some (.ref (ax 9 w)), some (.int (nI (e))), some (.ref (ax 6 op)), some (.int (oI (frW A w (tn A 8 op % tf A 2 * tf A 3) k))), some (.int (nI (tn A 8 op % tf A 2 * tf A 3))), some (.int (nI ((tn A 8 op % tf A 2 * tf A 3) + k))), none]) (st' := [.int (nI ((tn A 8 op % tf A 2 * tf A 3) + k))]) rfl rfl (Nat.le_of_ble_eq_true rfl) ?_
            refine V.if_lt h (off := 73) (by decide +kernel) (tgt := 125) (by decide) (fun q => ?_) (fun q => ?_)
            · have q52_55 := ((nI_z_lt (by omega)).mp q)
              clear q
              exact absurd q52_55 id
            · have q52_55 : ¬ _ := (fun z => q ((nI_z_lt (by omega)).mpr z))
              clear q
              refine V.blk h [(.iload 5, 2), (.iload 4, 2), (.aload_n 0, 1)] (by decide +kernel) (pc' := 60) (ls' := [some (.ref (ax 9 w)), some (.int (nI (e))), some (.ref (ax 6 op)), some (.int (oI (frW A w (tn A 8 op % tf A 2 * tf A 3) k))), some (.int (nI (tn A 8 op % tf A 2 * tf A 3))), some (.int (nI ((tn A 8 op % tf A 2 * tf A 3) + k))), none]) (st' := [.ref (ax 9 w), .int (nI (tn A 8 op % tf A 2 * tf A 3)), .int (nI ((tn A 8 op % tf A 2 * tf A 3) + k))]) rfl rfl (Nat.le_of_ble_eq_true rfl) ?_
              refine V.getI h cls_9 (j := 2) rfl (hS.mem (show lv A 9 w from hw)) (hS.knd (show lv A 9 w from hw)) (Or.inl wf_RX9_18) (by decide +kernel) (v := nI (tf A 3)) (hS.int (show lv A 9 w from hw) (by decide) (by decide) rfl) ?_
              have nb63 := hB.1 3
              refine V.addN h (by decide +kernel) (Nat.le_of_ble_eq_true rfl) ?_
              refine V.icmp_ge h (off := 61) (by decide +kernel) (tgt := 125) (by decide) (fun q => ?_) (fun q => ?_)
              · have q64_65 := ((nI_leI (by omega) (by omega)).mp q)
                clear q
                have hk9 : tf A 3 = k := by omega
                have hend : rrD A w op (tn A 8 op % tf A 2 * tf A 3) (tf A 3) = 0 := by
                  have z := inv50
                  rw [← hk9] at z
                  exact z
                have hfr : frW A w (tn A 8 op % tf A 2 * tf A 3) k = frW A w (tn A 8 op % tf A 2 * tf A 3) (tf A 3) := by rw [← hk9]
                have hfl := frW_le A w (tn A 8 op % tf A 2 * tf A 3) (tf A 3)
                refine V.eqL (ls' := [some (.ref (ax 9 w)), some (.int (nI (e))), some (.ref (ax 6 op)), some (.int (oI (frW A w (tn A 8 op % tf A 2 * tf A 3) (tf A 3)))), some (.int (nI (tn A 8 op % tf A 2 * tf A 3))), some (.int (nI ((tn A 8 op % tf A 2 * tf A 3) + k))), none]) (by rw [hfr]) ?_
                refine V.blk h [(.iload_n 3, 1)] (by decide +kernel) (pc' := 126) (ls' := [some (.ref (ax 9 w)), some (.int (nI (e))), some (.ref (ax 6 op)), some (.int (oI (frW A w (tn A 8 op % tf A 2 * tf A 3) (tf A 3)))), some (.int (nI (tn A 8 op % tf A 2 * tf A 3))), some (.int (nI ((tn A 8 op % tf A 2 * tf A 3) + k))), none]) (st' := [.int (oI (frW A w (tn A 8 op % tf A 2 * tf A 3) (tf A 3)))]) rfl rfl (Nat.le_of_ble_eq_true rfl) ?_
                refine V.if_lt h (off := 12) (by decide +kernel) (tgt := 138) (by decide) (fun q => ?_) (fun q => ?_)
                · have q126_77 := ((oI_neg (by omega)).mp q)
                  clear q
                  refine V.blk h [(.iconst 0, 1)] (by decide +kernel) (pc' := 139) (ls' := [some (.ref (ax 9 w)), some (.int (nI (e))), some (.ref (ax 6 op)), some (.int (oI (frW A w (tn A 8 op % tf A 2 * tf A 3) (tf A 3)))), some (.int (nI (tn A 8 op % tf A 2 * tf A 3))), some (.int (nI ((tn A 8 op % tf A 2 * tf A 3) + k))), none]) (st' := [.int (nI (0))]) rfl rfl (Nat.le_of_ble_eq_true rfl) ?_
                  refine V.top (v' := .int (bI false)) (by decide) ?_
                  exact V.iret h hA hr (bI_nar _) (hp _ (by unfold rrA; rw [show rrF A w e op = 0 from (by unfold rrF; rw [if_pos ⟨by omega, by assumption⟩]; rw [hend, if_neg (by decide), if_neg (by decide), if_pos (by omega)]), if_neg (by omega)]; exact hS) lfr.rfl 0 (by unfold rrF; rw [if_pos ⟨by omega, by assumption⟩]; rw [hend, if_neg (by decide), if_neg (by decide), if_pos (by omega)]) rfl) (by decide +kernel) (Nat.zero_le _) (Nat.zero_le _)
                · have q126_77 : ¬ _ := (fun z => q ((oI_neg (by omega)).mpr z))
                  clear q
                  refine V.blk h [(.iload_n 3, 1), (.aload_n 0, 1)] (by decide +kernel) (pc' := 131) (ls' := [some (.ref (ax 9 w)), some (.int (nI (e))), some (.ref (ax 6 op)), some (.int (oI (frW A w (tn A 8 op % tf A 2 * tf A 3) (tf A 3)))), some (.int (nI (tn A 8 op % tf A 2 * tf A 3))), some (.int (nI ((tn A 8 op % tf A 2 * tf A 3) + k))), none]) (st' := [.ref (ax 9 w), .int (oI (frW A w (tn A 8 op % tf A 2 * tf A 3) (tf A 3)))]) rfl rfl (Nat.le_of_ble_eq_true rfl) ?_
                  refine V.getP h cls_9 (j := 3) rfl (hS.mem (show lv A 9 w from hw)) (hS.knd (show lv A 9 w from hw)) (Or.inl wf_RX9_29) (by decide +kernel) (v := some (ax 27 w)) (hS.ptr (show lv A 9 w from hw) (by decide) (by decide) rfl) ?_
                  refine V.eq (S' := S) (ls' := [some (.ref (ax 9 w)), some (.int (nI (e))), some (.ref (ax 6 op)), some (.int (oI (frW A w (tn A 8 op % tf A 2 * tf A 3) (tf A 3)))), some (.int (nI (tn A 8 op % tf A 2 * tf A 3))), some (.int (nI ((tn A 8 op % tf A 2 * tf A 3) + k))), none]) (st' := [.ref (ax 27 w), .int (oI (frW A w (tn A 8 op % tf A 2 * tf A 3) (tf A 3)))]) rfl rfl rfl ?_
                  refine V.alen h 27 (hS.mem (show lv A 27 w from hw)) (hS.knd (show lv A 27 w from hw)) (by decide) (M := tf A 2 * tf A 3) (hS.len (show lv A 27 w from hw) (by decide)) (by decide +kernel) ?_
                  refine V.icmp_lt h (off := 5) (by decide +kernel) (tgt := 140) (by decide) (fun q => ?_) (fun q => ?_)
                  · have q135_89 := ((oI_ltN (by omega) (by omega)).mp q)
                    clear q
                    refine V.blk h [(.aload_n 0, 1)] (by decide +kernel) (pc' := 141) (ls' := [some (.ref (ax 9 w)), some (.int (nI (e))), some (.ref (ax 6 op)), some (.int (oI (frW A w (tn A 8 op % tf A 2 * tf A 3) (tf A 3)))), some (.int (nI (tn A 8 op % tf A 2 * tf A 3))), some (.int (nI ((tn A 8 op % tf A 2 * tf A 3) + k))), none]) (st' := [.ref (ax 9 w)]) rfl rfl (Nat.le_of_ble_eq_true rfl) ?_
                    refine V.getP h cls_9 (j := 3) rfl (hS.mem (show lv A 9 w from hw)) (hS.knd (show lv A 9 w from hw)) (Or.inl wf_RX9_29) (by decide +kernel) (v := some (ax 27 w)) (hS.ptr (show lv A 9 w from hw) (by decide) (by decide) rfl) ?_
                    refine V.eq (S' := S) (ls' := [some (.ref (ax 9 w)), some (.int (nI (e))), some (.ref (ax 6 op)), some (.int (oI (frW A w (tn A 8 op % tf A 2 * tf A 3) (tf A 3)))), some (.int (nI (tn A 8 op % tf A 2 * tf A 3))), some (.int (nI ((tn A 8 op % tf A 2 * tf A 3) + k))), none]) (st' := [.ref (ax 27 w)]) rfl rfl rfl ?_
                    refine V.blk h [(.iload_n 3, 1), (.aload_n 2, 1)] (by decide +kernel) (pc' := 146) (ls' := [some (.ref (ax 9 w)), some (.int (nI (e))), some (.ref (ax 6 op)), some (.int (oI (frW A w (tn A 8 op % tf A 2 * tf A 3) (tf A 3)))), some (.int (nI (tn A 8 op % tf A 2 * tf A 3))), some (.int (nI ((tn A 8 op % tf A 2 * tf A 3) + k))), none]) (st' := [.ref (ax 6 op), .int (oI (frW A w (tn A 8 op % tf A 2 * tf A 3) (tf A 3))), .ref (ax 27 w)]) rfl rfl (Nat.le_of_ble_eq_true rfl) ?_
                    refine V.st2 (v' := .int (nI ((frW A w (tn A 8 op % tf A 2 * tf A 3) (tf A 3)) - 1))) (oI_pos (by omega)) ?_
                    refine V.aast h 27 (hS.mem (show lv A 27 w from hw)) (hS.knd (show lv A 27 w from hw)) (by decide) rfl (M := tf A 2 * tf A 3) (hS.len (show lv A 27 w from hw) (by decide)) (i := (frW A w (tn A 8 op % tf A 2 * tf A 3) (tf A 3)) - 1) (by omega) (by omega) cls_6 (hS.mem (show lv A 6 op from ho)) (hS.knd (show lv A 6 op from ho)) (Or.inl rfl) (by decide +kernel) ?_
                    refine V.gen (P := fun S9 => RA tc (mx ax ay) (sn A 1 (16 * w + ((frW A w (tn A 8 op % tf A 2 * tf A 3) (tf A 3)) - 1)) (op + 1)) S9 ∧ lfr S S9) ⟨(hS.p_plc (w := w) (k := (frW A w (tn A 8 op % tf A 2 * tf A 3) (tf A 3)) - 1) (t := op + 1) hw (by omega) (Nat.succ_le_of_lt (show lv A 6 op from ho))), (lfr.rfl (S := S)).sR⟩ (fun S1 q8 => ?_)
                    obtain ⟨hS1, lf2⟩ := q8
                    refine V.blk h [(.iconst 1, 1)] (by decide +kernel) (pc' := 148) (ls' := [some (.ref (ax 9 w)), some (.int (nI (e))), some (.ref (ax 6 op)), some (.int (oI (frW A w (tn A 8 op % tf A 2 * tf A 3) (tf A 3)))), some (.int (nI (tn A 8 op % tf A 2 * tf A 3))), some (.int (nI ((tn A 8 op % tf A 2 * tf A 3) + k))), none]) (st' := [.int (nI (1))]) rfl rfl (Nat.le_of_ble_eq_true rfl) ?_
                    refine V.top (v' := .int (bI true)) (by decide) ?_
                    exact V.iret h hA hr (bI_nar _) (hp _ (by unfold rrA; rw [show rrF A w e op = frW A w (tn A 8 op % tf A 2 * tf A 3) (tf A 3) + 1 from (by unfold rrF; rw [if_pos ⟨by omega, by assumption⟩]; rw [hend, if_neg (by decide), if_neg (by decide), if_neg (by omega)]), if_pos (by omega), show frW A w (tn A 8 op % tf A 2 * tf A 3) (tf A 3) + 1 - 2 = frW A w (tn A 8 op % tf A 2 * tf A 3) (tf A 3) - 1 by omega]; exact hS1) lf2 (frW A w (tn A 8 op % tf A 2 * tf A 3) (tf A 3) + 1) (by unfold rrF; rw [if_pos ⟨by omega, by assumption⟩]; rw [hend, if_neg (by decide), if_neg (by decide), if_neg (by omega)]) (by simp)) (by decide +kernel) (Nat.zero_le _) (Nat.zero_le _)
                  · have q135_89 : ¬ _ := (fun z => q ((oI_ltN (by omega) (by omega)).mpr z))
                    clear q
                    omega
              · have q64_65 : ¬ _ := (fun z => q ((nI_leI (by omega) (by omega)).mpr z))
                clear q
                refine V.blk h [(.iload 5, 2), (.aload_n 0, 1)] (by decide +kernel) (pc' := 70) (ls' := [some (.ref (ax 9 w)), some (.int (nI (e))), some (.ref (ax 6 op)), some (.int (oI (frW A w (tn A 8 op % tf A 2 * tf A 3) k))), some (.int (nI (tn A 8 op % tf A 2 * tf A 3))), some (.int (nI ((tn A 8 op % tf A 2 * tf A 3) + k))), none]) (st' := [.ref (ax 9 w), .int (nI ((tn A 8 op % tf A 2 * tf A 3) + k))]) rfl rfl (Nat.le_of_ble_eq_true rfl) ?_
                refine V.getP h cls_9 (j := 3) rfl (hS.mem (show lv A 9 w from hw)) (hS.knd (show lv A 9 w from hw)) (Or.inl wf_RX9_29) (by decide +kernel) (v := some (ax 27 w)) (hS.ptr (show lv A 9 w from hw) (by decide) (by decide) rfl) ?_
                refine V.eq (S' := S) (ls' := [some (.ref (ax 9 w)), some (.int (nI (e))), some (.ref (ax 6 op)), some (.int (oI (frW A w (tn A 8 op % tf A 2 * tf A 3) k))), some (.int (nI (tn A 8 op % tf A 2 * tf A 3))), some (.int (nI ((tn A 8 op % tf A 2 * tf A 3) + k))), none]) (st' := [.ref (ax 27 w), .int (nI ((tn A 8 op % tf A 2 * tf A 3) + k))]) rfl rfl rfl ?_
                refine V.alen h 27 (hS.mem (show lv A 27 w from hw)) (hS.knd (show lv A 27 w from hw)) (by decide) (M := tf A 2 * tf A 3) (hS.len (show lv A 27 w from hw) (by decide)) (by decide +kernel) ?_
                refine V.icmp_ge h (off := 51) (by decide +kernel) (tgt := 125) (by decide) (fun q => ?_) (fun q => ?_)
                · have q74_112 := ((nI_leI (by omega) (by omega)).mp q)
                  clear q
                  omega
                · have q74_112 : ¬ _ := (fun z => q ((nI_leI (by omega) (by omega)).mpr z))
                  clear q
                  by_cases hpl77 : tn A 1 (16 * w + ((tn A 8 op % tf A 2 * tf A 3) + k)) = 0
                  · skip
                    refine V.blk h [(.aload_n 0, 1)] (by decide +kernel) (pc' := 78) (ls' := [some (.ref (ax 9 w)), some (.int (nI (e))), some (.ref (ax 6 op)), some (.int (oI (frW A w (tn A 8 op % tf A 2 * tf A 3) k))), some (.int (nI (tn A 8 op % tf A 2 * tf A 3))), some (.int (nI ((tn A 8 op % tf A 2 * tf A 3) + k))), none]) (st' := [.ref (ax 9 w)]) rfl rfl (Nat.le_of_ble_eq_true rfl) ?_
                    refine V.getP h cls_9 (j := 3) rfl (hS.mem (show lv A 9 w from hw)) (hS.knd (show lv A 9 w from hw)) (Or.inl wf_RX9_29) (by decide +kernel) (v := some (ax 27 w)) (hS.ptr (show lv A 9 w from hw) (by decide) (by decide) rfl) ?_
                    refine V.eq (S' := S) (ls' := [some (.ref (ax 9 w)), some (.int (nI (e))), some (.ref (ax 6 op)), some (.int (oI (frW A w (tn A 8 op % tf A 2 * tf A 3) k))), some (.int (nI (tn A 8 op % tf A 2 * tf A 3))), some (.int (nI ((tn A 8 op % tf A 2 * tf A 3) + k))), none]) (st' := [.ref (ax 27 w)]) rfl rfl rfl ?_
                    refine V.blk h [(.iload 5, 2)] (by decide +kernel) (pc' := 83) (ls' := [some (.ref (ax 9 w)), some (.int (nI (e))), some (.ref (ax 6 op)), some (.int (oI (frW A w (tn A 8 op % tf A 2 * tf A 3) k))), some (.int (nI (tn A 8 op % tf A 2 * tf A 3))), some (.int (nI ((tn A 8 op % tf A 2 * tf A 3) + k))), none]) (st' := [.int (nI ((tn A 8 op % tf A 2 * tf A 3) + k)), .ref (ax 27 w)]) rfl rfl (Nat.le_of_ble_eq_true rfl) ?_
                    refine V.aald h 27 (hS.mem (show lv A 27 w from hw)) (hS.knd (show lv A 27 w from hw)) (by decide) rfl (M := tf A 2 * tf A 3) (hS.len (show lv A 27 w from hw) (by decide)) (i := (tn A 8 op % tf A 2 * tf A 3) + k) (by omega) (by show _ < 2 ^ 31; first | omega | decide) (by decide +kernel) (v := none) ((hS.ref (show lv A 27 w from hw) (by decide) (by show _ < tf A 2 * tf A 3; omega)).trans (by show opA _ (tn A 1 (16 * w + ((tn A 8 op % tf A 2 * tf A 3) + k))) = none; rw [hpl77]; rfl)) ?_
                    refine V.eq (S' := S) (ls' := [some (.ref (ax 9 w)), some (.int (nI (e))), some (.ref (ax 6 op)), some (.int (oI (frW A w (tn A 8 op % tf A 2 * tf A 3) k))), some (.int (nI (tn A 8 op % tf A 2 * tf A 3))), some (.int (nI ((tn A 8 op % tf A 2 * tf A 3) + k))), none]) (st' := [.null]) rfl rfl rfl ?_
                    refine V.blk h [(.astore 6, 2), (.aload 6, 2), (.aload_n 2, 1)] (by decide +kernel) (pc' := 89) (ls' := [some (.ref (ax 9 w)), some (.int (nI (e))), some (.ref (ax 6 op)), some (.int (oI (frW A w (tn A 8 op % tf A 2 * tf A 3) k))), some (.int (nI (tn A 8 op % tf A 2 * tf A 3))), some (.int (nI ((tn A 8 op % tf A 2 * tf A 3) + k))), some (.null)]) (st' := [.ref (ax 6 op), .null]) rfl rfl (Nat.le_of_ble_eq_true rfl) ?_
                    refine V.acmp_ne h (rx := none) (ry := some (ax 6 op)) (off := 5) (by decide +kernel) (tgt := 94) (by decide) (fun q => ?_) (fun q => ?_)
                    · have q89_127 : ¬ _ := (fun z => q (((⟨(fun z => by cases z), (fun z => z.elim)⟩ : ((none : Option Nat) = some (ax 6 op)) ↔ False)).mpr z))
                      clear q
                      refine V.blk h [(.aload 6, 2)] (by decide +kernel) (pc' := 96) (ls' := [some (.ref (ax 9 w)), some (.int (nI (e))), some (.ref (ax 6 op)), some (.int (oI (frW A w (tn A 8 op % tf A 2 * tf A 3) k))), some (.int (nI (tn A 8 op % tf A 2 * tf A 3))), some (.int (nI ((tn A 8 op % tf A 2 * tf A 3) + k))), some (.null)]) (st' := [.null]) rfl rfl (Nat.le_of_ble_eq_true rfl) ?_
                      refine V.ifnonnull h (o := none) (off := 9) (by decide +kernel) (tgt := 105) (by decide) (fun _ z => by cases z) (fun _ => ?_)
                      refine V.blk h [(.iload 5, 2), (.istore_n 3, 1)] (by decide +kernel) (pc' := 102) (ls' := [some (.ref (ax 9 w)), some (.int (nI (e))), some (.ref (ax 6 op)), some (.int (nI ((tn A 8 op % tf A 2 * tf A 3) + k))), some (.int (nI (tn A 8 op % tf A 2 * tf A 3))), some (.int (nI ((tn A 8 op % tf A 2 * tf A 3) + k))), some (.null)]) (st' := []) rfl rfl (Nat.le_of_ble_eq_true rfl) ?_
                      refine V.goto h (off := 17) (tgt := 119) (by decide +kernel) (by decide) ?_
                      refine V.incN h (x := (tn A 8 op % tf A 2 * tf A 3) + k) (i := 5) (by decide +kernel) rfl (Nat.le_of_ble_eq_true rfl) ?_
                      refine V.eqL (ls' := [some (.ref (ax 9 w)), some (.int (nI (e))), some (.ref (ax 6 op)), some (.int (nI ((tn A 8 op % tf A 2 * tf A 3) + k))), some (.int (nI (tn A 8 op % tf A 2 * tf A 3))), some (.int (nI (((tn A 8 op % tf A 2 * tf A 3) + k) + 1))), some (.null)]) rfl ?_
                      refine V.goto h (off := -72) (tgt := 50) (by decide +kernel) (by decide) ?_
                      refine V.drop 6 (ls' := [some (.ref (ax 9 w)), some (.int (nI (e))), some (.ref (ax 6 op)), some (.int (nI ((tn A 8 op % tf A 2 * tf A 3) + k))), some (.int (nI (tn A 8 op % tf A 2 * tf A 3))), some (.int (nI (((tn A 8 op % tf A 2 * tf A 3) + k) + 1))), none]) rfl ?_
                      refine V.eqL (ls' := [some (.ref (ax 9 w)), some (.int (nI (e))), some (.ref (ax 6 op)), some (.int (oI (frW A w (tn A 8 op % tf A 2 * tf A 3) ((k + 1))))), some (.int (nI (tn A 8 op % tf A 2 * tf A 3))), some (.int (nI ((tn A 8 op % tf A 2 * tf A 3) + (k + 1)))), none]) (by simp only [frW, plW, hpl77, if_true, oI_s]; rfl) ?_
                      exact ih50 ((tf A 3) - (k + 1)) (by omega) (k + 1) rfl (by omega) (by unfold rrD; rw [if_neg (by omega), if_neg (by unfold plW; omega)]; unfold plW; rw [if_pos hpl77])
                    · have q89_127 := (((⟨(fun z => by cases z), (fun z => z.elim)⟩ : ((none : Option Nat) = some (ax 6 op)) ↔ False)).mp q)
                      clear q
                      exact absurd q89_127 id
                  · skip
                    refine V.blk h [(.aload_n 0, 1)] (by decide +kernel) (pc' := 78) (ls' := [some (.ref (ax 9 w)), some (.int (nI (e))), some (.ref (ax 6 op)), some (.int (oI (frW A w (tn A 8 op % tf A 2 * tf A 3) k))), some (.int (nI (tn A 8 op % tf A 2 * tf A 3))), some (.int (nI ((tn A 8 op % tf A 2 * tf A 3) + k))), none]) (st' := [.ref (ax 9 w)]) rfl rfl (Nat.le_of_ble_eq_true rfl) ?_
                    refine V.getP h cls_9 (j := 3) rfl (hS.mem (show lv A 9 w from hw)) (hS.knd (show lv A 9 w from hw)) (Or.inl wf_RX9_29) (by decide +kernel) (v := some (ax 27 w)) (hS.ptr (show lv A 9 w from hw) (by decide) (by decide) rfl) ?_
                    refine V.eq (S' := S) (ls' := [some (.ref (ax 9 w)), some (.int (nI (e))), some (.ref (ax 6 op)), some (.int (oI (frW A w (tn A 8 op % tf A 2 * tf A 3) k))), some (.int (nI (tn A 8 op % tf A 2 * tf A 3))), some (.int (nI ((tn A 8 op % tf A 2 * tf A 3) + k))), none]) (st' := [.ref (ax 27 w)]) rfl rfl rfl ?_
                    refine V.blk h [(.iload 5, 2)] (by decide +kernel) (pc' := 83) (ls' := [some (.ref (ax 9 w)), some (.int (nI (e))), some (.ref (ax 6 op)), some (.int (oI (frW A w (tn A 8 op % tf A 2 * tf A 3) k))), some (.int (nI (tn A 8 op % tf A 2 * tf A 3))), some (.int (nI ((tn A 8 op % tf A 2 * tf A 3) + k))), none]) (st' := [.int (nI ((tn A 8 op % tf A 2 * tf A 3) + k)), .ref (ax 27 w)]) rfl rfl (Nat.le_of_ble_eq_true rfl) ?_
                    refine V.aald h 27 (hS.mem (show lv A 27 w from hw)) (hS.knd (show lv A 27 w from hw)) (by decide) rfl (M := tf A 2 * tf A 3) (hS.len (show lv A 27 w from hw) (by decide)) (i := (tn A 8 op % tf A 2 * tf A 3) + k) (by omega) (by show _ < 2 ^ 31; first | omega | decide) (by decide +kernel) (v := some (ax 6 (tn A 1 (16 * w + ((tn A 8 op % tf A 2 * tf A 3) + k)) - 1))) ((hS.ref (show lv A 27 w from hw) (by decide) (by show _ < tf A 2 * tf A 3; omega)).trans (by show opA _ (tn A 1 (16 * w + ((tn A 8 op % tf A 2 * tf A 3) + k))) = _; unfold opA; rw [if_neg hpl77]; rfl)) ?_
                    refine V.eq (S' := S) (ls' := [some (.ref (ax 9 w)), some (.int (nI (e))), some (.ref (ax 6 op)), some (.int (oI (frW A w (tn A 8 op % tf A 2 * tf A 3) k))), some (.int (nI (tn A 8 op % tf A 2 * tf A 3))), some (.int (nI ((tn A 8 op % tf A 2 * tf A 3) + k))), none]) (st' := [.ref (ax 6 (tn A 1 (16 * w + ((tn A 8 op % tf A 2 * tf A 3) + k)) - 1))]) rfl rfl rfl ?_
                    refine V.blk h [(.astore 6, 2), (.aload 6, 2), (.aload_n 2, 1)] (by decide +kernel) (pc' := 89) (ls' := [some (.ref (ax 9 w)), some (.int (nI (e))), some (.ref (ax 6 op)), some (.int (oI (frW A w (tn A 8 op % tf A 2 * tf A 3) k))), some (.int (nI (tn A 8 op % tf A 2 * tf A 3))), some (.int (nI ((tn A 8 op % tf A 2 * tf A 3) + k))), some (.ref (ax 6 (tn A 1 (16 * w + ((tn A 8 op % tf A 2 * tf A 3) + k)) - 1)))]) (st' := [.ref (ax 6 op), .ref (ax 6 (tn A 1 (16 * w + ((tn A 8 op % tf A 2 * tf A 3) + k)) - 1))]) rfl rfl (Nat.le_of_ble_eq_true rfl) ?_
                    refine V.acmp_ne h (rx := some (ax 6 (tn A 1 (16 * w + ((tn A 8 op % tf A 2 * tf A 3) + k)) - 1))) (ry := some (ax 6 op)) (off := 5) (by decide +kernel) (tgt := 94) (by decide) (fun q => ?_) (fun q => ?_)
                    · have q89_151 : ¬ _ := (fun z => q ((hS.opeq (by have z9 := hS.2.2.2.2.2.2.2.2.2 w (((tn A 8 op % tf A 2 * tf A 3) + k)) hw (by omega); show tn A 1 (16 * w + ((tn A 8 op % tf A 2 * tf A 3) + k)) - 1 < tf A 13; omega) ho).mpr z))
                      clear q
                      refine V.blk h [(.aload 6, 2)] (by decide +kernel) (pc' := 96) (ls' := [some (.ref (ax 9 w)), some (.int (nI (e))), some (.ref (ax 6 op)), some (.int (oI (frW A w (tn A 8 op % tf A 2 * tf A 3) k))), some (.int (nI (tn A 8 op % tf A 2 * tf A 3))), some (.int (nI ((tn A 8 op % tf A 2 * tf A 3) + k))), some (.ref (ax 6 (tn A 1 (16 * w + ((tn A 8 op % tf A 2 * tf A 3) + k)) - 1)))]) (st' := [.ref (ax 6 (tn A 1 (16 * w + ((tn A 8 op % tf A 2 * tf A 3) + k)) - 1))]) rfl rfl (Nat.le_of_ble_eq_true rfl) ?_
                      refine V.ifnonnull h (o := (some (ax 6 (tn A 1 (16 * w + ((tn A 8 op % tf A 2 * tf A 3) + k)) - 1)))) (off := 9) (by decide +kernel) (tgt := 105) (by decide) (fun _ _ => ?_) (fun z => by cases z)
                      refine V.blk h [(.aload 6, 2)] (by decide +kernel) (pc' := 107) (ls' := [some (.ref (ax 9 w)), some (.int (nI (e))), some (.ref (ax 6 op)), some (.int (oI (frW A w (tn A 8 op % tf A 2 * tf A 3) k))), some (.int (nI (tn A 8 op % tf A 2 * tf A 3))), some (.int (nI ((tn A 8 op % tf A 2 * tf A 3) + k))), some (.ref (ax 6 (tn A 1 (16 * w + ((tn A 8 op % tf A 2 * tf A 3) + k)) - 1)))]) (st' := [.ref (ax 6 (tn A 1 (16 * w + ((tn A 8 op % tf A 2 * tf A 3) + k)) - 1))]) rfl rfl (Nat.le_of_ble_eq_true rfl) ?_
                      refine V.getI h cls_6 (j := 3) rfl (hS.mem (show lv A 6 (tn A 1 (16 * w + ((tn A 8 op % tf A 2 * tf A 3) + k)) - 1) from (by have z9 := hS.2.2.2.2.2.2.2.2.2 w (((tn A 8 op % tf A 2 * tf A 3) + k)) hw (by omega); show tn A 1 (16 * w + ((tn A 8 op % tf A 2 * tf A 3) + k)) - 1 < tf A 13; omega))) (hS.knd (show lv A 6 (tn A 1 (16 * w + ((tn A 8 op % tf A 2 * tf A 3) + k)) - 1) from (by have z9 := hS.2.2.2.2.2.2.2.2.2 w (((tn A 8 op % tf A 2 * tf A 3) + k)) hw (by omega); show tn A 1 (16 * w + ((tn A 8 op % tf A 2 * tf A 3) + k)) - 1 < tf A 13; omega))) (Or.inr ⟨_, wf_RX9_40⟩) (by decide +kernel) (v := nI (tn A 8 (tn A 1 (16 * w + ((tn A 8 op % tf A 2 * tf A 3) + k)) - 1))) (hS.int (show lv A 6 (tn A 1 (16 * w + ((tn A 8 op % tf A 2 * tf A 3) + k)) - 1) from (by have z9 := hS.2.2.2.2.2.2.2.2.2 w (((tn A 8 op % tf A 2 * tf A 3) + k)) hw (by omega); show tn A 1 (16 * w + ((tn A 8 op % tf A 2 * tf A 3) + k)) - 1 < tf A 13; omega)) (by decide) (by decide) rfl) ?_
                      have nb158 := hB.2 8 (tn A 1 (16 * w + ((tn A 8 op % tf A 2 * tf A 3) + k)) - 1)
                      refine V.blk h [(.aload_n 2, 1)] (by decide +kernel) (pc' := 111) (ls' := [some (.ref (ax 9 w)), some (.int (nI (e))), some (.ref (ax 6 op)), some (.int (oI (frW A w (tn A 8 op % tf A 2 * tf A 3) k))), some (.int (nI (tn A 8 op % tf A 2 * tf A 3))), some (.int (nI ((tn A 8 op % tf A 2 * tf A 3) + k))), some (.ref (ax 6 (tn A 1 (16 * w + ((tn A 8 op % tf A 2 * tf A 3) + k)) - 1)))]) (st' := [.ref (ax 6 op), .int (nI (tn A 8 (tn A 1 (16 * w + ((tn A 8 op % tf A 2 * tf A 3) + k)) - 1)))]) rfl rfl (Nat.le_of_ble_eq_true rfl) ?_
                      refine V.getI h cls_6 (j := 3) rfl (hS.mem (show lv A 6 op from ho)) (hS.knd (show lv A 6 op from ho)) (Or.inr ⟨_, wf_RX9_40⟩) (by decide +kernel) (v := nI (tn A 8 op)) (hS.int (show lv A 6 op from ho) (by decide) (by decide) rfl) ?_
                      have nb161 := hB.2 8 op
                      refine V.icmp_ne h (off := 5) (by decide +kernel) (tgt := 119) (by decide) (fun q => ?_) (fun q => ?_)
                      · have q114_162 : ¬ _ := (fun z => q ((nI_eq (by omega) (by omega)).mpr z))
                        clear q
                        refine V.incN h (x := (tn A 8 op % tf A 2 * tf A 3) + k) (i := 5) (by decide +kernel) rfl (Nat.le_of_ble_eq_true rfl) ?_
                        refine V.eqL (ls' := [some (.ref (ax 9 w)), some (.int (nI (e))), some (.ref (ax 6 op)), some (.int (oI (frW A w (tn A 8 op % tf A 2 * tf A 3) k))), some (.int (nI (tn A 8 op % tf A 2 * tf A 3))), some (.int (nI (((tn A 8 op % tf A 2 * tf A 3) + k) + 1))), some (.ref (ax 6 (tn A 1 (16 * w + ((tn A 8 op % tf A 2 * tf A 3) + k)) - 1)))]) rfl ?_
                        refine V.goto h (off := -72) (tgt := 50) (by decide +kernel) (by decide) ?_
                        refine V.drop 6 (ls' := [some (.ref (ax 9 w)), some (.int (nI (e))), some (.ref (ax 6 op)), some (.int (oI (frW A w (tn A 8 op % tf A 2 * tf A 3) k))), some (.int (nI (tn A 8 op % tf A 2 * tf A 3))), some (.int (nI (((tn A 8 op % tf A 2 * tf A 3) + k) + 1))), none]) rfl ?_
                        refine V.eqL (ls' := [some (.ref (ax 9 w)), some (.int (nI (e))), some (.ref (ax 6 op)), some (.int (oI (frW A w (tn A 8 op % tf A 2 * tf A 3) ((k + 1))))), some (.int (nI (tn A 8 op % tf A 2 * tf A 3))), some (.int (nI ((tn A 8 op % tf A 2 * tf A 3) + (k + 1)))), none]) (by simp only [frW, plW, hpl77, if_false]; rfl) ?_
                        exact ih50 ((tf A 3) - (k + 1)) (by omega) (k + 1) rfl (by omega) (by unfold rrD; rw [if_neg (by omega), if_neg (by unfold plW; omega)]; unfold plW; rw [if_neg hpl77, if_neg (by omega)])
                      · have q114_162 := ((nI_eq (by omega) (by omega)).mp q)
                        clear q
                        refine V.blk h [(.iconst 0, 1)] (by decide +kernel) (pc' := 118) (ls' := [some (.ref (ax 9 w)), some (.int (nI (e))), some (.ref (ax 6 op)), some (.int (oI (frW A w (tn A 8 op % tf A 2 * tf A 3) k))), some (.int (nI (tn A 8 op % tf A 2 * tf A 3))), some (.int (nI ((tn A 8 op % tf A 2 * tf A 3) + k))), some (.ref (ax 6 (tn A 1 (16 * w + ((tn A 8 op % tf A 2 * tf A 3) + k)) - 1)))]) (st' := [.int (nI (0))]) rfl rfl (Nat.le_of_ble_eq_true rfl) ?_
                        refine V.top (v' := .int (bI false)) (by decide) ?_
                        exact V.iret h hA hr (bI_nar _) (hp _ (by unfold rrA; rw [show rrF A w e op = 0 from (by unfold rrF; rw [if_pos ⟨by omega, by assumption⟩]; rw [(rrD_stay (k := k) (c := 2) (by unfold rrD; rw [if_neg (by omega), if_neg (by unfold plW; omega), if_neg (by unfold plW; omega), if_pos (by unfold plW; omega)]) (by decide) _ (by omega)), if_neg (by decide), if_pos rfl]), if_neg (by omega)]; exact hS) lfr.rfl 0 (by unfold rrF; rw [if_pos ⟨by omega, by assumption⟩]; rw [(rrD_stay (k := k) (c := 2) (by unfold rrD; rw [if_neg (by omega), if_neg (by unfold plW; omega), if_neg (by unfold plW; omega), if_pos (by unfold plW; omega)]) (by decide) _ (by omega)), if_neg (by decide), if_pos rfl]) rfl) (by decide +kernel) (Nat.zero_le _) (Nat.zero_le _)
                    · have q89_151 := ((hS.opeq (by have z9 := hS.2.2.2.2.2.2.2.2.2 w (((tn A 8 op % tf A 2 * tf A 3) + k)) hw (by omega); show tn A 1 (16 * w + ((tn A 8 op % tf A 2 * tf A 3) + k)) - 1 < tf A 13; omega) ho).mp q)
                      clear q
                      refine V.blk h [(.iconst 1, 1)] (by decide +kernel) (pc' := 93) (ls' := [some (.ref (ax 9 w)), some (.int (nI (e))), some (.ref (ax 6 op)), some (.int (oI (frW A w (tn A 8 op % tf A 2 * tf A 3) k))), some (.int (nI (tn A 8 op % tf A 2 * tf A 3))), some (.int (nI ((tn A 8 op % tf A 2 * tf A 3) + k))), some (.ref (ax 6 (tn A 1 (16 * w + ((tn A 8 op % tf A 2 * tf A 3) + k)) - 1)))]) (st' := [.int (nI (1))]) rfl rfl (Nat.le_of_ble_eq_true rfl) ?_
                      refine V.top (v' := .int (bI true)) (by decide) ?_
                      exact V.iret h hA hr (bI_nar _) (hp _ (by unfold rrA; rw [show rrF A w e op = 1 from (by unfold rrF; rw [if_pos ⟨by omega, by assumption⟩]; rw [(rrD_stay (k := k) (c := 1) (by unfold rrD; rw [if_neg (by omega), if_pos (by unfold plW; omega)]) (by decide) _ (by omega)), if_pos rfl]), if_neg (by omega)]; exact hS) lfr.rfl 1 (by unfold rrF; rw [if_pos ⟨by omega, by assumption⟩]; rw [(rrD_stay (k := k) (c := 1) (by unfold rrD; rw [if_neg (by omega), if_pos (by unfold plW; omega)]) (by decide) _ (by omega)), if_pos rfl]) rfl) (by decide +kernel) (Nat.zero_le _) (Nat.zero_le _)
        refine V.eqL (ls' := [some (.ref (ax 9 w)), some (.int (nI (e))), some (.ref (ax 6 op)), some (.int (oI (frW A w (tn A 8 op % tf A 2 * tf A 3) 0))), some (.int (nI (tn A 8 op % tf A 2 * tf A 3))), some (.int (nI ((tn A 8 op % tf A 2 * tf A 3) + 0))), none]) rfl ?_
        exact loop50 _ 0 rfl (Nat.zero_le _) rfl
    · have q12_22 := (bI_1 (fun z => q (bI_0.mpr z)))
      clear q
      refine V.blk h [(.iconst 0, 1)] (by decide +kernel) (pc' := 16) (ls' := [some (.ref (ax 9 w)), some (.int (nI (e))), some (.ref (ax 6 op)), none, none, none, none]) (st' := [.int (nI (0))]) rfl rfl (Nat.le_of_ble_eq_true rfl) ?_
      refine V.top (v' := .int (bI false)) (by decide) ?_
      exact V.iret h hA hr (bI_nar _) (hp _ (by unfold rrA; rw [show rrF A w e op = 0 from (by unfold rrF; rw [if_neg (by intro z; first | omega | exact absurd (z.2.symm.trans q12_22) (by decide))]), if_neg (by omega)]; exact hS) lfr.rfl 0 (by unfold rrF; rw [if_neg (by intro z; first | omega | exact absurd (z.2.symm.trans q12_22) (by decide))]) rfl) (by decide +kernel) (Nat.zero_le _) (Nat.zero_le _)
