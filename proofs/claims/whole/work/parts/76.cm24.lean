/-! ===== letters at witnesses and clients ===== -/
def wgcC (A : TS) (w e n : Nat) : TS := if tn A 41 w = e then drL A w e n (tf A 2 * tf A 3) else A
def wrcC (A : TS) (w e op : Nat) : TS := sendF (rrA A w e op) (if rrF A w e op ≠ 0 then 3 else 4) e (tn A 5 op) (op + 1) (tn A 6 op) w (nI 0) false
theorem rrA_keep (A : TS) (w e op : Nat) : (∀ j, tf (rrA A w e op) j = tf A j) ∧ (∀ j i, j ≠ 1 → tn (rrA A w e op) j i = tn A j i) := by
  unfold rrA
  split
  · exact ⟨fun _ => rfl, fun j i q => by rw [tn_sn, if_neg (fun z => q z.1)]⟩
  · exact ⟨fun _ => rfl, fun _ _ _ => rfl⟩
def rclC (A : TS) (so e c9 op w : Nat) (x : Int32) (sa : Bool) : TS := if tn A 17 c9 = e ∧ tn A 16 c9 = op + 1 ∧ tn A 11 op = 0 then (if so = 4 then sendF A 5 e (tn A 5 op) (op + 1) (tn A 6 op) 0 (nI 0) false else if so = 3 then fiaC (sn A 18 c9 (tn A 18 c9 ||| 2 ^ w)) c9 op else ranC A c9 op x sa) else A
set_option maxRecDepth 100000 in
set_option maxHeartbeats 4000000 in
theorem c_rWitness9 {l : Launch} {D : va_G} {tc : Nat → ClassId} {ax ay : Nat → Nat → Nat} {A : TS} {S : HS} (hls : l.stackTraces = false) (hS : RA tc (mx ax ay) A S) {q : Nat} {e : Nat} {w : Nat} {n : Nat} {sa : Bool} {x : Int32} {K : Nat}  (hw : w < tf A 1) (hq : LT S q 9 e w none n x sa) (heK : e ≤ K) (hB : NB K A) (hK : K < 1800000000) (h9 : 700 ≤ K) {post : Option Value → HS → Prop} (hp : ∀ (S8 : HS) (ay8 : Nat → Nat → Nat), RA tc (mx ax ay8) (wrsC A w e) S8 → post none S8) : CM l D tc yX10_readAtWitness cX10_readAtWitness 4 (none) 7 0 0 [.ref (ax 10 0), .ref q] S post := by
  refine CM.of hls (by decide +kernel) (by simp [Value.category]) (Nat.le_of_ble_eq_true rfl) (fun A0 p e9 s m args below meth c sz h hr hnm hA => ?_)
  have hf3 := hS.2.2.1.2.1
  have h5 := hS.2.2.2.1.1
  refine V.eqL (ls' := [some (.ref (ax 10 0)), some (.ref q), none, none]) rfl ?_
  refine V.blk h [(.aload_n 1, 1)] (by decide +kernel) (pc' := 1) (ls' := [some (.ref (ax 10 0)), some (.ref q), none, none]) (st' := [.ref q]) rfl rfl (Nat.le_of_ble_eq_true rfl) ?_
  refine V.getI h cls_4 (j := 2) rfl hq.1 hq.2.1 (Or.inr ⟨_, wf_RX10_200⟩) (by decide +kernel) (v := nI w) hq.2.2.2.2.1 ?_
  refine V.if_lt h (off := 15) (by decide +kernel) (tgt := 19) (by decide) (fun q => ?_) (fun q => ?_)
  · have q4_5 := ((nI_z_lt (by omega)).mp q)
    clear q
    exact absurd q4_5 id
  · have q4_5 : ¬ _ := (fun z => q ((nI_z_lt (by omega)).mpr z))
    clear q
    refine V.blk h [(.aload_n 1, 1)] (by decide +kernel) (pc' := 8) (ls' := [some (.ref (ax 10 0)), some (.ref q), none, none]) (st' := [.ref q]) rfl rfl (Nat.le_of_ble_eq_true rfl) ?_
    refine V.getI h cls_4 (j := 2) rfl hq.1 hq.2.1 (Or.inr ⟨_, wf_RX10_200⟩) (by decide +kernel) (v := nI w) hq.2.2.2.2.1 ?_
    refine V.blk h [(.aload_n 0, 1)] (by decide +kernel) (pc' := 12) (ls' := [some (.ref (ax 10 0)), some (.ref q), none, none]) (st' := [.ref (ax 10 0), .int (nI (w))]) rfl rfl (Nat.le_of_ble_eq_true rfl) ?_
    refine V.getP h cls_10 (j := 6) rfl (hS.mem (show lv A 10 0 from rfl)) (hS.knd (show lv A 10 0 from rfl)) (Or.inl wf_RX10_45) (by decide +kernel) (v := some (ax 26 0)) (hS.ptr (show lv A 10 0 from rfl) (by decide) (by decide) rfl) ?_
    refine V.eq (S' := S) (ls' := [some (.ref (ax 10 0)), some (.ref q), none, none]) (st' := [.ref (ax 26 0), .int (nI (w))]) rfl rfl rfl ?_
    refine V.alen h 26 (hS.mem (show lv A 26 0 from rfl)) (hS.knd (show lv A 26 0 from rfl)) (by decide) (M := tf A 1) (hS.len (show lv A 26 0 from rfl) (by decide)) (by decide +kernel) ?_
    refine V.icmp_lt h (off := 4) (by decide +kernel) (tgt := 20) (by decide) (fun q => ?_) (fun q => ?_)
    · have q16_17 := ((nI_ltI (by omega) (by omega)).mp q)
      clear q
      refine V.blk h [(.aload_n 0, 1)] (by decide +kernel) (pc' := 21) (ls' := [some (.ref (ax 10 0)), some (.ref q), none, none]) (st' := [.ref (ax 10 0)]) rfl rfl (Nat.le_of_ble_eq_true rfl) ?_
      refine V.getP h cls_10 (j := 6) rfl (hS.mem (show lv A 10 0 from rfl)) (hS.knd (show lv A 10 0 from rfl)) (Or.inl wf_RX10_45) (by decide +kernel) (v := some (ax 26 0)) (hS.ptr (show lv A 10 0 from rfl) (by decide) (by decide) rfl) ?_
      refine V.eq (S' := S) (ls' := [some (.ref (ax 10 0)), some (.ref q), none, none]) (st' := [.ref (ax 26 0)]) rfl rfl rfl ?_
      refine V.blk h [(.aload_n 1, 1)] (by decide +kernel) (pc' := 25) (ls' := [some (.ref (ax 10 0)), some (.ref q), none, none]) (st' := [.ref q, .ref (ax 26 0)]) rfl rfl (Nat.le_of_ble_eq_true rfl) ?_
      refine V.getI h cls_4 (j := 2) rfl hq.1 hq.2.1 (Or.inr ⟨_, wf_RX10_200⟩) (by decide +kernel) (v := nI w) hq.2.2.2.2.1 ?_
      refine V.aald h 26 (hS.mem (show lv A 26 0 from rfl)) (hS.knd (show lv A 26 0 from rfl)) (by decide) rfl (M := tf A 1) (hS.len (show lv A 26 0 from rfl) (by decide)) (i := w) (by omega) (by show _ < 2 ^ 31; first | omega | decide) (by decide +kernel) (v := some (ax 9 w)) (hS.ref (show lv A 26 0 from rfl) (by decide) (by show _ < tf A 1; omega)) ?_
      refine V.eq (S' := S) (ls' := [some (.ref (ax 10 0)), some (.ref q), none, none]) (st' := [.ref (ax 9 w)]) rfl rfl rfl ?_
      refine V.blk h [(.astore_n 2, 1), (.aload_n 1, 1)] (by decide +kernel) (pc' := 31) (ls' := [some (.ref (ax 10 0)), some (.ref q), some (.ref (ax 9 w)), none]) (st' := [.ref q]) rfl rfl (Nat.le_of_ble_eq_true rfl) ?_
      refine V.getI h cls_4 (j := 0) rfl hq.1 hq.2.1 (Or.inr ⟨_, wf_RX10_126⟩) (by decide +kernel) (v := nI 9) hq.2.2.1 ?_
      refine V.blk h [(.bipush 9, 2)] (by decide +kernel) (pc' := 36) (ls' := [some (.ref (ax 10 0)), some (.ref q), some (.ref (ax 9 w)), none]) (st' := [.int (nI (9)), .int (nI (9))]) rfl rfl (Nat.le_of_ble_eq_true rfl) ?_
      refine V.icmp_ne h (off := 14) (by decide +kernel) (tgt := 50) (by decide) (fun q => ?_) (fun q => ?_)
      · have q36_30 : ¬ _ := (fun z => q ((nI_eq (by omega) (by omega)).mpr z))
        clear q
        exact absurd rfl q36_30
      · have q36_30 := ((nI_eq (by omega) (by omega)).mp q)
        clear q
        refine V.blk h [(.aload_n 2, 1), (.aload_n 1, 1)] (by decide +kernel) (pc' := 41) (ls' := [some (.ref (ax 10 0)), some (.ref q), some (.ref (ax 9 w)), none]) (st' := [.ref q, .ref (ax 9 w)]) rfl rfl (Nat.le_of_ble_eq_true rfl) ?_
        refine V.getI h cls_4 (j := 1) rfl hq.1 hq.2.1 (Or.inr ⟨_, wf_RX10_199⟩) (by decide +kernel) (v := nI e) hq.2.2.2.1 ?_
        refine V.callV h (np := 1) (st := []) (c_readReset hls hS (w := w) (e := e) hw (by omega) hB (by omega) (post := fun v S8 => v = none ∧ ∃ ay8, RA tc (mx ax ay8) (wrsC A w e) S8) (fun S8 ay8 hr8 => ⟨rfl, ay8, hr8⟩)) wc_X9_readReset wn_RX9 (Or.inr ⟨_, wm_RX10_310⟩) wi_X9_readReset we_X9_readReset (by decide +kernel) rfl cls_9 (hS.mem (show lv A 9 w from hw)) (hS.knd (show lv A 9 w from hw)) (Nat.le_of_ble_eq_true rfl) (Nat.le_of_ble_eq_true rfl) (Nat.zero_le _) (Nat.zero_le _) (by simp [Value.category]) (by decide +kernel) rfl (fun v Z1 q9 => ?_)
        obtain ⟨rfl, ay2, hS3⟩ := q9
        refine V.goto h (off := 99) (tgt := 146) (by decide +kernel) (by decide) ?_
        exact V.vret h hA hr (hp _ _ hS3) (by decide +kernel) (Nat.zero_le _) (Nat.zero_le _)
    · have q16_17 : ¬ _ := (fun z => q ((nI_ltI (by omega) (by omega)).mpr z))
      clear q
      omega
set_option maxRecDepth 100000 in
set_option maxHeartbeats 4000000 in
theorem c_rWitness8 {l : Launch} {D : va_G} {tc : Nat → ClassId} {ax ay : Nat → Nat → Nat} {A : TS} {S : HS} (hls : l.stackTraces = false) (hS : RA tc (mx ax ay) A S) {q : Nat} {e : Nat} {w : Nat} {n : Nat} {sa : Bool} {x : Int32} {K : Nat}  (hw : w < tf A 1) (hq : LT S q 8 e w none n x sa) (he5 : e < tf A 5) (hnK : n ≤ K) (hL : LogOK A e) (hB : NB K A) (hK : K < 1800000000) (h9 : 700 ≤ K) {post : Option Value → HS → Prop} (hp : ∀ (S8 : HS) (ay8 : Nat → Nat → Nat), RA tc (mx ax ay8) (wgcC A w e n) S8 → post none S8) : CM l D tc yX10_readAtWitness cX10_readAtWitness 4 (none) 7 0 0 [.ref (ax 10 0), .ref q] S post := by
  refine CM.of hls (by decide +kernel) (by simp [Value.category]) (Nat.le_of_ble_eq_true rfl) (fun A0 p e9 s m args below meth c sz h hr hnm hA => ?_)
  have hf3 := hS.2.2.1.2.1
  have h5 := hS.2.2.2.1.1
  have he : e < tf A 38 := by omega
  have h12 := hS.2.2.2.1.2.1
  refine V.eqL (ls' := [some (.ref (ax 10 0)), some (.ref q), none, none]) rfl ?_
  refine V.blk h [(.aload_n 1, 1)] (by decide +kernel) (pc' := 1) (ls' := [some (.ref (ax 10 0)), some (.ref q), none, none]) (st' := [.ref q]) rfl rfl (Nat.le_of_ble_eq_true rfl) ?_
  refine V.getI h cls_4 (j := 2) rfl hq.1 hq.2.1 (Or.inr ⟨_, wf_RX10_200⟩) (by decide +kernel) (v := nI w) hq.2.2.2.2.1 ?_
  refine V.if_lt h (off := 15) (by decide +kernel) (tgt := 19) (by decide) (fun q => ?_) (fun q => ?_)
  · have q4_7 := ((nI_z_lt (by omega)).mp q)
    clear q
    exact absurd q4_7 id
  · have q4_7 : ¬ _ := (fun z => q ((nI_z_lt (by omega)).mpr z))
    clear q
    refine V.blk h [(.aload_n 1, 1)] (by decide +kernel) (pc' := 8) (ls' := [some (.ref (ax 10 0)), some (.ref q), none, none]) (st' := [.ref q]) rfl rfl (Nat.le_of_ble_eq_true rfl) ?_
    refine V.getI h cls_4 (j := 2) rfl hq.1 hq.2.1 (Or.inr ⟨_, wf_RX10_200⟩) (by decide +kernel) (v := nI w) hq.2.2.2.2.1 ?_
    refine V.blk h [(.aload_n 0, 1)] (by decide +kernel) (pc' := 12) (ls' := [some (.ref (ax 10 0)), some (.ref q), none, none]) (st' := [.ref (ax 10 0), .int (nI (w))]) rfl rfl (Nat.le_of_ble_eq_true rfl) ?_
    refine V.getP h cls_10 (j := 6) rfl (hS.mem (show lv A 10 0 from rfl)) (hS.knd (show lv A 10 0 from rfl)) (Or.inl wf_RX10_45) (by decide +kernel) (v := some (ax 26 0)) (hS.ptr (show lv A 10 0 from rfl) (by decide) (by decide) rfl) ?_
    refine V.eq (S' := S) (ls' := [some (.ref (ax 10 0)), some (.ref q), none, none]) (st' := [.ref (ax 26 0), .int (nI (w))]) rfl rfl rfl ?_
    refine V.alen h 26 (hS.mem (show lv A 26 0 from rfl)) (hS.knd (show lv A 26 0 from rfl)) (by decide) (M := tf A 1) (hS.len (show lv A 26 0 from rfl) (by decide)) (by decide +kernel) ?_
    refine V.icmp_lt h (off := 4) (by decide +kernel) (tgt := 20) (by decide) (fun q => ?_) (fun q => ?_)
    · have q16_19 := ((nI_ltI (by omega) (by omega)).mp q)
      clear q
      refine V.blk h [(.aload_n 0, 1)] (by decide +kernel) (pc' := 21) (ls' := [some (.ref (ax 10 0)), some (.ref q), none, none]) (st' := [.ref (ax 10 0)]) rfl rfl (Nat.le_of_ble_eq_true rfl) ?_
      refine V.getP h cls_10 (j := 6) rfl (hS.mem (show lv A 10 0 from rfl)) (hS.knd (show lv A 10 0 from rfl)) (Or.inl wf_RX10_45) (by decide +kernel) (v := some (ax 26 0)) (hS.ptr (show lv A 10 0 from rfl) (by decide) (by decide) rfl) ?_
      refine V.eq (S' := S) (ls' := [some (.ref (ax 10 0)), some (.ref q), none, none]) (st' := [.ref (ax 26 0)]) rfl rfl rfl ?_
      refine V.blk h [(.aload_n 1, 1)] (by decide +kernel) (pc' := 25) (ls' := [some (.ref (ax 10 0)), some (.ref q), none, none]) (st' := [.ref q, .ref (ax 26 0)]) rfl rfl (Nat.le_of_ble_eq_true rfl) ?_
      refine V.getI h cls_4 (j := 2) rfl hq.1 hq.2.1 (Or.inr ⟨_, wf_RX10_200⟩) (by decide +kernel) (v := nI w) hq.2.2.2.2.1 ?_
      refine V.aald h 26 (hS.mem (show lv A 26 0 from rfl)) (hS.knd (show lv A 26 0 from rfl)) (by decide) rfl (M := tf A 1) (hS.len (show lv A 26 0 from rfl) (by decide)) (i := w) (by omega) (by show _ < 2 ^ 31; first | omega | decide) (by decide +kernel) (v := some (ax 9 w)) (hS.ref (show lv A 26 0 from rfl) (by decide) (by show _ < tf A 1; omega)) ?_
      refine V.eq (S' := S) (ls' := [some (.ref (ax 10 0)), some (.ref q), none, none]) (st' := [.ref (ax 9 w)]) rfl rfl rfl ?_
      refine V.blk h [(.astore_n 2, 1), (.aload_n 1, 1)] (by decide +kernel) (pc' := 31) (ls' := [some (.ref (ax 10 0)), some (.ref q), some (.ref (ax 9 w)), none]) (st' := [.ref q]) rfl rfl (Nat.le_of_ble_eq_true rfl) ?_
      refine V.getI h cls_4 (j := 0) rfl hq.1 hq.2.1 (Or.inr ⟨_, wf_RX10_126⟩) (by decide +kernel) (v := nI 8) hq.2.2.1 ?_
      refine V.blk h [(.bipush 9, 2)] (by decide +kernel) (pc' := 36) (ls' := [some (.ref (ax 10 0)), some (.ref q), some (.ref (ax 9 w)), none]) (st' := [.int (nI (9)), .int (nI (8))]) rfl rfl (Nat.le_of_ble_eq_true rfl) ?_
      refine V.icmp_ne h (off := 14) (by decide +kernel) (tgt := 50) (by decide) (fun q => ?_) (fun q => ?_)
      · have q36_32 : ¬ _ := (fun z => q ((nI_eq (by omega) (by omega)).mpr z))
        clear q
        refine V.blk h [(.aload_n 1, 1)] (by decide +kernel) (pc' := 51) (ls' := [some (.ref (ax 10 0)), some (.ref q), some (.ref (ax 9 w)), none]) (st' := [.ref q]) rfl rfl (Nat.le_of_ble_eq_true rfl) ?_
        refine V.getI h cls_4 (j := 0) rfl hq.1 hq.2.1 (Or.inr ⟨_, wf_RX10_126⟩) (by decide +kernel) (v := nI 8) hq.2.2.1 ?_
        refine V.blk h [(.bipush 8, 2)] (by decide +kernel) (pc' := 56) (ls' := [some (.ref (ax 10 0)), some (.ref q), some (.ref (ax 9 w)), none]) (st' := [.int (nI (8)), .int (nI (8))]) rfl rfl (Nat.le_of_ble_eq_true rfl) ?_
        refine V.icmp_ne h (off := 39) (by decide +kernel) (tgt := 95) (by decide) (fun q => ?_) (fun q => ?_)
        · have q56_38 : ¬ _ := (fun z => q ((nI_eq (by omega) (by omega)).mpr z))
          clear q
          exact absurd rfl q56_38
        · have q56_38 := ((nI_eq (by omega) (by omega)).mp q)
          clear q
          refine V.blk h [(.aload_n 0, 1), (.aload_n 1, 1)] (by decide +kernel) (pc' := 61) (ls' := [some (.ref (ax 10 0)), some (.ref q), some (.ref (ax 9 w)), none]) (st' := [.ref q, .ref (ax 10 0)]) rfl rfl (Nat.le_of_ble_eq_true rfl) ?_
          refine V.getI h cls_4 (j := 1) rfl hq.1 hq.2.1 (Or.inr ⟨_, wf_RX10_199⟩) (by decide +kernel) (v := nI e) hq.2.2.2.1 ?_
          refine V.callV h (np := 1) (st := []) (c_masterOf hls hS (e := e) he5 (post := fun v S7 => v = some (.ref (ax 5 e)) ∧ S = S7) ⟨rfl, rfl⟩) wc_X10_masterOf wn_RX10 (Or.inl wm_RX10_174) wi_X10_masterOf we_X10_masterOf (by decide +kernel) rfl cls_10 (hS.mem (show lv A 10 0 from rfl)) (hS.knd (show lv A 10 0 from rfl)) (Nat.le_of_ble_eq_true rfl) (Nat.le_of_ble_eq_true rfl) (Nat.zero_le _) (Nat.zero_le _) (by simp [Value.category]) (by decide +kernel) rfl (fun v Z1 q9 => ?_)
          obtain ⟨rfl, hS9⟩ := q9
          subst hS9
          refine V.eq (S' := S) (ls' := [some (.ref (ax 10 0)), some (.ref q), some (.ref (ax 9 w)), none]) (st' := [.ref (ax 5 e)]) rfl rfl rfl ?_
          refine V.blk h [(.astore_n 3, 1), (.aload_n 3, 1)] (by decide +kernel) (pc' := 69) (ls' := [some (.ref (ax 10 0)), some (.ref q), some (.ref (ax 9 w)), some (.ref (ax 5 e))]) (st' := [.ref (ax 5 e)]) rfl rfl (Nat.le_of_ble_eq_true rfl) ?_
          refine V.ifnull h (o := (some (ax 5 e))) (off := 23) (by decide +kernel) (tgt := 92) (by decide) (fun z => by cases z) (fun _ _ => ?_)
          refine V.blk h [(.aload_n 2, 1)] (by decide +kernel) (pc' := 73) (ls' := [some (.ref (ax 10 0)), some (.ref q), some (.ref (ax 9 w)), some (.ref (ax 5 e))]) (st' := [.ref (ax 9 w)]) rfl rfl (Nat.le_of_ble_eq_true rfl) ?_
          refine V.getI h cls_9 (j := 4) rfl (hS.mem (show lv A 9 w from hw)) (hS.knd (show lv A 9 w from hw)) (Or.inr ⟨_, wf_RX10_195⟩) (by decide +kernel) (v := nI (tn A 41 w)) (hS.int (show lv A 9 w from hw) (by decide) (by decide) rfl) ?_
          have nb54 := hB.2 41 w
          refine V.blk h [(.aload_n 1, 1)] (by decide +kernel) (pc' := 77) (ls' := [some (.ref (ax 10 0)), some (.ref q), some (.ref (ax 9 w)), some (.ref (ax 5 e))]) (st' := [.ref q, .int (nI (tn A 41 w))]) rfl rfl (Nat.le_of_ble_eq_true rfl) ?_
          refine V.getI h cls_4 (j := 1) rfl hq.1 hq.2.1 (Or.inr ⟨_, wf_RX10_199⟩) (by decide +kernel) (v := nI e) hq.2.2.2.1 ?_
          refine V.icmp_ne h (off := 12) (by decide +kernel) (tgt := 92) (by decide) (fun q => ?_) (fun q => ?_)
          · have q80_57 : ¬ _ := (fun z => q ((nI_eq (by omega) (by omega)).mpr z))
            clear q
            refine V.goto h (off := 54) (tgt := 146) (by decide +kernel) (by decide) ?_
            exact V.vret h hA hr (hp _ ay (by unfold wgcC; rw [if_neg (by omega)]; exact hS)) (by decide +kernel) (Nat.zero_le _) (Nat.zero_le _)
          · have q80_57 := ((nI_eq (by omega) (by omega)).mp q)
            clear q
            refine V.blk h [(.aload_n 2, 1), (.aload_n 3, 1), (.aload_n 1, 1)] (by decide +kernel) (pc' := 86) (ls' := [some (.ref (ax 10 0)), some (.ref q), some (.ref (ax 9 w)), some (.ref (ax 5 e))]) (st' := [.ref q, .ref (ax 5 e), .ref (ax 9 w)]) rfl rfl (Nat.le_of_ble_eq_true rfl) ?_
            refine V.getI h cls_4 (j := 4) rfl hq.1 hq.2.1 (Or.inr ⟨_, wf_RX10_203⟩) (by decide +kernel) (v := nI n) hq.2.2.2.2.2.2.1 ?_
            refine V.callV h (np := 2) (st := []) (c_drop hls hS (w := w) (e := e) (n := n) hw he hnK hL hB (by omega) (post := fun v S8 => v = none ∧ ∃ ay8, RA tc (mx ax ay8) (drL A w e n (tf A 2 * tf A 3)) S8) (fun S8 ay8 hr8 => ⟨rfl, ay8, hr8⟩)) wc_X9_drop wn_RX9 (Or.inr ⟨_, wm_RX10_313⟩) wi_X9_drop we_X9_drop (by decide +kernel) rfl cls_9 (hS.mem (show lv A 9 w from hw)) (hS.knd (show lv A 9 w from hw)) (Nat.le_of_ble_eq_true rfl) (Nat.le_of_ble_eq_true rfl) (Nat.zero_le _) (Nat.zero_le _) (by simp [Value.category]) (by decide +kernel) rfl (fun v Z2 q9 => ?_)
            obtain ⟨rfl, ay3, hS4⟩ := q9
            refine V.goto h (off := 54) (tgt := 146) (by decide +kernel) (by decide) ?_
            exact V.vret h hA hr (hp _ _ (by unfold wgcC; rw [if_pos (by omega)]; exact hS4)) (by decide +kernel) (Nat.zero_le _) (Nat.zero_le _)
      · have q36_32 := ((nI_eq (by omega) (by omega)).mp q)
        clear q
        exact absurd q36_32 (by decide)
    · have q16_19 : ¬ _ := (fun z => q ((nI_ltI (by omega) (by omega)).mpr z))
      clear q
      omega
set_option maxRecDepth 100000 in
set_option maxHeartbeats 4000000 in
theorem c_rWitness1 {l : Launch} {D : va_G} {tc : Nat → ClassId} {ax ay : Nat → Nat → Nat} {A : TS} {S : HS} (hls : l.stackTraces = false) (hS : RA tc (mx ax ay) A S) {q : Nat} {e : Nat} {w : Nat} {n : Nat} {sa : Bool} {x : Int32} {K : Nat} {op : Nat}  (hw : w < tf A 1) (hq : LT S q 1 e w (opA (mx ax ay) (op + 1)) n x sa) (ho : op < tf A 13) (heK : e ≤ K) (hB : NB K A) (hK : K < 1800000000) (h9 : 700 ≤ K) {post : Option Value → HS → Prop} (hp : ∀ (S8 : HS) (ay8 : Nat → Nat → Nat), RA tc (mx ax ay8) (wrcC A w e op) S8 → post none S8) : CM l D tc yX10_readAtWitness cX10_readAtWitness 4 (none) 8 2 380 [.ref (ax 10 0), .ref q] S post := by
  refine CM.of hls (by decide +kernel) (by simp [Value.category]) (Nat.le_of_ble_eq_true rfl) (fun A0 p e9 s m args below meth c sz h hr hnm hA => ?_)
  have hf3 := hS.2.2.1.2.1
  have h5 := hS.2.2.2.1.1
  refine V.eqL (ls' := [some (.ref (ax 10 0)), some (.ref q), none, none]) rfl ?_
  refine V.blk h [(.aload_n 1, 1)] (by decide +kernel) (pc' := 1) (ls' := [some (.ref (ax 10 0)), some (.ref q), none, none]) (st' := [.ref q]) rfl rfl (Nat.le_of_ble_eq_true rfl) ?_
  refine V.getI h cls_4 (j := 2) rfl hq.1 hq.2.1 (Or.inr ⟨_, wf_RX10_200⟩) (by decide +kernel) (v := nI w) hq.2.2.2.2.1 ?_
  refine V.if_lt h (off := 15) (by decide +kernel) (tgt := 19) (by decide) (fun q => ?_) (fun q => ?_)
  · have q4_5 := ((nI_z_lt (by omega)).mp q)
    clear q
    exact absurd q4_5 id
  · have q4_5 : ¬ _ := (fun z => q ((nI_z_lt (by omega)).mpr z))
    clear q
    refine V.blk h [(.aload_n 1, 1)] (by decide +kernel) (pc' := 8) (ls' := [some (.ref (ax 10 0)), some (.ref q), none, none]) (st' := [.ref q]) rfl rfl (Nat.le_of_ble_eq_true rfl) ?_
    refine V.getI h cls_4 (j := 2) rfl hq.1 hq.2.1 (Or.inr ⟨_, wf_RX10_200⟩) (by decide +kernel) (v := nI w) hq.2.2.2.2.1 ?_
    refine V.blk h [(.aload_n 0, 1)] (by decide +kernel) (pc' := 12) (ls' := [some (.ref (ax 10 0)), some (.ref q), none, none]) (st' := [.ref (ax 10 0), .int (nI (w))]) rfl rfl (Nat.le_of_ble_eq_true rfl) ?_
    refine V.getP h cls_10 (j := 6) rfl (hS.mem (show lv A 10 0 from rfl)) (hS.knd (show lv A 10 0 from rfl)) (Or.inl wf_RX10_45) (by decide +kernel) (v := some (ax 26 0)) (hS.ptr (show lv A 10 0 from rfl) (by decide) (by decide) rfl) ?_
    refine V.eq (S' := S) (ls' := [some (.ref (ax 10 0)), some (.ref q), none, none]) (st' := [.ref (ax 26 0), .int (nI (w))]) rfl rfl rfl ?_
    refine V.alen h 26 (hS.mem (show lv A 26 0 from rfl)) (hS.knd (show lv A 26 0 from rfl)) (by decide) (M := tf A 1) (hS.len (show lv A 26 0 from rfl) (by decide)) (by decide +kernel) ?_
    refine V.icmp_lt h (off := 4) (by decide +kernel) (tgt := 20) (by decide) (fun q => ?_) (fun q => ?_)
    · have q16_17 := ((nI_ltI (by omega) (by omega)).mp q)
      clear q
      refine V.blk h [(.aload_n 0, 1)] (by decide +kernel) (pc' := 21) (ls' := [some (.ref (ax 10 0)), some (.ref q), none, none]) (st' := [.ref (ax 10 0)]) rfl rfl (Nat.le_of_ble_eq_true rfl) ?_
      refine V.getP h cls_10 (j := 6) rfl (hS.mem (show lv A 10 0 from rfl)) (hS.knd (show lv A 10 0 from rfl)) (Or.inl wf_RX10_45) (by decide +kernel) (v := some (ax 26 0)) (hS.ptr (show lv A 10 0 from rfl) (by decide) (by decide) rfl) ?_
      refine V.eq (S' := S) (ls' := [some (.ref (ax 10 0)), some (.ref q), none, none]) (st' := [.ref (ax 26 0)]) rfl rfl rfl ?_
      refine V.blk h [(.aload_n 1, 1)] (by decide +kernel) (pc' := 25) (ls' := [some (.ref (ax 10 0)), some (.ref q), none, none]) (st' := [.ref q, .ref (ax 26 0)]) rfl rfl (Nat.le_of_ble_eq_true rfl) ?_
      refine V.getI h cls_4 (j := 2) rfl hq.1 hq.2.1 (Or.inr ⟨_, wf_RX10_200⟩) (by decide +kernel) (v := nI w) hq.2.2.2.2.1 ?_
      refine V.aald h 26 (hS.mem (show lv A 26 0 from rfl)) (hS.knd (show lv A 26 0 from rfl)) (by decide) rfl (M := tf A 1) (hS.len (show lv A 26 0 from rfl) (by decide)) (i := w) (by omega) (by show _ < 2 ^ 31; first | omega | decide) (by decide +kernel) (v := some (ax 9 w)) (hS.ref (show lv A 26 0 from rfl) (by decide) (by show _ < tf A 1; omega)) ?_
      refine V.eq (S' := S) (ls' := [some (.ref (ax 10 0)), some (.ref q), none, none]) (st' := [.ref (ax 9 w)]) rfl rfl rfl ?_
      refine V.blk h [(.astore_n 2, 1), (.aload_n 1, 1)] (by decide +kernel) (pc' := 31) (ls' := [some (.ref (ax 10 0)), some (.ref q), some (.ref (ax 9 w)), none]) (st' := [.ref q]) rfl rfl (Nat.le_of_ble_eq_true rfl) ?_
      refine V.getI h cls_4 (j := 0) rfl hq.1 hq.2.1 (Or.inr ⟨_, wf_RX10_126⟩) (by decide +kernel) (v := nI 1) hq.2.2.1 ?_
      refine V.blk h [(.bipush 9, 2)] (by decide +kernel) (pc' := 36) (ls' := [some (.ref (ax 10 0)), some (.ref q), some (.ref (ax 9 w)), none]) (st' := [.int (nI (9)), .int (nI (1))]) rfl rfl (Nat.le_of_ble_eq_true rfl) ?_
      refine V.icmp_ne h (off := 14) (by decide +kernel) (tgt := 50) (by decide) (fun q => ?_) (fun q => ?_)
      · have q36_30 : ¬ _ := (fun z => q ((nI_eq (by omega) (by omega)).mpr z))
        clear q
        refine V.blk h [(.aload_n 1, 1)] (by decide +kernel) (pc' := 51) (ls' := [some (.ref (ax 10 0)), some (.ref q), some (.ref (ax 9 w)), none]) (st' := [.ref q]) rfl rfl (Nat.le_of_ble_eq_true rfl) ?_
        refine V.getI h cls_4 (j := 0) rfl hq.1 hq.2.1 (Or.inr ⟨_, wf_RX10_126⟩) (by decide +kernel) (v := nI 1) hq.2.2.1 ?_
        refine V.blk h [(.bipush 8, 2)] (by decide +kernel) (pc' := 56) (ls' := [some (.ref (ax 10 0)), some (.ref q), some (.ref (ax 9 w)), none]) (st' := [.int (nI (8)), .int (nI (1))]) rfl rfl (Nat.le_of_ble_eq_true rfl) ?_
        refine V.icmp_ne h (off := 39) (by decide +kernel) (tgt := 95) (by decide) (fun q => ?_) (fun q => ?_)
        · have q56_36 : ¬ _ := (fun z => q ((nI_eq (by omega) (by omega)).mpr z))
          clear q
          refine V.blk h [(.aload_n 1, 1)] (by decide +kernel) (pc' := 96) (ls' := [some (.ref (ax 10 0)), some (.ref q), some (.ref (ax 9 w)), none]) (st' := [.ref q]) rfl rfl (Nat.le_of_ble_eq_true rfl) ?_
          refine V.getP h cls_4 (j := 3) rfl hq.1 hq.2.1 (Or.inr ⟨_, wf_RX10_292⟩) (by decide +kernel) (v := some (ax 6 op)) hq.2.2.2.2.2.1 ?_
          refine V.eq (S' := S) (ls' := [some (.ref (ax 10 0)), some (.ref q), some (.ref (ax 9 w)), none]) (st' := [.ref (ax 6 op)]) rfl rfl rfl ?_
          refine V.ifnull h (o := (some (ax 6 op))) (off := 47) (by decide +kernel) (tgt := 146) (by decide) (fun z => by cases z) (fun _ _ => ?_)
          refine V.blk h [(.aload_n 2, 1), (.aload_n 1, 1)] (by decide +kernel) (pc' := 104) (ls' := [some (.ref (ax 10 0)), some (.ref q), some (.ref (ax 9 w)), none]) (st' := [.ref q, .ref (ax 9 w)]) rfl rfl (Nat.le_of_ble_eq_true rfl) ?_
          refine V.getI h cls_4 (j := 1) rfl hq.1 hq.2.1 (Or.inr ⟨_, wf_RX10_199⟩) (by decide +kernel) (v := nI e) hq.2.2.2.1 ?_
          refine V.blk h [(.aload_n 1, 1)] (by decide +kernel) (pc' := 108) (ls' := [some (.ref (ax 10 0)), some (.ref q), some (.ref (ax 9 w)), none]) (st' := [.ref q, .int (nI (e)), .ref (ax 9 w)]) rfl rfl (Nat.le_of_ble_eq_true rfl) ?_
          refine V.getP h cls_4 (j := 3) rfl hq.1 hq.2.1 (Or.inr ⟨_, wf_RX10_292⟩) (by decide +kernel) (v := some (ax 6 op)) hq.2.2.2.2.2.1 ?_
          refine V.eq (S' := S) (ls' := [some (.ref (ax 10 0)), some (.ref q), some (.ref (ax 9 w)), none]) (st' := [.ref (ax 6 op), .int (nI (e)), .ref (ax 9 w)]) rfl rfl rfl ?_
          refine V.callV h (np := 2) (st := []) (c_readRecord hls hS (w := w) (e := e) (op := op) hw ho (by omega) hB (by omega) (post := fun v S7 => v = some (.int (bI (decide (rrF A w e op ≠ 0)))) ∧ RA tc (mx ax ay) (rrA A w e op) S7 ∧ lfr S S7) (fun S7 hr7 hl7 z9 hz9 b9 hb9 => ⟨by rw [← hb9, ← hz9], hr7, hl7⟩)) wc_X9_readRecord wn_RX9 (Or.inr ⟨_, wm_RX10_316⟩) wi_X9_readRecord we_X9_readRecord (by decide +kernel) rfl cls_9 (hS.mem (show lv A 9 w from hw)) (hS.knd (show lv A 9 w from hw)) (Nat.le_of_ble_eq_true rfl) (Nat.le_of_ble_eq_true rfl) (Nat.zero_le _) (Nat.zero_le _) (by simp [Value.category]) (by decide +kernel) rfl (fun v Z1 q9 => ?_)
          obtain ⟨rfl, hr1, hlf1⟩ := q9
          obtain ⟨G, hG⟩ : ∃ X9 : TS, X9 = (rrA A w e op) := ⟨_, rfl⟩
          rw [← hG] at hr1
          have kg := rrA_keep A w e op
          rw [← hG] at kg
          have g1 : tf G 1 = tf A 1 := kg.1 1
          have hwG : w < tf G 1 := by rw [g1]; exact hw
          have hoG : op < tf G 13 := by rw [kg.1]; exact ho
          have g5 : tn G 5 op = tn A 5 op := kg.2 5 op (by decide)
          have g6 : tn G 6 op = tn A 6 op := kg.2 6 op (by decide)
          refine V.eq (S' := Z1) (ls' := [some (.ref (ax 10 0)), some (.ref q), some (.ref (ax 9 w)), none]) (st' := [.int (bI (decide (rrF A w e op ≠ 0)))]) rfl rfl rfl ?_
          refine V.if_eq h (off := 7) (by decide +kernel) (tgt := 121) (by decide) (fun q => ?_) (fun q => ?_)
          · have q114_60 := (Decidable.of_not_not (of_decide_eq_false (bI_0.mp q)))
            clear q
            refine V.blk h [(.iconst 4, 1), (.istore_n 3, 1), (.aload_n 0, 1)] (by decide +kernel) (pc' := 124) (ls' := [some (.ref (ax 10 0)), some (.ref q), some (.ref (ax 9 w)), some (.int (nI (4)))]) (st' := [.ref (ax 10 0)]) rfl rfl (Nat.le_of_ble_eq_true rfl) ?_
            refine V.getP h cls_10 (j := 3) rfl (hr1.mem (show lv G 10 0 from rfl)) (hr1.knd (show lv G 10 0 from rfl)) (Or.inl wf_RX10_26) (by decide +kernel) (v := some (ax 7 0)) (hr1.ptr (show lv G 10 0 from rfl) (by decide) (by decide) rfl) ?_
            refine V.eq (S' := Z1) (ls' := [some (.ref (ax 10 0)), some (.ref q), some (.ref (ax 9 w)), some (.int (nI (4)))]) (st' := [.ref (ax 7 0)]) rfl rfl rfl ?_
            refine V.blk h [(.iload_n 3, 1), (.aload_n 1, 1)] (by decide +kernel) (pc' := 129) (ls' := [some (.ref (ax 10 0)), some (.ref q), some (.ref (ax 9 w)), some (.int (nI (4)))]) (st' := [.ref q, .int (nI (4)), .ref (ax 7 0)]) rfl rfl (Nat.le_of_ble_eq_true rfl) ?_
            refine V.getI h cls_4 (j := 1) rfl (hq.lfr hlf1).1 (hq.lfr hlf1).2.1 (Or.inr ⟨_, wf_RX10_199⟩) (by decide +kernel) (v := nI e) (hq.lfr hlf1).2.2.2.1 ?_
            refine V.blk h [(.aload_n 1, 1)] (by decide +kernel) (pc' := 133) (ls' := [some (.ref (ax 10 0)), some (.ref q), some (.ref (ax 9 w)), some (.int (nI (4)))]) (st' := [.ref q, .int (nI (e)), .int (nI (4)), .ref (ax 7 0)]) rfl rfl (Nat.le_of_ble_eq_true rfl) ?_
            refine V.getP h cls_4 (j := 3) rfl (hq.lfr hlf1).1 (hq.lfr hlf1).2.1 (Or.inr ⟨_, wf_RX10_292⟩) (by decide +kernel) (v := some (ax 6 op)) (hq.lfr hlf1).2.2.2.2.2.1 ?_
            refine V.eq (S' := Z1) (ls' := [some (.ref (ax 10 0)), some (.ref q), some (.ref (ax 9 w)), some (.int (nI (4)))]) (st' := [.ref (ax 6 op), .int (nI (e)), .int (nI (4)), .ref (ax 7 0)]) rfl rfl rfl ?_
            refine V.blk h [(.aload_n 2, 1)] (by decide +kernel) (pc' := 137) (ls' := [some (.ref (ax 10 0)), some (.ref q), some (.ref (ax 9 w)), some (.int (nI (4)))]) (st' := [.ref (ax 9 w), .ref (ax 6 op), .int (nI (e)), .int (nI (4)), .ref (ax 7 0)]) rfl rfl (Nat.le_of_ble_eq_true rfl) ?_
            refine V.getI h cls_9 (j := 0) rfl (hr1.mem (show lv G 9 w from hwG)) (hr1.knd (show lv G 9 w from hwG)) (Or.inr ⟨_, wf_RX10_320⟩) (by decide +kernel) (v := nI w) (hr1.int (show lv G 9 w from hwG) (by decide) (by decide) rfl) ?_
            refine V.callS h (np := 4) (st := [.ref (ax 7 0)]) (c_toClient hls hr1 (so := 4) (e := e) (op := op) (w := w) (show lv G 6 op from hoG) (post := fun v S8 => ∃ q8, v = some (.ref q8) ∧ RA tc (mx ax ay) (G) S8 ∧ LT S8 q8 4 e (tn G 5 op) (opA (mx ax ay) (op + 1)) (tn G 6 op) (nI w) false) (fun S8 q8 _ _ hr8 hl8 => ⟨q8, rfl, hr8, hl8⟩)) wc_X4_toClient wn_RX4 (Or.inr ⟨_, wm_RX10_323⟩) wt_X4_toClient (by decide +kernel) rfl (Nat.le_of_ble_eq_true rfl) (Nat.le_of_ble_eq_true rfl) (by show 0 + 1 ≤ 2; omega) (by show 0 + 7 ≤ 380; omega) (by simp [Value.category]) (by decide +kernel) rfl (fun v Z2 q9 => ?_)
            obtain ⟨lq3, rfl, hS4, hl5⟩ := q9
            refine V.eq (S' := Z2) (ls' := [some (.ref (ax 10 0)), some (.ref q), some (.ref (ax 9 w)), some (.int (nI (4)))]) (st' := [.ref lq3, .ref (ax 7 0)]) rfl rfl rfl ?_
            refine V.callV h (np := 1) (st := []) (c_r_send hls hS4 (so := 4) (e := e) (to := tn G 5 op) (op := op + 1) (n := tn G 6 op) (c9 := w) (x := nI 0) (sa := false) (q := lq3) (ms := 373) (Nat.succ_le_of_lt (show lv G 6 op from hoG)) hl5 hS4.gc (post := fun v S8 => v = none ∧ ∃ ay8, RA tc (mx ax ay8) (sendF G 4 e (tn G 5 op) (op + 1) (tn G 6 op) w (nI 0) false) S8 ∧ ay8 50 0 = nxM G (ay 50 0)) (fun S8 ay8 hr8 hn8 => ⟨rfl, ay8, hr8, hn8⟩)) wc_X7_send wn_RX7 (Or.inr ⟨_, wm_RX10_147⟩) wi_X7_send we_X7_send (by decide +kernel) rfl cls_7 (hS4.mem (show lv G 7 0 from rfl)) (hS4.knd (show lv G 7 0 from rfl)) (Nat.le_of_ble_eq_true rfl) (Nat.le_of_ble_eq_true rfl) (by show 1 + 1 ≤ 2; omega) (by show 7 + 373 ≤ 380; omega) (by simp [Value.category]) (by decide +kernel) rfl (fun v Z6 q9 => ?_)
            obtain ⟨rfl, ay7, hS8, hn9⟩ := q9
            exact V.vret h hA hr (hp _ _ (by unfold wrcC; rw [if_neg (fun z => z q114_60), ← hG, ← g5, ← g6]; exact hS8)) (by decide +kernel) (by omega) (by omega)
          · have q114_60 := (of_decide_eq_true (bI_1 (fun z => q (bI_0.mpr z))))
            clear q
            refine V.blk h [(.iconst 3, 1)] (by decide +kernel) (pc' := 118) (ls' := [some (.ref (ax 10 0)), some (.ref q), some (.ref (ax 9 w)), none]) (st' := [.int (nI (3))]) rfl rfl (Nat.le_of_ble_eq_true rfl) ?_
            refine V.goto h (off := 4) (tgt := 122) (by decide +kernel) (by decide) ?_
            refine V.blk h [(.istore_n 3, 1), (.aload_n 0, 1)] (by decide +kernel) (pc' := 124) (ls' := [some (.ref (ax 10 0)), some (.ref q), some (.ref (ax 9 w)), some (.int (nI (3)))]) (st' := [.ref (ax 10 0)]) rfl rfl (Nat.le_of_ble_eq_true rfl) ?_
            refine V.getP h cls_10 (j := 3) rfl (hr1.mem (show lv G 10 0 from rfl)) (hr1.knd (show lv G 10 0 from rfl)) (Or.inl wf_RX10_26) (by decide +kernel) (v := some (ax 7 0)) (hr1.ptr (show lv G 10 0 from rfl) (by decide) (by decide) rfl) ?_
            refine V.eq (S' := Z1) (ls' := [some (.ref (ax 10 0)), some (.ref q), some (.ref (ax 9 w)), some (.int (nI (3)))]) (st' := [.ref (ax 7 0)]) rfl rfl rfl ?_
            refine V.blk h [(.iload_n 3, 1), (.aload_n 1, 1)] (by decide +kernel) (pc' := 129) (ls' := [some (.ref (ax 10 0)), some (.ref q), some (.ref (ax 9 w)), some (.int (nI (3)))]) (st' := [.ref q, .int (nI (3)), .ref (ax 7 0)]) rfl rfl (Nat.le_of_ble_eq_true rfl) ?_
            refine V.getI h cls_4 (j := 1) rfl (hq.lfr hlf1).1 (hq.lfr hlf1).2.1 (Or.inr ⟨_, wf_RX10_199⟩) (by decide +kernel) (v := nI e) (hq.lfr hlf1).2.2.2.1 ?_
            refine V.blk h [(.aload_n 1, 1)] (by decide +kernel) (pc' := 133) (ls' := [some (.ref (ax 10 0)), some (.ref q), some (.ref (ax 9 w)), some (.int (nI (3)))]) (st' := [.ref q, .int (nI (e)), .int (nI (3)), .ref (ax 7 0)]) rfl rfl (Nat.le_of_ble_eq_true rfl) ?_
            refine V.getP h cls_4 (j := 3) rfl (hq.lfr hlf1).1 (hq.lfr hlf1).2.1 (Or.inr ⟨_, wf_RX10_292⟩) (by decide +kernel) (v := some (ax 6 op)) (hq.lfr hlf1).2.2.2.2.2.1 ?_
            refine V.eq (S' := Z1) (ls' := [some (.ref (ax 10 0)), some (.ref q), some (.ref (ax 9 w)), some (.int (nI (3)))]) (st' := [.ref (ax 6 op), .int (nI (e)), .int (nI (3)), .ref (ax 7 0)]) rfl rfl rfl ?_
            refine V.blk h [(.aload_n 2, 1)] (by decide +kernel) (pc' := 137) (ls' := [some (.ref (ax 10 0)), some (.ref q), some (.ref (ax 9 w)), some (.int (nI (3)))]) (st' := [.ref (ax 9 w), .ref (ax 6 op), .int (nI (e)), .int (nI (3)), .ref (ax 7 0)]) rfl rfl (Nat.le_of_ble_eq_true rfl) ?_
            refine V.getI h cls_9 (j := 0) rfl (hr1.mem (show lv G 9 w from hwG)) (hr1.knd (show lv G 9 w from hwG)) (Or.inr ⟨_, wf_RX10_320⟩) (by decide +kernel) (v := nI w) (hr1.int (show lv G 9 w from hwG) (by decide) (by decide) rfl) ?_
            refine V.callS h (np := 4) (st := [.ref (ax 7 0)]) (c_toClient hls hr1 (so := 3) (e := e) (op := op) (w := w) (show lv G 6 op from hoG) (post := fun v S8 => ∃ q8, v = some (.ref q8) ∧ RA tc (mx ax ay) (G) S8 ∧ LT S8 q8 3 e (tn G 5 op) (opA (mx ax ay) (op + 1)) (tn G 6 op) (nI w) false) (fun S8 q8 _ _ hr8 hl8 => ⟨q8, rfl, hr8, hl8⟩)) wc_X4_toClient wn_RX4 (Or.inr ⟨_, wm_RX10_323⟩) wt_X4_toClient (by decide +kernel) rfl (Nat.le_of_ble_eq_true rfl) (Nat.le_of_ble_eq_true rfl) (by show 0 + 1 ≤ 2; omega) (by show 0 + 7 ≤ 380; omega) (by simp [Value.category]) (by decide +kernel) rfl (fun v Z10 q9 => ?_)
            obtain ⟨lq11, rfl, hS12, hl13⟩ := q9
            refine V.eq (S' := Z10) (ls' := [some (.ref (ax 10 0)), some (.ref q), some (.ref (ax 9 w)), some (.int (nI (3)))]) (st' := [.ref lq11, .ref (ax 7 0)]) rfl rfl rfl ?_
            refine V.callV h (np := 1) (st := []) (c_r_send hls hS12 (so := 3) (e := e) (to := tn G 5 op) (op := op + 1) (n := tn G 6 op) (c9 := w) (x := nI 0) (sa := false) (q := lq11) (ms := 373) (Nat.succ_le_of_lt (show lv G 6 op from hoG)) hl13 hS12.gc (post := fun v S8 => v = none ∧ ∃ ay8, RA tc (mx ax ay8) (sendF G 3 e (tn G 5 op) (op + 1) (tn G 6 op) w (nI 0) false) S8 ∧ ay8 50 0 = nxM G (ay 50 0)) (fun S8 ay8 hr8 hn8 => ⟨rfl, ay8, hr8, hn8⟩)) wc_X7_send wn_RX7 (Or.inr ⟨_, wm_RX10_147⟩) wi_X7_send we_X7_send (by decide +kernel) rfl cls_7 (hS12.mem (show lv G 7 0 from rfl)) (hS12.knd (show lv G 7 0 from rfl)) (Nat.le_of_ble_eq_true rfl) (Nat.le_of_ble_eq_true rfl) (by show 1 + 1 ≤ 2; omega) (by show 7 + 373 ≤ 380; omega) (by simp [Value.category]) (by decide +kernel) rfl (fun v Z14 q9 => ?_)
            obtain ⟨rfl, ay15, hS16, hn17⟩ := q9
            exact V.vret h hA hr (hp _ _ (by unfold wrcC; rw [if_pos q114_60, ← hG, ← g5, ← g6]; exact hS16)) (by decide +kernel) (by omega) (by omega)
        · have q56_36 := ((nI_eq (by omega) (by omega)).mp q)
          clear q
          exact absurd q56_36 (by decide)
      · have q36_30 := ((nI_eq (by omega) (by omega)).mp q)
        clear q
        exact absurd q36_30 (by decide)
    · have q16_17 : ¬ _ := (fun z => q ((nI_ltI (by omega) (by omega)).mpr z))
      clear q
      omega
set_option maxRecDepth 100000 in
set_option maxHeartbeats 4000000 in
theorem c_rClient4 {l : Launch} {D : va_G} {tc : Nat → ClassId} {ax ay : Nat → Nat → Nat} {A : TS} {S : HS} (hls : l.stackTraces = false) (hS : RA tc (mx ax ay) A S) {q : Nat} {e : Nat} {c9 : Nat} {op : Nat} {n : Nat} {sa : Bool} {K : Nat} {x : Int32}  (hq : LT S q 4 e c9 (opA (mx ax ay) (op + 1)) n x sa) (hc : c9 < 4) (ho : op < tf A 13) (hD : ∀ i, tn A 11 i ≠ 1) (heK : e ≤ K) (hB : NB K A) (hK : K < 1700000000) (h9 : 700 ≤ K) {post : Option Value → HS → Prop} (hp : ∀ (S8 : HS) (ay8 : Nat → Nat → Nat), RA tc (mx ax ay8) (rclC A 4 e c9 op 0 x sa) S8 → post none S8) : CM l D tc yX10_readAtClient cX10_readAtClient 4 (none) 8 2 380 [.ref (ax 10 0), .ref q] S post := by
  refine CM.of hls (by decide +kernel) (by simp [Value.category]) (Nat.le_of_ble_eq_true rfl) (fun A0 p e9 s m args below meth c sz h hr hnm hA => ?_)
  have hf3 := hS.2.2.1.2.1
  have h5 := hS.2.2.2.1.1
  refine V.eqL (ls' := [some (.ref (ax 10 0)), some (.ref q), none, none]) rfl ?_
  by_cases hlat0 : tn A 16 c9 = 0
  · skip
    refine V.blk h [(.aload_n 1, 1)] (by decide +kernel) (pc' := 1) (ls' := [some (.ref (ax 10 0)), some (.ref q), none, none]) (st' := [.ref q]) rfl rfl (Nat.le_of_ble_eq_true rfl) ?_
    refine V.getI h cls_4 (j := 2) rfl hq.1 hq.2.1 (Or.inr ⟨_, wf_RX10_200⟩) (by decide +kernel) (v := nI c9) hq.2.2.2.2.1 ?_
    refine V.if_lt h (off := 15) (by decide +kernel) (tgt := 19) (by decide) (fun q => ?_) (fun q => ?_)
    · have q4_7 := ((nI_z_lt (by omega)).mp q)
      clear q
      exact absurd q4_7 id
    · have q4_7 : ¬ _ := (fun z => q ((nI_z_lt (by omega)).mpr z))
      clear q
      refine V.blk h [(.aload_n 1, 1)] (by decide +kernel) (pc' := 8) (ls' := [some (.ref (ax 10 0)), some (.ref q), none, none]) (st' := [.ref q]) rfl rfl (Nat.le_of_ble_eq_true rfl) ?_
      refine V.getI h cls_4 (j := 2) rfl hq.1 hq.2.1 (Or.inr ⟨_, wf_RX10_200⟩) (by decide +kernel) (v := nI c9) hq.2.2.2.2.1 ?_
      refine V.blk h [(.aload_n 0, 1)] (by decide +kernel) (pc' := 12) (ls' := [some (.ref (ax 10 0)), some (.ref q), none, none]) (st' := [.ref (ax 10 0), .int (nI (c9))]) rfl rfl (Nat.le_of_ble_eq_true rfl) ?_
      refine V.getP h cls_10 (j := 4) rfl (hS.mem (show lv A 10 0 from rfl)) (hS.knd (show lv A 10 0 from rfl)) (Or.inl wf_RX10_32) (by decide +kernel) (v := some (ax 24 0)) (hS.ptr (show lv A 10 0 from rfl) (by decide) (by decide) rfl) ?_
      refine V.eq (S' := S) (ls' := [some (.ref (ax 10 0)), some (.ref q), none, none]) (st' := [.ref (ax 24 0), .int (nI (c9))]) rfl rfl rfl ?_
      refine V.alen h 24 (hS.mem (show lv A 24 0 from rfl)) (hS.knd (show lv A 24 0 from rfl)) (by decide) (M := 4) (hS.len (show lv A 24 0 from rfl) (by decide)) (by decide +kernel) ?_
      refine V.icmp_lt h (off := 4) (by decide +kernel) (tgt := 20) (by decide) (fun q => ?_) (fun q => ?_)
      · have q16_19 := ((nI_ltI (by omega) (by omega)).mp q)
        clear q
        refine V.blk h [(.aload_n 0, 1)] (by decide +kernel) (pc' := 21) (ls' := [some (.ref (ax 10 0)), some (.ref q), none, none]) (st' := [.ref (ax 10 0)]) rfl rfl (Nat.le_of_ble_eq_true rfl) ?_
        refine V.getP h cls_10 (j := 4) rfl (hS.mem (show lv A 10 0 from rfl)) (hS.knd (show lv A 10 0 from rfl)) (Or.inl wf_RX10_32) (by decide +kernel) (v := some (ax 24 0)) (hS.ptr (show lv A 10 0 from rfl) (by decide) (by decide) rfl) ?_
        refine V.eq (S' := S) (ls' := [some (.ref (ax 10 0)), some (.ref q), none, none]) (st' := [.ref (ax 24 0)]) rfl rfl rfl ?_
        refine V.blk h [(.aload_n 1, 1)] (by decide +kernel) (pc' := 25) (ls' := [some (.ref (ax 10 0)), some (.ref q), none, none]) (st' := [.ref q, .ref (ax 24 0)]) rfl rfl (Nat.le_of_ble_eq_true rfl) ?_
        refine V.getI h cls_4 (j := 2) rfl hq.1 hq.2.1 (Or.inr ⟨_, wf_RX10_200⟩) (by decide +kernel) (v := nI c9) hq.2.2.2.2.1 ?_
        refine V.aald h 24 (hS.mem (show lv A 24 0 from rfl)) (hS.knd (show lv A 24 0 from rfl)) (by decide) rfl (M := 4) (hS.len (show lv A 24 0 from rfl) (by decide)) (i := c9) (by omega) (by show _ < 2 ^ 31; first | omega | decide) (by decide +kernel) (v := some (ax 2 c9)) (hS.ref (show lv A 24 0 from rfl) (by decide) (by show _ < 4; omega)) ?_
        refine V.eq (S' := S) (ls' := [some (.ref (ax 10 0)), some (.ref q), none, none]) (st' := [.ref (ax 2 c9)]) rfl rfl rfl ?_
        refine V.blk h [(.astore_n 2, 1), (.aload_n 1, 1)] (by decide +kernel) (pc' := 31) (ls' := [some (.ref (ax 10 0)), some (.ref q), some (.ref (ax 2 c9)), none]) (st' := [.ref q]) rfl rfl (Nat.le_of_ble_eq_true rfl) ?_
        refine V.getP h cls_4 (j := 3) rfl hq.1 hq.2.1 (Or.inr ⟨_, wf_RX10_292⟩) (by decide +kernel) (v := some (ax 6 op)) hq.2.2.2.2.2.1 ?_
        refine V.eq (S' := S) (ls' := [some (.ref (ax 10 0)), some (.ref q), some (.ref (ax 2 c9)), none]) (st' := [.ref (ax 6 op)]) rfl rfl rfl ?_
        refine V.blk h [(.astore_n 3, 1), (.aload_n 3, 1)] (by decide +kernel) (pc' := 36) (ls' := [some (.ref (ax 10 0)), some (.ref q), some (.ref (ax 2 c9)), some (.ref (ax 6 op))]) (st' := [.ref (ax 6 op)]) rfl rfl (Nat.le_of_ble_eq_true rfl) ?_
        refine V.ifnull h (o := (some (ax 6 op))) (off := 29) (by decide +kernel) (tgt := 65) (by decide) (fun z => by cases z) (fun _ _ => ?_)
        refine V.blk h [(.aload_n 1, 1)] (by decide +kernel) (pc' := 40) (ls' := [some (.ref (ax 10 0)), some (.ref q), some (.ref (ax 2 c9)), some (.ref (ax 6 op))]) (st' := [.ref q]) rfl rfl (Nat.le_of_ble_eq_true rfl) ?_
        refine V.getI h cls_4 (j := 1) rfl hq.1 hq.2.1 (Or.inr ⟨_, wf_RX10_199⟩) (by decide +kernel) (v := nI e) hq.2.2.2.1 ?_
        refine V.blk h [(.aload_n 2, 1)] (by decide +kernel) (pc' := 44) (ls' := [some (.ref (ax 10 0)), some (.ref q), some (.ref (ax 2 c9)), some (.ref (ax 6 op))]) (st' := [.ref (ax 2 c9), .int (nI (e))]) rfl rfl (Nat.le_of_ble_eq_true rfl) ?_
        refine V.getI h cls_2 (j := 0) rfl (hS.mem (show lv A 2 c9 from hc)) (hS.knd (show lv A 2 c9 from hc)) (Or.inr ⟨_, wf_RX10_118⟩) (by decide +kernel) (v := nI (tn A 17 c9)) (hS.int (show lv A 2 c9 from hc) (by decide) (by decide) rfl) ?_
        have nb38 := hB.2 17 c9
        refine V.icmp_ne h (off := 18) (by decide +kernel) (tgt := 65) (by decide) (fun q => ?_) (fun q => ?_)
        · have q47_39 : ¬ _ := (fun z => q ((nI_eq (by omega) (by omega)).mpr z))
          clear q
          exact V.vret h hA hr (hp _ ay (by unfold rclC; rw [if_neg (by intro z; obtain ⟨z1, z2, z3⟩ := z; first | omega | exact absurd z3 q47_39 | exact absurd z1.symm q47_39)]; exact hS)) (by decide +kernel) (Nat.zero_le _) (Nat.zero_le _)
        · have q47_39 := ((nI_eq (by omega) (by omega)).mp q)
          clear q
          refine V.blk h [(.aload_n 3, 1), (.aload_n 2, 1)] (by decide +kernel) (pc' := 52) (ls' := [some (.ref (ax 10 0)), some (.ref q), some (.ref (ax 2 c9)), some (.ref (ax 6 op))]) (st' := [.ref (ax 2 c9), .ref (ax 6 op)]) rfl rfl (Nat.le_of_ble_eq_true rfl) ?_
          refine V.getP h cls_2 (j := 1) rfl (hS.mem (show lv A 2 c9 from hc)) (hS.knd (show lv A 2 c9 from hc)) (Or.inr ⟨_, wf_RX10_103⟩) (by decide +kernel) (v := none) ((hS.ptr (show lv A 2 c9 from hc) (by decide) (by decide) rfl).trans (by show opA _ (tn A 16 c9) = none; rw [hlat0]; rfl)) ?_
          refine V.eq (S' := S) (ls' := [some (.ref (ax 10 0)), some (.ref q), some (.ref (ax 2 c9)), some (.ref (ax 6 op))]) (st' := [.null, .ref (ax 6 op)]) rfl rfl rfl ?_
          refine V.acmp_ne h (rx := some (ax 6 op)) (ry := none) (off := 10) (by decide +kernel) (tgt := 65) (by decide) (fun q => ?_) (fun q => ?_)
          · have q55_48 : ¬ _ := (fun z => q (((⟨(fun z => by cases z), (fun z => z.elim)⟩ : (some (ax 6 op) = (none : Option Nat)) ↔ False)).mpr z))
            clear q
            exact V.vret h hA hr (hp _ ay (by unfold rclC; rw [if_neg (by intro z; obtain ⟨z1, z2, z3⟩ := z; first | omega | exact absurd z3 q55_48 | exact absurd z1.symm q55_48)]; exact hS)) (by decide +kernel) (Nat.zero_le _) (Nat.zero_le _)
          · have q55_48 := (((⟨(fun z => by cases z), (fun z => z.elim)⟩ : (some (ax 6 op) = (none : Option Nat)) ↔ False)).mp q)
            clear q
            exact absurd q55_48 id
      · have q16_19 : ¬ _ := (fun z => q ((nI_ltI (by omega) (by omega)).mpr z))
        clear q
        omega
  · skip
    refine V.blk h [(.aload_n 1, 1)] (by decide +kernel) (pc' := 1) (ls' := [some (.ref (ax 10 0)), some (.ref q), none, none]) (st' := [.ref q]) rfl rfl (Nat.le_of_ble_eq_true rfl) ?_
    refine V.getI h cls_4 (j := 2) rfl hq.1 hq.2.1 (Or.inr ⟨_, wf_RX10_200⟩) (by decide +kernel) (v := nI c9) hq.2.2.2.2.1 ?_
    refine V.if_lt h (off := 15) (by decide +kernel) (tgt := 19) (by decide) (fun q => ?_) (fun q => ?_)
    · have q4_61 := ((nI_z_lt (by omega)).mp q)
      clear q
      exact absurd q4_61 id
    · have q4_61 : ¬ _ := (fun z => q ((nI_z_lt (by omega)).mpr z))
      clear q
      refine V.blk h [(.aload_n 1, 1)] (by decide +kernel) (pc' := 8) (ls' := [some (.ref (ax 10 0)), some (.ref q), none, none]) (st' := [.ref q]) rfl rfl (Nat.le_of_ble_eq_true rfl) ?_
      refine V.getI h cls_4 (j := 2) rfl hq.1 hq.2.1 (Or.inr ⟨_, wf_RX10_200⟩) (by decide +kernel) (v := nI c9) hq.2.2.2.2.1 ?_
      refine V.blk h [(.aload_n 0, 1)] (by decide +kernel) (pc' := 12) (ls' := [some (.ref (ax 10 0)), some (.ref q), none, none]) (st' := [.ref (ax 10 0), .int (nI (c9))]) rfl rfl (Nat.le_of_ble_eq_true rfl) ?_
      refine V.getP h cls_10 (j := 4) rfl (hS.mem (show lv A 10 0 from rfl)) (hS.knd (show lv A 10 0 from rfl)) (Or.inl wf_RX10_32) (by decide +kernel) (v := some (ax 24 0)) (hS.ptr (show lv A 10 0 from rfl) (by decide) (by decide) rfl) ?_
      refine V.eq (S' := S) (ls' := [some (.ref (ax 10 0)), some (.ref q), none, none]) (st' := [.ref (ax 24 0), .int (nI (c9))]) rfl rfl rfl ?_
      refine V.alen h 24 (hS.mem (show lv A 24 0 from rfl)) (hS.knd (show lv A 24 0 from rfl)) (by decide) (M := 4) (hS.len (show lv A 24 0 from rfl) (by decide)) (by decide +kernel) ?_
      refine V.icmp_lt h (off := 4) (by decide +kernel) (tgt := 20) (by decide) (fun q => ?_) (fun q => ?_)
      · have q16_73 := ((nI_ltI (by omega) (by omega)).mp q)
        clear q
        refine V.blk h [(.aload_n 0, 1)] (by decide +kernel) (pc' := 21) (ls' := [some (.ref (ax 10 0)), some (.ref q), none, none]) (st' := [.ref (ax 10 0)]) rfl rfl (Nat.le_of_ble_eq_true rfl) ?_
        refine V.getP h cls_10 (j := 4) rfl (hS.mem (show lv A 10 0 from rfl)) (hS.knd (show lv A 10 0 from rfl)) (Or.inl wf_RX10_32) (by decide +kernel) (v := some (ax 24 0)) (hS.ptr (show lv A 10 0 from rfl) (by decide) (by decide) rfl) ?_
        refine V.eq (S' := S) (ls' := [some (.ref (ax 10 0)), some (.ref q), none, none]) (st' := [.ref (ax 24 0)]) rfl rfl rfl ?_
        refine V.blk h [(.aload_n 1, 1)] (by decide +kernel) (pc' := 25) (ls' := [some (.ref (ax 10 0)), some (.ref q), none, none]) (st' := [.ref q, .ref (ax 24 0)]) rfl rfl (Nat.le_of_ble_eq_true rfl) ?_
        refine V.getI h cls_4 (j := 2) rfl hq.1 hq.2.1 (Or.inr ⟨_, wf_RX10_200⟩) (by decide +kernel) (v := nI c9) hq.2.2.2.2.1 ?_
        refine V.aald h 24 (hS.mem (show lv A 24 0 from rfl)) (hS.knd (show lv A 24 0 from rfl)) (by decide) rfl (M := 4) (hS.len (show lv A 24 0 from rfl) (by decide)) (i := c9) (by omega) (by show _ < 2 ^ 31; first | omega | decide) (by decide +kernel) (v := some (ax 2 c9)) (hS.ref (show lv A 24 0 from rfl) (by decide) (by show _ < 4; omega)) ?_
        refine V.eq (S' := S) (ls' := [some (.ref (ax 10 0)), some (.ref q), none, none]) (st' := [.ref (ax 2 c9)]) rfl rfl rfl ?_
        refine V.blk h [(.astore_n 2, 1), (.aload_n 1, 1)] (by decide +kernel) (pc' := 31) (ls' := [some (.ref (ax 10 0)), some (.ref q), some (.ref (ax 2 c9)), none]) (st' := [.ref q]) rfl rfl (Nat.le_of_ble_eq_true rfl) ?_
        refine V.getP h cls_4 (j := 3) rfl hq.1 hq.2.1 (Or.inr ⟨_, wf_RX10_292⟩) (by decide +kernel) (v := some (ax 6 op)) hq.2.2.2.2.2.1 ?_
        refine V.eq (S' := S) (ls' := [some (.ref (ax 10 0)), some (.ref q), some (.ref (ax 2 c9)), none]) (st' := [.ref (ax 6 op)]) rfl rfl rfl ?_
        refine V.blk h [(.astore_n 3, 1), (.aload_n 3, 1)] (by decide +kernel) (pc' := 36) (ls' := [some (.ref (ax 10 0)), some (.ref q), some (.ref (ax 2 c9)), some (.ref (ax 6 op))]) (st' := [.ref (ax 6 op)]) rfl rfl (Nat.le_of_ble_eq_true rfl) ?_
        refine V.ifnull h (o := (some (ax 6 op))) (off := 29) (by decide +kernel) (tgt := 65) (by decide) (fun z => by cases z) (fun _ _ => ?_)
        refine V.blk h [(.aload_n 1, 1)] (by decide +kernel) (pc' := 40) (ls' := [some (.ref (ax 10 0)), some (.ref q), some (.ref (ax 2 c9)), some (.ref (ax 6 op))]) (st' := [.ref q]) rfl rfl (Nat.le_of_ble_eq_true rfl) ?_
        refine V.getI h cls_4 (j := 1) rfl hq.1 hq.2.1 (Or.inr ⟨_, wf_RX10_199⟩) (by decide +kernel) (v := nI e) hq.2.2.2.1 ?_
        refine V.blk h [(.aload_n 2, 1)] (by decide +kernel) (pc' := 44) (ls' := [some (.ref (ax 10 0)), some (.ref q), some (.ref (ax 2 c9)), some (.ref (ax 6 op))]) (st' := [.ref (ax 2 c9), .int (nI (e))]) rfl rfl (Nat.le_of_ble_eq_true rfl) ?_
        refine V.getI h cls_2 (j := 0) rfl (hS.mem (show lv A 2 c9 from hc)) (hS.knd (show lv A 2 c9 from hc)) (Or.inr ⟨_, wf_RX10_118⟩) (by decide +kernel) (v := nI (tn A 17 c9)) (hS.int (show lv A 2 c9 from hc) (by decide) (by decide) rfl) ?_
        have nb92 := hB.2 17 c9
        refine V.icmp_ne h (off := 18) (by decide +kernel) (tgt := 65) (by decide) (fun q => ?_) (fun q => ?_)
        · have q47_93 : ¬ _ := (fun z => q ((nI_eq (by omega) (by omega)).mpr z))
          clear q
          exact V.vret h hA hr (hp _ ay (by unfold rclC; rw [if_neg (by intro z; obtain ⟨z1, z2, z3⟩ := z; first | omega | exact absurd z3 q47_93 | exact absurd z1.symm q47_93)]; exact hS)) (by decide +kernel) (Nat.zero_le _) (Nat.zero_le _)
        · have q47_93 := ((nI_eq (by omega) (by omega)).mp q)
          clear q
          refine V.blk h [(.aload_n 3, 1), (.aload_n 2, 1)] (by decide +kernel) (pc' := 52) (ls' := [some (.ref (ax 10 0)), some (.ref q), some (.ref (ax 2 c9)), some (.ref (ax 6 op))]) (st' := [.ref (ax 2 c9), .ref (ax 6 op)]) rfl rfl (Nat.le_of_ble_eq_true rfl) ?_
          refine V.getP h cls_2 (j := 1) rfl (hS.mem (show lv A 2 c9 from hc)) (hS.knd (show lv A 2 c9 from hc)) (Or.inr ⟨_, wf_RX10_103⟩) (by decide +kernel) (v := some (ax 6 (tn A 16 c9 - 1))) ((hS.ptr (show lv A 2 c9 from hc) (by decide) (by decide) rfl).trans (by show opA _ (tn A 16 c9) = _; unfold opA; rw [if_neg hlat0]; rfl)) ?_
          refine V.eq (S' := S) (ls' := [some (.ref (ax 10 0)), some (.ref q), some (.ref (ax 2 c9)), some (.ref (ax 6 op))]) (st' := [.ref (ax 6 (tn A 16 c9 - 1)), .ref (ax 6 op)]) rfl rfl rfl ?_
          refine V.acmp_ne h (rx := some (ax 6 op)) (ry := some (ax 6 (tn A 16 c9 - 1))) (off := 10) (by decide +kernel) (tgt := 65) (by decide) (fun q => ?_) (fun q => ?_)
          · have q55_102 : ¬ _ := (fun z => q ((hS.opeq ho (by have z9 := hS.2.2.2.2.2.1 c9 hc; omega)).mpr z))
            clear q
            exact V.vret h hA hr (hp _ ay (by unfold rclC; rw [if_neg (by intro z; obtain ⟨z1, z2, z3⟩ := z; first | omega | exact absurd z3 q55_102 | exact absurd z1.symm q55_102)]; exact hS)) (by decide +kernel) (Nat.zero_le _) (Nat.zero_le _)
          · have q55_102 := ((hS.opeq ho (by have z9 := hS.2.2.2.2.2.1 c9 hc; omega)).mp q)
            clear q
            refine V.blk h [(.aload_n 3, 1)] (by decide +kernel) (pc' := 59) (ls' := [some (.ref (ax 10 0)), some (.ref q), some (.ref (ax 2 c9)), some (.ref (ax 6 op))]) (st' := [.ref (ax 6 op)]) rfl rfl (Nat.le_of_ble_eq_true rfl) ?_
            refine V.callV h (np := 0) (st := []) (c_isDone hls hS (op := op) (show lv A 6 op from ho) hB (by omega) (hD _) (post := fun v S7 => v = some (.int (bI (decide (tn A 11 op ≠ 0)))) ∧ S = S7) ⟨rfl, rfl⟩) wc_X6_isDone wn_RX6 (Or.inr ⟨_, wm_RX10_267⟩) wi_X6_isDone we_X6_isDone (by decide +kernel) rfl cls_6 (hS.mem (show lv A 6 op from ho)) (hS.knd (show lv A 6 op from ho)) (Nat.le_of_ble_eq_true rfl) (Nat.le_of_ble_eq_true rfl) (Nat.zero_le _) (Nat.zero_le _) (by simp [Value.category]) (by decide +kernel) rfl (fun v Z1 q9 => ?_)
            obtain ⟨rfl, hS9⟩ := q9
            subst hS9
            refine V.eq (S' := S) (ls' := [some (.ref (ax 10 0)), some (.ref q), some (.ref (ax 2 c9)), some (.ref (ax 6 op))]) (st' := [.int (bI (decide (tn A 11 op ≠ 0)))]) rfl rfl rfl ?_
            refine V.if_eq h (off := 4) (by decide +kernel) (tgt := 66) (by decide) (fun q => ?_) (fun q => ?_)
            · have q62_113 := (Decidable.of_not_not (of_decide_eq_false (bI_0.mp q)))
              clear q
              refine V.blk h [(.aload_n 1, 1)] (by decide +kernel) (pc' := 67) (ls' := [some (.ref (ax 10 0)), some (.ref q), some (.ref (ax 2 c9)), some (.ref (ax 6 op))]) (st' := [.ref q]) rfl rfl (Nat.le_of_ble_eq_true rfl) ?_
              refine V.getI h cls_4 (j := 0) rfl hq.1 hq.2.1 (Or.inr ⟨_, wf_RX10_126⟩) (by decide +kernel) (v := nI 4) hq.2.2.1 ?_
              refine V.blk h [(.iconst 4, 1)] (by decide +kernel) (pc' := 71) (ls' := [some (.ref (ax 10 0)), some (.ref q), some (.ref (ax 2 c9)), some (.ref (ax 6 op))]) (st' := [.int (nI (4)), .int (nI (4))]) rfl rfl (Nat.le_of_ble_eq_true rfl) ?_
              refine V.icmp_ne h (off := 22) (by decide +kernel) (tgt := 93) (by decide) (fun q => ?_) (fun q => ?_)
              · have q71_119 : ¬ _ := (fun z => q ((nI_eq (by omega) (by omega)).mpr z))
                clear q
                exact absurd rfl q71_119
              · have q71_119 := ((nI_eq (by omega) (by omega)).mp q)
                clear q
                refine V.blk h [(.aload_n 0, 1)] (by decide +kernel) (pc' := 75) (ls' := [some (.ref (ax 10 0)), some (.ref q), some (.ref (ax 2 c9)), some (.ref (ax 6 op))]) (st' := [.ref (ax 10 0)]) rfl rfl (Nat.le_of_ble_eq_true rfl) ?_
                refine V.getP h cls_10 (j := 3) rfl (hS.mem (show lv A 10 0 from rfl)) (hS.knd (show lv A 10 0 from rfl)) (Or.inl wf_RX10_26) (by decide +kernel) (v := some (ax 7 0)) (hS.ptr (show lv A 10 0 from rfl) (by decide) (by decide) rfl) ?_
                refine V.eq (S' := S) (ls' := [some (.ref (ax 10 0)), some (.ref q), some (.ref (ax 2 c9)), some (.ref (ax 6 op))]) (st' := [.ref (ax 7 0)]) rfl rfl rfl ?_
                refine V.blk h [(.iconst 5, 1), (.aload_n 1, 1)] (by decide +kernel) (pc' := 80) (ls' := [some (.ref (ax 10 0)), some (.ref q), some (.ref (ax 2 c9)), some (.ref (ax 6 op))]) (st' := [.ref q, .int (nI (5)), .ref (ax 7 0)]) rfl rfl (Nat.le_of_ble_eq_true rfl) ?_
                refine V.getI h cls_4 (j := 1) rfl hq.1 hq.2.1 (Or.inr ⟨_, wf_RX10_199⟩) (by decide +kernel) (v := nI e) hq.2.2.2.1 ?_
                refine V.blk h [(.aload_n 3, 1)] (by decide +kernel) (pc' := 84) (ls' := [some (.ref (ax 10 0)), some (.ref q), some (.ref (ax 2 c9)), some (.ref (ax 6 op))]) (st' := [.ref (ax 6 op), .int (nI (e)), .int (nI (5)), .ref (ax 7 0)]) rfl rfl (Nat.le_of_ble_eq_true rfl) ?_
                refine V.callS h (np := 3) (st := [.ref (ax 7 0)]) (c_toMaster hls hS (so := 5) (e := e) (op := op) (show lv A 6 op from ho) (post := fun v S8 => ∃ q8, v = some (.ref q8) ∧ RA tc (mx ax ay) (A) S8 ∧ LT S8 q8 5 e (tn A 5 op) (opA (mx ax ay) (op + 1)) (tn A 6 op) (nI 0) false) (fun S8 q8 _ _ hr8 hl8 => ⟨q8, rfl, hr8, hl8⟩)) wc_X4_toMaster wn_RX4 (Or.inr ⟨_, wm_RX10_273⟩) wt_X4_toMaster (by decide +kernel) rfl (Nat.le_of_ble_eq_true rfl) (Nat.le_of_ble_eq_true rfl) (by show 0 + 1 ≤ 2; omega) (by show 0 + 7 ≤ 380; omega) (by simp [Value.category]) (by decide +kernel) rfl (fun v Z2 q9 => ?_)
                obtain ⟨lq3, rfl, hS4, hl5⟩ := q9
                refine V.eq (S' := Z2) (ls' := [some (.ref (ax 10 0)), some (.ref q), some (.ref (ax 2 c9)), some (.ref (ax 6 op))]) (st' := [.ref lq3, .ref (ax 7 0)]) rfl rfl rfl ?_
                refine V.callV h (np := 1) (st := []) (c_r_send hls hS4 (so := 5) (e := e) (to := tn A 5 op) (op := op + 1) (n := tn A 6 op) (c9 := 0) (x := nI 0) (sa := false) (q := lq3) (ms := 373) (Nat.succ_le_of_lt (show lv A 6 op from ho)) hl5 hS4.gc (post := fun v S8 => v = none ∧ ∃ ay8, RA tc (mx ax ay8) (sendF A 5 e (tn A 5 op) (op + 1) (tn A 6 op) 0 (nI 0) false) S8 ∧ ay8 50 0 = nxM A (ay 50 0)) (fun S8 ay8 hr8 hn8 => ⟨rfl, ay8, hr8, hn8⟩)) wc_X7_send wn_RX7 (Or.inr ⟨_, wm_RX10_147⟩) wi_X7_send we_X7_send (by decide +kernel) rfl cls_7 (hS4.mem (show lv A 7 0 from rfl)) (hS4.knd (show lv A 7 0 from rfl)) (Nat.le_of_ble_eq_true rfl) (Nat.le_of_ble_eq_true rfl) (by show 1 + 1 ≤ 2; omega) (by show 7 + 373 ≤ 380; omega) (by simp [Value.category]) (by decide +kernel) rfl (fun v Z6 q9 => ?_)
                obtain ⟨rfl, ay7, hS8, hn9⟩ := q9
                refine V.goto h (off := 42) (tgt := 132) (by decide +kernel) (by decide) ?_
                exact V.vret h hA hr (hp _ _ (by unfold rclC; rw [if_pos ⟨by omega, by omega, by first | assumption | omega⟩, if_pos rfl]; exact hS8)) (by decide +kernel) (by omega) (by omega)
            · have q62_113 := (of_decide_eq_true (bI_1 (fun z => q (bI_0.mpr z))))
              clear q
              exact V.vret h hA hr (hp _ ay (by unfold rclC; rw [if_neg (by intro z; obtain ⟨z1, z2, z3⟩ := z; first | omega | exact absurd z3 q62_113 | exact absurd z1.symm q62_113)]; exact hS)) (by decide +kernel) (Nat.zero_le _) (Nat.zero_le _)
      · have q16_73 : ¬ _ := (fun z => q ((nI_ltI (by omega) (by omega)).mpr z))
        clear q
        omega
set_option maxRecDepth 100000 in
set_option maxHeartbeats 4000000 in
theorem c_rClient3 {l : Launch} {D : va_G} {tc : Nat → ClassId} {ax ay : Nat → Nat → Nat} {A : TS} {S : HS} (hls : l.stackTraces = false) (hS : RA tc (mx ax ay) A S) {q : Nat} {e : Nat} {c9 : Nat} {op : Nat} {n : Nat} {sa : Bool} {K : Nat} {w : Nat}  (hq : LT S q 3 e c9 (opA (mx ax ay) (op + 1)) n (nI w) sa) (hc : c9 < 4) (ho : op < tf A 13) (hD : ∀ i, tn A 11 i ≠ 1) (hw : w < tf A 1) (h18 : tn A 18 c9 < 2 ^ tf A 1) (heK : e ≤ K) (hB : NB K A) (hK : K < 1700000000) (h9 : 700 ≤ K) {post : Option Value → HS → Prop} (hp : ∀ (S8 : HS) (ay8 : Nat → Nat → Nat), RA tc (mx ax ay8) (rclC A 3 e c9 op w (nI 0) sa) S8 → post none S8) : CM l D tc yX10_readAtClient cX10_readAtClient 4 (none) 3 0 0 [.ref (ax 10 0), .ref q] S post := by
  refine CM.of hls (by decide +kernel) (by simp [Value.category]) (Nat.le_of_ble_eq_true rfl) (fun A0 p e9 s m args below meth c sz h hr hnm hA => ?_)
  have hf3 := hS.2.2.1.2.1
  have h5 := hS.2.2.2.1.1
  have h18n : tn (sn A 18 c9 (tn A 18 c9 ||| 2 ^ w)) 18 c9 < 2 ^ tf A 1 := by rw [tn_sn, if_pos ⟨rfl, rfl⟩]; exact Nat.or_lt_two_pow h18 (Nat.pow_lt_pow_right (by decide) hw)
  have hp39 := pow3 hf3
  have nbn : NB (K + 8) (sn A 18 c9 (tn A 18 c9 ||| 2 ^ w)) := (hB.mono (by omega)).sn (by have z := h18n; rw [tn_sn, if_pos ⟨rfl, rfl⟩] at z; omega)
  refine V.eqL (ls' := [some (.ref (ax 10 0)), some (.ref q), none, none]) rfl ?_
  by_cases hlat0 : tn A 16 c9 = 0
  · skip
    refine V.blk h [(.aload_n 1, 1)] (by decide +kernel) (pc' := 1) (ls' := [some (.ref (ax 10 0)), some (.ref q), none, none]) (st' := [.ref q]) rfl rfl (Nat.le_of_ble_eq_true rfl) ?_
    refine V.getI h cls_4 (j := 2) rfl hq.1 hq.2.1 (Or.inr ⟨_, wf_RX10_200⟩) (by decide +kernel) (v := nI c9) hq.2.2.2.2.1 ?_
    refine V.if_lt h (off := 15) (by decide +kernel) (tgt := 19) (by decide) (fun q => ?_) (fun q => ?_)
    · have q4_10 := ((nI_z_lt (by omega)).mp q)
      clear q
      exact absurd q4_10 id
    · have q4_10 : ¬ _ := (fun z => q ((nI_z_lt (by omega)).mpr z))
      clear q
      refine V.blk h [(.aload_n 1, 1)] (by decide +kernel) (pc' := 8) (ls' := [some (.ref (ax 10 0)), some (.ref q), none, none]) (st' := [.ref q]) rfl rfl (Nat.le_of_ble_eq_true rfl) ?_
      refine V.getI h cls_4 (j := 2) rfl hq.1 hq.2.1 (Or.inr ⟨_, wf_RX10_200⟩) (by decide +kernel) (v := nI c9) hq.2.2.2.2.1 ?_
      refine V.blk h [(.aload_n 0, 1)] (by decide +kernel) (pc' := 12) (ls' := [some (.ref (ax 10 0)), some (.ref q), none, none]) (st' := [.ref (ax 10 0), .int (nI (c9))]) rfl rfl (Nat.le_of_ble_eq_true rfl) ?_
      refine V.getP h cls_10 (j := 4) rfl (hS.mem (show lv A 10 0 from rfl)) (hS.knd (show lv A 10 0 from rfl)) (Or.inl wf_RX10_32) (by decide +kernel) (v := some (ax 24 0)) (hS.ptr (show lv A 10 0 from rfl) (by decide) (by decide) rfl) ?_
      refine V.eq (S' := S) (ls' := [some (.ref (ax 10 0)), some (.ref q), none, none]) (st' := [.ref (ax 24 0), .int (nI (c9))]) rfl rfl rfl ?_
      refine V.alen h 24 (hS.mem (show lv A 24 0 from rfl)) (hS.knd (show lv A 24 0 from rfl)) (by decide) (M := 4) (hS.len (show lv A 24 0 from rfl) (by decide)) (by decide +kernel) ?_
      refine V.icmp_lt h (off := 4) (by decide +kernel) (tgt := 20) (by decide) (fun q => ?_) (fun q => ?_)
      · have q16_22 := ((nI_ltI (by omega) (by omega)).mp q)
        clear q
        refine V.blk h [(.aload_n 0, 1)] (by decide +kernel) (pc' := 21) (ls' := [some (.ref (ax 10 0)), some (.ref q), none, none]) (st' := [.ref (ax 10 0)]) rfl rfl (Nat.le_of_ble_eq_true rfl) ?_
        refine V.getP h cls_10 (j := 4) rfl (hS.mem (show lv A 10 0 from rfl)) (hS.knd (show lv A 10 0 from rfl)) (Or.inl wf_RX10_32) (by decide +kernel) (v := some (ax 24 0)) (hS.ptr (show lv A 10 0 from rfl) (by decide) (by decide) rfl) ?_
        refine V.eq (S' := S) (ls' := [some (.ref (ax 10 0)), some (.ref q), none, none]) (st' := [.ref (ax 24 0)]) rfl rfl rfl ?_
        refine V.blk h [(.aload_n 1, 1)] (by decide +kernel) (pc' := 25) (ls' := [some (.ref (ax 10 0)), some (.ref q), none, none]) (st' := [.ref q, .ref (ax 24 0)]) rfl rfl (Nat.le_of_ble_eq_true rfl) ?_
        refine V.getI h cls_4 (j := 2) rfl hq.1 hq.2.1 (Or.inr ⟨_, wf_RX10_200⟩) (by decide +kernel) (v := nI c9) hq.2.2.2.2.1 ?_
        refine V.aald h 24 (hS.mem (show lv A 24 0 from rfl)) (hS.knd (show lv A 24 0 from rfl)) (by decide) rfl (M := 4) (hS.len (show lv A 24 0 from rfl) (by decide)) (i := c9) (by omega) (by show _ < 2 ^ 31; first | omega | decide) (by decide +kernel) (v := some (ax 2 c9)) (hS.ref (show lv A 24 0 from rfl) (by decide) (by show _ < 4; omega)) ?_
        refine V.eq (S' := S) (ls' := [some (.ref (ax 10 0)), some (.ref q), none, none]) (st' := [.ref (ax 2 c9)]) rfl rfl rfl ?_
        refine V.blk h [(.astore_n 2, 1), (.aload_n 1, 1)] (by decide +kernel) (pc' := 31) (ls' := [some (.ref (ax 10 0)), some (.ref q), some (.ref (ax 2 c9)), none]) (st' := [.ref q]) rfl rfl (Nat.le_of_ble_eq_true rfl) ?_
        refine V.getP h cls_4 (j := 3) rfl hq.1 hq.2.1 (Or.inr ⟨_, wf_RX10_292⟩) (by decide +kernel) (v := some (ax 6 op)) hq.2.2.2.2.2.1 ?_
        refine V.eq (S' := S) (ls' := [some (.ref (ax 10 0)), some (.ref q), some (.ref (ax 2 c9)), none]) (st' := [.ref (ax 6 op)]) rfl rfl rfl ?_
        refine V.blk h [(.astore_n 3, 1), (.aload_n 3, 1)] (by decide +kernel) (pc' := 36) (ls' := [some (.ref (ax 10 0)), some (.ref q), some (.ref (ax 2 c9)), some (.ref (ax 6 op))]) (st' := [.ref (ax 6 op)]) rfl rfl (Nat.le_of_ble_eq_true rfl) ?_
        refine V.ifnull h (o := (some (ax 6 op))) (off := 29) (by decide +kernel) (tgt := 65) (by decide) (fun z => by cases z) (fun _ _ => ?_)
        refine V.blk h [(.aload_n 1, 1)] (by decide +kernel) (pc' := 40) (ls' := [some (.ref (ax 10 0)), some (.ref q), some (.ref (ax 2 c9)), some (.ref (ax 6 op))]) (st' := [.ref q]) rfl rfl (Nat.le_of_ble_eq_true rfl) ?_
        refine V.getI h cls_4 (j := 1) rfl hq.1 hq.2.1 (Or.inr ⟨_, wf_RX10_199⟩) (by decide +kernel) (v := nI e) hq.2.2.2.1 ?_
        refine V.blk h [(.aload_n 2, 1)] (by decide +kernel) (pc' := 44) (ls' := [some (.ref (ax 10 0)), some (.ref q), some (.ref (ax 2 c9)), some (.ref (ax 6 op))]) (st' := [.ref (ax 2 c9), .int (nI (e))]) rfl rfl (Nat.le_of_ble_eq_true rfl) ?_
        refine V.getI h cls_2 (j := 0) rfl (hS.mem (show lv A 2 c9 from hc)) (hS.knd (show lv A 2 c9 from hc)) (Or.inr ⟨_, wf_RX10_118⟩) (by decide +kernel) (v := nI (tn A 17 c9)) (hS.int (show lv A 2 c9 from hc) (by decide) (by decide) rfl) ?_
        have nb41 := hB.2 17 c9
        refine V.icmp_ne h (off := 18) (by decide +kernel) (tgt := 65) (by decide) (fun q => ?_) (fun q => ?_)
        · have q47_42 : ¬ _ := (fun z => q ((nI_eq (by omega) (by omega)).mpr z))
          clear q
          exact V.vret h hA hr (hp _ ay (by unfold rclC; rw [if_neg (by intro z; obtain ⟨z1, z2, z3⟩ := z; first | omega | exact absurd z3 q47_42 | exact absurd z1.symm q47_42)]; exact hS)) (by decide +kernel) (Nat.zero_le _) (Nat.zero_le _)
        · have q47_42 := ((nI_eq (by omega) (by omega)).mp q)
          clear q
          refine V.blk h [(.aload_n 3, 1), (.aload_n 2, 1)] (by decide +kernel) (pc' := 52) (ls' := [some (.ref (ax 10 0)), some (.ref q), some (.ref (ax 2 c9)), some (.ref (ax 6 op))]) (st' := [.ref (ax 2 c9), .ref (ax 6 op)]) rfl rfl (Nat.le_of_ble_eq_true rfl) ?_
          refine V.getP h cls_2 (j := 1) rfl (hS.mem (show lv A 2 c9 from hc)) (hS.knd (show lv A 2 c9 from hc)) (Or.inr ⟨_, wf_RX10_103⟩) (by decide +kernel) (v := none) ((hS.ptr (show lv A 2 c9 from hc) (by decide) (by decide) rfl).trans (by show opA _ (tn A 16 c9) = none; rw [hlat0]; rfl)) ?_
          refine V.eq (S' := S) (ls' := [some (.ref (ax 10 0)), some (.ref q), some (.ref (ax 2 c9)), some (.ref (ax 6 op))]) (st' := [.null, .ref (ax 6 op)]) rfl rfl rfl ?_
          refine V.acmp_ne h (rx := some (ax 6 op)) (ry := none) (off := 10) (by decide +kernel) (tgt := 65) (by decide) (fun q => ?_) (fun q => ?_)
          · have q55_51 : ¬ _ := (fun z => q (((⟨(fun z => by cases z), (fun z => z.elim)⟩ : (some (ax 6 op) = (none : Option Nat)) ↔ False)).mpr z))
            clear q
            exact V.vret h hA hr (hp _ ay (by unfold rclC; rw [if_neg (by intro z; obtain ⟨z1, z2, z3⟩ := z; first | omega | exact absurd z3 q55_51 | exact absurd z1.symm q55_51)]; exact hS)) (by decide +kernel) (Nat.zero_le _) (Nat.zero_le _)
          · have q55_51 := (((⟨(fun z => by cases z), (fun z => z.elim)⟩ : (some (ax 6 op) = (none : Option Nat)) ↔ False)).mp q)
            clear q
            exact absurd q55_51 id
      · have q16_22 : ¬ _ := (fun z => q ((nI_ltI (by omega) (by omega)).mpr z))
        clear q
        omega
  · skip
    refine V.blk h [(.aload_n 1, 1)] (by decide +kernel) (pc' := 1) (ls' := [some (.ref (ax 10 0)), some (.ref q), none, none]) (st' := [.ref q]) rfl rfl (Nat.le_of_ble_eq_true rfl) ?_
    refine V.getI h cls_4 (j := 2) rfl hq.1 hq.2.1 (Or.inr ⟨_, wf_RX10_200⟩) (by decide +kernel) (v := nI c9) hq.2.2.2.2.1 ?_
    refine V.if_lt h (off := 15) (by decide +kernel) (tgt := 19) (by decide) (fun q => ?_) (fun q => ?_)
    · have q4_64 := ((nI_z_lt (by omega)).mp q)
      clear q
      exact absurd q4_64 id
    · have q4_64 : ¬ _ := (fun z => q ((nI_z_lt (by omega)).mpr z))
      clear q
      refine V.blk h [(.aload_n 1, 1)] (by decide +kernel) (pc' := 8) (ls' := [some (.ref (ax 10 0)), some (.ref q), none, none]) (st' := [.ref q]) rfl rfl (Nat.le_of_ble_eq_true rfl) ?_
      refine V.getI h cls_4 (j := 2) rfl hq.1 hq.2.1 (Or.inr ⟨_, wf_RX10_200⟩) (by decide +kernel) (v := nI c9) hq.2.2.2.2.1 ?_
      refine V.blk h [(.aload_n 0, 1)] (by decide +kernel) (pc' := 12) (ls' := [some (.ref (ax 10 0)), some (.ref q), none, none]) (st' := [.ref (ax 10 0), .int (nI (c9))]) rfl rfl (Nat.le_of_ble_eq_true rfl) ?_
      refine V.getP h cls_10 (j := 4) rfl (hS.mem (show lv A 10 0 from rfl)) (hS.knd (show lv A 10 0 from rfl)) (Or.inl wf_RX10_32) (by decide +kernel) (v := some (ax 24 0)) (hS.ptr (show lv A 10 0 from rfl) (by decide) (by decide) rfl) ?_
      refine V.eq (S' := S) (ls' := [some (.ref (ax 10 0)), some (.ref q), none, none]) (st' := [.ref (ax 24 0), .int (nI (c9))]) rfl rfl rfl ?_
      refine V.alen h 24 (hS.mem (show lv A 24 0 from rfl)) (hS.knd (show lv A 24 0 from rfl)) (by decide) (M := 4) (hS.len (show lv A 24 0 from rfl) (by decide)) (by decide +kernel) ?_
      refine V.icmp_lt h (off := 4) (by decide +kernel) (tgt := 20) (by decide) (fun q => ?_) (fun q => ?_)
      · have q16_76 := ((nI_ltI (by omega) (by omega)).mp q)
        clear q
        refine V.blk h [(.aload_n 0, 1)] (by decide +kernel) (pc' := 21) (ls' := [some (.ref (ax 10 0)), some (.ref q), none, none]) (st' := [.ref (ax 10 0)]) rfl rfl (Nat.le_of_ble_eq_true rfl) ?_
        refine V.getP h cls_10 (j := 4) rfl (hS.mem (show lv A 10 0 from rfl)) (hS.knd (show lv A 10 0 from rfl)) (Or.inl wf_RX10_32) (by decide +kernel) (v := some (ax 24 0)) (hS.ptr (show lv A 10 0 from rfl) (by decide) (by decide) rfl) ?_
        refine V.eq (S' := S) (ls' := [some (.ref (ax 10 0)), some (.ref q), none, none]) (st' := [.ref (ax 24 0)]) rfl rfl rfl ?_
        refine V.blk h [(.aload_n 1, 1)] (by decide +kernel) (pc' := 25) (ls' := [some (.ref (ax 10 0)), some (.ref q), none, none]) (st' := [.ref q, .ref (ax 24 0)]) rfl rfl (Nat.le_of_ble_eq_true rfl) ?_
        refine V.getI h cls_4 (j := 2) rfl hq.1 hq.2.1 (Or.inr ⟨_, wf_RX10_200⟩) (by decide +kernel) (v := nI c9) hq.2.2.2.2.1 ?_
        refine V.aald h 24 (hS.mem (show lv A 24 0 from rfl)) (hS.knd (show lv A 24 0 from rfl)) (by decide) rfl (M := 4) (hS.len (show lv A 24 0 from rfl) (by decide)) (i := c9) (by omega) (by show _ < 2 ^ 31; first | omega | decide) (by decide +kernel) (v := some (ax 2 c9)) (hS.ref (show lv A 24 0 from rfl) (by decide) (by show _ < 4; omega)) ?_
        refine V.eq (S' := S) (ls' := [some (.ref (ax 10 0)), some (.ref q), none, none]) (st' := [.ref (ax 2 c9)]) rfl rfl rfl ?_
        refine V.blk h [(.astore_n 2, 1), (.aload_n 1, 1)] (by decide +kernel) (pc' := 31) (ls' := [some (.ref (ax 10 0)), some (.ref q), some (.ref (ax 2 c9)), none]) (st' := [.ref q]) rfl rfl (Nat.le_of_ble_eq_true rfl) ?_
        refine V.getP h cls_4 (j := 3) rfl hq.1 hq.2.1 (Or.inr ⟨_, wf_RX10_292⟩) (by decide +kernel) (v := some (ax 6 op)) hq.2.2.2.2.2.1 ?_
        refine V.eq (S' := S) (ls' := [some (.ref (ax 10 0)), some (.ref q), some (.ref (ax 2 c9)), none]) (st' := [.ref (ax 6 op)]) rfl rfl rfl ?_
        refine V.blk h [(.astore_n 3, 1), (.aload_n 3, 1)] (by decide +kernel) (pc' := 36) (ls' := [some (.ref (ax 10 0)), some (.ref q), some (.ref (ax 2 c9)), some (.ref (ax 6 op))]) (st' := [.ref (ax 6 op)]) rfl rfl (Nat.le_of_ble_eq_true rfl) ?_
        refine V.ifnull h (o := (some (ax 6 op))) (off := 29) (by decide +kernel) (tgt := 65) (by decide) (fun z => by cases z) (fun _ _ => ?_)
        refine V.blk h [(.aload_n 1, 1)] (by decide +kernel) (pc' := 40) (ls' := [some (.ref (ax 10 0)), some (.ref q), some (.ref (ax 2 c9)), some (.ref (ax 6 op))]) (st' := [.ref q]) rfl rfl (Nat.le_of_ble_eq_true rfl) ?_
        refine V.getI h cls_4 (j := 1) rfl hq.1 hq.2.1 (Or.inr ⟨_, wf_RX10_199⟩) (by decide +kernel) (v := nI e) hq.2.2.2.1 ?_
        refine V.blk h [(.aload_n 2, 1)] (by decide +kernel) (pc' := 44) (ls' := [some (.ref (ax 10 0)), some (.ref q), some (.ref (ax 2 c9)), some (.ref (ax 6 op))]) (st' := [.ref (ax 2 c9), .int (nI (e))]) rfl rfl (Nat.le_of_ble_eq_true rfl) ?_
        refine V.getI h cls_2 (j := 0) rfl (hS.mem (show lv A 2 c9 from hc)) (hS.knd (show lv A 2 c9 from hc)) (Or.inr ⟨_, wf_RX10_118⟩) (by decide +kernel) (v := nI (tn A 17 c9)) (hS.int (show lv A 2 c9 from hc) (by decide) (by decide) rfl) ?_
        have nb95 := hB.2 17 c9
        refine V.icmp_ne h (off := 18) (by decide +kernel) (tgt := 65) (by decide) (fun q => ?_) (fun q => ?_)
        · have q47_96 : ¬ _ := (fun z => q ((nI_eq (by omega) (by omega)).mpr z))
          clear q
          exact V.vret h hA hr (hp _ ay (by unfold rclC; rw [if_neg (by intro z; obtain ⟨z1, z2, z3⟩ := z; first | omega | exact absurd z3 q47_96 | exact absurd z1.symm q47_96)]; exact hS)) (by decide +kernel) (Nat.zero_le _) (Nat.zero_le _)
        · have q47_96 := ((nI_eq (by omega) (by omega)).mp q)
          clear q
          refine V.blk h [(.aload_n 3, 1), (.aload_n 2, 1)] (by decide +kernel) (pc' := 52) (ls' := [some (.ref (ax 10 0)), some (.ref q), some (.ref (ax 2 c9)), some (.ref (ax 6 op))]) (st' := [.ref (ax 2 c9), .ref (ax 6 op)]) rfl rfl (Nat.le_of_ble_eq_true rfl) ?_
          refine V.getP h cls_2 (j := 1) rfl (hS.mem (show lv A 2 c9 from hc)) (hS.knd (show lv A 2 c9 from hc)) (Or.inr ⟨_, wf_RX10_103⟩) (by decide +kernel) (v := some (ax 6 (tn A 16 c9 - 1))) ((hS.ptr (show lv A 2 c9 from hc) (by decide) (by decide) rfl).trans (by show opA _ (tn A 16 c9) = _; unfold opA; rw [if_neg hlat0]; rfl)) ?_
          refine V.eq (S' := S) (ls' := [some (.ref (ax 10 0)), some (.ref q), some (.ref (ax 2 c9)), some (.ref (ax 6 op))]) (st' := [.ref (ax 6 (tn A 16 c9 - 1)), .ref (ax 6 op)]) rfl rfl rfl ?_
          refine V.acmp_ne h (rx := some (ax 6 op)) (ry := some (ax 6 (tn A 16 c9 - 1))) (off := 10) (by decide +kernel) (tgt := 65) (by decide) (fun q => ?_) (fun q => ?_)
          · have q55_105 : ¬ _ := (fun z => q ((hS.opeq ho (by have z9 := hS.2.2.2.2.2.1 c9 hc; omega)).mpr z))
            clear q
            exact V.vret h hA hr (hp _ ay (by unfold rclC; rw [if_neg (by intro z; obtain ⟨z1, z2, z3⟩ := z; first | omega | exact absurd z3 q55_105 | exact absurd z1.symm q55_105)]; exact hS)) (by decide +kernel) (Nat.zero_le _) (Nat.zero_le _)
          · have q55_105 := ((hS.opeq ho (by have z9 := hS.2.2.2.2.2.1 c9 hc; omega)).mp q)
            clear q
            refine V.blk h [(.aload_n 3, 1)] (by decide +kernel) (pc' := 59) (ls' := [some (.ref (ax 10 0)), some (.ref q), some (.ref (ax 2 c9)), some (.ref (ax 6 op))]) (st' := [.ref (ax 6 op)]) rfl rfl (Nat.le_of_ble_eq_true rfl) ?_
            refine V.callV h (np := 0) (st := []) (c_isDone hls hS (op := op) (show lv A 6 op from ho) hB (by omega) (hD _) (post := fun v S7 => v = some (.int (bI (decide (tn A 11 op ≠ 0)))) ∧ S = S7) ⟨rfl, rfl⟩) wc_X6_isDone wn_RX6 (Or.inr ⟨_, wm_RX10_267⟩) wi_X6_isDone we_X6_isDone (by decide +kernel) rfl cls_6 (hS.mem (show lv A 6 op from ho)) (hS.knd (show lv A 6 op from ho)) (Nat.le_of_ble_eq_true rfl) (Nat.le_of_ble_eq_true rfl) (Nat.zero_le _) (Nat.zero_le _) (by simp [Value.category]) (by decide +kernel) rfl (fun v Z1 q9 => ?_)
            obtain ⟨rfl, hS9⟩ := q9
            subst hS9
            refine V.eq (S' := S) (ls' := [some (.ref (ax 10 0)), some (.ref q), some (.ref (ax 2 c9)), some (.ref (ax 6 op))]) (st' := [.int (bI (decide (tn A 11 op ≠ 0)))]) rfl rfl rfl ?_
            refine V.if_eq h (off := 4) (by decide +kernel) (tgt := 66) (by decide) (fun q => ?_) (fun q => ?_)
            · have q62_116 := (Decidable.of_not_not (of_decide_eq_false (bI_0.mp q)))
              clear q
              refine V.blk h [(.aload_n 1, 1)] (by decide +kernel) (pc' := 67) (ls' := [some (.ref (ax 10 0)), some (.ref q), some (.ref (ax 2 c9)), some (.ref (ax 6 op))]) (st' := [.ref q]) rfl rfl (Nat.le_of_ble_eq_true rfl) ?_
              refine V.getI h cls_4 (j := 0) rfl hq.1 hq.2.1 (Or.inr ⟨_, wf_RX10_126⟩) (by decide +kernel) (v := nI 3) hq.2.2.1 ?_
              refine V.blk h [(.iconst 4, 1)] (by decide +kernel) (pc' := 71) (ls' := [some (.ref (ax 10 0)), some (.ref q), some (.ref (ax 2 c9)), some (.ref (ax 6 op))]) (st' := [.int (nI (4)), .int (nI (3))]) rfl rfl (Nat.le_of_ble_eq_true rfl) ?_
              refine V.icmp_ne h (off := 22) (by decide +kernel) (tgt := 93) (by decide) (fun q => ?_) (fun q => ?_)
              · have q71_122 : ¬ _ := (fun z => q ((nI_eq (by omega) (by omega)).mpr z))
                clear q
                refine V.blk h [(.aload_n 1, 1)] (by decide +kernel) (pc' := 94) (ls' := [some (.ref (ax 10 0)), some (.ref q), some (.ref (ax 2 c9)), some (.ref (ax 6 op))]) (st' := [.ref q]) rfl rfl (Nat.le_of_ble_eq_true rfl) ?_
                refine V.getI h cls_4 (j := 0) rfl hq.1 hq.2.1 (Or.inr ⟨_, wf_RX10_126⟩) (by decide +kernel) (v := nI 3) hq.2.2.1 ?_
                refine V.blk h [(.iconst 3, 1)] (by decide +kernel) (pc' := 98) (ls' := [some (.ref (ax 10 0)), some (.ref q), some (.ref (ax 2 c9)), some (.ref (ax 6 op))]) (st' := [.int (nI (3)), .int (nI (3))]) rfl rfl (Nat.le_of_ble_eq_true rfl) ?_
                refine V.icmp_ne h (off := 27) (by decide +kernel) (tgt := 125) (by decide) (fun q => ?_) (fun q => ?_)
                · have q98_128 : ¬ _ := (fun z => q ((nI_eq (by omega) (by omega)).mpr z))
                  clear q
                  exact absurd rfl q98_128
                · have q98_128 := ((nI_eq (by omega) (by omega)).mp q)
                  clear q
                  refine V.blk h [(.aload_n 2, 1), (.dup, 1)] (by decide +kernel) (pc' := 103) (ls' := [some (.ref (ax 10 0)), some (.ref q), some (.ref (ax 2 c9)), some (.ref (ax 6 op))]) (st' := [.ref (ax 2 c9), .ref (ax 2 c9)]) rfl rfl (Nat.le_of_ble_eq_true rfl) ?_
                  refine V.getI h cls_2 (j := 2) rfl (hS.mem (show lv A 2 c9 from hc)) (hS.knd (show lv A 2 c9 from hc)) (Or.inr ⟨_, wf_RX10_211⟩) (by decide +kernel) (v := nI (tn A 18 c9)) (hS.int (show lv A 2 c9 from hc) (by decide) (by decide) rfl) ?_
                  have nb136 := hB.2 18 c9
                  refine V.blk h [(.iconst 1, 1), (.aload_n 1, 1)] (by decide +kernel) (pc' := 108) (ls' := [some (.ref (ax 10 0)), some (.ref q), some (.ref (ax 2 c9)), some (.ref (ax 6 op))]) (st' := [.ref q, .int (nI (1)), .int (nI (tn A 18 c9)), .ref (ax 2 c9)]) rfl rfl (Nat.le_of_ble_eq_true rfl) ?_
                  refine V.getI h cls_4 (j := 5) rfl hq.1 hq.2.1 (Or.inr ⟨_, wf_RX10_286⟩) (by decide +kernel) (v := nI w) hq.2.2.2.2.2.2.2.1 ?_
                  refine V.shl1 h (v := nI (2 ^ w)) (shl1 (by omega)) (by decide +kernel) ?_
                  refine V.orN h (v := nI ((tn A 18 c9) ||| (2 ^ w))) (nI_or _ _) (by decide +kernel) (Nat.le_of_ble_eq_true rfl) ?_
                  refine V.putI h cls_2 (j := 2) rfl (hS.mem (show lv A 2 c9 from hc)) (hS.knd (show lv A 2 c9 from hc)) (Or.inr ⟨_, wf_RX10_211⟩) rfl rfl rfl (by decide +kernel) ?_
                  refine V.gen (P := fun S9 => RA tc (mx ax ay) (sn A 18 c9 ((tn A 18 c9) ||| (2 ^ w))) S9) (hS.p_2_2 (i := c9) (v := ((tn A 18 c9) ||| (2 ^ w))) (show lv A 2 c9 from hc)) (fun S2 hS2 => ?_)
                  refine V.blk h [(.aload_n 0, 1), (.aload_n 2, 1), (.aload_n 3, 1)] (by decide +kernel) (pc' := 119) (ls' := [some (.ref (ax 10 0)), some (.ref q), some (.ref (ax 2 c9)), some (.ref (ax 6 op))]) (st' := [.ref (ax 6 op), .ref (ax 2 c9), .ref (ax 10 0)]) rfl rfl (Nat.le_of_ble_eq_true rfl) ?_
                  refine V.callV h (np := 2) (st := []) (c_finishIfAccepted hls hS2 (c9 := c9) (op := op) hc (show op < tf A 13 from ho) h18n nbn (by omega) (by omega) (post := fun v S9 => v = none ∧ RA tc (mx ax ay) (fiaC (sn A 18 c9 ((tn A 18 c9) ||| (2 ^ w))) c9 op) S9) (fun S9 h9 => ⟨rfl, h9⟩)) wc_X10_finishIfAccepted wn_RX10 (Or.inl wm_RX10_327) wi_X10_finishIfAccepted we_X10_finishIfAccepted (by decide +kernel) rfl cls_10 (hS2.mem (show lv (sn A 18 c9 ((tn A 18 c9) ||| (2 ^ w))) 10 0 from rfl)) (hS2.knd (show lv (sn A 18 c9 ((tn A 18 c9) ||| (2 ^ w))) 10 0 from rfl)) (Nat.le_of_ble_eq_true rfl) (Nat.le_of_ble_eq_true rfl) (Nat.zero_le _) (Nat.zero_le _) (by simp [Value.category]) (by decide +kernel) rfl (fun v Z3 q9 => ?_)
                  obtain ⟨rfl, hq9⟩ := q9
                  refine V.gen (P := fun S9 => RA tc (mx ax ay) (fiaC (sn A 18 c9 ((tn A 18 c9) ||| (2 ^ w))) c9 op) S9) hq9 (fun S4 hS4 => ?_)
                  clear hq9
                  refine V.goto h (off := 10) (tgt := 132) (by decide +kernel) (by decide) ?_
                  exact V.vret h hA hr (hp _ ay (by unfold rclC; rw [if_pos ⟨by omega, by omega, by first | assumption | omega⟩, if_neg (by decide), if_pos rfl]; exact hS4)) (by decide +kernel) (Nat.zero_le _) (Nat.zero_le _)
              · have q71_122 := ((nI_eq (by omega) (by omega)).mp q)
                clear q
                exact absurd q71_122 (by decide)
            · have q62_116 := (of_decide_eq_true (bI_1 (fun z => q (bI_0.mpr z))))
              clear q
              exact V.vret h hA hr (hp _ ay (by unfold rclC; rw [if_neg (by intro z; obtain ⟨z1, z2, z3⟩ := z; first | omega | exact absurd z3 q62_116 | exact absurd z1.symm q62_116)]; exact hS)) (by decide +kernel) (Nat.zero_le _) (Nat.zero_le _)
      · have q16_76 : ¬ _ := (fun z => q ((nI_ltI (by omega) (by omega)).mpr z))
        clear q
        omega
set_option maxRecDepth 100000 in
set_option maxHeartbeats 4000000 in
theorem c_rClient2 {l : Launch} {D : va_G} {tc : Nat → ClassId} {ax ay : Nat → Nat → Nat} {A : TS} {S : HS} (hls : l.stackTraces = false) (hS : RA tc (mx ax ay) A S) {q : Nat} {e : Nat} {c9 : Nat} {op : Nat} {n : Nat} {sa : Bool} {K : Nat} {x : Int32}  (hq : LT S q 2 e c9 (opA (mx ax ay) (op + 1)) n x sa) (hc : c9 < 4) (ho : op < tf A 13) (hD : ∀ i, tn A 11 i ≠ 1) (h18 : tn A 18 c9 < 2 ^ tf A 1) (heK : e ≤ K) (hB : NB K A) (hK : K < 1700000000) (h9 : 700 ≤ K) {post : Option Value → HS → Prop} (hp : ∀ (S8 : HS) (ay8 : Nat → Nat → Nat), RA tc (mx ax ay8) (rclC A 2 e c9 op 0 x sa) S8 → post none S8) : CM l D tc yX10_readAtClient cX10_readAtClient 4 (none) 3 0 0 [.ref (ax 10 0), .ref q] S post := by
  refine CM.of hls (by decide +kernel) (by simp [Value.category]) (Nat.le_of_ble_eq_true rfl) (fun A0 p e9 s m args below meth c sz h hr hnm hA => ?_)
  have hf3 := hS.2.2.1.2.1
  have h5 := hS.2.2.2.1.1
  refine V.eqL (ls' := [some (.ref (ax 10 0)), some (.ref q), none, none]) rfl ?_
  by_cases hlat0 : tn A 16 c9 = 0
  · skip
    refine V.blk h [(.aload_n 1, 1)] (by decide +kernel) (pc' := 1) (ls' := [some (.ref (ax 10 0)), some (.ref q), none, none]) (st' := [.ref q]) rfl rfl (Nat.le_of_ble_eq_true rfl) ?_
    refine V.getI h cls_4 (j := 2) rfl hq.1 hq.2.1 (Or.inr ⟨_, wf_RX10_200⟩) (by decide +kernel) (v := nI c9) hq.2.2.2.2.1 ?_
    refine V.if_lt h (off := 15) (by decide +kernel) (tgt := 19) (by decide) (fun q => ?_) (fun q => ?_)
    · have q4_7 := ((nI_z_lt (by omega)).mp q)
      clear q
      exact absurd q4_7 id
    · have q4_7 : ¬ _ := (fun z => q ((nI_z_lt (by omega)).mpr z))
      clear q
      refine V.blk h [(.aload_n 1, 1)] (by decide +kernel) (pc' := 8) (ls' := [some (.ref (ax 10 0)), some (.ref q), none, none]) (st' := [.ref q]) rfl rfl (Nat.le_of_ble_eq_true rfl) ?_
      refine V.getI h cls_4 (j := 2) rfl hq.1 hq.2.1 (Or.inr ⟨_, wf_RX10_200⟩) (by decide +kernel) (v := nI c9) hq.2.2.2.2.1 ?_
      refine V.blk h [(.aload_n 0, 1)] (by decide +kernel) (pc' := 12) (ls' := [some (.ref (ax 10 0)), some (.ref q), none, none]) (st' := [.ref (ax 10 0), .int (nI (c9))]) rfl rfl (Nat.le_of_ble_eq_true rfl) ?_
      refine V.getP h cls_10 (j := 4) rfl (hS.mem (show lv A 10 0 from rfl)) (hS.knd (show lv A 10 0 from rfl)) (Or.inl wf_RX10_32) (by decide +kernel) (v := some (ax 24 0)) (hS.ptr (show lv A 10 0 from rfl) (by decide) (by decide) rfl) ?_
      refine V.eq (S' := S) (ls' := [some (.ref (ax 10 0)), some (.ref q), none, none]) (st' := [.ref (ax 24 0), .int (nI (c9))]) rfl rfl rfl ?_
      refine V.alen h 24 (hS.mem (show lv A 24 0 from rfl)) (hS.knd (show lv A 24 0 from rfl)) (by decide) (M := 4) (hS.len (show lv A 24 0 from rfl) (by decide)) (by decide +kernel) ?_
      refine V.icmp_lt h (off := 4) (by decide +kernel) (tgt := 20) (by decide) (fun q => ?_) (fun q => ?_)
      · have q16_19 := ((nI_ltI (by omega) (by omega)).mp q)
        clear q
        refine V.blk h [(.aload_n 0, 1)] (by decide +kernel) (pc' := 21) (ls' := [some (.ref (ax 10 0)), some (.ref q), none, none]) (st' := [.ref (ax 10 0)]) rfl rfl (Nat.le_of_ble_eq_true rfl) ?_
        refine V.getP h cls_10 (j := 4) rfl (hS.mem (show lv A 10 0 from rfl)) (hS.knd (show lv A 10 0 from rfl)) (Or.inl wf_RX10_32) (by decide +kernel) (v := some (ax 24 0)) (hS.ptr (show lv A 10 0 from rfl) (by decide) (by decide) rfl) ?_
        refine V.eq (S' := S) (ls' := [some (.ref (ax 10 0)), some (.ref q), none, none]) (st' := [.ref (ax 24 0)]) rfl rfl rfl ?_
        refine V.blk h [(.aload_n 1, 1)] (by decide +kernel) (pc' := 25) (ls' := [some (.ref (ax 10 0)), some (.ref q), none, none]) (st' := [.ref q, .ref (ax 24 0)]) rfl rfl (Nat.le_of_ble_eq_true rfl) ?_
        refine V.getI h cls_4 (j := 2) rfl hq.1 hq.2.1 (Or.inr ⟨_, wf_RX10_200⟩) (by decide +kernel) (v := nI c9) hq.2.2.2.2.1 ?_
        refine V.aald h 24 (hS.mem (show lv A 24 0 from rfl)) (hS.knd (show lv A 24 0 from rfl)) (by decide) rfl (M := 4) (hS.len (show lv A 24 0 from rfl) (by decide)) (i := c9) (by omega) (by show _ < 2 ^ 31; first | omega | decide) (by decide +kernel) (v := some (ax 2 c9)) (hS.ref (show lv A 24 0 from rfl) (by decide) (by show _ < 4; omega)) ?_
        refine V.eq (S' := S) (ls' := [some (.ref (ax 10 0)), some (.ref q), none, none]) (st' := [.ref (ax 2 c9)]) rfl rfl rfl ?_
        refine V.blk h [(.astore_n 2, 1), (.aload_n 1, 1)] (by decide +kernel) (pc' := 31) (ls' := [some (.ref (ax 10 0)), some (.ref q), some (.ref (ax 2 c9)), none]) (st' := [.ref q]) rfl rfl (Nat.le_of_ble_eq_true rfl) ?_
        refine V.getP h cls_4 (j := 3) rfl hq.1 hq.2.1 (Or.inr ⟨_, wf_RX10_292⟩) (by decide +kernel) (v := some (ax 6 op)) hq.2.2.2.2.2.1 ?_
        refine V.eq (S' := S) (ls' := [some (.ref (ax 10 0)), some (.ref q), some (.ref (ax 2 c9)), none]) (st' := [.ref (ax 6 op)]) rfl rfl rfl ?_
        refine V.blk h [(.astore_n 3, 1), (.aload_n 3, 1)] (by decide +kernel) (pc' := 36) (ls' := [some (.ref (ax 10 0)), some (.ref q), some (.ref (ax 2 c9)), some (.ref (ax 6 op))]) (st' := [.ref (ax 6 op)]) rfl rfl (Nat.le_of_ble_eq_true rfl) ?_
        refine V.ifnull h (o := (some (ax 6 op))) (off := 29) (by decide +kernel) (tgt := 65) (by decide) (fun z => by cases z) (fun _ _ => ?_)
        refine V.blk h [(.aload_n 1, 1)] (by decide +kernel) (pc' := 40) (ls' := [some (.ref (ax 10 0)), some (.ref q), some (.ref (ax 2 c9)), some (.ref (ax 6 op))]) (st' := [.ref q]) rfl rfl (Nat.le_of_ble_eq_true rfl) ?_
        refine V.getI h cls_4 (j := 1) rfl hq.1 hq.2.1 (Or.inr ⟨_, wf_RX10_199⟩) (by decide +kernel) (v := nI e) hq.2.2.2.1 ?_
        refine V.blk h [(.aload_n 2, 1)] (by decide +kernel) (pc' := 44) (ls' := [some (.ref (ax 10 0)), some (.ref q), some (.ref (ax 2 c9)), some (.ref (ax 6 op))]) (st' := [.ref (ax 2 c9), .int (nI (e))]) rfl rfl (Nat.le_of_ble_eq_true rfl) ?_
        refine V.getI h cls_2 (j := 0) rfl (hS.mem (show lv A 2 c9 from hc)) (hS.knd (show lv A 2 c9 from hc)) (Or.inr ⟨_, wf_RX10_118⟩) (by decide +kernel) (v := nI (tn A 17 c9)) (hS.int (show lv A 2 c9 from hc) (by decide) (by decide) rfl) ?_
        have nb38 := hB.2 17 c9
        refine V.icmp_ne h (off := 18) (by decide +kernel) (tgt := 65) (by decide) (fun q => ?_) (fun q => ?_)
        · have q47_39 : ¬ _ := (fun z => q ((nI_eq (by omega) (by omega)).mpr z))
          clear q
          exact V.vret h hA hr (hp _ ay (by unfold rclC; rw [if_neg (by intro z; obtain ⟨z1, z2, z3⟩ := z; first | omega | exact absurd z3 q47_39 | exact absurd z1.symm q47_39)]; exact hS)) (by decide +kernel) (Nat.zero_le _) (Nat.zero_le _)
        · have q47_39 := ((nI_eq (by omega) (by omega)).mp q)
          clear q
          refine V.blk h [(.aload_n 3, 1), (.aload_n 2, 1)] (by decide +kernel) (pc' := 52) (ls' := [some (.ref (ax 10 0)), some (.ref q), some (.ref (ax 2 c9)), some (.ref (ax 6 op))]) (st' := [.ref (ax 2 c9), .ref (ax 6 op)]) rfl rfl (Nat.le_of_ble_eq_true rfl) ?_
          refine V.getP h cls_2 (j := 1) rfl (hS.mem (show lv A 2 c9 from hc)) (hS.knd (show lv A 2 c9 from hc)) (Or.inr ⟨_, wf_RX10_103⟩) (by decide +kernel) (v := none) ((hS.ptr (show lv A 2 c9 from hc) (by decide) (by decide) rfl).trans (by show opA _ (tn A 16 c9) = none; rw [hlat0]; rfl)) ?_
          refine V.eq (S' := S) (ls' := [some (.ref (ax 10 0)), some (.ref q), some (.ref (ax 2 c9)), some (.ref (ax 6 op))]) (st' := [.null, .ref (ax 6 op)]) rfl rfl rfl ?_
          refine V.acmp_ne h (rx := some (ax 6 op)) (ry := none) (off := 10) (by decide +kernel) (tgt := 65) (by decide) (fun q => ?_) (fun q => ?_)
          · have q55_48 : ¬ _ := (fun z => q (((⟨(fun z => by cases z), (fun z => z.elim)⟩ : (some (ax 6 op) = (none : Option Nat)) ↔ False)).mpr z))
            clear q
            exact V.vret h hA hr (hp _ ay (by unfold rclC; rw [if_neg (by intro z; obtain ⟨z1, z2, z3⟩ := z; first | omega | exact absurd z3 q55_48 | exact absurd z1.symm q55_48)]; exact hS)) (by decide +kernel) (Nat.zero_le _) (Nat.zero_le _)
          · have q55_48 := (((⟨(fun z => by cases z), (fun z => z.elim)⟩ : (some (ax 6 op) = (none : Option Nat)) ↔ False)).mp q)
            clear q
            exact absurd q55_48 id
      · have q16_19 : ¬ _ := (fun z => q ((nI_ltI (by omega) (by omega)).mpr z))
        clear q
        omega
  · skip
    refine V.blk h [(.aload_n 1, 1)] (by decide +kernel) (pc' := 1) (ls' := [some (.ref (ax 10 0)), some (.ref q), none, none]) (st' := [.ref q]) rfl rfl (Nat.le_of_ble_eq_true rfl) ?_
    refine V.getI h cls_4 (j := 2) rfl hq.1 hq.2.1 (Or.inr ⟨_, wf_RX10_200⟩) (by decide +kernel) (v := nI c9) hq.2.2.2.2.1 ?_
    refine V.if_lt h (off := 15) (by decide +kernel) (tgt := 19) (by decide) (fun q => ?_) (fun q => ?_)
    · have q4_61 := ((nI_z_lt (by omega)).mp q)
      clear q
      exact absurd q4_61 id
    · have q4_61 : ¬ _ := (fun z => q ((nI_z_lt (by omega)).mpr z))
      clear q
      refine V.blk h [(.aload_n 1, 1)] (by decide +kernel) (pc' := 8) (ls' := [some (.ref (ax 10 0)), some (.ref q), none, none]) (st' := [.ref q]) rfl rfl (Nat.le_of_ble_eq_true rfl) ?_
      refine V.getI h cls_4 (j := 2) rfl hq.1 hq.2.1 (Or.inr ⟨_, wf_RX10_200⟩) (by decide +kernel) (v := nI c9) hq.2.2.2.2.1 ?_
      refine V.blk h [(.aload_n 0, 1)] (by decide +kernel) (pc' := 12) (ls' := [some (.ref (ax 10 0)), some (.ref q), none, none]) (st' := [.ref (ax 10 0), .int (nI (c9))]) rfl rfl (Nat.le_of_ble_eq_true rfl) ?_
      refine V.getP h cls_10 (j := 4) rfl (hS.mem (show lv A 10 0 from rfl)) (hS.knd (show lv A 10 0 from rfl)) (Or.inl wf_RX10_32) (by decide +kernel) (v := some (ax 24 0)) (hS.ptr (show lv A 10 0 from rfl) (by decide) (by decide) rfl) ?_
      refine V.eq (S' := S) (ls' := [some (.ref (ax 10 0)), some (.ref q), none, none]) (st' := [.ref (ax 24 0), .int (nI (c9))]) rfl rfl rfl ?_
      refine V.alen h 24 (hS.mem (show lv A 24 0 from rfl)) (hS.knd (show lv A 24 0 from rfl)) (by decide) (M := 4) (hS.len (show lv A 24 0 from rfl) (by decide)) (by decide +kernel) ?_
      refine V.icmp_lt h (off := 4) (by decide +kernel) (tgt := 20) (by decide) (fun q => ?_) (fun q => ?_)
      · have q16_73 := ((nI_ltI (by omega) (by omega)).mp q)
        clear q
        refine V.blk h [(.aload_n 0, 1)] (by decide +kernel) (pc' := 21) (ls' := [some (.ref (ax 10 0)), some (.ref q), none, none]) (st' := [.ref (ax 10 0)]) rfl rfl (Nat.le_of_ble_eq_true rfl) ?_
        refine V.getP h cls_10 (j := 4) rfl (hS.mem (show lv A 10 0 from rfl)) (hS.knd (show lv A 10 0 from rfl)) (Or.inl wf_RX10_32) (by decide +kernel) (v := some (ax 24 0)) (hS.ptr (show lv A 10 0 from rfl) (by decide) (by decide) rfl) ?_
        refine V.eq (S' := S) (ls' := [some (.ref (ax 10 0)), some (.ref q), none, none]) (st' := [.ref (ax 24 0)]) rfl rfl rfl ?_
        refine V.blk h [(.aload_n 1, 1)] (by decide +kernel) (pc' := 25) (ls' := [some (.ref (ax 10 0)), some (.ref q), none, none]) (st' := [.ref q, .ref (ax 24 0)]) rfl rfl (Nat.le_of_ble_eq_true rfl) ?_
        refine V.getI h cls_4 (j := 2) rfl hq.1 hq.2.1 (Or.inr ⟨_, wf_RX10_200⟩) (by decide +kernel) (v := nI c9) hq.2.2.2.2.1 ?_
        refine V.aald h 24 (hS.mem (show lv A 24 0 from rfl)) (hS.knd (show lv A 24 0 from rfl)) (by decide) rfl (M := 4) (hS.len (show lv A 24 0 from rfl) (by decide)) (i := c9) (by omega) (by show _ < 2 ^ 31; first | omega | decide) (by decide +kernel) (v := some (ax 2 c9)) (hS.ref (show lv A 24 0 from rfl) (by decide) (by show _ < 4; omega)) ?_
        refine V.eq (S' := S) (ls' := [some (.ref (ax 10 0)), some (.ref q), none, none]) (st' := [.ref (ax 2 c9)]) rfl rfl rfl ?_
        refine V.blk h [(.astore_n 2, 1), (.aload_n 1, 1)] (by decide +kernel) (pc' := 31) (ls' := [some (.ref (ax 10 0)), some (.ref q), some (.ref (ax 2 c9)), none]) (st' := [.ref q]) rfl rfl (Nat.le_of_ble_eq_true rfl) ?_
        refine V.getP h cls_4 (j := 3) rfl hq.1 hq.2.1 (Or.inr ⟨_, wf_RX10_292⟩) (by decide +kernel) (v := some (ax 6 op)) hq.2.2.2.2.2.1 ?_
        refine V.eq (S' := S) (ls' := [some (.ref (ax 10 0)), some (.ref q), some (.ref (ax 2 c9)), none]) (st' := [.ref (ax 6 op)]) rfl rfl rfl ?_
        refine V.blk h [(.astore_n 3, 1), (.aload_n 3, 1)] (by decide +kernel) (pc' := 36) (ls' := [some (.ref (ax 10 0)), some (.ref q), some (.ref (ax 2 c9)), some (.ref (ax 6 op))]) (st' := [.ref (ax 6 op)]) rfl rfl (Nat.le_of_ble_eq_true rfl) ?_
        refine V.ifnull h (o := (some (ax 6 op))) (off := 29) (by decide +kernel) (tgt := 65) (by decide) (fun z => by cases z) (fun _ _ => ?_)
        refine V.blk h [(.aload_n 1, 1)] (by decide +kernel) (pc' := 40) (ls' := [some (.ref (ax 10 0)), some (.ref q), some (.ref (ax 2 c9)), some (.ref (ax 6 op))]) (st' := [.ref q]) rfl rfl (Nat.le_of_ble_eq_true rfl) ?_
        refine V.getI h cls_4 (j := 1) rfl hq.1 hq.2.1 (Or.inr ⟨_, wf_RX10_199⟩) (by decide +kernel) (v := nI e) hq.2.2.2.1 ?_
        refine V.blk h [(.aload_n 2, 1)] (by decide +kernel) (pc' := 44) (ls' := [some (.ref (ax 10 0)), some (.ref q), some (.ref (ax 2 c9)), some (.ref (ax 6 op))]) (st' := [.ref (ax 2 c9), .int (nI (e))]) rfl rfl (Nat.le_of_ble_eq_true rfl) ?_
        refine V.getI h cls_2 (j := 0) rfl (hS.mem (show lv A 2 c9 from hc)) (hS.knd (show lv A 2 c9 from hc)) (Or.inr ⟨_, wf_RX10_118⟩) (by decide +kernel) (v := nI (tn A 17 c9)) (hS.int (show lv A 2 c9 from hc) (by decide) (by decide) rfl) ?_
        have nb92 := hB.2 17 c9
        refine V.icmp_ne h (off := 18) (by decide +kernel) (tgt := 65) (by decide) (fun q => ?_) (fun q => ?_)
        · have q47_93 : ¬ _ := (fun z => q ((nI_eq (by omega) (by omega)).mpr z))
          clear q
          exact V.vret h hA hr (hp _ ay (by unfold rclC; rw [if_neg (by intro z; obtain ⟨z1, z2, z3⟩ := z; first | omega | exact absurd z3 q47_93 | exact absurd z1.symm q47_93)]; exact hS)) (by decide +kernel) (Nat.zero_le _) (Nat.zero_le _)
        · have q47_93 := ((nI_eq (by omega) (by omega)).mp q)
          clear q
          refine V.blk h [(.aload_n 3, 1), (.aload_n 2, 1)] (by decide +kernel) (pc' := 52) (ls' := [some (.ref (ax 10 0)), some (.ref q), some (.ref (ax 2 c9)), some (.ref (ax 6 op))]) (st' := [.ref (ax 2 c9), .ref (ax 6 op)]) rfl rfl (Nat.le_of_ble_eq_true rfl) ?_
          refine V.getP h cls_2 (j := 1) rfl (hS.mem (show lv A 2 c9 from hc)) (hS.knd (show lv A 2 c9 from hc)) (Or.inr ⟨_, wf_RX10_103⟩) (by decide +kernel) (v := some (ax 6 (tn A 16 c9 - 1))) ((hS.ptr (show lv A 2 c9 from hc) (by decide) (by decide) rfl).trans (by show opA _ (tn A 16 c9) = _; unfold opA; rw [if_neg hlat0]; rfl)) ?_
          refine V.eq (S' := S) (ls' := [some (.ref (ax 10 0)), some (.ref q), some (.ref (ax 2 c9)), some (.ref (ax 6 op))]) (st' := [.ref (ax 6 (tn A 16 c9 - 1)), .ref (ax 6 op)]) rfl rfl rfl ?_
          refine V.acmp_ne h (rx := some (ax 6 op)) (ry := some (ax 6 (tn A 16 c9 - 1))) (off := 10) (by decide +kernel) (tgt := 65) (by decide) (fun q => ?_) (fun q => ?_)
          · have q55_102 : ¬ _ := (fun z => q ((hS.opeq ho (by have z9 := hS.2.2.2.2.2.1 c9 hc; omega)).mpr z))
            clear q
            exact V.vret h hA hr (hp _ ay (by unfold rclC; rw [if_neg (by intro z; obtain ⟨z1, z2, z3⟩ := z; first | omega | exact absurd z3 q55_102 | exact absurd z1.symm q55_102)]; exact hS)) (by decide +kernel) (Nat.zero_le _) (Nat.zero_le _)
          · have q55_102 := ((hS.opeq ho (by have z9 := hS.2.2.2.2.2.1 c9 hc; omega)).mp q)
            clear q
            refine V.blk h [(.aload_n 3, 1)] (by decide +kernel) (pc' := 59) (ls' := [some (.ref (ax 10 0)), some (.ref q), some (.ref (ax 2 c9)), some (.ref (ax 6 op))]) (st' := [.ref (ax 6 op)]) rfl rfl (Nat.le_of_ble_eq_true rfl) ?_
            refine V.callV h (np := 0) (st := []) (c_isDone hls hS (op := op) (show lv A 6 op from ho) hB (by omega) (hD _) (post := fun v S7 => v = some (.int (bI (decide (tn A 11 op ≠ 0)))) ∧ S = S7) ⟨rfl, rfl⟩) wc_X6_isDone wn_RX6 (Or.inr ⟨_, wm_RX10_267⟩) wi_X6_isDone we_X6_isDone (by decide +kernel) rfl cls_6 (hS.mem (show lv A 6 op from ho)) (hS.knd (show lv A 6 op from ho)) (Nat.le_of_ble_eq_true rfl) (Nat.le_of_ble_eq_true rfl) (Nat.zero_le _) (Nat.zero_le _) (by simp [Value.category]) (by decide +kernel) rfl (fun v Z1 q9 => ?_)
            obtain ⟨rfl, hS9⟩ := q9
            subst hS9
            refine V.eq (S' := S) (ls' := [some (.ref (ax 10 0)), some (.ref q), some (.ref (ax 2 c9)), some (.ref (ax 6 op))]) (st' := [.int (bI (decide (tn A 11 op ≠ 0)))]) rfl rfl rfl ?_
            refine V.if_eq h (off := 4) (by decide +kernel) (tgt := 66) (by decide) (fun q => ?_) (fun q => ?_)
            · have q62_113 := (Decidable.of_not_not (of_decide_eq_false (bI_0.mp q)))
              clear q
              refine V.blk h [(.aload_n 1, 1)] (by decide +kernel) (pc' := 67) (ls' := [some (.ref (ax 10 0)), some (.ref q), some (.ref (ax 2 c9)), some (.ref (ax 6 op))]) (st' := [.ref q]) rfl rfl (Nat.le_of_ble_eq_true rfl) ?_
              refine V.getI h cls_4 (j := 0) rfl hq.1 hq.2.1 (Or.inr ⟨_, wf_RX10_126⟩) (by decide +kernel) (v := nI 2) hq.2.2.1 ?_
              refine V.blk h [(.iconst 4, 1)] (by decide +kernel) (pc' := 71) (ls' := [some (.ref (ax 10 0)), some (.ref q), some (.ref (ax 2 c9)), some (.ref (ax 6 op))]) (st' := [.int (nI (4)), .int (nI (2))]) rfl rfl (Nat.le_of_ble_eq_true rfl) ?_
              refine V.icmp_ne h (off := 22) (by decide +kernel) (tgt := 93) (by decide) (fun q => ?_) (fun q => ?_)
              · have q71_119 : ¬ _ := (fun z => q ((nI_eq (by omega) (by omega)).mpr z))
                clear q
                refine V.blk h [(.aload_n 1, 1)] (by decide +kernel) (pc' := 94) (ls' := [some (.ref (ax 10 0)), some (.ref q), some (.ref (ax 2 c9)), some (.ref (ax 6 op))]) (st' := [.ref q]) rfl rfl (Nat.le_of_ble_eq_true rfl) ?_
                refine V.getI h cls_4 (j := 0) rfl hq.1 hq.2.1 (Or.inr ⟨_, wf_RX10_126⟩) (by decide +kernel) (v := nI 2) hq.2.2.1 ?_
                refine V.blk h [(.iconst 3, 1)] (by decide +kernel) (pc' := 98) (ls' := [some (.ref (ax 10 0)), some (.ref q), some (.ref (ax 2 c9)), some (.ref (ax 6 op))]) (st' := [.int (nI (3)), .int (nI (2))]) rfl rfl (Nat.le_of_ble_eq_true rfl) ?_
                refine V.icmp_ne h (off := 27) (by decide +kernel) (tgt := 125) (by decide) (fun q => ?_) (fun q => ?_)
                · have q98_125 : ¬ _ := (fun z => q ((nI_eq (by omega) (by omega)).mpr z))
                  clear q
                  refine V.blk h [(.aload_n 0, 1), (.aload_n 2, 1), (.aload_n 3, 1), (.aload_n 1, 1)] (by decide +kernel) (pc' := 129) (ls' := [some (.ref (ax 10 0)), some (.ref q), some (.ref (ax 2 c9)), some (.ref (ax 6 op))]) (st' := [.ref q, .ref (ax 6 op), .ref (ax 2 c9), .ref (ax 10 0)]) rfl rfl (Nat.le_of_ble_eq_true rfl) ?_
                  refine V.callV h (np := 3) (st := []) (c_readAnswer hls hS (c9 := c9) (op := op) (q := q) (e := e) (n := n) (x := x) (sa := sa) hc ho hq h18 hB (by omega) (by omega) (post := fun v S9 => v = none ∧ RA tc (mx ax ay) (ranC A c9 op x sa) S9) (fun S9 h9 => ⟨rfl, h9⟩)) wc_X10_readAnswer wn_RX10 (Or.inl wm_RX10_330) wi_X10_readAnswer we_X10_readAnswer (by decide +kernel) rfl cls_10 (hS.mem (show lv A 10 0 from rfl)) (hS.knd (show lv A 10 0 from rfl)) (Nat.le_of_ble_eq_true rfl) (Nat.le_of_ble_eq_true rfl) (Nat.zero_le _) (Nat.zero_le _) (by simp [Value.category]) (by decide +kernel) rfl (fun v Z2 q9 => ?_)
                  obtain ⟨rfl, hq9⟩ := q9
                  refine V.gen (P := fun S9 => RA tc (mx ax ay) (ranC A c9 op x sa) S9) hq9 (fun S3 hS3 => ?_)
                  clear hq9
                  exact V.vret h hA hr (hp _ ay (by unfold rclC; rw [if_pos ⟨by omega, by omega, by first | assumption | omega⟩, if_neg (by decide), if_neg (by decide)]; exact hS3)) (by decide +kernel) (Nat.zero_le _) (Nat.zero_le _)
                · have q98_125 := ((nI_eq (by omega) (by omega)).mp q)
                  clear q
                  exact absurd q98_125 (by decide)
              · have q71_119 := ((nI_eq (by omega) (by omega)).mp q)
                clear q
                exact absurd q71_119 (by decide)
            · have q62_113 := (of_decide_eq_true (bI_1 (fun z => q (bI_0.mpr z))))
              clear q
              exact V.vret h hA hr (hp _ ay (by unfold rclC; rw [if_neg (by intro z; obtain ⟨z1, z2, z3⟩ := z; first | omega | exact absurd z3 q62_113 | exact absurd z1.symm q62_113)]; exact hS)) (by decide +kernel) (Nat.zero_le _) (Nat.zero_le _)
      · have q16_73 : ¬ _ := (fun z => q ((nI_ltI (by omega) (by omega)).mpr z))
        clear q
        omega
