/-! ===== the row of letters ===== -/
/-- the places of the row's array behind a letter -/
def nxM (A : TS) (M : Nat) : Nat := if tf A 53 = 250 then M else if tf A 53 = M then gcap M else M
theorem gcap_4 {M : Nat} (h : M < 250) : gcap M ≤ 373 ∧ M ≤ gcap M ∧ gcap M ≤ 4 * (gcap M - M) := by
  unfold gcap
  split
  · omega
  · split <;> omega
section
variable {tc : Nat → ClassId} {ax ay : Nat → Nat → Nat} {A : TS} {S : HS}
theorem RA.let (h : RA tc (mx ax ay) A S) {k : Nat} (hk : k < tf A 53) : LT S (ay 4 k) (tn A 45 k) (tn A 46 k) (tn A 47 k) (opA (mx ax ay) (tn A 48 k)) (tn A 49 k) (if tn A 45 k = 2 then tr A 51 k else nI (tn A 50 k)) (tb A 52 k) := by
  have hl : lv A 4 k := hk
  exact ⟨h.mem hl, h.knd hl, h.int (j := 0) hl (by decide) (by decide) rfl, h.int (j := 1) hl (by decide) (by decide) rfl, h.int (j := 2) hl (by decide) (by decide) rfl, h.ptr (j := 3) hl (by decide) (by decide) rfl, h.int (j := 4) hl (by decide) (by decide) rfl, h.int (j := 5) hl (by decide) (by decide) rfl, h.int (j := 6) hl (by decide) (by decide) rfl⟩
theorem RA.cap0 (h : RA tc (mx ax ay) A S) : tf A 53 ≤ ay 50 0 := (h.list (i := 0) (Or.inl (by decide))).2.2.2.2.1
end
set_option maxRecDepth 100000 in
set_option maxHeartbeats 4000000 in
theorem c_r_size {l : Launch} {D : va_G} {tc : Nat → ClassId} {ax ay : Nat → Nat → Nat} {A : TS} {S : HS} (hls : l.stackTraces = false) (hS : RA tc (mx ax ay) A S)    {post : Option Value → HS → Prop} (hp : post (some (.int (nI (tf A 53)))) S) : CM l D tc yX7_size cX7_size 1 (some .int) 2 0 0 [.ref (ax 7 0)] S post := by
  refine CM.of hls (by decide +kernel) (by simp [Value.category]) (Nat.le_of_ble_eq_true rfl) (fun A0 p e9 s m args below meth c sz h hr hnm hA => ?_)
  refine V.eqL (ls' := [some (.ref (ax 7 0))]) rfl ?_
  refine V.blk h [(.aload_n 0, 1)] (by decide +kernel) (pc' := 1) (ls' := [some (.ref (ax 7 0))]) (st' := [.ref (ax 7 0)]) rfl rfl (Nat.le_of_ble_eq_true rfl) ?_
  refine V.getP h cls_7 (j := 0) rfl (hS.mem (show lv A 7 0 from rfl)) (hS.knd (show lv A 7 0 from rfl)) (Or.inl wf_RX7_12) (by decide +kernel) (v := some (ax 0 0)) (hS.ptr (show lv A 7 0 from rfl) (by decide) (by decide) rfl) ?_
  refine V.eq (S' := S) (ls' := [some (.ref (ax 7 0))]) (st' := [.ref (ax 0 0)]) rfl rfl rfl ?_
  refine V.callV h (np := 0) (st := []) (s_let hls hS (post := fun v S9 => v = some (.int (nI (tf A 53))) ∧ S = S9) ⟨rfl, rfl⟩) wc_Jx4a65c_size_8abf5 wn_RJx4a65c (Or.inl wm_RX7_18) wi_Jx4a65c_size_8abf5 we_Jx4a65c_size_8abf5 (by decide +kernel) rfl cls_0 (hS.mem (show lv A 0 0 from (Or.inl (by decide)))) (hS.knd (show lv A 0 0 from (Or.inl (by decide)))) (Nat.le_of_ble_eq_true rfl) (Nat.le_of_ble_eq_true rfl) (Nat.zero_le _) (Nat.zero_le _) (by simp [Value.category]) (by decide +kernel) rfl (fun v S9 q9 => ?_)
  obtain ⟨rfl, hS9⟩ := q9
  subst hS9
  refine V.eq (S' := S) (ls' := [some (.ref (ax 7 0))]) (st' := [.int (nI (tf A 53))]) rfl rfl rfl ?_
  exact V.iret h hA hr rfl hp (by decide +kernel) (Nat.zero_le _) (Nat.zero_le _)
set_option maxRecDepth 100000 in
set_option maxHeartbeats 4000000 in
theorem c_r_at {l : Launch} {D : va_G} {tc : Nat → ClassId} {ax ay : Nat → Nat → Nat} {A : TS} {S : HS} (hls : l.stackTraces = false) (hS : RA tc (mx ax ay) A S) {k : Nat}  (hk : k < tf A 53) {post : Option Value → HS → Prop} (hp : post (some (.ref (ay 4 k))) S) : CM l D tc yX7_at cX7_at 2 (some (.object "OneTrip$Letter")) 3 0 0 [.ref (ax 7 0), .int (nI (k))] S post := by
  refine CM.of hls (by decide +kernel) (by simp [Value.category]) (Nat.le_of_ble_eq_true rfl) (fun A0 p e9 s m args below meth c sz h hr hnm hA => ?_)
  have hw := hS.2.2.2.1.2.2.2.2
  refine V.eqL (ls' := [some (.ref (ax 7 0)), some (.int (nI (k)))]) rfl ?_
  refine V.blk h [(.iload_n 1, 1)] (by decide +kernel) (pc' := 1) (ls' := [some (.ref (ax 7 0)), some (.int (nI (k)))]) (st' := [.int (nI (k))]) rfl rfl (Nat.le_of_ble_eq_true rfl) ?_
  refine V.if_lt h (off := 28) (by decide +kernel) (tgt := 29) (by decide) (fun q => ?_) (fun q => ?_)
  · have q1_3 := ((nI_z_lt (by omega)).mp q)
    clear q
    exact absurd q1_3 id
  · have q1_3 : ¬ _ := (fun z => q ((nI_z_lt (by omega)).mpr z))
    clear q
    refine V.blk h [(.iload_n 1, 1), (.aload_n 0, 1)] (by decide +kernel) (pc' := 6) (ls' := [some (.ref (ax 7 0)), some (.int (nI (k)))]) (st' := [.ref (ax 7 0), .int (nI (k))]) rfl rfl (Nat.le_of_ble_eq_true rfl) ?_
    refine V.getP h cls_7 (j := 0) rfl (hS.mem (show lv A 7 0 from rfl)) (hS.knd (show lv A 7 0 from rfl)) (Or.inl wf_RX7_12) (by decide +kernel) (v := some (ax 0 0)) (hS.ptr (show lv A 7 0 from rfl) (by decide) (by decide) rfl) ?_
    refine V.eq (S' := S) (ls' := [some (.ref (ax 7 0)), some (.int (nI (k)))]) (st' := [.ref (ax 0 0), .int (nI (k))]) rfl rfl rfl ?_
    refine V.callV h (np := 0) (st := [.int (nI (k))]) (s_let hls hS (post := fun v S9 => v = some (.int (nI (tf A 53))) ∧ S = S9) ⟨rfl, rfl⟩) wc_Jx4a65c_size_8abf5 wn_RJx4a65c (Or.inl wm_RX7_18) wi_Jx4a65c_size_8abf5 we_Jx4a65c_size_8abf5 (by decide +kernel) rfl cls_0 (hS.mem (show lv A 0 0 from (Or.inl (by decide)))) (hS.knd (show lv A 0 0 from (Or.inl (by decide)))) (Nat.le_of_ble_eq_true rfl) (Nat.le_of_ble_eq_true rfl) (Nat.zero_le _) (Nat.zero_le _) (by simp [Value.category]) (by decide +kernel) rfl (fun v S9 q9 => ?_)
    obtain ⟨rfl, hS9⟩ := q9
    subst hS9
    refine V.eq (S' := S) (ls' := [some (.ref (ax 7 0)), some (.int (nI (k)))]) (st' := [.int (nI (tf A 53)), .int (nI (k))]) rfl rfl rfl ?_
    refine V.icmp_ge h (off := 17) (by decide +kernel) (tgt := 29) (by decide) (fun q => ?_) (fun q => ?_)
    · have q12_16 := ((nI_leI (by omega) (by omega)).mp q)
      clear q
      omega
    · have q12_16 : ¬ _ := (fun z => q ((nI_leI (by omega) (by omega)).mpr z))
      clear q
      refine V.blk h [(.aload_n 0, 1)] (by decide +kernel) (pc' := 16) (ls' := [some (.ref (ax 7 0)), some (.int (nI (k)))]) (st' := [.ref (ax 7 0)]) rfl rfl (Nat.le_of_ble_eq_true rfl) ?_
      refine V.getP h cls_7 (j := 0) rfl (hS.mem (show lv A 7 0 from rfl)) (hS.knd (show lv A 7 0 from rfl)) (Or.inl wf_RX7_12) (by decide +kernel) (v := some (ax 0 0)) (hS.ptr (show lv A 7 0 from rfl) (by decide) (by decide) rfl) ?_
      refine V.eq (S' := S) (ls' := [some (.ref (ax 7 0)), some (.int (nI (k)))]) (st' := [.ref (ax 0 0)]) rfl rfl rfl ?_
      refine V.blk h [(.iload_n 1, 1)] (by decide +kernel) (pc' := 20) (ls' := [some (.ref (ax 7 0)), some (.int (nI (k)))]) (st' := [.int (nI (k)), .ref (ax 0 0)]) rfl rfl (Nat.le_of_ble_eq_true rfl) ?_
      refine V.callV h (np := 1) (st := []) (g_let hls hS (k := k) (by omega) (post := fun v S9 => v = some (.ref (ay 4 k)) ∧ S = S9) ⟨rfl, rfl⟩) wc_Jx4a65c_get_915e3 wn_RJx4a65c (Or.inl wm_RX7_22) wi_Jx4a65c_get_915e3 we_Jx4a65c_get_915e3 (by decide +kernel) rfl cls_0 (hS.mem (show lv A 0 0 from (Or.inl (by decide)))) (hS.knd (show lv A 0 0 from (Or.inl (by decide)))) (Nat.le_of_ble_eq_true rfl) (Nat.le_of_ble_eq_true rfl) (Nat.zero_le _) (Nat.zero_le _) (by simp [Value.category]) (by decide +kernel) rfl (fun v S9 q9 => ?_)
      obtain ⟨rfl, hS9⟩ := q9
      subst hS9
      refine V.eq (S' := S) (ls' := [some (.ref (ax 7 0)), some (.int (nI (k)))]) (st' := [.ref (ay 4 k)]) rfl rfl rfl ?_
      refine V.castS h cls_4 (hS.mem (show lv A 4 k from hk)) (hS.knd (show lv A 4 k from hk)) wl_RX7_26 (by decide +kernel) ?_
      refine V.goto h (off := 4) (tgt := 30) (by decide +kernel) (by decide) ?_
      exact V.aret h hA hr (o := some (ay 4 k)) (Or.inl ⟨_, rfl⟩) hp (by decide +kernel) (Nat.zero_le _) (Nat.zero_le _)
set_option maxRecDepth 100000 in
set_option maxHeartbeats 4000000 in
theorem c_r_take {l : Launch} {D : va_G} {tc : Nat → ClassId} {ax ay : Nat → Nat → Nat} {A : TS} {S : HS} (hls : l.stackTraces = false) (hS : RA tc (mx ax ay) A S) {k : Nat}  (hk : k < tf A 53) {post : Option Value → HS → Prop} (hp : ∀ (S9 : HS) (ay9 : Nat → Nat → Nat), RA tc (mx ax ay9) (tkF A k) S9 → LT S9 (ay 4 k) (tn A 45 k) (tn A 46 k) (tn A 47 k) (opA (mx ax ay) (tn A 48 k)) (tn A 49 k) (if tn A 45 k = 2 then tr A 51 k else nI (tn A 50 k)) (tb A 52 k) → ay9 50 0 = ay 50 0 → post (some (.ref (ay 4 k))) S9) : CM l D tc yX7_take cX7_take 2 (some (.object "OneTrip$Letter")) 3 0 0 [.ref (ax 7 0), .int (nI (k))] S post := by
  refine CM.of hls (by decide +kernel) (by simp [Value.category]) (Nat.le_of_ble_eq_true rfl) (fun A0 p e9 s m args below meth c sz h hr hnm hA => ?_)
  have hw := hS.2.2.2.1.2.2.2.2
  refine V.eqL (ls' := [some (.ref (ax 7 0)), some (.int (nI (k)))]) rfl ?_
  refine V.blk h [(.iload_n 1, 1)] (by decide +kernel) (pc' := 1) (ls' := [some (.ref (ax 7 0)), some (.int (nI (k)))]) (st' := [.int (nI (k))]) rfl rfl (Nat.le_of_ble_eq_true rfl) ?_
  refine V.if_lt h (off := 28) (by decide +kernel) (tgt := 29) (by decide) (fun q => ?_) (fun q => ?_)
  · have q1_3 := ((nI_z_lt (by omega)).mp q)
    clear q
    exact absurd q1_3 id
  · have q1_3 : ¬ _ := (fun z => q ((nI_z_lt (by omega)).mpr z))
    clear q
    refine V.blk h [(.iload_n 1, 1), (.aload_n 0, 1)] (by decide +kernel) (pc' := 6) (ls' := [some (.ref (ax 7 0)), some (.int (nI (k)))]) (st' := [.ref (ax 7 0), .int (nI (k))]) rfl rfl (Nat.le_of_ble_eq_true rfl) ?_
    refine V.getP h cls_7 (j := 0) rfl (hS.mem (show lv A 7 0 from rfl)) (hS.knd (show lv A 7 0 from rfl)) (Or.inl wf_RX7_12) (by decide +kernel) (v := some (ax 0 0)) (hS.ptr (show lv A 7 0 from rfl) (by decide) (by decide) rfl) ?_
    refine V.eq (S' := S) (ls' := [some (.ref (ax 7 0)), some (.int (nI (k)))]) (st' := [.ref (ax 0 0), .int (nI (k))]) rfl rfl rfl ?_
    refine V.callV h (np := 0) (st := [.int (nI (k))]) (s_let hls hS (post := fun v S9 => v = some (.int (nI (tf A 53))) ∧ S = S9) ⟨rfl, rfl⟩) wc_Jx4a65c_size_8abf5 wn_RJx4a65c (Or.inl wm_RX7_18) wi_Jx4a65c_size_8abf5 we_Jx4a65c_size_8abf5 (by decide +kernel) rfl cls_0 (hS.mem (show lv A 0 0 from (Or.inl (by decide)))) (hS.knd (show lv A 0 0 from (Or.inl (by decide)))) (Nat.le_of_ble_eq_true rfl) (Nat.le_of_ble_eq_true rfl) (Nat.zero_le _) (Nat.zero_le _) (by simp [Value.category]) (by decide +kernel) rfl (fun v S9 q9 => ?_)
    obtain ⟨rfl, hS9⟩ := q9
    subst hS9
    refine V.eq (S' := S) (ls' := [some (.ref (ax 7 0)), some (.int (nI (k)))]) (st' := [.int (nI (tf A 53)), .int (nI (k))]) rfl rfl rfl ?_
    refine V.icmp_ge h (off := 17) (by decide +kernel) (tgt := 29) (by decide) (fun q => ?_) (fun q => ?_)
    · have q12_16 := ((nI_leI (by omega) (by omega)).mp q)
      clear q
      omega
    · have q12_16 : ¬ _ := (fun z => q ((nI_leI (by omega) (by omega)).mpr z))
      clear q
      refine V.blk h [(.aload_n 0, 1)] (by decide +kernel) (pc' := 16) (ls' := [some (.ref (ax 7 0)), some (.int (nI (k)))]) (st' := [.ref (ax 7 0)]) rfl rfl (Nat.le_of_ble_eq_true rfl) ?_
      refine V.getP h cls_7 (j := 0) rfl (hS.mem (show lv A 7 0 from rfl)) (hS.knd (show lv A 7 0 from rfl)) (Or.inl wf_RX7_12) (by decide +kernel) (v := some (ax 0 0)) (hS.ptr (show lv A 7 0 from rfl) (by decide) (by decide) rfl) ?_
      refine V.eq (S' := S) (ls' := [some (.ref (ax 7 0)), some (.int (nI (k)))]) (st' := [.ref (ax 0 0)]) rfl rfl rfl ?_
      refine V.blk h [(.iload_n 1, 1)] (by decide +kernel) (pc' := 20) (ls' := [some (.ref (ax 7 0)), some (.int (nI (k)))]) (st' := [.int (nI (k)), .ref (ax 0 0)]) rfl rfl (Nat.le_of_ble_eq_true rfl) ?_
      refine V.callV h (np := 1) (st := []) (l_remove hls hS (i := 0) (k := k) (Or.inl (by decide)) hk (post := fun v S9 => v = some (.ref (ay 4 k)) ∧ rmS S (ax 0 0) (ay 23 0) k (tf A 53) = S9) ⟨rfl, rfl⟩) wc_Jx4a65c_remove_915e3 wn_RJx4a65c (Or.inl wm_RX7_28) wi_Jx4a65c_remove_915e3 we_Jx4a65c_remove_915e3 (by decide +kernel) rfl cls_0 (hS.mem (show lv A 0 0 from (Or.inl (by decide)))) (hS.knd (show lv A 0 0 from (Or.inl (by decide)))) (Nat.le_of_ble_eq_true rfl) (Nat.le_of_ble_eq_true rfl) (Nat.zero_le _) (Nat.zero_le _) (by simp [Value.category]) (by decide +kernel) rfl (fun v S9 q9 => ?_)
      obtain ⟨rfl, hS9⟩ := q9
      have hr9 := hS.took hk
      have hlt := (hS.let hk).lop (rmS_lop (S := S) (b := ax 0 0) (t := ay 23 0) (i := k) (z := tf A 53))
      have hS1 : RA tc (mx ax (aT (mx ax ay) 4 (shK k))) (tkF A k) S9 := by
        rw [← SL.is (aT_SL (Or.inl rfl)), ← hS9]
        exact hr9
      have hL1 : LT S9 (ay 4 k) (tn A 45 k) (tn A 46 k) (tn A 47 k) (opA (mx ax ay) (tn A 48 k)) (tn A 49 k) (if tn A 45 k = 2 then tr A 51 k else nI (tn A 50 k)) (tb A 52 k) := by
        rw [← hS9]
        exact hlt
      refine V.eq (S' := S9) (ls' := [some (.ref (ax 7 0)), some (.int (nI (k)))]) (st' := [.ref (ay 4 k)]) rfl rfl rfl ?_
      refine V.castS h cls_4 hL1.1 hL1.2.1 wl_RX7_26 (by decide +kernel) ?_
      refine V.goto h (off := 4) (tgt := 30) (by decide +kernel) (by decide) ?_
      exact V.aret h hA hr (o := some (ay 4 k)) (Or.inl ⟨_, rfl⟩) (hp _ _ hS1 hL1 rfl) (by decide +kernel) (Nat.zero_le _) (Nat.zero_le _)
set_option maxRecDepth 100000 in
set_option maxHeartbeats 4000000 in
theorem c_r_send {l : Launch} {D : va_G} {tc : Nat → ClassId} {ax ay : Nat → Nat → Nat} {A : TS} {S : HS} (hls : l.stackTraces = false) (hS : RA tc (mx ax ay) A S) {so : Nat} {e : Nat} {to : Nat} {op : Nat} {n : Nat} {c9 : Nat} {x : Int32} {sa : Bool} {q : Nat} {ms : Nat}  (hop : op ≤ tf A 13) (hq : LT S q so e to (opA (mx ax ay) op) n (if so = 2 then x else nI c9) sa) (hms : tf A 53 ≠ 250 → tf A 53 = ay 50 0 → gcap (ay 50 0) ≤ ms) {post : Option Value → HS → Prop} (hp : ∀ (S9 : HS) (ay9 : Nat → Nat → Nat), RA tc (mx ax ay9) (sendF A so e to op n c9 x sa) S9 → ay9 50 0 = nxM A (ay 50 0) → post none S9) : CM l D tc yX7_send cX7_send 2 (none) 7 1 ms [.ref (ax 7 0), .ref q] S post := by
  refine CM.of hls (by decide +kernel) (by simp [Value.category]) (Nat.le_of_ble_eq_true rfl) (fun A0 p e9 s m args below meth c sz h hr hnm hA => ?_)
  have hw := hS.2.2.2.1.2.2.2.2
  refine V.eqL (ls' := [some (.ref (ax 7 0)), some (.ref q)]) rfl ?_
  refine V.blk h [(.aload_n 0, 1)] (by decide +kernel) (pc' := 1) (ls' := [some (.ref (ax 7 0)), some (.ref q)]) (st' := [.ref (ax 7 0)]) rfl rfl (Nat.le_of_ble_eq_true rfl) ?_
  refine V.getP h cls_7 (j := 0) rfl (hS.mem (show lv A 7 0 from rfl)) (hS.knd (show lv A 7 0 from rfl)) (Or.inl wf_RX7_12) (by decide +kernel) (v := some (ax 0 0)) (hS.ptr (show lv A 7 0 from rfl) (by decide) (by decide) rfl) ?_
  refine V.eq (S' := S) (ls' := [some (.ref (ax 7 0)), some (.ref q)]) (st' := [.ref (ax 0 0)]) rfl rfl rfl ?_
  refine V.callV h (np := 0) (st := []) (s_let hls hS (post := fun v S9 => v = some (.int (nI (tf A 53))) ∧ S = S9) ⟨rfl, rfl⟩) wc_Jx4a65c_size_8abf5 wn_RJx4a65c (Or.inl wm_RX7_18) wi_Jx4a65c_size_8abf5 we_Jx4a65c_size_8abf5 (by decide +kernel) rfl cls_0 (hS.mem (show lv A 0 0 from (Or.inl (by decide)))) (hS.knd (show lv A 0 0 from (Or.inl (by decide)))) (Nat.le_of_ble_eq_true rfl) (Nat.le_of_ble_eq_true rfl) (Nat.zero_le _) (Nat.zero_le _) (by simp [Value.category]) (by decide +kernel) rfl (fun v S9 q9 => ?_)
  obtain ⟨rfl, hS9⟩ := q9
  subst hS9
  refine V.eq (S' := S) (ls' := [some (.ref (ax 7 0)), some (.ref q)]) (st' := [.int (nI (tf A 53))]) rfl rfl rfl ?_
  refine V.blk h [(.sipush 250, 3)] (by decide +kernel) (pc' := 10) (ls' := [some (.ref (ax 7 0)), some (.ref q)]) (st' := [.int (nI (250)), .int (nI (tf A 53))]) rfl rfl (Nat.le_of_ble_eq_true rfl) ?_
  refine V.icmp_lt h (off := 16) (by decide +kernel) (tgt := 26) (by decide) (fun q => ?_) (fun q => ?_)
  · have q10_10 := ((nI_ltI (by omega) (by omega)).mp q)
    clear q
    refine V.blk h [(.aload_n 0, 1)] (by decide +kernel) (pc' := 27) (ls' := [some (.ref (ax 7 0)), some (.ref q)]) (st' := [.ref (ax 7 0)]) rfl rfl (Nat.le_of_ble_eq_true rfl) ?_
    refine V.getP h cls_7 (j := 0) rfl (hS.mem (show lv A 7 0 from rfl)) (hS.knd (show lv A 7 0 from rfl)) (Or.inl wf_RX7_12) (by decide +kernel) (v := some (ax 0 0)) (hS.ptr (show lv A 7 0 from rfl) (by decide) (by decide) rfl) ?_
    refine V.eq (S' := S) (ls' := [some (.ref (ax 7 0)), some (.ref q)]) (st' := [.ref (ax 0 0)]) rfl rfl rfl ?_
    refine V.blk h [(.aload_n 1, 1)] (by decide +kernel) (pc' := 31) (ls' := [some (.ref (ax 7 0)), some (.ref q)]) (st' := [.ref q, .ref (ax 0 0)]) rfl rfl (Nat.le_of_ble_eq_true rfl) ?_
    have hne : tf A 53 ≠ 250 := by omega
    refine V.callV h (np := 1) (st := []) (l_add hls hS (i := 0) (q := q) (mc := 1) (ms := ms) (Or.inl (by decide)) (by show tf A 53 < 600; omega) hq.1 hq.2.1 (fun _ => Nat.le_refl _) (fun z => hms hne z) (post := fun v S9 => v = some (.int (nI 1)) ∧ ∃ t9 M9, LAdd tc (mx ax ay) A S 0 q S9 t9 M9) (fun S9 t9 M9 h9 => ⟨rfl, t9, M9, h9⟩)) wc_Jx4a65c_add_9ea2d wn_RJx4a65c (Or.inl wm_RX7_35) wi_Jx4a65c_add_9ea2d we_Jx4a65c_add_9ea2d (by decide +kernel) rfl cls_0 (hS.mem (show lv A 0 0 from (Or.inl (by decide)))) (hS.knd (show lv A 0 0 from (Or.inl (by decide)))) (Nat.le_of_ble_eq_true rfl) (Nat.le_of_ble_eq_true rfl) (by show 0 + 1 ≤ 1; omega) (by show 0 + ms ≤ ms; omega) (by simp [Value.category]) (by decide +kernel) rfl (fun v S9 q9 => ?_)
    obtain ⟨rfl, t9, M9, hL9⟩ := q9
    have hr9 := hS.sent hne hop hq hL9
    have hS1 : RA tc (mx ax (aS (mx ax ay) 4 (tf A 53) 0 q t9 M9)) (sendF A so e to op n c9 x sa) S9 := by
      rw [← SL.is (aS_SL (Or.inl rfl))]
      exact hr9
    have hM9 : aS (mx ax ay) 4 (tf A 53) 0 q t9 M9 50 0 = nxM A (ay 50 0) := by
      rw [aS_50 (by decide), if_pos rfl, hL9.2.2.2.2.2]
      unfold nxM
      rw [if_neg hne]
      rfl
    refine V.eq (S' := S9) (ls' := [some (.ref (ax 7 0)), some (.ref q)]) (st' := [.int (nI (1))]) rfl rfl rfl ?_
    refine V.blk h [(.pop, 1)] (by decide +kernel) (pc' := 35) (ls' := [some (.ref (ax 7 0)), some (.ref q)]) (st' := []) rfl rfl (Nat.le_of_ble_eq_true rfl) ?_
    exact V.vret h hA hr (hp _ _ hS1 hM9) (by decide +kernel) (by omega) (by omega)
  · have q10_10 : ¬ _ := (fun z => q ((nI_ltI (by omega) (by omega)).mpr z))
    clear q
    refine V.blk h [(.aload_n 0, 1), (.dup, 1)] (by decide +kernel) (pc' := 15) (ls' := [some (.ref (ax 7 0)), some (.ref q)]) (st' := [.ref (ax 7 0), .ref (ax 7 0)]) rfl rfl (Nat.le_of_ble_eq_true rfl) ?_
    refine V.getI h cls_7 (j := 1) rfl (hS.mem (show lv A 7 0 from rfl)) (hS.knd (show lv A 7 0 from rfl)) (Or.inl wf_RX7_31) (by decide +kernel) (v := nI (tf A 54)) (hS.int (show lv A 7 0 from rfl) (by decide) (by decide) rfl) ?_
    refine V.blk h [(.iconst 1, 1)] (by decide +kernel) (pc' := 19) (ls' := [some (.ref (ax 7 0)), some (.ref q)]) (st' := [.int (nI (1)), .int (nI (tf A 54)), .ref (ax 7 0)]) rfl rfl (Nat.le_of_ble_eq_true rfl) ?_
    refine V.addN h (by decide +kernel) (Nat.le_of_ble_eq_true rfl) ?_
    refine V.putI h cls_7 (j := 1) rfl (hS.mem (show lv A 7 0 from rfl)) (hS.knd (show lv A 7 0 from rfl)) (Or.inl wf_RX7_31) rfl rfl rfl (by decide +kernel) ?_
    refine V.gen (P := fun S9 => RA tc (mx ax ay) (sf A 54 ((tf A 54) + 1)) S9) (hS.p_7_1 (v := ((tf A 54) + 1))) (fun S1 hS1 => ?_)
    refine V.goto h (off := 12) (tgt := 35) (by decide +kernel) (by decide) ?_
    exact V.vret h hA hr (hp _ ay (by unfold sendF; rw [if_pos (show tf A 53 = 250 from by omega)]; exact hS1) (by unfold nxM; rw [if_pos (show tf A 53 = 250 from by omega)])) (by decide +kernel) (Nat.zero_le _) (Nat.zero_le _)
