/-! ===== an ACK at a master ===== -/
def kaA (A : TS) (e b n : Nat) : TS := sn A 32 (3 * e + b) (if tn A 32 (3 * e + b) ≤ n then n + 1 else tn A 32 (3 * e + b))
def rakB (A : TS) (e b n c9 : Nat) : TS := awL (kaA A e b n) e b c9 (tn (kaA A e b n) 37 e)
def rakD (B : TS) (e was : Nat) : TS := if was < tn B 28 e then aaL B e was (tn B 28 e - was) else B
def rakE (B : TS) (e lk : Nat) : TS := if tb B 31 e = false ∧ tn B 27 e + 1 ≤ lk then (if 0 < e then resF (sb B 31 e true) e else sb B 31 e true) else B
def rakX (B : TS) (e lk : Nat) : TS := agC (raG (rakE (rakD (sn B 28 e (lk - 1)) e (tn B 28 e)) e lk) e (tn B 28 e)) e
def rakC (A : TS) (e b n c9 : Nat) : TS := rakX (rakB A e b n c9) e (lkC (rakB A e b n c9) e (tf (rakB A e b n c9) 1))
theorem rakB_is {A : TS} {e b n c9 f K : Nat} (hb : b < f) (hf : f ≤ 3) (h36 : ∀ i, tn A 36 i < 2 ^ f) (h53 : tf A 53 ≤ 250) (hB : NB K A) (hn : n + 1 ≤ K) (h8 : 8 ≤ K) : kR A (rakB A e b n c9) ∧ NB K (rakB A e b n c9) ∧ ∀ i, tn (rakB A e b n c9) 36 i < 2 ^ f := by
  have k1 : kR A (kaA A e b n) := (kR.rfl h53).sn (Or.inr (Or.inl rfl))
  have k2 : NB K (kaA A e b n) := hB.sn (by have := hB.2 32 (3 * e + b); split <;> omega)
  have k3 : ∀ i, tn (kaA A e b n) 36 i < 2 ^ f := fun i => by
    unfold kaA
    rw [tn_sn, if_neg (by omega)]
    exact h36 i
  have p3 := pow3 hf
  have key : ∀ k, kR A (awL (kaA A e b n) e b c9 k) ∧ NB K (awL (kaA A e b n) e b c9 k) ∧ ∀ i, tn (awL (kaA A e b n) e b c9 k) 36 i < 2 ^ f := by
    intro k
    induction k with
    | zero => exact ⟨k1, k2, k3⟩
    | succ k ih =>
      obtain ⟨h1, h2, h3⟩ := ih
      unfold awL awS
      generalize awL (kaA A e b n) e b c9 k = G at *
      split
      · have o := Nat.or_lt_two_pow (n := f) (h3 (600 * e + k)) (Nat.pow_lt_pow_right (by decide) hb)
        refine ⟨h1.sn (Or.inr (Or.inr rfl)), h2.sn (by omega), fun i => ?_⟩
        rw [tn_sn]
        split
        · exact o
        · exact h3 i
      · exact ⟨h1, h2, h3⟩
  exact key _
theorem rakD_kR {A B : TS} {e w : Nat} (h : kR A B) : kR A (rakD B e w) := by
  unfold rakD
  split
  · have := aaL_keep (e := e) (s := w) h.2.1 (tn B 28 e - w)
    exact h.keep this.1 this.2
  · exact h
theorem rakE_kR {A B : TS} {e lk : Nat} (h : kR A B) : kR A (rakE B e lk) := by
  unfold rakE
  split
  · split
    · exact res_kR h.sb
    · exact h.sb
  · exact h
theorem rakD_28 {B : TS} {e w : Nat} (h53 : tf B 53 ≤ 250) : tn (rakD B e w) 28 e = tn B 28 e ∧ tn (rakD B e w) 26 e = tn B 26 e ∧ (∀ i, tn (rakD B e w) 36 i = tn B 36 i) := by
  unfold rakD
  split
  · have := (aaL_keep (e := e) (s := w) h53 (tn B 28 e - w)).1
    exact ⟨this.2.1 28 e (by decide), this.2.1 26 e (by decide), fun i => this.2.1 36 i (by decide)⟩
  · exact ⟨rfl, rfl, fun _ => rfl⟩
theorem rakE_28 {B : TS} {e lk : Nat} : tn (rakE B e lk) 28 e = tn B 28 e ∧ (∀ i, tn (rakE B e lk) 36 i = tn B 36 i) := by
  unfold rakE
  split
  · split
    · exact ⟨(resL_keep ..).2.1 28 e (by decide), fun i => (resL_keep ..).2.1 36 i (by decide)⟩
    · exact ⟨rfl, fun _ => rfl⟩
  · exact ⟨rfl, fun _ => rfl⟩
theorem raG_36 {B : TS} {e w : Nat} (h53 : tf B 53 ≤ 250) : ∀ i, tn (raG B e w) 36 i = tn B 36 i := by
  unfold raG
  split
  · have := (gsL_keep (e := e) h53 (tf B 1)).1
    exact fun i => this.2.1 36 i (by decide)
  · exact fun _ => rfl
theorem rakD_NB {K : Nat} {B : TS} {e w : Nat} (h : NB K B) (h9 : 7300 ≤ K) (he : e < 12) (hop : ∀ i, tn B 22 i ≤ 600) (hn : tn B 28 e ≤ 600) : NB (K + 600) (rakD B e w) := by
  unfold rakD
  split
  · exact (aaL_NB h h9 he hop _).1.mono (by omega)
  · exact h.mono (by omega)
theorem rakE_NB {K : Nat} {B : TS} {e lk : Nat} (h : NB K B) (he : e ≤ K) (h9 : 9 ≤ K) (hf : tf B 1 ≤ 3) : NB (K + 3) (rakE B e lk) := by
  unfold rakE
  split
  · split
    · exact resL_NB (A := sb B 31 e true) h he h9 _ hf
    · exact NB.mono (A := sb B 31 e true) h (by omega)
  · exact h.mono (by omega)
set_option maxRecDepth 100000 in
set_option maxHeartbeats 4000000 in
theorem c_readAck {l : Launch} {D : va_G} {tc : Nat → ClassId} {ax ay : Nat → Nat → Nat} {A : TS} {S : HS} (hls : l.stackTraces = false) (hS : RA tc (mx ax ay) A S) {e : Nat} {b : Nat} {n : Nat} {c9 : Nat} {K : Nat}  (he : e < tf A 38) (hb : b < tf A 1) (hnK : n + 1 ≤ K) (hc9 : c9 ≤ K) (h36 : ∀ i, tn A 36 i < 2 ^ tf A 1) (h26 : tn A 26 e ≤ tf A 13) (h37 : tn A 37 e ≤ tf A 13) (hgo : ∀ i, tn A 33 i ≤ 600) (hop : ∀ i, tn A 22 i ≤ 600) (h9 : 7300 ≤ K) (hB : NB K A) (hK : K < 1700000000) {post : Option Value → HS → Prop} (hp : ∀ (S8 : HS) (ay8 : Nat → Nat → Nat), RA tc (mx ax ay8) (rakC A e b n c9) S8 → post none S8) : CM l D tc yX5_readAck cX5_readAck 6 (none) 10 (4 * tf A 13 + 12) (14 * tf A 13 + 5264) [.ref (ax 5 e), .int (nI (b)), .int (nI (n)), .int (nI (c9))] S post := by
  refine CM.of hls (by decide +kernel) (by simp [Value.category]) (Nat.le_of_ble_eq_true rfl) (fun A0 p e9 s m args below meth c sz h hr hnm hA => ?_)
  have hf3 := hS.2.2.1.2.1
  have hp3 := pow3 hf3
  have h53 := hS.2.2.2.1.2.2.2.2
  have h12 := hS.2.2.2.1.2.1
  have h13 := hS.2.2.2.1.2.2.2.1
  have h600 := hS.2.2.2.2.1 e he
  have he12 : e < 12 := by omega
  refine V.eqL (ls' := [some (.ref (ax 5 e)), some (.int (nI (b))), some (.int (nI (n))), some (.int (nI (c9))), none, none]) rfl ?_
  refine V.blk h [(.iload_n 1, 1)] (by decide +kernel) (pc' := 1) (ls' := [some (.ref (ax 5 e)), some (.int (nI (b))), some (.int (nI (n))), some (.int (nI (c9))), none, none]) (st' := [.int (nI (b))]) rfl rfl (Nat.le_of_ble_eq_true rfl) ?_
  refine V.if_lt h (off := 12) (by decide +kernel) (tgt := 13) (by decide) (fun q => ?_) (fun q => ?_)
  · have q1_9 := ((nI_z_lt (by omega)).mp q)
    clear q
    exact absurd q1_9 id
  · have q1_9 : ¬ _ := (fun z => q ((nI_z_lt (by omega)).mpr z))
    clear q
    refine V.blk h [(.iload_n 1, 1), (.aload_n 0, 1)] (by decide +kernel) (pc' := 6) (ls' := [some (.ref (ax 5 e)), some (.int (nI (b))), some (.int (nI (n))), some (.int (nI (c9))), none, none]) (st' := [.ref (ax 5 e), .int (nI (b))]) rfl rfl (Nat.le_of_ble_eq_true rfl) ?_
    refine V.getP h cls_5 (j := 6) rfl (hS.mem (show lv A 5 e from he)) (hS.knd (show lv A 5 e from he)) (Or.inl wf_RX5_42) (by decide +kernel) (v := some (ax 20 (2 * e + 1))) (hS.ptr (show lv A 5 e from he) (by decide) (by decide) rfl) ?_
    refine V.eq (S' := S) (ls' := [some (.ref (ax 5 e)), some (.int (nI (b))), some (.int (nI (n))), some (.int (nI (c9))), none, none]) (st' := [.ref (ax 20 (2 * e + 1)), .int (nI (b))]) rfl rfl rfl ?_
    refine V.alen h 20 (hS.mem (show lv A 20 (2 * e + 1) from (by have := he; show 2 * e + 1 < 2 * tf A 38; omega))) (hS.knd (show lv A 20 (2 * e + 1) from (by have := he; show 2 * e + 1 < 2 * tf A 38; omega))) (by decide) (M := tf A 1) ((hS.len (show lv A 20 (2 * e + 1) from (by have := he; show 2 * e + 1 < 2 * tf A 38; omega)) (by decide)).trans cln_t) (by decide +kernel) ?_
    refine V.icmp_lt h (off := 4) (by decide +kernel) (tgt := 14) (by decide) (fun q => ?_) (fun q => ?_)
    · have q10_19 := ((nI_ltI (by omega) (by omega)).mp q)
      clear q
      refine V.blk h [(.aload_n 0, 1)] (by decide +kernel) (pc' := 15) (ls' := [some (.ref (ax 5 e)), some (.int (nI (b))), some (.int (nI (n))), some (.int (nI (c9))), none, none]) (st' := [.ref (ax 5 e)]) rfl rfl (Nat.le_of_ble_eq_true rfl) ?_
      refine V.getP h cls_5 (j := 6) rfl (hS.mem (show lv A 5 e from he)) (hS.knd (show lv A 5 e from he)) (Or.inl wf_RX5_42) (by decide +kernel) (v := some (ax 20 (2 * e + 1))) (hS.ptr (show lv A 5 e from he) (by decide) (by decide) rfl) ?_
      refine V.eq (S' := S) (ls' := [some (.ref (ax 5 e)), some (.int (nI (b))), some (.int (nI (n))), some (.int (nI (c9))), none, none]) (st' := [.ref (ax 20 (2 * e + 1))]) rfl rfl rfl ?_
      refine V.blk h [(.iload_n 1, 1), (.aload_n 0, 1)] (by decide +kernel) (pc' := 20) (ls' := [some (.ref (ax 5 e)), some (.int (nI (b))), some (.int (nI (n))), some (.int (nI (c9))), none, none]) (st' := [.ref (ax 5 e), .int (nI (b)), .ref (ax 20 (2 * e + 1))]) rfl rfl (Nat.le_of_ble_eq_true rfl) ?_
      refine V.getP h cls_5 (j := 6) rfl (hS.mem (show lv A 5 e from he)) (hS.knd (show lv A 5 e from he)) (Or.inl wf_RX5_42) (by decide +kernel) (v := some (ax 20 (2 * e + 1))) (hS.ptr (show lv A 5 e from he) (by decide) (by decide) rfl) ?_
      refine V.eq (S' := S) (ls' := [some (.ref (ax 5 e)), some (.int (nI (b))), some (.int (nI (n))), some (.int (nI (c9))), none, none]) (st' := [.ref (ax 20 (2 * e + 1)), .int (nI (b)), .ref (ax 20 (2 * e + 1))]) rfl rfl rfl ?_
      refine V.blk h [(.iload_n 1, 1)] (by decide +kernel) (pc' := 24) (ls' := [some (.ref (ax 5 e)), some (.int (nI (b))), some (.int (nI (n))), some (.int (nI (c9))), none, none]) (st' := [.int (nI (b)), .ref (ax 20 (2 * e + 1)), .int (nI (b)), .ref (ax 20 (2 * e + 1))]) rfl rfl (Nat.le_of_ble_eq_true rfl) ?_
      refine V.iald h (hS.mem (show lv A 20 (2 * e + 1) from (by have := he; show 2 * e + 1 < 2 * tf A 38; omega))) (hS.knd (show lv A 20 (2 * e + 1) from (by have := he; show 2 * e + 1 < 2 * tf A 38; omega))) (M := tf A 1) ((hS.len (show lv A 20 (2 * e + 1) from (by have := he; show 2 * e + 1 < 2 * tf A 38; omega)) (by decide)).trans cln_t) (i := b) (by omega) (by omega) (by decide +kernel) (v := oI (tn A 32 (3 * e + b))) ((hS.arr (show lv A 20 (2 * e + 1) from (by have := he; show 2 * e + 1 < 2 * tf A 38; omega)) (by rw [cln_t]; omega)).trans cav_t) ?_
      have nb30 := hB.2 32 (3 * e + b)
      refine V.blk h [(.iload_n 2, 1)] (by decide +kernel) (pc' := 26) (ls' := [some (.ref (ax 5 e)), some (.int (nI (b))), some (.int (nI (n))), some (.int (nI (c9))), none, none]) (st' := [.int (nI (n)), .int (oI (tn A 32 (3 * e + b))), .int (nI (b)), .ref (ax 20 (2 * e + 1))]) rfl rfl (Nat.le_of_ble_eq_true rfl) ?_
      refine V.mmax h wm_RX5_36 (v := oI (if tn A 32 (3 * e + b) ≤ n then n + 1 else tn A 32 (3 * e + b))) (mx_on (by omega) (by omega)) (by decide +kernel) (Nat.le_of_ble_eq_true rfl) (Nat.le_of_ble_eq_true rfl) (by show 0 ≤ 4 * tf A 13 + 12; omega) (by show 0 ≤ 14 * tf A 13 + 5264; omega) ?_
      refine V.iast h (hS.mem (show lv A 20 (2 * e + 1) from (by have := he; show 2 * e + 1 < 2 * tf A 38; omega))) (hS.knd (show lv A 20 (2 * e + 1) from (by have := he; show 2 * e + 1 < 2 * tf A 38; omega))) (M := tf A 1) ((hS.len (show lv A 20 (2 * e + 1) from (by have := he; show 2 * e + 1 < 2 * tf A 38; omega)) (by decide)).trans cln_t) (i := b) (by omega) (by omega) (by decide +kernel) ?_
      refine V.gen (P := fun S9 => RA tc (mx ax ay) (kaA A e b n) S9) (hS.p_told (t := if tn A 32 (3 * e + b) ≤ n then n + 1 else tn A 32 (3 * e + b)) he hb) (fun S1 hS1 => ?_)
      refine V.blk h [(.aload_n 0, 1), (.iload_n 1, 1), (.iload_n 3, 1)] (by decide +kernel) (pc' := 33) (ls' := [some (.ref (ax 5 e)), some (.int (nI (b))), some (.int (nI (n))), some (.int (nI (c9))), none, none]) (st' := [.int (nI (c9)), .int (nI (b)), .ref (ax 5 e)]) rfl rfl (Nat.le_of_ble_eq_true rfl) ?_
      refine V.callV h (np := 2) (st := []) (c_confirmGets hls hS1 (e := e) (b := b) (c9 := c9) he (by omega) hc9 (fun i => by unfold kaA; rw [tn_sn, if_neg (by omega)]; exact Nat.lt_of_lt_of_le (h36 i) hp3) (hB.sn (by have := hB.2 32 (3 * e + b); split <;> omega)) (by omega) (post := fun v S8 => v = none ∧ ∃ ay8, RA tc (mx ax ay8) (awL (kaA A e b n) e b c9 (tn (kaA A e b n) 37 e)) S8) (fun S8 ay8 hr8 => ⟨rfl, ay8, hr8⟩)) wc_X5_confirmGets wn_RX5 (Or.inl wm_RX5_166) wi_X5_confirmGets we_X5_confirmGets (by decide +kernel) rfl cls_5 (hS1.mem (show lv (kaA A e b n) 5 e from he)) (hS1.knd (show lv (kaA A e b n) 5 e from he)) (Nat.le_of_ble_eq_true rfl) (Nat.le_of_ble_eq_true rfl) (Nat.zero_le _) (Nat.zero_le _) (by simp [Value.category]) (by decide +kernel) rfl (fun v Z2 q9 => ?_)
      obtain ⟨rfl, ay3, hS4⟩ := q9
      replace hS4 : RA tc (mx ax ay3) (rakB A e b n c9) Z2 := hS4
      obtain ⟨G, hG⟩ : ∃ X9 : TS, X9 = (rakB A e b n c9) := ⟨_, rfl⟩
      rw [← hG] at hS4
      obtain ⟨kg, nbG, k36⟩ := rakB_is (e := e) (b := b) (n := n) (c9 := c9) hb hf3 h36 h53 hB hnK (by omega)
      rw [← hG] at kg nbG k36
      have heG : e < tf G 38 := by rw [kg.1 38 (by decide) (by decide)]; exact he
      have g1 : tf G 1 = tf A 1 := kg.1 1 (by decide) (by decide)
      have g13 : tf G 13 = tf A 13 := kg.1 13 (by decide) (by decide)
      have g26 : tn G 26 e = tn A 26 e := kg.2.2.1 26 e (by decide) (by decide) (by decide) (by decide)
      have g27 : tn G 27 e = tn A 27 e := kg.2.2.1 27 e (by decide) (by decide) (by decide) (by decide)
      have g37 : tn G 37 e = tn A 37 e := kg.2.2.1 37 e (by decide) (by decide) (by decide) (by decide)
      have hlk := lkC_le G e (tf G 1)
      have nb28 := nbG.2 28 e
      have nb26 := nbG.2 26 e
      refine V.blk h [(.aload_n 0, 1)] (by decide +kernel) (pc' := 37) (ls' := [some (.ref (ax 5 e)), some (.int (nI (b))), some (.int (nI (n))), some (.int (nI (c9))), none, none]) (st' := [.ref (ax 5 e)]) rfl rfl (Nat.le_of_ble_eq_true rfl) ?_
      refine V.getI h cls_5 (j := 10) rfl (hS4.mem (show lv G 5 e from heG)) (hS4.knd (show lv G 5 e from heG)) (Or.inl wf_RX5_122) (by decide +kernel) (v := nI (tn G 28 e)) (hS4.int (show lv G 5 e from heG) (by decide) (by decide) rfl) ?_
      have nb54 := nbG.2 28 e
      refine V.blk h [(.istore 4, 2), (.aload_n 0, 1)] (by decide +kernel) (pc' := 43) (ls' := [some (.ref (ax 5 e)), some (.int (nI (b))), some (.int (nI (n))), some (.int (nI (c9))), some (.int (nI (tn G 28 e))), none]) (st' := [.ref (ax 5 e)]) rfl rfl (Nat.le_of_ble_eq_true rfl) ?_
      refine V.callV h (np := 0) (st := []) (c_leastTold hls hS4 (e := e) heG nbG (by omega) (post := fun v S7 => v = some (.int (oI (lkC G e (tf G 1)))) ∧ Z2 = S7) ⟨rfl, rfl⟩) wc_X5_leastTold wn_RX5 (Or.inl wm_RX5_170) wi_X5_leastTold we_X5_leastTold (by decide +kernel) rfl cls_5 (hS4.mem (show lv G 5 e from heG)) (hS4.knd (show lv G 5 e from heG)) (Nat.le_of_ble_eq_true rfl) (Nat.le_of_ble_eq_true rfl) (Nat.zero_le _) (Nat.zero_le _) (by simp [Value.category]) (by decide +kernel) rfl (fun v Z5 q9 => ?_)
      obtain ⟨rfl, hS9⟩ := q9
      subst hS9
      refine V.eq (S' := Z2) (ls' := [some (.ref (ax 5 e)), some (.int (nI (b))), some (.int (nI (n))), some (.int (nI (c9))), some (.int (nI (tn G 28 e))), none]) (st' := [.int (oI (lkC G e (tf G 1)))]) rfl rfl rfl ?_
      refine V.blk h [(.istore 5, 2), (.aload_n 0, 1), (.iconst 0, 1), (.iload 5, 2)] (by decide +kernel) (pc' := 52) (ls' := [some (.ref (ax 5 e)), some (.int (nI (b))), some (.int (nI (n))), some (.int (nI (c9))), some (.int (nI (tn G 28 e))), some (.int (oI (lkC G e (tf G 1))))]) (st' := [.int (oI (lkC G e (tf G 1))), .int (nI (0)), .ref (ax 5 e)]) rfl rfl (Nat.le_of_ble_eq_true rfl) ?_
      refine V.mmax h wm_RX5_36 (v := nI (lkC G e (tf G 1) - 1)) (mx_0o (by omega)) (by decide +kernel) (Nat.le_of_ble_eq_true rfl) (Nat.le_of_ble_eq_true rfl) (by show 0 ≤ 4 * tf A 13 + 12; omega) (by show 0 ≤ 14 * tf A 13 + 5264; omega) ?_
      refine V.putI h cls_5 (j := 10) rfl (hS4.mem (show lv G 5 e from heG)) (hS4.knd (show lv G 5 e from heG)) (Or.inl wf_RX5_122) rfl rfl rfl (by decide +kernel) ?_
      refine V.gen (P := fun S9 => RA tc (mx ax ay3) (sn G 28 e (lkC G e (tf G 1) - 1)) S9) (hS4.p_5_10 (i := e) (v := (lkC G e (tf G 1) - 1)) (show lv G 5 e from heG)) (fun S6 hS6 => ?_)
      have w28 : tn (sn G 28 e (lkC G e (tf G 1) - 1)) 28 e = lkC G e (tf G 1) - 1 := by rw [tn_sn, if_pos ⟨rfl, rfl⟩]
      have hw26b : tn (sn G 28 e (lkC G e (tf G 1) - 1)) 26 e = tn G 26 e := by rw [tn_sn, if_neg (by omega)]
      have hw26 : tn (sn G 28 e (lkC G e (tf G 1) - 1)) 26 e ≤ tf (sn G 28 e (lkC G e (tf G 1) - 1)) 13 := by rw [tn_sn, if_neg (by omega)]; show tn G 26 e ≤ tf G 13; omega
      have st73 : ∀ (G1 : TS) (S9 : HS) (ay9 : Nat → Nat → Nat), G1 = (rakD (sn G 28 e (lkC G e (tf G 1) - 1)) e (tn G 28 e)) → RA tc (mx ax ay9) G1 S9 → V l D tc A0 p e9 (rmd 10 (4 * tf A 13 + 12) (14 * tf A 13 + 5264)) s m args below meth c 6 (MQ below (zQ D tc post S sz) args s (4 * tf A 13 + 12) (14 * tf A 13 + 5264) (zAd S sz)) S9 (2 * tf A 13) (7 * tf A 13 + 1492) 73 [some (.ref (ax 5 e)), some (.int (nI (b))), some (.int (nI (n))), some (.int (nI (c9))), some (.int (nI (tn G 28 e))), some (.int (oI (lkC G e (tf G 1))))] [] := by
        intro G1 S9 ay9 hG1 hS9
        have kg0 : kR A (sn G 28 e (lkC G e (tf G 1) - 1)) := kg.sn (Or.inl rfl)
        replace kg : kR A G1 := by rw [hG1]; exact rakD_kR kg0
        have heG : e < tf G1 38 := by rw [kg.1 38 (by decide) (by decide)]; exact he
        have g1 : tf G1 1 = tf A 1 := kg.1 1 (by decide) (by decide)
        have g13 : tf G1 13 = tf A 13 := kg.1 13 (by decide) (by decide)
        have g26 : tn G1 26 e = tn A 26 e := kg.2.2.1 26 e (by decide) (by decide) (by decide) (by decide)
        have g27 : tn G1 27 e = tn A 27 e := kg.2.2.1 27 e (by decide) (by decide) (by decide) (by decide)
        have g37 : tn G1 37 e = tn A 37 e := kg.2.2.1 37 e (by decide) (by decide) (by decide) (by decide)
        have d28 := rakD_28 (B := sn G 28 e (lkC G e (tf G 1) - 1)) (e := e) (w := tn G 28 e) kg0.2.1
        rw [← hG1, tn_sn, if_pos ⟨rfl, rfl⟩] at d28
        have nbH : NB (K + 600) G1 := by rw [hG1]; exact rakD_NB (nbG.sn (by omega)) (by omega) he12 (fun i => by rw [tn_sn, if_neg (by omega), kg0.2.2.1 22 i (by decide) (by decide) (by decide) (by decide) |> fun z => (by rw [tn_sn, if_neg (by omega)] at z; exact z : tn G 22 i = tn A 22 i)]; exact hop i) (by rw [tn_sn, if_pos ⟨rfl, rfl⟩]; omega)
        have nb27 := nbH.2 27 e
        have st98 : ∀ (G2 : TS) (S9 : HS) (ay9 : Nat → Nat → Nat), G2 = (rakE G1 e (lkC G e (tf G 1))) → RA tc (mx ax ay9) G2 S9 → V l D tc A0 p e9 (rmd 10 (4 * tf A 13 + 12) (14 * tf A 13 + 5264)) s m args below meth c 6 (MQ below (zQ D tc post S sz) args s (4 * tf A 13 + 12) (14 * tf A 13 + 5264) (zAd S sz)) S9 (2 * tf A 13 + 6) (7 * tf A 13 + 2632) 98 [some (.ref (ax 5 e)), some (.int (nI (b))), some (.int (nI (n))), some (.int (nI (c9))), some (.int (nI (tn G 28 e))), some (.int (oI (lkC G e (tf G 1))))] [] := by
          intro G2 S9 ay9 hG2 hS9
          have e28 := rakE_28 (B := G1) (e := e) (lk := lkC G e (tf G 1))
          rw [← hG2] at e28
          replace kg : kR A G2 := by rw [hG2]; exact rakE_kR kg
          replace nbH : NB (K + 603) G2 := by rw [hG2]; exact rakE_NB nbH (by omega) (by omega) (by omega)
          have heG : e < tf G2 38 := by rw [kg.1 38 (by decide) (by decide)]; exact he
          have g1 : tf G2 1 = tf A 1 := kg.1 1 (by decide) (by decide)
          have g13 : tf G2 13 = tf A 13 := kg.1 13 (by decide) (by decide)
          have g26 : tn G2 26 e = tn A 26 e := kg.2.2.1 26 e (by decide) (by decide) (by decide) (by decide)
          have g27 : tn G2 27 e = tn A 27 e := kg.2.2.1 27 e (by decide) (by decide) (by decide) (by decide)
          have g37 : tn G2 37 e = tn A 37 e := kg.2.2.1 37 e (by decide) (by decide) (by decide) (by decide)
          have st111 : ∀ (G3 : TS) (S9 : HS) (ay9 : Nat → Nat → Nat), G3 = (raG G2 e (tn G 28 e)) → RA tc (mx ax ay9) G3 S9 → V l D tc A0 p e9 (rmd 10 (4 * tf A 13 + 12) (14 * tf A 13 + 5264)) s m args below meth c 6 (MQ below (zQ D tc post S sz) args s (4 * tf A 13 + 12) (14 * tf A 13 + 5264) (zAd S sz)) S9 (2 * tf A 13 + 12) (7 * tf A 13 + 3772) 111 [some (.ref (ax 5 e)), some (.int (nI (b))), some (.int (nI (n))), some (.int (nI (c9))), some (.int (nI (tn G 28 e))), some (.int (oI (lkC G e (tf G 1))))] [] := by
            intro G3 S9 ay9 hG3 hS9
            have e36 := raG_36 (B := G2) (e := e) (w := tn G 28 e) kg.2.1
            rw [← hG3] at e36
            replace kg : kR A G3 := by rw [hG3]; exact raG_kR kg
            replace nbH : NB (K + 606) G3 := by rw [hG3]; exact raG_NB nbH (by omega) (by omega) (by omega)
            have heG : e < tf G3 38 := by rw [kg.1 38 (by decide) (by decide)]; exact he
            have g1 : tf G3 1 = tf A 1 := kg.1 1 (by decide) (by decide)
            have g13 : tf G3 13 = tf A 13 := kg.1 13 (by decide) (by decide)
            have g26 : tn G3 26 e = tn A 26 e := kg.2.2.1 26 e (by decide) (by decide) (by decide) (by decide)
            have g27 : tn G3 27 e = tn A 27 e := kg.2.2.1 27 e (by decide) (by decide) (by decide) (by decide)
            have g37 : tn G3 37 e = tn A 37 e := kg.2.2.1 37 e (by decide) (by decide) (by decide) (by decide)
            replace k36 : ∀ i, tn G3 36 i < 2 ^ tf G3 1 := fun i => by rw [e36, e28.2, d28.2.2, tn_sn, if_neg (by omega), g1]; exact k36 i
            have hgoG : ∀ i, tn G3 33 i ≤ 600 := fun i => by rw [kg.2.2.1 33 i (by decide) (by decide) (by decide) (by decide)]; exact hgo i
            refine V.blk h [(.aload_n 0, 1)] (by decide +kernel) (pc' := 112) (ls' := [some (.ref (ax 5 e)), some (.int (nI (b))), some (.int (nI (n))), some (.int (nI (c9))), some (.int (nI (tn G 28 e))), some (.int (oI (lkC G e (tf G 1))))]) (st' := [.ref (ax 5 e)]) rfl rfl (Nat.le_of_ble_eq_true rfl) ?_
            refine V.callV h (np := 0) (st := []) (c_answerGets hls hS9 (e := e) heG k36 (by omega) hgoG (by omega) nbH (by omega) (post := fun v S8 => v = none ∧ ∃ ay8, RA tc (mx ax ay8) (agC G3 e) S8) (fun S8 ay8 hr8 => ⟨rfl, ay8, hr8⟩)) wc_X5_answerGets wn_RX5 (Or.inl wm_RX5_188) wi_X5_answerGets we_X5_answerGets (by decide +kernel) rfl cls_5 (hS9.mem (show lv G3 5 e from heG)) (hS9.knd (show lv G3 5 e from heG)) (Nat.le_of_ble_eq_true rfl) (Nat.le_of_ble_eq_true rfl) (by show (2 * tf A 13 + 12) + (2 * tf G3 13) ≤ 4 * tf A 13 + 12; omega) (by show (7 * tf A 13 + 3772) + (7 * tf G3 13 + 1492) ≤ 14 * tf A 13 + 5264; omega) (by simp [Value.category]) (by decide +kernel) rfl (fun v Z7 q9 => ?_)
            obtain ⟨rfl, ay8, hS9⟩ := q9
            exact V.vret h hA hr (hp _ _ (by unfold rakC rakX; rw [← hG, ← hG1, ← hG2, ← hG3]; exact hS9)) (by decide +kernel) (by omega) (by omega)
          refine V.blk h [(.aload_n 0, 1)] (by decide +kernel) (pc' := 99) (ls' := [some (.ref (ax 5 e)), some (.int (nI (b))), some (.int (nI (n))), some (.int (nI (c9))), some (.int (nI (tn G 28 e))), some (.int (oI (lkC G e (tf G 1))))]) (st' := [.ref (ax 5 e)]) rfl rfl (Nat.le_of_ble_eq_true rfl) ?_
          refine V.getI h cls_5 (j := 10) rfl (hS9.mem (show lv G2 5 e from heG)) (hS9.knd (show lv G2 5 e from heG)) (Or.inl wf_RX5_122) (by decide +kernel) (v := nI (tn G2 28 e)) (hS9.int (show lv G2 5 e from heG) (by decide) (by decide) rfl) ?_
          have nb113 := nbH.2 28 e
          refine V.blk h [(.iload 4, 2)] (by decide +kernel) (pc' := 104) (ls' := [some (.ref (ax 5 e)), some (.int (nI (b))), some (.int (nI (n))), some (.int (nI (c9))), some (.int (nI (tn G 28 e))), some (.int (oI (lkC G e (tf G 1))))]) (st' := [.int (nI (tn G 28 e)), .int (nI (tn G2 28 e))]) rfl rfl (Nat.le_of_ble_eq_true rfl) ?_
          refine V.icmp_le h (off := 7) (by decide +kernel) (tgt := 111) (by decide) (fun q => ?_) (fun q => ?_)
          · have q104_115 := ((nI_leI (by omega) (by omega)).mp q)
            clear q
            refine V.widen (k' := 2 * tf A 13 + 12) (n' := 7 * tf A 13 + 3772) (by omega) (by omega) ?_
            exact st111 _ _ _ rfl (by unfold raG; rw [if_neg (by omega)]; exact hS9)
          · have q104_115 : ¬ _ := (fun z => q ((nI_leI (by omega) (by omega)).mpr z))
            clear q
            refine V.blk h [(.aload_n 0, 1)] (by decide +kernel) (pc' := 108) (ls' := [some (.ref (ax 5 e)), some (.int (nI (b))), some (.int (nI (n))), some (.int (nI (c9))), some (.int (nI (tn G 28 e))), some (.int (oI (lkC G e (tf G 1))))]) (st' := [.ref (ax 5 e)]) rfl rfl (Nat.le_of_ble_eq_true rfl) ?_
            refine V.callV h (np := 0) (st := []) (c_sendGcs hls hS9 (e := e) heG (post := fun v S8 => v = none ∧ ∃ ay8, RA tc (mx ax ay8) (gsL G2 e (tf G2 1)) S8) (fun S8 ay8 hr8 => ⟨rfl, ay8, hr8⟩)) wc_X5_sendGcs wn_RX5 (Or.inl wm_RX5_185) wi_X5_sendGcs we_X5_sendGcs (by decide +kernel) rfl cls_5 (hS9.mem (show lv G2 5 e from heG)) (hS9.knd (show lv G2 5 e from heG)) (Nat.le_of_ble_eq_true rfl) (Nat.le_of_ble_eq_true rfl) (by show (2 * tf A 13 + 6) + 6 ≤ 4 * tf A 13 + 12; omega) (by show (7 * tf A 13 + 2632) + 1140 ≤ 14 * tf A 13 + 5264; omega) (by simp [Value.category]) (by decide +kernel) rfl (fun v Z10 q9 => ?_)
            obtain ⟨rfl, ay11, hS12⟩ := q9
            refine V.widen (k' := 2 * tf A 13 + 12) (n' := 7 * tf A 13 + 3772) (by omega) (by omega) ?_
            exact st111 _ _ _ rfl (by unfold raG; rw [if_pos (by omega)]; exact hS12)
        refine V.blk h [(.aload_n 0, 1)] (by decide +kernel) (pc' := 74) (ls' := [some (.ref (ax 5 e)), some (.int (nI (b))), some (.int (nI (n))), some (.int (nI (c9))), some (.int (nI (tn G 28 e))), some (.int (oI (lkC G e (tf G 1))))]) (st' := [.ref (ax 5 e)]) rfl rfl (Nat.le_of_ble_eq_true rfl) ?_
        refine V.getI h cls_5 (j := 8) rfl (hS9.mem (show lv G1 5 e from heG)) (hS9.knd (show lv G1 5 e from heG)) (Or.inl wf_RX5_176) (by decide +kernel) (v := bI (tb G1 31 e)) (hS9.int (show lv G1 5 e from heG) (by decide) (by decide) rfl) ?_
        refine V.if_ne h (off := 21) (by decide +kernel) (tgt := 98) (by decide) (fun q => ?_) (fun q => ?_)
        · have q77_129 := (bI_1 (fun z => q (bI_0.mpr z)))
          clear q
          refine V.widen (k' := 2 * tf A 13 + 6) (n' := 7 * tf A 13 + 2632) (by omega) (by omega) ?_
          exact st98 _ _ _ rfl (by unfold rakE; rw [if_neg (by intro z; first | exact absurd (z.1.symm.trans q77_129) (by decide) | omega)]; exact hS9)
        · have q77_129 := (bI_0.mp q)
          clear q
          refine V.blk h [(.iload 5, 2), (.aload_n 0, 1)] (by decide +kernel) (pc' := 83) (ls' := [some (.ref (ax 5 e)), some (.int (nI (b))), some (.int (nI (n))), some (.int (nI (c9))), some (.int (nI (tn G 28 e))), some (.int (oI (lkC G e (tf G 1))))]) (st' := [.ref (ax 5 e), .int (oI (lkC G e (tf G 1)))]) rfl rfl (Nat.le_of_ble_eq_true rfl) ?_
          refine V.getI h cls_5 (j := 9) rfl (hS9.mem (show lv G1 5 e from heG)) (hS9.knd (show lv G1 5 e from heG)) (Or.inl wf_RX5_179) (by decide +kernel) (v := nI (tn G1 27 e)) (hS9.int (show lv G1 5 e from heG) (by decide) (by decide) rfl) ?_
          have nb138 := nbH.2 27 e
          refine V.icmp_lt h (off := 12) (by decide +kernel) (tgt := 98) (by decide) (fun q => ?_) (fun q => ?_)
          · have q86_139 := ((oI_ltN (by omega) (by omega)).mp q)
            clear q
            refine V.widen (k' := 2 * tf A 13 + 6) (n' := 7 * tf A 13 + 2632) (by omega) (by omega) ?_
            exact st98 _ _ _ rfl (by unfold rakE; rw [if_neg (by intro z; first | exact absurd (z.1.symm.trans q86_139) (by decide) | omega)]; exact hS9)
          · have q86_139 : ¬ _ := (fun z => q ((oI_ltN (by omega) (by omega)).mpr z))
            clear q
            refine V.blk h [(.aload_n 0, 1), (.iconst 1, 1)] (by decide +kernel) (pc' := 91) (ls' := [some (.ref (ax 5 e)), some (.int (nI (b))), some (.int (nI (n))), some (.int (nI (c9))), some (.int (nI (tn G 28 e))), some (.int (oI (lkC G e (tf G 1))))]) (st' := [.int (nI (1)), .ref (ax 5 e)]) rfl rfl (Nat.le_of_ble_eq_true rfl) ?_
            refine V.top (v' := .int (bI true)) (by decide) ?_
            refine V.putI h cls_5 (j := 8) rfl (hS9.mem (show lv G1 5 e from heG)) (hS9.knd (show lv G1 5 e from heG)) (Or.inl wf_RX5_176) rfl (bI_nar _) (bI_fit _) (by decide +kernel) ?_
            refine V.gen (P := fun S9 => RA tc (mx ax ay9) (sb G1 31 e true) S9) (hS9.p_5_8 (i := e) (v := true) (show lv G1 5 e from heG)) (fun S13 hS13 => ?_)
            refine V.blk h [(.aload_n 0, 1)] (by decide +kernel) (pc' := 95) (ls' := [some (.ref (ax 5 e)), some (.int (nI (b))), some (.int (nI (n))), some (.int (nI (c9))), some (.int (nI (tn G 28 e))), some (.int (oI (lkC G e (tf G 1))))]) (st' := [.ref (ax 5 e)]) rfl rfl (Nat.le_of_ble_eq_true rfl) ?_
            refine V.callV h (np := 0) (st := []) (c_sendResets hls hS13 (e := e) (show e < tf (sb G1 31 e true) 38 from heG) (post := fun v S8 => v = none ∧ ∃ ay8, RA tc (mx ax ay8) (if 0 < e then resF (sb G1 31 e true) e else (sb G1 31 e true)) S8) (fun S8 ay8 hr8 => ⟨rfl, ay8, hr8⟩)) wc_X5_sendResets wn_RX5 (Or.inl wm_RX5_182) wi_X5_sendResets we_X5_sendResets (by decide +kernel) rfl cls_5 (hS13.mem (show lv (sb G1 31 e true) 5 e from heG)) (hS13.knd (show lv (sb G1 31 e true) 5 e from heG)) (Nat.le_of_ble_eq_true rfl) (Nat.le_of_ble_eq_true rfl) (by show (2 * tf A 13) + 6 ≤ 4 * tf A 13 + 12; omega) (by show (7 * tf A 13 + 1492) + 1140 ≤ 14 * tf A 13 + 5264; omega) (by simp [Value.category]) (by decide +kernel) rfl (fun v Z14 q9 => ?_)
            obtain ⟨rfl, ay15, hS16⟩ := q9
            refine V.widen (k' := 2 * tf A 13 + 6) (n' := 7 * tf A 13 + 2632) (by omega) (by omega) ?_
            exact st98 _ _ _ rfl (by unfold rakE; rw [if_pos ⟨by assumption, by omega⟩]; exact hS16)
      refine V.blk h [(.aload_n 0, 1)] (by decide +kernel) (pc' := 59) (ls' := [some (.ref (ax 5 e)), some (.int (nI (b))), some (.int (nI (n))), some (.int (nI (c9))), some (.int (nI (tn G 28 e))), some (.int (oI (lkC G e (tf G 1))))]) (st' := [.ref (ax 5 e)]) rfl rfl (Nat.le_of_ble_eq_true rfl) ?_
      refine V.getI h cls_5 (j := 10) rfl (hS6.mem (show lv (sn G 28 e (lkC G e (tf G 1) - 1)) 5 e from heG)) (hS6.knd (show lv (sn G 28 e (lkC G e (tf G 1) - 1)) 5 e from heG)) (Or.inl wf_RX5_122) (by decide +kernel) (v := nI (tn (sn G 28 e (lkC G e (tf G 1) - 1)) 28 e)) (hS6.int (show lv (sn G 28 e (lkC G e (tf G 1) - 1)) 5 e from heG) (by decide) (by decide) rfl) ?_
      refine V.blk h [(.iload 4, 2)] (by decide +kernel) (pc' := 64) (ls' := [some (.ref (ax 5 e)), some (.int (nI (b))), some (.int (nI (n))), some (.int (nI (c9))), some (.int (nI (tn G 28 e))), some (.int (oI (lkC G e (tf G 1))))]) (st' := [.int (nI (tn G 28 e)), .int (nI (tn (sn G 28 e (lkC G e (tf G 1) - 1)) 28 e))]) rfl rfl (Nat.le_of_ble_eq_true rfl) ?_
      refine V.icmp_le h (off := 9) (by decide +kernel) (tgt := 73) (by decide) (fun q => ?_) (fun q => ?_)
      · have q64_158 := ((nI_leI (by omega) (by omega)).mp q)
        clear q
        refine V.widen (k' := 2 * tf A 13) (n' := 7 * tf A 13 + 1492) (by omega) (by omega) ?_
        exact st73 _ _ _ rfl (by unfold rakD; rw [if_neg (by have := w28; omega)]; exact hS6)
      · have q64_158 : ¬ _ := (fun z => q ((nI_leI (by omega) (by omega)).mpr z))
        clear q
        refine V.blk h [(.aload_n 0, 1), (.iload 4, 2)] (by decide +kernel) (pc' := 70) (ls' := [some (.ref (ax 5 e)), some (.int (nI (b))), some (.int (nI (n))), some (.int (nI (c9))), some (.int (nI (tn G 28 e))), some (.int (oI (lkC G e (tf G 1))))]) (st' := [.int (nI (tn G 28 e)), .ref (ax 5 e)]) rfl rfl (Nat.le_of_ble_eq_true rfl) ?_
        refine V.callV h (np := 1) (st := []) (c_answerAwaited hls hS6 (e := e) (was := tn G 28 e) (show e < tf G 38 from heG) (by have := w28; omega) (by have := w28; have := hw26b; omega) hw26 (nbG.sn (by omega)) (by omega) (post := fun v S8 => v = none ∧ ∃ ay8, RA tc (mx ax ay8) (aaL (sn G 28 e (lkC G e (tf G 1) - 1)) e (tn G 28 e) (tn (sn G 28 e (lkC G e (tf G 1) - 1)) 28 e - (tn G 28 e))) S8) (fun S8 ay8 hr8 => ⟨rfl, ay8, hr8⟩)) wc_X5_answerAwaited wn_RX5 (Or.inl wm_RX5_173) wi_X5_answerAwaited we_X5_answerAwaited (by decide +kernel) rfl cls_5 (hS6.mem (show lv (sn G 28 e (lkC G e (tf G 1) - 1)) 5 e from heG)) (hS6.knd (show lv (sn G 28 e (lkC G e (tf G 1) - 1)) 5 e from heG)) (Nat.le_of_ble_eq_true rfl) (Nat.le_of_ble_eq_true rfl) (by show 0 + (2 * tf G 13) ≤ 4 * tf A 13 + 12; omega) (by show 0 + (7 * tf G 13 + 1492) ≤ 14 * tf A 13 + 5264; omega) (by simp [Value.category]) (by decide +kernel) rfl (fun v Z17 q9 => ?_)
        obtain ⟨rfl, ay18, hS19⟩ := q9
        refine V.used (k' := 2 * tf G 13) (n' := 7 * tf G 13 + 1492) (show 0 + 0 + 2 * tf G 13 = 2 * tf G 13 by omega) (show 0 + 0 + (7 * tf G 13 + 1492) = 7 * tf G 13 + 1492 by omega) ?_
        refine V.widen (k' := 2 * tf A 13) (n' := 7 * tf A 13 + 1492) (by omega) (by omega) ?_
        exact st73 _ _ _ rfl (by unfold rakD; rw [if_pos (by have := w28; omega)]; exact hS19)
    · have q10_19 : ¬ _ := (fun z => q ((nI_ltI (by omega) (by omega)).mpr z))
      clear q
      omega
