/-! ===== the confirmed gets are answered, then taken out ===== -/
def agP (A : TS) (e : Nat) : Nat → TS
  | 0 => A
  | k + 1 => if rdF (agP A e k) e (600 * e + k) = true then ansF (agP A e k) e (tn (agP A e k) 33 (600 * e + k)) (tr (agP A e k) 2 (600 * e + k)) true else agP A e k
theorem agP_keep (A : TS) (e : Nat) : ∀ k, keepL A (agP A e k)
  | 0 => keepL.rfl
  | k + 1 => by
    have h := agP_keep A e k
    unfold agP
    split
    · exact h.trans (ans_keep ..)
    · exact h
def agQ (W : TS) (e n : Nat) : Nat → TS
  | 0 => W
  | j + 1 => if rdF (agQ W e n j) e (600 * e + (n - j - 1)) = true then rmG (agQ W e n j) e (n - j - 1) else agQ W e n j
theorem agQ_more {W : TS} {e n : Nat} (hn : n = tn W 37 e) (h36 : ∀ i, tn W 36 i < 2 ^ tf W 1) : ∀ j, j ≤ n → (∀ x, tf (agQ W e n j) x = tf W x) ∧ (∀ i, tn (agQ W e n j) 36 i < 2 ^ tf W 1) ∧ n - j ≤ tn (agQ W e n j) 37 e ∧ tn (agQ W e n j) 37 e ≤ n ∧ (∀ x i, ¬ (33 ≤ x ∧ x ≤ 37) → tn (agQ W e n j) x i = tn W x i)
  | 0, _ => ⟨fun _ => rfl, h36, by rw [hn]; exact Nat.le_refl _, by rw [hn]; exact Nat.le_refl _, fun _ _ _ => rfl⟩
  | j + 1, hj => by
    obtain ⟨h1, h2, h3, h4, h5⟩ := agQ_more hn h36 j (by omega)
    unfold agQ
    generalize agQ W e n j = G at *
    split
    · have e37 : tn (rmG G e (n - j - 1)) 37 e = tn G 37 e - 1 := by
        show (if 33 ≤ 37 ∧ 37 ≤ 36 then tn G 37 (shG G e (n - j - 1) e) else if 37 = 37 ∧ e = e then tn G 37 e - 1 else tn G 37 e) = _
        rw [if_neg (by omega), if_pos ⟨rfl, rfl⟩]
      refine ⟨h1, fun i => ?_, by rw [e37]; omega, by rw [e37]; omega, fun x i q => ?_⟩
      · show (if 33 ≤ 36 ∧ 36 ≤ 36 then tn G 36 (shG G e (n - j - 1) i) else if 36 = 37 ∧ i = e then tn G 37 e - 1 else tn G 36 i) < 2 ^ tf W 1
        rw [if_pos (by omega)]
        exact h2 _
      · show (if 33 ≤ x ∧ x ≤ 36 then tn G x (shG G e (n - j - 1) i) else if x = 37 ∧ i = e then tn G 37 e - 1 else tn G x i) = _
        rw [if_neg (by omega), if_neg (by omega)]
        exact h5 x i q
    · exact ⟨h1, h2, by omega, h4, h5⟩
def agC (A : TS) (e : Nat) : TS := agQ (agP A e (tn A 37 e)) e (tn A 37 e) (tn A 37 e)
theorem gt_9 {ax ay : Nat → Nat → Nat} {sh : Nat → Nat} : ∃ ay1, aT (mx ax ay) 8 sh = mx ax ay1 := ⟨_, SL.is (aT_SL (Or.inr rfl))⟩
theorem agP_NB {K : Nat} {A : TS} {e : Nat} (h : NB K A) (h9 : 7300 ≤ K) (he : e < 12) (hop : ∀ i, tn A 33 i ≤ 600) : ∀ k, NB (K + k) (agP A e k)
  | 0 => h
  | k + 1 => by
    have h1 := agP_NB h h9 he hop k
    have ho := hop (600 * e + k)
    have hk : tn (agP A e k) 33 (600 * e + k) = tn A 33 (600 * e + k) := (agP_keep A e k).2.1 33 _ (by decide)
    unfold agP
    rw [← hk] at ho
    generalize agP A e k = G at *
    have a5 := h1.2 5 (tn G 33 (600 * e + k))
    have a6 := h1.2 6 (tn G 33 (600 * e + k))
    split
    · exact h1.send (by omega) (by omega) (by omega) (by omega) (by omega) (by omega) (by omega)
    · exact h1.mono (by omega)
theorem rmG_NB {K : Nat} {A : TS} {e k : Nat} (h : NB K A) : NB K (rmG A e k) := ⟨h.1, fun j i => by
  show (if 33 ≤ j ∧ j ≤ 36 then tn A j (shG A e k i) else if j = 37 ∧ i = e then tn A 37 e - 1 else tn A j i) ≤ K
  have := h.2 37 e
  split
  · exact h.2 _ _
  · split
    · omega
    · exact h.2 _ _⟩
theorem agQ_NB {K : Nat} {W : TS} {e n : Nat} (h : NB K W) : ∀ j, NB K (agQ W e n j)
  | 0 => h
  | j + 1 => by
    have := agQ_NB (e := e) (n := n) h j
    unfold agQ
    split
    · exact rmG_NB this
    · exact this
set_option maxRecDepth 100000 in
set_option maxHeartbeats 4000000 in
theorem c_answerGets {l : Launch} {D : va_G} {tc : Nat → ClassId} {ax ay : Nat → Nat → Nat} {A : TS} {S : HS} (hls : l.stackTraces = false) (hS : RA tc (mx ax ay) A S) {e : Nat} {K : Nat}  (he : e < tf A 38) (h36 : ∀ i, tn A 36 i < 2 ^ tf A 1) (h13 : tn A 37 e ≤ tf A 13) (hgo : ∀ i, tn A 33 i ≤ 600) (h9 : 7300 ≤ K) (hB : NB K A) (hK : K < 1800000000) {post : Option Value → HS → Prop} (hp : ∀ (S8 : HS) (ay8 : Nat → Nat → Nat), RA tc (mx ax ay8) (agC A e) S8 → post none S8) : CM l D tc yX5_answerGets cX5_answerGets 3 (none) 9 (2 * tf A 13) (7 * tf A 13 + 1492) [.ref (ax 5 e)] S post := by
  refine CM.of hls (by decide +kernel) (by simp [Value.category]) (Nat.le_of_ble_eq_true rfl) (fun A0 p e9 s m args below meth c sz h hr hnm hA => ?_)
  have h12 := hS.2.2.2.1.2.1
  have hh13 := hS.2.2.2.1.2.2.2.1
  have h600 := hS.2.2.2.2.1 e he
  have h53 := hS.2.2.2.1.2.2.2.2
  have hb26 := hB.2 26 e
  have hb37 := hB.2 37 e
  replace he : e < tf A 38 := he
  have he12 : e < 12 := by omega
  refine V.eqL (ls' := [some (.ref (ax 5 e)), none, none]) rfl ?_
  refine V.blk h [(.iconst 0, 1), (.istore_n 1, 1)] (by decide +kernel) (pc' := 2) (ls' := [some (.ref (ax 5 e)), some (.int (nI (0))), none]) (st' := []) rfl rfl (Nat.le_of_ble_eq_true rfl) ?_
  have loop2 : ∀ (t k : Nat) (S9 : HS) (ay9 : Nat → Nat → Nat), RA tc (mx ax ay9) (agP A e k) S9 → tn A 37 e - k = t → k ≤ tn A 37 e → (ay 50 0 ≤ ay9 50 0 ∧ (ay9 50 0 ≤ 373 ∨ ay9 50 0 = ay 50 0)) → V l D tc A0 p e9 (rmd 9 (2 * tf A 13) (7 * tf A 13 + 1492)) s m args below meth c 3 (MQ below (zQ D tc post S sz) args s (2 * tf A 13) (7 * tf A 13 + 1492) (zAd S sz)) S9 (2 * k) (7 * k + 4 * (ay9 50 0 - ay 50 0)) 2 [some (.ref (ax 5 e)), some (.int (nI (k))), none] [] := by
    intro t; induction t using Nat.strongRecOn with
    | _ t ih2 =>
      intro k S9 ay9 hS9 ht2 hk2 inv2
      have hw53 := hS9.2.2.2.1.2.2.2.2
      have hnx := nxM_le (M := ay9 50 0) hw53
      obtain ⟨G, hG⟩ : ∃ X9 : TS, X9 = (agP A e k) := ⟨_, rfl⟩
      rw [← hG] at hS9
      have kg : keepL A G := by rw [hG]; exact agP_keep A e k
      have heG : e < tf G 38 := by rw [kg.1 38 (by decide) (by decide)]; exact he
      have g37 : tn G 37 e = tn A 37 e := kg.2.1 37 e (by decide)
      have g1 : tf G 1 = tf A 1 := kg.1 1 (by decide) (by decide)
      have g36 : tn G 36 (600 * e + k) < 2 ^ tf G 1 := by rw [g1, kg.2.1 36 _ (by decide)]; exact h36 _
      have hbG : NB (K + k) G := by rw [hG]; exact agP_NB hB h9 he12 hgo k
      rw [← hG] at hnx
      refine V.blk h [(.iload_n 1, 1), (.aload_n 0, 1)] (by decide +kernel) (pc' := 4) (ls' := [some (.ref (ax 5 e)), some (.int (nI (k))), none]) (st' := [.ref (ax 5 e), .int (nI (k))]) rfl rfl (Nat.le_of_ble_eq_true rfl) ?_
      refine V.getP h cls_5 (j := 4) rfl (hS9.mem (show lv G 5 e from heG)) (hS9.knd (show lv G 5 e from heG)) (Or.inl wf_RX5_29) (by decide +kernel) (v := some (ax 0 (15 + e))) (hS9.ptr (show lv G 5 e from heG) (by decide) (by decide) rfl) ?_
      refine V.eq (S' := S9) (ls' := [some (.ref (ax 5 e)), some (.int (nI (k))), none]) (st' := [.ref (ax 0 (15 + e)), .int (nI (k))]) rfl rfl rfl ?_
      refine V.callV h (np := 0) (st := [.int (nI (k))]) (s_gts hls hS9 heG (post := fun v S7 => v = some (.int (nI (tn G 37 e))) ∧ S9 = S7) ⟨rfl, rfl⟩) wc_Jx4a65c_size_8abf5 wn_RJx4a65c (Or.inl wm_RX5_58) wi_Jx4a65c_size_8abf5 we_Jx4a65c_size_8abf5 (by decide +kernel) rfl cls_0 (hS9.mem (show lv G 0 (15 + e) from (lv_gts heG))) (hS9.knd (show lv G 0 (15 + e) from (lv_gts heG))) (Nat.le_of_ble_eq_true rfl) (Nat.le_of_ble_eq_true rfl) (by show (2 * k) + 0 ≤ 2 * tf A 13; omega) (by show (7 * k + 4 * (ay9 50 0 - ay 50 0)) + 0 ≤ 7 * tf A 13 + 1492; omega) (by simp [Value.category]) (by decide +kernel) rfl (fun v Z1 q9 => ?_)
      obtain ⟨rfl, hS9⟩ := q9
      subst hS9
      refine V.eq (S' := S9) (ls' := [some (.ref (ax 5 e)), some (.int (nI (k))), none]) (st' := [.int (nI (tn G 37 e)), .int (nI (k))]) rfl rfl rfl ?_
      have nb32 := hbG.2 37 e
      refine V.icmp_ge h (off := 52) (by decide +kernel) (tgt := 62) (by decide) (fun q => ?_) (fun q => ?_)
      · have q10_33 := ((nI_leI (by omega) (by omega)).mp q)
        clear q
        refine V.widen (k' := 2 * tf A 13) (n' := 7 * tf A 13 + 1492) (by omega) (by omega) ?_
        have hGe : agP A e (tn A 37 e) = G := by rw [show tn A 37 e = k from by omega]; exact hG.symm
        rw [← hGe] at hS9
        have heW : e < tf (agP A e (tn A 37 e)) 38 := by rw [hGe]; exact heG
        have w37 : tn (agP A e (tn A 37 e)) 37 e = tn A 37 e := (agP_keep A e _).2.1 37 e (by decide)
        refine V.blk h [(.aload_n 0, 1)] (by decide +kernel) (pc' := 63) (ls' := [some (.ref (ax 5 e)), some (.int (nI (k))), none]) (st' := [.ref (ax 5 e)]) rfl rfl (Nat.le_of_ble_eq_true rfl) ?_
        refine V.getP h cls_5 (j := 4) rfl (hS9.mem (show lv (agP A e (tn A 37 e)) 5 e from heW)) (hS9.knd (show lv (agP A e (tn A 37 e)) 5 e from heW)) (Or.inl wf_RX5_29) (by decide +kernel) (v := some (ax 0 (15 + e))) (hS9.ptr (show lv (agP A e (tn A 37 e)) 5 e from heW) (by decide) (by decide) rfl) ?_
        refine V.eq (S' := S9) (ls' := [some (.ref (ax 5 e)), some (.int (nI (k))), none]) (st' := [.ref (ax 0 (15 + e))]) rfl rfl rfl ?_
        refine V.callV h (np := 0) (st := []) (s_gts hls hS9 heW (post := fun v S7 => v = some (.int (nI (tn (agP A e (tn A 37 e)) 37 e))) ∧ S9 = S7) ⟨rfl, rfl⟩) wc_Jx4a65c_size_8abf5 wn_RJx4a65c (Or.inl wm_RX5_58) wi_Jx4a65c_size_8abf5 we_Jx4a65c_size_8abf5 (by decide +kernel) rfl cls_0 (hS9.mem (show lv (agP A e (tn A 37 e)) 0 (15 + e) from (lv_gts heW))) (hS9.knd (show lv (agP A e (tn A 37 e)) 0 (15 + e) from (lv_gts heW))) (Nat.le_of_ble_eq_true rfl) (Nat.le_of_ble_eq_true rfl) (by show (2 * tf A 13) + 0 ≤ 2 * tf A 13; omega) (by show (7 * tf A 13 + 1492) + 0 ≤ 7 * tf A 13 + 1492; omega) (by simp [Value.category]) (by decide +kernel) rfl (fun v Z2 q9 => ?_)
        obtain ⟨rfl, hS9⟩ := q9
        subst hS9
        refine V.eq (S' := S9) (ls' := [some (.ref (ax 5 e)), some (.int (nI (k))), none]) (st' := [.int (nI (tn (agP A e (tn A 37 e)) 37 e))]) rfl rfl rfl ?_
        refine V.blk h [(.iconst 1, 1)] (by decide +kernel) (pc' := 70) (ls' := [some (.ref (ax 5 e)), some (.int (nI (k))), none]) (st' := [.int (nI (1)), .int (nI (tn (agP A e (tn A 37 e)) 37 e))]) rfl rfl (Nat.le_of_ble_eq_true rfl) ?_
        refine V.blk h [(.isub, 1)] (by decide +kernel) (pc' := 71) (ls' := [some (.ref (ax 5 e)), some (.int (nI (k))), none]) (st' := [.int (nI (tn (agP A e (tn A 37 e)) 37 e) - nI 1)]) rfl rfl (Nat.le_of_ble_eq_true rfl) ?_
        refine V.top (v' := .int (oI (tn (agP A e (tn A 37 e)) 37 e))) rfl ?_
        refine V.blk h [(.istore_n 1, 1)] (by decide +kernel) (pc' := 72) (ls' := [some (.ref (ax 5 e)), some (.int (oI (tn (agP A e (tn A 37 e)) 37 e))), none]) (st' := []) rfl rfl (Nat.le_of_ble_eq_true rfl) ?_
        refine V.eqL (ls' := [some (.ref (ax 5 e)), some (.int (oI (tn A 37 e))), none]) (by rw [w37]) ?_
        have loop72 : ∀ (t j : Nat) (S9 : HS) (ay9 : Nat → Nat → Nat), RA tc (mx ax ay9) (agQ (agP A e (tn A 37 e)) e (tn A 37 e) j) S9 → tn A 37 e - j = t → j ≤ tn A 37 e → V l D tc A0 p e9 (rmd 9 (2 * tf A 13) (7 * tf A 13 + 1492)) s m args below meth c 3 (MQ below (zQ D tc post S sz) args s (2 * tf A 13) (7 * tf A 13 + 1492) (zAd S sz)) S9 (2 * tf A 13) (7 * tf A 13 + 1492) 72 [some (.ref (ax 5 e)), some (.int (oI (tn A 37 e - j))), none] [] := by
          intro t; induction t using Nat.strongRecOn with
          | _ t ih72 =>
            intro j S9 ay9 hS9 ht72 hk72
            obtain ⟨G, hG⟩ : ∃ X9 : TS, X9 = (agQ (agP A e (tn A 37 e)) e (tn A 37 e) j) := ⟨_, rfl⟩
            rw [← hG] at hS9
            have kg := agQ_more (W := agP A e (tn A 37 e)) (e := e) (n := tn A 37 e) ((agP_keep A e _).2.1 37 e (by decide)).symm (fun i => by rw [(agP_keep A e _).1 1 (by decide) (by decide), (agP_keep A e _).2.1 36 i (by decide)]; exact h36 i) j (by omega)
            rw [← hG] at kg
            obtain ⟨k1, k2, k3, k4, k5⟩ := kg
            have heG : e < tf G 38 := by rw [k1, (agP_keep A e _).1 38 (by decide) (by decide)]; exact he
            have g36 : tn G 36 (600 * e + (tn A 37 e - j - 1)) < 2 ^ tf G 1 := by rw [k1]; exact k2 _
            have hbG : NB (K + tn A 37 e) G := by rw [hG]; exact agQ_NB (agP_NB hB h9 he12 hgo _) _
            refine V.blk h [(.iload_n 1, 1)] (by decide +kernel) (pc' := 73) (ls' := [some (.ref (ax 5 e)), some (.int (oI (tn A 37 e - j))), none]) (st' := [.int (oI (tn A 37 e - j))]) rfl rfl (Nat.le_of_ble_eq_true rfl) ?_
            refine V.if_lt h (off := 36) (by decide +kernel) (tgt := 109) (by decide) (fun q => ?_) (fun q => ?_)
            · have q73_66 := ((oI_neg (by omega)).mp q)
              clear q
              exact V.vret h hA hr (hp _ _ (by unfold agC; rw [show agQ (agP A e (tn A 37 e)) e (tn A 37 e) (tn A 37 e) = G from by rw [hG, show j = tn A 37 e from by omega]]; exact hS9)) (by decide +kernel) (by omega) (by omega)
            · have q73_66 : ¬ _ := (fun z => q ((oI_neg (by omega)).mpr z))
              clear q
              refine V.blk h [(.aload_n 0, 1), (.aload_n 0, 1)] (by decide +kernel) (pc' := 78) (ls' := [some (.ref (ax 5 e)), some (.int (oI (tn A 37 e - j))), none]) (st' := [.ref (ax 5 e), .ref (ax 5 e)]) rfl rfl (Nat.le_of_ble_eq_true rfl) ?_
              refine V.getP h cls_5 (j := 4) rfl (hS9.mem (show lv G 5 e from heG)) (hS9.knd (show lv G 5 e from heG)) (Or.inl wf_RX5_29) (by decide +kernel) (v := some (ax 0 (15 + e))) (hS9.ptr (show lv G 5 e from heG) (by decide) (by decide) rfl) ?_
              refine V.eq (S' := S9) (ls' := [some (.ref (ax 5 e)), some (.int (oI (tn A 37 e - j))), none]) (st' := [.ref (ax 0 (15 + e)), .ref (ax 5 e)]) rfl rfl rfl ?_
              refine V.blk h [(.iload_n 1, 1)] (by decide +kernel) (pc' := 82) (ls' := [some (.ref (ax 5 e)), some (.int (oI (tn A 37 e - j))), none]) (st' := [.int (oI (tn A 37 e - j)), .ref (ax 0 (15 + e)), .ref (ax 5 e)]) rfl rfl (Nat.le_of_ble_eq_true rfl) ?_
              refine V.top (v' := .int (nI ((tn A 37 e - j) - 1))) (oI_pos (by omega)) ?_
              refine V.callV h (np := 1) (st := [.ref (ax 5 e)]) (g_gts hls hS9 heG (k := (tn A 37 e - j) - 1) (by omega) (post := fun v S7 => v = some (.ref (ay9 8 (600 * e + ((tn A 37 e - j) - 1)))) ∧ S9 = S7) ⟨rfl, rfl⟩) wc_Jx4a65c_get_915e3 wn_RJx4a65c (Or.inl wm_RX5_62) wi_Jx4a65c_get_915e3 we_Jx4a65c_get_915e3 (by decide +kernel) rfl cls_0 (hS9.mem (show lv G 0 (15 + e) from (lv_gts heG))) (hS9.knd (show lv G 0 (15 + e) from (lv_gts heG))) (Nat.le_of_ble_eq_true rfl) (Nat.le_of_ble_eq_true rfl) (by show (2 * tf A 13) + 0 ≤ 2 * tf A 13; omega) (by show (7 * tf A 13 + 1492) + 0 ≤ 7 * tf A 13 + 1492; omega) (by simp [Value.category]) (by decide +kernel) rfl (fun v Z3 q9 => ?_)
              obtain ⟨rfl, hS9⟩ := q9
              subst hS9
              refine V.eq (S' := S9) (ls' := [some (.ref (ax 5 e)), some (.int (oI (tn A 37 e - j))), none]) (st' := [.ref (ay9 8 (600 * e + ((tn A 37 e - j) - 1))), .ref (ax 5 e)]) rfl rfl rfl ?_
              refine V.castS h cls_8 (hS9.mem (show lv G 8 (600 * e + ((tn A 37 e - j) - 1)) from (lv_get hS9 heG (by omega)))) (hS9.knd (show lv G 8 (600 * e + ((tn A 37 e - j) - 1)) from (lv_get hS9 heG (by omega)))) wl_RX5_154 (by decide +kernel) ?_
              refine V.callV h (np := 1) (st := []) (c_isReady hls hS9 (e := e) (k := ((tn A 37 e - j) - 1)) heG (by omega) g36 hbG (by omega) (post := fun v S7 => v = some (.int (bI (rdF G e (600 * e + ((tn A 37 e - j) - 1))))) ∧ S9 = S7) ⟨rfl, rfl⟩) wc_X5_isReady wn_RX5 (Or.inl wm_RX5_198) wi_X5_isReady we_X5_isReady (by decide +kernel) rfl cls_5 (hS9.mem (show lv G 5 e from heG)) (hS9.knd (show lv G 5 e from heG)) (Nat.le_of_ble_eq_true rfl) (Nat.le_of_ble_eq_true rfl) (by show (2 * tf A 13) + 0 ≤ 2 * tf A 13; omega) (by show (7 * tf A 13 + 1492) + 0 ≤ 7 * tf A 13 + 1492; omega) (by simp [Value.category]) (by decide +kernel) rfl (fun v Z4 q9 => ?_)
              obtain ⟨rfl, hS9⟩ := q9
              subst hS9
              refine V.eq (S' := S9) (ls' := [some (.ref (ax 5 e)), some (.int (oI (tn A 37 e - j))), none]) (st' := [.int (bI (rdF G e (600 * e + ((tn A 37 e - j) - 1))))]) rfl rfl rfl ?_
              refine V.if_eq h (off := 12) (by decide +kernel) (tgt := 103) (by decide) (fun q => ?_) (fun q => ?_)
              · have q91_86 := (bI_0.mp q)
                clear q
                refine V.decO h (t := tn A 37 e - j) (i := 1) (by decide +kernel) rfl (by omega) (Nat.le_of_ble_eq_true rfl) ?_
                refine V.eqL (ls' := [some (.ref (ax 5 e)), some (.int (oI ((tn A 37 e - j) - 1))), none]) rfl ?_
                refine V.goto h (off := -34) (tgt := 72) (by decide +kernel) (by decide) ?_
                refine V.eqL (ls' := [some (.ref (ax 5 e)), some (.int (oI (tn A 37 e - (j + 1)))), none]) (by rw [show tn A 37 e - (j + 1) = tn A 37 e - j - 1 by omega]) ?_
                exact ih72 (tn A 37 e - (j + 1)) (by omega) (j + 1) S9 ay9 (by show RA tc _ (if rdF (agQ (agP A e (tn A 37 e)) e (tn A 37 e) j) e (600 * e + (tn A 37 e - j - 1)) = true then rmG (agQ (agP A e (tn A 37 e)) e (tn A 37 e) j) e (tn A 37 e - j - 1) else (agQ (agP A e (tn A 37 e)) e (tn A 37 e) j)) _; rw [← hG, if_neg (by rw [q91_86]; decide)]; exact hS9) rfl (by omega)
              · have q91_86 := (bI_1 (fun z => q (bI_0.mpr z)))
                clear q
                refine V.blk h [(.aload_n 0, 1)] (by decide +kernel) (pc' := 95) (ls' := [some (.ref (ax 5 e)), some (.int (oI (tn A 37 e - j))), none]) (st' := [.ref (ax 5 e)]) rfl rfl (Nat.le_of_ble_eq_true rfl) ?_
                refine V.getP h cls_5 (j := 4) rfl (hS9.mem (show lv G 5 e from heG)) (hS9.knd (show lv G 5 e from heG)) (Or.inl wf_RX5_29) (by decide +kernel) (v := some (ax 0 (15 + e))) (hS9.ptr (show lv G 5 e from heG) (by decide) (by decide) rfl) ?_
                refine V.eq (S' := S9) (ls' := [some (.ref (ax 5 e)), some (.int (oI (tn A 37 e - j))), none]) (st' := [.ref (ax 0 (15 + e))]) rfl rfl rfl ?_
                refine V.blk h [(.iload_n 1, 1)] (by decide +kernel) (pc' := 99) (ls' := [some (.ref (ax 5 e)), some (.int (oI (tn A 37 e - j))), none]) (st' := [.int (oI (tn A 37 e - j)), .ref (ax 0 (15 + e))]) rfl rfl (Nat.le_of_ble_eq_true rfl) ?_
                refine V.top (v' := .int (nI ((tn A 37 e - j) - 1))) (oI_pos (by omega)) ?_
                refine V.callV h (np := 1) (st := []) (l_remove hls hS9 (i := 15 + e) (k := (tn A 37 e - j) - 1) (lv_gts heG) (by rw [lsz_g (by omega)]; omega) (post := fun v S7 => v = some (.ref (ay9 8 (600 * e + ((tn A 37 e - j) - 1)))) ∧ rmS S9 (ax 0 (15 + e)) (ay9 23 (15 + e)) ((tn A 37 e - j) - 1) (tn G 37 e) = S7) (by rw [lfam_g (by omega), lix_g (by omega), lsz_g (by omega)]; exact ⟨rfl, rfl⟩)) wc_Jx4a65c_remove_915e3 wn_RJx4a65c (Or.inl wm_RX5_217) wi_Jx4a65c_remove_915e3 we_Jx4a65c_remove_915e3 (by decide +kernel) rfl cls_0 (hS9.mem (show lv G 0 (15 + e) from (lv_gts heG))) (hS9.knd (show lv G 0 (15 + e) from (lv_gts heG))) (Nat.le_of_ble_eq_true rfl) (Nat.le_of_ble_eq_true rfl) (by show (2 * tf A 13) + 0 ≤ 2 * tf A 13; omega) (by show (7 * tf A 13 + 1492) + 0 ≤ 7 * tf A 13 + 1492; omega) (by simp [Value.category]) (by decide +kernel) rfl (fun v Z5 q9 => ?_)
                obtain ⟨rfl, hq9⟩ := q9
                have hr9 := hS9.rmGot (k := (tn A 37 e - j) - 1) heG (by omega)
                obtain ⟨ay7, hay⟩ := gt_9 (ax := ax) (ay := ay9) (sh := shG G e ((tn A 37 e - j) - 1))
                rw [hay] at hr9
                have hr8 : RA tc (mx ax ay7) (rmG G e ((tn A 37 e - j) - 1)) Z5 := hq9 ▸ hr9
                refine V.eq (S' := Z5) (ls' := [some (.ref (ax 5 e)), some (.int (oI (tn A 37 e - j))), none]) (st' := [.ref (ay9 8 (600 * e + ((tn A 37 e - j) - 1)))]) rfl rfl rfl ?_
                refine V.blk h [(.pop, 1)] (by decide +kernel) (pc' := 103) (ls' := [some (.ref (ax 5 e)), some (.int (oI (tn A 37 e - j))), none]) (st' := []) rfl rfl (Nat.le_of_ble_eq_true rfl) ?_
                refine V.decO h (t := tn A 37 e - j) (i := 1) (by decide +kernel) rfl (by omega) (Nat.le_of_ble_eq_true rfl) ?_
                refine V.eqL (ls' := [some (.ref (ax 5 e)), some (.int (oI ((tn A 37 e - j) - 1))), none]) rfl ?_
                refine V.goto h (off := -34) (tgt := 72) (by decide +kernel) (by decide) ?_
                refine V.eqL (ls' := [some (.ref (ax 5 e)), some (.int (oI (tn A 37 e - (j + 1)))), none]) (by rw [show tn A 37 e - (j + 1) = tn A 37 e - j - 1 by omega]) ?_
                exact ih72 (tn A 37 e - (j + 1)) (by omega) (j + 1) Z5 ay7 (by show RA tc _ (if rdF (agQ (agP A e (tn A 37 e)) e (tn A 37 e) j) e (600 * e + (tn A 37 e - j - 1)) = true then rmG (agQ (agP A e (tn A 37 e)) e (tn A 37 e) j) e (tn A 37 e - j - 1) else (agQ (agP A e (tn A 37 e)) e (tn A 37 e) j)) _; rw [← hG, if_pos q91_86]; exact hr8) rfl (by omega)
        refine V.eqL (ls' := [some (.ref (ax 5 e)), some (.int (oI (tn A 37 e - 0))), none]) rfl ?_
        exact loop72 _ 0 S9 ay9 (hS9) rfl (Nat.zero_le _)
      · have q10_33 : ¬ _ := (fun z => q ((nI_leI (by omega) (by omega)).mpr z))
        clear q
        refine V.blk h [(.aload_n 0, 1)] (by decide +kernel) (pc' := 14) (ls' := [some (.ref (ax 5 e)), some (.int (nI (k))), none]) (st' := [.ref (ax 5 e)]) rfl rfl (Nat.le_of_ble_eq_true rfl) ?_
        refine V.getP h cls_5 (j := 4) rfl (hS9.mem (show lv G 5 e from heG)) (hS9.knd (show lv G 5 e from heG)) (Or.inl wf_RX5_29) (by decide +kernel) (v := some (ax 0 (15 + e))) (hS9.ptr (show lv G 5 e from heG) (by decide) (by decide) rfl) ?_
        refine V.eq (S' := S9) (ls' := [some (.ref (ax 5 e)), some (.int (nI (k))), none]) (st' := [.ref (ax 0 (15 + e))]) rfl rfl rfl ?_
        refine V.blk h [(.iload_n 1, 1)] (by decide +kernel) (pc' := 18) (ls' := [some (.ref (ax 5 e)), some (.int (nI (k))), none]) (st' := [.int (nI (k)), .ref (ax 0 (15 + e))]) rfl rfl (Nat.le_of_ble_eq_true rfl) ?_
        refine V.callV h (np := 1) (st := []) (g_gts hls hS9 heG (k := k) (by omega) (post := fun v S7 => v = some (.ref (ay9 8 (600 * e + k))) ∧ S9 = S7) ⟨rfl, rfl⟩) wc_Jx4a65c_get_915e3 wn_RJx4a65c (Or.inl wm_RX5_62) wi_Jx4a65c_get_915e3 we_Jx4a65c_get_915e3 (by decide +kernel) rfl cls_0 (hS9.mem (show lv G 0 (15 + e) from (lv_gts heG))) (hS9.knd (show lv G 0 (15 + e) from (lv_gts heG))) (Nat.le_of_ble_eq_true rfl) (Nat.le_of_ble_eq_true rfl) (by show (2 * k) + 0 ≤ 2 * tf A 13; omega) (by show (7 * k + 4 * (ay9 50 0 - ay 50 0)) + 0 ≤ 7 * tf A 13 + 1492; omega) (by simp [Value.category]) (by decide +kernel) rfl (fun v Z6 q9 => ?_)
        obtain ⟨rfl, hS9⟩ := q9
        subst hS9
        refine V.eq (S' := S9) (ls' := [some (.ref (ax 5 e)), some (.int (nI (k))), none]) (st' := [.ref (ay9 8 (600 * e + k))]) rfl rfl rfl ?_
        refine V.castS h cls_8 (hS9.mem (show lv G 8 (600 * e + k) from (lv_get hS9 heG (by omega)))) (hS9.knd (show lv G 8 (600 * e + k) from (lv_get hS9 heG (by omega)))) wl_RX5_154 (by decide +kernel) ?_
        refine V.blk h [(.astore_n 2, 1), (.aload_n 0, 1), (.aload_n 2, 1)] (by decide +kernel) (pc' := 27) (ls' := [some (.ref (ax 5 e)), some (.int (nI (k))), some (.ref (ay9 8 (600 * e + k)))]) (st' := [.ref (ay9 8 (600 * e + k)), .ref (ax 5 e)]) rfl rfl (Nat.le_of_ble_eq_true rfl) ?_
        refine V.callV h (np := 1) (st := []) (c_isReady hls hS9 (e := e) (k := k) heG (by omega) g36 hbG (by omega) (post := fun v S7 => v = some (.int (bI (rdF G e (600 * e + k)))) ∧ S9 = S7) ⟨rfl, rfl⟩) wc_X5_isReady wn_RX5 (Or.inl wm_RX5_198) wi_X5_isReady we_X5_isReady (by decide +kernel) rfl cls_5 (hS9.mem (show lv G 5 e from heG)) (hS9.knd (show lv G 5 e from heG)) (Nat.le_of_ble_eq_true rfl) (Nat.le_of_ble_eq_true rfl) (by show (2 * k) + 0 ≤ 2 * tf A 13; omega) (by show (7 * k + 4 * (ay9 50 0 - ay 50 0)) + 0 ≤ 7 * tf A 13 + 1492; omega) (by simp [Value.category]) (by decide +kernel) rfl (fun v Z7 q9 => ?_)
        obtain ⟨rfl, hS9⟩ := q9
        subst hS9
        refine V.eq (S' := S9) (ls' := [some (.ref (ax 5 e)), some (.int (nI (k))), some (.ref (ay9 8 (600 * e + k)))]) (st' := [.int (bI (rdF G e (600 * e + k)))]) rfl rfl rfl ?_
        refine V.if_eq h (off := 26) (by decide +kernel) (tgt := 56) (by decide) (fun q => ?_) (fun q => ?_)
        · have q30_132 := (bI_0.mp q)
          clear q
          refine V.incN h (x := k) (i := 1) (by decide +kernel) rfl (Nat.le_of_ble_eq_true rfl) ?_
          refine V.eqL (ls' := [some (.ref (ax 5 e)), some (.int (nI (k + 1))), some (.ref (ay9 8 (600 * e + k)))]) rfl ?_
          refine V.goto h (off := -57) (tgt := 2) (by decide +kernel) (by decide) ?_
          refine V.drop 2 (ls' := [some (.ref (ax 5 e)), some (.int (nI (k + 1))), none]) rfl ?_
          refine V.eqL (ls' := [some (.ref (ax 5 e)), some (.int (nI ((k + 1)))), none]) rfl ?_
          refine V.widen (k' := 2 * (k + 1)) (n' := 7 * (k + 1) + 4 * (ay9 50 0 - ay 50 0)) (by omega) (by omega) ?_
          exact ih2 (tn A 37 e - (k + 1)) (by omega) (k + 1) S9 ay9 (by show RA tc _ (if rdF (agP A e k) e (600 * e + k) = true then ansF (agP A e k) e (tn (agP A e k) 33 (600 * e + k)) (tr (agP A e k) 2 (600 * e + k)) true else agP A e k) _; rw [← hG, if_neg (by rw [q30_132]; decide)]; exact hS9) rfl (by omega) (by omega)
        · have q30_132 := (bI_1 (fun z => q (bI_0.mpr z)))
          clear q
          refine V.blk h [(.aload_n 0, 1)] (by decide +kernel) (pc' := 34) (ls' := [some (.ref (ax 5 e)), some (.int (nI (k))), some (.ref (ay9 8 (600 * e + k)))]) (st' := [.ref (ax 5 e)]) rfl rfl (Nat.le_of_ble_eq_true rfl) ?_
          refine V.getP h cls_5 (j := 2) rfl (hS9.mem (show lv G 5 e from heG)) (hS9.knd (show lv G 5 e from heG)) (Or.inl wf_RX5_18) (by decide +kernel) (v := some (ax 7 0)) (hS9.ptr (show lv G 5 e from heG) (by decide) (by decide) rfl) ?_
          refine V.eq (S' := S9) (ls' := [some (.ref (ax 5 e)), some (.int (nI (k))), some (.ref (ay9 8 (600 * e + k)))]) (st' := [.ref (ax 7 0)]) rfl rfl rfl ?_
          refine V.blk h [(.aload_n 0, 1)] (by decide +kernel) (pc' := 38) (ls' := [some (.ref (ax 5 e)), some (.int (nI (k))), some (.ref (ay9 8 (600 * e + k)))]) (st' := [.ref (ax 5 e), .ref (ax 7 0)]) rfl rfl (Nat.le_of_ble_eq_true rfl) ?_
          refine V.getI h cls_5 (j := 0) rfl (hS9.mem (show lv G 5 e from heG)) (hS9.knd (show lv G 5 e from heG)) (Or.inl wf_RX5_9) (by decide +kernel) (v := nI e) (hS9.int (show lv G 5 e from heG) (by decide) (by decide) rfl) ?_
          refine V.blk h [(.aload_n 2, 1)] (by decide +kernel) (pc' := 42) (ls' := [some (.ref (ax 5 e)), some (.int (nI (k))), some (.ref (ay9 8 (600 * e + k)))]) (st' := [.ref (ay9 8 (600 * e + k)), .int (nI (e)), .ref (ax 7 0)]) rfl rfl (Nat.le_of_ble_eq_true rfl) ?_
          refine V.getP h cls_8 (j := 0) rfl (hS9.mem (show lv G 8 (600 * e + k) from (lv_get hS9 heG (by omega)))) (hS9.knd (show lv G 8 (600 * e + k) from (lv_get hS9 heG (by omega)))) (Or.inr ⟨_, wf_RX5_156⟩) (by decide +kernel) (v := some (ax 6 (tn G 33 (600 * e + k)))) (hS9.ptr (show lv G 8 (600 * e + k) from (lv_get hS9 heG (by omega))) (by decide) (by decide) rfl) ?_
          refine V.eq (S' := S9) (ls' := [some (.ref (ax 5 e)), some (.int (nI (k))), some (.ref (ay9 8 (600 * e + k)))]) (st' := [.ref (ax 6 (tn G 33 (600 * e + k))), .int (nI (e)), .ref (ax 7 0)]) rfl rfl rfl ?_
          refine V.blk h [(.aload_n 2, 1)] (by decide +kernel) (pc' := 46) (ls' := [some (.ref (ax 5 e)), some (.int (nI (k))), some (.ref (ay9 8 (600 * e + k)))]) (st' := [.ref (ay9 8 (600 * e + k)), .ref (ax 6 (tn G 33 (600 * e + k))), .int (nI (e)), .ref (ax 7 0)]) rfl rfl (Nat.le_of_ble_eq_true rfl) ?_
          refine V.getI h cls_8 (j := 2) rfl (hS9.mem (show lv G 8 (600 * e + k) from (lv_get hS9 heG (by omega)))) (hS9.knd (show lv G 8 (600 * e + k) from (lv_get hS9 heG (by omega)))) (Or.inr ⟨_, wf_RX5_202⟩) (by decide +kernel) (v := tr G 2 (600 * e + k)) (hS9.int (show lv G 8 (600 * e + k) from (lv_get hS9 heG (by omega))) (by decide) (by decide) rfl) ?_
          refine V.blk h [(.iconst 1, 1)] (by decide +kernel) (pc' := 50) (ls' := [some (.ref (ax 5 e)), some (.int (nI (k))), some (.ref (ay9 8 (600 * e + k)))]) (st' := [.int (nI (1)), .int (tr G 2 (600 * e + k)), .ref (ax 6 (tn G 33 (600 * e + k))), .int (nI (e)), .ref (ax 7 0)]) rfl rfl (Nat.le_of_ble_eq_true rfl) ?_
          refine V.top (v' := .int (bI true)) (by decide) ?_
          refine V.callS h (np := 4) (st := [.ref (ax 7 0)]) (c_toAnswer hls hS9 (e := e) (op := tn G 33 (600 * e + k)) (x := tr G 2 (600 * e + k)) (sa := true) (show lv G 6 (tn G 33 (600 * e + k)) from (hS9.gop heG (by omega))) (post := fun v S8 => ∃ q8, v = some (.ref q8) ∧ RA tc (mx ax ay9) (G) S8 ∧ LT S8 q8 2 e (tn G 5 (tn G 33 (600 * e + k))) (opA (mx ax ay9) ((tn G 33 (600 * e + k)) + 1)) (tn G 6 (tn G 33 (600 * e + k))) (tr G 2 (600 * e + k)) true) (fun S8 q8 _ _ hr8 hl8 => ⟨q8, rfl, hr8, hl8⟩)) wc_X4_toAnswer wn_RX4 (Or.inr ⟨_, wm_RX5_205⟩) wt_X4_toAnswer (by decide +kernel) rfl (Nat.le_of_ble_eq_true rfl) (Nat.le_of_ble_eq_true rfl) (by show (2 * k) + 1 ≤ 2 * tf A 13; omega) (by show (7 * k + 4 * (ay9 50 0 - ay 50 0)) + 7 ≤ 7 * tf A 13 + 1492; omega) (by simp [Value.category]) (by decide +kernel) rfl (fun v Z8 q9 => ?_)
          obtain ⟨lq9, rfl, hS10, hl11⟩ := q9
          refine V.eq (S' := Z8) (ls' := [some (.ref (ax 5 e)), some (.int (nI (k))), some (.ref (ay9 8 (600 * e + k)))]) (st' := [.ref lq9, .ref (ax 7 0)]) rfl rfl rfl ?_
          refine V.callV h (np := 1) (st := []) (c_r_send hls hS10 (so := 2) (e := e) (to := tn G 5 (tn G 33 (600 * e + k))) (op := (tn G 33 (600 * e + k)) + 1) (n := tn G 6 (tn G 33 (600 * e + k))) (c9 := 0) (x := tr G 2 (600 * e + k)) (sa := true) (q := lq9) (ms := 4 * (nxM G (ay9 50 0) - ay9 50 0)) (Nat.succ_le_of_lt (show lv G 6 (tn G 33 (600 * e + k)) from (hS9.gop heG (by omega)))) hl11 hS10.gx (post := fun v S8 => v = none ∧ ∃ ay8, RA tc (mx ax ay8) (sendF G 2 e (tn G 5 (tn G 33 (600 * e + k))) ((tn G 33 (600 * e + k)) + 1) (tn G 6 (tn G 33 (600 * e + k))) 0 (tr G 2 (600 * e + k)) true) S8 ∧ ay8 50 0 = nxM G (ay9 50 0)) (fun S8 ay8 hr8 hn8 => ⟨rfl, ay8, hr8, hn8⟩)) wc_X7_send wn_RX7 (Or.inr ⟨_, wm_RX5_211⟩) wi_X7_send we_X7_send (by decide +kernel) rfl cls_7 (hS10.mem (show lv G 7 0 from rfl)) (hS10.knd (show lv G 7 0 from rfl)) (Nat.le_of_ble_eq_true rfl) (Nat.le_of_ble_eq_true rfl) (by show ((2 * k) + 1) + 1 ≤ 2 * tf A 13; omega) (by show ((7 * k + 4 * (ay9 50 0 - ay 50 0)) + 7) + (4 * (nxM G (ay9 50 0) - ay9 50 0)) ≤ 7 * tf A 13 + 1492; omega) (by simp [Value.category]) (by decide +kernel) rfl (fun v Z12 q9 => ?_)
          obtain ⟨rfl, ay13, hS14, hn15⟩ := q9
          refine V.incN h (x := k) (i := 1) (by decide +kernel) rfl (Nat.le_of_ble_eq_true rfl) ?_
          refine V.eqL (ls' := [some (.ref (ax 5 e)), some (.int (nI (k + 1))), some (.ref (ay9 8 (600 * e + k)))]) rfl ?_
          refine V.goto h (off := -57) (tgt := 2) (by decide +kernel) (by decide) ?_
          refine V.drop 2 (ls' := [some (.ref (ax 5 e)), some (.int (nI (k + 1))), none]) rfl ?_
          refine V.eqL (ls' := [some (.ref (ax 5 e)), some (.int (nI ((k + 1)))), none]) rfl ?_
          refine V.widen (k' := 2 * (k + 1)) (n' := 7 * (k + 1) + 4 * (ay13 50 0 - ay 50 0)) (by omega) (by omega) ?_
          exact ih2 (tn A 37 e - (k + 1)) (by omega) (k + 1) Z12 ay13 (by show RA tc _ (if rdF (agP A e k) e (600 * e + k) = true then ansF (agP A e k) e (tn (agP A e k) 33 (600 * e + k)) (tr (agP A e k) 2 (600 * e + k)) true else agP A e k) _; rw [← hG, if_pos q30_132]; exact hS14) rfl (by omega) (by rw [hn15]; omega)
  refine V.eqL (ls' := [some (.ref (ax 5 e)), some (.int (nI (0))), none]) rfl ?_
  refine V.widen (k' := 2 * 0) (n' := 7 * 0 + 4 * (ay 50 0 - ay 50 0)) (by omega) (by omega) ?_
  exact loop2 _ 0 S ay (hS) rfl (Nat.zero_le _) ⟨Nat.le_refl _, Or.inr rfl⟩
