/-! ===== what a master's log says ===== -/
theorem plF_at {A : TS} {e op k : Nat} : ∀ n, k < n → tn A 22 (600 * e + k) = op → (∀ j, j < n → tn A 22 (600 * e + j) = op → j = k) → plF A e op n = k + 1
  | 0, h, _, _ => absurd h (by omega)
  | n + 1, h, h1, h2 => by
    unfold plF
    by_cases q : tn A 22 (600 * e + n) = op
    · rw [if_pos q, h2 n (by omega) q]
    · have hn : k ≠ n := fun z => q (by rw [← z]; exact h1)
      rw [if_neg q]
      exact plF_at n (by omega) h1 (fun j hj => h2 j (by omega))
theorem place_at {A : TS} {e op k : Nat} (h : LogOK A e) (hk : k < tn A 26 e) (hq : tn A 22 (600 * e + k) = op) : placeF A e op = k + 1 := plF_at _ hk hq (fun j hj z => h.2.2 j k hj hk (z.trans hq.symm))
/-- an operation's place in a log is what stands there -/
theorem place_is {A : TS} {e op : Nat} (h : placeF A e op ≠ 0) : placeF A e op - 1 < tn A 26 e ∧ tn A 22 (600 * e + (placeF A e op - 1)) = op := by
  have key : ∀ n, plF A e op n ≠ 0 → plF A e op n - 1 < n ∧ tn A 22 (600 * e + (plF A e op n - 1)) = op := by
    intro n
    induction n with
    | zero => intro z; exact absurd rfl z
    | succ n ih =>
      unfold plF
      intro z
      by_cases q : tn A 22 (600 * e + n) = op
      · rw [if_pos q]
        exact ⟨by omega, q⟩
      · rw [if_neg q] at z ⊢
        exact ⟨by have := (ih z).1; omega, (ih z).2⟩
  exact key _ h
set_option maxRecDepth 100000 in
set_option maxHeartbeats 4000000 in
theorem c_placeOf {l : Launch} {D : va_G} {tc : Nat → ClassId} {ax ay : Nat → Nat → Nat} {A : TS} {S : HS} (hls : l.stackTraces = false) (hS : RA tc (mx ax ay) A S) {e : Nat} {op : Nat} {K : Nat}  (he : e < tf A 38) (ho : op < tf A 13) (hL : LogOK A e) (hB : NB K A) (hK : K < 2000000000) {post : Option Value → HS → Prop} (hp : post (some (.int (oI (placeF A e op)))) S) : CM l D tc yX5_placeOf cX5_placeOf 3 (some .int) 3 0 0 [.ref (ax 5 e), .ref (ax 6 op)] S post := by
  refine CM.of hls (by decide +kernel) (by simp [Value.category]) (Nat.le_of_ble_eq_true rfl) (fun A0 p e9 s m args below meth c sz h hr hnm hA => ?_)
  have h12 := hS.2.2.2.1.2.1
  have h13 := hS.2.2.2.1.2.2.2.1
  have hf1 := hS.2.2.1.1
  have hf3 := hS.2.2.1.2.1
  have h600 := hS.2.2.2.2.1 e he
  refine V.eqL (ls' := [some (.ref (ax 5 e)), some (.ref (ax 6 op)), none]) rfl ?_
  refine V.blk h [(.iconst 0, 1), (.istore_n 2, 1)] (by decide +kernel) (pc' := 2) (ls' := [some (.ref (ax 5 e)), some (.ref (ax 6 op)), some (.int (nI (0)))]) (st' := []) rfl rfl (Nat.le_of_ble_eq_true rfl) ?_
  have loop2 : ∀ (t k : Nat), tn A 26 e - k = t → k ≤ tn A 26 e → (plF A e op k = 0) → V l D tc A0 p e9 (rmd 3 0 0) s m args below meth c 3 (MQ below (zQ D tc post S sz) args s 0 0 (zAd S sz)) S 0 0 2 [some (.ref (ax 5 e)), some (.ref (ax 6 op)), some (.int (nI (k)))] [] := by
    intro t; induction t using Nat.strongRecOn with
    | _ t ih2 =>
      intro k ht2 hk2 inv2
      refine V.blk h [(.iload_n 2, 1), (.aload_n 0, 1)] (by decide +kernel) (pc' := 4) (ls' := [some (.ref (ax 5 e)), some (.ref (ax 6 op)), some (.int (nI (k)))]) (st' := [.ref (ax 5 e), .int (nI (k))]) rfl rfl (Nat.le_of_ble_eq_true rfl) ?_
      refine V.getP h cls_5 (j := 3) rfl (hS.mem (show lv A 5 e from he)) (hS.knd (show lv A 5 e from he)) (Or.inl wf_RX5_25) (by decide +kernel) (v := some (ax 0 (3 + e))) (hS.ptr (show lv A 5 e from he) (by decide) (by decide) rfl) ?_
      refine V.eq (S' := S) (ls' := [some (.ref (ax 5 e)), some (.ref (ax 6 op)), some (.int (nI (k)))]) (st' := [.ref (ax 0 (3 + e)), .int (nI (k))]) rfl rfl rfl ?_
      refine V.callV h (np := 0) (st := [.int (nI (k))]) (s_log hls hS he (post := fun v S9 => v = some (.int (nI (tn A 26 e))) ∧ S = S9) ⟨rfl, rfl⟩) wc_Jx4a65c_size_8abf5 wn_RJx4a65c (Or.inl wm_RX5_58) wi_Jx4a65c_size_8abf5 we_Jx4a65c_size_8abf5 (by decide +kernel) rfl cls_0 (hS.mem (show lv A 0 (3 + e) from (lv_log he hS.2.2.2.1.2.1))) (hS.knd (show lv A 0 (3 + e) from (lv_log he hS.2.2.2.1.2.1))) (Nat.le_of_ble_eq_true rfl) (Nat.le_of_ble_eq_true rfl) (Nat.zero_le _) (Nat.zero_le _) (by simp [Value.category]) (by decide +kernel) rfl (fun v S9 q9 => ?_)
      obtain ⟨rfl, hS9⟩ := q9
      subst hS9
      refine V.eq (S' := S) (ls' := [some (.ref (ax 5 e)), some (.ref (ax 6 op)), some (.int (nI (k)))]) (st' := [.int (nI (tn A 26 e)), .int (nI (k))]) rfl rfl rfl ?_
      have nb18 := hB.2 26 e
      refine V.icmp_ge h (off := 29) (by decide +kernel) (tgt := 39) (by decide) (fun q => ?_) (fun q => ?_)
      · have q10_19 := ((nI_leI (by omega) (by omega)).mp q)
        clear q
        refine V.m1 h (by decide +kernel) (Nat.le_of_ble_eq_true rfl) ?_
        exact V.iret h hA hr rfl (by rw [show placeF A e op = 0 from by unfold placeF; rw [show tn A 26 e = k from by omega]; exact inv2] at hp; exact hp) (by decide +kernel) (Nat.zero_le _) (Nat.zero_le _)
      · have q10_19 : ¬ _ := (fun z => q ((nI_leI (by omega) (by omega)).mpr z))
        clear q
        refine V.blk h [(.aload_n 0, 1)] (by decide +kernel) (pc' := 14) (ls' := [some (.ref (ax 5 e)), some (.ref (ax 6 op)), some (.int (nI (k)))]) (st' := [.ref (ax 5 e)]) rfl rfl (Nat.le_of_ble_eq_true rfl) ?_
        refine V.getP h cls_5 (j := 3) rfl (hS.mem (show lv A 5 e from he)) (hS.knd (show lv A 5 e from he)) (Or.inl wf_RX5_25) (by decide +kernel) (v := some (ax 0 (3 + e))) (hS.ptr (show lv A 5 e from he) (by decide) (by decide) rfl) ?_
        refine V.eq (S' := S) (ls' := [some (.ref (ax 5 e)), some (.ref (ax 6 op)), some (.int (nI (k)))]) (st' := [.ref (ax 0 (3 + e))]) rfl rfl rfl ?_
        refine V.blk h [(.iload_n 2, 1)] (by decide +kernel) (pc' := 18) (ls' := [some (.ref (ax 5 e)), some (.ref (ax 6 op)), some (.int (nI (k)))]) (st' := [.int (nI (k)), .ref (ax 0 (3 + e))]) rfl rfl (Nat.le_of_ble_eq_true rfl) ?_
        refine V.callV h (np := 1) (st := []) (g_log hls hS he (k := k) (by omega) (post := fun v S9 => v = some (.ref (ax 3 (600 * e + k))) ∧ S = S9) ⟨rfl, rfl⟩) wc_Jx4a65c_get_915e3 wn_RJx4a65c (Or.inl wm_RX5_62) wi_Jx4a65c_get_915e3 we_Jx4a65c_get_915e3 (by decide +kernel) rfl cls_0 (hS.mem (show lv A 0 (3 + e) from (lv_log he hS.2.2.2.1.2.1))) (hS.knd (show lv A 0 (3 + e) from (lv_log he hS.2.2.2.1.2.1))) (Nat.le_of_ble_eq_true rfl) (Nat.le_of_ble_eq_true rfl) (Nat.zero_le _) (Nat.zero_le _) (by simp [Value.category]) (by decide +kernel) rfl (fun v S9 q9 => ?_)
        obtain ⟨rfl, hS9⟩ := q9
        subst hS9
        refine V.eq (S' := S) (ls' := [some (.ref (ax 5 e)), some (.ref (ax 6 op)), some (.int (nI (k)))]) (st' := [.ref (ax 3 (600 * e + k))]) rfl rfl rfl ?_
        refine V.castS h cls_3 (hS.mem (show lv A 3 (600 * e + k) from (lv_ent hS he (by omega)))) (hS.knd (show lv A 3 (600 * e + k) from (lv_ent hS he (by omega)))) wl_RX5_66 (by decide +kernel) ?_
        refine V.getP h cls_3 (j := 0) rfl (hS.mem (show lv A 3 (600 * e + k) from (lv_ent hS he (by omega)))) (hS.knd (show lv A 3 (600 * e + k) from (lv_ent hS he (by omega)))) (Or.inr ⟨_, wf_RX5_68⟩) (by decide +kernel) (v := some (ax 6 (tn A 22 (600 * e + k)))) (hS.ptr (show lv A 3 (600 * e + k) from (lv_ent hS he (by omega))) (by decide) (by decide) rfl) ?_
        refine V.eq (S' := S) (ls' := [some (.ref (ax 5 e)), some (.ref (ax 6 op)), some (.int (nI (k)))]) (st' := [.ref (ax 6 (tn A 22 (600 * e + k)))]) rfl rfl rfl ?_
        refine V.blk h [(.aload_n 1, 1)] (by decide +kernel) (pc' := 28) (ls' := [some (.ref (ax 5 e)), some (.ref (ax 6 op)), some (.int (nI (k)))]) (st' := [.ref (ax 6 op), .ref (ax 6 (tn A 22 (600 * e + k)))]) rfl rfl (Nat.le_of_ble_eq_true rfl) ?_
        refine V.acmp_ne h (rx := some (ax 6 (tn A 22 (600 * e + k)))) (ry := some (ax 6 op)) (off := 5) (by decide +kernel) (tgt := 33) (by decide) (fun q => ?_) (fun q => ?_)
        · have q28_38 : ¬ _ := (fun z => q ((hS.opeq (hS.lop he (by omega)) ho).mpr z))
          clear q
          refine V.incN h (x := k) (i := 2) (by decide +kernel) rfl (Nat.le_of_ble_eq_true rfl) ?_
          refine V.eqL (ls' := [some (.ref (ax 5 e)), some (.ref (ax 6 op)), some (.int (nI (k + 1)))]) rfl ?_
          refine V.goto h (off := -34) (tgt := 2) (by decide +kernel) (by decide) ?_
          refine V.eqL (ls' := [some (.ref (ax 5 e)), some (.ref (ax 6 op)), some (.int (nI ((k + 1))))]) rfl ?_
          exact ih2 (tn A 26 e - (k + 1)) (by omega) (k + 1) rfl (by omega) (by unfold plF; rw [if_neg q28_38]; exact inv2)
        · have q28_38 := ((hS.opeq (hS.lop he (by omega)) ho).mp q)
          clear q
          refine V.blk h [(.iload_n 2, 1)] (by decide +kernel) (pc' := 32) (ls' := [some (.ref (ax 5 e)), some (.ref (ax 6 op)), some (.int (nI (k)))]) (st' := [.int (nI (k))]) rfl rfl (Nat.le_of_ble_eq_true rfl) ?_
          exact V.iret h hA hr rfl (by rw [place_at hL (by omega) q28_38, oI_s] at hp; exact hp) (by decide +kernel) (Nat.zero_le _) (Nat.zero_le _)
  refine V.eqL (ls' := [some (.ref (ax 5 e)), some (.ref (ax 6 op)), some (.int (nI (0)))]) rfl ?_
  exact loop2 _ 0 rfl (Nat.zero_le _) rfl
theorem hg_true {A : TS} {e op k : Nat} : ∀ {n : Nat}, tn A 5 (tn A 22 (600 * e + k)) = tn A 5 op → ¬ tn A 6 (tn A 22 (600 * e + k)) ≤ tn A 6 op → k < n → hgF A e op n = true
  | 0, _, _, h => absurd h (by omega)
  | n + 1, h1, h2, h => by
    unfold hgF
    by_cases q : k = n
    · subst q
      simp only [Bool.or_eq_true, Bool.and_eq_true, decide_eq_true_eq]
      exact Or.inr ⟨h1, by omega⟩
    · rw [hg_true h1 h2 (by omega : k < n)]
      rfl
set_option maxRecDepth 100000 in
set_option maxHeartbeats 4000000 in
theorem c_hasLater {l : Launch} {D : va_G} {tc : Nat → ClassId} {ax ay : Nat → Nat → Nat} {A : TS} {S : HS} (hls : l.stackTraces = false) (hS : RA tc (mx ax ay) A S) {e : Nat} {op : Nat} {K : Nat}  (he : e < tf A 38) (ho : op < tf A 13) (hB : NB K A) (hK : K < 2000000000) {post : Option Value → HS → Prop} (hp : post (some (.int (bI (hgF A e op (tn A 26 e))))) S) : CM l D tc yX5_hasLaterOneThan cX5_hasLaterOneThan 4 (some .boolean) 3 0 0 [.ref (ax 5 e), .ref (ax 6 op)] S post := by
  refine CM.of hls (by decide +kernel) (by simp [Value.category]) (Nat.le_of_ble_eq_true rfl) (fun A0 p e9 s m args below meth c sz h hr hnm hA => ?_)
  have h12 := hS.2.2.2.1.2.1
  have h13 := hS.2.2.2.1.2.2.2.1
  have hf1 := hS.2.2.1.1
  have hf3 := hS.2.2.1.2.1
  have h600 := hS.2.2.2.2.1 e he
  refine V.eqL (ls' := [some (.ref (ax 5 e)), some (.ref (ax 6 op)), none, none]) rfl ?_
  refine V.blk h [(.iconst 0, 1), (.istore_n 2, 1)] (by decide +kernel) (pc' := 2) (ls' := [some (.ref (ax 5 e)), some (.ref (ax 6 op)), some (.int (nI (0))), none]) (st' := []) rfl rfl (Nat.le_of_ble_eq_true rfl) ?_
  have loop2 : ∀ (t k : Nat), tn A 26 e - k = t → k ≤ tn A 26 e → (hgF A e op k = false) → V l D tc A0 p e9 (rmd 3 0 0) s m args below meth c 4 (MQ below (zQ D tc post S sz) args s 0 0 (zAd S sz)) S 0 0 2 [some (.ref (ax 5 e)), some (.ref (ax 6 op)), some (.int (nI (k))), none] [] := by
    intro t; induction t using Nat.strongRecOn with
    | _ t ih2 =>
      intro k ht2 hk2 inv2
      refine V.blk h [(.iload_n 2, 1), (.aload_n 0, 1)] (by decide +kernel) (pc' := 4) (ls' := [some (.ref (ax 5 e)), some (.ref (ax 6 op)), some (.int (nI (k))), none]) (st' := [.ref (ax 5 e), .int (nI (k))]) rfl rfl (Nat.le_of_ble_eq_true rfl) ?_
      refine V.getP h cls_5 (j := 3) rfl (hS.mem (show lv A 5 e from he)) (hS.knd (show lv A 5 e from he)) (Or.inl wf_RX5_25) (by decide +kernel) (v := some (ax 0 (3 + e))) (hS.ptr (show lv A 5 e from he) (by decide) (by decide) rfl) ?_
      refine V.eq (S' := S) (ls' := [some (.ref (ax 5 e)), some (.ref (ax 6 op)), some (.int (nI (k))), none]) (st' := [.ref (ax 0 (3 + e)), .int (nI (k))]) rfl rfl rfl ?_
      refine V.callV h (np := 0) (st := [.int (nI (k))]) (s_log hls hS he (post := fun v S9 => v = some (.int (nI (tn A 26 e))) ∧ S = S9) ⟨rfl, rfl⟩) wc_Jx4a65c_size_8abf5 wn_RJx4a65c (Or.inl wm_RX5_58) wi_Jx4a65c_size_8abf5 we_Jx4a65c_size_8abf5 (by decide +kernel) rfl cls_0 (hS.mem (show lv A 0 (3 + e) from (lv_log he hS.2.2.2.1.2.1))) (hS.knd (show lv A 0 (3 + e) from (lv_log he hS.2.2.2.1.2.1))) (Nat.le_of_ble_eq_true rfl) (Nat.le_of_ble_eq_true rfl) (Nat.zero_le _) (Nat.zero_le _) (by simp [Value.category]) (by decide +kernel) rfl (fun v S9 q9 => ?_)
      obtain ⟨rfl, hS9⟩ := q9
      subst hS9
      refine V.eq (S' := S) (ls' := [some (.ref (ax 5 e)), some (.ref (ax 6 op)), some (.int (nI (k))), none]) (st' := [.int (nI (tn A 26 e)), .int (nI (k))]) rfl rfl rfl ?_
      have nb18 := hB.2 26 e
      refine V.icmp_ge h (off := 48) (by decide +kernel) (tgt := 58) (by decide) (fun q => ?_) (fun q => ?_)
      · have q10_19 := ((nI_leI (by omega) (by omega)).mp q)
        clear q
        refine V.blk h [(.iconst 0, 1)] (by decide +kernel) (pc' := 59) (ls' := [some (.ref (ax 5 e)), some (.ref (ax 6 op)), some (.int (nI (k))), none]) (st' := [.int (nI (0))]) rfl rfl (Nat.le_of_ble_eq_true rfl) ?_
        refine V.top (v' := .int (bI false)) (by decide) ?_
        exact V.iret h hA hr (bI_nar _) (by rw [show tn A 26 e = k from by omega, inv2] at hp; exact hp) (by decide +kernel) (Nat.zero_le _) (Nat.zero_le _)
      · have q10_19 : ¬ _ := (fun z => q ((nI_leI (by omega) (by omega)).mpr z))
        clear q
        refine V.blk h [(.aload_n 0, 1)] (by decide +kernel) (pc' := 14) (ls' := [some (.ref (ax 5 e)), some (.ref (ax 6 op)), some (.int (nI (k))), none]) (st' := [.ref (ax 5 e)]) rfl rfl (Nat.le_of_ble_eq_true rfl) ?_
        refine V.getP h cls_5 (j := 3) rfl (hS.mem (show lv A 5 e from he)) (hS.knd (show lv A 5 e from he)) (Or.inl wf_RX5_25) (by decide +kernel) (v := some (ax 0 (3 + e))) (hS.ptr (show lv A 5 e from he) (by decide) (by decide) rfl) ?_
        refine V.eq (S' := S) (ls' := [some (.ref (ax 5 e)), some (.ref (ax 6 op)), some (.int (nI (k))), none]) (st' := [.ref (ax 0 (3 + e))]) rfl rfl rfl ?_
        refine V.blk h [(.iload_n 2, 1)] (by decide +kernel) (pc' := 18) (ls' := [some (.ref (ax 5 e)), some (.ref (ax 6 op)), some (.int (nI (k))), none]) (st' := [.int (nI (k)), .ref (ax 0 (3 + e))]) rfl rfl (Nat.le_of_ble_eq_true rfl) ?_
        refine V.callV h (np := 1) (st := []) (g_log hls hS he (k := k) (by omega) (post := fun v S9 => v = some (.ref (ax 3 (600 * e + k))) ∧ S = S9) ⟨rfl, rfl⟩) wc_Jx4a65c_get_915e3 wn_RJx4a65c (Or.inl wm_RX5_62) wi_Jx4a65c_get_915e3 we_Jx4a65c_get_915e3 (by decide +kernel) rfl cls_0 (hS.mem (show lv A 0 (3 + e) from (lv_log he hS.2.2.2.1.2.1))) (hS.knd (show lv A 0 (3 + e) from (lv_log he hS.2.2.2.1.2.1))) (Nat.le_of_ble_eq_true rfl) (Nat.le_of_ble_eq_true rfl) (Nat.zero_le _) (Nat.zero_le _) (by simp [Value.category]) (by decide +kernel) rfl (fun v S9 q9 => ?_)
        obtain ⟨rfl, hS9⟩ := q9
        subst hS9
        refine V.eq (S' := S) (ls' := [some (.ref (ax 5 e)), some (.ref (ax 6 op)), some (.int (nI (k))), none]) (st' := [.ref (ax 3 (600 * e + k))]) rfl rfl rfl ?_
        refine V.castS h cls_3 (hS.mem (show lv A 3 (600 * e + k) from (lv_ent hS he (by omega)))) (hS.knd (show lv A 3 (600 * e + k) from (lv_ent hS he (by omega)))) wl_RX5_66 (by decide +kernel) ?_
        refine V.getP h cls_3 (j := 0) rfl (hS.mem (show lv A 3 (600 * e + k) from (lv_ent hS he (by omega)))) (hS.knd (show lv A 3 (600 * e + k) from (lv_ent hS he (by omega)))) (Or.inr ⟨_, wf_RX5_68⟩) (by decide +kernel) (v := some (ax 6 (tn A 22 (600 * e + k)))) (hS.ptr (show lv A 3 (600 * e + k) from (lv_ent hS he (by omega))) (by decide) (by decide) rfl) ?_
        refine V.eq (S' := S) (ls' := [some (.ref (ax 5 e)), some (.ref (ax 6 op)), some (.int (nI (k))), none]) (st' := [.ref (ax 6 (tn A 22 (600 * e + k)))]) rfl rfl rfl ?_
        refine V.blk h [(.astore_n 3, 1), (.aload_n 3, 1)] (by decide +kernel) (pc' := 29) (ls' := [some (.ref (ax 5 e)), some (.ref (ax 6 op)), some (.int (nI (k))), some (.ref (ax 6 (tn A 22 (600 * e + k))))]) (st' := [.ref (ax 6 (tn A 22 (600 * e + k)))]) rfl rfl (Nat.le_of_ble_eq_true rfl) ?_
        refine V.getI h cls_6 (j := 0) rfl (hS.mem (show lv A 6 (tn A 22 (600 * e + k)) from (hS.lop he (by omega)))) (hS.knd (show lv A 6 (tn A 22 (600 * e + k)) from (hS.lop he (by omega)))) (Or.inr ⟨_, wf_RX5_116⟩) (by decide +kernel) (v := nI (tn A 5 (tn A 22 (600 * e + k)))) (hS.int (show lv A 6 (tn A 22 (600 * e + k)) from (hS.lop he (by omega))) (by decide) (by decide) rfl) ?_
        have nb40 := hB.2 5 (tn A 22 (600 * e + k))
        refine V.blk h [(.aload_n 1, 1)] (by decide +kernel) (pc' := 33) (ls' := [some (.ref (ax 5 e)), some (.ref (ax 6 op)), some (.int (nI (k))), some (.ref (ax 6 (tn A 22 (600 * e + k))))]) (st' := [.ref (ax 6 op), .int (nI (tn A 5 (tn A 22 (600 * e + k))))]) rfl rfl (Nat.le_of_ble_eq_true rfl) ?_
        refine V.getI h cls_6 (j := 0) rfl (hS.mem (show lv A 6 op from ho)) (hS.knd (show lv A 6 op from ho)) (Or.inr ⟨_, wf_RX5_116⟩) (by decide +kernel) (v := nI (tn A 5 op)) (hS.int (show lv A 6 op from ho) (by decide) (by decide) rfl) ?_
        have nb43 := hB.2 5 op
        refine V.icmp_ne h (off := 16) (by decide +kernel) (tgt := 52) (by decide) (fun q => ?_) (fun q => ?_)
        · have q36_44 : ¬ _ := (fun z => q ((nI_eq (by omega) (by omega)).mpr z))
          clear q
          refine V.incN h (x := k) (i := 2) (by decide +kernel) rfl (Nat.le_of_ble_eq_true rfl) ?_
          refine V.eqL (ls' := [some (.ref (ax 5 e)), some (.ref (ax 6 op)), some (.int (nI (k + 1))), some (.ref (ax 6 (tn A 22 (600 * e + k))))]) rfl ?_
          refine V.goto h (off := -53) (tgt := 2) (by decide +kernel) (by decide) ?_
          refine V.drop 3 (ls' := [some (.ref (ax 5 e)), some (.ref (ax 6 op)), some (.int (nI (k + 1))), none]) rfl ?_
          refine V.eqL (ls' := [some (.ref (ax 5 e)), some (.ref (ax 6 op)), some (.int (nI ((k + 1)))), none]) rfl ?_
          exact ih2 (tn A 26 e - (k + 1)) (by omega) (k + 1) rfl (by omega) (by unfold hgF; rw [inv2]; simp only [Bool.false_or, Bool.and_eq_false_iff, decide_eq_false_iff_not]; omega)
        · have q36_44 := ((nI_eq (by omega) (by omega)).mp q)
          clear q
          refine V.blk h [(.aload_n 3, 1)] (by decide +kernel) (pc' := 40) (ls' := [some (.ref (ax 5 e)), some (.ref (ax 6 op)), some (.int (nI (k))), some (.ref (ax 6 (tn A 22 (600 * e + k))))]) (st' := [.ref (ax 6 (tn A 22 (600 * e + k)))]) rfl rfl (Nat.le_of_ble_eq_true rfl) ?_
          refine V.getI h cls_6 (j := 1) rfl (hS.mem (show lv A 6 (tn A 22 (600 * e + k)) from (hS.lop he (by omega)))) (hS.knd (show lv A 6 (tn A 22 (600 * e + k)) from (hS.lop he (by omega)))) (Or.inr ⟨_, wf_RX5_119⟩) (by decide +kernel) (v := nI (tn A 6 (tn A 22 (600 * e + k)))) (hS.int (show lv A 6 (tn A 22 (600 * e + k)) from (hS.lop he (by omega))) (by decide) (by decide) rfl) ?_
          have nb57 := hB.2 6 (tn A 22 (600 * e + k))
          refine V.blk h [(.aload_n 1, 1)] (by decide +kernel) (pc' := 44) (ls' := [some (.ref (ax 5 e)), some (.ref (ax 6 op)), some (.int (nI (k))), some (.ref (ax 6 (tn A 22 (600 * e + k))))]) (st' := [.ref (ax 6 op), .int (nI (tn A 6 (tn A 22 (600 * e + k))))]) rfl rfl (Nat.le_of_ble_eq_true rfl) ?_
          refine V.getI h cls_6 (j := 1) rfl (hS.mem (show lv A 6 op from ho)) (hS.knd (show lv A 6 op from ho)) (Or.inr ⟨_, wf_RX5_119⟩) (by decide +kernel) (v := nI (tn A 6 op)) (hS.int (show lv A 6 op from ho) (by decide) (by decide) rfl) ?_
          have nb60 := hB.2 6 op
          refine V.icmp_le h (off := 5) (by decide +kernel) (tgt := 52) (by decide) (fun q => ?_) (fun q => ?_)
          · have q47_61 := ((nI_leI (by omega) (by omega)).mp q)
            clear q
            refine V.incN h (x := k) (i := 2) (by decide +kernel) rfl (Nat.le_of_ble_eq_true rfl) ?_
            refine V.eqL (ls' := [some (.ref (ax 5 e)), some (.ref (ax 6 op)), some (.int (nI (k + 1))), some (.ref (ax 6 (tn A 22 (600 * e + k))))]) rfl ?_
            refine V.goto h (off := -53) (tgt := 2) (by decide +kernel) (by decide) ?_
            refine V.drop 3 (ls' := [some (.ref (ax 5 e)), some (.ref (ax 6 op)), some (.int (nI (k + 1))), none]) rfl ?_
            refine V.eqL (ls' := [some (.ref (ax 5 e)), some (.ref (ax 6 op)), some (.int (nI ((k + 1)))), none]) rfl ?_
            exact ih2 (tn A 26 e - (k + 1)) (by omega) (k + 1) rfl (by omega) (by unfold hgF; rw [inv2]; simp only [Bool.false_or, Bool.and_eq_false_iff, decide_eq_false_iff_not]; omega)
          · have q47_61 : ¬ _ := (fun z => q ((nI_leI (by omega) (by omega)).mpr z))
            clear q
            refine V.blk h [(.iconst 1, 1)] (by decide +kernel) (pc' := 51) (ls' := [some (.ref (ax 5 e)), some (.ref (ax 6 op)), some (.int (nI (k))), some (.ref (ax 6 (tn A 22 (600 * e + k))))]) (st' := [.int (nI (1))]) rfl rfl (Nat.le_of_ble_eq_true rfl) ?_
            refine V.top (v' := .int (bI true)) (by decide) ?_
            exact V.iret h hA hr (bI_nar _) (by rw [hg_true (k := k) q36_44 q47_61 (by omega)] at hp; exact hp) (by decide +kernel) (Nat.zero_le _) (Nat.zero_le _)
  refine V.eqL (ls' := [some (.ref (ax 5 e)), some (.ref (ax 6 op)), some (.int (nI (0))), none]) rfl ?_
  exact loop2 _ 0 rfl (Nat.zero_le _) rfl
theorem kb_true {A : TS} {e ky s k : Nat} : ∀ {n : Nat}, tn A 8 (tn A 22 (600 * e + k)) = ky → s ≤ k → k < n → kbF A e ky s n = true
  | 0, _, _, h => absurd h (by omega)
  | n + 1, h1, h2, h => by
    unfold kbF
    by_cases q : k = n
    · subst q
      simp only [Bool.or_eq_true, Bool.and_eq_true, decide_eq_true_eq]
      exact Or.inr ⟨h2, h1⟩
    · rw [kb_true h1 h2 (by omega : k < n)]
      rfl
set_option maxRecDepth 100000 in
set_option maxHeartbeats 4000000 in
theorem c_hasUnsynced {l : Launch} {D : va_G} {tc : Nat → ClassId} {ax ay : Nat → Nat → Nat} {A : TS} {S : HS} (hls : l.stackTraces = false) (hS : RA tc (mx ax ay) A S) {e : Nat} {ky : Nat} {K : Nat}  (he : e < tf A 38) (hk : ky ≤ K) (hsy : tn A 28 e ≤ tn A 26 e) (hB : NB K A) (hK : K < 2000000000) {post : Option Value → HS → Prop} (hp : post (some (.int (bI (kbF A e ky (tn A 28 e) (tn A 26 e))))) S) : CM l D tc yX5_hasUnsyncedOf cX5_hasUnsyncedOf 3 (some .boolean) 3 0 0 [.ref (ax 5 e), .int (nI (ky))] S post := by
  refine CM.of hls (by decide +kernel) (by simp [Value.category]) (Nat.le_of_ble_eq_true rfl) (fun A0 p e9 s m args below meth c sz h hr hnm hA => ?_)
  have h12 := hS.2.2.2.1.2.1
  have h13 := hS.2.2.2.1.2.2.2.1
  have hf1 := hS.2.2.1.1
  have hf3 := hS.2.2.1.2.1
  have h600 := hS.2.2.2.2.1 e he
  refine V.eqL (ls' := [some (.ref (ax 5 e)), some (.int (nI (ky))), none]) rfl ?_
  refine V.blk h [(.aload_n 0, 1)] (by decide +kernel) (pc' := 1) (ls' := [some (.ref (ax 5 e)), some (.int (nI (ky))), none]) (st' := [.ref (ax 5 e)]) rfl rfl (Nat.le_of_ble_eq_true rfl) ?_
  refine V.getI h cls_5 (j := 10) rfl (hS.mem (show lv A 5 e from he)) (hS.knd (show lv A 5 e from he)) (Or.inl wf_RX5_122) (by decide +kernel) (v := nI (tn A 28 e)) (hS.int (show lv A 5 e from he) (by decide) (by decide) rfl) ?_
  have nb8 := hB.2 28 e
  refine V.blk h [(.istore_n 2, 1)] (by decide +kernel) (pc' := 5) (ls' := [some (.ref (ax 5 e)), some (.int (nI (ky))), some (.int (nI (tn A 28 e)))]) (st' := []) rfl rfl (Nat.le_of_ble_eq_true rfl) ?_
  have loop5 : ∀ (t k : Nat), tn A 26 e - k = t → k ≤ tn A 26 e → (tn A 28 e ≤ k ∧ kbF A e ky (tn A 28 e) k = false) → V l D tc A0 p e9 (rmd 3 0 0) s m args below meth c 3 (MQ below (zQ D tc post S sz) args s 0 0 (zAd S sz)) S 0 0 5 [some (.ref (ax 5 e)), some (.int (nI (ky))), some (.int (nI (k)))] [] := by
    intro t; induction t using Nat.strongRecOn with
    | _ t ih5 =>
      intro k ht5 hk5 inv5
      have hlo := inv5.1
      have inv := inv5
      have nb26 := hB.2 26 e
      refine V.blk h [(.iload_n 2, 1)] (by decide +kernel) (pc' := 6) (ls' := [some (.ref (ax 5 e)), some (.int (nI (ky))), some (.int (nI (k)))]) (st' := [.int (nI (k))]) rfl rfl (Nat.le_of_ble_eq_true rfl) ?_
      refine V.if_lt h (off := 43) (by decide +kernel) (tgt := 49) (by decide) (fun q => ?_) (fun q => ?_)
      · have q6_18 := ((nI_z_lt (by omega)).mp q)
        clear q
        exact absurd q6_18 id
      · have q6_18 : ¬ _ := (fun z => q ((nI_z_lt (by omega)).mpr z))
        clear q
        refine V.blk h [(.iload_n 2, 1), (.aload_n 0, 1)] (by decide +kernel) (pc' := 11) (ls' := [some (.ref (ax 5 e)), some (.int (nI (ky))), some (.int (nI (k)))]) (st' := [.ref (ax 5 e), .int (nI (k))]) rfl rfl (Nat.le_of_ble_eq_true rfl) ?_
        refine V.getP h cls_5 (j := 3) rfl (hS.mem (show lv A 5 e from he)) (hS.knd (show lv A 5 e from he)) (Or.inl wf_RX5_25) (by decide +kernel) (v := some (ax 0 (3 + e))) (hS.ptr (show lv A 5 e from he) (by decide) (by decide) rfl) ?_
        refine V.eq (S' := S) (ls' := [some (.ref (ax 5 e)), some (.int (nI (ky))), some (.int (nI (k)))]) (st' := [.ref (ax 0 (3 + e)), .int (nI (k))]) rfl rfl rfl ?_
        refine V.callV h (np := 0) (st := [.int (nI (k))]) (s_log hls hS he (post := fun v S9 => v = some (.int (nI (tn A 26 e))) ∧ S = S9) ⟨rfl, rfl⟩) wc_Jx4a65c_size_8abf5 wn_RJx4a65c (Or.inl wm_RX5_58) wi_Jx4a65c_size_8abf5 we_Jx4a65c_size_8abf5 (by decide +kernel) rfl cls_0 (hS.mem (show lv A 0 (3 + e) from (lv_log he hS.2.2.2.1.2.1))) (hS.knd (show lv A 0 (3 + e) from (lv_log he hS.2.2.2.1.2.1))) (Nat.le_of_ble_eq_true rfl) (Nat.le_of_ble_eq_true rfl) (Nat.zero_le _) (Nat.zero_le _) (by simp [Value.category]) (by decide +kernel) rfl (fun v S9 q9 => ?_)
        obtain ⟨rfl, hS9⟩ := q9
        subst hS9
        refine V.eq (S' := S) (ls' := [some (.ref (ax 5 e)), some (.int (nI (ky))), some (.int (nI (k)))]) (st' := [.int (nI (tn A 26 e)), .int (nI (k))]) rfl rfl rfl ?_
        have nb31 := hB.2 26 e
        refine V.icmp_ge h (off := 32) (by decide +kernel) (tgt := 49) (by decide) (fun q => ?_) (fun q => ?_)
        · have q17_32 := ((nI_leI (by omega) (by omega)).mp q)
          clear q
          refine V.blk h [(.iconst 0, 1)] (by decide +kernel) (pc' := 50) (ls' := [some (.ref (ax 5 e)), some (.int (nI (ky))), some (.int (nI (k)))]) (st' := [.int (nI (0))]) rfl rfl (Nat.le_of_ble_eq_true rfl) ?_
          refine V.top (v' := .int (bI false)) (by decide) ?_
          exact V.iret h hA hr (bI_nar _) (by rw [show tn A 26 e = k from by omega, inv.2] at hp; exact hp) (by decide +kernel) (Nat.zero_le _) (Nat.zero_le _)
        · have q17_32 : ¬ _ := (fun z => q ((nI_leI (by omega) (by omega)).mpr z))
          clear q
          refine V.blk h [(.aload_n 0, 1)] (by decide +kernel) (pc' := 21) (ls' := [some (.ref (ax 5 e)), some (.int (nI (ky))), some (.int (nI (k)))]) (st' := [.ref (ax 5 e)]) rfl rfl (Nat.le_of_ble_eq_true rfl) ?_
          refine V.getP h cls_5 (j := 3) rfl (hS.mem (show lv A 5 e from he)) (hS.knd (show lv A 5 e from he)) (Or.inl wf_RX5_25) (by decide +kernel) (v := some (ax 0 (3 + e))) (hS.ptr (show lv A 5 e from he) (by decide) (by decide) rfl) ?_
          refine V.eq (S' := S) (ls' := [some (.ref (ax 5 e)), some (.int (nI (ky))), some (.int (nI (k)))]) (st' := [.ref (ax 0 (3 + e))]) rfl rfl rfl ?_
          refine V.blk h [(.iload_n 2, 1)] (by decide +kernel) (pc' := 25) (ls' := [some (.ref (ax 5 e)), some (.int (nI (ky))), some (.int (nI (k)))]) (st' := [.int (nI (k)), .ref (ax 0 (3 + e))]) rfl rfl (Nat.le_of_ble_eq_true rfl) ?_
          refine V.callV h (np := 1) (st := []) (g_log hls hS he (k := k) (by omega) (post := fun v S9 => v = some (.ref (ax 3 (600 * e + k))) ∧ S = S9) ⟨rfl, rfl⟩) wc_Jx4a65c_get_915e3 wn_RJx4a65c (Or.inl wm_RX5_62) wi_Jx4a65c_get_915e3 we_Jx4a65c_get_915e3 (by decide +kernel) rfl cls_0 (hS.mem (show lv A 0 (3 + e) from (lv_log he hS.2.2.2.1.2.1))) (hS.knd (show lv A 0 (3 + e) from (lv_log he hS.2.2.2.1.2.1))) (Nat.le_of_ble_eq_true rfl) (Nat.le_of_ble_eq_true rfl) (Nat.zero_le _) (Nat.zero_le _) (by simp [Value.category]) (by decide +kernel) rfl (fun v S9 q9 => ?_)
          obtain ⟨rfl, hS9⟩ := q9
          subst hS9
          refine V.eq (S' := S) (ls' := [some (.ref (ax 5 e)), some (.int (nI (ky))), some (.int (nI (k)))]) (st' := [.ref (ax 3 (600 * e + k))]) rfl rfl rfl ?_
          refine V.castS h cls_3 (hS.mem (show lv A 3 (600 * e + k) from (lv_ent hS he (by omega)))) (hS.knd (show lv A 3 (600 * e + k) from (lv_ent hS he (by omega)))) wl_RX5_66 (by decide +kernel) ?_
          refine V.getP h cls_3 (j := 0) rfl (hS.mem (show lv A 3 (600 * e + k) from (lv_ent hS he (by omega)))) (hS.knd (show lv A 3 (600 * e + k) from (lv_ent hS he (by omega)))) (Or.inr ⟨_, wf_RX5_68⟩) (by decide +kernel) (v := some (ax 6 (tn A 22 (600 * e + k)))) (hS.ptr (show lv A 3 (600 * e + k) from (lv_ent hS he (by omega))) (by decide) (by decide) rfl) ?_
          refine V.eq (S' := S) (ls' := [some (.ref (ax 5 e)), some (.int (nI (ky))), some (.int (nI (k)))]) (st' := [.ref (ax 6 (tn A 22 (600 * e + k)))]) rfl rfl rfl ?_
          refine V.getI h cls_6 (j := 3) rfl (hS.mem (show lv A 6 (tn A 22 (600 * e + k)) from (hS.lop he (by omega)))) (hS.knd (show lv A 6 (tn A 22 (600 * e + k)) from (hS.lop he (by omega)))) (Or.inr ⟨_, wf_RX5_94⟩) (by decide +kernel) (v := nI (tn A 8 (tn A 22 (600 * e + k)))) (hS.int (show lv A 6 (tn A 22 (600 * e + k)) from (hS.lop he (by omega))) (by decide) (by decide) rfl) ?_
          have nb52 := hB.2 8 (tn A 22 (600 * e + k))
          refine V.blk h [(.iload_n 1, 1)] (by decide +kernel) (pc' := 38) (ls' := [some (.ref (ax 5 e)), some (.int (nI (ky))), some (.int (nI (k)))]) (st' := [.int (nI (ky)), .int (nI (tn A 8 (tn A 22 (600 * e + k))))]) rfl rfl (Nat.le_of_ble_eq_true rfl) ?_
          refine V.icmp_ne h (off := 5) (by decide +kernel) (tgt := 43) (by decide) (fun q => ?_) (fun q => ?_)
          · have q38_54 : ¬ _ := (fun z => q ((nI_eq (by omega) (by omega)).mpr z))
            clear q
            refine V.incN h (x := k) (i := 2) (by decide +kernel) rfl (Nat.le_of_ble_eq_true rfl) ?_
            refine V.eqL (ls' := [some (.ref (ax 5 e)), some (.int (nI (ky))), some (.int (nI (k + 1)))]) rfl ?_
            refine V.goto h (off := -41) (tgt := 5) (by decide +kernel) (by decide) ?_
            refine V.eqL (ls' := [some (.ref (ax 5 e)), some (.int (nI (ky))), some (.int (nI ((k + 1))))]) rfl ?_
            exact ih5 (tn A 26 e - (k + 1)) (by omega) (k + 1) rfl (by omega) ⟨by omega, by unfold kbF; rw [inv5.2]; simp only [Bool.false_or, Bool.and_eq_false_iff, decide_eq_false_iff_not]; omega⟩
          · have q38_54 := ((nI_eq (by omega) (by omega)).mp q)
            clear q
            refine V.blk h [(.iconst 1, 1)] (by decide +kernel) (pc' := 42) (ls' := [some (.ref (ax 5 e)), some (.int (nI (ky))), some (.int (nI (k)))]) (st' := [.int (nI (1))]) rfl rfl (Nat.le_of_ble_eq_true rfl) ?_
            refine V.top (v' := .int (bI true)) (by decide) ?_
            exact V.iret h hA hr (bI_nar _) (by rw [kb_true (k := k) q38_54 hlo (by omega)] at hp; exact hp) (by decide +kernel) (Nat.zero_le _) (Nat.zero_le _)
  refine V.eqL (ls' := [some (.ref (ax 5 e)), some (.int (nI (ky))), some (.int (nI ((tn A 28 e))))]) rfl ?_
  exact loop5 _ ((tn A 28 e)) rfl hsy ⟨Nat.le_refl _, kbF_0 A e ky _ _ (Nat.le_refl _)⟩
