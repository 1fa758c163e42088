/-! ===== the audit ===== -/
def lgO (A : TS) (e i : Nat) : Nat := tn A 22 (600 * e + i)
def ijC (A : TS) (e i : Nat) : Nat → Bool
  | 0 => true
  | j + 1 => ijC A e i j && !(decide (i < j) && (decide (tn A 8 (lgO A e j) = tn A 8 (lgO A e i)) && dbF A (lgO A e j) (lgO A e i)))
theorem ij_low {A : TS} {e i : Nat} : ∀ j, j ≤ i + 1 → ijC A e i j = true
  | 0, _ => rfl
  | j + 1, h => by
    unfold ijC
    rw [ij_low j (by omega), show decide (i < j) = false from decide_eq_false (by omega)]
    rfl
theorem ij_false {A : TS} {e i k : Nat} (h : ijC A e i k = false) : ∀ n, k ≤ n → ijC A e i n = false
  | 0, z => by rw [show 0 = k by omega]; exact h
  | n + 1, z => by
    by_cases y : k = n + 1
    · rw [← y]; exact h
    · unfold ijC
      rw [ij_false h n (by omega)]
      rfl
def ioC (A : TS) (e : Nat) : Nat → Bool
  | 0 => true
  | i + 1 => ioC A e i && ijC A e i (tn A 26 e)
theorem io_false {A : TS} {e k : Nat} (h : ioC A e k = false) : ∀ n, k ≤ n → ioC A e n = false
  | 0, z => by rw [show 0 = k by omega]; exact h
  | n + 1, z => by
    by_cases y : k = n + 1
    · rw [← y]; exact h
    · unfold ioC
      rw [io_false h n (by omega)]
      rfl
set_option maxRecDepth 100000 in
set_option maxHeartbeats 4000000 in
theorem c_isInOrder {l : Launch} {D : va_G} {tc : Nat → ClassId} {ax ay : Nat → Nat → Nat} {A : TS} {S : HS} (hls : l.stackTraces = false) (hS : RA tc (mx ax ay) A S) {e : Nat} {K : Nat}  (he : e < tf A 38) (hD : ∀ i, tn A 11 i ≠ 1) (hB : NB K A) (hK : K < 1800000000) {post : Option Value → HS → Prop} (hp : post (some (.int (bI (ioC A e (tn A 26 e))))) S) : CM l D tc yX0_isInOrder cX0_isInOrder 5 (some .boolean) 3 0 0 [.ref (ax 0 (3 + e))] S post := by
  refine CM.of hls (by decide +kernel) (by simp [Value.category]) (Nat.le_of_ble_eq_true rfl) (fun A0 p e9 s m args below meth c sz h hr hnm hA => ?_)
  have h12 := hS.2.2.2.1.2.1
  have hb26 := hB.2 26 e
  have hh13 := hS.2.2.2.1.2.2.2.1
  refine V.eqL (ls' := [some (.ref (ax 0 (3 + e))), none, none, none, none]) rfl ?_
  refine V.blk h [(.iconst 0, 1), (.istore_n 1, 1)] (by decide +kernel) (pc' := 2) (ls' := [some (.ref (ax 0 (3 + e))), some (.int (nI (0))), none, none, none]) (st' := []) rfl rfl (Nat.le_of_ble_eq_true rfl) ?_
  have loop2 : ∀ (t k : Nat), tn A 26 e - k = t → k ≤ tn A 26 e → (ioC A e k = true) → V l D tc A0 p e9 (rmd 3 0 0) s m args below meth c 5 (MQ below (zQ D tc post S sz) args s 0 0 (zAd S sz)) S 0 0 2 [some (.ref (ax 0 (3 + e))), some (.int (nI (k))), none, none, none] [] := by
    intro t; induction t using Nat.strongRecOn with
    | _ t ih2 =>
      intro k ht2 hk2 inv2
      refine V.blk h [(.iload_n 1, 1), (.aload_n 0, 1)] (by decide +kernel) (pc' := 4) (ls' := [some (.ref (ax 0 (3 + e))), some (.int (nI (k))), none, none, none]) (st' := [.ref (ax 0 (3 + e)), .int (nI (k))]) rfl rfl (Nat.le_of_ble_eq_true rfl) ?_
      refine V.callV h (np := 0) (st := [.int (nI (k))]) (s_log hls hS he (post := fun v S7 => v = some (.int (nI (tn A 26 e))) ∧ S = S7) ⟨rfl, rfl⟩) wc_Jx4a65c_size_8abf5 wn_RJx4a65c (Or.inl wm_RX0_13) wi_Jx4a65c_size_8abf5 we_Jx4a65c_size_8abf5 (by decide +kernel) rfl cls_0 (hS.mem (show lv A 0 (3 + e) from (lv_log he hS.2.2.2.1.2.1))) (hS.knd (show lv A 0 (3 + e) from (lv_log he hS.2.2.2.1.2.1))) (Nat.le_of_ble_eq_true rfl) (Nat.le_of_ble_eq_true rfl) (Nat.zero_le _) (Nat.zero_le _) (by simp [Value.category]) (by decide +kernel) rfl (fun v Z1 q9 => ?_)
      obtain ⟨rfl, hS9⟩ := q9
      subst hS9
      refine V.eq (S' := S) (ls' := [some (.ref (ax 0 (3 + e))), some (.int (nI (k))), none, none, none]) (st' := [.int (nI (tn A 26 e)), .int (nI (k))]) rfl rfl rfl ?_
      have nb14 := hB.2 26 e
      refine V.icmp_ge h (off := 75) (by decide +kernel) (tgt := 82) (by decide) (fun q => ?_) (fun q => ?_)
      · have q7_15 := ((nI_leI (by omega) (by omega)).mp q)
        clear q
        refine V.blk h [(.iconst 1, 1)] (by decide +kernel) (pc' := 83) (ls' := [some (.ref (ax 0 (3 + e))), some (.int (nI (k))), none, none, none]) (st' := [.int (nI (1))]) rfl rfl (Nat.le_of_ble_eq_true rfl) ?_
        refine V.top (v' := .int (bI true)) (by decide) ?_
        exact V.iret h hA hr (bI_nar _) (by rw [show tn A 26 e = k from by omega, inv2] at hp; exact hp) (by decide +kernel) (Nat.zero_le _) (Nat.zero_le _)
      · have q7_15 : ¬ _ := (fun z => q ((nI_leI (by omega) (by omega)).mpr z))
        clear q
        refine V.blk h [(.aload_n 0, 1), (.iload_n 1, 1)] (by decide +kernel) (pc' := 12) (ls' := [some (.ref (ax 0 (3 + e))), some (.int (nI (k))), none, none, none]) (st' := [.int (nI (k)), .ref (ax 0 (3 + e))]) rfl rfl (Nat.le_of_ble_eq_true rfl) ?_
        refine V.callV h (np := 1) (st := []) (g_log hls hS he (k := k) (by omega) (post := fun v S7 => v = some (.ref (ax 3 (600 * e + k))) ∧ S = S7) ⟨rfl, rfl⟩) wc_Jx4a65c_get_915e3 wn_RJx4a65c (Or.inl wm_RX0_19) wi_Jx4a65c_get_915e3 we_Jx4a65c_get_915e3 (by decide +kernel) rfl cls_0 (hS.mem (show lv A 0 (3 + e) from (lv_log he hS.2.2.2.1.2.1))) (hS.knd (show lv A 0 (3 + e) from (lv_log he hS.2.2.2.1.2.1))) (Nat.le_of_ble_eq_true rfl) (Nat.le_of_ble_eq_true rfl) (Nat.zero_le _) (Nat.zero_le _) (by simp [Value.category]) (by decide +kernel) rfl (fun v Z2 q9 => ?_)
        obtain ⟨rfl, hS9⟩ := q9
        subst hS9
        refine V.eq (S' := S) (ls' := [some (.ref (ax 0 (3 + e))), some (.int (nI (k))), none, none, none]) (st' := [.ref (ax 3 (600 * e + k))]) rfl rfl rfl ?_
        refine V.castS h cls_3 (hS.mem (show lv A 3 (600 * e + k) from (lv_ent hS he (by omega)))) (hS.knd (show lv A 3 (600 * e + k) from (lv_ent hS he (by omega)))) wl_RX0_39 (by decide +kernel) ?_
        refine V.getP h cls_3 (j := 0) rfl (hS.mem (show lv A 3 (600 * e + k) from (lv_ent hS he (by omega)))) (hS.knd (show lv A 3 (600 * e + k) from (lv_ent hS he (by omega)))) (Or.inr ⟨_, wf_RX0_41⟩) (by decide +kernel) (v := some (ax 6 (tn A 22 (600 * e + k)))) (hS.ptr (show lv A 3 (600 * e + k) from (lv_ent hS he (by omega))) (by decide) (by decide) rfl) ?_
        refine V.eq (S' := S) (ls' := [some (.ref (ax 0 (3 + e))), some (.int (nI (k))), none, none, none]) (st' := [.ref (ax 6 (tn A 22 (600 * e + k)))]) rfl rfl rfl ?_
        refine V.blk h [(.astore_n 2, 1), (.iload_n 1, 1), (.iconst 1, 1)] (by decide +kernel) (pc' := 24) (ls' := [some (.ref (ax 0 (3 + e))), some (.int (nI (k))), some (.ref (ax 6 (tn A 22 (600 * e + k)))), none, none]) (st' := [.int (nI (1)), .int (nI (k))]) rfl rfl (Nat.le_of_ble_eq_true rfl) ?_
        refine V.addN h (by decide +kernel) (Nat.le_of_ble_eq_true rfl) ?_
        refine V.blk h [(.istore_n 3, 1)] (by decide +kernel) (pc' := 26) (ls' := [some (.ref (ax 0 (3 + e))), some (.int (nI (k))), some (.ref (ax 6 (tn A 22 (600 * e + k)))), some (.int (nI (k + 1))), none]) (st' := []) rfl rfl (Nat.le_of_ble_eq_true rfl) ?_
        have loop26 : ∀ (t j : Nat), tn A 26 e - j = t → j ≤ tn A 26 e → (k < j ∧ ijC A e k j = true) → V l D tc A0 p e9 (rmd 3 0 0) s m args below meth c 5 (MQ below (zQ D tc post S sz) args s 0 0 (zAd S sz)) S 0 0 26 [some (.ref (ax 0 (3 + e))), some (.int (nI (k))), some (.ref (ax 6 (tn A 22 (600 * e + k)))), some (.int (nI (j))), none] [] := by
          intro t; induction t using Nat.strongRecOn with
          | _ t ih26 =>
            intro j ht26 hk26 inv26
            refine V.blk h [(.iload_n 3, 1), (.aload_n 0, 1)] (by decide +kernel) (pc' := 28) (ls' := [some (.ref (ax 0 (3 + e))), some (.int (nI (k))), some (.ref (ax 6 (tn A 22 (600 * e + k)))), some (.int (nI (j))), none]) (st' := [.ref (ax 0 (3 + e)), .int (nI (j))]) rfl rfl (Nat.le_of_ble_eq_true rfl) ?_
            refine V.callV h (np := 0) (st := [.int (nI (j))]) (s_log hls hS he (post := fun v S7 => v = some (.int (nI (tn A 26 e))) ∧ S = S7) ⟨rfl, rfl⟩) wc_Jx4a65c_size_8abf5 wn_RJx4a65c (Or.inl wm_RX0_13) wi_Jx4a65c_size_8abf5 we_Jx4a65c_size_8abf5 (by decide +kernel) rfl cls_0 (hS.mem (show lv A 0 (3 + e) from (lv_log he hS.2.2.2.1.2.1))) (hS.knd (show lv A 0 (3 + e) from (lv_log he hS.2.2.2.1.2.1))) (Nat.le_of_ble_eq_true rfl) (Nat.le_of_ble_eq_true rfl) (Nat.zero_le _) (Nat.zero_le _) (by simp [Value.category]) (by decide +kernel) rfl (fun v Z3 q9 => ?_)
            obtain ⟨rfl, hS9⟩ := q9
            subst hS9
            refine V.eq (S' := S) (ls' := [some (.ref (ax 0 (3 + e))), some (.int (nI (k))), some (.ref (ax 6 (tn A 22 (600 * e + k)))), some (.int (nI (j))), none]) (st' := [.int (nI (tn A 26 e)), .int (nI (j))]) rfl rfl rfl ?_
            have nb43 := hB.2 26 e
            refine V.icmp_ge h (off := 45) (by decide +kernel) (tgt := 76) (by decide) (fun q => ?_) (fun q => ?_)
            · have q31_44 := ((nI_leI (by omega) (by omega)).mp q)
              clear q
              refine V.incN h (x := k) (i := 1) (by decide +kernel) rfl (Nat.le_of_ble_eq_true rfl) ?_
              refine V.eqL (ls' := [some (.ref (ax 0 (3 + e))), some (.int (nI (k + 1))), some (.ref (ax 6 (tn A 22 (600 * e + k)))), some (.int (nI (j))), none]) rfl ?_
              refine V.goto h (off := -77) (tgt := 2) (by decide +kernel) (by decide) ?_
              refine V.drop 2 (ls' := [some (.ref (ax 0 (3 + e))), some (.int (nI (k + 1))), none, some (.int (nI (j))), none]) rfl ?_
              refine V.drop 3 (ls' := [some (.ref (ax 0 (3 + e))), some (.int (nI (k + 1))), none, none, none]) rfl ?_
              refine V.eqL (ls' := [some (.ref (ax 0 (3 + e))), some (.int (nI ((k + 1)))), none, none, none]) rfl ?_
              exact ih2 (tn A 26 e - (k + 1)) (by omega) (k + 1) rfl (by omega) (by unfold ioC; rw [inv2, show tn A 26 e = j from by omega, inv26.2]; rfl)
            · have q31_44 : ¬ _ := (fun z => q ((nI_leI (by omega) (by omega)).mpr z))
              clear q
              refine V.blk h [(.aload_n 0, 1), (.iload_n 3, 1)] (by decide +kernel) (pc' := 36) (ls' := [some (.ref (ax 0 (3 + e))), some (.int (nI (k))), some (.ref (ax 6 (tn A 22 (600 * e + k)))), some (.int (nI (j))), none]) (st' := [.int (nI (j)), .ref (ax 0 (3 + e))]) rfl rfl (Nat.le_of_ble_eq_true rfl) ?_
              refine V.callV h (np := 1) (st := []) (g_log hls hS he (k := j) (by omega) (post := fun v S7 => v = some (.ref (ax 3 (600 * e + j))) ∧ S = S7) ⟨rfl, rfl⟩) wc_Jx4a65c_get_915e3 wn_RJx4a65c (Or.inl wm_RX0_19) wi_Jx4a65c_get_915e3 we_Jx4a65c_get_915e3 (by decide +kernel) rfl cls_0 (hS.mem (show lv A 0 (3 + e) from (lv_log he hS.2.2.2.1.2.1))) (hS.knd (show lv A 0 (3 + e) from (lv_log he hS.2.2.2.1.2.1))) (Nat.le_of_ble_eq_true rfl) (Nat.le_of_ble_eq_true rfl) (Nat.zero_le _) (Nat.zero_le _) (by simp [Value.category]) (by decide +kernel) rfl (fun v Z4 q9 => ?_)
              obtain ⟨rfl, hS9⟩ := q9
              subst hS9
              refine V.eq (S' := S) (ls' := [some (.ref (ax 0 (3 + e))), some (.int (nI (k))), some (.ref (ax 6 (tn A 22 (600 * e + k)))), some (.int (nI (j))), none]) (st' := [.ref (ax 3 (600 * e + j))]) rfl rfl rfl ?_
              refine V.castS h cls_3 (hS.mem (show lv A 3 (600 * e + j) from (lv_ent hS he (by omega)))) (hS.knd (show lv A 3 (600 * e + j) from (lv_ent hS he (by omega)))) wl_RX0_39 (by decide +kernel) ?_
              refine V.getP h cls_3 (j := 0) rfl (hS.mem (show lv A 3 (600 * e + j) from (lv_ent hS he (by omega)))) (hS.knd (show lv A 3 (600 * e + j) from (lv_ent hS he (by omega)))) (Or.inr ⟨_, wf_RX0_41⟩) (by decide +kernel) (v := some (ax 6 (tn A 22 (600 * e + j)))) (hS.ptr (show lv A 3 (600 * e + j) from (lv_ent hS he (by omega))) (by decide) (by decide) rfl) ?_
              refine V.eq (S' := S) (ls' := [some (.ref (ax 0 (3 + e))), some (.int (nI (k))), some (.ref (ax 6 (tn A 22 (600 * e + k)))), some (.int (nI (j))), none]) (st' := [.ref (ax 6 (tn A 22 (600 * e + j)))]) rfl rfl rfl ?_
              refine V.blk h [(.astore 4, 2), (.aload 4, 2)] (by decide +kernel) (pc' := 49) (ls' := [some (.ref (ax 0 (3 + e))), some (.int (nI (k))), some (.ref (ax 6 (tn A 22 (600 * e + k)))), some (.int (nI (j))), some (.ref (ax 6 (tn A 22 (600 * e + j))))]) (st' := [.ref (ax 6 (tn A 22 (600 * e + j)))]) rfl rfl (Nat.le_of_ble_eq_true rfl) ?_
              refine V.getI h cls_6 (j := 3) rfl (hS.mem (show lv A 6 (tn A 22 (600 * e + j)) from (hS.lop he (by omega)))) (hS.knd (show lv A 6 (tn A 22 (600 * e + j)) from (hS.lop he (by omega)))) (Or.inr ⟨_, wf_RX0_52⟩) (by decide +kernel) (v := nI (tn A 8 (tn A 22 (600 * e + j)))) (hS.int (show lv A 6 (tn A 22 (600 * e + j)) from (hS.lop he (by omega))) (by decide) (by decide) rfl) ?_
              have nb66 := hB.2 8 (tn A 22 (600 * e + j))
              refine V.blk h [(.aload_n 2, 1)] (by decide +kernel) (pc' := 53) (ls' := [some (.ref (ax 0 (3 + e))), some (.int (nI (k))), some (.ref (ax 6 (tn A 22 (600 * e + k)))), some (.int (nI (j))), some (.ref (ax 6 (tn A 22 (600 * e + j))))]) (st' := [.ref (ax 6 (tn A 22 (600 * e + k))), .int (nI (tn A 8 (tn A 22 (600 * e + j))))]) rfl rfl (Nat.le_of_ble_eq_true rfl) ?_
              refine V.getI h cls_6 (j := 3) rfl (hS.mem (show lv A 6 (tn A 22 (600 * e + k)) from (hS.lop he (by omega)))) (hS.knd (show lv A 6 (tn A 22 (600 * e + k)) from (hS.lop he (by omega)))) (Or.inr ⟨_, wf_RX0_52⟩) (by decide +kernel) (v := nI (tn A 8 (tn A 22 (600 * e + k)))) (hS.int (show lv A 6 (tn A 22 (600 * e + k)) from (hS.lop he (by omega))) (by decide) (by decide) rfl) ?_
              have nb69 := hB.2 8 (tn A 22 (600 * e + k))
              refine V.icmp_ne h (off := 14) (by decide +kernel) (tgt := 70) (by decide) (fun q => ?_) (fun q => ?_)
              · have q56_70 : ¬ _ := (fun z => q ((nI_eq (by omega) (by omega)).mpr z))
                clear q
                refine V.incN h (x := j) (i := 3) (by decide +kernel) rfl (Nat.le_of_ble_eq_true rfl) ?_
                refine V.eqL (ls' := [some (.ref (ax 0 (3 + e))), some (.int (nI (k))), some (.ref (ax 6 (tn A 22 (600 * e + k)))), some (.int (nI (j + 1))), some (.ref (ax 6 (tn A 22 (600 * e + j))))]) rfl ?_
                refine V.goto h (off := -47) (tgt := 26) (by decide +kernel) (by decide) ?_
                refine V.drop 4 (ls' := [some (.ref (ax 0 (3 + e))), some (.int (nI (k))), some (.ref (ax 6 (tn A 22 (600 * e + k)))), some (.int (nI (j + 1))), none]) rfl ?_
                refine V.eqL (ls' := [some (.ref (ax 0 (3 + e))), some (.int (nI (k))), some (.ref (ax 6 (tn A 22 (600 * e + k)))), some (.int (nI ((j + 1)))), none]) rfl ?_
                exact ih26 (tn A 26 e - (j + 1)) (by omega) (j + 1) rfl (by omega) ⟨by omega, by unfold ijC lgO; rw [inv26.2]; simp [q56_70]⟩
              · have q56_70 := ((nI_eq (by omega) (by omega)).mp q)
                clear q
                refine V.blk h [(.aload 4, 2), (.aload_n 2, 1)] (by decide +kernel) (pc' := 62) (ls' := [some (.ref (ax 0 (3 + e))), some (.int (nI (k))), some (.ref (ax 6 (tn A 22 (600 * e + k)))), some (.int (nI (j))), some (.ref (ax 6 (tn A 22 (600 * e + j))))]) (st' := [.ref (ax 6 (tn A 22 (600 * e + k))), .ref (ax 6 (tn A 22 (600 * e + j)))]) rfl rfl (Nat.le_of_ble_eq_true rfl) ?_
                refine V.callV h (np := 1) (st := []) (c_isDoneBefore hls hS (op := tn A 22 (600 * e + j)) (ot := tn A 22 (600 * e + k)) (show lv A 6 (tn A 22 (600 * e + j)) from (hS.lop he (by omega))) hB (by omega) (show lv A 6 (tn A 22 (600 * e + k)) from (hS.lop he (by omega))) (hD _) (post := fun v S7 => v = some (.int (bI (dbF A (tn A 22 (600 * e + j)) (tn A 22 (600 * e + k))))) ∧ S = S7) ⟨rfl, rfl⟩) wc_X6_isDoneBefore wn_RX6 (Or.inr ⟨_, wm_RX0_55⟩) wi_X6_isDoneBefore we_X6_isDoneBefore (by decide +kernel) rfl cls_6 (hS.mem (show lv A 6 (tn A 22 (600 * e + j)) from (hS.lop he (by omega)))) (hS.knd (show lv A 6 (tn A 22 (600 * e + j)) from (hS.lop he (by omega)))) (Nat.le_of_ble_eq_true rfl) (Nat.le_of_ble_eq_true rfl) (Nat.zero_le _) (Nat.zero_le _) (by simp [Value.category]) (by decide +kernel) rfl (fun v Z5 q9 => ?_)
                obtain ⟨rfl, hS9⟩ := q9
                subst hS9
                refine V.eq (S' := S) (ls' := [some (.ref (ax 0 (3 + e))), some (.int (nI (k))), some (.ref (ax 6 (tn A 22 (600 * e + k)))), some (.int (nI (j))), some (.ref (ax 6 (tn A 22 (600 * e + j))))]) (st' := [.int (bI (dbF A (tn A 22 (600 * e + j)) (tn A 22 (600 * e + k))))]) rfl rfl rfl ?_
                refine V.if_eq h (off := 5) (by decide +kernel) (tgt := 70) (by decide) (fun q => ?_) (fun q => ?_)
                · have q65_86 := (bI_0.mp q)
                  clear q
                  refine V.incN h (x := j) (i := 3) (by decide +kernel) rfl (Nat.le_of_ble_eq_true rfl) ?_
                  refine V.eqL (ls' := [some (.ref (ax 0 (3 + e))), some (.int (nI (k))), some (.ref (ax 6 (tn A 22 (600 * e + k)))), some (.int (nI (j + 1))), some (.ref (ax 6 (tn A 22 (600 * e + j))))]) rfl ?_
                  refine V.goto h (off := -47) (tgt := 26) (by decide +kernel) (by decide) ?_
                  refine V.drop 4 (ls' := [some (.ref (ax 0 (3 + e))), some (.int (nI (k))), some (.ref (ax 6 (tn A 22 (600 * e + k)))), some (.int (nI (j + 1))), none]) rfl ?_
                  refine V.eqL (ls' := [some (.ref (ax 0 (3 + e))), some (.int (nI (k))), some (.ref (ax 6 (tn A 22 (600 * e + k)))), some (.int (nI ((j + 1)))), none]) rfl ?_
                  exact ih26 (tn A 26 e - (j + 1)) (by omega) (j + 1) rfl (by omega) ⟨by omega, by unfold ijC lgO; rw [inv26.2]; simp [q56_70, q65_86]⟩
                · have q65_86 := (bI_1 (fun z => q (bI_0.mpr z)))
                  clear q
                  refine V.blk h [(.iconst 0, 1)] (by decide +kernel) (pc' := 69) (ls' := [some (.ref (ax 0 (3 + e))), some (.int (nI (k))), some (.ref (ax 6 (tn A 22 (600 * e + k)))), some (.int (nI (j))), some (.ref (ax 6 (tn A 22 (600 * e + j))))]) (st' := [.int (nI (0))]) rfl rfl (Nat.le_of_ble_eq_true rfl) ?_
                  refine V.top (v' := .int (bI false)) (by decide) ?_
                  exact V.iret h hA hr (bI_nar _) (by rw [io_false (k := k + 1) (by unfold ioC; rw [ij_false (k := j + 1) (by unfold ijC lgO; simp [q56_70, q65_86, inv26.1]) _ (by omega), Bool.and_false]) _ (by omega)] at hp; exact hp) (by decide +kernel) (Nat.zero_le _) (Nat.zero_le _)
        refine V.eqL (ls' := [some (.ref (ax 0 (3 + e))), some (.int (nI (k))), some (.ref (ax 6 (tn A 22 (600 * e + k)))), some (.int (nI ((k + 1)))), none]) rfl ?_
        exact loop26 _ ((k + 1)) rfl (by omega) ⟨by omega, ij_low _ (Nat.le_refl _)⟩
  refine V.eqL (ls' := [some (.ref (ax 0 (3 + e))), some (.int (nI (0))), none, none, none]) rfl ?_
  exact loop2 _ 0 rfl (Nat.zero_le _) rfl
def stN (A : TS) (e op : Nat) : Nat → Nat
  | 0 => 0
  | k + 1 => if lgO A e k = op then stN A e op k + 1 else stN A e op k
theorem stN_le (A : TS) (e op : Nat) : ∀ k, stN A e op k ≤ k
  | 0 => Nat.le_refl _
  | k + 1 => by have := stN_le A e op k; unfold stN; split <;> omega
def stB (A : TS) (e op : Nat) : Nat → Bool
  | 0 => true
  | k + 1 => stB A e op k && (!decide (lgO A e k = op) || decide (tr A 23 (600 * e + k) = tr A 12 op))
theorem st_false {A : TS} {e op k : Nat} (h : stB A e op k = false) : ∀ n, k ≤ n → stB A e op n = false
  | 0, z => by rw [show 0 = k by omega]; exact h
  | n + 1, z => by
    by_cases y : k = n + 1
    · rw [← y]; exact h
    · unfold stB
      rw [st_false h n (by omega)]
      rfl
def soF (A : TS) (e op : Nat) : Bool := stB A e op (tn A 26 e) && decide (stN A e op (tn A 26 e) = 1)
set_option maxRecDepth 100000 in
set_option maxHeartbeats 4000000 in
theorem c_standsOnce {l : Launch} {D : va_G} {tc : Nat → ClassId} {ax ay : Nat → Nat → Nat} {A : TS} {S : HS} (hls : l.stackTraces = false) (hS : RA tc (mx ax ay) A S) {e : Nat} {op : Nat} {K : Nat}  (he : e < tf A 38) (ho : op < tf A 13) (hB : NB K A) (hK : K < 1800000000) {post : Option Value → HS → Prop} (hp : post (some (.int (bI (soF A e op)))) S) : CM l D tc yX0_standsOnce cX0_standsOnce 5 (some .boolean) 3 0 0 [.ref (ax 0 (3 + e)), .ref (ax 6 op)] S post := by
  refine CM.of hls (by decide +kernel) (by simp [Value.category]) (Nat.le_of_ble_eq_true rfl) (fun A0 p e9 s m args below meth c sz h hr hnm hA => ?_)
  have h12 := hS.2.2.2.1.2.1
  have hb26 := hB.2 26 e
  have hh13 := hS.2.2.2.1.2.2.2.1
  refine V.eqL (ls' := [some (.ref (ax 0 (3 + e))), some (.ref (ax 6 op)), none, none, none]) rfl ?_
  refine V.blk h [(.iconst 0, 1), (.istore_n 2, 1), (.iconst 0, 1), (.istore_n 3, 1)] (by decide +kernel) (pc' := 4) (ls' := [some (.ref (ax 0 (3 + e))), some (.ref (ax 6 op)), some (.int (nI (0))), some (.int (nI (0))), none]) (st' := []) rfl rfl (Nat.le_of_ble_eq_true rfl) ?_
  have loop4 : ∀ (t k : Nat), tn A 26 e - k = t → k ≤ tn A 26 e → (stB A e op k = true) → V l D tc A0 p e9 (rmd 3 0 0) s m args below meth c 5 (MQ below (zQ D tc post S sz) args s 0 0 (zAd S sz)) S 0 0 4 [some (.ref (ax 0 (3 + e))), some (.ref (ax 6 op)), some (.int (nI (stN A e op k))), some (.int (nI (k))), none] [] := by
    intro t; induction t using Nat.strongRecOn with
    | _ t ih4 =>
      intro k ht4 hk4 inv4
      have hst := stN_le A e op k
      refine V.blk h [(.iload_n 3, 1), (.aload_n 0, 1)] (by decide +kernel) (pc' := 6) (ls' := [some (.ref (ax 0 (3 + e))), some (.ref (ax 6 op)), some (.int (nI (stN A e op k))), some (.int (nI (k))), none]) (st' := [.ref (ax 0 (3 + e)), .int (nI (k))]) rfl rfl (Nat.le_of_ble_eq_true rfl) ?_
      refine V.callV h (np := 0) (st := [.int (nI (k))]) (s_log hls hS he (post := fun v S7 => v = some (.int (nI (tn A 26 e))) ∧ S = S7) ⟨rfl, rfl⟩) wc_Jx4a65c_size_8abf5 wn_RJx4a65c (Or.inl wm_RX0_13) wi_Jx4a65c_size_8abf5 we_Jx4a65c_size_8abf5 (by decide +kernel) rfl cls_0 (hS.mem (show lv A 0 (3 + e) from (lv_log he hS.2.2.2.1.2.1))) (hS.knd (show lv A 0 (3 + e) from (lv_log he hS.2.2.2.1.2.1))) (Nat.le_of_ble_eq_true rfl) (Nat.le_of_ble_eq_true rfl) (Nat.zero_le _) (Nat.zero_le _) (by simp [Value.category]) (by decide +kernel) rfl (fun v Z1 q9 => ?_)
      obtain ⟨rfl, hS9⟩ := q9
      subst hS9
      refine V.eq (S' := S) (ls' := [some (.ref (ax 0 (3 + e))), some (.ref (ax 6 op)), some (.int (nI (stN A e op k))), some (.int (nI (k))), none]) (st' := [.int (nI (tn A 26 e)), .int (nI (k))]) rfl rfl rfl ?_
      have nb15 := hB.2 26 e
      refine V.icmp_ge h (off := 45) (by decide +kernel) (tgt := 54) (by decide) (fun q => ?_) (fun q => ?_)
      · have q9_16 := ((nI_leI (by omega) (by omega)).mp q)
        clear q
        refine V.blk h [(.iload_n 2, 1), (.iconst 1, 1)] (by decide +kernel) (pc' := 56) (ls' := [some (.ref (ax 0 (3 + e))), some (.ref (ax 6 op)), some (.int (nI (stN A e op k))), some (.int (nI (k))), none]) (st' := [.int (nI (1)), .int (nI (stN A e op k))]) rfl rfl (Nat.le_of_ble_eq_true rfl) ?_
        refine V.icmp_ne h (off := 7) (by decide +kernel) (tgt := 63) (by decide) (fun q => ?_) (fun q => ?_)
        · have q56_20 : ¬ _ := (fun z => q ((nI_eq (by omega) (by omega)).mpr z))
          clear q
          refine V.blk h [(.iconst 0, 1)] (by decide +kernel) (pc' := 64) (ls' := [some (.ref (ax 0 (3 + e))), some (.ref (ax 6 op)), some (.int (nI (stN A e op k))), some (.int (nI (k))), none]) (st' := [.int (nI (0))]) rfl rfl (Nat.le_of_ble_eq_true rfl) ?_
          refine V.top (v' := .int (bI false)) (by decide) ?_
          exact V.iret h hA hr (bI_nar _) (by rw [show soF A e op = false from by unfold soF; rw [show tn A 26 e = k from by omega, inv4]; simp [q56_20]] at hp; exact hp) (by decide +kernel) (Nat.zero_le _) (Nat.zero_le _)
        · have q56_20 := ((nI_eq (by omega) (by omega)).mp q)
          clear q
          refine V.blk h [(.iconst 1, 1)] (by decide +kernel) (pc' := 60) (ls' := [some (.ref (ax 0 (3 + e))), some (.ref (ax 6 op)), some (.int (nI (stN A e op k))), some (.int (nI (k))), none]) (st' := [.int (nI (1))]) rfl rfl (Nat.le_of_ble_eq_true rfl) ?_
          refine V.goto h (off := 4) (tgt := 64) (by decide +kernel) (by decide) ?_
          refine V.top (v' := .int (bI true)) (by decide) ?_
          exact V.iret h hA hr (bI_nar _) (by rw [show soF A e op = true from by unfold soF; rw [show tn A 26 e = k from by omega, inv4]; simp [q56_20]] at hp; exact hp) (by decide +kernel) (Nat.zero_le _) (Nat.zero_le _)
      · have q9_16 : ¬ _ := (fun z => q ((nI_leI (by omega) (by omega)).mpr z))
        clear q
        refine V.blk h [(.aload_n 0, 1), (.iload_n 3, 1)] (by decide +kernel) (pc' := 14) (ls' := [some (.ref (ax 0 (3 + e))), some (.ref (ax 6 op)), some (.int (nI (stN A e op k))), some (.int (nI (k))), none]) (st' := [.int (nI (k)), .ref (ax 0 (3 + e))]) rfl rfl (Nat.le_of_ble_eq_true rfl) ?_
        refine V.callV h (np := 1) (st := []) (g_log hls hS he (k := k) (by omega) (post := fun v S7 => v = some (.ref (ax 3 (600 * e + k))) ∧ S = S7) ⟨rfl, rfl⟩) wc_Jx4a65c_get_915e3 wn_RJx4a65c (Or.inl wm_RX0_19) wi_Jx4a65c_get_915e3 we_Jx4a65c_get_915e3 (by decide +kernel) rfl cls_0 (hS.mem (show lv A 0 (3 + e) from (lv_log he hS.2.2.2.1.2.1))) (hS.knd (show lv A 0 (3 + e) from (lv_log he hS.2.2.2.1.2.1))) (Nat.le_of_ble_eq_true rfl) (Nat.le_of_ble_eq_true rfl) (Nat.zero_le _) (Nat.zero_le _) (by simp [Value.category]) (by decide +kernel) rfl (fun v Z2 q9 => ?_)
        obtain ⟨rfl, hS9⟩ := q9
        subst hS9
        refine V.eq (S' := S) (ls' := [some (.ref (ax 0 (3 + e))), some (.ref (ax 6 op)), some (.int (nI (stN A e op k))), some (.int (nI (k))), none]) (st' := [.ref (ax 3 (600 * e + k))]) rfl rfl rfl ?_
        refine V.castS h cls_3 (hS.mem (show lv A 3 (600 * e + k) from (lv_ent hS he (by omega)))) (hS.knd (show lv A 3 (600 * e + k) from (lv_ent hS he (by omega)))) wl_RX0_39 (by decide +kernel) ?_
        refine V.blk h [(.astore 4, 2), (.aload 4, 2)] (by decide +kernel) (pc' := 24) (ls' := [some (.ref (ax 0 (3 + e))), some (.ref (ax 6 op)), some (.int (nI (stN A e op k))), some (.int (nI (k))), some (.ref (ax 3 (600 * e + k)))]) (st' := [.ref (ax 3 (600 * e + k))]) rfl rfl (Nat.le_of_ble_eq_true rfl) ?_
        refine V.getP h cls_3 (j := 0) rfl (hS.mem (show lv A 3 (600 * e + k) from (lv_ent hS he (by omega)))) (hS.knd (show lv A 3 (600 * e + k) from (lv_ent hS he (by omega)))) (Or.inr ⟨_, wf_RX0_41⟩) (by decide +kernel) (v := some (ax 6 (tn A 22 (600 * e + k)))) (hS.ptr (show lv A 3 (600 * e + k) from (lv_ent hS he (by omega))) (by decide) (by decide) rfl) ?_
        refine V.eq (S' := S) (ls' := [some (.ref (ax 0 (3 + e))), some (.ref (ax 6 op)), some (.int (nI (stN A e op k))), some (.int (nI (k))), some (.ref (ax 3 (600 * e + k)))]) (st' := [.ref (ax 6 (tn A 22 (600 * e + k)))]) rfl rfl rfl ?_
        refine V.blk h [(.aload_n 1, 1)] (by decide +kernel) (pc' := 28) (ls' := [some (.ref (ax 0 (3 + e))), some (.ref (ax 6 op)), some (.int (nI (stN A e op k))), some (.int (nI (k))), some (.ref (ax 3 (600 * e + k)))]) (st' := [.ref (ax 6 op), .ref (ax 6 (tn A 22 (600 * e + k)))]) rfl rfl (Nat.le_of_ble_eq_true rfl) ?_
        refine V.acmp_ne h (rx := some (ax 6 (tn A 22 (600 * e + k)))) (ry := some (ax 6 op)) (off := 20) (by decide +kernel) (tgt := 48) (by decide) (fun q => ?_) (fun q => ?_)
        · have q28_44 : ¬ _ := (fun z => q ((hS.opeq (hS.lop he (by omega)) ho).mpr z))
          clear q
          refine V.incN h (x := k) (i := 3) (by decide +kernel) rfl (Nat.le_of_ble_eq_true rfl) ?_
          refine V.eqL (ls' := [some (.ref (ax 0 (3 + e))), some (.ref (ax 6 op)), some (.int (nI (stN A e op k))), some (.int (nI (k + 1))), some (.ref (ax 3 (600 * e + k)))]) rfl ?_
          refine V.goto h (off := -47) (tgt := 4) (by decide +kernel) (by decide) ?_
          refine V.drop 4 (ls' := [some (.ref (ax 0 (3 + e))), some (.ref (ax 6 op)), some (.int (nI (stN A e op k))), some (.int (nI (k + 1))), none]) rfl ?_
          refine V.eqL (ls' := [some (.ref (ax 0 (3 + e))), some (.ref (ax 6 op)), some (.int (nI (stN A e op ((k + 1))))), some (.int (nI ((k + 1)))), none]) (by simp [stN, lgO, q28_44]) ?_
          exact ih4 (tn A 26 e - (k + 1)) (by omega) (k + 1) rfl (by omega) (by unfold stB lgO; rw [inv4]; simp [q28_44])
        · have q28_44 := ((hS.opeq (hS.lop he (by omega)) ho).mp q)
          clear q
          refine V.incN h (x := stN A e op k) (i := 2) (by decide +kernel) rfl (Nat.le_of_ble_eq_true rfl) ?_
          refine V.eqL (ls' := [some (.ref (ax 0 (3 + e))), some (.ref (ax 6 op)), some (.int (nI ((stN A e op k) + 1))), some (.int (nI (k))), some (.ref (ax 3 (600 * e + k)))]) rfl ?_
          refine V.blk h [(.aload 4, 2)] (by decide +kernel) (pc' := 36) (ls' := [some (.ref (ax 0 (3 + e))), some (.ref (ax 6 op)), some (.int (nI ((stN A e op k) + 1))), some (.int (nI (k))), some (.ref (ax 3 (600 * e + k)))]) (st' := [.ref (ax 3 (600 * e + k))]) rfl rfl (Nat.le_of_ble_eq_true rfl) ?_
          refine V.getI h cls_3 (j := 1) rfl (hS.mem (show lv A 3 (600 * e + k) from (lv_ent hS he (by omega)))) (hS.knd (show lv A 3 (600 * e + k) from (lv_ent hS he (by omega)))) (Or.inr ⟨_, wf_RX0_45⟩) (by decide +kernel) (v := tr A 23 (600 * e + k)) (hS.int (show lv A 3 (600 * e + k) from (lv_ent hS he (by omega))) (by decide) (by decide) rfl) ?_
          refine V.blk h [(.aload_n 1, 1)] (by decide +kernel) (pc' := 40) (ls' := [some (.ref (ax 0 (3 + e))), some (.ref (ax 6 op)), some (.int (nI ((stN A e op k) + 1))), some (.int (nI (k))), some (.ref (ax 3 (600 * e + k)))]) (st' := [.ref (ax 6 op), .int (tr A 23 (600 * e + k))]) rfl rfl (Nat.le_of_ble_eq_true rfl) ?_
          refine V.getI h cls_6 (j := 7) rfl (hS.mem (show lv A 6 op from ho)) (hS.knd (show lv A 6 op from ho)) (Or.inr ⟨_, wf_RX0_49⟩) (by decide +kernel) (v := tr A 12 op) (hS.int (show lv A 6 op from ho) (by decide) (by decide) rfl) ?_
          refine V.icmp_eq h (off := 5) (by decide +kernel) (tgt := 48) (by decide) (fun q => ?_) (fun q => ?_)
          · have q43_61 := q
            clear q
            refine V.incN h (x := k) (i := 3) (by decide +kernel) rfl (Nat.le_of_ble_eq_true rfl) ?_
            refine V.eqL (ls' := [some (.ref (ax 0 (3 + e))), some (.ref (ax 6 op)), some (.int (nI ((stN A e op k) + 1))), some (.int (nI (k + 1))), some (.ref (ax 3 (600 * e + k)))]) rfl ?_
            refine V.goto h (off := -47) (tgt := 4) (by decide +kernel) (by decide) ?_
            refine V.drop 4 (ls' := [some (.ref (ax 0 (3 + e))), some (.ref (ax 6 op)), some (.int (nI ((stN A e op k) + 1))), some (.int (nI (k + 1))), none]) rfl ?_
            refine V.eqL (ls' := [some (.ref (ax 0 (3 + e))), some (.ref (ax 6 op)), some (.int (nI (stN A e op ((k + 1))))), some (.int (nI ((k + 1)))), none]) (by simp [stN, lgO, q28_44]) ?_
            exact ih4 (tn A 26 e - (k + 1)) (by omega) (k + 1) rfl (by omega) (by unfold stB lgO; rw [inv4]; simp [q28_44, q43_61])
          · have q43_61 := q
            clear q
            refine V.blk h [(.iconst 0, 1)] (by decide +kernel) (pc' := 47) (ls' := [some (.ref (ax 0 (3 + e))), some (.ref (ax 6 op)), some (.int (nI ((stN A e op k) + 1))), some (.int (nI (k))), some (.ref (ax 3 (600 * e + k)))]) (st' := [.int (nI (0))]) rfl rfl (Nat.le_of_ble_eq_true rfl) ?_
            refine V.top (v' := .int (bI false)) (by decide) ?_
            exact V.iret h hA hr (bI_nar _) (by rw [show soF A e op = false from by unfold soF; rw [st_false (k := k + 1) (by unfold stB lgO; simp [q28_44, q43_61]) _ (by omega), Bool.false_and]] at hp; exact hp) (by decide +kernel) (Nat.zero_le _) (Nat.zero_le _)
  refine V.eqL (ls' := [some (.ref (ax 0 (3 + e))), some (.ref (ax 6 op)), some (.int (nI (stN A e op 0))), some (.int (nI (0))), none]) rfl ?_
  exact loop4 _ 0 rfl (Nat.zero_le _) rfl
