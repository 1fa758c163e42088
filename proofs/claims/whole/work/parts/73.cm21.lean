/-! ===== the audit: gets; all of it ===== -/
def ftL (A : TS) (e x n : Nat) : Nat → Nat
  | 0 => 0
  | j + 1 => if tn A 8 (lgO A e (n - j - 1)) = tn A 8 x ∧ dbF A (lgO A e (n - j - 1)) x = true then (if ftL A e x n j < n - j then n - j else ftL A e x n j) else ftL A e x n j
def ftM (A : TS) (e x n : Nat) : Nat → Nat
  | 0 => n
  | j + 1 => if tn A 8 (lgO A e (n - j - 1)) = tn A 8 x ∧ dbF A x (lgO A e (n - j - 1)) = true then n - j - 1 else ftM A e x n j
theorem ftL_le (A : TS) (e x n : Nat) : ∀ j, ftL A e x n j ≤ n
  | 0 => Nat.zero_le _
  | j + 1 => by have := ftL_le A e x n j; unfold ftL; split <;> (try split) <;> omega
theorem ftM_le (A : TS) (e x n : Nat) : ∀ j, ftM A e x n j ≤ n
  | 0 => Nat.le_refl _
  | j + 1 => by have := ftM_le A e x n j; unfold ftM; split <;> omega
def seC (A : TS) (e x lo : Nat) : Nat → Bool
  | 0 => false
  | k + 1 => seC A e x lo k || (decide (lo ≤ k) && decide (vaF A e (tn A 8 x) k = tr A 12 x))
theorem se_true {A : TS} {e x lo k : Nat} (h : seC A e x lo k = true) : ∀ n, k ≤ n → seC A e x lo n = true
  | 0, z => by rw [show 0 = k by omega]; exact h
  | n + 1, z => by
    by_cases y : k = n + 1
    · rw [← y]; exact h
    · unfold seC
      rw [se_true h n (by omega)]
      rfl
def fiF (A : TS) (e x : Nat) : Bool := seC A e x (ftL A e x (tn A 26 e) (tn A 26 e)) (ftM A e x (tn A 26 e) (tn A 26 e) + 1)
set_option maxRecDepth 100000 in
set_option maxHeartbeats 4000000 in
theorem c_fits {l : Launch} {D : va_G} {tc : Nat → ClassId} {ax ay : Nat → Nat → Nat} {A : TS} {S : HS} (hls : l.stackTraces = false) (hS : RA tc (mx ax ay) A S) {e : Nat} {x : Nat} {K : Nat}  (he : e < tf A 38) (ho : x < tf A 13) (hD : ∀ i, tn A 11 i ≠ 1) (hB : NB K A) (hK : K < 1800000000) {post : Option Value → HS → Prop} (hp : post (some (.int (bI (fiF A e x)))) S) : CM l D tc yX0_fits cX0_fits 6 (some .boolean) 3 0 0 [.ref (ax 0 (3 + e)), .ref (ax 6 x)] S post := by
  refine CM.of hls (by decide +kernel) (by simp [Value.category]) (Nat.le_of_ble_eq_true rfl) (fun A0 p e9 s m args below meth c sz h hr hnm hA => ?_)
  have h12 := hS.2.2.2.1.2.1
  have hb26 := hB.2 26 e
  have hh13 := hS.2.2.2.1.2.2.2.1
  refine V.eqL (ls' := [some (.ref (ax 0 (3 + e))), some (.ref (ax 6 x)), none, none, none, none]) rfl ?_
  refine V.blk h [(.iconst 0, 1), (.istore_n 2, 1), (.aload_n 0, 1)] (by decide +kernel) (pc' := 3) (ls' := [some (.ref (ax 0 (3 + e))), some (.ref (ax 6 x)), some (.int (nI (0))), none, none, none]) (st' := [.ref (ax 0 (3 + e))]) rfl rfl (Nat.le_of_ble_eq_true rfl) ?_
  refine V.callV h (np := 0) (st := []) (s_log hls hS he (post := fun v S7 => v = some (.int (nI (tn A 26 e))) ∧ S = S7) ⟨rfl, rfl⟩) wc_Jx4a65c_size_8abf5 wn_RJx4a65c (Or.inl wm_RX0_13) wi_Jx4a65c_size_8abf5 we_Jx4a65c_size_8abf5 (by decide +kernel) rfl cls_0 (hS.mem (show lv A 0 (3 + e) from (lv_log he hS.2.2.2.1.2.1))) (hS.knd (show lv A 0 (3 + e) from (lv_log he hS.2.2.2.1.2.1))) (Nat.le_of_ble_eq_true rfl) (Nat.le_of_ble_eq_true rfl) (Nat.zero_le _) (Nat.zero_le _) (by simp [Value.category]) (by decide +kernel) rfl (fun v Z1 q9 => ?_)
  obtain ⟨rfl, hS9⟩ := q9
  subst hS9
  refine V.eq (S' := S) (ls' := [some (.ref (ax 0 (3 + e))), some (.ref (ax 6 x)), some (.int (nI (0))), none, none, none]) (st' := [.int (nI (tn A 26 e))]) rfl rfl rfl ?_
  have nb9 := hB.2 26 e
  refine V.blk h [(.istore_n 3, 1), (.aload_n 0, 1)] (by decide +kernel) (pc' := 8) (ls' := [some (.ref (ax 0 (3 + e))), some (.ref (ax 6 x)), some (.int (nI (0))), some (.int (nI (tn A 26 e))), none, none]) (st' := [.ref (ax 0 (3 + e))]) rfl rfl (Nat.le_of_ble_eq_true rfl) ?_
  refine V.callV h (np := 0) (st := []) (s_log hls hS he (post := fun v S7 => v = some (.int (nI (tn A 26 e))) ∧ S = S7) ⟨rfl, rfl⟩) wc_Jx4a65c_size_8abf5 wn_RJx4a65c (Or.inl wm_RX0_13) wi_Jx4a65c_size_8abf5 we_Jx4a65c_size_8abf5 (by decide +kernel) rfl cls_0 (hS.mem (show lv A 0 (3 + e) from (lv_log he hS.2.2.2.1.2.1))) (hS.knd (show lv A 0 (3 + e) from (lv_log he hS.2.2.2.1.2.1))) (Nat.le_of_ble_eq_true rfl) (Nat.le_of_ble_eq_true rfl) (Nat.zero_le _) (Nat.zero_le _) (by simp [Value.category]) (by decide +kernel) rfl (fun v Z2 q9 => ?_)
  obtain ⟨rfl, hS9⟩ := q9
  subst hS9
  refine V.eq (S' := S) (ls' := [some (.ref (ax 0 (3 + e))), some (.ref (ax 6 x)), some (.int (nI (0))), some (.int (nI (tn A 26 e))), none, none]) (st' := [.int (nI (tn A 26 e))]) rfl rfl rfl ?_
  have nb15 := hB.2 26 e
  refine V.blk h [(.iconst 1, 1)] (by decide +kernel) (pc' := 12) (ls' := [some (.ref (ax 0 (3 + e))), some (.ref (ax 6 x)), some (.int (nI (0))), some (.int (nI (tn A 26 e))), none, none]) (st' := [.int (nI (1)), .int (nI (tn A 26 e))]) rfl rfl (Nat.le_of_ble_eq_true rfl) ?_
  refine V.blk h [(.isub, 1)] (by decide +kernel) (pc' := 13) (ls' := [some (.ref (ax 0 (3 + e))), some (.ref (ax 6 x)), some (.int (nI (0))), some (.int (nI (tn A 26 e))), none, none]) (st' := [.int (nI (tn A 26 e) - nI 1)]) rfl rfl (Nat.le_of_ble_eq_true rfl) ?_
  refine V.top (v' := .int (oI (tn A 26 e))) rfl ?_
  refine V.blk h [(.istore 4, 2)] (by decide +kernel) (pc' := 15) (ls' := [some (.ref (ax 0 (3 + e))), some (.ref (ax 6 x)), some (.int (nI (0))), some (.int (nI (tn A 26 e))), some (.int (oI (tn A 26 e))), none]) (st' := []) rfl rfl (Nat.le_of_ble_eq_true rfl) ?_
  have loop15 : ∀ (t k : Nat), tn A 26 e - k = t → k ≤ tn A 26 e → V l D tc A0 p e9 (rmd 3 0 0) s m args below meth c 6 (MQ below (zQ D tc post S sz) args s 0 0 (zAd S sz)) S 0 0 15 [some (.ref (ax 0 (3 + e))), some (.ref (ax 6 x)), some (.int (nI (ftL A e x (tn A 26 e) k))), some (.int (nI (ftM A e x (tn A 26 e) k))), some (.int (oI (tn A 26 e - k))), none] [] := by
    intro t; induction t using Nat.strongRecOn with
    | _ t ih15 =>
      intro k ht15 hk15
      have hfl := ftL_le A e x (tn A 26 e) k
      have hfm := ftM_le A e x (tn A 26 e) k
      refine V.blk h [(.iload 4, 2)] (by decide +kernel) (pc' := 17) (ls' := [some (.ref (ax 0 (3 + e))), some (.ref (ax 6 x)), some (.int (nI (ftL A e x (tn A 26 e) k))), some (.int (nI (ftM A e x (tn A 26 e) k))), some (.int (oI (tn A 26 e - k))), none]) (st' := [.int (oI (tn A 26 e - k))]) rfl rfl (Nat.le_of_ble_eq_true rfl) ?_
      refine V.if_lt h (off := 77) (by decide +kernel) (tgt := 94) (by decide) (fun q => ?_) (fun q => ?_)
      · have q17_27 := ((oI_neg (by omega)).mp q)
        clear q
        have hk9 : k = tn A 26 e := by omega
        refine V.drop 4 (ls' := [some (.ref (ax 0 (3 + e))), some (.ref (ax 6 x)), some (.int (nI (ftL A e x (tn A 26 e) k))), some (.int (nI (ftM A e x (tn A 26 e) k))), none, none]) rfl ?_
        refine V.eqL (ls' := [some (.ref (ax 0 (3 + e))), some (.ref (ax 6 x)), some (.int (nI (ftL A e x (tn A 26 e) ((tn A 26 e))))), some (.int (nI (ftM A e x (tn A 26 e) ((tn A 26 e))))), none, none]) (by rw [show ftL A e x (tn A 26 e) k = ftL A e x (tn A 26 e) ((tn A 26 e)) from by rw [hk9], show ftM A e x (tn A 26 e) k = ftM A e x (tn A 26 e) ((tn A 26 e)) from by rw [hk9]]) ?_
        refine V.blk h [(.iconst 0, 1), (.istore 4, 2), (.iconst 0, 1), (.istore 5, 2)] (by decide +kernel) (pc' := 100) (ls' := [some (.ref (ax 0 (3 + e))), some (.ref (ax 6 x)), some (.int (nI (ftL A e x (tn A 26 e) ((tn A 26 e))))), some (.int (nI (ftM A e x (tn A 26 e) ((tn A 26 e))))), some (.int (nI (0))), some (.int (nI (0)))]) (st' := []) rfl rfl (Nat.le_of_ble_eq_true rfl) ?_
        have loop100 : ∀ (t k : Nat), (ftM A e x (tn A 26 e) ((tn A 26 e)) + 1) - k = t → k ≤ (ftM A e x (tn A 26 e) ((tn A 26 e)) + 1) → (seC A e x (ftL A e x (tn A 26 e) ((tn A 26 e))) k = false) → V l D tc A0 p e9 (rmd 3 0 0) s m args below meth c 6 (MQ below (zQ D tc post S sz) args s 0 0 (zAd S sz)) S 0 0 100 [some (.ref (ax 0 (3 + e))), some (.ref (ax 6 x)), some (.int (nI (ftL A e x (tn A 26 e) ((tn A 26 e))))), some (.int (nI (ftM A e x (tn A 26 e) ((tn A 26 e))))), some (.int (vaF A e (tn A 8 x) (if k ≤ tn A 26 e then k else tn A 26 e))), some (.int (nI (k)))] [] := by
          intro t; induction t using Nat.strongRecOn with
          | _ t ih100 =>
            intro k ht100 hk100 inv100
            have hfm9 := ftM_le A e x (tn A 26 e) (tn A 26 e)
            have hfl9 := ftL_le A e x (tn A 26 e) (tn A 26 e)
            refine V.blk h [(.iload 5, 2), (.iload_n 3, 1)] (by decide +kernel) (pc' := 103) (ls' := [some (.ref (ax 0 (3 + e))), some (.ref (ax 6 x)), some (.int (nI (ftL A e x (tn A 26 e) ((tn A 26 e))))), some (.int (nI (ftM A e x (tn A 26 e) ((tn A 26 e))))), some (.int (vaF A e (tn A 8 x) (if k ≤ tn A 26 e then k else tn A 26 e))), some (.int (nI (k)))]) (st' := [.int (nI (ftM A e x (tn A 26 e) ((tn A 26 e)))), .int (nI (k))]) rfl rfl (Nat.le_of_ble_eq_true rfl) ?_
            refine V.icmp_gt h (off := 76) (by decide +kernel) (tgt := 179) (by decide) (fun q => ?_) (fun q => ?_)
            · have q103_41 := ((nI_ltI (by omega) (by omega)).mp q)
              clear q
              refine V.blk h [(.iconst 0, 1)] (by decide +kernel) (pc' := 180) (ls' := [some (.ref (ax 0 (3 + e))), some (.ref (ax 6 x)), some (.int (nI (ftL A e x (tn A 26 e) ((tn A 26 e))))), some (.int (nI (ftM A e x (tn A 26 e) ((tn A 26 e))))), some (.int (vaF A e (tn A 8 x) (if k ≤ tn A 26 e then k else tn A 26 e))), some (.int (nI (k)))]) (st' := [.int (nI (0))]) rfl rfl (Nat.le_of_ble_eq_true rfl) ?_
              refine V.top (v' := .int (bI false)) (by decide) ?_
              exact V.iret h hA hr (bI_nar _) (by rw [show fiF A e x = false from by unfold fiF; rw [show ftM A e x (tn A 26 e) ((tn A 26 e)) + 1 = k from by omega]; exact inv100] at hp; exact hp) (by decide +kernel) (Nat.zero_le _) (Nat.zero_le _)
            · have q103_41 : ¬ _ := (fun z => q ((nI_ltI (by omega) (by omega)).mpr z))
              clear q
              refine V.eqL (ls' := [some (.ref (ax 0 (3 + e))), some (.ref (ax 6 x)), some (.int (nI (ftL A e x (tn A 26 e) ((tn A 26 e))))), some (.int (nI (ftM A e x (tn A 26 e) ((tn A 26 e))))), some (.int (vaF A e (tn A 8 x) k)), some (.int (nI (k)))]) (by rw [if_pos (show k ≤ tn A 26 e by omega)]) ?_
              refine V.blk h [(.iload 5, 2), (.iload_n 2, 1)] (by decide +kernel) (pc' := 109) (ls' := [some (.ref (ax 0 (3 + e))), some (.ref (ax 6 x)), some (.int (nI (ftL A e x (tn A 26 e) ((tn A 26 e))))), some (.int (nI (ftM A e x (tn A 26 e) ((tn A 26 e))))), some (.int (vaF A e (tn A 8 x) k)), some (.int (nI (k)))]) (st' := [.int (nI (ftL A e x (tn A 26 e) ((tn A 26 e)))), .int (nI (k))]) rfl rfl (Nat.le_of_ble_eq_true rfl) ?_
              refine V.icmp_lt h (off := 14) (by decide +kernel) (tgt := 123) (by decide) (fun q => ?_) (fun q => ?_)
              · have q109_51 := ((nI_ltI (by omega) (by omega)).mp q)
                clear q
                refine V.blk h [(.iload 5, 2), (.aload_n 0, 1)] (by decide +kernel) (pc' := 126) (ls' := [some (.ref (ax 0 (3 + e))), some (.ref (ax 6 x)), some (.int (nI (ftL A e x (tn A 26 e) ((tn A 26 e))))), some (.int (nI (ftM A e x (tn A 26 e) ((tn A 26 e))))), some (.int (vaF A e (tn A 8 x) k)), some (.int (nI (k)))]) (st' := [.ref (ax 0 (3 + e)), .int (nI (k))]) rfl rfl (Nat.le_of_ble_eq_true rfl) ?_
                refine V.callV h (np := 0) (st := [.int (nI (k))]) (s_log hls hS he (post := fun v S7 => v = some (.int (nI (tn A 26 e))) ∧ S = S7) ⟨rfl, rfl⟩) wc_Jx4a65c_size_8abf5 wn_RJx4a65c (Or.inl wm_RX0_13) wi_Jx4a65c_size_8abf5 we_Jx4a65c_size_8abf5 (by decide +kernel) rfl cls_0 (hS.mem (show lv A 0 (3 + e) from (lv_log he hS.2.2.2.1.2.1))) (hS.knd (show lv A 0 (3 + e) from (lv_log he hS.2.2.2.1.2.1))) (Nat.le_of_ble_eq_true rfl) (Nat.le_of_ble_eq_true rfl) (Nat.zero_le _) (Nat.zero_le _) (by simp [Value.category]) (by decide +kernel) rfl (fun v Z3 q9 => ?_)
                obtain ⟨rfl, hS9⟩ := q9
                subst hS9
                refine V.eq (S' := S) (ls' := [some (.ref (ax 0 (3 + e))), some (.ref (ax 6 x)), some (.int (nI (ftL A e x (tn A 26 e) ((tn A 26 e))))), some (.int (nI (ftM A e x (tn A 26 e) ((tn A 26 e))))), some (.int (vaF A e (tn A 8 x) k)), some (.int (nI (k)))]) (st' := [.int (nI (tn A 26 e)), .int (nI (k))]) rfl rfl rfl ?_
                have nb59 := hB.2 26 e
                refine V.icmp_ge h (off := 44) (by decide +kernel) (tgt := 173) (by decide) (fun q => ?_) (fun q => ?_)
                · have q129_60 := ((nI_leI (by omega) (by omega)).mp q)
                  clear q
                  refine V.incN h (x := k) (i := 5) (by decide +kernel) rfl (Nat.le_of_ble_eq_true rfl) ?_
                  refine V.eqL (ls' := [some (.ref (ax 0 (3 + e))), some (.ref (ax 6 x)), some (.int (nI (ftL A e x (tn A 26 e) ((tn A 26 e))))), some (.int (nI (ftM A e x (tn A 26 e) ((tn A 26 e))))), some (.int (vaF A e (tn A 8 x) k)), some (.int (nI (k + 1)))]) rfl ?_
                  refine V.goto h (off := -76) (tgt := 100) (by decide +kernel) (by decide) ?_
                  refine V.eqL (ls' := [some (.ref (ax 0 (3 + e))), some (.ref (ax 6 x)), some (.int (nI (ftL A e x (tn A 26 e) ((tn A 26 e))))), some (.int (nI (ftM A e x (tn A 26 e) ((tn A 26 e))))), some (.int (vaF A e (tn A 8 x) (if (k + 1) ≤ tn A 26 e then (k + 1) else tn A 26 e))), some (.int (nI ((k + 1))))]) (by rw [show vaF A e (tn A 8 x) (if (k + 1) ≤ tn A 26 e then (k + 1) else tn A 26 e) = vaF A e (tn A 8 x) k from by first | (rw [if_pos (show k + 1 ≤ tn A 26 e by omega)]; simp [vaF, lgO]; done) | (rw [if_neg (show ¬ k + 1 ≤ tn A 26 e by omega), show tn A 26 e = k from by omega])]) ?_
                  exact ih100 ((ftM A e x (tn A 26 e) ((tn A 26 e)) + 1) - (k + 1)) (by omega) (k + 1) rfl (by omega) (by unfold seC; rw [inv100]; simp []; omega)
                · have q129_60 : ¬ _ := (fun z => q ((nI_leI (by omega) (by omega)).mpr z))
                  clear q
                  refine V.blk h [(.aload_n 0, 1), (.iload 5, 2)] (by decide +kernel) (pc' := 135) (ls' := [some (.ref (ax 0 (3 + e))), some (.ref (ax 6 x)), some (.int (nI (ftL A e x (tn A 26 e) ((tn A 26 e))))), some (.int (nI (ftM A e x (tn A 26 e) ((tn A 26 e))))), some (.int (vaF A e (tn A 8 x) k)), some (.int (nI (k)))]) (st' := [.int (nI (k)), .ref (ax 0 (3 + e))]) rfl rfl (Nat.le_of_ble_eq_true rfl) ?_
                  refine V.callV h (np := 1) (st := []) (g_log hls hS he (k := k) (by omega) (post := fun v S7 => v = some (.ref (ax 3 (600 * e + k))) ∧ S = S7) ⟨rfl, rfl⟩) wc_Jx4a65c_get_915e3 wn_RJx4a65c (Or.inl wm_RX0_19) wi_Jx4a65c_get_915e3 we_Jx4a65c_get_915e3 (by decide +kernel) rfl cls_0 (hS.mem (show lv A 0 (3 + e) from (lv_log he hS.2.2.2.1.2.1))) (hS.knd (show lv A 0 (3 + e) from (lv_log he hS.2.2.2.1.2.1))) (Nat.le_of_ble_eq_true rfl) (Nat.le_of_ble_eq_true rfl) (Nat.zero_le _) (Nat.zero_le _) (by simp [Value.category]) (by decide +kernel) rfl (fun v Z4 q9 => ?_)
                  obtain ⟨rfl, hS9⟩ := q9
                  subst hS9
                  refine V.eq (S' := S) (ls' := [some (.ref (ax 0 (3 + e))), some (.ref (ax 6 x)), some (.int (nI (ftL A e x (tn A 26 e) ((tn A 26 e))))), some (.int (nI (ftM A e x (tn A 26 e) ((tn A 26 e))))), some (.int (vaF A e (tn A 8 x) k)), some (.int (nI (k)))]) (st' := [.ref (ax 3 (600 * e + k))]) rfl rfl rfl ?_
                  refine V.castS h cls_3 (hS.mem (show lv A 3 (600 * e + k) from (lv_ent hS he (by omega)))) (hS.knd (show lv A 3 (600 * e + k) from (lv_ent hS he (by omega)))) wl_RX0_39 (by decide +kernel) ?_
                  refine V.getP h cls_3 (j := 0) rfl (hS.mem (show lv A 3 (600 * e + k) from (lv_ent hS he (by omega)))) (hS.knd (show lv A 3 (600 * e + k) from (lv_ent hS he (by omega)))) (Or.inr ⟨_, wf_RX0_41⟩) (by decide +kernel) (v := some (ax 6 (tn A 22 (600 * e + k)))) (hS.ptr (show lv A 3 (600 * e + k) from (lv_ent hS he (by omega))) (by decide) (by decide) rfl) ?_
                  refine V.eq (S' := S) (ls' := [some (.ref (ax 0 (3 + e))), some (.ref (ax 6 x)), some (.int (nI (ftL A e x (tn A 26 e) ((tn A 26 e))))), some (.int (nI (ftM A e x (tn A 26 e) ((tn A 26 e))))), some (.int (vaF A e (tn A 8 x) k)), some (.int (nI (k)))]) (st' := [.ref (ax 6 (tn A 22 (600 * e + k)))]) rfl rfl rfl ?_
                  refine V.getI h cls_6 (j := 3) rfl (hS.mem (show lv A 6 (tn A 22 (600 * e + k)) from (hS.lop he (by omega)))) (hS.knd (show lv A 6 (tn A 22 (600 * e + k)) from (hS.lop he (by omega)))) (Or.inr ⟨_, wf_RX0_52⟩) (by decide +kernel) (v := nI (tn A 8 (tn A 22 (600 * e + k)))) (hS.int (show lv A 6 (tn A 22 (600 * e + k)) from (hS.lop he (by omega))) (by decide) (by decide) rfl) ?_
                  have nb79 := hB.2 8 (tn A 22 (600 * e + k))
                  refine V.blk h [(.aload_n 1, 1)] (by decide +kernel) (pc' := 148) (ls' := [some (.ref (ax 0 (3 + e))), some (.ref (ax 6 x)), some (.int (nI (ftL A e x (tn A 26 e) ((tn A 26 e))))), some (.int (nI (ftM A e x (tn A 26 e) ((tn A 26 e))))), some (.int (vaF A e (tn A 8 x) k)), some (.int (nI (k)))]) (st' := [.ref (ax 6 x), .int (nI (tn A 8 (tn A 22 (600 * e + k))))]) rfl rfl (Nat.le_of_ble_eq_true rfl) ?_
                  refine V.getI h cls_6 (j := 3) rfl (hS.mem (show lv A 6 x from ho)) (hS.knd (show lv A 6 x from ho)) (Or.inr ⟨_, wf_RX0_52⟩) (by decide +kernel) (v := nI (tn A 8 x)) (hS.int (show lv A 6 x from ho) (by decide) (by decide) rfl) ?_
                  have nb82 := hB.2 8 x
                  refine V.icmp_ne h (off := 22) (by decide +kernel) (tgt := 173) (by decide) (fun q => ?_) (fun q => ?_)
                  · have q151_83 : ¬ _ := (fun z => q ((nI_eq (by omega) (by omega)).mpr z))
                    clear q
                    refine V.incN h (x := k) (i := 5) (by decide +kernel) rfl (Nat.le_of_ble_eq_true rfl) ?_
                    refine V.eqL (ls' := [some (.ref (ax 0 (3 + e))), some (.ref (ax 6 x)), some (.int (nI (ftL A e x (tn A 26 e) ((tn A 26 e))))), some (.int (nI (ftM A e x (tn A 26 e) ((tn A 26 e))))), some (.int (vaF A e (tn A 8 x) k)), some (.int (nI (k + 1)))]) rfl ?_
                    refine V.goto h (off := -76) (tgt := 100) (by decide +kernel) (by decide) ?_
                    refine V.eqL (ls' := [some (.ref (ax 0 (3 + e))), some (.ref (ax 6 x)), some (.int (nI (ftL A e x (tn A 26 e) ((tn A 26 e))))), some (.int (nI (ftM A e x (tn A 26 e) ((tn A 26 e))))), some (.int (vaF A e (tn A 8 x) (if (k + 1) ≤ tn A 26 e then (k + 1) else tn A 26 e))), some (.int (nI ((k + 1))))]) (by rw [show vaF A e (tn A 8 x) (if (k + 1) ≤ tn A 26 e then (k + 1) else tn A 26 e) = vaF A e (tn A 8 x) k from by first | (rw [if_pos (show k + 1 ≤ tn A 26 e by omega)]; simp [vaF, lgO, q151_83]; done) | (rw [if_neg (show ¬ k + 1 ≤ tn A 26 e by omega), show tn A 26 e = k from by omega])]) ?_
                    exact ih100 ((ftM A e x (tn A 26 e) ((tn A 26 e)) + 1) - (k + 1)) (by omega) (k + 1) rfl (by omega) (by unfold seC; rw [inv100]; simp []; omega)
                  · have q151_83 := ((nI_eq (by omega) (by omega)).mp q)
                    clear q
                    refine V.blk h [(.aload_n 0, 1), (.iload 5, 2)] (by decide +kernel) (pc' := 157) (ls' := [some (.ref (ax 0 (3 + e))), some (.ref (ax 6 x)), some (.int (nI (ftL A e x (tn A 26 e) ((tn A 26 e))))), some (.int (nI (ftM A e x (tn A 26 e) ((tn A 26 e))))), some (.int (vaF A e (tn A 8 x) k)), some (.int (nI (k)))]) (st' := [.int (nI (k)), .ref (ax 0 (3 + e))]) rfl rfl (Nat.le_of_ble_eq_true rfl) ?_
                    refine V.callV h (np := 1) (st := []) (g_log hls hS he (k := k) (by omega) (post := fun v S7 => v = some (.ref (ax 3 (600 * e + k))) ∧ S = S7) ⟨rfl, rfl⟩) wc_Jx4a65c_get_915e3 wn_RJx4a65c (Or.inl wm_RX0_19) wi_Jx4a65c_get_915e3 we_Jx4a65c_get_915e3 (by decide +kernel) rfl cls_0 (hS.mem (show lv A 0 (3 + e) from (lv_log he hS.2.2.2.1.2.1))) (hS.knd (show lv A 0 (3 + e) from (lv_log he hS.2.2.2.1.2.1))) (Nat.le_of_ble_eq_true rfl) (Nat.le_of_ble_eq_true rfl) (Nat.zero_le _) (Nat.zero_le _) (by simp [Value.category]) (by decide +kernel) rfl (fun v Z5 q9 => ?_)
                    obtain ⟨rfl, hS9⟩ := q9
                    subst hS9
                    refine V.eq (S' := S) (ls' := [some (.ref (ax 0 (3 + e))), some (.ref (ax 6 x)), some (.int (nI (ftL A e x (tn A 26 e) ((tn A 26 e))))), some (.int (nI (ftM A e x (tn A 26 e) ((tn A 26 e))))), some (.int (vaF A e (tn A 8 x) k)), some (.int (nI (k)))]) (st' := [.ref (ax 3 (600 * e + k))]) rfl rfl rfl ?_
                    refine V.castS h cls_3 (hS.mem (show lv A 3 (600 * e + k) from (lv_ent hS he (by omega)))) (hS.knd (show lv A 3 (600 * e + k) from (lv_ent hS he (by omega)))) wl_RX0_39 (by decide +kernel) ?_
                    refine V.getP h cls_3 (j := 0) rfl (hS.mem (show lv A 3 (600 * e + k) from (lv_ent hS he (by omega)))) (hS.knd (show lv A 3 (600 * e + k) from (lv_ent hS he (by omega)))) (Or.inr ⟨_, wf_RX0_41⟩) (by decide +kernel) (v := some (ax 6 (tn A 22 (600 * e + k)))) (hS.ptr (show lv A 3 (600 * e + k) from (lv_ent hS he (by omega))) (by decide) (by decide) rfl) ?_
                    refine V.eq (S' := S) (ls' := [some (.ref (ax 0 (3 + e))), some (.ref (ax 6 x)), some (.int (nI (ftL A e x (tn A 26 e) ((tn A 26 e))))), some (.int (nI (ftM A e x (tn A 26 e) ((tn A 26 e))))), some (.int (vaF A e (tn A 8 x) k)), some (.int (nI (k)))]) (st' := [.ref (ax 6 (tn A 22 (600 * e + k)))]) rfl rfl rfl ?_
                    refine V.blk h [(.iload 4, 2)] (by decide +kernel) (pc' := 168) (ls' := [some (.ref (ax 0 (3 + e))), some (.ref (ax 6 x)), some (.int (nI (ftL A e x (tn A 26 e) ((tn A 26 e))))), some (.int (nI (ftM A e x (tn A 26 e) ((tn A 26 e))))), some (.int (vaF A e (tn A 8 x) k)), some (.int (nI (k)))]) (st' := [.int (vaF A e (tn A 8 x) k), .ref (ax 6 (tn A 22 (600 * e + k)))]) rfl rfl (Nat.le_of_ble_eq_true rfl) ?_
                    refine V.callV h (np := 1) (st := []) (c_valueAfter hls hS (op := tn A 22 (600 * e + k)) (x := vaF A e (tn A 8 x) k) (show lv A 6 (tn A 22 (600 * e + k)) from (hS.lop he (by omega))) hB (by omega) (post := fun v S7 => v = some (.int (if tn A 7 (tn A 22 (600 * e + k)) = 0 then tr A 9 (tn A 22 (600 * e + k)) else vaF A e (tn A 8 x) k + tr A 9 (tn A 22 (600 * e + k)))) ∧ S = S7) ⟨rfl, rfl⟩) wc_X6_valueAfter wn_RX6 (Or.inr ⟨_, wm_RX0_65⟩) wi_X6_valueAfter we_X6_valueAfter (by decide +kernel) rfl cls_6 (hS.mem (show lv A 6 (tn A 22 (600 * e + k)) from (hS.lop he (by omega)))) (hS.knd (show lv A 6 (tn A 22 (600 * e + k)) from (hS.lop he (by omega)))) (Nat.le_of_ble_eq_true rfl) (Nat.le_of_ble_eq_true rfl) (Nat.zero_le _) (Nat.zero_le _) (by simp [Value.category]) (by decide +kernel) rfl (fun v Z6 q9 => ?_)
                    obtain ⟨rfl, hS9⟩ := q9
                    subst hS9
                    refine V.eq (S' := S) (ls' := [some (.ref (ax 0 (3 + e))), some (.ref (ax 6 x)), some (.int (nI (ftL A e x (tn A 26 e) ((tn A 26 e))))), some (.int (nI (ftM A e x (tn A 26 e) ((tn A 26 e))))), some (.int (vaF A e (tn A 8 x) k)), some (.int (nI (k)))]) (st' := [.int (if tn A 7 (tn A 22 (600 * e + k)) = 0 then tr A 9 (tn A 22 (600 * e + k)) else vaF A e (tn A 8 x) k + tr A 9 (tn A 22 (600 * e + k)))]) rfl rfl rfl ?_
                    refine V.blk h [(.istore 4, 2)] (by decide +kernel) (pc' := 173) (ls' := [some (.ref (ax 0 (3 + e))), some (.ref (ax 6 x)), some (.int (nI (ftL A e x (tn A 26 e) ((tn A 26 e))))), some (.int (nI (ftM A e x (tn A 26 e) ((tn A 26 e))))), some (.int (if tn A 7 (tn A 22 (600 * e + k)) = 0 then tr A 9 (tn A 22 (600 * e + k)) else vaF A e (tn A 8 x) k + tr A 9 (tn A 22 (600 * e + k)))), some (.int (nI (k)))]) (st' := []) rfl rfl (Nat.le_of_ble_eq_true rfl) ?_
                    refine V.incN h (x := k) (i := 5) (by decide +kernel) rfl (Nat.le_of_ble_eq_true rfl) ?_
                    refine V.eqL (ls' := [some (.ref (ax 0 (3 + e))), some (.ref (ax 6 x)), some (.int (nI (ftL A e x (tn A 26 e) ((tn A 26 e))))), some (.int (nI (ftM A e x (tn A 26 e) ((tn A 26 e))))), some (.int (if tn A 7 (tn A 22 (600 * e + k)) = 0 then tr A 9 (tn A 22 (600 * e + k)) else vaF A e (tn A 8 x) k + tr A 9 (tn A 22 (600 * e + k)))), some (.int (nI (k + 1)))]) rfl ?_
                    refine V.goto h (off := -76) (tgt := 100) (by decide +kernel) (by decide) ?_
                    refine V.eqL (ls' := [some (.ref (ax 0 (3 + e))), some (.ref (ax 6 x)), some (.int (nI (ftL A e x (tn A 26 e) ((tn A 26 e))))), some (.int (nI (ftM A e x (tn A 26 e) ((tn A 26 e))))), some (.int (vaF A e (tn A 8 x) (if (k + 1) ≤ tn A 26 e then (k + 1) else tn A 26 e))), some (.int (nI ((k + 1))))]) (by rw [show vaF A e (tn A 8 x) (if (k + 1) ≤ tn A 26 e then (k + 1) else tn A 26 e) = if tn A 7 (tn A 22 (600 * e + k)) = 0 then tr A 9 (tn A 22 (600 * e + k)) else vaF A e (tn A 8 x) k + tr A 9 (tn A 22 (600 * e + k)) from by first | (rw [if_pos (show k + 1 ≤ tn A 26 e by omega)]; simp [vaF, lgO, q151_83]; done) | (rw [if_neg (show ¬ k + 1 ≤ tn A 26 e by omega), show tn A 26 e = k from by omega])]) ?_
                    exact ih100 ((ftM A e x (tn A 26 e) ((tn A 26 e)) + 1) - (k + 1)) (by omega) (k + 1) rfl (by omega) (by unfold seC; rw [inv100]; simp []; omega)
              · have q109_51 : ¬ _ := (fun z => q ((nI_ltI (by omega) (by omega)).mpr z))
                clear q
                refine V.blk h [(.iload 4, 2), (.aload_n 1, 1)] (by decide +kernel) (pc' := 115) (ls' := [some (.ref (ax 0 (3 + e))), some (.ref (ax 6 x)), some (.int (nI (ftL A e x (tn A 26 e) ((tn A 26 e))))), some (.int (nI (ftM A e x (tn A 26 e) ((tn A 26 e))))), some (.int (vaF A e (tn A 8 x) k)), some (.int (nI (k)))]) (st' := [.ref (ax 6 x), .int (vaF A e (tn A 8 x) k)]) rfl rfl (Nat.le_of_ble_eq_true rfl) ?_
                refine V.getI h cls_6 (j := 7) rfl (hS.mem (show lv A 6 x from ho)) (hS.knd (show lv A 6 x from ho)) (Or.inr ⟨_, wf_RX0_49⟩) (by decide +kernel) (v := tr A 12 x) (hS.int (show lv A 6 x from ho) (by decide) (by decide) rfl) ?_
                refine V.icmp_ne h (off := 5) (by decide +kernel) (tgt := 123) (by decide) (fun q => ?_) (fun q => ?_)
                · have q118_116 := q
                  clear q
                  refine V.blk h [(.iload 5, 2), (.aload_n 0, 1)] (by decide +kernel) (pc' := 126) (ls' := [some (.ref (ax 0 (3 + e))), some (.ref (ax 6 x)), some (.int (nI (ftL A e x (tn A 26 e) ((tn A 26 e))))), some (.int (nI (ftM A e x (tn A 26 e) ((tn A 26 e))))), some (.int (vaF A e (tn A 8 x) k)), some (.int (nI (k)))]) (st' := [.ref (ax 0 (3 + e)), .int (nI (k))]) rfl rfl (Nat.le_of_ble_eq_true rfl) ?_
                  refine V.callV h (np := 0) (st := [.int (nI (k))]) (s_log hls hS he (post := fun v S7 => v = some (.int (nI (tn A 26 e))) ∧ S = S7) ⟨rfl, rfl⟩) wc_Jx4a65c_size_8abf5 wn_RJx4a65c (Or.inl wm_RX0_13) wi_Jx4a65c_size_8abf5 we_Jx4a65c_size_8abf5 (by decide +kernel) rfl cls_0 (hS.mem (show lv A 0 (3 + e) from (lv_log he hS.2.2.2.1.2.1))) (hS.knd (show lv A 0 (3 + e) from (lv_log he hS.2.2.2.1.2.1))) (Nat.le_of_ble_eq_true rfl) (Nat.le_of_ble_eq_true rfl) (Nat.zero_le _) (Nat.zero_le _) (by simp [Value.category]) (by decide +kernel) rfl (fun v Z7 q9 => ?_)
                  obtain ⟨rfl, hS9⟩ := q9
                  subst hS9
                  refine V.eq (S' := S) (ls' := [some (.ref (ax 0 (3 + e))), some (.ref (ax 6 x)), some (.int (nI (ftL A e x (tn A 26 e) ((tn A 26 e))))), some (.int (nI (ftM A e x (tn A 26 e) ((tn A 26 e))))), some (.int (vaF A e (tn A 8 x) k)), some (.int (nI (k)))]) (st' := [.int (nI (tn A 26 e)), .int (nI (k))]) rfl rfl rfl ?_
                  have nb124 := hB.2 26 e
                  refine V.icmp_ge h (off := 44) (by decide +kernel) (tgt := 173) (by decide) (fun q => ?_) (fun q => ?_)
                  · have q129_125 := ((nI_leI (by omega) (by omega)).mp q)
                    clear q
                    refine V.incN h (x := k) (i := 5) (by decide +kernel) rfl (Nat.le_of_ble_eq_true rfl) ?_
                    refine V.eqL (ls' := [some (.ref (ax 0 (3 + e))), some (.ref (ax 6 x)), some (.int (nI (ftL A e x (tn A 26 e) ((tn A 26 e))))), some (.int (nI (ftM A e x (tn A 26 e) ((tn A 26 e))))), some (.int (vaF A e (tn A 8 x) k)), some (.int (nI (k + 1)))]) rfl ?_
                    refine V.goto h (off := -76) (tgt := 100) (by decide +kernel) (by decide) ?_
                    refine V.eqL (ls' := [some (.ref (ax 0 (3 + e))), some (.ref (ax 6 x)), some (.int (nI (ftL A e x (tn A 26 e) ((tn A 26 e))))), some (.int (nI (ftM A e x (tn A 26 e) ((tn A 26 e))))), some (.int (vaF A e (tn A 8 x) (if (k + 1) ≤ tn A 26 e then (k + 1) else tn A 26 e))), some (.int (nI ((k + 1))))]) (by rw [show vaF A e (tn A 8 x) (if (k + 1) ≤ tn A 26 e then (k + 1) else tn A 26 e) = vaF A e (tn A 8 x) k from by first | (rw [if_pos (show k + 1 ≤ tn A 26 e by omega)]; simp [vaF, lgO]; done) | (rw [if_neg (show ¬ k + 1 ≤ tn A 26 e by omega), show tn A 26 e = k from by omega])]) ?_
                    exact ih100 ((ftM A e x (tn A 26 e) ((tn A 26 e)) + 1) - (k + 1)) (by omega) (k + 1) rfl (by omega) (by unfold seC; rw [inv100]; simp [q118_116])
                  · have q129_125 : ¬ _ := (fun z => q ((nI_leI (by omega) (by omega)).mpr z))
                    clear q
                    refine V.blk h [(.aload_n 0, 1), (.iload 5, 2)] (by decide +kernel) (pc' := 135) (ls' := [some (.ref (ax 0 (3 + e))), some (.ref (ax 6 x)), some (.int (nI (ftL A e x (tn A 26 e) ((tn A 26 e))))), some (.int (nI (ftM A e x (tn A 26 e) ((tn A 26 e))))), some (.int (vaF A e (tn A 8 x) k)), some (.int (nI (k)))]) (st' := [.int (nI (k)), .ref (ax 0 (3 + e))]) rfl rfl (Nat.le_of_ble_eq_true rfl) ?_
                    refine V.callV h (np := 1) (st := []) (g_log hls hS he (k := k) (by omega) (post := fun v S7 => v = some (.ref (ax 3 (600 * e + k))) ∧ S = S7) ⟨rfl, rfl⟩) wc_Jx4a65c_get_915e3 wn_RJx4a65c (Or.inl wm_RX0_19) wi_Jx4a65c_get_915e3 we_Jx4a65c_get_915e3 (by decide +kernel) rfl cls_0 (hS.mem (show lv A 0 (3 + e) from (lv_log he hS.2.2.2.1.2.1))) (hS.knd (show lv A 0 (3 + e) from (lv_log he hS.2.2.2.1.2.1))) (Nat.le_of_ble_eq_true rfl) (Nat.le_of_ble_eq_true rfl) (Nat.zero_le _) (Nat.zero_le _) (by simp [Value.category]) (by decide +kernel) rfl (fun v Z8 q9 => ?_)
                    obtain ⟨rfl, hS9⟩ := q9
                    subst hS9
                    refine V.eq (S' := S) (ls' := [some (.ref (ax 0 (3 + e))), some (.ref (ax 6 x)), some (.int (nI (ftL A e x (tn A 26 e) ((tn A 26 e))))), some (.int (nI (ftM A e x (tn A 26 e) ((tn A 26 e))))), some (.int (vaF A e (tn A 8 x) k)), some (.int (nI (k)))]) (st' := [.ref (ax 3 (600 * e + k))]) rfl rfl rfl ?_
                    refine V.castS h cls_3 (hS.mem (show lv A 3 (600 * e + k) from (lv_ent hS he (by omega)))) (hS.knd (show lv A 3 (600 * e + k) from (lv_ent hS he (by omega)))) wl_RX0_39 (by decide +kernel) ?_
                    refine V.getP h cls_3 (j := 0) rfl (hS.mem (show lv A 3 (600 * e + k) from (lv_ent hS he (by omega)))) (hS.knd (show lv A 3 (600 * e + k) from (lv_ent hS he (by omega)))) (Or.inr ⟨_, wf_RX0_41⟩) (by decide +kernel) (v := some (ax 6 (tn A 22 (600 * e + k)))) (hS.ptr (show lv A 3 (600 * e + k) from (lv_ent hS he (by omega))) (by decide) (by decide) rfl) ?_
                    refine V.eq (S' := S) (ls' := [some (.ref (ax 0 (3 + e))), some (.ref (ax 6 x)), some (.int (nI (ftL A e x (tn A 26 e) ((tn A 26 e))))), some (.int (nI (ftM A e x (tn A 26 e) ((tn A 26 e))))), some (.int (vaF A e (tn A 8 x) k)), some (.int (nI (k)))]) (st' := [.ref (ax 6 (tn A 22 (600 * e + k)))]) rfl rfl rfl ?_
                    refine V.getI h cls_6 (j := 3) rfl (hS.mem (show lv A 6 (tn A 22 (600 * e + k)) from (hS.lop he (by omega)))) (hS.knd (show lv A 6 (tn A 22 (600 * e + k)) from (hS.lop he (by omega)))) (Or.inr ⟨_, wf_RX0_52⟩) (by decide +kernel) (v := nI (tn A 8 (tn A 22 (600 * e + k)))) (hS.int (show lv A 6 (tn A 22 (600 * e + k)) from (hS.lop he (by omega))) (by decide) (by decide) rfl) ?_
                    have nb144 := hB.2 8 (tn A 22 (600 * e + k))
                    refine V.blk h [(.aload_n 1, 1)] (by decide +kernel) (pc' := 148) (ls' := [some (.ref (ax 0 (3 + e))), some (.ref (ax 6 x)), some (.int (nI (ftL A e x (tn A 26 e) ((tn A 26 e))))), some (.int (nI (ftM A e x (tn A 26 e) ((tn A 26 e))))), some (.int (vaF A e (tn A 8 x) k)), some (.int (nI (k)))]) (st' := [.ref (ax 6 x), .int (nI (tn A 8 (tn A 22 (600 * e + k))))]) rfl rfl (Nat.le_of_ble_eq_true rfl) ?_
                    refine V.getI h cls_6 (j := 3) rfl (hS.mem (show lv A 6 x from ho)) (hS.knd (show lv A 6 x from ho)) (Or.inr ⟨_, wf_RX0_52⟩) (by decide +kernel) (v := nI (tn A 8 x)) (hS.int (show lv A 6 x from ho) (by decide) (by decide) rfl) ?_
                    have nb147 := hB.2 8 x
                    refine V.icmp_ne h (off := 22) (by decide +kernel) (tgt := 173) (by decide) (fun q => ?_) (fun q => ?_)
                    · have q151_148 : ¬ _ := (fun z => q ((nI_eq (by omega) (by omega)).mpr z))
                      clear q
                      refine V.incN h (x := k) (i := 5) (by decide +kernel) rfl (Nat.le_of_ble_eq_true rfl) ?_
                      refine V.eqL (ls' := [some (.ref (ax 0 (3 + e))), some (.ref (ax 6 x)), some (.int (nI (ftL A e x (tn A 26 e) ((tn A 26 e))))), some (.int (nI (ftM A e x (tn A 26 e) ((tn A 26 e))))), some (.int (vaF A e (tn A 8 x) k)), some (.int (nI (k + 1)))]) rfl ?_
                      refine V.goto h (off := -76) (tgt := 100) (by decide +kernel) (by decide) ?_
                      refine V.eqL (ls' := [some (.ref (ax 0 (3 + e))), some (.ref (ax 6 x)), some (.int (nI (ftL A e x (tn A 26 e) ((tn A 26 e))))), some (.int (nI (ftM A e x (tn A 26 e) ((tn A 26 e))))), some (.int (vaF A e (tn A 8 x) (if (k + 1) ≤ tn A 26 e then (k + 1) else tn A 26 e))), some (.int (nI ((k + 1))))]) (by rw [show vaF A e (tn A 8 x) (if (k + 1) ≤ tn A 26 e then (k + 1) else tn A 26 e) = vaF A e (tn A 8 x) k from by first | (rw [if_pos (show k + 1 ≤ tn A 26 e by omega)]; simp [vaF, lgO, q151_148]; done) | (rw [if_neg (show ¬ k + 1 ≤ tn A 26 e by omega), show tn A 26 e = k from by omega])]) ?_
                      exact ih100 ((ftM A e x (tn A 26 e) ((tn A 26 e)) + 1) - (k + 1)) (by omega) (k + 1) rfl (by omega) (by unfold seC; rw [inv100]; simp [q118_116])
                    · have q151_148 := ((nI_eq (by omega) (by omega)).mp q)
                      clear q
                      refine V.blk h [(.aload_n 0, 1), (.iload 5, 2)] (by decide +kernel) (pc' := 157) (ls' := [some (.ref (ax 0 (3 + e))), some (.ref (ax 6 x)), some (.int (nI (ftL A e x (tn A 26 e) ((tn A 26 e))))), some (.int (nI (ftM A e x (tn A 26 e) ((tn A 26 e))))), some (.int (vaF A e (tn A 8 x) k)), some (.int (nI (k)))]) (st' := [.int (nI (k)), .ref (ax 0 (3 + e))]) rfl rfl (Nat.le_of_ble_eq_true rfl) ?_
                      refine V.callV h (np := 1) (st := []) (g_log hls hS he (k := k) (by omega) (post := fun v S7 => v = some (.ref (ax 3 (600 * e + k))) ∧ S = S7) ⟨rfl, rfl⟩) wc_Jx4a65c_get_915e3 wn_RJx4a65c (Or.inl wm_RX0_19) wi_Jx4a65c_get_915e3 we_Jx4a65c_get_915e3 (by decide +kernel) rfl cls_0 (hS.mem (show lv A 0 (3 + e) from (lv_log he hS.2.2.2.1.2.1))) (hS.knd (show lv A 0 (3 + e) from (lv_log he hS.2.2.2.1.2.1))) (Nat.le_of_ble_eq_true rfl) (Nat.le_of_ble_eq_true rfl) (Nat.zero_le _) (Nat.zero_le _) (by simp [Value.category]) (by decide +kernel) rfl (fun v Z9 q9 => ?_)
                      obtain ⟨rfl, hS9⟩ := q9
                      subst hS9
                      refine V.eq (S' := S) (ls' := [some (.ref (ax 0 (3 + e))), some (.ref (ax 6 x)), some (.int (nI (ftL A e x (tn A 26 e) ((tn A 26 e))))), some (.int (nI (ftM A e x (tn A 26 e) ((tn A 26 e))))), some (.int (vaF A e (tn A 8 x) k)), some (.int (nI (k)))]) (st' := [.ref (ax 3 (600 * e + k))]) rfl rfl rfl ?_
                      refine V.castS h cls_3 (hS.mem (show lv A 3 (600 * e + k) from (lv_ent hS he (by omega)))) (hS.knd (show lv A 3 (600 * e + k) from (lv_ent hS he (by omega)))) wl_RX0_39 (by decide +kernel) ?_
                      refine V.getP h cls_3 (j := 0) rfl (hS.mem (show lv A 3 (600 * e + k) from (lv_ent hS he (by omega)))) (hS.knd (show lv A 3 (600 * e + k) from (lv_ent hS he (by omega)))) (Or.inr ⟨_, wf_RX0_41⟩) (by decide +kernel) (v := some (ax 6 (tn A 22 (600 * e + k)))) (hS.ptr (show lv A 3 (600 * e + k) from (lv_ent hS he (by omega))) (by decide) (by decide) rfl) ?_
                      refine V.eq (S' := S) (ls' := [some (.ref (ax 0 (3 + e))), some (.ref (ax 6 x)), some (.int (nI (ftL A e x (tn A 26 e) ((tn A 26 e))))), some (.int (nI (ftM A e x (tn A 26 e) ((tn A 26 e))))), some (.int (vaF A e (tn A 8 x) k)), some (.int (nI (k)))]) (st' := [.ref (ax 6 (tn A 22 (600 * e + k)))]) rfl rfl rfl ?_
                      refine V.blk h [(.iload 4, 2)] (by decide +kernel) (pc' := 168) (ls' := [some (.ref (ax 0 (3 + e))), some (.ref (ax 6 x)), some (.int (nI (ftL A e x (tn A 26 e) ((tn A 26 e))))), some (.int (nI (ftM A e x (tn A 26 e) ((tn A 26 e))))), some (.int (vaF A e (tn A 8 x) k)), some (.int (nI (k)))]) (st' := [.int (vaF A e (tn A 8 x) k), .ref (ax 6 (tn A 22 (600 * e + k)))]) rfl rfl (Nat.le_of_ble_eq_true rfl) ?_
                      refine V.callV h (np := 1) (st := []) (c_valueAfter hls hS (op := tn A 22 (600 * e + k)) (x := vaF A e (tn A 8 x) k) (show lv A 6 (tn A 22 (600 * e + k)) from (hS.lop he (by omega))) hB (by omega) (post := fun v S7 => v = some (.int (if tn A 7 (tn A 22 (600 * e + k)) = 0 then tr A 9 (tn A 22 (600 * e + k)) else vaF A e (tn A 8 x) k + tr A 9 (tn A 22 (600 * e + k)))) ∧ S = S7) ⟨rfl, rfl⟩) wc_X6_valueAfter wn_RX6 (Or.inr ⟨_, wm_RX0_65⟩) wi_X6_valueAfter we_X6_valueAfter (by decide +kernel) rfl cls_6 (hS.mem (show lv A 6 (tn A 22 (600 * e + k)) from (hS.lop he (by omega)))) (hS.knd (show lv A 6 (tn A 22 (600 * e + k)) from (hS.lop he (by omega)))) (Nat.le_of_ble_eq_true rfl) (Nat.le_of_ble_eq_true rfl) (Nat.zero_le _) (Nat.zero_le _) (by simp [Value.category]) (by decide +kernel) rfl (fun v Z10 q9 => ?_)
                      obtain ⟨rfl, hS9⟩ := q9
                      subst hS9
                      refine V.eq (S' := S) (ls' := [some (.ref (ax 0 (3 + e))), some (.ref (ax 6 x)), some (.int (nI (ftL A e x (tn A 26 e) ((tn A 26 e))))), some (.int (nI (ftM A e x (tn A 26 e) ((tn A 26 e))))), some (.int (vaF A e (tn A 8 x) k)), some (.int (nI (k)))]) (st' := [.int (if tn A 7 (tn A 22 (600 * e + k)) = 0 then tr A 9 (tn A 22 (600 * e + k)) else vaF A e (tn A 8 x) k + tr A 9 (tn A 22 (600 * e + k)))]) rfl rfl rfl ?_
                      refine V.blk h [(.istore 4, 2)] (by decide +kernel) (pc' := 173) (ls' := [some (.ref (ax 0 (3 + e))), some (.ref (ax 6 x)), some (.int (nI (ftL A e x (tn A 26 e) ((tn A 26 e))))), some (.int (nI (ftM A e x (tn A 26 e) ((tn A 26 e))))), some (.int (if tn A 7 (tn A 22 (600 * e + k)) = 0 then tr A 9 (tn A 22 (600 * e + k)) else vaF A e (tn A 8 x) k + tr A 9 (tn A 22 (600 * e + k)))), some (.int (nI (k)))]) (st' := []) rfl rfl (Nat.le_of_ble_eq_true rfl) ?_
                      refine V.incN h (x := k) (i := 5) (by decide +kernel) rfl (Nat.le_of_ble_eq_true rfl) ?_
                      refine V.eqL (ls' := [some (.ref (ax 0 (3 + e))), some (.ref (ax 6 x)), some (.int (nI (ftL A e x (tn A 26 e) ((tn A 26 e))))), some (.int (nI (ftM A e x (tn A 26 e) ((tn A 26 e))))), some (.int (if tn A 7 (tn A 22 (600 * e + k)) = 0 then tr A 9 (tn A 22 (600 * e + k)) else vaF A e (tn A 8 x) k + tr A 9 (tn A 22 (600 * e + k)))), some (.int (nI (k + 1)))]) rfl ?_
                      refine V.goto h (off := -76) (tgt := 100) (by decide +kernel) (by decide) ?_
                      refine V.eqL (ls' := [some (.ref (ax 0 (3 + e))), some (.ref (ax 6 x)), some (.int (nI (ftL A e x (tn A 26 e) ((tn A 26 e))))), some (.int (nI (ftM A e x (tn A 26 e) ((tn A 26 e))))), some (.int (vaF A e (tn A 8 x) (if (k + 1) ≤ tn A 26 e then (k + 1) else tn A 26 e))), some (.int (nI ((k + 1))))]) (by rw [show vaF A e (tn A 8 x) (if (k + 1) ≤ tn A 26 e then (k + 1) else tn A 26 e) = if tn A 7 (tn A 22 (600 * e + k)) = 0 then tr A 9 (tn A 22 (600 * e + k)) else vaF A e (tn A 8 x) k + tr A 9 (tn A 22 (600 * e + k)) from by first | (rw [if_pos (show k + 1 ≤ tn A 26 e by omega)]; simp [vaF, lgO, q151_148]; done) | (rw [if_neg (show ¬ k + 1 ≤ tn A 26 e by omega), show tn A 26 e = k from by omega])]) ?_
                      exact ih100 ((ftM A e x (tn A 26 e) ((tn A 26 e)) + 1) - (k + 1)) (by omega) (k + 1) rfl (by omega) (by unfold seC; rw [inv100]; simp [q118_116])
                · have q118_116 := q
                  clear q
                  refine V.blk h [(.iconst 1, 1)] (by decide +kernel) (pc' := 122) (ls' := [some (.ref (ax 0 (3 + e))), some (.ref (ax 6 x)), some (.int (nI (ftL A e x (tn A 26 e) ((tn A 26 e))))), some (.int (nI (ftM A e x (tn A 26 e) ((tn A 26 e))))), some (.int (vaF A e (tn A 8 x) k)), some (.int (nI (k)))]) (st' := [.int (nI (1))]) rfl rfl (Nat.le_of_ble_eq_true rfl) ?_
                  refine V.top (v' := .int (bI true)) (by decide) ?_
                  exact V.iret h hA hr (bI_nar _) (by rw [show fiF A e x = true from se_true (k := k + 1) (by unfold seC; simp [q118_116]; omega) _ (by omega)] at hp; exact hp) (by decide +kernel) (Nat.zero_le _) (Nat.zero_le _)
        refine V.eqL (ls' := [some (.ref (ax 0 (3 + e))), some (.ref (ax 6 x)), some (.int (nI (ftL A e x (tn A 26 e) ((tn A 26 e))))), some (.int (nI (ftM A e x (tn A 26 e) ((tn A 26 e))))), some (.int (vaF A e (tn A 8 x) (if 0 ≤ tn A 26 e then 0 else tn A 26 e))), some (.int (nI (0)))]) (by rw [if_pos (Nat.zero_le _)]; rfl) ?_
        exact loop100 _ 0 rfl (Nat.zero_le _) rfl
      · have q17_27 : ¬ _ := (fun z => q ((oI_neg (by omega)).mpr z))
        clear q
        refine V.blk h [(.aload_n 0, 1), (.iload 4, 2)] (by decide +kernel) (pc' := 23) (ls' := [some (.ref (ax 0 (3 + e))), some (.ref (ax 6 x)), some (.int (nI (ftL A e x (tn A 26 e) k))), some (.int (nI (ftM A e x (tn A 26 e) k))), some (.int (oI (tn A 26 e - k))), none]) (st' := [.int (oI (tn A 26 e - k)), .ref (ax 0 (3 + e))]) rfl rfl (Nat.le_of_ble_eq_true rfl) ?_
        refine V.top (v' := .int (nI ((tn A 26 e - k) - 1))) (oI_pos (by omega)) ?_
        refine V.callV h (np := 1) (st := []) (g_log hls hS he (k := (tn A 26 e - k) - 1) (by omega) (post := fun v S7 => v = some (.ref (ax 3 (600 * e + ((tn A 26 e - k) - 1)))) ∧ S = S7) ⟨rfl, rfl⟩) wc_Jx4a65c_get_915e3 wn_RJx4a65c (Or.inl wm_RX0_19) wi_Jx4a65c_get_915e3 we_Jx4a65c_get_915e3 (by decide +kernel) rfl cls_0 (hS.mem (show lv A 0 (3 + e) from (lv_log he hS.2.2.2.1.2.1))) (hS.knd (show lv A 0 (3 + e) from (lv_log he hS.2.2.2.1.2.1))) (Nat.le_of_ble_eq_true rfl) (Nat.le_of_ble_eq_true rfl) (Nat.zero_le _) (Nat.zero_le _) (by simp [Value.category]) (by decide +kernel) rfl (fun v Z11 q9 => ?_)
        obtain ⟨rfl, hS9⟩ := q9
        subst hS9
        refine V.eq (S' := S) (ls' := [some (.ref (ax 0 (3 + e))), some (.ref (ax 6 x)), some (.int (nI (ftL A e x (tn A 26 e) k))), some (.int (nI (ftM A e x (tn A 26 e) k))), some (.int (oI (tn A 26 e - k))), none]) (st' := [.ref (ax 3 (600 * e + ((tn A 26 e - k) - 1)))]) rfl rfl rfl ?_
        refine V.castS h cls_3 (hS.mem (show lv A 3 (600 * e + ((tn A 26 e - k) - 1)) from (lv_ent hS he (by omega)))) (hS.knd (show lv A 3 (600 * e + ((tn A 26 e - k) - 1)) from (lv_ent hS he (by omega)))) wl_RX0_39 (by decide +kernel) ?_
        refine V.getP h cls_3 (j := 0) rfl (hS.mem (show lv A 3 (600 * e + ((tn A 26 e - k) - 1)) from (lv_ent hS he (by omega)))) (hS.knd (show lv A 3 (600 * e + ((tn A 26 e - k) - 1)) from (lv_ent hS he (by omega)))) (Or.inr ⟨_, wf_RX0_41⟩) (by decide +kernel) (v := some (ax 6 (tn A 22 (600 * e + ((tn A 26 e - k) - 1))))) (hS.ptr (show lv A 3 (600 * e + ((tn A 26 e - k) - 1)) from (lv_ent hS he (by omega))) (by decide) (by decide) rfl) ?_
        refine V.eq (S' := S) (ls' := [some (.ref (ax 0 (3 + e))), some (.ref (ax 6 x)), some (.int (nI (ftL A e x (tn A 26 e) k))), some (.int (nI (ftM A e x (tn A 26 e) k))), some (.int (oI (tn A 26 e - k))), none]) (st' := [.ref (ax 6 (tn A 22 (600 * e + ((tn A 26 e - k) - 1))))]) rfl rfl rfl ?_
        refine V.blk h [(.astore 5, 2), (.aload 5, 2)] (by decide +kernel) (pc' := 36) (ls' := [some (.ref (ax 0 (3 + e))), some (.ref (ax 6 x)), some (.int (nI (ftL A e x (tn A 26 e) k))), some (.int (nI (ftM A e x (tn A 26 e) k))), some (.int (oI (tn A 26 e - k))), some (.ref (ax 6 (tn A 22 (600 * e + ((tn A 26 e - k) - 1)))))]) (st' := [.ref (ax 6 (tn A 22 (600 * e + ((tn A 26 e - k) - 1))))]) rfl rfl (Nat.le_of_ble_eq_true rfl) ?_
        refine V.getI h cls_6 (j := 3) rfl (hS.mem (show lv A 6 (tn A 22 (600 * e + ((tn A 26 e - k) - 1))) from (hS.lop he (by omega)))) (hS.knd (show lv A 6 (tn A 22 (600 * e + ((tn A 26 e - k) - 1))) from (hS.lop he (by omega)))) (Or.inr ⟨_, wf_RX0_52⟩) (by decide +kernel) (v := nI (tn A 8 (tn A 22 (600 * e + ((tn A 26 e - k) - 1))))) (hS.int (show lv A 6 (tn A 22 (600 * e + ((tn A 26 e - k) - 1))) from (hS.lop he (by omega))) (by decide) (by decide) rfl) ?_
        have nb197 := hB.2 8 (tn A 22 (600 * e + ((tn A 26 e - k) - 1)))
        refine V.blk h [(.aload_n 1, 1)] (by decide +kernel) (pc' := 40) (ls' := [some (.ref (ax 0 (3 + e))), some (.ref (ax 6 x)), some (.int (nI (ftL A e x (tn A 26 e) k))), some (.int (nI (ftM A e x (tn A 26 e) k))), some (.int (oI (tn A 26 e - k))), some (.ref (ax 6 (tn A 22 (600 * e + ((tn A 26 e - k) - 1)))))]) (st' := [.ref (ax 6 x), .int (nI (tn A 8 (tn A 22 (600 * e + ((tn A 26 e - k) - 1)))))]) rfl rfl (Nat.le_of_ble_eq_true rfl) ?_
        refine V.getI h cls_6 (j := 3) rfl (hS.mem (show lv A 6 x from ho)) (hS.knd (show lv A 6 x from ho)) (Or.inr ⟨_, wf_RX0_52⟩) (by decide +kernel) (v := nI (tn A 8 x)) (hS.int (show lv A 6 x from ho) (by decide) (by decide) rfl) ?_
        have nb200 := hB.2 8 x
        refine V.icmp_ne h (off := 21) (by decide +kernel) (tgt := 64) (by decide) (fun q => ?_) (fun q => ?_)
        · have q43_201 : ¬ _ := (fun z => q ((nI_eq (by omega) (by omega)).mpr z))
          clear q
          refine V.blk h [(.aload 5, 2)] (by decide +kernel) (pc' := 66) (ls' := [some (.ref (ax 0 (3 + e))), some (.ref (ax 6 x)), some (.int (nI (ftL A e x (tn A 26 e) k))), some (.int (nI (ftM A e x (tn A 26 e) k))), some (.int (oI (tn A 26 e - k))), some (.ref (ax 6 (tn A 22 (600 * e + ((tn A 26 e - k) - 1)))))]) (st' := [.ref (ax 6 (tn A 22 (600 * e + ((tn A 26 e - k) - 1))))]) rfl rfl (Nat.le_of_ble_eq_true rfl) ?_
          refine V.getI h cls_6 (j := 3) rfl (hS.mem (show lv A 6 (tn A 22 (600 * e + ((tn A 26 e - k) - 1))) from (hS.lop he (by omega)))) (hS.knd (show lv A 6 (tn A 22 (600 * e + ((tn A 26 e - k) - 1))) from (hS.lop he (by omega)))) (Or.inr ⟨_, wf_RX0_52⟩) (by decide +kernel) (v := nI (tn A 8 (tn A 22 (600 * e + ((tn A 26 e - k) - 1))))) (hS.int (show lv A 6 (tn A 22 (600 * e + ((tn A 26 e - k) - 1))) from (hS.lop he (by omega))) (by decide) (by decide) rfl) ?_
          have nb206 := hB.2 8 (tn A 22 (600 * e + ((tn A 26 e - k) - 1)))
          refine V.blk h [(.aload_n 1, 1)] (by decide +kernel) (pc' := 70) (ls' := [some (.ref (ax 0 (3 + e))), some (.ref (ax 6 x)), some (.int (nI (ftL A e x (tn A 26 e) k))), some (.int (nI (ftM A e x (tn A 26 e) k))), some (.int (oI (tn A 26 e - k))), some (.ref (ax 6 (tn A 22 (600 * e + ((tn A 26 e - k) - 1)))))]) (st' := [.ref (ax 6 x), .int (nI (tn A 8 (tn A 22 (600 * e + ((tn A 26 e - k) - 1)))))]) rfl rfl (Nat.le_of_ble_eq_true rfl) ?_
          refine V.getI h cls_6 (j := 3) rfl (hS.mem (show lv A 6 x from ho)) (hS.knd (show lv A 6 x from ho)) (Or.inr ⟨_, wf_RX0_52⟩) (by decide +kernel) (v := nI (tn A 8 x)) (hS.int (show lv A 6 x from ho) (by decide) (by decide) rfl) ?_
          have nb209 := hB.2 8 x
          refine V.icmp_ne h (off := 15) (by decide +kernel) (tgt := 88) (by decide) (fun q => ?_) (fun q => ?_)
          · have q73_210 : ¬ _ := (fun z => q ((nI_eq (by omega) (by omega)).mpr z))
            clear q
            refine V.decO h (t := tn A 26 e - k) (i := 4) (by decide +kernel) rfl (by omega) (Nat.le_of_ble_eq_true rfl) ?_
            refine V.eqL (ls' := [some (.ref (ax 0 (3 + e))), some (.ref (ax 6 x)), some (.int (nI (ftL A e x (tn A 26 e) k))), some (.int (nI (ftM A e x (tn A 26 e) k))), some (.int (oI ((tn A 26 e - k) - 1))), some (.ref (ax 6 (tn A 22 (600 * e + ((tn A 26 e - k) - 1)))))]) rfl ?_
            refine V.goto h (off := -76) (tgt := 15) (by decide +kernel) (by decide) ?_
            refine V.drop 5 (ls' := [some (.ref (ax 0 (3 + e))), some (.ref (ax 6 x)), some (.int (nI (ftL A e x (tn A 26 e) k))), some (.int (nI (ftM A e x (tn A 26 e) k))), some (.int (oI ((tn A 26 e - k) - 1))), none]) rfl ?_
            refine V.eqL (ls' := [some (.ref (ax 0 (3 + e))), some (.ref (ax 6 x)), some (.int (nI (ftL A e x (tn A 26 e) ((k + 1))))), some (.int (nI (ftM A e x (tn A 26 e) ((k + 1))))), some (.int (oI (tn A 26 e - (k + 1)))), none]) (by rw [show ftL A e x (tn A 26 e) ((k + 1)) = ftL A e x (tn A 26 e) k from by simp [ftL, lgO, q43_201], show ftM A e x (tn A 26 e) ((k + 1)) = ftM A e x (tn A 26 e) k from by simp [ftM, lgO, q43_201]]; rfl) ?_
            exact ih15 (tn A 26 e - (k + 1)) (by omega) (k + 1) rfl (by omega)
          · have q73_210 := ((nI_eq (by omega) (by omega)).mp q)
            clear q
            exact absurd q73_210 q43_201
        · have q43_201 := ((nI_eq (by omega) (by omega)).mp q)
          clear q
          refine V.blk h [(.aload 5, 2), (.aload_n 1, 1)] (by decide +kernel) (pc' := 49) (ls' := [some (.ref (ax 0 (3 + e))), some (.ref (ax 6 x)), some (.int (nI (ftL A e x (tn A 26 e) k))), some (.int (nI (ftM A e x (tn A 26 e) k))), some (.int (oI (tn A 26 e - k))), some (.ref (ax 6 (tn A 22 (600 * e + ((tn A 26 e - k) - 1)))))]) (st' := [.ref (ax 6 x), .ref (ax 6 (tn A 22 (600 * e + ((tn A 26 e - k) - 1))))]) rfl rfl (Nat.le_of_ble_eq_true rfl) ?_
          refine V.callV h (np := 1) (st := []) (c_isDoneBefore hls hS (op := tn A 22 (600 * e + ((tn A 26 e - k) - 1))) (ot := x) (show lv A 6 (tn A 22 (600 * e + ((tn A 26 e - k) - 1))) from (hS.lop he (by omega))) hB (by omega) (show lv A 6 x from ho) (hD _) (post := fun v S7 => v = some (.int (bI (dbF A (tn A 22 (600 * e + ((tn A 26 e - k) - 1))) (x)))) ∧ S = S7) ⟨rfl, rfl⟩) wc_X6_isDoneBefore wn_RX6 (Or.inr ⟨_, wm_RX0_55⟩) wi_X6_isDoneBefore we_X6_isDoneBefore (by decide +kernel) rfl cls_6 (hS.mem (show lv A 6 (tn A 22 (600 * e + ((tn A 26 e - k) - 1))) from (hS.lop he (by omega)))) (hS.knd (show lv A 6 (tn A 22 (600 * e + ((tn A 26 e - k) - 1))) from (hS.lop he (by omega)))) (Nat.le_of_ble_eq_true rfl) (Nat.le_of_ble_eq_true rfl) (Nat.zero_le _) (Nat.zero_le _) (by simp [Value.category]) (by decide +kernel) rfl (fun v Z12 q9 => ?_)
          obtain ⟨rfl, hS9⟩ := q9
          subst hS9
          refine V.eq (S' := S) (ls' := [some (.ref (ax 0 (3 + e))), some (.ref (ax 6 x)), some (.int (nI (ftL A e x (tn A 26 e) k))), some (.int (nI (ftM A e x (tn A 26 e) k))), some (.int (oI (tn A 26 e - k))), some (.ref (ax 6 (tn A 22 (600 * e + ((tn A 26 e - k) - 1)))))]) (st' := [.int (bI (dbF A (tn A 22 (600 * e + ((tn A 26 e - k) - 1))) (x)))]) rfl rfl rfl ?_
          refine V.if_eq h (off := 12) (by decide +kernel) (tgt := 64) (by decide) (fun q => ?_) (fun q => ?_)
          · have q52_229 := (bI_0.mp q)
            clear q
            refine V.blk h [(.aload 5, 2)] (by decide +kernel) (pc' := 66) (ls' := [some (.ref (ax 0 (3 + e))), some (.ref (ax 6 x)), some (.int (nI (ftL A e x (tn A 26 e) k))), some (.int (nI (ftM A e x (tn A 26 e) k))), some (.int (oI (tn A 26 e - k))), some (.ref (ax 6 (tn A 22 (600 * e + ((tn A 26 e - k) - 1)))))]) (st' := [.ref (ax 6 (tn A 22 (600 * e + ((tn A 26 e - k) - 1))))]) rfl rfl (Nat.le_of_ble_eq_true rfl) ?_
            refine V.getI h cls_6 (j := 3) rfl (hS.mem (show lv A 6 (tn A 22 (600 * e + ((tn A 26 e - k) - 1))) from (hS.lop he (by omega)))) (hS.knd (show lv A 6 (tn A 22 (600 * e + ((tn A 26 e - k) - 1))) from (hS.lop he (by omega)))) (Or.inr ⟨_, wf_RX0_52⟩) (by decide +kernel) (v := nI (tn A 8 (tn A 22 (600 * e + ((tn A 26 e - k) - 1))))) (hS.int (show lv A 6 (tn A 22 (600 * e + ((tn A 26 e - k) - 1))) from (hS.lop he (by omega))) (by decide) (by decide) rfl) ?_
            have nb234 := hB.2 8 (tn A 22 (600 * e + ((tn A 26 e - k) - 1)))
            refine V.blk h [(.aload_n 1, 1)] (by decide +kernel) (pc' := 70) (ls' := [some (.ref (ax 0 (3 + e))), some (.ref (ax 6 x)), some (.int (nI (ftL A e x (tn A 26 e) k))), some (.int (nI (ftM A e x (tn A 26 e) k))), some (.int (oI (tn A 26 e - k))), some (.ref (ax 6 (tn A 22 (600 * e + ((tn A 26 e - k) - 1)))))]) (st' := [.ref (ax 6 x), .int (nI (tn A 8 (tn A 22 (600 * e + ((tn A 26 e - k) - 1)))))]) rfl rfl (Nat.le_of_ble_eq_true rfl) ?_
            refine V.getI h cls_6 (j := 3) rfl (hS.mem (show lv A 6 x from ho)) (hS.knd (show lv A 6 x from ho)) (Or.inr ⟨_, wf_RX0_52⟩) (by decide +kernel) (v := nI (tn A 8 x)) (hS.int (show lv A 6 x from ho) (by decide) (by decide) rfl) ?_
            have nb237 := hB.2 8 x
            refine V.icmp_ne h (off := 15) (by decide +kernel) (tgt := 88) (by decide) (fun q => ?_) (fun q => ?_)
            · have q73_238 : ¬ _ := (fun z => q ((nI_eq (by omega) (by omega)).mpr z))
              clear q
              exact absurd q43_201 q73_238
            · have q73_238 := ((nI_eq (by omega) (by omega)).mp q)
              clear q
              refine V.blk h [(.aload_n 1, 1), (.aload 5, 2)] (by decide +kernel) (pc' := 79) (ls' := [some (.ref (ax 0 (3 + e))), some (.ref (ax 6 x)), some (.int (nI (ftL A e x (tn A 26 e) k))), some (.int (nI (ftM A e x (tn A 26 e) k))), some (.int (oI (tn A 26 e - k))), some (.ref (ax 6 (tn A 22 (600 * e + ((tn A 26 e - k) - 1)))))]) (st' := [.ref (ax 6 (tn A 22 (600 * e + ((tn A 26 e - k) - 1)))), .ref (ax 6 x)]) rfl rfl (Nat.le_of_ble_eq_true rfl) ?_
              refine V.callV h (np := 1) (st := []) (c_isDoneBefore hls hS (op := x) (ot := tn A 22 (600 * e + ((tn A 26 e - k) - 1))) (show lv A 6 x from ho) hB (by omega) (show lv A 6 (tn A 22 (600 * e + ((tn A 26 e - k) - 1))) from (hS.lop he (by omega))) (hD _) (post := fun v S7 => v = some (.int (bI (dbF A (x) (tn A 22 (600 * e + ((tn A 26 e - k) - 1)))))) ∧ S = S7) ⟨rfl, rfl⟩) wc_X6_isDoneBefore wn_RX6 (Or.inr ⟨_, wm_RX0_55⟩) wi_X6_isDoneBefore we_X6_isDoneBefore (by decide +kernel) rfl cls_6 (hS.mem (show lv A 6 x from ho)) (hS.knd (show lv A 6 x from ho)) (Nat.le_of_ble_eq_true rfl) (Nat.le_of_ble_eq_true rfl) (Nat.zero_le _) (Nat.zero_le _) (by simp [Value.category]) (by decide +kernel) rfl (fun v Z13 q9 => ?_)
              obtain ⟨rfl, hS9⟩ := q9
              subst hS9
              refine V.eq (S' := S) (ls' := [some (.ref (ax 0 (3 + e))), some (.ref (ax 6 x)), some (.int (nI (ftL A e x (tn A 26 e) k))), some (.int (nI (ftM A e x (tn A 26 e) k))), some (.int (oI (tn A 26 e - k))), some (.ref (ax 6 (tn A 22 (600 * e + ((tn A 26 e - k) - 1)))))]) (st' := [.int (bI (dbF A (x) (tn A 22 (600 * e + ((tn A 26 e - k) - 1)))))]) rfl rfl rfl ?_
              refine V.if_eq h (off := 6) (by decide +kernel) (tgt := 88) (by decide) (fun q => ?_) (fun q => ?_)
              · have q82_249 := (bI_0.mp q)
                clear q
                refine V.decO h (t := tn A 26 e - k) (i := 4) (by decide +kernel) rfl (by omega) (Nat.le_of_ble_eq_true rfl) ?_
                refine V.eqL (ls' := [some (.ref (ax 0 (3 + e))), some (.ref (ax 6 x)), some (.int (nI (ftL A e x (tn A 26 e) k))), some (.int (nI (ftM A e x (tn A 26 e) k))), some (.int (oI ((tn A 26 e - k) - 1))), some (.ref (ax 6 (tn A 22 (600 * e + ((tn A 26 e - k) - 1)))))]) rfl ?_
                refine V.goto h (off := -76) (tgt := 15) (by decide +kernel) (by decide) ?_
                refine V.drop 5 (ls' := [some (.ref (ax 0 (3 + e))), some (.ref (ax 6 x)), some (.int (nI (ftL A e x (tn A 26 e) k))), some (.int (nI (ftM A e x (tn A 26 e) k))), some (.int (oI ((tn A 26 e - k) - 1))), none]) rfl ?_
                refine V.eqL (ls' := [some (.ref (ax 0 (3 + e))), some (.ref (ax 6 x)), some (.int (nI (ftL A e x (tn A 26 e) ((k + 1))))), some (.int (nI (ftM A e x (tn A 26 e) ((k + 1))))), some (.int (oI (tn A 26 e - (k + 1)))), none]) (by rw [show ftL A e x (tn A 26 e) ((k + 1)) = ftL A e x (tn A 26 e) k from by simp [ftL, lgO, q43_201, q52_229, q82_249], show ftM A e x (tn A 26 e) ((k + 1)) = ftM A e x (tn A 26 e) k from by simp [ftM, lgO, q43_201, q52_229, q82_249]]; rfl) ?_
                exact ih15 (tn A 26 e - (k + 1)) (by omega) (k + 1) rfl (by omega)
              · have q82_249 := (bI_1 (fun z => q (bI_0.mpr z)))
                clear q
                refine V.blk h [(.iload 4, 2), (.istore_n 3, 1)] (by decide +kernel) (pc' := 88) (ls' := [some (.ref (ax 0 (3 + e))), some (.ref (ax 6 x)), some (.int (nI (ftL A e x (tn A 26 e) k))), some (.int (oI (tn A 26 e - k))), some (.int (oI (tn A 26 e - k))), some (.ref (ax 6 (tn A 22 (600 * e + ((tn A 26 e - k) - 1)))))]) (st' := []) rfl rfl (Nat.le_of_ble_eq_true rfl) ?_
                refine V.eqL (ls' := [some (.ref (ax 0 (3 + e))), some (.ref (ax 6 x)), some (.int (nI (ftL A e x (tn A 26 e) k))), some (.int (nI (tn A 26 e - k - 1))), some (.int (oI (tn A 26 e - k))), some (.ref (ax 6 (tn A 22 (600 * e + ((tn A 26 e - k) - 1)))))]) (by rw [oI_posI (show tn A 26 e - k ≠ 0 by omega)]) ?_
                refine V.decO h (t := tn A 26 e - k) (i := 4) (by decide +kernel) rfl (by omega) (Nat.le_of_ble_eq_true rfl) ?_
                refine V.eqL (ls' := [some (.ref (ax 0 (3 + e))), some (.ref (ax 6 x)), some (.int (nI (ftL A e x (tn A 26 e) k))), some (.int (nI (tn A 26 e - k - 1))), some (.int (oI ((tn A 26 e - k) - 1))), some (.ref (ax 6 (tn A 22 (600 * e + ((tn A 26 e - k) - 1)))))]) rfl ?_
                refine V.goto h (off := -76) (tgt := 15) (by decide +kernel) (by decide) ?_
                refine V.drop 5 (ls' := [some (.ref (ax 0 (3 + e))), some (.ref (ax 6 x)), some (.int (nI (ftL A e x (tn A 26 e) k))), some (.int (nI (tn A 26 e - k - 1))), some (.int (oI ((tn A 26 e - k) - 1))), none]) rfl ?_
                refine V.eqL (ls' := [some (.ref (ax 0 (3 + e))), some (.ref (ax 6 x)), some (.int (nI (ftL A e x (tn A 26 e) ((k + 1))))), some (.int (nI (ftM A e x (tn A 26 e) ((k + 1))))), some (.int (oI (tn A 26 e - (k + 1)))), none]) (by rw [show ftL A e x (tn A 26 e) ((k + 1)) = ftL A e x (tn A 26 e) k from by simp [ftL, lgO, q43_201, q52_229, q82_249], show ftM A e x (tn A 26 e) ((k + 1)) = tn A 26 e - k - 1 from by simp [ftM, lgO, q43_201, q52_229, q82_249]]; rfl) ?_
                exact ih15 (tn A 26 e - (k + 1)) (by omega) (k + 1) rfl (by omega)
          · have q52_229 := (bI_1 (fun z => q (bI_0.mpr z)))
            clear q
            refine V.blk h [(.iload_n 2, 1), (.iload 4, 2), (.iconst 1, 1)] (by decide +kernel) (pc' := 59) (ls' := [some (.ref (ax 0 (3 + e))), some (.ref (ax 6 x)), some (.int (nI (ftL A e x (tn A 26 e) k))), some (.int (nI (ftM A e x (tn A 26 e) k))), some (.int (oI (tn A 26 e - k))), some (.ref (ax 6 (tn A 22 (600 * e + ((tn A 26 e - k) - 1)))))]) (st' := [.int (nI (1)), .int (oI (tn A 26 e - k)), .int (nI (ftL A e x (tn A 26 e) k))]) rfl rfl (Nat.le_of_ble_eq_true rfl) ?_
            refine V.blk h [(.iadd, 1)] (by decide +kernel) (pc' := 60) (ls' := [some (.ref (ax 0 (3 + e))), some (.ref (ax 6 x)), some (.int (nI (ftL A e x (tn A 26 e) k))), some (.int (nI (ftM A e x (tn A 26 e) k))), some (.int (oI (tn A 26 e - k))), some (.ref (ax 6 (tn A 22 (600 * e + ((tn A 26 e - k) - 1)))))]) (st' := [.int (oI (tn A 26 e - k) + nI 1), .int (nI (ftL A e x (tn A 26 e) k))]) rfl rfl (Nat.le_of_ble_eq_true rfl) ?_
            refine V.top (v' := .int (nI (tn A 26 e - k))) (by rw [oI_p1]) ?_
            refine V.mmax h wm_RX0_59 (v := nI (if ftL A e x (tn A 26 e) k < tn A 26 e - k then tn A 26 e - k else ftL A e x (tn A 26 e) k)) (mx_nn (by omega) (by omega)) (by decide +kernel) (Nat.le_of_ble_eq_true rfl) (Nat.le_of_ble_eq_true rfl) (by show 0 ≤ 0; omega) (by show 0 ≤ 0; omega) ?_
            refine V.blk h [(.istore_n 2, 1), (.aload 5, 2)] (by decide +kernel) (pc' := 66) (ls' := [some (.ref (ax 0 (3 + e))), some (.ref (ax 6 x)), some (.int (nI (if ftL A e x (tn A 26 e) k < tn A 26 e - k then tn A 26 e - k else ftL A e x (tn A 26 e) k))), some (.int (nI (ftM A e x (tn A 26 e) k))), some (.int (oI (tn A 26 e - k))), some (.ref (ax 6 (tn A 22 (600 * e + ((tn A 26 e - k) - 1)))))]) (st' := [.ref (ax 6 (tn A 22 (600 * e + ((tn A 26 e - k) - 1))))]) rfl rfl (Nat.le_of_ble_eq_true rfl) ?_
            refine V.getI h cls_6 (j := 3) rfl (hS.mem (show lv A 6 (tn A 22 (600 * e + ((tn A 26 e - k) - 1))) from (hS.lop he (by omega)))) (hS.knd (show lv A 6 (tn A 22 (600 * e + ((tn A 26 e - k) - 1))) from (hS.lop he (by omega)))) (Or.inr ⟨_, wf_RX0_52⟩) (by decide +kernel) (v := nI (tn A 8 (tn A 22 (600 * e + ((tn A 26 e - k) - 1))))) (hS.int (show lv A 6 (tn A 22 (600 * e + ((tn A 26 e - k) - 1))) from (hS.lop he (by omega))) (by decide) (by decide) rfl) ?_
            have nb276 := hB.2 8 (tn A 22 (600 * e + ((tn A 26 e - k) - 1)))
            refine V.blk h [(.aload_n 1, 1)] (by decide +kernel) (pc' := 70) (ls' := [some (.ref (ax 0 (3 + e))), some (.ref (ax 6 x)), some (.int (nI (if ftL A e x (tn A 26 e) k < tn A 26 e - k then tn A 26 e - k else ftL A e x (tn A 26 e) k))), some (.int (nI (ftM A e x (tn A 26 e) k))), some (.int (oI (tn A 26 e - k))), some (.ref (ax 6 (tn A 22 (600 * e + ((tn A 26 e - k) - 1)))))]) (st' := [.ref (ax 6 x), .int (nI (tn A 8 (tn A 22 (600 * e + ((tn A 26 e - k) - 1)))))]) rfl rfl (Nat.le_of_ble_eq_true rfl) ?_
            refine V.getI h cls_6 (j := 3) rfl (hS.mem (show lv A 6 x from ho)) (hS.knd (show lv A 6 x from ho)) (Or.inr ⟨_, wf_RX0_52⟩) (by decide +kernel) (v := nI (tn A 8 x)) (hS.int (show lv A 6 x from ho) (by decide) (by decide) rfl) ?_
            have nb279 := hB.2 8 x
            refine V.icmp_ne h (off := 15) (by decide +kernel) (tgt := 88) (by decide) (fun q => ?_) (fun q => ?_)
            · have q73_280 : ¬ _ := (fun z => q ((nI_eq (by omega) (by omega)).mpr z))
              clear q
              exact absurd q43_201 q73_280
            · have q73_280 := ((nI_eq (by omega) (by omega)).mp q)
              clear q
              refine V.blk h [(.aload_n 1, 1), (.aload 5, 2)] (by decide +kernel) (pc' := 79) (ls' := [some (.ref (ax 0 (3 + e))), some (.ref (ax 6 x)), some (.int (nI (if ftL A e x (tn A 26 e) k < tn A 26 e - k then tn A 26 e - k else ftL A e x (tn A 26 e) k))), some (.int (nI (ftM A e x (tn A 26 e) k))), some (.int (oI (tn A 26 e - k))), some (.ref (ax 6 (tn A 22 (600 * e + ((tn A 26 e - k) - 1)))))]) (st' := [.ref (ax 6 (tn A 22 (600 * e + ((tn A 26 e - k) - 1)))), .ref (ax 6 x)]) rfl rfl (Nat.le_of_ble_eq_true rfl) ?_
              refine V.callV h (np := 1) (st := []) (c_isDoneBefore hls hS (op := x) (ot := tn A 22 (600 * e + ((tn A 26 e - k) - 1))) (show lv A 6 x from ho) hB (by omega) (show lv A 6 (tn A 22 (600 * e + ((tn A 26 e - k) - 1))) from (hS.lop he (by omega))) (hD _) (post := fun v S7 => v = some (.int (bI (dbF A (x) (tn A 22 (600 * e + ((tn A 26 e - k) - 1)))))) ∧ S = S7) ⟨rfl, rfl⟩) wc_X6_isDoneBefore wn_RX6 (Or.inr ⟨_, wm_RX0_55⟩) wi_X6_isDoneBefore we_X6_isDoneBefore (by decide +kernel) rfl cls_6 (hS.mem (show lv A 6 x from ho)) (hS.knd (show lv A 6 x from ho)) (Nat.le_of_ble_eq_true rfl) (Nat.le_of_ble_eq_true rfl) (Nat.zero_le _) (Nat.zero_le _) (by simp [Value.category]) (by decide +kernel) rfl (fun v Z14 q9 => ?_)
              obtain ⟨rfl, hS9⟩ := q9
              subst hS9
              refine V.eq (S' := S) (ls' := [some (.ref (ax 0 (3 + e))), some (.ref (ax 6 x)), some (.int (nI (if ftL A e x (tn A 26 e) k < tn A 26 e - k then tn A 26 e - k else ftL A e x (tn A 26 e) k))), some (.int (nI (ftM A e x (tn A 26 e) k))), some (.int (oI (tn A 26 e - k))), some (.ref (ax 6 (tn A 22 (600 * e + ((tn A 26 e - k) - 1)))))]) (st' := [.int (bI (dbF A (x) (tn A 22 (600 * e + ((tn A 26 e - k) - 1)))))]) rfl rfl rfl ?_
              refine V.if_eq h (off := 6) (by decide +kernel) (tgt := 88) (by decide) (fun q => ?_) (fun q => ?_)
              · have q82_291 := (bI_0.mp q)
                clear q
                refine V.decO h (t := tn A 26 e - k) (i := 4) (by decide +kernel) rfl (by omega) (Nat.le_of_ble_eq_true rfl) ?_
                refine V.eqL (ls' := [some (.ref (ax 0 (3 + e))), some (.ref (ax 6 x)), some (.int (nI (if ftL A e x (tn A 26 e) k < tn A 26 e - k then tn A 26 e - k else ftL A e x (tn A 26 e) k))), some (.int (nI (ftM A e x (tn A 26 e) k))), some (.int (oI ((tn A 26 e - k) - 1))), some (.ref (ax 6 (tn A 22 (600 * e + ((tn A 26 e - k) - 1)))))]) rfl ?_
                refine V.goto h (off := -76) (tgt := 15) (by decide +kernel) (by decide) ?_
                refine V.drop 5 (ls' := [some (.ref (ax 0 (3 + e))), some (.ref (ax 6 x)), some (.int (nI (if ftL A e x (tn A 26 e) k < tn A 26 e - k then tn A 26 e - k else ftL A e x (tn A 26 e) k))), some (.int (nI (ftM A e x (tn A 26 e) k))), some (.int (oI ((tn A 26 e - k) - 1))), none]) rfl ?_
                refine V.eqL (ls' := [some (.ref (ax 0 (3 + e))), some (.ref (ax 6 x)), some (.int (nI (ftL A e x (tn A 26 e) ((k + 1))))), some (.int (nI (ftM A e x (tn A 26 e) ((k + 1))))), some (.int (oI (tn A 26 e - (k + 1)))), none]) (by rw [show ftL A e x (tn A 26 e) ((k + 1)) = if ftL A e x (tn A 26 e) k < tn A 26 e - k then tn A 26 e - k else ftL A e x (tn A 26 e) k from by simp [ftL, lgO, q43_201, q52_229, q82_291], show ftM A e x (tn A 26 e) ((k + 1)) = ftM A e x (tn A 26 e) k from by simp [ftM, lgO, q43_201, q52_229, q82_291]]; rfl) ?_
                exact ih15 (tn A 26 e - (k + 1)) (by omega) (k + 1) rfl (by omega)
              · have q82_291 := (bI_1 (fun z => q (bI_0.mpr z)))
                clear q
                refine V.blk h [(.iload 4, 2), (.istore_n 3, 1)] (by decide +kernel) (pc' := 88) (ls' := [some (.ref (ax 0 (3 + e))), some (.ref (ax 6 x)), some (.int (nI (if ftL A e x (tn A 26 e) k < tn A 26 e - k then tn A 26 e - k else ftL A e x (tn A 26 e) k))), some (.int (oI (tn A 26 e - k))), some (.int (oI (tn A 26 e - k))), some (.ref (ax 6 (tn A 22 (600 * e + ((tn A 26 e - k) - 1)))))]) (st' := []) rfl rfl (Nat.le_of_ble_eq_true rfl) ?_
                refine V.eqL (ls' := [some (.ref (ax 0 (3 + e))), some (.ref (ax 6 x)), some (.int (nI (if ftL A e x (tn A 26 e) k < tn A 26 e - k then tn A 26 e - k else ftL A e x (tn A 26 e) k))), some (.int (nI (tn A 26 e - k - 1))), some (.int (oI (tn A 26 e - k))), some (.ref (ax 6 (tn A 22 (600 * e + ((tn A 26 e - k) - 1)))))]) (by rw [oI_posI (show tn A 26 e - k ≠ 0 by omega)]) ?_
                refine V.decO h (t := tn A 26 e - k) (i := 4) (by decide +kernel) rfl (by omega) (Nat.le_of_ble_eq_true rfl) ?_
                refine V.eqL (ls' := [some (.ref (ax 0 (3 + e))), some (.ref (ax 6 x)), some (.int (nI (if ftL A e x (tn A 26 e) k < tn A 26 e - k then tn A 26 e - k else ftL A e x (tn A 26 e) k))), some (.int (nI (tn A 26 e - k - 1))), some (.int (oI ((tn A 26 e - k) - 1))), some (.ref (ax 6 (tn A 22 (600 * e + ((tn A 26 e - k) - 1)))))]) rfl ?_
                refine V.goto h (off := -76) (tgt := 15) (by decide +kernel) (by decide) ?_
                refine V.drop 5 (ls' := [some (.ref (ax 0 (3 + e))), some (.ref (ax 6 x)), some (.int (nI (if ftL A e x (tn A 26 e) k < tn A 26 e - k then tn A 26 e - k else ftL A e x (tn A 26 e) k))), some (.int (nI (tn A 26 e - k - 1))), some (.int (oI ((tn A 26 e - k) - 1))), none]) rfl ?_
                refine V.eqL (ls' := [some (.ref (ax 0 (3 + e))), some (.ref (ax 6 x)), some (.int (nI (ftL A e x (tn A 26 e) ((k + 1))))), some (.int (nI (ftM A e x (tn A 26 e) ((k + 1))))), some (.int (oI (tn A 26 e - (k + 1)))), none]) (by rw [show ftL A e x (tn A 26 e) ((k + 1)) = if ftL A e x (tn A 26 e) k < tn A 26 e - k then tn A 26 e - k else ftL A e x (tn A 26 e) k from by simp [ftL, lgO, q43_201, q52_229, q82_291], show ftM A e x (tn A 26 e) ((k + 1)) = tn A 26 e - k - 1 from by simp [ftM, lgO, q43_201, q52_229, q82_291]]; rfl) ?_
                exact ih15 (tn A 26 e - (k + 1)) (by omega) (k + 1) rfl (by omega)
  refine V.eqL (ls' := [some (.ref (ax 0 (3 + e))), some (.ref (ax 6 x)), some (.int (nI (ftL A e x (tn A 26 e) 0))), some (.int (nI (ftM A e x (tn A 26 e) 0))), some (.int (oI (tn A 26 e - 0))), none]) rfl ?_
  exact loop15 _ 0 rfl (Nat.zero_le _)
def paC (A : TS) (e : Nat) : Nat → Bool
  | 0 => true
  | i + 1 => paC A e i && !(decide (tn A 11 i ≠ 0) && !(if tn A 7 i = 2 then fiF A e i else soF A e i))
theorem pa_false {A : TS} {e k : Nat} (h : paC A e k = false) : ∀ n, k ≤ n → paC A e n = false
  | 0, z => by rw [show 0 = k by omega]; exact h
  | n + 1, z => by
    by_cases y : k = n + 1
    · rw [← y]; exact h
    · unfold paC
      rw [pa_false h n (by omega)]
      rfl
set_option maxRecDepth 100000 in
set_option maxHeartbeats 4000000 in
theorem c_passes {l : Launch} {D : va_G} {tc : Nat → ClassId} {ax ay : Nat → Nat → Nat} {A : TS} {S : HS} (hls : l.stackTraces = false) (hS : RA tc (mx ax ay) A S) {e : Nat} {K : Nat}  (he : e < tf A 38) (hD : ∀ i, tn A 11 i ≠ 1) (hB : NB K A) (hK : K < 1800000000) {post : Option Value → HS → Prop} (hp : post (some (.int (bI (ioC A e (tn A 26 e) && paC A e (tf A 6))))) S) : CM l D tc yX0_passes cX0_passes 4 (some .boolean) 5 0 0 [.ref (ax 0 (3 + e)), .ref (ax 0 2)] S post := by
  refine CM.of hls (by decide +kernel) (by simp [Value.category]) (Nat.le_of_ble_eq_true rfl) (fun A0 p e9 s m args below meth c sz h hr hnm hA => ?_)
  have h12 := hS.2.2.2.1.2.1
  have hb26 := hB.2 26 e
  have hh13 := hS.2.2.2.1.2.2.2.1
  refine V.eqL (ls' := [some (.ref (ax 0 (3 + e))), some (.ref (ax 0 2)), none, none]) rfl ?_
  refine V.blk h [(.aload_n 0, 1)] (by decide +kernel) (pc' := 1) (ls' := [some (.ref (ax 0 (3 + e))), some (.ref (ax 0 2)), none, none]) (st' := [.ref (ax 0 (3 + e))]) rfl rfl (Nat.le_of_ble_eq_true rfl) ?_
  refine V.callS h (np := 1) (st := []) (c_isInOrder hls hS (e := e) he hD hB hK (post := fun v S7 => v = some (.int (bI (ioC A e (tn A 26 e)))) ∧ S = S7) ⟨rfl, rfl⟩) wc_X0_isInOrder wn_RX0 (Or.inl wm_RX0_7) wt_X0_isInOrder (by decide +kernel) rfl (Nat.le_of_ble_eq_true rfl) (Nat.le_of_ble_eq_true rfl) (Nat.zero_le _) (Nat.zero_le _) (by simp [Value.category]) (by decide +kernel) rfl (fun v Z1 q9 => ?_)
  obtain ⟨rfl, hS9⟩ := q9
  subst hS9
  refine V.eq (S' := S) (ls' := [some (.ref (ax 0 (3 + e))), some (.ref (ax 0 2)), none, none]) (st' := [.int (bI (ioC A e (tn A 26 e)))]) rfl rfl rfl ?_
  refine V.if_ne h (off := 5) (by decide +kernel) (tgt := 9) (by decide) (fun q => ?_) (fun q => ?_)
  · have q4_9 := (bI_1 (fun z => q (bI_0.mpr z)))
    clear q
    refine V.blk h [(.iconst 0, 1), (.istore_n 2, 1)] (by decide +kernel) (pc' := 11) (ls' := [some (.ref (ax 0 (3 + e))), some (.ref (ax 0 2)), some (.int (nI (0))), none]) (st' := []) rfl rfl (Nat.le_of_ble_eq_true rfl) ?_
    have loop11 : ∀ (t k : Nat), tf A 6 - k = t → k ≤ tf A 6 → (paC A e k = true) → V l D tc A0 p e9 (rmd 5 0 0) s m args below meth c 4 (MQ below (zQ D tc post S sz) args s 0 0 (zAd S sz)) S 0 0 11 [some (.ref (ax 0 (3 + e))), some (.ref (ax 0 2)), some (.int (nI (k))), none] [] := by
      intro t; induction t using Nat.strongRecOn with
      | _ t ih11 =>
        intro k ht11 hk11 inv11
        have hb6 := hB.1 6
        refine V.blk h [(.iload_n 2, 1), (.aload_n 1, 1)] (by decide +kernel) (pc' := 13) (ls' := [some (.ref (ax 0 (3 + e))), some (.ref (ax 0 2)), some (.int (nI (k))), none]) (st' := [.ref (ax 0 2), .int (nI (k))]) rfl rfl (Nat.le_of_ble_eq_true rfl) ?_
        refine V.callV h (np := 0) (st := [.int (nI (k))]) (s_ops hls hS (post := fun v S7 => v = some (.int (nI (tf A 6))) ∧ S = S7) ⟨rfl, rfl⟩) wc_Jx4a65c_size_8abf5 wn_RJx4a65c (Or.inl wm_RX0_13) wi_Jx4a65c_size_8abf5 we_Jx4a65c_size_8abf5 (by decide +kernel) rfl cls_0 (hS.mem (show lv A 0 2 from (Or.inl (by decide)))) (hS.knd (show lv A 0 2 from (Or.inl (by decide)))) (Nat.le_of_ble_eq_true rfl) (Nat.le_of_ble_eq_true rfl) (Nat.zero_le _) (Nat.zero_le _) (by simp [Value.category]) (by decide +kernel) rfl (fun v Z2 q9 => ?_)
        obtain ⟨rfl, hS9⟩ := q9
        subst hS9
        refine V.eq (S' := S) (ls' := [some (.ref (ax 0 (3 + e))), some (.ref (ax 0 2)), some (.int (nI (k))), none]) (st' := [.int (nI (tf A 6)), .int (nI (k))]) rfl rfl rfl ?_
        have nb23 := hB.1 6
        refine V.icmp_ge h (off := 53) (by decide +kernel) (tgt := 69) (by decide) (fun q => ?_) (fun q => ?_)
        · have q16_24 := ((nI_leI (by omega) (by omega)).mp q)
          clear q
          refine V.blk h [(.iconst 1, 1)] (by decide +kernel) (pc' := 70) (ls' := [some (.ref (ax 0 (3 + e))), some (.ref (ax 0 2)), some (.int (nI (k))), none]) (st' := [.int (nI (1))]) rfl rfl (Nat.le_of_ble_eq_true rfl) ?_
          refine V.top (v' := .int (bI true)) (by decide) ?_
          exact V.iret h hA hr (bI_nar _) (by rw [q4_9, show tf A 6 = k from by omega, inv11] at hp; exact hp) (by decide +kernel) (Nat.zero_le _) (Nat.zero_le _)
        · have q16_24 : ¬ _ := (fun z => q ((nI_leI (by omega) (by omega)).mpr z))
          clear q
          refine V.blk h [(.aload_n 1, 1), (.iload_n 2, 1)] (by decide +kernel) (pc' := 21) (ls' := [some (.ref (ax 0 (3 + e))), some (.ref (ax 0 2)), some (.int (nI (k))), none]) (st' := [.int (nI (k)), .ref (ax 0 2)]) rfl rfl (Nat.le_of_ble_eq_true rfl) ?_
          refine V.callV h (np := 1) (st := []) (g_ops hls hS (k := k) (by omega) (post := fun v S7 => v = some (.ref (ax 6 k)) ∧ S = S7) ⟨rfl, rfl⟩) wc_Jx4a65c_get_915e3 wn_RJx4a65c (Or.inl wm_RX0_19) wi_Jx4a65c_get_915e3 we_Jx4a65c_get_915e3 (by decide +kernel) rfl cls_0 (hS.mem (show lv A 0 2 from (Or.inl (by decide)))) (hS.knd (show lv A 0 2 from (Or.inl (by decide)))) (Nat.le_of_ble_eq_true rfl) (Nat.le_of_ble_eq_true rfl) (Nat.zero_le _) (Nat.zero_le _) (by simp [Value.category]) (by decide +kernel) rfl (fun v Z3 q9 => ?_)
          obtain ⟨rfl, hS9⟩ := q9
          subst hS9
          refine V.eq (S' := S) (ls' := [some (.ref (ax 0 (3 + e))), some (.ref (ax 0 2)), some (.int (nI (k))), none]) (st' := [.ref (ax 6 k)]) rfl rfl rfl ?_
          refine V.castS h cls_6 (hS.mem (show lv A 6 k from (by have := hS.2.2.2.1.2.2.1; show k < tf A 13; omega))) (hS.knd (show lv A 6 k from (by have := hS.2.2.2.1.2.2.1; show k < tf A 13; omega))) wl_RX0_23 (by decide +kernel) ?_
          refine V.blk h [(.astore_n 3, 1), (.aload_n 3, 1)] (by decide +kernel) (pc' := 29) (ls' := [some (.ref (ax 0 (3 + e))), some (.ref (ax 0 2)), some (.int (nI (k))), some (.ref (ax 6 k))]) (st' := [.ref (ax 6 k)]) rfl rfl (Nat.le_of_ble_eq_true rfl) ?_
          refine V.callV h (np := 0) (st := []) (c_isDone hls hS (op := k) (show lv A 6 k from (by have := hS.2.2.2.1.2.2.1; show k < tf A 13; omega)) hB (by omega) (hD _) (post := fun v S7 => v = some (.int (bI (decide (tn A 11 k ≠ 0)))) ∧ S = S7) ⟨rfl, rfl⟩) wc_X6_isDone wn_RX6 (Or.inr ⟨_, wm_RX0_25⟩) wi_X6_isDone we_X6_isDone (by decide +kernel) rfl cls_6 (hS.mem (show lv A 6 k from (by have := hS.2.2.2.1.2.2.1; show k < tf A 13; omega))) (hS.knd (show lv A 6 k from (by have := hS.2.2.2.1.2.2.1; show k < tf A 13; omega))) (Nat.le_of_ble_eq_true rfl) (Nat.le_of_ble_eq_true rfl) (Nat.zero_le _) (Nat.zero_le _) (by simp [Value.category]) (by decide +kernel) rfl (fun v Z4 q9 => ?_)
          obtain ⟨rfl, hS9⟩ := q9
          subst hS9
          refine V.eq (S' := S) (ls' := [some (.ref (ax 0 (3 + e))), some (.ref (ax 0 2)), some (.int (nI (k))), some (.ref (ax 6 k))]) (st' := [.int (bI (decide (tn A 11 k ≠ 0)))]) rfl rfl rfl ?_
          refine V.if_eq h (off := 31) (by decide +kernel) (tgt := 63) (by decide) (fun q => ?_) (fun q => ?_)
          · have q32_43 := (bI_0.mp q)
            clear q
            refine V.incN h (x := k) (i := 2) (by decide +kernel) rfl (Nat.le_of_ble_eq_true rfl) ?_
            refine V.eqL (ls' := [some (.ref (ax 0 (3 + e))), some (.ref (ax 0 2)), some (.int (nI (k + 1))), some (.ref (ax 6 k))]) rfl ?_
            refine V.goto h (off := -55) (tgt := 11) (by decide +kernel) (by decide) ?_
            refine V.drop 3 (ls' := [some (.ref (ax 0 (3 + e))), some (.ref (ax 0 2)), some (.int (nI (k + 1))), none]) rfl ?_
            refine V.eqL (ls' := [some (.ref (ax 0 (3 + e))), some (.ref (ax 0 2)), some (.int (nI ((k + 1)))), none]) rfl ?_
            exact ih11 (tf A 6 - (k + 1)) (by omega) (k + 1) rfl (by omega) (by unfold paC; rw [inv11]; clear hp; simp_all)
          · have q32_43 := (bI_1 (fun z => q (bI_0.mpr z)))
            clear q
            refine V.blk h [(.aload_n 3, 1)] (by decide +kernel) (pc' := 36) (ls' := [some (.ref (ax 0 (3 + e))), some (.ref (ax 0 2)), some (.int (nI (k))), some (.ref (ax 6 k))]) (st' := [.ref (ax 6 k)]) rfl rfl (Nat.le_of_ble_eq_true rfl) ?_
            refine V.callV h (np := 0) (st := []) (c_isUpdate hls hS (op := k) (show lv A 6 k from (by have := hS.2.2.2.1.2.2.1; show k < tf A 13; omega)) hB (by omega) (post := fun v S7 => v = some (.int (bI (decide (tn A 7 k ≠ 2)))) ∧ S = S7) ⟨rfl, rfl⟩) wc_X6_isUpdate wn_RX6 (Or.inr ⟨_, wm_RX0_29⟩) wi_X6_isUpdate we_X6_isUpdate (by decide +kernel) rfl cls_6 (hS.mem (show lv A 6 k from (by have := hS.2.2.2.1.2.2.1; show k < tf A 13; omega))) (hS.knd (show lv A 6 k from (by have := hS.2.2.2.1.2.2.1; show k < tf A 13; omega))) (Nat.le_of_ble_eq_true rfl) (Nat.le_of_ble_eq_true rfl) (Nat.zero_le _) (Nat.zero_le _) (by simp [Value.category]) (by decide +kernel) rfl (fun v Z5 q9 => ?_)
            obtain ⟨rfl, hS9⟩ := q9
            subst hS9
            refine V.eq (S' := S) (ls' := [some (.ref (ax 0 (3 + e))), some (.ref (ax 0 2)), some (.int (nI (k))), some (.ref (ax 6 k))]) (st' := [.int (bI (decide (tn A 7 k ≠ 2)))]) rfl rfl rfl ?_
            refine V.if_eq h (off := 14) (by decide +kernel) (tgt := 53) (by decide) (fun q => ?_) (fun q => ?_)
            · have q39_59 := (bI_0.mp q)
              clear q
              refine V.blk h [(.aload_n 0, 1), (.aload_n 3, 1)] (by decide +kernel) (pc' := 55) (ls' := [some (.ref (ax 0 (3 + e))), some (.ref (ax 0 2)), some (.int (nI (k))), some (.ref (ax 6 k))]) (st' := [.ref (ax 6 k), .ref (ax 0 (3 + e))]) rfl rfl (Nat.le_of_ble_eq_true rfl) ?_
              refine V.callS h (np := 2) (st := []) (c_fits hls hS (e := e) (x := k) he (show lv A 6 k from (by have := hS.2.2.2.1.2.2.1; show k < tf A 13; omega)) hD hB hK (post := fun v S7 => v = some (.int (bI (fiF A e k))) ∧ S = S7) ⟨rfl, rfl⟩) wc_X0_fits wn_RX0 (Or.inl wm_RX0_36) wt_X0_fits (by decide +kernel) rfl (Nat.le_of_ble_eq_true rfl) (Nat.le_of_ble_eq_true rfl) (Nat.zero_le _) (Nat.zero_le _) (by simp [Value.category]) (by decide +kernel) rfl (fun v Z6 q9 => ?_)
              obtain ⟨rfl, hS9⟩ := q9
              subst hS9
              refine V.eq (S' := S) (ls' := [some (.ref (ax 0 (3 + e))), some (.ref (ax 0 2)), some (.int (nI (k))), some (.ref (ax 6 k))]) (st' := [.int (bI (fiF A e k))]) rfl rfl rfl ?_
              refine V.if_ne h (off := 5) (by decide +kernel) (tgt := 63) (by decide) (fun q => ?_) (fun q => ?_)
              · have q58_67 := (bI_1 (fun z => q (bI_0.mpr z)))
                clear q
                refine V.incN h (x := k) (i := 2) (by decide +kernel) rfl (Nat.le_of_ble_eq_true rfl) ?_
                refine V.eqL (ls' := [some (.ref (ax 0 (3 + e))), some (.ref (ax 0 2)), some (.int (nI (k + 1))), some (.ref (ax 6 k))]) rfl ?_
                refine V.goto h (off := -55) (tgt := 11) (by decide +kernel) (by decide) ?_
                refine V.drop 3 (ls' := [some (.ref (ax 0 (3 + e))), some (.ref (ax 0 2)), some (.int (nI (k + 1))), none]) rfl ?_
                refine V.eqL (ls' := [some (.ref (ax 0 (3 + e))), some (.ref (ax 0 2)), some (.int (nI ((k + 1)))), none]) rfl ?_
                exact ih11 (tf A 6 - (k + 1)) (by omega) (k + 1) rfl (by omega) (by unfold paC; rw [inv11]; clear hp; simp_all)
              · have q58_67 := (bI_0.mp q)
                clear q
                refine V.blk h [(.iconst 0, 1)] (by decide +kernel) (pc' := 62) (ls' := [some (.ref (ax 0 (3 + e))), some (.ref (ax 0 2)), some (.int (nI (k))), some (.ref (ax 6 k))]) (st' := [.int (nI (0))]) rfl rfl (Nat.le_of_ble_eq_true rfl) ?_
                refine V.top (v' := .int (bI false)) (by decide) ?_
                exact V.iret h hA hr (bI_nar _) (by rw [pa_false (k := k + 1) (by unfold paC; simp_all) _ (by omega), Bool.and_false] at hp; exact hp) (by decide +kernel) (Nat.zero_le _) (Nat.zero_le _)
            · have q39_59 := (bI_1 (fun z => q (bI_0.mpr z)))
              clear q
              refine V.blk h [(.aload_n 0, 1), (.aload_n 3, 1)] (by decide +kernel) (pc' := 44) (ls' := [some (.ref (ax 0 (3 + e))), some (.ref (ax 0 2)), some (.int (nI (k))), some (.ref (ax 6 k))]) (st' := [.ref (ax 6 k), .ref (ax 0 (3 + e))]) rfl rfl (Nat.le_of_ble_eq_true rfl) ?_
              refine V.callS h (np := 2) (st := []) (c_standsOnce hls hS (e := e) (op := k) he (show lv A 6 k from (by have := hS.2.2.2.1.2.2.1; show k < tf A 13; omega)) hB hK (post := fun v S7 => v = some (.int (bI (soF A e k))) ∧ S = S7) ⟨rfl, rfl⟩) wc_X0_standsOnce wn_RX0 (Or.inl wm_RX0_32) wt_X0_standsOnce (by decide +kernel) rfl (Nat.le_of_ble_eq_true rfl) (Nat.le_of_ble_eq_true rfl) (Nat.zero_le _) (Nat.zero_le _) (by simp [Value.category]) (by decide +kernel) rfl (fun v Z7 q9 => ?_)
              obtain ⟨rfl, hS9⟩ := q9
              subst hS9
              refine V.eq (S' := S) (ls' := [some (.ref (ax 0 (3 + e))), some (.ref (ax 0 2)), some (.int (nI (k))), some (.ref (ax 6 k))]) (st' := [.int (bI (soF A e k))]) rfl rfl rfl ?_
              refine V.if_eq h (off := 14) (by decide +kernel) (tgt := 61) (by decide) (fun q => ?_) (fun q => ?_)
              · have q47_88 := (bI_0.mp q)
                clear q
                refine V.blk h [(.iconst 0, 1)] (by decide +kernel) (pc' := 62) (ls' := [some (.ref (ax 0 (3 + e))), some (.ref (ax 0 2)), some (.int (nI (k))), some (.ref (ax 6 k))]) (st' := [.int (nI (0))]) rfl rfl (Nat.le_of_ble_eq_true rfl) ?_
                refine V.top (v' := .int (bI false)) (by decide) ?_
                exact V.iret h hA hr (bI_nar _) (by rw [pa_false (k := k + 1) (by unfold paC; simp_all) _ (by omega), Bool.and_false] at hp; exact hp) (by decide +kernel) (Nat.zero_le _) (Nat.zero_le _)
              · have q47_88 := (bI_1 (fun z => q (bI_0.mpr z)))
                clear q
                refine V.goto h (off := 13) (tgt := 63) (by decide +kernel) (by decide) ?_
                refine V.incN h (x := k) (i := 2) (by decide +kernel) rfl (Nat.le_of_ble_eq_true rfl) ?_
                refine V.eqL (ls' := [some (.ref (ax 0 (3 + e))), some (.ref (ax 0 2)), some (.int (nI (k + 1))), some (.ref (ax 6 k))]) rfl ?_
                refine V.goto h (off := -55) (tgt := 11) (by decide +kernel) (by decide) ?_
                refine V.drop 3 (ls' := [some (.ref (ax 0 (3 + e))), some (.ref (ax 0 2)), some (.int (nI (k + 1))), none]) rfl ?_
                refine V.eqL (ls' := [some (.ref (ax 0 (3 + e))), some (.ref (ax 0 2)), some (.int (nI ((k + 1)))), none]) rfl ?_
                exact ih11 (tf A 6 - (k + 1)) (by omega) (k + 1) rfl (by omega) (by unfold paC; rw [inv11]; clear hp; simp_all)
    refine V.eqL (ls' := [some (.ref (ax 0 (3 + e))), some (.ref (ax 0 2)), some (.int (nI (0))), none]) rfl ?_
    exact loop11 _ 0 rfl (Nat.zero_le _) rfl
  · have q4_9 := (bI_0.mp q)
    clear q
    refine V.blk h [(.iconst 0, 1)] (by decide +kernel) (pc' := 8) (ls' := [some (.ref (ax 0 (3 + e))), some (.ref (ax 0 2)), none, none]) (st' := [.int (nI (0))]) rfl rfl (Nat.le_of_ble_eq_true rfl) ?_
    refine V.top (v' := .int (bI false)) (by decide) ?_
    exact V.iret h hA hr (bI_nar _) (by rw [q4_9] at hp; exact hp) (by decide +kernel) (Nat.zero_le _) (Nat.zero_le _)
