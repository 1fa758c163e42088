/-! ===== witnesses ===== -/
def plW (A : TS) (w i : Nat) : Nat := tn A 1 (16 * w + i)
def hdF (A : TS) (w : Nat) : Nat → Nat
  | 0 => 0
  | k + 1 => if plW A w k = 0 then hdF A w k else hdF A w k + 1
theorem hdF_le (A : TS) (w : Nat) : ∀ k, hdF A w k ≤ k
  | 0 => Nat.le_refl _
  | k + 1 => by have := hdF_le A w k; unfold hdF; split <;> omega
def kyF (A : TS) (w : Nat) : Nat → Nat
  | 0 => 0
  | k + 1 => if plW A w k = 0 then kyF A w k else kyF A w k ||| 2 ^ tn A 8 (plW A w k - 1)
set_option maxRecDepth 100000 in
set_option maxHeartbeats 4000000 in
theorem c_held {l : Launch} {D : va_G} {tc : Nat → ClassId} {ax ay : Nat → Nat → Nat} {A : TS} {S : HS} (hls : l.stackTraces = false) (hS : RA tc (mx ax ay) A S) {w : Nat}  (hw : w < tf A 1) {post : Option Value → HS → Prop} (hp : post (some (.int (nI (hdF A w (tf A 2 * tf A 3))))) S) : CM l D tc yX9_held cX9_held 3 (some .int) 1 0 0 [.ref (ax 9 w)] S post := by
  refine CM.of hls (by decide +kernel) (by simp [Value.category]) (Nat.le_of_ble_eq_true rfl) (fun A0 p e9 s m args below meth c sz h hr hnm hA => ?_)
  obtain ⟨f1, f2, f3, f4, f5, f6⟩ := hS.2.2.1
  have hsw : tf A 2 * tf A 3 ≤ 4 * 4 := Nat.mul_le_mul f4 f6
  have h13 := hS.2.2.2.1.2.2.2.1
  refine V.eqL (ls' := [some (.ref (ax 9 w)), none, none]) rfl ?_
  refine V.blk h [(.iconst 0, 1), (.istore_n 1, 1), (.iconst 0, 1), (.istore_n 2, 1)] (by decide +kernel) (pc' := 4) (ls' := [some (.ref (ax 9 w)), some (.int (nI (0))), some (.int (nI (0)))]) (st' := []) rfl rfl (Nat.le_of_ble_eq_true rfl) ?_
  have loop4 : ∀ (t k : Nat), (tf A 2 * tf A 3) - k = t → k ≤ (tf A 2 * tf A 3) → V l D tc A0 p e9 (rmd 1 0 0) s m args below meth c 3 (MQ below (zQ D tc post S sz) args s 0 0 (zAd S sz)) S 0 0 4 [some (.ref (ax 9 w)), some (.int (nI (hdF A w k))), some (.int (nI (k)))] [] := by
    intro t; induction t using Nat.strongRecOn with
    | _ t ih4 =>
      intro k ht4 hk4
      have hhd := hdF_le A w k
      refine V.blk h [(.iload_n 2, 1), (.aload_n 0, 1)] (by decide +kernel) (pc' := 6) (ls' := [some (.ref (ax 9 w)), some (.int (nI (hdF A w k))), some (.int (nI (k)))]) (st' := [.ref (ax 9 w), .int (nI (k))]) rfl rfl (Nat.le_of_ble_eq_true rfl) ?_
      refine V.getP h cls_9 (j := 3) rfl (hS.mem (show lv A 9 w from hw)) (hS.knd (show lv A 9 w from hw)) (Or.inl wf_RX9_29) (by decide +kernel) (v := some (ax 27 w)) (hS.ptr (show lv A 9 w from hw) (by decide) (by decide) rfl) ?_
      refine V.eq (S' := S) (ls' := [some (.ref (ax 9 w)), some (.int (nI (hdF A w k))), some (.int (nI (k)))]) (st' := [.ref (ax 27 w), .int (nI (k))]) rfl rfl rfl ?_
      refine V.alen h 27 (hS.mem (show lv A 27 w from hw)) (hS.knd (show lv A 27 w from hw)) (by decide) (M := tf A 2 * tf A 3) (hS.len (show lv A 27 w from hw) (by decide)) (by decide +kernel) ?_
      refine V.icmp_ge h (off := 21) (by decide +kernel) (tgt := 31) (by decide) (fun q => ?_) (fun q => ?_)
      · have q10_14 := ((nI_leI (by omega) (by omega)).mp q)
        clear q
        refine V.blk h [(.iload_n 1, 1)] (by decide +kernel) (pc' := 32) (ls' := [some (.ref (ax 9 w)), some (.int (nI (hdF A w k))), some (.int (nI (k)))]) (st' := [.int (nI (hdF A w k))]) rfl rfl (Nat.le_of_ble_eq_true rfl) ?_
        exact V.iret h hA hr rfl (by rw [show tf A 2 * tf A 3 = k from by omega] at hp; exact hp) (by decide +kernel) (Nat.zero_le _) (Nat.zero_le _)
      · have q10_14 : ¬ _ := (fun z => q ((nI_leI (by omega) (by omega)).mpr z))
        clear q
        by_cases hpl13 : tn A 1 (16 * w + k) = 0
        · skip
          refine V.blk h [(.aload_n 0, 1)] (by decide +kernel) (pc' := 14) (ls' := [some (.ref (ax 9 w)), some (.int (nI (hdF A w k))), some (.int (nI (k)))]) (st' := [.ref (ax 9 w)]) rfl rfl (Nat.le_of_ble_eq_true rfl) ?_
          refine V.getP h cls_9 (j := 3) rfl (hS.mem (show lv A 9 w from hw)) (hS.knd (show lv A 9 w from hw)) (Or.inl wf_RX9_29) (by decide +kernel) (v := some (ax 27 w)) (hS.ptr (show lv A 9 w from hw) (by decide) (by decide) rfl) ?_
          refine V.eq (S' := S) (ls' := [some (.ref (ax 9 w)), some (.int (nI (hdF A w k))), some (.int (nI (k)))]) (st' := [.ref (ax 27 w)]) rfl rfl rfl ?_
          refine V.blk h [(.iload_n 2, 1)] (by decide +kernel) (pc' := 18) (ls' := [some (.ref (ax 9 w)), some (.int (nI (hdF A w k))), some (.int (nI (k)))]) (st' := [.int (nI (k)), .ref (ax 27 w)]) rfl rfl (Nat.le_of_ble_eq_true rfl) ?_
          refine V.aald h 27 (hS.mem (show lv A 27 w from hw)) (hS.knd (show lv A 27 w from hw)) (by decide) rfl (M := tf A 2 * tf A 3) (hS.len (show lv A 27 w from hw) (by decide)) (i := k) (by omega) (by show _ < 2 ^ 31; first | omega | decide) (by decide +kernel) (v := none) ((hS.ref (show lv A 27 w from hw) (by decide) (by show _ < tf A 2 * tf A 3; omega)).trans (by show opA _ (tn A 1 (16 * w + k)) = none; rw [hpl13]; rfl)) ?_
          refine V.eq (S' := S) (ls' := [some (.ref (ax 9 w)), some (.int (nI (hdF A w k))), some (.int (nI (k)))]) (st' := [.null]) rfl rfl rfl ?_
          refine V.ifnull h (o := none) (off := 6) (by decide +kernel) (tgt := 25) (by decide) (fun _ => ?_) (fun _ z => by cases z)
          refine V.incN h (x := k) (i := 2) (by decide +kernel) rfl (Nat.le_of_ble_eq_true rfl) ?_
          refine V.eqL (ls' := [some (.ref (ax 9 w)), some (.int (nI (hdF A w k))), some (.int (nI (k + 1)))]) rfl ?_
          refine V.goto h (off := -24) (tgt := 4) (by decide +kernel) (by decide) ?_
          refine V.eqL (ls' := [some (.ref (ax 9 w)), some (.int (nI (hdF A w ((k + 1))))), some (.int (nI ((k + 1))))]) (by simp only [hdF, plW, hpl13, if_true, if_false]) ?_
          exact ih4 ((tf A 2 * tf A 3) - (k + 1)) (by omega) (k + 1) rfl (by omega)
        · skip
          refine V.blk h [(.aload_n 0, 1)] (by decide +kernel) (pc' := 14) (ls' := [some (.ref (ax 9 w)), some (.int (nI (hdF A w k))), some (.int (nI (k)))]) (st' := [.ref (ax 9 w)]) rfl rfl (Nat.le_of_ble_eq_true rfl) ?_
          refine V.getP h cls_9 (j := 3) rfl (hS.mem (show lv A 9 w from hw)) (hS.knd (show lv A 9 w from hw)) (Or.inl wf_RX9_29) (by decide +kernel) (v := some (ax 27 w)) (hS.ptr (show lv A 9 w from hw) (by decide) (by decide) rfl) ?_
          refine V.eq (S' := S) (ls' := [some (.ref (ax 9 w)), some (.int (nI (hdF A w k))), some (.int (nI (k)))]) (st' := [.ref (ax 27 w)]) rfl rfl rfl ?_
          refine V.blk h [(.iload_n 2, 1)] (by decide +kernel) (pc' := 18) (ls' := [some (.ref (ax 9 w)), some (.int (nI (hdF A w k))), some (.int (nI (k)))]) (st' := [.int (nI (k)), .ref (ax 27 w)]) rfl rfl (Nat.le_of_ble_eq_true rfl) ?_
          refine V.aald h 27 (hS.mem (show lv A 27 w from hw)) (hS.knd (show lv A 27 w from hw)) (by decide) rfl (M := tf A 2 * tf A 3) (hS.len (show lv A 27 w from hw) (by decide)) (i := k) (by omega) (by show _ < 2 ^ 31; first | omega | decide) (by decide +kernel) (v := some (ax 6 (tn A 1 (16 * w + k) - 1))) ((hS.ref (show lv A 27 w from hw) (by decide) (by show _ < tf A 2 * tf A 3; omega)).trans (by show opA _ (tn A 1 (16 * w + k)) = _; unfold opA; rw [if_neg hpl13]; rfl)) ?_
          refine V.eq (S' := S) (ls' := [some (.ref (ax 9 w)), some (.int (nI (hdF A w k))), some (.int (nI (k)))]) (st' := [.ref (ax 6 (tn A 1 (16 * w + k) - 1))]) rfl rfl rfl ?_
          refine V.ifnull h (o := (some (ax 6 (tn A 1 (16 * w + k) - 1)))) (off := 6) (by decide +kernel) (tgt := 25) (by decide) (fun z => by cases z) (fun _ _ => ?_)
          refine V.incN h (x := hdF A w k) (i := 1) (by decide +kernel) rfl (Nat.le_of_ble_eq_true rfl) ?_
          refine V.eqL (ls' := [some (.ref (ax 9 w)), some (.int (nI ((hdF A w k) + 1))), some (.int (nI (k)))]) rfl ?_
          refine V.incN h (x := k) (i := 2) (by decide +kernel) rfl (Nat.le_of_ble_eq_true rfl) ?_
          refine V.eqL (ls' := [some (.ref (ax 9 w)), some (.int (nI ((hdF A w k) + 1))), some (.int (nI (k + 1)))]) rfl ?_
          refine V.goto h (off := -24) (tgt := 4) (by decide +kernel) (by decide) ?_
          refine V.eqL (ls' := [some (.ref (ax 9 w)), some (.int (nI (hdF A w ((k + 1))))), some (.int (nI ((k + 1))))]) (by simp only [hdF, plW, hpl13, if_true, if_false]) ?_
          exact ih4 ((tf A 2 * tf A 3) - (k + 1)) (by omega) (k + 1) rfl (by omega)
  refine V.eqL (ls' := [some (.ref (ax 9 w)), some (.int (nI (hdF A w 0))), some (.int (nI (0)))]) rfl ?_
  exact loop4 _ 0 rfl (Nat.zero_le _)
set_option maxRecDepth 100000 in
set_option maxHeartbeats 4000000 in
theorem c_keysHeld {l : Launch} {D : va_G} {tc : Nat → ClassId} {ax ay : Nat → Nat → Nat} {A : TS} {S : HS} (hls : l.stackTraces = false) (hS : RA tc (mx ax ay) A S) {w : Nat} {K : Nat}  (hw : w < tf A 1) (hk16 : ∀ i, tn A 8 i < 16) (hB : NB K A) (hK : K < 1900000000) {post : Option Value → HS → Prop} (hp : post (some (.int (nI (kyF A w (tf A 2 * tf A 3))))) S) : CM l D tc yX9_keysHeld cX9_keysHeld 3 (some .int) 1 0 0 [.ref (ax 9 w)] S post := by
  refine CM.of hls (by decide +kernel) (by simp [Value.category]) (Nat.le_of_ble_eq_true rfl) (fun A0 p e9 s m args below meth c sz h hr hnm hA => ?_)
  obtain ⟨f1, f2, f3, f4, f5, f6⟩ := hS.2.2.1
  have hsw : tf A 2 * tf A 3 ≤ 4 * 4 := Nat.mul_le_mul f4 f6
  have h13 := hS.2.2.2.1.2.2.2.1
  refine V.eqL (ls' := [some (.ref (ax 9 w)), none, none]) rfl ?_
  refine V.blk h [(.iconst 0, 1), (.istore_n 1, 1), (.iconst 0, 1), (.istore_n 2, 1)] (by decide +kernel) (pc' := 4) (ls' := [some (.ref (ax 9 w)), some (.int (nI (0))), some (.int (nI (0)))]) (st' := []) rfl rfl (Nat.le_of_ble_eq_true rfl) ?_
  have loop4 : ∀ (t k : Nat), (tf A 2 * tf A 3) - k = t → k ≤ (tf A 2 * tf A 3) → V l D tc A0 p e9 (rmd 1 0 0) s m args below meth c 3 (MQ below (zQ D tc post S sz) args s 0 0 (zAd S sz)) S 0 0 4 [some (.ref (ax 9 w)), some (.int (nI (kyF A w k))), some (.int (nI (k)))] [] := by
    intro t; induction t using Nat.strongRecOn with
    | _ t ih4 =>
      intro k ht4 hk4
      have hk9 := hk16 (tn A 1 (16 * w + k) - 1)
      refine V.blk h [(.iload_n 2, 1), (.aload_n 0, 1)] (by decide +kernel) (pc' := 6) (ls' := [some (.ref (ax 9 w)), some (.int (nI (kyF A w k))), some (.int (nI (k)))]) (st' := [.ref (ax 9 w), .int (nI (k))]) rfl rfl (Nat.le_of_ble_eq_true rfl) ?_
      refine V.getP h cls_9 (j := 3) rfl (hS.mem (show lv A 9 w from hw)) (hS.knd (show lv A 9 w from hw)) (Or.inl wf_RX9_29) (by decide +kernel) (v := some (ax 27 w)) (hS.ptr (show lv A 9 w from hw) (by decide) (by decide) rfl) ?_
      refine V.eq (S' := S) (ls' := [some (.ref (ax 9 w)), some (.int (nI (kyF A w k))), some (.int (nI (k)))]) (st' := [.ref (ax 27 w), .int (nI (k))]) rfl rfl rfl ?_
      refine V.alen h 27 (hS.mem (show lv A 27 w from hw)) (hS.knd (show lv A 27 w from hw)) (by decide) (M := tf A 2 * tf A 3) (hS.len (show lv A 27 w from hw) (by decide)) (by decide +kernel) ?_
      refine V.icmp_ge h (off := 32) (by decide +kernel) (tgt := 42) (by decide) (fun q => ?_) (fun q => ?_)
      · have q10_14 := ((nI_leI (by omega) (by omega)).mp q)
        clear q
        refine V.blk h [(.iload_n 1, 1)] (by decide +kernel) (pc' := 43) (ls' := [some (.ref (ax 9 w)), some (.int (nI (kyF A w k))), some (.int (nI (k)))]) (st' := [.int (nI (kyF A w k))]) rfl rfl (Nat.le_of_ble_eq_true rfl) ?_
        exact V.iret h hA hr rfl (by rw [show tf A 2 * tf A 3 = k from by omega] at hp; exact hp) (by decide +kernel) (Nat.zero_le _) (Nat.zero_le _)
      · have q10_14 : ¬ _ := (fun z => q ((nI_leI (by omega) (by omega)).mpr z))
        clear q
        by_cases hpl13 : tn A 1 (16 * w + k) = 0
        · skip
          refine V.blk h [(.aload_n 0, 1)] (by decide +kernel) (pc' := 14) (ls' := [some (.ref (ax 9 w)), some (.int (nI (kyF A w k))), some (.int (nI (k)))]) (st' := [.ref (ax 9 w)]) rfl rfl (Nat.le_of_ble_eq_true rfl) ?_
          refine V.getP h cls_9 (j := 3) rfl (hS.mem (show lv A 9 w from hw)) (hS.knd (show lv A 9 w from hw)) (Or.inl wf_RX9_29) (by decide +kernel) (v := some (ax 27 w)) (hS.ptr (show lv A 9 w from hw) (by decide) (by decide) rfl) ?_
          refine V.eq (S' := S) (ls' := [some (.ref (ax 9 w)), some (.int (nI (kyF A w k))), some (.int (nI (k)))]) (st' := [.ref (ax 27 w)]) rfl rfl rfl ?_
          refine V.blk h [(.iload_n 2, 1)] (by decide +kernel) (pc' := 18) (ls' := [some (.ref (ax 9 w)), some (.int (nI (kyF A w k))), some (.int (nI (k)))]) (st' := [.int (nI (k)), .ref (ax 27 w)]) rfl rfl (Nat.le_of_ble_eq_true rfl) ?_
          refine V.aald h 27 (hS.mem (show lv A 27 w from hw)) (hS.knd (show lv A 27 w from hw)) (by decide) rfl (M := tf A 2 * tf A 3) (hS.len (show lv A 27 w from hw) (by decide)) (i := k) (by omega) (by show _ < 2 ^ 31; first | omega | decide) (by decide +kernel) (v := none) ((hS.ref (show lv A 27 w from hw) (by decide) (by show _ < tf A 2 * tf A 3; omega)).trans (by show opA _ (tn A 1 (16 * w + k)) = none; rw [hpl13]; rfl)) ?_
          refine V.eq (S' := S) (ls' := [some (.ref (ax 9 w)), some (.int (nI (kyF A w k))), some (.int (nI (k)))]) (st' := [.null]) rfl rfl rfl ?_
          refine V.ifnull h (o := none) (off := 17) (by decide +kernel) (tgt := 36) (by decide) (fun _ => ?_) (fun _ z => by cases z)
          refine V.incN h (x := k) (i := 2) (by decide +kernel) rfl (Nat.le_of_ble_eq_true rfl) ?_
          refine V.eqL (ls' := [some (.ref (ax 9 w)), some (.int (nI (kyF A w k))), some (.int (nI (k + 1)))]) rfl ?_
          refine V.goto h (off := -35) (tgt := 4) (by decide +kernel) (by decide) ?_
          refine V.eqL (ls' := [some (.ref (ax 9 w)), some (.int (nI (kyF A w ((k + 1))))), some (.int (nI ((k + 1))))]) (by simp only [kyF, plW, hpl13, if_true, if_false]) ?_
          exact ih4 ((tf A 2 * tf A 3) - (k + 1)) (by omega) (k + 1) rfl (by omega)
        · skip
          refine V.blk h [(.aload_n 0, 1)] (by decide +kernel) (pc' := 14) (ls' := [some (.ref (ax 9 w)), some (.int (nI (kyF A w k))), some (.int (nI (k)))]) (st' := [.ref (ax 9 w)]) rfl rfl (Nat.le_of_ble_eq_true rfl) ?_
          refine V.getP h cls_9 (j := 3) rfl (hS.mem (show lv A 9 w from hw)) (hS.knd (show lv A 9 w from hw)) (Or.inl wf_RX9_29) (by decide +kernel) (v := some (ax 27 w)) (hS.ptr (show lv A 9 w from hw) (by decide) (by decide) rfl) ?_
          refine V.eq (S' := S) (ls' := [some (.ref (ax 9 w)), some (.int (nI (kyF A w k))), some (.int (nI (k)))]) (st' := [.ref (ax 27 w)]) rfl rfl rfl ?_
          refine V.blk h [(.iload_n 2, 1)] (by decide +kernel) (pc' := 18) (ls' := [some (.ref (ax 9 w)), some (.int (nI (kyF A w k))), some (.int (nI (k)))]) (st' := [.int (nI (k)), .ref (ax 27 w)]) rfl rfl (Nat.le_of_ble_eq_true rfl) ?_
          refine V.aald h 27 (hS.mem (show lv A 27 w from hw)) (hS.knd (show lv A 27 w from hw)) (by decide) rfl (M := tf A 2 * tf A 3) (hS.len (show lv A 27 w from hw) (by decide)) (i := k) (by omega) (by show _ < 2 ^ 31; first | omega | decide) (by decide +kernel) (v := some (ax 6 (tn A 1 (16 * w + k) - 1))) ((hS.ref (show lv A 27 w from hw) (by decide) (by show _ < tf A 2 * tf A 3; omega)).trans (by show opA _ (tn A 1 (16 * w + k)) = _; unfold opA; rw [if_neg hpl13]; rfl)) ?_
          refine V.eq (S' := S) (ls' := [some (.ref (ax 9 w)), some (.int (nI (kyF A w k))), some (.int (nI (k)))]) (st' := [.ref (ax 6 (tn A 1 (16 * w + k) - 1))]) rfl rfl rfl ?_
          refine V.ifnull h (o := (some (ax 6 (tn A 1 (16 * w + k) - 1)))) (off := 17) (by decide +kernel) (tgt := 36) (by decide) (fun z => by cases z) (fun _ _ => ?_)
          refine V.blk h [(.iload_n 1, 1), (.iconst 1, 1), (.aload_n 0, 1)] (by decide +kernel) (pc' := 25) (ls' := [some (.ref (ax 9 w)), some (.int (nI (kyF A w k))), some (.int (nI (k)))]) (st' := [.ref (ax 9 w), .int (nI (1)), .int (nI (kyF A w k))]) rfl rfl (Nat.le_of_ble_eq_true rfl) ?_
          refine V.getP h cls_9 (j := 3) rfl (hS.mem (show lv A 9 w from hw)) (hS.knd (show lv A 9 w from hw)) (Or.inl wf_RX9_29) (by decide +kernel) (v := some (ax 27 w)) (hS.ptr (show lv A 9 w from hw) (by decide) (by decide) rfl) ?_
          refine V.eq (S' := S) (ls' := [some (.ref (ax 9 w)), some (.int (nI (kyF A w k))), some (.int (nI (k)))]) (st' := [.ref (ax 27 w), .int (nI (1)), .int (nI (kyF A w k))]) rfl rfl rfl ?_
          refine V.blk h [(.iload_n 2, 1)] (by decide +kernel) (pc' := 29) (ls' := [some (.ref (ax 9 w)), some (.int (nI (kyF A w k))), some (.int (nI (k)))]) (st' := [.int (nI (k)), .ref (ax 27 w), .int (nI (1)), .int (nI (kyF A w k))]) rfl rfl (Nat.le_of_ble_eq_true rfl) ?_
          refine V.aald h 27 (hS.mem (show lv A 27 w from hw)) (hS.knd (show lv A 27 w from hw)) (by decide) rfl (M := tf A 2 * tf A 3) (hS.len (show lv A 27 w from hw) (by decide)) (i := k) (by omega) (by show _ < 2 ^ 31; first | omega | decide) (by decide +kernel) (v := some (ax 6 (tn A 1 (16 * w + k) - 1))) ((hS.ref (show lv A 27 w from hw) (by decide) (by show _ < tf A 2 * tf A 3; omega)).trans (by show opA _ (tn A 1 (16 * w + k)) = _; unfold opA; rw [if_neg hpl13]; rfl)) ?_
          refine V.eq (S' := S) (ls' := [some (.ref (ax 9 w)), some (.int (nI (kyF A w k))), some (.int (nI (k)))]) (st' := [.ref (ax 6 (tn A 1 (16 * w + k) - 1)), .int (nI (1)), .int (nI (kyF A w k))]) rfl rfl rfl ?_
          refine V.getI h cls_6 (j := 3) rfl (hS.mem (show lv A 6 (tn A 1 (16 * w + k) - 1) from (by have z9 := hS.2.2.2.2.2.2.2.2.2 w k hw (by omega); show tn A 1 (16 * w + k) - 1 < tf A 13; omega))) (hS.knd (show lv A 6 (tn A 1 (16 * w + k) - 1) from (by have z9 := hS.2.2.2.2.2.2.2.2.2 w k hw (by omega); show tn A 1 (16 * w + k) - 1 < tf A 13; omega))) (Or.inr ⟨_, wf_RX9_40⟩) (by decide +kernel) (v := nI (tn A 8 (tn A 1 (16 * w + k) - 1))) (hS.int (show lv A 6 (tn A 1 (16 * w + k) - 1) from (by have z9 := hS.2.2.2.2.2.2.2.2.2 w k hw (by omega); show tn A 1 (16 * w + k) - 1 < tf A 13; omega)) (by decide) (by decide) rfl) ?_
          have nb50 := hB.2 8 (tn A 1 (16 * w + k) - 1)
          refine V.shl1 h (v := nI (2 ^ (tn A 8 (tn A 1 (16 * w + k) - 1)))) (shl1 (by omega)) (by decide +kernel) ?_
          refine V.orN h (v := nI ((kyF A w k) ||| (2 ^ (tn A 8 (tn A 1 (16 * w + k) - 1))))) (nI_or _ _) (by decide +kernel) (Nat.le_of_ble_eq_true rfl) ?_
          refine V.blk h [(.istore_n 1, 1)] (by decide +kernel) (pc' := 36) (ls' := [some (.ref (ax 9 w)), some (.int (nI ((kyF A w k) ||| (2 ^ (tn A 8 (tn A 1 (16 * w + k) - 1)))))), some (.int (nI (k)))]) (st' := []) rfl rfl (Nat.le_of_ble_eq_true rfl) ?_
          refine V.incN h (x := k) (i := 2) (by decide +kernel) rfl (Nat.le_of_ble_eq_true rfl) ?_
          refine V.eqL (ls' := [some (.ref (ax 9 w)), some (.int (nI ((kyF A w k) ||| (2 ^ (tn A 8 (tn A 1 (16 * w + k) - 1)))))), some (.int (nI (k + 1)))]) rfl ?_
          refine V.goto h (off := -35) (tgt := 4) (by decide +kernel) (by decide) ?_
          refine V.eqL (ls' := [some (.ref (ax 9 w)), some (.int (nI (kyF A w ((k + 1))))), some (.int (nI ((k + 1))))]) (by simp only [kyF, plW, hpl13, if_true, if_false]) ?_
          exact ih4 ((tf A 2 * tf A 3) - (k + 1)) (by omega) (k + 1) rfl (by omega)
  refine V.eqL (ls' := [some (.ref (ax 9 w)), some (.int (nI (kyF A w 0))), some (.int (nI (0)))]) rfl ?_
  exact loop4 _ 0 rfl (Nat.zero_le _)
def clP (A : TS) (w : Nat) : Nat → TS
  | 0 => A
  | k + 1 => sn (clP A w k) 1 (16 * w + k) 0
theorem clP_keep (A : TS) (w : Nat) : ∀ k, (∀ j, tf (clP A w k) j = tf A j) ∧ (∀ j i, j ≠ 1 → tn (clP A w k) j i = tn A j i)
  | 0 => ⟨fun _ => rfl, fun _ _ _ => rfl⟩
  | k + 1 => ⟨(clP_keep A w k).1, fun j i q => by show tn (sn _ _ _ _) j i = _; rw [tn_sn, if_neg (fun z => q z.1)]; exact (clP_keep A w k).2 j i q⟩
def wrsC (A : TS) (w e : Nat) : TS := if tn A 41 w < e ∨ (tn A 41 w = e ∧ tb A 42 w = true) then clP (sb (sn A 41 w e) 42 w false) w (tf A 2 * tf A 3) else A
set_option maxRecDepth 100000 in
set_option maxHeartbeats 4000000 in
theorem c_readReset {l : Launch} {D : va_G} {tc : Nat → ClassId} {ax ay : Nat → Nat → Nat} {A : TS} {S : HS} (hls : l.stackTraces = false) (hS : RA tc (mx ax ay) A S) {w : Nat} {e : Nat} {K : Nat}  (hw : w < tf A 1) (he : e ≤ K) (hB : NB K A) (hK : K < 1900000000) {post : Option Value → HS → Prop} (hp : ∀ (S8 : HS) (ay8 : Nat → Nat → Nat), RA tc (mx ax ay8) (wrsC A w e) S8 → post none S8) : CM l D tc yX9_readReset cX9_readReset 3 (none) 1 0 0 [.ref (ax 9 w), .int (nI (e))] S post := by
  refine CM.of hls (by decide +kernel) (by simp [Value.category]) (Nat.le_of_ble_eq_true rfl) (fun A0 p e9 s m args below meth c sz h hr hnm hA => ?_)
  obtain ⟨f1, f2, f3, f4, f5, f6⟩ := hS.2.2.1
  have hsw : tf A 2 * tf A 3 ≤ 4 * 4 := Nat.mul_le_mul f4 f6
  have h13 := hS.2.2.2.1.2.2.2.1
  refine V.eqL (ls' := [some (.ref (ax 9 w)), some (.int (nI (e))), none]) rfl ?_
  refine V.blk h [(.aload_n 0, 1)] (by decide +kernel) (pc' := 1) (ls' := [some (.ref (ax 9 w)), some (.int (nI (e))), none]) (st' := [.ref (ax 9 w)]) rfl rfl (Nat.le_of_ble_eq_true rfl) ?_
  refine V.getI h cls_9 (j := 4) rfl (hS.mem (show lv A 9 w from hw)) (hS.knd (show lv A 9 w from hw)) (Or.inl wf_RX9_33) (by decide +kernel) (v := nI (tn A 41 w)) (hS.int (show lv A 9 w from hw) (by decide) (by decide) rfl) ?_
  have nb6 := hB.2 41 w
  refine V.blk h [(.iload_n 1, 1)] (by decide +kernel) (pc' := 5) (ls' := [some (.ref (ax 9 w)), some (.int (nI (e))), none]) (st' := [.int (nI (e)), .int (nI (tn A 41 w))]) rfl rfl (Nat.le_of_ble_eq_true rfl) ?_
  refine V.icmp_lt h (off := 18) (by decide +kernel) (tgt := 23) (by decide) (fun q => ?_) (fun q => ?_)
  · have q5_8 := ((nI_ltI (by omega) (by omega)).mp q)
    clear q
    refine V.blk h [(.aload_n 0, 1), (.iload_n 1, 1)] (by decide +kernel) (pc' := 25) (ls' := [some (.ref (ax 9 w)), some (.int (nI (e))), none]) (st' := [.int (nI (e)), .ref (ax 9 w)]) rfl rfl (Nat.le_of_ble_eq_true rfl) ?_
    refine V.putI h cls_9 (j := 4) rfl (hS.mem (show lv A 9 w from hw)) (hS.knd (show lv A 9 w from hw)) (Or.inl wf_RX9_33) rfl rfl rfl (by decide +kernel) ?_
    refine V.gen (P := fun S9 => RA tc (mx ax ay) (sn A 41 w e) S9) (hS.p_9_4 (i := w) (v := e) (show lv A 9 w from hw)) (fun S1 hS1 => ?_)
    refine V.blk h [(.aload_n 0, 1), (.iconst 0, 1)] (by decide +kernel) (pc' := 30) (ls' := [some (.ref (ax 9 w)), some (.int (nI (e))), none]) (st' := [.int (nI (0)), .ref (ax 9 w)]) rfl rfl (Nat.le_of_ble_eq_true rfl) ?_
    refine V.top (v' := .int (bI false)) (by decide) ?_
    refine V.putI h cls_9 (j := 5) rfl (hS1.mem (show lv (sn A 41 w e) 9 w from hw)) (hS1.knd (show lv (sn A 41 w e) 9 w from hw)) (Or.inl wf_RX9_36) rfl (bI_nar _) (bI_fit _) (by decide +kernel) ?_
    refine V.gen (P := fun S9 => RA tc (mx ax ay) (sb (sn A 41 w e) 42 w false) S9) (hS1.p_9_5 (i := w) (v := false) (show lv (sn A 41 w e) 9 w from hw)) (fun S2 hS2 => ?_)
    refine V.blk h [(.iconst 0, 1), (.istore_n 2, 1)] (by decide +kernel) (pc' := 35) (ls' := [some (.ref (ax 9 w)), some (.int (nI (e))), some (.int (nI (0)))]) (st' := []) rfl rfl (Nat.le_of_ble_eq_true rfl) ?_
    have loop35 : ∀ (t k : Nat) (S9 : HS) (ay9 : Nat → Nat → Nat), RA tc (mx ax ay9) (clP (sb (sn A 41 w e) 42 w false) w k) S9 → (tf A 2 * tf A 3) - k = t → k ≤ (tf A 2 * tf A 3) → V l D tc A0 p e9 (rmd 1 0 0) s m args below meth c 3 (MQ below (zQ D tc post S sz) args s 0 0 (zAd S sz)) S9 0 0 35 [some (.ref (ax 9 w)), some (.int (nI (e))), some (.int (nI (k)))] [] := by
      intro t; induction t using Nat.strongRecOn with
      | _ t ih35 =>
        intro k S9 ay9 hS9 ht35 hk35
        obtain ⟨G, hG⟩ : ∃ X9 : TS, X9 = (clP (sb (sn A 41 w e) 42 w false) w k) := ⟨_, rfl⟩
        rw [← hG] at hS9
        have kg := clP_keep (sb (sn A 41 w e) 42 w false) w k
        rw [← hG] at kg
        have hwG : w < tf G 1 := by rw [kg.1]; exact hw
        have g2 : tf G 2 = tf A 2 := kg.1 2
        have g3 : tf G 3 = tf A 3 := kg.1 3
        have gsw : tf G 2 * tf G 3 = tf A 2 * tf A 3 := by rw [g2, g3]
        refine V.blk h [(.iload_n 2, 1), (.aload_n 0, 1)] (by decide +kernel) (pc' := 37) (ls' := [some (.ref (ax 9 w)), some (.int (nI (e))), some (.int (nI (k)))]) (st' := [.ref (ax 9 w), .int (nI (k))]) rfl rfl (Nat.le_of_ble_eq_true rfl) ?_
        refine V.getP h cls_9 (j := 3) rfl (hS9.mem (show lv G 9 w from hwG)) (hS9.knd (show lv G 9 w from hwG)) (Or.inl wf_RX9_29) (by decide +kernel) (v := some (ax 27 w)) (hS9.ptr (show lv G 9 w from hwG) (by decide) (by decide) rfl) ?_
        refine V.eq (S' := S9) (ls' := [some (.ref (ax 9 w)), some (.int (nI (e))), some (.int (nI (k)))]) (st' := [.ref (ax 27 w), .int (nI (k))]) rfl rfl rfl ?_
        refine V.alen h 27 (hS9.mem (show lv G 27 w from hwG)) (hS9.knd (show lv G 27 w from hwG)) (by decide) (M := tf G 2 * tf G 3) (hS9.len (show lv G 27 w from hwG) (by decide)) (by decide +kernel) ?_
        refine V.icmp_ge h (off := 16) (by decide +kernel) (tgt := 57) (by decide) (fun q => ?_) (fun q => ?_)
        · have q41_35 := ((nI_leI (by omega) (by omega)).mp q)
          clear q
          exact V.vret h hA hr (hp _ _ (by unfold wrsC; rw [if_pos (by first | exact Or.inl (by omega) | exact Or.inr ⟨by omega, by assumption⟩), show tf A 2 * tf A 3 = k from by omega, ← hG]; exact hS9)) (by decide +kernel) (Nat.zero_le _) (Nat.zero_le _)
        · have q41_35 : ¬ _ := (fun z => q ((nI_leI (by omega) (by omega)).mpr z))
          clear q
          refine V.blk h [(.aload_n 0, 1)] (by decide +kernel) (pc' := 45) (ls' := [some (.ref (ax 9 w)), some (.int (nI (e))), some (.int (nI (k)))]) (st' := [.ref (ax 9 w)]) rfl rfl (Nat.le_of_ble_eq_true rfl) ?_
          refine V.getP h cls_9 (j := 3) rfl (hS9.mem (show lv G 9 w from hwG)) (hS9.knd (show lv G 9 w from hwG)) (Or.inl wf_RX9_29) (by decide +kernel) (v := some (ax 27 w)) (hS9.ptr (show lv G 9 w from hwG) (by decide) (by decide) rfl) ?_
          refine V.eq (S' := S9) (ls' := [some (.ref (ax 9 w)), some (.int (nI (e))), some (.int (nI (k)))]) (st' := [.ref (ax 27 w)]) rfl rfl rfl ?_
          refine V.blk h [(.iload_n 2, 1), (.aconst_null, 1)] (by decide +kernel) (pc' := 50) (ls' := [some (.ref (ax 9 w)), some (.int (nI (e))), some (.int (nI (k)))]) (st' := [.null, .int (nI (k)), .ref (ax 27 w)]) rfl rfl (Nat.le_of_ble_eq_true rfl) ?_
          refine V.aastN h 27 (hS9.mem (show lv G 27 w from hwG)) (hS9.knd (show lv G 27 w from hwG)) (by decide) rfl (M := tf G 2 * tf G 3) (hS9.len (show lv G 27 w from hwG) (by decide)) (i := k) (by omega) (by omega) (by decide +kernel) ?_
          refine V.gen (P := fun S9 => RA tc (mx ax ay9) (sn G 1 (16 * w + k) (0)) S9) (hS9.p_plc (w := w) (k := k) (t := 0) hwG (by omega) (Nat.zero_le _)) (fun S3 hS3 => ?_)
          refine V.incN h (x := k) (i := 2) (by decide +kernel) rfl (Nat.le_of_ble_eq_true rfl) ?_
          refine V.eqL (ls' := [some (.ref (ax 9 w)), some (.int (nI (e))), some (.int (nI (k + 1)))]) rfl ?_
          refine V.goto h (off := -19) (tgt := 35) (by decide +kernel) (by decide) ?_
          refine V.eqL (ls' := [some (.ref (ax 9 w)), some (.int (nI (e))), some (.int (nI ((k + 1))))]) rfl ?_
          exact ih35 ((tf A 2 * tf A 3) - (k + 1)) (by omega) (k + 1) S3 ay9 (by show RA tc _ (sn (clP (sb (sn A 41 w e) 42 w false) w k) 1 (16 * w + k) 0) _; rw [← hG]; exact hS3) rfl (by omega)
    refine V.eqL (ls' := [some (.ref (ax 9 w)), some (.int (nI (e))), some (.int (nI (0)))]) rfl ?_
    exact loop35 _ 0 S2 ay (hS2) rfl (Nat.zero_le _)
  · have q5_8 : ¬ _ := (fun z => q ((nI_ltI (by omega) (by omega)).mpr z))
    clear q
    refine V.blk h [(.aload_n 0, 1)] (by decide +kernel) (pc' := 9) (ls' := [some (.ref (ax 9 w)), some (.int (nI (e))), none]) (st' := [.ref (ax 9 w)]) rfl rfl (Nat.le_of_ble_eq_true rfl) ?_
    refine V.getI h cls_9 (j := 4) rfl (hS.mem (show lv A 9 w from hw)) (hS.knd (show lv A 9 w from hw)) (Or.inl wf_RX9_33) (by decide +kernel) (v := nI (tn A 41 w)) (hS.int (show lv A 9 w from hw) (by decide) (by decide) rfl) ?_
    have nb58 := hB.2 41 w
    refine V.blk h [(.iload_n 1, 1)] (by decide +kernel) (pc' := 13) (ls' := [some (.ref (ax 9 w)), some (.int (nI (e))), none]) (st' := [.int (nI (e)), .int (nI (tn A 41 w))]) rfl rfl (Nat.le_of_ble_eq_true rfl) ?_
    refine V.icmp_ne h (off := 44) (by decide +kernel) (tgt := 57) (by decide) (fun q => ?_) (fun q => ?_)
    · have q13_60 : ¬ _ := (fun z => q ((nI_eq (by omega) (by omega)).mpr z))
      clear q
      exact V.vret h hA hr (hp _ ay (by unfold wrsC; rw [if_neg (by intro z; rcases z with z | z <;> first | omega | (rw [q13_60] at z; exact absurd z.2 (by decide)))]; exact hS)) (by decide +kernel) (Nat.zero_le _) (Nat.zero_le _)
    · have q13_60 := ((nI_eq (by omega) (by omega)).mp q)
      clear q
      refine V.blk h [(.aload_n 0, 1)] (by decide +kernel) (pc' := 17) (ls' := [some (.ref (ax 9 w)), some (.int (nI (e))), none]) (st' := [.ref (ax 9 w)]) rfl rfl (Nat.le_of_ble_eq_true rfl) ?_
      refine V.getI h cls_9 (j := 5) rfl (hS.mem (show lv A 9 w from hw)) (hS.knd (show lv A 9 w from hw)) (Or.inl wf_RX9_36) (by decide +kernel) (v := bI (tb A 42 w)) (hS.int (show lv A 9 w from hw) (by decide) (by decide) rfl) ?_
      refine V.if_eq h (off := 37) (by decide +kernel) (tgt := 57) (by decide) (fun q => ?_) (fun q => ?_)
      · have q20_68 := (bI_0.mp q)
        clear q
        exact V.vret h hA hr (hp _ ay (by unfold wrsC; rw [if_neg (by intro z; rcases z with z | z <;> first | omega | (rw [q20_68] at z; exact absurd z.2 (by decide)))]; exact hS)) (by decide +kernel) (Nat.zero_le _) (Nat.zero_le _)
      · have q20_68 := (bI_1 (fun z => q (bI_0.mpr z)))
        clear q
        refine V.blk h [(.aload_n 0, 1), (.iload_n 1, 1)] (by decide +kernel) (pc' := 25) (ls' := [some (.ref (ax 9 w)), some (.int (nI (e))), none]) (st' := [.int (nI (e)), .ref (ax 9 w)]) rfl rfl (Nat.le_of_ble_eq_true rfl) ?_
        refine V.putI h cls_9 (j := 4) rfl (hS.mem (show lv A 9 w from hw)) (hS.knd (show lv A 9 w from hw)) (Or.inl wf_RX9_33) rfl rfl rfl (by decide +kernel) ?_
        refine V.gen (P := fun S9 => RA tc (mx ax ay) (sn A 41 w e) S9) (hS.p_9_4 (i := w) (v := e) (show lv A 9 w from hw)) (fun S4 hS4 => ?_)
        refine V.blk h [(.aload_n 0, 1), (.iconst 0, 1)] (by decide +kernel) (pc' := 30) (ls' := [some (.ref (ax 9 w)), some (.int (nI (e))), none]) (st' := [.int (nI (0)), .ref (ax 9 w)]) rfl rfl (Nat.le_of_ble_eq_true rfl) ?_
        refine V.top (v' := .int (bI false)) (by decide) ?_
        refine V.putI h cls_9 (j := 5) rfl (hS4.mem (show lv (sn A 41 w e) 9 w from hw)) (hS4.knd (show lv (sn A 41 w e) 9 w from hw)) (Or.inl wf_RX9_36) rfl (bI_nar _) (bI_fit _) (by decide +kernel) ?_
        refine V.gen (P := fun S9 => RA tc (mx ax ay) (sb (sn A 41 w e) 42 w false) S9) (hS4.p_9_5 (i := w) (v := false) (show lv (sn A 41 w e) 9 w from hw)) (fun S5 hS5 => ?_)
        refine V.blk h [(.iconst 0, 1), (.istore_n 2, 1)] (by decide +kernel) (pc' := 35) (ls' := [some (.ref (ax 9 w)), some (.int (nI (e))), some (.int (nI (0)))]) (st' := []) rfl rfl (Nat.le_of_ble_eq_true rfl) ?_
        have loop35 : ∀ (t k : Nat) (S9 : HS) (ay9 : Nat → Nat → Nat), RA tc (mx ax ay9) (clP (sb (sn A 41 w e) 42 w false) w k) S9 → (tf A 2 * tf A 3) - k = t → k ≤ (tf A 2 * tf A 3) → V l D tc A0 p e9 (rmd 1 0 0) s m args below meth c 3 (MQ below (zQ D tc post S sz) args s 0 0 (zAd S sz)) S9 0 0 35 [some (.ref (ax 9 w)), some (.int (nI (e))), some (.int (nI (k)))] [] := by
          intro t; induction t using Nat.strongRecOn with
          | _ t ih35 =>
            intro k S9 ay9 hS9 ht35 hk35
            obtain ⟨G, hG⟩ : ∃ X9 : TS, X9 = (clP (sb (sn A 41 w e) 42 w false) w k) := ⟨_, rfl⟩
            rw [← hG] at hS9
            have kg := clP_keep (sb (sn A 41 w e) 42 w false) w k
            rw [← hG] at kg
            have hwG : w < tf G 1 := by rw [kg.1]; exact hw
            have g2 : tf G 2 = tf A 2 := kg.1 2
            have g3 : tf G 3 = tf A 3 := kg.1 3
            have gsw : tf G 2 * tf G 3 = tf A 2 * tf A 3 := by rw [g2, g3]
            refine V.blk h [(.iload_n 2, 1), (.aload_n 0, 1)] (by decide +kernel) (pc' := 37) (ls' := [some (.ref (ax 9 w)), some (.int (nI (e))), some (.int (nI (k)))]) (st' := [.ref (ax 9 w), .int (nI (k))]) rfl rfl (Nat.le_of_ble_eq_true rfl) ?_
            refine V.getP h cls_9 (j := 3) rfl (hS9.mem (show lv G 9 w from hwG)) (hS9.knd (show lv G 9 w from hwG)) (Or.inl wf_RX9_29) (by decide +kernel) (v := some (ax 27 w)) (hS9.ptr (show lv G 9 w from hwG) (by decide) (by decide) rfl) ?_
            refine V.eq (S' := S9) (ls' := [some (.ref (ax 9 w)), some (.int (nI (e))), some (.int (nI (k)))]) (st' := [.ref (ax 27 w), .int (nI (k))]) rfl rfl rfl ?_
            refine V.alen h 27 (hS9.mem (show lv G 27 w from hwG)) (hS9.knd (show lv G 27 w from hwG)) (by decide) (M := tf G 2 * tf G 3) (hS9.len (show lv G 27 w from hwG) (by decide)) (by decide +kernel) ?_
            refine V.icmp_ge h (off := 16) (by decide +kernel) (tgt := 57) (by decide) (fun q => ?_) (fun q => ?_)
            · have q41_98 := ((nI_leI (by omega) (by omega)).mp q)
              clear q
              exact V.vret h hA hr (hp _ _ (by unfold wrsC; rw [if_pos (by first | exact Or.inl (by omega) | exact Or.inr ⟨by omega, by assumption⟩), show tf A 2 * tf A 3 = k from by omega, ← hG]; exact hS9)) (by decide +kernel) (Nat.zero_le _) (Nat.zero_le _)
            · have q41_98 : ¬ _ := (fun z => q ((nI_leI (by omega) (by omega)).mpr z))
              clear q
              refine V.blk h [(.aload_n 0, 1)] (by decide +kernel) (pc' := 45) (ls' := [some (.ref (ax 9 w)), some (.int (nI (e))), some (.int (nI (k)))]) (st' := [.ref (ax 9 w)]) rfl rfl (Nat.le_of_ble_eq_true rfl) ?_
              refine V.getP h cls_9 (j := 3) rfl (hS9.mem (show lv G 9 w from hwG)) (hS9.knd (show lv G 9 w from hwG)) (Or.inl wf_RX9_29) (by decide +kernel) (v := some (ax 27 w)) (hS9.ptr (show lv G 9 w from hwG) (by decide) (by decide) rfl) ?_
              refine V.eq (S' := S9) (ls' := [some (.ref (ax 9 w)), some (.int (nI (e))), some (.int (nI (k)))]) (st' := [.ref (ax 27 w)]) rfl rfl rfl ?_
              refine V.blk h [(.iload_n 2, 1), (.aconst_null, 1)] (by decide +kernel) (pc' := 50) (ls' := [some (.ref (ax 9 w)), some (.int (nI (e))), some (.int (nI (k)))]) (st' := [.null, .int (nI (k)), .ref (ax 27 w)]) rfl rfl (Nat.le_of_ble_eq_true rfl) ?_
              refine V.aastN h 27 (hS9.mem (show lv G 27 w from hwG)) (hS9.knd (show lv G 27 w from hwG)) (by decide) rfl (M := tf G 2 * tf G 3) (hS9.len (show lv G 27 w from hwG) (by decide)) (i := k) (by omega) (by omega) (by decide +kernel) ?_
              refine V.gen (P := fun S9 => RA tc (mx ax ay9) (sn G 1 (16 * w + k) (0)) S9) (hS9.p_plc (w := w) (k := k) (t := 0) hwG (by omega) (Nat.zero_le _)) (fun S6 hS6 => ?_)
              refine V.incN h (x := k) (i := 2) (by decide +kernel) rfl (Nat.le_of_ble_eq_true rfl) ?_
              refine V.eqL (ls' := [some (.ref (ax 9 w)), some (.int (nI (e))), some (.int (nI (k + 1)))]) rfl ?_
              refine V.goto h (off := -19) (tgt := 35) (by decide +kernel) (by decide) ?_
              refine V.eqL (ls' := [some (.ref (ax 9 w)), some (.int (nI (e))), some (.int (nI ((k + 1))))]) rfl ?_
              exact ih35 ((tf A 2 * tf A 3) - (k + 1)) (by omega) (k + 1) S6 ay9 (by show RA tc _ (sn (clP (sb (sn A 41 w e) 42 w false) w k) 1 (16 * w + k) 0) _; rw [← hG]; exact hS6) rfl (by omega)
        refine V.eqL (ls' := [some (.ref (ax 9 w)), some (.int (nI (e))), some (.int (nI (0)))]) rfl ?_
        exact loop35 _ 0 S5 ay (hS5) rfl (Nat.zero_le _)
def drL (A : TS) (w e n : Nat) : Nat → TS
  | 0 => A
  | k + 1 => if plW (drL A w e n k) w k ≠ 0 ∧ placeF A e (plW (drL A w e n k) w k - 1) ≠ 0 ∧ placeF A e (plW (drL A w e n k) w k - 1) ≤ n then sn (drL A w e n k) 1 (16 * w + k) 0 else drL A w e n k
theorem drL_keep (A : TS) (w e n : Nat) : ∀ k, (∀ j, tf (drL A w e n k) j = tf A j) ∧ (∀ j i, j ≠ 1 → tn (drL A w e n k) j i = tn A j i)
  | 0 => ⟨fun _ => rfl, fun _ _ _ => rfl⟩
  | k + 1 => by
    obtain ⟨h1, h2⟩ := drL_keep A w e n k
    unfold drL
    split
    · exact ⟨h1, fun j i q => by rw [tn_sn, if_neg (fun z => q z.1)]; exact h2 j i q⟩
    · exact ⟨h1, h2⟩
theorem drL_NB {K : Nat} {A : TS} {w e n : Nat} (h : NB K A) : ∀ k, NB K (drL A w e n k)
  | 0 => h
  | k + 1 => by
    have := drL_NB (w := w) (e := e) (n := n) h k
    unfold drL
    split
    · exact this.sn (by omega)
    · exact this
set_option maxRecDepth 100000 in
set_option maxHeartbeats 4000000 in
theorem c_drop {l : Launch} {D : va_G} {tc : Nat → ClassId} {ax ay : Nat → Nat → Nat} {A : TS} {S : HS} (hls : l.stackTraces = false) (hS : RA tc (mx ax ay) A S) {w : Nat} {e : Nat} {n : Nat} {K : Nat}  (hw : w < tf A 1) (he : e < tf A 38) (hn : n ≤ K) (hL : LogOK A e) (hB : NB K A) (hK : K < 1900000000) {post : Option Value → HS → Prop} (hp : ∀ (S8 : HS) (ay8 : Nat → Nat → Nat), RA tc (mx ax ay8) (drL A w e n (tf A 2 * tf A 3)) S8 → post none S8) : CM l D tc yX9_drop cX9_drop 5 (none) 4 0 0 [.ref (ax 9 w), .ref (ax 5 e), .int (nI (n))] S post := by
  refine CM.of hls (by decide +kernel) (by simp [Value.category]) (Nat.le_of_ble_eq_true rfl) (fun A0 p e9 s m args below meth c sz h hr hnm hA => ?_)
  obtain ⟨f1, f2, f3, f4, f5, f6⟩ := hS.2.2.1
  have hsw : tf A 2 * tf A 3 ≤ 4 * 4 := Nat.mul_le_mul f4 f6
  have h13 := hS.2.2.2.1.2.2.2.1
  refine V.eqL (ls' := [some (.ref (ax 9 w)), some (.ref (ax 5 e)), some (.int (nI (n))), none, none]) rfl ?_
  refine V.blk h [(.iconst 0, 1), (.istore_n 3, 1)] (by decide +kernel) (pc' := 2) (ls' := [some (.ref (ax 9 w)), some (.ref (ax 5 e)), some (.int (nI (n))), some (.int (nI (0))), none]) (st' := []) rfl rfl (Nat.le_of_ble_eq_true rfl) ?_
  have loop2 : ∀ (t k : Nat) (S9 : HS) (ay9 : Nat → Nat → Nat), RA tc (mx ax ay9) (drL A w e n k) S9 → (tf A 2 * tf A 3) - k = t → k ≤ (tf A 2 * tf A 3) → V l D tc A0 p e9 (rmd 4 0 0) s m args below meth c 5 (MQ below (zQ D tc post S sz) args s 0 0 (zAd S sz)) S9 0 0 2 [some (.ref (ax 9 w)), some (.ref (ax 5 e)), some (.int (nI (n))), some (.int (nI (k))), none] [] := by
    intro t; induction t using Nat.strongRecOn with
    | _ t ih2 =>
      intro k S9 ay9 hS9 ht2 hk2
      obtain ⟨G, hG⟩ : ∃ X9 : TS, X9 = (drL A w e n k) := ⟨_, rfl⟩
      rw [← hG] at hS9
      have kg := drL_keep A w e n k
      have nbG := drL_NB (w := w) (e := e) (n := n) hB k
      rw [← hG] at kg nbG
      have hwG : w < tf G 1 := by rw [kg.1]; exact hw
      have heG : e < tf G 38 := by rw [kg.1]; exact he
      have g2 : tf G 2 = tf A 2 := kg.1 2
      have g3 : tf G 3 = tf A 3 := kg.1 3
      have gsw : tf G 2 * tf G 3 = tf A 2 * tf A 3 := by rw [g2, g3]
      have hLG : LogOK G e := ⟨by rw [kg.1]; exact hL.1, fun x hx => by rw [kg.2 26 _ (by decide)] at hx; rw [kg.2 22 _ (by decide), kg.1]; exact hL.2.1 x hx, fun x y hx hy z => by rw [kg.2 26 _ (by decide)] at hx hy; rw [kg.2 22 _ (by decide), kg.2 22 _ (by decide)] at z; exact hL.2.2 x y hx hy z⟩
      have hpG : ∀ x, placeF G e x = placeF A e x := fun x => placeF_same e x (fun i => kg.2 22 i (by decide)) (kg.2 26 e (by decide))
      have hple := placeF_le A e (tn G 1 (16 * w + k) - 1)
      have hb26 := hB.2 26 e
      have hpx := hpG (tn G 1 (16 * w + k) - 1)
      refine V.blk h [(.iload_n 3, 1), (.aload_n 0, 1)] (by decide +kernel) (pc' := 4) (ls' := [some (.ref (ax 9 w)), some (.ref (ax 5 e)), some (.int (nI (n))), some (.int (nI (k))), none]) (st' := [.ref (ax 9 w), .int (nI (k))]) rfl rfl (Nat.le_of_ble_eq_true rfl) ?_
      refine V.getP h cls_9 (j := 3) rfl (hS9.mem (show lv G 9 w from hwG)) (hS9.knd (show lv G 9 w from hwG)) (Or.inl wf_RX9_29) (by decide +kernel) (v := some (ax 27 w)) (hS9.ptr (show lv G 9 w from hwG) (by decide) (by decide) rfl) ?_
      refine V.eq (S' := S9) (ls' := [some (.ref (ax 9 w)), some (.ref (ax 5 e)), some (.int (nI (n))), some (.int (nI (k))), none]) (st' := [.ref (ax 27 w), .int (nI (k))]) rfl rfl rfl ?_
      refine V.alen h 27 (hS9.mem (show lv G 27 w from hwG)) (hS9.knd (show lv G 27 w from hwG)) (by decide) (M := tf G 2 * tf G 3) (hS9.len (show lv G 27 w from hwG) (by decide)) (by decide +kernel) ?_
      refine V.icmp_ge h (off := 48) (by decide +kernel) (tgt := 56) (by decide) (fun q => ?_) (fun q => ?_)
      · have q8_28 := ((nI_leI (by omega) (by omega)).mp q)
        clear q
        exact V.vret h hA hr (hp _ _ (by rw [show tf A 2 * tf A 3 = k from by omega, ← hG]; exact hS9)) (by decide +kernel) (Nat.zero_le _) (Nat.zero_le _)
      · have q8_28 : ¬ _ := (fun z => q ((nI_leI (by omega) (by omega)).mpr z))
        clear q
        by_cases hpl11 : tn G 1 (16 * w + k) = 0
        · skip
          refine V.blk h [(.aload_n 0, 1)] (by decide +kernel) (pc' := 12) (ls' := [some (.ref (ax 9 w)), some (.ref (ax 5 e)), some (.int (nI (n))), some (.int (nI (k))), none]) (st' := [.ref (ax 9 w)]) rfl rfl (Nat.le_of_ble_eq_true rfl) ?_
          refine V.getP h cls_9 (j := 3) rfl (hS9.mem (show lv G 9 w from hwG)) (hS9.knd (show lv G 9 w from hwG)) (Or.inl wf_RX9_29) (by decide +kernel) (v := some (ax 27 w)) (hS9.ptr (show lv G 9 w from hwG) (by decide) (by decide) rfl) ?_
          refine V.eq (S' := S9) (ls' := [some (.ref (ax 9 w)), some (.ref (ax 5 e)), some (.int (nI (n))), some (.int (nI (k))), none]) (st' := [.ref (ax 27 w)]) rfl rfl rfl ?_
          refine V.blk h [(.iload_n 3, 1)] (by decide +kernel) (pc' := 16) (ls' := [some (.ref (ax 9 w)), some (.ref (ax 5 e)), some (.int (nI (n))), some (.int (nI (k))), none]) (st' := [.int (nI (k)), .ref (ax 27 w)]) rfl rfl (Nat.le_of_ble_eq_true rfl) ?_
          refine V.aald h 27 (hS9.mem (show lv G 27 w from hwG)) (hS9.knd (show lv G 27 w from hwG)) (by decide) rfl (M := tf G 2 * tf G 3) (hS9.len (show lv G 27 w from hwG) (by decide)) (i := k) (by omega) (by show _ < 2 ^ 31; first | omega | decide) (by decide +kernel) (v := none) ((hS9.ref (show lv G 27 w from hwG) (by decide) (by show _ < tf G 2 * tf G 3; omega)).trans (by show opA _ (tn G 1 (16 * w + k)) = none; rw [hpl11]; rfl)) ?_
          refine V.eq (S' := S9) (ls' := [some (.ref (ax 9 w)), some (.ref (ax 5 e)), some (.int (nI (n))), some (.int (nI (k))), none]) (st' := [.null]) rfl rfl rfl ?_
          refine V.ifnull h (o := none) (off := 33) (by decide +kernel) (tgt := 50) (by decide) (fun _ => ?_) (fun _ z => by cases z)
          refine V.incN h (x := k) (i := 3) (by decide +kernel) rfl (Nat.le_of_ble_eq_true rfl) ?_
          refine V.eqL (ls' := [some (.ref (ax 9 w)), some (.ref (ax 5 e)), some (.int (nI (n))), some (.int (nI (k + 1))), none]) rfl ?_
          refine V.goto h (off := -51) (tgt := 2) (by decide +kernel) (by decide) ?_
          refine V.eqL (ls' := [some (.ref (ax 9 w)), some (.ref (ax 5 e)), some (.int (nI (n))), some (.int (nI ((k + 1)))), none]) rfl ?_
          exact ih2 ((tf A 2 * tf A 3) - (k + 1)) (by omega) (k + 1) S9 ay9 (by show RA tc _ (if plW (drL A w e n k) w k ≠ 0 ∧ placeF A e (plW (drL A w e n k) w k - 1) ≠ 0 ∧ placeF A e (plW (drL A w e n k) w k - 1) ≤ n then sn (drL A w e n k) 1 (16 * w + k) 0 else (drL A w e n k)) _; rw [← hG]; unfold plW; rw [if_neg (by intro z; omega)]; exact hS9) rfl (by omega)
        · skip
          refine V.blk h [(.aload_n 0, 1)] (by decide +kernel) (pc' := 12) (ls' := [some (.ref (ax 9 w)), some (.ref (ax 5 e)), some (.int (nI (n))), some (.int (nI (k))), none]) (st' := [.ref (ax 9 w)]) rfl rfl (Nat.le_of_ble_eq_true rfl) ?_
          refine V.getP h cls_9 (j := 3) rfl (hS9.mem (show lv G 9 w from hwG)) (hS9.knd (show lv G 9 w from hwG)) (Or.inl wf_RX9_29) (by decide +kernel) (v := some (ax 27 w)) (hS9.ptr (show lv G 9 w from hwG) (by decide) (by decide) rfl) ?_
          refine V.eq (S' := S9) (ls' := [some (.ref (ax 9 w)), some (.ref (ax 5 e)), some (.int (nI (n))), some (.int (nI (k))), none]) (st' := [.ref (ax 27 w)]) rfl rfl rfl ?_
          refine V.blk h [(.iload_n 3, 1)] (by decide +kernel) (pc' := 16) (ls' := [some (.ref (ax 9 w)), some (.ref (ax 5 e)), some (.int (nI (n))), some (.int (nI (k))), none]) (st' := [.int (nI (k)), .ref (ax 27 w)]) rfl rfl (Nat.le_of_ble_eq_true rfl) ?_
          refine V.aald h 27 (hS9.mem (show lv G 27 w from hwG)) (hS9.knd (show lv G 27 w from hwG)) (by decide) rfl (M := tf G 2 * tf G 3) (hS9.len (show lv G 27 w from hwG) (by decide)) (i := k) (by omega) (by show _ < 2 ^ 31; first | omega | decide) (by decide +kernel) (v := some (ax 6 (tn G 1 (16 * w + k) - 1))) ((hS9.ref (show lv G 27 w from hwG) (by decide) (by show _ < tf G 2 * tf G 3; omega)).trans (by show opA _ (tn G 1 (16 * w + k)) = _; unfold opA; rw [if_neg hpl11]; rfl)) ?_
          refine V.eq (S' := S9) (ls' := [some (.ref (ax 9 w)), some (.ref (ax 5 e)), some (.int (nI (n))), some (.int (nI (k))), none]) (st' := [.ref (ax 6 (tn G 1 (16 * w + k) - 1))]) rfl rfl rfl ?_
          refine V.ifnull h (o := (some (ax 6 (tn G 1 (16 * w + k) - 1)))) (off := 33) (by decide +kernel) (tgt := 50) (by decide) (fun z => by cases z) (fun _ _ => ?_)
          refine V.blk h [(.aload_n 1, 1), (.aload_n 0, 1)] (by decide +kernel) (pc' := 22) (ls' := [some (.ref (ax 9 w)), some (.ref (ax 5 e)), some (.int (nI (n))), some (.int (nI (k))), none]) (st' := [.ref (ax 9 w), .ref (ax 5 e)]) rfl rfl (Nat.le_of_ble_eq_true rfl) ?_
          refine V.getP h cls_9 (j := 3) rfl (hS9.mem (show lv G 9 w from hwG)) (hS9.knd (show lv G 9 w from hwG)) (Or.inl wf_RX9_29) (by decide +kernel) (v := some (ax 27 w)) (hS9.ptr (show lv G 9 w from hwG) (by decide) (by decide) rfl) ?_
          refine V.eq (S' := S9) (ls' := [some (.ref (ax 9 w)), some (.ref (ax 5 e)), some (.int (nI (n))), some (.int (nI (k))), none]) (st' := [.ref (ax 27 w), .ref (ax 5 e)]) rfl rfl rfl ?_
          refine V.blk h [(.iload_n 3, 1)] (by decide +kernel) (pc' := 26) (ls' := [some (.ref (ax 9 w)), some (.ref (ax 5 e)), some (.int (nI (n))), some (.int (nI (k))), none]) (st' := [.int (nI (k)), .ref (ax 27 w), .ref (ax 5 e)]) rfl rfl (Nat.le_of_ble_eq_true rfl) ?_
          refine V.aald h 27 (hS9.mem (show lv G 27 w from hwG)) (hS9.knd (show lv G 27 w from hwG)) (by decide) rfl (M := tf G 2 * tf G 3) (hS9.len (show lv G 27 w from hwG) (by decide)) (i := k) (by omega) (by show _ < 2 ^ 31; first | omega | decide) (by decide +kernel) (v := some (ax 6 (tn G 1 (16 * w + k) - 1))) ((hS9.ref (show lv G 27 w from hwG) (by decide) (by show _ < tf G 2 * tf G 3; omega)).trans (by show opA _ (tn G 1 (16 * w + k)) = _; unfold opA; rw [if_neg hpl11]; rfl)) ?_
          refine V.eq (S' := S9) (ls' := [some (.ref (ax 9 w)), some (.ref (ax 5 e)), some (.int (nI (n))), some (.int (nI (k))), none]) (st' := [.ref (ax 6 (tn G 1 (16 * w + k) - 1)), .ref (ax 5 e)]) rfl rfl rfl ?_
          refine V.callV h (np := 1) (st := []) (c_placeOf hls hS9 (e := e) (op := tn G 1 (16 * w + k) - 1) heG (show lv G 6 (tn G 1 (16 * w + k) - 1) from (by have z9 := hS9.2.2.2.2.2.2.2.2.2 w k hwG (by omega); show tn G 1 (16 * w + k) - 1 < tf G 13; omega)) hLG nbG (by omega) (post := fun v S7 => v = some (.int (oI (placeF G e (tn G 1 (16 * w + k) - 1)))) ∧ S9 = S7) ⟨rfl, rfl⟩) wc_X5_placeOf wn_RX5 (Or.inr ⟨_, wm_RX9_43⟩) wi_X5_placeOf we_X5_placeOf (by decide +kernel) rfl cls_5 (hS9.mem (show lv G 5 e from heG)) (hS9.knd (show lv G 5 e from heG)) (Nat.le_of_ble_eq_true rfl) (Nat.le_of_ble_eq_true rfl) (Nat.zero_le _) (Nat.zero_le _) (by simp [Value.category]) (by decide +kernel) rfl (fun v Z1 q9 => ?_)
          obtain ⟨rfl, hS9⟩ := q9
          subst hS9
          refine V.eq (S' := S9) (ls' := [some (.ref (ax 9 w)), some (.ref (ax 5 e)), some (.int (nI (n))), some (.int (nI (k))), none]) (st' := [.int (oI (placeF G e (tn G 1 (16 * w + k) - 1)))]) rfl rfl rfl ?_
          refine V.blk h [(.istore 4, 2), (.iload 4, 2)] (by decide +kernel) (pc' := 34) (ls' := [some (.ref (ax 9 w)), some (.ref (ax 5 e)), some (.int (nI (n))), some (.int (nI (k))), some (.int (oI (placeF G e (tn G 1 (16 * w + k) - 1))))]) (st' := [.int (oI (placeF G e (tn G 1 (16 * w + k) - 1)))]) rfl rfl (Nat.le_of_ble_eq_true rfl) ?_
          refine V.if_lt h (off := 16) (by decide +kernel) (tgt := 50) (by decide) (fun q => ?_) (fun q => ?_)
          · have q34_67 := ((oI_neg (by omega)).mp q)
            clear q
            refine V.incN h (x := k) (i := 3) (by decide +kernel) rfl (Nat.le_of_ble_eq_true rfl) ?_
            refine V.eqL (ls' := [some (.ref (ax 9 w)), some (.ref (ax 5 e)), some (.int (nI (n))), some (.int (nI (k + 1))), some (.int (oI (placeF G e (tn G 1 (16 * w + k) - 1))))]) rfl ?_
            refine V.goto h (off := -51) (tgt := 2) (by decide +kernel) (by decide) ?_
            refine V.drop 4 (ls' := [some (.ref (ax 9 w)), some (.ref (ax 5 e)), some (.int (nI (n))), some (.int (nI (k + 1))), none]) rfl ?_
            refine V.eqL (ls' := [some (.ref (ax 9 w)), some (.ref (ax 5 e)), some (.int (nI (n))), some (.int (nI ((k + 1)))), none]) rfl ?_
            exact ih2 ((tf A 2 * tf A 3) - (k + 1)) (by omega) (k + 1) S9 ay9 (by show RA tc _ (if plW (drL A w e n k) w k ≠ 0 ∧ placeF A e (plW (drL A w e n k) w k - 1) ≠ 0 ∧ placeF A e (plW (drL A w e n k) w k - 1) ≤ n then sn (drL A w e n k) 1 (16 * w + k) 0 else (drL A w e n k)) _; rw [← hG]; unfold plW; rw [if_neg (by intro z; omega)]; exact hS9) rfl (by omega)
          · have q34_67 : ¬ _ := (fun z => q ((oI_neg (by omega)).mpr z))
            clear q
            refine V.blk h [(.iload 4, 2), (.iload_n 2, 1)] (by decide +kernel) (pc' := 40) (ls' := [some (.ref (ax 9 w)), some (.ref (ax 5 e)), some (.int (nI (n))), some (.int (nI (k))), some (.int (oI (placeF G e (tn G 1 (16 * w + k) - 1))))]) (st' := [.int (nI (n)), .int (oI (placeF G e (tn G 1 (16 * w + k) - 1)))]) rfl rfl (Nat.le_of_ble_eq_true rfl) ?_
            refine V.icmp_ge h (off := 10) (by decide +kernel) (tgt := 50) (by decide) (fun q => ?_) (fun q => ?_)
            · have q40_79 := ((nI_leO (by omega) (by omega)).mp q)
              clear q
              refine V.incN h (x := k) (i := 3) (by decide +kernel) rfl (Nat.le_of_ble_eq_true rfl) ?_
              refine V.eqL (ls' := [some (.ref (ax 9 w)), some (.ref (ax 5 e)), some (.int (nI (n))), some (.int (nI (k + 1))), some (.int (oI (placeF G e (tn G 1 (16 * w + k) - 1))))]) rfl ?_
              refine V.goto h (off := -51) (tgt := 2) (by decide +kernel) (by decide) ?_
              refine V.drop 4 (ls' := [some (.ref (ax 9 w)), some (.ref (ax 5 e)), some (.int (nI (n))), some (.int (nI (k + 1))), none]) rfl ?_
              refine V.eqL (ls' := [some (.ref (ax 9 w)), some (.ref (ax 5 e)), some (.int (nI (n))), some (.int (nI ((k + 1)))), none]) rfl ?_
              exact ih2 ((tf A 2 * tf A 3) - (k + 1)) (by omega) (k + 1) S9 ay9 (by show RA tc _ (if plW (drL A w e n k) w k ≠ 0 ∧ placeF A e (plW (drL A w e n k) w k - 1) ≠ 0 ∧ placeF A e (plW (drL A w e n k) w k - 1) ≤ n then sn (drL A w e n k) 1 (16 * w + k) 0 else (drL A w e n k)) _; rw [← hG]; unfold plW; rw [if_neg (by intro z; omega)]; exact hS9) rfl (by omega)
            · have q40_79 : ¬ _ := (fun z => q ((nI_leO (by omega) (by omega)).mpr z))
              clear q
              refine V.blk h [(.aload_n 0, 1)] (by decide +kernel) (pc' := 44) (ls' := [some (.ref (ax 9 w)), some (.ref (ax 5 e)), some (.int (nI (n))), some (.int (nI (k))), some (.int (oI (placeF G e (tn G 1 (16 * w + k) - 1))))]) (st' := [.ref (ax 9 w)]) rfl rfl (Nat.le_of_ble_eq_true rfl) ?_
              refine V.getP h cls_9 (j := 3) rfl (hS9.mem (show lv G 9 w from hwG)) (hS9.knd (show lv G 9 w from hwG)) (Or.inl wf_RX9_29) (by decide +kernel) (v := some (ax 27 w)) (hS9.ptr (show lv G 9 w from hwG) (by decide) (by decide) rfl) ?_
              refine V.eq (S' := S9) (ls' := [some (.ref (ax 9 w)), some (.ref (ax 5 e)), some (.int (nI (n))), some (.int (nI (k))), some (.int (oI (placeF G e (tn G 1 (16 * w + k) - 1))))]) (st' := [.ref (ax 27 w)]) rfl rfl rfl ?_
              refine V.blk h [(.iload_n 3, 1), (.aconst_null, 1)] (by decide +kernel) (pc' := 49) (ls' := [some (.ref (ax 9 w)), some (.ref (ax 5 e)), some (.int (nI (n))), some (.int (nI (k))), some (.int (oI (placeF G e (tn G 1 (16 * w + k) - 1))))]) (st' := [.null, .int (nI (k)), .ref (ax 27 w)]) rfl rfl (Nat.le_of_ble_eq_true rfl) ?_
              refine V.aastN h 27 (hS9.mem (show lv G 27 w from hwG)) (hS9.knd (show lv G 27 w from hwG)) (by decide) rfl (M := tf G 2 * tf G 3) (hS9.len (show lv G 27 w from hwG) (by decide)) (i := k) (by omega) (by omega) (by decide +kernel) ?_
              refine V.gen (P := fun S9 => RA tc (mx ax ay9) (sn G 1 (16 * w + k) (0)) S9) (hS9.p_plc (w := w) (k := k) (t := 0) hwG (by omega) (Nat.zero_le _)) (fun S2 hS2 => ?_)
              refine V.incN h (x := k) (i := 3) (by decide +kernel) rfl (Nat.le_of_ble_eq_true rfl) ?_
              refine V.eqL (ls' := [some (.ref (ax 9 w)), some (.ref (ax 5 e)), some (.int (nI (n))), some (.int (nI (k + 1))), some (.int (oI (placeF G e (tn G 1 (16 * w + k) - 1))))]) rfl ?_
              refine V.goto h (off := -51) (tgt := 2) (by decide +kernel) (by decide) ?_
              refine V.drop 4 (ls' := [some (.ref (ax 9 w)), some (.ref (ax 5 e)), some (.int (nI (n))), some (.int (nI (k + 1))), none]) rfl ?_
              refine V.eqL (ls' := [some (.ref (ax 9 w)), some (.ref (ax 5 e)), some (.int (nI (n))), some (.int (nI ((k + 1)))), none]) rfl ?_
              exact ih2 ((tf A 2 * tf A 3) - (k + 1)) (by omega) (k + 1) S2 ay9 (by show RA tc _ (if plW (drL A w e n k) w k ≠ 0 ∧ placeF A e (plW (drL A w e n k) w k - 1) ≠ 0 ∧ placeF A e (plW (drL A w e n k) w k - 1) ≤ n then sn (drL A w e n k) 1 (16 * w + k) 0 else (drL A w e n k)) _; rw [← hG]; unfold plW; rw [if_pos ⟨hpl11, by omega, by omega⟩]; exact hS2) rfl (by omega)
  refine V.eqL (ls' := [some (.ref (ax 9 w)), some (.ref (ax 5 e)), some (.int (nI (n))), some (.int (nI (0))), none]) rfl ?_
  exact loop2 _ 0 S ay (hS) rfl (Nat.zero_le _)
