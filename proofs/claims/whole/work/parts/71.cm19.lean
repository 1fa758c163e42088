/-! ===== a new master takes the records of a witness ===== -/
def trA (e : Nat) (p : TS × Nat) : TS := if placeF p.1 e (p.2 - 1) = 0 ∧ hgF p.1 e (p.2 - 1) (tn p.1 26 e) = false then apC p.1 e (p.2 - 1) false else p.1
def trS (e w : Nat) (p : TS × Nat) : TS × Nat := if p.2 = 0 then p else (trA e p, nbF (trA e p) w p.2 (tf (trA e p) 2 * tf (trA e p) 3))
def trL (A : TS) (e w : Nat) : Nat → TS × Nat
  | 0 => (A, nbF A w 0 (tf A 2 * tf A 3))
  | k + 1 => trS e w (trL A e w k)
theorem trL_stay {A : TS} {e w k : Nat} (h : (trL A e w k).2 = 0) : ∀ n, k ≤ n → trL A e w n = trL A e w k
  | 0, z => by rw [show k = 0 by omega]
  | n + 1, z => by
    by_cases y : k = n + 1
    · rw [y]
    · have := trL_stay h n (by omega)
      show trS e w (trL A e w n) = _
      rw [this]
      unfold trS
      rw [if_pos h]
theorem LogOK.apC {A : TS} {e op : Nat} {late : Bool} (h : LogOK A e) (hop : op < tf A 13) (hp : placeF A e op = 0) : LogOK (apC A e op late) e := by
  have hz := (plF_zero A e op _).mp hp
  obtain ⟨r1, r2, r3, r4, s1, s2, s3, s4, s5⟩ := apC_row (A := A) (e := e) (op := op) (late := late)
  have e22 : ∀ k, k < tn A 26 e → tn (_root_.Jvm.Pilot.COneTripLaw_law_r7449_bb9836.apC A e op late) 22 (600 * e + k) = tn A 22 (600 * e + k) := fun k hk => r2 22 _ (by omega) (by omega)
  refine ⟨by rw [r1]; exact h.1, fun k hk => ?_, fun i j a c q => ?_⟩
  · rw [s1] at hk
    rw [r1]
    by_cases y : k = tn A 26 e
    · rw [y, s2]; exact hop
    · rw [e22 k (by omega)]; exact h.2.1 k (by omega)
  · rw [s1] at a c
    by_cases y : i = tn A 26 e
    · by_cases z : j = tn A 26 e
      · omega
      · rw [y, s2, e22 j (by omega)] at q
        exact absurd q.symm (hz j (by omega))
    · by_cases z : j = tn A 26 e
      · rw [z, s2, e22 i (by omega)] at q
        exact absurd q (hz i (by omega))
      · rw [e22 i (by omega), e22 j (by omega)] at q
        exact h.2.2 i j (by omega) (by omega) q
/-- what stays while records are taken -/
def trI (A0 : TS) (K e : Nat) (G : TS) : Prop := (∀ j, tf G j = tf A0 j) ∧ (∀ j i, j ≠ 22 → j ≠ 26 → tn G j i = tn A0 j i) ∧ (∀ x, x ≠ e → tn G 26 x = tn A0 26 x) ∧ LogOK G e ∧ NB K G
theorem trA_I {A0 G : TS} {K e c : Nat} (h : trI A0 K e G) (hc : c < tf A0 13) (h7 : 700 ≤ K) : trI A0 (K + 1) e (trA e (G, c + 1)) := by
  obtain ⟨h1, h2, h3, h4, h5⟩ := h
  have h1' := h4.1
  unfold trA
  show trI A0 (K + 1) e (if placeF G e (c + 1 - 1) = 0 ∧ hgF G e (c + 1 - 1) (tn G 26 e) = false then apC G e (c + 1 - 1) false else G)
  rw [Nat.add_sub_cancel]
  split
  · rename_i z
    have hr := h4.room (by rw [h1]; exact hc) z.1
    obtain ⟨r1, r2, r3, r4, s1, s2, s3, s4, s5⟩ := apC_row (A := G) (e := e) (op := c) (late := false)
    have q := h1 13
    exact ⟨fun j => (r1 j).trans (h1 j), fun j i a b => (r2 j i (fun z => a z.1) (fun z => b z.1)).trans (h2 j i a b), fun x a => (r2 26 x (by omega) (fun z => a z.2)).trans (h3 x a), h4.apC (by rw [h1]; exact hc) z.1, apC_NB h5 (by omega) (by omega)⟩
  · exact ⟨h1, h2, h3, h4, h5.mono (by omega)⟩
theorem trL_I {A : TS} {e w K : Nat} (hL : LogOK A e) (hB : NB K A) (h7 : 700 ≤ K) (hp : ∀ i, i < tf A 2 * tf A 3 → plW A w i ≤ tf A 13) : ∀ k, trI A (K + k) e (trL A e w k).1 ∧ (trL A e w k).2 ≤ tf A 13
  | 0 => ⟨⟨fun _ => rfl, fun _ _ _ _ => rfl, fun _ _ => rfl, hL, hB⟩, nbF_le hp _ (Nat.le_refl _)⟩
  | k + 1 => by
    obtain ⟨h1, h2⟩ := trL_I hL hB h7 hp k
    show trI A (K + (k + 1)) e (trS e w (trL A e w k)).1 ∧ (trS e w (trL A e w k)).2 ≤ tf A 13
    unfold trS
    by_cases y : (trL A e w k).2 = 0
    · rw [if_pos y]
      exact ⟨⟨h1.1, h1.2.1, h1.2.2.1, h1.2.2.2.1, h1.2.2.2.2.mono (by omega)⟩, h2⟩
    · rw [if_neg y]
      obtain ⟨c, hc⟩ : ∃ c, (trL A e w k).2 = c + 1 := ⟨(trL A e w k).2 - 1, by omega⟩
      have e1 : trL A e w k = ((trL A e w k).1, c + 1) := Prod.ext rfl hc
      have q := trA_I (e := e) (c := c) h1 (by omega) (by omega)
      rw [← e1] at q
      refine ⟨q, nbF_le (m := tf A 13) (fun i hi => ?_) _ (Nat.le_refl _)⟩
      rw [q.1, q.1] at hi
      unfold plW
      rw [q.2.1 1 _ (by decide) (by decide)]
      exact hp i hi
set_option maxRecDepth 100000 in
set_option maxHeartbeats 4000000 in
theorem c_takeRecords {l : Launch} {D : va_G} {tc : Nat → ClassId} {ax ay : Nat → Nat → Nat} {A : TS} {S : HS} (hls : l.stackTraces = false) (hS : RA tc (mx ax ay) A S) {e : Nat} {w : Nat} {K : Nat}  (he : e < tf A 38) (hw : w < tf A 1) (hL : LogOK A e) (hk16 : ∀ i, tn A 8 i < 16) (h9 : 700 ≤ K) (hB : NB K A) (hK : K < 1800000000) {post : Option Value → HS → Prop} (hp : ∀ (S8 : HS) (ax8 ay8 : Nat → Nat → Nat), (∀ g, g ≠ 3 → ax8 g = ax g) → RA tc (mx ax8 ay8) (trL A e w (tf A 2 * tf A 3)).1 S8 → post none S8) : CM l D tc yX5_takeRecords cX5_takeRecords 4 (none) 8 32 14432 [.ref (ax 5 e), .ref (ax 9 w)] S post := by
  refine CM.of hls (by decide +kernel) (by simp [Value.category]) (Nat.le_of_ble_eq_true rfl) (fun A0 p e9 s m args below meth c sz h hr hnm hA => ?_)
  obtain ⟨f1, f2, f3, f4, f5, f6⟩ := hS.2.2.1
  have hsw : tf A 2 * tf A 3 ≤ 4 * 4 := Nat.mul_le_mul f4 f6
  have h13 := hS.2.2.2.1.2.2.2.1
  have h12 := hS.2.2.2.1.2.1
  have hpl : ∀ i, i < tf A 2 * tf A 3 → plW A w i ≤ tf A 13 := fun i hi => hS.2.2.2.2.2.2.2.2.2 w i hw (by omega)
  refine V.eqL (ls' := [some (.ref (ax 5 e)), some (.ref (ax 9 w)), none, none]) rfl ?_
  refine V.blk h [(.aload_n 1, 1), (.aconst_null, 1)] (by decide +kernel) (pc' := 2) (ls' := [some (.ref (ax 5 e)), some (.ref (ax 9 w)), none, none]) (st' := [.null, .ref (ax 9 w)]) rfl rfl (Nat.le_of_ble_eq_true rfl) ?_
  refine V.callV h (np := 1) (st := []) (c_recordBehind0 hls hS (w := w) hw hB (by omega) (post := fun v S7 => v = some (va_rf (opA (mx ax ay) (nbF A w 0 (tf A 2 * tf A 3)))) ∧ S = S7) ⟨rfl, rfl⟩) wc_X9_recordBehind wn_RX9 (Or.inr ⟨_, wm_RX5_76⟩) wi_X9_recordBehind we_X9_recordBehind (by decide +kernel) rfl cls_9 (hS.mem (show lv A 9 w from hw)) (hS.knd (show lv A 9 w from hw)) (Nat.le_of_ble_eq_true rfl) (Nat.le_of_ble_eq_true rfl) (Nat.zero_le _) (Nat.zero_le _) (by simp [Value.category]) (by decide +kernel) rfl (fun v Z1 q9 => ?_)
  obtain ⟨rfl, hS9⟩ := q9
  subst hS9
  refine V.eq (S' := S) (ls' := [some (.ref (ax 5 e)), some (.ref (ax 9 w)), none, none]) (st' := [va_rf (opA (mx ax ay) (nbF A w 0 (tf A 2 * tf A 3)))]) rfl rfl rfl ?_
  refine V.astq h (o := opA (mx ax ay) (nbF A w 0 (tf A 2 * tf A 3))) (x := 2) (by decide +kernel) (Nat.le_of_ble_eq_true rfl) (Nat.le_of_ble_eq_true rfl) ?_
  refine V.eqL (ls' := [some (.ref (ax 5 e)), some (.ref (ax 9 w)), some (va_rf (opA (mx ax ay) (nbF A w 0 (tf A 2 * tf A 3)))), none]) rfl ?_
  refine V.blk h [(.iconst 0, 1), (.istore_n 3, 1)] (by decide +kernel) (pc' := 8) (ls' := [some (.ref (ax 5 e)), some (.ref (ax 9 w)), some (va_rf (opA (mx ax ay) (nbF A w 0 (tf A 2 * tf A 3)))), some (.int (nI (0)))]) (st' := []) rfl rfl (Nat.le_of_ble_eq_true rfl) ?_
  have loop8 : ∀ (t k : Nat) (S9 : HS) (ay9 ax9 : Nat → Nat → Nat), (∀ g, g ≠ 3 → ax9 g = ax g) → RA tc (mx ax9 ay9) ((trL A e w k).1) S9 → (tf A 2 * tf A 3) - k = t → k ≤ (tf A 2 * tf A 3) → V l D tc A0 p e9 (rmd 8 32 14432) s m args below meth c 4 (MQ below (zQ D tc post S sz) args s 32 14432 (zAd S sz)) S9 (2 * k) (902 * k) 8 [some (.ref (ax 5 e)), some (.ref (ax 9 w)), some (va_rf (opA (mx ax ay) ((trL A e w k).2))), some (.int (nI (k)))] [] := by
    intro t; induction t using Nat.strongRecOn with
    | _ t ih8 =>
      intro k S9 ay9 ax9 hx9 hS9 ht8 hk8
      refine V.eqL (ls' := [some (.ref (ax9 5 e)), some (.ref (ax9 9 w)), some (va_rf (opA (mx ax ay) ((trL A e w k).2))), some (.int (nI (k)))]) (by first | rfl | simp only [hx9 0 (by decide), hx9 5 (by decide), hx9 6 (by decide), hx9 7 (by decide), hx9 9 (by decide), hx9 20 (by decide), hx9 27 (by decide)]) ?_
      obtain ⟨G, hG⟩ : ∃ X9 : TS, X9 = (trL A e w k).1 := ⟨_, rfl⟩
      obtain ⟨cd, hcd⟩ : ∃ x9 : Nat, x9 = (trL A e w k).2 := ⟨_, rfl⟩
      rw [← hG] at hS9
      obtain ⟨⟨q1, q2, q3, hLG, nbG⟩, hc13⟩ := trL_I hL hB h9 hpl k
      rw [← hG] at q1 q2 q3 hLG nbG
      rw [← hcd] at hc13
      have heG : e < tf G 38 := by rw [q1]; exact he
      have hwG : w < tf G 1 := by rw [q1]; exact hw
      have g13 := q1 13
      have gsw : tf G 2 * tf G 3 = tf A 2 * tf A 3 := by rw [q1, q1]
      refine V.eqL (ls' := [some (.ref (ax9 5 e)), some (.ref (ax9 9 w)), some (va_rf (opA (mx ax9 ay9) (cd))), some (.int (nI (k)))]) (by rw [hcd, opA_ax (ay := ay) (hx9 6 (by decide))]) ?_
      refine V.blk h [(.iload_n 3, 1), (.aload_n 1, 1)] (by decide +kernel) (pc' := 10) (ls' := [some (.ref (ax9 5 e)), some (.ref (ax9 9 w)), some (va_rf (opA (mx ax9 ay9) (cd))), some (.int (nI (k)))]) (st' := [.ref (ax9 9 w), .int (nI (k))]) rfl rfl (Nat.le_of_ble_eq_true rfl) ?_
      refine V.getP h cls_9 (j := 3) rfl (hS9.mem (show lv G 9 w from hwG)) (hS9.knd (show lv G 9 w from hwG)) (Or.inr ⟨_, wf_RX5_82⟩) (by decide +kernel) (v := some (ax9 27 w)) (hS9.ptr (show lv G 9 w from hwG) (by decide) (by decide) rfl) ?_
      refine V.eq (S' := S9) (ls' := [some (.ref (ax9 5 e)), some (.ref (ax9 9 w)), some (va_rf (opA (mx ax9 ay9) (cd))), some (.int (nI (k)))]) (st' := [.ref (ax9 27 w), .int (nI (k))]) rfl rfl rfl ?_
      refine V.alen h 27 (hS9.mem (show lv G 27 w from hwG)) (hS9.knd (show lv G 27 w from hwG)) (by decide) (M := tf G 2 * tf G 3) (hS9.len (show lv G 27 w from hwG) (by decide)) (by decide +kernel) ?_
      refine V.icmp_ge h (off := 43) (by decide +kernel) (tgt := 57) (by decide) (fun q => ?_) (fun q => ?_)
      · have q14_34 := ((nI_leI (by omega) (by omega)).mp q)
        clear q
        exact V.vret h hA hr (hp _ _ _ hx9 (by rw [show tf A 2 * tf A 3 = k from by omega, ← hG]; exact hS9)) (by decide +kernel) (by omega) (by omega)
      · have q14_34 : ¬ _ := (fun z => q ((nI_leI (by omega) (by omega)).mpr z))
        clear q
        by_cases hcd17 : cd = 0
        · skip
          refine V.eqL (ls' := [some (.ref (ax9 5 e)), some (.ref (ax9 9 w)), some (.null), some (.int (nI (k)))]) (by rw [hcd17]; rfl) ?_
          refine V.blk h [(.aload_n 2, 1)] (by decide +kernel) (pc' := 18) (ls' := [some (.ref (ax9 5 e)), some (.ref (ax9 9 w)), some (.null), some (.int (nI (k)))]) (st' := [.null]) rfl rfl (Nat.le_of_ble_eq_true rfl) ?_
          refine V.ifnull h (o := none) (off := 39) (by decide +kernel) (tgt := 57) (by decide) (fun _ => ?_) (fun _ z => by cases z)
          exact V.vret h hA hr (hp _ _ _ hx9 (by rw [trL_stay (k := k) (by rw [← hcd]; exact hcd17) _ (by omega), ← hG]; exact hS9)) (by decide +kernel) (by omega) (by omega)
        · skip
          refine V.eqL (ls' := [some (.ref (ax9 5 e)), some (.ref (ax9 9 w)), some (.ref (ax9 6 (cd - 1))), some (.int (nI (k)))]) (by rw [opA_n hcd17]; rfl) ?_
          have hcd13 : cd - 1 < tf G 13 := by omega
          have hple9 := placeF_le G e (cd - 1)
          have hb26 := nbG.2 26 e
          refine V.blk h [(.aload_n 2, 1)] (by decide +kernel) (pc' := 18) (ls' := [some (.ref (ax9 5 e)), some (.ref (ax9 9 w)), some (.ref (ax9 6 (cd - 1))), some (.int (nI (k)))]) (st' := [.ref (ax9 6 (cd - 1))]) rfl rfl (Nat.le_of_ble_eq_true rfl) ?_
          refine V.ifnull h (o := (some (ax9 6 (cd - 1)))) (off := 39) (by decide +kernel) (tgt := 57) (by decide) (fun z => by cases z) (fun _ _ => ?_)
          refine V.blk h [(.aload_n 0, 1), (.aload_n 2, 1)] (by decide +kernel) (pc' := 23) (ls' := [some (.ref (ax9 5 e)), some (.ref (ax9 9 w)), some (.ref (ax9 6 (cd - 1))), some (.int (nI (k)))]) (st' := [.ref (ax9 6 (cd - 1)), .ref (ax9 5 e)]) rfl rfl (Nat.le_of_ble_eq_true rfl) ?_
          refine V.callV h (np := 1) (st := []) (c_placeOf hls hS9 (e := e) (op := cd - 1) heG hcd13 hLG nbG (by omega) (post := fun v S7 => v = some (.int (oI (placeF G e (cd - 1)))) ∧ S9 = S7) ⟨rfl, rfl⟩) wc_X5_placeOf wn_RX5 (Or.inl wm_RX5_86) wi_X5_placeOf we_X5_placeOf (by decide +kernel) rfl cls_5 (hS9.mem (show lv G 5 e from heG)) (hS9.knd (show lv G 5 e from heG)) (Nat.le_of_ble_eq_true rfl) (Nat.le_of_ble_eq_true rfl) (by show (2 * k) + 0 ≤ 32; omega) (by show (902 * k) + 0 ≤ 14432; omega) (by simp [Value.category]) (by decide +kernel) rfl (fun v Z2 q9 => ?_)
          obtain ⟨rfl, hS9⟩ := q9
          subst hS9
          refine V.eq (S' := S9) (ls' := [some (.ref (ax9 5 e)), some (.ref (ax9 9 w)), some (.ref (ax9 6 (cd - 1))), some (.int (nI (k)))]) (st' := [.int (oI (placeF G e (cd - 1)))]) rfl rfl rfl ?_
          refine V.m1 h (by decide +kernel) (Nat.le_of_ble_eq_true rfl) ?_
          refine V.icmp_ne h (off := 18) (by decide +kernel) (tgt := 45) (by decide) (fun q => ?_) (fun q => ?_)
          · have q27_59 : ¬ _ := (fun z => q ((oI_eq (by omega) (by omega)).mpr z))
            clear q
            have hT : RA tc (mx ax9 ay9) (trA e (G, cd)) S9 := by unfold trA; show RA tc _ (if placeF G e (cd - 1) = 0 ∧ hgF G e (cd - 1) (tn G 26 e) = false then apC G e (cd - 1) false else G) _; rw [if_neg (by intro z; first | omega | exact absurd (z.2.symm.trans q27_59) (by decide))]; exact hS9
            have hcs : cd = cd - 1 + 1 := by omega
            have hI := trA_I (e := e) (c := cd - 1) (⟨q1, q2, q3, hLG, nbG⟩ : trI A (K + k) e G) (by omega) (by omega)
            rw [← hcs] at hI
            obtain ⟨T, hTT⟩ : ∃ X9 : TS, X9 = trA e (G, cd) := ⟨_, rfl⟩
            rw [← hTT] at hT hI
            have t38 := hI.1 38
            have t13 := hI.1 13
            have heT : e < tf T 38 := by omega
            have hwT : w < tf T 1 := by rw [hI.1]; exact hw
            have nbT := hI.2.2.2.2
            refine V.blk h [(.aload_n 1, 1), (.aload_n 2, 1)] (by decide +kernel) (pc' := 47) (ls' := [some (.ref (ax9 5 e)), some (.ref (ax9 9 w)), some (.ref (ax9 6 (cd - 1))), some (.int (nI (k)))]) (st' := [.ref (ax9 6 (cd - 1)), .ref (ax9 9 w)]) rfl rfl (Nat.le_of_ble_eq_true rfl) ?_
            refine V.callV h (np := 1) (st := []) (c_recordBehindS hls hT (w := w) (lo := cd) hwT hcd17 (by omega) nbT (by omega) (post := fun v S7 => v = some (va_rf (opA (mx ax9 ay9) (nbF T w cd (tf T 2 * tf T 3)))) ∧ S9 = S7) ⟨rfl, rfl⟩) wc_X9_recordBehind wn_RX9 (Or.inr ⟨_, wm_RX5_76⟩) wi_X9_recordBehind we_X9_recordBehind (by decide +kernel) rfl cls_9 (hT.mem (show lv T 9 w from hwT)) (hT.knd (show lv T 9 w from hwT)) (Nat.le_of_ble_eq_true rfl) (Nat.le_of_ble_eq_true rfl) (by show (2 * k) + 0 ≤ 32; omega) (by show (902 * k) + 0 ≤ 14432; omega) (by simp [Value.category]) (by decide +kernel) rfl (fun v Z3 q9 => ?_)
            obtain ⟨rfl, hS9⟩ := q9
            subst hS9
            refine V.eq (S' := S9) (ls' := [some (.ref (ax9 5 e)), some (.ref (ax9 9 w)), some (.ref (ax9 6 (cd - 1))), some (.int (nI (k)))]) (st' := [va_rf (opA (mx ax9 ay9) (nbF T w cd (tf T 2 * tf T 3)))]) rfl rfl rfl ?_
            refine V.astq h (o := opA (mx ax9 ay9) (nbF T w cd (tf T 2 * tf T 3))) (x := 2) (by decide +kernel) (Nat.le_of_ble_eq_true rfl) (Nat.le_of_ble_eq_true rfl) ?_
            refine V.eqL (ls' := [some (.ref (ax9 5 e)), some (.ref (ax9 9 w)), some (va_rf (opA (mx ax9 ay9) (nbF T w cd (tf T 2 * tf T 3)))), some (.int (nI (k)))]) rfl ?_
            refine V.incN h (x := k) (i := 3) (by decide +kernel) rfl (Nat.le_of_ble_eq_true rfl) ?_
            refine V.eqL (ls' := [some (.ref (ax9 5 e)), some (.ref (ax9 9 w)), some (va_rf (opA (mx ax9 ay9) (nbF T w cd (tf T 2 * tf T 3)))), some (.int (nI (k + 1)))]) rfl ?_
            refine V.goto h (off := -46) (tgt := 8) (by decide +kernel) (by decide) ?_
            refine V.eqL (ls' := [some (.ref (ax 5 e)), some (.ref (ax 9 w)), some (va_rf (opA (mx ax ay) ((trL A e w ((k + 1))).2))), some (.int (nI ((k + 1))))]) (by rw [show (trL A e w (k + 1)).2 = nbF T w cd (tf T 2 * tf T 3) from by show (trS e w (trL A e w k)).2 = _; unfold trS; rw [← hcd, if_neg hcd17]; show nbF (trA e (trL A e w k)) w cd (tf (trA e (trL A e w k)) 2 * tf (trA e (trL A e w k)) 3) = _; rw [show trL A e w k = (G, cd) from Prod.ext hG.symm hcd.symm, ← hTT], opA_ax (ay := ay) (hx9 6 (by decide))]; simp only [hx9 5 (by decide), hx9 9 (by decide)]) ?_
            refine V.widen (k' := 2 * (k + 1)) (n' := 902 * (k + 1)) (by omega) (by omega) ?_
            exact ih8 ((tf A 2 * tf A 3) - (k + 1)) (by omega) (k + 1) S9 ay9 ax9 hx9 (by show RA tc _ (trS e w (trL A e w k)).1 _; unfold trS; rw [← hcd, if_neg hcd17]; show RA tc _ (trA e (trL A e w k)) _; rw [show trL A e w k = (G, cd) from Prod.ext hG.symm hcd.symm, ← hTT]; exact hT) rfl (by omega)
          · have q27_59 := ((oI_eq (by omega) (by omega)).mp q)
            clear q
            refine V.blk h [(.aload_n 0, 1), (.aload_n 2, 1)] (by decide +kernel) (pc' := 32) (ls' := [some (.ref (ax9 5 e)), some (.ref (ax9 9 w)), some (.ref (ax9 6 (cd - 1))), some (.int (nI (k)))]) (st' := [.ref (ax9 6 (cd - 1)), .ref (ax9 5 e)]) rfl rfl (Nat.le_of_ble_eq_true rfl) ?_
            refine V.callV h (np := 1) (st := []) (c_hasLater hls hS9 (e := e) (op := cd - 1) heG hcd13 nbG (by omega) (post := fun v S7 => v = some (.int (bI (hgF G e (cd - 1) (tn G 26 e)))) ∧ S9 = S7) ⟨rfl, rfl⟩) wc_X5_hasLaterOneThan wn_RX5 (Or.inl wm_RX5_90) wi_X5_hasLaterOneThan we_X5_hasLaterOneThan (by decide +kernel) rfl cls_5 (hS9.mem (show lv G 5 e from heG)) (hS9.knd (show lv G 5 e from heG)) (Nat.le_of_ble_eq_true rfl) (Nat.le_of_ble_eq_true rfl) (by show (2 * k) + 0 ≤ 32; omega) (by show (902 * k) + 0 ≤ 14432; omega) (by simp [Value.category]) (by decide +kernel) rfl (fun v Z4 q9 => ?_)
            obtain ⟨rfl, hS9⟩ := q9
            subst hS9
            refine V.eq (S' := S9) (ls' := [some (.ref (ax9 5 e)), some (.ref (ax9 9 w)), some (.ref (ax9 6 (cd - 1))), some (.int (nI (k)))]) (st' := [.int (bI (hgF G e (cd - 1) (tn G 26 e)))]) rfl rfl rfl ?_
            refine V.if_ne h (off := 10) (by decide +kernel) (tgt := 45) (by decide) (fun q => ?_) (fun q => ?_)
            · have q35_93 := (bI_1 (fun z => q (bI_0.mpr z)))
              clear q
              have hT : RA tc (mx ax9 ay9) (trA e (G, cd)) S9 := by unfold trA; show RA tc _ (if placeF G e (cd - 1) = 0 ∧ hgF G e (cd - 1) (tn G 26 e) = false then apC G e (cd - 1) false else G) _; rw [if_neg (by intro z; first | omega | exact absurd (z.2.symm.trans q35_93) (by decide))]; exact hS9
              have hcs : cd = cd - 1 + 1 := by omega
              have hI := trA_I (e := e) (c := cd - 1) (⟨q1, q2, q3, hLG, nbG⟩ : trI A (K + k) e G) (by omega) (by omega)
              rw [← hcs] at hI
              obtain ⟨T, hTT⟩ : ∃ X9 : TS, X9 = trA e (G, cd) := ⟨_, rfl⟩
              rw [← hTT] at hT hI
              have t38 := hI.1 38
              have t13 := hI.1 13
              have heT : e < tf T 38 := by omega
              have hwT : w < tf T 1 := by rw [hI.1]; exact hw
              have nbT := hI.2.2.2.2
              refine V.blk h [(.aload_n 1, 1), (.aload_n 2, 1)] (by decide +kernel) (pc' := 47) (ls' := [some (.ref (ax9 5 e)), some (.ref (ax9 9 w)), some (.ref (ax9 6 (cd - 1))), some (.int (nI (k)))]) (st' := [.ref (ax9 6 (cd - 1)), .ref (ax9 9 w)]) rfl rfl (Nat.le_of_ble_eq_true rfl) ?_
              refine V.callV h (np := 1) (st := []) (c_recordBehindS hls hT (w := w) (lo := cd) hwT hcd17 (by omega) nbT (by omega) (post := fun v S7 => v = some (va_rf (opA (mx ax9 ay9) (nbF T w cd (tf T 2 * tf T 3)))) ∧ S9 = S7) ⟨rfl, rfl⟩) wc_X9_recordBehind wn_RX9 (Or.inr ⟨_, wm_RX5_76⟩) wi_X9_recordBehind we_X9_recordBehind (by decide +kernel) rfl cls_9 (hT.mem (show lv T 9 w from hwT)) (hT.knd (show lv T 9 w from hwT)) (Nat.le_of_ble_eq_true rfl) (Nat.le_of_ble_eq_true rfl) (by show (2 * k) + 0 ≤ 32; omega) (by show (902 * k) + 0 ≤ 14432; omega) (by simp [Value.category]) (by decide +kernel) rfl (fun v Z5 q9 => ?_)
              obtain ⟨rfl, hS9⟩ := q9
              subst hS9
              refine V.eq (S' := S9) (ls' := [some (.ref (ax9 5 e)), some (.ref (ax9 9 w)), some (.ref (ax9 6 (cd - 1))), some (.int (nI (k)))]) (st' := [va_rf (opA (mx ax9 ay9) (nbF T w cd (tf T 2 * tf T 3)))]) rfl rfl rfl ?_
              refine V.astq h (o := opA (mx ax9 ay9) (nbF T w cd (tf T 2 * tf T 3))) (x := 2) (by decide +kernel) (Nat.le_of_ble_eq_true rfl) (Nat.le_of_ble_eq_true rfl) ?_
              refine V.eqL (ls' := [some (.ref (ax9 5 e)), some (.ref (ax9 9 w)), some (va_rf (opA (mx ax9 ay9) (nbF T w cd (tf T 2 * tf T 3)))), some (.int (nI (k)))]) rfl ?_
              refine V.incN h (x := k) (i := 3) (by decide +kernel) rfl (Nat.le_of_ble_eq_true rfl) ?_
              refine V.eqL (ls' := [some (.ref (ax9 5 e)), some (.ref (ax9 9 w)), some (va_rf (opA (mx ax9 ay9) (nbF T w cd (tf T 2 * tf T 3)))), some (.int (nI (k + 1)))]) rfl ?_
              refine V.goto h (off := -46) (tgt := 8) (by decide +kernel) (by decide) ?_
              refine V.eqL (ls' := [some (.ref (ax 5 e)), some (.ref (ax 9 w)), some (va_rf (opA (mx ax ay) ((trL A e w ((k + 1))).2))), some (.int (nI ((k + 1))))]) (by rw [show (trL A e w (k + 1)).2 = nbF T w cd (tf T 2 * tf T 3) from by show (trS e w (trL A e w k)).2 = _; unfold trS; rw [← hcd, if_neg hcd17]; show nbF (trA e (trL A e w k)) w cd (tf (trA e (trL A e w k)) 2 * tf (trA e (trL A e w k)) 3) = _; rw [show trL A e w k = (G, cd) from Prod.ext hG.symm hcd.symm, ← hTT], opA_ax (ay := ay) (hx9 6 (by decide))]; simp only [hx9 5 (by decide), hx9 9 (by decide)]) ?_
              refine V.widen (k' := 2 * (k + 1)) (n' := 902 * (k + 1)) (by omega) (by omega) ?_
              exact ih8 ((tf A 2 * tf A 3) - (k + 1)) (by omega) (k + 1) S9 ay9 ax9 hx9 (by show RA tc _ (trS e w (trL A e w k)).1 _; unfold trS; rw [← hcd, if_neg hcd17]; show RA tc _ (trA e (trL A e w k)) _; rw [show trL A e w k = (G, cd) from Prod.ext hG.symm hcd.symm, ← hTT]; exact hT) rfl (by omega)
            · have q35_93 := (bI_0.mp q)
              clear q
              refine V.blk h [(.aload_n 0, 1), (.aload_n 2, 1), (.iconst 0, 1)] (by decide +kernel) (pc' := 41) (ls' := [some (.ref (ax9 5 e)), some (.ref (ax9 9 w)), some (.ref (ax9 6 (cd - 1))), some (.int (nI (k)))]) (st' := [.int (nI (0)), .ref (ax9 6 (cd - 1)), .ref (ax9 5 e)]) rfl rfl (Nat.le_of_ble_eq_true rfl) ?_
              refine V.top (v' := .int (bI false)) (by decide) ?_
              refine V.callV h (np := 2) (st := []) (c_append hls hS9 (e := e) (op := cd - 1) (late := false) (ms := 898) heG hcd13 (by rw [q2 8 _ (by omega) (by omega)]; exact hk16 _) (by have w9 := hLG.room hcd13 (by omega); omega) (fun z => gcap_6 (by have w9 := hLG.room hcd13 (by omega); omega)) (by omega) nbG (by omega) (post := fun v S8 => ∃ ax8 ay8, v = some (.ref (ax8 3 (600 * e + tn G 26 e))) ∧ (∀ g, g ≠ 3 → ax8 g = ax9 g) ∧ (∀ j, ay8 50 j = if j = 3 + e then nxL G e (ay9 50 (3 + e)) else ay9 50 j) ∧ RA tc (mx ax8 ay8) (apC G e (cd - 1) false) S8) (fun S8 ax8 ay8 hx8 hc8 hr8 => ⟨ax8, ay8, rfl, hx8, hc8, hr8⟩)) wc_X5_append wn_RX5 (Or.inl wm_RX5_72) wi_X5_append we_X5_append (by decide +kernel) rfl cls_5 (hS9.mem (show lv G 5 e from heG)) (hS9.knd (show lv G 5 e from heG)) (Nat.le_of_ble_eq_true rfl) (Nat.le_of_ble_eq_true rfl) (by show (2 * k) + 2 ≤ 32; omega) (by show (902 * k) + (4 + 898) ≤ 14432; omega) (by simp [Value.category]) (by decide +kernel) rfl (fun v Z6 q9 => ?_)
              obtain ⟨ax1, ay1, rfl, hx1, hc1, hr1⟩ := q9
              have hxx1 : ∀ g, g ≠ 3 → ax1 g = ax g := fun g z => (hx1 g z).trans (hx9 g z)
              have hce := hc1 (3 + e)
              rw [if_pos rfl] at hce
              refine V.eq (S' := Z6) (ls' := [some (.ref (ax1 5 e)), some (.ref (ax1 9 w)), some (.ref (ax1 6 (cd - 1))), some (.int (nI (k)))]) (st' := [.ref (ax1 3 (600 * e + tn G 26 e))]) rfl (by first | rfl | simp only [hx1 0 (by decide), hx1 5 (by decide), hx1 6 (by decide), hx1 7 (by decide), hx1 9 (by decide), hx1 20 (by decide)]) (by first | rfl | simp only [hx1 0 (by decide), hx1 5 (by decide), hx1 6 (by decide), hx1 7 (by decide), hx1 9 (by decide), hx1 20 (by decide)]) ?_
              refine V.blk h [(.pop, 1)] (by decide +kernel) (pc' := 45) (ls' := [some (.ref (ax1 5 e)), some (.ref (ax1 9 w)), some (.ref (ax1 6 (cd - 1))), some (.int (nI (k)))]) (st' := []) rfl rfl (Nat.le_of_ble_eq_true rfl) ?_
              have hT : RA tc (mx ax1 ay1) (trA e (G, cd)) Z6 := by unfold trA; show RA tc _ (if placeF G e (cd - 1) = 0 ∧ hgF G e (cd - 1) (tn G 26 e) = false then apC G e (cd - 1) false else G) _; rw [if_pos ⟨by omega, by assumption⟩]; exact hr1
              have hcs : cd = cd - 1 + 1 := by omega
              have hI := trA_I (e := e) (c := cd - 1) (⟨q1, q2, q3, hLG, nbG⟩ : trI A (K + k) e G) (by omega) (by omega)
              rw [← hcs] at hI
              obtain ⟨T, hTT⟩ : ∃ X9 : TS, X9 = trA e (G, cd) := ⟨_, rfl⟩
              rw [← hTT] at hT hI
              have t38 := hI.1 38
              have t13 := hI.1 13
              have heT : e < tf T 38 := by omega
              have hwT : w < tf T 1 := by rw [hI.1]; exact hw
              have nbT := hI.2.2.2.2
              refine V.blk h [(.aload_n 1, 1), (.aload_n 2, 1)] (by decide +kernel) (pc' := 47) (ls' := [some (.ref (ax1 5 e)), some (.ref (ax1 9 w)), some (.ref (ax1 6 (cd - 1))), some (.int (nI (k)))]) (st' := [.ref (ax1 6 (cd - 1)), .ref (ax1 9 w)]) rfl rfl (Nat.le_of_ble_eq_true rfl) ?_
              refine V.callV h (np := 1) (st := []) (c_recordBehindS hls hT (w := w) (lo := cd) hwT hcd17 (by omega) nbT (by omega) (post := fun v S7 => v = some (va_rf (opA (mx ax1 ay1) (nbF T w cd (tf T 2 * tf T 3)))) ∧ Z6 = S7) ⟨rfl, rfl⟩) wc_X9_recordBehind wn_RX9 (Or.inr ⟨_, wm_RX5_76⟩) wi_X9_recordBehind we_X9_recordBehind (by decide +kernel) rfl cls_9 (hT.mem (show lv T 9 w from hwT)) (hT.knd (show lv T 9 w from hwT)) (Nat.le_of_ble_eq_true rfl) (Nat.le_of_ble_eq_true rfl) (by show ((2 * k) + 2) + 0 ≤ 32; omega) (by show ((902 * k) + (4 + 898)) + 0 ≤ 14432; omega) (by simp [Value.category]) (by decide +kernel) rfl (fun v Z7 q9 => ?_)
              obtain ⟨rfl, hS9⟩ := q9
              subst hS9
              refine V.eq (S' := Z6) (ls' := [some (.ref (ax1 5 e)), some (.ref (ax1 9 w)), some (.ref (ax1 6 (cd - 1))), some (.int (nI (k)))]) (st' := [va_rf (opA (mx ax1 ay1) (nbF T w cd (tf T 2 * tf T 3)))]) rfl rfl rfl ?_
              refine V.astq h (o := opA (mx ax1 ay1) (nbF T w cd (tf T 2 * tf T 3))) (x := 2) (by decide +kernel) (Nat.le_of_ble_eq_true rfl) (Nat.le_of_ble_eq_true rfl) ?_
              refine V.eqL (ls' := [some (.ref (ax1 5 e)), some (.ref (ax1 9 w)), some (va_rf (opA (mx ax1 ay1) (nbF T w cd (tf T 2 * tf T 3)))), some (.int (nI (k)))]) rfl ?_
              refine V.incN h (x := k) (i := 3) (by decide +kernel) rfl (Nat.le_of_ble_eq_true rfl) ?_
              refine V.eqL (ls' := [some (.ref (ax1 5 e)), some (.ref (ax1 9 w)), some (va_rf (opA (mx ax1 ay1) (nbF T w cd (tf T 2 * tf T 3)))), some (.int (nI (k + 1)))]) rfl ?_
              refine V.goto h (off := -46) (tgt := 8) (by decide +kernel) (by decide) ?_
              refine V.eqL (ls' := [some (.ref (ax 5 e)), some (.ref (ax 9 w)), some (va_rf (opA (mx ax ay) ((trL A e w ((k + 1))).2))), some (.int (nI ((k + 1))))]) (by rw [show (trL A e w (k + 1)).2 = nbF T w cd (tf T 2 * tf T 3) from by show (trS e w (trL A e w k)).2 = _; unfold trS; rw [← hcd, if_neg hcd17]; show nbF (trA e (trL A e w k)) w cd (tf (trA e (trL A e w k)) 2 * tf (trA e (trL A e w k)) 3) = _; rw [show trL A e w k = (G, cd) from Prod.ext hG.symm hcd.symm, ← hTT], opA_ax (ay := ay) (hxx1 6 (by decide))]; simp only [hxx1 5 (by decide), hxx1 9 (by decide)]) ?_
              refine V.widen (k' := 2 * (k + 1)) (n' := 902 * (k + 1)) (by omega) (by omega) ?_
              exact ih8 ((tf A 2 * tf A 3) - (k + 1)) (by omega) (k + 1) Z6 ay1 ax1 hxx1 (by show RA tc _ (trS e w (trL A e w k)).1 _; unfold trS; rw [← hcd, if_neg hcd17]; show RA tc _ (trA e (trL A e w k)) _; rw [show trL A e w k = (G, cd) from Prod.ext hG.symm hcd.symm, ← hTT]; exact hT) rfl (by omega)
  refine V.eqL (ls' := [some (.ref (ax 5 e)), some (.ref (ax 9 w)), some (va_rf (opA (mx ax ay) ((trL A e w 0).2))), some (.int (nI (0)))]) rfl ?_
  refine V.widen (k' := 2 * 0) (n' := 902 * 0) (by omega) (by omega) ?_
  exact loop8 _ 0 S ay ax (fun _ _ => rfl) (hS) rfl (Nat.zero_le _)
