/-! ===== an ACK: both compactions come to the same live rows ===== -/
section
variable {K : Nat} {A B X : TS}
/-- equal but for the rows of waiting gets -/
def EG (X B : TS) : Prop := (∀ j, tf X j = tf B j) ∧ (∀ j i, ¬ (33 ≤ j ∧ j ≤ 36) → tn X j i = tn B j i) ∧ (∀ j i, tr X j i = tr B j i) ∧ (∀ j i, tb X j i = tb B j i)
theorem EG.rfl : EG A A := ⟨fun _ => Eq.refl _, fun _ _ _ => Eq.refl _, fun _ _ => Eq.refl _, fun _ _ => Eq.refl _⟩
theorem EG.sf (h : EG X B) (j v : Nat) : EG (sf X j v) (sf B j v) := ⟨fun x => by rw [tf_sf, tf_sf]; split; exact Eq.refl _; exact h.1 x, h.2.1, h.2.2.1, h.2.2.2⟩
theorem EG.sn (h : EG X B) (j i v : Nat) : EG (sn X j i v) (sn B j i v) := ⟨h.1, fun x y a => by rw [tn_sn, tn_sn]; split; exact Eq.refl _; exact h.2.1 x y a, h.2.2.1, h.2.2.2⟩
theorem EG.sr (h : EG X B) (j i : Nat) (v : Int32) : EG (sr X j i v) (sr B j i v) := ⟨h.1, h.2.1, fun x y => by rw [tr_sr, tr_sr]; split; exact Eq.refl _; exact h.2.2.1 x y, h.2.2.2⟩
theorem EG.sb (h : EG X B) (j i : Nat) (v : Bool) : EG (sb X j i v) (sb B j i v) := ⟨h.1, h.2.1, h.2.2.1, fun x y => by rw [tb_sb, tb_sb]; split; exact Eq.refl _; exact h.2.2.2 x y⟩
theorem EG.og (h : EG X B) {j i v : Nat} (hj : 33 ≤ j ∧ j ≤ 36) : EG (_root_.Jvm.Pilot.COneTripLaw_law_r7449_bb9836.sn X j i v) B := ⟨h.1, fun x y a => by rw [tn_sn, if_neg (by omega)]; exact h.2.1 x y a, h.2.2.1, h.2.2.2⟩
theorem EG.send (h : EG X B) (so e to op n c : Nat) (v : Int32) (b : Bool) : EG (sendF X so e to op n c v b) (sendF B so e to op n c v b) := by
  have e53 := h.1 53
  have e54 := h.1 54
  unfold sendF
  rw [e53, e54]
  split
  · exact h.sf _ _
  · exact ((((((((h.sn _ _ _).sn _ _ _).sn _ _ _).sn _ _ _).sn _ _ _).sn _ _ _).sr _ _ _).sb _ _ _).sf _ _
theorem EG.ans (h : EG X B) (e op : Nat) (v : Int32) (b : Bool) : EG (ansF X e op v b) (ansF B e op v b) := by
  unfold ansF
  rw [h.2.1 5 op (by decide), h.2.1 6 op (by decide)]
  exact h.send _ _ _ _ _ _ _ _
theorem cnG_same {e : Nat} (h : ∀ k, rdF B e (600 * e + k) = rdF A e (600 * e + k)) : ∀ n, cnG B e n = cnG A e n
  | 0 => rfl
  | n + 1 => by unfold cnG; rw [h, cnG_same h n]
theorem agP_rd {e k : Nat} (i : Nat) : rdF (agP A e k) e i = rdF A e i := by
  have h := agP_keep A e k
  exact rdF_same (h.1 1 (by decide) (by decide)) (h.2.1 28 e (by decide)) (h.2.1 34 i (by decide)) (h.2.1 36 i (by decide))
theorem INV.agP {e : Nat} (h : INV K A) (he : e < tf A 38) : ∀ k, k ≤ tn A 37 e → INV (K + k) (agP A e k)
  | 0, _ => h
  | k + 1, hk => by
    have ih := INV.agP h he k (by omega)
    have d := (agP_keep A e k).df
    have ho := ((h.2.2.2.2.2.2.1.2.2 e he).1 k (by omega)).1
    unfold _root_.Jvm.Pilot.COneTripLaw_law_r7449_bb9836.agP
    split
    · refine ih.ans (by rw [d.1 38 (by decide)]; exact he) ?_
      rw [d.2.1 33 (by decide) (by decide), d.1 13 (by decide)]
      exact ho
    · exact ih.mono (by omega)
/-- the reference's side -/
theorem agL_row {e : Nat} (hv : ∀ k, k < tn A 37 e → tr A 2 (600 * e + k) = vaF A e (tn A 8 (tn A 33 (600 * e + k))) (tn A 34 (600 * e + k))) : ∀ k, k ≤ tn A 37 e → (agL A e k).2 = cnG A e k ∧ EG (agL A e k).1 (agP A e k) ∧
    (∀ x i, 33 ≤ x → x ≤ 36 → i < k → rdF A e (600 * e + i) = false → tn (agL A e k).1 x (600 * e + cnG A e i) = tn A x (600 * e + i)) ∧
    (∀ x i, 33 ≤ x → x ≤ 36 → i < 600 * e ∨ 600 * e + cnG A e k ≤ i → tn (agL A e k).1 x i = tn A x i)
  | 0, _ => ⟨rfl, EG.rfl, fun x i _ _ z => absurd z (Nat.not_lt_zero _), fun _ _ _ _ _ => rfl⟩
  | k + 1, hk => by
    obtain ⟨p1, p2, p3, p4⟩ := agL_row hv k (by omega)
    have hP := agP_keep A e k
    have hc := cnG_le A e k
    have e1 : cnG A e (k + 1) = if rdF A e (600 * e + k) = true then cnG A e k else cnG A e k + 1 := rfl
    have e2 : agP A e (k + 1) = if rdF (agP A e k) e (600 * e + k) = true then ansF (agP A e k) e (tn (agP A e k) 33 (600 * e + k)) (tr (agP A e k) 2 (600 * e + k)) true else agP A e k := rfl
    rw [agP_rd] at e2
    have v := hv k (by omega)
    have r33 := p4 33 (600 * e + k) (by decide) (by decide) (by omega)
    have r34 := p4 34 (600 * e + k) (by decide) (by decide) (by omega)
    have r35 := p4 35 (600 * e + k) (by decide) (by decide) (by omega)
    have r36 := p4 36 (600 * e + k) (by decide) (by decide) (by omega)
    have gt : ∀ j, j ≠ 53 → j ≠ 54 → tf (agL A e k).1 j = tf A j := fun j a b => (p2.1 j).trans (hP.1 j a b)
    have gn : ∀ j i, j < 45 → ¬ (33 ≤ j ∧ j ≤ 36) → tn (agL A e k).1 j i = tn A j i := fun j i a b => (p2.2.1 j i b).trans (hP.2.1 j i a)
    have gv : ∀ ky m, vaF (agL A e k).1 e ky m = vaF A e ky m := fun ky m => vaF_same (fun i => gn 22 i (by decide) (by decide)) (fun i => gn 7 i (by decide) (by decide)) (fun i => gn 8 i (by decide) (by decide)) (fun i => (p2.2.2.1 9 i).trans (hP.2.2.1 9 i (by decide))) e ky m
    have cond : (tn (agL A e k).1 36 (600 * e + k) = 2 ^ tf (agL A e k).1 1 - 1 ∧ tn (agL A e k).1 34 (600 * e + k) ≤ tn (agL A e k).1 28 e) ↔ rdF A e (600 * e + k) = true := by
      unfold rdF
      rw [decide_eq_true_iff, r36, r34, gt 1 (by decide) (by decide), gn 28 e (by decide) (by decide)]
    show (agS e k (agL A e k)).2 = _ ∧ EG (agS e k (agL A e k)).1 _ ∧ (∀ x i, 33 ≤ x → x ≤ 36 → i < k + 1 → _ → tn (agS e k (agL A e k)).1 x _ = _) ∧ (∀ x i, 33 ≤ x → x ≤ 36 → _ → tn (agS e k (agL A e k)).1 x i = _)
    unfold agS
    by_cases z : rdF A e (600 * e + k) = true
    · rw [if_pos (cond.mpr z)]
      rw [if_pos z] at e1 e2
      rw [e1, e2]
      refine ⟨p1, ?_, fun x i a b hi hr => ?_, fun x i a b hi => ?_⟩
      · rw [r33, r34, gn 8 _ (by decide) (by decide), gv, ← v, hP.2.1 33 _ (by decide), hP.2.2.1 2 _ (by decide)]
        exact p2.ans _ _ _ _
      · have hik : i ≠ k := fun y => by rw [y, z] at hr; cases hr
        show tn (ansF _ _ _ _ _) x _ = _
        rw [(ans_keep ..).2.1 x _ (by omega)]
        exact p3 x i a b (by omega) hr
      · show tn (ansF _ _ _ _ _) x _ = _
        rw [(ans_keep ..).2.1 x _ (by omega)]
        exact p4 x i a b hi
    · rw [if_neg (fun y => z (cond.mp y))]
      rw [if_neg z] at e1 e2
      rw [e1, e2]
      have w : ∀ x i, 33 ≤ x → x ≤ 36 → tn (sn (sn (sn (sn (agL A e k).1 33 (600 * e + (agL A e k).2) (tn (agL A e k).1 33 (600 * e + k))) 34 (600 * e + (agL A e k).2) (tn (agL A e k).1 34 (600 * e + k))) 35 (600 * e + (agL A e k).2) (tn (agL A e k).1 35 (600 * e + k))) 36 (600 * e + (agL A e k).2) (tn (agL A e k).1 36 (600 * e + k))) x i = if i = 600 * e + cnG A e k then tn A x (600 * e + k) else tn (agL A e k).1 x i := fun x i a b => by
        rw [p1, r33, r34, r35, r36]
        simp only [tn_sn]
        by_cases y : i = 600 * e + cnG A e k
        · rw [if_pos y]
          obtain h | h | h | h : x = 33 ∨ x = 34 ∨ x = 35 ∨ x = 36 := by omega
          all_goals subst h; subst y; simp
        · rw [if_neg y, if_neg (fun t => y t.2), if_neg (fun t => y t.2), if_neg (fun t => y t.2), if_neg (fun t => y t.2)]
      refine ⟨by rw [← p1], ((((p2.og (by decide)).og (by decide)).og (by decide)).og (by decide)), fun x i a b hi hr => ?_, fun x i a b hi => ?_⟩
      · rw [w x _ a b]
        by_cases y : i = k
        · subst y
          rw [if_pos rfl]
        · have := cnG_lt (show i < k by omega) hr
          rw [if_neg (by omega)]
          exact p3 x i a b (by omega) hr
      · rw [w x _ a b, if_neg (by omega)]
        exact p4 x i a b (by omega)
set_option maxHeartbeats 1600000 in
/-- both sides -/
theorem ag_both {e : Nat} (h : INV K A) (he : e < tf A 38) : AG (mrg (agF A e) (agC A e)) (agC A e) ∧ INV (K + 600) (mrg (agF A e) (agC A e)) := by
  have hg := h.2.2.2.2.2.2.1
  have h37 := hg.le he
  have h13 := h.1.2.2.2.2.1
  have hP := h.agP he (tn A 37 e) (Nat.le_refl _)
  have hk := agP_keep A e (tn A 37 e)
  obtain ⟨l1, l2, l3, l4⟩ := agL_row (fun k hk => ((hg.2.2 e he).1 k hk).2.2) (tn A 37 e) (Nat.le_refl _)
  have lnb := agL_NB (e := e) h.nb h.k7 (by have := h.1.2.2.2.1; omega) (agL_op (e := e) hg.1) (tn A 37 e)
  have q37 : tn A 37 e = tn (agP A e (tn A 37 e)) 37 e := (hk.2.1 37 e (by decide)).symm
  obtain ⟨c1, c2, c3, c4, c5, c6, c7, c8, c9, c10⟩ := agQ_row (W := agP A e (tn A 37 e)) (n := tn A 37 e) q37 (by omega) (tn A 37 e) (Nat.le_refl _)
  have cnb := agQ_NB (e := e) (n := tn A 37 e) hP.nb (tn A 37 e)
  have cs : ∀ n, cnG (agP A e (tn A 37 e)) e n = cnG A e n := fun n => cnG_same (fun k => agP_rd _) n
  simp only [cs, agP_rd, Nat.sub_self, Nat.zero_add] at c6 c7 c8 c9 c10
  rw [show cnG A e 0 = 0 from rfl] at c6 c9 c10
  simp only [Nat.sub_zero, Nat.add_zero] at c6 c9 c10
  have hcn := cnG_le A e (tn A 37 e)
  -- the merged state's rows
  obtain ⟨G, hG⟩ : ∃ G, G = agL A e (tn A 37 e) := ⟨_, rfl⟩
  obtain ⟨W, hW⟩ : ∃ W, W = agP A e (tn A 37 e) := ⟨_, rfl⟩
  obtain ⟨C, hC⟩ : ∃ C, C = agC A e := ⟨_, rfl⟩
  have hX : agF A e = sn G.1 37 e G.2 := by rw [hG]; rfl
  have hC' : agQ (agP A e (tn A 37 e)) e (tn A 37 e) (tn A 37 e) = C := by rw [hC]; rfl
  rw [hC'] at c1 c2 c3 c4 c5 c6 c7 c8 c9 c10 cnb
  rw [← hG] at l1 l2 l3 l4 lnb
  rw [← hW] at hP hk l2 c1 c2 c3 c4 c5 c7 c8 c9 c10
  rw [hX, ← hC]
  have m1 : ∀ j, tf (mrg (sn G.1 37 e G.2) C) j = tf W j := fun j => by
    rw [mrg_tf]
    split
    · exact c1 j
    · exact l2.1 j
  have m2 : ∀ j i, ¬ (33 ≤ j ∧ j ≤ 37) → tn (mrg (sn G.1 37 e G.2) C) j i = tn W j i := fun j i a => by
    rw [mrg_tn]
    split
    · exact c2 j i a
    · rw [tn_sn, if_neg (by omega)]
      exact l2.2.1 j i (by omega)
  have m3 : ∀ i, tn (mrg (sn G.1 37 e G.2) C) 37 i = if i = e then cnG A e (tn A 37 e) else tn W 37 i := fun i => by
    rw [mrg_tn, if_neg (by omega), tn_sn]
    by_cases y : i = e
    · rw [if_pos ⟨rfl, y⟩, if_pos y, l1]
    · rw [if_neg (fun t => y t.2), if_neg y]
      exact l2.2.1 37 i (by decide)
  have m4 : ∀ j i, 33 ≤ j → j ≤ 36 → tn (mrg (sn G.1 37 e G.2) C) j i = tn G.1 j i := fun j i a b => by
    rw [mrg_tn, if_neg (by omega), tn_sn, if_neg (by omega)]
  have m5 : ∀ j i, j ≠ 2 → tr (mrg (sn G.1 37 e G.2) C) j i = tr W j i := fun j i a => by
    rw [mrg_tr]
    split
    · exact c3 j i a
    · exact l2.2.2.1 j i
  have m6 : ∀ i, tr (mrg (sn G.1 37 e G.2) C) 2 i = tr C 2 i := fun i => by
    rw [mrg_tr, if_pos (by decide)]
  have m7 : ∀ j i, tb (mrg (sn G.1 37 e G.2) C) j i = tb W j i := fun j i => l2.2.2.2 j i
  have mnb : NB (K + 600) (mrg (sn G.1 37 e G.2) C) := by
    refine ⟨fun j => by rw [m1]; exact Nat.le_trans (hP.nb.1 j) (by omega), fun j i => ?_⟩
    rw [mrg_tn]
    split
    · exact Nat.le_trans (cnb.2 j i) (by omega)
    · rw [tn_sn]
      split
      · omega
      · exact Nat.le_trans (lnb.2 j i) (by omega)
  -- rows of waiting gets, all
  have ex : ∀ i, (i < 600 * e ∨ 600 * e + cnG A e (tn A 37 e) ≤ i) ∨ ∃ k, k < tn A 37 e ∧ rdF A e (600 * e + k) = false ∧ i = 600 * e + cnG A e k := fun i => by
    by_cases y : i < 600 * e ∨ 600 * e + cnG A e (tn A 37 e) ≤ i
    · exact Or.inl y
    · obtain ⟨k, a, b, c⟩ := cnG_ex (e := e) A (tn A 37 e) (i - 600 * e) (by omega)
      exact Or.inr ⟨k, a, b, by omega⟩
  generalize hM : mrg (sn G.1 37 e G.2) C = M at *
  have t33 : ∀ i, ∃ i', ∀ j, 33 ≤ j → j ≤ 36 → tn M j i = tn A j i' := fun i => by
    rcases ex i with y | ⟨k, a, b, c⟩
    · exact ⟨i, fun j p q => by rw [m4 j i p q]; exact l4 j i p q y⟩
    · exact ⟨600 * e + k, fun j p q => by rw [m4 j i p q, c]; exact l3 j k p q a b⟩
  constructor
  · refine ⟨fun j _ => (m1 j).trans (c1 j).symm, fun x hx => ?_, fun i hi => ?_, fun i hi => ?_, fun i hi => ?_, fun x k hx hk2 hk3 => ?_, fun i hi => ?_, fun x k hx hk2 hk3 => ?_⟩
    · refine ⟨by rw [m2 26 x (by decide), c2 26 x (by decide)], ?_, by rw [m2 27 x (by decide), c2 27 x (by decide)], by rw [m2 28 x (by decide), c2 28 x (by decide)], by rw [m2 29 x (by decide), c2 29 x (by decide)], by rw [m7, c4], by rw [m7, c4], fun k _ => by rw [m2 32 _ (by decide), c2 32 _ (by decide)], fun k _ => by rw [m5 3 _ (by decide), c3 3 _ (by decide)]⟩
      rw [m3]
      split
      · rename_i y; rw [y, c6]
      · rename_i y; exact (c5 x y).symm
    · exact ⟨by rw [m2 39 i (by decide), c2 39 i (by decide)], by rw [m2 40 i (by decide), c2 40 i (by decide)], by rw [m2 41 i (by decide), c2 41 i (by decide)], by rw [m7, c4], fun k _ => by rw [m2 1 _ (by decide), c2 1 _ (by decide)]⟩
    · exact ⟨by rw [m2 16 i (by decide), c2 16 i (by decide)], by rw [m2 17 i (by decide), c2 17 i (by decide)], by rw [m2 18 i (by decide), c2 18 i (by decide)], by rw [m2 21 i (by decide), c2 21 i (by decide)], by rw [m7, c4], by rw [m5 1 _ (by decide), c3 1 _ (by decide)]⟩
    · exact ⟨by rw [m2 5 i (by decide), c2 5 i (by decide)], by rw [m2 6 i (by decide), c2 6 i (by decide)], by rw [m2 7 i (by decide), c2 7 i (by decide)], by rw [m2 8 i (by decide), c2 8 i (by decide)], by rw [m2 10 i (by decide), c2 10 i (by decide)], by rw [m2 11 i (by decide), c2 11 i (by decide)], by rw [m5 9 _ (by decide), c3 9 _ (by decide)], by rw [m5 12 _ (by decide), c3 12 _ (by decide)]⟩
    · exact ⟨by rw [m2 22 _ (by decide), c2 22 _ (by decide)], by rw [m5 23 _ (by decide), c3 23 _ (by decide)], by rw [m7, c4], by rw [m7, c4]⟩
    · exact ⟨fun j a b => by rw [m2 j i (by omega), c2 j i (by omega)], by rw [m5 51 _ (by decide), c3 51 _ (by decide)], by rw [m7, c4]⟩
    · by_cases y : x = e
      · rw [y] at hk2 ⊢
        rw [c6] at hk2
        obtain ⟨i, a, b, c⟩ := cnG_ex A (tn A 37 e) k hk2
        have key : ∀ j, 33 ≤ j → j ≤ 36 → tn M j (600 * e + k) = tn C j (600 * e + k) := fun j p q => by
          rw [m4 j _ p q, ← c, l3 j i p q a b, c9 j i p q (Nat.zero_le _) a b, hk.2.1 j _ (by omega)]
        exact ⟨key 33 (by decide) (by decide), key 34 (by decide) (by decide), key 35 (by decide) (by decide), key 36 (by decide) (by decide), m6 _⟩
      · have key : ∀ j, 33 ≤ j → j ≤ 36 → tn M j (600 * x + k) = tn C j (600 * x + k) := fun j p q => by
          rw [m4 j _ p q, l4 j _ p q (by omega), c7 j _ p q (by omega), hk.2.1 j _ (by omega)]
        exact ⟨key 33 (by decide) (by decide), key 34 (by decide) (by decide), key 35 (by decide) (by decide), key 36 (by decide) (by decide), m6 _⟩
  · have d : df M W [] [33, 34, 35, 36, 37] [2] [] := ⟨fun j _ => m1 j, fun j _ hj i => by
      simp only [List.mem_cons, List.not_mem_nil, or_false, not_or] at hj
      exact m2 j i (by omega), fun j _ hj i => by
      simp only [List.mem_cons, List.not_mem_nil, or_false, not_or] at hj
      exact m5 j i hj, fun j _ _ i => m7 j i⟩
    have hsl : sl M W := ⟨m1 53, fun j a b i => m2 j i (by omega)⟩
    have f1 : tf M 1 = tf A 1 := (m1 1).trans (hk.1 1 (by decide) (by decide))
    have f13 : tf M 13 = tf A 13 := (m1 13).trans (hk.1 13 (by decide) (by decide))
    have f38 : tf M 38 = tf A 38 := (m1 38).trans (hk.1 38 (by decide) (by decide))
    have n26 : ∀ i, tn M 26 i = tn A 26 i := fun i => (m2 26 i (by decide)).trans (hk.2.1 26 i (by decide))
    have n8 : ∀ i, tn M 8 i = tn A 8 i := fun i => (m2 8 i (by decide)).trans (hk.2.1 8 i (by decide))
    have hv : ∀ x ky n, vaF M x ky n = vaF A x ky n := fun x ky n => vaF_same (fun i => (m2 22 i (by decide)).trans (hk.2.1 22 i (by decide))) (fun i => (m2 7 i (by decide)).trans (hk.2.1 7 i (by decide))) n8 (fun i => (m5 9 i (by decide)).trans (hk.2.2.1 9 i (by decide))) x ky n
    have hk37 : ∀ i, tn W 37 i = tn A 37 i := fun i => hk.2.1 37 i (by decide)
    have hk2 : ∀ i, tr W 2 i = tr A 2 i := fun i => hk.2.2.1 2 i (by decide)
    clear hG hW hC hX hC' l1 lnb cnb hM
    obtain ⟨h1, h2, h3, h4, h5, h6, h7, h8, h9, h10, h11, h12, h13, h14, h15⟩ := hP
    refine ⟨h1.df d (by decide) (by rw [(d).1 53 (by decide)]; exact h1.2.2.2.2.2.1), h2.df d (by decide) (by decide) (by decide), h3.df d (by decide) (by decide), h4.df d (by decide) (by decide), h5.df d (by decide) (by decide) (by decide), h6.df d (by decide) (by decide) (by decide), ?_, h8.df d (by decide) (by decide), h9.df d (by decide) (by decide), h10.df d (by decide) (by decide) hsl, ?_, h12.df d (by decide) (by decide), h13.df d (by decide) (by decide), mnb, by omega⟩
    · refine ⟨fun i => ?_, fun i => ?_, fun x hx => ?_⟩
      · obtain ⟨i', hi'⟩ := t33 i
        rw [hi' 33 (by decide) (by decide)]
        exact hg.1 i'
      · obtain ⟨i', hi'⟩ := t33 i
        rw [hi' 36 (by decide) (by decide), f1]
        exact hg.2.1 i'
      · rw [f38] at hx
        have hx37 := hg.le hx
        have g := hg.2.2 x hx
        by_cases y : x = e
        · subst y
          have r : ∀ k, k < cnG A x (tn A 37 x) → ∃ i, i < tn A 37 x ∧ cnG A x i = k ∧ (∀ j, 33 ≤ j → j ≤ 36 → tn M j (600 * x + k) = tn A j (600 * x + i)) ∧ tr M 2 (600 * x + k) = tr A 2 (600 * x + i) := fun k hk => by
            obtain ⟨i, a, b, c⟩ := cnG_ex A (tn A 37 x) k hk
            refine ⟨i, a, c, fun j p q => by rw [m4 j _ p q, ← c]; exact l3 j i p q a b, ?_⟩
            rw [m6, ← c, c10 i (Nat.zero_le _) a b, hk2]
          rw [m3, if_pos rfl]
          refine ⟨fun k hk => ?_, fun i j hi hj hij => ?_⟩
          · obtain ⟨i, a, -, c, d⟩ := r k hk
            rw [c 33 (by decide) (by decide), c 34 (by decide) (by decide), d, f13, n26, n8, hv]
            exact g.1 i a
          · obtain ⟨i', a, z, c, -⟩ := r i hi
            obtain ⟨j', a', z', c', -⟩ := r j hj
            rw [c 33 (by decide) (by decide), c' 33 (by decide) (by decide)] at hij
            rw [← z, ← z', g.2 i' j' a a' hij]
        · have r : ∀ k, k < tn A 37 x → (∀ j, 33 ≤ j → j ≤ 36 → tn M j (600 * x + k) = tn A j (600 * x + k)) ∧ tr M 2 (600 * x + k) = tr A 2 (600 * x + k) := fun k hk => by
            refine ⟨fun j p q => by rw [m4 j _ p q]; exact l4 j _ p q (by omega), ?_⟩
            rw [m6, c8 _ (by omega), hk2]
          rw [m3, if_neg y, hk37]
          refine ⟨fun k hk => ?_, fun i j hi hj hij => ?_⟩
          · obtain ⟨c, d⟩ := r k hk
            rw [c 33 (by decide) (by decide), c 34 (by decide) (by decide), d, f13, n26, n8, hv]
            exact g.1 k hk
          · rw [(r i hi).1 33 (by decide) (by decide), (r j hj).1 33 (by decide) (by decide)] at hij
            exact g.2 i j hi hj hij
    · refine ⟨fun x hx => ?_, fun i hi => ?_⟩
      · rw [m1] at hx
        obtain ⟨q1, q2, q3, q4, q5, q6⟩ := h11.1 x hx
        have hne : x ≠ e := fun z => by
          have : tf W 38 = tf A 38 := hk.1 38 (by decide) (by decide)
          omega
        rw [m2 26 x (by decide), m2 27 x (by decide), m2 28 x (by decide), m2 29 x (by decide), m3, if_neg hne, m7]
        exact ⟨q1, q2, q3, q4, q5, q6⟩
      · rw [m1] at hi
        rw [m7, m7]
        exact h11.2 i hi
/-- an ACK -/
theorem ack_ok {e b n c : Nat} (h : INV K A) (he : e < tf A 38) (hb : b < tf A 1) (hn : n ≤ tn A 26 e) : ∃ X, AG X (rakC A e b n c) ∧ INV (K + 1300) X ∧ X = mrg (ackF A e b n c) (rakC A e b n c) := by
  obtain ⟨i1, i2, i3, i4⟩ := h.ack1 (c := c) he hb hn
  have r1 := (rakB_row (A := A) (e := e) (b := b) (n := n) (c := c)).1
  have r26 := (rakB_row (A := A) (e := e) (b := b) (n := n) (c := c)).2.1 26 e (by decide) (by decide)
  have hB : raB A e b n c = rakB A e b n c := by
    unfold raB rakB
    rw [kaA_is]
  have eF : ackF A e b n c = agF (ackX (rakB A e b n c) e (lkF (rakB A e b n c) e (tf A 1 - 1))) e := by
    unfold ackF
    rw [hB, r1]
  have eC : rakC A e b n c = rakX (rakB A e b n c) e (lkF (rakB A e b n c) e (tf A 1 - 1)) := by
    unfold rakC
    rw [r1, i4]
  rw [eF, eC]
  have hLe : tn A 26 e ≤ 600 := by
    have := (h.2.2.2.2.1.2 e he).1.le
    have := h.1.2.2.2.2.1
    omega
  have f38 := r1 38
  generalize rakB A e b n c = B at *
  generalize hlk : lkF B e (tf A 1 - 1) = lk at *
  have hC38 : tf (sn B 28 e (lk - 1)) 38 = tf A 38 := f38
  have hC26 : tn (sn B 28 e (lk - 1)) 26 e = tn A 26 e := by rw [tn_sn, if_neg (by omega)]; exact r26
  have hC28 : tn (sn B 28 e (lk - 1)) 28 e = lk - 1 := by rw [tn_sn, if_pos ⟨rfl, rfl⟩]
  unfold ackX rakX
  rw [i3]
  generalize sn B 28 e (lk - 1) = C at *
  rw [raD_is]
  have jD : keepL C (rakD C e (tn B 28 e)) ∧ INV (K + 600) (rakD C e (tn B 28 e)) := by
    unfold rakD
    split
    · have := i1.aaL (e := e) (s := tn B 28 e) (by omega) (tn C 28 e - tn B 28 e) (by omega)
      exact ⟨(aaL_keep i1.1.2.2.2.2.2.1 _).1, this.mono (by omega)⟩
    · exact ⟨keepL.rfl, i1.mono (by omega)⟩
  obtain ⟨jk, ji⟩ := jD
  have e28 : tn (rakD C e (tn B 28 e)) 28 e = lk - 1 := (jk.2.1 28 e (by decide)).trans hC28
  have e38 : tf (rakD C e (tn B 28 e)) 38 = tf A 38 := (jk.1 38 (by decide) (by decide)).trans hC38
  rw [raE_is e28]
  have jE := ji.raE (lk := lk) (e := e) (by omega)
  have k38 : tf (rakE (rakD C e (tn B 28 e)) e lk) 38 = tf A 38 := by
    unfold rakE
    split
    · split
      · exact ((resL_keep _ _ _).1 38 (by decide) (by decide)).trans e38
      · exact e38
    · exact e38
  have jG := jE.raG (e := e) (w := tn B 28 e) (by omega)
  have g38 : tf (raG (rakE (rakD C e (tn B 28 e)) e lk) e (tn B 28 e)) 38 = tf A 38 := by
    unfold raG
    split
    · exact ((gsL_keep jE.1.2.2.2.2.2.1 _).1.1 38 (by decide) (by decide)).trans k38
    · exact k38
  obtain ⟨a, z⟩ := ag_both jG (e := e) (by omega)
  exact ⟨_, a, z.mono (by omega), rfl⟩
end
