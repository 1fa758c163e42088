/-! ===== gets go; new operations and masters; they are listed ===== -/
section
variable {tc : Nat → ClassId} {a a' : Nat → Nat → Nat} {A B : TS} {S S' : HS}
theorem RA.rmGot {e k : Nat} (h : RA tc a A S) (he : e < tf A 38) (hk : k < tn A 37 e) : RA tc (aT a 8 (shG A e k)) (rmG A e k) (rmS S (a 0 (15 + e)) (a 23 (15 + e)) k (tn A 37 e)) := by
  have h12 := h.2.2.2.1.2.1
  have he12 : e < 12 := by omega
  have hl0 : lv A 0 (15 + e) := Or.inr (Or.inr ⟨by omega, by omega⟩)
  have hz : lsz A (15 + e) = tn A 37 e := lsz_g he12
  have hX := rmS_LX h hl0 (k := k) (by rw [hz]; exact hk)
  rw [hz] at hX
  refine h.shG0 (z' := tn A 37 e - 1) (t := some (a 23 (15 + e))) (shG A e k) he (by omega) rmS_lop (own1_self h hl0 (by rw [hz]; omega)) hX (fun j hj => ?_) (fun i q => ?_) (fun i q1 q2 => ?_) (fun i j q1 q2 q3 q4 q5 => ?_) (fun _ => rfl) (fun j i q1 q2 => if_pos ⟨q1, q2⟩) (fun j i q1 q2 => ?_) ?_ (fun i => by show (if 2 = 2 then tr A 2 (shG A e k i) else tr A 2 i) = _; rw [if_pos rfl]) (fun j i q => if_neg q) (fun _ _ => rfl)
  · have := rmS_el h hl0 (k := k) (j := j) (by rw [hz]; exact hj)
    rw [hz, lfam_g he12, lix_g he12] at this
    rw [this]
    unfold shG
    by_cases y : j < k
    · rw [if_pos y, if_neg (by omega)]
    · rw [if_neg y, if_pos (by omega)]
      rfl
  · unfold shG
    rw [if_neg (by omega)]
  · unfold shG
    split <;> omega
  · unfold shG at q5
    split at q5 <;> split at q5 <;> omega
  · show (if 33 ≤ j ∧ j ≤ 36 then _ else if j = 37 ∧ i = e then _ else tn A j i) = _
    rw [if_neg q1, if_neg q2]
  · show (if 33 ≤ 37 ∧ 37 ≤ 36 then tn A 37 (shG A e k e) else if 37 = 37 ∧ e = e then tn A 37 e - 1 else tn A 37 e) = _
    rw [if_neg (by omega), if_pos ⟨rfl, rfl⟩]
theorem clR_lop {b t z : Nat} : lop S (clR (clA S b) t z) b (some t) := by
  unfold clR clA
  exact ((lop.rfl.sI (by decide)).sI (by decide)).sR
theorem clA_lop {b : Nat} : lop S (clA S b) b none := by
  unfold clA
  exact (lop.rfl.sI (by decide)).sI (by decide)
theorem aT_id : aT a 8 (fun i => i) = a := by
  funext g i
  unfold aT
  by_cases y : g = 8
  · rw [if_pos y, y]
  · rw [if_neg y]
theorem RA.clGot {e : Nat} (h : RA tc a A S) (he : e < tf A 38) : RA tc a (clG A e) (clX S (a 0 (15 + e)) (a 23 (15 + e)) (a 50 (15 + e)) (tn A 37 e)) := by
  have h12 := h.2.2.2.1.2.1
  have he12 : e < 12 := by omega
  have hl0 : lv A 0 (15 + e) := Or.inr (Or.inr ⟨by omega, by omega⟩)
  have hL := h.list hl0
  obtain ⟨x1, x2, x3, x4, x5, x6, x7⟩ := hL
  have key : ∀ (t : Option Nat) (T : HS), lop S T (a 0 (15 + e)) t → own1 a A S (15 + e) t → zP T 1 (a 0 (15 + e)) = zP S 1 (a 0 (15 + e)) → zI T 2 (a 0 (15 + e)) = nI 0 → RA tc a (clG A e) T := by
    intro t T hop ho e1 e2
    have := h.shG0 (B := clG A e) (z' := 0) (t := t) (fun i => i) he (Nat.zero_le _) hop ho ⟨(hop _ x1).1, (hop _ x1).2.1.trans x2, e1.trans x3, e2, Nat.zero_le _, x6, by
      rcases x7 with x7 | ⟨y1, y2, y3, y4⟩
      · exact Or.inl x7
      · exact Or.inr ⟨y1, (hop _ y2).1, (hop _ y2).2.1.trans y3, (hop _ y2).2.2.1.trans y4⟩⟩ (fun k hk => absurd hk (by omega)) (fun _ _ => rfl) (fun i q1 q2 => by omega) (fun i j q1 q2 _ _ _ => by omega) (fun _ => rfl) (fun j i q1 q2 => by show tn (sn A 37 e 0) j i = _; rw [tn_sn, if_neg (by omega)]) (fun j i q1 q2 => by show tn (sn A 37 e 0) j i = _; rw [tn_sn, if_neg q2]) (by show tn (sn A 37 e 0) 37 e = _; rw [tn_sn, if_pos ⟨rfl, rfl⟩]) (fun _ => rfl) (fun _ _ _ => rfl) (fun _ _ => rfl)
    rwa [aT_id] at this
  unfold clX
  by_cases y : a 50 (15 + e) = 0
  · rw [if_pos y]
    exact key none _ clA_lop (fun x hx => by cases hx) rfl up2_at
  · rw [if_neg y]
    exact key (some (a 23 (15 + e))) _ clR_lop (fun x hx => by cases hx; exact Or.inr ⟨rfl, y⟩) rfl up2_at
/-- new things are known from here on -/
theorem RA.adopt (h : RA tc a A S) (N : Nat → Nat → Prop) (hlv : ∀ g i, lv B g i ↔ lv A g i ∨ N g i) (hNA : ∀ g i, N g i → ¬ lv A g i) (ha : ∀ g i, lv A g i → a' g i = a g i) (ha2 : ∀ i, lv A 0 i → a' 23 i = a 23 i ∧ a' 50 i = a 50 i)
    (hc : ∀ g i j, lv A g i → civ B i g j = civ A i g j) (hp : ∀ g i j, lv A g i → cpv a' B i g j = cpv a A i g j) (hcl : ∀ g i, lv A g i → cln B g i = cln A g i) (hca : ∀ i k, lv A 20 i → k < cln A 20 i → cav B i k = cav A i k) (hcr : ∀ g i k, lv A g i → 24 ≤ g → k < cln A g i → crv a' B g i k = crv a A g i k) (hls : ∀ i, lv A 0 i → lsz B i = lsz A i) (hW : WF B)
    (n1 : ∀ g i, N g i → a' g i ∈ zL S ∧ zK S (a' g i) = g) (n2 : ∀ g i j, N g i → lv A g j → a' g i ≠ a g j) (n3 : ∀ g i j, N g i → N g j → a' g i = a' g j → i = j) (n4 : ∀ g i j, N g i → 1 ≤ g → g < 20 → (fty g)[j]? = some true → zI S (64 * g + j) (a' g i) = civ B i g j) (n5 : ∀ g i j, N g i → 1 ≤ g → g < 20 → (fty g)[j]? = some false → zP S (64 * g + j) (a' g i) = cpv a' B i g j)
    (n6 : ∀ g i, N g i → 20 ≤ g → zN S (a' g i) = cln B g i) (n7 : ∀ i k, N 20 i → k < cln B 20 i → zA S (a' 20 i) k = cav B i k) (n8 : ∀ g i k, N g i → 24 ≤ g → k < cln B g i → zR S (a' g i) k = crv a' B g i k) (n9 : ∀ i, N 0 i → LX tc S (a' 0 i) (a' 23 i) 0 0 ∧ lsz B i = 0 ∧ a' 50 i = 0) : RA tc a' B S := by
  obtain ⟨⟨k1, k2, k3, k4, k5, k6, k7⟩, ⟨kL, kD⟩, kW⟩ := h
  refine ⟨⟨fun g i hi => ?_, fun g i j e4 hi hj e => ?_, fun g i j hi e1 e2 hj => ?_, fun g i j hi e1 e2 hj => ?_, fun g i hi e1 => ?_, fun i k hi hk => ?_, fun g i k hi e1 hk => ?_⟩, ⟨fun i hi => ?_, fun i j hi hj m1 m2 e => ?_⟩, hW⟩
  · rcases (hlv g i).mp hi with y | y
    · rw [ha g i y]; exact k1 g i y
    · exact n1 g i y
  · rcases (hlv g i).mp hi with y | y
    · rcases (hlv g j).mp hj with z | z
      · rw [ha g i y, ha g j z] at e
        exact k2 g i j e4 y z e
      · rw [ha g i y] at e
        exact absurd e.symm (n2 g j i z y)
    · rcases (hlv g j).mp hj with z | z
      · rw [ha g j z] at e
        exact absurd e (n2 g i j y z)
      · exact n3 g i j y z e
  · rcases (hlv g i).mp hi with y | y
    · rw [ha g i y, hc g i j y]; exact k3 g i j y e1 e2 hj
    · exact n4 g i j y e1 e2 hj
  · rcases (hlv g i).mp hi with y | y
    · rw [ha g i y, hp g i j y]; exact k4 g i j y e1 e2 hj
    · exact n5 g i j y e1 e2 hj
  · rcases (hlv g i).mp hi with y | y
    · rw [ha g i y, hcl g i y]; exact k5 g i y e1
    · exact n6 g i y e1
  · rcases (hlv 20 i).mp hi with y | y
    · rw [hcl 20 i y] at hk
      rw [ha 20 i y, hca i k y hk]; exact k6 i k y hk
    · exact n7 i k y hk
  · rcases (hlv g i).mp hi with y | y
    · rw [hcl g i y] at hk
      rw [ha g i y, hcr g i k y e1 hk]; exact k7 g i k y e1 hk
    · exact n8 g i k y e1 hk
  · rcases (hlv 0 i).mp hi with y | y
    · obtain ⟨q1, q2⟩ := ha2 i y
      obtain ⟨r1, r2⟩ := kL i y
      rw [ha 0 i y, q1, q2, hls i y]
      refine ⟨r1, fun k hk => ?_⟩
      rw [r2 k hk, ha _ _ (lv_elem kW y hk)]
    · obtain ⟨q1, q2, q3⟩ := n9 i y
      rw [q2, q3]
      exact ⟨q1, fun k hk => absurd hk (by omega)⟩
  · rcases (hlv 0 i).mp hi with y | y
    · rcases (hlv 0 j).mp hj with z | z
      · obtain ⟨q1, q2⟩ := ha2 i y
        obtain ⟨q3, q4⟩ := ha2 j z
        rw [q2] at m1
        rw [q4] at m2
        rw [q1, q3] at e
        exact kD i j y z m1 m2 e
      · exact absurd (n9 j z).2.2 m2
    · exact absurd (n9 i y).2.2 m1
/-- a known master, or operation, gets into its list: v the list (1, 2), r its count (5, 6), f the class (5, 6) -/
theorem RA.listed {v f q t' M' : Nat} (hv : (v = 1 ∧ f = 5) ∨ (v = 2 ∧ f = 6)) (h : RA tc a A S) (hlt : lsz A v < (if v = 1 then tf A 38 else tf A 13)) (hq : q = a f (lsz A v)) (hL : LAdd tc a A S v q S' t' M') : RA tc (aS a f (lsz A v) v q t' M') (sf A f (lsz A v + 1)) S' := by
  obtain ⟨L1, L2, L3, L4, L5, L6⟩ := hL
  have hW := h.2.2
  have hl0 : lv A 0 v := Or.inl (by omega)
  have hlx : lix v (lsz A v) = lsz A v := by
    unfold lix
    rw [if_pos (by omega)]
  have hfm : lfam v = f := by
    rcases hv with ⟨rfl, rfl⟩ | ⟨rfl, rfl⟩ <;> rfl
  have hn : lv A f (lsz A v) := by
    have := lv_elem (i := v) (k := lsz A v) (A := sf A f (lsz A v + 1)) ?_ ?_ ?_
    · rw [hfm, hlx] at this
      rcases hv with ⟨rfl, rfl⟩ | ⟨rfl, rfl⟩ <;> exact this
    · obtain ⟨w1, ⟨w2, w3, w4, w5, w6⟩, w7⟩ := hW
      rcases hv with ⟨rfl, rfl⟩ | ⟨rfl, rfl⟩
      · exact ⟨w1, ⟨hlt, w3, w4, w5, w6⟩, w7⟩
      · exact ⟨w1, ⟨w2, w3, hlt, w5, w6⟩, w7⟩
    · exact Or.inl (by omega)
    · rcases hv with ⟨rfl, rfl⟩ | ⟨rfl, rfl⟩
      · show tf A 5 < tf A 5 + 1
        omega
      · show tf A 6 < tf A 6 + 1
        omega
  have haS : ∀ g i, lv A g i → aS a f (lsz A v) v q t' M' g i = a g i := fun g i hl => by
    by_cases y : g = f ∧ i = lsz A v
    · obtain ⟨rfl, rfl⟩ := y
      rw [aS_q, hq]
    · exact aS_old hl y
  have hSE : SE a (aS a f (lsz A v) v q t' M') := fun g i h3 h4 h8 h23 h50 => by
    unfold aS
    by_cases y : g = f ∧ i = lsz A v
    · rw [if_pos y, hq, y.1, y.2]
    · rw [if_neg y, if_neg (fun z => h23 z.1), if_neg (fun z => h50 z.1)]
  have hciv : ∀ g i j, civ (sf A f (lsz A v + 1)) i g j = civ A i g j := fun g i j => by
    have hno := rwc_no (g := g) (j := j)
    refine civ_eq (fun _ _ _ => rfl) (fun _ _ _ => rfl) (fun _ _ _ => rfl) (fun r q1 _ => ?_) (fun _ => ⟨rfl, rfl, rfl⟩) (fun _ => rfl)
    rw [tf_sf, if_neg (fun z => by omega)]
  have hcpv : ∀ g i j, cpv (aS a f (lsz A v) v q t' M') (sf A f (lsz A v + 1)) i g j = cpv a A i g j := fun g i j => cpv_same hSE (fun _ => rfl) (fun _ => rfl) (fun _ => rfl) (fun _ => rfl)
  have hm := (L1 q (by rw [hq]; exact h.mem hn))
  have hk : zK S q = f := by rw [hq]; exact h.knd hn
  have hlv : ∀ g i, lv (sf A f (lsz A v + 1)) g i ↔ lv A g i := fun g i => by
    unfold lv
    simp only [tf_sf, tn_sf, if_neg (show ¬ (38 = f) by omega), if_neg (show ¬ (1 = f) by omega), if_neg (show ¬ (53 = f) by omega), if_neg (show ¬ (13 = f) by omega)]
  refine h.addL (f0 := f) (n0 := lsz A v) hl0 L1 L2 L3 L4 L5 hfm hlx (by omega) (by omega) (fun g i => ?_) haS (fun i => aS_23 (by omega)) (fun i => aS_50 (by omega)) aS_q (fun g i j hl hn => hciv g i j) (fun g i j hl hn => hcpv g i j) (fun g i hl => ?_) (fun i k hl => rfl) (fun g i k hl _ _ => crv_same hSE (fun x => rfl)) (fun i => ?_) ?_ ⟨hm.1, hm.2.1.trans hk⟩ (fun _ i hi hne e => ?_) (fun j hj => ?_) (fun j hj => ?_) (fun i k hi hk => lv_elem hW hi hk)
  · rw [hlv]
    refine ⟨Or.inl, fun z => z.elim id (fun z => ?_)⟩
    rw [z.1, z.2]
    exact hn
  · simp only [cln, tf_sf, if_neg (show ¬ (1 = f) by omega), if_neg (show ¬ (2 = f) by omega), if_neg (show ¬ (3 = f) by omega)]
  · rcases hv with ⟨rfl, rfl⟩ | ⟨rfl, rfl⟩
    · unfold lsz
      by_cases y : i = 1
      · subst y; rfl
      · rw [if_neg y, if_neg y, if_neg y]; rfl
    · unfold lsz
      by_cases y : i = 2
      · subst y; rfl
      · rw [if_neg y, if_neg y, if_neg y]; rfl
  · obtain ⟨w1, ⟨w2, w3, w4, w5, w6⟩, w7⟩ := hW
    rcases hv with ⟨rfl, rfl⟩ | ⟨rfl, rfl⟩
    · exact ⟨w1, ⟨hlt, w3, w4, w5, w6⟩, w7⟩
    · exact ⟨w1, ⟨w2, w3, hlt, w5, w6⟩, w7⟩
  · rw [hq] at e
    exact hne (h.inj (by omega) hi hn e)
  · rw [(hm.2.2.2.2.2.2 _ (Or.inl (by omega))).1, hciv, hq]
    exact h.int hn (by omega) (by omega) hj
  · rw [(hm.2.2.2.2.2.2 _ (Or.inl (by omega))).2, hcpv, hq]
    exact h.ptr hn (by omega) (by omega) hj
end
