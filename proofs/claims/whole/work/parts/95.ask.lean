/-! ===== moments; a request is sent; a client asks, tries again, learns ===== -/
section
variable {K : Nat} {A B X : TS}
def iMom (A : TS) : Prop := (∀ i, tn A 10 i ≤ tf A 14) ∧ ∀ i, tn A 11 i ≠ 0 → tn A 10 i < tn A 11 i
theorem iMom.same (h : iMom A) (h14 : tf B 14 = tf A 14) (h10 : ∀ i, tn B 10 i = tn A 10 i) (h11 : ∀ i, tn B 11 i = tn A 11 i) : iMom B := by
  refine ⟨fun i => ?_, fun i => ?_⟩
  · rw [h14, h10]; exact h.1 i
  · rw [h10, h11]; exact h.2 i
theorem iMom.df {F N R T : List Nat} (h : iMom A) (d : df B A F N R T) (h1 : 14 ∉ F) (h2 : 10 ∉ N) (h3 : 11 ∉ N) : iMom B := h.same (d.1 14 h1) (d.2.1 10 (by decide) h2) (d.2.1 11 (by decide) h3)
theorem iMom.eq (h : iMom A) (d : EQ B A) : iMom B := h.same (d.1 14 (by decide) (by decide)) (fun i => d.2.1 10 i (by decide)) (fun i => d.2.1 11 i (by decide))
theorem AG.of (h1 : ∀ j, j ≠ 0 → tf X j = tf B j) (h2 : ∀ j i, j ≠ 43 → j ≠ 44 → tn X j i = tn B j i) (h3 : ∀ j i, j ≠ 20 → tr X j i = tr B j i) (h4 : ∀ j i, tb X j i = tb B j i) : AG X B :=
  ⟨h1, fun e _ => ⟨h2 26 e (by decide) (by decide), h2 37 e (by decide) (by decide), h2 27 e (by decide) (by decide), h2 28 e (by decide) (by decide), h2 29 e (by decide) (by decide), h4 30 e, h4 31 e, fun k _ => h2 32 _ (by decide) (by decide), fun k _ => h3 3 _ (by decide)⟩,
  fun i _ => ⟨h2 39 i (by decide) (by decide), h2 40 i (by decide) (by decide), h2 41 i (by decide) (by decide), h4 42 i, fun k _ => h2 1 _ (by decide) (by decide)⟩,
  fun i _ => ⟨h2 16 i (by decide) (by decide), h2 17 i (by decide) (by decide), h2 18 i (by decide) (by decide), h2 21 i (by decide) (by decide), h4 19 i, h3 1 i (by decide)⟩,
  fun i _ => ⟨h2 5 i (by decide) (by decide), h2 6 i (by decide) (by decide), h2 7 i (by decide) (by decide), h2 8 i (by decide) (by decide), h2 10 i (by decide) (by decide), h2 11 i (by decide) (by decide), h3 9 i (by decide), h3 12 i (by decide)⟩,
  fun e k _ _ _ => ⟨h2 22 _ (by decide) (by decide), h3 23 _ (by decide), h4 24 _, h4 25 _⟩,
  fun i _ => ⟨fun j a b => h2 j i (by omega) (by omega), h3 51 i (by decide), h4 52 i⟩,
  fun e k _ _ _ => ⟨h2 33 _ (by decide) (by decide), h2 34 _ (by decide) (by decide), h2 35 _ (by decide) (by decide), h2 36 _ (by decide) (by decide), h3 2 _ (by decide)⟩⟩
/-- alike in all that both have and that the class's heap shows -/
def EQ2 (X B : TS) : Prop := (∀ j, j ≠ 0 → j ≠ 5 → j ≠ 6 → tf X j = tf B j) ∧ (∀ j i, j ≠ 1 → j ≠ 43 → j ≠ 44 → tn X j i = tn B j i) ∧ (∀ j i, j ≠ 1 → j ≠ 2 → j ≠ 3 → j ≠ 20 → tr X j i = tr B j i) ∧ (∀ j i, tb X j i = tb B j i)
theorem EQ2.ag (h : EQ2 X B) : AG (mrg X B) B := by
  refine AG.of (fun j hj => ?_) (fun j i a b => ?_) (fun j i a => ?_) (fun j i => ?_)
  · rw [mrg_tf]
    split
    · rfl
    · exact h.1 j hj (by omega) (by omega)
  · rw [mrg_tn]
    split
    · rfl
    · rename_i z
      exact h.2.1 j i z a b
  · rw [mrg_tr]
    split
    · rfl
    · exact h.2.2.1 j i (by omega) (by omega) (by omega) a
  · rw [mrg_tb]
    exact h.2.2.2 j i
theorem EQ.two (h : EQ X B) : EQ2 X B := ⟨fun j _ a b => h.1 j a b, fun j i a _ _ => h.2.1 j i a, fun j i a b c _ => h.2.2.1 j i a b c, h.2.2.2⟩
theorem EQ2.send (h : EQ2 X B) (so e to op n c : Nat) (v : Int32) (b : Bool) : EQ2 (sendF X so e to op n c v b) (sendF B so e to op n c v b) := by
  have e53 := h.1 53 (by decide) (by decide) (by decide)
  have e54 := h.1 54 (by decide) (by decide) (by decide)
  unfold sendF
  rw [e53, e54]
  split
  · refine ⟨fun j a b c => ?_, h.2.1, h.2.2.1, h.2.2.2⟩
    rw [tf_sf, tf_sf]
    split
    · rfl
    · exact h.1 j a b c
  · refine ⟨fun j a b c => ?_, fun j i a b c => ?_, fun j i a b c d => ?_, fun j i => ?_⟩
    · rw [tf_sf, tf_sf]
      split
      · rfl
      · exact h.1 j a b c
    · simp only [tn_sf, tn_sb, tn_sr, tn_sn]
      rw [h.2.1 j i a b c]
    · simp only [tr_sf, tr_sb, tr_sr, tr_sn]
      rw [h.2.2.1 j i a b c d]
    · simp only [tb_sf, tb_sb, tb_sr, tb_sn]
      rw [h.2.2.2 j i]
/-- thrown is another word alone -/
theorem INV.s0 {v : Nat} (h : INV K A) (hv : v ≤ K) : INV K (sf A 0 v) := by
  have d := df_sf (A := A) (j := 0) (v := v)
  obtain ⟨h1, h2, h3, h4, h5, h6, h7, h8, h9, h10, h11, h12, h13, h14, h15⟩ := h
  exact ⟨h1.df d (by decide) (by rw [(d).1 53 (by decide)]; exact h1.2.2.2.2.2.1), h2.df d (by decide) (by decide) (by decide), h3.df d (by decide) (by decide), h4.df d (by decide) (by decide), h5.df d (by decide) (by decide) (by decide), h6.df d (by decide) (by decide) (by decide), h7.df d (by decide) (by decide) (by decide), h8.df d (by decide) (by decide), h9.df d (by decide) (by decide), h10.df d (by decide) (by decide) ⟨rfl, fun _ _ _ _ => rfl⟩, h11.df d (by decide) (by decide) (by decide), h12.df d (by decide) (by decide), h13.df d (by decide) (by decide), h14.sf hv, h15⟩
theorem AG.s0 {v : Nat} : AG (sf A 0 v) A := AG.of (fun j hj => by rw [tf_sf, if_neg hj]) (fun _ _ _ _ => rfl) (fun _ _ _ => rfl) (fun _ _ => rfl)
theorem begA_EQ {c : Nat} (h5 : tn A 5 (tn A 16 c - 1) = c) : EQ (begA A c) (begC0 A c (tn A 16 c - 1)) := by
  unfold begA begC0 sendOpF
  have e6 : tn (sb (sn A 18 c 0) 19 c false) 6 (tn A 16 c - 1) = tn A 6 (tn A 16 c - 1) := by
    rw [tn_sb, tn_sn, if_neg (by omega)]
  rw [e6, h5]
  exact EQ.send (EQ.rfl.or (Or.inl rfl)) _ _ _ _ _ _ _ _
theorem beg_EQ {c : Nat} (h5 : tn A 5 (tn A 16 c - 1) = c) : EQ (begF A c) (begC A c (tn A 16 c - 1)) := by
  unfold begF begC
  split
  · exact (begA_EQ h5).begL _ _ _
  · exact begA_EQ h5
theorem opn_16 {c : Nat} (h : opnF A c = true) : tn A 16 c ≠ 0 ∧ tn A 11 (tn A 16 c - 1) = 0 := of_decide_eq_true h
theorem begC_mom {c op : Nat} (h : iMom A) : iMom (begC A c op) := by
  have d := begC0_keep A c op
  have h0 : iMom (begC0 A c op) := h.same (d.1 14 (by decide) (by decide)) (fun i => d.2 10 i (by decide) (by decide)) (fun i => d.2 11 i (by decide) (by decide))
  unfold begC
  split
  · exact h0.df (begL_keep _ _ _ _).df (by decide) (by decide) (by decide)
  · exact h0
theorem begC_13 {c op : Nat} : tf (begC A c op) 13 = tf A 13 := by
  have d := begC0_keep A c op
  unfold begC
  split
  · exact ((begL_keep _ _ _ _).1 13 (by decide) (by decide)).trans (d.1 13 (by decide) (by decide))
  · exact d.1 13 (by decide) (by decide)
theorem retry_ok {c : Nat} (h : INV K A) (hm : iMom A) (hc : c < 4) (ho : opnF A c = true) : EQ (begF A c) (begC A c (tn A 16 c - 1)) ∧ INV (K + 4) (begC A c (tn A 16 c - 1)) ∧ iMom (begC A c (tn A 16 c - 1)) := by
  have o := opn_16 ho
  have q := h.2.2.1 c hc
  exact ⟨beg_EQ (q.2.1 o.1), h.begS hc (by omega), begC_mom hm⟩
theorem learn_ok {c : Nat} (h : INV K A) (hm : iMom A) (hc : c < 4) : EQ (lrnF A c) (lrnC A c) ∧ INV (K + 4) (lrnC A c) ∧ iMom (lrnC A c) ∧ tf (lrnC A c) 13 = tf A 13 := by
  have e5 : tf A 5 = tf A 38 := h.1.1
  have e38 := h.1.2.2.1
  unfold lrnF lrnC
  rw [e5]
  split
  · exact ⟨EQ.rfl, h.mono (by omega), hm, rfl⟩
  · have h1 := h.s17 (c := c) (v := tf A 38 - 1) (by omega)
    have hm1 : iMom (sn A 17 c (tf A 38 - 1)) := hm.df df_sn (by decide) (by decide) (by decide)
    split
    · rename_i ho
      have e16 : tn (sn A 17 c (tf A 38 - 1)) 16 c = tn A 16 c := by rw [tn_sn, if_neg (by omega)]
      have ho1 : opnF (sn A 17 c (tf A 38 - 1)) c = true := by
        have e11 : ∀ i, tn (sn A 17 c (tf A 38 - 1)) 11 i = tn A 11 i := fun i => by rw [tn_sn, if_neg (by omega)]
        unfold opnF at ho ⊢
        rw [e16, e11]
        exact ho
      have r := retry_ok h1 hm1 hc ho1
      rw [e16] at r
      exact ⟨r.1, r.2.1, r.2.2, begC_13⟩
    · exact ⟨EQ.rfl, h1.mono (by omega), hm1, rfl⟩
/-! ask -/
theorem asC1_row {c wh ky : Nat} {v : Int32} (B : TS) (hB : B = asC1 A c wh ky v) : (∀ j, j ≠ 13 → j ≠ 14 → j ≠ 6 → tf B j = tf A j) ∧ tf B 13 = tf A 13 + 1 ∧ tf B 14 = tf A 14 + 1 ∧ tf B 6 = tf A 6 + 1 ∧ (∀ j i, i ≠ tf A 13 → j ≠ 16 → tn B j i = tn A j i) ∧ (∀ j i, j ≠ 5 → j ≠ 6 → j ≠ 7 → j ≠ 8 → j ≠ 10 → j ≠ 11 → j ≠ 16 → tn B j i = tn A j i) ∧ (∀ x, tn B 16 x = if x = c then tf A 13 + 1 else tn A 16 x) ∧ (tn B 5 (tf A 13) = c ∧ tn B 6 (tf A 13) = asnF A c ∧ tn B 7 (tf A 13) = wh ∧ tn B 8 (tf A 13) = ky ∧ tn B 10 (tf A 13) = tf A 14 + 1 ∧ tn B 11 (tf A 13) = 0) ∧ (∀ j i, i ≠ tf A 13 → tr B j i = tr A j i) ∧ (∀ j i, j ≠ 9 → j ≠ 12 → tr B j i = tr A j i) ∧ tr B 12 (tf A 13) = 0 ∧ tr B 9 (tf A 13) = v ∧ (∀ j i, tb B j i = tb A j i) := by
  subst hB
  unfold asC1 nwO
  have e13 : tf (sf A 14 (tf A 14 + 1)) 13 = tf A 13 := by rw [tf_sf, if_neg (by decide)]
  rw [e13]
  refine ⟨fun j a b c => ?_, ?_, ?_, ?_, fun j i a b => ?_, fun j i a b c d e f g => ?_, fun x => ?_, ⟨?_, ?_, ?_, ?_, ?_, ?_⟩, fun j i a => ?_, fun j i a b => ?_, ?_, ?_, fun _ _ => rfl⟩
  all_goals simp only [tf_sf, tf_sn, tf_sr, tn_sf, tn_sn, tn_sr, tr_sf, tr_sn, tr_sr]
  · rw [if_neg c, if_neg a, if_neg b]
  · simp
  · simp
  · simp
  · rw [if_neg (by omega), if_neg (by omega), if_neg (by omega), if_neg (by omega), if_neg (by omega), if_neg (by omega), if_neg (by omega)]
  · rw [if_neg (by omega), if_neg (by omega), if_neg (by omega), if_neg (by omega), if_neg (by omega), if_neg (by omega), if_neg (by omega)]
  · by_cases y : x = c
    · simp [y]
    · simp [y]
  · simp
  · simp
  · simp
  · simp
  · simp
  · simp
  · rw [if_neg (fun z => a z.2), if_neg (fun z => a z.2)]
  · rw [if_neg (fun z => b z.1), if_neg (fun z => a z.1)]
  · simp
  · simp
theorem askA_EQ {c wh ky : Nat} {v : Int32} (h12 : tr A 12 (tf A 13) = 0) : EQ (askA A c wh ky v) (asC1 A c wh ky v) := by
  unfold asC1 nwO askA
  have e13 : tf (sf A 14 (tf A 14 + 1)) 13 = tf A 13 := by rw [tf_sf, if_neg (by decide)]
  rw [e13]
  refine ⟨fun j a b => ?_, fun j i a => ?_, fun j i a b c => ?_, fun _ _ => rfl⟩
  all_goals simp only [tf_sf, tf_sn, tf_sr, tn_sf, tn_sn, tn_sr, tr_sf, tr_sn, tr_sr]
  · rw [if_neg (fun z => b z)]
    by_cases y : j = 14
    · rw [if_pos y, if_neg (by omega), if_pos y]
    · rw [if_neg y, if_neg y]
  · by_cases y : j = 12 ∧ i = tf A 13
    · obtain ⟨rfl, rfl⟩ := y
      rw [if_neg (by omega), if_pos ⟨rfl, rfl⟩]
      exact h12
    · rw [if_neg y]
/-- the row of values stays where operations are as they were -/
theorem vaF_ops {e ky : Nat} (h22 : ∀ i, tn B 22 i = tn A 22 i) : ∀ n, (∀ k, k < n → tn B 7 (tn A 22 (600 * e + k)) = tn A 7 (tn A 22 (600 * e + k)) ∧ tn B 8 (tn A 22 (600 * e + k)) = tn A 8 (tn A 22 (600 * e + k)) ∧ tr B 9 (tn A 22 (600 * e + k)) = tr A 9 (tn A 22 (600 * e + k))) → vaF B e ky n = vaF A e ky n
  | 0, _ => rfl
  | n + 1, h => by
    obtain ⟨a, b, c⟩ := h n (by omega)
    unfold vaF
    rw [h22, a, b, c, vaF_ops h22 n (fun k hk => h k (by omega))]
theorem INV.ask1 {c wh ky : Nat} {v : Int32} (h : INV K A) (hc : c < 4) (hky : ky < 16) (h6 : tf A 13 < 600) (hwh : wh ≤ K) : INV (K + 1) (asC1 A c wh ky v) := by
  obtain ⟨f1, f13, f14, f6, n1, n2, n16, ⟨o5, o6, o7, o8, o10, o11⟩, r1, r2, r12, r9, b1⟩ := asC1_row (A := A) (c := c) (wh := wh) (ky := ky) (v := v) _ rfl
  have k7 := h.k7
  have nbn : NB (K + 1) (asC1 A c wh ky v) := by
    have h' := h.nb.mono (K' := K + 1) (by omega)
    have a := h.nb.1 13
    have b := h.nb.1 14
    have b6 := h.nb.1 6
    have d := asn_le h.nb c
    unfold asC1 nwO
    have e13 : tf (sf A 14 (tf A 14 + 1)) 13 = tf A 13 := by rw [tf_sf, if_neg (by decide)]
    rw [e13]
    exact ((((((((((((h'.sf (by omega)).sf (by omega)).sn (by omega)).sn d).sn (by omega)).sn (by omega)).sr).sn (by omega)).sn (by omega)).sr).sf (by omega)).sn (by omega))
  generalize asC1 A c wh ky v = B at *
  obtain ⟨h1, h2, h3, h4, h5, h6', h7, h8, h9, h10, h11, h12, h13, h14, h15⟩ := h
  have e26 : ∀ i, tn B 26 i = tn A 26 i := fun i => n2 26 i (by decide) (by decide) (by decide) (by decide) (by decide) (by decide) (by decide)
  have e22 : ∀ i, tn B 22 i = tn A 22 i := fun i => n2 22 i (by decide) (by decide) (by decide) (by decide) (by decide) (by decide) (by decide)
  have e38 : tf B 38 = tf A 38 := f1 38 (by decide) (by decide) (by decide)
  have e1 : tf B 1 = tf A 1 := f1 1 (by decide) (by decide) (by decide)
  have old : ∀ i, i < tf A 13 → tn B 5 i = tn A 5 i ∧ tn B 6 i = tn A 6 i ∧ tn B 7 i = tn A 7 i ∧ tn B 8 i = tn A 8 i ∧ tr B 9 i = tr A 9 i := fun i hi => ⟨n1 5 i (by omega) (by decide), n1 6 i (by omega) (by decide), n1 7 i (by omega) (by decide), n1 8 i (by omega) (by decide), r1 9 i (by omega)⟩
  have hva : ∀ e ky k, e < tf A 38 → k ≤ tn A 26 e → vaF B e ky k = vaF A e ky k := fun e ky k he hk => vaF_ops e22 k (fun j hj => by
    have q := (h5.2 e he).1.2.1 j (by omega)
    exact ⟨(old _ q).2.2.1, (old _ q).2.2.2.1, (old _ q).2.2.2.2⟩)
  have n27 : ∀ j, 12 ≤ j → j ≠ 16 → ∀ i, tn B j i = tn A j i := fun j a b i => n2 j i (by omega) (by omega) (by omega) (by omega) (by omega) (by omega) b
  refine ⟨?_, ?_, ?_, ?_, ?_, ?_, ?_, ?_, ?_, ?_, ?_, ?_, ?_, nbn, by omega⟩
  · obtain ⟨k1, k2, k3, k4, k5, k6, k8⟩ := h1
    unfold iNum
    rw [f1 5 (by decide) (by decide) (by decide), e38, f6, f13, f1 53 (by decide) (by decide) (by decide), e1, f1 2 (by decide) (by decide) (by decide), f1 3 (by decide) (by decide) (by decide), f1 4 (by decide) (by decide) (by decide)]
    exact ⟨k1, by omega, k3, k4, by omega, k6, k8⟩
  · obtain ⟨k1, k2, k3, k4, k5, k6⟩ := h2
    have lt : ∀ i, tn A 5 i = c → i < tf A 13 → tn A 6 i < asnF A c := fun i hi hl => by
      obtain ⟨q1, q2, q3, q4⟩ := h3 c hc
      have q := q3 i hl hi
      unfold asnF
      rw [if_neg (by omega)]
      by_cases z : i = tn A 16 c - 1
      · rw [z]; omega
      · have := k4 i (tn A 16 c - 1) (by omega) (by omega) (by rw [hi, q2 (by omega)])
        omega
    refine ⟨fun i hi => ?_, fun i => ?_, fun i hi => ?_, fun i j hij hj heq => ?_, fun i hi => ?_, fun i hi => ?_⟩
    · rw [f13] at hi
      by_cases y : i = tf A 13
      · rw [y, o11]; decide
      · rw [n1 11 i y (by decide)]; exact k1 i (by omega)
    · by_cases y : i = tf A 13
      · rw [y, o8]; exact hky
      · rw [n1 8 i y (by decide)]; exact k2 i
    · rw [f13] at hi
      by_cases y : i = tf A 13
      · rw [y, o5]; exact hc
      · rw [n1 5 i y (by decide)]; exact k3 i (by omega)
    · rw [f13] at hj
      rw [n1 6 i (by omega) (by decide)]
      rw [n1 5 i (by omega) (by decide)] at heq
      by_cases y : j = tf A 13
      · rw [y, o5] at heq
        rw [y, o6]
        exact lt i heq (by omega)
      · rw [n1 5 j y (by decide)] at heq
        rw [n1 6 j y (by decide)]
        exact k4 i j hij (by omega) heq
    · rw [f13] at hi
      rw [r1 12 i (by omega)]
      exact k5 i (by omega)
    · rw [f13] at hi
      by_cases y : i = tf A 13
      · rw [y, r12]; exact fun _ => rfl
      · rw [n1 11 i y (by decide), r1 12 i y]; exact k6 i (by omega)
  · intro x hx
    obtain ⟨q1, q2, q3, q4⟩ := h3 x hx
    rw [n16, f13, e38, n27 17 (by decide) (by decide)]
    by_cases y : x = c
    · rw [if_pos y]
      refine ⟨Nat.le_refl _, fun _ => ?_, fun i hi _ => hi, q4⟩
      rw [show tf A 13 + 1 - 1 = tf A 13 by omega, o5, y]
    · rw [if_neg y]
      refine ⟨by omega, fun z => ?_, fun i hi he => ?_, q4⟩
      · rw [n1 5 _ (by omega) (by decide)]
        exact q2 z
      · by_cases w : i = tf A 13
        · rw [w, o5] at he
          exact absurd he.symm y
        · rw [n1 5 i w (by decide)] at he
          exact q3 i (by omega) he
  · intro x
    rw [e1, n27 18 (by decide) (by decide)]
    exact h4 x
  · refine ⟨fun i => by rw [e22]; exact h5.1 i, fun e he => ?_⟩
    rw [e38] at he
    obtain ⟨q1, q2, q3⟩ := h5.2 e he
    refine ⟨⟨by omega, fun k hk => ?_, fun i j hi hj => ?_⟩, by rw [n27 28 (by decide) (by decide), e26]; exact q2, fun k hk => ?_⟩
    · rw [e26] at hk
      rw [e22, f13]
      have := q1.2.1 k hk
      omega
    · rw [e26] at hi hj
      rw [e22, e22]
      exact q1.2.2 i j hi hj
    · rw [e26] at hk
      have z := q1.2.1 k hk
      rw [e22, (old _ z).2.2.1, r2 23 _ (by decide) (by decide)]
      have := q3 k hk
      refine ⟨this.1, this.2.trans ?_⟩
      unfold asF
      rw [(old _ z).2.2.1, (old _ z).2.2.2.1, (old _ z).2.2.2.2, hva e _ k he (by omega)]
  · intro e k he hk
    rw [e38] at he
    rw [r2 3 _ (by decide) (by decide), e26, hva e k _ he (Nat.le_refl _)]
    exact h6' e k he hk
  · refine ⟨fun i => by rw [n27 33 (by decide) (by decide)]; exact h7.1 i, fun i => by rw [n27 36 (by decide) (by decide), e1]; exact h7.2.1 i, fun e he => ?_⟩
    rw [e38] at he
    obtain ⟨q1, q2⟩ := h7.2.2 e he
    simp only [n27 37 (by decide) (by decide), n27 33 (by decide) (by decide), n27 34 (by decide) (by decide), e26, f13, r2 2 _ (by decide) (by decide)]
    refine ⟨fun k hk => ?_, q2⟩
    obtain ⟨p1, p2, p3⟩ := q1 k hk
    refine ⟨by omega, p2, ?_⟩
    rw [(old _ p1).2.2.2.1, hva e _ _ he p2]
    exact p3
  · intro e he
    rw [e38] at he
    obtain ⟨q1, q2⟩ := h8 e he
    rw [e1, lkF_same (fun i => n27 32 (by decide) (by decide) i), n27 28 (by decide) (by decide), e26]
    exact ⟨fun b hb => by rw [n27 32 (by decide) (by decide)]; exact q1 b hb, q2⟩
  · intro b hb
    rw [e1] at hb
    rw [n27 39 (by decide) (by decide), n27 40 (by decide) (by decide), e26, e38]
    exact h9 b hb
  · intro k hk
    rw [f1 53 (by decide) (by decide) (by decide)] at hk
    obtain ⟨l1, l2, l3, l4, l5, l6, l7, l8, l9⟩ := h10 k hk
    simp only [n27 45 (by decide) (by decide), n27 46 (by decide) (by decide), n27 47 (by decide) (by decide), n27 48 (by decide) (by decide), n27 49 (by decide) (by decide), n27 50 (by decide) (by decide)]
    refine ⟨l1, by rw [e38]; exact l2, fun z => ⟨(l3 z).1, by rw [f13]; have := (l3 z).2; omega⟩, l4, fun z => ?_, fun z y => ?_, fun z y => by rw [e1]; exact l7 z y, fun z => by rw [e1]; exact l8 z, fun z => by rw [e26]; exact l9 z⟩
    · rw [e1, (old _ (by have := l3 (by omega); omega)).2.2.1]
      exact l5 z
    · rw [(old _ (by have := l3 (by omega); omega)).1]
      exact l6 z y
  · refine ⟨fun e he => ?_, fun i hi => ?_⟩
    · rw [e38] at he
      rw [e26, n27 27 (by decide) (by decide), n27 28 (by decide) (by decide), n27 29 (by decide) (by decide), n27 37 (by decide) (by decide), b1]
      exact h11.1 e he
    · rw [e38] at hi
      rw [b1, b1]
      exact h11.2 i hi
  · intro w hw
    rw [e1] at hw
    obtain ⟨q1, q2, q3, q4⟩ := h12 w hw
    have f2 : tf B 2 = tf A 2 := f1 2 (by decide) (by decide) (by decide)
    have f3 : tf B 3 = tf A 3 := f1 3 (by decide) (by decide) (by decide)
    have p1 : ∀ i, tn B 1 i = tn A 1 i := fun i => n2 1 i (by decide) (by decide) (by decide) (by decide) (by decide) (by decide) (by decide)
    have lt : ∀ i, i < tf A 2 * tf A 3 → tn A 1 (16 * w + i) ≠ 0 → tn A 1 (16 * w + i) - 1 < tf A 13 := fun i hi hz => by
      obtain ⟨⟨k, hk, e⟩, -⟩ := q2 i hi hz
      have := (q1 k hk).1
      omega
    simp only [f2, f3, p1, n27 43 (by decide) (by decide), n27 44 (by decide) (by decide), f13]
    refine ⟨fun k hk => ⟨by have := (q1 k hk).1; omega, (q1 k hk).2⟩, fun i hi hz => ?_, fun i j hi hj hzi hzj he => ?_, q4⟩
    · rw [(old _ (lt i hi hz)).2.2.1, (old _ (lt i hi hz)).2.2.2.1]
      exact q2 i hi hz
    · rw [(old _ (lt i hi hzi)).2.2.2.1, (old _ (lt j hj hzj)).2.2.2.1] at he
      exact q3 i j hi hj hzi hzj he
  · intro x hx
    rw [b1, r2 1 _ (by decide) (by decide), r2 20 _ (by decide) (by decide)]
    exact h13 x hx
theorem ask_ok {c wh ky : Nat} {v : Int32} (h : INV K A) (hm : iMom A) (hc : c < 4) (hky : ky < 16) (hwh : wh < 3) (h6 : tf A 13 < 600) : EQ (askF A c wh ky v) (askC A c wh ky v) ∧ INV (K + 5) (askC A c wh ky v) ∧ iMom (askC A c wh ky v) ∧ tf (askC A c wh ky v) 13 = tf A 13 + 1 := by
  have k7 := h.k7
  have h1 := h.ask1 (c := c) (wh := wh) (ky := ky) (v := v) hc hky h6 (by omega)
  have e1 : EQ (askA A c wh ky v) (asC1 A c wh ky v) := askA_EQ (h.2.1.2.2.2.2.1 _ (Nat.le_refl _))
  obtain ⟨f1, f13, f14, f6, n1, n2, n16, ⟨o5, o6, o7, o8, o10, o11⟩, r1, r2, r12, r9, b1⟩ := asC1_row (A := A) (c := c) (wh := wh) (ky := ky) (v := v) _ rfl
  have hm1 : iMom (asC1 A c wh ky v) := by
    refine ⟨fun i => ?_, fun i => ?_⟩
    · by_cases y : i = tf A 13
      · rw [y, o10, f14]; exact Nat.le_refl _
      · rw [n1 10 i y (by decide), f14]
        have := hm.1 i
        omega
    · by_cases y : i = tf A 13
      · rw [y, o11]; exact fun z => absurd rfl z
      · rw [n1 10 i y (by decide), n1 11 i y (by decide)]
        exact hm.2 i
  have e16 : tn (asC1 A c wh ky v) 16 c = tf A 13 + 1 := by rw [n16, if_pos rfl]
  have b := beg_EQ (A := asC1 A c wh ky v) (c := c) (by rw [e16]; exact o5)
  rw [e16, show tf A 13 + 1 - 1 = tf A 13 by omega] at b
  have e2 : EQ (begF (askA A c wh ky v) c) (begF (asC1 A c wh ky v) c) := by
    generalize askA A c wh ky v = G at e1
    generalize asC1 A c wh ky v = M at e1
    have p16 := e1.2.1 16 c (by decide)
    have p17 := e1.2.1 17 c (by decide)
    have ea : EQ (begA G c) (begA M c) := by
      unfold begA sendOpF
      have q6 : ∀ i, tn (sb (sn G 18 c 0) 19 c false) 6 i = tn (sb (sn M 18 c 0) 19 c false) 6 i := fun i => by
        rw [tn_sb, tn_sn, if_neg (by omega), tn_sb, tn_sn, if_neg (by omega)]
        exact e1.2.1 6 i (by decide)
      rw [p16, p17, q6]
      exact ((e1.sn 18 c 0).sb 19 c false).send _ _ _ _ _ _ _ _
    unfold begF
    rw [p16, p17, e1.2.1 7 _ (by decide), e1.1 1 (by decide) (by decide)]
    split
    · exact ea.begL _ _ _
    · exact ea
  refine ⟨e2.trans b, (h1.begS hc (by rw [f13]; omega)).mono (by omega), begC_mom hm1, ?_⟩
  exact begC_13.trans f13
end
