/-! ===== the start: both sides; dead rows of moments ===== -/
section
variable {K : Nat} {A B X : TS}
theorem inF_row (x y z w : Int32) : tf (inF x y z w) 1 = nrF x 1 3 ∧ tf (inF x y z w) 2 = nrF y 1 4 ∧ tf (inF x y z w) 3 = nrF z 1 4 ∧ tf (inF x y z w) 4 = nrF w 1 10 ∧ tf (inF x y z w) 38 = 1 ∧ (∀ j, j ≠ 1 → j ≠ 2 → j ≠ 3 → j ≠ 4 → j ≠ 38 → tf (inF x y z w) j = 0) ∧ (∀ j i, j ≠ 32 → j ≠ 11 → j ≠ 48 → tn (inF x y z w) j i = 0) ∧ (∀ i, tn (inF x y z w) 11 i = 1) ∧ (∀ i, i < 3 → tn (inF x y z w) 32 i = 0) ∧ (∀ j i, tn (inF x y z w) j i ≤ 1) ∧ (∀ j i, tr (inF x y z w) j i = 0) ∧ (∀ j i, tb (inF x y z w) j i = decide (j = 30 ∧ i = 0)) := by
  obtain ⟨r1, r2⟩ := ri_keep (inA x y z w) 0
  obtain ⟨l1, l2, l3⟩ := riL_row (A := inA x y z w) (e := 0) 3
  have f38 : tf (inF x y z w) 38 = 1 := by
    show tf (sf (riL (inA x y z w) 0 3) 38 (0 + 1)) 38 = 1
    rw [tf_sf, if_pos rfl]
  have e32 : ∀ i, tn (inF x y z w) 32 i = if 3 * 0 ≤ i ∧ i < 3 * 0 + 3 then 0 else 1 := fun i => l1 i
  have en : ∀ j i, j ≠ 32 → tn (inF x y z w) j i = if j = 11 ∨ j = 32 ∨ j = 48 then 1 else 0 := fun j i a => (r2 j i a).trans rfl
  have ef : ∀ j, j ≠ 38 → tf (inF x y z w) j = tf (inA x y z w) j := fun j a => r1 j a
  refine ⟨?_, ?_, ?_, ?_, f38, fun j a b c d e => ?_, fun j i a b c => ?_, fun i => ?_, fun i hi => ?_, fun j i => ?_, fun j i => l2 j i, fun j i => ?_⟩
  · rw [ef 1 (by decide)]
    unfold inA
    rw [tf_sf, if_neg (by decide), tf_sf, if_neg (by decide), tf_sf, if_neg (by decide), tf_sf, if_pos rfl]
  · rw [ef 2 (by decide)]
    unfold inA
    rw [tf_sf, if_neg (by decide), tf_sf, if_neg (by decide), tf_sf, if_pos rfl]
  · rw [ef 3 (by decide)]
    unfold inA
    rw [tf_sf, if_neg (by decide), tf_sf, if_pos rfl]
  · rw [ef 4 (by decide)]
    unfold inA
    rw [tf_sf, if_pos rfl]
  · rw [ef j e]
    unfold inA
    rw [tf_sf, if_neg d, tf_sf, if_neg c, tf_sf, if_neg b, tf_sf, if_neg a]
    rfl
  · rw [en j i a, if_neg (by omega)]
  · rw [en 11 i (by decide), if_pos (Or.inl rfl)]
  · rw [e32, if_pos (by omega)]
  · by_cases y : j = 32
    · rw [y, e32]
      split <;> omega
    · rw [en j i y]
      split <;> omega
  · show tb (riL (inA x y z w) 0 3) j i = _
    rw [l3]
    by_cases y : j = 30 ∧ i = 0
    · rw [if_pos y, decide_eq_true y]
    · rw [if_neg y, decide_eq_false y]
      rfl
theorem start_ok (x y z w : Int32) : AG (mrg (inF x y z w) (inC (nrF x 1 3) (nrF y 1 4) (nrF z 1 4) (nrF w 1 10))) (inC (nrF x 1 3) (nrF y 1 4) (nrF z 1 4) (nrF w 1 10)) ∧ INV 7300 (mrg (inF x y z w) (inC (nrF x 1 3) (nrF y 1 4) (nrF z 1 4) (nrF w 1 10))) ∧ iMom (mrg (inF x y z w) (inC (nrF x 1 3) (nrF y 1 4) (nrF z 1 4) (nrF w 1 10))) ∧ tf (mrg (inF x y z w) (inC (nrF x 1 3) (nrF y 1 4) (nrF z 1 4) (nrF w 1 10))) 13 = 0 ∧ tf (mrg (inF x y z w) (inC (nrF x 1 3) (nrF y 1 4) (nrF z 1 4) (nrF w 1 10))) 0 = 0 ∧ tf (mrg (inF x y z w) (inC (nrF x 1 3) (nrF y 1 4) (nrF z 1 4) (nrF w 1 10))) 38 = 1 := by
  obtain ⟨a1, a2, a3, a4, a38, af, an, a11, a32, an1, ar, ab⟩ := inF_row x y z w
  have b1 := nrF_le (x := x) (lo := 1) (hi := 3) (by decide) (by decide)
  have b2 := nrF_le (x := y) (lo := 1) (hi := 4) (by decide) (by decide)
  have b3 := nrF_le (x := z) (lo := 1) (hi := 4) (by decide) (by decide)
  have b4 := nrF_le (x := w) (lo := 1) (hi := 10) (by decide) (by decide)
  generalize nrF x 1 3 = F at *
  generalize nrF y 1 4 = su at *
  generalize nrF z 1 4 = uu at *
  generalize nrF w 1 10 = bb at *
  generalize inF x y z w = I at *
  have m1 : ∀ j, j ≠ 5 → tf (mrg I (inC F su uu bb)) j = if j = 1 then F else if j = 2 then su else if j = 3 then uu else if j = 4 then bb else if j = 38 then 1 else 0 := fun j h5 => by
    rw [mrg_tf]
    by_cases h6 : j = 6
    · rw [if_pos (Or.inr h6), h6]
      rfl
    · rw [if_neg (by omega)]
      by_cases h1 : j = 1
      · rw [if_pos h1, h1, a1]
      by_cases h2 : j = 2
      · rw [if_neg h1, if_pos h2, h2, a2]
      by_cases h3 : j = 3
      · rw [if_neg h1, if_neg h2, if_pos h3, h3, a3]
      by_cases h4 : j = 4
      · rw [if_neg h1, if_neg h2, if_neg h3, if_pos h4, h4, a4]
      by_cases h38 : j = 38
      · rw [if_neg h1, if_neg h2, if_neg h3, if_neg h4, if_pos h38, h38, a38]
      · rw [if_neg h1, if_neg h2, if_neg h3, if_neg h4, if_neg h38, af j h1 h2 h3 h4 h38]
  have m5 : tf (mrg I (inC F su uu bb)) 5 = 1 := by
    rw [mrg_tf, if_pos (Or.inl rfl)]
    rfl
  have m2 : ∀ j i, j ≠ 32 → j ≠ 11 → j ≠ 48 → tn (mrg I (inC F su uu bb)) j i = 0 := fun j i h1 h2 h3 => by
    rw [mrg_tn]
    split
    · rfl
    · exact an j i h1 h2 h3
  have m11 : ∀ i, tn (mrg I (inC F su uu bb)) 11 i = 1 := fun i => by rw [mrg_tn, if_neg (by decide)]; exact a11 i
  have m32 : ∀ i, i < 3 → tn (mrg I (inC F su uu bb)) 32 i = 0 := fun i hi => by rw [mrg_tn, if_neg (by decide)]; exact a32 i hi
  have m3 : ∀ j i, tr (mrg I (inC F su uu bb)) j i = 0 := fun j i => by
    rw [mrg_tr]
    split
    · rfl
    · exact ar j i
  have m4 : ∀ j i, tb (mrg I (inC F su uu bb)) j i = decide (j = 30 ∧ i = 0) := fun j i => ab j i
  have mnb : NB 7300 (mrg I (inC F su uu bb)) := by
    refine ⟨fun j => ?_, fun j i => ?_⟩
    · by_cases h5 : j = 5
      · rw [h5, m5]; omega
      · rw [m1 j h5]
        (repeat' split) <;> omega
    · rw [mrg_tn]
      split
      · exact Nat.zero_le _
      · exact Nat.le_trans (an1 j i) (by decide)
  have c38 : tf (inC F su uu bb) 38 = 1 := rfl
  have c1 : tf (inC F su uu bb) 1 = F := rfl
  have c13 : tf (inC F su uu bb) 13 = 0 := rfl
  have c53 : tf (inC F su uu bb) 53 = 0 := rfl
  have cn : ∀ j i, tn (inC F su uu bb) j i = 0 := fun _ _ => rfl
  have cr : ∀ j i, tr (inC F su uu bb) j i = 0 := fun _ _ => rfl
  have cb : ∀ j i, tb (inC F su uu bb) j i = decide (j = 30 ∧ i = 0) := fun _ _ => rfl
  have c0 : ∀ j, j ≠ 5 → tf (inC F su uu bb) j = if j = 1 then F else if j = 2 then su else if j = 3 then uu else if j = 4 then bb else if j = 38 then 1 else 0 := fun j h5 => by
    show (if j = 1 then F else if j = 2 then su else if j = 3 then uu else if j = 4 then bb else if j = 5 then 1 else if j = 38 then 1 else 0) = _
    rw [if_neg h5]
  have c5 : tf (inC F su uu bb) 5 = 1 := rfl
  generalize mrg I (inC F su uu bb) = X at *
  generalize inC F su uu bb = C at *
  have n := fun j i (h : j ≠ 32 ∧ j ≠ 11 ∧ j ≠ 48) => m2 j i h.1 h.2.1 h.2.2
  refine ⟨⟨fun j hj => ?_, fun e he => ?_, fun i hi => ?_, fun i hi => ?_, fun i hi => ?_, fun e k he hk => ?_, fun i hi => ?_, fun e k he hk => ?_⟩, ?_, ?_, ?_, ?_, ?_⟩
  · by_cases h5 : j = 5
    · rw [h5, m5, c5]
    · rw [m1 j h5, c0 j h5]
  · have he0 : e = 0 := by omega
    subst he0
    simp only [cn, cr, cb, m3, m4, n 26 _ (by decide), n 37 _ (by decide), n 27 _ (by decide), n 28 _ (by decide), n 29 _ (by decide)]
    exact ⟨trivial, trivial, trivial, trivial, trivial, trivial, trivial, fun k hk => m32 _ (by omega), fun _ _ => trivial⟩
  · simp only [cn, cb, m4, n 39 _ (by decide), n 40 _ (by decide), n 41 _ (by decide), n 1 _ (by decide)]
    exact ⟨trivial, trivial, trivial, trivial, fun _ _ => trivial⟩
  · simp only [cn, cb, cr, m3, m4, n 16 _ (by decide), n 17 _ (by decide), n 18 _ (by decide), n 21 _ (by decide)]
    exact ⟨trivial, trivial, trivial, trivial, trivial, trivial⟩
  · omega
  · rw [cn] at hk; omega
  · omega
  · rw [cn] at hk; omega
  · have x13 : tf X 13 = 0 := m1 13 (by decide)
    have x38 : tf X 38 = 1 := m1 38 (by decide)
    have x1 : tf X 1 = F := m1 1 (by decide)
    have x53 : tf X 53 = 0 := m1 53 (by decide)
    have x2 : tf X 2 = su := m1 2 (by decide)
    have x3 : tf X 3 = uu := m1 3 (by decide)
    have x4 : tf X 4 = bb := m1 4 (by decide)
    have x6 : tf X 6 = 0 := m1 6 (by decide)
    refine ⟨?_, ?_, ?_, ?_, ?_, ?_, ?_, ?_, ?_, ?_, ?_, ?_, ?_, mnb, Nat.le_refl _⟩
    · unfold iNum
      rw [m5, x38, x6, x13, x53, x1, x2, x3, x4]
      omega
    · refine ⟨fun i hi => by omega, fun i => by rw [n 8 _ (by decide)]; omega, fun i hi => by omega, fun i j hij hj => by omega, fun i hi => m3 12 i, fun i hi => by omega⟩
    · intro c hc
      rw [n 16 _ (by decide), n 17 _ (by decide), x38]
      exact ⟨by omega, fun z => absurd rfl z, fun i hi => by omega, by omega⟩
    · intro c
      rw [n 18 _ (by decide)]
      exact Nat.pow_pos (by decide)
    · refine ⟨fun i => by rw [n 22 _ (by decide)]; omega, fun e he => ?_⟩
      have e26 := n 26 e (by decide)
      refine ⟨⟨by omega, fun k hk => by omega, fun i j hi => by omega⟩, by rw [n 28 _ (by decide)]; omega, fun k hk => by omega⟩
    · intro e ky he hky
      rw [n 26 e (by decide), m3]
      exact nI_0.symm
    · refine ⟨fun i => by rw [n 33 _ (by decide)]; omega, fun i => by rw [n 36 _ (by decide)]; exact Nat.pow_pos (by decide), fun e he => ?_⟩
      rw [n 37 e (by decide)]
      exact ⟨fun k hk => by omega, fun i j hi => by omega⟩
    · intro e he
      have he0 : e = 0 := by omega
      subst he0
      rw [n 28 _ (by decide), n 26 _ (by decide), x1]
      have hl : lkF X 0 (F - 1) ≤ 0 := lkF_bd _ (fun j hj => by rw [m32 _ (by omega)]; exact Nat.le_refl _)
      exact ⟨fun b hb => by rw [m32 _ (by omega)]; omega, by omega⟩
    · intro b hb
      rw [n 39 _ (by decide), n 40 _ (by decide), x38]
      omega
    · intro k hk
      omega
    · refine ⟨fun e he => ?_, fun i hi => ?_⟩
      · rw [n 26 _ (by decide), n 27 _ (by decide), n 28 _ (by decide), n 29 _ (by decide), n 37 _ (by decide), m4]
        exact ⟨rfl, rfl, rfl, rfl, rfl, decide_eq_false (by omega)⟩
      · rw [m4, m4]
        exact ⟨decide_eq_false (by omega), decide_eq_false (by omega)⟩
    · refine iWit.of (fun v hv => ?_)
      unfold WI
      rw [n 44 _ (by decide)]
      simp only [n 1 _ (by decide)]
      exact ⟨fun k hk => by omega, fun i hi z => absurd rfl z, fun i j _ _ z => absurd rfl z, fun k l hk => by omega⟩
    · intro c hc z
      rw [m4, decide_eq_false (by omega)] at z
      cases z
  · refine ⟨fun i => by rw [n 10 _ (by decide)]; omega, fun i z => by rw [n 10 _ (by decide), m11]; omega⟩
  · exact m1 13 (by decide)
  · exact m1 0 (by decide)
  · exact m1 38 (by decide)
/-! dead rows of moments: the class's words ask that none is 1 -/
def pch (A : TS) : TS := (A.1, fun j i => if j = 11 ∧ tf A 13 ≤ i then 0 else tn A j i, A.2.2.1, A.2.2.2)
theorem pch_tn {j i : Nat} : tn (pch A) j i = if j = 11 ∧ tf A 13 ≤ i then 0 else tn A j i := rfl
theorem pch_n {j i : Nat} (h : j ≠ 11) : tn (pch A) j i = tn A j i := by rw [pch_tn, if_neg (fun z => h z.1)]
theorem pch_l {i : Nat} (h : i < tf A 13) : tn (pch A) 11 i = tn A 11 i := by rw [pch_tn, if_neg (by omega)]
theorem pch_D (h : INV K A) : ∀ i, tn (pch A) 11 i ≠ 1 := fun i => by
  rw [pch_tn]
  split
  · decide
  · rename_i z
    exact h.2.1.1 i (by omega)
theorem pch_NB (h : NB K A) : NB K (pch A) := ⟨h.1, fun j i => by rw [pch_tn]; split; exact Nat.zero_le _; exact h.2 j i⟩
/-- alike but for moments from n on -/
def d11 (n : Nat) (X B : TS) : Prop := (∀ j, tf X j = tf B j) ∧ (∀ j i, ¬ (j = 11 ∧ n ≤ i) → tn X j i = tn B j i) ∧ (∀ j i, tr X j i = tr B j i) ∧ (∀ j i, tb X j i = tb B j i)
theorem d11_pch : d11 (tf A 13) (pch A) A := ⟨fun _ => rfl, fun j i h => by rw [pch_tn, if_neg h], fun _ _ => rfl, fun _ _ => rfl⟩
section
variable {n : Nat}
theorem d11.symm (h : d11 n X B) : d11 n B X := ⟨fun j => (h.1 j).symm, fun j i a => (h.2.1 j i a).symm, fun j i => (h.2.2.1 j i).symm, fun j i => (h.2.2.2 j i).symm⟩
theorem d11.AG (h : d11 n X B) (hn : tf B 13 ≤ n) : AG X B :=
  have k : ∀ j i, j ≠ 11 → tn X j i = tn B j i := fun j i a => h.2.1 j i (fun z => a z.1)
  ⟨fun j _ => h.1 j, fun e _ => ⟨k 26 e (by decide), k 37 e (by decide), k 27 e (by decide), k 28 e (by decide), k 29 e (by decide), h.2.2.2 30 e, h.2.2.2 31 e, fun x _ => k 32 _ (by decide), fun x _ => h.2.2.1 3 _⟩,
  fun i _ => ⟨k 39 i (by decide), k 40 i (by decide), k 41 i (by decide), h.2.2.2 42 i, fun x _ => k 1 _ (by decide)⟩,
  fun i _ => ⟨k 16 i (by decide), k 17 i (by decide), k 18 i (by decide), k 21 i (by decide), h.2.2.2 19 i, h.2.2.1 1 i⟩,
  fun i hi => ⟨k 5 i (by decide), k 6 i (by decide), k 7 i (by decide), k 8 i (by decide), k 10 i (by decide), h.2.1 11 i (by omega), h.2.2.1 9 i, h.2.2.1 12 i⟩,
  fun e x _ _ _ => ⟨k 22 _ (by decide), h.2.2.1 23 _, h.2.2.2 24 _, h.2.2.2 25 _⟩,
  fun i _ => ⟨fun j a b => k j i (by omega), h.2.2.1 51 i, h.2.2.2 52 i⟩,
  fun e x _ _ _ => ⟨k 33 _ (by decide), k 34 _ (by decide), k 35 _ (by decide), k 36 _ (by decide), h.2.2.1 2 _⟩⟩
theorem d11.sf (h : d11 n X B) (j v : Nat) : d11 n (sf X j v) (sf B j v) := ⟨fun x => by rw [tf_sf, tf_sf, h.1 x], h.2.1, h.2.2.1, h.2.2.2⟩
theorem d11.sn (h : d11 n X B) (j i v : Nat) : d11 n (sn X j i v) (sn B j i v) := ⟨h.1, fun x y a => by rw [tn_sn, tn_sn, h.2.1 x y a], h.2.2.1, h.2.2.2⟩
theorem d11.sr (h : d11 n X B) (j i : Nat) (v : Int32) : d11 n (sr X j i v) (sr B j i v) := ⟨h.1, h.2.1, fun x y => by rw [tr_sr, tr_sr, h.2.2.1 x y], h.2.2.2⟩
theorem d11.sb (h : d11 n X B) (j i : Nat) (v : Bool) : d11 n (sb X j i v) (sb B j i v) := ⟨h.1, h.2.1, h.2.2.1, fun x y => by rw [tb_sb, tb_sb, h.2.2.2 x y]⟩
theorem d11.s11 (h : d11 n X B) (v : Nat) : d11 (n + 1) (_root_.Jvm.Pilot.COneTripLaw_law_r7449_bb9836.sn X 11 n v) (_root_.Jvm.Pilot.COneTripLaw_law_r7449_bb9836.sn B 11 n v) := ⟨h.1, fun x y a => by
  rw [tn_sn, tn_sn]
  by_cases z : x = 11 ∧ y = n
  · rw [if_pos z, if_pos z]
  · rw [if_neg z, if_neg z]
    exact h.2.1 x y (by omega), h.2.2.1, h.2.2.2⟩
theorem d11.send (h : d11 n X B) (so e to op m c : Nat) (v : Int32) (b : Bool) : d11 n (sendF X so e to op m c v b) (sendF B so e to op m c v b) := by
  unfold sendF
  rw [h.1 53, h.1 54]
  split
  · exact h.sf _ _
  · exact ((((((((h.sn _ _ _).sn _ _ _).sn _ _ _).sn _ _ _).sn _ _ _).sn _ _ _).sr _ _ _).sb _ _ _).sf _ _
theorem d11.begL (h : d11 n X B) (e op : Nat) : ∀ b, d11 n (begL X e op b) (begL B e op b)
  | 0 => h
  | b + 1 => by
    have ih := d11.begL h e op b
    show d11 n (sendOpF _ 1 e b op) (sendOpF _ 1 e b op)
    unfold sendOpF
    rw [ih.2.1 6 op (by omega)]
    exact ih.send _ _ _ _ _ _ _ _
theorem d11.begC (h : d11 n X B) (c op : Nat) : d11 n (begC X c op) (begC B c op) := by
  have h0 : d11 n (begC0 X c op) (begC0 B c op) := by
    unfold begC0
    rw [h.2.1 17 c (by omega), h.2.1 5 op (by omega), h.2.1 6 op (by omega)]
    exact (((h.sn _ _ _).sb _ _ _).sr _ _ _).send _ _ _ _ _ _ _ _
  unfold _root_.Jvm.Pilot.COneTripLaw_law_r7449_bb9836.begC
  rw [h.2.1 7 op (by omega), h.2.1 17 c (by omega), h.1 1]
  split
  · exact h0.begL _ _ _
  · exact h0
theorem d11.fin (h : d11 n X B) (c op : Nat) : d11 n (finC X c op) (finC B c op) := by
  unfold finC
  rw [h.1 14, h.1 15, h.2.2.1 1 c]
  exact (((h.sf _ _).sn _ _ _).sr _ _ _).sf _ _
theorem d11.fia (h : d11 n X B) (c op : Nat) : d11 n (fiaC X c op) (fiaC B c op) := by
  unfold fiaC
  rw [h.2.2.2 19 c, h.2.1 18 c (by omega), h.1 1, h.2.1 7 op (by omega), h.2.1 21 c (by omega)]
  split
  · exact (h.fin _ _).sn _ _ _
  · exact h
theorem d11.rcl (h : d11 n X B) (so e c op w : Nat) (x : Int32) (sa : Bool) (ho : op < n) : d11 n (rclC X so e c op w x sa) (rclC B so e c op w x sa) := by
  unfold rclC
  rw [h.2.1 17 c (by omega), h.2.1 16 c (by omega), h.2.1 11 op (by omega), h.2.1 5 op (by omega), h.2.1 6 op (by omega), h.2.1 18 c (by omega)]
  split
  · split
    · exact h.send _ _ _ _ _ _ _ _
    · split
      · exact (h.sn _ _ _).fia _ _
      · unfold ranC
        split
        · exact ((h.sb _ _ _).sr _ _ _).fin _ _
        · exact ((h.sb _ _ _).sr _ _ _).fia _ _
  · exact h
end
theorem opn_pch {c : Nat} (h : INV K A) (hc : c < 4) : opnF (pch A) c = opnF A c := by
  have q := (h.2.2.1 c hc).1
  unfold opnF
  rw [pch_n (by decide)]
  by_cases y : tn A 16 c = 0
  · rw [decide_eq_false (fun z => z.1 y), decide_eq_false (fun z => z.1 y)]
  · rw [pch_l (by omega)]
theorem lrn_pch {c : Nat} (h : INV K A) (hc : c < 4) : d11 (tf A 13) (lrnC (pch A) c) (lrnC A c) := by
  have d := d11_pch (A := A)
  unfold lrnC
  rw [opn_pch h hc, pch_n (by decide), pch_n (by decide)]
  show d11 (tf A 13) (if tn A 17 c = tf A 5 - 1 then pch A else if opnF A c = true then begC (sn (pch A) 17 c (tf A 5 - 1)) c (tn A 16 c - 1) else sn (pch A) 17 c (tf A 5 - 1)) _
  split
  · exact d
  · split
    · exact (d.sn _ _ _).begC _ _
    · exact d.sn _ _ _
theorem asn_pch {c : Nat} : asnF (pch A) c = asnF A c := by
  unfold asnF
  rw [pch_n (by decide), pch_n (by decide)]
theorem ask_pch {c wh ky : Nat} {v : Int32} : d11 (tf A 13 + 1) (askC (pch A) c wh ky v) (askC A c wh ky v) := by
  have d := d11_pch (A := A)
  unfold askC asC1 nwO
  rw [asn_pch]
  show d11 (tf A 13 + 1) (begC (sn (sf (sr (sn (sn (sr (sn (sn (sn (sn (sf (sf (pch A) 14 (tf A 14 + 1)) 13 (tf A 13 + 1)) 5 (tf A 13) c) 6 (tf A 13) (asnF A c)) 7 (tf A 13) wh) 8 (tf A 13) ky) 9 (tf A 13) v) 10 (tf A 13) (tf A 14 + 1)) 11 (tf A 13) 0) 12 (tf A 13) 0) 6 (tf A 6 + 1)) 16 c (tf A 13 + 1)) c (tf A 13)) (begC (sn (sf (sr (sn (sn (sr (sn (sn (sn (sn (sf (sf A 14 (tf A 14 + 1)) 13 (tf A 13 + 1)) 5 (tf A 13) c) 6 (tf A 13) (asnF A c)) 7 (tf A 13) wh) 8 (tf A 13) ky) 9 (tf A 13) v) 10 (tf A 13) (tf A 14 + 1)) 11 (tf A 13) 0) 12 (tf A 13) 0) 6 (tf A 6 + 1)) 16 c (tf A 13 + 1)) c (tf A 13))
  exact ((((((((((((d.sf _ _).sf _ _).sn _ _ _).sn _ _ _).sn _ _ _).sn _ _ _).sr _ _ _).sn _ _ _).s11 _).sr _ _ _).sf _ _).sn _ _ _).begC _ _
theorem cli_pch {c t : Nat} (h : INV K A) (hc : c < 4) : cliC (pch A) c t = cliC A c t := by
  have o := opn_pch h hc
  unfold cliC
  split <;> first | rfl | (rw [o]; done) | (rw [o]; rfl)
/-- the audit -/
theorem db_pch {x y : Nat} (hx : x < tf A 13) : dbF (pch A) x y = dbF A x y := by
  unfold dbF
  rw [pch_l hx, pch_n (by decide)]
theorem lg_pch {e i : Nat} : lgO (pch A) e i = lgO A e i := pch_n (by decide)
theorem va_pch {e ky : Nat} (n : Nat) : vaF (pch A) e ky n = vaF A e ky n := vaF_same (fun i => pch_n (by decide)) (fun i => pch_n (by decide)) (fun i => pch_n (by decide)) (fun i => rfl) e ky n
theorem ij_pch {e i : Nat} (hl : ∀ k, k < tn A 26 e → lgO A e k < tf A 13) : ∀ n, n ≤ tn A 26 e → ijC (pch A) e i n = ijC A e i n
  | 0, _ => rfl
  | n + 1, hn => by
    unfold ijC
    rw [ij_pch hl n (by omega), lg_pch, lg_pch, pch_n (by decide), pch_n (by decide), db_pch (hl n (by omega))]
theorem io_pch {e : Nat} (hl : ∀ k, k < tn A 26 e → lgO A e k < tf A 13) : ∀ n, ioC (pch A) e n = ioC A e n
  | 0 => rfl
  | n + 1 => by
    unfold ioC
    rw [io_pch hl n, pch_n (by decide), ij_pch hl _ (Nat.le_refl _)]
theorem st_pch {e op : Nat} : ∀ n, stB (pch A) e op n = stB A e op n ∧ stN (pch A) e op n = stN A e op n
  | 0 => ⟨rfl, rfl⟩
  | n + 1 => by
    obtain ⟨a, b⟩ := st_pch (e := e) (op := op) n
    unfold stB stN
    rw [a, b, lg_pch]
    exact ⟨rfl, rfl⟩
theorem ft_pch {e x m : Nat} (hl : ∀ k, k < m → lgO A e k < tf A 13) (hx : x < tf A 13) : ∀ j, j ≤ m → ftL (pch A) e x m j = ftL A e x m j ∧ ftM (pch A) e x m j = ftM A e x m j
  | 0, _ => ⟨rfl, rfl⟩
  | j + 1, hj => by
    obtain ⟨a, b⟩ := ft_pch hl hx j (by omega)
    unfold ftL ftM
    rw [a, b, lg_pch, db_pch (hl _ (by omega)), db_pch hx, pch_n (by decide), pch_n (by decide)]
    exact ⟨rfl, rfl⟩
theorem se_pch {e x lo : Nat} : ∀ n, seC (pch A) e x lo n = seC A e x lo n
  | 0 => rfl
  | n + 1 => by
    unfold seC
    rw [se_pch n, va_pch, pch_n (by decide)]
    rfl
theorem pa_pch {e : Nat} (hl : ∀ k, k < tn A 26 e → lgO A e k < tf A 13) : ∀ n, n ≤ tf A 13 → paC (pch A) e n = paC A e n
  | 0, _ => rfl
  | n + 1, hn => by
    have hf : fiF (pch A) e n = fiF A e n := by
      unfold fiF
      rw [pch_n (by decide), (ft_pch hl (by omega) _ (Nat.le_refl _)).1, (ft_pch hl (by omega) _ (Nat.le_refl _)).2, se_pch]
    have hs : soF (pch A) e n = soF A e n := by
      unfold soF
      rw [pch_n (by decide), (st_pch _).1, (st_pch _).2]
    unfold paC
    rw [pa_pch hl n (by omega), pch_l (by omega), pch_n (by decide), hf, hs]
theorem aud_pch (h : INV K A) : audC (pch A) = audC A := by
  have e5 : tf A 5 = tf A 38 := h.1.1
  have e6 : tf A 6 = tf A 13 := h.1.2.1
  have e1 := h.1.2.2.1
  have hl := (h.2.2.2.2.1.2 (tf A 5 - 1) (by omega)).1.2.1
  unfold audC
  show (if tb A 30 (tf A 5 - 1) = false then nI 0 else one9 (!(ioC (pch A) (tf A 5 - 1) (tn (pch A) 26 (tf A 5 - 1)) && paC (pch A) (tf A 5 - 1) (tf A 6)))) = _
  rw [pch_n (by decide), io_pch hl, pa_pch hl _ (by omega)]
end
