/-! ===== a letter at a backup, at a client; a reset at a witness; letters doubled ===== -/
section
variable {K : Nat} {A B X : TS}
theorem df.keep {F N R T : List Nat} {C : TS} (h : df B A F N R T) (k : keepL B C) : df C A ([53, 54] ++ F) ([] ++ N) ([] ++ R) ([] ++ T) := k.df.trans h
theorem snow_row {e op : Nat} : tf (snowF A e op) 14 = tf A 14 ∧ (∀ j i, j < 29 → tn (snowF A e op) j i = tn A j i) ∧ tf (snowF A e op) 13 = tf A 13 := by
  unfold snowF
  split
  · exact ⟨rfl, fun _ _ _ => rfl, rfl⟩
  · split
    · exact ⟨(ans_keep ..).1 14 (by decide) (by decide), fun j i a => (ans_keep ..).2.1 j i (by omega), (ans_keep ..).1 13 (by decide) (by decide)⟩
    · obtain ⟨a, b, c⟩ := syn_keep (sb A 25 (600 * e + (placeF A e op - 1)) true) e
      exact ⟨a 14 (by decide) (by decide), fun j i q => b j i (by omega) (by omega), a 13 (by decide) (by decide)⟩
theorem syc_row {e : Nat} : tf (sycF A e) 14 = tf A 14 ∧ (∀ j i, j < 29 → tn (sycF A e) j i = tn A j i) ∧ tf (sycF A e) 13 = tf A 13 := by
  obtain ⟨a, b, c⟩ := syn_keep A e
  unfold sycF
  split
  · have k := resL_keep (synF A e) e (tf (synF A e) 1)
    exact ⟨(k.1 14 (by decide) (by decide)).trans (a 14 (by decide) (by decide)), fun j i q => (k.2.1 j i (by omega)).trans (b j i (by omega) (by omega)), (k.1 13 (by decide) (by decide)).trans (a 13 (by decide) (by decide))⟩
  · exact ⟨a 14 (by decide) (by decide), fun j i q => b j i (by omega) (by omega), a 13 (by decide) (by decide)⟩
theorem iMom.send {so e to op n c : Nat} {v : Int32} {b : Bool} (h : iMom A) : iMom (sendF A so e to op n c v b) := h.df (send_keep ..).df (by decide) (by decide) (by decide)
theorem send_13 {so e to op n c : Nat} {v : Int32} {b : Bool} : tf (sendF A so e to op n c v b) 13 = tf A 13 := (send_keep ..).1 13 (by decide) (by decide)
/-- a letter doubled -/
theorem INV.twi {k : Nat} (h : INV K A) (hk : k < tf A 53) : INV (K + 1) (twiF A k) := by
  have l := h.2.2.2.2.2.2.2.2.2.1 k hk
  exact h.send l (Nat.le_succ_of_le (h.nb.2 _ _)) (Nat.le_succ_of_le (h.nb.2 _ _)) (Nat.le_succ_of_le (h.nb.2 _ _))
/-- SYNC -/
theorem rsynA_row {b e n : Nat} : (∀ j, tf (rsynA A b e n) j = tf A j) ∧ (∀ j i, j ≠ 39 → j ≠ 40 → tn (rsynA A b e n) j i = tn A j i) ∧ (∀ j i, tr (rsynA A b e n) j i = tr A j i) ∧ (∀ j i, tb (rsynA A b e n) j i = tb A j i) ∧ (∀ x, tn (rsynA A b e n) 39 x = if x = b ∧ tn A 39 b < e then e else tn A 39 x) ∧ (∀ x, tn (rsynA A b e n) 40 x = if x = b ∧ (tn A 39 b < e ∨ tn A 40 b < n) then n else tn A 40 x) := by
  unfold rsynA
  by_cases h1 : tn A 39 b < e
  · rw [if_pos h1]
    refine ⟨fun _ => rfl, fun j i p q => ?_, fun _ _ => rfl, fun _ _ => rfl, fun x => ?_, fun x => ?_⟩
    · rw [tn_sn, if_neg (by omega), tn_sn, if_neg (by omega)]
    · rw [tn_sn, if_neg (by omega), tn_sn]
      by_cases y : x = b
      · rw [if_pos ⟨rfl, y⟩, if_pos ⟨y, h1⟩]
      · rw [if_neg (fun z => y z.2), if_neg (fun z => y z.1)]
    · rw [tn_sn]
      by_cases y : x = b
      · rw [if_pos ⟨rfl, y⟩, if_pos ⟨y, Or.inl h1⟩]
      · rw [if_neg (fun z => y z.2), if_neg (fun z => y z.1), tn_sn, if_neg (by omega)]
  · rw [if_neg h1]
    by_cases h2 : tn A 40 b < n
    · rw [if_pos h2]
      refine ⟨fun _ => rfl, fun j i p q => ?_, fun _ _ => rfl, fun _ _ => rfl, fun x => ?_, fun x => ?_⟩
      · rw [tn_sn, if_neg (by omega)]
      · rw [tn_sn, if_neg (by omega), if_neg (fun z => h1 z.2)]
      · rw [tn_sn]
        by_cases y : x = b
        · rw [if_pos ⟨rfl, y⟩, if_pos ⟨y, Or.inr h2⟩]
        · rw [if_neg (fun z => y z.2), if_neg (fun z => y z.1)]
    · rw [if_neg h2]
      exact ⟨fun _ => rfl, fun _ _ _ _ => rfl, fun _ _ => rfl, fun _ _ => rfl, fun x => by rw [if_neg (fun z => h1 z.2)], fun x => by rw [if_neg (fun z => z.2.elim h1 h2)]⟩
theorem INV.rsyn {b e n c : Nat} (h : INV K A) (he : e < tf A 38) (hb : b < tf A 1) (hn : n ≤ tn A 26 e) (hc : c ≤ K) : INV (K + 1) (rsynF A b e n c) := by
  unfold rsynF
  by_cases hlt : e < tn A 39 b
  · rw [if_pos hlt]
    exact h.mono (by omega)
  rw [if_neg hlt]
  obtain ⟨r1, r2, r3, r4, r5, r6⟩ := rsynA_row (A := A) (b := b) (e := e) (n := n)
  have hq := h.2.2.2.2.2.2.2.2.1 b hb
  have nK : n ≤ K := Nat.le_trans hn (h.nb.2 _ _)
  have d : df (rsynA A b e n) A [] [39, 40] [] [] := ⟨fun j _ => r1 j, fun j _ hj i => by
    simp only [List.mem_cons, List.not_mem_nil, or_false, not_or] at hj
    exact r2 j i hj.1 hj.2, fun j _ _ i => r3 j i, fun j _ _ i => r4 j i⟩
  have nbn : NB K (rsynA A b e n) := ⟨fun j => by rw [r1]; exact h.nb.1 j, fun j i => by
    by_cases y : j = 39
    · rw [y, r5]
      split
      · have := h.nb.1 38; omega
      · exact h.nb.2 _ _
    · by_cases z : j = 40
      · rw [z, r6]
        split
        · exact nK
        · exact h.nb.2 _ _
      · rw [r2 j i y z]
        exact h.nb.2 _ _⟩
  have h1 : INV K (rsynA A b e n) := by
    obtain ⟨h1, h2, h3, h4, h5, h6, h7, h8, h9, h10, h11, h12, h13, h14, h15⟩ := h
    refine ⟨h1.df d (by decide) (by rw [r1]; exact h1.2.2.2.2.2.1), h2.df d (by decide) (by decide) (by decide), h3.df d (by decide) (by decide), h4.df d (by decide) (by decide), h5.df d (by decide) (by decide) (by decide), h6.df d (by decide) (by decide) (by decide), h7.df d (by decide) (by decide) (by decide), h8.df d (by decide) (by decide), ?_, h10.df d (by decide) (by decide) ⟨r1 53, fun j p q i => r2 j i (by omega) (by omega)⟩, h11.df d (by decide) (by decide) (by decide), h12.df d (by decide) (by decide), h13.df d (by decide) (by decide), nbn, h15⟩
    intro x hx
    rw [r1] at hx
    rw [r5, r6, r1, r2 26 _ (by decide) (by decide)]
    by_cases y : x = b
    · subst y
      by_cases z : tn A 39 x < e
      · rw [if_pos ⟨rfl, z⟩, if_pos ⟨rfl, Or.inl z⟩]
        exact ⟨he, hn⟩
      · have e39 : tn A 39 x = e := by omega
        rw [if_neg (fun t => z t.2)]
        refine ⟨(h9 x hx).1, ?_⟩
        split
        · rw [e39]; exact hn
        · exact (h9 x hx).2
    · rw [if_neg (fun t => y t.1), if_neg (fun t => y t.1)]
      exact h9 x hx
  have e39 : tn (rsynA A b e n) 39 b = e := by
    rw [r5]
    by_cases z : tn A 39 b < e
    · rw [if_pos ⟨rfl, z⟩]
    · rw [if_neg (fun t => z t.2)]; omega
  have k40 := (h1.2.2.2.2.2.2.2.2.1 b (by rw [r1]; exact hb)).2
  rw [e39] at k40
  have bK : b ≤ K := by have := h.nb.1 1; omega
  exact h1.send (LET_no (by decide) (by rw [r1]; exact he) (by rw [r1]; exact hb) (fun _ => k40)) (by omega) (Nat.le_succ_of_le (h1.nb.2 _ _)) (by omega)
theorem rsyn_row {b e n c : Nat} : tf (rsynF A b e n c) 14 = tf A 14 ∧ (∀ j i, j < 29 → tn (rsynF A b e n c) j i = tn A j i) ∧ tf (rsynF A b e n c) 13 = tf A 13 := by
  obtain ⟨r1, r2, r3, r4, r5, r6⟩ := rsynA_row (A := A) (b := b) (e := e) (n := n)
  unfold rsynF
  split
  · exact ⟨rfl, fun _ _ _ => rfl, rfl⟩
  · exact ⟨((send_keep ..).1 14 (by decide) (by decide)).trans (r1 14), fun j i a => ((send_keep ..).2.1 j i (by omega)).trans (r2 j i (by omega) (by omega)), send_13.trans (r1 13)⟩
/-- a client's letters -/
theorem INV.s18 {c w : Nat} (h : INV K A) (hw : w < tf A 1) : INV K (sn A 18 c (tn A 18 c ||| 2 ^ w)) := by
  have d := df_sn (A := A) (j := 18) (x := c) (v := tn A 18 c ||| 2 ^ w)
  have o := Nat.or_lt_two_pow (n := tf A 1) (h.2.2.2.1 c) (Nat.pow_lt_pow_right (by decide) hw)
  have p8 := pow3 h.1.2.2.2.2.2.2.2.1
  obtain ⟨h1, h2, h3, h4, h5, h6, h7, h8, h9, h10, h11, h12, h13, h14, h15⟩ := h
  refine ⟨h1.df d (by decide) (by rw [(d).1 53 (by decide)]; exact h1.2.2.2.2.2.1), h2.df d (by decide) (by decide) (by decide), h3.df d (by decide) (by decide), ?_, h5.df d (by decide) (by decide) (by decide), h6.df d (by decide) (by decide) (by decide), h7.df d (by decide) (by decide) (by decide), h8.df d (by decide) (by decide), h9.df d (by decide) (by decide), h10.df d (by decide) (by decide) ⟨rfl, fun j a b i => by rw [tn_sn, if_neg (by omega)]⟩, h11.df d (by decide) (by decide) (by decide), h12.df d (by decide) (by decide), h13.df d (by decide) (by decide), h14.sn (by omega), h15⟩
  intro x
  rw [tn_sn]
  split
  · exact o
  · exact h4 x
theorem INV.sans {c : Nat} {v : Int32} (h : INV K A) : INV K (sr (sr (sb A 19 c true) 20 c v) 1 c v) := by
  have d : df (sr (sr (sb A 19 c true) 20 c v) 1 c v) A [] [] [20, 1] [19] := (df_sr.trans (df_sr.trans df_sb)).mono (by decide) (by decide) (by decide) (by decide)
  obtain ⟨h1, h2, h3, h4, h5, h6, h7, h8, h9, h10, h11, h12, h13, h14, h15⟩ := h
  refine ⟨h1.df d (by decide) (by rw [(d).1 53 (by decide)]; exact h1.2.2.2.2.2.1), h2.df d (by decide) (by decide) (by decide), h3.df d (by decide) (by decide), h4.df d (by decide) (by decide), h5.df d (by decide) (by decide) (by decide), h6.df d (by decide) (by decide) (by decide), h7.df d (by decide) (by decide) (by decide), h8.df d (by decide) (by decide), h9.df d (by decide) (by decide), h10.df d (by decide) (by decide) ⟨rfl, fun _ _ _ _ => rfl⟩, h11.df d (by decide) (by decide) (by decide), h12.df d (by decide) (by decide), ?_, h14, h15⟩
  intro x hx hb
  have hb' : tb (sb A 19 c true) 19 x = true := hb
  show tr (sr (sr (sb A 19 c true) 20 c v) 1 c v) 1 x = tr (sr (sr (sb A 19 c true) 20 c v) 1 c v) 20 x
  rw [tr_sr, tr_sr, tr_sr, tr_sr, tr_sb]
  by_cases y : x = c
  · rw [if_pos ⟨rfl, y⟩, if_neg (by omega), if_pos ⟨rfl, y⟩]
  · rw [if_neg (fun z => y z.2), if_neg (fun z => y z.2), if_neg (fun z => y z.2), if_neg (fun z => y z.2)]
    rw [tb_sb, if_neg (fun z => y z.2)] at hb'
    exact h13 x hx hb'
theorem INV.fin {c op : Nat} (h : INV K A) (hm : iMom A) (hc : c < 4) (ho : op < tf A 13) : INV (K + 2) (finC A c op) ∧ iMom (finC A c op) := by
  have d : df (finC A c op) A [15, 14] [11] [12] [] := (df_sf.trans (df_sr.trans (df_sn.trans df_sf))).mono (by decide) (by decide) (by decide) (by decide)
  have k1 := h.nb.1 14
  have k2 := h.nb.1 15
  have k7 := h.k7
  have w11 : ∀ i, tn (finC A c op) 11 i = if i = op then tf A 14 + 1 + 1 else tn A 11 i := fun i => by
    show tn (sn (sf A 14 (tf A 14 + 1)) 11 op (tf A 14 + 1 + 1)) 11 i = _
    rw [tn_sn]
    by_cases y : i = op
    · rw [if_pos ⟨rfl, y⟩, if_pos y]
    · rw [if_neg (fun z => y z.2), if_neg y, tn_sf]
  have w12 : ∀ i, i ≠ op → tr (finC A c op) 12 i = tr A 12 i := fun i hi => by
    show tr (sr (sn (sf A 14 (tf A 14 + 1)) 11 op (tf A 14 + 1 + 1)) 12 op (tr A 1 c)) 12 i = _
    rw [tr_sr, if_neg (fun z => hi z.2)]
    rfl
  have w14 : tf (finC A c op) 14 = tf A 14 + 1 := by
    unfold finC
    rw [tf_sf, if_neg (by decide), tf_sr, tf_sn, tf_sf, if_pos rfl]
  have w10 : ∀ i, tn (finC A c op) 10 i = tn A 10 i := d.2.1 10 (by decide) (by decide)
  have nbn : NB (K + 2) (finC A c op) := (((((h.nb.mono (K' := K + 2) (by omega)).sf (by omega)).sn (by omega)).sr).sf (by omega))
  have e53 : tf (finC A c op) 53 = tf A 53 := d.1 53 (by decide)
  have hsl : sl (finC A c op) A := ⟨e53, fun j a b i => by
    show tn (sn (sf A 14 (tf A 14 + 1)) 11 op (tf A 14 + 1 + 1)) j i = _
    rw [tn_sn, if_neg (by omega), tn_sf]⟩
  generalize finC A c op = B at *
  refine ⟨?_, ?_⟩
  · obtain ⟨h1, h2, h3, h4, h5, h6, h7, h8, h9, h10, h11, h12, h13, h14, h15⟩ := h
    refine ⟨h1.df d (by decide) (by rw [e53]; exact h1.2.2.2.2.2.1), ?_, h3.df d (by decide) (by decide), h4.df d (by decide) (by decide), h5.df d (by decide) (by decide) (by decide), h6.df d (by decide) (by decide) (by decide), h7.df d (by decide) (by decide) (by decide), h8.df d (by decide) (by decide), h9.df d (by decide) (by decide), h10.df d (by decide) (by decide) hsl, h11.df d (by decide) (by decide) (by decide), h12.df d (by decide) (by decide), h13.df d (by decide) (by decide), nbn, by omega⟩
    obtain ⟨k1, k2, k3, k4, k5, k6⟩ := h2
    have f13 : tf B 13 = tf A 13 := d.1 13 (by decide)
    have n5 : ∀ i, tn B 5 i = tn A 5 i := d.2.1 5 (by decide) (by decide)
    have n6 : ∀ i, tn B 6 i = tn A 6 i := d.2.1 6 (by decide) (by decide)
    have n8 : ∀ i, tn B 8 i = tn A 8 i := d.2.1 8 (by decide) (by decide)
    refine ⟨fun i hi => ?_, fun i => by rw [n8]; exact k2 i, fun i hi => by rw [f13] at hi; rw [n5]; exact k3 i hi, fun i j hij hj he => ?_, fun i hi => ?_, fun i hi => ?_⟩
    · rw [f13] at hi
      rw [w11]
      split
      · omega
      · exact k1 i hi
    · rw [f13] at hj
      rw [n5, n5] at he
      rw [n6, n6]
      exact k4 i j hij hj he
    · rw [f13] at hi
      rw [w12 i (by omega)]
      exact k5 i hi
    · rw [f13] at hi
      rw [w11]
      split
      · exact fun z => by omega
      · rename_i y
        rw [w12 i y]
        exact k6 i hi
  · refine ⟨fun i => ?_, fun i => ?_⟩
    · rw [w10, w14]
      have := hm.1 i
      omega
    · rw [w10, w11]
      split
      · have := hm.1 i
        omega
      · exact hm.2 i
theorem INV.s21 {c v : Nat} (h : INV K A) (hv : v ≤ K) : INV K (sn A 21 c v) := by
  have d := df_sn (A := A) (j := 21) (x := c) (v := v)
  obtain ⟨h1, h2, h3, h4, h5, h6, h7, h8, h9, h10, h11, h12, h13, h14, h15⟩ := h
  exact ⟨h1.df d (by decide) (by rw [(d).1 53 (by decide)]; exact h1.2.2.2.2.2.1), h2.df d (by decide) (by decide) (by decide), h3.df d (by decide) (by decide), h4.df d (by decide) (by decide), h5.df d (by decide) (by decide) (by decide), h6.df d (by decide) (by decide) (by decide), h7.df d (by decide) (by decide) (by decide), h8.df d (by decide) (by decide), h9.df d (by decide) (by decide), h10.df d (by decide) (by decide) ⟨rfl, fun j a b i => by rw [tn_sn, if_neg (by omega)]⟩, h11.df d (by decide) (by decide) (by decide), h12.df d (by decide) (by decide), h13.df d (by decide) (by decide), h14.sn hv, h15⟩
theorem fin_13 {c op : Nat} : tf (finC A c op) 13 = tf A 13 := by
  unfold finC
  rw [tf_sf, if_neg (by decide), tf_sr, tf_sn, tf_sf, if_neg (by decide)]
theorem INV.fia {c op : Nat} (h : INV K A) (hm : iMom A) (hc : c < 4) (ho : op < tf A 13) : INV (K + 3) (fiaC A c op) ∧ iMom (fiaC A c op) ∧ tf (fiaC A c op) 13 = tf A 13 := by
  unfold fiaC
  split
  · obtain ⟨a, b⟩ := h.fin hm hc ho
    have q := h.nb.2 21 c
    exact ⟨(a.mono (K' := K + 3) (by omega)).s21 (by omega), b.df df_sn (by decide) (by decide) (by decide), fin_13 (A := A) (c := c) (op := op)⟩
  · exact ⟨h.mono (by omega), hm, rfl⟩
/-- alike but for these rows -/
def rlq (F N R : List Nat) (X B : TS) : Prop := (∀ j, j ∉ F → tf X j = tf B j) ∧ (∀ j i, j ∉ N → tn X j i = tn B j i) ∧ (∀ j i, j ∉ R → tr X j i = tr B j i) ∧ (∀ j i, tb X j i = tb B j i)
theorem rlq.rfl {F N R : List Nat} : rlq F N R A A := ⟨fun _ _ => Eq.refl _, fun _ _ _ => Eq.refl _, fun _ _ _ => Eq.refl _, fun _ _ => Eq.refl _⟩
theorem rlq.EQ (h : rlq [5, 6] [1] [1, 2, 3] X B) : EQ X B := ⟨fun j a b => h.1 j (by simp [a, b]), fun j i a => h.2.1 j i (by simp [a]), fun j i a b c => h.2.2.1 j i (by simp [a, b, c]), h.2.2.2⟩
theorem rlq.AG (h : rlq [0] [43, 44] [20] X B) : AG X B := AG.of (fun j a => h.1 j (by simp [a])) (fun j i a b => h.2.1 j i (by simp [a, b])) (fun j i a => h.2.2.1 j i (by simp [a])) h.2.2.2
section
variable {F N R : List Nat}
theorem rlq.sf (h : rlq F N R X B) (j v : Nat) : rlq F N R (sf X j v) (sf B j v) := ⟨fun x a => by rw [tf_sf, tf_sf, h.1 x a], h.2.1, h.2.2.1, h.2.2.2⟩
theorem rlq.sn (h : rlq F N R X B) (j i v : Nat) : rlq F N R (sn X j i v) (sn B j i v) := ⟨h.1, fun x y a => by rw [tn_sn, tn_sn, h.2.1 x y a], h.2.2.1, h.2.2.2⟩
theorem rlq.sr (h : rlq F N R X B) (j i : Nat) (v : Int32) : rlq F N R (sr X j i v) (sr B j i v) := ⟨h.1, h.2.1, fun x y a => by rw [tr_sr, tr_sr, h.2.2.1 x y a], h.2.2.2⟩
theorem rlq.sb (h : rlq F N R X B) (j i : Nat) (v : Bool) : rlq F N R (sb X j i v) (sb B j i v) := ⟨h.1, h.2.1, h.2.2.1, fun x y => by rw [tb_sb, tb_sb, h.2.2.2 x y]⟩
theorem rlq.or (h : rlq F N R X B) {j i : Nat} {v : Int32} (hj : j ∈ R) : rlq F N R X (_root_.Jvm.Pilot.COneTripLaw_law_r7449_bb9836.sr B j i v) := ⟨h.1, h.2.1, fun x y a => by rw [tr_sr, if_neg (fun z : x = j ∧ y = i => a (by rw [z.1]; exact hj))]; exact h.2.2.1 x y a, h.2.2.2⟩
theorem rlq.ol (h : rlq F N R X B) {j i : Nat} {v : Int32} (hj : j ∈ R) : rlq F N R (_root_.Jvm.Pilot.COneTripLaw_law_r7449_bb9836.sr X j i v) B := ⟨h.1, h.2.1, fun x y a => by rw [tr_sr, if_neg (fun z : x = j ∧ y = i => a (by rw [z.1]; exact hj))]; exact h.2.2.1 x y a, h.2.2.2⟩
theorem rlq.send (h : rlq F N R X B) (h1 : 53 ∉ F) (h2 : 54 ∉ F) (so e to op n c : Nat) (v : Int32) (b : Bool) : rlq F N R (sendF X so e to op n c v b) (sendF B so e to op n c v b) := by
  unfold sendF
  rw [h.1 53 h1, h.1 54 h2]
  split
  · exact h.sf _ _
  · exact ((((((((h.sn _ _ _).sn _ _ _).sn _ _ _).sn _ _ _).sn _ _ _).sn _ _ _).sr _ _ _).sb _ _ _).sf _ _
def fnq (A : TS) (op : Nat) (v : Int32) : TS := _root_.Jvm.Pilot.COneTripLaw_law_r7449_bb9836.sf (_root_.Jvm.Pilot.COneTripLaw_law_r7449_bb9836.sr (_root_.Jvm.Pilot.COneTripLaw_law_r7449_bb9836.sn (_root_.Jvm.Pilot.COneTripLaw_law_r7449_bb9836.sf A 14 (tf A 14 + 1)) 11 op (tf A 14 + 1 + 1)) 12 op v) 15 (tf A 15 + 1)
theorem end_fnq {c op : Nat} {v : Int32} (h16 : tn X 16 c = op + 1) : endF X c v = fnq X op v := by
  unfold endF fnq
  rw [h16, show op + 1 - 1 = op by omega]
theorem rlq.fnq (h : rlq F N R X B) (h1 : 14 ∉ F) (h2 : 15 ∉ F) (op : Nat) (v : Int32) : rlq F N R (fnq X op v) (fnq B op v) := by
  unfold _root_.Jvm.Pilot.COneTripLaw_law_r7449_bb9836.fnq
  rw [h.1 14 h1, h.1 15 h2]
  exact (((h.sf _ _).sn _ _ _).sr _ _ _).sf _ _
/-- an ending by accepts: both sides -/
theorem rlq.rc {c op : Nat} (h : rlq F N R X B) (h1 : 14 ∉ F) (h2 : 15 ∉ F) (h3 : 1 ∉ F) (h4 : 18 ∉ N) (hf : tf X 1 = tf A 1) (h16 : tn X 16 c = op + 1) (h7 : tn A 7 op = tn B 7 op) (h21 : tn A 21 c = tn B 21 c) (hv : tb B 19 c = true → tr B 1 c = tr X 20 c) : rlq F N R (rcC A c op X) (fiaC B c op) := by
  unfold rcC fiaC
  rw [h.2.2.2, h.2.1 18 c h4, h7, h21, ← hf, h.1 1 h3]
  by_cases y : tb B 19 c = true ∧ tn B 7 op ≠ 2 ∧ tn B 18 c = 2 ^ tf B 1 - 1
  · rw [if_pos y, if_pos ⟨y.1, y.2.2, y.2.1⟩, end_fnq h16, ← hv y.1]
    exact (h.fnq h1 h2 op _).sn _ _ _
  · rw [if_neg y, if_neg (fun z => y ⟨z.1, z.2.2, z.2.1⟩)]
    exact h
theorem rlq.fia {c op : Nat} (h : rlq F N R X B) (h1 : 14 ∉ F) (h2 : 15 ∉ F) (h3 : 1 ∉ F) (h4 : 18 ∉ N) (h7 : 7 ∉ N) (h21 : 21 ∉ N) (hr : 1 ∉ R) : rlq F N R (fiaC X c op) (fiaC B c op) := by
  unfold fiaC
  rw [h.2.2.2, h.2.1 18 c h4, h.2.1 7 op h7, h.2.1 21 c h21, h.1 1 h3]
  split
  · have e : finC X c op = _root_.Jvm.Pilot.COneTripLaw_law_r7449_bb9836.fnq X op (tr B 1 c) := by
      rw [← h.2.2.1 1 c hr]
      rfl
    rw [e]
    exact (h.fnq h1 h2 op _).sn _ _ _
  · exact h
end
theorem rc_cond {c e op : Nat} : (tn A 17 c ≠ e ∨ tn A 16 c ≠ op + 1 ∨ opnF A c = false) ↔ ¬ (tn A 17 c = e ∧ tn A 16 c = op + 1 ∧ tn A 11 op = 0) := by
  have o : tn A 16 c = op + 1 → (opnF A c = false ↔ ¬ tn A 11 op = 0) := fun h => by
    unfold opnF
    rw [h, show op + 1 - 1 = op by omega, decide_eq_false_iff_not]
    constructor
    · exact fun z y => z ⟨by omega, y⟩
    · exact fun z y => z y.2
  constructor
  · rintro (a | a | a) ⟨b1, b2, b3⟩
    · exact a b1
    · exact a b2
    · exact (o b2).mp a b3
  · intro a
    by_cases b1 : tn A 17 c = e
    · by_cases b2 : tn A 16 c = op + 1
      · exact Or.inr (Or.inr ((o b2).mpr (fun b3 => a ⟨b1, b2, b3⟩)))
      · exact Or.inr (Or.inl b2)
    · exact Or.inl b1
theorem client4_ok {e op w w' : Nat} {v v' : Int32} {b b' : Bool} (h : INV K A) (hm : iMom A) (ho : op < tf A 13) (he : e < tf A 38) : rcF A 4 e op w v b = rclC A 4 e (tn A 5 op) op w' v' b' ∧ INV (K + 3) (rclC A 4 e (tn A 5 op) op w' v' b') ∧ iMom (rclC A 4 e (tn A 5 op) op w' v' b') ∧ tf (rclC A 4 e (tn A 5 op) op w' v' b') 13 = tf A 13 := by
  unfold rcF rclC
  by_cases y : tn A 17 (tn A 5 op) = e ∧ tn A 16 (tn A 5 op) = op + 1 ∧ tn A 11 op = 0
  · rw [if_neg (fun z => (rc_cond.mp z) y), if_pos y, if_pos rfl, if_pos rfl]
    exact ⟨rfl, (h.send (LET_op (Or.inr rfl) he ho) (Nat.le_succ_of_le (h.nb.2 _ _)) (Nat.le_succ_of_le (h.nb.2 _ _)) (Nat.zero_le _)).mono (by omega), hm.send, send_13⟩
  · rw [if_pos (rc_cond.mpr y), if_neg y]
    exact ⟨rfl, h.mono (by omega), hm, rfl⟩
theorem client3_ok {e op w : Nat} {v v' : Int32} {b b' : Bool} (h : INV K A) (hm : iMom A) (ho : op < tf A 13) (hw : w < tf A 1) : EQ (rcF A 3 e op w v b) (rclC A 3 e (tn A 5 op) op w v' b') ∧ INV (K + 3) (rclC A 3 e (tn A 5 op) op w v' b') ∧ iMom (rclC A 3 e (tn A 5 op) op w v' b') ∧ tf (rclC A 3 e (tn A 5 op) op w v' b') 13 = tf A 13 := by
  have hc := h.2.1.2.2.1 op ho
  unfold rcF rclC
  by_cases y : tn A 17 (tn A 5 op) = e ∧ tn A 16 (tn A 5 op) = op + 1 ∧ tn A 11 op = 0
  · rw [if_neg (fun z => (rc_cond.mp z) y), if_pos y]
    simp only [if_neg (show ¬ (3 : Nat) = 4 by decide), if_pos (show (3 : Nat) = 3 from rfl)]
    have h1 := h.s18 (c := tn A 5 op) hw
    have hm1 : iMom (sn A 18 (tn A 5 op) (tn A 18 (tn A 5 op) ||| 2 ^ w)) := hm.df df_sn (by decide) (by decide) (by decide)
    refine ⟨rlq.EQ (rlq.rc rlq.rfl (by decide) (by decide) (by decide) (by decide) rfl ?_ ?_ ?_ ?_), h1.fia hm1 hc ho⟩
    · rw [tn_sn, if_neg (by omega)]
      exact y.2.1
    · rw [tn_sn, if_neg (by omega)]
    · rw [tn_sn, if_neg (by omega)]
    · exact fun z => h.2.2.2.2.2.2.2.2.2.2.2.2.1 _ hc z
  · rw [if_pos (rc_cond.mpr y), if_neg y]
    exact ⟨EQ.rfl, h.mono (by omega), hm, rfl⟩
theorem client2_ok {e op w w' : Nat} {v : Int32} {b : Bool} (h : INV K A) (hm : iMom A) (ho : op < tf A 13) : ∃ X, EQ (rcF A 2 e op w v b) X ∧ AG X (rclC A 2 e (tn A 5 op) op w' v b) ∧ INV (K + 3) X ∧ iMom X ∧ tf X 13 = tf A 13 := by
  have hc := h.2.1.2.2.1 op ho
  unfold rcF rclC
  by_cases y : tn A 17 (tn A 5 op) = e ∧ tn A 16 (tn A 5 op) = op + 1 ∧ tn A 11 op = 0
  · rw [if_neg (fun z => (rc_cond.mp z) y), if_pos y]
    simp only [if_neg (show ¬ (2 : Nat) = 4 by decide), if_neg (show ¬ (2 : Nat) = 3 by decide)]
    unfold ranC
    have h1 := h.sans (c := tn A 5 op) (v := v)
    have hm1 : iMom (sr (sr (sb A 19 (tn A 5 op) true) 20 (tn A 5 op) v) 1 (tn A 5 op) v) := hm.same rfl (fun _ => rfl) (fun _ => rfl)
    have a1 : rlq [0] [43, 44] [20] (sr (sr (sb A 19 (tn A 5 op) true) 20 (tn A 5 op) v) 1 (tn A 5 op) v) (sr (sb A 19 (tn A 5 op) true) 1 (tn A 5 op) v) := (rlq.rfl.ol (by decide)).sr _ _ _
    have q1 : rlq [5, 6] [1] [1, 2, 3] (sr (sb A 19 (tn A 5 op) true) 20 (tn A 5 op) v) (sr (sr (sb A 19 (tn A 5 op) true) 20 (tn A 5 op) v) 1 (tn A 5 op) v) := rlq.rfl.or (by decide)
    have v1 : tr (sr (sr (sb A 19 (tn A 5 op) true) 20 (tn A 5 op) v) 1 (tn A 5 op) v) 1 (tn A 5 op) = v := by rw [tr_sr, if_pos ⟨rfl, rfl⟩]
    cases b with
    | true =>
      rw [if_pos rfl, if_pos rfl]
      refine ⟨finC (sr (sr (sb A 19 (tn A 5 op) true) 20 (tn A 5 op) v) 1 (tn A 5 op) v) (tn A 5 op) op, rlq.EQ ?_, rlq.AG ?_, ((h1.fin hm1 hc ho).1).mono (by omega), (h1.fin hm1 hc ho).2, fin_13⟩
      · rw [end_fnq (X := sr (sb A 19 (tn A 5 op) true) 20 (tn A 5 op) v) y.2.1]
        have e : finC (sr (sr (sb A 19 (tn A 5 op) true) 20 (tn A 5 op) v) 1 (tn A 5 op) v) (tn A 5 op) op = fnq (sr (sr (sb A 19 (tn A 5 op) true) 20 (tn A 5 op) v) 1 (tn A 5 op) v) op v := by
          show fnq _ op (tr _ 1 (tn A 5 op)) = _
          rw [v1]
        rw [e]
        exact q1.fnq (by decide) (by decide) _ _
      · have v2 : tr (sr (sb A 19 (tn A 5 op) true) 1 (tn A 5 op) v) 1 (tn A 5 op) = v := by rw [tr_sr, if_pos ⟨rfl, rfl⟩]
        show rlq [0] [43, 44] [20] (fnq _ op (tr _ 1 (tn A 5 op))) (fnq _ op (tr _ 1 (tn A 5 op)))
        rw [v1, v2]
        exact a1.fnq (by decide) (by decide) _ _
    | false =>
      rw [if_neg (by decide), if_neg (by decide)]
      have r := h1.fia hm1 hc ho
      refine ⟨fiaC (sr (sr (sb A 19 (tn A 5 op) true) 20 (tn A 5 op) v) 1 (tn A 5 op) v) (tn A 5 op) op, rlq.EQ (q1.rc (by decide) (by decide) (by decide) (by decide) rfl y.2.1 rfl rfl ?_), rlq.AG (a1.fia (by decide) (by decide) (by decide) (by decide) (by decide) (by decide) (by decide)), r.1, r.2.1, r.2.2⟩
      intro _
      rw [v1, tr_sr, if_pos ⟨rfl, rfl⟩]
  · rw [if_pos (rc_cond.mpr y), if_neg y]
    exact ⟨A, EQ.rfl, rlq.AG rlq.rfl, h.mono (by omega), hm, rfl⟩
end
