/-! ===== both sides alike; a request at a master ===== -/
/-- alike in all rows that both have -/
def EQ (X B : TS) : Prop := (∀ j, j ≠ 5 → j ≠ 6 → tf X j = tf B j) ∧ (∀ j i, j ≠ 1 → tn X j i = tn B j i) ∧ (∀ j i, j ≠ 1 → j ≠ 2 → j ≠ 3 → tr X j i = tr B j i) ∧ (∀ j i, tb X j i = tb B j i)
section
variable {X B A : TS}
theorem EQ.rfl : EQ A A := ⟨fun _ _ _ => Eq.refl _, fun _ _ _ => Eq.refl _, fun _ _ _ _ _ => Eq.refl _, fun _ _ => Eq.refl _⟩
theorem EQ.of (h : X = B) : EQ X B := h ▸ EQ.rfl
theorem EQ.trans (h : EQ X B) (k : EQ B A) : EQ X A := ⟨fun j a b => (h.1 j a b).trans (k.1 j a b), fun j i a => (h.2.1 j i a).trans (k.2.1 j i a), fun j i a b c => (h.2.2.1 j i a b c).trans (k.2.2.1 j i a b c), fun j i => (h.2.2.2 j i).trans (k.2.2.2 j i)⟩
theorem EQ.sf (h : EQ X B) (j v : Nat) : EQ (sf X j v) (sf B j v) := ⟨fun x a b => by rw [tf_sf, tf_sf]; split; exact Eq.refl _; exact h.1 x a b, h.2.1, h.2.2.1, h.2.2.2⟩
theorem EQ.sn (h : EQ X B) (j i v : Nat) : EQ (sn X j i v) (sn B j i v) := ⟨h.1, fun x y a => by rw [tn_sn, tn_sn]; split; exact Eq.refl _; exact h.2.1 x y a, h.2.2.1, h.2.2.2⟩
theorem EQ.sr (h : EQ X B) (j i : Nat) (v : Int32) : EQ (sr X j i v) (sr B j i v) := ⟨h.1, h.2.1, fun x y a b c => by rw [tr_sr, tr_sr]; split; exact Eq.refl _; exact h.2.2.1 x y a b c, h.2.2.2⟩
theorem EQ.sb (h : EQ X B) (j i : Nat) (v : Bool) : EQ (sb X j i v) (sb B j i v) := ⟨h.1, h.2.1, h.2.2.1, fun x y => by rw [tb_sb, tb_sb]; split; exact Eq.refl _; exact h.2.2.2 x y⟩
theorem EQ.or (h : EQ X B) {j i : Nat} {v : Int32} (hj : j = 1 ∨ j = 2 ∨ j = 3) : EQ X (_root_.Jvm.Pilot.COneTripLaw_law_r7449_bb9836.sr B j i v) := ⟨h.1, h.2.1, fun x y a b c => by rw [tr_sr, if_neg (by omega)]; exact h.2.2.1 x y a b c, h.2.2.2⟩
theorem EQ.on (h : EQ X B) {i v : Nat} : EQ X (_root_.Jvm.Pilot.COneTripLaw_law_r7449_bb9836.sn B 1 i v) := ⟨h.1, fun x y a => by rw [tn_sn, if_neg (by omega)]; exact h.2.1 x y a, h.2.2.1, h.2.2.2⟩
theorem EQ.of5 (h : EQ X B) {j v : Nat} (hj : j = 5 ∨ j = 6) : EQ X (_root_.Jvm.Pilot.COneTripLaw_law_r7449_bb9836.sf B j v) := ⟨fun x a b => by rw [tf_sf, if_neg (by omega)]; exact h.1 x a b, h.2.1, h.2.2.1, h.2.2.2⟩
theorem EQ.send (h : EQ X B) (so e to op n c : Nat) (v : Int32) (b : Bool) : EQ (sendF X so e to op n c v b) (sendF B so e to op n c v b) := by
  have e53 := h.1 53 (by decide) (by decide)
  have e54 := h.1 54 (by decide) (by decide)
  unfold sendF
  rw [e53, e54]
  split
  · exact h.sf _ _
  · exact ((((((((h.sn _ _ _).sn _ _ _).sn _ _ _).sn _ _ _).sn _ _ _).sn _ _ _).sr _ _ _).sb _ _ _).sf _ _
theorem EQ.ans (h : EQ X B) (e op : Nat) (v : Int32) (b : Bool) : EQ (ansF X e op v b) (ansF B e op v b) := by
  unfold ansF
  rw [h.2.1 5 op (by decide), h.2.1 6 op (by decide)]
  exact h.send _ _ _ _ _ _ _ _
theorem EQ.synL (h : EQ X B) (e n c : Nat) : ∀ b, EQ (synL X e n c b) (synL B e n c b)
  | 0 => h
  | b + 1 => (EQ.synL h e n c b).send _ _ _ _ _ _ _ _
theorem EQ.syn (h : EQ X B) (e : Nat) : EQ (synF X e) (synF B e) := by
  unfold synF
  rw [h.2.1 29 e (by decide), h.2.1 26 e (by decide), h.1 1 (by decide) (by decide)]
  exact (h.sn 29 e _).synL _ _ _ _
theorem EQ.resL (h : EQ X B) (e : Nat) : ∀ b, EQ (resL X e b) (resL B e b)
  | 0 => h
  | b + 1 => (EQ.resL h e b).send _ _ _ _ _ _ _ _
theorem EQ.res (h : EQ X B) (e : Nat) : EQ (resF X e) (resF B e) := by
  unfold resF
  rw [h.1 1 (by decide) (by decide)]
  exact h.resL _ _
theorem EQ.gsL (h : EQ X B) (e : Nat) : ∀ b, EQ (gsL X e b) (gsL B e b)
  | 0 => h
  | b + 1 => by
    have ih := EQ.gsL h e b
    show EQ (sendF _ 8 e b 0 _ 0 _ _) (sendF _ 8 e b 0 _ 0 _ _)
    rw [ih.2.1 28 e (by decide)]
    exact ih.send _ _ _ _ _ _ _ _
theorem EQ.begL (h : EQ X B) (e op : Nat) : ∀ b, EQ (begL X e op b) (begL B e op b)
  | 0 => h
  | b + 1 => by
    have ih := EQ.begL h e op b
    show EQ (sendOpF _ 1 e b op) (sendOpF _ 1 e b op)
    unfold sendOpF
    rw [ih.2.1 6 op (by decide)]
    exact ih.send _ _ _ _ _ _ _ _
theorem MW_EQ {am : Nat} {ad : Nat → Nat} {S : HS} (h : MW am ad X S) (e : EQ X B) : MW am ad B S := by
  obtain ⟨h1, h2, h3, h4, h5⟩ := h
  refine ⟨h1, h2, fun j hj => ?_, fun j hj => ?_, h5⟩
  · have := (fty11 hj).1 rfl
    rw [← e.1 j this.1 this.2]
    exact h3 j hj
  · have hj5 := (fty11 hj).2 rfl
    obtain ⟨q1, q2, q3, q4, q5⟩ := h4 j hj
    refine ⟨q1, q2, q3, q4, fun i hi => ?_⟩
    rw [q5 i hi]
    unfold mval
    rw [e.2.2.2, e.2.2.1 j i (by omega) (by omega) (by omega), e.2.1 j i (by omega)]
end
section
variable {K : Nat} {A B : TS}
theorem vaF_pre {e ky : Nat} (h7 : ∀ i, tn B 7 i = tn A 7 i) (h8 : ∀ i, tn B 8 i = tn A 8 i) (h9 : ∀ i, tr B 9 i = tr A 9 i) : ∀ n, (∀ k, k < n → tn B 22 (600 * e + k) = tn A 22 (600 * e + k)) → vaF B e ky n = vaF A e ky n
  | 0, _ => rfl
  | n + 1, h => by
    unfold vaF
    rw [h n (by omega), h7, h8, h9, vaF_pre h7 h8 h9 n (fun k hk => h k (by omega))]
theorem apV_is {e op : Nat} (h : INV K A) (he : e < tf A 38) : apV A e op = asF A e op (tn A 26 e) := by
  have hv := h.2.2.2.2.2.1 e (tn A 8 op) he (h.2.1.2.1 op)
  unfold apV asF
  rw [hv]
theorem apC_is {e op : Nat} {late : Bool} (h : INV K A) (he : e < tf A 38) : apC A e op late = sr (appF A e op late) 3 (16 * e + tn A 8 op) (if tn A 7 op = 0 then tr A 9 op else tr A 3 (16 * e + tn A 8 op) + tr A 9 op) := by
  unfold apC
  rw [apV_is h he]
  rfl
theorem INV.app {e op : Nat} {late : Bool} (h : INV K A) (he : e < tf A 38) (ho : op < tf A 13) (hu : tn A 7 op ≠ 2) (hp : placeF A e op = 0) : INV (K + 1) (apC A e op late) := by
  have hav := apV_is (op := op) h he
  have hN := h.1
  have h16 := h.2.1.2.1
  have hL := (h.2.2.2.2.1.2 e he).1
  have hr := hL.room ho hp
  have hLn := hL.apC (late := late) ho hp
  have k7 := h.k7
  have h600 : tf A 13 ≤ 600 := hN.2.2.2.2.1
  have d : df (apC A e op late) A [] [22, 26] [3, 23] [24, 25] := (df_sr.trans (df_sn.trans (df_sb.trans (df_sb.trans (df_sr.trans df_sn))))).mono (by decide) (by decide) (by decide) (by decide)
  obtain ⟨r1, r2, r3, r4, s1, s2, s3, s4, s5⟩ := apC_row (A := A) (e := e) (op := op) (late := late)
  have nbn : NB (K + 1) (apC A e op late) := apC_NB h.nb (by omega) (by omega)
  have v3 : ∀ i, tr (apC A e op late) 3 i = if i = 16 * e + tn A 8 op then (if tn A 7 op = 0 then tr A 9 op else tr A 3 (16 * e + tn A 8 op) + tr A 9 op) else tr A 3 i := fun i => by
    unfold apC
    rw [tr_sr]
    by_cases y : i = 16 * e + tn A 8 op
    · rw [if_pos ⟨rfl, y⟩, if_pos y]
    · rw [if_neg (fun z => y z.2), if_neg y]
      exact (apG_row (A := A) (e := e) (op := op)).2.2.1 3 i (by omega)
  generalize apC A e op late = B at *
  have e22 : ∀ x k, x < tf A 38 → k < tn A 26 x → tn B 22 (600 * x + k) = tn A 22 (600 * x + k) := fun x k hx hk => by
    have hxl := (h.2.2.2.2.1.2 x hx).1.le
    refine r2 22 _ (fun z => ?_) (by omega)
    have hz := z.2
    by_cases y : x = e
    · subst y
      omega
    · omega
  have e26 : ∀ x, tn B 26 x = if x = e then tn A 26 e + 1 else tn A 26 x := fun x => by
    by_cases y : x = e
    · rw [if_pos y, y, s1]
    · rw [if_neg y, r2 26 x (by omega) (fun z => y z.2)]
  have e26le : ∀ x, tn A 26 x ≤ tn B 26 x := fun x => by
    rw [e26]
    split
    · rename_i y
      rw [y]
      omega
    · exact Nat.le_refl _
  have n7 : ∀ i, tn B 7 i = tn A 7 i := d.2.1 7 (by decide) (by decide)
  have n8 : ∀ i, tn B 8 i = tn A 8 i := d.2.1 8 (by decide) (by decide)
  have r9 : ∀ i, tr B 9 i = tr A 9 i := d.2.2.1 9 (by decide) (by decide)
  have hva : ∀ x ky k, x < tf A 38 → k ≤ tn A 26 x → vaF B x ky k = vaF A x ky k := fun x ky k hx hk => vaF_pre n7 n8 r9 k (fun j hj => e22 x j hx (by omega))
  have has : ∀ x o k, x < tf A 38 → k ≤ tn A 26 x → asF B x o k = asF A x o k := fun x o k hx hk => by
    unfold asF
    rw [n7, n8, r9, hva x _ k hx hk]
  obtain ⟨h1, h2, h3, h4, h5, h6, h7, h8, h9, h10, h11, h12, h13, h14, h15⟩ := h
  refine ⟨h1.df d (by decide) (by rw [(d).1 53 (by decide)]; exact h1.2.2.2.2.2.1), h2.df d (by decide) (by decide) (by decide), h3.df d (by decide) (by decide), h4.df d (by decide) (by decide), ?_, ?_, ?_, ?_, ?_, ?_, ?_, h12.df d (by decide) (by decide), h13.df d (by decide) (by decide), nbn, by omega⟩
  · refine ⟨fun i => ?_, fun x hx => ?_⟩
    · by_cases y : i = 600 * e + tn A 26 e
      · rw [y, s2]; omega
      · rw [r2 22 i (fun z => y z.2) (by omega)]
        exact h5.1 i
    · rw [r1] at hx
      obtain ⟨q1, q2, q3⟩ := h5.2 x hx
      have e28 : tn B 28 x = tn A 28 x := d.2.1 28 (by decide) (by decide) x
      by_cases y : x = e
      · subst y
        refine ⟨hLn, by rw [e28]; have := e26le x; omega, fun k hk => ?_⟩
        rw [s1] at hk
        by_cases z : k = tn A 26 x
        · rw [z, s2, s3, n7, has x op _ hx (Nat.le_refl _)]
          exact ⟨hu, hav⟩
        · have hk' : k < tn A 26 x := by omega
          rw [e22 x k hx hk', n7, has x _ k hx (by omega), r3 23 _ (by omega) (by omega)]
          exact q3 k hk'
      · have e26x : tn B 26 x = tn A 26 x := by rw [e26, if_neg y]
        refine ⟨⟨by rw [r1]; exact q1.1, fun k hk => ?_, fun i j hi hj hij => ?_⟩, by rw [e28, e26x]; exact q2, fun k hk => ?_⟩
        · rw [e26x] at hk
          rw [e22 x k hx hk, r1]
          exact q1.2.1 k hk
        · rw [e26x] at hi hj
          rw [e22 x i hx hi, e22 x j hx hj] at hij
          exact q1.2.2 i j hi hj hij
        · rw [e26x] at hk
          have := q1.le
          rw [e22 x k hx hk, n7, has x _ k hx (by omega), r3 23 _ (fun z => by have := z.2; omega) (by omega)]
          exact q3 k hk
  · intro x ky hx hky
    rw [r1] at hx
    have q := h6 x ky hx hky
    have hop16 := h16 op
    rw [v3, e26]
    by_cases y : x = e
    · subst y
      rw [if_pos rfl]
      unfold vaF
      rw [s2, n7, n8, r9, hva x ky _ hx (Nat.le_refl _), ← q]
      by_cases z : tn A 8 op = ky
      · rw [z, if_pos rfl, if_pos rfl]
      · rw [if_neg (by omega), if_neg z]
    · rw [if_neg (by omega), if_neg y, hva x ky _ hx (Nat.le_refl _)]
      exact q
  · refine ⟨fun i => by rw [d.2.1 33 (by decide) (by decide)]; exact h7.1 i, fun i => by rw [d.2.1 36 (by decide) (by decide), r1]; exact h7.2.1 i, fun x hx => ?_⟩
    rw [r1] at hx
    obtain ⟨q1, q2⟩ := h7.2.2 x hx
    simp only [d.2.1 37 (by decide) (by decide), d.2.1 33 (by decide) (by decide), d.2.1 34 (by decide) (by decide), n8, r1, d.2.2.1 2 (by decide) (by decide)]
    refine ⟨fun k hk => ?_, q2⟩
    obtain ⟨p1, p2, p3⟩ := q1 k hk
    exact ⟨p1, Nat.le_trans p2 (e26le x), by rw [hva x _ _ hx p2]; exact p3⟩
  · intro x hx
    rw [r1] at hx
    obtain ⟨q1, q2⟩ := h8 x hx
    simp only [d.2.1 32 (by decide) (by decide), d.2.1 28 (by decide) (by decide), r1]
    rw [lkF_same (fun i => d.2.1 32 (by decide) (by decide) i)]
    exact ⟨fun c hc => Nat.le_trans (q1 c hc) (Nat.succ_le_succ (e26le x)), q2⟩
  · intro c hc
    rw [r1] at hc
    obtain ⟨q1, q2⟩ := h9 c hc
    rw [d.2.1 39 (by decide) (by decide), d.2.1 40 (by decide) (by decide), r1]
    exact ⟨q1, Nat.le_trans q2 (e26le _)⟩
  · intro k hk
    rw [r1] at hk
    obtain ⟨l1, l2, l3, l4, l5, l6, l7, l8, l9⟩ := h10 k hk
    simp only [r2 45 k (by omega) (by omega), r2 46 k (by omega) (by omega), r2 47 k (by omega) (by omega), r2 48 k (by omega) (by omega), r2 49 k (by omega) (by omega), r2 50 k (by omega) (by omega), LET, r1, n7, d.2.1 5 (by decide) (by decide)]
    exact ⟨l1, l2, l3, l4, l5, l6, l7, l8, fun z => Nat.le_trans (l9 z) (e26le _)⟩
  · refine ⟨fun x hx => ?_, fun i hi => ?_⟩
    · rw [r1] at hx
      have q := h11.1 x hx
      rw [e26, if_neg (by omega)]
      simp only [d.2.1 27 (by decide) (by decide), d.2.1 28 (by decide) (by decide), d.2.1 29 (by decide) (by decide), d.2.1 37 (by decide) (by decide), d.2.2.2 31 (by decide) (by decide)]
      exact q
    · rw [r1] at hi
      have q := h11.2 i hi
      rw [r4 24 i (fun z => by have := z.2; omega) (by omega), r4 25 i (by omega) (fun z => by have := z.2; omega)]
      exact q
theorem plF_at2 {A : TS} {e op : Nat} : ∀ n, plF A e op n ≠ 0 → tn A 22 (600 * e + (plF A e op n - 1)) = op
  | 0, h => absurd rfl h
  | n + 1, h => by
    unfold plF at h ⊢
    split
    · rename_i y
      exact y
    · rename_i y
      rw [if_neg y] at h
      exact plF_at2 n h
theorem placeF_at {A : TS} {e op : Nat} (h : placeF A e op ≠ 0) : tn A 22 (600 * e + (placeF A e op - 1)) = op := plF_at2 _ h
theorem LogOK.free {A : TS} {e op n : Nat} (hn : ∀ k, k < n → tn A 33 (600 * e + k) < tf A 13) (hi : ∀ i j, i < n → j < n → tn A 33 (600 * e + i) = tn A 33 (600 * e + j) → i = j) (ho : op < tf A 13) (hf : ∀ k, k < n → tn A 33 (600 * e + k) ≠ op) : n < tf A 13 := by
  have := pigeon (tf A 13) (n + 1) (fun k => if k < n then tn A 33 (600 * e + k) else op) (fun k hk => ?_) (fun i j a b c => ?_)
  · omega
  · show (if k < n then tn A 33 (600 * e + k) else op) < tf A 13
    split
    · rename_i z
      exact hn k z
    · exact ho
  · have c' : (if i < n then tn A 33 (600 * e + i) else op) = (if j < n then tn A 33 (600 * e + j) else op) := c
    split at c' <;> split at c'
    · rename_i y z
      exact hi i j y z c'
    · rename_i y z
      exact absurd c' (hf i y)
    · rename_i y z
      exact absurd c'.symm (hf j z)
    · omega
theorem iGet.le {e : Nat} (h : iGet A) (he : e < tf A 38) : tn A 37 e ≤ tf A 13 := pigeon (tf A 13) (tn A 37 e) (fun k => tn A 33 (600 * e + k)) (fun k hk => ((h.2.2 e he).1 k hk).1) (h.2.2 e he).2
theorem wfL_no {e op : Nat} : ∀ n, wfL A e op n = false → ∀ k, k < n → tn A 33 (600 * e + k) ≠ op
  | 0, _, k, hk => absurd hk (Nat.not_lt_zero _)
  | n + 1, h, k, hk => by
    unfold wfL at h
    rw [Bool.or_eq_false_iff] at h
    by_cases y : k = n
    · rw [y]
      exact of_decide_eq_false h.2
    · exact wfL_no n h.1 k (by omega)
theorem wa_EQ {e op : Nat} (A : TS) : EQ (waF A e op) (waC A e op) := by
  unfold waF waC
  split
  · exact EQ.rfl
  · have k37 : tn (synF A e) 37 e = tn A 37 e := (syn_keep A e).2.1 37 e (by decide) (by omega)
    unfold gtG
    rw [k37]
    exact EQ.rfl.or (Or.inr (Or.inl rfl))
theorem INV.wait {e op : Nat} (h : INV K A) (he : e < tf A 38) (ho : op < tf A 13) (h6 : tf A 13 < 600) : INV (K + 5) (waC A e op) := by
  have hs := h.syn he
  obtain ⟨sf1, sn1, s29⟩ := syn_keep A e
  obtain ⟨sr1, sb1⟩ := syn_keepB A e
  unfold waC
  cases hw : wfL A e op (tn A 37 e) with
  | true => rw [if_pos rfl]; exact hs.mono (by omega)
  | false =>
    rw [if_neg (by decide)]
    have hno := wfL_no _ hw
    have hv := h.2.2.2.2.2.1 e (tn A 8 op) he (h.2.1.2.1 op)
    have hgl : tn A 37 e < tf A 13 := LogOK.free (fun k hk => ((h.2.2.2.2.2.2.1.2.2 e he).1 k hk).1) (h.2.2.2.2.2.2.1.2.2 e he).2 ho hno
    have ho' : op < tf (synF A e) 13 := by rw [sf1 13 (by decide) (by decide)]; exact ho
    have he' : e < tf (synF A e) 38 := by rw [sf1 38 (by decide) (by decide)]; exact he
    have hgl' : tn (synF A e) 37 e < 600 := by rw [sn1 37 e (by decide) (by omega)]; omega
    have hno' : ∀ k, k < tn (synF A e) 37 e → tn (synF A e) 33 (600 * e + k) ≠ op := fun k hk => by
      rw [sn1 37 e (by decide) (by omega)] at hk
      rw [sn1 33 _ (by decide) (by omega)]
      exact hno k hk
    have hv' : tr A 3 (16 * e + tn A 8 op) = vaF (synF A e) e (tn (synF A e) 8 op) (tn (synF A e) 26 e) := by
      rw [hv, sn1 8 op (by decide) (by omega), sn1 26 e (by decide) (by omega)]
      exact (vaF_same (fun i => sn1 22 i (by decide) (by omega)) (fun i => sn1 7 i (by decide) (by omega)) (fun i => sn1 8 i (by decide) (by omega)) (fun i => sr1 9 i (by decide)) e _ _).symm
    have h26 : tn A 26 e = tn (synF A e) 26 e := (sn1 26 e (by decide) (by omega)).symm
    have h29 : tn A 29 e + 1 ≤ K + 4 := by have := h.nb.2 29 e; omega
    rw [hv', h26]
    generalize synF A e = G at *
    obtain ⟨r1, r2, r3, r4, -⟩ := gtG_row (A := G) (e := e) (op := op) (pl := tn G 26 e) (sy := tn A 29 e + 1) (vt := vaF G e (tn G 8 op) (tn G 26 e))
    have d : df (gtG G e op (tn G 26 e) (vaF G e (tn G 8 op) (tn G 26 e)) (tn A 29 e + 1)) G [] [33, 34, 35, 36, 37] [2] [] := (df_sr.trans (df_sn.trans (df_sn.trans (df_sn.trans (df_sn.trans df_sn))))).mono (by decide) (by decide) (by decide) (by decide)
    have k7 := hs.k7
    have hnb := hs.nb
    have nbn : NB (K + 5) (gtG G e op (tn G 26 e) (vaF G e (tn G 8 op) (tn G 26 e)) (tn A 29 e + 1)) := by
      have a := hnb.2 26 e
      have b := hs.1.2.2.2.2.1
      exact ((((((hnb.mono (K' := K + 5) (by omega)).sn (by omega)).sn (by omega)).sn (by omega)).sn (by omega)).sn (by omega)).sr
    have w33 : ∀ j i, 33 ≤ j → j ≤ 36 → tn (gtG G e op (tn G 26 e) (vaF G e (tn G 8 op) (tn G 26 e)) (tn A 29 e + 1)) j i = if i = 600 * e + tn G 37 e then (if j = 33 then op else if j = 34 then tn G 26 e else if j = 35 then tn A 29 e + 1 else 0) else tn G j i := fun j i a b => by
      by_cases y : i = 600 * e + tn G 37 e
      · rw [if_pos y]
        unfold gtG
        rw [tn_sr]
        simp only [tn_sn, y]
        have : j = 33 ∨ j = 34 ∨ j = 35 ∨ j = 36 := by omega
        rcases this with rfl | rfl | rfl | rfl <;> simp
      · rw [if_neg y]
        exact r2 j i (fun z => y z.2) (by omega)
    have w2 : ∀ i, tr (gtG G e op (tn G 26 e) (vaF G e (tn G 8 op) (tn G 26 e)) (tn A 29 e + 1)) 2 i = if i = 600 * e + tn G 37 e then vaF G e (tn G 8 op) (tn G 26 e) else tr G 2 i := fun i => by
      unfold gtG
      rw [tr_sr]
      by_cases y : i = 600 * e + tn G 37 e
      · rw [if_pos ⟨rfl, y⟩, if_pos y]
      · rw [if_neg (fun z => y z.2), if_neg y]
        rfl
    have w37 : ∀ x, tn (gtG G e op (tn G 26 e) (vaF G e (tn G 8 op) (tn G 26 e)) (tn A 29 e + 1)) 37 x = if x = e then tn G 37 e + 1 else tn G 37 x := fun x => by
      by_cases y : x = e
      · rw [if_pos y, y]
        unfold gtG
        rw [tn_sr, tn_sn, if_pos ⟨rfl, rfl⟩]
      · rw [if_neg y]
        exact r2 37 x (by omega) (fun z => y z.2)
    generalize gtG G e op (tn G 26 e) (vaF G e (tn G 8 op) (tn G 26 e)) (tn A 29 e + 1) = B at *
    clear h hv hno hw
    have h := hs
    clear hs
    obtain ⟨h1, h2, h3, h4, h5, h6, h7, h8, h9, h10, h11, h12, h13, h14, h15⟩ := h
    refine ⟨h1.df d (by decide) (by rw [(d).1 53 (by decide)]; exact h1.2.2.2.2.2.1), h2.df d (by decide) (by decide) (by decide), h3.df d (by decide) (by decide), h4.df d (by decide) (by decide), h5.df d (by decide) (by decide) (by decide), h6.df d (by decide) (by decide) (by decide), ?_, h8.df d (by decide) (by decide), h9.df d (by decide) (by decide), h10.df d (by decide) (by decide) ⟨r1 53, fun j a b i => r2 j i (by omega) (by omega)⟩, ?_, h12.df d (by decide) (by decide), h13.df d (by decide) (by decide), nbn, by omega⟩
    · have hv : ∀ x ky n, vaF B x ky n = vaF G x ky n := fun x ky n => vaF_same (d.2.1 22 (by decide) (by decide)) (d.2.1 7 (by decide) (by decide)) (d.2.1 8 (by decide) (by decide)) (d.2.2.1 9 (by decide) (by decide)) x ky n
      refine ⟨fun i => ?_, fun i => ?_, fun x hx => ?_⟩
      · rw [w33 33 i (by decide) (by decide)]
        split
        · rw [if_pos rfl]
          have := h1.2.2.2.2.1
          omega
        · exact h7.1 i
      · rw [w33 36 i (by decide) (by decide), r1]
        split
        · rw [if_neg (by decide), if_neg (by decide), if_neg (by decide)]
          exact Nat.pow_pos (by decide)
        · exact h7.2.1 i
      · rw [r1] at hx
        obtain ⟨q1, q2⟩ := h7.2.2 x hx
        have hgx := iGet.le h7 hx
        have h600 := h1.2.2.2.2.1
        have old : ∀ k, k < tn G 37 x → ¬ (600 * x + k = 600 * e + tn G 37 e) := fun k hk z => by
          have : x = e := by omega
          subst this
          omega
        have key : ∀ k, k < tn B 37 x → (k < tn G 37 x ∧ ¬ (600 * x + k = 600 * e + tn G 37 e)) ∨ (x = e ∧ k = tn G 37 e) := fun k hk => by
          rw [w37] at hk
          split at hk
          · rename_i y
            subst y
            by_cases z : k = tn G 37 x
            · exact Or.inr ⟨rfl, z⟩
            · exact Or.inl ⟨by omega, by omega⟩
          · exact Or.inl ⟨hk, old k hk⟩
        have h8r : ∀ i, tn B 8 i = tn G 8 i := d.2.1 8 (by decide) (by decide)
        have h26r : tn B 26 x = tn G 26 x := d.2.1 26 (by decide) (by decide) x
        refine ⟨fun k hk => ?_, fun i j hi hj hij => ?_⟩
        · rcases key k hk with ⟨z1, z2⟩ | ⟨rfl, rfl⟩
          · rw [w33 33 _ (by decide) (by decide), w33 34 _ (by decide) (by decide), w2, if_neg z2, if_neg z2, if_neg z2, h8r, hv, h26r, r1]
            exact q1 k z1
          · rw [w33 33 _ (by decide) (by decide), w33 34 _ (by decide) (by decide), w2, if_pos rfl, if_pos rfl, if_pos rfl, if_pos rfl, if_neg (by decide), if_pos rfl, h8r, hv, h26r, r1]
            exact ⟨ho', Nat.le_refl _, rfl⟩
        · rw [w33 33 _ (by decide) (by decide), w33 33 _ (by decide) (by decide), if_pos rfl] at hij
          rcases key i hi with ⟨z1, z2⟩ | ⟨rfl, rfl⟩ <;> rcases key j hj with ⟨y1, y2⟩ | ⟨y1, y2⟩
          · rw [if_neg z2, if_neg y2] at hij
            exact q2 i j z1 y1 hij
          · rw [if_neg z2, if_pos (by rw [y1, y2])] at hij
            rw [y1] at hij z1
            exact absurd hij (hno' i z1)
          · rw [if_pos rfl, if_neg y2] at hij
            exact absurd hij.symm (hno' j y1)
          · omega
    · refine ⟨fun x hx => ?_, fun i hi => ?_⟩
      · rw [r1] at hx
        rw [w37, if_neg (by omega)]
        simp only [d.2.1 26 (by decide) (by decide), d.2.1 27 (by decide) (by decide), d.2.1 28 (by decide) (by decide), d.2.1 29 (by decide) (by decide), d.2.2.2 31 (by decide) (by decide)]
        exact h11.1 x hx
      · rw [r1] at hi
        simp only [d.2.2.2 24 (by decide) (by decide), d.2.2.2 25 (by decide) (by decide)]
        exact h11.2 i hi
/-- a request at a master that lives -/
theorem exec_ok {e op : Nat} (h : INV K A) (he : e < tf A 38) (ho : op < tf A 13) (h6 : tf A 13 < 600) : EQ (exeF A e op) (rexC A e op) ∧ INV (K + 6) (rexC A e op) := by
  unfold exeF rexC agnF
  by_cases hp : placeF A e op ≠ 0
  · rw [if_pos hp, if_pos hp]
    have hkl : placeF A e op - 1 < tn A 26 e := by have := placeF_le A e op; omega
    have hop22 : tn A 22 (600 * e + (placeF A e op - 1)) = op := placeF_at hp
    rw [hop22]
    split
    · exact ⟨EQ.rfl, (h.ans he ho).mono (by omega)⟩
    · split
      · exact ⟨EQ.rfl, (h.syn he).mono (by omega)⟩
      · exact ⟨EQ.rfl, (h.ans he ho).mono (by omega)⟩
  · rw [if_neg hp, if_neg hp]
    have hp0 : placeF A e op = 0 := Decidable.of_not_not hp
    split
    · exact ⟨EQ.rfl, h.mono (by omega)⟩
    · split
      · exact ⟨wa_EQ A, (h.wait he ho h6).mono (by omega)⟩
      · rename_i hu
        have ha : ∀ late, EQ (appF A e op late) (apC A e op late) := fun late => by
          rw [apC_is h he]
          exact EQ.rfl.or (Or.inr (Or.inr rfl))
        have hi : ∀ late, INV (K + 1) (apC A e op late) := fun late => h.app he ho hu hp0
        have ha38 : ∀ late, e < tf (apC A e op late) 38 := fun late => by rw [apC_row.1]; exact he
        have ha13 : ∀ late, op < tf (apC A e op late) 13 := fun late => by rw [apC_row.1]; exact ho
        have hva : tr (appF A e op false) 23 (600 * e + tn A 26 e) = apV A e op := by
          rw [(ha false).2.2.1 23 _ (by decide) (by decide) (by decide)]
          exact apC_row.2.2.2.2.2.2.1
        unfold exeC
        rw [hva]
        split
        · exact ⟨(ha true).syn e, ((hi true).syn (ha38 true)).mono (by omega)⟩
        · split
          · exact ⟨((ha false).ans e op _ _).syn e, (((hi false).ans (ha38 false) (ha13 false)).syn (by rw [(ans_keep ..).1 38 (by decide) (by decide)]; exact ha38 false)).mono (by omega)⟩
          · exact ⟨(ha false).ans e op _ _, ((hi false).ans (ha38 false) (ha13 false)).mono (by omega)⟩
/-- SYNCNOW -/
theorem INV.s25 {i : Nat} (h : INV K A) (hi : i < 600 * tf A 38) : INV K (sb A 25 i true) := by
  have d := df_sb (A := A) (j := 25) (x := i) (v := true)
  obtain ⟨h1, h2, h3, h4, h5, h6, h7, h8, h9, h10, h11, h12, h13, h14, h15⟩ := h
  refine ⟨h1.df d (by decide) (by rw [(d).1 53 (by decide)]; exact h1.2.2.2.2.2.1), h2.df d (by decide) (by decide) (by decide), h3.df d (by decide) (by decide), h4.df d (by decide) (by decide), h5.df d (by decide) (by decide) (by decide), h6.df d (by decide) (by decide) (by decide), h7.df d (by decide) (by decide) (by decide), h8.df d (by decide) (by decide), h9.df d (by decide) (by decide), h10.df d (by decide) (by decide) ⟨rfl, fun _ _ _ _ => rfl⟩, ?_, h12.df d (by decide) (by decide), h13.df d (by decide) (by decide), h14, h15⟩
  refine ⟨h11.1, fun x hx => ?_⟩
  have hx' : 600 * tf A 38 ≤ x := hx
  refine ⟨(h11.2 x hx').1, ?_⟩
  rw [tb_sb, if_neg (fun z => by have := z.2; omega)]
  exact (h11.2 x hx').2
theorem INV.snow {e op : Nat} (h : INV K A) (he : e < tf A 38) (ho : op < tf A 13) : INV (K + 4) (snowF A e op) := by
  unfold snowF
  split
  · exact h.mono (by omega)
  · split
    · exact (h.ans he ho).mono (by omega)
    · have := placeF_le A e op
      have hl := (h.2.2.2.2.1.2 e he).1.le
      have hl6 := h.1.2.2.2.2.1
      exact (h.s25 (by omega)).syn he
end
