/-! ===== what is sent keeps it all ===== -/
section
variable {K : Nat} {A : TS}
theorem INV.mono {K' : Nat} (h : INV K A) (hk : K ≤ K') : INV K' A := by
  obtain ⟨h1, h2, h3, h4, h5, h6, h7, h8, h9, h10, h11, h12, h13, h14, h15⟩ := h
  exact ⟨h1, h2, h3, h4, h5, h6, h7, h8, h9, h10, h11, h12, h13, h14.mono hk, by omega⟩
theorem LET_op {s e op n c : Nat} {to : Nat} (hs : s = 0 ∨ s = 5) (he : e < tf A 38) (ho : op < tf A 13) : LET A s e to (op + 1) n c := by
  refine ⟨by omega, he, fun _ => ⟨by omega, ho⟩, fun _ => by omega, fun _ => by omega, fun _ _ => by omega, fun _ _ => by omega, fun _ => by omega, fun _ => by omega⟩
theorem LET_rec {e op n c to : Nat} (he : e < tf A 38) (ho : op < tf A 13) (ht : to < tf A 1) (hu : tn A 7 op ≠ 2) : LET A 1 e to (op + 1) n c := by
  refine ⟨by omega, he, fun _ => ⟨by omega, ho⟩, fun _ => by omega, fun _ => ⟨ht, hu⟩, fun _ _ => by omega, fun _ _ => by omega, fun _ => by omega, fun _ => by omega⟩
theorem LET_cl {s e op n c : Nat} (hs : s = 2 ∨ s = 3 ∨ s = 4) (he : e < tf A 38) (ho : op < tf A 13) (h3 : c < tf A 1) : LET A s e (tn A 5 op) (op + 1) n c := by
  refine ⟨by omega, he, fun _ => ⟨by omega, ho⟩, fun _ => by omega, fun _ => by omega, fun _ _ => rfl, fun _ _ => h3, fun _ => by omega, fun _ => by omega⟩
theorem LET_no {s e n c to : Nat} (hs : 6 ≤ s ∧ s < 10) (he : e < tf A 38) (ht : to < tf A 1) (hn : s = 6 ∨ s = 7 → n ≤ tn A 26 e) : LET A s e to 0 n c := by
  refine ⟨by omega, he, fun _ => by omega, fun _ => rfl, fun _ => by omega, fun _ _ => by omega, fun _ _ => by omega, fun _ => ht, hn⟩
theorem INV.nb (h : INV K A) : NB K A := h.2.2.2.2.2.2.2.2.2.2.2.2.2.1
theorem INV.k7 (h : INV K A) : 7300 ≤ K := h.2.2.2.2.2.2.2.2.2.2.2.2.2.2
theorem INV.synL {e n c : Nat} (h : INV K A) (he : e < tf A 38) (hn : n ≤ tn A 26 e) (hc : c ≤ K) : ∀ b, b ≤ tf A 1 → INV (K + b) (synL A e n c b)
  | 0, _ => h
  | b + 1, hb => by
    have ih := INV.synL h he hn hc b (by omega)
    have d := (synL_keep A e n c b).df
    have f1 := h.1.2.2.2.2.2.2.2.1
    have a := h.nb.2 26 e
    have k7 := h.k7
    exact ih.send ((LET_no (by decide) he (show b < tf A 1 by omega) (fun _ => hn)).df d (by decide) (by decide)) (by omega) (by omega) (by omega)
theorem INV.resL {e : Nat} (h : INV K A) (he : e < tf A 38) : ∀ b, b ≤ tf A 1 → INV (K + b) (resL A e b)
  | 0, _ => h
  | b + 1, hb => by
    have ih := INV.resL h he b (by omega)
    have d := (resL_keep A e b).df
    have f1 := h.1.2.2.2.2.2.2.2.1
    have k7 := h.k7
    exact ih.send ((LET_no (by decide) he (show b < tf A 1 by omega) (fun z => by omega)).df d (by decide) (by decide)) (by omega) (by omega) (by omega)
theorem INV.gsL {e : Nat} (h : INV K A) (he : e < tf A 38) : ∀ b, b ≤ tf A 1 → INV (K + b) (gsL A e b)
  | 0, _ => h
  | b + 1, hb => by
    have ih := INV.gsL h he b (by omega)
    have d := (gsL_keep (e := e) h.1.2.2.2.2.2.1 b).1.df
    have f1 := h.1.2.2.2.2.2.2.2.1
    have k7 := h.k7
    have a := ih.nb.2 28 e
    exact ih.send ((LET_no (by decide) he (show b < tf A 1 by omega) (fun z => by omega)).df d (by decide) (by decide)) (by omega) (by omega) (by omega)
theorem INV.begL {e op : Nat} (h : INV K A) (he : e < tf A 38) (ho : op < tf A 13) (hu : tn A 7 op ≠ 2) : ∀ b, b ≤ tf A 1 → INV (K + b) (begL A e op b)
  | 0, _ => h
  | b + 1, hb => by
    have ih := INV.begL h he ho hu b (by omega)
    have d := (begL_keep A e op b).df
    have f1 := h.1.2.2.2.2.2.2.2.1
    have k7 := h.k7
    have a := ih.nb.2 6 op
    exact ih.send ((LET_rec he ho (show b < tf A 1 by omega) hu).df d (by decide) (by decide)) (by omega) (by omega) (by omega)
theorem INV.res {e : Nat} (h : INV K A) (he : e < tf A 38) : INV (K + 3) (resF A e) := (h.resL he _ (Nat.le_refl _)).mono (by have := h.1.2.2.2.2.2.2.2.1; omega)
theorem INV.s29 {e : Nat} (h : INV K A) (he : e < tf A 38) : INV (K + 1) (sn A 29 e (tn A 29 e + 1)) := by
  have d := df_sn (A := A) (j := 29) (x := e) (v := tn A 29 e + 1)
  have a := h.nb.2 29 e
  obtain ⟨h1, h2, h3, h4, h5, h6, h7, h8, h9, h10, h11, h12, h13, h14, h15⟩ := h
  refine ⟨h1.df d (by decide) (by rw [(d).1 53 (by decide)]; exact h1.2.2.2.2.2.1), h2.df d (by decide) (by decide) (by decide), h3.df d (by decide) (by decide), h4.df d (by decide) (by decide), h5.df d (by decide) (by decide) (by decide), h6.df d (by decide) (by decide) (by decide), h7.df d (by decide) (by decide) (by decide), h8.df d (by decide) (by decide), h9.df d (by decide) (by decide), h10.df d (by decide) (by decide) ⟨rfl, fun j a b i => by rw [tn_sn, if_neg (by omega)]⟩, ?_, h12.df d (by decide) (by decide), h13.df d (by decide) (by decide), (h14.mono (by omega)).sn (by omega), by omega⟩
  refine ⟨fun x hx => ?_, h11.2⟩
  have := h11.1 x hx
  have hx' : tf A 38 ≤ x := hx
  rw [tn_sn, if_neg (by omega), tn_sn, if_neg (by omega), tn_sn, if_neg (by omega), tn_sn, if_neg (by omega), tn_sn, if_neg (by omega)]
  exact this
theorem INV.syn {e : Nat} (h : INV K A) (he : e < tf A 38) : INV (K + 4) (synF A e) := by
  have a := h.nb.2 29 e
  have h' := h.s29 he
  have := h'.synL (e := e) (n := tn A 26 e) (c := tn A 29 e + 1) he (by rw [tn_sn, if_neg (by omega)]; exact Nat.le_refl _) (by omega) (tf A 1) (Nat.le_refl _)
  exact this.mono (by have := h.1.2.2.2.2.2.2.2.1; omega)
theorem INV.ans {e op : Nat} {v : Int32} {b : Bool} (h : INV K A) (he : e < tf A 38) (ho : op < tf A 13) : INV (K + 1) (ansF A e op v b) := h.send (LET_cl (Or.inl rfl) he ho h.1.2.2.2.2.2.2.1) (Nat.le_succ_of_le (h.nb.2 _ _)) (Nat.le_succ_of_le (h.nb.2 _ _)) (Nat.zero_le _)
/-- a letter is taken -/
theorem tkF_df {k : Nat} : df (tkF A k) A [53] [] [] [] := by
  have h := tkL_keep A k (tf A 53 - 1 - k)
  refine ⟨fun j hj => ?_, fun j a _ i => h.2.1 j i a, fun j a _ i => h.2.2.1 j i a, fun j a _ i => h.2.2.2 j i a⟩
  show tf (tkL A k _) j = _
  rw [h.1 j, tf_sf, if_neg (fun z => hj (by rw [z]; decide))]
theorem tkF_53 {k : Nat} : tf (tkF A k) 53 = tf A 53 - 1 := by
  show tf (tkL A k _) 53 = _
  rw [(tkL_keep A k _).1 53, tf_sf, if_pos rfl]
theorem INV.take {k : Nat} (h : INV K A) (hk : k < tf A 53) : INV K (tkF A k) := by
  have d := tkF_df (A := A) (k := k)
  obtain ⟨h1, h2, h3, h4, h5, h6, h7, h8, h9, h10, h11, h12, h13, h14, h15⟩ := h
  refine ⟨h1.df d (by decide) (by rw [tkF_53]; have := h1.2.2.2.2.2.1; omega), h2.df d (by decide) (by decide) (by decide), h3.df d (by decide) (by decide), h4.df d (by decide) (by decide), h5.df d (by decide) (by decide) (by decide), h6.df d (by decide) (by decide) (by decide), h7.df d (by decide) (by decide) (by decide), h8.df d (by decide) (by decide), h9.df d (by decide) (by decide), ?_, h11.df d (by decide) (by decide) (by decide), h12.df d (by decide) (by decide), h13.df d (by decide) (by decide), tkL_NB h14 _, h15⟩
  intro x hx
  rw [tkF_53] at hx
  obtain ⟨rn, -, -⟩ := tkL_row A k (tf A 53 - 1 - k)
  have e : ∀ j, 45 ≤ j → j ≤ 50 → tn (tkF A k) j x = tn A j (if k ≤ x then x + 1 else x) := fun j p q => by
    show tn (tkL A k _) j x = _
    rw [rn]
    by_cases y : k ≤ x
    · rw [if_pos ⟨⟨p, q⟩, y, by omega⟩, if_pos y]
    · rw [if_neg (fun z => y z.2.1), if_neg y]
  rw [e 45 (by decide) (by decide), e 46 (by decide) (by decide), e 47 (by decide) (by decide), e 48 (by decide) (by decide), e 49 (by decide) (by decide), e 50 (by decide) (by decide)]
  exact (h10 _ (by split <;> omega)).df d (by decide) (by decide)
/-- a client begins -/
theorem INV.beg0 {c : Nat} (h : INV K A) : INV K (sr (sb (sn A 18 c 0) 19 c false) 1 c (nI 0)) := by
  have d : df (sr (sb (sn A 18 c 0) 19 c false) 1 c (nI 0)) A [] [18] [1] [19] := (df_sr.trans (df_sb.trans df_sn)).mono (by decide) (by decide) (by decide) (by decide)
  obtain ⟨h1, h2, h3, h4, h5, h6, h7, h8, h9, h10, h11, h12, h13, h14, h15⟩ := h
  refine ⟨h1.df d (by decide) (by rw [(d).1 53 (by decide)]; exact h1.2.2.2.2.2.1), h2.df d (by decide) (by decide) (by decide), h3.df d (by decide) (by decide), ?_, h5.df d (by decide) (by decide) (by decide), h6.df d (by decide) (by decide) (by decide), h7.df d (by decide) (by decide) (by decide), h8.df d (by decide) (by decide), h9.df d (by decide) (by decide), h10.df d (by decide) (by decide) ⟨rfl, fun j a b i => by show tn (sn A 18 c 0) j i = _; rw [tn_sn, if_neg (by omega)]⟩, h11.df d (by decide) (by decide) (by decide), h12.df d (by decide) (by decide), ?_, (h14.sn (Nat.zero_le _)).sb.sr, h15⟩
  · intro x
    show tn (sn A 18 c 0) 18 x < _
    rw [tn_sn]
    split
    · exact Nat.pow_pos (by decide)
    · exact h4 x
  · intro x hx hb
    have hb' : tb (sb A 19 c false) 19 x = true := hb
    rw [tb_sb] at hb'
    have hne : x ≠ c := fun z => by
      rw [if_pos ⟨rfl, z⟩] at hb'
      cases hb'
    rw [if_neg (fun z => hne z.2)] at hb'
    rw [tr_sr, if_neg (fun z => hne z.2)]
    show tr A 1 x = tr (sr A 1 c (nI 0)) 20 x
    rw [tr_sr, if_neg (fun z => by omega)]
    exact h13 x hx hb'
theorem INV.begS {c op : Nat} (h : INV K A) (hc : c < 4) (ho : op < tf A 13) : INV (K + 4) (begC A c op) := by
  have h0 := h.beg0 (c := c)
  have he := (h.2.2.1 c hc).2.2.2
  have h1 : INV (K + 1) (begC0 A c op) := h0.send (LET_op (Or.inl rfl) he ho) (Nat.le_succ_of_le (h.nb.2 _ _)) (Nat.le_succ_of_le (h.nb.2 _ _)) (Nat.zero_le _)
  have d := begC0_keep A c op
  unfold begC
  split
  · rename_i hu
    have h2 := h1.begL (e := tn A 17 c) (op := op) (by rw [d.1 38 (by decide) (by decide)]; exact he) (by rw [d.1 13 (by decide) (by decide)]; exact ho) (by rw [d.2 7 op (by decide) (by decide)]; exact hu) (tf A 1) (by rw [d.1 1 (by decide) (by decide)]; exact Nat.le_refl _)
    exact h2.mono (by have := h.1.2.2.2.2.2.2.2.1; omega)
  · exact h1.mono (by omega)
theorem INV.s17 {c v : Nat} (h : INV K A) (hv : v < tf A 38) : INV K (sn A 17 c v) := by
  have d := df_sn (A := A) (j := 17) (x := c) (v := v)
  obtain ⟨h1, h2, h3, h4, h5, h6, h7, h8, h9, h10, h11, h12, h13, h14, h15⟩ := h
  refine ⟨h1.df d (by decide) (by rw [(d).1 53 (by decide)]; exact h1.2.2.2.2.2.1), h2.df d (by decide) (by decide) (by decide), ?_, h4.df d (by decide) (by decide), h5.df d (by decide) (by decide) (by decide), h6.df d (by decide) (by decide) (by decide), h7.df d (by decide) (by decide) (by decide), h8.df d (by decide) (by decide), h9.df d (by decide) (by decide), h10.df d (by decide) (by decide) ⟨rfl, fun j a b i => by rw [tn_sn, if_neg (by omega)]⟩, h11.df d (by decide) (by decide) (by decide), h12.df d (by decide) (by decide), h13.df d (by decide) (by decide), h14.sn (by have := h14.1 38; omega), h15⟩
  intro x hx
  obtain ⟨q1, q2, q3, q4⟩ := h3 x hx
  have e16 : tn (sn A 17 c v) 16 x = tn A 16 x := by rw [tn_sn, if_neg (by omega)]
  have e5 : ∀ i, tn (sn A 17 c v) 5 i = tn A 5 i := fun i => by rw [tn_sn, if_neg (by omega)]
  rw [e16, e5]
  refine ⟨q1, q2, fun i hi hc => q3 i hi (by rw [e5] at hc; exact hc), ?_⟩
  rw [tn_sn]
  split
  · exact hv
  · exact q4
theorem INV.crash {e : Nat} (h : INV K A) (he : e < tf A 38) : INV K (craF A e) := by
  have d : df (craF A e) A [] [37] [] [30] := (df_sn.trans df_sb).mono (by decide) (by decide) (by decide) (by decide)
  obtain ⟨h1, h2, h3, h4, h5, h6, h7, h8, h9, h10, h11, h12, h13, h14, h15⟩ := h
  refine ⟨h1.df d (by decide) (by rw [(d).1 53 (by decide)]; exact h1.2.2.2.2.2.1), h2.df d (by decide) (by decide) (by decide), h3.df d (by decide) (by decide), h4.df d (by decide) (by decide), h5.df d (by decide) (by decide) (by decide), h6.df d (by decide) (by decide) (by decide), ?_, h8.df d (by decide) (by decide), h9.df d (by decide) (by decide), h10.df d (by decide) (by decide) ⟨rfl, fun j a b i => by show tn (sn _ _ _ _) j i = _; rw [tn_sn, if_neg (by omega)]; rfl⟩, ?_, h12.df d (by decide) (by decide), h13.df d (by decide) (by decide), (h14.sb).sn (Nat.zero_le _), h15⟩
  · refine ⟨h7.1, h7.2.1, fun x hx => ?_⟩
    have hx' : x < tf A 38 := hx
    have q := h7.2.2 x hx'
    have e37 : tn (craF A e) 37 x = if x = e then 0 else tn A 37 x := by
      show tn (sn _ 37 e 0) 37 x = _
      rw [tn_sn]
      by_cases y : x = e
      · rw [if_pos ⟨rfl, y⟩, if_pos y]
      · rw [if_neg (fun z => y z.2), if_neg y]
        rfl
    rw [e37]
    by_cases y : x = e
    · rw [if_pos y]
      exact ⟨fun k hk => absurd hk (Nat.not_lt_zero _), fun i j hi => absurd hi (Nat.not_lt_zero _)⟩
    · rw [if_neg y]
      have hv : ∀ ky n, vaF (craF A e) x ky n = vaF A x ky n := fun ky n => vaF_same (d.2.1 22 (by decide) (by decide)) (d.2.1 7 (by decide) (by decide)) (d.2.1 8 (by decide) (by decide)) (d.2.2.1 9 (by decide) (by decide)) x ky n
      refine ⟨fun k hk => ?_, q.2⟩
      obtain ⟨p1, p2, p3⟩ := q.1 k hk
      exact ⟨p1, p2, by rw [hv]; exact p3⟩
  · refine ⟨fun x hx => ?_, h11.2⟩
    have hx' : tf A 38 ≤ x := hx
    obtain ⟨p1, p2, p3, p4, p5, p6⟩ := h11.1 x hx'
    refine ⟨p1, p2, p3, p4, ?_, p6⟩
    show tn (sn _ 37 e 0) 37 x = 0
    rw [tn_sn, if_neg (by omega)]
    exact p5
theorem INV.sync {e : Nat} (h : INV K A) (he : e < tf A 38) : INV (K + 7) (sycF A e) := by
  have h1 := h.syn he
  have k := (syn_keep A e).1 38 (by decide) (by decide)
  unfold sycF
  split
  · exact h1.res (by rw [k]; exact he)
  · exact h1.mono (by omega)
end
