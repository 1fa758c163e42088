/-! ===== decide: both sides ===== -/
section
variable {K : Nat} {A B T X : TS}
theorem trL_5 {e w v : Nat} : ∀ k, trL (sf A 5 v) e w k = (sf (trL A e w k).1 5 v, (trL A e w k).2)
  | 0 => by
    show (sf A 5 v, nbF (sf A 5 v) w 0 (tf A 2 * tf A 3)) = (sf A 5 v, nbF A w 0 (tf A 2 * tf A 3))
    rw [nbF_same (A := A) (B := sf A 5 v) (fun _ => rfl) (fun _ => rfl) (fun _ => rfl)]
  | k + 1 => by
    show trS e w (trL (sf A 5 v) e w k) = (sf (trS e w (trL A e w k)).1 5 v, (trS e w (trL A e w k)).2)
    rw [trL_5 k]
    generalize trL A e w k = p
    unfold trS
    by_cases y : p.2 = 0
    · rw [if_pos y, if_pos y]
    · rw [if_neg y, if_neg y]
      have e1 : trA e (sf p.1 5 v, p.2) = sf (trA e p) 5 v := by
        unfold trA
        show (if placeF (sf p.1 5 v) e (p.2 - 1) = 0 ∧ hgF (sf p.1 5 v) e (p.2 - 1) (tn p.1 26 e) = false then apC (sf p.1 5 v) e (p.2 - 1) false else sf p.1 5 v) = _
        rw [placeF_same (A := p.1) (B := sf p.1 5 v) e (p.2 - 1) (fun _ => rfl) rfl, hgF_same (A := p.1) (B := sf p.1 5 v) (fun _ => rfl) (fun _ => rfl) (fun _ => rfl), app_5]
        split <;> rfl
      show (trA e (sf p.1 5 v, p.2), nbF (trA e (sf p.1 5 v, p.2)) w p.2 (tf (trA e (sf p.1 5 v, p.2)) 2 * tf (trA e (sf p.1 5 v, p.2)) 3)) = _
      rw [e1]
      show (sf (trA e p) 5 v, nbF (sf (trA e p) 5 v) w p.2 (tf (trA e p) 2 * tf (trA e p) 3)) = (sf (trA e p) 5 v, nbF (trA e p) w p.2 (tf (trA e p) 2 * tf (trA e p) 3))
      rw [nbF_same (A := trA e p) (B := sf (trA e p) 5 v) (fun _ => rfl) (fun _ => rfl) (fun _ => rfl)]
theorem dcC2_5 {e b : Nat} : sf (dcC2 A e b) 5 (e + 1) = tlL (nw0 A e) e (tn A 39 b) (tn A 40 b) := (tlL_5 _).symm
theorem decC_is {e b w : Nat} : decC A e b w = sb (sn (sn (sn (trL (tlL (nw0 A e) e (tn A 39 b) (tn A 40 b)) e w (tf A 2 * tf A 3)).1 27 e (tn (trL (tlL (nw0 A e) e (tn A 39 b) (tn A 40 b)) e w (tf A 2 * tf A 3)).1 26 e)) 39 b e) 41 w e) 42 w true := by
  rw [← dcC2_5, trL_5]
  rfl
theorem INV.s27 {e v : Nat} (h : INV K A) (he : e < tf A 38) (hv : v ≤ K) : INV K (sn A 27 e v) := by
  have d := df_sn (A := A) (j := 27) (x := e) (v := v)
  obtain ⟨h1, h2, h3, h4, h5, h6, h7, h8, h9, h10, h11, h12, h13, h14, h15⟩ := h
  refine ⟨h1.df d (by decide) (by rw [(d).1 53 (by decide)]; exact h1.2.2.2.2.2.1), h2.df d (by decide) (by decide) (by decide), h3.df d (by decide) (by decide), h4.df d (by decide) (by decide), h5.df d (by decide) (by decide) (by decide), h6.df d (by decide) (by decide) (by decide), h7.df d (by decide) (by decide) (by decide), h8.df d (by decide) (by decide), h9.df d (by decide) (by decide), h10.df d (by decide) (by decide) ⟨rfl, fun j a b i => by rw [tn_sn, if_neg (by omega)]⟩, ?_, h12.df d (by decide) (by decide), h13.df d (by decide) (by decide), h14.sn hv, h15⟩
  refine ⟨fun x hx => ?_, h11.2⟩
  have hx' : tf A 38 ≤ x := hx
  have q := h11.1 x hx'
  rw [tn_sn, if_neg (by omega), tn_sn, if_neg (by omega), tn_sn, if_neg (by omega), tn_sn, if_neg (by omega), tn_sn, if_neg (by omega)]
  exact q
theorem INV.s39 {b e : Nat} (h : INV K A) (he : e < tf A 38) (hn : tn A 40 b ≤ tn A 26 e) : INV K (sn A 39 b e) := by
  have d := df_sn (A := A) (j := 39) (x := b) (v := e)
  have e38 := h.nb.1 38
  obtain ⟨h1, h2, h3, h4, h5, h6, h7, h8, h9, h10, h11, h12, h13, h14, h15⟩ := h
  refine ⟨h1.df d (by decide) (by rw [(d).1 53 (by decide)]; exact h1.2.2.2.2.2.1), h2.df d (by decide) (by decide) (by decide), h3.df d (by decide) (by decide), h4.df d (by decide) (by decide), h5.df d (by decide) (by decide) (by decide), h6.df d (by decide) (by decide) (by decide), h7.df d (by decide) (by decide) (by decide), h8.df d (by decide) (by decide), ?_, h10.df d (by decide) (by decide) ⟨rfl, fun j a b i => by rw [tn_sn, if_neg (by omega)]⟩, h11.df d (by decide) (by decide) (by decide), h12.df d (by decide) (by decide), h13.df d (by decide) (by decide), h14.sn (by omega), h15⟩
  intro x hx
  have hx' : x < tf A 1 := hx
  have q := h9 x hx'
  show tn (sn A 39 b e) 39 x < tf A 38 ∧ tn (sn A 39 b e) 40 x ≤ tn (sn A 39 b e) 26 (tn (sn A 39 b e) 39 x)
  have e40 : tn (sn A 39 b e) 40 x = tn A 40 x := by rw [tn_sn, if_neg (by omega)]
  have e26 : ∀ i, tn (sn A 39 b e) 26 i = tn A 26 i := fun i => by rw [tn_sn, if_neg (by omega)]
  rw [e40, e26, tn_sn]
  by_cases y : x = b
  · rw [if_pos ⟨rfl, y⟩, y]
    exact ⟨he, hn⟩
  · rw [if_neg (fun z => y z.2)]
    exact q
theorem INV.s41 {w e : Nat} {v : Bool} (h : INV K A) (he : e ≤ K) : INV K (sb (sn A 41 w e) 42 w v) := by
  have d : df (sb (sn A 41 w e) 42 w v) A [] [1, 41, 43, 44] [] [42] := (df_sb.trans df_sn).mono (by decide) (by decide) (by decide) (by decide)
  refine h.wit d ⟨rfl, fun j a b i => by show tn (sn A 41 w e) j i = _; rw [tn_sn, if_neg (by omega)]⟩ (h.nb.sn he).sb (Nat.le_refl _) ?_
  have q := h.2.2.2.2.2.2.2.2.2.2.2.1
  intro x hx
  have hx' : x < tf A 1 := hx
  refine (show WI A x from q x hx').same rfl rfl rfl (fun i => ?_) (fun i => ?_) ?_ (fun k _ => ?_) (fun i _ => ?_) <;> rw [tn_sb, tn_sn, if_neg (by omega)]
theorem decide_ok {e b w : Nat} (h : INV K A) (hm : iMom A) (he : tf A 38 = e) (h12 : e < 12) (hb : b < tf A 1) (hw : w < tf A 1) : EQ (decF A e b w) (decC A e b w) ∧ INV (K + 3001) (decC A e b w) ∧ iMom (decC A e b w) ∧ tf (decC A e b w) 13 = tf A 13 ∧ LogOK (decD A e b) e ∧ LogOK (dcC2 A e b) e ∧ (∀ i, i < tf A 2 * tf A 3 → plW (dcC2 A e b) w i ≤ tf (dcC2 A e b) 13) := by
  obtain ⟨hf, hn⟩ := h.2.2.2.2.2.2.2.2.1 b hb
  rw [he] at hf
  have hLf := h.2.2.2.2.1.2 (tn A 39 b) (by omega)
  have hle := hLf.1.le
  have h600 := h.1.2.2.2.2.1
  have k7 := h.k7
  have q1 := dec1_EQ h hm he h12 hb
  obtain ⟨p1, pm, p2, p3, p4, p5, p6, p7, p8, p9, p10, p11⟩ := tl_ok h hm he h12 hf (tn A 40 b) hn
  have dn := nw0_df (A := A) (e := e)
  have r1 := (nw0_row (A := A) (e := e)).1
  have hC2 := dcC2_5 (A := A) (e := e) (b := b)
  rw [decC_is]
  have f2 : tf (tlL (nw0 A e) e (tn A 39 b) (tn A 40 b)) 2 = tf A 2 := (p2 2).trans (dn.1 2 (by decide))
  have f3 : tf (tlL (nw0 A e) e (tn A 39 b) (tn A 40 b)) 3 = tf A 3 := (p2 3).trans (dn.1 3 (by decide))
  have f1 : tf (tlL (nw0 A e) e (tn A 39 b) (tn A 40 b)) 1 = tf A 1 := (p2 1).trans (dn.1 1 (by decide))
  have f13 : tf (tlL (nw0 A e) e (tn A 39 b) (tn A 40 b)) 13 = tf A 13 := (p2 13).trans (dn.1 13 (by decide))
  have f38 : e < tf (tlL (nw0 A e) e (tn A 39 b) (tn A 40 b)) 38 := by rw [p2, r1]; omega
  have n40 : tn (tlL (nw0 A e) e (tn A 39 b) (tn A 40 b)) 40 b = tn A 40 b := (p3 40 b (by decide) (by decide)).trans (dn.2.1 40 (by decide) (by decide) b)
  have hlog : LogOK (dcC2 A e b) e := by
    have := (p1.2.2.2.2.1.2 e f38).1
    rw [← hC2] at this
    exact this
  have hpl : ∀ i, i < tf A 2 * tf A 3 → plW (dcC2 A e b) w i ≤ tf (dcC2 A e b) 13 := fun i hi => by
    have e1 : plW (dcC2 A e b) w i = plW (tlL (nw0 A e) e (tn A 39 b) (tn A 40 b)) w i := by rw [← hC2]; rfl
    have e2 : tf (dcC2 A e b) 13 = tf (tlL (nw0 A e) e (tn A 39 b) (tn A 40 b)) 13 := by rw [← hC2]; rfl
    rw [e1, e2]
    by_cases z : plW (tlL (nw0 A e) e (tn A 39 b) (tn A 40 b)) w i = 0
    · omega
    · have := (hold_ok p1 (by rw [f1]; exact hw) (pl_hold p1 (by rw [f1]; exact hw) (by rw [f2, f3]; exact hi) z)).1
      omega
  have hlogD : LogOK (decD A e b) e := by
    have l := (p1.2.2.2.2.1.2 e f38).1
    have e26 := q1.2.1 26 e (by decide)
    have e13 := q1.1 13 (by decide) (by decide)
    refine ⟨by rw [e13]; exact l.1, fun k hk => ?_, fun i j hi hj he' => ?_⟩
    · rw [e26] at hk
      rw [q1.2.1 22 _ (by decide), e13]
      exact l.2.1 k hk
    · rw [e26] at hi hj
      rw [q1.2.1 22 _ (by decide), q1.2.1 22 _ (by decide)] at he'
      exact l.2.2 i j hi hj he'
  rw [← f2, ← f3, trL_is p1 f38 (by rw [f1]; exact hw)]
  have qO := rpO_EQ (D := decD A e b) (w := w) p1 f38 (by rw [f1]; exact hw) q1 4
  have I := lpL_I p1 f38 (by rw [f1]; exact hw) 2400
  have M := lpL_mom (e := e) (w := w) pm 2400
  generalize tlL (nw0 A e) e (tn A 39 b) (tn A 40 b) = T at *
  have qO' : EQ (decR A e b w) (lpL T e w 2400) := qO
  generalize hR : lpL T e w 2400 = R at *
  obtain ⟨i1, i2, i3, i4, i5⟩ := I
  have he1 : e < tf R 38 := by rw [i2]; exact f38
  have hv : tn R 26 e ≤ K + 3001 := by
    have := i1.nb.2 26 e
    omega
  have g1 := (i1.mono (K' := K + 3001) (by omega)).s27 he1 hv
  have g2 := g1.s39 (b := b) (e := e) he1 (by
    rw [tn_sn, if_neg (by omega), tn_sn, if_neg (by omega), i3 40 b (by decide) (by decide), n40]
    omega)
  have g3 := g2.s41 (w := w) (e := e) (v := true) (by omega)
  refine ⟨?_, g3, M.same rfl (fun i => ?_) (fun i => ?_), (i2 13).trans f13, hlogD, hlog, ?_⟩
  · unfold decF
    rw [qO'.2.1 26 e (by decide)]
    exact (((qO'.sn _ _ _).sn _ _ _).sn _ _ _).sb _ _ _
  · show tn (sn (sn (sn R 27 e (tn R 26 e)) 39 b e) 41 w e) 10 i = _
    rw [tn_sn, if_neg (by omega), tn_sn, if_neg (by omega), tn_sn, if_neg (by omega)]
  · show tn (sn (sn (sn R 27 e (tn R 26 e)) 39 b e) 41 w e) 11 i = _
    rw [tn_sn, if_neg (by omega), tn_sn, if_neg (by omega), tn_sn, if_neg (by omega)]
  · rw [f2, f3]
    exact hpl
end
