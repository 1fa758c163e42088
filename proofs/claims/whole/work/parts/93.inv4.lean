/-! ===== an ACK at a master ===== -/
section
variable {K : Nat} {A B X : TS}
theorem kaA_is {e b n : Nat} : kaA A e b n = raA A e b n := by
  unfold kaA raA
  split
  · rfl
  · rw [sn_self]
theorem awL_row {e b c : Nat} : ∀ k, (∀ j, tf (awL A e b c k) j = tf A j) ∧ (∀ j i, j ≠ 36 → tn (awL A e b c k) j i = tn A j i) ∧ (∀ j i, tr (awL A e b c k) j i = tr A j i) ∧ (∀ j i, tb (awL A e b c k) j i = tb A j i)
  | 0 => ⟨fun _ => rfl, fun _ _ _ => rfl, fun _ _ => rfl, fun _ _ => rfl⟩
  | k + 1 => by
    obtain ⟨h1, h2, h3, h4⟩ := awL_row (e := e) (b := b) (c := c) k
    unfold awL awS
    generalize awL A e b c k = G at *
    split
    · exact ⟨h1, fun j i q => by rw [tn_sn, if_neg (by omega)]; exact h2 j i q, h3, h4⟩
    · exact ⟨h1, h2, h3, h4⟩
theorem rakB_row {e b n c : Nat} : (∀ j, tf (rakB A e b n c) j = tf A j) ∧ (∀ j i, j ≠ 36 → j ≠ 32 → tn (rakB A e b n c) j i = tn A j i) ∧ (∀ i, tn (rakB A e b n c) 32 i = if i = 3 * e + b then (if tn A 32 (3 * e + b) ≤ n then n + 1 else tn A 32 (3 * e + b)) else tn A 32 i) ∧ (∀ j i, tr (rakB A e b n c) j i = tr A j i) ∧ (∀ j i, tb (rakB A e b n c) j i = tb A j i) := by
  obtain ⟨h1, h2, h3, h4⟩ := awL_row (A := kaA A e b n) (e := e) (b := b) (c := c) (tn (kaA A e b n) 37 e)
  refine ⟨h1, fun j i p q => ?_, fun i => ?_, h3, h4⟩
  · refine (h2 j i p).trans ?_
    unfold kaA
    rw [tn_sn, if_neg (by omega)]
  · refine (h2 32 i (by decide)).trans ?_
    unfold kaA
    rw [tn_sn]
    by_cases y : i = 3 * e + b
    · rw [if_pos ⟨rfl, y⟩, if_pos y]
    · rw [if_neg (fun z => y z.2), if_neg y]
theorem lkC_is {e f : Nat} (h : ∀ b, b < f → tn B 32 (3 * e + b) ≤ tn B 26 e + 1) : ∀ b, b < f → lkC B e (b + 1) = lkF B e b
  | 0, hb => by
    have h0 : tn B 32 (3 * e) ≤ tn B 26 e + 1 := h 0 hb
    show (if tn B 32 (3 * e) < tn B 26 e + 1 then tn B 32 (3 * e) else tn B 26 e + 1) = tn B 32 (3 * e)
    split
    · rfl
    · omega
  | b + 1, hb => by
    have ih := lkC_is h b (by omega)
    show (if tn B 32 (3 * e + (b + 1)) < lkC B e (b + 1) then tn B 32 (3 * e + (b + 1)) else lkC B e (b + 1)) = lkF B e (b + 1)
    rw [ih]
    rfl
theorem lkF_mono {e : Nat} (h : ∀ i, tn A 32 i ≤ tn B 32 i) : ∀ n, lkF A e n ≤ lkF B e n
  | 0 => h _
  | n + 1 => by
    have ih := lkF_mono (e := e) h n
    have := h (3 * e + (n + 1))
    unfold lkF
    split <;> split <;> omega
theorem lkF_loc {e : Nat} : ∀ n, (∀ j, j ≤ n → tn B 32 (3 * e + j) = tn A 32 (3 * e + j)) → lkF B e n = lkF A e n
  | 0, h => h 0 (Nat.le_refl _)
  | n + 1, h => by
    unfold lkF
    rw [h (n + 1) (Nat.le_refl _), lkF_loc n (fun j hj => h j (by omega))]
theorem lkF_bd {e m : Nat} : ∀ n, (∀ j, j ≤ n → tn B 32 (3 * e + j) ≤ m) → lkF B e n ≤ m
  | 0, h => h 0 (Nat.le_refl _)
  | n + 1, h => by
    have ih := lkF_bd n (fun j hj => h j (by omega))
    have := h (n + 1) (Nat.le_refl _)
    unfold lkF
    split <;> assumption
/-- what is known is told; what is synced follows -/
theorem INV.ack1 {e b n c : Nat} (h : INV K A) (he : e < tf A 38) (hb : b < tf A 1) (hn : n ≤ tn A 26 e) : INV K (sn (rakB A e b n c) 28 e (lkF (rakB A e b n c) e (tf A 1 - 1) - 1)) ∧ lkF (rakB A e b n c) e (tf A 1 - 1) ≤ tn A 26 e + 1 ∧ raC (rakB A e b n c) e (lkF (rakB A e b n c) e (tf A 1 - 1)) = sn (rakB A e b n c) 28 e (lkF (rakB A e b n c) e (tf A 1 - 1) - 1) ∧ lkC (rakB A e b n c) e (tf A 1) = lkF (rakB A e b n c) e (tf A 1 - 1) := by
  have hN := h.1
  have f1 := hN.2.2.2.2.2.2.1
  have f3 := hN.2.2.2.2.2.2.2.1
  have k7 := h.k7
  have hS := h.2.2.2.2.2.2.2.1
  have hLe := (h.2.2.2.2.1.2 e he).1.le
  have h13 := hN.2.2.2.2.1
  obtain ⟨s1, s2⟩ := hS e he
  obtain ⟨r1, r2, r3, r4, r5⟩ := rakB_row (A := A) (e := e) (b := b) (n := n) (c := c)
  obtain ⟨-, bn, b36⟩ := rakB_is (c9 := c) hb f3 h.2.2.2.2.2.2.1.2.1 hN.2.2.2.2.2.1 h.nb (show n + 1 ≤ K by omega) (by omega)
  generalize rakB A e b n c = B at *
  have m32 : ∀ i, tn A 32 i ≤ tn B 32 i := fun i => by
    rw [r3]
    split
    · rename_i y
      rw [y]
      split <;> omega
    · exact Nat.le_refl _
  have bd : ∀ j, j < tf A 1 → tn B 32 (3 * e + j) ≤ tn A 26 e + 1 := fun j hj => by
    rw [r3]
    split
    · split
      · omega
      · exact s1 b hb
    · exact s1 j hj
  have hlk : lkF B e (tf A 1 - 1) ≤ tn A 26 e + 1 := lkF_bd _ (fun j hj => bd j (by omega))
  have hmo : lkF A e (tf A 1 - 1) ≤ lkF B e (tf A 1 - 1) := lkF_mono m32 _
  have e28 : tn B 28 e = tn A 28 e := r2 28 e (by decide) (by decide)
  refine ⟨?_, hlk, ?_, ?_⟩
  · have d : df (sn B 28 e (lkF B e (tf A 1 - 1) - 1)) A [] [28, 32, 36] [] [] := ⟨fun j _ => r1 j, fun j a hj i => by
      simp only [List.mem_cons, List.not_mem_nil, or_false, not_or] at hj
      rw [tn_sn, if_neg (fun z => hj.1 z.1)]
      exact r2 j i hj.2.2 hj.2.1, fun j _ _ i => r4 j i, fun j _ _ i => r5 j i⟩
    have w28 : ∀ x, tn (sn B 28 e (lkF B e (tf A 1 - 1) - 1)) 28 x = if x = e then lkF B e (tf A 1 - 1) - 1 else tn A 28 x := fun x => by
      rw [tn_sn]
      by_cases y : x = e
      · rw [if_pos ⟨rfl, y⟩, if_pos y]
      · rw [if_neg (fun z => y z.2), if_neg y]
        exact r2 28 x (by decide) (by decide)
    have w32 : ∀ i, tn (sn B 28 e (lkF B e (tf A 1 - 1) - 1)) 32 i = tn B 32 i := fun i => by rw [tn_sn, if_neg (by omega)]
    have w36 : ∀ i, tn (sn B 28 e (lkF B e (tf A 1 - 1) - 1)) 36 i = tn B 36 i := fun i => by rw [tn_sn, if_neg (by omega)]
    have nbn : NB K (sn B 28 e (lkF B e (tf A 1 - 1) - 1)) := bn.sn (by omega)
    have hlx : ∀ x, lkF (sn B 28 e (lkF B e (tf A 1 - 1) - 1)) x (tf A 1 - 1) = lkF B x (tf A 1 - 1) := fun x => lkF_same w32 x _
    have hsl : sl (sn B 28 e (lkF B e (tf A 1 - 1) - 1)) A := ⟨r1 53, fun j a b i => by rw [tn_sn, if_neg (by omega)]; exact r2 j i (by omega) (by omega)⟩
    generalize hlkd : lkF B e (tf A 1 - 1) = lk at *
    generalize sn B 28 e (lk - 1) = C at *
    have c1 : tf C 1 = tf A 1 := d.1 1 (by decide)
    have c38 : tf C 38 = tf A 38 := d.1 38 (by decide)
    have c13 : tf C 13 = tf A 13 := d.1 13 (by decide)
    have hv : ∀ x ky m, vaF C x ky m = vaF A x ky m := fun x ky m => vaF_same (d.2.1 22 (by decide) (by decide)) (d.2.1 7 (by decide) (by decide)) (d.2.1 8 (by decide) (by decide)) (d.2.2.1 9 (by decide) (by decide)) x ky m
    obtain ⟨h1, h2, h3, h4, h5, h6, h7, h8, h9, h10, h11, h12, h13, h14, h15⟩ := h
    refine ⟨h1.df d (by decide) (by rw [(d).1 53 (by decide)]; exact h1.2.2.2.2.2.1), h2.df d (by decide) (by decide) (by decide), h3.df d (by decide) (by decide), h4.df d (by decide) (by decide), ?_, h6.df d (by decide) (by decide) (by decide), ?_, ?_, h9.df d (by decide) (by decide), h10.df d (by decide) (by decide) hsl, ?_, h12.df d (by decide) (by decide), h13.df d (by decide) (by decide), nbn, h15⟩
    · refine ⟨fun i => by rw [d.2.1 22 (by decide) (by decide)]; exact h5.1 i, fun x hx => ?_⟩
      rw [c38] at hx
      obtain ⟨q1, q2, q3⟩ := h5.2 x hx
      simp only [LogOK, asF, d.2.1 22 (by decide) (by decide), d.2.1 26 (by decide) (by decide), d.2.1 7 (by decide) (by decide), d.2.1 8 (by decide) (by decide), d.2.2.1 9 (by decide) (by decide), d.2.2.1 23 (by decide) (by decide), hv, c13, w28]
      refine ⟨q1, ?_, q3⟩
      split
      · rename_i y
        rw [y]
        omega
      · exact q2
    · refine ⟨fun i => by rw [d.2.1 33 (by decide) (by decide)]; exact h7.1 i, fun i => by rw [w36, c1]; exact b36 i, fun x hx => ?_⟩
      rw [c38] at hx
      simp only [d.2.1 33 (by decide) (by decide), d.2.1 34 (by decide) (by decide), d.2.1 37 (by decide) (by decide), d.2.1 26 (by decide) (by decide), d.2.1 8 (by decide) (by decide), d.2.2.1 2 (by decide) (by decide), hv, c13]
      exact h7.2.2 x hx
    · intro x hx
      rw [c38] at hx
      rw [c1, hlx, w28, d.2.1 26 (by decide) (by decide)]
      obtain ⟨q1, q2⟩ := h8 x hx
      by_cases y : x = e
      · subst y
        rw [if_pos rfl, hlkd]
        exact ⟨fun j hj => by rw [w32]; exact bd j hj, rfl⟩
      · rw [if_neg y]
        have hrow : ∀ j, j < 3 → tn B 32 (3 * x + j) = tn A 32 (3 * x + j) := fun j hj => by rw [r3, if_neg (by omega)]
        refine ⟨fun j hj => by rw [w32, hrow j (by omega)]; exact q1 j hj, ?_⟩
        rw [lkF_loc _ (fun j hj => hrow j (by omega))]
        exact q2
    · refine ⟨fun x hx => ?_, fun i hi => ?_⟩
      · rw [c38] at hx
        have q := h11.1 x hx
        rw [w28, if_neg (by omega)]
        simp only [d.2.1 26 (by decide) (by decide), d.2.1 27 (by decide) (by decide), d.2.1 29 (by decide) (by decide), d.2.1 37 (by decide) (by decide), d.2.2.2 31 (by decide) (by decide)]
        exact q
      · rw [c38] at hi
        simp only [d.2.2.2 24 (by decide) (by decide), d.2.2.2 25 (by decide) (by decide)]
        exact h11.2 i hi
  · unfold raC
    rw [e28]
    split
    · rfl
    · rw [show tn A 28 e = lkF B e (tf A 1 - 1) - 1 by omega]
  · obtain ⟨m, hm⟩ : ∃ m, tf A 1 = m + 1 := ⟨tf A 1 - 1, by omega⟩
    rw [hm]
    exact lkC_is (f := m + 1) (fun j hj => by rw [r2 26 e (by decide) (by decide)]; exact bd j (by omega)) m (by omega)
theorem INV.aaL {e s : Nat} (h : INV K A) (he : e < tf A 38) : ∀ j, s + j ≤ tn A 26 e → INV (K + j) (aaL A e s j)
  | 0, _ => h
  | j + 1, hj => by
    have ih := INV.aaL (s := s) h he j (by omega)
    have d := (aaL_keep (e := e) (s := s) h.1.2.2.2.2.2.1 j).1.df
    have ho := (h.2.2.2.2.1.2 e he).1.2.1 (s + j) (by omega)
    show INV (K + (j + 1)) (aaS e (s + j) (_root_.Jvm.Pilot.COneTripLaw_law_r7449_bb9836.aaL A e s j))
    unfold aaS
    split
    · refine ih.ans (by rw [d.1 38 (by decide)]; exact he) ?_
      rw [d.2.1 22 (by decide) (by decide), d.1 13 (by decide)]
      exact ho
    · exact ih.mono (by omega)
theorem INV.s31 {e : Nat} (h : INV K A) (he : e < tf A 38) : INV K (sb A 31 e true) := by
  have d := df_sb (A := A) (j := 31) (x := e) (v := true)
  obtain ⟨h1, h2, h3, h4, h5, h6, h7, h8, h9, h10, h11, h12, h13, h14, h15⟩ := h
  refine ⟨h1.df d (by decide) (by rw [(d).1 53 (by decide)]; exact h1.2.2.2.2.2.1), h2.df d (by decide) (by decide) (by decide), h3.df d (by decide) (by decide), h4.df d (by decide) (by decide), h5.df d (by decide) (by decide) (by decide), h6.df d (by decide) (by decide) (by decide), h7.df d (by decide) (by decide) (by decide), h8.df d (by decide) (by decide), h9.df d (by decide) (by decide), h10.df d (by decide) (by decide) ⟨rfl, fun _ _ _ _ => rfl⟩, ?_, h12.df d (by decide) (by decide), h13.df d (by decide) (by decide), h14, h15⟩
  refine ⟨fun x hx => ?_, h11.2⟩
  have hx' : tf A 38 ≤ x := hx
  have q := h11.1 x hx'
  rw [tb_sb, if_neg (by omega)]
  exact q
theorem INV.raE {e lk : Nat} (h : INV K A) (he : e < tf A 38) : INV (K + 3) (rakE A e lk) := by
  unfold rakE
  split
  · split
    · exact (h.s31 he).res he
    · exact (h.s31 he).mono (by omega)
  · exact h.mono (by omega)
theorem INV.raG {e w : Nat} (h : INV K A) (he : e < tf A 38) : INV (K + 3) (raG A e w) := by
  unfold _root_.Jvm.Pilot.COneTripLaw_law_r7449_bb9836.raG
  split
  · exact (h.gsL he _ (Nat.le_refl _)).mono (by have := h.1.2.2.2.2.2.2.2.1; omega)
  · exact h.mono (by omega)
theorem raE_is {e lk : Nat} (h : tn A 28 e = lk - 1) : raE A e lk = rakE A e lk := by
  unfold raE rakE
  by_cases y : tb A 31 e = false ∧ tn A 27 e + 1 ≤ lk
  · rw [if_pos y, if_pos ⟨y.1, by omega, by omega⟩]
  · rw [if_neg y, if_neg (fun z => y ⟨z.1, by omega⟩)]
theorem raD_is {e w : Nat} : raD A e w = rakD A e w := by
  unfold raD rakD
  split
  · rfl
  · rw [show tn A 28 e - w = 0 by omega]
    rfl
/-! the gets that are answered: how many of the first k stay -/
def cnG (A : TS) (e : Nat) : Nat → Nat
  | 0 => 0
  | k + 1 => if rdF A e (600 * e + k) = true then cnG A e k else cnG A e k + 1
theorem cnG_le (A : TS) (e : Nat) : ∀ k, cnG A e k ≤ k
  | 0 => Nat.le_refl _
  | k + 1 => by have := cnG_le A e k; unfold cnG; split <;> omega
theorem cnG_up (A : TS) (e k : Nat) : ∀ t, cnG A e k ≤ cnG A e (k + t)
  | 0 => Nat.le_refl _
  | t + 1 => by
    have ih := cnG_up A e k t
    have e1 : cnG A e (k + (t + 1)) = if rdF A e (600 * e + (k + t)) = true then cnG A e (k + t) else cnG A e (k + t) + 1 := rfl
    by_cases z : rdF A e (600 * e + (k + t)) = true
    · rw [e1, if_pos z]
      exact ih
    · rw [e1, if_neg z]
      omega
theorem cnG_mono {e k n : Nat} (h : k ≤ n) : cnG A e k ≤ cnG A e n := by
  have := cnG_up A e k (n - k)
  rwa [show k + (n - k) = n by omega] at this
theorem cnG_lt {e k n : Nat} (hk : k < n) (hr : rdF A e (600 * e + k) = false) : cnG A e k < cnG A e n := by
  have h1 : cnG A e (k + 1) = cnG A e k + 1 := by
    show (if rdF A e (600 * e + k) = true then cnG A e k else cnG A e k + 1) = _
    rw [if_neg (by rw [hr]; decide)]
  have := cnG_mono (A := A) (e := e) (show k + 1 ≤ n from hk)
  omega
theorem cnG_ex (A : TS) {e : Nat} : ∀ n p, p < cnG A e n → ∃ k, k < n ∧ rdF A e (600 * e + k) = false ∧ cnG A e k = p
  | 0, p, h => absurd h (Nat.not_lt_zero _)
  | n + 1, p, h => by
    unfold cnG at h
    split at h
    · obtain ⟨k, a, b, c⟩ := cnG_ex A n p h
      exact ⟨k, by omega, b, c⟩
    · rename_i y
      by_cases z : p = cnG A e n
      · exact ⟨n, by omega, by simpa using y, z.symm⟩
      · obtain ⟨k, a, b, c⟩ := cnG_ex (e := e) A n p (by omega)
        exact ⟨k, by omega, b, c⟩
theorem cnG_inj {e i j : Nat} (hi : rdF A e (600 * e + i) = false) (hj : rdF A e (600 * e + j) = false) (h : cnG A e i = cnG A e j) : i = j := by
  rcases Nat.lt_trichotomy i j with y | y | y
  · have := cnG_lt y hi; omega
  · exact y
  · have := cnG_lt y hj; omega
theorem rdF_same {e : Nat} {i : Nat} (h1 : tf B 1 = tf A 1) (h28 : tn B 28 e = tn A 28 e) (h34 : tn B 34 i = tn A 34 i) (h36 : tn B 36 i = tn A 36 i) : rdF B e i = rdF A e i := by
  unfold rdF
  rw [h1, h28, h34, h36]
/-- the class's side -/
theorem agQ_row {W : TS} {e n : Nat} (hn : n = tn W 37 e) (h6 : n ≤ 600) : ∀ j, j ≤ n → (∀ x, tf (agQ W e n j) x = tf W x) ∧ (∀ x i, ¬ (33 ≤ x ∧ x ≤ 37) → tn (agQ W e n j) x i = tn W x i) ∧ (∀ x i, x ≠ 2 → tr (agQ W e n j) x i = tr W x i) ∧ (∀ x i, tb (agQ W e n j) x i = tb W x i) ∧ (∀ x, x ≠ e → tn (agQ W e n j) 37 x = tn W 37 x) ∧ tn (agQ W e n j) 37 e + cnG W e (n - j) = (n - j) + cnG W e n ∧
    (∀ x i, 33 ≤ x → x ≤ 36 → i < 600 * e + (n - j) ∨ 600 * e + 600 ≤ i → tn (agQ W e n j) x i = tn W x i) ∧ (∀ i, i < 600 * e + (n - j) ∨ 600 * e + 600 ≤ i → tr (agQ W e n j) 2 i = tr W 2 i) ∧
    (∀ x i, 33 ≤ x → x ≤ 36 → n - j ≤ i → i < n → rdF W e (600 * e + i) = false → tn (agQ W e n j) x (600 * e + ((n - j) + (cnG W e i - cnG W e (n - j)))) = tn W x (600 * e + i)) ∧ (∀ i, n - j ≤ i → i < n → rdF W e (600 * e + i) = false → tr (agQ W e n j) 2 (600 * e + ((n - j) + (cnG W e i - cnG W e (n - j)))) = tr W 2 (600 * e + i))
  | 0, _ => by
    refine ⟨fun _ => rfl, fun _ _ _ => rfl, fun _ _ _ => rfl, fun _ _ => rfl, fun _ _ => rfl, ?_, fun _ _ _ _ _ => rfl, fun _ _ => rfl, fun x i _ _ h1 h2 => by omega, fun i h1 h2 => by omega⟩
    show tn W 37 e + cnG W e (n - 0) = n - 0 + cnG W e n
    rw [← hn]
    rfl
  | j + 1, hj => by
    obtain ⟨a1, a2, a3, a4, a5, a6, a7, a8, a9, a10⟩ := agQ_row hn h6 j (by omega)
    obtain ⟨m, hm⟩ : ∃ m, n - j = m + 1 := ⟨n - j - 1, by omega⟩
    have hm1 : n - j - 1 = m := by omega
    have hm2 : n - (j + 1) = m := by omega
    rw [hm] at a6 a7 a8 a9 a10
    have hrd : rdF (agQ W e n j) e (600 * e + m) = rdF W e (600 * e + m) := rdF_same (a1 1) (a2 28 e (by omega)) (a7 34 _ (by decide) (by decide) (by omega)) (a7 36 _ (by decide) (by decide) (by omega))
    show _ ∧ _
    unfold agQ
    rw [hm1, hm2, hrd]
    generalize agQ W e n j = G at *
    have hcs : cnG W e (m + 1) = if rdF W e (600 * e + m) = true then cnG W e m else cnG W e m + 1 := rfl
    have hmn : m + 1 ≤ n := by omega
    have hc1 := cnG_mono (A := W) (e := e) hmn
    have hc2 := cnG_le W e n
    have hc3 := cnG_le W e (m + 1)
    by_cases hr : rdF W e (600 * e + m) = true
    · rw [if_pos hr]
      rw [if_pos hr] at hcs
      rw [hcs] at a6 a9 a10 hc1 hc3
      have g37 : tn G 37 e ≤ 600 := by have : cnG W e n - cnG W e m ≤ n := by omega
                                       have hx := cnG_le W e m
                                       have : cnG W e n ≤ cnG W e m + (n - (m + 1)) := by
                                         have key : ∀ t, cnG W e (m + 1 + t) ≤ cnG W e (m + 1) + t := by
                                           intro t
                                           induction t with
                                           | zero => exact Nat.le_refl _
                                           | succ t ih =>
                                             show (if rdF W e (600 * e + (m + 1 + t)) = true then cnG W e (m + 1 + t) else cnG W e (m + 1 + t) + 1) ≤ _
                                             split <;> omega
                                         have := key (n - (m + 1))
                                         rw [show m + 1 + (n - (m + 1)) = n by omega, hcs] at this
                                         exact this
                                       omega
      have w : ∀ x i, tn (rmG G e m) x i = if 33 ≤ x ∧ x ≤ 36 then tn G x (shG G e m i) else if x = 37 ∧ i = e then tn G 37 e - 1 else tn G x i := fun _ _ => rfl
      have w2 : ∀ x i, tr (rmG G e m) x i = if x = 2 then tr G 2 (shG G e m i) else tr G x i := fun _ _ => rfl
      have sh1 : ∀ i, i < 600 * e + m ∨ 600 * e + 600 ≤ i → shG G e m i = i := fun i hi => by
        unfold shG
        rw [if_neg (by omega)]
      refine ⟨a1, fun x i q => ?_, fun x i q => ?_, a4, fun x q => ?_, ?_, fun x i p q hi => ?_, fun i hi => ?_, fun x i p q h1 h2 h3 => ?_, fun i h1 h2 h3 => ?_⟩
      · rw [w, if_neg (by omega), if_neg (by omega)]
        exact a2 x i q
      · rw [w2, if_neg q]
        exact a3 x i q
      · rw [w, if_neg (by omega), if_neg (fun z => q z.2)]
        exact a5 x q
      · rw [w, if_neg (by omega), if_pos ⟨rfl, rfl⟩]
        omega
      · rw [w, if_pos ⟨p, q⟩, sh1 i hi]
        exact a7 x i p q (by omega)
      · rw [w2, if_pos rfl, sh1 i hi]
        exact a8 i (by omega)
      · have him : i ≠ m := fun z => by rw [z, hr] at h3; cases h3
        have hci := cnG_mono (A := W) (e := e) (show m + 1 ≤ i by omega)
        rw [hcs] at hci
        have hlt : cnG W e i < cnG W e n := cnG_lt h2 h3
        have e1 : shG G e m (600 * e + (m + (cnG W e i - cnG W e m))) = 600 * e + ((m + 1) + (cnG W e i - cnG W e m)) := by
          unfold shG
          rw [if_pos (by omega)]
          omega
        rw [w, if_pos ⟨p, q⟩, e1]
        exact a9 x i p q (by omega) h2 h3
      · have him : i ≠ m := fun z => by rw [z, hr] at h3; cases h3
        have hci := cnG_mono (A := W) (e := e) (show m + 1 ≤ i by omega)
        rw [hcs] at hci
        have hlt : cnG W e i < cnG W e n := cnG_lt h2 h3
        have e1 : shG G e m (600 * e + (m + (cnG W e i - cnG W e m))) = 600 * e + ((m + 1) + (cnG W e i - cnG W e m)) := by
          unfold shG
          rw [if_pos (by omega)]
          omega
        rw [w2, if_pos rfl, e1]
        exact a10 i (by omega) h2 h3
    · rw [if_neg hr]
      rw [if_neg hr] at hcs
      rw [hcs] at a6 a9 a10 hc1 hc3
      refine ⟨a1, a2, a3, a4, a5, by omega, fun x i p q hi => a7 x i p q (by omega), fun i hi => a8 i (by omega), fun x i p q h1 h2 h3 => ?_, fun i h1 h2 h3 => ?_⟩
      · by_cases y : i = m
        · subst y
          rw [show i + (cnG W e i - cnG W e i) = i by omega]
          exact a7 x _ p q (by omega)
        · have hci := cnG_mono (A := W) (e := e) (show m + 1 ≤ i by omega)
          rw [hcs] at hci
          rw [show m + (cnG W e i - cnG W e m) = m + 1 + (cnG W e i - (cnG W e m + 1)) by omega]
          exact a9 x i p q (by omega) h2 h3
      · by_cases y : i = m
        · subst y
          rw [show i + (cnG W e i - cnG W e i) = i by omega]
          exact a8 _ (by omega)
        · have hci := cnG_mono (A := W) (e := e) (show m + 1 ≤ i by omega)
          rw [hcs] at hci
          rw [show m + (cnG W e i - cnG W e m) = m + 1 + (cnG W e i - (cnG W e m + 1)) by omega]
          exact a10 i (by omega) h2 h3
end
