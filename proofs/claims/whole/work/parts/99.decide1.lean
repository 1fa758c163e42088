/-! ===== the manager decides: both sides ===== -/
section
variable {K : Nat} {A B T X : TS}
theorem vaF_two {e f ky : Nat} (h7 : ∀ i, tn B 7 i = tn A 7 i) (h8 : ∀ i, tn B 8 i = tn A 8 i) (h9 : ∀ i, tr B 9 i = tr A 9 i) : ∀ n, (∀ k, k < n → tn B 22 (600 * e + k) = tn A 22 (600 * f + k)) → vaF B e ky n = vaF A f ky n
  | 0, _ => rfl
  | n + 1, h => by
    unfold vaF
    rw [h n (by omega), h7, h8, h9, vaF_two h7 h8 h9 n (fun k hk => h k (by omega))]
theorem hgF_same {e op : Nat} (h22 : ∀ i, tn B 22 i = tn A 22 i) (h5 : ∀ i, tn B 5 i = tn A 5 i) (h6 : ∀ i, tn B 6 i = tn A 6 i) : ∀ n, hgF B e op n = hgF A e op n
  | 0 => rfl
  | n + 1 => by unfold hgF; rw [hgF_same h22 h5 h6 n, h22, h5, h5, h6, h6]
theorem hoF_same {w op : Nat} (h43 : ∀ i, tn B 43 i = tn A 43 i) : ∀ n, hoF B w op n = hoF A w op n
  | 0 => rfl
  | n + 1 => by unfold hoF; rw [hoF_same h43 n, h43]
/-- a new master, listed -/
def nw0 (A : TS) (e : Nat) : TS := sf (nwM A e) 5 (e + 1)
theorem nw0_df {e : Nat} : df (nw0 A e) A [5, 38] [26, 27, 28, 29, 37, 32] [3] [30, 31] := by
  refine ⟨fun j hj => ?_, fun j _ hj i => ?_, fun j _ hj i => ?_, fun j _ hj i => ?_⟩ <;> simp only [List.mem_cons, List.not_mem_nil, or_false, not_or] at hj
  · show tf (sf (nwM A e) 5 (e + 1)) j = _
    rw [tf_sf, if_neg hj.1, nwM_tf, if_neg hj.2]
  · show tn (nwM A e) j i = _
    rw [nwM_tn, if_neg (by omega), if_neg (by omega)]
  · show tr (nwM A e) j i = _
    rw [nwM_tr, if_neg (by omega)]
  · show tb (nwM A e) j i = _
    rw [nwM_tb, if_neg (by omega), if_neg (by omega)]
theorem nw0_row {e : Nat} : tf (nw0 A e) 38 = e + 1 ∧ tf (nw0 A e) 5 = e + 1 ∧ (∀ j i, i ≠ e → j ≠ 32 → tn (nw0 A e) j i = tn A j i) ∧ (∀ i, i < 3 * e ∨ 3 * e + 3 ≤ i → tn (nw0 A e) 32 i = tn A 32 i) ∧ (∀ i, 3 * e ≤ i → i < 3 * e + 3 → tn (nw0 A e) 32 i = 0) ∧ (tn (nw0 A e) 26 e = 0 ∧ tn (nw0 A e) 27 e = 0 ∧ tn (nw0 A e) 28 e = 0 ∧ tn (nw0 A e) 29 e = 0 ∧ tn (nw0 A e) 37 e = 0) ∧ (∀ i, i < 16 * e ∨ 16 * e + 16 ≤ i → tr (nw0 A e) 3 i = tr A 3 i) ∧ (∀ i, 16 * e ≤ i → i < 16 * e + 16 → tr (nw0 A e) 3 i = 0) ∧ (∀ j i, i ≠ e → tb (nw0 A e) j i = tb A j i) ∧ tb (nw0 A e) 30 e = true ∧ tb (nw0 A e) 31 e = false := by
  refine ⟨?_, ?_, fun j i a b => ?_, fun i a => ?_, fun i a b => ?_, ⟨?_, ?_, ?_, ?_, ?_⟩, fun i a => ?_, fun i a b => ?_, fun j i a => ?_, ?_, ?_⟩
  · show tf (sf (nwM A e) 5 (e + 1)) 38 = _
    rw [tf_sf, if_neg (by decide), nwM_tf, if_pos rfl]
  · show tf (sf (nwM A e) 5 (e + 1)) 5 = _
    rw [tf_sf, if_pos rfl]
  · show tn (nwM A e) j i = _
    rw [nwM_tn, if_neg (by omega), if_neg (by omega)]
  · show tn (nwM A e) 32 i = _
    rw [nwM_tn, if_neg (by omega), if_neg (by omega)]
  · show tn (nwM A e) 32 i = _
    rw [nwM_tn, if_neg (by omega), if_pos ⟨rfl, a, b⟩]
  · show tn (nwM A e) 26 e = 0
    rw [nwM_tn, if_pos ⟨by omega, rfl⟩]
  · show tn (nwM A e) 27 e = 0
    rw [nwM_tn, if_pos ⟨by omega, rfl⟩]
  · show tn (nwM A e) 28 e = 0
    rw [nwM_tn, if_pos ⟨by omega, rfl⟩]
  · show tn (nwM A e) 29 e = 0
    rw [nwM_tn, if_pos ⟨by omega, rfl⟩]
  · show tn (nwM A e) 37 e = 0
    rw [nwM_tn, if_pos ⟨by omega, rfl⟩]
  · show tr (nwM A e) 3 i = _
    rw [nwM_tr, if_neg (by omega)]
  · show tr (nwM A e) 3 i = _
    rw [nwM_tr, if_pos ⟨rfl, a, b⟩]
  · show tb (nwM A e) j i = _
    rw [nwM_tb, if_neg (by omega), if_neg (by omega)]
  · show tb (nwM A e) 30 e = _
    rw [nwM_tb, if_pos ⟨rfl, rfl⟩]
  · show tb (nwM A e) 31 e = _
    rw [nwM_tb, if_neg (by omega), if_pos ⟨rfl, rfl⟩]
theorem nw0_let {e : Nat} : ∀ j i, 45 ≤ j → tn (nw0 A e) j i = tn A j i := fun j i a => by
  show tn (nwM A e) j i = _
  rw [nwM_tn, if_neg (by omega), if_neg (by omega)]
theorem INV.nw {e : Nat} (h : INV K A) (he : tf A 38 = e) (h12 : e < 12) : INV (K + 1) (nw0 A e) := by
  have d := nw0_df (A := A) (e := e)
  obtain ⟨r1, r2, r3, r4, r5, ⟨z26, z27, z28, z29, z37⟩, r7, r8, r9, r10, r11⟩ := nw0_row (A := A) (e := e)
  have k7 := h.k7
  have hlt := nw0_let (A := A) (e := e)
  have nbn : NB (K + 1) (nw0 A e) := (nwM_NB (h.nb.mono (by omega)) (by omega)).sf (by omega)
  generalize nw0 A e = B at *
  have f1 : tf B 1 = tf A 1 := d.1 1 (by decide)
  have f13 : tf B 13 = tf A 13 := d.1 13 (by decide)
  have n22 : ∀ i, tn B 22 i = tn A 22 i := d.2.1 22 (by decide) (by decide)
  have n7 : ∀ i, tn B 7 i = tn A 7 i := d.2.1 7 (by decide) (by decide)
  have n8 : ∀ i, tn B 8 i = tn A 8 i := d.2.1 8 (by decide) (by decide)
  have t9 : ∀ i, tr B 9 i = tr A 9 i := d.2.2.1 9 (by decide) (by decide)
  have hv : ∀ x ky m, vaF B x ky m = vaF A x ky m := fun x ky m => vaF_same n22 n7 n8 t9 x ky m
  obtain ⟨h1, h2, h3, h4, h5, h6, h7, h8, h9, h10, h11, h12', h13, h14, h15⟩ := h
  have hb3 := h1.2.2.2.2.2.2.2.1
  refine ⟨?_, h2.df d (by decide) (by decide) (by decide), ?_, h4.df d (by decide) (by decide), ?_, ?_, ?_, ?_, ?_, ?_, ?_, h12'.df d (by decide) (by decide), h13.df d (by decide) (by decide), nbn, by omega⟩
  · obtain ⟨k1, k2, k3, k4, k5, k6, k8⟩ := h1
    unfold iNum
    rw [r1, r2, d.1 6 (by decide), f13, d.1 53 (by decide), f1, d.1 2 (by decide), d.1 3 (by decide), d.1 4 (by decide)]
    exact ⟨rfl, k2, by omega, by omega, k5, k6, k8⟩
  · intro c hc
    obtain ⟨q1, q2, q3, q4⟩ := h3 c hc
    have n5 : ∀ i, tn B 5 i = tn A 5 i := d.2.1 5 (by decide) (by decide)
    rw [d.2.1 16 (by decide) (by decide), d.2.1 17 (by decide) (by decide), f13, r1, n5]
    exact ⟨q1, q2, fun i hi hj => q3 i hi (by rw [n5] at hj; exact hj), by omega⟩
  · refine ⟨fun i => by rw [n22]; exact h5.1 i, fun x hx => ?_⟩
    rw [r1] at hx
    by_cases y : x = e
    · rw [y, z28, z26]
      have hl := (h5.2 0 (by rw [he]; have := h1.2.2.1; omega)).1.1
      exact ⟨⟨by rw [f13]; exact hl, fun k hk => by rw [z26] at hk; omega, fun i j hi => by rw [z26] at hi; omega⟩, Nat.le_refl _, fun k hk => by omega⟩
    · obtain ⟨q1, q2, q3⟩ := h5.2 x (by omega)
      have e26 : tn B 26 x = tn A 26 x := r3 26 x y (by decide)
      refine ⟨⟨by rw [f13]; exact q1.1, fun k hk => by rw [e26] at hk; rw [n22, f13]; exact q1.2.1 k hk, fun i j hi hj => by rw [e26] at hi hj; rw [n22, n22]; exact q1.2.2 i j hi hj⟩, by rw [e26, r3 28 x y (by decide)]; exact q2, fun k hk => ?_⟩
      rw [e26] at hk
      rw [n22, n7, d.2.2.1 23 (by decide) (by decide)]
      refine ⟨(q3 k hk).1, (q3 k hk).2.trans ?_⟩
      unfold asF
      rw [n7, n8, t9, hv]
  · intro x ky hx hky
    rw [r1] at hx
    by_cases y : x = e
    · rw [y, z26, r8 _ (by omega) (by omega)]
      exact nI_0.symm
    · rw [r3 26 x y (by decide), r7 _ (by omega), hv]
      exact h6 x ky (by omega) hky
  · refine ⟨fun i => by rw [d.2.1 33 (by decide) (by decide)]; exact h7.1 i, fun i => by rw [d.2.1 36 (by decide) (by decide), f1]; exact h7.2.1 i, fun x hx => ?_⟩
    rw [r1] at hx
    by_cases y : x = e
    · rw [y, z37]
      exact ⟨fun k hk => by omega, fun i j hi => by omega⟩
    · have q := h7.2.2 x (by omega)
      simp only [r3 37 x y (by decide), r3 26 x y (by decide), d.2.1 33 (by decide) (by decide), d.2.1 34 (by decide) (by decide), n8, f13, d.2.2.1 2 (by decide) (by decide), hv]
      exact q
  · intro x hx
    rw [r1] at hx
    rw [f1]
    by_cases y : x = e
    · rw [y, z28, z26]
      have hl : lkF B e (tf A 1 - 1) ≤ 0 := lkF_bd _ (fun j hj => by rw [r5 _ (by omega) (by omega)]; exact Nat.le_refl _)
      exact ⟨fun b hb => by rw [r5 _ (by omega) (by omega)]; omega, by omega⟩
    · obtain ⟨q1, q2⟩ := h8 x (by omega)
      rw [r3 26 x y (by decide), r3 28 x y (by decide), lkF_loc (A := A) _ (fun j hj => r4 _ (by omega))]
      exact ⟨fun b hb => by rw [r4 _ (by omega)]; exact q1 b hb, q2⟩
  · intro b hb
    rw [f1] at hb
    have q := h9 b hb
    rw [d.2.1 39 (by decide) (by decide), d.2.1 40 (by decide) (by decide), r1, r3 26 _ (by omega) (by decide)]
    exact ⟨by omega, q.2⟩
  · intro k hk
    rw [d.1 53 (by decide)] at hk
    obtain ⟨l1, l2, l3, l4, l5, l6, l7, l8, l9⟩ := h10 k hk
    rw [hlt 45 k (by decide), hlt 46 k (by decide), hlt 47 k (by decide), hlt 48 k (by decide), hlt 49 k (by decide), hlt 50 k (by decide)]
    have n5 : ∀ i, tn B 5 i = tn A 5 i := d.2.1 5 (by decide) (by decide)
    unfold LET
    rw [r1, f13, f1, n7, n5, r3 26 _ (by omega) (by decide)]
    exact ⟨l1, by omega, l3, l4, l5, l6, l7, l8, l9⟩
  · refine ⟨fun x hx => ?_, fun i hi => ?_⟩
    · rw [r1] at hx
      have q := h11.1 x (by omega)
      rw [r3 26 x (by omega) (by decide), r3 27 x (by omega) (by decide), r3 28 x (by omega) (by decide), r3 29 x (by omega) (by decide), r3 37 x (by omega) (by decide), r9 31 x (by omega)]
      exact q
    · rw [r1] at hi
      rw [r9 24 i (by omega), r9 25 i (by omega)]
      exact h11.2 i (by omega)
/-! the log is taken over -/
theorem app_5 {e op v : Nat} {late : Bool} : apC (sf A 5 v) e op late = sf (apC A e op late) 5 v := rfl
theorem tlL_5 {e f v : Nat} : ∀ k, tlL (sf A 5 v) e f k = sf (tlL A e f k) 5 v
  | 0 => rfl
  | k + 1 => by
    show apC (tlL (sf A 5 v) e f k) e (tn (tlL (sf A 5 v) e f k) 22 (600 * f + k)) false = _
    rw [tlL_5 k]
    rfl
theorem iMom.app {e op : Nat} {late : Bool} (h : iMom A) : iMom (apC A e op late) := h.same (apC_row.1 14) (fun i => apC_row.2.1 10 i (by omega) (by omega)) (fun i => apC_row.2.1 11 i (by omega) (by omega))
theorem tl_ok {e f : Nat} (h : INV K A) (hm : iMom A) (he : tf A 38 = e) (h12 : e < 12) (hf : f < e) : ∀ k, k ≤ tn A 26 f → INV (K + 1 + k) (tlL (nw0 A e) e f k) ∧ iMom (tlL (nw0 A e) e f k) ∧ (∀ j, tf (tlL (nw0 A e) e f k) j = tf (nw0 A e) j) ∧ (∀ j i, j ≠ 22 → j ≠ 26 → tn (tlL (nw0 A e) e f k) j i = tn (nw0 A e) j i) ∧ (∀ x, x ≠ e → tn (tlL (nw0 A e) e f k) 26 x = tn (nw0 A e) 26 x) ∧ tn (tlL (nw0 A e) e f k) 26 e = k ∧ (∀ i, i < k → tn (tlL (nw0 A e) e f k) 22 (600 * e + i) = tn A 22 (600 * f + i)) ∧ (∀ i, i < 600 * e ∨ 600 * e + k ≤ i → tn (tlL (nw0 A e) e f k) 22 i = tn A 22 i) ∧ (∀ j i, j ≠ 3 → j ≠ 23 → tr (tlL (nw0 A e) e f k) j i = tr A j i) ∧ (∀ i, i < k → tr (tlL (nw0 A e) e f k) 23 (600 * e + i) = tr A 23 (600 * f + i)) ∧ (∀ i, i < 600 * e ∨ 600 * e + k ≤ i → tr (tlL (nw0 A e) e f k) 23 i = tr A 23 i) ∧ (∀ j i, tb (tlL (nw0 A e) e f k) j i = tb (nw0 A e) j i)
  | 0, _ => by
    have d := nw0_df (A := A) (e := e)
    obtain ⟨r1, r2, r3, r4, r5, ⟨z26, z27, z28, z29, z37⟩, r7, r8, r9, r10, r11⟩ := nw0_row (A := A) (e := e)
    refine ⟨h.nw he h12, hm.df d (by decide) (by decide) (by decide), fun _ => rfl, fun _ _ _ _ => rfl, fun _ _ => rfl, z26, fun i hi => absurd hi (Nat.not_lt_zero _), fun i _ => d.2.1 22 (by decide) (by decide) i, fun j i a b => ?_, fun i hi => absurd hi (Nat.not_lt_zero _), fun i _ => d.2.2.1 23 (by decide) (by decide) i, fun _ _ => rfl⟩
    show tr (nwM A e) j i = _
    rw [nwM_tr, if_neg (fun z => a z.1)]
  | k + 1, hk => by
    obtain ⟨p1, pm, p2, p3, p4, p5, p6, p7, p8, p9, p10, p11⟩ := tl_ok h hm he h12 hf k (by omega)
    have d := nw0_df (A := A) (e := e)
    have r1 := (nw0_row (A := A) (e := e)).1
    have hLf := h.2.2.2.2.1.2 f (by omega)
    have hle := hLf.1.le
    have h600 := h.1.2.2.2.2.1
    obtain ⟨c, hc⟩ : ∃ c, c = tn A 22 (600 * f + k) := ⟨_, rfl⟩
    have e22 : tn (tlL (nw0 A e) e f k) 22 (600 * f + k) = c := by rw [hc]; exact p7 _ (by omega)
    have hc13 : c < tf A 13 := by rw [hc]; exact hLf.1.2.1 k (by omega)
    have hcu : tn A 7 c ≠ 2 := by rw [hc]; exact (hLf.2.2 k (by omega)).1
    have f13 : tf (tlL (nw0 A e) e f k) 13 = tf A 13 := (p2 13).trans (d.1 13 (by decide))
    have n7 : ∀ i, tn (tlL (nw0 A e) e f k) 7 i = tn A 7 i := fun i => (p3 7 i (by decide) (by decide)).trans (d.2.1 7 (by decide) (by decide) i)
    have n8 : ∀ i, tn (tlL (nw0 A e) e f k) 8 i = tn A 8 i := fun i => (p3 8 i (by decide) (by decide)).trans (d.2.1 8 (by decide) (by decide) i)
    have t9 : ∀ i, tr (tlL (nw0 A e) e f k) 9 i = tr A 9 i := fun i => p8 9 i (by decide) (by decide)
    have hpl : placeF (tlL (nw0 A e) e f k) e c = 0 := by
      unfold placeF
      rw [plF_zero, p5]
      intro i hi
      rw [p6 i hi, hc]
      intro z
      have := hLf.1.2.2 i k (by omega) (by omega) z
      omega
    have he1 : e < tf (tlL (nw0 A e) e f k) 38 := by rw [p2, r1]; omega
    have ho1 : c < tf (tlL (nw0 A e) e f k) 13 := by rw [f13]; exact hc13
    have hu1 : tn (tlL (nw0 A e) e f k) 7 c ≠ 2 := by rw [n7]; exact hcu
    have hav : apV (tlL (nw0 A e) e f k) e c = tr A 23 (600 * f + k) := by
      rw [apV_is p1 he1, p5, (hLf.2.2 k (by omega)).2, ← hc]
      unfold asF
      rw [n7, n8, t9, vaF_two n7 n8 t9 k (fun j hj => p6 j hj)]
    have i1 := p1.app (late := false) he1 ho1 hu1 hpl
    have m1 := pm.app (e := e) (op := c) (late := false)
    show INV (K + 1 + (k + 1)) (apC (tlL (nw0 A e) e f k) e (tn (tlL (nw0 A e) e f k) 22 (600 * f + k)) false) ∧ iMom (apC (tlL (nw0 A e) e f k) e (tn (tlL (nw0 A e) e f k) 22 (600 * f + k)) false) ∧ (∀ j, tf (apC (tlL (nw0 A e) e f k) e (tn (tlL (nw0 A e) e f k) 22 (600 * f + k)) false) j = tf (nw0 A e) j) ∧ (∀ j i, j ≠ 22 → j ≠ 26 → tn (apC (tlL (nw0 A e) e f k) e (tn (tlL (nw0 A e) e f k) 22 (600 * f + k)) false) j i = tn (nw0 A e) j i) ∧ (∀ x, x ≠ e → tn (apC (tlL (nw0 A e) e f k) e (tn (tlL (nw0 A e) e f k) 22 (600 * f + k)) false) 26 x = tn (nw0 A e) 26 x) ∧ tn (apC (tlL (nw0 A e) e f k) e (tn (tlL (nw0 A e) e f k) 22 (600 * f + k)) false) 26 e = k + 1 ∧ (∀ i, i < k + 1 → tn (apC (tlL (nw0 A e) e f k) e (tn (tlL (nw0 A e) e f k) 22 (600 * f + k)) false) 22 (600 * e + i) = tn A 22 (600 * f + i)) ∧ (∀ i, i < 600 * e ∨ 600 * e + (k + 1) ≤ i → tn (apC (tlL (nw0 A e) e f k) e (tn (tlL (nw0 A e) e f k) 22 (600 * f + k)) false) 22 i = tn A 22 i) ∧ (∀ j i, j ≠ 3 → j ≠ 23 → tr (apC (tlL (nw0 A e) e f k) e (tn (tlL (nw0 A e) e f k) 22 (600 * f + k)) false) j i = tr A j i) ∧ (∀ i, i < k + 1 → tr (apC (tlL (nw0 A e) e f k) e (tn (tlL (nw0 A e) e f k) 22 (600 * f + k)) false) 23 (600 * e + i) = tr A 23 (600 * f + i)) ∧ (∀ i, i < 600 * e ∨ 600 * e + (k + 1) ≤ i → tr (apC (tlL (nw0 A e) e f k) e (tn (tlL (nw0 A e) e f k) 22 (600 * f + k)) false) 23 i = tr A 23 i) ∧ (∀ j i, tb (apC (tlL (nw0 A e) e f k) e (tn (tlL (nw0 A e) e f k) 22 (600 * f + k)) false) j i = tb (nw0 A e) j i)
    rw [e22]
    obtain ⟨a1, a2, a3, a4, s1, s2, s3, s4, s5⟩ := apC_row (A := tlL (nw0 A e) e f k) (e := e) (op := c) (late := false)
    rw [p5] at a2 a3 a4 s1 s2 s3 s4 s5
    have hd2 : ∀ i, 600 * e ≤ i → tb (nw0 A e) 24 i = false ∧ tb (nw0 A e) 25 i = false := fun i hi => by
      rw [d.2.2.2 24 (by decide) (by decide), d.2.2.2 25 (by decide) (by decide)]
      exact h.2.2.2.2.2.2.2.2.2.2.1.2 i (by rw [he]; exact hi)
    refine ⟨i1.mono (by omega), m1, fun j => (a1 j).trans (p2 j), fun j i a b => (a2 j i (fun z => a z.1) (fun z => b z.1)).trans (p3 j i a b), fun x a => (a2 26 x (by omega) (fun z => a z.2)).trans (p4 x a), s1, fun i hi => ?_, fun i hi => (a2 22 i (by omega) (by omega)).trans (p7 i (by omega)), fun j i a b => (a3 j i (fun z => b z.1) (fun z => a z.1)).trans (p8 j i a b), fun i hi => ?_, fun i hi => (a3 23 i (by omega) (by omega)).trans (p10 i (by omega)), fun j i => ?_⟩
    · by_cases y : i = k
      · rw [y, s2, hc]
      · rw [a2 22 _ (by omega) (by omega)]
        exact p6 i (by omega)
    · by_cases y : i = k
      · rw [y, s3, hav]
      · rw [a3 23 _ (by omega) (by omega)]
        exact p9 i (by omega)
    · by_cases y : j = 24 ∧ i = 600 * e + k
      · rw [y.1, y.2, s4, (hd2 _ (by omega)).1]
      · by_cases z : j = 25 ∧ i = 600 * e + k
        · rw [z.1, z.2, s5, (hd2 _ (by omega)).2]
        · exact (a4 j i y z).trans (p11 j i)
theorem dcL_row {e f : Nat} (hf : f < e) : ∀ k, k ≤ 600 → (∀ i, tn (dcL A e f k) 22 i = if 600 * e ≤ i ∧ i < 600 * e + k then tn A 22 (600 * f + (i - 600 * e)) else tn A 22 i) ∧ (∀ i, tr (dcL A e f k) 23 i = if 600 * e ≤ i ∧ i < 600 * e + k then tr A 23 (600 * f + (i - 600 * e)) else tr A 23 i)
  | 0, _ => ⟨fun i => by rw [if_neg (by omega)]; rfl, fun i => by rw [if_neg (by omega)]; rfl⟩
  | k + 1, hk => by
    obtain ⟨p1, p2⟩ := dcL_row hf k (by omega)
    have q1 := p1 (600 * f + k)
    rw [if_neg (by omega)] at q1
    have q2 := p2 (600 * f + k)
    rw [if_neg (by omega)] at q2
    unfold dcL dcS
    rw [q1, q2]
    refine ⟨fun i => ?_, fun i => ?_⟩
    · rw [tn_sr, tn_sn, p1]
      by_cases y : i = 600 * e + k
      · rw [if_pos ⟨rfl, y⟩, if_pos (by omega), y, show 600 * e + k - 600 * e = k by omega]
      · rw [if_neg (fun z => y z.2)]
        by_cases z : 600 * e ≤ i ∧ i < 600 * e + k
        · rw [if_pos z, if_pos (by omega)]
        · rw [if_neg z, if_neg (by omega)]
    · rw [tr_sr, tr_sn, p2]
      by_cases y : i = 600 * e + k
      · rw [if_pos ⟨rfl, y⟩, if_pos (by omega), y, show 600 * e + k - 600 * e = k by omega]
      · rw [if_neg (fun z => y z.2)]
        by_cases z : 600 * e ≤ i ∧ i < 600 * e + k
        · rw [if_pos z, if_pos (by omega)]
        · rw [if_neg z, if_neg (by omega)]
theorem riL_row {e : Nat} : ∀ b, (∀ i, tn (riL A e b) 32 i = if 3 * e ≤ i ∧ i < 3 * e + b then 0 else tn A 32 i) ∧ (∀ j i, tr (riL A e b) j i = tr A j i) ∧ (∀ j i, tb (riL A e b) j i = if j = 30 ∧ i = e then true else tb A j i)
  | 0 => ⟨fun i => by rw [if_neg (by omega)]; rfl, fun _ _ => rfl, fun j i => tb_sb⟩
  | b + 1 => by
    obtain ⟨p1, p2, p3⟩ := riL_row (e := e) b
    refine ⟨fun i => ?_, p2, p3⟩
    show tn (sn (riL A e b) 32 (3 * e + b) 0) 32 i = _
    rw [tn_sn, p1]
    by_cases y : i = 3 * e + b
    · rw [if_pos ⟨rfl, y⟩, if_pos (by omega)]
    · rw [if_neg (fun z => y z.2)]
      by_cases z : 3 * e ≤ i ∧ i < 3 * e + b
      · rw [if_pos z, if_pos (by omega)]
      · rw [if_neg z, if_neg (by omega)]
/-- both sides after the log is taken -/
theorem dec1_EQ {e b : Nat} (h : INV K A) (hm : iMom A) (he : tf A 38 = e) (h12 : e < 12) (hb : b < tf A 1) : EQ (decD A e b) (tlL (nw0 A e) e (tn A 39 b) (tn A 40 b)) := by
  obtain ⟨hf, hn⟩ := h.2.2.2.2.2.2.2.2.1 b hb
  rw [he] at hf
  have hLf := h.2.2.2.2.1.2 (tn A 39 b) (by omega)
  have hle := hLf.1.le
  have h600 := h.1.2.2.2.2.1
  obtain ⟨p1, pm, p2, p3, p4, p5, p6, p7, p8, p9, p10, p11⟩ := tl_ok h hm he h12 hf (tn A 40 b) hn
  obtain ⟨d1, d2, d3, d4⟩ := dcL_keep (riF A e) e (tn A 39 b) (tn A 40 b)
  obtain ⟨w1, w2⟩ := dcL_row (A := riF A e) hf (tn A 40 b) (by omega)
  obtain ⟨i1, i2⟩ := ri_keep A e
  obtain ⟨l1, l2, l3⟩ := riL_row (A := A) (e := e) 3
  have dn := nw0_df (A := A) (e := e)
  obtain ⟨r1, r2, r3, r4, r5, ⟨z26, z27, z28, z29, z37⟩, r7, r8, r9, r10, r11⟩ := nw0_row (A := A) (e := e)
  have hD := h.2.2.2.2.2.2.2.2.2.2.1.1 e (by omega)
  have rtr : ∀ j i, tr (riF A e) j i = tr A j i := l2
  have rtb : ∀ j i, tb (riF A e) j i = if j = 30 ∧ i = e then true else tb A j i := l3
  have rtn32 : ∀ i, tn (riF A e) 32 i = if 3 * e ≤ i ∧ i < 3 * e + 3 then 0 else tn A 32 i := l1
  have r22 : ∀ i, tn (riF A e) 22 i = tn A 22 i := fun i => i2 22 i (by decide)
  generalize tlL (nw0 A e) e (tn A 39 b) (tn A 40 b) = T at *
  unfold decD
  generalize hG : dcL (riF A e) e (tn A 39 b) (tn A 40 b) = G at *
  refine ⟨fun j a c => ?_, fun j i a => ?_, fun j i a c f => ?_, fun j i => ?_⟩
  · rw [tf_sn, d1, p2]
    by_cases y : j = 38
    · rw [y, r1]
      show tf (sf (riL A e 3) 38 (e + 1)) 38 = _
      rw [tf_sf, if_pos rfl]
    · rw [i1 j y]
      exact (dn.1 j (by simp [a, y])).symm
  · rw [tn_sn]
    by_cases y26 : j = 26
    · subst y26
      by_cases ye : i = e
      · rw [if_pos ⟨rfl, ye⟩, ye, p5]
      · rw [if_neg (fun z => ye z.2), d2 26 i (by decide), i2 26 i (by decide), p4 i ye, r3 26 i ye (by decide)]
    · rw [if_neg (fun z => y26 z.1)]
      by_cases y22 : j = 22
      · subst y22
        rw [w1]
        by_cases z : 600 * e ≤ i ∧ i < 600 * e + tn A 40 b
        · have := p6 (i - 600 * e) (by omega)
          rw [show 600 * e + (i - 600 * e) = i by omega] at this
          rw [if_pos z, this, r22]
        · rw [if_neg z, p7 i (by omega), r22]
      · rw [d2 j i y22, p3 j i y22 y26]
        by_cases y32 : j = 32
        · subst y32
          rw [rtn32]
          by_cases z : 3 * e ≤ i ∧ i < 3 * e + 3
          · rw [if_pos z, r5 i z.1 z.2]
          · rw [if_neg z, r4 i (by omega)]
        · rw [i2 j i y32]
          by_cases ye : i = e
          · subst ye
            by_cases t27 : j = 27
            · rw [t27, z27]; exact hD.2.1
            by_cases t28 : j = 28
            · rw [t28, z28]; exact hD.2.2.1
            by_cases t29 : j = 29
            · rw [t29, z29]; exact hD.2.2.2.1
            by_cases t37 : j = 37
            · rw [t37, z37]; exact hD.2.2.2.2.1
            show _ = tn (nwM A i) j i
            rw [nwM_tn, if_neg (by omega), if_neg (by omega)]
          · rw [r3 j i ye y32]
  · rw [tr_sn]
    by_cases y : j = 23
    · subst y
      rw [w2]
      by_cases z : 600 * e ≤ i ∧ i < 600 * e + tn A 40 b
      · have := p9 (i - 600 * e) (by omega)
        rw [show 600 * e + (i - 600 * e) = i by omega] at this
        rw [if_pos z, this, rtr]
      · rw [if_neg z, p10 i (by omega), rtr]
    · rw [d3 j i y, rtr, p8 j i f y]
  · rw [tb_sn, d4, p11, rtb]
    by_cases y : j = 30 ∧ i = e
    · rw [if_pos y, y.1, y.2, r10]
    · rw [if_neg y]
      by_cases z : j = 31 ∧ i = e
      · rw [z.1, z.2, r11]
        exact hD.2.2.2.2.2
      · show _ = tb (nwM A e) j i
        rw [nwM_tb, if_neg y, if_neg z]
end
