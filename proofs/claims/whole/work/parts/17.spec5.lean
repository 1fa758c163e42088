def riL (A : TS) (e : Nat) : Nat → TS
  | 0 => sb A 30 e true
  | b + 1 => sn (riL A e b) 32 (3 * e + b) 0
def riF (A : TS) (e : Nat) : TS := sf (riL A e 3) 38 (e + 1)
theorem riL_keep (A : TS) (e : Nat) : ∀ b, (∀ j, tf (riL A e b) j = tf A j) ∧ (∀ j i, j ≠ 32 → tn (riL A e b) j i = tn A j i)
  | 0 => ⟨fun _ => rfl, fun _ _ _ => rfl⟩
  | b + 1 => ⟨(riL_keep A e b).1, fun j i q => by show tn (sn _ _ _ _) j i = _; rw [tn_sn, if_neg (fun z => q z.1)]; exact (riL_keep A e b).2 j i q⟩
/-! the gets that have been confirmed -/
def agS (e k : Nat) (p : TS × Nat) : TS × Nat :=
  if tn p.1 36 (600 * e + k) = 2 ^ tf p.1 1 - 1 ∧ tn p.1 34 (600 * e + k) ≤ tn p.1 28 e then
    (ansF p.1 e (tn p.1 33 (600 * e + k)) (vaF p.1 e (tn p.1 8 (tn p.1 33 (600 * e + k))) (tn p.1 34 (600 * e + k))) true, p.2)
  else (sn (sn (sn (sn p.1 33 (600 * e + p.2) (tn p.1 33 (600 * e + k))) 34 (600 * e + p.2) (tn p.1 34 (600 * e + k))) 35 (600 * e + p.2) (tn p.1 35 (600 * e + k))) 36 (600 * e + p.2) (tn p.1 36 (600 * e + k)), p.2 + 1)
def agL (A : TS) (e : Nat) : Nat → TS × Nat
  | 0 => (A, 0)
  | k + 1 => agS e k (agL A e k)
def agF (A : TS) (e : Nat) : TS := sn (agL A e (tn A 37 e)).1 37 e (agL A e (tn A 37 e)).2
theorem agL_inv {A : TS} {e : Nat} (hl : tf A 53 ≤ 250) : ∀ k, (agL A e k).2 ≤ k ∧ (∀ j, j ≠ 53 → j ≠ 54 → tf (agL A e k).1 j = tf A j) ∧ tf (agL A e k).1 53 ≤ 250 ∧ (∀ j i, j < 45 → ¬ (33 ≤ j ∧ j ≤ 36) → tn (agL A e k).1 j i = tn A j i) ∧ (∀ j i, j < 45 → i < 600 * e ∨ 600 * e + (agL A e k).2 ≤ i → tn (agL A e k).1 j i = tn A j i) ∧ (∀ j i, j < 45 → tr (agL A e k).1 j i = tr A j i) ∧ (∀ j i, j < 45 → tb (agL A e k).1 j i = tb A j i)
  | 0 => ⟨Nat.le_refl _, fun _ _ _ => rfl, hl, fun _ _ _ _ => rfl, fun _ _ _ _ => rfl, fun _ _ _ => rfl, fun _ _ _ => rfl⟩
  | k + 1 => by
    obtain ⟨h0, h1, h2, h3, h4, h5, h6⟩ := agL_inv (e := e) hl k
    unfold agL agS
    generalize (agL A e k) = p at *
    split
    · have q := send_keep p.1 2 e (tn p.1 5 (tn p.1 33 (600 * e + k))) (tn p.1 33 (600 * e + k) + 1) (tn p.1 6 (tn p.1 33 (600 * e + k))) 0 (vaF p.1 e (tn p.1 8 (tn p.1 33 (600 * e + k))) (tn p.1 34 (600 * e + k))) true
      exact ⟨by omega, fun j a b => (q.1 j a b).trans (h1 j a b), send_le _ _ _ _ _ _ _ _ h2, fun j i a b => (q.2.1 j i a).trans (h3 j i a b), fun j i a b => (q.2.1 j i a).trans (h4 j i a b), fun j i a => (q.2.2.1 j i a).trans (h5 j i a), fun j i a => (q.2.2.2 j i a).trans (h6 j i a)⟩
    · refine ⟨by show _ + 1 ≤ _; omega, h1, h2, fun j i a b => ?_, fun j i a b => ?_, h5, h6⟩
      · show tn (sn (sn (sn (sn _ _ _ _) _ _ _) _ _ _) _ _ _) j i = _
        rw [tn_sn, if_neg (by omega), tn_sn, if_neg (by omega), tn_sn, if_neg (by omega), tn_sn, if_neg (by omega)]
        exact h3 j i a b
      · have b' : i < 600 * e ∨ 600 * e + (p.2 + 1) ≤ i := b
        show tn (sn (sn (sn (sn _ _ _ _) _ _ _) _ _ _) _ _ _) j i = _
        rw [tn_sn, if_neg (by omega), tn_sn, if_neg (by omega), tn_sn, if_neg (by omega), tn_sn, if_neg (by omega)]
        exact h4 j i a (by omega)
theorem agL_NB {K : Nat} {A : TS} {e : Nat} (h : NB K A) (h9 : 7300 ≤ K) (he : e < 12) (hop : ∀ k i, tn (agL A e k).1 33 i ≤ 600) : ∀ k, NB (K + k) (agL A e k).1
  | 0 => h
  | k + 1 => by
    have h1 := agL_NB h h9 he hop k
    have ho := hop k (600 * e + k)
    unfold agL agS
    generalize (agL A e k) = p at *
    have a5 := h1.2 5 (tn p.1 33 (600 * e + k))
    have a6 := h1.2 6 (tn p.1 33 (600 * e + k))
    split
    · exact h1.send (by omega) (by omega) (by omega) (by omega) (by omega) (by omega) (by omega)
    · exact (((((h1.mono (K' := K + (k + 1)) (by omega)).sn (Nat.le_trans (h1.2 _ _) (by omega))).sn (Nat.le_trans (h1.2 _ _) (by omega))).sn (Nat.le_trans (h1.2 _ _) (by omega))).sn (Nat.le_trans (h1.2 _ _) (by omega)))
theorem agL_op {A : TS} {e : Nat} (h : ∀ i, tn A 33 i ≤ 600) : ∀ k i, tn (agL A e k).1 33 i ≤ 600
  | 0, i => h i
  | k + 1, i => by
    have h1 := agL_op (e := e) h k
    unfold agL agS
    generalize (agL A e k) = p at *
    split
    · rw [(ans_keep ..).2.1 33 i (by decide)]; exact h1 i
    · show tn (sn (sn (sn (sn _ _ _ _) _ _ _) _ _ _) _ _ _) 33 i ≤ 600
      rw [tn_sn, if_neg (by omega), tn_sn, if_neg (by omega), tn_sn, if_neg (by omega), tn_sn]
      split <;> first | exact h1 _ | exact h1 i
theorem pow3 : ∀ {n : Nat}, n ≤ 3 → 2 ^ n ≤ 8 := fun {n} h => Nat.pow_le_pow_right (n := 2) (by decide) h
theorem pow2 : ∀ {n : Nat}, n < 3 → 2 ^ n ≤ 4 := fun {n} h => Nat.pow_le_pow_right (n := 2) (by decide) (by omega : n ≤ 2)
theorem end_21 (A : TS) (c : Nat) (v : Int32) (i : Nat) : tn (endF A c v) 21 i = tn A 21 i := by
  unfold endF
  rw [tn_sf, tn_sr, tn_sn, if_neg (by omega)]
  rfl
