/-! ===== Arrays.fill ===== -/
def flF (S : HS) (a : Nat) (v : Int32) (k : Nat) : HS := setA S a (fun j => if j < k then v else zA S a j)
theorem flF_s (S : HS) (a : Nat) (v : Int32) (k : Nat) : flF S a v (k + 1) = setA (flF S a v k) a (upd (zA (flF S a v k) a) k v) := by
  have e : ∀ f g : Nat → Int32, setA (setA S a f) a g = setA S a g := fun f g => by
    unfold setA
    show (zL S, zK S, zI S, zP S, zN S, va_up (va_up (zA S) a f) a g, zR S, zJ S) = _
    have : va_up (va_up (zA S) a f) a g = va_up (zA S) a g := by
      funext b
      by_cases q : b = a
      · subst q; rw [va_up_self, va_up_self]
      · rw [va_up_ne _ _ q, va_up_ne _ _ q, va_up_ne _ _ q]
    rw [this]
  unfold flF
  rw [e, zA_setA]
  have : (fun j => if j < k + 1 then v else zA S a j) = upd (fun j => if j < k then v else zA S a j) k v := by
    funext j
    rw [upd_at]
    by_cases q : j = k
    · rw [if_pos q, if_pos (by omega)]
    · rw [if_neg q]
      by_cases q2 : j < k
      · rw [if_pos q2, if_pos (by omega)]
      · rw [if_neg q2, if_neg (by omega)]
  rw [this]
theorem m_fill {l : Launch} {D : va_G} {tc : Nat → ClassId} (hls : l.stackTraces = false) {a M : Nat} {v : Int32} {S : HS} {post : Option Value → HS → Prop} (h1 : a ∈ zL S) (h2 : zK S a = 20) (h3 : zN S a = M) (hM : M < 2 ^ 30) (hp : post none (flF S a v M)) : CM l D tc yJ7_fill_53178 cJ7_fill_53178 4 none 0 0 0 [.ref a, .int v] S post := by
  refine CM.of hls (by decide +kernel) (by simp [Value.category]) (Nat.le_of_ble_eq_true rfl) (fun A0 p e9 s m args below meth c sz h hr hnm hA => ?_)
  refine V.blk h [(.iconst 0, 1), (.istore_n 2, 1), (.aload_n 0, 1)] (by decide +kernel) (pc' := 3) (ls' := [some (.ref a), some (.int v), some (.int (nI 0)), none]) (st' := [.ref a]) rfl rfl (Nat.le_of_ble_eq_true rfl) ?_
  refine V.alen h 20 h1 h2 (Or.inl rfl) h3 (by decide +kernel) ?_
  refine V.blk h [(.istore_n 3, 1)] (by decide +kernel) (pc' := 5) (ls' := [some (.ref a), some (.int v), some (.int (nI 0)), some (.int (nI M))]) (st' := []) rfl rfl (Nat.le_of_ble_eq_true rfl) ?_
  have lp : ∀ (t k : Nat), M - k = t → k ≤ M → V l D tc A0 p e9 (rmd 0 0 0) s m args below meth c 4 (MQ below (zQ D tc post S sz) args s 0 0 (zAd S sz)) (flF S a v k) 0 0 5 [some (.ref a), some (.int v), some (.int (nI k)), some (.int (nI M))] [] := by
    intro t
    induction t using Nat.strongRecOn with
    | _ t ih =>
      intro k ht hk
      refine V.blk h [(.iload_n 2, 1), (.iload_n 3, 1)] (by decide +kernel) (pc' := 7) (ls' := [some (.ref a), some (.int v), some (.int (nI k)), some (.int (nI M))]) (st' := [.int (nI M), .int (nI k)]) rfl rfl (Nat.le_of_ble_eq_true rfl) ?_
      refine V.icmp_ge h (off := 13) (by decide +kernel) (tgt := 20) (by decide) (fun q => ?_) (fun q => ?_)
      · have q1 := (nI_leI (by omega) (by omega)).mp q
        obtain rfl : k = M := by omega
        exact V.vret h hA hr hp (by decide +kernel) (Nat.le_refl _) (Nat.le_refl _)
      · have q1 : ¬ M ≤ k := fun z => q ((nI_leI (by omega) (by omega)).mpr z)
        refine V.blk h [(.aload_n 0, 1), (.iload_n 2, 1), (.iload_n 1, 1)] (by decide +kernel) (pc' := 13) (ls' := [some (.ref a), some (.int v), some (.int (nI k)), some (.int (nI M))]) (st' := [.int v, .int (nI k), .ref a]) rfl rfl (Nat.le_of_ble_eq_true rfl) ?_
        refine V.iast h (show a ∈ zL (flF S a v k) from h1) (show zK (flF S a v k) a = 20 from h2) (M := M) (show zN (flF S a v k) a = M from h3) (i := k) (by omega) (by omega) (by decide +kernel) ?_
        refine V.blk h [(.iinc 2 1, 3)] (by decide +kernel) (pc' := 17) (ls' := [some (.ref a), some (.int v), some (.int (nI k + kI 1)), some (.int (nI M))]) (st' := []) rfl rfl (Nat.le_of_ble_eq_true rfl) ?_
        refine V.goto h (off := -12) (tgt := 5) (by decide +kernel) (by decide) ?_
        refine V.eq (S' := flF S a v (k + 1)) (ls' := [some (.ref a), some (.int v), some (.int (nI (k + 1))), some (.int (nI M))]) (flF_s S a v k) (by rw [show kI 1 = nI 1 by decide, nI_add]) rfl ?_
        exact ih (M - (k + 1)) (by omega) (k + 1) rfl (by omega)
  refine V.eq (S' := flF S a v 0) ?_ rfl rfl (lp M 0 rfl (Nat.zero_le _))
  unfold flF setA
  have : va_up (zA S) a (fun j => if j < 0 then v else zA S a j) = zA S := by
    funext b
    by_cases q : b = a
    · subst q; rw [va_up_self]; rfl
    · rw [va_up_ne _ _ q]
  rw [this]
  rfl
