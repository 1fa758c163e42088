/-! ===== a list is cleared ===== -/
section
variable {l : Launch} {D : va_G} {tc : Nat → ClassId} {A : Nat → Prop} {p : Program} {e : Env} {R : Room} {s : State} {m : MethodId} {args : Array Value} {below : List Frame} {meth : Method} {c : Code} {nL : Nat} {Q : State → Prop} {S : HS} {k n : Nat} {pc : Nat} {ls : List (Option Value)} {st : List Value} {cc : ByteArray} {own : String} {Ts : List Cond}
/-- modCount is AbstractList's, read through ArrayList -/
theorem V.getMC (h : CX l D tc A p s m args meth c cc nL RJx4a65c Ts) {a : Nat} (ha : a ∈ zL S) (hk : zK S a = 0) (d : decode cc pc = .ok (.getfield 63, 3)) (kk : V l D tc A p e R s m args below meth c nL Q S k n (pc + 3) ls (.int (zI S 0 a) :: st)) : V l D tc A p e R s m args below meth c nL Q S k n pc ls (.ref a :: st) := V.get0 h cls_0 (j := 0) rfl ha hk (ref := "java/util/ArrayList") (Or.inl wf_RJx4a65c_63) (fun x hx => u_same (h.2.2.2.1 _ (h.2.2.2.2.2.2.2.1 _ wo_70)) x hx) d kk
theorem V.putMC (h : CX l D tc A p s m args meth c cc nL RJx4a65c Ts) {a : Nat} (ha : a ∈ zL S) (hk : zK S a = 0) {v : Int32} (d : decode cc pc = .ok (.putfield 63, 3)) (kk : V l D tc A p e R s m args below meth c nL Q (setI S 0 a v) k n (pc + 3) ls st) : V l D tc A p e R s m args below meth c nL Q S k n pc ls (.int v :: .ref a :: st) := V.putI0 h cls_0 (j := 0) rfl ha hk (ref := "java/util/ArrayList") (Or.inl wf_RJx4a65c_63) (fun x hx => u_same (h.2.2.2.1 _ (h.2.2.2.2.2.2.2.1 _ wo_70)) x hx) rfl rfl rfl d kk
end
def clA (S : HS) (b : Nat) : HS := setI (setI S 0 b (zI S 0 b + nI 1)) 2 b (nI 0)
def clR (S : HS) (t k : Nat) : HS := setR S t (fun j => if j < k then none else zR S t j)
theorem zR_setR {S : HS} {q : Nat} {f : Nat → Option Nat} : zR (setR S q f) q = f := va_up_self _ _ _
theorem setR_setR {S : HS} {a : Nat} {f g : Nat → Option Nat} : setR (setR S a f) a g = setR S a g := by
  unfold setR
  show (zL S, zK S, zI S, zP S, zN S, zA S, va_up (va_up (zR S) a f) a g, zJ S) = _
  have : va_up (va_up (zR S) a f) a g = va_up (zR S) a g := by
    funext b
    by_cases q : b = a
    · subst q; rw [va_up_self, va_up_self]
    · rw [va_up_ne _ _ q, va_up_ne _ _ q, va_up_ne _ _ q]
  rw [this]
theorem clR_s (S : HS) (t k : Nat) : clR S t (k + 1) = setR (clR S t k) t (fun j => if j = k then none else zR (clR S t k) t j) := by
  unfold clR
  rw [setR_setR, zR_setR]
  have : (fun j => if j < k + 1 then none else zR S t j) = (fun j => if j = k then none else if j < k then none else zR S t j) := by
    funext j
    by_cases q : j = k
    · rw [if_pos q, if_pos (by omega)]
    · rw [if_neg q]
      by_cases q2 : j < k
      · rw [if_pos q2, if_pos (by omega)]
      · rw [if_neg q2, if_neg (by omega)]
  rw [this]
theorem clR_0 (S : HS) (t : Nat) : clR S t 0 = S := by
  unfold clR setR
  have : va_up (zR S) t (fun j => if j < 0 then none else zR S t j) = zR S := by
    funext b
    by_cases q : b = t
    · subst q; rw [va_up_self]; rfl
    · rw [va_up_ne _ _ q]
  rw [this]
  rfl
theorem m_clear {l : Launch} {D : va_G} {tc : Nat → ClassId} (hls : l.stackTraces = false) {b t M z : Nat} {S : HS} {post : Option Value → HS → Prop} (hL : LO S b t M z) (hp : post none (clR (clA S b) t z)) : CM l D tc yJx4a65c_clear_da8c8 cJx4a65c_clear_da8c8 4 none 0 0 0 [.ref b] S post := by
  obtain ⟨h1, h2, h3, h4, h5, h6, h7, h8, h9⟩ := hL
  refine CM.of hls (by decide +kernel) (by simp [Value.category]) (Nat.le_of_ble_eq_true rfl) (fun A0 p e9 s m args below meth c sz h hr hnm hA => ?_)
  refine V.blk h [(.aload_n 0, 1), (.dup, 1)] (by decide +kernel) (pc' := 2) (ls' := [some (.ref b), none, none, none]) (st' := [.ref b, .ref b]) rfl rfl (Nat.le_of_ble_eq_true rfl) ?_
  refine V.getMC h h1 h2 (by decide +kernel) ?_
  refine V.blk h [(.iconst 1, 1), (.iadd, 1)] (by decide +kernel) (pc' := 7) (ls' := [some (.ref b), none, none, none]) (st' := [.int (zI S 0 b + nI 1), .ref b]) rfl rfl (Nat.le_of_ble_eq_true rfl) ?_
  refine V.putMC h h1 h2 (by decide +kernel) ?_
  refine V.eq (S' := setI S 0 b (zI S 0 b + nI 1)) rfl rfl rfl ?_
  refine V.blk h [(.aload_n 0, 1)] (by decide +kernel) (pc' := 11) (ls' := [some (.ref b), none, none, none]) (st' := [.ref b]) rfl rfl (Nat.le_of_ble_eq_true rfl) ?_
  refine V.getP (S := setI S 0 b (zI S 0 b + nI 1)) h cls_0 (j := 1) rfl h1 h2 (Or.inl wf_RJx4a65c_9) (by decide +kernel) (v := some t) h3 ?_
  refine V.eq (st' := [.ref t]) rfl rfl rfl ?_
  refine V.blk h [(.astore_n 1, 1), (.aload_n 0, 1)] (by decide +kernel) (pc' := 16) (ls' := [some (.ref b), some (.ref t), none, none]) (st' := [.ref b]) rfl rfl (Nat.le_of_ble_eq_true rfl) ?_
  refine V.getI (S := setI S 0 b (zI S 0 b + nI 1)) h cls_0 (j := 2) rfl h1 h2 (Or.inl wf_RJx4a65c_48) (by decide +kernel) (v := nI z) (by show up2 (zI S) 0 b (zI S 0 b + nI 1) 2 b = nI z; unfold up2; rw [if_neg (fun y => absurd y.1 (by decide))]; exact h4) ?_
  refine V.blk h [(.istore_n 2, 1), (.aload_n 0, 1), (.iconst 0, 1), (.dup_x1, 1)] (by decide +kernel) (pc' := 23) (ls' := [some (.ref b), some (.ref t), some (.int (nI z)), none]) (st' := [.int (nI 0), .ref b, .int (nI 0)]) rfl rfl (Nat.le_of_ble_eq_true rfl) ?_
  refine V.putI (S := setI S 0 b (zI S 0 b + nI 1)) h cls_0 (j := 2) rfl h1 h2 (Or.inl wf_RJx4a65c_48) rfl rfl rfl (by decide +kernel) ?_
  refine V.eq (S' := clA S b) rfl rfl rfl ?_
  refine V.blk h [(.istore_n 3, 1)] (by decide +kernel) (pc' := 27) (ls' := [some (.ref b), some (.ref t), some (.int (nI z)), some (.int (nI 0))]) (st' := []) rfl rfl (Nat.le_of_ble_eq_true rfl) ?_
  have lp : ∀ (u k : Nat), z - k = u → k ≤ z → V l D tc A0 p e9 (rmd 0 0 0) s m args below meth c 4 (MQ below (zQ D tc post S sz) args s 0 0 (zAd S sz)) (clR (clA S b) t k) 0 0 27 [some (.ref b), some (.ref t), some (.int (nI z)), some (.int (nI k))] [] := by
    intro u
    induction u using Nat.strongRecOn with
    | _ u ih =>
      intro k hu hk
      refine V.blk h [(.iload_n 3, 1), (.iload_n 2, 1)] (by decide +kernel) (pc' := 29) (ls' := [some (.ref b), some (.ref t), some (.int (nI z)), some (.int (nI k))]) (st' := [.int (nI z), .int (nI k)]) rfl rfl (Nat.le_of_ble_eq_true rfl) ?_
      refine V.icmp_ge h (off := 13) (by decide +kernel) (tgt := 42) (by decide) (fun q => ?_) (fun q => ?_)
      · have q1 := (nI_leI (by omega) (by omega)).mp q
        obtain rfl : k = z := by omega
        exact V.vret h hA hr hp (by decide +kernel) (Nat.le_refl _) (Nat.le_refl _)
      · have q1 : ¬ z ≤ k := fun y => q ((nI_leI (by omega) (by omega)).mpr y)
        refine V.blk h [(.aload_n 1, 1), (.iload_n 3, 1), (.aconst_null, 1)] (by decide +kernel) (pc' := 35) (ls' := [some (.ref b), some (.ref t), some (.int (nI z)), some (.int (nI k))]) (st' := [.null, .int (nI k), .ref t]) rfl rfl (Nat.le_of_ble_eq_true rfl) ?_
        refine V.aastN h 23 (show t ∈ zL (clR (clA S b) t k) from h5) (show zK (clR (clA S b) t k) t = 23 from h6) (by decide) rfl (M := M) (show zN (clR (clA S b) t k) t = M from h7) (i := k) (by omega) (by omega) (by decide +kernel) ?_
        refine V.blk h [(.iinc 3 1, 3)] (by decide +kernel) (pc' := 39) (ls' := [some (.ref b), some (.ref t), some (.int (nI z)), some (.int (nI k + kI 1))]) (st' := []) rfl rfl (Nat.le_of_ble_eq_true rfl) ?_
        refine V.goto h (off := -12) (tgt := 27) (by decide +kernel) (by decide) ?_
        refine V.eq (S' := clR (clA S b) t (k + 1)) (ls' := [some (.ref b), some (.ref t), some (.int (nI z)), some (.int (nI (k + 1)))]) (clR_s _ t k) (by rw [show kI 1 = nI 1 by decide, nI_add]) rfl ?_
        exact ih (z - (k + 1)) (by omega) (k + 1) rfl (by omega)
  exact V.eq (S' := clR (clA S b) t 0) (clR_0 _ t) rfl rfl (lp z 0 rfl (Nat.zero_le _))
