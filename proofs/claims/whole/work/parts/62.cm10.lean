/-! ===== an ACK at a master: its parts ===== -/
section
variable {l : Launch} {D : va_G} {tc : Nat → ClassId} {A : Nat → Prop} {p : Program} {e : Env} {R : Room} {s : State} {m : MethodId} {args : Array Value} {below : List Frame} {meth : Method} {c : Code} {nL : Nat} {Q : State → Prop} {S : HS} {k n : Nat} {pc : Nat} {ls : List (Option Value)} {st : List Value} {cc : ByteArray} {own : String} {Ts : List Cond}
theorem oI_m1 {t : Nat} (h : 1 ≤ t) : oI t + kI (-1) = oI (t - 1) := by
  obtain ⟨u, rfl⟩ : ∃ u, t = u + 1 := ⟨t - 1, by omega⟩
  rw [oI_s, Nat.add_sub_cancel]
  show nI u + -(nI 1) = nI u - 1
  rw [← Int32.sub_eq_add_neg]
  rfl
theorem V.decO (h : CX l D tc A p s m args meth c cc nL own Ts) {t i : Nat} (d : decode cc pc = .ok (.iinc i (-1), 3)) (hl : ls[i]? = some (some (.int (oI t)))) (h1 : 1 ≤ t) (hn : ls.length ≤ nL) (kk : V l D tc A p e R s m args below meth c nL Q S k n (pc + 3) (ls.set i (some (.int (oI (t - 1))))) st) : V l D tc A p e R s m args below meth c nL Q S k n pc ls st := V.one (ls' := ls.set i (some (.int (oI t + kI (-1))))) (st' := st) h d rfl (by simp only [ex1, hl]) hn (V.eq rfl (by rw [oI_m1 h1]) rfl kk)
end
theorem mn_oo {t u : Nat} (ht : t < 2 ^ 31) (hu : u < 2 ^ 31) : mnF (oI t) (oI u) = oI (if u < t then u else t) := by
  unfold mnF
  by_cases q : u < t
  · rw [if_pos q, if_pos ((oI_lt hu ht).mpr q)]
  · rw [if_neg q, if_neg (fun z => q ((oI_lt hu ht).mp z))]
theorem mx_on {t n : Nat} (ht : t < 2 ^ 31) (hn : n < 2 ^ 31) : mxF (oI t) (nI n) = oI (if t ≤ n then n + 1 else t) := by
  unfold mxF
  by_cases q : t ≤ n
  · rw [if_pos q, if_pos ((oI_ltN ht hn).mpr q), oI_s]
  · rw [if_neg q, if_neg (fun z => q ((oI_ltN ht hn).mp z))]
theorem mx_0o {t : Nat} (ht : t < 2 ^ 31) : mxF (nI 0) (oI t) = nI (t - 1) := by
  unfold mxF
  by_cases q : 1 < t
  · rw [if_pos ((nI_ltO ht (by decide)).mpr q), oI_posI (by omega)]
  · rw [if_neg (fun z => q ((nI_ltO ht (by decide)).mp z)), show t - 1 = 0 by omega]
theorem mx_0n {n : Nat} (hn : n < 2 ^ 31) : mxF (nI 0) (nI n) = nI n := by
  rw [mx_le (by decide) hn]
  split
  · rfl
  · rw [show n = 0 by omega]
def lkC (A : TS) (e : Nat) : Nat → Nat
  | 0 => tn A 26 e + 1
  | b + 1 => if tn A 32 (3 * e + b) < lkC A e b then tn A 32 (3 * e + b) else lkC A e b
theorem lkC_le (A : TS) (e : Nat) : ∀ b, lkC A e b ≤ tn A 26 e + 1
  | 0 => Nat.le_refl _
  | b + 1 => by have := lkC_le A e b; unfold lkC; split <;> omega
set_option maxRecDepth 100000 in
set_option maxHeartbeats 4000000 in
theorem c_leastTold {l : Launch} {D : va_G} {tc : Nat → ClassId} {ax ay : Nat → Nat → Nat} {A : TS} {S : HS} (hls : l.stackTraces = false) (hS : RA tc (mx ax ay) A S) {e : Nat} {K : Nat}  (he : e < tf A 38) (hB : NB K A) (hK : K < 1900000000) {post : Option Value → HS → Prop} (hp : post (some (.int (oI (lkC A e (tf A 1))))) S) : CM l D tc yX5_leastTold cX5_leastTold 3 (some .int) 2 0 0 [.ref (ax 5 e)] S post := by
  refine CM.of hls (by decide +kernel) (by simp [Value.category]) (Nat.le_of_ble_eq_true rfl) (fun A0 p e9 s m args below meth c sz h hr hnm hA => ?_)
  have hf3 := hS.2.2.1.2.1
  have h12 := hS.2.2.2.1.2.1
  have h13 := hS.2.2.2.1.2.2.2.1
  have h600 := hS.2.2.2.2.1 e he
  refine V.eqL (ls' := [some (.ref (ax 5 e)), none, none]) rfl ?_
  refine V.blk h [(.aload_n 0, 1)] (by decide +kernel) (pc' := 1) (ls' := [some (.ref (ax 5 e)), none, none]) (st' := [.ref (ax 5 e)]) rfl rfl (Nat.le_of_ble_eq_true rfl) ?_
  refine V.getP h cls_5 (j := 3) rfl (hS.mem (show lv A 5 e from he)) (hS.knd (show lv A 5 e from he)) (Or.inl wf_RX5_25) (by decide +kernel) (v := some (ax 0 (3 + e))) (hS.ptr (show lv A 5 e from he) (by decide) (by decide) rfl) ?_
  refine V.eq (S' := S) (ls' := [some (.ref (ax 5 e)), none, none]) (st' := [.ref (ax 0 (3 + e))]) rfl rfl rfl ?_
  refine V.callV h (np := 0) (st := []) (s_log hls hS he (post := fun v S7 => v = some (.int (nI (tn A 26 e))) ∧ S = S7) ⟨rfl, rfl⟩) wc_Jx4a65c_size_8abf5 wn_RJx4a65c (Or.inl wm_RX5_58) wi_Jx4a65c_size_8abf5 we_Jx4a65c_size_8abf5 (by decide +kernel) rfl cls_0 (hS.mem (show lv A 0 (3 + e) from (lv_log he hS.2.2.2.1.2.1))) (hS.knd (show lv A 0 (3 + e) from (lv_log he hS.2.2.2.1.2.1))) (Nat.le_of_ble_eq_true rfl) (Nat.le_of_ble_eq_true rfl) (Nat.zero_le _) (Nat.zero_le _) (by simp [Value.category]) (by decide +kernel) rfl (fun v Z1 q9 => ?_)
  obtain ⟨rfl, hS9⟩ := q9
  subst hS9
  refine V.eq (S' := S) (ls' := [some (.ref (ax 5 e)), none, none]) (st' := [.int (nI (tn A 26 e))]) rfl rfl rfl ?_
  have nb12 := hB.2 26 e
  refine V.blk h [(.istore_n 1, 1), (.iconst 0, 1), (.istore_n 2, 1)] (by decide +kernel) (pc' := 10) (ls' := [some (.ref (ax 5 e)), some (.int (nI (tn A 26 e))), some (.int (nI (0)))]) (st' := []) rfl rfl (Nat.le_of_ble_eq_true rfl) ?_
  have loop10 : ∀ (t k : Nat), tf A 1 - k = t → k ≤ tf A 1 → V l D tc A0 p e9 (rmd 2 0 0) s m args below meth c 3 (MQ below (zQ D tc post S sz) args s 0 0 (zAd S sz)) S 0 0 10 [some (.ref (ax 5 e)), some (.int (oI (lkC A e k))), some (.int (nI (k)))] [] := by
    intro t; induction t using Nat.strongRecOn with
    | _ t ih10 =>
      intro k ht10 hk10
      have hlk := lkC_le A e k
      have hb26 := hB.2 26 e
      refine V.blk h [(.iload_n 2, 1), (.aload_n 0, 1)] (by decide +kernel) (pc' := 12) (ls' := [some (.ref (ax 5 e)), some (.int (oI (lkC A e k))), some (.int (nI (k)))]) (st' := [.ref (ax 5 e), .int (nI (k))]) rfl rfl (Nat.le_of_ble_eq_true rfl) ?_
      refine V.getP h cls_5 (j := 6) rfl (hS.mem (show lv A 5 e from he)) (hS.knd (show lv A 5 e from he)) (Or.inl wf_RX5_42) (by decide +kernel) (v := some (ax 20 (2 * e + 1))) (hS.ptr (show lv A 5 e from he) (by decide) (by decide) rfl) ?_
      refine V.eq (S' := S) (ls' := [some (.ref (ax 5 e)), some (.int (oI (lkC A e k))), some (.int (nI (k)))]) (st' := [.ref (ax 20 (2 * e + 1)), .int (nI (k))]) rfl rfl rfl ?_
      refine V.alen h 20 (hS.mem (show lv A 20 (2 * e + 1) from (by have := he; show 2 * e + 1 < 2 * tf A 38; omega))) (hS.knd (show lv A 20 (2 * e + 1) from (by have := he; show 2 * e + 1 < 2 * tf A 38; omega))) (by decide) (M := tf A 1) ((hS.len (show lv A 20 (2 * e + 1) from (by have := he; show 2 * e + 1 < 2 * tf A 38; omega)) (by decide)).trans cln_t) (by decide +kernel) ?_
      refine V.icmp_ge h (off := 20) (by decide +kernel) (tgt := 36) (by decide) (fun q => ?_) (fun q => ?_)
      · have q16_24 := ((nI_leI (by omega) (by omega)).mp q)
        clear q
        refine V.blk h [(.iload_n 1, 1)] (by decide +kernel) (pc' := 37) (ls' := [some (.ref (ax 5 e)), some (.int (oI (lkC A e k))), some (.int (nI (k)))]) (st' := [.int (oI (lkC A e k))]) rfl rfl (Nat.le_of_ble_eq_true rfl) ?_
        exact V.iret h hA hr rfl (by rw [show tf A 1 = k from by omega] at hp; exact hp) (by decide +kernel) (Nat.zero_le _) (Nat.zero_le _)
      · have q16_24 : ¬ _ := (fun z => q ((nI_leI (by omega) (by omega)).mpr z))
        clear q
        refine V.blk h [(.iload_n 1, 1), (.aload_n 0, 1)] (by decide +kernel) (pc' := 21) (ls' := [some (.ref (ax 5 e)), some (.int (oI (lkC A e k))), some (.int (nI (k)))]) (st' := [.ref (ax 5 e), .int (oI (lkC A e k))]) rfl rfl (Nat.le_of_ble_eq_true rfl) ?_
        refine V.getP h cls_5 (j := 6) rfl (hS.mem (show lv A 5 e from he)) (hS.knd (show lv A 5 e from he)) (Or.inl wf_RX5_42) (by decide +kernel) (v := some (ax 20 (2 * e + 1))) (hS.ptr (show lv A 5 e from he) (by decide) (by decide) rfl) ?_
        refine V.eq (S' := S) (ls' := [some (.ref (ax 5 e)), some (.int (oI (lkC A e k))), some (.int (nI (k)))]) (st' := [.ref (ax 20 (2 * e + 1)), .int (oI (lkC A e k))]) rfl rfl rfl ?_
        refine V.blk h [(.iload_n 2, 1)] (by decide +kernel) (pc' := 25) (ls' := [some (.ref (ax 5 e)), some (.int (oI (lkC A e k))), some (.int (nI (k)))]) (st' := [.int (nI (k)), .ref (ax 20 (2 * e + 1)), .int (oI (lkC A e k))]) rfl rfl (Nat.le_of_ble_eq_true rfl) ?_
        refine V.iald h (hS.mem (show lv A 20 (2 * e + 1) from (by have := he; show 2 * e + 1 < 2 * tf A 38; omega))) (hS.knd (show lv A 20 (2 * e + 1) from (by have := he; show 2 * e + 1 < 2 * tf A 38; omega))) (M := tf A 1) ((hS.len (show lv A 20 (2 * e + 1) from (by have := he; show 2 * e + 1 < 2 * tf A 38; omega)) (by decide)).trans cln_t) (i := k) (by omega) (by omega) (by decide +kernel) (v := oI (tn A 32 (3 * e + k))) ((hS.arr (show lv A 20 (2 * e + 1) from (by have := he; show 2 * e + 1 < 2 * tf A 38; omega)) (by rw [cln_t]; omega)).trans cav_t) ?_
        have nb36 := hB.2 32 (3 * e + k)
        refine V.mmin h wm_RX5_191 (v := oI (lkC A e (k + 1))) (mn_oo (by omega) (by omega)) (by decide +kernel) (Nat.le_of_ble_eq_true rfl) (Nat.le_of_ble_eq_true rfl) (by show 0 ≤ 0; omega) (by show 0 ≤ 0; omega) ?_
        refine V.blk h [(.istore_n 1, 1)] (by decide +kernel) (pc' := 30) (ls' := [some (.ref (ax 5 e)), some (.int (oI (lkC A e (k + 1)))), some (.int (nI (k)))]) (st' := []) rfl rfl (Nat.le_of_ble_eq_true rfl) ?_
        refine V.incN h (x := k) (i := 2) (by decide +kernel) rfl (Nat.le_of_ble_eq_true rfl) ?_
        refine V.eqL (ls' := [some (.ref (ax 5 e)), some (.int (oI (lkC A e (k + 1)))), some (.int (nI (k + 1)))]) rfl ?_
        refine V.goto h (off := -23) (tgt := 10) (by decide +kernel) (by decide) ?_
        refine V.eqL (ls' := [some (.ref (ax 5 e)), some (.int (oI (lkC A e ((k + 1))))), some (.int (nI ((k + 1))))]) rfl ?_
        exact ih10 (tf A 1 - (k + 1)) (by omega) (k + 1) rfl (by omega)
  refine V.eqL (ls' := [some (.ref (ax 5 e)), some (.int (oI (lkC A e 0))), some (.int (nI (0)))]) (by show [some (Value.ref (ax 5 e)), some (Value.int (nI (tn A 26 e + 1) - 1)), some (Value.int (nI 0))] = _; rw [show nI (tn A 26 e + 1) - 1 = nI (tn A 26 e) from oI_s _]) ?_
  exact loop10 _ 0 rfl (Nat.zero_le _)
theorem awL_more {A : TS} {e b c K : Nat} (h : NB K A) (hb : b < 3) (h36 : ∀ i, tn A 36 i < 8) : ∀ k, (∀ j, tf (awL A e b c k) j = tf A j) ∧ (∀ j i, j ≠ 36 → tn (awL A e b c k) j i = tn A j i) ∧ NB (K + 8) (awL A e b c k) := by
  have key : ∀ k, (∀ j, tf (awL A e b c k) j = tf A j) ∧ (∀ j i, j ≠ 36 → tn (awL A e b c k) j i = tn A j i) ∧ NB (K + 8) (awL A e b c k) ∧ ∀ i, tn (awL A e b c k) 36 i < 8 := by
    intro k
    induction k with
    | zero => exact ⟨fun _ => rfl, fun _ _ _ => rfl, h.mono (by omega), h36⟩
    | succ k ih =>
      obtain ⟨h1, h2, h3, h4⟩ := ih
      unfold awL awS
      generalize awL A e b c k = G at *
      split
      · have o := Nat.or_lt_two_pow (n := 3) (h4 (600 * e + k)) (show 2 ^ b < 2 ^ 3 by have := pow2 hb; omega)
        refine ⟨h1, fun j i q => ?_, h3.sn (by omega), fun i => ?_⟩
        · rw [tn_sn, if_neg (by omega)]; exact h2 j i q
        · rw [tn_sn]; split <;> first | exact o | exact h4 i
      · exact ⟨h1, h2, h3, h4⟩
  exact fun k => ⟨(key k).1, (key k).2.1, (key k).2.2.1⟩
set_option maxRecDepth 100000 in
set_option maxHeartbeats 4000000 in
theorem c_confirmGets {l : Launch} {D : va_G} {tc : Nat → ClassId} {ax ay : Nat → Nat → Nat} {A : TS} {S : HS} (hls : l.stackTraces = false) (hS : RA tc (mx ax ay) A S) {e : Nat} {b : Nat} {c9 : Nat} {K : Nat}  (he : e < tf A 38) (hb3 : b < 3) (hc9 : c9 ≤ K) (h36 : ∀ i, tn A 36 i < 8) (hB : NB K A) (hK : K < 1900000000) {post : Option Value → HS → Prop} (hp : ∀ (S8 : HS) (ay8 : Nat → Nat → Nat), RA tc (mx ax ay8) (awL A e b c9 (tn A 37 e)) S8 → post none S8) : CM l D tc yX5_confirmGets cX5_confirmGets 5 (none) 3 0 0 [.ref (ax 5 e), .int (nI (b)), .int (nI (c9))] S post := by
  refine CM.of hls (by decide +kernel) (by simp [Value.category]) (Nat.le_of_ble_eq_true rfl) (fun A0 p e9 s m args below meth c sz h hr hnm hA => ?_)
  have h12 := hS.2.2.2.1.2.1
  have h13 := hS.2.2.2.1.2.2.2.1
  have h600 := hS.2.2.2.2.1 e he
  refine V.eqL (ls' := [some (.ref (ax 5 e)), some (.int (nI (b))), some (.int (nI (c9))), none, none]) rfl ?_
  refine V.blk h [(.iconst 0, 1), (.istore_n 3, 1)] (by decide +kernel) (pc' := 2) (ls' := [some (.ref (ax 5 e)), some (.int (nI (b))), some (.int (nI (c9))), some (.int (nI (0))), none]) (st' := []) rfl rfl (Nat.le_of_ble_eq_true rfl) ?_
  have loop2 : ∀ (t k : Nat) (S9 : HS) (ay9 : Nat → Nat → Nat), RA tc (mx ax ay9) (awL A e b c9 k) S9 → tn A 37 e - k = t → k ≤ tn A 37 e → V l D tc A0 p e9 (rmd 3 0 0) s m args below meth c 5 (MQ below (zQ D tc post S sz) args s 0 0 (zAd S sz)) S9 0 0 2 [some (.ref (ax 5 e)), some (.int (nI (b))), some (.int (nI (c9))), some (.int (nI (k))), none] [] := by
    intro t; induction t using Nat.strongRecOn with
    | _ t ih2 =>
      intro k S9 ay9 hS9 ht2 hk2
      obtain ⟨G, hG⟩ : ∃ X9 : TS, X9 = (awL A e b c9 k) := ⟨_, rfl⟩
      rw [← hG] at hS9
      have kg : (∀ j, tf G j = tf A j) ∧ (∀ j i, j ≠ 36 → tn G j i = tn A j i) ∧ NB (K + 8) G := by rw [hG]; exact awL_more hB hb3 h36 k
      have heG : e < tf G 38 := by rw [kg.1]; exact he
      have g37 : tn G 37 e = tn A 37 e := kg.2.1 37 e (by decide)
      have hBG := kg.2.2
      refine V.blk h [(.iload_n 3, 1), (.aload_n 0, 1)] (by decide +kernel) (pc' := 4) (ls' := [some (.ref (ax 5 e)), some (.int (nI (b))), some (.int (nI (c9))), some (.int (nI (k))), none]) (st' := [.ref (ax 5 e), .int (nI (k))]) rfl rfl (Nat.le_of_ble_eq_true rfl) ?_
      refine V.getP h cls_5 (j := 4) rfl (hS9.mem (show lv G 5 e from heG)) (hS9.knd (show lv G 5 e from heG)) (Or.inl wf_RX5_29) (by decide +kernel) (v := some (ax 0 (15 + e))) (hS9.ptr (show lv G 5 e from heG) (by decide) (by decide) rfl) ?_
      refine V.eq (S' := S9) (ls' := [some (.ref (ax 5 e)), some (.int (nI (b))), some (.int (nI (c9))), some (.int (nI (k))), none]) (st' := [.ref (ax 0 (15 + e)), .int (nI (k))]) rfl rfl rfl ?_
      refine V.callV h (np := 0) (st := [.int (nI (k))]) (s_gts hls hS9 heG (post := fun v S7 => v = some (.int (nI (tn G 37 e))) ∧ S9 = S7) ⟨rfl, rfl⟩) wc_Jx4a65c_size_8abf5 wn_RJx4a65c (Or.inl wm_RX5_58) wi_Jx4a65c_size_8abf5 we_Jx4a65c_size_8abf5 (by decide +kernel) rfl cls_0 (hS9.mem (show lv G 0 (15 + e) from (lv_gts heG))) (hS9.knd (show lv G 0 (15 + e) from (lv_gts heG))) (Nat.le_of_ble_eq_true rfl) (Nat.le_of_ble_eq_true rfl) (Nat.zero_le _) (Nat.zero_le _) (by simp [Value.category]) (by decide +kernel) rfl (fun v Z1 q9 => ?_)
      obtain ⟨rfl, hS9⟩ := q9
      subst hS9
      refine V.eq (S' := S9) (ls' := [some (.ref (ax 5 e)), some (.int (nI (b))), some (.int (nI (c9))), some (.int (nI (k))), none]) (st' := [.int (nI (tn G 37 e)), .int (nI (k))]) rfl rfl rfl ?_
      have nb22 := hBG.2 37 e
      refine V.icmp_ge h (off := 44) (by decide +kernel) (tgt := 54) (by decide) (fun q => ?_) (fun q => ?_)
      · have q10_23 := ((nI_leI (by omega) (by omega)).mp q)
        clear q
        exact V.vret h hA hr (hp _ _ (by rw [show tn A 37 e = k from by omega, ← hG]; exact hS9)) (by decide +kernel) (Nat.zero_le _) (Nat.zero_le _)
      · have q10_23 : ¬ _ := (fun z => q ((nI_leI (by omega) (by omega)).mpr z))
        clear q
        refine V.blk h [(.aload_n 0, 1)] (by decide +kernel) (pc' := 14) (ls' := [some (.ref (ax 5 e)), some (.int (nI (b))), some (.int (nI (c9))), some (.int (nI (k))), none]) (st' := [.ref (ax 5 e)]) rfl rfl (Nat.le_of_ble_eq_true rfl) ?_
        refine V.getP h cls_5 (j := 4) rfl (hS9.mem (show lv G 5 e from heG)) (hS9.knd (show lv G 5 e from heG)) (Or.inl wf_RX5_29) (by decide +kernel) (v := some (ax 0 (15 + e))) (hS9.ptr (show lv G 5 e from heG) (by decide) (by decide) rfl) ?_
        refine V.eq (S' := S9) (ls' := [some (.ref (ax 5 e)), some (.int (nI (b))), some (.int (nI (c9))), some (.int (nI (k))), none]) (st' := [.ref (ax 0 (15 + e))]) rfl rfl rfl ?_
        refine V.blk h [(.iload_n 3, 1)] (by decide +kernel) (pc' := 18) (ls' := [some (.ref (ax 5 e)), some (.int (nI (b))), some (.int (nI (c9))), some (.int (nI (k))), none]) (st' := [.int (nI (k)), .ref (ax 0 (15 + e))]) rfl rfl (Nat.le_of_ble_eq_true rfl) ?_
        refine V.callV h (np := 1) (st := []) (g_gts hls hS9 heG (k := k) (by omega) (post := fun v S7 => v = some (.ref (ay9 8 (600 * e + k))) ∧ S9 = S7) ⟨rfl, rfl⟩) wc_Jx4a65c_get_915e3 wn_RJx4a65c (Or.inl wm_RX5_62) wi_Jx4a65c_get_915e3 we_Jx4a65c_get_915e3 (by decide +kernel) rfl cls_0 (hS9.mem (show lv G 0 (15 + e) from (lv_gts heG))) (hS9.knd (show lv G 0 (15 + e) from (lv_gts heG))) (Nat.le_of_ble_eq_true rfl) (Nat.le_of_ble_eq_true rfl) (Nat.zero_le _) (Nat.zero_le _) (by simp [Value.category]) (by decide +kernel) rfl (fun v Z2 q9 => ?_)
        obtain ⟨rfl, hS9⟩ := q9
        subst hS9
        refine V.eq (S' := S9) (ls' := [some (.ref (ax 5 e)), some (.int (nI (b))), some (.int (nI (c9))), some (.int (nI (k))), none]) (st' := [.ref (ay9 8 (600 * e + k))]) rfl rfl rfl ?_
        refine V.castS h cls_8 (hS9.mem (show lv G 8 (600 * e + k) from (lv_get hS9 heG (by omega)))) (hS9.knd (show lv G 8 (600 * e + k) from (lv_get hS9 heG (by omega)))) wl_RX5_154 (by decide +kernel) ?_
        refine V.blk h [(.astore 4, 2), (.aload 4, 2)] (by decide +kernel) (pc' := 28) (ls' := [some (.ref (ax 5 e)), some (.int (nI (b))), some (.int (nI (c9))), some (.int (nI (k))), some (.ref (ay9 8 (600 * e + k)))]) (st' := [.ref (ay9 8 (600 * e + k))]) rfl rfl (Nat.le_of_ble_eq_true rfl) ?_
        refine V.getI h cls_8 (j := 3) rfl (hS9.mem (show lv G 8 (600 * e + k) from (lv_get hS9 heG (by omega)))) (hS9.knd (show lv G 8 (600 * e + k) from (lv_get hS9 heG (by omega)))) (Or.inr ⟨_, wf_RX5_194⟩) (by decide +kernel) (v := nI (tn G 35 (600 * e + k))) (hS9.int (show lv G 8 (600 * e + k) from (lv_get hS9 heG (by omega))) (by decide) (by decide) rfl) ?_
        have nb40 := hBG.2 35 (600 * e + k)
        refine V.blk h [(.iload_n 2, 1)] (by decide +kernel) (pc' := 32) (ls' := [some (.ref (ax 5 e)), some (.int (nI (b))), some (.int (nI (c9))), some (.int (nI (k))), some (.ref (ay9 8 (600 * e + k)))]) (st' := [.int (nI (c9)), .int (nI (tn G 35 (600 * e + k)))]) rfl rfl (Nat.le_of_ble_eq_true rfl) ?_
        refine V.icmp_gt h (off := 16) (by decide +kernel) (tgt := 48) (by decide) (fun q => ?_) (fun q => ?_)
        · have q32_42 := ((nI_ltI (by omega) (by omega)).mp q)
          clear q
          refine V.incN h (x := k) (i := 3) (by decide +kernel) rfl (Nat.le_of_ble_eq_true rfl) ?_
          refine V.eqL (ls' := [some (.ref (ax 5 e)), some (.int (nI (b))), some (.int (nI (c9))), some (.int (nI (k + 1))), some (.ref (ay9 8 (600 * e + k)))]) rfl ?_
          refine V.goto h (off := -49) (tgt := 2) (by decide +kernel) (by decide) ?_
          refine V.drop 4 (ls' := [some (.ref (ax 5 e)), some (.int (nI (b))), some (.int (nI (c9))), some (.int (nI (k + 1))), none]) rfl ?_
          refine V.eqL (ls' := [some (.ref (ax 5 e)), some (.int (nI (b))), some (.int (nI (c9))), some (.int (nI ((k + 1)))), none]) rfl ?_
          exact ih2 (tn A 37 e - (k + 1)) (by omega) (k + 1) S9 ay9 (by show RA tc _ (awS e b c9 k (awL A e b c9 k)) _; unfold awS; rw [← hG, if_neg (by omega)]; exact hS9) rfl (by omega)
        · have q32_42 : ¬ _ := (fun z => q ((nI_ltI (by omega) (by omega)).mpr z))
          clear q
          refine V.blk h [(.aload 4, 2), (.dup, 1)] (by decide +kernel) (pc' := 38) (ls' := [some (.ref (ax 5 e)), some (.int (nI (b))), some (.int (nI (c9))), some (.int (nI (k))), some (.ref (ay9 8 (600 * e + k)))]) (st' := [.ref (ay9 8 (600 * e + k)), .ref (ay9 8 (600 * e + k))]) rfl rfl (Nat.le_of_ble_eq_true rfl) ?_
          refine V.getI h cls_8 (j := 4) rfl (hS9.mem (show lv G 8 (600 * e + k) from (lv_get hS9 heG (by omega)))) (hS9.knd (show lv G 8 (600 * e + k) from (lv_get hS9 heG (by omega)))) (Or.inr ⟨_, wf_RX5_195⟩) (by decide +kernel) (v := nI (tn G 36 (600 * e + k))) (hS9.int (show lv G 8 (600 * e + k) from (lv_get hS9 heG (by omega))) (by decide) (by decide) rfl) ?_
          have nb55 := hBG.2 36 (600 * e + k)
          refine V.blk h [(.iconst 1, 1), (.iload_n 1, 1)] (by decide +kernel) (pc' := 43) (ls' := [some (.ref (ax 5 e)), some (.int (nI (b))), some (.int (nI (c9))), some (.int (nI (k))), some (.ref (ay9 8 (600 * e + k)))]) (st' := [.int (nI (b)), .int (nI (1)), .int (nI (tn G 36 (600 * e + k))), .ref (ay9 8 (600 * e + k))]) rfl rfl (Nat.le_of_ble_eq_true rfl) ?_
          refine V.shl1 h (v := nI (2 ^ b)) (shl1 (by omega)) (by decide +kernel) ?_
          refine V.orN h (v := nI ((tn G 36 (600 * e + k)) ||| (2 ^ b))) (nI_or _ _) (by decide +kernel) (Nat.le_of_ble_eq_true rfl) ?_
          refine V.putI h cls_8 (j := 4) rfl (hS9.mem (show lv G 8 (600 * e + k) from (lv_get hS9 heG (by omega)))) (hS9.knd (show lv G 8 (600 * e + k) from (lv_get hS9 heG (by omega)))) (Or.inr ⟨_, wf_RX5_195⟩) rfl rfl rfl (by decide +kernel) ?_
          refine V.gen (P := fun S9 => RA tc (mx ax ay9) (sn G 36 (600 * e + k) ((tn G 36 (600 * e + k)) ||| (2 ^ b))) S9) (hS9.p_8_4 (i := (600 * e + k)) (v := ((tn G 36 (600 * e + k)) ||| (2 ^ b))) (show lv G 8 (600 * e + k) from (lv_get hS9 heG (by omega)))) (fun S3 hS3 => ?_)
          refine V.incN h (x := k) (i := 3) (by decide +kernel) rfl (Nat.le_of_ble_eq_true rfl) ?_
          refine V.eqL (ls' := [some (.ref (ax 5 e)), some (.int (nI (b))), some (.int (nI (c9))), some (.int (nI (k + 1))), some (.ref (ay9 8 (600 * e + k)))]) rfl ?_
          refine V.goto h (off := -49) (tgt := 2) (by decide +kernel) (by decide) ?_
          refine V.drop 4 (ls' := [some (.ref (ax 5 e)), some (.int (nI (b))), some (.int (nI (c9))), some (.int (nI (k + 1))), none]) rfl ?_
          refine V.eqL (ls' := [some (.ref (ax 5 e)), some (.int (nI (b))), some (.int (nI (c9))), some (.int (nI ((k + 1)))), none]) rfl ?_
          exact ih2 (tn A 37 e - (k + 1)) (by omega) (k + 1) S3 ay9 (by show RA tc _ (awS e b c9 k (awL A e b c9 k)) _; unfold awS; rw [← hG, if_pos (by omega)]; exact hS3) rfl (by omega)
  refine V.eqL (ls' := [some (.ref (ax 5 e)), some (.int (nI (b))), some (.int (nI (c9))), some (.int (nI (0))), none]) rfl ?_
  exact loop2 _ 0 S ay (hS) rfl (Nat.zero_le _)
