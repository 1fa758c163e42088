/-! ===== a new master takes a log, then records ===== -/
section
variable {l : Launch} {D : va_G} {tc : Nat → ClassId} {A : Nat → Prop} {p : Program} {e : Env} {R : Room} {s : State} {m : MethodId} {args : Array Value} {below : List Frame} {meth : Method} {c : Code} {nL : Nat} {Q : State → Prop} {S : HS} {k n : Nat} {pc : Nat} {ls : List (Option Value)} {st : List Value} {cc : ByteArray} {own : String} {Ts : List Cond}
theorem V.astq (h : CX l D tc A p s m args meth c cc nL own Ts) {o : Option Nat} {x : Fin 4} (d : decode cc pc = .ok (.astore_n x, 1)) (hx : (x : Nat) < ls.length) (hn : ls.length ≤ nL) (kk : V l D tc A p e R s m args below meth c nL Q S k n (pc + 1) (ls.set x (some (va_rf o))) st) : V l D tc A p e R s m args below meth c nL Q S k n pc ls (va_rf o :: st) := by
  cases o with
  | none => exact V.one (ls' := ls.set x (some .null)) (st' := st) h d rfl (if_pos hx) hn kk
  | some q => exact V.one (ls' := ls.set x (some (.ref q))) (st' := st) h d rfl (if_pos hx) hn kk
end
theorem gcap_44 (M : Nat) : M ≤ gcap M ∧ gcap M ≤ 4 * (gcap M - M) := by
  unfold gcap
  split
  · omega
  · split <;> omega
theorem nxL_le (A : TS) (e M : Nat) : M ≤ nxL A e M := by
  unfold nxL
  split
  · exact (gcap_44 M).1
  · exact Nat.le_refl _
theorem nxL_lt {A : TS} {e M : Nat} (h : tn A 26 e < 600) (hM : M < 1000) : nxL A e M < 1000 := by
  unfold nxL
  split
  · have := gcap_6 (M := M) (by omega)
    omega
  · exact hM
theorem opA_ax {ax ay ax1 ay1 : Nat → Nat → Nat} (h : ax1 6 = ax 6) (t : Nat) : opA (mx ax1 ay1) t = opA (mx ax ay) t := by
  unfold opA
  show (if t = 0 then none else some (ax1 6 (t - 1))) = if t = 0 then none else some (ax 6 (t - 1))
  rw [h]
theorem apC_NB {K : Nat} {A : TS} {e op : Nat} {late : Bool} (h : NB K A) (ho : op ≤ K + 1) (hm : tn A 26 e + 1 ≤ K + 1) : NB (K + 1) (apC A e op late) := (app_NB2 h ho hm).sr
def tlL (A : TS) (e f : Nat) : Nat → TS
  | 0 => A
  | k + 1 => apC (tlL A e f k) e (tn (tlL A e f k) 22 (600 * f + k)) false
theorem tl_more {A : TS} {e f K : Nat} (hne : f ≠ e) (hB : NB K A) (hop : ∀ i, tn A 22 i ≤ 600) (h9 : 700 ≤ K) : ∀ k, k ≤ 600 → tn A 26 e + k ≤ 600 → (∀ j, tf (tlL A e f k) j = tf A j) ∧ (∀ j i, j ≠ 22 → j ≠ 26 → tn (tlL A e f k) j i = tn A j i) ∧ tn (tlL A e f k) 26 e = tn A 26 e + k ∧ (∀ x, x ≠ e → tn (tlL A e f k) 26 x = tn A 26 x) ∧ (∀ i, ¬ (600 * e ≤ i ∧ i < 600 * e + 600) → tn (tlL A e f k) 22 i = tn A 22 i) ∧ NB (K + k) (tlL A e f k)
  | 0, _, _ => ⟨fun _ => rfl, fun _ _ _ _ => rfl, rfl, fun _ _ => rfl, fun _ _ => rfl, hB⟩
  | k + 1, h1, h2 => by
    obtain ⟨q1, q2, q3, q4, q5, q6⟩ := tl_more hne hB hop h9 k (by omega) (by omega)
    have hx : tn (tlL A e f k) 22 (600 * f + k) = tn A 22 (600 * f + k) := q5 _ (by omega)
    have hy := hop (600 * f + k)
    unfold tlL
    generalize tlL A e f k = G at *
    obtain ⟨r1, r2, r3, r4, s1, s2, s3, s4, s5⟩ := apC_row (A := G) (e := e) (op := tn G 22 (600 * f + k)) (late := false)
    exact ⟨fun j => (r1 j).trans (q1 j), fun j i a b => (r2 j i (fun z => a z.1) (fun z => b z.1)).trans (q2 j i a b), by rw [s1, q3]; omega, fun x a => (r2 26 x (by omega) (fun z => a z.2)).trans (q4 x a), fun i a => (r2 22 i (fun z => a (by omega)) (by omega)).trans (q5 i a), apC_NB (K := K + k) (A := G) (e := e) (op := tn G 22 (600 * f + k)) (late := false) q6 (show tn G 22 (600 * f + k) ≤ K + k + 1 by omega) (show tn G 26 e + 1 ≤ K + k + 1 by omega)⟩
set_option maxRecDepth 100000 in
set_option maxHeartbeats 4000000 in
theorem c_takeLog {l : Launch} {D : va_G} {tc : Nat → ClassId} {ax ay : Nat → Nat → Nat} {A : TS} {S : HS} (hls : l.stackTraces = false) (hS : RA tc (mx ax ay) A S) {e : Nat} {f : Nat} {n : Nat} {K : Nat}  (he : e < tf A 38) (hf : f < tf A 38) (hne : f ≠ e) (hn : n ≤ tn A 26 f) (h0 : tn A 26 e = 0) (hn13 : n ≤ tf A 13) (hop : ∀ i, tn A 22 i ≤ 600) (hk16 : ∀ i, tn A 8 i < 16) (h9 : 700 ≤ K) (hB : NB K A) (hK : K < 1800000000) {post : Option Value → HS → Prop} (hp : ∀ (S8 : HS) (ax8 ay8 : Nat → Nat → Nat), (∀ g, g ≠ 3 → ax8 g = ax g) → RA tc (mx ax8 ay8) (tlL A e f n) S8 → post none S8) : CM l D tc yX5_takeLog cX5_takeLog 4 (none) 8 (2 * tf A 13) (4 * tf A 13 + 4000) [.ref (ax 5 e), .ref (ax 5 f), .int (nI (n))] S post := by
  refine CM.of hls (by decide +kernel) (by simp [Value.category]) (Nat.le_of_ble_eq_true rfl) (fun A0 p e9 s m args below meth c sz h hr hnm hA => ?_)
  have h12 := hS.2.2.2.1.2.1
  have hh13 := hS.2.2.2.1.2.2.2.1
  have h600 := hS.2.2.2.2.1 f hf
  have hbf := hB.2 26 f
  refine V.eqL (ls' := [some (.ref (ax 5 e)), some (.ref (ax 5 f)), some (.int (nI (n))), none]) rfl ?_
  refine V.blk h [(.iconst 0, 1), (.istore_n 3, 1)] (by decide +kernel) (pc' := 2) (ls' := [some (.ref (ax 5 e)), some (.ref (ax 5 f)), some (.int (nI (n))), some (.int (nI (0)))]) (st' := []) rfl rfl (Nat.le_of_ble_eq_true rfl) ?_
  have loop2 : ∀ (t k : Nat) (S9 : HS) (ay9 ax9 : Nat → Nat → Nat), (∀ g, g ≠ 3 → ax9 g = ax g) → RA tc (mx ax9 ay9) (tlL A e f k) S9 → n - k = t → k ≤ n → (ay 50 (3 + e) ≤ ay9 50 (3 + e)) → V l D tc A0 p e9 (rmd 8 (2 * tf A 13) (4 * tf A 13 + 4000)) s m args below meth c 4 (MQ below (zQ D tc post S sz) args s (2 * tf A 13) (4 * tf A 13 + 4000) (zAd S sz)) S9 (2 * k) (4 * k + 4 * (ay9 50 (3 + e) - ay 50 (3 + e))) 2 [some (.ref (ax 5 e)), some (.ref (ax 5 f)), some (.int (nI (n))), some (.int (nI (k)))] [] := by
    intro t; induction t using Nat.strongRecOn with
    | _ t ih2 =>
      intro k S9 ay9 ax9 hx9 hS9 ht2 hk2 inv2
      refine V.eqL (ls' := [some (.ref (ax9 5 e)), some (.ref (ax9 5 f)), some (.int (nI (n))), some (.int (nI (k)))]) (by first | rfl | simp only [hx9 0 (by decide), hx9 5 (by decide), hx9 6 (by decide), hx9 7 (by decide), hx9 9 (by decide), hx9 20 (by decide), hx9 27 (by decide)]) ?_
      obtain ⟨G, hG⟩ : ∃ X9 : TS, X9 = (tlL A e f k) := ⟨_, rfl⟩
      rw [← hG] at hS9
      obtain ⟨q1, q2, q3, q4, q5, q6⟩ := tl_more hne hB hop h9 k (by omega) (by omega)
      rw [← hG] at q1 q2 q3 q4 q5 q6
      have heG : e < tf G 38 := by rw [q1]; exact he
      have hfG : f < tf G 38 := by rw [q1]; exact hf
      have q38 := q1 38
      have qf : tn G 26 f = tn A 26 f := q4 f hne
      have hoG : k < tn A 26 f → tn G 22 (600 * f + k) < tf G 13 := fun z => hS9.lop hfG (by omega)
      have hcap := (hS9.list (i := 3 + e) (lv_log heG (by omega))).2.2.2.2.2.1
      have hcap9 : ay9 50 (3 + e) < 1000 := hcap
      have hnl := nxL_le G e (ay9 50 (3 + e))
      have hnt : k < 600 → nxL G e (ay9 50 (3 + e)) < 1000 := fun z => nxL_lt (by omega) hcap9
      refine V.blk h [(.iload_n 3, 1), (.iload_n 2, 1)] (by decide +kernel) (pc' := 4) (ls' := [some (.ref (ax9 5 e)), some (.ref (ax9 5 f)), some (.int (nI (n))), some (.int (nI (k)))]) (st' := [.int (nI (n)), .int (nI (k))]) rfl rfl (Nat.le_of_ble_eq_true rfl) ?_
      refine V.icmp_ge h (off := 40) (by decide +kernel) (tgt := 44) (by decide) (fun q => ?_) (fun q => ?_)
      · have q4_25 := ((nI_leI (by omega) (by omega)).mp q)
        clear q
        exact V.vret h hA hr (hp _ _ _ hx9 (by rw [show n = k from by omega, ← hG]; exact hS9)) (by decide +kernel) (by omega) (by omega)
      · have q4_25 : ¬ _ := (fun z => q ((nI_leI (by omega) (by omega)).mpr z))
        clear q
        refine V.blk h [(.iload_n 3, 1), (.aload_n 1, 1)] (by decide +kernel) (pc' := 9) (ls' := [some (.ref (ax9 5 e)), some (.ref (ax9 5 f)), some (.int (nI (n))), some (.int (nI (k)))]) (st' := [.ref (ax9 5 f), .int (nI (k))]) rfl rfl (Nat.le_of_ble_eq_true rfl) ?_
        refine V.getP h cls_5 (j := 3) rfl (hS9.mem (show lv G 5 f from hfG)) (hS9.knd (show lv G 5 f from hfG)) (Or.inl wf_RX5_25) (by decide +kernel) (v := some (ax9 0 (3 + f))) (hS9.ptr (show lv G 5 f from hfG) (by decide) (by decide) rfl) ?_
        refine V.eq (S' := S9) (ls' := [some (.ref (ax9 5 e)), some (.ref (ax9 5 f)), some (.int (nI (n))), some (.int (nI (k)))]) (st' := [.ref (ax9 0 (3 + f)), .int (nI (k))]) rfl rfl rfl ?_
        refine V.callV h (np := 0) (st := [.int (nI (k))]) (s_log hls hS9 hfG (post := fun v S7 => v = some (.int (nI (tn G 26 f))) ∧ S9 = S7) ⟨rfl, rfl⟩) wc_Jx4a65c_size_8abf5 wn_RJx4a65c (Or.inl wm_RX5_58) wi_Jx4a65c_size_8abf5 we_Jx4a65c_size_8abf5 (by decide +kernel) rfl cls_0 (hS9.mem (show lv G 0 (3 + f) from (lv_log hfG hS9.2.2.2.1.2.1))) (hS9.knd (show lv G 0 (3 + f) from (lv_log hfG hS9.2.2.2.1.2.1))) (Nat.le_of_ble_eq_true rfl) (Nat.le_of_ble_eq_true rfl) (by show (2 * k) + 0 ≤ 2 * tf A 13; omega) (by show (4 * k + 4 * (ay9 50 (3 + e) - ay 50 (3 + e))) + 0 ≤ 4 * tf A 13 + 4000; omega) (by simp [Value.category]) (by decide +kernel) rfl (fun v Z1 q9 => ?_)
        obtain ⟨rfl, hS9⟩ := q9
        subst hS9
        refine V.eq (S' := S9) (ls' := [some (.ref (ax9 5 e)), some (.ref (ax9 5 f)), some (.int (nI (n))), some (.int (nI (k)))]) (st' := [.int (nI (tn G 26 f)), .int (nI (k))]) rfl rfl rfl ?_
        refine V.icmp_ge h (off := 29) (by decide +kernel) (tgt := 44) (by decide) (fun q => ?_) (fun q => ?_)
        · have q15_38 := ((nI_leI (by omega) (by omega)).mp q)
          clear q
          omega
        · have q15_38 : ¬ _ := (fun z => q ((nI_leI (by omega) (by omega)).mpr z))
          clear q
          refine V.blk h [(.aload_n 0, 1), (.aload_n 1, 1)] (by decide +kernel) (pc' := 20) (ls' := [some (.ref (ax9 5 e)), some (.ref (ax9 5 f)), some (.int (nI (n))), some (.int (nI (k)))]) (st' := [.ref (ax9 5 f), .ref (ax9 5 e)]) rfl rfl (Nat.le_of_ble_eq_true rfl) ?_
          refine V.getP h cls_5 (j := 3) rfl (hS9.mem (show lv G 5 f from hfG)) (hS9.knd (show lv G 5 f from hfG)) (Or.inl wf_RX5_25) (by decide +kernel) (v := some (ax9 0 (3 + f))) (hS9.ptr (show lv G 5 f from hfG) (by decide) (by decide) rfl) ?_
          refine V.eq (S' := S9) (ls' := [some (.ref (ax9 5 e)), some (.ref (ax9 5 f)), some (.int (nI (n))), some (.int (nI (k)))]) (st' := [.ref (ax9 0 (3 + f)), .ref (ax9 5 e)]) rfl rfl rfl ?_
          refine V.blk h [(.iload_n 3, 1)] (by decide +kernel) (pc' := 24) (ls' := [some (.ref (ax9 5 e)), some (.ref (ax9 5 f)), some (.int (nI (n))), some (.int (nI (k)))]) (st' := [.int (nI (k)), .ref (ax9 0 (3 + f)), .ref (ax9 5 e)]) rfl rfl (Nat.le_of_ble_eq_true rfl) ?_
          refine V.callV h (np := 1) (st := [.ref (ax9 5 e)]) (g_log hls hS9 hfG (k := k) (by omega) (post := fun v S7 => v = some (.ref (ax9 3 (600 * f + k))) ∧ S9 = S7) ⟨rfl, rfl⟩) wc_Jx4a65c_get_915e3 wn_RJx4a65c (Or.inl wm_RX5_62) wi_Jx4a65c_get_915e3 we_Jx4a65c_get_915e3 (by decide +kernel) rfl cls_0 (hS9.mem (show lv G 0 (3 + f) from (lv_log hfG hS9.2.2.2.1.2.1))) (hS9.knd (show lv G 0 (3 + f) from (lv_log hfG hS9.2.2.2.1.2.1))) (Nat.le_of_ble_eq_true rfl) (Nat.le_of_ble_eq_true rfl) (by show (2 * k) + 0 ≤ 2 * tf A 13; omega) (by show (4 * k + 4 * (ay9 50 (3 + e) - ay 50 (3 + e))) + 0 ≤ 4 * tf A 13 + 4000; omega) (by simp [Value.category]) (by decide +kernel) rfl (fun v Z2 q9 => ?_)
          obtain ⟨rfl, hS9⟩ := q9
          subst hS9
          refine V.eq (S' := S9) (ls' := [some (.ref (ax9 5 e)), some (.ref (ax9 5 f)), some (.int (nI (n))), some (.int (nI (k)))]) (st' := [.ref (ax9 3 (600 * f + k)), .ref (ax9 5 e)]) rfl rfl rfl ?_
          refine V.castS h cls_3 (hS9.mem (show lv G 3 (600 * f + k) from (lv_ent hS9 hfG (by omega)))) (hS9.knd (show lv G 3 (600 * f + k) from (lv_ent hS9 hfG (by omega)))) wl_RX5_66 (by decide +kernel) ?_
          refine V.getP h cls_3 (j := 0) rfl (hS9.mem (show lv G 3 (600 * f + k) from (lv_ent hS9 hfG (by omega)))) (hS9.knd (show lv G 3 (600 * f + k) from (lv_ent hS9 hfG (by omega)))) (Or.inr ⟨_, wf_RX5_68⟩) (by decide +kernel) (v := some (ax9 6 (tn G 22 (600 * f + k)))) (hS9.ptr (show lv G 3 (600 * f + k) from (lv_ent hS9 hfG (by omega))) (by decide) (by decide) rfl) ?_
          refine V.eq (S' := S9) (ls' := [some (.ref (ax9 5 e)), some (.ref (ax9 5 f)), some (.int (nI (n))), some (.int (nI (k)))]) (st' := [.ref (ax9 6 (tn G 22 (600 * f + k))), .ref (ax9 5 e)]) rfl rfl rfl ?_
          refine V.blk h [(.iconst 0, 1)] (by decide +kernel) (pc' := 34) (ls' := [some (.ref (ax9 5 e)), some (.ref (ax9 5 f)), some (.int (nI (n))), some (.int (nI (k)))]) (st' := [.int (nI (0)), .ref (ax9 6 (tn G 22 (600 * f + k))), .ref (ax9 5 e)]) rfl rfl (Nat.le_of_ble_eq_true rfl) ?_
          refine V.top (v' := .int (bI false)) (by decide) ?_
          refine V.callV h (np := 2) (st := []) (c_append hls hS9 (e := e) (op := tn G 22 (600 * f + k)) (late := false) (ms := 4 * (nxL G e (ay9 50 (3 + e)) - (ay9 50 (3 + e)))) heG (hoG (by omega)) (by rw [q2 8 _ (by omega) (by omega)]; exact hk16 _) (by omega) (fun z => by have w := gcap_44 (ay9 50 (3 + e)); unfold nxL; rw [if_pos z]; exact w.2) (by omega) q6 (by omega) (post := fun v S8 => ∃ ax8 ay8, v = some (.ref (ax8 3 (600 * e + tn G 26 e))) ∧ (∀ g, g ≠ 3 → ax8 g = ax9 g) ∧ (∀ j, ay8 50 j = if j = 3 + e then nxL G e (ay9 50 (3 + e)) else ay9 50 j) ∧ RA tc (mx ax8 ay8) (apC G e (tn G 22 (600 * f + k)) false) S8) (fun S8 ax8 ay8 hx8 hc8 hr8 => ⟨ax8, ay8, rfl, hx8, hc8, hr8⟩)) wc_X5_append wn_RX5 (Or.inl wm_RX5_72) wi_X5_append we_X5_append (by decide +kernel) rfl cls_5 (hS9.mem (show lv G 5 e from heG)) (hS9.knd (show lv G 5 e from heG)) (Nat.le_of_ble_eq_true rfl) (Nat.le_of_ble_eq_true rfl) (by show (2 * k) + 2 ≤ 2 * tf A 13; omega) (by show (4 * k + 4 * (ay9 50 (3 + e) - ay 50 (3 + e))) + (4 + 4 * (nxL G e (ay9 50 (3 + e)) - (ay9 50 (3 + e)))) ≤ 4 * tf A 13 + 4000; omega) (by simp [Value.category]) (by decide +kernel) rfl (fun v Z3 q9 => ?_)
          obtain ⟨ax1, ay1, rfl, hx1, hc1, hr1⟩ := q9
          have hxx1 : ∀ g, g ≠ 3 → ax1 g = ax g := fun g z => (hx1 g z).trans (hx9 g z)
          have hce := hc1 (3 + e)
          rw [if_pos rfl] at hce
          refine V.eq (S' := Z3) (ls' := [some (.ref (ax1 5 e)), some (.ref (ax1 5 f)), some (.int (nI (n))), some (.int (nI (k)))]) (st' := [.ref (ax1 3 (600 * e + tn G 26 e))]) rfl (by first | rfl | simp only [hx1 0 (by decide), hx1 5 (by decide), hx1 6 (by decide), hx1 7 (by decide), hx1 9 (by decide), hx1 20 (by decide)]) (by first | rfl | simp only [hx1 0 (by decide), hx1 5 (by decide), hx1 6 (by decide), hx1 7 (by decide), hx1 9 (by decide), hx1 20 (by decide)]) ?_
          refine V.blk h [(.pop, 1)] (by decide +kernel) (pc' := 38) (ls' := [some (.ref (ax1 5 e)), some (.ref (ax1 5 f)), some (.int (nI (n))), some (.int (nI (k)))]) (st' := []) rfl rfl (Nat.le_of_ble_eq_true rfl) ?_
          refine V.incN h (x := k) (i := 3) (by decide +kernel) rfl (Nat.le_of_ble_eq_true rfl) ?_
          refine V.eqL (ls' := [some (.ref (ax1 5 e)), some (.ref (ax1 5 f)), some (.int (nI (n))), some (.int (nI (k + 1)))]) rfl ?_
          refine V.goto h (off := -39) (tgt := 2) (by decide +kernel) (by decide) ?_
          refine V.eqL (ls' := [some (.ref (ax 5 e)), some (.ref (ax 5 f)), some (.int (nI (n))), some (.int (nI ((k + 1))))]) (by first | rfl | simp only [hxx1 0 (by decide), hxx1 5 (by decide), hxx1 6 (by decide), hxx1 7 (by decide), hxx1 9 (by decide), hxx1 20 (by decide), hxx1 27 (by decide)]) ?_
          refine V.widen (k' := 2 * (k + 1)) (n' := 4 * (k + 1) + 4 * (ay1 50 (3 + e) - ay 50 (3 + e))) (by omega) (by omega) ?_
          exact ih2 (n - (k + 1)) (by omega) (k + 1) Z3 ay1 ax1 hxx1 (by show RA tc _ (apC (tlL A e f k) e (tn (tlL A e f k) 22 (600 * f + k)) false) _; rw [← hG]; exact hr1) rfl (by omega) (by omega)
  refine V.eqL (ls' := [some (.ref (ax 5 e)), some (.ref (ax 5 f)), some (.int (nI (n))), some (.int (nI (0)))]) rfl ?_
  refine V.widen (k' := 2 * 0) (n' := 4 * 0 + 4 * (ay 50 (3 + e) - ay 50 (3 + e))) (by omega) (by omega) ?_
  exact loop2 _ 0 S ay ax (fun _ _ => rfl) (hS) rfl (Nat.zero_le _) (Nat.le_refl _)
