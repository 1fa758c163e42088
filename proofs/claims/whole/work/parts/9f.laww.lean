/-! ===== the law's wrappers: a call of the class, its answer into a row of longs; its throws caught ===== -/
def nd (L : List Nat) : Prop := ∀ (i j : Nat) (a : Nat), L[i]? = some a → L[j]? = some a → i = j
theorem nd_out {o : Nat} {L : List Nat} (h : nd (o :: L)) : o ∉ L := fun hin => by
  obtain ⟨i, hi⟩ := List.getElem?_of_mem hin
  have := h 0 (i + 1) o rfl (by simpa using hi)
  omega
theorem nd_tl {o : Nat} {L : List Nat} (h : nd (o :: L)) : nd L := fun i j a hi hj => by
  have := h (i + 1) (j + 1) a (by simpa using hi) (by simpa using hj)
  omega
theorem nd_iff : ∀ (L : List Nat), nd L ↔ L.Nodup
  | [] => ⟨fun _ => List.nodup_nil, fun _ i j a hi => by simp at hi⟩
  | x :: L => by
    rw [List.nodup_cons]
    constructor
    · exact fun h => ⟨nd_out h, (nd_iff L).mp (nd_tl h)⟩
    · rintro ⟨h1, h2⟩ i j a hi hj
      have h3 := (nd_iff L).mpr h2
      match i, j with
      | 0, 0 => rfl
      | 0, j + 1 =>
        have e : x = a := by simpa using hi
        subst e
        exact absurd (List.mem_of_getElem? (by simpa using hj)) h1
      | i + 1, 0 =>
        have e : x = a := by simpa using hj
        subst e
        exact absurd (List.mem_of_getElem? (by simpa using hi)) h1
      | i + 1, j + 1 =>
        have := h3 i j a (by simpa using hi) (by simpa using hj)
        omega
def wo (S : HS) (o : Nat) : List Nat := (zL S).filter (fun a => !(a == o))
theorem wo_mem {S : HS} {o a : Nat} : a ∈ wo S o ↔ a ∈ zL S ∧ a ≠ o := by
  unfold wo
  rw [List.mem_filter]
  simp
theorem PT_o {S : HS} {o : Nat} (hn : nd (zL S)) (ho : o ∈ zL S) : PT S [o] (wo S o) := by
  refine ⟨fun a ha => ?_, fun a ha => (wo_mem.mp ha).1, (nd_iff [o]).mpr (by simp), (nd_iff _).mpr (List.Pairwise.filter _ ((nd_iff _).mp hn)), fun a ha hb => ?_⟩
  · rw [List.mem_singleton.mp ha]; exact ho
  · exact (wo_mem.mp hb).2 (List.mem_singleton.mp ha)
theorem jn_o {S S' : HS} {o : Nat} (h : OU0 o S) : OU0 o (jn [o] S S') := ⟨List.mem_append_left _ (List.mem_singleton.mpr rfl), (show zK (jn [o] S S') o = zK S o from if_pos (List.mem_singleton.mpr rfl)).trans h.2.1, (show zN (jn [o] S S') o = zN S o from if_pos (List.mem_singleton.mpr rfl)).trans h.2.2⟩
theorem w_ask {l : Launch} {D : va_G} {tc : Nat → ClassId} (hls : l.stackTraces = false) {S : HS} {q o : Nat} {x1 x2 x3 x4 : Int32} {d mc ms : Nat} {post : Option Value → HS → Prop} {post1 : Option Value → HS → Prop} (hO : OU0 o S) (hq : q ∈ zL S) (hqk : zK S q = 10) (hM : CM l D tc yX10_ask cX10_ask 7 (some .int) d mc ms [.ref q, .int x1, .int x2, .int x3, .int x4] (zSub S (wo S o)) post1) (hv : ∀ v S', post1 v S' → ∃ x : Int32, v = some (.int x) ∧ (o ∉ zL S' → post (some (.int (nI 0))) (setJ (jn [o] S S') o (vp_updL (zJ (jn [o] S S') o) 0 x.toInt64)))) : CMH l D tc yL_ask [(0, 14, 17, 13), (0, 14, 21, 15)] cL_ask 7 (some .int) (d + 1) mc ms [.ref q, .int x1, .int x2, .int x3, .int x4, .ref o] S post := by
  refine CMH.of hls (by decide +kernel) (by simp [Value.category]) (Nat.le_of_ble_eq_true rfl) (fun A0 p e9 s m args below meth c sz h htab hr hA => ?_)
  refine V.eqL (ls' := [some (.ref q), some (.int x1), some (.int x2), some (.int x3), some (.int x4), some (.ref o), none]) rfl ?_
  refine V.blk h [(.aload 5, 2), (.iconst 0, 1), (.aload_n 0, 1), (.iload_n 1, 1), (.iload_n 2, 1), (.iload_n 3, 1), (.iload 4, 2)] (by decide +kernel) (pc' := 9) (ls' := [some (.ref q), some (.int x1), some (.int x2), some (.int x3), some (.int x4), some (.ref o), none]) (st' := [.int x4, .int x3, .int x2, .int x1, .ref q, .int (nI 0), .ref o]) rfl rfl (Nat.le_of_ble_eq_true rfl) ?_
  refine V.dist (fun hn => ?_)
  refine V.callVF (st := [.int (nI 0), .ref o]) (ci := 10) (np := 4) (As := [.int x1, .int x2, .int x3, .int x4]) h (PT_o hn hO.1) hM wc_X10_ask wn_RX10 (Or.inl wm_RL_7) wi_X10_ask we_X10_ask (by decide +kernel) rfl cls_10 (wo_mem.mpr ⟨hq, fun z => by rw [z, hO.2.1] at hqk; exact absurd hqk (by decide)⟩) hqk (Nat.le_refl _) (by show 8 + (7 + 11) + 36 * d ≤ 36 * (d + 1); omega) (by show 0 + mc ≤ mc; omega) (by show 0 + ms ≤ ms; omega) (by simp [Value.category]) (by decide +kernel) rfl (fun v S' hv1 => ?_)
  obtain ⟨x, rfl, hp⟩ := hv v S' hv1
  refine V.dist (fun hn2 => ?_)
  have hno : o ∉ zL S' := nd_out (L := zL S') hn2
  refine V.i2l (pc := 12) h (by decide +kernel) ?_
  refine V.last (pc := 13) (a := o) (M := 1) (i := 0) h (jn_o (S' := S') hO).1 (jn_o hO).2.1 (jn_o hO).2.2 (by decide) (by decide) (by decide +kernel) ?_
  refine V.goto (pc := 14) h (off := 11) (by decide +kernel) (tgt := 25) (by decide) ?_
  refine V.blk h [(.iconst 0, 1)] (by decide +kernel) (pc' := 26) (ls' := [some (.ref q), some (.int x1), some (.int x2), some (.int x3), some (.int x4), some (.ref o), none]) (st' := [.int (nI 0)]) rfl rfl (Nat.le_of_ble_eq_true rfl) ?_
  exact V.iret h hA hr rfl (hp hno) (by decide +kernel) (by omega) (by omega)
theorem w_ask_t1 {l : Launch} {D : va_G} {tc : Nat → ClassId} (hls : l.stackTraces = false) {S : HS} {q o : Nat} {x1 x2 x3 x4 : Int32} {d mc ms : Nat} {post : Option Value → HS → Prop} (hO : OU0 o S) (hq : q ∈ zL S) (hqk : zK S q = 10) (hT : CT l D tc yX10_ask cX10_ask 7 (some .int) d mc ms [.ref q, .int x1, .int x2, .int x3, .int x4] S "java/lang/IndexOutOfBoundsException") (hp : post (some (.int (nI 1))) S) : CMH l D tc yL_ask [(0, 14, 17, 13), (0, 14, 21, 15)] cL_ask 7 (some .int) (d + 1) mc ms [.ref q, .int x1, .int x2, .int x3, .int x4, .ref o] S post := by
  refine CMH.of hls (by decide +kernel) (by simp [Value.category]) (Nat.le_of_ble_eq_true rfl) (fun A0 p e9 s m args below meth c sz h htab hr hA => ?_)
  refine V.eqL (ls' := [some (.ref q), some (.int x1), some (.int x2), some (.int x3), some (.int x4), some (.ref o), none]) rfl ?_
  refine V.blk h [(.aload 5, 2), (.iconst 0, 1), (.aload_n 0, 1), (.iload_n 1, 1), (.iload_n 2, 1), (.iload_n 3, 1), (.iload 4, 2)] (by decide +kernel) (pc' := 9) (ls' := [some (.ref q), some (.int x1), some (.int x2), some (.int x3), some (.int x4), some (.ref o), none]) (st' := [.int x4, .int x3, .int x2, .int x1, .ref q, .int (nI 0), .ref o]) rfl rfl (Nat.le_of_ble_eq_true rfl) ?_
  refine V.callVX (st := [.int (nI 0), .ref o]) (ci := 10) (np := 4) (As := [.int x1, .int x2, .int x3, .int x4]) h hT wc_X10_ask wn_RX10 wm_RL_7 wi_X10_ask we_X10_ask (by decide +kernel) rfl cls_10 hq hqk (Nat.le_refl _) (by show 8 + (7 + 11) + 36 * d ≤ 36 * (d + 1); omega) (by show 0 + mc ≤ mc; omega) (by show 0 + ms ≤ ms; omega) (by simp [Value.category]) (by decide +kernel) rfl ?_
  refine VX.catch (name := "java/lang/IndexOutOfBoundsException") h [] ⟨0, 14, 17, 13⟩ [⟨0, 14, 21, 15⟩] htab (fun z hz => by cases hz) (by decide) (by decide) wl_RL_13 (by simp [WK]) (fun q9 => ?_)
  refine V.blk h [(.astore 6, 2), (.iconst 1, 1)] (by decide +kernel) (pc' := 20) (ls' := [some (.ref q), some (.int x1), some (.int x2), some (.int x3), some (.int x4), some (.ref o), some (.ref q9)]) (st' := [.int (nI 1)]) rfl rfl (Nat.le_of_ble_eq_true rfl) ?_
  exact V.iret h hA hr rfl hp (by decide +kernel) (by omega) (by omega)
theorem w_ask_t2 {l : Launch} {D : va_G} {tc : Nat → ClassId} (hls : l.stackTraces = false) {S : HS} {q o : Nat} {x1 x2 x3 x4 : Int32} {d mc ms : Nat} {post : Option Value → HS → Prop} (hO : OU0 o S) (hq : q ∈ zL S) (hqk : zK S q = 10) (hT : CT l D tc yX10_ask cX10_ask 7 (some .int) d mc ms [.ref q, .int x1, .int x2, .int x3, .int x4] S "java/lang/IllegalArgumentException") (hp : post (some (.int (nI 2))) S) : CMH l D tc yL_ask [(0, 14, 17, 13), (0, 14, 21, 15)] cL_ask 7 (some .int) (d + 1) mc ms [.ref q, .int x1, .int x2, .int x3, .int x4, .ref o] S post := by
  refine CMH.of hls (by decide +kernel) (by simp [Value.category]) (Nat.le_of_ble_eq_true rfl) (fun A0 p e9 s m args below meth c sz h htab hr hA => ?_)
  refine V.eqL (ls' := [some (.ref q), some (.int x1), some (.int x2), some (.int x3), some (.int x4), some (.ref o), none]) rfl ?_
  refine V.blk h [(.aload 5, 2), (.iconst 0, 1), (.aload_n 0, 1), (.iload_n 1, 1), (.iload_n 2, 1), (.iload_n 3, 1), (.iload 4, 2)] (by decide +kernel) (pc' := 9) (ls' := [some (.ref q), some (.int x1), some (.int x2), some (.int x3), some (.int x4), some (.ref o), none]) (st' := [.int x4, .int x3, .int x2, .int x1, .ref q, .int (nI 0), .ref o]) rfl rfl (Nat.le_of_ble_eq_true rfl) ?_
  refine V.callVX (st := [.int (nI 0), .ref o]) (ci := 10) (np := 4) (As := [.int x1, .int x2, .int x3, .int x4]) h hT wc_X10_ask wn_RX10 wm_RL_7 wi_X10_ask we_X10_ask (by decide +kernel) rfl cls_10 hq hqk (Nat.le_refl _) (by show 8 + (7 + 11) + 36 * d ≤ 36 * (d + 1); omega) (by show 0 + mc ≤ mc; omega) (by show 0 + ms ≤ ms; omega) (by simp [Value.category]) (by decide +kernel) rfl ?_
  refine VX.catch (name := "java/lang/IllegalArgumentException") h [⟨0, 14, 17, 13⟩] ⟨0, 14, 21, 15⟩ [] htab (fun z hz => by
    rw [List.mem_singleton.mp hz]
    exact Or.inr ⟨by decide, "java/lang/IndexOutOfBoundsException", h.wg wl_RL_13, h.2.2.2.2.2.1.2.2.2.2.2.2.1⟩) (by decide) (by decide) wl_RL_15 (by simp [WK]) (fun q9 => ?_)
  refine V.blk h [(.astore 6, 2), (.iconst 2, 1)] (by decide +kernel) (pc' := 24) (ls' := [some (.ref q), some (.int x1), some (.int x2), some (.int x3), some (.int x4), some (.ref o), some (.ref q9)]) (st' := [.int (nI 2)]) rfl rfl (Nat.le_of_ble_eq_true rfl) ?_
  exact V.iret h hA hr rfl hp (by decide +kernel) (by omega) (by omega)
theorem w_retry {l : Launch} {D : va_G} {tc : Nat → ClassId} (hls : l.stackTraces = false) {S : HS} {q o : Nat} {x1 : Int32} {d mc ms : Nat} {post : Option Value → HS → Prop} {post1 : Option Value → HS → Prop} (hO : OU0 o S) (hq : q ∈ zL S) (hqk : zK S q = 10) (hM : CM l D tc yX10_retry cX10_retry 2 (some .boolean) d mc ms [.ref q, .int x1] (zSub S (wo S o)) post1) (hv : ∀ v S', post1 v S' → ∃ b : Bool, v = some (.int (bI b)) ∧ (o ∉ zL S' → post (some (.int (nI 0))) (setJ (jn [o] S S') o (vp_updL (zJ (jn [o] S S') o) 0 (bI b).toInt64)))) : CMH l D tc yL_retry [(0, 16, 19, 13)] cL_retry 4 (some .int) (d + 1) mc ms [.ref q, .int x1, .ref o] S post := by
  refine CMH.of hls (by decide +kernel) (by simp [Value.category]) (Nat.le_of_ble_eq_true rfl) (fun A0 p e9 s m args below meth c sz h htab hr hA => ?_)
  refine V.eqL (ls' := [some (.ref q), some (.int x1), some (.ref o), none]) rfl ?_
  refine V.blk h [(.aload_n 2, 1), (.iconst 0, 1), (.aload_n 0, 1), (.iload_n 1, 1)] (by decide +kernel) (pc' := 4) (ls' := [some (.ref q), some (.int x1), some (.ref o), none]) (st' := [.int x1, .ref q, .int (nI 0), .ref o]) rfl rfl (Nat.le_of_ble_eq_true rfl) ?_
  refine V.dist (fun hn => ?_)
  refine V.callVF (st := [.int (nI 0), .ref o]) (ci := 10) (np := 1) (As := [.int x1]) h (PT_o hn hO.1) hM wc_X10_retry wn_RX10 (Or.inl wm_RL_17) wi_X10_retry we_X10_retry (by decide +kernel) rfl cls_10 (wo_mem.mpr ⟨hq, fun z => by rw [z, hO.2.1] at hqk; exact absurd hqk (by decide)⟩) hqk (Nat.le_refl _) (by show 8 + (2 + 11) + 36 * d ≤ 36 * (d + 1); omega) (by show 0 + mc ≤ mc; omega) (by show 0 + ms ≤ ms; omega) (by simp [Value.category]) (by decide +kernel) rfl (fun v S' hv1 => ?_)
  obtain ⟨b, rfl, hp⟩ := hv v S' hv1
  refine V.dist (fun hn2 => ?_)
  have hno : o ∉ zL S' := nd_out (L := zL S') hn2
  have fin : ∀ x : Int64, x = (bI b).toInt64 → V l D tc A0 p e9 (rmd (d + 1) mc ms) s m args below meth c 4 (MQ below (zQ D tc post S sz) args s mc ms (zAd S sz)) (jn [o] S S') (0 + mc) (0 + ms) 15 [some (.ref q), some (.int x1), some (.ref o), none] [.long x, .int (nI 0), .ref o] := fun x hx => by
    subst hx
    refine V.last (pc := 15) (a := o) (M := 1) (i := 0) h (jn_o (S' := S') hO).1 (jn_o hO).2.1 (jn_o hO).2.2 (by decide) (by decide) (by decide +kernel) ?_
    refine V.goto (pc := 16) h (off := 6) (by decide +kernel) (tgt := 22) (by decide) ?_
    refine V.blk h [(.iconst 0, 1)] (by decide +kernel) (pc' := 23) (ls' := [some (.ref q), some (.int x1), some (.ref o), none]) (st' := [.int (nI 0)]) rfl rfl (Nat.le_of_ble_eq_true rfl) ?_
    exact V.iret h hA hr rfl (hp hno) (by decide +kernel) (by omega) (by omega)
  refine V.if_eq (pc := 7) h (off := 7) (by decide +kernel) (tgt := 14) (by decide) (fun z => ?_) (fun z => ?_)
  · have hb := bI_0.mp z
    refine V.lconst (pc := 14) (x := 0) (v := (bI b).toInt64) h (by rw [hb]; decide) (by decide +kernel) ?_
    exact fin _ rfl
  · have hb : b = true := by
      cases b
      · exact absurd (bI_0.mpr rfl) z
      · rfl
    refine V.lconst (pc := 10) (x := 1) (v := (bI b).toInt64) h (by rw [hb]; decide) (by decide +kernel) ?_
    refine V.goto (pc := 11) h (off := 4) (by decide +kernel) (tgt := 15) (by decide) ?_
    exact fin _ rfl
theorem w_retry_t1 {l : Launch} {D : va_G} {tc : Nat → ClassId} (hls : l.stackTraces = false) {S : HS} {q o : Nat} {x1 : Int32} {d mc ms : Nat} {post : Option Value → HS → Prop} (hO : OU0 o S) (hq : q ∈ zL S) (hqk : zK S q = 10) (hT : CT l D tc yX10_retry cX10_retry 2 (some .boolean) d mc ms [.ref q, .int x1] S "java/lang/IndexOutOfBoundsException") (hp : post (some (.int (nI 1))) S) : CMH l D tc yL_retry [(0, 16, 19, 13)] cL_retry 4 (some .int) (d + 1) mc ms [.ref q, .int x1, .ref o] S post := by
  refine CMH.of hls (by decide +kernel) (by simp [Value.category]) (Nat.le_of_ble_eq_true rfl) (fun A0 p e9 s m args below meth c sz h htab hr hA => ?_)
  refine V.eqL (ls' := [some (.ref q), some (.int x1), some (.ref o), none]) rfl ?_
  refine V.blk h [(.aload_n 2, 1), (.iconst 0, 1), (.aload_n 0, 1), (.iload_n 1, 1)] (by decide +kernel) (pc' := 4) (ls' := [some (.ref q), some (.int x1), some (.ref o), none]) (st' := [.int x1, .ref q, .int (nI 0), .ref o]) rfl rfl (Nat.le_of_ble_eq_true rfl) ?_
  refine V.callVX (st := [.int (nI 0), .ref o]) (ci := 10) (np := 1) (As := [.int x1]) h hT wc_X10_retry wn_RX10 wm_RL_17 wi_X10_retry we_X10_retry (by decide +kernel) rfl cls_10 hq hqk (Nat.le_refl _) (by show 8 + (2 + 11) + 36 * d ≤ 36 * (d + 1); omega) (by show 0 + mc ≤ mc; omega) (by show 0 + ms ≤ ms; omega) (by simp [Value.category]) (by decide +kernel) rfl ?_
  refine VX.catch (name := "java/lang/IndexOutOfBoundsException") h [] ⟨0, 16, 19, 13⟩ [] htab (fun z hz => by cases hz) (by decide) (by decide) wl_RL_13 (by simp [WK]) (fun q9 => ?_)
  refine V.blk h [(.astore_n 3, 1), (.iconst 1, 1)] (by decide +kernel) (pc' := 21) (ls' := [some (.ref q), some (.int x1), some (.ref o), some (.ref q9)]) (st' := [.int (nI 1)]) rfl rfl (Nat.le_of_ble_eq_true rfl) ?_
  exact V.iret h hA hr rfl hp (by decide +kernel) (by omega) (by omega)
theorem w_learn {l : Launch} {D : va_G} {tc : Nat → ClassId} (hls : l.stackTraces = false) {S : HS} {q o : Nat} {x1 : Int32} {d mc ms : Nat} {post : Option Value → HS → Prop} {post1 : Option Value → HS → Prop} (hO : OU0 o S) (hq : q ∈ zL S) (hqk : zK S q = 10) (hM : CM l D tc yX10_learn cX10_learn 4 (some .int) d mc ms [.ref q, .int x1] (zSub S (wo S o)) post1) (hv : ∀ v S', post1 v S' → ∃ x : Int32, v = some (.int x) ∧ (o ∉ zL S' → post (some (.int (nI 0))) (setJ (jn [o] S S') o (vp_updL (zJ (jn [o] S S') o) 0 x.toInt64)))) : CMH l D tc yL_learn [(0, 9, 12, 13)] cL_learn 4 (some .int) (d + 1) mc ms [.ref q, .int x1, .ref o] S post := by
  refine CMH.of hls (by decide +kernel) (by simp [Value.category]) (Nat.le_of_ble_eq_true rfl) (fun A0 p e9 s m args below meth c sz h htab hr hA => ?_)
  refine V.eqL (ls' := [some (.ref q), some (.int x1), some (.ref o), none]) rfl ?_
  refine V.blk h [(.aload_n 2, 1), (.iconst 0, 1), (.aload_n 0, 1), (.iload_n 1, 1)] (by decide +kernel) (pc' := 4) (ls' := [some (.ref q), some (.int x1), some (.ref o), none]) (st' := [.int x1, .ref q, .int (nI 0), .ref o]) rfl rfl (Nat.le_of_ble_eq_true rfl) ?_
  refine V.dist (fun hn => ?_)
  refine V.callVF (st := [.int (nI 0), .ref o]) (ci := 10) (np := 1) (As := [.int x1]) h (PT_o hn hO.1) hM wc_X10_learn wn_RX10 (Or.inl wm_RL_21) wi_X10_learn we_X10_learn (by decide +kernel) rfl cls_10 (wo_mem.mpr ⟨hq, fun z => by rw [z, hO.2.1] at hqk; exact absurd hqk (by decide)⟩) hqk (Nat.le_refl _) (by show 8 + (4 + 11) + 36 * d ≤ 36 * (d + 1); omega) (by show 0 + mc ≤ mc; omega) (by show 0 + ms ≤ ms; omega) (by simp [Value.category]) (by decide +kernel) rfl (fun v S' hv1 => ?_)
  obtain ⟨x, rfl, hp⟩ := hv v S' hv1
  refine V.dist (fun hn2 => ?_)
  have hno : o ∉ zL S' := nd_out (L := zL S') hn2
  refine V.i2l (pc := 7) h (by decide +kernel) ?_
  refine V.last (pc := 8) (a := o) (M := 1) (i := 0) h (jn_o (S' := S') hO).1 (jn_o hO).2.1 (jn_o hO).2.2 (by decide) (by decide) (by decide +kernel) ?_
  refine V.goto (pc := 9) h (off := 6) (by decide +kernel) (tgt := 15) (by decide) ?_
  refine V.blk h [(.iconst 0, 1)] (by decide +kernel) (pc' := 16) (ls' := [some (.ref q), some (.int x1), some (.ref o), none]) (st' := [.int (nI 0)]) rfl rfl (Nat.le_of_ble_eq_true rfl) ?_
  exact V.iret h hA hr rfl (hp hno) (by decide +kernel) (by omega) (by omega)
theorem w_learn_t1 {l : Launch} {D : va_G} {tc : Nat → ClassId} (hls : l.stackTraces = false) {S : HS} {q o : Nat} {x1 : Int32} {d mc ms : Nat} {post : Option Value → HS → Prop} (hO : OU0 o S) (hq : q ∈ zL S) (hqk : zK S q = 10) (hT : CT l D tc yX10_learn cX10_learn 4 (some .int) d mc ms [.ref q, .int x1] S "java/lang/IndexOutOfBoundsException") (hp : post (some (.int (nI 1))) S) : CMH l D tc yL_learn [(0, 9, 12, 13)] cL_learn 4 (some .int) (d + 1) mc ms [.ref q, .int x1, .ref o] S post := by
  refine CMH.of hls (by decide +kernel) (by simp [Value.category]) (Nat.le_of_ble_eq_true rfl) (fun A0 p e9 s m args below meth c sz h htab hr hA => ?_)
  refine V.eqL (ls' := [some (.ref q), some (.int x1), some (.ref o), none]) rfl ?_
  refine V.blk h [(.aload_n 2, 1), (.iconst 0, 1), (.aload_n 0, 1), (.iload_n 1, 1)] (by decide +kernel) (pc' := 4) (ls' := [some (.ref q), some (.int x1), some (.ref o), none]) (st' := [.int x1, .ref q, .int (nI 0), .ref o]) rfl rfl (Nat.le_of_ble_eq_true rfl) ?_
  refine V.callVX (st := [.int (nI 0), .ref o]) (ci := 10) (np := 1) (As := [.int x1]) h hT wc_X10_learn wn_RX10 wm_RL_21 wi_X10_learn we_X10_learn (by decide +kernel) rfl cls_10 hq hqk (Nat.le_refl _) (by show 8 + (4 + 11) + 36 * d ≤ 36 * (d + 1); omega) (by show 0 + mc ≤ mc; omega) (by show 0 + ms ≤ ms; omega) (by simp [Value.category]) (by decide +kernel) rfl ?_
  refine VX.catch (name := "java/lang/IndexOutOfBoundsException") h [] ⟨0, 9, 12, 13⟩ [] htab (fun z hz => by cases hz) (by decide) (by decide) wl_RL_13 (by simp [WK]) (fun q9 => ?_)
  refine V.blk h [(.astore_n 3, 1), (.iconst 1, 1)] (by decide +kernel) (pc' := 14) (ls' := [some (.ref q), some (.int x1), some (.ref o), some (.ref q9)]) (st' := [.int (nI 1)]) rfl rfl (Nat.le_of_ble_eq_true rfl) ?_
  exact V.iret h hA hr rfl hp (by decide +kernel) (by omega) (by omega)
theorem w_deliver {l : Launch} {D : va_G} {tc : Nat → ClassId} (hls : l.stackTraces = false) {S : HS} {q o : Nat} {x1 : Int32} {d mc ms : Nat} {post : Option Value → HS → Prop} {post1 : Option Value → HS → Prop} (hO : OU0 o S) (hq : q ∈ zL S) (hqk : zK S q = 10) (hM : CM l D tc yX10_deliver cX10_deliver 3 (some .int) d mc ms [.ref q, .int x1] (zSub S (wo S o)) post1) (hv : ∀ v S', post1 v S' → ∃ x : Int32, v = some (.int x) ∧ (o ∉ zL S' → post (some (.int (nI 0))) (setJ (jn [o] S S') o (vp_updL (zJ (jn [o] S S') o) 0 x.toInt64)))) : CMH l D tc yL_deliver [(0, 9, 12, 13)] cL_deliver 4 (some .int) (d + 1) mc ms [.ref q, .int x1, .ref o] S post := by
  refine CMH.of hls (by decide +kernel) (by simp [Value.category]) (Nat.le_of_ble_eq_true rfl) (fun A0 p e9 s m args below meth c sz h htab hr hA => ?_)
  refine V.eqL (ls' := [some (.ref q), some (.int x1), some (.ref o), none]) rfl ?_
  refine V.blk h [(.aload_n 2, 1), (.iconst 0, 1), (.aload_n 0, 1), (.iload_n 1, 1)] (by decide +kernel) (pc' := 4) (ls' := [some (.ref q), some (.int x1), some (.ref o), none]) (st' := [.int x1, .ref q, .int (nI 0), .ref o]) rfl rfl (Nat.le_of_ble_eq_true rfl) ?_
  refine V.dist (fun hn => ?_)
  refine V.callVF (st := [.int (nI 0), .ref o]) (ci := 10) (np := 1) (As := [.int x1]) h (PT_o hn hO.1) hM wc_X10_deliver wn_RX10 (Or.inl wm_RL_25) wi_X10_deliver we_X10_deliver (by decide +kernel) rfl cls_10 (wo_mem.mpr ⟨hq, fun z => by rw [z, hO.2.1] at hqk; exact absurd hqk (by decide)⟩) hqk (Nat.le_refl _) (by show 8 + (3 + 11) + 36 * d ≤ 36 * (d + 1); omega) (by show 0 + mc ≤ mc; omega) (by show 0 + ms ≤ ms; omega) (by simp [Value.category]) (by decide +kernel) rfl (fun v S' hv1 => ?_)
  obtain ⟨x, rfl, hp⟩ := hv v S' hv1
  refine V.dist (fun hn2 => ?_)
  have hno : o ∉ zL S' := nd_out (L := zL S') hn2
  refine V.i2l (pc := 7) h (by decide +kernel) ?_
  refine V.last (pc := 8) (a := o) (M := 1) (i := 0) h (jn_o (S' := S') hO).1 (jn_o hO).2.1 (jn_o hO).2.2 (by decide) (by decide) (by decide +kernel) ?_
  refine V.goto (pc := 9) h (off := 6) (by decide +kernel) (tgt := 15) (by decide) ?_
  refine V.blk h [(.iconst 0, 1)] (by decide +kernel) (pc' := 16) (ls' := [some (.ref q), some (.int x1), some (.ref o), none]) (st' := [.int (nI 0)]) rfl rfl (Nat.le_of_ble_eq_true rfl) ?_
  exact V.iret h hA hr rfl (hp hno) (by decide +kernel) (by omega) (by omega)
theorem w_deliver_t1 {l : Launch} {D : va_G} {tc : Nat → ClassId} (hls : l.stackTraces = false) {S : HS} {q o : Nat} {x1 : Int32} {d mc ms : Nat} {post : Option Value → HS → Prop} (hO : OU0 o S) (hq : q ∈ zL S) (hqk : zK S q = 10) (hT : CT l D tc yX10_deliver cX10_deliver 3 (some .int) d mc ms [.ref q, .int x1] S "java/lang/IndexOutOfBoundsException") (hp : post (some (.int (nI 1))) S) : CMH l D tc yL_deliver [(0, 9, 12, 13)] cL_deliver 4 (some .int) (d + 1) mc ms [.ref q, .int x1, .ref o] S post := by
  refine CMH.of hls (by decide +kernel) (by simp [Value.category]) (Nat.le_of_ble_eq_true rfl) (fun A0 p e9 s m args below meth c sz h htab hr hA => ?_)
  refine V.eqL (ls' := [some (.ref q), some (.int x1), some (.ref o), none]) rfl ?_
  refine V.blk h [(.aload_n 2, 1), (.iconst 0, 1), (.aload_n 0, 1), (.iload_n 1, 1)] (by decide +kernel) (pc' := 4) (ls' := [some (.ref q), some (.int x1), some (.ref o), none]) (st' := [.int x1, .ref q, .int (nI 0), .ref o]) rfl rfl (Nat.le_of_ble_eq_true rfl) ?_
  refine V.callVX (st := [.int (nI 0), .ref o]) (ci := 10) (np := 1) (As := [.int x1]) h hT wc_X10_deliver wn_RX10 wm_RL_25 wi_X10_deliver we_X10_deliver (by decide +kernel) rfl cls_10 hq hqk (Nat.le_refl _) (by show 8 + (3 + 11) + 36 * d ≤ 36 * (d + 1); omega) (by show 0 + mc ≤ mc; omega) (by show 0 + ms ≤ ms; omega) (by simp [Value.category]) (by decide +kernel) rfl ?_
  refine VX.catch (name := "java/lang/IndexOutOfBoundsException") h [] ⟨0, 9, 12, 13⟩ [] htab (fun z hz => by cases hz) (by decide) (by decide) wl_RL_13 (by simp [WK]) (fun q9 => ?_)
  refine V.blk h [(.astore_n 3, 1), (.iconst 1, 1)] (by decide +kernel) (pc' := 14) (ls' := [some (.ref q), some (.int x1), some (.ref o), some (.ref q9)]) (st' := [.int (nI 1)]) rfl rfl (Nat.le_of_ble_eq_true rfl) ?_
  exact V.iret h hA hr rfl hp (by decide +kernel) (by omega) (by omega)
theorem w_lose {l : Launch} {D : va_G} {tc : Nat → ClassId} (hls : l.stackTraces = false) {S : HS} {q o : Nat} {x1 : Int32} {d mc ms : Nat} {post : Option Value → HS → Prop} {post1 : Option Value → HS → Prop} (hO : OU0 o S) (hq : q ∈ zL S) (hqk : zK S q = 10) (hM : CM l D tc yX10_lose cX10_lose 2 (some .int) d mc ms [.ref q, .int x1] (zSub S (wo S o)) post1) (hv : ∀ v S', post1 v S' → ∃ x : Int32, v = some (.int x) ∧ (o ∉ zL S' → post (some (.int (nI 0))) (setJ (jn [o] S S') o (vp_updL (zJ (jn [o] S S') o) 0 x.toInt64)))) : CMH l D tc yL_lose [(0, 9, 12, 13)] cL_lose 4 (some .int) (d + 1) mc ms [.ref q, .int x1, .ref o] S post := by
  refine CMH.of hls (by decide +kernel) (by simp [Value.category]) (Nat.le_of_ble_eq_true rfl) (fun A0 p e9 s m args below meth c sz h htab hr hA => ?_)
  refine V.eqL (ls' := [some (.ref q), some (.int x1), some (.ref o), none]) rfl ?_
  refine V.blk h [(.aload_n 2, 1), (.iconst 0, 1), (.aload_n 0, 1), (.iload_n 1, 1)] (by decide +kernel) (pc' := 4) (ls' := [some (.ref q), some (.int x1), some (.ref o), none]) (st' := [.int x1, .ref q, .int (nI 0), .ref o]) rfl rfl (Nat.le_of_ble_eq_true rfl) ?_
  refine V.dist (fun hn => ?_)
  refine V.callVF (st := [.int (nI 0), .ref o]) (ci := 10) (np := 1) (As := [.int x1]) h (PT_o hn hO.1) hM wc_X10_lose wn_RX10 (Or.inl wm_RL_28) wi_X10_lose we_X10_lose (by decide +kernel) rfl cls_10 (wo_mem.mpr ⟨hq, fun z => by rw [z, hO.2.1] at hqk; exact absurd hqk (by decide)⟩) hqk (Nat.le_refl _) (by show 8 + (2 + 11) + 36 * d ≤ 36 * (d + 1); omega) (by show 0 + mc ≤ mc; omega) (by show 0 + ms ≤ ms; omega) (by simp [Value.category]) (by decide +kernel) rfl (fun v S' hv1 => ?_)
  obtain ⟨x, rfl, hp⟩ := hv v S' hv1
  refine V.dist (fun hn2 => ?_)
  have hno : o ∉ zL S' := nd_out (L := zL S') hn2
  refine V.i2l (pc := 7) h (by decide +kernel) ?_
  refine V.last (pc := 8) (a := o) (M := 1) (i := 0) h (jn_o (S' := S') hO).1 (jn_o hO).2.1 (jn_o hO).2.2 (by decide) (by decide) (by decide +kernel) ?_
  refine V.goto (pc := 9) h (off := 6) (by decide +kernel) (tgt := 15) (by decide) ?_
  refine V.blk h [(.iconst 0, 1)] (by decide +kernel) (pc' := 16) (ls' := [some (.ref q), some (.int x1), some (.ref o), none]) (st' := [.int (nI 0)]) rfl rfl (Nat.le_of_ble_eq_true rfl) ?_
  exact V.iret h hA hr rfl (hp hno) (by decide +kernel) (by omega) (by omega)
theorem w_lose_t1 {l : Launch} {D : va_G} {tc : Nat → ClassId} (hls : l.stackTraces = false) {S : HS} {q o : Nat} {x1 : Int32} {d mc ms : Nat} {post : Option Value → HS → Prop} (hO : OU0 o S) (hq : q ∈ zL S) (hqk : zK S q = 10) (hT : CT l D tc yX10_lose cX10_lose 2 (some .int) d mc ms [.ref q, .int x1] S "java/lang/IndexOutOfBoundsException") (hp : post (some (.int (nI 1))) S) : CMH l D tc yL_lose [(0, 9, 12, 13)] cL_lose 4 (some .int) (d + 1) mc ms [.ref q, .int x1, .ref o] S post := by
  refine CMH.of hls (by decide +kernel) (by simp [Value.category]) (Nat.le_of_ble_eq_true rfl) (fun A0 p e9 s m args below meth c sz h htab hr hA => ?_)
  refine V.eqL (ls' := [some (.ref q), some (.int x1), some (.ref o), none]) rfl ?_
  refine V.blk h [(.aload_n 2, 1), (.iconst 0, 1), (.aload_n 0, 1), (.iload_n 1, 1)] (by decide +kernel) (pc' := 4) (ls' := [some (.ref q), some (.int x1), some (.ref o), none]) (st' := [.int x1, .ref q, .int (nI 0), .ref o]) rfl rfl (Nat.le_of_ble_eq_true rfl) ?_
  refine V.callVX (st := [.int (nI 0), .ref o]) (ci := 10) (np := 1) (As := [.int x1]) h hT wc_X10_lose wn_RX10 wm_RL_28 wi_X10_lose we_X10_lose (by decide +kernel) rfl cls_10 hq hqk (Nat.le_refl _) (by show 8 + (2 + 11) + 36 * d ≤ 36 * (d + 1); omega) (by show 0 + mc ≤ mc; omega) (by show 0 + ms ≤ ms; omega) (by simp [Value.category]) (by decide +kernel) rfl ?_
  refine VX.catch (name := "java/lang/IndexOutOfBoundsException") h [] ⟨0, 9, 12, 13⟩ [] htab (fun z hz => by cases hz) (by decide) (by decide) wl_RL_13 (by simp [WK]) (fun q9 => ?_)
  refine V.blk h [(.astore_n 3, 1), (.iconst 1, 1)] (by decide +kernel) (pc' := 14) (ls' := [some (.ref q), some (.int x1), some (.ref o), some (.ref q9)]) (st' := [.int (nI 1)]) rfl rfl (Nat.le_of_ble_eq_true rfl) ?_
  exact V.iret h hA hr rfl hp (by decide +kernel) (by omega) (by omega)
theorem w_twice {l : Launch} {D : va_G} {tc : Nat → ClassId} (hls : l.stackTraces = false) {S : HS} {q o : Nat} {x1 : Int32} {d mc ms : Nat} {post : Option Value → HS → Prop} {post1 : Option Value → HS → Prop} (hO : OU0 o S) (hq : q ∈ zL S) (hqk : zK S q = 10) (hM : CM l D tc yX10_twice cX10_twice 3 (some .int) d mc ms [.ref q, .int x1] (zSub S (wo S o)) post1) (hv : ∀ v S', post1 v S' → ∃ x : Int32, v = some (.int x) ∧ (o ∉ zL S' → post (some (.int (nI 0))) (setJ (jn [o] S S') o (vp_updL (zJ (jn [o] S S') o) 0 x.toInt64)))) : CMH l D tc yL_twice [(0, 9, 12, 13)] cL_twice 4 (some .int) (d + 1) mc ms [.ref q, .int x1, .ref o] S post := by
  refine CMH.of hls (by decide +kernel) (by simp [Value.category]) (Nat.le_of_ble_eq_true rfl) (fun A0 p e9 s m args below meth c sz h htab hr hA => ?_)
  refine V.eqL (ls' := [some (.ref q), some (.int x1), some (.ref o), none]) rfl ?_
  refine V.blk h [(.aload_n 2, 1), (.iconst 0, 1), (.aload_n 0, 1), (.iload_n 1, 1)] (by decide +kernel) (pc' := 4) (ls' := [some (.ref q), some (.int x1), some (.ref o), none]) (st' := [.int x1, .ref q, .int (nI 0), .ref o]) rfl rfl (Nat.le_of_ble_eq_true rfl) ?_
  refine V.dist (fun hn => ?_)
  refine V.callVF (st := [.int (nI 0), .ref o]) (ci := 10) (np := 1) (As := [.int x1]) h (PT_o hn hO.1) hM wc_X10_twice wn_RX10 (Or.inl wm_RL_31) wi_X10_twice we_X10_twice (by decide +kernel) rfl cls_10 (wo_mem.mpr ⟨hq, fun z => by rw [z, hO.2.1] at hqk; exact absurd hqk (by decide)⟩) hqk (Nat.le_refl _) (by show 8 + (3 + 11) + 36 * d ≤ 36 * (d + 1); omega) (by show 0 + mc ≤ mc; omega) (by show 0 + ms ≤ ms; omega) (by simp [Value.category]) (by decide +kernel) rfl (fun v S' hv1 => ?_)
  obtain ⟨x, rfl, hp⟩ := hv v S' hv1
  refine V.dist (fun hn2 => ?_)
  have hno : o ∉ zL S' := nd_out (L := zL S') hn2
  refine V.i2l (pc := 7) h (by decide +kernel) ?_
  refine V.last (pc := 8) (a := o) (M := 1) (i := 0) h (jn_o (S' := S') hO).1 (jn_o hO).2.1 (jn_o hO).2.2 (by decide) (by decide) (by decide +kernel) ?_
  refine V.goto (pc := 9) h (off := 6) (by decide +kernel) (tgt := 15) (by decide) ?_
  refine V.blk h [(.iconst 0, 1)] (by decide +kernel) (pc' := 16) (ls' := [some (.ref q), some (.int x1), some (.ref o), none]) (st' := [.int (nI 0)]) rfl rfl (Nat.le_of_ble_eq_true rfl) ?_
  exact V.iret h hA hr rfl (hp hno) (by decide +kernel) (by omega) (by omega)
theorem w_twice_t1 {l : Launch} {D : va_G} {tc : Nat → ClassId} (hls : l.stackTraces = false) {S : HS} {q o : Nat} {x1 : Int32} {d mc ms : Nat} {post : Option Value → HS → Prop} (hO : OU0 o S) (hq : q ∈ zL S) (hqk : zK S q = 10) (hT : CT l D tc yX10_twice cX10_twice 3 (some .int) d mc ms [.ref q, .int x1] S "java/lang/IndexOutOfBoundsException") (hp : post (some (.int (nI 1))) S) : CMH l D tc yL_twice [(0, 9, 12, 13)] cL_twice 4 (some .int) (d + 1) mc ms [.ref q, .int x1, .ref o] S post := by
  refine CMH.of hls (by decide +kernel) (by simp [Value.category]) (Nat.le_of_ble_eq_true rfl) (fun A0 p e9 s m args below meth c sz h htab hr hA => ?_)
  refine V.eqL (ls' := [some (.ref q), some (.int x1), some (.ref o), none]) rfl ?_
  refine V.blk h [(.aload_n 2, 1), (.iconst 0, 1), (.aload_n 0, 1), (.iload_n 1, 1)] (by decide +kernel) (pc' := 4) (ls' := [some (.ref q), some (.int x1), some (.ref o), none]) (st' := [.int x1, .ref q, .int (nI 0), .ref o]) rfl rfl (Nat.le_of_ble_eq_true rfl) ?_
  refine V.callVX (st := [.int (nI 0), .ref o]) (ci := 10) (np := 1) (As := [.int x1]) h hT wc_X10_twice wn_RX10 wm_RL_31 wi_X10_twice we_X10_twice (by decide +kernel) rfl cls_10 hq hqk (Nat.le_refl _) (by show 8 + (3 + 11) + 36 * d ≤ 36 * (d + 1); omega) (by show 0 + mc ≤ mc; omega) (by show 0 + ms ≤ ms; omega) (by simp [Value.category]) (by decide +kernel) rfl ?_
  refine VX.catch (name := "java/lang/IndexOutOfBoundsException") h [] ⟨0, 9, 12, 13⟩ [] htab (fun z hz => by cases hz) (by decide) (by decide) wl_RL_13 (by simp [WK]) (fun q9 => ?_)
  refine V.blk h [(.astore_n 3, 1), (.iconst 1, 1)] (by decide +kernel) (pc' := 14) (ls' := [some (.ref q), some (.int x1), some (.ref o), some (.ref q9)]) (st' := [.int (nI 1)]) rfl rfl (Nat.le_of_ble_eq_true rfl) ?_
  exact V.iret h hA hr rfl hp (by decide +kernel) (by omega) (by omega)
theorem w_sync {l : Launch} {D : va_G} {tc : Nat → ClassId} (hls : l.stackTraces = false) {S : HS} {q o : Nat} {x1 : Int32} {d mc ms : Nat} {post : Option Value → HS → Prop} {post1 : Option Value → HS → Prop} (hO : OU0 o S) (hq : q ∈ zL S) (hqk : zK S q = 10) (hM : CM l D tc yX10_sync cX10_sync 3 (some .boolean) d mc ms [.ref q, .int x1] (zSub S (wo S o)) post1) (hv : ∀ v S', post1 v S' → ∃ b : Bool, v = some (.int (bI b)) ∧ (o ∉ zL S' → post (some (.int (nI 0))) (setJ (jn [o] S S') o (vp_updL (zJ (jn [o] S S') o) 0 (bI b).toInt64)))) : CMH l D tc yL_sync [(0, 16, 19, 13)] cL_sync 4 (some .int) (d + 1) mc ms [.ref q, .int x1, .ref o] S post := by
  refine CMH.of hls (by decide +kernel) (by simp [Value.category]) (Nat.le_of_ble_eq_true rfl) (fun A0 p e9 s m args below meth c sz h htab hr hA => ?_)
  refine V.eqL (ls' := [some (.ref q), some (.int x1), some (.ref o), none]) rfl ?_
  refine V.blk h [(.aload_n 2, 1), (.iconst 0, 1), (.aload_n 0, 1), (.iload_n 1, 1)] (by decide +kernel) (pc' := 4) (ls' := [some (.ref q), some (.int x1), some (.ref o), none]) (st' := [.int x1, .ref q, .int (nI 0), .ref o]) rfl rfl (Nat.le_of_ble_eq_true rfl) ?_
  refine V.dist (fun hn => ?_)
  refine V.callVF (st := [.int (nI 0), .ref o]) (ci := 10) (np := 1) (As := [.int x1]) h (PT_o hn hO.1) hM wc_X10_sync wn_RX10 (Or.inl wm_RL_34) wi_X10_sync we_X10_sync (by decide +kernel) rfl cls_10 (wo_mem.mpr ⟨hq, fun z => by rw [z, hO.2.1] at hqk; exact absurd hqk (by decide)⟩) hqk (Nat.le_refl _) (by show 8 + (3 + 11) + 36 * d ≤ 36 * (d + 1); omega) (by show 0 + mc ≤ mc; omega) (by show 0 + ms ≤ ms; omega) (by simp [Value.category]) (by decide +kernel) rfl (fun v S' hv1 => ?_)
  obtain ⟨b, rfl, hp⟩ := hv v S' hv1
  refine V.dist (fun hn2 => ?_)
  have hno : o ∉ zL S' := nd_out (L := zL S') hn2
  have fin : ∀ x : Int64, x = (bI b).toInt64 → V l D tc A0 p e9 (rmd (d + 1) mc ms) s m args below meth c 4 (MQ below (zQ D tc post S sz) args s mc ms (zAd S sz)) (jn [o] S S') (0 + mc) (0 + ms) 15 [some (.ref q), some (.int x1), some (.ref o), none] [.long x, .int (nI 0), .ref o] := fun x hx => by
    subst hx
    refine V.last (pc := 15) (a := o) (M := 1) (i := 0) h (jn_o (S' := S') hO).1 (jn_o hO).2.1 (jn_o hO).2.2 (by decide) (by decide) (by decide +kernel) ?_
    refine V.goto (pc := 16) h (off := 6) (by decide +kernel) (tgt := 22) (by decide) ?_
    refine V.blk h [(.iconst 0, 1)] (by decide +kernel) (pc' := 23) (ls' := [some (.ref q), some (.int x1), some (.ref o), none]) (st' := [.int (nI 0)]) rfl rfl (Nat.le_of_ble_eq_true rfl) ?_
    exact V.iret h hA hr rfl (hp hno) (by decide +kernel) (by omega) (by omega)
  refine V.if_eq (pc := 7) h (off := 7) (by decide +kernel) (tgt := 14) (by decide) (fun z => ?_) (fun z => ?_)
  · have hb := bI_0.mp z
    refine V.lconst (pc := 14) (x := 0) (v := (bI b).toInt64) h (by rw [hb]; decide) (by decide +kernel) ?_
    exact fin _ rfl
  · have hb : b = true := by
      cases b
      · exact absurd (bI_0.mpr rfl) z
      · rfl
    refine V.lconst (pc := 10) (x := 1) (v := (bI b).toInt64) h (by rw [hb]; decide) (by decide +kernel) ?_
    refine V.goto (pc := 11) h (off := 4) (by decide +kernel) (tgt := 15) (by decide) ?_
    exact fin _ rfl
theorem w_sync_t1 {l : Launch} {D : va_G} {tc : Nat → ClassId} (hls : l.stackTraces = false) {S : HS} {q o : Nat} {x1 : Int32} {d mc ms : Nat} {post : Option Value → HS → Prop} (hO : OU0 o S) (hq : q ∈ zL S) (hqk : zK S q = 10) (hT : CT l D tc yX10_sync cX10_sync 3 (some .boolean) d mc ms [.ref q, .int x1] S "java/lang/IndexOutOfBoundsException") (hp : post (some (.int (nI 1))) S) : CMH l D tc yL_sync [(0, 16, 19, 13)] cL_sync 4 (some .int) (d + 1) mc ms [.ref q, .int x1, .ref o] S post := by
  refine CMH.of hls (by decide +kernel) (by simp [Value.category]) (Nat.le_of_ble_eq_true rfl) (fun A0 p e9 s m args below meth c sz h htab hr hA => ?_)
  refine V.eqL (ls' := [some (.ref q), some (.int x1), some (.ref o), none]) rfl ?_
  refine V.blk h [(.aload_n 2, 1), (.iconst 0, 1), (.aload_n 0, 1), (.iload_n 1, 1)] (by decide +kernel) (pc' := 4) (ls' := [some (.ref q), some (.int x1), some (.ref o), none]) (st' := [.int x1, .ref q, .int (nI 0), .ref o]) rfl rfl (Nat.le_of_ble_eq_true rfl) ?_
  refine V.callVX (st := [.int (nI 0), .ref o]) (ci := 10) (np := 1) (As := [.int x1]) h hT wc_X10_sync wn_RX10 wm_RL_34 wi_X10_sync we_X10_sync (by decide +kernel) rfl cls_10 hq hqk (Nat.le_refl _) (by show 8 + (3 + 11) + 36 * d ≤ 36 * (d + 1); omega) (by show 0 + mc ≤ mc; omega) (by show 0 + ms ≤ ms; omega) (by simp [Value.category]) (by decide +kernel) rfl ?_
  refine VX.catch (name := "java/lang/IndexOutOfBoundsException") h [] ⟨0, 16, 19, 13⟩ [] htab (fun z hz => by cases hz) (by decide) (by decide) wl_RL_13 (by simp [WK]) (fun q9 => ?_)
  refine V.blk h [(.astore_n 3, 1), (.iconst 1, 1)] (by decide +kernel) (pc' := 21) (ls' := [some (.ref q), some (.int x1), some (.ref o), some (.ref q9)]) (st' := [.int (nI 1)]) rfl rfl (Nat.le_of_ble_eq_true rfl) ?_
  exact V.iret h hA hr rfl hp (by decide +kernel) (by omega) (by omega)
theorem w_crash {l : Launch} {D : va_G} {tc : Nat → ClassId} (hls : l.stackTraces = false) {S : HS} {q o : Nat} {x1 : Int32} {d mc ms : Nat} {post : Option Value → HS → Prop} {post1 : Option Value → HS → Prop} (hO : OU0 o S) (hq : q ∈ zL S) (hqk : zK S q = 10) (hM : CM l D tc yX10_crash cX10_crash 2 (some .boolean) d mc ms [.ref q, .int x1] (zSub S (wo S o)) post1) (hv : ∀ v S', post1 v S' → ∃ b : Bool, v = some (.int (bI b)) ∧ (o ∉ zL S' → post (some (.int (nI 0))) (setJ (jn [o] S S') o (vp_updL (zJ (jn [o] S S') o) 0 (bI b).toInt64)))) : CMH l D tc yL_crash [(0, 16, 19, 13)] cL_crash 4 (some .int) (d + 1) mc ms [.ref q, .int x1, .ref o] S post := by
  refine CMH.of hls (by decide +kernel) (by simp [Value.category]) (Nat.le_of_ble_eq_true rfl) (fun A0 p e9 s m args below meth c sz h htab hr hA => ?_)
  refine V.eqL (ls' := [some (.ref q), some (.int x1), some (.ref o), none]) rfl ?_
  refine V.blk h [(.aload_n 2, 1), (.iconst 0, 1), (.aload_n 0, 1), (.iload_n 1, 1)] (by decide +kernel) (pc' := 4) (ls' := [some (.ref q), some (.int x1), some (.ref o), none]) (st' := [.int x1, .ref q, .int (nI 0), .ref o]) rfl rfl (Nat.le_of_ble_eq_true rfl) ?_
  refine V.dist (fun hn => ?_)
  refine V.callVF (st := [.int (nI 0), .ref o]) (ci := 10) (np := 1) (As := [.int x1]) h (PT_o hn hO.1) hM wc_X10_crash wn_RX10 (Or.inl wm_RL_37) wi_X10_crash we_X10_crash (by decide +kernel) rfl cls_10 (wo_mem.mpr ⟨hq, fun z => by rw [z, hO.2.1] at hqk; exact absurd hqk (by decide)⟩) hqk (Nat.le_refl _) (by show 8 + (2 + 11) + 36 * d ≤ 36 * (d + 1); omega) (by show 0 + mc ≤ mc; omega) (by show 0 + ms ≤ ms; omega) (by simp [Value.category]) (by decide +kernel) rfl (fun v S' hv1 => ?_)
  obtain ⟨b, rfl, hp⟩ := hv v S' hv1
  refine V.dist (fun hn2 => ?_)
  have hno : o ∉ zL S' := nd_out (L := zL S') hn2
  have fin : ∀ x : Int64, x = (bI b).toInt64 → V l D tc A0 p e9 (rmd (d + 1) mc ms) s m args below meth c 4 (MQ below (zQ D tc post S sz) args s mc ms (zAd S sz)) (jn [o] S S') (0 + mc) (0 + ms) 15 [some (.ref q), some (.int x1), some (.ref o), none] [.long x, .int (nI 0), .ref o] := fun x hx => by
    subst hx
    refine V.last (pc := 15) (a := o) (M := 1) (i := 0) h (jn_o (S' := S') hO).1 (jn_o hO).2.1 (jn_o hO).2.2 (by decide) (by decide) (by decide +kernel) ?_
    refine V.goto (pc := 16) h (off := 6) (by decide +kernel) (tgt := 22) (by decide) ?_
    refine V.blk h [(.iconst 0, 1)] (by decide +kernel) (pc' := 23) (ls' := [some (.ref q), some (.int x1), some (.ref o), none]) (st' := [.int (nI 0)]) rfl rfl (Nat.le_of_ble_eq_true rfl) ?_
    exact V.iret h hA hr rfl (hp hno) (by decide +kernel) (by omega) (by omega)
  refine V.if_eq (pc := 7) h (off := 7) (by decide +kernel) (tgt := 14) (by decide) (fun z => ?_) (fun z => ?_)
  · have hb := bI_0.mp z
    refine V.lconst (pc := 14) (x := 0) (v := (bI b).toInt64) h (by rw [hb]; decide) (by decide +kernel) ?_
    exact fin _ rfl
  · have hb : b = true := by
      cases b
      · exact absurd (bI_0.mpr rfl) z
      · rfl
    refine V.lconst (pc := 10) (x := 1) (v := (bI b).toInt64) h (by rw [hb]; decide) (by decide +kernel) ?_
    refine V.goto (pc := 11) h (off := 4) (by decide +kernel) (tgt := 15) (by decide) ?_
    exact fin _ rfl
theorem w_crash_t1 {l : Launch} {D : va_G} {tc : Nat → ClassId} (hls : l.stackTraces = false) {S : HS} {q o : Nat} {x1 : Int32} {d mc ms : Nat} {post : Option Value → HS → Prop} (hO : OU0 o S) (hq : q ∈ zL S) (hqk : zK S q = 10) (hT : CT l D tc yX10_crash cX10_crash 2 (some .boolean) d mc ms [.ref q, .int x1] S "java/lang/IndexOutOfBoundsException") (hp : post (some (.int (nI 1))) S) : CMH l D tc yL_crash [(0, 16, 19, 13)] cL_crash 4 (some .int) (d + 1) mc ms [.ref q, .int x1, .ref o] S post := by
  refine CMH.of hls (by decide +kernel) (by simp [Value.category]) (Nat.le_of_ble_eq_true rfl) (fun A0 p e9 s m args below meth c sz h htab hr hA => ?_)
  refine V.eqL (ls' := [some (.ref q), some (.int x1), some (.ref o), none]) rfl ?_
  refine V.blk h [(.aload_n 2, 1), (.iconst 0, 1), (.aload_n 0, 1), (.iload_n 1, 1)] (by decide +kernel) (pc' := 4) (ls' := [some (.ref q), some (.int x1), some (.ref o), none]) (st' := [.int x1, .ref q, .int (nI 0), .ref o]) rfl rfl (Nat.le_of_ble_eq_true rfl) ?_
  refine V.callVX (st := [.int (nI 0), .ref o]) (ci := 10) (np := 1) (As := [.int x1]) h hT wc_X10_crash wn_RX10 wm_RL_37 wi_X10_crash we_X10_crash (by decide +kernel) rfl cls_10 hq hqk (Nat.le_refl _) (by show 8 + (2 + 11) + 36 * d ≤ 36 * (d + 1); omega) (by show 0 + mc ≤ mc; omega) (by show 0 + ms ≤ ms; omega) (by simp [Value.category]) (by decide +kernel) rfl ?_
  refine VX.catch (name := "java/lang/IndexOutOfBoundsException") h [] ⟨0, 16, 19, 13⟩ [] htab (fun z hz => by cases hz) (by decide) (by decide) wl_RL_13 (by simp [WK]) (fun q9 => ?_)
  refine V.blk h [(.astore_n 3, 1), (.iconst 1, 1)] (by decide +kernel) (pc' := 21) (ls' := [some (.ref q), some (.int x1), some (.ref o), some (.ref q9)]) (st' := [.int (nI 1)]) rfl rfl (Nat.le_of_ble_eq_true rfl) ?_
  exact V.iret h hA hr rfl hp (by decide +kernel) (by omega) (by omega)
theorem w_decide {l : Launch} {D : va_G} {tc : Nat → ClassId} (hls : l.stackTraces = false) {S : HS} {q o : Nat} {x1 x2 : Int32} {d mc ms : Nat} {post : Option Value → HS → Prop} {post1 : Option Value → HS → Prop} (hO : OU0 o S) (hq : q ∈ zL S) (hqk : zK S q = 10) (hM : CM l D tc yX10_decide cX10_decide 8 (some .int) d mc ms [.ref q, .int x1, .int x2] (zSub S (wo S o)) post1) (hv : ∀ v S', post1 v S' → ∃ x : Int32, v = some (.int x) ∧ (o ∉ zL S' → post (some (.int (nI 0))) (setJ (jn [o] S S') o (vp_updL (zJ (jn [o] S S') o) 0 x.toInt64)))) : CMH l D tc yL_decide [(0, 10, 13, 13), (0, 10, 17, 44)] cL_decide 5 (some .int) (d + 1) mc ms [.ref q, .int x1, .int x2, .ref o] S post := by
  refine CMH.of hls (by decide +kernel) (by simp [Value.category]) (Nat.le_of_ble_eq_true rfl) (fun A0 p e9 s m args below meth c sz h htab hr hA => ?_)
  refine V.eqL (ls' := [some (.ref q), some (.int x1), some (.int x2), some (.ref o), none]) rfl ?_
  refine V.blk h [(.aload_n 3, 1), (.iconst 0, 1), (.aload_n 0, 1), (.iload_n 1, 1), (.iload_n 2, 1)] (by decide +kernel) (pc' := 5) (ls' := [some (.ref q), some (.int x1), some (.int x2), some (.ref o), none]) (st' := [.int x2, .int x1, .ref q, .int (nI 0), .ref o]) rfl rfl (Nat.le_of_ble_eq_true rfl) ?_
  refine V.dist (fun hn => ?_)
  refine V.callVF (st := [.int (nI 0), .ref o]) (ci := 10) (np := 2) (As := [.int x1, .int x2]) h (PT_o hn hO.1) hM wc_X10_decide wn_RX10 (Or.inl wm_RL_40) wi_X10_decide we_X10_decide (by decide +kernel) rfl cls_10 (wo_mem.mpr ⟨hq, fun z => by rw [z, hO.2.1] at hqk; exact absurd hqk (by decide)⟩) hqk (Nat.le_refl _) (by show 8 + (8 + 11) + 36 * d ≤ 36 * (d + 1); omega) (by show 0 + mc ≤ mc; omega) (by show 0 + ms ≤ ms; omega) (by simp [Value.category]) (by decide +kernel) rfl (fun v S' hv1 => ?_)
  obtain ⟨x, rfl, hp⟩ := hv v S' hv1
  refine V.dist (fun hn2 => ?_)
  have hno : o ∉ zL S' := nd_out (L := zL S') hn2
  refine V.i2l (pc := 8) h (by decide +kernel) ?_
  refine V.last (pc := 9) (a := o) (M := 1) (i := 0) h (jn_o (S' := S') hO).1 (jn_o hO).2.1 (jn_o hO).2.2 (by decide) (by decide) (by decide +kernel) ?_
  refine V.goto (pc := 10) h (off := 11) (by decide +kernel) (tgt := 21) (by decide) ?_
  refine V.blk h [(.iconst 0, 1)] (by decide +kernel) (pc' := 22) (ls' := [some (.ref q), some (.int x1), some (.int x2), some (.ref o), none]) (st' := [.int (nI 0)]) rfl rfl (Nat.le_of_ble_eq_true rfl) ?_
  exact V.iret h hA hr rfl (hp hno) (by decide +kernel) (by omega) (by omega)
theorem w_decide_t1 {l : Launch} {D : va_G} {tc : Nat → ClassId} (hls : l.stackTraces = false) {S : HS} {q o : Nat} {x1 x2 : Int32} {d mc ms : Nat} {post : Option Value → HS → Prop} (hO : OU0 o S) (hq : q ∈ zL S) (hqk : zK S q = 10) (hT : CT l D tc yX10_decide cX10_decide 8 (some .int) d mc ms [.ref q, .int x1, .int x2] S "java/lang/IndexOutOfBoundsException") (hp : post (some (.int (nI 1))) S) : CMH l D tc yL_decide [(0, 10, 13, 13), (0, 10, 17, 44)] cL_decide 5 (some .int) (d + 1) mc ms [.ref q, .int x1, .int x2, .ref o] S post := by
  refine CMH.of hls (by decide +kernel) (by simp [Value.category]) (Nat.le_of_ble_eq_true rfl) (fun A0 p e9 s m args below meth c sz h htab hr hA => ?_)
  refine V.eqL (ls' := [some (.ref q), some (.int x1), some (.int x2), some (.ref o), none]) rfl ?_
  refine V.blk h [(.aload_n 3, 1), (.iconst 0, 1), (.aload_n 0, 1), (.iload_n 1, 1), (.iload_n 2, 1)] (by decide +kernel) (pc' := 5) (ls' := [some (.ref q), some (.int x1), some (.int x2), some (.ref o), none]) (st' := [.int x2, .int x1, .ref q, .int (nI 0), .ref o]) rfl rfl (Nat.le_of_ble_eq_true rfl) ?_
  refine V.callVX (st := [.int (nI 0), .ref o]) (ci := 10) (np := 2) (As := [.int x1, .int x2]) h hT wc_X10_decide wn_RX10 wm_RL_40 wi_X10_decide we_X10_decide (by decide +kernel) rfl cls_10 hq hqk (Nat.le_refl _) (by show 8 + (8 + 11) + 36 * d ≤ 36 * (d + 1); omega) (by show 0 + mc ≤ mc; omega) (by show 0 + ms ≤ ms; omega) (by simp [Value.category]) (by decide +kernel) rfl ?_
  refine VX.catch (name := "java/lang/IndexOutOfBoundsException") h [] ⟨0, 10, 13, 13⟩ [⟨0, 10, 17, 44⟩] htab (fun z hz => by cases hz) (by decide) (by decide) wl_RL_13 (by simp [WK]) (fun q9 => ?_)
  refine V.blk h [(.astore 4, 2), (.iconst 1, 1)] (by decide +kernel) (pc' := 16) (ls' := [some (.ref q), some (.int x1), some (.int x2), some (.ref o), some (.ref q9)]) (st' := [.int (nI 1)]) rfl rfl (Nat.le_of_ble_eq_true rfl) ?_
  exact V.iret h hA hr rfl hp (by decide +kernel) (by omega) (by omega)
theorem w_decide_t2 {l : Launch} {D : va_G} {tc : Nat → ClassId} (hls : l.stackTraces = false) {S : HS} {q o : Nat} {x1 x2 : Int32} {d mc ms : Nat} {post : Option Value → HS → Prop} (hO : OU0 o S) (hq : q ∈ zL S) (hqk : zK S q = 10) (hT : CT l D tc yX10_decide cX10_decide 8 (some .int) d mc ms [.ref q, .int x1, .int x2] S "java/lang/UnsupportedOperationException") (hp : post (some (.int (nI 2))) S) : CMH l D tc yL_decide [(0, 10, 13, 13), (0, 10, 17, 44)] cL_decide 5 (some .int) (d + 1) mc ms [.ref q, .int x1, .int x2, .ref o] S post := by
  refine CMH.of hls (by decide +kernel) (by simp [Value.category]) (Nat.le_of_ble_eq_true rfl) (fun A0 p e9 s m args below meth c sz h htab hr hA => ?_)
  refine V.eqL (ls' := [some (.ref q), some (.int x1), some (.int x2), some (.ref o), none]) rfl ?_
  refine V.blk h [(.aload_n 3, 1), (.iconst 0, 1), (.aload_n 0, 1), (.iload_n 1, 1), (.iload_n 2, 1)] (by decide +kernel) (pc' := 5) (ls' := [some (.ref q), some (.int x1), some (.int x2), some (.ref o), none]) (st' := [.int x2, .int x1, .ref q, .int (nI 0), .ref o]) rfl rfl (Nat.le_of_ble_eq_true rfl) ?_
  refine V.callVX (st := [.int (nI 0), .ref o]) (ci := 10) (np := 2) (As := [.int x1, .int x2]) h hT wc_X10_decide wn_RX10 wm_RL_40 wi_X10_decide we_X10_decide (by decide +kernel) rfl cls_10 hq hqk (Nat.le_refl _) (by show 8 + (8 + 11) + 36 * d ≤ 36 * (d + 1); omega) (by show 0 + mc ≤ mc; omega) (by show 0 + ms ≤ ms; omega) (by simp [Value.category]) (by decide +kernel) rfl ?_
  refine VX.catch (name := "java/lang/UnsupportedOperationException") h [⟨0, 10, 13, 13⟩] ⟨0, 10, 17, 44⟩ [] htab (fun z hz => by
    rw [List.mem_singleton.mp hz]
    exact Or.inr ⟨by decide, "java/lang/IndexOutOfBoundsException", h.wg wl_RL_13, h.2.2.2.2.2.1.2.2.2.2.2.2.2⟩) (by decide) (by decide) wl_RL_44 (by simp [WK]) (fun q9 => ?_)
  refine V.blk h [(.astore 4, 2), (.iconst 2, 1)] (by decide +kernel) (pc' := 20) (ls' := [some (.ref q), some (.int x1), some (.int x2), some (.ref o), some (.ref q9)]) (st' := [.int (nI 2)]) rfl rfl (Nat.le_of_ble_eq_true rfl) ?_
  exact V.iret h hA hr rfl hp (by decide +kernel) (by omega) (by omega)
theorem w_letter {l : Launch} {D : va_G} {tc : Nat → ClassId} (hls : l.stackTraces = false) {S : HS} {q o : Nat} {x1 x2 : Int32} {d mc ms : Nat} {post : Option Value → HS → Prop} {post1 : Option Value → HS → Prop} (hO : OU0 o S) (hq : q ∈ zL S) (hqk : zK S q = 10) (hM : CM l D tc yX10_letter cX10_letter 4 (some .int) d mc ms [.ref q, .int x1, .int x2] (zSub S (wo S o)) post1) (hv : ∀ v S', post1 v S' → ∃ x : Int32, v = some (.int x) ∧ (o ∉ zL S' → post (some (.int (nI 0))) (setJ (jn [o] S S') o (vp_updL (zJ (jn [o] S S') o) 0 x.toInt64)))) : CMH l D tc yL_letter [(0, 10, 13, 13), (0, 10, 17, 15)] cL_letter 5 (some .int) (d + 1) mc ms [.ref q, .int x1, .int x2, .ref o] S post := by
  refine CMH.of hls (by decide +kernel) (by simp [Value.category]) (Nat.le_of_ble_eq_true rfl) (fun A0 p e9 s m args below meth c sz h htab hr hA => ?_)
  refine V.eqL (ls' := [some (.ref q), some (.int x1), some (.int x2), some (.ref o), none]) rfl ?_
  refine V.blk h [(.aload_n 3, 1), (.iconst 0, 1), (.aload_n 0, 1), (.iload_n 1, 1), (.iload_n 2, 1)] (by decide +kernel) (pc' := 5) (ls' := [some (.ref q), some (.int x1), some (.int x2), some (.ref o), none]) (st' := [.int x2, .int x1, .ref q, .int (nI 0), .ref o]) rfl rfl (Nat.le_of_ble_eq_true rfl) ?_
  refine V.dist (fun hn => ?_)
  refine V.callVF (st := [.int (nI 0), .ref o]) (ci := 10) (np := 2) (As := [.int x1, .int x2]) h (PT_o hn hO.1) hM wc_X10_letter wn_RX10 (Or.inl wm_RL_46) wi_X10_letter we_X10_letter (by decide +kernel) rfl cls_10 (wo_mem.mpr ⟨hq, fun z => by rw [z, hO.2.1] at hqk; exact absurd hqk (by decide)⟩) hqk (Nat.le_refl _) (by show 8 + (4 + 11) + 36 * d ≤ 36 * (d + 1); omega) (by show 0 + mc ≤ mc; omega) (by show 0 + ms ≤ ms; omega) (by simp [Value.category]) (by decide +kernel) rfl (fun v S' hv1 => ?_)
  obtain ⟨x, rfl, hp⟩ := hv v S' hv1
  refine V.dist (fun hn2 => ?_)
  have hno : o ∉ zL S' := nd_out (L := zL S') hn2
  refine V.i2l (pc := 8) h (by decide +kernel) ?_
  refine V.last (pc := 9) (a := o) (M := 1) (i := 0) h (jn_o (S' := S') hO).1 (jn_o hO).2.1 (jn_o hO).2.2 (by decide) (by decide) (by decide +kernel) ?_
  refine V.goto (pc := 10) h (off := 11) (by decide +kernel) (tgt := 21) (by decide) ?_
  refine V.blk h [(.iconst 0, 1)] (by decide +kernel) (pc' := 22) (ls' := [some (.ref q), some (.int x1), some (.int x2), some (.ref o), none]) (st' := [.int (nI 0)]) rfl rfl (Nat.le_of_ble_eq_true rfl) ?_
  exact V.iret h hA hr rfl (hp hno) (by decide +kernel) (by omega) (by omega)
theorem w_letter_t1 {l : Launch} {D : va_G} {tc : Nat → ClassId} (hls : l.stackTraces = false) {S : HS} {q o : Nat} {x1 x2 : Int32} {d mc ms : Nat} {post : Option Value → HS → Prop} (hO : OU0 o S) (hq : q ∈ zL S) (hqk : zK S q = 10) (hT : CT l D tc yX10_letter cX10_letter 4 (some .int) d mc ms [.ref q, .int x1, .int x2] S "java/lang/IndexOutOfBoundsException") (hp : post (some (.int (nI 1))) S) : CMH l D tc yL_letter [(0, 10, 13, 13), (0, 10, 17, 15)] cL_letter 5 (some .int) (d + 1) mc ms [.ref q, .int x1, .int x2, .ref o] S post := by
  refine CMH.of hls (by decide +kernel) (by simp [Value.category]) (Nat.le_of_ble_eq_true rfl) (fun A0 p e9 s m args below meth c sz h htab hr hA => ?_)
  refine V.eqL (ls' := [some (.ref q), some (.int x1), some (.int x2), some (.ref o), none]) rfl ?_
  refine V.blk h [(.aload_n 3, 1), (.iconst 0, 1), (.aload_n 0, 1), (.iload_n 1, 1), (.iload_n 2, 1)] (by decide +kernel) (pc' := 5) (ls' := [some (.ref q), some (.int x1), some (.int x2), some (.ref o), none]) (st' := [.int x2, .int x1, .ref q, .int (nI 0), .ref o]) rfl rfl (Nat.le_of_ble_eq_true rfl) ?_
  refine V.callVX (st := [.int (nI 0), .ref o]) (ci := 10) (np := 2) (As := [.int x1, .int x2]) h hT wc_X10_letter wn_RX10 wm_RL_46 wi_X10_letter we_X10_letter (by decide +kernel) rfl cls_10 hq hqk (Nat.le_refl _) (by show 8 + (4 + 11) + 36 * d ≤ 36 * (d + 1); omega) (by show 0 + mc ≤ mc; omega) (by show 0 + ms ≤ ms; omega) (by simp [Value.category]) (by decide +kernel) rfl ?_
  refine VX.catch (name := "java/lang/IndexOutOfBoundsException") h [] ⟨0, 10, 13, 13⟩ [⟨0, 10, 17, 15⟩] htab (fun z hz => by cases hz) (by decide) (by decide) wl_RL_13 (by simp [WK]) (fun q9 => ?_)
  refine V.blk h [(.astore 4, 2), (.iconst 1, 1)] (by decide +kernel) (pc' := 16) (ls' := [some (.ref q), some (.int x1), some (.int x2), some (.ref o), some (.ref q9)]) (st' := [.int (nI 1)]) rfl rfl (Nat.le_of_ble_eq_true rfl) ?_
  exact V.iret h hA hr rfl hp (by decide +kernel) (by omega) (by omega)
theorem w_letter_t2 {l : Launch} {D : va_G} {tc : Nat → ClassId} (hls : l.stackTraces = false) {S : HS} {q o : Nat} {x1 x2 : Int32} {d mc ms : Nat} {post : Option Value → HS → Prop} (hO : OU0 o S) (hq : q ∈ zL S) (hqk : zK S q = 10) (hT : CT l D tc yX10_letter cX10_letter 4 (some .int) d mc ms [.ref q, .int x1, .int x2] S "java/lang/IllegalArgumentException") (hp : post (some (.int (nI 2))) S) : CMH l D tc yL_letter [(0, 10, 13, 13), (0, 10, 17, 15)] cL_letter 5 (some .int) (d + 1) mc ms [.ref q, .int x1, .int x2, .ref o] S post := by
  refine CMH.of hls (by decide +kernel) (by simp [Value.category]) (Nat.le_of_ble_eq_true rfl) (fun A0 p e9 s m args below meth c sz h htab hr hA => ?_)
  refine V.eqL (ls' := [some (.ref q), some (.int x1), some (.int x2), some (.ref o), none]) rfl ?_
  refine V.blk h [(.aload_n 3, 1), (.iconst 0, 1), (.aload_n 0, 1), (.iload_n 1, 1), (.iload_n 2, 1)] (by decide +kernel) (pc' := 5) (ls' := [some (.ref q), some (.int x1), some (.int x2), some (.ref o), none]) (st' := [.int x2, .int x1, .ref q, .int (nI 0), .ref o]) rfl rfl (Nat.le_of_ble_eq_true rfl) ?_
  refine V.callVX (st := [.int (nI 0), .ref o]) (ci := 10) (np := 2) (As := [.int x1, .int x2]) h hT wc_X10_letter wn_RX10 wm_RL_46 wi_X10_letter we_X10_letter (by decide +kernel) rfl cls_10 hq hqk (Nat.le_refl _) (by show 8 + (4 + 11) + 36 * d ≤ 36 * (d + 1); omega) (by show 0 + mc ≤ mc; omega) (by show 0 + ms ≤ ms; omega) (by simp [Value.category]) (by decide +kernel) rfl ?_
  refine VX.catch (name := "java/lang/IllegalArgumentException") h [⟨0, 10, 13, 13⟩] ⟨0, 10, 17, 15⟩ [] htab (fun z hz => by
    rw [List.mem_singleton.mp hz]
    exact Or.inr ⟨by decide, "java/lang/IndexOutOfBoundsException", h.wg wl_RL_13, h.2.2.2.2.2.1.2.2.2.2.2.2.1⟩) (by decide) (by decide) wl_RL_15 (by simp [WK]) (fun q9 => ?_)
  refine V.blk h [(.astore 4, 2), (.iconst 2, 1)] (by decide +kernel) (pc' := 20) (ls' := [some (.ref q), some (.int x1), some (.int x2), some (.ref o), some (.ref q9)]) (st' := [.int (nI 2)]) rfl rfl (Nat.le_of_ble_eq_true rfl) ?_
  exact V.iret h hA hr rfl hp (by decide +kernel) (by omega) (by omega)
theorem w_client {l : Launch} {D : va_G} {tc : Nat → ClassId} (hls : l.stackTraces = false) {S : HS} {q o : Nat} {x1 x2 : Int32} {d mc ms : Nat} {post : Option Value → HS → Prop} {post1 : Option Value → HS → Prop} (hO : OU0 o S) (hq : q ∈ zL S) (hqk : zK S q = 10) (hM : CM l D tc yX10_client cX10_client 4 (some .int) d mc ms [.ref q, .int x1, .int x2] (zSub S (wo S o)) post1) (hv : ∀ v S', post1 v S' → ∃ x : Int32, v = some (.int x) ∧ (o ∉ zL S' → post (some (.int (nI 0))) (setJ (jn [o] S S') o (vp_updL (zJ (jn [o] S S') o) 0 x.toInt64)))) : CMH l D tc yL_client [(0, 10, 13, 13), (0, 10, 17, 15)] cL_client 5 (some .int) (d + 1) mc ms [.ref q, .int x1, .int x2, .ref o] S post := by
  refine CMH.of hls (by decide +kernel) (by simp [Value.category]) (Nat.le_of_ble_eq_true rfl) (fun A0 p e9 s m args below meth c sz h htab hr hA => ?_)
  refine V.eqL (ls' := [some (.ref q), some (.int x1), some (.int x2), some (.ref o), none]) rfl ?_
  refine V.blk h [(.aload_n 3, 1), (.iconst 0, 1), (.aload_n 0, 1), (.iload_n 1, 1), (.iload_n 2, 1)] (by decide +kernel) (pc' := 5) (ls' := [some (.ref q), some (.int x1), some (.int x2), some (.ref o), none]) (st' := [.int x2, .int x1, .ref q, .int (nI 0), .ref o]) rfl rfl (Nat.le_of_ble_eq_true rfl) ?_
  refine V.dist (fun hn => ?_)
  refine V.callVF (st := [.int (nI 0), .ref o]) (ci := 10) (np := 2) (As := [.int x1, .int x2]) h (PT_o hn hO.1) hM wc_X10_client wn_RX10 (Or.inl wm_RL_49) wi_X10_client we_X10_client (by decide +kernel) rfl cls_10 (wo_mem.mpr ⟨hq, fun z => by rw [z, hO.2.1] at hqk; exact absurd hqk (by decide)⟩) hqk (Nat.le_refl _) (by show 8 + (4 + 11) + 36 * d ≤ 36 * (d + 1); omega) (by show 0 + mc ≤ mc; omega) (by show 0 + ms ≤ ms; omega) (by simp [Value.category]) (by decide +kernel) rfl (fun v S' hv1 => ?_)
  obtain ⟨x, rfl, hp⟩ := hv v S' hv1
  refine V.dist (fun hn2 => ?_)
  have hno : o ∉ zL S' := nd_out (L := zL S') hn2
  refine V.i2l (pc := 8) h (by decide +kernel) ?_
  refine V.last (pc := 9) (a := o) (M := 1) (i := 0) h (jn_o (S' := S') hO).1 (jn_o hO).2.1 (jn_o hO).2.2 (by decide) (by decide) (by decide +kernel) ?_
  refine V.goto (pc := 10) h (off := 11) (by decide +kernel) (tgt := 21) (by decide) ?_
  refine V.blk h [(.iconst 0, 1)] (by decide +kernel) (pc' := 22) (ls' := [some (.ref q), some (.int x1), some (.int x2), some (.ref o), none]) (st' := [.int (nI 0)]) rfl rfl (Nat.le_of_ble_eq_true rfl) ?_
  exact V.iret h hA hr rfl (hp hno) (by decide +kernel) (by omega) (by omega)
theorem w_client_t1 {l : Launch} {D : va_G} {tc : Nat → ClassId} (hls : l.stackTraces = false) {S : HS} {q o : Nat} {x1 x2 : Int32} {d mc ms : Nat} {post : Option Value → HS → Prop} (hO : OU0 o S) (hq : q ∈ zL S) (hqk : zK S q = 10) (hT : CT l D tc yX10_client cX10_client 4 (some .int) d mc ms [.ref q, .int x1, .int x2] S "java/lang/IndexOutOfBoundsException") (hp : post (some (.int (nI 1))) S) : CMH l D tc yL_client [(0, 10, 13, 13), (0, 10, 17, 15)] cL_client 5 (some .int) (d + 1) mc ms [.ref q, .int x1, .int x2, .ref o] S post := by
  refine CMH.of hls (by decide +kernel) (by simp [Value.category]) (Nat.le_of_ble_eq_true rfl) (fun A0 p e9 s m args below meth c sz h htab hr hA => ?_)
  refine V.eqL (ls' := [some (.ref q), some (.int x1), some (.int x2), some (.ref o), none]) rfl ?_
  refine V.blk h [(.aload_n 3, 1), (.iconst 0, 1), (.aload_n 0, 1), (.iload_n 1, 1), (.iload_n 2, 1)] (by decide +kernel) (pc' := 5) (ls' := [some (.ref q), some (.int x1), some (.int x2), some (.ref o), none]) (st' := [.int x2, .int x1, .ref q, .int (nI 0), .ref o]) rfl rfl (Nat.le_of_ble_eq_true rfl) ?_
  refine V.callVX (st := [.int (nI 0), .ref o]) (ci := 10) (np := 2) (As := [.int x1, .int x2]) h hT wc_X10_client wn_RX10 wm_RL_49 wi_X10_client we_X10_client (by decide +kernel) rfl cls_10 hq hqk (Nat.le_refl _) (by show 8 + (4 + 11) + 36 * d ≤ 36 * (d + 1); omega) (by show 0 + mc ≤ mc; omega) (by show 0 + ms ≤ ms; omega) (by simp [Value.category]) (by decide +kernel) rfl ?_
  refine VX.catch (name := "java/lang/IndexOutOfBoundsException") h [] ⟨0, 10, 13, 13⟩ [⟨0, 10, 17, 15⟩] htab (fun z hz => by cases hz) (by decide) (by decide) wl_RL_13 (by simp [WK]) (fun q9 => ?_)
  refine V.blk h [(.astore 4, 2), (.iconst 1, 1)] (by decide +kernel) (pc' := 16) (ls' := [some (.ref q), some (.int x1), some (.int x2), some (.ref o), some (.ref q9)]) (st' := [.int (nI 1)]) rfl rfl (Nat.le_of_ble_eq_true rfl) ?_
  exact V.iret h hA hr rfl hp (by decide +kernel) (by omega) (by omega)
theorem w_client_t2 {l : Launch} {D : va_G} {tc : Nat → ClassId} (hls : l.stackTraces = false) {S : HS} {q o : Nat} {x1 x2 : Int32} {d mc ms : Nat} {post : Option Value → HS → Prop} (hO : OU0 o S) (hq : q ∈ zL S) (hqk : zK S q = 10) (hT : CT l D tc yX10_client cX10_client 4 (some .int) d mc ms [.ref q, .int x1, .int x2] S "java/lang/IllegalArgumentException") (hp : post (some (.int (nI 2))) S) : CMH l D tc yL_client [(0, 10, 13, 13), (0, 10, 17, 15)] cL_client 5 (some .int) (d + 1) mc ms [.ref q, .int x1, .int x2, .ref o] S post := by
  refine CMH.of hls (by decide +kernel) (by simp [Value.category]) (Nat.le_of_ble_eq_true rfl) (fun A0 p e9 s m args below meth c sz h htab hr hA => ?_)
  refine V.eqL (ls' := [some (.ref q), some (.int x1), some (.int x2), some (.ref o), none]) rfl ?_
  refine V.blk h [(.aload_n 3, 1), (.iconst 0, 1), (.aload_n 0, 1), (.iload_n 1, 1), (.iload_n 2, 1)] (by decide +kernel) (pc' := 5) (ls' := [some (.ref q), some (.int x1), some (.int x2), some (.ref o), none]) (st' := [.int x2, .int x1, .ref q, .int (nI 0), .ref o]) rfl rfl (Nat.le_of_ble_eq_true rfl) ?_
  refine V.callVX (st := [.int (nI 0), .ref o]) (ci := 10) (np := 2) (As := [.int x1, .int x2]) h hT wc_X10_client wn_RX10 wm_RL_49 wi_X10_client we_X10_client (by decide +kernel) rfl cls_10 hq hqk (Nat.le_refl _) (by show 8 + (4 + 11) + 36 * d ≤ 36 * (d + 1); omega) (by show 0 + mc ≤ mc; omega) (by show 0 + ms ≤ ms; omega) (by simp [Value.category]) (by decide +kernel) rfl ?_
  refine VX.catch (name := "java/lang/IllegalArgumentException") h [⟨0, 10, 13, 13⟩] ⟨0, 10, 17, 15⟩ [] htab (fun z hz => by
    rw [List.mem_singleton.mp hz]
    exact Or.inr ⟨by decide, "java/lang/IndexOutOfBoundsException", h.wg wl_RL_13, h.2.2.2.2.2.1.2.2.2.2.2.2.1⟩) (by decide) (by decide) wl_RL_15 (by simp [WK]) (fun q9 => ?_)
  refine V.blk h [(.astore 4, 2), (.iconst 2, 1)] (by decide +kernel) (pc' := 20) (ls' := [some (.ref q), some (.int x1), some (.int x2), some (.ref o), some (.ref q9)]) (st' := [.int (nI 2)]) rfl rfl (Nat.le_of_ble_eq_true rfl) ?_
  exact V.iret h hA hr rfl hp (by decide +kernel) (by omega) (by omega)
theorem w_master {l : Launch} {D : va_G} {tc : Nat → ClassId} (hls : l.stackTraces = false) {S : HS} {q o : Nat} {x1 x2 : Int32} {d mc ms : Nat} {post : Option Value → HS → Prop} {post1 : Option Value → HS → Prop} (hO : OU0 o S) (hq : q ∈ zL S) (hqk : zK S q = 10) (hM : CM l D tc yX10_master cX10_master 4 (some .int) d mc ms [.ref q, .int x1, .int x2] (zSub S (wo S o)) post1) (hv : ∀ v S', post1 v S' → ∃ x : Int32, v = some (.int x) ∧ (o ∉ zL S' → post (some (.int (nI 0))) (setJ (jn [o] S S') o (vp_updL (zJ (jn [o] S S') o) 0 x.toInt64)))) : CMH l D tc yL_master [(0, 10, 13, 13), (0, 10, 17, 15)] cL_master 5 (some .int) (d + 1) mc ms [.ref q, .int x1, .int x2, .ref o] S post := by
  refine CMH.of hls (by decide +kernel) (by simp [Value.category]) (Nat.le_of_ble_eq_true rfl) (fun A0 p e9 s m args below meth c sz h htab hr hA => ?_)
  refine V.eqL (ls' := [some (.ref q), some (.int x1), some (.int x2), some (.ref o), none]) rfl ?_
  refine V.blk h [(.aload_n 3, 1), (.iconst 0, 1), (.aload_n 0, 1), (.iload_n 1, 1), (.iload_n 2, 1)] (by decide +kernel) (pc' := 5) (ls' := [some (.ref q), some (.int x1), some (.int x2), some (.ref o), none]) (st' := [.int x2, .int x1, .ref q, .int (nI 0), .ref o]) rfl rfl (Nat.le_of_ble_eq_true rfl) ?_
  refine V.dist (fun hn => ?_)
  refine V.callVF (st := [.int (nI 0), .ref o]) (ci := 10) (np := 2) (As := [.int x1, .int x2]) h (PT_o hn hO.1) hM wc_X10_master wn_RX10 (Or.inl wm_RL_52) wi_X10_master we_X10_master (by decide +kernel) rfl cls_10 (wo_mem.mpr ⟨hq, fun z => by rw [z, hO.2.1] at hqk; exact absurd hqk (by decide)⟩) hqk (Nat.le_refl _) (by show 8 + (4 + 11) + 36 * d ≤ 36 * (d + 1); omega) (by show 0 + mc ≤ mc; omega) (by show 0 + ms ≤ ms; omega) (by simp [Value.category]) (by decide +kernel) rfl (fun v S' hv1 => ?_)
  obtain ⟨x, rfl, hp⟩ := hv v S' hv1
  refine V.dist (fun hn2 => ?_)
  have hno : o ∉ zL S' := nd_out (L := zL S') hn2
  refine V.i2l (pc := 8) h (by decide +kernel) ?_
  refine V.last (pc := 9) (a := o) (M := 1) (i := 0) h (jn_o (S' := S') hO).1 (jn_o hO).2.1 (jn_o hO).2.2 (by decide) (by decide) (by decide +kernel) ?_
  refine V.goto (pc := 10) h (off := 11) (by decide +kernel) (tgt := 21) (by decide) ?_
  refine V.blk h [(.iconst 0, 1)] (by decide +kernel) (pc' := 22) (ls' := [some (.ref q), some (.int x1), some (.int x2), some (.ref o), none]) (st' := [.int (nI 0)]) rfl rfl (Nat.le_of_ble_eq_true rfl) ?_
  exact V.iret h hA hr rfl (hp hno) (by decide +kernel) (by omega) (by omega)
theorem w_master_t1 {l : Launch} {D : va_G} {tc : Nat → ClassId} (hls : l.stackTraces = false) {S : HS} {q o : Nat} {x1 x2 : Int32} {d mc ms : Nat} {post : Option Value → HS → Prop} (hO : OU0 o S) (hq : q ∈ zL S) (hqk : zK S q = 10) (hT : CT l D tc yX10_master cX10_master 4 (some .int) d mc ms [.ref q, .int x1, .int x2] S "java/lang/IndexOutOfBoundsException") (hp : post (some (.int (nI 1))) S) : CMH l D tc yL_master [(0, 10, 13, 13), (0, 10, 17, 15)] cL_master 5 (some .int) (d + 1) mc ms [.ref q, .int x1, .int x2, .ref o] S post := by
  refine CMH.of hls (by decide +kernel) (by simp [Value.category]) (Nat.le_of_ble_eq_true rfl) (fun A0 p e9 s m args below meth c sz h htab hr hA => ?_)
  refine V.eqL (ls' := [some (.ref q), some (.int x1), some (.int x2), some (.ref o), none]) rfl ?_
  refine V.blk h [(.aload_n 3, 1), (.iconst 0, 1), (.aload_n 0, 1), (.iload_n 1, 1), (.iload_n 2, 1)] (by decide +kernel) (pc' := 5) (ls' := [some (.ref q), some (.int x1), some (.int x2), some (.ref o), none]) (st' := [.int x2, .int x1, .ref q, .int (nI 0), .ref o]) rfl rfl (Nat.le_of_ble_eq_true rfl) ?_
  refine V.callVX (st := [.int (nI 0), .ref o]) (ci := 10) (np := 2) (As := [.int x1, .int x2]) h hT wc_X10_master wn_RX10 wm_RL_52 wi_X10_master we_X10_master (by decide +kernel) rfl cls_10 hq hqk (Nat.le_refl _) (by show 8 + (4 + 11) + 36 * d ≤ 36 * (d + 1); omega) (by show 0 + mc ≤ mc; omega) (by show 0 + ms ≤ ms; omega) (by simp [Value.category]) (by decide +kernel) rfl ?_
  refine VX.catch (name := "java/lang/IndexOutOfBoundsException") h [] ⟨0, 10, 13, 13⟩ [⟨0, 10, 17, 15⟩] htab (fun z hz => by cases hz) (by decide) (by decide) wl_RL_13 (by simp [WK]) (fun q9 => ?_)
  refine V.blk h [(.astore 4, 2), (.iconst 1, 1)] (by decide +kernel) (pc' := 16) (ls' := [some (.ref q), some (.int x1), some (.int x2), some (.ref o), some (.ref q9)]) (st' := [.int (nI 1)]) rfl rfl (Nat.le_of_ble_eq_true rfl) ?_
  exact V.iret h hA hr rfl hp (by decide +kernel) (by omega) (by omega)
theorem w_master_t2 {l : Launch} {D : va_G} {tc : Nat → ClassId} (hls : l.stackTraces = false) {S : HS} {q o : Nat} {x1 x2 : Int32} {d mc ms : Nat} {post : Option Value → HS → Prop} (hO : OU0 o S) (hq : q ∈ zL S) (hqk : zK S q = 10) (hT : CT l D tc yX10_master cX10_master 4 (some .int) d mc ms [.ref q, .int x1, .int x2] S "java/lang/IllegalArgumentException") (hp : post (some (.int (nI 2))) S) : CMH l D tc yL_master [(0, 10, 13, 13), (0, 10, 17, 15)] cL_master 5 (some .int) (d + 1) mc ms [.ref q, .int x1, .int x2, .ref o] S post := by
  refine CMH.of hls (by decide +kernel) (by simp [Value.category]) (Nat.le_of_ble_eq_true rfl) (fun A0 p e9 s m args below meth c sz h htab hr hA => ?_)
  refine V.eqL (ls' := [some (.ref q), some (.int x1), some (.int x2), some (.ref o), none]) rfl ?_
  refine V.blk h [(.aload_n 3, 1), (.iconst 0, 1), (.aload_n 0, 1), (.iload_n 1, 1), (.iload_n 2, 1)] (by decide +kernel) (pc' := 5) (ls' := [some (.ref q), some (.int x1), some (.int x2), some (.ref o), none]) (st' := [.int x2, .int x1, .ref q, .int (nI 0), .ref o]) rfl rfl (Nat.le_of_ble_eq_true rfl) ?_
  refine V.callVX (st := [.int (nI 0), .ref o]) (ci := 10) (np := 2) (As := [.int x1, .int x2]) h hT wc_X10_master wn_RX10 wm_RL_52 wi_X10_master we_X10_master (by decide +kernel) rfl cls_10 hq hqk (Nat.le_refl _) (by show 8 + (4 + 11) + 36 * d ≤ 36 * (d + 1); omega) (by show 0 + mc ≤ mc; omega) (by show 0 + ms ≤ ms; omega) (by simp [Value.category]) (by decide +kernel) rfl ?_
  refine VX.catch (name := "java/lang/IllegalArgumentException") h [⟨0, 10, 13, 13⟩] ⟨0, 10, 17, 15⟩ [] htab (fun z hz => by
    rw [List.mem_singleton.mp hz]
    exact Or.inr ⟨by decide, "java/lang/IndexOutOfBoundsException", h.wg wl_RL_13, h.2.2.2.2.2.1.2.2.2.2.2.2.1⟩) (by decide) (by decide) wl_RL_15 (by simp [WK]) (fun q9 => ?_)
  refine V.blk h [(.astore 4, 2), (.iconst 2, 1)] (by decide +kernel) (pc' := 20) (ls' := [some (.ref q), some (.int x1), some (.int x2), some (.ref o), some (.ref q9)]) (st' := [.int (nI 2)]) rfl rfl (Nat.le_of_ble_eq_true rfl) ?_
  exact V.iret h hA hr rfl hp (by decide +kernel) (by omega) (by omega)
theorem w_value {l : Launch} {D : va_G} {tc : Nat → ClassId} (hls : l.stackTraces = false) {S : HS} {q o : Nat} {x1 x2 : Int32} {d mc ms : Nat} {post : Option Value → HS → Prop} {post1 : Option Value → HS → Prop} (hO : OU0 o S) (hq : q ∈ zL S) (hqk : zK S q = 10) (hM : CM l D tc yX10_value cX10_value 3 (some .int) d mc ms [.ref q, .int x1, .int x2] (zSub S (wo S o)) post1) (hv : ∀ v S', post1 v S' → ∃ x : Int32, v = some (.int x) ∧ (o ∉ zL S' → post (some (.int (nI 0))) (setJ (jn [o] S S') o (vp_updL (zJ (jn [o] S S') o) 0 x.toInt64)))) : CMH l D tc yL_value [(0, 10, 13, 13)] cL_value 5 (some .int) (d + 1) mc ms [.ref q, .int x1, .int x2, .ref o] S post := by
  refine CMH.of hls (by decide +kernel) (by simp [Value.category]) (Nat.le_of_ble_eq_true rfl) (fun A0 p e9 s m args below meth c sz h htab hr hA => ?_)
  refine V.eqL (ls' := [some (.ref q), some (.int x1), some (.int x2), some (.ref o), none]) rfl ?_
  refine V.blk h [(.aload_n 3, 1), (.iconst 0, 1), (.aload_n 0, 1), (.iload_n 1, 1), (.iload_n 2, 1)] (by decide +kernel) (pc' := 5) (ls' := [some (.ref q), some (.int x1), some (.int x2), some (.ref o), none]) (st' := [.int x2, .int x1, .ref q, .int (nI 0), .ref o]) rfl rfl (Nat.le_of_ble_eq_true rfl) ?_
  refine V.dist (fun hn => ?_)
  refine V.callVF (st := [.int (nI 0), .ref o]) (ci := 10) (np := 2) (As := [.int x1, .int x2]) h (PT_o hn hO.1) hM wc_X10_value wn_RX10 (Or.inl wm_RL_55) wi_X10_value we_X10_value (by decide +kernel) rfl cls_10 (wo_mem.mpr ⟨hq, fun z => by rw [z, hO.2.1] at hqk; exact absurd hqk (by decide)⟩) hqk (Nat.le_refl _) (by show 8 + (3 + 11) + 36 * d ≤ 36 * (d + 1); omega) (by show 0 + mc ≤ mc; omega) (by show 0 + ms ≤ ms; omega) (by simp [Value.category]) (by decide +kernel) rfl (fun v S' hv1 => ?_)
  obtain ⟨x, rfl, hp⟩ := hv v S' hv1
  refine V.dist (fun hn2 => ?_)
  have hno : o ∉ zL S' := nd_out (L := zL S') hn2
  refine V.i2l (pc := 8) h (by decide +kernel) ?_
  refine V.last (pc := 9) (a := o) (M := 1) (i := 0) h (jn_o (S' := S') hO).1 (jn_o hO).2.1 (jn_o hO).2.2 (by decide) (by decide) (by decide +kernel) ?_
  refine V.goto (pc := 10) h (off := 7) (by decide +kernel) (tgt := 17) (by decide) ?_
  refine V.blk h [(.iconst 0, 1)] (by decide +kernel) (pc' := 18) (ls' := [some (.ref q), some (.int x1), some (.int x2), some (.ref o), none]) (st' := [.int (nI 0)]) rfl rfl (Nat.le_of_ble_eq_true rfl) ?_
  exact V.iret h hA hr rfl (hp hno) (by decide +kernel) (by omega) (by omega)
theorem w_value_t1 {l : Launch} {D : va_G} {tc : Nat → ClassId} (hls : l.stackTraces = false) {S : HS} {q o : Nat} {x1 x2 : Int32} {d mc ms : Nat} {post : Option Value → HS → Prop} (hO : OU0 o S) (hq : q ∈ zL S) (hqk : zK S q = 10) (hT : CT l D tc yX10_value cX10_value 3 (some .int) d mc ms [.ref q, .int x1, .int x2] S "java/lang/IndexOutOfBoundsException") (hp : post (some (.int (nI 1))) S) : CMH l D tc yL_value [(0, 10, 13, 13)] cL_value 5 (some .int) (d + 1) mc ms [.ref q, .int x1, .int x2, .ref o] S post := by
  refine CMH.of hls (by decide +kernel) (by simp [Value.category]) (Nat.le_of_ble_eq_true rfl) (fun A0 p e9 s m args below meth c sz h htab hr hA => ?_)
  refine V.eqL (ls' := [some (.ref q), some (.int x1), some (.int x2), some (.ref o), none]) rfl ?_
  refine V.blk h [(.aload_n 3, 1), (.iconst 0, 1), (.aload_n 0, 1), (.iload_n 1, 1), (.iload_n 2, 1)] (by decide +kernel) (pc' := 5) (ls' := [some (.ref q), some (.int x1), some (.int x2), some (.ref o), none]) (st' := [.int x2, .int x1, .ref q, .int (nI 0), .ref o]) rfl rfl (Nat.le_of_ble_eq_true rfl) ?_
  refine V.callVX (st := [.int (nI 0), .ref o]) (ci := 10) (np := 2) (As := [.int x1, .int x2]) h hT wc_X10_value wn_RX10 wm_RL_55 wi_X10_value we_X10_value (by decide +kernel) rfl cls_10 hq hqk (Nat.le_refl _) (by show 8 + (3 + 11) + 36 * d ≤ 36 * (d + 1); omega) (by show 0 + mc ≤ mc; omega) (by show 0 + ms ≤ ms; omega) (by simp [Value.category]) (by decide +kernel) rfl ?_
  refine VX.catch (name := "java/lang/IndexOutOfBoundsException") h [] ⟨0, 10, 13, 13⟩ [] htab (fun z hz => by cases hz) (by decide) (by decide) wl_RL_13 (by simp [WK]) (fun q9 => ?_)
  refine V.blk h [(.astore 4, 2), (.iconst 1, 1)] (by decide +kernel) (pc' := 16) (ls' := [some (.ref q), some (.int x1), some (.int x2), some (.ref o), some (.ref q9)]) (st' := [.int (nI 1)]) rfl rfl (Nat.le_of_ble_eq_true rfl) ?_
  exact V.iret h hA hr rfl hp (by decide +kernel) (by omega) (by omega)
theorem w_backup {l : Launch} {D : va_G} {tc : Nat → ClassId} (hls : l.stackTraces = false) {S : HS} {q o : Nat} {x1 x2 : Int32} {d mc ms : Nat} {post : Option Value → HS → Prop} {post1 : Option Value → HS → Prop} (hO : OU0 o S) (hq : q ∈ zL S) (hqk : zK S q = 10) (hM : CM l D tc yX10_backup cX10_backup 4 (some .int) d mc ms [.ref q, .int x1, .int x2] (zSub S (wo S o)) post1) (hv : ∀ v S', post1 v S' → ∃ x : Int32, v = some (.int x) ∧ (o ∉ zL S' → post (some (.int (nI 0))) (setJ (jn [o] S S') o (vp_updL (zJ (jn [o] S S') o) 0 x.toInt64)))) : CMH l D tc yL_backup [(0, 10, 13, 13), (0, 10, 17, 15)] cL_backup 5 (some .int) (d + 1) mc ms [.ref q, .int x1, .int x2, .ref o] S post := by
  refine CMH.of hls (by decide +kernel) (by simp [Value.category]) (Nat.le_of_ble_eq_true rfl) (fun A0 p e9 s m args below meth c sz h htab hr hA => ?_)
  refine V.eqL (ls' := [some (.ref q), some (.int x1), some (.int x2), some (.ref o), none]) rfl ?_
  refine V.blk h [(.aload_n 3, 1), (.iconst 0, 1), (.aload_n 0, 1), (.iload_n 1, 1), (.iload_n 2, 1)] (by decide +kernel) (pc' := 5) (ls' := [some (.ref q), some (.int x1), some (.int x2), some (.ref o), none]) (st' := [.int x2, .int x1, .ref q, .int (nI 0), .ref o]) rfl rfl (Nat.le_of_ble_eq_true rfl) ?_
  refine V.dist (fun hn => ?_)
  refine V.callVF (st := [.int (nI 0), .ref o]) (ci := 10) (np := 2) (As := [.int x1, .int x2]) h (PT_o hn hO.1) hM wc_X10_backup wn_RX10 (Or.inl wm_RL_58) wi_X10_backup we_X10_backup (by decide +kernel) rfl cls_10 (wo_mem.mpr ⟨hq, fun z => by rw [z, hO.2.1] at hqk; exact absurd hqk (by decide)⟩) hqk (Nat.le_refl _) (by show 8 + (4 + 11) + 36 * d ≤ 36 * (d + 1); omega) (by show 0 + mc ≤ mc; omega) (by show 0 + ms ≤ ms; omega) (by simp [Value.category]) (by decide +kernel) rfl (fun v S' hv1 => ?_)
  obtain ⟨x, rfl, hp⟩ := hv v S' hv1
  refine V.dist (fun hn2 => ?_)
  have hno : o ∉ zL S' := nd_out (L := zL S') hn2
  refine V.i2l (pc := 8) h (by decide +kernel) ?_
  refine V.last (pc := 9) (a := o) (M := 1) (i := 0) h (jn_o (S' := S') hO).1 (jn_o hO).2.1 (jn_o hO).2.2 (by decide) (by decide) (by decide +kernel) ?_
  refine V.goto (pc := 10) h (off := 11) (by decide +kernel) (tgt := 21) (by decide) ?_
  refine V.blk h [(.iconst 0, 1)] (by decide +kernel) (pc' := 22) (ls' := [some (.ref q), some (.int x1), some (.int x2), some (.ref o), none]) (st' := [.int (nI 0)]) rfl rfl (Nat.le_of_ble_eq_true rfl) ?_
  exact V.iret h hA hr rfl (hp hno) (by decide +kernel) (by omega) (by omega)
theorem w_backup_t1 {l : Launch} {D : va_G} {tc : Nat → ClassId} (hls : l.stackTraces = false) {S : HS} {q o : Nat} {x1 x2 : Int32} {d mc ms : Nat} {post : Option Value → HS → Prop} (hO : OU0 o S) (hq : q ∈ zL S) (hqk : zK S q = 10) (hT : CT l D tc yX10_backup cX10_backup 4 (some .int) d mc ms [.ref q, .int x1, .int x2] S "java/lang/IndexOutOfBoundsException") (hp : post (some (.int (nI 1))) S) : CMH l D tc yL_backup [(0, 10, 13, 13), (0, 10, 17, 15)] cL_backup 5 (some .int) (d + 1) mc ms [.ref q, .int x1, .int x2, .ref o] S post := by
  refine CMH.of hls (by decide +kernel) (by simp [Value.category]) (Nat.le_of_ble_eq_true rfl) (fun A0 p e9 s m args below meth c sz h htab hr hA => ?_)
  refine V.eqL (ls' := [some (.ref q), some (.int x1), some (.int x2), some (.ref o), none]) rfl ?_
  refine V.blk h [(.aload_n 3, 1), (.iconst 0, 1), (.aload_n 0, 1), (.iload_n 1, 1), (.iload_n 2, 1)] (by decide +kernel) (pc' := 5) (ls' := [some (.ref q), some (.int x1), some (.int x2), some (.ref o), none]) (st' := [.int x2, .int x1, .ref q, .int (nI 0), .ref o]) rfl rfl (Nat.le_of_ble_eq_true rfl) ?_
  refine V.callVX (st := [.int (nI 0), .ref o]) (ci := 10) (np := 2) (As := [.int x1, .int x2]) h hT wc_X10_backup wn_RX10 wm_RL_58 wi_X10_backup we_X10_backup (by decide +kernel) rfl cls_10 hq hqk (Nat.le_refl _) (by show 8 + (4 + 11) + 36 * d ≤ 36 * (d + 1); omega) (by show 0 + mc ≤ mc; omega) (by show 0 + ms ≤ ms; omega) (by simp [Value.category]) (by decide +kernel) rfl ?_
  refine VX.catch (name := "java/lang/IndexOutOfBoundsException") h [] ⟨0, 10, 13, 13⟩ [⟨0, 10, 17, 15⟩] htab (fun z hz => by cases hz) (by decide) (by decide) wl_RL_13 (by simp [WK]) (fun q9 => ?_)
  refine V.blk h [(.astore 4, 2), (.iconst 1, 1)] (by decide +kernel) (pc' := 16) (ls' := [some (.ref q), some (.int x1), some (.int x2), some (.ref o), some (.ref q9)]) (st' := [.int (nI 1)]) rfl rfl (Nat.le_of_ble_eq_true rfl) ?_
  exact V.iret h hA hr rfl hp (by decide +kernel) (by omega) (by omega)
theorem w_backup_t2 {l : Launch} {D : va_G} {tc : Nat → ClassId} (hls : l.stackTraces = false) {S : HS} {q o : Nat} {x1 x2 : Int32} {d mc ms : Nat} {post : Option Value → HS → Prop} (hO : OU0 o S) (hq : q ∈ zL S) (hqk : zK S q = 10) (hT : CT l D tc yX10_backup cX10_backup 4 (some .int) d mc ms [.ref q, .int x1, .int x2] S "java/lang/IllegalArgumentException") (hp : post (some (.int (nI 2))) S) : CMH l D tc yL_backup [(0, 10, 13, 13), (0, 10, 17, 15)] cL_backup 5 (some .int) (d + 1) mc ms [.ref q, .int x1, .int x2, .ref o] S post := by
  refine CMH.of hls (by decide +kernel) (by simp [Value.category]) (Nat.le_of_ble_eq_true rfl) (fun A0 p e9 s m args below meth c sz h htab hr hA => ?_)
  refine V.eqL (ls' := [some (.ref q), some (.int x1), some (.int x2), some (.ref o), none]) rfl ?_
  refine V.blk h [(.aload_n 3, 1), (.iconst 0, 1), (.aload_n 0, 1), (.iload_n 1, 1), (.iload_n 2, 1)] (by decide +kernel) (pc' := 5) (ls' := [some (.ref q), some (.int x1), some (.int x2), some (.ref o), none]) (st' := [.int x2, .int x1, .ref q, .int (nI 0), .ref o]) rfl rfl (Nat.le_of_ble_eq_true rfl) ?_
  refine V.callVX (st := [.int (nI 0), .ref o]) (ci := 10) (np := 2) (As := [.int x1, .int x2]) h hT wc_X10_backup wn_RX10 wm_RL_58 wi_X10_backup we_X10_backup (by decide +kernel) rfl cls_10 hq hqk (Nat.le_refl _) (by show 8 + (4 + 11) + 36 * d ≤ 36 * (d + 1); omega) (by show 0 + mc ≤ mc; omega) (by show 0 + ms ≤ ms; omega) (by simp [Value.category]) (by decide +kernel) rfl ?_
  refine VX.catch (name := "java/lang/IllegalArgumentException") h [⟨0, 10, 13, 13⟩] ⟨0, 10, 17, 15⟩ [] htab (fun z hz => by
    rw [List.mem_singleton.mp hz]
    exact Or.inr ⟨by decide, "java/lang/IndexOutOfBoundsException", h.wg wl_RL_13, h.2.2.2.2.2.1.2.2.2.2.2.2.1⟩) (by decide) (by decide) wl_RL_15 (by simp [WK]) (fun q9 => ?_)
  refine V.blk h [(.astore 4, 2), (.iconst 2, 1)] (by decide +kernel) (pc' := 20) (ls' := [some (.ref q), some (.int x1), some (.int x2), some (.ref o), some (.ref q9)]) (st' := [.int (nI 2)]) rfl rfl (Nat.le_of_ble_eq_true rfl) ?_
  exact V.iret h hA hr rfl hp (by decide +kernel) (by omega) (by omega)
theorem w_witness {l : Launch} {D : va_G} {tc : Nat → ClassId} (hls : l.stackTraces = false) {S : HS} {q o : Nat} {x1 x2 : Int32} {d mc ms : Nat} {post : Option Value → HS → Prop} {post1 : Option Value → HS → Prop} (hO : OU0 o S) (hq : q ∈ zL S) (hqk : zK S q = 10) (hM : CM l D tc yX10_witness cX10_witness 4 (some .int) d mc ms [.ref q, .int x1, .int x2] (zSub S (wo S o)) post1) (hv : ∀ v S', post1 v S' → ∃ x : Int32, v = some (.int x) ∧ (o ∉ zL S' → post (some (.int (nI 0))) (setJ (jn [o] S S') o (vp_updL (zJ (jn [o] S S') o) 0 x.toInt64)))) : CMH l D tc yL_witness [(0, 10, 13, 13), (0, 10, 17, 15)] cL_witness 5 (some .int) (d + 1) mc ms [.ref q, .int x1, .int x2, .ref o] S post := by
  refine CMH.of hls (by decide +kernel) (by simp [Value.category]) (Nat.le_of_ble_eq_true rfl) (fun A0 p e9 s m args below meth c sz h htab hr hA => ?_)
  refine V.eqL (ls' := [some (.ref q), some (.int x1), some (.int x2), some (.ref o), none]) rfl ?_
  refine V.blk h [(.aload_n 3, 1), (.iconst 0, 1), (.aload_n 0, 1), (.iload_n 1, 1), (.iload_n 2, 1)] (by decide +kernel) (pc' := 5) (ls' := [some (.ref q), some (.int x1), some (.int x2), some (.ref o), none]) (st' := [.int x2, .int x1, .ref q, .int (nI 0), .ref o]) rfl rfl (Nat.le_of_ble_eq_true rfl) ?_
  refine V.dist (fun hn => ?_)
  refine V.callVF (st := [.int (nI 0), .ref o]) (ci := 10) (np := 2) (As := [.int x1, .int x2]) h (PT_o hn hO.1) hM wc_X10_witness wn_RX10 (Or.inl wm_RL_61) wi_X10_witness we_X10_witness (by decide +kernel) rfl cls_10 (wo_mem.mpr ⟨hq, fun z => by rw [z, hO.2.1] at hqk; exact absurd hqk (by decide)⟩) hqk (Nat.le_refl _) (by show 8 + (4 + 11) + 36 * d ≤ 36 * (d + 1); omega) (by show 0 + mc ≤ mc; omega) (by show 0 + ms ≤ ms; omega) (by simp [Value.category]) (by decide +kernel) rfl (fun v S' hv1 => ?_)
  obtain ⟨x, rfl, hp⟩ := hv v S' hv1
  refine V.dist (fun hn2 => ?_)
  have hno : o ∉ zL S' := nd_out (L := zL S') hn2
  refine V.i2l (pc := 8) h (by decide +kernel) ?_
  refine V.last (pc := 9) (a := o) (M := 1) (i := 0) h (jn_o (S' := S') hO).1 (jn_o hO).2.1 (jn_o hO).2.2 (by decide) (by decide) (by decide +kernel) ?_
  refine V.goto (pc := 10) h (off := 11) (by decide +kernel) (tgt := 21) (by decide) ?_
  refine V.blk h [(.iconst 0, 1)] (by decide +kernel) (pc' := 22) (ls' := [some (.ref q), some (.int x1), some (.int x2), some (.ref o), none]) (st' := [.int (nI 0)]) rfl rfl (Nat.le_of_ble_eq_true rfl) ?_
  exact V.iret h hA hr rfl (hp hno) (by decide +kernel) (by omega) (by omega)
theorem w_witness_t1 {l : Launch} {D : va_G} {tc : Nat → ClassId} (hls : l.stackTraces = false) {S : HS} {q o : Nat} {x1 x2 : Int32} {d mc ms : Nat} {post : Option Value → HS → Prop} (hO : OU0 o S) (hq : q ∈ zL S) (hqk : zK S q = 10) (hT : CT l D tc yX10_witness cX10_witness 4 (some .int) d mc ms [.ref q, .int x1, .int x2] S "java/lang/IndexOutOfBoundsException") (hp : post (some (.int (nI 1))) S) : CMH l D tc yL_witness [(0, 10, 13, 13), (0, 10, 17, 15)] cL_witness 5 (some .int) (d + 1) mc ms [.ref q, .int x1, .int x2, .ref o] S post := by
  refine CMH.of hls (by decide +kernel) (by simp [Value.category]) (Nat.le_of_ble_eq_true rfl) (fun A0 p e9 s m args below meth c sz h htab hr hA => ?_)
  refine V.eqL (ls' := [some (.ref q), some (.int x1), some (.int x2), some (.ref o), none]) rfl ?_
  refine V.blk h [(.aload_n 3, 1), (.iconst 0, 1), (.aload_n 0, 1), (.iload_n 1, 1), (.iload_n 2, 1)] (by decide +kernel) (pc' := 5) (ls' := [some (.ref q), some (.int x1), some (.int x2), some (.ref o), none]) (st' := [.int x2, .int x1, .ref q, .int (nI 0), .ref o]) rfl rfl (Nat.le_of_ble_eq_true rfl) ?_
  refine V.callVX (st := [.int (nI 0), .ref o]) (ci := 10) (np := 2) (As := [.int x1, .int x2]) h hT wc_X10_witness wn_RX10 wm_RL_61 wi_X10_witness we_X10_witness (by decide +kernel) rfl cls_10 hq hqk (Nat.le_refl _) (by show 8 + (4 + 11) + 36 * d ≤ 36 * (d + 1); omega) (by show 0 + mc ≤ mc; omega) (by show 0 + ms ≤ ms; omega) (by simp [Value.category]) (by decide +kernel) rfl ?_
  refine VX.catch (name := "java/lang/IndexOutOfBoundsException") h [] ⟨0, 10, 13, 13⟩ [⟨0, 10, 17, 15⟩] htab (fun z hz => by cases hz) (by decide) (by decide) wl_RL_13 (by simp [WK]) (fun q9 => ?_)
  refine V.blk h [(.astore 4, 2), (.iconst 1, 1)] (by decide +kernel) (pc' := 16) (ls' := [some (.ref q), some (.int x1), some (.int x2), some (.ref o), some (.ref q9)]) (st' := [.int (nI 1)]) rfl rfl (Nat.le_of_ble_eq_true rfl) ?_
  exact V.iret h hA hr rfl hp (by decide +kernel) (by omega) (by omega)
theorem w_witness_t2 {l : Launch} {D : va_G} {tc : Nat → ClassId} (hls : l.stackTraces = false) {S : HS} {q o : Nat} {x1 x2 : Int32} {d mc ms : Nat} {post : Option Value → HS → Prop} (hO : OU0 o S) (hq : q ∈ zL S) (hqk : zK S q = 10) (hT : CT l D tc yX10_witness cX10_witness 4 (some .int) d mc ms [.ref q, .int x1, .int x2] S "java/lang/IllegalArgumentException") (hp : post (some (.int (nI 2))) S) : CMH l D tc yL_witness [(0, 10, 13, 13), (0, 10, 17, 15)] cL_witness 5 (some .int) (d + 1) mc ms [.ref q, .int x1, .int x2, .ref o] S post := by
  refine CMH.of hls (by decide +kernel) (by simp [Value.category]) (Nat.le_of_ble_eq_true rfl) (fun A0 p e9 s m args below meth c sz h htab hr hA => ?_)
  refine V.eqL (ls' := [some (.ref q), some (.int x1), some (.int x2), some (.ref o), none]) rfl ?_
  refine V.blk h [(.aload_n 3, 1), (.iconst 0, 1), (.aload_n 0, 1), (.iload_n 1, 1), (.iload_n 2, 1)] (by decide +kernel) (pc' := 5) (ls' := [some (.ref q), some (.int x1), some (.int x2), some (.ref o), none]) (st' := [.int x2, .int x1, .ref q, .int (nI 0), .ref o]) rfl rfl (Nat.le_of_ble_eq_true rfl) ?_
  refine V.callVX (st := [.int (nI 0), .ref o]) (ci := 10) (np := 2) (As := [.int x1, .int x2]) h hT wc_X10_witness wn_RX10 wm_RL_61 wi_X10_witness we_X10_witness (by decide +kernel) rfl cls_10 hq hqk (Nat.le_refl _) (by show 8 + (4 + 11) + 36 * d ≤ 36 * (d + 1); omega) (by show 0 + mc ≤ mc; omega) (by show 0 + ms ≤ ms; omega) (by simp [Value.category]) (by decide +kernel) rfl ?_
  refine VX.catch (name := "java/lang/IllegalArgumentException") h [⟨0, 10, 13, 13⟩] ⟨0, 10, 17, 15⟩ [] htab (fun z hz => by
    rw [List.mem_singleton.mp hz]
    exact Or.inr ⟨by decide, "java/lang/IndexOutOfBoundsException", h.wg wl_RL_13, h.2.2.2.2.2.1.2.2.2.2.2.2.1⟩) (by decide) (by decide) wl_RL_15 (by simp [WK]) (fun q9 => ?_)
  refine V.blk h [(.astore 4, 2), (.iconst 2, 1)] (by decide +kernel) (pc' := 20) (ls' := [some (.ref q), some (.int x1), some (.int x2), some (.ref o), some (.ref q9)]) (st' := [.int (nI 2)]) rfl rfl (Nat.le_of_ble_eq_true rfl) ?_
  exact V.iret h hA hr rfl hp (by decide +kernel) (by omega) (by omega)
