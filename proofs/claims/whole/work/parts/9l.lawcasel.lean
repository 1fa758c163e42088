/-! ===== the law: the cases over one state for both sides ===== -/
section
variable {tc : Nat → ClassId} {am q0 o : Nat} {ad : Nat → Nat} {X X' Y Y' C : TS} {yv : Int64} {S S1 S2 : HS} {Lm Lc : List Nat}
theorem wp_put {y : Int64} (hO : OU0 o S) (ho : o ∉ zL S1) (hR : ∃ ax ay, ax 10 0 = q0 ∧ RA tc (mx ax ay) C S1) : (∃ ax ay, ax 10 0 = q0 ∧ RA tc (mx ax ay) C (setJ (jn [o] S S1) o (vp_updL (zJ (jn [o] S S1) o) 0 y))) ∧ OU o (setJ (jn [o] S S1) o (vp_updL (zJ (jn [o] S S1) o) 0 y)) y := by
  obtain ⟨ax, ay, hq, hR⟩ := hR
  refine ⟨⟨ax, ay, hq, hR.at' (fun x hx => ?_)⟩, ?_⟩
  · have hxo : x ≠ o := fun z => ho (z ▸ hx)
    have hx1 : x ∉ [o] := fun z => hxo (List.mem_singleton.mp z)
    exact ⟨List.mem_append_right _ hx, if_neg hx1, if_neg hx1, if_neg hx1, if_neg hx1, (if_neg hxo).trans (if_neg hx1), fun g => ⟨if_neg hx1, if_neg hx1⟩⟩
  · have j := jn_o (S' := S1) hO
    exact ⟨j.1, j.2.1, j.2.2, (congrFun (if_pos rfl) 0).trans (if_pos rfl)⟩
theorem LJ.ra (hJ : LJ tc am ad q0 o X Y yv S Lm Lc) : ∃ ax ay, ax 10 0 = q0 ∧ RA tc (mx ax ay) Y (zSub S Lc) := hJ.2.2.2.2.2.2.1
theorem LJ.ou (hJ : LJ tc am ad q0 o X Y yv S Lm Lc) : OU0 o (zSub S Lc) := ⟨hJ.2.2.2.2.2.2.2.1, hJ.2.2.2.2.2.2.2.2.1, hJ.2.2.2.2.2.2.2.2.2.1⟩
theorem LJ.q (hJ : LJ tc am ad q0 o X Y yv S Lm Lc) : q0 ∈ zL (zSub S Lc) ∧ zK (zSub S Lc) q0 = 10 := by
  obtain ⟨ax, ay, hq, hR⟩ := hJ.ra
  have q := hR.1.1 10 0 rfl
  rw [← hq]
  exact q
theorem LJ.raw (hJ : LJ tc am ad q0 o X Y yv S Lm Lc) : ∃ ax ay, ax 10 0 = q0 ∧ RA tc (mx ax ay) Y (zSub (zSub S Lc) (wo (zSub S Lc) o)) := by
  obtain ⟨ax, ay, hq, hR⟩ := hJ.ra
  refine ⟨ax, ay, hq, hR.ext2 (fun x hx hk => ⟨wo_mem.mpr ⟨hx, fun z => hk (by rw [z]; exact hJ.ou.2.1)⟩, rfl, rfl, rfl, rfl, fun _ => ⟨rfl, rfl⟩⟩)⟩
theorem LJ.two (hJ : LJ tc am ad q0 o X Y yv S Lm Lc) (hA : AG Y' Y) : LJ tc am ad q0 o X Y' yv S Lm Lc := hJ.mono EQ.rfl hA
end
set_option maxRecDepth 100000
section
variable {l : Launch} {D : va_G} {tc : Nat → ClassId} {A : Nat → Prop} {p : Program} {e : Env} {R : Room} {s : State} {m : MethodId} {args : Array Value} {below : List Frame} {meth : Method} {c : Code} {Q : State → Prop} {S : HS} {k n : Nat} {Ts : List Cond} {am q0 o b L i kx dC dR mc ms : Nat} {ad : Nat → Nat} {xs : Nat → Int32} {X X' Y Y' : TS} {yv yv' : Int64} {Lm Lc : List Nat}
theorem k_audit (h : CX l D tc A p s m args meth c code 7 RL Ts) (hJ : LJ tc am ad q0 o X Y yv S Lm Lc) {v : Int32}
    (hC : ∀ ax ay, ax 10 0 = q0 → RA tc (mx ax ay) Y S → CM l D tc yX10_audit cX10_audit 2 (some .int) dC 0 0 [.ref q0] S (fun v' S' => v' = some (.int v) ∧ S' = S))
    (hR : RM l D tc am ad yX11_audit cX11_audit 4 (some .int) dR [.ref am] X (some (.int v)) X') (hd : dC ≤ 13) (hdR : dR ≤ 13) (hfr : 16 ≤ R.frames) (hlo : 626 ≤ R.locals) (hro : k ≤ R.cells) (hrs : n ≤ R.slots)
    (kk : ∀ (S' : HS) (Lm' : List Nat), LJ tc am ad q0 o X' Y yv S' Lm' Lc → V l D tc A p e R s m args below meth c 7 Q S' k n 1179 [some (.ref b), some (.ref q0), some (.ref am), some (.ref o), some (.int (nI i)), none, none] []) : V l D tc A p e R s m args below meth c 7 Q S k n 1141 [some (.ref b), some (.ref q0), some (.ref am), some (.ref o), some (.int (nI i)), none, none] [] := by
  refine V.blk h [(.aload_n 1, 1)] (by decide +kernel) (pc' := 1142) (ls' := [some (.ref b), some (.ref q0), some (.ref am), some (.ref o), some (.int (nI i)), none, none]) (st' := [.ref q0]) rfl rfl (Nat.le_of_ble_eq_true rfl) ?_
  refine V.qcall (pc := 1142) (st := []) (np := 0) (As := []) h hJ hC wc_X10_audit wn_RX10 (Or.inl wm_RL_128) wi_X10_audit we_X10_audit (by decide +kernel) rfl (by omega) (by omega) hro hrs (by simp) (by decide +kernel) rfl ?_
  refine V.blk h [(.aload_n 2, 1)] (by decide +kernel) (pc' := 1146) (ls' := [some (.ref b), some (.ref q0), some (.ref am), some (.ref o), some (.int (nI i)), none, none]) (st' := [.ref am, .int v]) rfl rfl (Nat.le_of_ble_eq_true rfl) ?_
  refine V.mcall (pc := 1146) (st := [.int v]) (np := 0) (As := []) h hJ hR wc_X11_audit wn_RX11 (Or.inl wm_RL_131) wi_X11_audit we_X11_audit (by decide +kernel) rfl (by omega) (by omega) hro hrs (by simp [Value.category]) (by decide +kernel) rfl (fun S2 Lm2 hJ2 => ?_)
  exact V.icmp_eq (pc := 1149) h (off := 30) (by decide +kernel) (tgt := 1179) (by decide) (fun _ => kk S2 Lm2 hJ2) (fun z => absurd rfl z)
theorem k_count (h : CX l D tc A p s m args meth c code 7 RL Ts) (hX : va_X b L xs s s.heap) (hbl : b < s.heap.size) (hbA : ¬ A b) (hi : i + 4 < L) (hL : L < 2 ^ 31) (hJ : LJ tc am ad q0 o X Y yv S Lm Lc) {v x1 : Int32} (hx1 : xs (i + 1) = x1)
    (hC : ∀ ax ay, ax 10 0 = q0 → RA tc (mx ax ay) Y S → CM l D tc yX10_count cX10_count 2 (some .int) dC 0 0 [.ref q0, .int x1] S (fun v' S' => v' = some (.int v) ∧ S' = S))
    (hR : RM l D tc am ad yX11_count cX11_count 2 (some .int) dR [.ref am, .int x1] X (some (.int v)) X') (hd : dC ≤ 13) (hdR : dR ≤ 13) (hfr : 16 ≤ R.frames) (hlo : 626 ≤ R.locals) (hro : k ≤ R.cells) (hrs : n ≤ R.slots)
    (kk : ∀ (S' : HS) (Lm' : List Nat), LJ tc am ad q0 o X' Y yv S' Lm' Lc → V l D tc A p e R s m args below meth c 7 Q S' k n 1179 [some (.ref b), some (.ref q0), some (.ref am), some (.ref o), some (.int (nI i)), none, none] []) : V l D tc A p e R s m args below meth c 7 Q S k n 1154 [some (.ref b), some (.ref q0), some (.ref am), some (.ref o), some (.int (nI i)), none, none] [] := by
  subst hx1
  refine V.blk h [(.aload_n 1, 1), (.aload_n 0, 1), (.iload 4, 2), (.iconst 1, 1), (.iadd, 1)] (by decide +kernel) (pc' := 1160) (ls' := [some (.ref b), some (.ref q0), some (.ref am), some (.ref o), some (.int (nI i)), none, none]) (st' := [.int (nI i + nI 1), .ref b, .ref q0]) rfl rfl (Nat.le_of_ble_eq_true rfl) ?_
  refine V.top (v' := .int (nI (i + 1))) (by rw [nI_add]) ?_
  refine V.sld (pc := 1160) h hX hbl hbA (show i + 1 < L by omega) hL (by decide +kernel) ?_
  refine V.qcall (pc := 1161) (st := []) (np := 1) (As := [.int (xs (i + 1))]) h hJ hC wc_X10_count wn_RX10 (Or.inl wm_RL_132) wi_X10_count we_X10_count (by decide +kernel) rfl (by omega) (by omega) hro hrs (by simp) (by decide +kernel) rfl ?_
  refine V.blk h [(.aload_n 2, 1), (.aload_n 0, 1), (.iload 4, 2), (.iconst 1, 1), (.iadd, 1)] (by decide +kernel) (pc' := 1170) (ls' := [some (.ref b), some (.ref q0), some (.ref am), some (.ref o), some (.int (nI i)), none, none]) (st' := [.int (nI i + nI 1), .ref b, .ref am, .int v]) rfl rfl (Nat.le_of_ble_eq_true rfl) ?_
  refine V.top (v' := .int (nI (i + 1))) (by rw [nI_add]) ?_
  refine V.sld (pc := 1170) h hX hbl hbA (show i + 1 < L by omega) hL (by decide +kernel) ?_
  refine V.mcall (pc := 1171) (st := [.int v]) (np := 1) (As := [.int (xs (i + 1))]) h hJ hR wc_X11_count wn_RX11 (Or.inl wm_RL_135) wi_X11_count we_X11_count (by decide +kernel) rfl (by omega) (by omega) hro hrs (by simp [Value.category]) (by decide +kernel) rfl (fun S2 Lm2 hJ2 => ?_)
  exact V.icmp_eq (pc := 1174) h (off := 5) (by decide +kernel) (tgt := 1179) (by decide) (fun _ => kk S2 Lm2 hJ2) (fun z => absurd rfl z)
end
section
variable {l : Launch} {D : va_G} {tc : Nat → ClassId} {A : Nat → Prop} {p : Program} {e : Env} {R : Room} {s : State} {m : MethodId} {args : Array Value} {below : List Frame} {meth : Method} {c : Code} {Q : State → Prop} {S : HS} {k n : Nat} {Ts : List Cond} {am q0 o b L i kx dC dR mc ms : Nat} {ad : Nat → Nat} {xs : Nat → Int32} {X X' Y Y' C F X2 : TS} {yv yv' : Int64} {Lm Lc : List Nat}
variable {d : Nat}
theorem g_ask (hls : l.stackTraces = false) (hJ : LJ tc am ad q0 o X Y yv S Lm Lc) {x1 x2 x3 x4 : Int32} {v : Int32} (hM : ∀ (S1 : HS) (ax ay : Nat → Nat → Nat), ax 10 0 = q0 → RA tc (mx ax ay) Y S1 → CM l D tc yX10_ask cX10_ask 7 (some .int) d mc ms [.ref (ax 10 0), .int x1, .int x2, .int x3, .int x4] S1 (fun v' S2 => v' = some (.int (v)) ∧ ∃ ax' ay', ax' 10 0 = q0 ∧ RA tc (mx ax' ay') C S2)) :
    CMH l D tc yL_ask [(0, 14, 17, 13), (0, 14, 21, 15)] cL_ask 7 (some .int) (d + 1) mc ms [.ref q0, .int x1, .int x2, .int x3, .int x4, .ref o] (zSub S Lc) (fun v' S' => v' = some (.int (nI 0)) ∧ (∃ ax ay, ax 10 0 = q0 ∧ RA tc (mx ax ay) C S') ∧ OU o S' (v).toInt64) := by
  obtain ⟨ax, ay, hq, hR⟩ := hJ.raw
  have hC := hM _ ax ay hq hR
  rw [hq] at hC
  exact w_ask hls hJ.ou hJ.q.1 hJ.q.2 hC (fun v' S' h => ⟨v, h.1, fun ho => ⟨rfl, (wp_put hJ.ou ho h.2).1, (wp_put hJ.ou ho h.2).2⟩⟩)
theorem e_ask (h : CX l D tc A p s m args meth c code 7 RL Ts) (hls : l.stackTraces = false) (hX : va_X b L xs s s.heap) (hbl : b < s.heap.size) (hbA : ¬ A b) (hi : i + 4 < L) (hL : L < 2 ^ 31) (hJ : LJ tc am ad q0 o X Y yv S Lm Lc) {x1 x2 x3 x4 : Int32} (hx1 : xs (i + 1) = x1) (hx2 : xs (i + 2) = x2) (hx3 : xs (i + 3) = x3) (hx4 : xs (i + 4) = x4) {v : Int32}
    (hM : ∀ (S1 : HS) (ax ay : Nat → Nat → Nat), ax 10 0 = q0 → RA tc (mx ax ay) Y S1 → CM l D tc yX10_ask cX10_ask 7 (some .int) d mc ms [.ref (ax 10 0), .int x1, .int x2, .int x3, .int x4] S1 (fun v' S2 => v' = some (.int (v)) ∧ ∃ ax' ay', ax' 10 0 = q0 ∧ RA tc (mx ax' ay') C S2))
    (hR : RM l D tc am ad yX11_ask cX11_ask 6 (some .int) dR [.ref am, .int x1, .int x2, .int x3, .int x4] X (some (.int (v))) F) (h0 : tf F 0 = 0) (hE : EQ F X2) (hA : AG X2 C) (hd : d ≤ 12) (hdR : dR ≤ 13) (hfr : 16 ≤ R.frames) (hlo : 626 ≤ R.locals) (hro : k + mc ≤ R.cells) (hrs : n + ms ≤ R.slots)
    (kk : ∀ (S' : HS) (Lm' Lc' : List Nat), LJ tc am ad q0 o X2 X2 (v).toInt64 S' Lm' Lc' → V l D tc A p e R s m args below meth c 7 Q S' (k + mc) (n + ms) 1179 [some (.ref b), some (.ref q0), some (.ref am), some (.ref o), some (.int (nI i)), none, none] []) : V l D tc A p e R s m args below meth c 7 Q S k n 160 [some (.ref b), some (.ref q0), some (.ref am), some (.ref o), some (.int (nI i)), none, none] [] := by
  subst hx1; subst hx2; subst hx3; subst hx4
  exact k_ask h hls hX hbl hbA hi hL hJ (g_ask hls hJ hM) hR h0 (by decide) (fun _ => rfl) (by omega) hdR hfr hlo hro hrs (fun S' Lm' Lc' hJ' => kk S' Lm' Lc' (hJ'.mono hE hA))
theorem e_ask_t1 (h : CX l D tc A p s m args meth c code 7 RL Ts) (hls : l.stackTraces = false) (hX : va_X b L xs s s.heap) (hbl : b < s.heap.size) (hbA : ¬ A b) (hi : i + 4 < L) (hL : L < 2 ^ 31) (hJ : LJ tc am ad q0 o X Y yv S Lm Lc) {x1 x2 x3 x4 : Int32} (hx1 : xs (i + 1) = x1) (hx2 : xs (i + 2) = x2) (hx3 : xs (i + 3) = x3) (hx4 : xs (i + 4) = x4) {v : Int32}
    (hT : ∀ (S1 : HS) (ax ay : Nat → Nat → Nat), RA tc (mx ax ay) Y S1 → CT l D tc yX10_ask cX10_ask 7 (some .int) 7 1 6 [.ref (ax 10 0), .int x1, .int x2, .int x3, .int x4] S1 "java/lang/IndexOutOfBoundsException")
    (hR : RM l D tc am ad yX11_ask cX11_ask 6 (some .int) dR [.ref am, .int x1, .int x2, .int x3, .int x4] X (some (.int (v))) F) (hF : F = sf (sf X 0 0) 0 1) (hA : AG X Y) (hdR : dR ≤ 13) (hfr : 16 ≤ R.frames) (hlo : 626 ≤ R.locals) (hro : k + 1 ≤ R.cells) (hrs : n + 6 ≤ R.slots)
    (kk : ∀ (S' : HS) (Lm' Lc' : List Nat), LJ tc am ad q0 o (sf (sf X 0 0) 0 1) (sf (sf X 0 0) 0 1) yv S' Lm' Lc' → V l D tc A p e R s m args below meth c 7 Q S' (k + 1) (n + 6) 1179 [some (.ref b), some (.ref q0), some (.ref am), some (.ref o), some (.int (nI i)), none, none] []) : V l D tc A p e R s m args below meth c 7 Q S k n 160 [some (.ref b), some (.ref q0), some (.ref am), some (.ref o), some (.int (nI i)), none, none] [] := by
  subst hx1; subst hx2; subst hx3; subst hx4
  subst hF
  obtain ⟨ax, ay, hq, hRA⟩ := hJ.ra
  have hC := hT _ ax ay hRA
  rw [hq] at hC
  have ag := AG.s0 (v := 1) (A := sf X 0 0)
  refine k_ask (kx := 1) h hls hX hbl hbA hi hL hJ (w_ask_t1 (post := fun v' S' => v' = some (.int (nI 1)) ∧ (∃ ax ay, ax 10 0 = q0 ∧ RA tc (mx ax ay) Y S') ∧ OU o S' yv) hls hJ.ou hJ.q.1 hJ.q.2 hC ⟨rfl, hJ.ra, hJ.2.2.2.2.2.2.2⟩) hR rfl (by decide) (fun z => absurd z (by decide)) (by decide) hdR hfr hlo hro hrs (fun S' Lm' Lc' hJ' => kk S' Lm' Lc' ?_)
  have h1 := (hJ'.two (Y' := X) hA).mono EQ.rfl (AG.s0 (A := X) (v := 0))
  exact h1.mono EQ.rfl ag
theorem e_ask_t2 (h : CX l D tc A p s m args meth c code 7 RL Ts) (hls : l.stackTraces = false) (hX : va_X b L xs s s.heap) (hbl : b < s.heap.size) (hbA : ¬ A b) (hi : i + 4 < L) (hL : L < 2 ^ 31) (hJ : LJ tc am ad q0 o X Y yv S Lm Lc) {x1 x2 x3 x4 : Int32} (hx1 : xs (i + 1) = x1) (hx2 : xs (i + 2) = x2) (hx3 : xs (i + 3) = x3) (hx4 : xs (i + 4) = x4) {v : Int32}
    (hT : ∀ (S1 : HS) (ax ay : Nat → Nat → Nat), RA tc (mx ax ay) Y S1 → CT l D tc yX10_ask cX10_ask 7 (some .int) 7 1 6 [.ref (ax 10 0), .int x1, .int x2, .int x3, .int x4] S1 "java/lang/IllegalArgumentException")
    (hR : RM l D tc am ad yX11_ask cX11_ask 6 (some .int) dR [.ref am, .int x1, .int x2, .int x3, .int x4] X (some (.int (v))) F) (hF : F = sf (sf X 0 0) 0 2) (hA : AG X Y) (hdR : dR ≤ 13) (hfr : 16 ≤ R.frames) (hlo : 626 ≤ R.locals) (hro : k + 1 ≤ R.cells) (hrs : n + 6 ≤ R.slots)
    (kk : ∀ (S' : HS) (Lm' Lc' : List Nat), LJ tc am ad q0 o (sf (sf X 0 0) 0 2) (sf (sf X 0 0) 0 2) yv S' Lm' Lc' → V l D tc A p e R s m args below meth c 7 Q S' (k + 1) (n + 6) 1179 [some (.ref b), some (.ref q0), some (.ref am), some (.ref o), some (.int (nI i)), none, none] []) : V l D tc A p e R s m args below meth c 7 Q S k n 160 [some (.ref b), some (.ref q0), some (.ref am), some (.ref o), some (.int (nI i)), none, none] [] := by
  subst hx1; subst hx2; subst hx3; subst hx4
  subst hF
  obtain ⟨ax, ay, hq, hRA⟩ := hJ.ra
  have hC := hT _ ax ay hRA
  rw [hq] at hC
  have ag := AG.s0 (v := 2) (A := sf X 0 0)
  refine k_ask (kx := 2) h hls hX hbl hbA hi hL hJ (w_ask_t2 (post := fun v' S' => v' = some (.int (nI 2)) ∧ (∃ ax ay, ax 10 0 = q0 ∧ RA tc (mx ax ay) Y S') ∧ OU o S' yv) hls hJ.ou hJ.q.1 hJ.q.2 hC ⟨rfl, hJ.ra, hJ.2.2.2.2.2.2.2⟩) hR rfl (by decide) (fun z => absurd z (by decide)) (by decide) hdR hfr hlo hro hrs (fun S' Lm' Lc' hJ' => kk S' Lm' Lc' ?_)
  have h1 := (hJ'.two (Y' := X) hA).mono EQ.rfl (AG.s0 (A := X) (v := 0))
  exact h1.mono EQ.rfl ag
theorem g_retry (hls : l.stackTraces = false) (hJ : LJ tc am ad q0 o X Y yv S Lm Lc) {x1 : Int32} {v : Bool} (hM : ∀ (S1 : HS) (ax ay : Nat → Nat → Nat), ax 10 0 = q0 → RA tc (mx ax ay) Y S1 → CM l D tc yX10_retry cX10_retry 2 (some .boolean) d mc ms [.ref (ax 10 0), .int x1] S1 (fun v' S2 => v' = some (.int (bI v)) ∧ ∃ ax' ay', ax' 10 0 = q0 ∧ RA tc (mx ax' ay') C S2)) :
    CMH l D tc yL_retry [(0, 16, 19, 13)] cL_retry 4 (some .int) (d + 1) mc ms [.ref q0, .int x1, .ref o] (zSub S Lc) (fun v' S' => v' = some (.int (nI 0)) ∧ (∃ ax ay, ax 10 0 = q0 ∧ RA tc (mx ax ay) C S') ∧ OU o S' (bI v).toInt64) := by
  obtain ⟨ax, ay, hq, hR⟩ := hJ.raw
  have hC := hM _ ax ay hq hR
  rw [hq] at hC
  exact w_retry hls hJ.ou hJ.q.1 hJ.q.2 hC (fun v' S' h => ⟨v, h.1, fun ho => ⟨rfl, (wp_put hJ.ou ho h.2).1, (wp_put hJ.ou ho h.2).2⟩⟩)
theorem e_retry (h : CX l D tc A p s m args meth c code 7 RL Ts) (hls : l.stackTraces = false) (hX : va_X b L xs s s.heap) (hbl : b < s.heap.size) (hbA : ¬ A b) (hi : i + 4 < L) (hL : L < 2 ^ 31) (hJ : LJ tc am ad q0 o X Y yv S Lm Lc) {x1 : Int32} (hx1 : xs (i + 1) = x1) {v : Bool}
    (hM : ∀ (S1 : HS) (ax ay : Nat → Nat → Nat), ax 10 0 = q0 → RA tc (mx ax ay) Y S1 → CM l D tc yX10_retry cX10_retry 2 (some .boolean) d mc ms [.ref (ax 10 0), .int x1] S1 (fun v' S2 => v' = some (.int (bI v)) ∧ ∃ ax' ay', ax' 10 0 = q0 ∧ RA tc (mx ax' ay') C S2))
    (hR : RM l D tc am ad yX11_retry cX11_retry 2 (some .boolean) dR [.ref am, .int x1] X (some (.int (bI v))) F) (h0 : tf F 0 = 0) (hE : EQ F X2) (hA : AG X2 C) (hd : d ≤ 12) (hdR : dR ≤ 13) (hfr : 16 ≤ R.frames) (hlo : 626 ≤ R.locals) (hro : k + mc ≤ R.cells) (hrs : n + ms ≤ R.slots)
    (kk : ∀ (S' : HS) (Lm' Lc' : List Nat), LJ tc am ad q0 o X2 X2 (bI v).toInt64 S' Lm' Lc' → V l D tc A p e R s m args below meth c 7 Q S' (k + mc) (n + ms) 1179 [some (.ref b), some (.ref q0), some (.ref am), some (.ref o), some (.int (nI i)), none, none] []) : V l D tc A p e R s m args below meth c 7 Q S k n 252 [some (.ref b), some (.ref q0), some (.ref am), some (.ref o), some (.int (nI i)), none, none] [] := by
  subst hx1
  exact k_retry h hls hX hbl hbA hi hL hJ (g_retry hls hJ hM) hR h0 (by decide) (fun _ => rfl) (by omega) hdR hfr hlo hro hrs (fun S' Lm' Lc' hJ' => kk S' Lm' Lc' (hJ'.mono hE hA))
theorem e_retry_t1 (h : CX l D tc A p s m args meth c code 7 RL Ts) (hls : l.stackTraces = false) (hX : va_X b L xs s s.heap) (hbl : b < s.heap.size) (hbA : ¬ A b) (hi : i + 4 < L) (hL : L < 2 ^ 31) (hJ : LJ tc am ad q0 o X Y yv S Lm Lc) {x1 : Int32} (hx1 : xs (i + 1) = x1) {v : Bool}
    (hT : ∀ (S1 : HS) (ax ay : Nat → Nat → Nat), RA tc (mx ax ay) Y S1 → CT l D tc yX10_retry cX10_retry 2 (some .boolean) 7 1 6 [.ref (ax 10 0), .int x1] S1 "java/lang/IndexOutOfBoundsException")
    (hR : RM l D tc am ad yX11_retry cX11_retry 2 (some .boolean) dR [.ref am, .int x1] X (some (.int (bI v))) F) (hF : F = sf (sf X 0 0) 0 1) (hA : AG X Y) (hdR : dR ≤ 13) (hfr : 16 ≤ R.frames) (hlo : 626 ≤ R.locals) (hro : k + 1 ≤ R.cells) (hrs : n + 6 ≤ R.slots)
    (kk : ∀ (S' : HS) (Lm' Lc' : List Nat), LJ tc am ad q0 o (sf (sf X 0 0) 0 1) (sf (sf X 0 0) 0 1) yv S' Lm' Lc' → V l D tc A p e R s m args below meth c 7 Q S' (k + 1) (n + 6) 1179 [some (.ref b), some (.ref q0), some (.ref am), some (.ref o), some (.int (nI i)), none, none] []) : V l D tc A p e R s m args below meth c 7 Q S k n 252 [some (.ref b), some (.ref q0), some (.ref am), some (.ref o), some (.int (nI i)), none, none] [] := by
  subst hx1
  subst hF
  obtain ⟨ax, ay, hq, hRA⟩ := hJ.ra
  have hC := hT _ ax ay hRA
  rw [hq] at hC
  have ag := AG.s0 (v := 1) (A := sf X 0 0)
  refine k_retry (kx := 1) h hls hX hbl hbA hi hL hJ (w_retry_t1 (post := fun v' S' => v' = some (.int (nI 1)) ∧ (∃ ax ay, ax 10 0 = q0 ∧ RA tc (mx ax ay) Y S') ∧ OU o S' yv) hls hJ.ou hJ.q.1 hJ.q.2 hC ⟨rfl, hJ.ra, hJ.2.2.2.2.2.2.2⟩) hR rfl (by decide) (fun z => absurd z (by decide)) (by decide) hdR hfr hlo hro hrs (fun S' Lm' Lc' hJ' => kk S' Lm' Lc' ?_)
  have h1 := (hJ'.two (Y' := X) hA).mono EQ.rfl (AG.s0 (A := X) (v := 0))
  exact h1.mono EQ.rfl ag
theorem g_learn (hls : l.stackTraces = false) (hJ : LJ tc am ad q0 o X Y yv S Lm Lc) {x1 : Int32} {v : Int32} (hM : ∀ (S1 : HS) (ax ay : Nat → Nat → Nat), ax 10 0 = q0 → RA tc (mx ax ay) Y S1 → CM l D tc yX10_learn cX10_learn 4 (some .int) d mc ms [.ref (ax 10 0), .int x1] S1 (fun v' S2 => v' = some (.int (v)) ∧ ∃ ax' ay', ax' 10 0 = q0 ∧ RA tc (mx ax' ay') C S2)) :
    CMH l D tc yL_learn [(0, 9, 12, 13)] cL_learn 4 (some .int) (d + 1) mc ms [.ref q0, .int x1, .ref o] (zSub S Lc) (fun v' S' => v' = some (.int (nI 0)) ∧ (∃ ax ay, ax 10 0 = q0 ∧ RA tc (mx ax ay) C S') ∧ OU o S' (v).toInt64) := by
  obtain ⟨ax, ay, hq, hR⟩ := hJ.raw
  have hC := hM _ ax ay hq hR
  rw [hq] at hC
  exact w_learn hls hJ.ou hJ.q.1 hJ.q.2 hC (fun v' S' h => ⟨v, h.1, fun ho => ⟨rfl, (wp_put hJ.ou ho h.2).1, (wp_put hJ.ou ho h.2).2⟩⟩)
theorem e_learn (h : CX l D tc A p s m args meth c code 7 RL Ts) (hls : l.stackTraces = false) (hX : va_X b L xs s s.heap) (hbl : b < s.heap.size) (hbA : ¬ A b) (hi : i + 4 < L) (hL : L < 2 ^ 31) (hJ : LJ tc am ad q0 o X Y yv S Lm Lc) {x1 : Int32} (hx1 : xs (i + 1) = x1) {v : Int32}
    (hM : ∀ (S1 : HS) (ax ay : Nat → Nat → Nat), ax 10 0 = q0 → RA tc (mx ax ay) Y S1 → CM l D tc yX10_learn cX10_learn 4 (some .int) d mc ms [.ref (ax 10 0), .int x1] S1 (fun v' S2 => v' = some (.int (v)) ∧ ∃ ax' ay', ax' 10 0 = q0 ∧ RA tc (mx ax' ay') C S2))
    (hR : RM l D tc am ad yX11_learn cX11_learn 2 (some .int) dR [.ref am, .int x1] X (some (.int (v))) F) (h0 : tf F 0 = 0) (hE : EQ F X2) (hA : AG X2 C) (hd : d ≤ 12) (hdR : dR ≤ 13) (hfr : 16 ≤ R.frames) (hlo : 626 ≤ R.locals) (hro : k + mc ≤ R.cells) (hrs : n + ms ≤ R.slots)
    (kk : ∀ (S' : HS) (Lm' Lc' : List Nat), LJ tc am ad q0 o X2 X2 (v).toInt64 S' Lm' Lc' → V l D tc A p e R s m args below meth c 7 Q S' (k + mc) (n + ms) 1179 [some (.ref b), some (.ref q0), some (.ref am), some (.ref o), some (.int (nI i)), none, none] []) : V l D tc A p e R s m args below meth c 7 Q S k n 315 [some (.ref b), some (.ref q0), some (.ref am), some (.ref o), some (.int (nI i)), none, none] [] := by
  subst hx1
  exact k_learn h hls hX hbl hbA hi hL hJ (g_learn hls hJ hM) hR h0 (by decide) (fun _ => rfl) (by omega) hdR hfr hlo hro hrs (fun S' Lm' Lc' hJ' => kk S' Lm' Lc' (hJ'.mono hE hA))
theorem e_learn_t1 (h : CX l D tc A p s m args meth c code 7 RL Ts) (hls : l.stackTraces = false) (hX : va_X b L xs s s.heap) (hbl : b < s.heap.size) (hbA : ¬ A b) (hi : i + 4 < L) (hL : L < 2 ^ 31) (hJ : LJ tc am ad q0 o X Y yv S Lm Lc) {x1 : Int32} (hx1 : xs (i + 1) = x1) {v : Int32}
    (hT : ∀ (S1 : HS) (ax ay : Nat → Nat → Nat), RA tc (mx ax ay) Y S1 → CT l D tc yX10_learn cX10_learn 4 (some .int) 7 1 6 [.ref (ax 10 0), .int x1] S1 "java/lang/IndexOutOfBoundsException")
    (hR : RM l D tc am ad yX11_learn cX11_learn 2 (some .int) dR [.ref am, .int x1] X (some (.int (v))) F) (hF : F = sf (sf X 0 0) 0 1) (hA : AG X Y) (hdR : dR ≤ 13) (hfr : 16 ≤ R.frames) (hlo : 626 ≤ R.locals) (hro : k + 1 ≤ R.cells) (hrs : n + 6 ≤ R.slots)
    (kk : ∀ (S' : HS) (Lm' Lc' : List Nat), LJ tc am ad q0 o (sf (sf X 0 0) 0 1) (sf (sf X 0 0) 0 1) yv S' Lm' Lc' → V l D tc A p e R s m args below meth c 7 Q S' (k + 1) (n + 6) 1179 [some (.ref b), some (.ref q0), some (.ref am), some (.ref o), some (.int (nI i)), none, none] []) : V l D tc A p e R s m args below meth c 7 Q S k n 315 [some (.ref b), some (.ref q0), some (.ref am), some (.ref o), some (.int (nI i)), none, none] [] := by
  subst hx1
  subst hF
  obtain ⟨ax, ay, hq, hRA⟩ := hJ.ra
  have hC := hT _ ax ay hRA
  rw [hq] at hC
  have ag := AG.s0 (v := 1) (A := sf X 0 0)
  refine k_learn (kx := 1) h hls hX hbl hbA hi hL hJ (w_learn_t1 (post := fun v' S' => v' = some (.int (nI 1)) ∧ (∃ ax ay, ax 10 0 = q0 ∧ RA tc (mx ax ay) Y S') ∧ OU o S' yv) hls hJ.ou hJ.q.1 hJ.q.2 hC ⟨rfl, hJ.ra, hJ.2.2.2.2.2.2.2⟩) hR rfl (by decide) (fun z => absurd z (by decide)) (by decide) hdR hfr hlo hro hrs (fun S' Lm' Lc' hJ' => kk S' Lm' Lc' ?_)
  have h1 := (hJ'.two (Y' := X) hA).mono EQ.rfl (AG.s0 (A := X) (v := 0))
  exact h1.mono EQ.rfl ag
theorem g_deliver (hls : l.stackTraces = false) (hJ : LJ tc am ad q0 o X Y yv S Lm Lc) {x1 : Int32} {v : Int32} (hM : ∀ (S1 : HS) (ax ay : Nat → Nat → Nat), ax 10 0 = q0 → RA tc (mx ax ay) Y S1 → CM l D tc yX10_deliver cX10_deliver 3 (some .int) d mc ms [.ref (ax 10 0), .int x1] S1 (fun v' S2 => v' = some (.int (v)) ∧ ∃ ax' ay', ax' 10 0 = q0 ∧ RA tc (mx ax' ay') C S2)) :
    CMH l D tc yL_deliver [(0, 9, 12, 13)] cL_deliver 4 (some .int) (d + 1) mc ms [.ref q0, .int x1, .ref o] (zSub S Lc) (fun v' S' => v' = some (.int (nI 0)) ∧ (∃ ax ay, ax 10 0 = q0 ∧ RA tc (mx ax ay) C S') ∧ OU o S' (v).toInt64) := by
  obtain ⟨ax, ay, hq, hR⟩ := hJ.raw
  have hC := hM _ ax ay hq hR
  rw [hq] at hC
  exact w_deliver hls hJ.ou hJ.q.1 hJ.q.2 hC (fun v' S' h => ⟨v, h.1, fun ho => ⟨rfl, (wp_put hJ.ou ho h.2).1, (wp_put hJ.ou ho h.2).2⟩⟩)
theorem e_deliver (h : CX l D tc A p s m args meth c code 7 RL Ts) (hls : l.stackTraces = false) (hX : va_X b L xs s s.heap) (hbl : b < s.heap.size) (hbA : ¬ A b) (hi : i + 4 < L) (hL : L < 2 ^ 31) (hJ : LJ tc am ad q0 o X Y yv S Lm Lc) {x1 : Int32} (hx1 : xs (i + 1) = x1) {v : Int32}
    (hM : ∀ (S1 : HS) (ax ay : Nat → Nat → Nat), ax 10 0 = q0 → RA tc (mx ax ay) Y S1 → CM l D tc yX10_deliver cX10_deliver 3 (some .int) d mc ms [.ref (ax 10 0), .int x1] S1 (fun v' S2 => v' = some (.int (v)) ∧ ∃ ax' ay', ax' 10 0 = q0 ∧ RA tc (mx ax' ay') C S2))
    (hR : RM l D tc am ad yX11_deliver cX11_deliver 10 (some .int) dR [.ref am, .int x1] X (some (.int (v))) F) (h0 : tf F 0 = 0) (hE : EQ F X2) (hA : AG X2 C) (hd : d ≤ 12) (hdR : dR ≤ 13) (hfr : 16 ≤ R.frames) (hlo : 626 ≤ R.locals) (hro : k + mc ≤ R.cells) (hrs : n + ms ≤ R.slots)
    (kk : ∀ (S' : HS) (Lm' Lc' : List Nat), LJ tc am ad q0 o X2 X2 (v).toInt64 S' Lm' Lc' → V l D tc A p e R s m args below meth c 7 Q S' (k + mc) (n + ms) 1179 [some (.ref b), some (.ref q0), some (.ref am), some (.ref o), some (.int (nI i)), none, none] []) : V l D tc A p e R s m args below meth c 7 Q S k n 371 [some (.ref b), some (.ref q0), some (.ref am), some (.ref o), some (.int (nI i)), none, none] [] := by
  subst hx1
  exact k_deliver h hls hX hbl hbA hi hL hJ (g_deliver hls hJ hM) hR h0 (by decide) (fun _ => rfl) (by omega) hdR hfr hlo hro hrs (fun S' Lm' Lc' hJ' => kk S' Lm' Lc' (hJ'.mono hE hA))
theorem e_deliver_t1 (h : CX l D tc A p s m args meth c code 7 RL Ts) (hls : l.stackTraces = false) (hX : va_X b L xs s s.heap) (hbl : b < s.heap.size) (hbA : ¬ A b) (hi : i + 4 < L) (hL : L < 2 ^ 31) (hJ : LJ tc am ad q0 o X Y yv S Lm Lc) {x1 : Int32} (hx1 : xs (i + 1) = x1) {v : Int32}
    (hT : ∀ (S1 : HS) (ax ay : Nat → Nat → Nat), RA tc (mx ax ay) Y S1 → CT l D tc yX10_deliver cX10_deliver 3 (some .int) 7 1 6 [.ref (ax 10 0), .int x1] S1 "java/lang/IndexOutOfBoundsException")
    (hR : RM l D tc am ad yX11_deliver cX11_deliver 10 (some .int) dR [.ref am, .int x1] X (some (.int (v))) F) (hF : F = sf (sf X 0 0) 0 1) (hA : AG X Y) (hdR : dR ≤ 13) (hfr : 16 ≤ R.frames) (hlo : 626 ≤ R.locals) (hro : k + 1 ≤ R.cells) (hrs : n + 6 ≤ R.slots)
    (kk : ∀ (S' : HS) (Lm' Lc' : List Nat), LJ tc am ad q0 o (sf (sf X 0 0) 0 1) (sf (sf X 0 0) 0 1) yv S' Lm' Lc' → V l D tc A p e R s m args below meth c 7 Q S' (k + 1) (n + 6) 1179 [some (.ref b), some (.ref q0), some (.ref am), some (.ref o), some (.int (nI i)), none, none] []) : V l D tc A p e R s m args below meth c 7 Q S k n 371 [some (.ref b), some (.ref q0), some (.ref am), some (.ref o), some (.int (nI i)), none, none] [] := by
  subst hx1
  subst hF
  obtain ⟨ax, ay, hq, hRA⟩ := hJ.ra
  have hC := hT _ ax ay hRA
  rw [hq] at hC
  have ag := AG.s0 (v := 1) (A := sf X 0 0)
  refine k_deliver (kx := 1) h hls hX hbl hbA hi hL hJ (w_deliver_t1 (post := fun v' S' => v' = some (.int (nI 1)) ∧ (∃ ax ay, ax 10 0 = q0 ∧ RA tc (mx ax ay) Y S') ∧ OU o S' yv) hls hJ.ou hJ.q.1 hJ.q.2 hC ⟨rfl, hJ.ra, hJ.2.2.2.2.2.2.2⟩) hR rfl (by decide) (fun z => absurd z (by decide)) (by decide) hdR hfr hlo hro hrs (fun S' Lm' Lc' hJ' => kk S' Lm' Lc' ?_)
  have h1 := (hJ'.two (Y' := X) hA).mono EQ.rfl (AG.s0 (A := X) (v := 0))
  exact h1.mono EQ.rfl ag
theorem g_lose (hls : l.stackTraces = false) (hJ : LJ tc am ad q0 o X Y yv S Lm Lc) {x1 : Int32} {v : Int32} (hM : ∀ (S1 : HS) (ax ay : Nat → Nat → Nat), ax 10 0 = q0 → RA tc (mx ax ay) Y S1 → CM l D tc yX10_lose cX10_lose 2 (some .int) d mc ms [.ref (ax 10 0), .int x1] S1 (fun v' S2 => v' = some (.int (v)) ∧ ∃ ax' ay', ax' 10 0 = q0 ∧ RA tc (mx ax' ay') C S2)) :
    CMH l D tc yL_lose [(0, 9, 12, 13)] cL_lose 4 (some .int) (d + 1) mc ms [.ref q0, .int x1, .ref o] (zSub S Lc) (fun v' S' => v' = some (.int (nI 0)) ∧ (∃ ax ay, ax 10 0 = q0 ∧ RA tc (mx ax ay) C S') ∧ OU o S' (v).toInt64) := by
  obtain ⟨ax, ay, hq, hR⟩ := hJ.raw
  have hC := hM _ ax ay hq hR
  rw [hq] at hC
  exact w_lose hls hJ.ou hJ.q.1 hJ.q.2 hC (fun v' S' h => ⟨v, h.1, fun ho => ⟨rfl, (wp_put hJ.ou ho h.2).1, (wp_put hJ.ou ho h.2).2⟩⟩)
theorem e_lose (h : CX l D tc A p s m args meth c code 7 RL Ts) (hls : l.stackTraces = false) (hX : va_X b L xs s s.heap) (hbl : b < s.heap.size) (hbA : ¬ A b) (hi : i + 4 < L) (hL : L < 2 ^ 31) (hJ : LJ tc am ad q0 o X Y yv S Lm Lc) {x1 : Int32} (hx1 : xs (i + 1) = x1) {v : Int32}
    (hM : ∀ (S1 : HS) (ax ay : Nat → Nat → Nat), ax 10 0 = q0 → RA tc (mx ax ay) Y S1 → CM l D tc yX10_lose cX10_lose 2 (some .int) d mc ms [.ref (ax 10 0), .int x1] S1 (fun v' S2 => v' = some (.int (v)) ∧ ∃ ax' ay', ax' 10 0 = q0 ∧ RA tc (mx ax' ay') C S2))
    (hR : RM l D tc am ad yX11_lose cX11_lose 2 (some .int) dR [.ref am, .int x1] X (some (.int (v))) F) (h0 : tf F 0 = 0) (hE : EQ F X2) (hA : AG X2 C) (hd : d ≤ 12) (hdR : dR ≤ 13) (hfr : 16 ≤ R.frames) (hlo : 626 ≤ R.locals) (hro : k + mc ≤ R.cells) (hrs : n + ms ≤ R.slots)
    (kk : ∀ (S' : HS) (Lm' Lc' : List Nat), LJ tc am ad q0 o X2 X2 (v).toInt64 S' Lm' Lc' → V l D tc A p e R s m args below meth c 7 Q S' (k + mc) (n + ms) 1179 [some (.ref b), some (.ref q0), some (.ref am), some (.ref o), some (.int (nI i)), none, none] []) : V l D tc A p e R s m args below meth c 7 Q S k n 427 [some (.ref b), some (.ref q0), some (.ref am), some (.ref o), some (.int (nI i)), none, none] [] := by
  subst hx1
  exact k_lose h hls hX hbl hbA hi hL hJ (g_lose hls hJ hM) hR h0 (by decide) (fun _ => rfl) (by omega) hdR hfr hlo hro hrs (fun S' Lm' Lc' hJ' => kk S' Lm' Lc' (hJ'.mono hE hA))
theorem e_lose_t1 (h : CX l D tc A p s m args meth c code 7 RL Ts) (hls : l.stackTraces = false) (hX : va_X b L xs s s.heap) (hbl : b < s.heap.size) (hbA : ¬ A b) (hi : i + 4 < L) (hL : L < 2 ^ 31) (hJ : LJ tc am ad q0 o X Y yv S Lm Lc) {x1 : Int32} (hx1 : xs (i + 1) = x1) {v : Int32}
    (hT : ∀ (S1 : HS) (ax ay : Nat → Nat → Nat), RA tc (mx ax ay) Y S1 → CT l D tc yX10_lose cX10_lose 2 (some .int) 7 1 6 [.ref (ax 10 0), .int x1] S1 "java/lang/IndexOutOfBoundsException")
    (hR : RM l D tc am ad yX11_lose cX11_lose 2 (some .int) dR [.ref am, .int x1] X (some (.int (v))) F) (hF : F = sf (sf X 0 0) 0 1) (hA : AG X Y) (hdR : dR ≤ 13) (hfr : 16 ≤ R.frames) (hlo : 626 ≤ R.locals) (hro : k + 1 ≤ R.cells) (hrs : n + 6 ≤ R.slots)
    (kk : ∀ (S' : HS) (Lm' Lc' : List Nat), LJ tc am ad q0 o (sf (sf X 0 0) 0 1) (sf (sf X 0 0) 0 1) yv S' Lm' Lc' → V l D tc A p e R s m args below meth c 7 Q S' (k + 1) (n + 6) 1179 [some (.ref b), some (.ref q0), some (.ref am), some (.ref o), some (.int (nI i)), none, none] []) : V l D tc A p e R s m args below meth c 7 Q S k n 427 [some (.ref b), some (.ref q0), some (.ref am), some (.ref o), some (.int (nI i)), none, none] [] := by
  subst hx1
  subst hF
  obtain ⟨ax, ay, hq, hRA⟩ := hJ.ra
  have hC := hT _ ax ay hRA
  rw [hq] at hC
  have ag := AG.s0 (v := 1) (A := sf X 0 0)
  refine k_lose (kx := 1) h hls hX hbl hbA hi hL hJ (w_lose_t1 (post := fun v' S' => v' = some (.int (nI 1)) ∧ (∃ ax ay, ax 10 0 = q0 ∧ RA tc (mx ax ay) Y S') ∧ OU o S' yv) hls hJ.ou hJ.q.1 hJ.q.2 hC ⟨rfl, hJ.ra, hJ.2.2.2.2.2.2.2⟩) hR rfl (by decide) (fun z => absurd z (by decide)) (by decide) hdR hfr hlo hro hrs (fun S' Lm' Lc' hJ' => kk S' Lm' Lc' ?_)
  have h1 := (hJ'.two (Y' := X) hA).mono EQ.rfl (AG.s0 (A := X) (v := 0))
  exact h1.mono EQ.rfl ag
theorem g_twice (hls : l.stackTraces = false) (hJ : LJ tc am ad q0 o X Y yv S Lm Lc) {x1 : Int32} {v : Int32} (hM : ∀ (S1 : HS) (ax ay : Nat → Nat → Nat), ax 10 0 = q0 → RA tc (mx ax ay) Y S1 → CM l D tc yX10_twice cX10_twice 3 (some .int) d mc ms [.ref (ax 10 0), .int x1] S1 (fun v' S2 => v' = some (.int (v)) ∧ ∃ ax' ay', ax' 10 0 = q0 ∧ RA tc (mx ax' ay') C S2)) :
    CMH l D tc yL_twice [(0, 9, 12, 13)] cL_twice 4 (some .int) (d + 1) mc ms [.ref q0, .int x1, .ref o] (zSub S Lc) (fun v' S' => v' = some (.int (nI 0)) ∧ (∃ ax ay, ax 10 0 = q0 ∧ RA tc (mx ax ay) C S') ∧ OU o S' (v).toInt64) := by
  obtain ⟨ax, ay, hq, hR⟩ := hJ.raw
  have hC := hM _ ax ay hq hR
  rw [hq] at hC
  exact w_twice hls hJ.ou hJ.q.1 hJ.q.2 hC (fun v' S' h => ⟨v, h.1, fun ho => ⟨rfl, (wp_put hJ.ou ho h.2).1, (wp_put hJ.ou ho h.2).2⟩⟩)
theorem e_twice (h : CX l D tc A p s m args meth c code 7 RL Ts) (hls : l.stackTraces = false) (hX : va_X b L xs s s.heap) (hbl : b < s.heap.size) (hbA : ¬ A b) (hi : i + 4 < L) (hL : L < 2 ^ 31) (hJ : LJ tc am ad q0 o X Y yv S Lm Lc) {x1 : Int32} (hx1 : xs (i + 1) = x1) {v : Int32}
    (hM : ∀ (S1 : HS) (ax ay : Nat → Nat → Nat), ax 10 0 = q0 → RA tc (mx ax ay) Y S1 → CM l D tc yX10_twice cX10_twice 3 (some .int) d mc ms [.ref (ax 10 0), .int x1] S1 (fun v' S2 => v' = some (.int (v)) ∧ ∃ ax' ay', ax' 10 0 = q0 ∧ RA tc (mx ax' ay') C S2))
    (hR : RM l D tc am ad yX11_twice cX11_twice 2 (some .int) dR [.ref am, .int x1] X (some (.int (v))) F) (h0 : tf F 0 = 0) (hE : EQ F X2) (hA : AG X2 C) (hd : d ≤ 12) (hdR : dR ≤ 13) (hfr : 16 ≤ R.frames) (hlo : 626 ≤ R.locals) (hro : k + mc ≤ R.cells) (hrs : n + ms ≤ R.slots)
    (kk : ∀ (S' : HS) (Lm' Lc' : List Nat), LJ tc am ad q0 o X2 X2 (v).toInt64 S' Lm' Lc' → V l D tc A p e R s m args below meth c 7 Q S' (k + mc) (n + ms) 1179 [some (.ref b), some (.ref q0), some (.ref am), some (.ref o), some (.int (nI i)), none, none] []) : V l D tc A p e R s m args below meth c 7 Q S k n 483 [some (.ref b), some (.ref q0), some (.ref am), some (.ref o), some (.int (nI i)), none, none] [] := by
  subst hx1
  exact k_twice h hls hX hbl hbA hi hL hJ (g_twice hls hJ hM) hR h0 (by decide) (fun _ => rfl) (by omega) hdR hfr hlo hro hrs (fun S' Lm' Lc' hJ' => kk S' Lm' Lc' (hJ'.mono hE hA))
theorem e_twice_t1 (h : CX l D tc A p s m args meth c code 7 RL Ts) (hls : l.stackTraces = false) (hX : va_X b L xs s s.heap) (hbl : b < s.heap.size) (hbA : ¬ A b) (hi : i + 4 < L) (hL : L < 2 ^ 31) (hJ : LJ tc am ad q0 o X Y yv S Lm Lc) {x1 : Int32} (hx1 : xs (i + 1) = x1) {v : Int32}
    (hT : ∀ (S1 : HS) (ax ay : Nat → Nat → Nat), RA tc (mx ax ay) Y S1 → CT l D tc yX10_twice cX10_twice 3 (some .int) 7 1 6 [.ref (ax 10 0), .int x1] S1 "java/lang/IndexOutOfBoundsException")
    (hR : RM l D tc am ad yX11_twice cX11_twice 2 (some .int) dR [.ref am, .int x1] X (some (.int (v))) F) (hF : F = sf (sf X 0 0) 0 1) (hA : AG X Y) (hdR : dR ≤ 13) (hfr : 16 ≤ R.frames) (hlo : 626 ≤ R.locals) (hro : k + 1 ≤ R.cells) (hrs : n + 6 ≤ R.slots)
    (kk : ∀ (S' : HS) (Lm' Lc' : List Nat), LJ tc am ad q0 o (sf (sf X 0 0) 0 1) (sf (sf X 0 0) 0 1) yv S' Lm' Lc' → V l D tc A p e R s m args below meth c 7 Q S' (k + 1) (n + 6) 1179 [some (.ref b), some (.ref q0), some (.ref am), some (.ref o), some (.int (nI i)), none, none] []) : V l D tc A p e R s m args below meth c 7 Q S k n 483 [some (.ref b), some (.ref q0), some (.ref am), some (.ref o), some (.int (nI i)), none, none] [] := by
  subst hx1
  subst hF
  obtain ⟨ax, ay, hq, hRA⟩ := hJ.ra
  have hC := hT _ ax ay hRA
  rw [hq] at hC
  have ag := AG.s0 (v := 1) (A := sf X 0 0)
  refine k_twice (kx := 1) h hls hX hbl hbA hi hL hJ (w_twice_t1 (post := fun v' S' => v' = some (.int (nI 1)) ∧ (∃ ax ay, ax 10 0 = q0 ∧ RA tc (mx ax ay) Y S') ∧ OU o S' yv) hls hJ.ou hJ.q.1 hJ.q.2 hC ⟨rfl, hJ.ra, hJ.2.2.2.2.2.2.2⟩) hR rfl (by decide) (fun z => absurd z (by decide)) (by decide) hdR hfr hlo hro hrs (fun S' Lm' Lc' hJ' => kk S' Lm' Lc' ?_)
  have h1 := (hJ'.two (Y' := X) hA).mono EQ.rfl (AG.s0 (A := X) (v := 0))
  exact h1.mono EQ.rfl ag
theorem g_sync (hls : l.stackTraces = false) (hJ : LJ tc am ad q0 o X Y yv S Lm Lc) {x1 : Int32} {v : Bool} (hM : ∀ (S1 : HS) (ax ay : Nat → Nat → Nat), ax 10 0 = q0 → RA tc (mx ax ay) Y S1 → CM l D tc yX10_sync cX10_sync 3 (some .boolean) d mc ms [.ref (ax 10 0), .int x1] S1 (fun v' S2 => v' = some (.int (bI v)) ∧ ∃ ax' ay', ax' 10 0 = q0 ∧ RA tc (mx ax' ay') C S2)) :
    CMH l D tc yL_sync [(0, 16, 19, 13)] cL_sync 4 (some .int) (d + 1) mc ms [.ref q0, .int x1, .ref o] (zSub S Lc) (fun v' S' => v' = some (.int (nI 0)) ∧ (∃ ax ay, ax 10 0 = q0 ∧ RA tc (mx ax ay) C S') ∧ OU o S' (bI v).toInt64) := by
  obtain ⟨ax, ay, hq, hR⟩ := hJ.raw
  have hC := hM _ ax ay hq hR
  rw [hq] at hC
  exact w_sync hls hJ.ou hJ.q.1 hJ.q.2 hC (fun v' S' h => ⟨v, h.1, fun ho => ⟨rfl, (wp_put hJ.ou ho h.2).1, (wp_put hJ.ou ho h.2).2⟩⟩)
theorem e_sync (h : CX l D tc A p s m args meth c code 7 RL Ts) (hls : l.stackTraces = false) (hX : va_X b L xs s s.heap) (hbl : b < s.heap.size) (hbA : ¬ A b) (hi : i + 4 < L) (hL : L < 2 ^ 31) (hJ : LJ tc am ad q0 o X Y yv S Lm Lc) {x1 : Int32} (hx1 : xs (i + 1) = x1) {v : Bool}
    (hM : ∀ (S1 : HS) (ax ay : Nat → Nat → Nat), ax 10 0 = q0 → RA tc (mx ax ay) Y S1 → CM l D tc yX10_sync cX10_sync 3 (some .boolean) d mc ms [.ref (ax 10 0), .int x1] S1 (fun v' S2 => v' = some (.int (bI v)) ∧ ∃ ax' ay', ax' 10 0 = q0 ∧ RA tc (mx ax' ay') C S2))
    (hR : RM l D tc am ad yX11_sync cX11_sync 2 (some .boolean) dR [.ref am, .int x1] X (some (.int (bI v))) F) (h0 : tf F 0 = 0) (hE : EQ F X2) (hA : AG X2 C) (hd : d ≤ 12) (hdR : dR ≤ 13) (hfr : 16 ≤ R.frames) (hlo : 626 ≤ R.locals) (hro : k + mc ≤ R.cells) (hrs : n + ms ≤ R.slots)
    (kk : ∀ (S' : HS) (Lm' Lc' : List Nat), LJ tc am ad q0 o X2 X2 (bI v).toInt64 S' Lm' Lc' → V l D tc A p e R s m args below meth c 7 Q S' (k + mc) (n + ms) 1179 [some (.ref b), some (.ref q0), some (.ref am), some (.ref o), some (.int (nI i)), none, none] []) : V l D tc A p e R s m args below meth c 7 Q S k n 539 [some (.ref b), some (.ref q0), some (.ref am), some (.ref o), some (.int (nI i)), none, none] [] := by
  subst hx1
  exact k_sync h hls hX hbl hbA hi hL hJ (g_sync hls hJ hM) hR h0 (by decide) (fun _ => rfl) (by omega) hdR hfr hlo hro hrs (fun S' Lm' Lc' hJ' => kk S' Lm' Lc' (hJ'.mono hE hA))
theorem e_sync_t1 (h : CX l D tc A p s m args meth c code 7 RL Ts) (hls : l.stackTraces = false) (hX : va_X b L xs s s.heap) (hbl : b < s.heap.size) (hbA : ¬ A b) (hi : i + 4 < L) (hL : L < 2 ^ 31) (hJ : LJ tc am ad q0 o X Y yv S Lm Lc) {x1 : Int32} (hx1 : xs (i + 1) = x1) {v : Bool}
    (hT : ∀ (S1 : HS) (ax ay : Nat → Nat → Nat), RA tc (mx ax ay) Y S1 → CT l D tc yX10_sync cX10_sync 3 (some .boolean) 7 1 6 [.ref (ax 10 0), .int x1] S1 "java/lang/IndexOutOfBoundsException")
    (hR : RM l D tc am ad yX11_sync cX11_sync 2 (some .boolean) dR [.ref am, .int x1] X (some (.int (bI v))) F) (hF : F = sf (sf X 0 0) 0 1) (hA : AG X Y) (hdR : dR ≤ 13) (hfr : 16 ≤ R.frames) (hlo : 626 ≤ R.locals) (hro : k + 1 ≤ R.cells) (hrs : n + 6 ≤ R.slots)
    (kk : ∀ (S' : HS) (Lm' Lc' : List Nat), LJ tc am ad q0 o (sf (sf X 0 0) 0 1) (sf (sf X 0 0) 0 1) yv S' Lm' Lc' → V l D tc A p e R s m args below meth c 7 Q S' (k + 1) (n + 6) 1179 [some (.ref b), some (.ref q0), some (.ref am), some (.ref o), some (.int (nI i)), none, none] []) : V l D tc A p e R s m args below meth c 7 Q S k n 539 [some (.ref b), some (.ref q0), some (.ref am), some (.ref o), some (.int (nI i)), none, none] [] := by
  subst hx1
  subst hF
  obtain ⟨ax, ay, hq, hRA⟩ := hJ.ra
  have hC := hT _ ax ay hRA
  rw [hq] at hC
  have ag := AG.s0 (v := 1) (A := sf X 0 0)
  refine k_sync (kx := 1) h hls hX hbl hbA hi hL hJ (w_sync_t1 (post := fun v' S' => v' = some (.int (nI 1)) ∧ (∃ ax ay, ax 10 0 = q0 ∧ RA tc (mx ax ay) Y S') ∧ OU o S' yv) hls hJ.ou hJ.q.1 hJ.q.2 hC ⟨rfl, hJ.ra, hJ.2.2.2.2.2.2.2⟩) hR rfl (by decide) (fun z => absurd z (by decide)) (by decide) hdR hfr hlo hro hrs (fun S' Lm' Lc' hJ' => kk S' Lm' Lc' ?_)
  have h1 := (hJ'.two (Y' := X) hA).mono EQ.rfl (AG.s0 (A := X) (v := 0))
  exact h1.mono EQ.rfl ag
theorem g_crash (hls : l.stackTraces = false) (hJ : LJ tc am ad q0 o X Y yv S Lm Lc) {x1 : Int32} {v : Bool} (hM : ∀ (S1 : HS) (ax ay : Nat → Nat → Nat), ax 10 0 = q0 → RA tc (mx ax ay) Y S1 → CM l D tc yX10_crash cX10_crash 2 (some .boolean) d mc ms [.ref (ax 10 0), .int x1] S1 (fun v' S2 => v' = some (.int (bI v)) ∧ ∃ ax' ay', ax' 10 0 = q0 ∧ RA tc (mx ax' ay') C S2)) :
    CMH l D tc yL_crash [(0, 16, 19, 13)] cL_crash 4 (some .int) (d + 1) mc ms [.ref q0, .int x1, .ref o] (zSub S Lc) (fun v' S' => v' = some (.int (nI 0)) ∧ (∃ ax ay, ax 10 0 = q0 ∧ RA tc (mx ax ay) C S') ∧ OU o S' (bI v).toInt64) := by
  obtain ⟨ax, ay, hq, hR⟩ := hJ.raw
  have hC := hM _ ax ay hq hR
  rw [hq] at hC
  exact w_crash hls hJ.ou hJ.q.1 hJ.q.2 hC (fun v' S' h => ⟨v, h.1, fun ho => ⟨rfl, (wp_put hJ.ou ho h.2).1, (wp_put hJ.ou ho h.2).2⟩⟩)
theorem e_crash (h : CX l D tc A p s m args meth c code 7 RL Ts) (hls : l.stackTraces = false) (hX : va_X b L xs s s.heap) (hbl : b < s.heap.size) (hbA : ¬ A b) (hi : i + 4 < L) (hL : L < 2 ^ 31) (hJ : LJ tc am ad q0 o X Y yv S Lm Lc) {x1 : Int32} (hx1 : xs (i + 1) = x1) {v : Bool}
    (hM : ∀ (S1 : HS) (ax ay : Nat → Nat → Nat), ax 10 0 = q0 → RA tc (mx ax ay) Y S1 → CM l D tc yX10_crash cX10_crash 2 (some .boolean) d mc ms [.ref (ax 10 0), .int x1] S1 (fun v' S2 => v' = some (.int (bI v)) ∧ ∃ ax' ay', ax' 10 0 = q0 ∧ RA tc (mx ax' ay') C S2))
    (hR : RM l D tc am ad yX11_crash cX11_crash 3 (some .boolean) dR [.ref am, .int x1] X (some (.int (bI v))) F) (h0 : tf F 0 = 0) (hE : EQ F X2) (hA : AG X2 C) (hd : d ≤ 12) (hdR : dR ≤ 13) (hfr : 16 ≤ R.frames) (hlo : 626 ≤ R.locals) (hro : k + mc ≤ R.cells) (hrs : n + ms ≤ R.slots)
    (kk : ∀ (S' : HS) (Lm' Lc' : List Nat), LJ tc am ad q0 o X2 X2 (bI v).toInt64 S' Lm' Lc' → V l D tc A p e R s m args below meth c 7 Q S' (k + mc) (n + ms) 1179 [some (.ref b), some (.ref q0), some (.ref am), some (.ref o), some (.int (nI i)), none, none] []) : V l D tc A p e R s m args below meth c 7 Q S k n 602 [some (.ref b), some (.ref q0), some (.ref am), some (.ref o), some (.int (nI i)), none, none] [] := by
  subst hx1
  exact k_crash h hls hX hbl hbA hi hL hJ (g_crash hls hJ hM) hR h0 (by decide) (fun _ => rfl) (by omega) hdR hfr hlo hro hrs (fun S' Lm' Lc' hJ' => kk S' Lm' Lc' (hJ'.mono hE hA))
theorem e_crash_t1 (h : CX l D tc A p s m args meth c code 7 RL Ts) (hls : l.stackTraces = false) (hX : va_X b L xs s s.heap) (hbl : b < s.heap.size) (hbA : ¬ A b) (hi : i + 4 < L) (hL : L < 2 ^ 31) (hJ : LJ tc am ad q0 o X Y yv S Lm Lc) {x1 : Int32} (hx1 : xs (i + 1) = x1) {v : Bool}
    (hT : ∀ (S1 : HS) (ax ay : Nat → Nat → Nat), RA tc (mx ax ay) Y S1 → CT l D tc yX10_crash cX10_crash 2 (some .boolean) 7 1 6 [.ref (ax 10 0), .int x1] S1 "java/lang/IndexOutOfBoundsException")
    (hR : RM l D tc am ad yX11_crash cX11_crash 3 (some .boolean) dR [.ref am, .int x1] X (some (.int (bI v))) F) (hF : F = sf (sf X 0 0) 0 1) (hA : AG X Y) (hdR : dR ≤ 13) (hfr : 16 ≤ R.frames) (hlo : 626 ≤ R.locals) (hro : k + 1 ≤ R.cells) (hrs : n + 6 ≤ R.slots)
    (kk : ∀ (S' : HS) (Lm' Lc' : List Nat), LJ tc am ad q0 o (sf (sf X 0 0) 0 1) (sf (sf X 0 0) 0 1) yv S' Lm' Lc' → V l D tc A p e R s m args below meth c 7 Q S' (k + 1) (n + 6) 1179 [some (.ref b), some (.ref q0), some (.ref am), some (.ref o), some (.int (nI i)), none, none] []) : V l D tc A p e R s m args below meth c 7 Q S k n 602 [some (.ref b), some (.ref q0), some (.ref am), some (.ref o), some (.int (nI i)), none, none] [] := by
  subst hx1
  subst hF
  obtain ⟨ax, ay, hq, hRA⟩ := hJ.ra
  have hC := hT _ ax ay hRA
  rw [hq] at hC
  have ag := AG.s0 (v := 1) (A := sf X 0 0)
  refine k_crash (kx := 1) h hls hX hbl hbA hi hL hJ (w_crash_t1 (post := fun v' S' => v' = some (.int (nI 1)) ∧ (∃ ax ay, ax 10 0 = q0 ∧ RA tc (mx ax ay) Y S') ∧ OU o S' yv) hls hJ.ou hJ.q.1 hJ.q.2 hC ⟨rfl, hJ.ra, hJ.2.2.2.2.2.2.2⟩) hR rfl (by decide) (fun z => absurd z (by decide)) (by decide) hdR hfr hlo hro hrs (fun S' Lm' Lc' hJ' => kk S' Lm' Lc' ?_)
  have h1 := (hJ'.two (Y' := X) hA).mono EQ.rfl (AG.s0 (A := X) (v := 0))
  exact h1.mono EQ.rfl ag
theorem g_decide (hls : l.stackTraces = false) (hJ : LJ tc am ad q0 o X Y yv S Lm Lc) {x1 x2 : Int32} {v : Int32} (hM : ∀ (S1 : HS) (ax ay : Nat → Nat → Nat), ax 10 0 = q0 → RA tc (mx ax ay) Y S1 → CM l D tc yX10_decide cX10_decide 8 (some .int) d mc ms [.ref (ax 10 0), .int x1, .int x2] S1 (fun v' S2 => v' = some (.int (v)) ∧ ∃ ax' ay', ax' 10 0 = q0 ∧ RA tc (mx ax' ay') C S2)) :
    CMH l D tc yL_decide [(0, 10, 13, 13), (0, 10, 17, 44)] cL_decide 5 (some .int) (d + 1) mc ms [.ref q0, .int x1, .int x2, .ref o] (zSub S Lc) (fun v' S' => v' = some (.int (nI 0)) ∧ (∃ ax ay, ax 10 0 = q0 ∧ RA tc (mx ax ay) C S') ∧ OU o S' (v).toInt64) := by
  obtain ⟨ax, ay, hq, hR⟩ := hJ.raw
  have hC := hM _ ax ay hq hR
  rw [hq] at hC
  exact w_decide hls hJ.ou hJ.q.1 hJ.q.2 hC (fun v' S' h => ⟨v, h.1, fun ho => ⟨rfl, (wp_put hJ.ou ho h.2).1, (wp_put hJ.ou ho h.2).2⟩⟩)
theorem e_decide (h : CX l D tc A p s m args meth c code 7 RL Ts) (hls : l.stackTraces = false) (hX : va_X b L xs s s.heap) (hbl : b < s.heap.size) (hbA : ¬ A b) (hi : i + 4 < L) (hL : L < 2 ^ 31) (hJ : LJ tc am ad q0 o X Y yv S Lm Lc) {x1 x2 : Int32} (hx1 : xs (i + 1) = x1) (hx2 : xs (i + 2) = x2) {v : Int32}
    (hM : ∀ (S1 : HS) (ax ay : Nat → Nat → Nat), ax 10 0 = q0 → RA tc (mx ax ay) Y S1 → CM l D tc yX10_decide cX10_decide 8 (some .int) d mc ms [.ref (ax 10 0), .int x1, .int x2] S1 (fun v' S2 => v' = some (.int (v)) ∧ ∃ ax' ay', ax' 10 0 = q0 ∧ RA tc (mx ax' ay') C S2))
    (hR : RM l D tc am ad yX11_decide cX11_decide 5 (some .int) dR [.ref am, .int x1, .int x2] X (some (.int (v))) F) (h0 : tf F 0 = 0) (hE : EQ F X2) (hA : AG X2 C) (hd : d ≤ 12) (hdR : dR ≤ 13) (hfr : 16 ≤ R.frames) (hlo : 626 ≤ R.locals) (hro : k + mc ≤ R.cells) (hrs : n + ms ≤ R.slots)
    (kk : ∀ (S' : HS) (Lm' Lc' : List Nat), LJ tc am ad q0 o X2 X2 (v).toInt64 S' Lm' Lc' → V l D tc A p e R s m args below meth c 7 Q S' (k + mc) (n + ms) 1179 [some (.ref b), some (.ref q0), some (.ref am), some (.ref o), some (.int (nI i)), none, none] []) : V l D tc A p e R s m args below meth c 7 Q S k n 665 [some (.ref b), some (.ref q0), some (.ref am), some (.ref o), some (.int (nI i)), none, none] [] := by
  subst hx1; subst hx2
  exact k_decide h hls hX hbl hbA hi hL hJ (g_decide hls hJ hM) hR h0 (by decide) (fun _ => rfl) (by omega) hdR hfr hlo hro hrs (fun S' Lm' Lc' hJ' => kk S' Lm' Lc' (hJ'.mono hE hA))
theorem e_decide_t1 (h : CX l D tc A p s m args meth c code 7 RL Ts) (hls : l.stackTraces = false) (hX : va_X b L xs s s.heap) (hbl : b < s.heap.size) (hbA : ¬ A b) (hi : i + 4 < L) (hL : L < 2 ^ 31) (hJ : LJ tc am ad q0 o X Y yv S Lm Lc) {x1 x2 : Int32} (hx1 : xs (i + 1) = x1) (hx2 : xs (i + 2) = x2) {v : Int32}
    (hT : ∀ (S1 : HS) (ax ay : Nat → Nat → Nat), RA tc (mx ax ay) Y S1 → CT l D tc yX10_decide cX10_decide 8 (some .int) 7 1 6 [.ref (ax 10 0), .int x1, .int x2] S1 "java/lang/IndexOutOfBoundsException")
    (hR : RM l D tc am ad yX11_decide cX11_decide 5 (some .int) dR [.ref am, .int x1, .int x2] X (some (.int (v))) F) (hF : F = sf (sf X 0 0) 0 1) (hA : AG X Y) (hdR : dR ≤ 13) (hfr : 16 ≤ R.frames) (hlo : 626 ≤ R.locals) (hro : k + 1 ≤ R.cells) (hrs : n + 6 ≤ R.slots)
    (kk : ∀ (S' : HS) (Lm' Lc' : List Nat), LJ tc am ad q0 o (sf (sf X 0 0) 0 1) (sf (sf X 0 0) 0 1) yv S' Lm' Lc' → V l D tc A p e R s m args below meth c 7 Q S' (k + 1) (n + 6) 1179 [some (.ref b), some (.ref q0), some (.ref am), some (.ref o), some (.int (nI i)), none, none] []) : V l D tc A p e R s m args below meth c 7 Q S k n 665 [some (.ref b), some (.ref q0), some (.ref am), some (.ref o), some (.int (nI i)), none, none] [] := by
  subst hx1; subst hx2
  subst hF
  obtain ⟨ax, ay, hq, hRA⟩ := hJ.ra
  have hC := hT _ ax ay hRA
  rw [hq] at hC
  have ag := AG.s0 (v := 1) (A := sf X 0 0)
  refine k_decide (kx := 1) h hls hX hbl hbA hi hL hJ (w_decide_t1 (post := fun v' S' => v' = some (.int (nI 1)) ∧ (∃ ax ay, ax 10 0 = q0 ∧ RA tc (mx ax ay) Y S') ∧ OU o S' yv) hls hJ.ou hJ.q.1 hJ.q.2 hC ⟨rfl, hJ.ra, hJ.2.2.2.2.2.2.2⟩) hR rfl (by decide) (fun z => absurd z (by decide)) (by decide) hdR hfr hlo hro hrs (fun S' Lm' Lc' hJ' => kk S' Lm' Lc' ?_)
  have h1 := (hJ'.two (Y' := X) hA).mono EQ.rfl (AG.s0 (A := X) (v := 0))
  exact h1.mono EQ.rfl ag
theorem e_decide_t2 (h : CX l D tc A p s m args meth c code 7 RL Ts) (hls : l.stackTraces = false) (hX : va_X b L xs s s.heap) (hbl : b < s.heap.size) (hbA : ¬ A b) (hi : i + 4 < L) (hL : L < 2 ^ 31) (hJ : LJ tc am ad q0 o X Y yv S Lm Lc) {x1 x2 : Int32} (hx1 : xs (i + 1) = x1) (hx2 : xs (i + 2) = x2) {v : Int32}
    (hT : ∀ (S1 : HS) (ax ay : Nat → Nat → Nat), RA tc (mx ax ay) Y S1 → CT l D tc yX10_decide cX10_decide 8 (some .int) 7 1 6 [.ref (ax 10 0), .int x1, .int x2] S1 "java/lang/UnsupportedOperationException")
    (hR : RM l D tc am ad yX11_decide cX11_decide 5 (some .int) dR [.ref am, .int x1, .int x2] X (some (.int (v))) F) (hF : F = sf (sf X 0 0) 0 2) (hA : AG X Y) (hdR : dR ≤ 13) (hfr : 16 ≤ R.frames) (hlo : 626 ≤ R.locals) (hro : k + 1 ≤ R.cells) (hrs : n + 6 ≤ R.slots)
    (kk : ∀ (S' : HS) (Lm' Lc' : List Nat), LJ tc am ad q0 o (sf (sf X 0 0) 0 2) (sf (sf X 0 0) 0 2) yv S' Lm' Lc' → V l D tc A p e R s m args below meth c 7 Q S' (k + 1) (n + 6) 1179 [some (.ref b), some (.ref q0), some (.ref am), some (.ref o), some (.int (nI i)), none, none] []) : V l D tc A p e R s m args below meth c 7 Q S k n 665 [some (.ref b), some (.ref q0), some (.ref am), some (.ref o), some (.int (nI i)), none, none] [] := by
  subst hx1; subst hx2
  subst hF
  obtain ⟨ax, ay, hq, hRA⟩ := hJ.ra
  have hC := hT _ ax ay hRA
  rw [hq] at hC
  have ag := AG.s0 (v := 2) (A := sf X 0 0)
  refine k_decide (kx := 2) h hls hX hbl hbA hi hL hJ (w_decide_t2 (post := fun v' S' => v' = some (.int (nI 2)) ∧ (∃ ax ay, ax 10 0 = q0 ∧ RA tc (mx ax ay) Y S') ∧ OU o S' yv) hls hJ.ou hJ.q.1 hJ.q.2 hC ⟨rfl, hJ.ra, hJ.2.2.2.2.2.2.2⟩) hR rfl (by decide) (fun z => absurd z (by decide)) (by decide) hdR hfr hlo hro hrs (fun S' Lm' Lc' hJ' => kk S' Lm' Lc' ?_)
  have h1 := (hJ'.two (Y' := X) hA).mono EQ.rfl (AG.s0 (A := X) (v := 0))
  exact h1.mono EQ.rfl ag
theorem g_letter (hls : l.stackTraces = false) (hJ : LJ tc am ad q0 o X Y yv S Lm Lc) {x1 x2 : Int32} {v : Int32} (hM : ∀ (S1 : HS) (ax ay : Nat → Nat → Nat), ax 10 0 = q0 → RA tc (mx ax ay) Y S1 → CM l D tc yX10_letter cX10_letter 4 (some .int) d mc ms [.ref (ax 10 0), .int x1, .int x2] S1 (fun v' S2 => v' = some (.int (v)) ∧ ∃ ax' ay', ax' 10 0 = q0 ∧ RA tc (mx ax' ay') C S2)) :
    CMH l D tc yL_letter [(0, 10, 13, 13), (0, 10, 17, 15)] cL_letter 5 (some .int) (d + 1) mc ms [.ref q0, .int x1, .int x2, .ref o] (zSub S Lc) (fun v' S' => v' = some (.int (nI 0)) ∧ (∃ ax ay, ax 10 0 = q0 ∧ RA tc (mx ax ay) C S') ∧ OU o S' (v).toInt64) := by
  obtain ⟨ax, ay, hq, hR⟩ := hJ.raw
  have hC := hM _ ax ay hq hR
  rw [hq] at hC
  exact w_letter hls hJ.ou hJ.q.1 hJ.q.2 hC (fun v' S' h => ⟨v, h.1, fun ho => ⟨rfl, (wp_put hJ.ou ho h.2).1, (wp_put hJ.ou ho h.2).2⟩⟩)
theorem e_letter (h : CX l D tc A p s m args meth c code 7 RL Ts) (hls : l.stackTraces = false) (hX : va_X b L xs s s.heap) (hbl : b < s.heap.size) (hbA : ¬ A b) (hi : i + 4 < L) (hL : L < 2 ^ 31) (hJ : LJ tc am ad q0 o X Y yv S Lm Lc) {x1 x2 : Int32} (hx1 : xs (i + 1) = x1) (hx2 : xs (i + 2) = x2) {v : Int32}
    (hM : ∀ (S1 : HS) (ax ay : Nat → Nat → Nat), ax 10 0 = q0 → RA tc (mx ax ay) Y S1 → CM l D tc yX10_letter cX10_letter 4 (some .int) d mc ms [.ref (ax 10 0), .int x1, .int x2] S1 (fun v' S2 => v' = some (.int (v)) ∧ ∃ ax' ay', ax' 10 0 = q0 ∧ RA tc (mx ax' ay') C S2))
    (hR : RM l D tc am ad yX11_letter cX11_letter 3 (some .int) dR [.ref am, .int x1, .int x2] X (some (.int (v))) F) (h0 : tf F 0 = 0) (hE : EQ F X2) (hA : AG X2 C) (hd : d ≤ 12) (hdR : dR ≤ 13) (hfr : 16 ≤ R.frames) (hlo : 626 ≤ R.locals) (hro : k + mc ≤ R.cells) (hrs : n + ms ≤ R.slots)
    (kk : ∀ (S' : HS) (Lm' Lc' : List Nat), LJ tc am ad q0 o X2 X2 (v).toInt64 S' Lm' Lc' → V l D tc A p e R s m args below meth c 7 Q S' (k + mc) (n + ms) 1179 [some (.ref b), some (.ref q0), some (.ref am), some (.ref o), some (.int (nI i)), none, none] []) : V l D tc A p e R s m args below meth c 7 Q S k n 733 [some (.ref b), some (.ref q0), some (.ref am), some (.ref o), some (.int (nI i)), none, none] [] := by
  subst hx1; subst hx2
  exact k_letter h hls hX hbl hbA hi hL hJ (g_letter hls hJ hM) hR h0 (by decide) (fun _ => rfl) (by omega) hdR hfr hlo hro hrs (fun S' Lm' Lc' hJ' => kk S' Lm' Lc' (hJ'.mono hE hA))
theorem e_letter_t1 (h : CX l D tc A p s m args meth c code 7 RL Ts) (hls : l.stackTraces = false) (hX : va_X b L xs s s.heap) (hbl : b < s.heap.size) (hbA : ¬ A b) (hi : i + 4 < L) (hL : L < 2 ^ 31) (hJ : LJ tc am ad q0 o X Y yv S Lm Lc) {x1 x2 : Int32} (hx1 : xs (i + 1) = x1) (hx2 : xs (i + 2) = x2) {v : Int32}
    (hT : ∀ (S1 : HS) (ax ay : Nat → Nat → Nat), RA tc (mx ax ay) Y S1 → CT l D tc yX10_letter cX10_letter 4 (some .int) 7 1 6 [.ref (ax 10 0), .int x1, .int x2] S1 "java/lang/IndexOutOfBoundsException")
    (hR : RM l D tc am ad yX11_letter cX11_letter 3 (some .int) dR [.ref am, .int x1, .int x2] X (some (.int (v))) F) (hF : F = sf (sf X 0 0) 0 1) (hA : AG X Y) (hdR : dR ≤ 13) (hfr : 16 ≤ R.frames) (hlo : 626 ≤ R.locals) (hro : k + 1 ≤ R.cells) (hrs : n + 6 ≤ R.slots)
    (kk : ∀ (S' : HS) (Lm' Lc' : List Nat), LJ tc am ad q0 o (sf (sf X 0 0) 0 1) (sf (sf X 0 0) 0 1) yv S' Lm' Lc' → V l D tc A p e R s m args below meth c 7 Q S' (k + 1) (n + 6) 1179 [some (.ref b), some (.ref q0), some (.ref am), some (.ref o), some (.int (nI i)), none, none] []) : V l D tc A p e R s m args below meth c 7 Q S k n 733 [some (.ref b), some (.ref q0), some (.ref am), some (.ref o), some (.int (nI i)), none, none] [] := by
  subst hx1; subst hx2
  subst hF
  obtain ⟨ax, ay, hq, hRA⟩ := hJ.ra
  have hC := hT _ ax ay hRA
  rw [hq] at hC
  have ag := AG.s0 (v := 1) (A := sf X 0 0)
  refine k_letter (kx := 1) h hls hX hbl hbA hi hL hJ (w_letter_t1 (post := fun v' S' => v' = some (.int (nI 1)) ∧ (∃ ax ay, ax 10 0 = q0 ∧ RA tc (mx ax ay) Y S') ∧ OU o S' yv) hls hJ.ou hJ.q.1 hJ.q.2 hC ⟨rfl, hJ.ra, hJ.2.2.2.2.2.2.2⟩) hR rfl (by decide) (fun z => absurd z (by decide)) (by decide) hdR hfr hlo hro hrs (fun S' Lm' Lc' hJ' => kk S' Lm' Lc' ?_)
  have h1 := (hJ'.two (Y' := X) hA).mono EQ.rfl (AG.s0 (A := X) (v := 0))
  exact h1.mono EQ.rfl ag
theorem e_letter_t2 (h : CX l D tc A p s m args meth c code 7 RL Ts) (hls : l.stackTraces = false) (hX : va_X b L xs s s.heap) (hbl : b < s.heap.size) (hbA : ¬ A b) (hi : i + 4 < L) (hL : L < 2 ^ 31) (hJ : LJ tc am ad q0 o X Y yv S Lm Lc) {x1 x2 : Int32} (hx1 : xs (i + 1) = x1) (hx2 : xs (i + 2) = x2) {v : Int32}
    (hT : ∀ (S1 : HS) (ax ay : Nat → Nat → Nat), RA tc (mx ax ay) Y S1 → CT l D tc yX10_letter cX10_letter 4 (some .int) 7 1 6 [.ref (ax 10 0), .int x1, .int x2] S1 "java/lang/IllegalArgumentException")
    (hR : RM l D tc am ad yX11_letter cX11_letter 3 (some .int) dR [.ref am, .int x1, .int x2] X (some (.int (v))) F) (hF : F = sf (sf X 0 0) 0 2) (hA : AG X Y) (hdR : dR ≤ 13) (hfr : 16 ≤ R.frames) (hlo : 626 ≤ R.locals) (hro : k + 1 ≤ R.cells) (hrs : n + 6 ≤ R.slots)
    (kk : ∀ (S' : HS) (Lm' Lc' : List Nat), LJ tc am ad q0 o (sf (sf X 0 0) 0 2) (sf (sf X 0 0) 0 2) yv S' Lm' Lc' → V l D tc A p e R s m args below meth c 7 Q S' (k + 1) (n + 6) 1179 [some (.ref b), some (.ref q0), some (.ref am), some (.ref o), some (.int (nI i)), none, none] []) : V l D tc A p e R s m args below meth c 7 Q S k n 733 [some (.ref b), some (.ref q0), some (.ref am), some (.ref o), some (.int (nI i)), none, none] [] := by
  subst hx1; subst hx2
  subst hF
  obtain ⟨ax, ay, hq, hRA⟩ := hJ.ra
  have hC := hT _ ax ay hRA
  rw [hq] at hC
  have ag := AG.s0 (v := 2) (A := sf X 0 0)
  refine k_letter (kx := 2) h hls hX hbl hbA hi hL hJ (w_letter_t2 (post := fun v' S' => v' = some (.int (nI 2)) ∧ (∃ ax ay, ax 10 0 = q0 ∧ RA tc (mx ax ay) Y S') ∧ OU o S' yv) hls hJ.ou hJ.q.1 hJ.q.2 hC ⟨rfl, hJ.ra, hJ.2.2.2.2.2.2.2⟩) hR rfl (by decide) (fun z => absurd z (by decide)) (by decide) hdR hfr hlo hro hrs (fun S' Lm' Lc' hJ' => kk S' Lm' Lc' ?_)
  have h1 := (hJ'.two (Y' := X) hA).mono EQ.rfl (AG.s0 (A := X) (v := 0))
  exact h1.mono EQ.rfl ag
theorem g_client (hls : l.stackTraces = false) (hJ : LJ tc am ad q0 o X Y yv S Lm Lc) {x1 x2 : Int32} {v : Int32} (hM : ∀ (S1 : HS) (ax ay : Nat → Nat → Nat), ax 10 0 = q0 → RA tc (mx ax ay) Y S1 → CM l D tc yX10_client cX10_client 4 (some .int) d mc ms [.ref (ax 10 0), .int x1, .int x2] S1 (fun v' S2 => v' = some (.int (v)) ∧ ∃ ax' ay', ax' 10 0 = q0 ∧ RA tc (mx ax' ay') C S2)) :
    CMH l D tc yL_client [(0, 10, 13, 13), (0, 10, 17, 15)] cL_client 5 (some .int) (d + 1) mc ms [.ref q0, .int x1, .int x2, .ref o] (zSub S Lc) (fun v' S' => v' = some (.int (nI 0)) ∧ (∃ ax ay, ax 10 0 = q0 ∧ RA tc (mx ax ay) C S') ∧ OU o S' (v).toInt64) := by
  obtain ⟨ax, ay, hq, hR⟩ := hJ.raw
  have hC := hM _ ax ay hq hR
  rw [hq] at hC
  exact w_client hls hJ.ou hJ.q.1 hJ.q.2 hC (fun v' S' h => ⟨v, h.1, fun ho => ⟨rfl, (wp_put hJ.ou ho h.2).1, (wp_put hJ.ou ho h.2).2⟩⟩)
theorem e_client (h : CX l D tc A p s m args meth c code 7 RL Ts) (hls : l.stackTraces = false) (hX : va_X b L xs s s.heap) (hbl : b < s.heap.size) (hbA : ¬ A b) (hi : i + 4 < L) (hL : L < 2 ^ 31) (hJ : LJ tc am ad q0 o X Y yv S Lm Lc) {x1 x2 : Int32} (hx1 : xs (i + 1) = x1) (hx2 : xs (i + 2) = x2) {v : Int32}
    (hM : ∀ (S1 : HS) (ax ay : Nat → Nat → Nat), ax 10 0 = q0 → RA tc (mx ax ay) Y S1 → CM l D tc yX10_client cX10_client 4 (some .int) d mc ms [.ref (ax 10 0), .int x1, .int x2] S1 (fun v' S2 => v' = some (.int (v)) ∧ ∃ ax' ay', ax' 10 0 = q0 ∧ RA tc (mx ax' ay') C S2))
    (hR : RM l D tc am ad yX11_client cX11_client 4 (some .int) dR [.ref am, .int x1, .int x2] X (some (.int (v))) F) (h0 : tf F 0 = 0) (hE : EQ F X2) (hA : AG X2 C) (hd : d ≤ 12) (hdR : dR ≤ 13) (hfr : 16 ≤ R.frames) (hlo : 626 ≤ R.locals) (hro : k + mc ≤ R.cells) (hrs : n + ms ≤ R.slots)
    (kk : ∀ (S' : HS) (Lm' Lc' : List Nat), LJ tc am ad q0 o X2 X2 (v).toInt64 S' Lm' Lc' → V l D tc A p e R s m args below meth c 7 Q S' (k + mc) (n + ms) 1179 [some (.ref b), some (.ref q0), some (.ref am), some (.ref o), some (.int (nI i)), none, none] []) : V l D tc A p e R s m args below meth c 7 Q S k n 801 [some (.ref b), some (.ref q0), some (.ref am), some (.ref o), some (.int (nI i)), none, none] [] := by
  subst hx1; subst hx2
  exact k_client h hls hX hbl hbA hi hL hJ (g_client hls hJ hM) hR h0 (by decide) (fun _ => rfl) (by omega) hdR hfr hlo hro hrs (fun S' Lm' Lc' hJ' => kk S' Lm' Lc' (hJ'.mono hE hA))
theorem e_client_t1 (h : CX l D tc A p s m args meth c code 7 RL Ts) (hls : l.stackTraces = false) (hX : va_X b L xs s s.heap) (hbl : b < s.heap.size) (hbA : ¬ A b) (hi : i + 4 < L) (hL : L < 2 ^ 31) (hJ : LJ tc am ad q0 o X Y yv S Lm Lc) {x1 x2 : Int32} (hx1 : xs (i + 1) = x1) (hx2 : xs (i + 2) = x2) {v : Int32}
    (hT : ∀ (S1 : HS) (ax ay : Nat → Nat → Nat), RA tc (mx ax ay) Y S1 → CT l D tc yX10_client cX10_client 4 (some .int) 7 1 6 [.ref (ax 10 0), .int x1, .int x2] S1 "java/lang/IndexOutOfBoundsException")
    (hR : RM l D tc am ad yX11_client cX11_client 4 (some .int) dR [.ref am, .int x1, .int x2] X (some (.int (v))) F) (hF : F = sf (sf X 0 0) 0 1) (hA : AG X Y) (hdR : dR ≤ 13) (hfr : 16 ≤ R.frames) (hlo : 626 ≤ R.locals) (hro : k + 1 ≤ R.cells) (hrs : n + 6 ≤ R.slots)
    (kk : ∀ (S' : HS) (Lm' Lc' : List Nat), LJ tc am ad q0 o (sf (sf X 0 0) 0 1) (sf (sf X 0 0) 0 1) yv S' Lm' Lc' → V l D tc A p e R s m args below meth c 7 Q S' (k + 1) (n + 6) 1179 [some (.ref b), some (.ref q0), some (.ref am), some (.ref o), some (.int (nI i)), none, none] []) : V l D tc A p e R s m args below meth c 7 Q S k n 801 [some (.ref b), some (.ref q0), some (.ref am), some (.ref o), some (.int (nI i)), none, none] [] := by
  subst hx1; subst hx2
  subst hF
  obtain ⟨ax, ay, hq, hRA⟩ := hJ.ra
  have hC := hT _ ax ay hRA
  rw [hq] at hC
  have ag := AG.s0 (v := 1) (A := sf X 0 0)
  refine k_client (kx := 1) h hls hX hbl hbA hi hL hJ (w_client_t1 (post := fun v' S' => v' = some (.int (nI 1)) ∧ (∃ ax ay, ax 10 0 = q0 ∧ RA tc (mx ax ay) Y S') ∧ OU o S' yv) hls hJ.ou hJ.q.1 hJ.q.2 hC ⟨rfl, hJ.ra, hJ.2.2.2.2.2.2.2⟩) hR rfl (by decide) (fun z => absurd z (by decide)) (by decide) hdR hfr hlo hro hrs (fun S' Lm' Lc' hJ' => kk S' Lm' Lc' ?_)
  have h1 := (hJ'.two (Y' := X) hA).mono EQ.rfl (AG.s0 (A := X) (v := 0))
  exact h1.mono EQ.rfl ag
theorem e_client_t2 (h : CX l D tc A p s m args meth c code 7 RL Ts) (hls : l.stackTraces = false) (hX : va_X b L xs s s.heap) (hbl : b < s.heap.size) (hbA : ¬ A b) (hi : i + 4 < L) (hL : L < 2 ^ 31) (hJ : LJ tc am ad q0 o X Y yv S Lm Lc) {x1 x2 : Int32} (hx1 : xs (i + 1) = x1) (hx2 : xs (i + 2) = x2) {v : Int32}
    (hT : ∀ (S1 : HS) (ax ay : Nat → Nat → Nat), RA tc (mx ax ay) Y S1 → CT l D tc yX10_client cX10_client 4 (some .int) 7 1 6 [.ref (ax 10 0), .int x1, .int x2] S1 "java/lang/IllegalArgumentException")
    (hR : RM l D tc am ad yX11_client cX11_client 4 (some .int) dR [.ref am, .int x1, .int x2] X (some (.int (v))) F) (hF : F = sf (sf X 0 0) 0 2) (hA : AG X Y) (hdR : dR ≤ 13) (hfr : 16 ≤ R.frames) (hlo : 626 ≤ R.locals) (hro : k + 1 ≤ R.cells) (hrs : n + 6 ≤ R.slots)
    (kk : ∀ (S' : HS) (Lm' Lc' : List Nat), LJ tc am ad q0 o (sf (sf X 0 0) 0 2) (sf (sf X 0 0) 0 2) yv S' Lm' Lc' → V l D tc A p e R s m args below meth c 7 Q S' (k + 1) (n + 6) 1179 [some (.ref b), some (.ref q0), some (.ref am), some (.ref o), some (.int (nI i)), none, none] []) : V l D tc A p e R s m args below meth c 7 Q S k n 801 [some (.ref b), some (.ref q0), some (.ref am), some (.ref o), some (.int (nI i)), none, none] [] := by
  subst hx1; subst hx2
  subst hF
  obtain ⟨ax, ay, hq, hRA⟩ := hJ.ra
  have hC := hT _ ax ay hRA
  rw [hq] at hC
  have ag := AG.s0 (v := 2) (A := sf X 0 0)
  refine k_client (kx := 2) h hls hX hbl hbA hi hL hJ (w_client_t2 (post := fun v' S' => v' = some (.int (nI 2)) ∧ (∃ ax ay, ax 10 0 = q0 ∧ RA tc (mx ax ay) Y S') ∧ OU o S' yv) hls hJ.ou hJ.q.1 hJ.q.2 hC ⟨rfl, hJ.ra, hJ.2.2.2.2.2.2.2⟩) hR rfl (by decide) (fun z => absurd z (by decide)) (by decide) hdR hfr hlo hro hrs (fun S' Lm' Lc' hJ' => kk S' Lm' Lc' ?_)
  have h1 := (hJ'.two (Y' := X) hA).mono EQ.rfl (AG.s0 (A := X) (v := 0))
  exact h1.mono EQ.rfl ag
theorem g_master (hls : l.stackTraces = false) (hJ : LJ tc am ad q0 o X Y yv S Lm Lc) {x1 x2 : Int32} {v : Int32} (hM : ∀ (S1 : HS) (ax ay : Nat → Nat → Nat), ax 10 0 = q0 → RA tc (mx ax ay) Y S1 → CM l D tc yX10_master cX10_master 4 (some .int) d mc ms [.ref (ax 10 0), .int x1, .int x2] S1 (fun v' S2 => v' = some (.int (v)) ∧ ∃ ax' ay', ax' 10 0 = q0 ∧ RA tc (mx ax' ay') C S2)) :
    CMH l D tc yL_master [(0, 10, 13, 13), (0, 10, 17, 15)] cL_master 5 (some .int) (d + 1) mc ms [.ref q0, .int x1, .int x2, .ref o] (zSub S Lc) (fun v' S' => v' = some (.int (nI 0)) ∧ (∃ ax ay, ax 10 0 = q0 ∧ RA tc (mx ax ay) C S') ∧ OU o S' (v).toInt64) := by
  obtain ⟨ax, ay, hq, hR⟩ := hJ.raw
  have hC := hM _ ax ay hq hR
  rw [hq] at hC
  exact w_master hls hJ.ou hJ.q.1 hJ.q.2 hC (fun v' S' h => ⟨v, h.1, fun ho => ⟨rfl, (wp_put hJ.ou ho h.2).1, (wp_put hJ.ou ho h.2).2⟩⟩)
theorem e_master (h : CX l D tc A p s m args meth c code 7 RL Ts) (hls : l.stackTraces = false) (hX : va_X b L xs s s.heap) (hbl : b < s.heap.size) (hbA : ¬ A b) (hi : i + 4 < L) (hL : L < 2 ^ 31) (hJ : LJ tc am ad q0 o X Y yv S Lm Lc) {x1 x2 : Int32} (hx1 : xs (i + 1) = x1) (hx2 : xs (i + 2) = x2) {v : Int32}
    (hM : ∀ (S1 : HS) (ax ay : Nat → Nat → Nat), ax 10 0 = q0 → RA tc (mx ax ay) Y S1 → CM l D tc yX10_master cX10_master 4 (some .int) d mc ms [.ref (ax 10 0), .int x1, .int x2] S1 (fun v' S2 => v' = some (.int (v)) ∧ ∃ ax' ay', ax' 10 0 = q0 ∧ RA tc (mx ax' ay') C S2))
    (hR : RM l D tc am ad yX11_master cX11_master 3 (some .int) dR [.ref am, .int x1, .int x2] X (some (.int (v))) F) (h0 : tf F 0 = 0) (hE : EQ F X2) (hA : AG X2 C) (hd : d ≤ 12) (hdR : dR ≤ 13) (hfr : 16 ≤ R.frames) (hlo : 626 ≤ R.locals) (hro : k + mc ≤ R.cells) (hrs : n + ms ≤ R.slots)
    (kk : ∀ (S' : HS) (Lm' Lc' : List Nat), LJ tc am ad q0 o X2 X2 (v).toInt64 S' Lm' Lc' → V l D tc A p e R s m args below meth c 7 Q S' (k + mc) (n + ms) 1179 [some (.ref b), some (.ref q0), some (.ref am), some (.ref o), some (.int (nI i)), none, none] []) : V l D tc A p e R s m args below meth c 7 Q S k n 869 [some (.ref b), some (.ref q0), some (.ref am), some (.ref o), some (.int (nI i)), none, none] [] := by
  subst hx1; subst hx2
  exact k_master h hls hX hbl hbA hi hL hJ (g_master hls hJ hM) hR h0 (by decide) (fun _ => rfl) (by omega) hdR hfr hlo hro hrs (fun S' Lm' Lc' hJ' => kk S' Lm' Lc' (hJ'.mono hE hA))
theorem e_master_t1 (h : CX l D tc A p s m args meth c code 7 RL Ts) (hls : l.stackTraces = false) (hX : va_X b L xs s s.heap) (hbl : b < s.heap.size) (hbA : ¬ A b) (hi : i + 4 < L) (hL : L < 2 ^ 31) (hJ : LJ tc am ad q0 o X Y yv S Lm Lc) {x1 x2 : Int32} (hx1 : xs (i + 1) = x1) (hx2 : xs (i + 2) = x2) {v : Int32}
    (hT : ∀ (S1 : HS) (ax ay : Nat → Nat → Nat), RA tc (mx ax ay) Y S1 → CT l D tc yX10_master cX10_master 4 (some .int) 7 1 6 [.ref (ax 10 0), .int x1, .int x2] S1 "java/lang/IndexOutOfBoundsException")
    (hR : RM l D tc am ad yX11_master cX11_master 3 (some .int) dR [.ref am, .int x1, .int x2] X (some (.int (v))) F) (hF : F = sf (sf X 0 0) 0 1) (hA : AG X Y) (hdR : dR ≤ 13) (hfr : 16 ≤ R.frames) (hlo : 626 ≤ R.locals) (hro : k + 1 ≤ R.cells) (hrs : n + 6 ≤ R.slots)
    (kk : ∀ (S' : HS) (Lm' Lc' : List Nat), LJ tc am ad q0 o (sf (sf X 0 0) 0 1) (sf (sf X 0 0) 0 1) yv S' Lm' Lc' → V l D tc A p e R s m args below meth c 7 Q S' (k + 1) (n + 6) 1179 [some (.ref b), some (.ref q0), some (.ref am), some (.ref o), some (.int (nI i)), none, none] []) : V l D tc A p e R s m args below meth c 7 Q S k n 869 [some (.ref b), some (.ref q0), some (.ref am), some (.ref o), some (.int (nI i)), none, none] [] := by
  subst hx1; subst hx2
  subst hF
  obtain ⟨ax, ay, hq, hRA⟩ := hJ.ra
  have hC := hT _ ax ay hRA
  rw [hq] at hC
  have ag := AG.s0 (v := 1) (A := sf X 0 0)
  refine k_master (kx := 1) h hls hX hbl hbA hi hL hJ (w_master_t1 (post := fun v' S' => v' = some (.int (nI 1)) ∧ (∃ ax ay, ax 10 0 = q0 ∧ RA tc (mx ax ay) Y S') ∧ OU o S' yv) hls hJ.ou hJ.q.1 hJ.q.2 hC ⟨rfl, hJ.ra, hJ.2.2.2.2.2.2.2⟩) hR rfl (by decide) (fun z => absurd z (by decide)) (by decide) hdR hfr hlo hro hrs (fun S' Lm' Lc' hJ' => kk S' Lm' Lc' ?_)
  have h1 := (hJ'.two (Y' := X) hA).mono EQ.rfl (AG.s0 (A := X) (v := 0))
  exact h1.mono EQ.rfl ag
theorem e_master_t2 (h : CX l D tc A p s m args meth c code 7 RL Ts) (hls : l.stackTraces = false) (hX : va_X b L xs s s.heap) (hbl : b < s.heap.size) (hbA : ¬ A b) (hi : i + 4 < L) (hL : L < 2 ^ 31) (hJ : LJ tc am ad q0 o X Y yv S Lm Lc) {x1 x2 : Int32} (hx1 : xs (i + 1) = x1) (hx2 : xs (i + 2) = x2) {v : Int32}
    (hT : ∀ (S1 : HS) (ax ay : Nat → Nat → Nat), RA tc (mx ax ay) Y S1 → CT l D tc yX10_master cX10_master 4 (some .int) 7 1 6 [.ref (ax 10 0), .int x1, .int x2] S1 "java/lang/IllegalArgumentException")
    (hR : RM l D tc am ad yX11_master cX11_master 3 (some .int) dR [.ref am, .int x1, .int x2] X (some (.int (v))) F) (hF : F = sf (sf X 0 0) 0 2) (hA : AG X Y) (hdR : dR ≤ 13) (hfr : 16 ≤ R.frames) (hlo : 626 ≤ R.locals) (hro : k + 1 ≤ R.cells) (hrs : n + 6 ≤ R.slots)
    (kk : ∀ (S' : HS) (Lm' Lc' : List Nat), LJ tc am ad q0 o (sf (sf X 0 0) 0 2) (sf (sf X 0 0) 0 2) yv S' Lm' Lc' → V l D tc A p e R s m args below meth c 7 Q S' (k + 1) (n + 6) 1179 [some (.ref b), some (.ref q0), some (.ref am), some (.ref o), some (.int (nI i)), none, none] []) : V l D tc A p e R s m args below meth c 7 Q S k n 869 [some (.ref b), some (.ref q0), some (.ref am), some (.ref o), some (.int (nI i)), none, none] [] := by
  subst hx1; subst hx2
  subst hF
  obtain ⟨ax, ay, hq, hRA⟩ := hJ.ra
  have hC := hT _ ax ay hRA
  rw [hq] at hC
  have ag := AG.s0 (v := 2) (A := sf X 0 0)
  refine k_master (kx := 2) h hls hX hbl hbA hi hL hJ (w_master_t2 (post := fun v' S' => v' = some (.int (nI 2)) ∧ (∃ ax ay, ax 10 0 = q0 ∧ RA tc (mx ax ay) Y S') ∧ OU o S' yv) hls hJ.ou hJ.q.1 hJ.q.2 hC ⟨rfl, hJ.ra, hJ.2.2.2.2.2.2.2⟩) hR rfl (by decide) (fun z => absurd z (by decide)) (by decide) hdR hfr hlo hro hrs (fun S' Lm' Lc' hJ' => kk S' Lm' Lc' ?_)
  have h1 := (hJ'.two (Y' := X) hA).mono EQ.rfl (AG.s0 (A := X) (v := 0))
  exact h1.mono EQ.rfl ag
theorem g_value (hls : l.stackTraces = false) (hJ : LJ tc am ad q0 o X Y yv S Lm Lc) {x1 x2 : Int32} {v : Int32} (hM : ∀ (S1 : HS) (ax ay : Nat → Nat → Nat), ax 10 0 = q0 → RA tc (mx ax ay) Y S1 → CM l D tc yX10_value cX10_value 3 (some .int) d mc ms [.ref (ax 10 0), .int x1, .int x2] S1 (fun v' S2 => v' = some (.int (v)) ∧ ∃ ax' ay', ax' 10 0 = q0 ∧ RA tc (mx ax' ay') C S2)) :
    CMH l D tc yL_value [(0, 10, 13, 13)] cL_value 5 (some .int) (d + 1) mc ms [.ref q0, .int x1, .int x2, .ref o] (zSub S Lc) (fun v' S' => v' = some (.int (nI 0)) ∧ (∃ ax ay, ax 10 0 = q0 ∧ RA tc (mx ax ay) C S') ∧ OU o S' (v).toInt64) := by
  obtain ⟨ax, ay, hq, hR⟩ := hJ.raw
  have hC := hM _ ax ay hq hR
  rw [hq] at hC
  exact w_value hls hJ.ou hJ.q.1 hJ.q.2 hC (fun v' S' h => ⟨v, h.1, fun ho => ⟨rfl, (wp_put hJ.ou ho h.2).1, (wp_put hJ.ou ho h.2).2⟩⟩)
theorem e_value (h : CX l D tc A p s m args meth c code 7 RL Ts) (hls : l.stackTraces = false) (hX : va_X b L xs s s.heap) (hbl : b < s.heap.size) (hbA : ¬ A b) (hi : i + 4 < L) (hL : L < 2 ^ 31) (hJ : LJ tc am ad q0 o X Y yv S Lm Lc) {x1 x2 : Int32} (hx1 : xs (i + 1) = x1) (hx2 : xs (i + 2) = x2) {v : Int32}
    (hM : ∀ (S1 : HS) (ax ay : Nat → Nat → Nat), ax 10 0 = q0 → RA tc (mx ax ay) Y S1 → CM l D tc yX10_value cX10_value 3 (some .int) d mc ms [.ref (ax 10 0), .int x1, .int x2] S1 (fun v' S2 => v' = some (.int (v)) ∧ ∃ ax' ay', ax' 10 0 = q0 ∧ RA tc (mx ax' ay') C S2))
    (hR : RM l D tc am ad yX11_value cX11_value 3 (some .int) dR [.ref am, .int x1, .int x2] X (some (.int (v))) F) (h0 : tf F 0 = 0) (hE : EQ F X2) (hA : AG X2 C) (hd : d ≤ 12) (hdR : dR ≤ 13) (hfr : 16 ≤ R.frames) (hlo : 626 ≤ R.locals) (hro : k + mc ≤ R.cells) (hrs : n + ms ≤ R.slots)
    (kk : ∀ (S' : HS) (Lm' Lc' : List Nat), LJ tc am ad q0 o X2 X2 (v).toInt64 S' Lm' Lc' → V l D tc A p e R s m args below meth c 7 Q S' (k + mc) (n + ms) 1179 [some (.ref b), some (.ref q0), some (.ref am), some (.ref o), some (.int (nI i)), none, none] []) : V l D tc A p e R s m args below meth c 7 Q S k n 937 [some (.ref b), some (.ref q0), some (.ref am), some (.ref o), some (.int (nI i)), none, none] [] := by
  subst hx1; subst hx2
  exact k_value h hls hX hbl hbA hi hL hJ (g_value hls hJ hM) hR h0 (by decide) (fun _ => rfl) (by omega) hdR hfr hlo hro hrs (fun S' Lm' Lc' hJ' => kk S' Lm' Lc' (hJ'.mono hE hA))
theorem e_value_t1 (h : CX l D tc A p s m args meth c code 7 RL Ts) (hls : l.stackTraces = false) (hX : va_X b L xs s s.heap) (hbl : b < s.heap.size) (hbA : ¬ A b) (hi : i + 4 < L) (hL : L < 2 ^ 31) (hJ : LJ tc am ad q0 o X Y yv S Lm Lc) {x1 x2 : Int32} (hx1 : xs (i + 1) = x1) (hx2 : xs (i + 2) = x2) {v : Int32}
    (hT : ∀ (S1 : HS) (ax ay : Nat → Nat → Nat), RA tc (mx ax ay) Y S1 → CT l D tc yX10_value cX10_value 3 (some .int) 7 1 6 [.ref (ax 10 0), .int x1, .int x2] S1 "java/lang/IndexOutOfBoundsException")
    (hR : RM l D tc am ad yX11_value cX11_value 3 (some .int) dR [.ref am, .int x1, .int x2] X (some (.int (v))) F) (hF : F = sf (sf X 0 0) 0 1) (hA : AG X Y) (hdR : dR ≤ 13) (hfr : 16 ≤ R.frames) (hlo : 626 ≤ R.locals) (hro : k + 1 ≤ R.cells) (hrs : n + 6 ≤ R.slots)
    (kk : ∀ (S' : HS) (Lm' Lc' : List Nat), LJ tc am ad q0 o (sf (sf X 0 0) 0 1) (sf (sf X 0 0) 0 1) yv S' Lm' Lc' → V l D tc A p e R s m args below meth c 7 Q S' (k + 1) (n + 6) 1179 [some (.ref b), some (.ref q0), some (.ref am), some (.ref o), some (.int (nI i)), none, none] []) : V l D tc A p e R s m args below meth c 7 Q S k n 937 [some (.ref b), some (.ref q0), some (.ref am), some (.ref o), some (.int (nI i)), none, none] [] := by
  subst hx1; subst hx2
  subst hF
  obtain ⟨ax, ay, hq, hRA⟩ := hJ.ra
  have hC := hT _ ax ay hRA
  rw [hq] at hC
  have ag := AG.s0 (v := 1) (A := sf X 0 0)
  refine k_value (kx := 1) h hls hX hbl hbA hi hL hJ (w_value_t1 (post := fun v' S' => v' = some (.int (nI 1)) ∧ (∃ ax ay, ax 10 0 = q0 ∧ RA tc (mx ax ay) Y S') ∧ OU o S' yv) hls hJ.ou hJ.q.1 hJ.q.2 hC ⟨rfl, hJ.ra, hJ.2.2.2.2.2.2.2⟩) hR rfl (by decide) (fun z => absurd z (by decide)) (by decide) hdR hfr hlo hro hrs (fun S' Lm' Lc' hJ' => kk S' Lm' Lc' ?_)
  have h1 := (hJ'.two (Y' := X) hA).mono EQ.rfl (AG.s0 (A := X) (v := 0))
  exact h1.mono EQ.rfl ag
theorem g_backup (hls : l.stackTraces = false) (hJ : LJ tc am ad q0 o X Y yv S Lm Lc) {x1 x2 : Int32} {v : Int32} (hM : ∀ (S1 : HS) (ax ay : Nat → Nat → Nat), ax 10 0 = q0 → RA tc (mx ax ay) Y S1 → CM l D tc yX10_backup cX10_backup 4 (some .int) d mc ms [.ref (ax 10 0), .int x1, .int x2] S1 (fun v' S2 => v' = some (.int (v)) ∧ ∃ ax' ay', ax' 10 0 = q0 ∧ RA tc (mx ax' ay') C S2)) :
    CMH l D tc yL_backup [(0, 10, 13, 13), (0, 10, 17, 15)] cL_backup 5 (some .int) (d + 1) mc ms [.ref q0, .int x1, .int x2, .ref o] (zSub S Lc) (fun v' S' => v' = some (.int (nI 0)) ∧ (∃ ax ay, ax 10 0 = q0 ∧ RA tc (mx ax ay) C S') ∧ OU o S' (v).toInt64) := by
  obtain ⟨ax, ay, hq, hR⟩ := hJ.raw
  have hC := hM _ ax ay hq hR
  rw [hq] at hC
  exact w_backup hls hJ.ou hJ.q.1 hJ.q.2 hC (fun v' S' h => ⟨v, h.1, fun ho => ⟨rfl, (wp_put hJ.ou ho h.2).1, (wp_put hJ.ou ho h.2).2⟩⟩)
theorem e_backup (h : CX l D tc A p s m args meth c code 7 RL Ts) (hls : l.stackTraces = false) (hX : va_X b L xs s s.heap) (hbl : b < s.heap.size) (hbA : ¬ A b) (hi : i + 4 < L) (hL : L < 2 ^ 31) (hJ : LJ tc am ad q0 o X Y yv S Lm Lc) {x1 x2 : Int32} (hx1 : xs (i + 1) = x1) (hx2 : xs (i + 2) = x2) {v : Int32}
    (hM : ∀ (S1 : HS) (ax ay : Nat → Nat → Nat), ax 10 0 = q0 → RA tc (mx ax ay) Y S1 → CM l D tc yX10_backup cX10_backup 4 (some .int) d mc ms [.ref (ax 10 0), .int x1, .int x2] S1 (fun v' S2 => v' = some (.int (v)) ∧ ∃ ax' ay', ax' 10 0 = q0 ∧ RA tc (mx ax' ay') C S2))
    (hR : RM l D tc am ad yX11_backup cX11_backup 3 (some .int) dR [.ref am, .int x1, .int x2] X (some (.int (v))) F) (h0 : tf F 0 = 0) (hE : EQ F X2) (hA : AG X2 C) (hd : d ≤ 12) (hdR : dR ≤ 13) (hfr : 16 ≤ R.frames) (hlo : 626 ≤ R.locals) (hro : k + mc ≤ R.cells) (hrs : n + ms ≤ R.slots)
    (kk : ∀ (S' : HS) (Lm' Lc' : List Nat), LJ tc am ad q0 o X2 X2 (v).toInt64 S' Lm' Lc' → V l D tc A p e R s m args below meth c 7 Q S' (k + mc) (n + ms) 1179 [some (.ref b), some (.ref q0), some (.ref am), some (.ref o), some (.int (nI i)), none, none] []) : V l D tc A p e R s m args below meth c 7 Q S k n 1005 [some (.ref b), some (.ref q0), some (.ref am), some (.ref o), some (.int (nI i)), none, none] [] := by
  subst hx1; subst hx2
  exact k_backup h hls hX hbl hbA hi hL hJ (g_backup hls hJ hM) hR h0 (by decide) (fun _ => rfl) (by omega) hdR hfr hlo hro hrs (fun S' Lm' Lc' hJ' => kk S' Lm' Lc' (hJ'.mono hE hA))
theorem e_backup_t1 (h : CX l D tc A p s m args meth c code 7 RL Ts) (hls : l.stackTraces = false) (hX : va_X b L xs s s.heap) (hbl : b < s.heap.size) (hbA : ¬ A b) (hi : i + 4 < L) (hL : L < 2 ^ 31) (hJ : LJ tc am ad q0 o X Y yv S Lm Lc) {x1 x2 : Int32} (hx1 : xs (i + 1) = x1) (hx2 : xs (i + 2) = x2) {v : Int32}
    (hT : ∀ (S1 : HS) (ax ay : Nat → Nat → Nat), RA tc (mx ax ay) Y S1 → CT l D tc yX10_backup cX10_backup 4 (some .int) 7 1 6 [.ref (ax 10 0), .int x1, .int x2] S1 "java/lang/IndexOutOfBoundsException")
    (hR : RM l D tc am ad yX11_backup cX11_backup 3 (some .int) dR [.ref am, .int x1, .int x2] X (some (.int (v))) F) (hF : F = sf (sf X 0 0) 0 1) (hA : AG X Y) (hdR : dR ≤ 13) (hfr : 16 ≤ R.frames) (hlo : 626 ≤ R.locals) (hro : k + 1 ≤ R.cells) (hrs : n + 6 ≤ R.slots)
    (kk : ∀ (S' : HS) (Lm' Lc' : List Nat), LJ tc am ad q0 o (sf (sf X 0 0) 0 1) (sf (sf X 0 0) 0 1) yv S' Lm' Lc' → V l D tc A p e R s m args below meth c 7 Q S' (k + 1) (n + 6) 1179 [some (.ref b), some (.ref q0), some (.ref am), some (.ref o), some (.int (nI i)), none, none] []) : V l D tc A p e R s m args below meth c 7 Q S k n 1005 [some (.ref b), some (.ref q0), some (.ref am), some (.ref o), some (.int (nI i)), none, none] [] := by
  subst hx1; subst hx2
  subst hF
  obtain ⟨ax, ay, hq, hRA⟩ := hJ.ra
  have hC := hT _ ax ay hRA
  rw [hq] at hC
  have ag := AG.s0 (v := 1) (A := sf X 0 0)
  refine k_backup (kx := 1) h hls hX hbl hbA hi hL hJ (w_backup_t1 (post := fun v' S' => v' = some (.int (nI 1)) ∧ (∃ ax ay, ax 10 0 = q0 ∧ RA tc (mx ax ay) Y S') ∧ OU o S' yv) hls hJ.ou hJ.q.1 hJ.q.2 hC ⟨rfl, hJ.ra, hJ.2.2.2.2.2.2.2⟩) hR rfl (by decide) (fun z => absurd z (by decide)) (by decide) hdR hfr hlo hro hrs (fun S' Lm' Lc' hJ' => kk S' Lm' Lc' ?_)
  have h1 := (hJ'.two (Y' := X) hA).mono EQ.rfl (AG.s0 (A := X) (v := 0))
  exact h1.mono EQ.rfl ag
theorem e_backup_t2 (h : CX l D tc A p s m args meth c code 7 RL Ts) (hls : l.stackTraces = false) (hX : va_X b L xs s s.heap) (hbl : b < s.heap.size) (hbA : ¬ A b) (hi : i + 4 < L) (hL : L < 2 ^ 31) (hJ : LJ tc am ad q0 o X Y yv S Lm Lc) {x1 x2 : Int32} (hx1 : xs (i + 1) = x1) (hx2 : xs (i + 2) = x2) {v : Int32}
    (hT : ∀ (S1 : HS) (ax ay : Nat → Nat → Nat), RA tc (mx ax ay) Y S1 → CT l D tc yX10_backup cX10_backup 4 (some .int) 7 1 6 [.ref (ax 10 0), .int x1, .int x2] S1 "java/lang/IllegalArgumentException")
    (hR : RM l D tc am ad yX11_backup cX11_backup 3 (some .int) dR [.ref am, .int x1, .int x2] X (some (.int (v))) F) (hF : F = sf (sf X 0 0) 0 2) (hA : AG X Y) (hdR : dR ≤ 13) (hfr : 16 ≤ R.frames) (hlo : 626 ≤ R.locals) (hro : k + 1 ≤ R.cells) (hrs : n + 6 ≤ R.slots)
    (kk : ∀ (S' : HS) (Lm' Lc' : List Nat), LJ tc am ad q0 o (sf (sf X 0 0) 0 2) (sf (sf X 0 0) 0 2) yv S' Lm' Lc' → V l D tc A p e R s m args below meth c 7 Q S' (k + 1) (n + 6) 1179 [some (.ref b), some (.ref q0), some (.ref am), some (.ref o), some (.int (nI i)), none, none] []) : V l D tc A p e R s m args below meth c 7 Q S k n 1005 [some (.ref b), some (.ref q0), some (.ref am), some (.ref o), some (.int (nI i)), none, none] [] := by
  subst hx1; subst hx2
  subst hF
  obtain ⟨ax, ay, hq, hRA⟩ := hJ.ra
  have hC := hT _ ax ay hRA
  rw [hq] at hC
  have ag := AG.s0 (v := 2) (A := sf X 0 0)
  refine k_backup (kx := 2) h hls hX hbl hbA hi hL hJ (w_backup_t2 (post := fun v' S' => v' = some (.int (nI 2)) ∧ (∃ ax ay, ax 10 0 = q0 ∧ RA tc (mx ax ay) Y S') ∧ OU o S' yv) hls hJ.ou hJ.q.1 hJ.q.2 hC ⟨rfl, hJ.ra, hJ.2.2.2.2.2.2.2⟩) hR rfl (by decide) (fun z => absurd z (by decide)) (by decide) hdR hfr hlo hro hrs (fun S' Lm' Lc' hJ' => kk S' Lm' Lc' ?_)
  have h1 := (hJ'.two (Y' := X) hA).mono EQ.rfl (AG.s0 (A := X) (v := 0))
  exact h1.mono EQ.rfl ag
theorem g_witness (hls : l.stackTraces = false) (hJ : LJ tc am ad q0 o X Y yv S Lm Lc) {x1 x2 : Int32} {v : Int32} (hM : ∀ (S1 : HS) (ax ay : Nat → Nat → Nat), ax 10 0 = q0 → RA tc (mx ax ay) Y S1 → CM l D tc yX10_witness cX10_witness 4 (some .int) d mc ms [.ref (ax 10 0), .int x1, .int x2] S1 (fun v' S2 => v' = some (.int (v)) ∧ ∃ ax' ay', ax' 10 0 = q0 ∧ RA tc (mx ax' ay') C S2)) :
    CMH l D tc yL_witness [(0, 10, 13, 13), (0, 10, 17, 15)] cL_witness 5 (some .int) (d + 1) mc ms [.ref q0, .int x1, .int x2, .ref o] (zSub S Lc) (fun v' S' => v' = some (.int (nI 0)) ∧ (∃ ax ay, ax 10 0 = q0 ∧ RA tc (mx ax ay) C S') ∧ OU o S' (v).toInt64) := by
  obtain ⟨ax, ay, hq, hR⟩ := hJ.raw
  have hC := hM _ ax ay hq hR
  rw [hq] at hC
  exact w_witness hls hJ.ou hJ.q.1 hJ.q.2 hC (fun v' S' h => ⟨v, h.1, fun ho => ⟨rfl, (wp_put hJ.ou ho h.2).1, (wp_put hJ.ou ho h.2).2⟩⟩)
theorem e_witness (h : CX l D tc A p s m args meth c code 7 RL Ts) (hls : l.stackTraces = false) (hX : va_X b L xs s s.heap) (hbl : b < s.heap.size) (hbA : ¬ A b) (hi : i + 4 < L) (hL : L < 2 ^ 31) (hJ : LJ tc am ad q0 o X Y yv S Lm Lc) {x1 x2 : Int32} (hx1 : xs (i + 1) = x1) (hx2 : xs (i + 2) = x2) {v : Int32}
    (hM : ∀ (S1 : HS) (ax ay : Nat → Nat → Nat), ax 10 0 = q0 → RA tc (mx ax ay) Y S1 → CM l D tc yX10_witness cX10_witness 4 (some .int) d mc ms [.ref (ax 10 0), .int x1, .int x2] S1 (fun v' S2 => v' = some (.int (v)) ∧ ∃ ax' ay', ax' 10 0 = q0 ∧ RA tc (mx ax' ay') C S2))
    (hR : RM l D tc am ad yX11_witness cX11_witness 5 (some .int) dR [.ref am, .int x1, .int x2] X (some (.int (v))) F) (h0 : tf F 0 = 0) (hE : EQ F X2) (hA : AG X2 C) (hd : d ≤ 12) (hdR : dR ≤ 13) (hfr : 16 ≤ R.frames) (hlo : 626 ≤ R.locals) (hro : k + mc ≤ R.cells) (hrs : n + ms ≤ R.slots)
    (kk : ∀ (S' : HS) (Lm' Lc' : List Nat), LJ tc am ad q0 o X2 X2 (v).toInt64 S' Lm' Lc' → V l D tc A p e R s m args below meth c 7 Q S' (k + mc) (n + ms) 1179 [some (.ref b), some (.ref q0), some (.ref am), some (.ref o), some (.int (nI i)), none, none] []) : V l D tc A p e R s m args below meth c 7 Q S k n 1073 [some (.ref b), some (.ref q0), some (.ref am), some (.ref o), some (.int (nI i)), none, none] [] := by
  subst hx1; subst hx2
  exact k_witness h hls hX hbl hbA hi hL hJ (g_witness hls hJ hM) hR h0 (by decide) (fun _ => rfl) (by omega) hdR hfr hlo hro hrs (fun S' Lm' Lc' hJ' => kk S' Lm' Lc' (hJ'.mono hE hA))
theorem e_witness_t1 (h : CX l D tc A p s m args meth c code 7 RL Ts) (hls : l.stackTraces = false) (hX : va_X b L xs s s.heap) (hbl : b < s.heap.size) (hbA : ¬ A b) (hi : i + 4 < L) (hL : L < 2 ^ 31) (hJ : LJ tc am ad q0 o X Y yv S Lm Lc) {x1 x2 : Int32} (hx1 : xs (i + 1) = x1) (hx2 : xs (i + 2) = x2) {v : Int32}
    (hT : ∀ (S1 : HS) (ax ay : Nat → Nat → Nat), RA tc (mx ax ay) Y S1 → CT l D tc yX10_witness cX10_witness 4 (some .int) 7 1 6 [.ref (ax 10 0), .int x1, .int x2] S1 "java/lang/IndexOutOfBoundsException")
    (hR : RM l D tc am ad yX11_witness cX11_witness 5 (some .int) dR [.ref am, .int x1, .int x2] X (some (.int (v))) F) (hF : F = sf (sf X 0 0) 0 1) (hA : AG X Y) (hdR : dR ≤ 13) (hfr : 16 ≤ R.frames) (hlo : 626 ≤ R.locals) (hro : k + 1 ≤ R.cells) (hrs : n + 6 ≤ R.slots)
    (kk : ∀ (S' : HS) (Lm' Lc' : List Nat), LJ tc am ad q0 o (sf (sf X 0 0) 0 1) (sf (sf X 0 0) 0 1) yv S' Lm' Lc' → V l D tc A p e R s m args below meth c 7 Q S' (k + 1) (n + 6) 1179 [some (.ref b), some (.ref q0), some (.ref am), some (.ref o), some (.int (nI i)), none, none] []) : V l D tc A p e R s m args below meth c 7 Q S k n 1073 [some (.ref b), some (.ref q0), some (.ref am), some (.ref o), some (.int (nI i)), none, none] [] := by
  subst hx1; subst hx2
  subst hF
  obtain ⟨ax, ay, hq, hRA⟩ := hJ.ra
  have hC := hT _ ax ay hRA
  rw [hq] at hC
  have ag := AG.s0 (v := 1) (A := sf X 0 0)
  refine k_witness (kx := 1) h hls hX hbl hbA hi hL hJ (w_witness_t1 (post := fun v' S' => v' = some (.int (nI 1)) ∧ (∃ ax ay, ax 10 0 = q0 ∧ RA tc (mx ax ay) Y S') ∧ OU o S' yv) hls hJ.ou hJ.q.1 hJ.q.2 hC ⟨rfl, hJ.ra, hJ.2.2.2.2.2.2.2⟩) hR rfl (by decide) (fun z => absurd z (by decide)) (by decide) hdR hfr hlo hro hrs (fun S' Lm' Lc' hJ' => kk S' Lm' Lc' ?_)
  have h1 := (hJ'.two (Y' := X) hA).mono EQ.rfl (AG.s0 (A := X) (v := 0))
  exact h1.mono EQ.rfl ag
theorem e_witness_t2 (h : CX l D tc A p s m args meth c code 7 RL Ts) (hls : l.stackTraces = false) (hX : va_X b L xs s s.heap) (hbl : b < s.heap.size) (hbA : ¬ A b) (hi : i + 4 < L) (hL : L < 2 ^ 31) (hJ : LJ tc am ad q0 o X Y yv S Lm Lc) {x1 x2 : Int32} (hx1 : xs (i + 1) = x1) (hx2 : xs (i + 2) = x2) {v : Int32}
    (hT : ∀ (S1 : HS) (ax ay : Nat → Nat → Nat), RA tc (mx ax ay) Y S1 → CT l D tc yX10_witness cX10_witness 4 (some .int) 7 1 6 [.ref (ax 10 0), .int x1, .int x2] S1 "java/lang/IllegalArgumentException")
    (hR : RM l D tc am ad yX11_witness cX11_witness 5 (some .int) dR [.ref am, .int x1, .int x2] X (some (.int (v))) F) (hF : F = sf (sf X 0 0) 0 2) (hA : AG X Y) (hdR : dR ≤ 13) (hfr : 16 ≤ R.frames) (hlo : 626 ≤ R.locals) (hro : k + 1 ≤ R.cells) (hrs : n + 6 ≤ R.slots)
    (kk : ∀ (S' : HS) (Lm' Lc' : List Nat), LJ tc am ad q0 o (sf (sf X 0 0) 0 2) (sf (sf X 0 0) 0 2) yv S' Lm' Lc' → V l D tc A p e R s m args below meth c 7 Q S' (k + 1) (n + 6) 1179 [some (.ref b), some (.ref q0), some (.ref am), some (.ref o), some (.int (nI i)), none, none] []) : V l D tc A p e R s m args below meth c 7 Q S k n 1073 [some (.ref b), some (.ref q0), some (.ref am), some (.ref o), some (.int (nI i)), none, none] [] := by
  subst hx1; subst hx2
  subst hF
  obtain ⟨ax, ay, hq, hRA⟩ := hJ.ra
  have hC := hT _ ax ay hRA
  rw [hq] at hC
  have ag := AG.s0 (v := 2) (A := sf X 0 0)
  refine k_witness (kx := 2) h hls hX hbl hbA hi hL hJ (w_witness_t2 (post := fun v' S' => v' = some (.int (nI 2)) ∧ (∃ ax ay, ax 10 0 = q0 ∧ RA tc (mx ax ay) Y S') ∧ OU o S' yv) hls hJ.ou hJ.q.1 hJ.q.2 hC ⟨rfl, hJ.ra, hJ.2.2.2.2.2.2.2⟩) hR rfl (by decide) (fun z => absurd z (by decide)) (by decide) hdR hfr hlo hro hrs (fun S' Lm' Lc' hJ' => kk S' Lm' Lc' ?_)
  have h1 := (hJ'.two (Y' := X) hA).mono EQ.rfl (AG.s0 (A := X) (v := 0))
  exact h1.mono EQ.rfl ag
end
