/-! ===== the law: cases of its loop ===== -/
theorem nI_e0 {x : Nat} (h : x ≤ 2) (z : nI x = 0) : x = 0 := by
  have : x = 0 ∨ x = 1 ∨ x = 2 := by omega
  rcases this with rfl | rfl | rfl
  · rfl
  · exact absurd z (by decide)
  · exact absurd z (by decide)
section
variable {l : Launch} {D : va_G} {tc : Nat → ClassId} {A : Nat → Prop} {p : Program} {e : Env} {R : Room} {s : State} {m : MethodId} {args : Array Value} {below : List Frame} {meth : Method} {c : Code} {Q : State → Prop} {S : HS} {k n : Nat} {Ts : List Cond} {am q0 o b L i kx dC dR mc ms : Nat} {ad : Nat → Nat} {xs : Nat → Int32} {X X' Y Y' : TS} {yv yv' : Int64} {Lm Lc : List Nat}
theorem k_ask (h : CX l D tc A p s m args meth c code 7 RL Ts) (hls : l.stackTraces = false) (hX : va_X b L xs s s.heap) (hbl : b < s.heap.size) (hbA : ¬ A b) (hi : i + 4 < L) (hL : L < 2 ^ 31) (hJ : LJ tc am ad q0 o X Y yv S Lm Lc) {v : Int32}
    (hC : CMH l D tc yL_ask [(0, 14, 17, 13), (0, 14, 21, 15)] cL_ask 7 (some .int) dC mc ms [.ref q0, .int (xs (i + 1)), .int (xs (i + 2)), .int (xs (i + 3)), .int (xs (i + 4)), .ref o] (zSub S Lc) (fun v' S' => v' = some (.int (nI kx)) ∧ (∃ ax ay, ax 10 0 = q0 ∧ RA tc (mx ax ay) Y' S') ∧ OU o S' yv'))
    (hR : RM l D tc am ad yX11_ask cX11_ask 6 (some .int) dR [.ref am, .int (xs (i + 1)), .int (xs (i + 2)), .int (xs (i + 3)), .int (xs (i + 4))] X (some (.int (v))) X') (hthr : tf X' 0 = kx) (hkx : kx ≤ 2) (hval : kx = 0 → yv' = (v).toInt64) (hd : dC ≤ 13) (hdR : dR ≤ 13) (hfr : 16 ≤ R.frames) (hlo : 626 ≤ R.locals) (hro : k + mc ≤ R.cells) (hrs : n + ms ≤ R.slots)
    (kk : ∀ (S' : HS) (Lm' Lc' : List Nat), LJ tc am ad q0 o X' Y' yv' S' Lm' Lc' → V l D tc A p e R s m args below meth c 7 Q S' (k + mc) (n + ms) 1179 [some (.ref b), some (.ref q0), some (.ref am), some (.ref o), some (.int (nI i)), none, none] []) : V l D tc A p e R s m args below meth c 7 Q S k n 160 [some (.ref b), some (.ref q0), some (.ref am), some (.ref o), some (.int (nI i)), none, none] [] := by
  refine V.blk h [(.aload_n 1, 1), (.aload_n 0, 1), (.iload 4, 2), (.iconst 1, 1), (.iadd, 1)] (by decide +kernel) (pc' := 166) (ls' := [some (.ref b), some (.ref q0), some (.ref am), some (.ref o), some (.int (nI i)), none, none]) (st' := [.int (nI i + nI 1), .ref b, .ref q0]) rfl rfl (Nat.le_of_ble_eq_true rfl) ?_
  refine V.top (v' := .int (nI (i + 1))) (by rw [nI_add]) ?_
  refine V.sld (pc := 166) h hX hbl hbA (show i + 1 < L by omega) hL (by decide +kernel) ?_
  refine V.blk h [(.aload_n 0, 1), (.iload 4, 2), (.iconst 2, 1), (.iadd, 1)] (by decide +kernel) (pc' := 172) (ls' := [some (.ref b), some (.ref q0), some (.ref am), some (.ref o), some (.int (nI i)), none, none]) (st' := [.int (nI i + nI 2), .ref b, .int (xs (i + 1)), .ref q0]) rfl rfl (Nat.le_of_ble_eq_true rfl) ?_
  refine V.top (v' := .int (nI (i + 2))) (by rw [nI_add]) ?_
  refine V.sld (pc := 172) h hX hbl hbA (show i + 2 < L by omega) hL (by decide +kernel) ?_
  refine V.blk h [(.aload_n 0, 1), (.iload 4, 2), (.iconst 3, 1), (.iadd, 1)] (by decide +kernel) (pc' := 178) (ls' := [some (.ref b), some (.ref q0), some (.ref am), some (.ref o), some (.int (nI i)), none, none]) (st' := [.int (nI i + nI 3), .ref b, .int (xs (i + 2)), .int (xs (i + 1)), .ref q0]) rfl rfl (Nat.le_of_ble_eq_true rfl) ?_
  refine V.top (v' := .int (nI (i + 3))) (by rw [nI_add]) ?_
  refine V.sld (pc := 178) h hX hbl hbA (show i + 3 < L by omega) hL (by decide +kernel) ?_
  refine V.blk h [(.aload_n 0, 1), (.iload 4, 2), (.iconst 4, 1), (.iadd, 1)] (by decide +kernel) (pc' := 184) (ls' := [some (.ref b), some (.ref q0), some (.ref am), some (.ref o), some (.int (nI i)), none, none]) (st' := [.int (nI i + nI 4), .ref b, .int (xs (i + 3)), .int (xs (i + 2)), .int (xs (i + 1)), .ref q0]) rfl rfl (Nat.le_of_ble_eq_true rfl) ?_
  refine V.top (v' := .int (nI (i + 4))) (by rw [nI_add]) ?_
  refine V.sld (pc := 184) h hX hbl hbA (show i + 4 < L by omega) hL (by decide +kernel) ?_
  refine V.blk h [(.aload_n 3, 1)] (by decide +kernel) (pc' := 186) (ls' := [some (.ref b), some (.ref q0), some (.ref am), some (.ref o), some (.int (nI i)), none, none]) (st' := [.ref o, .int (xs (i + 4)), .int (xs (i + 3)), .int (xs (i + 2)), .int (xs (i + 1)), .ref q0]) rfl rfl (Nat.le_of_ble_eq_true rfl) ?_
  refine V.ccall (pc := 186) (st := []) (np := 6) (As := [.ref q0, .int (xs (i + 1)), .int (xs (i + 2)), .int (xs (i + 3)), .int (xs (i + 4)), .ref o]) h hJ hC wc_L_ask wn_RL wm_RL_76 wt_L_ask (by decide +kernel) rfl (by omega) (by omega) hro hrs (by simp) (by decide +kernel) rfl (fun S1 Lc1 hJ1 => ?_)
  refine V.blk h [(.istore 5, 2), (.aload_n 2, 1), (.aload_n 0, 1), (.iload 4, 2), (.iconst 1, 1), (.iadd, 1)] (by decide +kernel) (pc' := 197) (ls' := [some (.ref b), some (.ref q0), some (.ref am), some (.ref o), some (.int (nI i)), some (.int (nI kx)), none]) (st' := [.int (nI i + nI 1), .ref b, .ref am]) rfl rfl (Nat.le_of_ble_eq_true rfl) ?_
  refine V.top (v' := .int (nI (i + 1))) (by rw [nI_add]) ?_
  refine V.sld (pc := 197) h hX hbl hbA (show i + 1 < L by omega) hL (by decide +kernel) ?_
  refine V.blk h [(.aload_n 0, 1), (.iload 4, 2), (.iconst 2, 1), (.iadd, 1)] (by decide +kernel) (pc' := 203) (ls' := [some (.ref b), some (.ref q0), some (.ref am), some (.ref o), some (.int (nI i)), some (.int (nI kx)), none]) (st' := [.int (nI i + nI 2), .ref b, .int (xs (i + 1)), .ref am]) rfl rfl (Nat.le_of_ble_eq_true rfl) ?_
  refine V.top (v' := .int (nI (i + 2))) (by rw [nI_add]) ?_
  refine V.sld (pc := 203) h hX hbl hbA (show i + 2 < L by omega) hL (by decide +kernel) ?_
  refine V.blk h [(.aload_n 0, 1), (.iload 4, 2), (.iconst 3, 1), (.iadd, 1)] (by decide +kernel) (pc' := 209) (ls' := [some (.ref b), some (.ref q0), some (.ref am), some (.ref o), some (.int (nI i)), some (.int (nI kx)), none]) (st' := [.int (nI i + nI 3), .ref b, .int (xs (i + 2)), .int (xs (i + 1)), .ref am]) rfl rfl (Nat.le_of_ble_eq_true rfl) ?_
  refine V.top (v' := .int (nI (i + 3))) (by rw [nI_add]) ?_
  refine V.sld (pc := 209) h hX hbl hbA (show i + 3 < L by omega) hL (by decide +kernel) ?_
  refine V.blk h [(.aload_n 0, 1), (.iload 4, 2), (.iconst 4, 1), (.iadd, 1)] (by decide +kernel) (pc' := 215) (ls' := [some (.ref b), some (.ref q0), some (.ref am), some (.ref o), some (.int (nI i)), some (.int (nI kx)), none]) (st' := [.int (nI i + nI 4), .ref b, .int (xs (i + 3)), .int (xs (i + 2)), .int (xs (i + 1)), .ref am]) rfl rfl (Nat.le_of_ble_eq_true rfl) ?_
  refine V.top (v' := .int (nI (i + 4))) (by rw [nI_add]) ?_
  refine V.sld (pc := 215) h hX hbl hbA (show i + 4 < L by omega) hL (by decide +kernel) ?_
  refine V.mcall (pc := 216) (st := []) (np := 4) (As := [.int (xs (i + 1)), .int (xs (i + 2)), .int (xs (i + 3)), .int (xs (i + 4))]) h hJ1 hR wc_X11_ask wn_RX11 (Or.inl wm_RL_79) wi_X11_ask we_X11_ask (by decide +kernel) rfl (by omega) (by omega) hro hrs (by simp) (by decide +kernel) rfl (fun S2 Lm2 hJ2 => ?_)
  refine V.blk h [(.istore 6, 2), (.aload_n 2, 1)] (by decide +kernel) (pc' := 222) (ls' := [some (.ref b), some (.ref q0), some (.ref am), some (.ref o), some (.int (nI i)), some (.int (nI kx)), some (.int (v))]) (st' := [.ref am]) rfl rfl (Nat.le_of_ble_eq_true rfl) ?_
  refine V.mcall (pc := 222) (st := []) (np := 0) (As := []) h hJ2 (r_thrown hls X') wc_X11_thrown wn_RX11 (Or.inl wm_RL_80) wi_X11_thrown we_X11_thrown (by decide +kernel) rfl (by omega) (by omega) hro hrs (by simp) (by decide +kernel) rfl (fun S3 Lm3 hJ3 => ?_)
  refine V.blk h [(.iload 5, 2)] (by decide +kernel) (pc' := 227) (ls' := [some (.ref b), some (.ref q0), some (.ref am), some (.ref o), some (.int (nI i)), some (.int (nI kx)), some (.int (v))]) (st' := [.int (nI kx), (.int (nI (tf X' 0)))]) rfl rfl (Nat.le_of_ble_eq_true rfl) ?_
  have fin : V l D tc A p e R s m args below meth c 7 Q S3 (k + mc) (n + ms) 249 [some (.ref b), some (.ref q0), some (.ref am), some (.ref o), some (.int (nI i)), some (.int (nI kx)), some (.int (v))] [] := by
    refine V.goto (pc := 249) h (off := 930) (by decide +kernel) (tgt := 1179) (by decide) ?_
    exact V.two (kk S3 Lm3 Lc1 hJ3)
  have hO3 : OU o S3 yv' := by
    have q := hJ3.2.2.2.2.2.2.2
    exact ⟨hJ3.2.1 o q.1, q.2⟩
  refine V.icmp_eq (pc := 227) h (off := 5) (by decide +kernel) (tgt := 232) (by decide) (fun _ => ?_) (fun z => absurd (by rw [hthr]) z)
  refine V.blk h [(.iload 5, 2)] (by decide +kernel) (pc' := 234) (ls' := [some (.ref b), some (.ref q0), some (.ref am), some (.ref o), some (.int (nI i)), some (.int (nI kx)), some (.int (v))]) (st' := [.int (nI kx)]) rfl rfl (Nat.le_of_ble_eq_true rfl) ?_
  refine V.if_ne (pc := 234) h (off := 15) (by decide +kernel) (tgt := 249) (by decide) (fun _ => fin) (fun z => ?_)
  have hv := hval (nI_e0 hkx z)
  refine V.blk h [(.aload_n 3, 1), (.iconst 0, 1)] (by decide +kernel) (pc' := 239) (ls' := [some (.ref b), some (.ref q0), some (.ref am), some (.ref o), some (.int (nI i)), some (.int (nI kx)), some (.int (v))]) (st' := [.int (nI 0), .ref o]) rfl rfl (Nat.le_of_ble_eq_true rfl) ?_
  refine V.lald (pc := 239) (M := 1) (i := 0) h hO3.1 hO3.2.1 hO3.2.2.1 (by decide) (by decide) (by decide +kernel) hO3.2.2.2 ?_
  refine V.blk h [(.iload 6, 2)] (by decide +kernel) (pc' := 242) (ls' := [some (.ref b), some (.ref q0), some (.ref am), some (.ref o), some (.int (nI i)), some (.int (nI kx)), some (.int (v))]) (st' := [.int (v), (.long yv')]) rfl rfl (Nat.le_of_ble_eq_true rfl) ?_
  refine V.i2l (pc := 242) h (by decide +kernel) ?_
  refine V.lcmp (pc := 243) h (by decide +kernel) ?_
  refine V.top (v' := .int 0) (by rw [hv, lg_same]) ?_
  exact V.if_eq (pc := 244) h (off := 5) (by decide +kernel) (tgt := 249) (by decide) (fun _ => fin) (fun z => absurd rfl z)
theorem k_retry (h : CX l D tc A p s m args meth c code 7 RL Ts) (hls : l.stackTraces = false) (hX : va_X b L xs s s.heap) (hbl : b < s.heap.size) (hbA : ¬ A b) (hi : i + 4 < L) (hL : L < 2 ^ 31) (hJ : LJ tc am ad q0 o X Y yv S Lm Lc) {v : Bool}
    (hC : CMH l D tc yL_retry [(0, 16, 19, 13)] cL_retry 4 (some .int) dC mc ms [.ref q0, .int (xs (i + 1)), .ref o] (zSub S Lc) (fun v' S' => v' = some (.int (nI kx)) ∧ (∃ ax ay, ax 10 0 = q0 ∧ RA tc (mx ax ay) Y' S') ∧ OU o S' yv'))
    (hR : RM l D tc am ad yX11_retry cX11_retry 2 (some .boolean) dR [.ref am, .int (xs (i + 1))] X (some (.int (bI v))) X') (hthr : tf X' 0 = kx) (hkx : kx ≤ 2) (hval : kx = 0 → yv' = (bI v).toInt64) (hd : dC ≤ 13) (hdR : dR ≤ 13) (hfr : 16 ≤ R.frames) (hlo : 626 ≤ R.locals) (hro : k + mc ≤ R.cells) (hrs : n + ms ≤ R.slots)
    (kk : ∀ (S' : HS) (Lm' Lc' : List Nat), LJ tc am ad q0 o X' Y' yv' S' Lm' Lc' → V l D tc A p e R s m args below meth c 7 Q S' (k + mc) (n + ms) 1179 [some (.ref b), some (.ref q0), some (.ref am), some (.ref o), some (.int (nI i)), none, none] []) : V l D tc A p e R s m args below meth c 7 Q S k n 252 [some (.ref b), some (.ref q0), some (.ref am), some (.ref o), some (.int (nI i)), none, none] [] := by
  refine V.blk h [(.aload_n 1, 1), (.aload_n 0, 1), (.iload 4, 2), (.iconst 1, 1), (.iadd, 1)] (by decide +kernel) (pc' := 258) (ls' := [some (.ref b), some (.ref q0), some (.ref am), some (.ref o), some (.int (nI i)), none, none]) (st' := [.int (nI i + nI 1), .ref b, .ref q0]) rfl rfl (Nat.le_of_ble_eq_true rfl) ?_
  refine V.top (v' := .int (nI (i + 1))) (by rw [nI_add]) ?_
  refine V.sld (pc := 258) h hX hbl hbA (show i + 1 < L by omega) hL (by decide +kernel) ?_
  refine V.blk h [(.aload_n 3, 1)] (by decide +kernel) (pc' := 260) (ls' := [some (.ref b), some (.ref q0), some (.ref am), some (.ref o), some (.int (nI i)), none, none]) (st' := [.ref o, .int (xs (i + 1)), .ref q0]) rfl rfl (Nat.le_of_ble_eq_true rfl) ?_
  refine V.ccall (pc := 260) (st := []) (np := 3) (As := [.ref q0, .int (xs (i + 1)), .ref o]) h hJ hC wc_L_retry wn_RL wm_RL_84 wt_L_retry (by decide +kernel) rfl (by omega) (by omega) hro hrs (by simp) (by decide +kernel) rfl (fun S1 Lc1 hJ1 => ?_)
  refine V.blk h [(.istore 5, 2), (.aload_n 2, 1), (.aload_n 0, 1), (.iload 4, 2), (.iconst 1, 1), (.iadd, 1)] (by decide +kernel) (pc' := 271) (ls' := [some (.ref b), some (.ref q0), some (.ref am), some (.ref o), some (.int (nI i)), some (.int (nI kx)), none]) (st' := [.int (nI i + nI 1), .ref b, .ref am]) rfl rfl (Nat.le_of_ble_eq_true rfl) ?_
  refine V.top (v' := .int (nI (i + 1))) (by rw [nI_add]) ?_
  refine V.sld (pc := 271) h hX hbl hbA (show i + 1 < L by omega) hL (by decide +kernel) ?_
  refine V.mcall (pc := 272) (st := []) (np := 1) (As := [.int (xs (i + 1))]) h hJ1 hR wc_X11_retry wn_RX11 (Or.inl wm_RL_87) wi_X11_retry we_X11_retry (by decide +kernel) rfl (by omega) (by omega) hro hrs (by simp) (by decide +kernel) rfl (fun S2 Lm2 hJ2 => ?_)
  refine V.blk h [(.istore 6, 2), (.aload_n 2, 1)] (by decide +kernel) (pc' := 278) (ls' := [some (.ref b), some (.ref q0), some (.ref am), some (.ref o), some (.int (nI i)), some (.int (nI kx)), some (.int (bI v))]) (st' := [.ref am]) rfl rfl (Nat.le_of_ble_eq_true rfl) ?_
  refine V.mcall (pc := 278) (st := []) (np := 0) (As := []) h hJ2 (r_thrown hls X') wc_X11_thrown wn_RX11 (Or.inl wm_RL_80) wi_X11_thrown we_X11_thrown (by decide +kernel) rfl (by omega) (by omega) hro hrs (by simp) (by decide +kernel) rfl (fun S3 Lm3 hJ3 => ?_)
  refine V.blk h [(.iload 5, 2)] (by decide +kernel) (pc' := 283) (ls' := [some (.ref b), some (.ref q0), some (.ref am), some (.ref o), some (.int (nI i)), some (.int (nI kx)), some (.int (bI v))]) (st' := [.int (nI kx), (.int (nI (tf X' 0)))]) rfl rfl (Nat.le_of_ble_eq_true rfl) ?_
  have fin : V l D tc A p e R s m args below meth c 7 Q S3 (k + mc) (n + ms) 312 [some (.ref b), some (.ref q0), some (.ref am), some (.ref o), some (.int (nI i)), some (.int (nI kx)), some (.int (bI v))] [] := by
    refine V.goto (pc := 312) h (off := 867) (by decide +kernel) (tgt := 1179) (by decide) ?_
    exact V.two (kk S3 Lm3 Lc1 hJ3)
  have hO3 : OU o S3 yv' := by
    have q := hJ3.2.2.2.2.2.2.2
    exact ⟨hJ3.2.1 o q.1, q.2⟩
  refine V.icmp_eq (pc := 283) h (off := 5) (by decide +kernel) (tgt := 288) (by decide) (fun _ => ?_) (fun z => absurd (by rw [hthr]) z)
  refine V.blk h [(.iload 5, 2)] (by decide +kernel) (pc' := 290) (ls' := [some (.ref b), some (.ref q0), some (.ref am), some (.ref o), some (.int (nI i)), some (.int (nI kx)), some (.int (bI v))]) (st' := [.int (nI kx)]) rfl rfl (Nat.le_of_ble_eq_true rfl) ?_
  refine V.if_ne (pc := 290) h (off := 22) (by decide +kernel) (tgt := 312) (by decide) (fun _ => fin) (fun z => ?_)
  have hv := hval (nI_e0 hkx z)
  refine V.blk h [(.aload_n 3, 1), (.iconst 0, 1)] (by decide +kernel) (pc' := 295) (ls' := [some (.ref b), some (.ref q0), some (.ref am), some (.ref o), some (.int (nI i)), some (.int (nI kx)), some (.int (bI v))]) (st' := [.int (nI 0), .ref o]) rfl rfl (Nat.le_of_ble_eq_true rfl) ?_
  refine V.lald (pc := 295) (M := 1) (i := 0) h hO3.1 hO3.2.1 hO3.2.2.1 (by decide) (by decide) (by decide +kernel) hO3.2.2.2 ?_
  refine V.blk h [(.iload 6, 2)] (by decide +kernel) (pc' := 298) (ls' := [some (.ref b), some (.ref q0), some (.ref am), some (.ref o), some (.int (nI i)), some (.int (nI kx)), some (.int (bI v))]) (st' := [.int (bI v), (.long yv')]) rfl rfl (Nat.le_of_ble_eq_true rfl) ?_
  have cmp : ∀ x : Int64, x = (bI v).toInt64 → V l D tc A p e R s m args below meth c 7 Q S3 (k + mc) (n + ms) 306 [some (.ref b), some (.ref q0), some (.ref am), some (.ref o), some (.int (nI i)), some (.int (nI kx)), some (.int (bI v))] [.long x, .long yv'] := fun x hx => by
    refine V.lcmp (pc := 306) h (by decide +kernel) ?_
    refine V.top (v' := .int 0) (by rw [hv, hx, lg_same]) ?_
    exact V.if_eq (pc := 307) h (off := 5) (by decide +kernel) (tgt := 312) (by decide) (fun _ => fin) (fun z => absurd rfl z)
  refine V.if_eq (pc := 298) h (off := 7) (by decide +kernel) (tgt := 305) (by decide) (fun z => ?_) (fun z => ?_)
  · have hb := bI_0.mp z
    exact V.lconst (pc := 305) (x := 0) (v := (bI v).toInt64) h (by rw [hb]; decide) (by decide +kernel) (cmp _ rfl)
  · have hb : v = true := by
      cases v
      · exact absurd (bI_0.mpr rfl) z
      · rfl
    refine V.lconst (pc := 301) (x := 1) (v := (bI v).toInt64) h (by rw [hb]; decide) (by decide +kernel) ?_
    exact V.goto (pc := 302) h (off := 4) (by decide +kernel) (tgt := 306) (by decide) (cmp _ rfl)
theorem k_learn (h : CX l D tc A p s m args meth c code 7 RL Ts) (hls : l.stackTraces = false) (hX : va_X b L xs s s.heap) (hbl : b < s.heap.size) (hbA : ¬ A b) (hi : i + 4 < L) (hL : L < 2 ^ 31) (hJ : LJ tc am ad q0 o X Y yv S Lm Lc) {v : Int32}
    (hC : CMH l D tc yL_learn [(0, 9, 12, 13)] cL_learn 4 (some .int) dC mc ms [.ref q0, .int (xs (i + 1)), .ref o] (zSub S Lc) (fun v' S' => v' = some (.int (nI kx)) ∧ (∃ ax ay, ax 10 0 = q0 ∧ RA tc (mx ax ay) Y' S') ∧ OU o S' yv'))
    (hR : RM l D tc am ad yX11_learn cX11_learn 2 (some .int) dR [.ref am, .int (xs (i + 1))] X (some (.int (v))) X') (hthr : tf X' 0 = kx) (hkx : kx ≤ 2) (hval : kx = 0 → yv' = (v).toInt64) (hd : dC ≤ 13) (hdR : dR ≤ 13) (hfr : 16 ≤ R.frames) (hlo : 626 ≤ R.locals) (hro : k + mc ≤ R.cells) (hrs : n + ms ≤ R.slots)
    (kk : ∀ (S' : HS) (Lm' Lc' : List Nat), LJ tc am ad q0 o X' Y' yv' S' Lm' Lc' → V l D tc A p e R s m args below meth c 7 Q S' (k + mc) (n + ms) 1179 [some (.ref b), some (.ref q0), some (.ref am), some (.ref o), some (.int (nI i)), none, none] []) : V l D tc A p e R s m args below meth c 7 Q S k n 315 [some (.ref b), some (.ref q0), some (.ref am), some (.ref o), some (.int (nI i)), none, none] [] := by
  refine V.blk h [(.aload_n 1, 1), (.aload_n 0, 1), (.iload 4, 2), (.iconst 1, 1), (.iadd, 1)] (by decide +kernel) (pc' := 321) (ls' := [some (.ref b), some (.ref q0), some (.ref am), some (.ref o), some (.int (nI i)), none, none]) (st' := [.int (nI i + nI 1), .ref b, .ref q0]) rfl rfl (Nat.le_of_ble_eq_true rfl) ?_
  refine V.top (v' := .int (nI (i + 1))) (by rw [nI_add]) ?_
  refine V.sld (pc := 321) h hX hbl hbA (show i + 1 < L by omega) hL (by decide +kernel) ?_
  refine V.blk h [(.aload_n 3, 1)] (by decide +kernel) (pc' := 323) (ls' := [some (.ref b), some (.ref q0), some (.ref am), some (.ref o), some (.int (nI i)), none, none]) (st' := [.ref o, .int (xs (i + 1)), .ref q0]) rfl rfl (Nat.le_of_ble_eq_true rfl) ?_
  refine V.ccall (pc := 323) (st := []) (np := 3) (As := [.ref q0, .int (xs (i + 1)), .ref o]) h hJ hC wc_L_learn wn_RL wm_RL_88 wt_L_learn (by decide +kernel) rfl (by omega) (by omega) hro hrs (by simp) (by decide +kernel) rfl (fun S1 Lc1 hJ1 => ?_)
  refine V.blk h [(.istore 5, 2), (.aload_n 2, 1), (.aload_n 0, 1), (.iload 4, 2), (.iconst 1, 1), (.iadd, 1)] (by decide +kernel) (pc' := 334) (ls' := [some (.ref b), some (.ref q0), some (.ref am), some (.ref o), some (.int (nI i)), some (.int (nI kx)), none]) (st' := [.int (nI i + nI 1), .ref b, .ref am]) rfl rfl (Nat.le_of_ble_eq_true rfl) ?_
  refine V.top (v' := .int (nI (i + 1))) (by rw [nI_add]) ?_
  refine V.sld (pc := 334) h hX hbl hbA (show i + 1 < L by omega) hL (by decide +kernel) ?_
  refine V.mcall (pc := 335) (st := []) (np := 1) (As := [.int (xs (i + 1))]) h hJ1 hR wc_X11_learn wn_RX11 (Or.inl wm_RL_90) wi_X11_learn we_X11_learn (by decide +kernel) rfl (by omega) (by omega) hro hrs (by simp) (by decide +kernel) rfl (fun S2 Lm2 hJ2 => ?_)
  refine V.blk h [(.istore 6, 2), (.aload_n 2, 1)] (by decide +kernel) (pc' := 341) (ls' := [some (.ref b), some (.ref q0), some (.ref am), some (.ref o), some (.int (nI i)), some (.int (nI kx)), some (.int (v))]) (st' := [.ref am]) rfl rfl (Nat.le_of_ble_eq_true rfl) ?_
  refine V.mcall (pc := 341) (st := []) (np := 0) (As := []) h hJ2 (r_thrown hls X') wc_X11_thrown wn_RX11 (Or.inl wm_RL_80) wi_X11_thrown we_X11_thrown (by decide +kernel) rfl (by omega) (by omega) hro hrs (by simp) (by decide +kernel) rfl (fun S3 Lm3 hJ3 => ?_)
  refine V.blk h [(.iload 5, 2)] (by decide +kernel) (pc' := 346) (ls' := [some (.ref b), some (.ref q0), some (.ref am), some (.ref o), some (.int (nI i)), some (.int (nI kx)), some (.int (v))]) (st' := [.int (nI kx), (.int (nI (tf X' 0)))]) rfl rfl (Nat.le_of_ble_eq_true rfl) ?_
  have fin : V l D tc A p e R s m args below meth c 7 Q S3 (k + mc) (n + ms) 368 [some (.ref b), some (.ref q0), some (.ref am), some (.ref o), some (.int (nI i)), some (.int (nI kx)), some (.int (v))] [] := by
    refine V.goto (pc := 368) h (off := 811) (by decide +kernel) (tgt := 1179) (by decide) ?_
    exact V.two (kk S3 Lm3 Lc1 hJ3)
  have hO3 : OU o S3 yv' := by
    have q := hJ3.2.2.2.2.2.2.2
    exact ⟨hJ3.2.1 o q.1, q.2⟩
  refine V.icmp_eq (pc := 346) h (off := 5) (by decide +kernel) (tgt := 351) (by decide) (fun _ => ?_) (fun z => absurd (by rw [hthr]) z)
  refine V.blk h [(.iload 5, 2)] (by decide +kernel) (pc' := 353) (ls' := [some (.ref b), some (.ref q0), some (.ref am), some (.ref o), some (.int (nI i)), some (.int (nI kx)), some (.int (v))]) (st' := [.int (nI kx)]) rfl rfl (Nat.le_of_ble_eq_true rfl) ?_
  refine V.if_ne (pc := 353) h (off := 15) (by decide +kernel) (tgt := 368) (by decide) (fun _ => fin) (fun z => ?_)
  have hv := hval (nI_e0 hkx z)
  refine V.blk h [(.aload_n 3, 1), (.iconst 0, 1)] (by decide +kernel) (pc' := 358) (ls' := [some (.ref b), some (.ref q0), some (.ref am), some (.ref o), some (.int (nI i)), some (.int (nI kx)), some (.int (v))]) (st' := [.int (nI 0), .ref o]) rfl rfl (Nat.le_of_ble_eq_true rfl) ?_
  refine V.lald (pc := 358) (M := 1) (i := 0) h hO3.1 hO3.2.1 hO3.2.2.1 (by decide) (by decide) (by decide +kernel) hO3.2.2.2 ?_
  refine V.blk h [(.iload 6, 2)] (by decide +kernel) (pc' := 361) (ls' := [some (.ref b), some (.ref q0), some (.ref am), some (.ref o), some (.int (nI i)), some (.int (nI kx)), some (.int (v))]) (st' := [.int (v), (.long yv')]) rfl rfl (Nat.le_of_ble_eq_true rfl) ?_
  refine V.i2l (pc := 361) h (by decide +kernel) ?_
  refine V.lcmp (pc := 362) h (by decide +kernel) ?_
  refine V.top (v' := .int 0) (by rw [hv, lg_same]) ?_
  exact V.if_eq (pc := 363) h (off := 5) (by decide +kernel) (tgt := 368) (by decide) (fun _ => fin) (fun z => absurd rfl z)
theorem k_deliver (h : CX l D tc A p s m args meth c code 7 RL Ts) (hls : l.stackTraces = false) (hX : va_X b L xs s s.heap) (hbl : b < s.heap.size) (hbA : ¬ A b) (hi : i + 4 < L) (hL : L < 2 ^ 31) (hJ : LJ tc am ad q0 o X Y yv S Lm Lc) {v : Int32}
    (hC : CMH l D tc yL_deliver [(0, 9, 12, 13)] cL_deliver 4 (some .int) dC mc ms [.ref q0, .int (xs (i + 1)), .ref o] (zSub S Lc) (fun v' S' => v' = some (.int (nI kx)) ∧ (∃ ax ay, ax 10 0 = q0 ∧ RA tc (mx ax ay) Y' S') ∧ OU o S' yv'))
    (hR : RM l D tc am ad yX11_deliver cX11_deliver 10 (some .int) dR [.ref am, .int (xs (i + 1))] X (some (.int (v))) X') (hthr : tf X' 0 = kx) (hkx : kx ≤ 2) (hval : kx = 0 → yv' = (v).toInt64) (hd : dC ≤ 13) (hdR : dR ≤ 13) (hfr : 16 ≤ R.frames) (hlo : 626 ≤ R.locals) (hro : k + mc ≤ R.cells) (hrs : n + ms ≤ R.slots)
    (kk : ∀ (S' : HS) (Lm' Lc' : List Nat), LJ tc am ad q0 o X' Y' yv' S' Lm' Lc' → V l D tc A p e R s m args below meth c 7 Q S' (k + mc) (n + ms) 1179 [some (.ref b), some (.ref q0), some (.ref am), some (.ref o), some (.int (nI i)), none, none] []) : V l D tc A p e R s m args below meth c 7 Q S k n 371 [some (.ref b), some (.ref q0), some (.ref am), some (.ref o), some (.int (nI i)), none, none] [] := by
  refine V.blk h [(.aload_n 1, 1), (.aload_n 0, 1), (.iload 4, 2), (.iconst 1, 1), (.iadd, 1)] (by decide +kernel) (pc' := 377) (ls' := [some (.ref b), some (.ref q0), some (.ref am), some (.ref o), some (.int (nI i)), none, none]) (st' := [.int (nI i + nI 1), .ref b, .ref q0]) rfl rfl (Nat.le_of_ble_eq_true rfl) ?_
  refine V.top (v' := .int (nI (i + 1))) (by rw [nI_add]) ?_
  refine V.sld (pc := 377) h hX hbl hbA (show i + 1 < L by omega) hL (by decide +kernel) ?_
  refine V.blk h [(.aload_n 3, 1)] (by decide +kernel) (pc' := 379) (ls' := [some (.ref b), some (.ref q0), some (.ref am), some (.ref o), some (.int (nI i)), none, none]) (st' := [.ref o, .int (xs (i + 1)), .ref q0]) rfl rfl (Nat.le_of_ble_eq_true rfl) ?_
  refine V.ccall (pc := 379) (st := []) (np := 3) (As := [.ref q0, .int (xs (i + 1)), .ref o]) h hJ hC wc_L_deliver wn_RL wm_RL_91 wt_L_deliver (by decide +kernel) rfl (by omega) (by omega) hro hrs (by simp) (by decide +kernel) rfl (fun S1 Lc1 hJ1 => ?_)
  refine V.blk h [(.istore 5, 2), (.aload_n 2, 1), (.aload_n 0, 1), (.iload 4, 2), (.iconst 1, 1), (.iadd, 1)] (by decide +kernel) (pc' := 390) (ls' := [some (.ref b), some (.ref q0), some (.ref am), some (.ref o), some (.int (nI i)), some (.int (nI kx)), none]) (st' := [.int (nI i + nI 1), .ref b, .ref am]) rfl rfl (Nat.le_of_ble_eq_true rfl) ?_
  refine V.top (v' := .int (nI (i + 1))) (by rw [nI_add]) ?_
  refine V.sld (pc := 390) h hX hbl hbA (show i + 1 < L by omega) hL (by decide +kernel) ?_
  refine V.mcall (pc := 391) (st := []) (np := 1) (As := [.int (xs (i + 1))]) h hJ1 hR wc_X11_deliver wn_RX11 (Or.inl wm_RL_93) wi_X11_deliver we_X11_deliver (by decide +kernel) rfl (by omega) (by omega) hro hrs (by simp) (by decide +kernel) rfl (fun S2 Lm2 hJ2 => ?_)
  refine V.blk h [(.istore 6, 2), (.aload_n 2, 1)] (by decide +kernel) (pc' := 397) (ls' := [some (.ref b), some (.ref q0), some (.ref am), some (.ref o), some (.int (nI i)), some (.int (nI kx)), some (.int (v))]) (st' := [.ref am]) rfl rfl (Nat.le_of_ble_eq_true rfl) ?_
  refine V.mcall (pc := 397) (st := []) (np := 0) (As := []) h hJ2 (r_thrown hls X') wc_X11_thrown wn_RX11 (Or.inl wm_RL_80) wi_X11_thrown we_X11_thrown (by decide +kernel) rfl (by omega) (by omega) hro hrs (by simp) (by decide +kernel) rfl (fun S3 Lm3 hJ3 => ?_)
  refine V.blk h [(.iload 5, 2)] (by decide +kernel) (pc' := 402) (ls' := [some (.ref b), some (.ref q0), some (.ref am), some (.ref o), some (.int (nI i)), some (.int (nI kx)), some (.int (v))]) (st' := [.int (nI kx), (.int (nI (tf X' 0)))]) rfl rfl (Nat.le_of_ble_eq_true rfl) ?_
  have fin : V l D tc A p e R s m args below meth c 7 Q S3 (k + mc) (n + ms) 424 [some (.ref b), some (.ref q0), some (.ref am), some (.ref o), some (.int (nI i)), some (.int (nI kx)), some (.int (v))] [] := by
    refine V.goto (pc := 424) h (off := 755) (by decide +kernel) (tgt := 1179) (by decide) ?_
    exact V.two (kk S3 Lm3 Lc1 hJ3)
  have hO3 : OU o S3 yv' := by
    have q := hJ3.2.2.2.2.2.2.2
    exact ⟨hJ3.2.1 o q.1, q.2⟩
  refine V.icmp_eq (pc := 402) h (off := 5) (by decide +kernel) (tgt := 407) (by decide) (fun _ => ?_) (fun z => absurd (by rw [hthr]) z)
  refine V.blk h [(.iload 5, 2)] (by decide +kernel) (pc' := 409) (ls' := [some (.ref b), some (.ref q0), some (.ref am), some (.ref o), some (.int (nI i)), some (.int (nI kx)), some (.int (v))]) (st' := [.int (nI kx)]) rfl rfl (Nat.le_of_ble_eq_true rfl) ?_
  refine V.if_ne (pc := 409) h (off := 15) (by decide +kernel) (tgt := 424) (by decide) (fun _ => fin) (fun z => ?_)
  have hv := hval (nI_e0 hkx z)
  refine V.blk h [(.aload_n 3, 1), (.iconst 0, 1)] (by decide +kernel) (pc' := 414) (ls' := [some (.ref b), some (.ref q0), some (.ref am), some (.ref o), some (.int (nI i)), some (.int (nI kx)), some (.int (v))]) (st' := [.int (nI 0), .ref o]) rfl rfl (Nat.le_of_ble_eq_true rfl) ?_
  refine V.lald (pc := 414) (M := 1) (i := 0) h hO3.1 hO3.2.1 hO3.2.2.1 (by decide) (by decide) (by decide +kernel) hO3.2.2.2 ?_
  refine V.blk h [(.iload 6, 2)] (by decide +kernel) (pc' := 417) (ls' := [some (.ref b), some (.ref q0), some (.ref am), some (.ref o), some (.int (nI i)), some (.int (nI kx)), some (.int (v))]) (st' := [.int (v), (.long yv')]) rfl rfl (Nat.le_of_ble_eq_true rfl) ?_
  refine V.i2l (pc := 417) h (by decide +kernel) ?_
  refine V.lcmp (pc := 418) h (by decide +kernel) ?_
  refine V.top (v' := .int 0) (by rw [hv, lg_same]) ?_
  exact V.if_eq (pc := 419) h (off := 5) (by decide +kernel) (tgt := 424) (by decide) (fun _ => fin) (fun z => absurd rfl z)
end
