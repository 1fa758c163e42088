/-! ===== the law: cases of its loop ===== -/
section
variable {l : Launch} {D : va_G} {tc : Nat → ClassId} {A : Nat → Prop} {p : Program} {e : Env} {R : Room} {s : State} {m : MethodId} {args : Array Value} {below : List Frame} {meth : Method} {c : Code} {Q : State → Prop} {S : HS} {k n : Nat} {Ts : List Cond} {am q0 o b L i kx dC dR mc ms : Nat} {ad : Nat → Nat} {xs : Nat → Int32} {X X' Y Y' : TS} {yv yv' : Int64} {Lm Lc : List Nat}
theorem k_lose (h : CX l D tc A p s m args meth c code 7 RL Ts) (hls : l.stackTraces = false) (hX : va_X b L xs s s.heap) (hbl : b < s.heap.size) (hbA : ¬ A b) (hi : i + 4 < L) (hL : L < 2 ^ 31) (hJ : LJ tc am ad q0 o X Y yv S Lm Lc) {v : Int32}
    (hC : CMH l D tc yL_lose [(0, 9, 12, 13)] cL_lose 4 (some .int) dC mc ms [.ref q0, .int (xs (i + 1)), .ref o] (zSub S Lc) (fun v' S' => v' = some (.int (nI kx)) ∧ (∃ ax ay, ax 10 0 = q0 ∧ RA tc (mx ax ay) Y' S') ∧ OU o S' yv'))
    (hR : RM l D tc am ad yX11_lose cX11_lose 2 (some .int) dR [.ref am, .int (xs (i + 1))] X (some (.int (v))) X') (hthr : tf X' 0 = kx) (hkx : kx ≤ 2) (hval : kx = 0 → yv' = (v).toInt64) (hd : dC ≤ 13) (hdR : dR ≤ 13) (hfr : 16 ≤ R.frames) (hlo : 626 ≤ R.locals) (hro : k + mc ≤ R.cells) (hrs : n + ms ≤ R.slots)
    (kk : ∀ (S' : HS) (Lm' Lc' : List Nat), LJ tc am ad q0 o X' Y' yv' S' Lm' Lc' → V l D tc A p e R s m args below meth c 7 Q S' (k + mc) (n + ms) 1179 [some (.ref b), some (.ref q0), some (.ref am), some (.ref o), some (.int (nI i)), none, none] []) : V l D tc A p e R s m args below meth c 7 Q S k n 427 [some (.ref b), some (.ref q0), some (.ref am), some (.ref o), some (.int (nI i)), none, none] [] := by
  refine V.blk h [(.aload_n 1, 1), (.aload_n 0, 1), (.iload 4, 2), (.iconst 1, 1), (.iadd, 1)] (by decide +kernel) (pc' := 433) (ls' := [some (.ref b), some (.ref q0), some (.ref am), some (.ref o), some (.int (nI i)), none, none]) (st' := [.int (nI i + nI 1), .ref b, .ref q0]) rfl rfl (Nat.le_of_ble_eq_true rfl) ?_
  refine V.top (v' := .int (nI (i + 1))) (by rw [nI_add]) ?_
  refine V.sld (pc := 433) h hX hbl hbA (show i + 1 < L by omega) hL (by decide +kernel) ?_
  refine V.blk h [(.aload_n 3, 1)] (by decide +kernel) (pc' := 435) (ls' := [some (.ref b), some (.ref q0), some (.ref am), some (.ref o), some (.int (nI i)), none, none]) (st' := [.ref o, .int (xs (i + 1)), .ref q0]) rfl rfl (Nat.le_of_ble_eq_true rfl) ?_
  refine V.ccall (pc := 435) (st := []) (np := 3) (As := [.ref q0, .int (xs (i + 1)), .ref o]) h hJ hC wc_L_lose wn_RL wm_RL_94 wt_L_lose (by decide +kernel) rfl (by omega) (by omega) hro hrs (by simp) (by decide +kernel) rfl (fun S1 Lc1 hJ1 => ?_)
  refine V.blk h [(.istore 5, 2), (.aload_n 2, 1), (.aload_n 0, 1), (.iload 4, 2), (.iconst 1, 1), (.iadd, 1)] (by decide +kernel) (pc' := 446) (ls' := [some (.ref b), some (.ref q0), some (.ref am), some (.ref o), some (.int (nI i)), some (.int (nI kx)), none]) (st' := [.int (nI i + nI 1), .ref b, .ref am]) rfl rfl (Nat.le_of_ble_eq_true rfl) ?_
  refine V.top (v' := .int (nI (i + 1))) (by rw [nI_add]) ?_
  refine V.sld (pc := 446) h hX hbl hbA (show i + 1 < L by omega) hL (by decide +kernel) ?_
  refine V.mcall (pc := 447) (st := []) (np := 1) (As := [.int (xs (i + 1))]) h hJ1 hR wc_X11_lose wn_RX11 (Or.inl wm_RL_96) wi_X11_lose we_X11_lose (by decide +kernel) rfl (by omega) (by omega) hro hrs (by simp) (by decide +kernel) rfl (fun S2 Lm2 hJ2 => ?_)
  refine V.blk h [(.istore 6, 2), (.aload_n 2, 1)] (by decide +kernel) (pc' := 453) (ls' := [some (.ref b), some (.ref q0), some (.ref am), some (.ref o), some (.int (nI i)), some (.int (nI kx)), some (.int (v))]) (st' := [.ref am]) rfl rfl (Nat.le_of_ble_eq_true rfl) ?_
  refine V.mcall (pc := 453) (st := []) (np := 0) (As := []) h hJ2 (r_thrown hls X') wc_X11_thrown wn_RX11 (Or.inl wm_RL_80) wi_X11_thrown we_X11_thrown (by decide +kernel) rfl (by omega) (by omega) hro hrs (by simp) (by decide +kernel) rfl (fun S3 Lm3 hJ3 => ?_)
  refine V.blk h [(.iload 5, 2)] (by decide +kernel) (pc' := 458) (ls' := [some (.ref b), some (.ref q0), some (.ref am), some (.ref o), some (.int (nI i)), some (.int (nI kx)), some (.int (v))]) (st' := [.int (nI kx), (.int (nI (tf X' 0)))]) rfl rfl (Nat.le_of_ble_eq_true rfl) ?_
  have fin : V l D tc A p e R s m args below meth c 7 Q S3 (k + mc) (n + ms) 480 [some (.ref b), some (.ref q0), some (.ref am), some (.ref o), some (.int (nI i)), some (.int (nI kx)), some (.int (v))] [] := by
    refine V.goto (pc := 480) h (off := 699) (by decide +kernel) (tgt := 1179) (by decide) ?_
    exact V.two (kk S3 Lm3 Lc1 hJ3)
  have hO3 : OU o S3 yv' := by
    have q := hJ3.2.2.2.2.2.2.2
    exact ⟨hJ3.2.1 o q.1, q.2⟩
  refine V.icmp_eq (pc := 458) h (off := 5) (by decide +kernel) (tgt := 463) (by decide) (fun _ => ?_) (fun z => absurd (by rw [hthr]) z)
  refine V.blk h [(.iload 5, 2)] (by decide +kernel) (pc' := 465) (ls' := [some (.ref b), some (.ref q0), some (.ref am), some (.ref o), some (.int (nI i)), some (.int (nI kx)), some (.int (v))]) (st' := [.int (nI kx)]) rfl rfl (Nat.le_of_ble_eq_true rfl) ?_
  refine V.if_ne (pc := 465) h (off := 15) (by decide +kernel) (tgt := 480) (by decide) (fun _ => fin) (fun z => ?_)
  have hv := hval (nI_e0 hkx z)
  refine V.blk h [(.aload_n 3, 1), (.iconst 0, 1)] (by decide +kernel) (pc' := 470) (ls' := [some (.ref b), some (.ref q0), some (.ref am), some (.ref o), some (.int (nI i)), some (.int (nI kx)), some (.int (v))]) (st' := [.int (nI 0), .ref o]) rfl rfl (Nat.le_of_ble_eq_true rfl) ?_
  refine V.lald (pc := 470) (M := 1) (i := 0) h hO3.1 hO3.2.1 hO3.2.2.1 (by decide) (by decide) (by decide +kernel) hO3.2.2.2 ?_
  refine V.blk h [(.iload 6, 2)] (by decide +kernel) (pc' := 473) (ls' := [some (.ref b), some (.ref q0), some (.ref am), some (.ref o), some (.int (nI i)), some (.int (nI kx)), some (.int (v))]) (st' := [.int (v), (.long yv')]) rfl rfl (Nat.le_of_ble_eq_true rfl) ?_
  refine V.i2l (pc := 473) h (by decide +kernel) ?_
  refine V.lcmp (pc := 474) h (by decide +kernel) ?_
  refine V.top (v' := .int 0) (by rw [hv, lg_same]) ?_
  exact V.if_eq (pc := 475) h (off := 5) (by decide +kernel) (tgt := 480) (by decide) (fun _ => fin) (fun z => absurd rfl z)
theorem k_twice (h : CX l D tc A p s m args meth c code 7 RL Ts) (hls : l.stackTraces = false) (hX : va_X b L xs s s.heap) (hbl : b < s.heap.size) (hbA : ¬ A b) (hi : i + 4 < L) (hL : L < 2 ^ 31) (hJ : LJ tc am ad q0 o X Y yv S Lm Lc) {v : Int32}
    (hC : CMH l D tc yL_twice [(0, 9, 12, 13)] cL_twice 4 (some .int) dC mc ms [.ref q0, .int (xs (i + 1)), .ref o] (zSub S Lc) (fun v' S' => v' = some (.int (nI kx)) ∧ (∃ ax ay, ax 10 0 = q0 ∧ RA tc (mx ax ay) Y' S') ∧ OU o S' yv'))
    (hR : RM l D tc am ad yX11_twice cX11_twice 2 (some .int) dR [.ref am, .int (xs (i + 1))] X (some (.int (v))) X') (hthr : tf X' 0 = kx) (hkx : kx ≤ 2) (hval : kx = 0 → yv' = (v).toInt64) (hd : dC ≤ 13) (hdR : dR ≤ 13) (hfr : 16 ≤ R.frames) (hlo : 626 ≤ R.locals) (hro : k + mc ≤ R.cells) (hrs : n + ms ≤ R.slots)
    (kk : ∀ (S' : HS) (Lm' Lc' : List Nat), LJ tc am ad q0 o X' Y' yv' S' Lm' Lc' → V l D tc A p e R s m args below meth c 7 Q S' (k + mc) (n + ms) 1179 [some (.ref b), some (.ref q0), some (.ref am), some (.ref o), some (.int (nI i)), none, none] []) : V l D tc A p e R s m args below meth c 7 Q S k n 483 [some (.ref b), some (.ref q0), some (.ref am), some (.ref o), some (.int (nI i)), none, none] [] := by
  refine V.blk h [(.aload_n 1, 1), (.aload_n 0, 1), (.iload 4, 2), (.iconst 1, 1), (.iadd, 1)] (by decide +kernel) (pc' := 489) (ls' := [some (.ref b), some (.ref q0), some (.ref am), some (.ref o), some (.int (nI i)), none, none]) (st' := [.int (nI i + nI 1), .ref b, .ref q0]) rfl rfl (Nat.le_of_ble_eq_true rfl) ?_
  refine V.top (v' := .int (nI (i + 1))) (by rw [nI_add]) ?_
  refine V.sld (pc := 489) h hX hbl hbA (show i + 1 < L by omega) hL (by decide +kernel) ?_
  refine V.blk h [(.aload_n 3, 1)] (by decide +kernel) (pc' := 491) (ls' := [some (.ref b), some (.ref q0), some (.ref am), some (.ref o), some (.int (nI i)), none, none]) (st' := [.ref o, .int (xs (i + 1)), .ref q0]) rfl rfl (Nat.le_of_ble_eq_true rfl) ?_
  refine V.ccall (pc := 491) (st := []) (np := 3) (As := [.ref q0, .int (xs (i + 1)), .ref o]) h hJ hC wc_L_twice wn_RL wm_RL_97 wt_L_twice (by decide +kernel) rfl (by omega) (by omega) hro hrs (by simp) (by decide +kernel) rfl (fun S1 Lc1 hJ1 => ?_)
  refine V.blk h [(.istore 5, 2), (.aload_n 2, 1), (.aload_n 0, 1), (.iload 4, 2), (.iconst 1, 1), (.iadd, 1)] (by decide +kernel) (pc' := 502) (ls' := [some (.ref b), some (.ref q0), some (.ref am), some (.ref o), some (.int (nI i)), some (.int (nI kx)), none]) (st' := [.int (nI i + nI 1), .ref b, .ref am]) rfl rfl (Nat.le_of_ble_eq_true rfl) ?_
  refine V.top (v' := .int (nI (i + 1))) (by rw [nI_add]) ?_
  refine V.sld (pc := 502) h hX hbl hbA (show i + 1 < L by omega) hL (by decide +kernel) ?_
  refine V.mcall (pc := 503) (st := []) (np := 1) (As := [.int (xs (i + 1))]) h hJ1 hR wc_X11_twice wn_RX11 (Or.inl wm_RL_99) wi_X11_twice we_X11_twice (by decide +kernel) rfl (by omega) (by omega) hro hrs (by simp) (by decide +kernel) rfl (fun S2 Lm2 hJ2 => ?_)
  refine V.blk h [(.istore 6, 2), (.aload_n 2, 1)] (by decide +kernel) (pc' := 509) (ls' := [some (.ref b), some (.ref q0), some (.ref am), some (.ref o), some (.int (nI i)), some (.int (nI kx)), some (.int (v))]) (st' := [.ref am]) rfl rfl (Nat.le_of_ble_eq_true rfl) ?_
  refine V.mcall (pc := 509) (st := []) (np := 0) (As := []) h hJ2 (r_thrown hls X') wc_X11_thrown wn_RX11 (Or.inl wm_RL_80) wi_X11_thrown we_X11_thrown (by decide +kernel) rfl (by omega) (by omega) hro hrs (by simp) (by decide +kernel) rfl (fun S3 Lm3 hJ3 => ?_)
  refine V.blk h [(.iload 5, 2)] (by decide +kernel) (pc' := 514) (ls' := [some (.ref b), some (.ref q0), some (.ref am), some (.ref o), some (.int (nI i)), some (.int (nI kx)), some (.int (v))]) (st' := [.int (nI kx), (.int (nI (tf X' 0)))]) rfl rfl (Nat.le_of_ble_eq_true rfl) ?_
  have fin : V l D tc A p e R s m args below meth c 7 Q S3 (k + mc) (n + ms) 536 [some (.ref b), some (.ref q0), some (.ref am), some (.ref o), some (.int (nI i)), some (.int (nI kx)), some (.int (v))] [] := by
    refine V.goto (pc := 536) h (off := 643) (by decide +kernel) (tgt := 1179) (by decide) ?_
    exact V.two (kk S3 Lm3 Lc1 hJ3)
  have hO3 : OU o S3 yv' := by
    have q := hJ3.2.2.2.2.2.2.2
    exact ⟨hJ3.2.1 o q.1, q.2⟩
  refine V.icmp_eq (pc := 514) h (off := 5) (by decide +kernel) (tgt := 519) (by decide) (fun _ => ?_) (fun z => absurd (by rw [hthr]) z)
  refine V.blk h [(.iload 5, 2)] (by decide +kernel) (pc' := 521) (ls' := [some (.ref b), some (.ref q0), some (.ref am), some (.ref o), some (.int (nI i)), some (.int (nI kx)), some (.int (v))]) (st' := [.int (nI kx)]) rfl rfl (Nat.le_of_ble_eq_true rfl) ?_
  refine V.if_ne (pc := 521) h (off := 15) (by decide +kernel) (tgt := 536) (by decide) (fun _ => fin) (fun z => ?_)
  have hv := hval (nI_e0 hkx z)
  refine V.blk h [(.aload_n 3, 1), (.iconst 0, 1)] (by decide +kernel) (pc' := 526) (ls' := [some (.ref b), some (.ref q0), some (.ref am), some (.ref o), some (.int (nI i)), some (.int (nI kx)), some (.int (v))]) (st' := [.int (nI 0), .ref o]) rfl rfl (Nat.le_of_ble_eq_true rfl) ?_
  refine V.lald (pc := 526) (M := 1) (i := 0) h hO3.1 hO3.2.1 hO3.2.2.1 (by decide) (by decide) (by decide +kernel) hO3.2.2.2 ?_
  refine V.blk h [(.iload 6, 2)] (by decide +kernel) (pc' := 529) (ls' := [some (.ref b), some (.ref q0), some (.ref am), some (.ref o), some (.int (nI i)), some (.int (nI kx)), some (.int (v))]) (st' := [.int (v), (.long yv')]) rfl rfl (Nat.le_of_ble_eq_true rfl) ?_
  refine V.i2l (pc := 529) h (by decide +kernel) ?_
  refine V.lcmp (pc := 530) h (by decide +kernel) ?_
  refine V.top (v' := .int 0) (by rw [hv, lg_same]) ?_
  exact V.if_eq (pc := 531) h (off := 5) (by decide +kernel) (tgt := 536) (by decide) (fun _ => fin) (fun z => absurd rfl z)
theorem k_sync (h : CX l D tc A p s m args meth c code 7 RL Ts) (hls : l.stackTraces = false) (hX : va_X b L xs s s.heap) (hbl : b < s.heap.size) (hbA : ¬ A b) (hi : i + 4 < L) (hL : L < 2 ^ 31) (hJ : LJ tc am ad q0 o X Y yv S Lm Lc) {v : Bool}
    (hC : CMH l D tc yL_sync [(0, 16, 19, 13)] cL_sync 4 (some .int) dC mc ms [.ref q0, .int (xs (i + 1)), .ref o] (zSub S Lc) (fun v' S' => v' = some (.int (nI kx)) ∧ (∃ ax ay, ax 10 0 = q0 ∧ RA tc (mx ax ay) Y' S') ∧ OU o S' yv'))
    (hR : RM l D tc am ad yX11_sync cX11_sync 2 (some .boolean) dR [.ref am, .int (xs (i + 1))] X (some (.int (bI v))) X') (hthr : tf X' 0 = kx) (hkx : kx ≤ 2) (hval : kx = 0 → yv' = (bI v).toInt64) (hd : dC ≤ 13) (hdR : dR ≤ 13) (hfr : 16 ≤ R.frames) (hlo : 626 ≤ R.locals) (hro : k + mc ≤ R.cells) (hrs : n + ms ≤ R.slots)
    (kk : ∀ (S' : HS) (Lm' Lc' : List Nat), LJ tc am ad q0 o X' Y' yv' S' Lm' Lc' → V l D tc A p e R s m args below meth c 7 Q S' (k + mc) (n + ms) 1179 [some (.ref b), some (.ref q0), some (.ref am), some (.ref o), some (.int (nI i)), none, none] []) : V l D tc A p e R s m args below meth c 7 Q S k n 539 [some (.ref b), some (.ref q0), some (.ref am), some (.ref o), some (.int (nI i)), none, none] [] := by
  refine V.blk h [(.aload_n 1, 1), (.aload_n 0, 1), (.iload 4, 2), (.iconst 1, 1), (.iadd, 1)] (by decide +kernel) (pc' := 545) (ls' := [some (.ref b), some (.ref q0), some (.ref am), some (.ref o), some (.int (nI i)), none, none]) (st' := [.int (nI i + nI 1), .ref b, .ref q0]) rfl rfl (Nat.le_of_ble_eq_true rfl) ?_
  refine V.top (v' := .int (nI (i + 1))) (by rw [nI_add]) ?_
  refine V.sld (pc := 545) h hX hbl hbA (show i + 1 < L by omega) hL (by decide +kernel) ?_
  refine V.blk h [(.aload_n 3, 1)] (by decide +kernel) (pc' := 547) (ls' := [some (.ref b), some (.ref q0), some (.ref am), some (.ref o), some (.int (nI i)), none, none]) (st' := [.ref o, .int (xs (i + 1)), .ref q0]) rfl rfl (Nat.le_of_ble_eq_true rfl) ?_
  refine V.ccall (pc := 547) (st := []) (np := 3) (As := [.ref q0, .int (xs (i + 1)), .ref o]) h hJ hC wc_L_sync wn_RL wm_RL_100 wt_L_sync (by decide +kernel) rfl (by omega) (by omega) hro hrs (by simp) (by decide +kernel) rfl (fun S1 Lc1 hJ1 => ?_)
  refine V.blk h [(.istore 5, 2), (.aload_n 2, 1), (.aload_n 0, 1), (.iload 4, 2), (.iconst 1, 1), (.iadd, 1)] (by decide +kernel) (pc' := 558) (ls' := [some (.ref b), some (.ref q0), some (.ref am), some (.ref o), some (.int (nI i)), some (.int (nI kx)), none]) (st' := [.int (nI i + nI 1), .ref b, .ref am]) rfl rfl (Nat.le_of_ble_eq_true rfl) ?_
  refine V.top (v' := .int (nI (i + 1))) (by rw [nI_add]) ?_
  refine V.sld (pc := 558) h hX hbl hbA (show i + 1 < L by omega) hL (by decide +kernel) ?_
  refine V.mcall (pc := 559) (st := []) (np := 1) (As := [.int (xs (i + 1))]) h hJ1 hR wc_X11_sync wn_RX11 (Or.inl wm_RL_102) wi_X11_sync we_X11_sync (by decide +kernel) rfl (by omega) (by omega) hro hrs (by simp) (by decide +kernel) rfl (fun S2 Lm2 hJ2 => ?_)
  refine V.blk h [(.istore 6, 2), (.aload_n 2, 1)] (by decide +kernel) (pc' := 565) (ls' := [some (.ref b), some (.ref q0), some (.ref am), some (.ref o), some (.int (nI i)), some (.int (nI kx)), some (.int (bI v))]) (st' := [.ref am]) rfl rfl (Nat.le_of_ble_eq_true rfl) ?_
  refine V.mcall (pc := 565) (st := []) (np := 0) (As := []) h hJ2 (r_thrown hls X') wc_X11_thrown wn_RX11 (Or.inl wm_RL_80) wi_X11_thrown we_X11_thrown (by decide +kernel) rfl (by omega) (by omega) hro hrs (by simp) (by decide +kernel) rfl (fun S3 Lm3 hJ3 => ?_)
  refine V.blk h [(.iload 5, 2)] (by decide +kernel) (pc' := 570) (ls' := [some (.ref b), some (.ref q0), some (.ref am), some (.ref o), some (.int (nI i)), some (.int (nI kx)), some (.int (bI v))]) (st' := [.int (nI kx), (.int (nI (tf X' 0)))]) rfl rfl (Nat.le_of_ble_eq_true rfl) ?_
  have fin : V l D tc A p e R s m args below meth c 7 Q S3 (k + mc) (n + ms) 599 [some (.ref b), some (.ref q0), some (.ref am), some (.ref o), some (.int (nI i)), some (.int (nI kx)), some (.int (bI v))] [] := by
    refine V.goto (pc := 599) h (off := 580) (by decide +kernel) (tgt := 1179) (by decide) ?_
    exact V.two (kk S3 Lm3 Lc1 hJ3)
  have hO3 : OU o S3 yv' := by
    have q := hJ3.2.2.2.2.2.2.2
    exact ⟨hJ3.2.1 o q.1, q.2⟩
  refine V.icmp_eq (pc := 570) h (off := 5) (by decide +kernel) (tgt := 575) (by decide) (fun _ => ?_) (fun z => absurd (by rw [hthr]) z)
  refine V.blk h [(.iload 5, 2)] (by decide +kernel) (pc' := 577) (ls' := [some (.ref b), some (.ref q0), some (.ref am), some (.ref o), some (.int (nI i)), some (.int (nI kx)), some (.int (bI v))]) (st' := [.int (nI kx)]) rfl rfl (Nat.le_of_ble_eq_true rfl) ?_
  refine V.if_ne (pc := 577) h (off := 22) (by decide +kernel) (tgt := 599) (by decide) (fun _ => fin) (fun z => ?_)
  have hv := hval (nI_e0 hkx z)
  refine V.blk h [(.aload_n 3, 1), (.iconst 0, 1)] (by decide +kernel) (pc' := 582) (ls' := [some (.ref b), some (.ref q0), some (.ref am), some (.ref o), some (.int (nI i)), some (.int (nI kx)), some (.int (bI v))]) (st' := [.int (nI 0), .ref o]) rfl rfl (Nat.le_of_ble_eq_true rfl) ?_
  refine V.lald (pc := 582) (M := 1) (i := 0) h hO3.1 hO3.2.1 hO3.2.2.1 (by decide) (by decide) (by decide +kernel) hO3.2.2.2 ?_
  refine V.blk h [(.iload 6, 2)] (by decide +kernel) (pc' := 585) (ls' := [some (.ref b), some (.ref q0), some (.ref am), some (.ref o), some (.int (nI i)), some (.int (nI kx)), some (.int (bI v))]) (st' := [.int (bI v), (.long yv')]) rfl rfl (Nat.le_of_ble_eq_true rfl) ?_
  have cmp : ∀ x : Int64, x = (bI v).toInt64 → V l D tc A p e R s m args below meth c 7 Q S3 (k + mc) (n + ms) 593 [some (.ref b), some (.ref q0), some (.ref am), some (.ref o), some (.int (nI i)), some (.int (nI kx)), some (.int (bI v))] [.long x, .long yv'] := fun x hx => by
    refine V.lcmp (pc := 593) h (by decide +kernel) ?_
    refine V.top (v' := .int 0) (by rw [hv, hx, lg_same]) ?_
    exact V.if_eq (pc := 594) h (off := 5) (by decide +kernel) (tgt := 599) (by decide) (fun _ => fin) (fun z => absurd rfl z)
  refine V.if_eq (pc := 585) h (off := 7) (by decide +kernel) (tgt := 592) (by decide) (fun z => ?_) (fun z => ?_)
  · have hb := bI_0.mp z
    exact V.lconst (pc := 592) (x := 0) (v := (bI v).toInt64) h (by rw [hb]; decide) (by decide +kernel) (cmp _ rfl)
  · have hb : v = true := by
      cases v
      · exact absurd (bI_0.mpr rfl) z
      · rfl
    refine V.lconst (pc := 588) (x := 1) (v := (bI v).toInt64) h (by rw [hb]; decide) (by decide +kernel) ?_
    exact V.goto (pc := 589) h (off := 4) (by decide +kernel) (tgt := 593) (by decide) (cmp _ rfl)
theorem k_crash (h : CX l D tc A p s m args meth c code 7 RL Ts) (hls : l.stackTraces = false) (hX : va_X b L xs s s.heap) (hbl : b < s.heap.size) (hbA : ¬ A b) (hi : i + 4 < L) (hL : L < 2 ^ 31) (hJ : LJ tc am ad q0 o X Y yv S Lm Lc) {v : Bool}
    (hC : CMH l D tc yL_crash [(0, 16, 19, 13)] cL_crash 4 (some .int) dC mc ms [.ref q0, .int (xs (i + 1)), .ref o] (zSub S Lc) (fun v' S' => v' = some (.int (nI kx)) ∧ (∃ ax ay, ax 10 0 = q0 ∧ RA tc (mx ax ay) Y' S') ∧ OU o S' yv'))
    (hR : RM l D tc am ad yX11_crash cX11_crash 3 (some .boolean) dR [.ref am, .int (xs (i + 1))] X (some (.int (bI v))) X') (hthr : tf X' 0 = kx) (hkx : kx ≤ 2) (hval : kx = 0 → yv' = (bI v).toInt64) (hd : dC ≤ 13) (hdR : dR ≤ 13) (hfr : 16 ≤ R.frames) (hlo : 626 ≤ R.locals) (hro : k + mc ≤ R.cells) (hrs : n + ms ≤ R.slots)
    (kk : ∀ (S' : HS) (Lm' Lc' : List Nat), LJ tc am ad q0 o X' Y' yv' S' Lm' Lc' → V l D tc A p e R s m args below meth c 7 Q S' (k + mc) (n + ms) 1179 [some (.ref b), some (.ref q0), some (.ref am), some (.ref o), some (.int (nI i)), none, none] []) : V l D tc A p e R s m args below meth c 7 Q S k n 602 [some (.ref b), some (.ref q0), some (.ref am), some (.ref o), some (.int (nI i)), none, none] [] := by
  refine V.blk h [(.aload_n 1, 1), (.aload_n 0, 1), (.iload 4, 2), (.iconst 1, 1), (.iadd, 1)] (by decide +kernel) (pc' := 608) (ls' := [some (.ref b), some (.ref q0), some (.ref am), some (.ref o), some (.int (nI i)), none, none]) (st' := [.int (nI i + nI 1), .ref b, .ref q0]) rfl rfl (Nat.le_of_ble_eq_true rfl) ?_
  refine V.top (v' := .int (nI (i + 1))) (by rw [nI_add]) ?_
  refine V.sld (pc := 608) h hX hbl hbA (show i + 1 < L by omega) hL (by decide +kernel) ?_
  refine V.blk h [(.aload_n 3, 1)] (by decide +kernel) (pc' := 610) (ls' := [some (.ref b), some (.ref q0), some (.ref am), some (.ref o), some (.int (nI i)), none, none]) (st' := [.ref o, .int (xs (i + 1)), .ref q0]) rfl rfl (Nat.le_of_ble_eq_true rfl) ?_
  refine V.ccall (pc := 610) (st := []) (np := 3) (As := [.ref q0, .int (xs (i + 1)), .ref o]) h hJ hC wc_L_crash wn_RL wm_RL_103 wt_L_crash (by decide +kernel) rfl (by omega) (by omega) hro hrs (by simp) (by decide +kernel) rfl (fun S1 Lc1 hJ1 => ?_)
  refine V.blk h [(.istore 5, 2), (.aload_n 2, 1), (.aload_n 0, 1), (.iload 4, 2), (.iconst 1, 1), (.iadd, 1)] (by decide +kernel) (pc' := 621) (ls' := [some (.ref b), some (.ref q0), some (.ref am), some (.ref o), some (.int (nI i)), some (.int (nI kx)), none]) (st' := [.int (nI i + nI 1), .ref b, .ref am]) rfl rfl (Nat.le_of_ble_eq_true rfl) ?_
  refine V.top (v' := .int (nI (i + 1))) (by rw [nI_add]) ?_
  refine V.sld (pc := 621) h hX hbl hbA (show i + 1 < L by omega) hL (by decide +kernel) ?_
  refine V.mcall (pc := 622) (st := []) (np := 1) (As := [.int (xs (i + 1))]) h hJ1 hR wc_X11_crash wn_RX11 (Or.inl wm_RL_105) wi_X11_crash we_X11_crash (by decide +kernel) rfl (by omega) (by omega) hro hrs (by simp) (by decide +kernel) rfl (fun S2 Lm2 hJ2 => ?_)
  refine V.blk h [(.istore 6, 2), (.aload_n 2, 1)] (by decide +kernel) (pc' := 628) (ls' := [some (.ref b), some (.ref q0), some (.ref am), some (.ref o), some (.int (nI i)), some (.int (nI kx)), some (.int (bI v))]) (st' := [.ref am]) rfl rfl (Nat.le_of_ble_eq_true rfl) ?_
  refine V.mcall (pc := 628) (st := []) (np := 0) (As := []) h hJ2 (r_thrown hls X') wc_X11_thrown wn_RX11 (Or.inl wm_RL_80) wi_X11_thrown we_X11_thrown (by decide +kernel) rfl (by omega) (by omega) hro hrs (by simp) (by decide +kernel) rfl (fun S3 Lm3 hJ3 => ?_)
  refine V.blk h [(.iload 5, 2)] (by decide +kernel) (pc' := 633) (ls' := [some (.ref b), some (.ref q0), some (.ref am), some (.ref o), some (.int (nI i)), some (.int (nI kx)), some (.int (bI v))]) (st' := [.int (nI kx), (.int (nI (tf X' 0)))]) rfl rfl (Nat.le_of_ble_eq_true rfl) ?_
  have fin : V l D tc A p e R s m args below meth c 7 Q S3 (k + mc) (n + ms) 662 [some (.ref b), some (.ref q0), some (.ref am), some (.ref o), some (.int (nI i)), some (.int (nI kx)), some (.int (bI v))] [] := by
    refine V.goto (pc := 662) h (off := 517) (by decide +kernel) (tgt := 1179) (by decide) ?_
    exact V.two (kk S3 Lm3 Lc1 hJ3)
  have hO3 : OU o S3 yv' := by
    have q := hJ3.2.2.2.2.2.2.2
    exact ⟨hJ3.2.1 o q.1, q.2⟩
  refine V.icmp_eq (pc := 633) h (off := 5) (by decide +kernel) (tgt := 638) (by decide) (fun _ => ?_) (fun z => absurd (by rw [hthr]) z)
  refine V.blk h [(.iload 5, 2)] (by decide +kernel) (pc' := 640) (ls' := [some (.ref b), some (.ref q0), some (.ref am), some (.ref o), some (.int (nI i)), some (.int (nI kx)), some (.int (bI v))]) (st' := [.int (nI kx)]) rfl rfl (Nat.le_of_ble_eq_true rfl) ?_
  refine V.if_ne (pc := 640) h (off := 22) (by decide +kernel) (tgt := 662) (by decide) (fun _ => fin) (fun z => ?_)
  have hv := hval (nI_e0 hkx z)
  refine V.blk h [(.aload_n 3, 1), (.iconst 0, 1)] (by decide +kernel) (pc' := 645) (ls' := [some (.ref b), some (.ref q0), some (.ref am), some (.ref o), some (.int (nI i)), some (.int (nI kx)), some (.int (bI v))]) (st' := [.int (nI 0), .ref o]) rfl rfl (Nat.le_of_ble_eq_true rfl) ?_
  refine V.lald (pc := 645) (M := 1) (i := 0) h hO3.1 hO3.2.1 hO3.2.2.1 (by decide) (by decide) (by decide +kernel) hO3.2.2.2 ?_
  refine V.blk h [(.iload 6, 2)] (by decide +kernel) (pc' := 648) (ls' := [some (.ref b), some (.ref q0), some (.ref am), some (.ref o), some (.int (nI i)), some (.int (nI kx)), some (.int (bI v))]) (st' := [.int (bI v), (.long yv')]) rfl rfl (Nat.le_of_ble_eq_true rfl) ?_
  have cmp : ∀ x : Int64, x = (bI v).toInt64 → V l D tc A p e R s m args below meth c 7 Q S3 (k + mc) (n + ms) 656 [some (.ref b), some (.ref q0), some (.ref am), some (.ref o), some (.int (nI i)), some (.int (nI kx)), some (.int (bI v))] [.long x, .long yv'] := fun x hx => by
    refine V.lcmp (pc := 656) h (by decide +kernel) ?_
    refine V.top (v' := .int 0) (by rw [hv, hx, lg_same]) ?_
    exact V.if_eq (pc := 657) h (off := 5) (by decide +kernel) (tgt := 662) (by decide) (fun _ => fin) (fun z => absurd rfl z)
  refine V.if_eq (pc := 648) h (off := 7) (by decide +kernel) (tgt := 655) (by decide) (fun z => ?_) (fun z => ?_)
  · have hb := bI_0.mp z
    exact V.lconst (pc := 655) (x := 0) (v := (bI v).toInt64) h (by rw [hb]; decide) (by decide +kernel) (cmp _ rfl)
  · have hb : v = true := by
      cases v
      · exact absurd (bI_0.mpr rfl) z
      · rfl
    refine V.lconst (pc := 651) (x := 1) (v := (bI v).toInt64) h (by rw [hb]; decide) (by decide +kernel) ?_
    exact V.goto (pc := 652) h (off := 4) (by decide +kernel) (tgt := 656) (by decide) (cmp _ rfl)
end
