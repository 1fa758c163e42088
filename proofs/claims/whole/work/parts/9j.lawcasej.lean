/-! ===== the law: cases of its loop ===== -/
section
variable {l : Launch} {D : va_G} {tc : Nat → ClassId} {A : Nat → Prop} {p : Program} {e : Env} {R : Room} {s : State} {m : MethodId} {args : Array Value} {below : List Frame} {meth : Method} {c : Code} {Q : State → Prop} {S : HS} {k n : Nat} {Ts : List Cond} {am q0 o b L i kx dC dR mc ms : Nat} {ad : Nat → Nat} {xs : Nat → Int32} {X X' Y Y' : TS} {yv yv' : Int64} {Lm Lc : List Nat}
theorem k_decide (h : CX l D tc A p s m args meth c code 7 RL Ts) (hls : l.stackTraces = false) (hX : va_X b L xs s s.heap) (hbl : b < s.heap.size) (hbA : ¬ A b) (hi : i + 4 < L) (hL : L < 2 ^ 31) (hJ : LJ tc am ad q0 o X Y yv S Lm Lc) {v : Int32}
    (hC : CMH l D tc yL_decide [(0, 10, 13, 13), (0, 10, 17, 44)] cL_decide 5 (some .int) dC mc ms [.ref q0, .int (xs (i + 1)), .int (xs (i + 2)), .ref o] (zSub S Lc) (fun v' S' => v' = some (.int (nI kx)) ∧ (∃ ax ay, ax 10 0 = q0 ∧ RA tc (mx ax ay) Y' S') ∧ OU o S' yv'))
    (hR : RM l D tc am ad yX11_decide cX11_decide 5 (some .int) dR [.ref am, .int (xs (i + 1)), .int (xs (i + 2))] X (some (.int (v))) X') (hthr : tf X' 0 = kx) (hkx : kx ≤ 2) (hval : kx = 0 → yv' = (v).toInt64) (hd : dC ≤ 13) (hdR : dR ≤ 13) (hfr : 16 ≤ R.frames) (hlo : 626 ≤ R.locals) (hro : k + mc ≤ R.cells) (hrs : n + ms ≤ R.slots)
    (kk : ∀ (S' : HS) (Lm' Lc' : List Nat), LJ tc am ad q0 o X' Y' yv' S' Lm' Lc' → V l D tc A p e R s m args below meth c 7 Q S' (k + mc) (n + ms) 1179 [some (.ref b), some (.ref q0), some (.ref am), some (.ref o), some (.int (nI i)), none, none] []) : V l D tc A p e R s m args below meth c 7 Q S k n 665 [some (.ref b), some (.ref q0), some (.ref am), some (.ref o), some (.int (nI i)), none, none] [] := by
  refine V.blk h [(.aload_n 1, 1), (.aload_n 0, 1), (.iload 4, 2), (.iconst 1, 1), (.iadd, 1)] (by decide +kernel) (pc' := 671) (ls' := [some (.ref b), some (.ref q0), some (.ref am), some (.ref o), some (.int (nI i)), none, none]) (st' := [.int (nI i + nI 1), .ref b, .ref q0]) rfl rfl (Nat.le_of_ble_eq_true rfl) ?_
  refine V.top (v' := .int (nI (i + 1))) (by rw [nI_add]) ?_
  refine V.sld (pc := 671) h hX hbl hbA (show i + 1 < L by omega) hL (by decide +kernel) ?_
  refine V.blk h [(.aload_n 0, 1), (.iload 4, 2), (.iconst 2, 1), (.iadd, 1)] (by decide +kernel) (pc' := 677) (ls' := [some (.ref b), some (.ref q0), some (.ref am), some (.ref o), some (.int (nI i)), none, none]) (st' := [.int (nI i + nI 2), .ref b, .int (xs (i + 1)), .ref q0]) rfl rfl (Nat.le_of_ble_eq_true rfl) ?_
  refine V.top (v' := .int (nI (i + 2))) (by rw [nI_add]) ?_
  refine V.sld (pc := 677) h hX hbl hbA (show i + 2 < L by omega) hL (by decide +kernel) ?_
  refine V.blk h [(.aload_n 3, 1)] (by decide +kernel) (pc' := 679) (ls' := [some (.ref b), some (.ref q0), some (.ref am), some (.ref o), some (.int (nI i)), none, none]) (st' := [.ref o, .int (xs (i + 2)), .int (xs (i + 1)), .ref q0]) rfl rfl (Nat.le_of_ble_eq_true rfl) ?_
  refine V.ccall (pc := 679) (st := []) (np := 4) (As := [.ref q0, .int (xs (i + 1)), .int (xs (i + 2)), .ref o]) h hJ hC wc_L_decide wn_RL wm_RL_106 wt_L_decide (by decide +kernel) rfl (by omega) (by omega) hro hrs (by simp) (by decide +kernel) rfl (fun S1 Lc1 hJ1 => ?_)
  refine V.blk h [(.istore 5, 2), (.aload_n 2, 1), (.aload_n 0, 1), (.iload 4, 2), (.iconst 1, 1), (.iadd, 1)] (by decide +kernel) (pc' := 690) (ls' := [some (.ref b), some (.ref q0), some (.ref am), some (.ref o), some (.int (nI i)), some (.int (nI kx)), none]) (st' := [.int (nI i + nI 1), .ref b, .ref am]) rfl rfl (Nat.le_of_ble_eq_true rfl) ?_
  refine V.top (v' := .int (nI (i + 1))) (by rw [nI_add]) ?_
  refine V.sld (pc := 690) h hX hbl hbA (show i + 1 < L by omega) hL (by decide +kernel) ?_
  refine V.blk h [(.aload_n 0, 1), (.iload 4, 2), (.iconst 2, 1), (.iadd, 1)] (by decide +kernel) (pc' := 696) (ls' := [some (.ref b), some (.ref q0), some (.ref am), some (.ref o), some (.int (nI i)), some (.int (nI kx)), none]) (st' := [.int (nI i + nI 2), .ref b, .int (xs (i + 1)), .ref am]) rfl rfl (Nat.le_of_ble_eq_true rfl) ?_
  refine V.top (v' := .int (nI (i + 2))) (by rw [nI_add]) ?_
  refine V.sld (pc := 696) h hX hbl hbA (show i + 2 < L by omega) hL (by decide +kernel) ?_
  refine V.mcall (pc := 697) (st := []) (np := 2) (As := [.int (xs (i + 1)), .int (xs (i + 2))]) h hJ1 hR wc_X11_decide wn_RX11 (Or.inl wm_RL_109) wi_X11_decide we_X11_decide (by decide +kernel) rfl (by omega) (by omega) hro hrs (by simp) (by decide +kernel) rfl (fun S2 Lm2 hJ2 => ?_)
  refine V.blk h [(.istore 6, 2), (.aload_n 2, 1)] (by decide +kernel) (pc' := 703) (ls' := [some (.ref b), some (.ref q0), some (.ref am), some (.ref o), some (.int (nI i)), some (.int (nI kx)), some (.int (v))]) (st' := [.ref am]) rfl rfl (Nat.le_of_ble_eq_true rfl) ?_
  refine V.mcall (pc := 703) (st := []) (np := 0) (As := []) h hJ2 (r_thrown hls X') wc_X11_thrown wn_RX11 (Or.inl wm_RL_80) wi_X11_thrown we_X11_thrown (by decide +kernel) rfl (by omega) (by omega) hro hrs (by simp) (by decide +kernel) rfl (fun S3 Lm3 hJ3 => ?_)
  refine V.blk h [(.iload 5, 2)] (by decide +kernel) (pc' := 708) (ls' := [some (.ref b), some (.ref q0), some (.ref am), some (.ref o), some (.int (nI i)), some (.int (nI kx)), some (.int (v))]) (st' := [.int (nI kx), (.int (nI (tf X' 0)))]) rfl rfl (Nat.le_of_ble_eq_true rfl) ?_
  have fin : V l D tc A p e R s m args below meth c 7 Q S3 (k + mc) (n + ms) 730 [some (.ref b), some (.ref q0), some (.ref am), some (.ref o), some (.int (nI i)), some (.int (nI kx)), some (.int (v))] [] := by
    refine V.goto (pc := 730) h (off := 449) (by decide +kernel) (tgt := 1179) (by decide) ?_
    exact V.two (kk S3 Lm3 Lc1 hJ3)
  have hO3 : OU o S3 yv' := by
    have q := hJ3.2.2.2.2.2.2.2
    exact ⟨hJ3.2.1 o q.1, q.2⟩
  refine V.icmp_eq (pc := 708) h (off := 5) (by decide +kernel) (tgt := 713) (by decide) (fun _ => ?_) (fun z => absurd (by rw [hthr]) z)
  refine V.blk h [(.iload 5, 2)] (by decide +kernel) (pc' := 715) (ls' := [some (.ref b), some (.ref q0), some (.ref am), some (.ref o), some (.int (nI i)), some (.int (nI kx)), some (.int (v))]) (st' := [.int (nI kx)]) rfl rfl (Nat.le_of_ble_eq_true rfl) ?_
  refine V.if_ne (pc := 715) h (off := 15) (by decide +kernel) (tgt := 730) (by decide) (fun _ => fin) (fun z => ?_)
  have hv := hval (nI_e0 hkx z)
  refine V.blk h [(.aload_n 3, 1), (.iconst 0, 1)] (by decide +kernel) (pc' := 720) (ls' := [some (.ref b), some (.ref q0), some (.ref am), some (.ref o), some (.int (nI i)), some (.int (nI kx)), some (.int (v))]) (st' := [.int (nI 0), .ref o]) rfl rfl (Nat.le_of_ble_eq_true rfl) ?_
  refine V.lald (pc := 720) (M := 1) (i := 0) h hO3.1 hO3.2.1 hO3.2.2.1 (by decide) (by decide) (by decide +kernel) hO3.2.2.2 ?_
  refine V.blk h [(.iload 6, 2)] (by decide +kernel) (pc' := 723) (ls' := [some (.ref b), some (.ref q0), some (.ref am), some (.ref o), some (.int (nI i)), some (.int (nI kx)), some (.int (v))]) (st' := [.int (v), (.long yv')]) rfl rfl (Nat.le_of_ble_eq_true rfl) ?_
  refine V.i2l (pc := 723) h (by decide +kernel) ?_
  refine V.lcmp (pc := 724) h (by decide +kernel) ?_
  refine V.top (v' := .int 0) (by rw [hv, lg_same]) ?_
  exact V.if_eq (pc := 725) h (off := 5) (by decide +kernel) (tgt := 730) (by decide) (fun _ => fin) (fun z => absurd rfl z)
theorem k_letter (h : CX l D tc A p s m args meth c code 7 RL Ts) (hls : l.stackTraces = false) (hX : va_X b L xs s s.heap) (hbl : b < s.heap.size) (hbA : ¬ A b) (hi : i + 4 < L) (hL : L < 2 ^ 31) (hJ : LJ tc am ad q0 o X Y yv S Lm Lc) {v : Int32}
    (hC : CMH l D tc yL_letter [(0, 10, 13, 13), (0, 10, 17, 15)] cL_letter 5 (some .int) dC mc ms [.ref q0, .int (xs (i + 1)), .int (xs (i + 2)), .ref o] (zSub S Lc) (fun v' S' => v' = some (.int (nI kx)) ∧ (∃ ax ay, ax 10 0 = q0 ∧ RA tc (mx ax ay) Y' S') ∧ OU o S' yv'))
    (hR : RM l D tc am ad yX11_letter cX11_letter 3 (some .int) dR [.ref am, .int (xs (i + 1)), .int (xs (i + 2))] X (some (.int (v))) X') (hthr : tf X' 0 = kx) (hkx : kx ≤ 2) (hval : kx = 0 → yv' = (v).toInt64) (hd : dC ≤ 13) (hdR : dR ≤ 13) (hfr : 16 ≤ R.frames) (hlo : 626 ≤ R.locals) (hro : k + mc ≤ R.cells) (hrs : n + ms ≤ R.slots)
    (kk : ∀ (S' : HS) (Lm' Lc' : List Nat), LJ tc am ad q0 o X' Y' yv' S' Lm' Lc' → V l D tc A p e R s m args below meth c 7 Q S' (k + mc) (n + ms) 1179 [some (.ref b), some (.ref q0), some (.ref am), some (.ref o), some (.int (nI i)), none, none] []) : V l D tc A p e R s m args below meth c 7 Q S k n 733 [some (.ref b), some (.ref q0), some (.ref am), some (.ref o), some (.int (nI i)), none, none] [] := by
  refine V.blk h [(.aload_n 1, 1), (.aload_n 0, 1), (.iload 4, 2), (.iconst 1, 1), (.iadd, 1)] (by decide +kernel) (pc' := 739) (ls' := [some (.ref b), some (.ref q0), some (.ref am), some (.ref o), some (.int (nI i)), none, none]) (st' := [.int (nI i + nI 1), .ref b, .ref q0]) rfl rfl (Nat.le_of_ble_eq_true rfl) ?_
  refine V.top (v' := .int (nI (i + 1))) (by rw [nI_add]) ?_
  refine V.sld (pc := 739) h hX hbl hbA (show i + 1 < L by omega) hL (by decide +kernel) ?_
  refine V.blk h [(.aload_n 0, 1), (.iload 4, 2), (.iconst 2, 1), (.iadd, 1)] (by decide +kernel) (pc' := 745) (ls' := [some (.ref b), some (.ref q0), some (.ref am), some (.ref o), some (.int (nI i)), none, none]) (st' := [.int (nI i + nI 2), .ref b, .int (xs (i + 1)), .ref q0]) rfl rfl (Nat.le_of_ble_eq_true rfl) ?_
  refine V.top (v' := .int (nI (i + 2))) (by rw [nI_add]) ?_
  refine V.sld (pc := 745) h hX hbl hbA (show i + 2 < L by omega) hL (by decide +kernel) ?_
  refine V.blk h [(.aload_n 3, 1)] (by decide +kernel) (pc' := 747) (ls' := [some (.ref b), some (.ref q0), some (.ref am), some (.ref o), some (.int (nI i)), none, none]) (st' := [.ref o, .int (xs (i + 2)), .int (xs (i + 1)), .ref q0]) rfl rfl (Nat.le_of_ble_eq_true rfl) ?_
  refine V.ccall (pc := 747) (st := []) (np := 4) (As := [.ref q0, .int (xs (i + 1)), .int (xs (i + 2)), .ref o]) h hJ hC wc_L_letter wn_RL wm_RL_110 wt_L_letter (by decide +kernel) rfl (by omega) (by omega) hro hrs (by simp) (by decide +kernel) rfl (fun S1 Lc1 hJ1 => ?_)
  refine V.blk h [(.istore 5, 2), (.aload_n 2, 1), (.aload_n 0, 1), (.iload 4, 2), (.iconst 1, 1), (.iadd, 1)] (by decide +kernel) (pc' := 758) (ls' := [some (.ref b), some (.ref q0), some (.ref am), some (.ref o), some (.int (nI i)), some (.int (nI kx)), none]) (st' := [.int (nI i + nI 1), .ref b, .ref am]) rfl rfl (Nat.le_of_ble_eq_true rfl) ?_
  refine V.top (v' := .int (nI (i + 1))) (by rw [nI_add]) ?_
  refine V.sld (pc := 758) h hX hbl hbA (show i + 1 < L by omega) hL (by decide +kernel) ?_
  refine V.blk h [(.aload_n 0, 1), (.iload 4, 2), (.iconst 2, 1), (.iadd, 1)] (by decide +kernel) (pc' := 764) (ls' := [some (.ref b), some (.ref q0), some (.ref am), some (.ref o), some (.int (nI i)), some (.int (nI kx)), none]) (st' := [.int (nI i + nI 2), .ref b, .int (xs (i + 1)), .ref am]) rfl rfl (Nat.le_of_ble_eq_true rfl) ?_
  refine V.top (v' := .int (nI (i + 2))) (by rw [nI_add]) ?_
  refine V.sld (pc := 764) h hX hbl hbA (show i + 2 < L by omega) hL (by decide +kernel) ?_
  refine V.mcall (pc := 765) (st := []) (np := 2) (As := [.int (xs (i + 1)), .int (xs (i + 2))]) h hJ1 hR wc_X11_letter wn_RX11 (Or.inl wm_RL_112) wi_X11_letter we_X11_letter (by decide +kernel) rfl (by omega) (by omega) hro hrs (by simp) (by decide +kernel) rfl (fun S2 Lm2 hJ2 => ?_)
  refine V.blk h [(.istore 6, 2), (.aload_n 2, 1)] (by decide +kernel) (pc' := 771) (ls' := [some (.ref b), some (.ref q0), some (.ref am), some (.ref o), some (.int (nI i)), some (.int (nI kx)), some (.int (v))]) (st' := [.ref am]) rfl rfl (Nat.le_of_ble_eq_true rfl) ?_
  refine V.mcall (pc := 771) (st := []) (np := 0) (As := []) h hJ2 (r_thrown hls X') wc_X11_thrown wn_RX11 (Or.inl wm_RL_80) wi_X11_thrown we_X11_thrown (by decide +kernel) rfl (by omega) (by omega) hro hrs (by simp) (by decide +kernel) rfl (fun S3 Lm3 hJ3 => ?_)
  refine V.blk h [(.iload 5, 2)] (by decide +kernel) (pc' := 776) (ls' := [some (.ref b), some (.ref q0), some (.ref am), some (.ref o), some (.int (nI i)), some (.int (nI kx)), some (.int (v))]) (st' := [.int (nI kx), (.int (nI (tf X' 0)))]) rfl rfl (Nat.le_of_ble_eq_true rfl) ?_
  have fin : V l D tc A p e R s m args below meth c 7 Q S3 (k + mc) (n + ms) 798 [some (.ref b), some (.ref q0), some (.ref am), some (.ref o), some (.int (nI i)), some (.int (nI kx)), some (.int (v))] [] := by
    refine V.goto (pc := 798) h (off := 381) (by decide +kernel) (tgt := 1179) (by decide) ?_
    exact V.two (kk S3 Lm3 Lc1 hJ3)
  have hO3 : OU o S3 yv' := by
    have q := hJ3.2.2.2.2.2.2.2
    exact ⟨hJ3.2.1 o q.1, q.2⟩
  refine V.icmp_eq (pc := 776) h (off := 5) (by decide +kernel) (tgt := 781) (by decide) (fun _ => ?_) (fun z => absurd (by rw [hthr]) z)
  refine V.blk h [(.iload 5, 2)] (by decide +kernel) (pc' := 783) (ls' := [some (.ref b), some (.ref q0), some (.ref am), some (.ref o), some (.int (nI i)), some (.int (nI kx)), some (.int (v))]) (st' := [.int (nI kx)]) rfl rfl (Nat.le_of_ble_eq_true rfl) ?_
  refine V.if_ne (pc := 783) h (off := 15) (by decide +kernel) (tgt := 798) (by decide) (fun _ => fin) (fun z => ?_)
  have hv := hval (nI_e0 hkx z)
  refine V.blk h [(.aload_n 3, 1), (.iconst 0, 1)] (by decide +kernel) (pc' := 788) (ls' := [some (.ref b), some (.ref q0), some (.ref am), some (.ref o), some (.int (nI i)), some (.int (nI kx)), some (.int (v))]) (st' := [.int (nI 0), .ref o]) rfl rfl (Nat.le_of_ble_eq_true rfl) ?_
  refine V.lald (pc := 788) (M := 1) (i := 0) h hO3.1 hO3.2.1 hO3.2.2.1 (by decide) (by decide) (by decide +kernel) hO3.2.2.2 ?_
  refine V.blk h [(.iload 6, 2)] (by decide +kernel) (pc' := 791) (ls' := [some (.ref b), some (.ref q0), some (.ref am), some (.ref o), some (.int (nI i)), some (.int (nI kx)), some (.int (v))]) (st' := [.int (v), (.long yv')]) rfl rfl (Nat.le_of_ble_eq_true rfl) ?_
  refine V.i2l (pc := 791) h (by decide +kernel) ?_
  refine V.lcmp (pc := 792) h (by decide +kernel) ?_
  refine V.top (v' := .int 0) (by rw [hv, lg_same]) ?_
  exact V.if_eq (pc := 793) h (off := 5) (by decide +kernel) (tgt := 798) (by decide) (fun _ => fin) (fun z => absurd rfl z)
theorem k_client (h : CX l D tc A p s m args meth c code 7 RL Ts) (hls : l.stackTraces = false) (hX : va_X b L xs s s.heap) (hbl : b < s.heap.size) (hbA : ¬ A b) (hi : i + 4 < L) (hL : L < 2 ^ 31) (hJ : LJ tc am ad q0 o X Y yv S Lm Lc) {v : Int32}
    (hC : CMH l D tc yL_client [(0, 10, 13, 13), (0, 10, 17, 15)] cL_client 5 (some .int) dC mc ms [.ref q0, .int (xs (i + 1)), .int (xs (i + 2)), .ref o] (zSub S Lc) (fun v' S' => v' = some (.int (nI kx)) ∧ (∃ ax ay, ax 10 0 = q0 ∧ RA tc (mx ax ay) Y' S') ∧ OU o S' yv'))
    (hR : RM l D tc am ad yX11_client cX11_client 4 (some .int) dR [.ref am, .int (xs (i + 1)), .int (xs (i + 2))] X (some (.int (v))) X') (hthr : tf X' 0 = kx) (hkx : kx ≤ 2) (hval : kx = 0 → yv' = (v).toInt64) (hd : dC ≤ 13) (hdR : dR ≤ 13) (hfr : 16 ≤ R.frames) (hlo : 626 ≤ R.locals) (hro : k + mc ≤ R.cells) (hrs : n + ms ≤ R.slots)
    (kk : ∀ (S' : HS) (Lm' Lc' : List Nat), LJ tc am ad q0 o X' Y' yv' S' Lm' Lc' → V l D tc A p e R s m args below meth c 7 Q S' (k + mc) (n + ms) 1179 [some (.ref b), some (.ref q0), some (.ref am), some (.ref o), some (.int (nI i)), none, none] []) : V l D tc A p e R s m args below meth c 7 Q S k n 801 [some (.ref b), some (.ref q0), some (.ref am), some (.ref o), some (.int (nI i)), none, none] [] := by
  refine V.blk h [(.aload_n 1, 1), (.aload_n 0, 1), (.iload 4, 2), (.iconst 1, 1), (.iadd, 1)] (by decide +kernel) (pc' := 807) (ls' := [some (.ref b), some (.ref q0), some (.ref am), some (.ref o), some (.int (nI i)), none, none]) (st' := [.int (nI i + nI 1), .ref b, .ref q0]) rfl rfl (Nat.le_of_ble_eq_true rfl) ?_
  refine V.top (v' := .int (nI (i + 1))) (by rw [nI_add]) ?_
  refine V.sld (pc := 807) h hX hbl hbA (show i + 1 < L by omega) hL (by decide +kernel) ?_
  refine V.blk h [(.aload_n 0, 1), (.iload 4, 2), (.iconst 2, 1), (.iadd, 1)] (by decide +kernel) (pc' := 813) (ls' := [some (.ref b), some (.ref q0), some (.ref am), some (.ref o), some (.int (nI i)), none, none]) (st' := [.int (nI i + nI 2), .ref b, .int (xs (i + 1)), .ref q0]) rfl rfl (Nat.le_of_ble_eq_true rfl) ?_
  refine V.top (v' := .int (nI (i + 2))) (by rw [nI_add]) ?_
  refine V.sld (pc := 813) h hX hbl hbA (show i + 2 < L by omega) hL (by decide +kernel) ?_
  refine V.blk h [(.aload_n 3, 1)] (by decide +kernel) (pc' := 815) (ls' := [some (.ref b), some (.ref q0), some (.ref am), some (.ref o), some (.int (nI i)), none, none]) (st' := [.ref o, .int (xs (i + 2)), .int (xs (i + 1)), .ref q0]) rfl rfl (Nat.le_of_ble_eq_true rfl) ?_
  refine V.ccall (pc := 815) (st := []) (np := 4) (As := [.ref q0, .int (xs (i + 1)), .int (xs (i + 2)), .ref o]) h hJ hC wc_L_client wn_RL wm_RL_113 wt_L_client (by decide +kernel) rfl (by omega) (by omega) hro hrs (by simp) (by decide +kernel) rfl (fun S1 Lc1 hJ1 => ?_)
  refine V.blk h [(.istore 5, 2), (.aload_n 2, 1), (.aload_n 0, 1), (.iload 4, 2), (.iconst 1, 1), (.iadd, 1)] (by decide +kernel) (pc' := 826) (ls' := [some (.ref b), some (.ref q0), some (.ref am), some (.ref o), some (.int (nI i)), some (.int (nI kx)), none]) (st' := [.int (nI i + nI 1), .ref b, .ref am]) rfl rfl (Nat.le_of_ble_eq_true rfl) ?_
  refine V.top (v' := .int (nI (i + 1))) (by rw [nI_add]) ?_
  refine V.sld (pc := 826) h hX hbl hbA (show i + 1 < L by omega) hL (by decide +kernel) ?_
  refine V.blk h [(.aload_n 0, 1), (.iload 4, 2), (.iconst 2, 1), (.iadd, 1)] (by decide +kernel) (pc' := 832) (ls' := [some (.ref b), some (.ref q0), some (.ref am), some (.ref o), some (.int (nI i)), some (.int (nI kx)), none]) (st' := [.int (nI i + nI 2), .ref b, .int (xs (i + 1)), .ref am]) rfl rfl (Nat.le_of_ble_eq_true rfl) ?_
  refine V.top (v' := .int (nI (i + 2))) (by rw [nI_add]) ?_
  refine V.sld (pc := 832) h hX hbl hbA (show i + 2 < L by omega) hL (by decide +kernel) ?_
  refine V.mcall (pc := 833) (st := []) (np := 2) (As := [.int (xs (i + 1)), .int (xs (i + 2))]) h hJ1 hR wc_X11_client wn_RX11 (Or.inl wm_RL_115) wi_X11_client we_X11_client (by decide +kernel) rfl (by omega) (by omega) hro hrs (by simp) (by decide +kernel) rfl (fun S2 Lm2 hJ2 => ?_)
  refine V.blk h [(.istore 6, 2), (.aload_n 2, 1)] (by decide +kernel) (pc' := 839) (ls' := [some (.ref b), some (.ref q0), some (.ref am), some (.ref o), some (.int (nI i)), some (.int (nI kx)), some (.int (v))]) (st' := [.ref am]) rfl rfl (Nat.le_of_ble_eq_true rfl) ?_
  refine V.mcall (pc := 839) (st := []) (np := 0) (As := []) h hJ2 (r_thrown hls X') wc_X11_thrown wn_RX11 (Or.inl wm_RL_80) wi_X11_thrown we_X11_thrown (by decide +kernel) rfl (by omega) (by omega) hro hrs (by simp) (by decide +kernel) rfl (fun S3 Lm3 hJ3 => ?_)
  refine V.blk h [(.iload 5, 2)] (by decide +kernel) (pc' := 844) (ls' := [some (.ref b), some (.ref q0), some (.ref am), some (.ref o), some (.int (nI i)), some (.int (nI kx)), some (.int (v))]) (st' := [.int (nI kx), (.int (nI (tf X' 0)))]) rfl rfl (Nat.le_of_ble_eq_true rfl) ?_
  have fin : V l D tc A p e R s m args below meth c 7 Q S3 (k + mc) (n + ms) 866 [some (.ref b), some (.ref q0), some (.ref am), some (.ref o), some (.int (nI i)), some (.int (nI kx)), some (.int (v))] [] := by
    refine V.goto (pc := 866) h (off := 313) (by decide +kernel) (tgt := 1179) (by decide) ?_
    exact V.two (kk S3 Lm3 Lc1 hJ3)
  have hO3 : OU o S3 yv' := by
    have q := hJ3.2.2.2.2.2.2.2
    exact ⟨hJ3.2.1 o q.1, q.2⟩
  refine V.icmp_eq (pc := 844) h (off := 5) (by decide +kernel) (tgt := 849) (by decide) (fun _ => ?_) (fun z => absurd (by rw [hthr]) z)
  refine V.blk h [(.iload 5, 2)] (by decide +kernel) (pc' := 851) (ls' := [some (.ref b), some (.ref q0), some (.ref am), some (.ref o), some (.int (nI i)), some (.int (nI kx)), some (.int (v))]) (st' := [.int (nI kx)]) rfl rfl (Nat.le_of_ble_eq_true rfl) ?_
  refine V.if_ne (pc := 851) h (off := 15) (by decide +kernel) (tgt := 866) (by decide) (fun _ => fin) (fun z => ?_)
  have hv := hval (nI_e0 hkx z)
  refine V.blk h [(.aload_n 3, 1), (.iconst 0, 1)] (by decide +kernel) (pc' := 856) (ls' := [some (.ref b), some (.ref q0), some (.ref am), some (.ref o), some (.int (nI i)), some (.int (nI kx)), some (.int (v))]) (st' := [.int (nI 0), .ref o]) rfl rfl (Nat.le_of_ble_eq_true rfl) ?_
  refine V.lald (pc := 856) (M := 1) (i := 0) h hO3.1 hO3.2.1 hO3.2.2.1 (by decide) (by decide) (by decide +kernel) hO3.2.2.2 ?_
  refine V.blk h [(.iload 6, 2)] (by decide +kernel) (pc' := 859) (ls' := [some (.ref b), some (.ref q0), some (.ref am), some (.ref o), some (.int (nI i)), some (.int (nI kx)), some (.int (v))]) (st' := [.int (v), (.long yv')]) rfl rfl (Nat.le_of_ble_eq_true rfl) ?_
  refine V.i2l (pc := 859) h (by decide +kernel) ?_
  refine V.lcmp (pc := 860) h (by decide +kernel) ?_
  refine V.top (v' := .int 0) (by rw [hv, lg_same]) ?_
  exact V.if_eq (pc := 861) h (off := 5) (by decide +kernel) (tgt := 866) (by decide) (fun _ => fin) (fun z => absurd rfl z)
theorem k_master (h : CX l D tc A p s m args meth c code 7 RL Ts) (hls : l.stackTraces = false) (hX : va_X b L xs s s.heap) (hbl : b < s.heap.size) (hbA : ¬ A b) (hi : i + 4 < L) (hL : L < 2 ^ 31) (hJ : LJ tc am ad q0 o X Y yv S Lm Lc) {v : Int32}
    (hC : CMH l D tc yL_master [(0, 10, 13, 13), (0, 10, 17, 15)] cL_master 5 (some .int) dC mc ms [.ref q0, .int (xs (i + 1)), .int (xs (i + 2)), .ref o] (zSub S Lc) (fun v' S' => v' = some (.int (nI kx)) ∧ (∃ ax ay, ax 10 0 = q0 ∧ RA tc (mx ax ay) Y' S') ∧ OU o S' yv'))
    (hR : RM l D tc am ad yX11_master cX11_master 3 (some .int) dR [.ref am, .int (xs (i + 1)), .int (xs (i + 2))] X (some (.int (v))) X') (hthr : tf X' 0 = kx) (hkx : kx ≤ 2) (hval : kx = 0 → yv' = (v).toInt64) (hd : dC ≤ 13) (hdR : dR ≤ 13) (hfr : 16 ≤ R.frames) (hlo : 626 ≤ R.locals) (hro : k + mc ≤ R.cells) (hrs : n + ms ≤ R.slots)
    (kk : ∀ (S' : HS) (Lm' Lc' : List Nat), LJ tc am ad q0 o X' Y' yv' S' Lm' Lc' → V l D tc A p e R s m args below meth c 7 Q S' (k + mc) (n + ms) 1179 [some (.ref b), some (.ref q0), some (.ref am), some (.ref o), some (.int (nI i)), none, none] []) : V l D tc A p e R s m args below meth c 7 Q S k n 869 [some (.ref b), some (.ref q0), some (.ref am), some (.ref o), some (.int (nI i)), none, none] [] := by
  refine V.blk h [(.aload_n 1, 1), (.aload_n 0, 1), (.iload 4, 2), (.iconst 1, 1), (.iadd, 1)] (by decide +kernel) (pc' := 875) (ls' := [some (.ref b), some (.ref q0), some (.ref am), some (.ref o), some (.int (nI i)), none, none]) (st' := [.int (nI i + nI 1), .ref b, .ref q0]) rfl rfl (Nat.le_of_ble_eq_true rfl) ?_
  refine V.top (v' := .int (nI (i + 1))) (by rw [nI_add]) ?_
  refine V.sld (pc := 875) h hX hbl hbA (show i + 1 < L by omega) hL (by decide +kernel) ?_
  refine V.blk h [(.aload_n 0, 1), (.iload 4, 2), (.iconst 2, 1), (.iadd, 1)] (by decide +kernel) (pc' := 881) (ls' := [some (.ref b), some (.ref q0), some (.ref am), some (.ref o), some (.int (nI i)), none, none]) (st' := [.int (nI i + nI 2), .ref b, .int (xs (i + 1)), .ref q0]) rfl rfl (Nat.le_of_ble_eq_true rfl) ?_
  refine V.top (v' := .int (nI (i + 2))) (by rw [nI_add]) ?_
  refine V.sld (pc := 881) h hX hbl hbA (show i + 2 < L by omega) hL (by decide +kernel) ?_
  refine V.blk h [(.aload_n 3, 1)] (by decide +kernel) (pc' := 883) (ls' := [some (.ref b), some (.ref q0), some (.ref am), some (.ref o), some (.int (nI i)), none, none]) (st' := [.ref o, .int (xs (i + 2)), .int (xs (i + 1)), .ref q0]) rfl rfl (Nat.le_of_ble_eq_true rfl) ?_
  refine V.ccall (pc := 883) (st := []) (np := 4) (As := [.ref q0, .int (xs (i + 1)), .int (xs (i + 2)), .ref o]) h hJ hC wc_L_master wn_RL wm_RL_116 wt_L_master (by decide +kernel) rfl (by omega) (by omega) hro hrs (by simp) (by decide +kernel) rfl (fun S1 Lc1 hJ1 => ?_)
  refine V.blk h [(.istore 5, 2), (.aload_n 2, 1), (.aload_n 0, 1), (.iload 4, 2), (.iconst 1, 1), (.iadd, 1)] (by decide +kernel) (pc' := 894) (ls' := [some (.ref b), some (.ref q0), some (.ref am), some (.ref o), some (.int (nI i)), some (.int (nI kx)), none]) (st' := [.int (nI i + nI 1), .ref b, .ref am]) rfl rfl (Nat.le_of_ble_eq_true rfl) ?_
  refine V.top (v' := .int (nI (i + 1))) (by rw [nI_add]) ?_
  refine V.sld (pc := 894) h hX hbl hbA (show i + 1 < L by omega) hL (by decide +kernel) ?_
  refine V.blk h [(.aload_n 0, 1), (.iload 4, 2), (.iconst 2, 1), (.iadd, 1)] (by decide +kernel) (pc' := 900) (ls' := [some (.ref b), some (.ref q0), some (.ref am), some (.ref o), some (.int (nI i)), some (.int (nI kx)), none]) (st' := [.int (nI i + nI 2), .ref b, .int (xs (i + 1)), .ref am]) rfl rfl (Nat.le_of_ble_eq_true rfl) ?_
  refine V.top (v' := .int (nI (i + 2))) (by rw [nI_add]) ?_
  refine V.sld (pc := 900) h hX hbl hbA (show i + 2 < L by omega) hL (by decide +kernel) ?_
  refine V.mcall (pc := 901) (st := []) (np := 2) (As := [.int (xs (i + 1)), .int (xs (i + 2))]) h hJ1 hR wc_X11_master wn_RX11 (Or.inl wm_RL_118) wi_X11_master we_X11_master (by decide +kernel) rfl (by omega) (by omega) hro hrs (by simp) (by decide +kernel) rfl (fun S2 Lm2 hJ2 => ?_)
  refine V.blk h [(.istore 6, 2), (.aload_n 2, 1)] (by decide +kernel) (pc' := 907) (ls' := [some (.ref b), some (.ref q0), some (.ref am), some (.ref o), some (.int (nI i)), some (.int (nI kx)), some (.int (v))]) (st' := [.ref am]) rfl rfl (Nat.le_of_ble_eq_true rfl) ?_
  refine V.mcall (pc := 907) (st := []) (np := 0) (As := []) h hJ2 (r_thrown hls X') wc_X11_thrown wn_RX11 (Or.inl wm_RL_80) wi_X11_thrown we_X11_thrown (by decide +kernel) rfl (by omega) (by omega) hro hrs (by simp) (by decide +kernel) rfl (fun S3 Lm3 hJ3 => ?_)
  refine V.blk h [(.iload 5, 2)] (by decide +kernel) (pc' := 912) (ls' := [some (.ref b), some (.ref q0), some (.ref am), some (.ref o), some (.int (nI i)), some (.int (nI kx)), some (.int (v))]) (st' := [.int (nI kx), (.int (nI (tf X' 0)))]) rfl rfl (Nat.le_of_ble_eq_true rfl) ?_
  have fin : V l D tc A p e R s m args below meth c 7 Q S3 (k + mc) (n + ms) 934 [some (.ref b), some (.ref q0), some (.ref am), some (.ref o), some (.int (nI i)), some (.int (nI kx)), some (.int (v))] [] := by
    refine V.goto (pc := 934) h (off := 245) (by decide +kernel) (tgt := 1179) (by decide) ?_
    exact V.two (kk S3 Lm3 Lc1 hJ3)
  have hO3 : OU o S3 yv' := by
    have q := hJ3.2.2.2.2.2.2.2
    exact ⟨hJ3.2.1 o q.1, q.2⟩
  refine V.icmp_eq (pc := 912) h (off := 5) (by decide +kernel) (tgt := 917) (by decide) (fun _ => ?_) (fun z => absurd (by rw [hthr]) z)
  refine V.blk h [(.iload 5, 2)] (by decide +kernel) (pc' := 919) (ls' := [some (.ref b), some (.ref q0), some (.ref am), some (.ref o), some (.int (nI i)), some (.int (nI kx)), some (.int (v))]) (st' := [.int (nI kx)]) rfl rfl (Nat.le_of_ble_eq_true rfl) ?_
  refine V.if_ne (pc := 919) h (off := 15) (by decide +kernel) (tgt := 934) (by decide) (fun _ => fin) (fun z => ?_)
  have hv := hval (nI_e0 hkx z)
  refine V.blk h [(.aload_n 3, 1), (.iconst 0, 1)] (by decide +kernel) (pc' := 924) (ls' := [some (.ref b), some (.ref q0), some (.ref am), some (.ref o), some (.int (nI i)), some (.int (nI kx)), some (.int (v))]) (st' := [.int (nI 0), .ref o]) rfl rfl (Nat.le_of_ble_eq_true rfl) ?_
  refine V.lald (pc := 924) (M := 1) (i := 0) h hO3.1 hO3.2.1 hO3.2.2.1 (by decide) (by decide) (by decide +kernel) hO3.2.2.2 ?_
  refine V.blk h [(.iload 6, 2)] (by decide +kernel) (pc' := 927) (ls' := [some (.ref b), some (.ref q0), some (.ref am), some (.ref o), some (.int (nI i)), some (.int (nI kx)), some (.int (v))]) (st' := [.int (v), (.long yv')]) rfl rfl (Nat.le_of_ble_eq_true rfl) ?_
  refine V.i2l (pc := 927) h (by decide +kernel) ?_
  refine V.lcmp (pc := 928) h (by decide +kernel) ?_
  refine V.top (v' := .int 0) (by rw [hv, lg_same]) ?_
  exact V.if_eq (pc := 929) h (off := 5) (by decide +kernel) (tgt := 934) (by decide) (fun _ => fin) (fun z => absurd rfl z)
end
