/-! ===== the law: cases of its loop ===== -/
section
variable {l : Launch} {D : va_G} {tc : Nat → ClassId} {A : Nat → Prop} {p : Program} {e : Env} {R : Room} {s : State} {m : MethodId} {args : Array Value} {below : List Frame} {meth : Method} {c : Code} {Q : State → Prop} {S : HS} {k n : Nat} {Ts : List Cond} {am q0 o b L i kx dC dR mc ms : Nat} {ad : Nat → Nat} {xs : Nat → Int32} {X X' Y Y' : TS} {yv yv' : Int64} {Lm Lc : List Nat}
theorem k_value (h : CX l D tc A p s m args meth c code 7 RL Ts) (hls : l.stackTraces = false) (hX : va_X b L xs s s.heap) (hbl : b < s.heap.size) (hbA : ¬ A b) (hi : i + 4 < L) (hL : L < 2 ^ 31) (hJ : LJ tc am ad q0 o X Y yv S Lm Lc) {v : Int32}
    (hC : CMH l D tc yL_value [(0, 10, 13, 13)] cL_value 5 (some .int) dC mc ms [.ref q0, .int (xs (i + 1)), .int (xs (i + 2)), .ref o] (zSub S Lc) (fun v' S' => v' = some (.int (nI kx)) ∧ (∃ ax ay, ax 10 0 = q0 ∧ RA tc (mx ax ay) Y' S') ∧ OU o S' yv'))
    (hR : RM l D tc am ad yX11_value cX11_value 3 (some .int) dR [.ref am, .int (xs (i + 1)), .int (xs (i + 2))] X (some (.int (v))) X') (hthr : tf X' 0 = kx) (hkx : kx ≤ 2) (hval : kx = 0 → yv' = (v).toInt64) (hd : dC ≤ 13) (hdR : dR ≤ 13) (hfr : 16 ≤ R.frames) (hlo : 626 ≤ R.locals) (hro : k + mc ≤ R.cells) (hrs : n + ms ≤ R.slots)
    (kk : ∀ (S' : HS) (Lm' Lc' : List Nat), LJ tc am ad q0 o X' Y' yv' S' Lm' Lc' → V l D tc A p e R s m args below meth c 7 Q S' (k + mc) (n + ms) 1179 [some (.ref b), some (.ref q0), some (.ref am), some (.ref o), some (.int (nI i)), none, none] []) : V l D tc A p e R s m args below meth c 7 Q S k n 937 [some (.ref b), some (.ref q0), some (.ref am), some (.ref o), some (.int (nI i)), none, none] [] := by
  refine V.blk h [(.aload_n 1, 1), (.aload_n 0, 1), (.iload 4, 2), (.iconst 1, 1), (.iadd, 1)] (by decide +kernel) (pc' := 943) (ls' := [some (.ref b), some (.ref q0), some (.ref am), some (.ref o), some (.int (nI i)), none, none]) (st' := [.int (nI i + nI 1), .ref b, .ref q0]) rfl rfl (Nat.le_of_ble_eq_true rfl) ?_
  refine V.top (v' := .int (nI (i + 1))) (by rw [nI_add]) ?_
  refine V.sld (pc := 943) h hX hbl hbA (show i + 1 < L by omega) hL (by decide +kernel) ?_
  refine V.blk h [(.aload_n 0, 1), (.iload 4, 2), (.iconst 2, 1), (.iadd, 1)] (by decide +kernel) (pc' := 949) (ls' := [some (.ref b), some (.ref q0), some (.ref am), some (.ref o), some (.int (nI i)), none, none]) (st' := [.int (nI i + nI 2), .ref b, .int (xs (i + 1)), .ref q0]) rfl rfl (Nat.le_of_ble_eq_true rfl) ?_
  refine V.top (v' := .int (nI (i + 2))) (by rw [nI_add]) ?_
  refine V.sld (pc := 949) h hX hbl hbA (show i + 2 < L by omega) hL (by decide +kernel) ?_
  refine V.blk h [(.aload_n 3, 1)] (by decide +kernel) (pc' := 951) (ls' := [some (.ref b), some (.ref q0), some (.ref am), some (.ref o), some (.int (nI i)), none, none]) (st' := [.ref o, .int (xs (i + 2)), .int (xs (i + 1)), .ref q0]) rfl rfl (Nat.le_of_ble_eq_true rfl) ?_
  refine V.ccall (pc := 951) (st := []) (np := 4) (As := [.ref q0, .int (xs (i + 1)), .int (xs (i + 2)), .ref o]) h hJ hC wc_L_value wn_RL wm_RL_119 wt_L_value (by decide +kernel) rfl (by omega) (by omega) hro hrs (by simp) (by decide +kernel) rfl (fun S1 Lc1 hJ1 => ?_)
  refine V.blk h [(.istore 5, 2), (.aload_n 2, 1), (.aload_n 0, 1), (.iload 4, 2), (.iconst 1, 1), (.iadd, 1)] (by decide +kernel) (pc' := 962) (ls' := [some (.ref b), some (.ref q0), some (.ref am), some (.ref o), some (.int (nI i)), some (.int (nI kx)), none]) (st' := [.int (nI i + nI 1), .ref b, .ref am]) rfl rfl (Nat.le_of_ble_eq_true rfl) ?_
  refine V.top (v' := .int (nI (i + 1))) (by rw [nI_add]) ?_
  refine V.sld (pc := 962) h hX hbl hbA (show i + 1 < L by omega) hL (by decide +kernel) ?_
  refine V.blk h [(.aload_n 0, 1), (.iload 4, 2), (.iconst 2, 1), (.iadd, 1)] (by decide +kernel) (pc' := 968) (ls' := [some (.ref b), some (.ref q0), some (.ref am), some (.ref o), some (.int (nI i)), some (.int (nI kx)), none]) (st' := [.int (nI i + nI 2), .ref b, .int (xs (i + 1)), .ref am]) rfl rfl (Nat.le_of_ble_eq_true rfl) ?_
  refine V.top (v' := .int (nI (i + 2))) (by rw [nI_add]) ?_
  refine V.sld (pc := 968) h hX hbl hbA (show i + 2 < L by omega) hL (by decide +kernel) ?_
  refine V.mcall (pc := 969) (st := []) (np := 2) (As := [.int (xs (i + 1)), .int (xs (i + 2))]) h hJ1 hR wc_X11_value wn_RX11 (Or.inl wm_RL_121) wi_X11_value we_X11_value (by decide +kernel) rfl (by omega) (by omega) hro hrs (by simp) (by decide +kernel) rfl (fun S2 Lm2 hJ2 => ?_)
  refine V.blk h [(.istore 6, 2), (.aload_n 2, 1)] (by decide +kernel) (pc' := 975) (ls' := [some (.ref b), some (.ref q0), some (.ref am), some (.ref o), some (.int (nI i)), some (.int (nI kx)), some (.int (v))]) (st' := [.ref am]) rfl rfl (Nat.le_of_ble_eq_true rfl) ?_
  refine V.mcall (pc := 975) (st := []) (np := 0) (As := []) h hJ2 (r_thrown hls X') wc_X11_thrown wn_RX11 (Or.inl wm_RL_80) wi_X11_thrown we_X11_thrown (by decide +kernel) rfl (by omega) (by omega) hro hrs (by simp) (by decide +kernel) rfl (fun S3 Lm3 hJ3 => ?_)
  refine V.blk h [(.iload 5, 2)] (by decide +kernel) (pc' := 980) (ls' := [some (.ref b), some (.ref q0), some (.ref am), some (.ref o), some (.int (nI i)), some (.int (nI kx)), some (.int (v))]) (st' := [.int (nI kx), (.int (nI (tf X' 0)))]) rfl rfl (Nat.le_of_ble_eq_true rfl) ?_
  have fin : V l D tc A p e R s m args below meth c 7 Q S3 (k + mc) (n + ms) 1002 [some (.ref b), some (.ref q0), some (.ref am), some (.ref o), some (.int (nI i)), some (.int (nI kx)), some (.int (v))] [] := by
    refine V.goto (pc := 1002) h (off := 177) (by decide +kernel) (tgt := 1179) (by decide) ?_
    exact V.two (kk S3 Lm3 Lc1 hJ3)
  have hO3 : OU o S3 yv' := by
    have q := hJ3.2.2.2.2.2.2.2
    exact ⟨hJ3.2.1 o q.1, q.2⟩
  refine V.icmp_eq (pc := 980) h (off := 5) (by decide +kernel) (tgt := 985) (by decide) (fun _ => ?_) (fun z => absurd (by rw [hthr]) z)
  refine V.blk h [(.iload 5, 2)] (by decide +kernel) (pc' := 987) (ls' := [some (.ref b), some (.ref q0), some (.ref am), some (.ref o), some (.int (nI i)), some (.int (nI kx)), some (.int (v))]) (st' := [.int (nI kx)]) rfl rfl (Nat.le_of_ble_eq_true rfl) ?_
  refine V.if_ne (pc := 987) h (off := 15) (by decide +kernel) (tgt := 1002) (by decide) (fun _ => fin) (fun z => ?_)
  have hv := hval (nI_e0 hkx z)
  refine V.blk h [(.aload_n 3, 1), (.iconst 0, 1)] (by decide +kernel) (pc' := 992) (ls' := [some (.ref b), some (.ref q0), some (.ref am), some (.ref o), some (.int (nI i)), some (.int (nI kx)), some (.int (v))]) (st' := [.int (nI 0), .ref o]) rfl rfl (Nat.le_of_ble_eq_true rfl) ?_
  refine V.lald (pc := 992) (M := 1) (i := 0) h hO3.1 hO3.2.1 hO3.2.2.1 (by decide) (by decide) (by decide +kernel) hO3.2.2.2 ?_
  refine V.blk h [(.iload 6, 2)] (by decide +kernel) (pc' := 995) (ls' := [some (.ref b), some (.ref q0), some (.ref am), some (.ref o), some (.int (nI i)), some (.int (nI kx)), some (.int (v))]) (st' := [.int (v), (.long yv')]) rfl rfl (Nat.le_of_ble_eq_true rfl) ?_
  refine V.i2l (pc := 995) h (by decide +kernel) ?_
  refine V.lcmp (pc := 996) h (by decide +kernel) ?_
  refine V.top (v' := .int 0) (by rw [hv, lg_same]) ?_
  exact V.if_eq (pc := 997) h (off := 5) (by decide +kernel) (tgt := 1002) (by decide) (fun _ => fin) (fun z => absurd rfl z)
theorem k_backup (h : CX l D tc A p s m args meth c code 7 RL Ts) (hls : l.stackTraces = false) (hX : va_X b L xs s s.heap) (hbl : b < s.heap.size) (hbA : ¬ A b) (hi : i + 4 < L) (hL : L < 2 ^ 31) (hJ : LJ tc am ad q0 o X Y yv S Lm Lc) {v : Int32}
    (hC : CMH l D tc yL_backup [(0, 10, 13, 13), (0, 10, 17, 15)] cL_backup 5 (some .int) dC mc ms [.ref q0, .int (xs (i + 1)), .int (xs (i + 2)), .ref o] (zSub S Lc) (fun v' S' => v' = some (.int (nI kx)) ∧ (∃ ax ay, ax 10 0 = q0 ∧ RA tc (mx ax ay) Y' S') ∧ OU o S' yv'))
    (hR : RM l D tc am ad yX11_backup cX11_backup 3 (some .int) dR [.ref am, .int (xs (i + 1)), .int (xs (i + 2))] X (some (.int (v))) X') (hthr : tf X' 0 = kx) (hkx : kx ≤ 2) (hval : kx = 0 → yv' = (v).toInt64) (hd : dC ≤ 13) (hdR : dR ≤ 13) (hfr : 16 ≤ R.frames) (hlo : 626 ≤ R.locals) (hro : k + mc ≤ R.cells) (hrs : n + ms ≤ R.slots)
    (kk : ∀ (S' : HS) (Lm' Lc' : List Nat), LJ tc am ad q0 o X' Y' yv' S' Lm' Lc' → V l D tc A p e R s m args below meth c 7 Q S' (k + mc) (n + ms) 1179 [some (.ref b), some (.ref q0), some (.ref am), some (.ref o), some (.int (nI i)), none, none] []) : V l D tc A p e R s m args below meth c 7 Q S k n 1005 [some (.ref b), some (.ref q0), some (.ref am), some (.ref o), some (.int (nI i)), none, none] [] := by
  refine V.blk h [(.aload_n 1, 1), (.aload_n 0, 1), (.iload 4, 2), (.iconst 1, 1), (.iadd, 1)] (by decide +kernel) (pc' := 1011) (ls' := [some (.ref b), some (.ref q0), some (.ref am), some (.ref o), some (.int (nI i)), none, none]) (st' := [.int (nI i + nI 1), .ref b, .ref q0]) rfl rfl (Nat.le_of_ble_eq_true rfl) ?_
  refine V.top (v' := .int (nI (i + 1))) (by rw [nI_add]) ?_
  refine V.sld (pc := 1011) h hX hbl hbA (show i + 1 < L by omega) hL (by decide +kernel) ?_
  refine V.blk h [(.aload_n 0, 1), (.iload 4, 2), (.iconst 2, 1), (.iadd, 1)] (by decide +kernel) (pc' := 1017) (ls' := [some (.ref b), some (.ref q0), some (.ref am), some (.ref o), some (.int (nI i)), none, none]) (st' := [.int (nI i + nI 2), .ref b, .int (xs (i + 1)), .ref q0]) rfl rfl (Nat.le_of_ble_eq_true rfl) ?_
  refine V.top (v' := .int (nI (i + 2))) (by rw [nI_add]) ?_
  refine V.sld (pc := 1017) h hX hbl hbA (show i + 2 < L by omega) hL (by decide +kernel) ?_
  refine V.blk h [(.aload_n 3, 1)] (by decide +kernel) (pc' := 1019) (ls' := [some (.ref b), some (.ref q0), some (.ref am), some (.ref o), some (.int (nI i)), none, none]) (st' := [.ref o, .int (xs (i + 2)), .int (xs (i + 1)), .ref q0]) rfl rfl (Nat.le_of_ble_eq_true rfl) ?_
  refine V.ccall (pc := 1019) (st := []) (np := 4) (As := [.ref q0, .int (xs (i + 1)), .int (xs (i + 2)), .ref o]) h hJ hC wc_L_backup wn_RL wm_RL_122 wt_L_backup (by decide +kernel) rfl (by omega) (by omega) hro hrs (by simp) (by decide +kernel) rfl (fun S1 Lc1 hJ1 => ?_)
  refine V.blk h [(.istore 5, 2), (.aload_n 2, 1), (.aload_n 0, 1), (.iload 4, 2), (.iconst 1, 1), (.iadd, 1)] (by decide +kernel) (pc' := 1030) (ls' := [some (.ref b), some (.ref q0), some (.ref am), some (.ref o), some (.int (nI i)), some (.int (nI kx)), none]) (st' := [.int (nI i + nI 1), .ref b, .ref am]) rfl rfl (Nat.le_of_ble_eq_true rfl) ?_
  refine V.top (v' := .int (nI (i + 1))) (by rw [nI_add]) ?_
  refine V.sld (pc := 1030) h hX hbl hbA (show i + 1 < L by omega) hL (by decide +kernel) ?_
  refine V.blk h [(.aload_n 0, 1), (.iload 4, 2), (.iconst 2, 1), (.iadd, 1)] (by decide +kernel) (pc' := 1036) (ls' := [some (.ref b), some (.ref q0), some (.ref am), some (.ref o), some (.int (nI i)), some (.int (nI kx)), none]) (st' := [.int (nI i + nI 2), .ref b, .int (xs (i + 1)), .ref am]) rfl rfl (Nat.le_of_ble_eq_true rfl) ?_
  refine V.top (v' := .int (nI (i + 2))) (by rw [nI_add]) ?_
  refine V.sld (pc := 1036) h hX hbl hbA (show i + 2 < L by omega) hL (by decide +kernel) ?_
  refine V.mcall (pc := 1037) (st := []) (np := 2) (As := [.int (xs (i + 1)), .int (xs (i + 2))]) h hJ1 hR wc_X11_backup wn_RX11 (Or.inl wm_RL_124) wi_X11_backup we_X11_backup (by decide +kernel) rfl (by omega) (by omega) hro hrs (by simp) (by decide +kernel) rfl (fun S2 Lm2 hJ2 => ?_)
  refine V.blk h [(.istore 6, 2), (.aload_n 2, 1)] (by decide +kernel) (pc' := 1043) (ls' := [some (.ref b), some (.ref q0), some (.ref am), some (.ref o), some (.int (nI i)), some (.int (nI kx)), some (.int (v))]) (st' := [.ref am]) rfl rfl (Nat.le_of_ble_eq_true rfl) ?_
  refine V.mcall (pc := 1043) (st := []) (np := 0) (As := []) h hJ2 (r_thrown hls X') wc_X11_thrown wn_RX11 (Or.inl wm_RL_80) wi_X11_thrown we_X11_thrown (by decide +kernel) rfl (by omega) (by omega) hro hrs (by simp) (by decide +kernel) rfl (fun S3 Lm3 hJ3 => ?_)
  refine V.blk h [(.iload 5, 2)] (by decide +kernel) (pc' := 1048) (ls' := [some (.ref b), some (.ref q0), some (.ref am), some (.ref o), some (.int (nI i)), some (.int (nI kx)), some (.int (v))]) (st' := [.int (nI kx), (.int (nI (tf X' 0)))]) rfl rfl (Nat.le_of_ble_eq_true rfl) ?_
  have fin : V l D tc A p e R s m args below meth c 7 Q S3 (k + mc) (n + ms) 1070 [some (.ref b), some (.ref q0), some (.ref am), some (.ref o), some (.int (nI i)), some (.int (nI kx)), some (.int (v))] [] := by
    refine V.goto (pc := 1070) h (off := 109) (by decide +kernel) (tgt := 1179) (by decide) ?_
    exact V.two (kk S3 Lm3 Lc1 hJ3)
  have hO3 : OU o S3 yv' := by
    have q := hJ3.2.2.2.2.2.2.2
    exact ⟨hJ3.2.1 o q.1, q.2⟩
  refine V.icmp_eq (pc := 1048) h (off := 5) (by decide +kernel) (tgt := 1053) (by decide) (fun _ => ?_) (fun z => absurd (by rw [hthr]) z)
  refine V.blk h [(.iload 5, 2)] (by decide +kernel) (pc' := 1055) (ls' := [some (.ref b), some (.ref q0), some (.ref am), some (.ref o), some (.int (nI i)), some (.int (nI kx)), some (.int (v))]) (st' := [.int (nI kx)]) rfl rfl (Nat.le_of_ble_eq_true rfl) ?_
  refine V.if_ne (pc := 1055) h (off := 15) (by decide +kernel) (tgt := 1070) (by decide) (fun _ => fin) (fun z => ?_)
  have hv := hval (nI_e0 hkx z)
  refine V.blk h [(.aload_n 3, 1), (.iconst 0, 1)] (by decide +kernel) (pc' := 1060) (ls' := [some (.ref b), some (.ref q0), some (.ref am), some (.ref o), some (.int (nI i)), some (.int (nI kx)), some (.int (v))]) (st' := [.int (nI 0), .ref o]) rfl rfl (Nat.le_of_ble_eq_true rfl) ?_
  refine V.lald (pc := 1060) (M := 1) (i := 0) h hO3.1 hO3.2.1 hO3.2.2.1 (by decide) (by decide) (by decide +kernel) hO3.2.2.2 ?_
  refine V.blk h [(.iload 6, 2)] (by decide +kernel) (pc' := 1063) (ls' := [some (.ref b), some (.ref q0), some (.ref am), some (.ref o), some (.int (nI i)), some (.int (nI kx)), some (.int (v))]) (st' := [.int (v), (.long yv')]) rfl rfl (Nat.le_of_ble_eq_true rfl) ?_
  refine V.i2l (pc := 1063) h (by decide +kernel) ?_
  refine V.lcmp (pc := 1064) h (by decide +kernel) ?_
  refine V.top (v' := .int 0) (by rw [hv, lg_same]) ?_
  exact V.if_eq (pc := 1065) h (off := 5) (by decide +kernel) (tgt := 1070) (by decide) (fun _ => fin) (fun z => absurd rfl z)
theorem k_witness (h : CX l D tc A p s m args meth c code 7 RL Ts) (hls : l.stackTraces = false) (hX : va_X b L xs s s.heap) (hbl : b < s.heap.size) (hbA : ¬ A b) (hi : i + 4 < L) (hL : L < 2 ^ 31) (hJ : LJ tc am ad q0 o X Y yv S Lm Lc) {v : Int32}
    (hC : CMH l D tc yL_witness [(0, 10, 13, 13), (0, 10, 17, 15)] cL_witness 5 (some .int) dC mc ms [.ref q0, .int (xs (i + 1)), .int (xs (i + 2)), .ref o] (zSub S Lc) (fun v' S' => v' = some (.int (nI kx)) ∧ (∃ ax ay, ax 10 0 = q0 ∧ RA tc (mx ax ay) Y' S') ∧ OU o S' yv'))
    (hR : RM l D tc am ad yX11_witness cX11_witness 5 (some .int) dR [.ref am, .int (xs (i + 1)), .int (xs (i + 2))] X (some (.int (v))) X') (hthr : tf X' 0 = kx) (hkx : kx ≤ 2) (hval : kx = 0 → yv' = (v).toInt64) (hd : dC ≤ 13) (hdR : dR ≤ 13) (hfr : 16 ≤ R.frames) (hlo : 626 ≤ R.locals) (hro : k + mc ≤ R.cells) (hrs : n + ms ≤ R.slots)
    (kk : ∀ (S' : HS) (Lm' Lc' : List Nat), LJ tc am ad q0 o X' Y' yv' S' Lm' Lc' → V l D tc A p e R s m args below meth c 7 Q S' (k + mc) (n + ms) 1179 [some (.ref b), some (.ref q0), some (.ref am), some (.ref o), some (.int (nI i)), none, none] []) : V l D tc A p e R s m args below meth c 7 Q S k n 1073 [some (.ref b), some (.ref q0), some (.ref am), some (.ref o), some (.int (nI i)), none, none] [] := by
  refine V.blk h [(.aload_n 1, 1), (.aload_n 0, 1), (.iload 4, 2), (.iconst 1, 1), (.iadd, 1)] (by decide +kernel) (pc' := 1079) (ls' := [some (.ref b), some (.ref q0), some (.ref am), some (.ref o), some (.int (nI i)), none, none]) (st' := [.int (nI i + nI 1), .ref b, .ref q0]) rfl rfl (Nat.le_of_ble_eq_true rfl) ?_
  refine V.top (v' := .int (nI (i + 1))) (by rw [nI_add]) ?_
  refine V.sld (pc := 1079) h hX hbl hbA (show i + 1 < L by omega) hL (by decide +kernel) ?_
  refine V.blk h [(.aload_n 0, 1), (.iload 4, 2), (.iconst 2, 1), (.iadd, 1)] (by decide +kernel) (pc' := 1085) (ls' := [some (.ref b), some (.ref q0), some (.ref am), some (.ref o), some (.int (nI i)), none, none]) (st' := [.int (nI i + nI 2), .ref b, .int (xs (i + 1)), .ref q0]) rfl rfl (Nat.le_of_ble_eq_true rfl) ?_
  refine V.top (v' := .int (nI (i + 2))) (by rw [nI_add]) ?_
  refine V.sld (pc := 1085) h hX hbl hbA (show i + 2 < L by omega) hL (by decide +kernel) ?_
  refine V.blk h [(.aload_n 3, 1)] (by decide +kernel) (pc' := 1087) (ls' := [some (.ref b), some (.ref q0), some (.ref am), some (.ref o), some (.int (nI i)), none, none]) (st' := [.ref o, .int (xs (i + 2)), .int (xs (i + 1)), .ref q0]) rfl rfl (Nat.le_of_ble_eq_true rfl) ?_
  refine V.ccall (pc := 1087) (st := []) (np := 4) (As := [.ref q0, .int (xs (i + 1)), .int (xs (i + 2)), .ref o]) h hJ hC wc_L_witness wn_RL wm_RL_125 wt_L_witness (by decide +kernel) rfl (by omega) (by omega) hro hrs (by simp) (by decide +kernel) rfl (fun S1 Lc1 hJ1 => ?_)
  refine V.blk h [(.istore 5, 2), (.aload_n 2, 1), (.aload_n 0, 1), (.iload 4, 2), (.iconst 1, 1), (.iadd, 1)] (by decide +kernel) (pc' := 1098) (ls' := [some (.ref b), some (.ref q0), some (.ref am), some (.ref o), some (.int (nI i)), some (.int (nI kx)), none]) (st' := [.int (nI i + nI 1), .ref b, .ref am]) rfl rfl (Nat.le_of_ble_eq_true rfl) ?_
  refine V.top (v' := .int (nI (i + 1))) (by rw [nI_add]) ?_
  refine V.sld (pc := 1098) h hX hbl hbA (show i + 1 < L by omega) hL (by decide +kernel) ?_
  refine V.blk h [(.aload_n 0, 1), (.iload 4, 2), (.iconst 2, 1), (.iadd, 1)] (by decide +kernel) (pc' := 1104) (ls' := [some (.ref b), some (.ref q0), some (.ref am), some (.ref o), some (.int (nI i)), some (.int (nI kx)), none]) (st' := [.int (nI i + nI 2), .ref b, .int (xs (i + 1)), .ref am]) rfl rfl (Nat.le_of_ble_eq_true rfl) ?_
  refine V.top (v' := .int (nI (i + 2))) (by rw [nI_add]) ?_
  refine V.sld (pc := 1104) h hX hbl hbA (show i + 2 < L by omega) hL (by decide +kernel) ?_
  refine V.mcall (pc := 1105) (st := []) (np := 2) (As := [.int (xs (i + 1)), .int (xs (i + 2))]) h hJ1 hR wc_X11_witness wn_RX11 (Or.inl wm_RL_127) wi_X11_witness we_X11_witness (by decide +kernel) rfl (by omega) (by omega) hro hrs (by simp) (by decide +kernel) rfl (fun S2 Lm2 hJ2 => ?_)
  refine V.blk h [(.istore 6, 2), (.aload_n 2, 1)] (by decide +kernel) (pc' := 1111) (ls' := [some (.ref b), some (.ref q0), some (.ref am), some (.ref o), some (.int (nI i)), some (.int (nI kx)), some (.int (v))]) (st' := [.ref am]) rfl rfl (Nat.le_of_ble_eq_true rfl) ?_
  refine V.mcall (pc := 1111) (st := []) (np := 0) (As := []) h hJ2 (r_thrown hls X') wc_X11_thrown wn_RX11 (Or.inl wm_RL_80) wi_X11_thrown we_X11_thrown (by decide +kernel) rfl (by omega) (by omega) hro hrs (by simp) (by decide +kernel) rfl (fun S3 Lm3 hJ3 => ?_)
  refine V.blk h [(.iload 5, 2)] (by decide +kernel) (pc' := 1116) (ls' := [some (.ref b), some (.ref q0), some (.ref am), some (.ref o), some (.int (nI i)), some (.int (nI kx)), some (.int (v))]) (st' := [.int (nI kx), (.int (nI (tf X' 0)))]) rfl rfl (Nat.le_of_ble_eq_true rfl) ?_
  have fin : V l D tc A p e R s m args below meth c 7 Q S3 (k + mc) (n + ms) 1138 [some (.ref b), some (.ref q0), some (.ref am), some (.ref o), some (.int (nI i)), some (.int (nI kx)), some (.int (v))] [] := by
    refine V.goto (pc := 1138) h (off := 41) (by decide +kernel) (tgt := 1179) (by decide) ?_
    exact V.two (kk S3 Lm3 Lc1 hJ3)
  have hO3 : OU o S3 yv' := by
    have q := hJ3.2.2.2.2.2.2.2
    exact ⟨hJ3.2.1 o q.1, q.2⟩
  refine V.icmp_eq (pc := 1116) h (off := 5) (by decide +kernel) (tgt := 1121) (by decide) (fun _ => ?_) (fun z => absurd (by rw [hthr]) z)
  refine V.blk h [(.iload 5, 2)] (by decide +kernel) (pc' := 1123) (ls' := [some (.ref b), some (.ref q0), some (.ref am), some (.ref o), some (.int (nI i)), some (.int (nI kx)), some (.int (v))]) (st' := [.int (nI kx)]) rfl rfl (Nat.le_of_ble_eq_true rfl) ?_
  refine V.if_ne (pc := 1123) h (off := 15) (by decide +kernel) (tgt := 1138) (by decide) (fun _ => fin) (fun z => ?_)
  have hv := hval (nI_e0 hkx z)
  refine V.blk h [(.aload_n 3, 1), (.iconst 0, 1)] (by decide +kernel) (pc' := 1128) (ls' := [some (.ref b), some (.ref q0), some (.ref am), some (.ref o), some (.int (nI i)), some (.int (nI kx)), some (.int (v))]) (st' := [.int (nI 0), .ref o]) rfl rfl (Nat.le_of_ble_eq_true rfl) ?_
  refine V.lald (pc := 1128) (M := 1) (i := 0) h hO3.1 hO3.2.1 hO3.2.2.1 (by decide) (by decide) (by decide +kernel) hO3.2.2.2 ?_
  refine V.blk h [(.iload 6, 2)] (by decide +kernel) (pc' := 1131) (ls' := [some (.ref b), some (.ref q0), some (.ref am), some (.ref o), some (.int (nI i)), some (.int (nI kx)), some (.int (v))]) (st' := [.int (v), (.long yv')]) rfl rfl (Nat.le_of_ble_eq_true rfl) ?_
  refine V.i2l (pc := 1131) h (by decide +kernel) ?_
  refine V.lcmp (pc := 1132) h (by decide +kernel) ?_
  refine V.top (v' := .int 0) (by rw [hv, lg_same]) ?_
  exact V.if_eq (pc := 1133) h (off := 5) (by decide +kernel) (tgt := 1138) (by decide) (fun _ => fin) (fun z => absurd rfl z)
end
