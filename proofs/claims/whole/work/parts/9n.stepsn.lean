/-! ===== the law: steps of its loop ===== -/
set_option maxRecDepth 100000
section
variable {l : Launch} {D : va_G} {tc : Nat → ClassId} {A : Nat → Prop} {p : Program} {e : Env} {R : Room} {s : State} {m : MethodId} {args : Array Value} {below : List Frame} {meth : Method} {c : Code} {Q : State → Prop} {S : HS} {k n : Nat} {Ts : List Cond} {am q0 o b L i kx dC dR mc ms : Nat} {ad : Nat → Nat} {xs : Nat → Int32} {X A1 : TS} {yv yv' : Int64} {Lm Lc : List Nat}
variable {K j : Nat}
set_option maxHeartbeats 1000000 in
theorem st_ask (h : CX l D tc A p s m args meth c code 7 RL Ts) (hls : l.stackTraces = false) (hX : va_X b L xs s s.heap) (hbl : b < s.heap.size) (hbA : ¬ A b) (hi : i + 4 < L) (hL : L < 2 ^ 31) (hJ : LJ tc am ad q0 o X A1 yv S Lm Lc) {x1 x2 x3 x4 : Int32} (hx1 : xs (i + 1) = x1) (hx2 : xs (i + 2) = x2) (hx3 : xs (i + 3) = x3) (hx4 : xs (i + 4) = x4)
    (hA1 : A1 = sf X 0 0) (hI : INV K A1) (hm : iMom A1) (h0 : tf A1 0 = 0) (h13 : tf A1 13 ≤ j) (hj : j ≤ 512) (hK : K < 1600000000) (hfr : 16 ≤ R.frames) (hlo : 626 ≤ R.locals) (hro : k + (4 * j + 40) ≤ R.cells) (hrs : n + 27468 ≤ R.slots)
    (kk : ∀ (X' : TS) (yv' : Int64) (S' : HS) (Lm' Lc' : List Nat) (a : Nat), LJ tc am ad q0 o X' X' yv' S' Lm' Lc' → NX K j A1 a X' → V l D tc A p e R s m args below meth c 7 Q S' (k + (4 * j + 40)) (n + (12468 + 15000 * a)) 1179 [some (.ref b), some (.ref q0), some (.ref am), some (.ref o), some (.int (nI i)), none, none] []) : V l D tc A p e R s m args below meth c 7 Q S k n 160 [some (.ref b), some (.ref q0), some (.ref am), some (.ref o), some (.int (nI i)), none, none] [] := by
  have h7 : 700 ≤ K := Nat.le_trans (by decide) hI.k7
  have h73 : 7300 ≤ K := hI.k7
  have hD := pch_D hI
  have hNB := pch_NB hI.nb
  have hJp := hJ.two (d11_pch.AG (Nat.le_refl _))
  have hAp : AG A1 (pch A1) := d11_pch.symm.AG (Nat.le_refl _)
  rcases noIx_cs (x := x1) (n := 4) (by decide) with hx | ⟨c9, hc, rfl⟩
  · exact e_ask_t1 h hls hX hbl hbA hi hL hJ hx1 hx2 hx3 hx4 (fun S1 ax ay hR => t_ask_b hls hR hx) (r_ask_b hls X _ x1 x2 x3 x4 hA1 hx) (by rw [hA1]) (by rw [hA1]; exact AG.s0r) (by decide) hfr hlo (by omega) (by omega) (fun S' Lm' Lc' hJ' => V.widen (by omega) (by omega) (kk _ _ S' Lm' Lc' 0 hJ' (by rw [← hA1]; exact NX.thr hI hm h13 (by decide))))
  rcases noIx_cs (x := x3) (n := 16) (by decide) with hx | ⟨ky, hky, rfl⟩
  · exact e_ask_t1 h hls hX hbl hbA hi hL hJ hx1 hx2 hx3 hx4 (fun S1 ax ay hR => t_ask_k hls hR hc hx) (r_ask_k hls X _ c9 K x2 _ x4 hA1 hc hI.nb (by omega) hx) (by rw [hA1]) (by rw [hA1]; exact AG.s0r) (by decide) hfr hlo (by omega) (by omega) (fun S' Lm' Lc' hJ' => V.widen (by omega) (by omega) (kk _ _ S' Lm' Lc' 0 hJ' (by rw [← hA1]; exact NX.thr hI hm h13 (by decide))))
  rcases noIx_cs (x := x2) (n := 3) (by decide) with hx | ⟨wh, hwh, rfl⟩
  · exact e_ask_t2 h hls hX hbl hbA hi hL hJ hx1 hx2 hx3 hx4 (fun S1 ax ay hR => t_ask_w hls hR hc hky hx) (r_ask_w hls X _ c9 ky K x2 x4 hA1 hc hky hI.nb (by omega) hx) (by rw [hA1]) (by rw [hA1]; exact AG.s0r) (by decide) hfr hlo (by omega) (by omega) (fun S' Lm' Lc' hJ' => V.widen (by omega) (by omega) (kk _ _ S' Lm' Lc' 0 hJ' (by rw [← hA1]; exact NX.thr hI hm h13 (by decide))))
  cases ho : opnF A1 c9 with
  | true =>
    exact e_ask (v := oI 0) (C := pch A1) (X2 := A1) h hls hX hbl hbA hi hL hJp hx1 hx2 hx3 hx4 (fun S1 ax ay hq hR => c_ask_n hls hR hc hky hwh hD (by rw [opn_pch hI hc]; exact ho) hNB (by omega) h7 ⟨rfl, ax, ay, hq, hR⟩) (r_ask_n hls X A1 c9 wh ky K x4 hA1 hc (hI.c16 hc) hI.nb (by omega) hky hwh ho) (h0) EQ.rfl hAp (by decide) (by decide) hfr hlo (by omega) (by omega) (fun S' Lm' Lc' hJ' => V.widen (by omega) (by omega) (kk _ _ S' Lm' Lc' 0 hJ' (NX.same hI hm h13)))
  | false =>
    have q := ask_ok (v := x4) hI hm hc hky hwh (by omega)
    exact e_ask (v := nI (asnF A1 c9)) (C := askC (pch A1) c9 wh ky x4) (X2 := askC A1 c9 wh ky x4) h hls hX hbl hbA hi hL hJp hx1 hx2 hx3 hx4 (fun S1 ax ay hq hR => c_ask hls hR hc hky hwh hD (by rw [opn_pch hI hc]; exact ho) (by have := hI.f6; show tf A1 6 < 600; omega) hI.f6 hNB (by omega) h7 (fun S8 ax8 ay8 hg hR8 => ⟨by rw [asn_pch], ax8, ay8, by rw [hg 10 (by decide)]; exact hq, hR8⟩)) (r_ask hls X A1 c9 wh ky K x4 hA1 hc (hI.c16 hc) hI.nb (by omega) hky hwh ho (by omega) hI.f1.2 hI.f53 h73) ((ask_f (Or.inl rfl)).trans h0) q.1 (ask_pch.symm.AG (Nat.le_of_eq ((ask_pch.1 13).trans q.2.2.2))) (by decide) (by decide) hfr hlo (by omega) (by omega) (fun S' Lm' Lc' hJ' => V.widen (by omega) (by omega) (kk _ _ S' Lm' Lc' 0 hJ' (NX.of q.2.1 (by omega) q.2.2.1 (by omega) ((q.1.1 38 (by decide) (by decide)).symm.trans (ask_f (Or.inr rfl))))))

set_option maxHeartbeats 1000000 in
theorem st_retry (h : CX l D tc A p s m args meth c code 7 RL Ts) (hls : l.stackTraces = false) (hX : va_X b L xs s s.heap) (hbl : b < s.heap.size) (hbA : ¬ A b) (hi : i + 4 < L) (hL : L < 2 ^ 31) (hJ : LJ tc am ad q0 o X A1 yv S Lm Lc) {x1 : Int32} (hx1 : xs (i + 1) = x1)
    (hA1 : A1 = sf X 0 0) (hI : INV K A1) (hm : iMom A1) (h0 : tf A1 0 = 0) (h13 : tf A1 13 ≤ j) (hj : j ≤ 512) (hK : K < 1600000000) (hfr : 16 ≤ R.frames) (hlo : 626 ≤ R.locals) (hro : k + (4 * j + 40) ≤ R.cells) (hrs : n + 27468 ≤ R.slots)
    (kk : ∀ (X' : TS) (yv' : Int64) (S' : HS) (Lm' Lc' : List Nat) (a : Nat), LJ tc am ad q0 o X' X' yv' S' Lm' Lc' → NX K j A1 a X' → V l D tc A p e R s m args below meth c 7 Q S' (k + (4 * j + 40)) (n + (12468 + 15000 * a)) 1179 [some (.ref b), some (.ref q0), some (.ref am), some (.ref o), some (.int (nI i)), none, none] []) : V l D tc A p e R s m args below meth c 7 Q S k n 252 [some (.ref b), some (.ref q0), some (.ref am), some (.ref o), some (.int (nI i)), none, none] [] := by
  have h7 : 700 ≤ K := Nat.le_trans (by decide) hI.k7
  have h73 : 7300 ≤ K := hI.k7
  have hD := pch_D hI
  have hNB := pch_NB hI.nb
  have hJp := hJ.two (d11_pch.AG (Nat.le_refl _))
  have hAp : AG A1 (pch A1) := d11_pch.symm.AG (Nat.le_refl _)
  rcases noIx_cs (x := x1) (n := 4) (by decide) with hx | ⟨c9, hc, rfl⟩
  · exact e_retry_t1 h hls hX hbl hbA hi hL hJ hx1 (fun S1 ax ay hR => t_retry_b hls hR hx) (r_retry_b hls X _ x1 hA1 hx) (by rw [hA1]) (by rw [hA1]; exact AG.s0r) (by decide) hfr hlo (by omega) (by omega) (fun S' Lm' Lc' hJ' => V.widen (by omega) (by omega) (kk _ _ S' Lm' Lc' 0 hJ' (by rw [← hA1]; exact NX.thr hI hm h13 (by decide))))
  cases ho : opnF A1 c9 with
  | false =>
    exact e_retry (v := false) (C := pch A1) (X2 := A1) h hls hX hbl hbA hi hL hJp hx1 (fun S1 ax ay hq hR => c_retry hls hR hc hD hNB (by omega) h7 ⟨fun _ => ⟨rfl, ax, ay, hq, hR⟩, fun z => absurd z (by rw [opn_pch hI hc, ho]; decide)⟩) (r_retry_n hls X A1 c9 K hA1 hc (hI.c16 hc) hI.nb (by omega) ho) (h0) EQ.rfl hAp (by decide) (by decide) hfr hlo (by omega) (by omega) (fun S' Lm' Lc' hJ' => V.widen (by omega) (by omega) (kk _ _ S' Lm' Lc' 0 hJ' (NX.same hI hm h13)))
  | true =>
    have q := retry_ok hI hm hc ho
    have e16 : tn (pch A1) 16 c9 = tn A1 16 c9 := pch_n (by decide)
    exact e_retry (v := true) (C := begC (pch A1) c9 (tn A1 16 c9 - 1)) (X2 := begC A1 c9 (tn A1 16 c9 - 1)) h hls hX hbl hbA hi hL hJp hx1 (fun S1 ax ay hq hR => c_retry hls hR hc hD hNB (by omega) h7 ⟨fun z => absurd z (by rw [opn_pch hI hc, ho]; decide), fun _ S8 ay8 hR8 => ⟨rfl, ax, ay8, hq, by rw [← e16]; exact hR8⟩⟩) (r_retry hls X A1 c9 K hA1 hc (hI.c16 hc) hI.nb (by omega) ho hI.f1.2 hI.f53 h73) (kq.beg.z h0) q.1 ((d11_pch.symm.begC _ _).AG (Nat.le_of_eq begC_13)) (by decide) (by decide) hfr hlo (by omega) (by omega) (fun S' Lm' Lc' hJ' => V.widen (by omega) (by omega) (kk _ _ S' Lm' Lc' 0 hJ' (NX.kq kq.beg q.1 q.2.1 (by omega) hm h13)))

set_option maxHeartbeats 1000000 in
theorem st_learn (h : CX l D tc A p s m args meth c code 7 RL Ts) (hls : l.stackTraces = false) (hX : va_X b L xs s s.heap) (hbl : b < s.heap.size) (hbA : ¬ A b) (hi : i + 4 < L) (hL : L < 2 ^ 31) (hJ : LJ tc am ad q0 o X A1 yv S Lm Lc) {x1 : Int32} (hx1 : xs (i + 1) = x1)
    (hA1 : A1 = sf X 0 0) (hI : INV K A1) (hm : iMom A1) (h0 : tf A1 0 = 0) (h13 : tf A1 13 ≤ j) (hj : j ≤ 512) (hK : K < 1600000000) (hfr : 16 ≤ R.frames) (hlo : 626 ≤ R.locals) (hro : k + (4 * j + 40) ≤ R.cells) (hrs : n + 27468 ≤ R.slots)
    (kk : ∀ (X' : TS) (yv' : Int64) (S' : HS) (Lm' Lc' : List Nat) (a : Nat), LJ tc am ad q0 o X' X' yv' S' Lm' Lc' → NX K j A1 a X' → V l D tc A p e R s m args below meth c 7 Q S' (k + (4 * j + 40)) (n + (12468 + 15000 * a)) 1179 [some (.ref b), some (.ref q0), some (.ref am), some (.ref o), some (.int (nI i)), none, none] []) : V l D tc A p e R s m args below meth c 7 Q S k n 315 [some (.ref b), some (.ref q0), some (.ref am), some (.ref o), some (.int (nI i)), none, none] [] := by
  have h7 : 700 ≤ K := Nat.le_trans (by decide) hI.k7
  have h73 : 7300 ≤ K := hI.k7
  have hD := pch_D hI
  have hNB := pch_NB hI.nb
  have hJp := hJ.two (d11_pch.AG (Nat.le_refl _))
  have hAp : AG A1 (pch A1) := d11_pch.symm.AG (Nat.le_refl _)
  rcases noIx_cs (x := x1) (n := 4) (by decide) with hx | ⟨c9, hc, rfl⟩
  · exact e_learn_t1 h hls hX hbl hbA hi hL hJ hx1 (fun S1 ax ay hR => t_learn_b hls hR hx) (r_learn_b hls X _ x1 hA1 hx) (by rw [hA1]) (by rw [hA1]; exact AG.s0r) (by decide) hfr hlo (by omega) (by omega) (fun S' Lm' Lc' hJ' => V.widen (by omega) (by omega) (kk _ _ S' Lm' Lc' 0 hJ' (by rw [← hA1]; exact NX.thr hI hm h13 (by decide))))
  have q := learn_ok hI hm hc
  have e5 := hI.f5
  have hRl : RM l D tc am ad yX11_learn cX11_learn 2 (some .int) 3 [.ref am, .int (nI c9)] X (some (.int (nI (tf A1 38 - 1)))) (lrnF A1 c9) := by
    unfold lrnF
    split
    · exact r_learn_s hls X A1 c9 K hA1 hc (hI.c16 hc) hI.nb (by omega) hI.f38.1 (by assumption)
    · split
      · exact r_learn_o hls X A1 c9 K hA1 hc (hI.c16 hc) hI.nb (by omega) hI.f38.1 (by assumption) (by assumption) hI.f1.2 hI.f53 h73
      · exact r_learn_n hls X A1 c9 K hA1 hc (hI.c16 hc) hI.nb (by omega) hI.f38.1 (by assumption) (Bool.eq_false_iff.mpr (by assumption))
  exact e_learn (v := nI (tf A1 38 - 1)) (C := lrnC (pch A1) c9) (X2 := lrnC A1 c9) h hls hX hbl hbA hi hL hJp hx1 (fun S1 ax ay hq hR => c_learn hls hR hc (by show 1 ≤ tf A1 5; rw [e5]; exact hI.f38.1) hD hNB (by omega) h7 (fun S8 ay8 hR8 => ⟨by show some (Value.int (nI (tf A1 5 - 1))) = _; rw [e5], ax, ay8, hq, hR8⟩)) (hRl) (kq.lrn.z h0) q.1 ((lrn_pch hI hc).symm.AG (Nat.le_of_eq (((lrn_pch hI hc).1 13).trans q.2.2.2))) (by decide) (by decide) hfr hlo (by omega) (by omega) (fun S' Lm' Lc' hJ' => V.widen (by omega) (by omega) (kk _ _ S' Lm' Lc' 0 hJ' (NX.kq kq.lrn q.1 q.2.1 (by omega) hm h13)))

set_option maxHeartbeats 1000000 in
theorem st_lose (h : CX l D tc A p s m args meth c code 7 RL Ts) (hls : l.stackTraces = false) (hX : va_X b L xs s s.heap) (hbl : b < s.heap.size) (hbA : ¬ A b) (hi : i + 4 < L) (hL : L < 2 ^ 31) (hJ : LJ tc am ad q0 o X A1 yv S Lm Lc) {x1 : Int32} (hx1 : xs (i + 1) = x1)
    (hA1 : A1 = sf X 0 0) (hI : INV K A1) (hm : iMom A1) (h0 : tf A1 0 = 0) (h13 : tf A1 13 ≤ j) (hj : j ≤ 512) (hK : K < 1600000000) (hfr : 16 ≤ R.frames) (hlo : 626 ≤ R.locals) (hro : k + (4 * j + 40) ≤ R.cells) (hrs : n + 27468 ≤ R.slots)
    (kk : ∀ (X' : TS) (yv' : Int64) (S' : HS) (Lm' Lc' : List Nat) (a : Nat), LJ tc am ad q0 o X' X' yv' S' Lm' Lc' → NX K j A1 a X' → V l D tc A p e R s m args below meth c 7 Q S' (k + (4 * j + 40)) (n + (12468 + 15000 * a)) 1179 [some (.ref b), some (.ref q0), some (.ref am), some (.ref o), some (.int (nI i)), none, none] []) : V l D tc A p e R s m args below meth c 7 Q S k n 427 [some (.ref b), some (.ref q0), some (.ref am), some (.ref o), some (.int (nI i)), none, none] [] := by
  have h7 : 700 ≤ K := Nat.le_trans (by decide) hI.k7
  have h73 : 7300 ≤ K := hI.k7
  rcases noIx_cs (x := x1) (n := tf A1 53) (by have := hI.f53; omega) with hx | ⟨k9, hk, rfl⟩
  · exact e_lose_t1 h hls hX hbl hbA hi hL hJ hx1 (fun S1 ax ay hR => t_lose_b hls hR hx) (r_lose_b hls X _ x1 hA1 hx) (by rw [hA1]) (by rw [hA1]; exact AG.s0r) (by decide) hfr hlo (by omega) (by omega) (fun S' Lm' Lc' hJ' => V.widen (by omega) (by omega) (kk _ _ S' Lm' Lc' 0 hJ' (by rw [← hA1]; exact NX.thr hI hm h13 (by decide))))
  exact e_lose (v := nI (tf (tkF A1 k9) 53)) (C := tkF A1 k9) (X2 := tkF A1 k9) h hls hX hbl hbA hi hL hJ hx1 (fun S1 ax ay hq hR => c_lose hls hR hk (fun S8 ay8 hR8 => ⟨rfl, ax, ay8, hq, hR8⟩)) (r_lose hls X A1 k9 K hA1 hk hI.f53 hI.nb (by omega)) (kq.take.z h0) EQ.rfl AG.rfl (by decide) (by decide) hfr hlo (by omega) (by omega) (fun S' Lm' Lc' hJ' => V.widen (by omega) (by omega) (kk _ _ S' Lm' Lc' 0 hJ' (NX.kq kq.take EQ.rfl (hI.take hk) (by omega) hm h13)))

set_option maxHeartbeats 1000000 in
theorem st_twice (h : CX l D tc A p s m args meth c code 7 RL Ts) (hls : l.stackTraces = false) (hX : va_X b L xs s s.heap) (hbl : b < s.heap.size) (hbA : ¬ A b) (hi : i + 4 < L) (hL : L < 2 ^ 31) (hJ : LJ tc am ad q0 o X A1 yv S Lm Lc) {x1 : Int32} (hx1 : xs (i + 1) = x1)
    (hA1 : A1 = sf X 0 0) (hI : INV K A1) (hm : iMom A1) (h0 : tf A1 0 = 0) (h13 : tf A1 13 ≤ j) (hj : j ≤ 512) (hK : K < 1600000000) (hfr : 16 ≤ R.frames) (hlo : 626 ≤ R.locals) (hro : k + (4 * j + 40) ≤ R.cells) (hrs : n + 27468 ≤ R.slots)
    (kk : ∀ (X' : TS) (yv' : Int64) (S' : HS) (Lm' Lc' : List Nat) (a : Nat), LJ tc am ad q0 o X' X' yv' S' Lm' Lc' → NX K j A1 a X' → V l D tc A p e R s m args below meth c 7 Q S' (k + (4 * j + 40)) (n + (12468 + 15000 * a)) 1179 [some (.ref b), some (.ref q0), some (.ref am), some (.ref o), some (.int (nI i)), none, none] []) : V l D tc A p e R s m args below meth c 7 Q S k n 483 [some (.ref b), some (.ref q0), some (.ref am), some (.ref o), some (.int (nI i)), none, none] [] := by
  have h7 : 700 ≤ K := Nat.le_trans (by decide) hI.k7
  have h73 : 7300 ≤ K := hI.k7
  rcases noIx_cs (x := x1) (n := tf A1 53) (by have := hI.f53; omega) with hx | ⟨k9, hk, rfl⟩
  · exact e_twice_t1 h hls hX hbl hbA hi hL hJ hx1 (fun S1 ax ay hR => t_twice_b hls hR hx) (r_twice_b hls X _ x1 hA1 hx) (by rw [hA1]) (by rw [hA1]; exact AG.s0r) (by decide) hfr hlo (by omega) (by omega) (fun S' Lm' Lc' hJ' => V.widen (by omega) (by omega) (kk _ _ S' Lm' Lc' 0 hJ' (by rw [← hA1]; exact NX.thr hI hm h13 (by decide))))
  exact e_twice (v := nI (tf (twiF A1 k9) 53)) (C := twiF A1 k9) (X2 := twiF A1 k9) h hls hX hbl hbA hi hL hJ hx1 (fun S1 ax ay hq hR => c_twice hls hR hk (fun S8 ay8 hR8 => ⟨rfl, ax, ay8, hq, hR8⟩)) (r_twice hls X A1 k9 K hA1 hk hI.f53 hI.nb (by omega)) (kq.z (A := A1) kq.send h0) EQ.rfl AG.rfl (by decide) (by decide) hfr hlo (by omega) (by omega) (fun S' Lm' Lc' hJ' => V.widen (by omega) (by omega) (kk _ _ S' Lm' Lc' 0 hJ' (NX.kq (F := twiF A1 k9) kq.send EQ.rfl (hI.twi hk) (by omega) hm h13)))

set_option maxHeartbeats 1000000 in
theorem st_sync (h : CX l D tc A p s m args meth c code 7 RL Ts) (hls : l.stackTraces = false) (hX : va_X b L xs s s.heap) (hbl : b < s.heap.size) (hbA : ¬ A b) (hi : i + 4 < L) (hL : L < 2 ^ 31) (hJ : LJ tc am ad q0 o X A1 yv S Lm Lc) {x1 : Int32} (hx1 : xs (i + 1) = x1)
    (hA1 : A1 = sf X 0 0) (hI : INV K A1) (hm : iMom A1) (h0 : tf A1 0 = 0) (h13 : tf A1 13 ≤ j) (hj : j ≤ 512) (hK : K < 1600000000) (hfr : 16 ≤ R.frames) (hlo : 626 ≤ R.locals) (hro : k + (4 * j + 40) ≤ R.cells) (hrs : n + 27468 ≤ R.slots)
    (kk : ∀ (X' : TS) (yv' : Int64) (S' : HS) (Lm' Lc' : List Nat) (a : Nat), LJ tc am ad q0 o X' X' yv' S' Lm' Lc' → NX K j A1 a X' → V l D tc A p e R s m args below meth c 7 Q S' (k + (4 * j + 40)) (n + (12468 + 15000 * a)) 1179 [some (.ref b), some (.ref q0), some (.ref am), some (.ref o), some (.int (nI i)), none, none] []) : V l D tc A p e R s m args below meth c 7 Q S k n 539 [some (.ref b), some (.ref q0), some (.ref am), some (.ref o), some (.int (nI i)), none, none] [] := by
  have h7 : 700 ≤ K := Nat.le_trans (by decide) hI.k7
  have h73 : 7300 ≤ K := hI.k7
  have e5 := hI.f5
  rcases noIx_cs (x := x1) (n := tf A1 38) (by have := hI.f38; omega) with hx | ⟨e9, he, rfl⟩
  · exact e_sync_t1 h hls hX hbl hbA hi hL hJ hx1 (fun S1 ax ay hR => t_sync_b hls hR (by rw [e5]; exact hx)) (r_sync_b hls X _ x1 hA1 hx) (by rw [hA1]) (by rw [hA1]; exact AG.s0r) (by decide) hfr hlo (by omega) (by omega) (fun S' Lm' Lc' hJ' => V.widen (by omega) (by omega) (kk _ _ S' Lm' Lc' 0 hJ' (by rw [← hA1]; exact NX.thr hI hm h13 (by decide))))
  cases ho : tb A1 30 e9 with
  | false =>
    exact e_sync (v := false) (C := A1) (X2 := A1) h hls hX hbl hbA hi hL hJ hx1 (fun S1 ax ay hq hR => c_sync hls hR (by omega) ⟨fun _ => ⟨rfl, ax, ay, hq, hR⟩, fun z => absurd z (by rw [ho]; decide)⟩) (r_sync_d hls X A1 e9 K hA1 he hI.f38.2 hI.nb (by omega) ho) (h0) EQ.rfl AG.rfl (by decide) (by decide) hfr hlo (by omega) (by omega) (fun S' Lm' Lc' hJ' => V.widen (by omega) (by omega) (kk _ _ S' Lm' Lc' 0 hJ' (NX.same hI hm h13)))
  | true =>
    exact e_sync (v := true) (C := sycC A1 e9) (X2 := sycF A1 e9) h hls hX hbl hbA hi hL hJ hx1 (fun S1 ax ay hq hR => c_sync hls hR (by omega) ⟨fun z => absurd z (by rw [ho]; decide), fun _ S8 ay8 hR8 => ⟨rfl, ax, ay8, hq, hR8⟩⟩) (r_sync hls X A1 e9 K hA1 he hI.f38.2 hI.nb (by omega) ho hI.f1.2 hI.f53 h73) (kq.sync.z h0) EQ.rfl AG.rfl (by decide) (by decide) hfr hlo (by omega) (by omega) (fun S' Lm' Lc' hJ' => V.widen (by omega) (by omega) (kk _ _ S' Lm' Lc' 0 hJ' (NX.kq kq.sync EQ.rfl (hI.sync he) (by omega) hm h13)))

set_option maxHeartbeats 1000000 in
theorem st_crash (h : CX l D tc A p s m args meth c code 7 RL Ts) (hls : l.stackTraces = false) (hX : va_X b L xs s s.heap) (hbl : b < s.heap.size) (hbA : ¬ A b) (hi : i + 4 < L) (hL : L < 2 ^ 31) (hJ : LJ tc am ad q0 o X A1 yv S Lm Lc) {x1 : Int32} (hx1 : xs (i + 1) = x1)
    (hA1 : A1 = sf X 0 0) (hI : INV K A1) (hm : iMom A1) (h0 : tf A1 0 = 0) (h13 : tf A1 13 ≤ j) (hj : j ≤ 512) (hK : K < 1600000000) (hfr : 16 ≤ R.frames) (hlo : 626 ≤ R.locals) (hro : k + (4 * j + 40) ≤ R.cells) (hrs : n + 27468 ≤ R.slots)
    (kk : ∀ (X' : TS) (yv' : Int64) (S' : HS) (Lm' Lc' : List Nat) (a : Nat), LJ tc am ad q0 o X' X' yv' S' Lm' Lc' → NX K j A1 a X' → V l D tc A p e R s m args below meth c 7 Q S' (k + (4 * j + 40)) (n + (12468 + 15000 * a)) 1179 [some (.ref b), some (.ref q0), some (.ref am), some (.ref o), some (.int (nI i)), none, none] []) : V l D tc A p e R s m args below meth c 7 Q S k n 602 [some (.ref b), some (.ref q0), some (.ref am), some (.ref o), some (.int (nI i)), none, none] [] := by
  have h7 : 700 ≤ K := Nat.le_trans (by decide) hI.k7
  have h73 : 7300 ≤ K := hI.k7
  have e5 := hI.f5
  rcases noIx_cs (x := x1) (n := tf A1 38) (by have := hI.f38; omega) with hx | ⟨e9, he, rfl⟩
  · exact e_crash_t1 h hls hX hbl hbA hi hL hJ hx1 (fun S1 ax ay hR => t_crash_b hls hR (by rw [e5]; exact hx)) (r_crash_b hls X _ x1 hA1 hx) (by rw [hA1]) (by rw [hA1]; exact AG.s0r) (by decide) hfr hlo (by omega) (by omega) (fun S' Lm' Lc' hJ' => V.widen (by omega) (by omega) (kk _ _ S' Lm' Lc' 0 hJ' (by rw [← hA1]; exact NX.thr hI hm h13 (by decide))))
  exact e_crash (v := tb A1 30 e9) (C := craF A1 e9) (X2 := craF A1 e9) h hls hX hbl hbA hi hL hJ hx1 (fun S1 ax ay hq hR => c_crash hls hR (by omega) (fun S8 hR8 => ⟨rfl, ax, ay, hq, hR8⟩)) (r_crash hls X A1 e9 K hA1 he hI.f38.2 hI.nb (by omega)) (kq.crash.z h0) EQ.rfl AG.rfl (by decide) (by decide) hfr hlo (by omega) (by omega) (fun S' Lm' Lc' hJ' => V.widen (by omega) (by omega) (kk _ _ S' Lm' Lc' 0 hJ' (NX.kq kq.crash EQ.rfl (hI.crash he) (by omega) hm h13)))

end
