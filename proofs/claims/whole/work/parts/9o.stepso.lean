/-! ===== the law: steps of its loop ===== -/
set_option maxRecDepth 100000
section
variable {l : Launch} {D : va_G} {tc : Nat → ClassId} {A : Nat → Prop} {p : Program} {e : Env} {R : Room} {s : State} {m : MethodId} {args : Array Value} {below : List Frame} {meth : Method} {c : Code} {Q : State → Prop} {S : HS} {k n : Nat} {Ts : List Cond} {am q0 o b L i kx dC dR mc ms : Nat} {ad : Nat → Nat} {xs : Nat → Int32} {X A1 : TS} {yv yv' : Int64} {Lm Lc : List Nat}
variable {K j : Nat}
set_option maxHeartbeats 1000000 in
theorem st_letter (h : CX l D tc A p s m args meth c code 7 RL Ts) (hls : l.stackTraces = false) (hX : va_X b L xs s s.heap) (hbl : b < s.heap.size) (hbA : ¬ A b) (hi : i + 4 < L) (hL : L < 2 ^ 31) (hJ : LJ tc am ad q0 o X A1 yv S Lm Lc) {x1 x2 : Int32} (hx1 : xs (i + 1) = x1) (hx2 : xs (i + 2) = x2)
    (hA1 : A1 = sf X 0 0) (hI : INV K A1) (hm : iMom A1) (h0 : tf A1 0 = 0) (h13 : tf A1 13 ≤ j) (hj : j ≤ 512) (hK : K < 1600000000) (hfr : 16 ≤ R.frames) (hlo : 626 ≤ R.locals) (hro : k + (4 * j + 40) ≤ R.cells) (hrs : n + 27468 ≤ R.slots)
    (kk : ∀ (X' : TS) (yv' : Int64) (S' : HS) (Lm' Lc' : List Nat) (a : Nat), LJ tc am ad q0 o X' X' yv' S' Lm' Lc' → NX K j A1 a X' → V l D tc A p e R s m args below meth c 7 Q S' (k + (4 * j + 40)) (n + (12468 + 15000 * a)) 1179 [some (.ref b), some (.ref q0), some (.ref am), some (.ref o), some (.int (nI i)), none, none] []) : V l D tc A p e R s m args below meth c 7 Q S k n 733 [some (.ref b), some (.ref q0), some (.ref am), some (.ref o), some (.int (nI i)), none, none] [] := by
  have h7 : 700 ≤ K := Nat.le_trans (by decide) hI.k7
  have h73 : 7300 ≤ K := hI.k7
  rcases noIx_cs (x := x1) (n := tf A1 53) (by have := hI.f53; omega) with hx | ⟨k9, hk, rfl⟩
  · exact e_letter_t1 h hls hX hbl hbA hi hL hJ hx1 hx2 (fun S1 ax ay hR => t_letter_b hls hR hx) (r_letter_b hls X _ x1 x2 hA1 hx) (by rw [hA1]) (by rw [hA1]; exact AG.s0r) (by decide) hfr hlo (by omega) (by omega) (fun S' Lm' Lc' hJ' => V.widen (by omega) (by omega) (kk _ _ S' Lm' Lc' 0 hJ' (by rw [← hA1]; exact NX.thr hI hm h13 (by decide))))
  rcases noIx_cs (x := x2) (n := 4) (by decide) with hx | ⟨t, ht, rfl⟩
  · exact e_letter_t2 h hls hX hbl hbA hi hL hJ hx1 hx2 (fun S1 ax ay hR => t_letter_w hls hR hk hx) (r_letter_w hls X _ k9 K x2 hA1 hk hI.f53 hI.nb (by omega) hx) (by rw [hA1]) (by rw [hA1]; exact AG.s0r) (by decide) hfr hlo (by omega) (by omega) (fun S' Lm' Lc' hJ' => V.widen (by omega) (by omega) (kk _ _ S' Lm' Lc' 0 hJ' (by rw [← hA1]; exact NX.thr hI hm h13 (by decide))))
  exact e_letter (v := nI (letV A1 k9 t)) (C := A1) (X2 := A1) h hls hX hbl hbA hi hL hJ hx1 hx2 (fun S1 ax ay hq hR => c_letter (K := 0) hls hR hk ht ⟨rfl, ax, ay, hq, hR⟩) (r_letter hls X A1 k9 t K hA1 hk hI.f53 hI.nb (by omega) ht) (h0) EQ.rfl AG.rfl (by decide) (by decide) hfr hlo (by omega) (by omega) (fun S' Lm' Lc' hJ' => V.widen (by omega) (by omega) (kk _ _ S' Lm' Lc' 0 hJ' (NX.same hI hm h13)))

set_option maxHeartbeats 1000000 in
theorem st_client (h : CX l D tc A p s m args meth c code 7 RL Ts) (hls : l.stackTraces = false) (hX : va_X b L xs s s.heap) (hbl : b < s.heap.size) (hbA : ¬ A b) (hi : i + 4 < L) (hL : L < 2 ^ 31) (hJ : LJ tc am ad q0 o X A1 yv S Lm Lc) {x1 x2 : Int32} (hx1 : xs (i + 1) = x1) (hx2 : xs (i + 2) = x2)
    (hA1 : A1 = sf X 0 0) (hI : INV K A1) (hm : iMom A1) (h0 : tf A1 0 = 0) (h13 : tf A1 13 ≤ j) (hj : j ≤ 512) (hK : K < 1600000000) (hfr : 16 ≤ R.frames) (hlo : 626 ≤ R.locals) (hro : k + (4 * j + 40) ≤ R.cells) (hrs : n + 27468 ≤ R.slots)
    (kk : ∀ (X' : TS) (yv' : Int64) (S' : HS) (Lm' Lc' : List Nat) (a : Nat), LJ tc am ad q0 o X' X' yv' S' Lm' Lc' → NX K j A1 a X' → V l D tc A p e R s m args below meth c 7 Q S' (k + (4 * j + 40)) (n + (12468 + 15000 * a)) 1179 [some (.ref b), some (.ref q0), some (.ref am), some (.ref o), some (.int (nI i)), none, none] []) : V l D tc A p e R s m args below meth c 7 Q S k n 801 [some (.ref b), some (.ref q0), some (.ref am), some (.ref o), some (.int (nI i)), none, none] [] := by
  have h7 : 700 ≤ K := Nat.le_trans (by decide) hI.k7
  have h73 : 7300 ≤ K := hI.k7
  have hD := pch_D hI
  have hNB := pch_NB hI.nb
  have hJp := hJ.two (d11_pch.AG (Nat.le_refl _))
  have hAp : AG A1 (pch A1) := d11_pch.symm.AG (Nat.le_refl _)
  rcases noIx_cs (x := x1) (n := 4) (by decide) with hx | ⟨c9, hc, rfl⟩
  · exact e_client_t1 h hls hX hbl hbA hi hL hJ hx1 hx2 (fun S1 ax ay hR => t_client_b hls hR hx) (r_client_b hls X _ x1 x2 hA1 hx) (by rw [hA1]) (by rw [hA1]; exact AG.s0r) (by decide) hfr hlo (by omega) (by omega) (fun S' Lm' Lc' hJ' => V.widen (by omega) (by omega) (kk _ _ S' Lm' Lc' 0 hJ' (by rw [← hA1]; exact NX.thr hI hm h13 (by decide))))
  rcases noIx_cs (x := x2) (n := 7) (by decide) with hx | ⟨t, ht, rfl⟩
  · exact e_client_t2 h hls hX hbl hbA hi hL hJ hx1 hx2 (fun S1 ax ay hR => t_client_w hls hR hc hx) (r_client_w hls X _ c9 K x2 hA1 hc (hI.c16 hc) hI.nb (by omega) hx) (by rw [hA1]) (by rw [hA1]; exact AG.s0r) (by decide) hfr hlo (by omega) (by omega) (fun S' Lm' Lc' hJ' => V.widen (by omega) (by omega) (kk _ _ S' Lm' Lc' 0 hJ' (by rw [← hA1]; exact NX.thr hI hm h13 (by decide))))
  have hRl := r_client hls X A1 c9 t K bcF (l := l) (D := D) (tc := tc) (am := am) (ad := ad) hA1 hc (hI.c16 hc) hI.nb (by omega) (fun A x => r_bitCount hls A x) ht
  rw [← cli_show hI hc ht] at hRl
  exact e_client (v := cliC A1 c9 t) (C := pch A1) (X2 := A1) h hls hX hbl hbA hi hL hJp hx1 hx2 (fun S1 ax ay hq hR => c_client hls hR hc ht hD hNB (by omega) h7 ⟨by rw [cli_pch hI hc], ax, ay, hq, hR⟩) (hRl) (h0) EQ.rfl hAp (by decide) (by decide) hfr hlo (by omega) (by omega) (fun S' Lm' Lc' hJ' => V.widen (by omega) (by omega) (kk _ _ S' Lm' Lc' 0 hJ' (NX.same hI hm h13)))

set_option maxHeartbeats 1000000 in
theorem st_master (h : CX l D tc A p s m args meth c code 7 RL Ts) (hls : l.stackTraces = false) (hX : va_X b L xs s s.heap) (hbl : b < s.heap.size) (hbA : ¬ A b) (hi : i + 4 < L) (hL : L < 2 ^ 31) (hJ : LJ tc am ad q0 o X A1 yv S Lm Lc) {x1 x2 : Int32} (hx1 : xs (i + 1) = x1) (hx2 : xs (i + 2) = x2)
    (hA1 : A1 = sf X 0 0) (hI : INV K A1) (hm : iMom A1) (h0 : tf A1 0 = 0) (h13 : tf A1 13 ≤ j) (hj : j ≤ 512) (hK : K < 1600000000) (hfr : 16 ≤ R.frames) (hlo : 626 ≤ R.locals) (hro : k + (4 * j + 40) ≤ R.cells) (hrs : n + 27468 ≤ R.slots)
    (kk : ∀ (X' : TS) (yv' : Int64) (S' : HS) (Lm' Lc' : List Nat) (a : Nat), LJ tc am ad q0 o X' X' yv' S' Lm' Lc' → NX K j A1 a X' → V l D tc A p e R s m args below meth c 7 Q S' (k + (4 * j + 40)) (n + (12468 + 15000 * a)) 1179 [some (.ref b), some (.ref q0), some (.ref am), some (.ref o), some (.int (nI i)), none, none] []) : V l D tc A p e R s m args below meth c 7 Q S k n 869 [some (.ref b), some (.ref q0), some (.ref am), some (.ref o), some (.int (nI i)), none, none] [] := by
  have h7 : 700 ≤ K := Nat.le_trans (by decide) hI.k7
  have h73 : 7300 ≤ K := hI.k7
  have e5 := hI.f5
  rcases noIx_cs (x := x1) (n := tf A1 38) (by have := hI.f38; omega) with hx | ⟨e9, he, rfl⟩
  · exact e_master_t1 h hls hX hbl hbA hi hL hJ hx1 hx2 (fun S1 ax ay hR => t_master_b hls hR (by rw [e5]; exact hx)) (r_master_b hls X _ x1 x2 hA1 hx) (by rw [hA1]) (by rw [hA1]; exact AG.s0r) (by decide) hfr hlo (by omega) (by omega) (fun S' Lm' Lc' hJ' => V.widen (by omega) (by omega) (kk _ _ S' Lm' Lc' 0 hJ' (by rw [← hA1]; exact NX.thr hI hm h13 (by decide))))
  rcases noIx_cs (x := x2) (n := 5) (by decide) with hx | ⟨t, ht, rfl⟩
  · exact e_master_t2 h hls hX hbl hbA hi hL hJ hx1 hx2 (fun S1 ax ay hR => t_master_w hls hR (by omega) hx) (r_master_w hls X _ e9 K x2 hA1 he hI.f38.2 hI.nb (by omega) hx) (by rw [hA1]) (by rw [hA1]; exact AG.s0r) (by decide) hfr hlo (by omega) (by omega) (fun S' Lm' Lc' hJ' => V.widen (by omega) (by omega) (kk _ _ S' Lm' Lc' 0 hJ' (by rw [← hA1]; exact NX.thr hI hm h13 (by decide))))
  exact e_master (v := masV A1 e9 t) (C := A1) (X2 := A1) h hls hX hbl hbA hi hL hJ hx1 hx2 (fun S1 ax ay hq hR => c_master hls hR (by omega) ht ⟨rfl, ax, ay, hq, hR⟩) (r_master hls X A1 e9 t K hA1 he hI.f38.2 hI.nb (by omega) ht) (h0) EQ.rfl AG.rfl (by decide) (by decide) hfr hlo (by omega) (by omega) (fun S' Lm' Lc' hJ' => V.widen (by omega) (by omega) (kk _ _ S' Lm' Lc' 0 hJ' (NX.same hI hm h13)))

set_option maxHeartbeats 1000000 in
theorem st_value (h : CX l D tc A p s m args meth c code 7 RL Ts) (hls : l.stackTraces = false) (hX : va_X b L xs s s.heap) (hbl : b < s.heap.size) (hbA : ¬ A b) (hi : i + 4 < L) (hL : L < 2 ^ 31) (hJ : LJ tc am ad q0 o X A1 yv S Lm Lc) {x1 x2 : Int32} (hx1 : xs (i + 1) = x1) (hx2 : xs (i + 2) = x2)
    (hA1 : A1 = sf X 0 0) (hI : INV K A1) (hm : iMom A1) (h0 : tf A1 0 = 0) (h13 : tf A1 13 ≤ j) (hj : j ≤ 512) (hK : K < 1600000000) (hfr : 16 ≤ R.frames) (hlo : 626 ≤ R.locals) (hro : k + (4 * j + 40) ≤ R.cells) (hrs : n + 27468 ≤ R.slots)
    (kk : ∀ (X' : TS) (yv' : Int64) (S' : HS) (Lm' Lc' : List Nat) (a : Nat), LJ tc am ad q0 o X' X' yv' S' Lm' Lc' → NX K j A1 a X' → V l D tc A p e R s m args below meth c 7 Q S' (k + (4 * j + 40)) (n + (12468 + 15000 * a)) 1179 [some (.ref b), some (.ref q0), some (.ref am), some (.ref o), some (.int (nI i)), none, none] []) : V l D tc A p e R s m args below meth c 7 Q S k n 937 [some (.ref b), some (.ref q0), some (.ref am), some (.ref o), some (.int (nI i)), none, none] [] := by
  have h7 : 700 ≤ K := Nat.le_trans (by decide) hI.k7
  have h73 : 7300 ≤ K := hI.k7
  have e5 := hI.f5
  rcases noIx_cs (x := x1) (n := tf A1 38) (by have := hI.f38; omega) with hx | ⟨e9, he, rfl⟩
  · exact e_value_t1 h hls hX hbl hbA hi hL hJ hx1 hx2 (fun S1 ax ay hR => t_value_b hls hR (by rw [e5]; exact hx)) (r_value_b hls X _ x1 x2 hA1 hx) (by rw [hA1]) (by rw [hA1]; exact AG.s0r) (by decide) hfr hlo (by omega) (by omega) (fun S' Lm' Lc' hJ' => V.widen (by omega) (by omega) (kk _ _ S' Lm' Lc' 0 hJ' (by rw [← hA1]; exact NX.thr hI hm h13 (by decide))))
  rcases noIx_cs (x := x2) (n := 16) (by decide) with hx | ⟨ky, hky, rfl⟩
  · exact e_value_t1 h hls hX hbl hbA hi hL hJ hx1 hx2 (fun S1 ax ay hR => t_value_y hls hR (by omega) hx) (r_value_y hls X _ e9 K x2 hA1 he hI.f38.2 hI.nb (by omega) hx) (by rw [hA1]) (by rw [hA1]; exact AG.s0r) (by decide) hfr hlo (by omega) (by omega) (fun S' Lm' Lc' hJ' => V.widen (by omega) (by omega) (kk _ _ S' Lm' Lc' 0 hJ' (by rw [← hA1]; exact NX.thr hI hm h13 (by decide))))
  have lg := hI.lg he
  have hRl := r_value hls X A1 e9 ky K (l := l) (D := D) (tc := tc) (am := am) (ad := ad) hA1 he hI.f38.2 hI.nb (by omega) hky (by omega) lg.2.2.2.2
  rw [← hI.2.2.2.2.2.1 e9 ky he hky] at hRl
  exact e_value (v := tr A1 3 (16 * e9 + ky)) (C := A1) (X2 := A1) h hls hX hbl hbA hi hL hJ hx1 hx2 (fun S1 ax ay hq hR => c_value hls hR (by omega) hky ⟨rfl, ax, ay, hq, hR⟩) (hRl) (h0) EQ.rfl AG.rfl (by decide) (by decide) hfr hlo (by omega) (by omega) (fun S' Lm' Lc' hJ' => V.widen (by omega) (by omega) (kk _ _ S' Lm' Lc' 0 hJ' (NX.same hI hm h13)))

set_option maxHeartbeats 1000000 in
theorem st_backup (h : CX l D tc A p s m args meth c code 7 RL Ts) (hls : l.stackTraces = false) (hX : va_X b L xs s s.heap) (hbl : b < s.heap.size) (hbA : ¬ A b) (hi : i + 4 < L) (hL : L < 2 ^ 31) (hJ : LJ tc am ad q0 o X A1 yv S Lm Lc) {x1 x2 : Int32} (hx1 : xs (i + 1) = x1) (hx2 : xs (i + 2) = x2)
    (hA1 : A1 = sf X 0 0) (hI : INV K A1) (hm : iMom A1) (h0 : tf A1 0 = 0) (h13 : tf A1 13 ≤ j) (hj : j ≤ 512) (hK : K < 1600000000) (hfr : 16 ≤ R.frames) (hlo : 626 ≤ R.locals) (hro : k + (4 * j + 40) ≤ R.cells) (hrs : n + 27468 ≤ R.slots)
    (kk : ∀ (X' : TS) (yv' : Int64) (S' : HS) (Lm' Lc' : List Nat) (a : Nat), LJ tc am ad q0 o X' X' yv' S' Lm' Lc' → NX K j A1 a X' → V l D tc A p e R s m args below meth c 7 Q S' (k + (4 * j + 40)) (n + (12468 + 15000 * a)) 1179 [some (.ref b), some (.ref q0), some (.ref am), some (.ref o), some (.int (nI i)), none, none] []) : V l D tc A p e R s m args below meth c 7 Q S k n 1005 [some (.ref b), some (.ref q0), some (.ref am), some (.ref o), some (.int (nI i)), none, none] [] := by
  have h7 : 700 ≤ K := Nat.le_trans (by decide) hI.k7
  have h73 : 7300 ≤ K := hI.k7
  rcases noIx_cs (x := x1) (n := tf A1 1) (by have := hI.f1; omega) with hx | ⟨b9, hb, rfl⟩
  · exact e_backup_t1 h hls hX hbl hbA hi hL hJ hx1 hx2 (fun S1 ax ay hR => t_backup_b hls hR hx) (r_backup_b hls X _ x1 x2 hA1 hx) (by rw [hA1]) (by rw [hA1]; exact AG.s0r) (by decide) hfr hlo (by omega) (by omega) (fun S' Lm' Lc' hJ' => V.widen (by omega) (by omega) (kk _ _ S' Lm' Lc' 0 hJ' (by rw [← hA1]; exact NX.thr hI hm h13 (by decide))))
  rcases noIx_cs (x := x2) (n := 2) (by decide) with hx | ⟨t, ht, rfl⟩
  · exact e_backup_t2 h hls hX hbl hbA hi hL hJ hx1 hx2 (fun S1 ax ay hR => t_backup_w hls hR hb hx) (r_backup_w hls X _ b9 K x2 hA1 hb hI.f1.2 hI.nb (by omega) (fun z => by rw [z] at hx; exact absurd hx (by decide)) (fun z => by rw [z] at hx; exact absurd hx (by decide))) (by rw [hA1]) (by rw [hA1]; exact AG.s0r) (by decide) hfr hlo (by omega) (by omega) (fun S' Lm' Lc' hJ' => V.widen (by omega) (by omega) (kk _ _ S' Lm' Lc' 0 hJ' (by rw [← hA1]; exact NX.thr hI hm h13 (by decide))))
  have ht2 : t = 0 ∨ t = 1 := by omega
  rcases ht2 with rfl | rfl
  · exact e_backup (v := nI (tn A1 39 b9)) (C := A1) (X2 := A1) h hls hX hbl hbA hi hL hJ hx1 hx2 (fun S1 ax ay hq hR => c_backup hls hR hb ht ⟨rfl, ax, ay, hq, hR⟩) (r_backup_0 hls X A1 b9 K hA1 hb hI.f1.2 hI.nb (by omega)) (h0) EQ.rfl AG.rfl (by decide) (by decide) hfr hlo (by omega) (by omega) (fun S' Lm' Lc' hJ' => V.widen (by omega) (by omega) (kk _ _ S' Lm' Lc' 0 hJ' (NX.same hI hm h13)))
  · exact e_backup (v := nI (tn A1 40 b9)) (C := A1) (X2 := A1) h hls hX hbl hbA hi hL hJ hx1 hx2 (fun S1 ax ay hq hR => c_backup hls hR hb ht ⟨rfl, ax, ay, hq, hR⟩) (r_backup_1 hls X A1 b9 K hA1 hb hI.f1.2 hI.nb (by omega)) (h0) EQ.rfl AG.rfl (by decide) (by decide) hfr hlo (by omega) (by omega) (fun S' Lm' Lc' hJ' => V.widen (by omega) (by omega) (kk _ _ S' Lm' Lc' 0 hJ' (NX.same hI hm h13)))

set_option maxHeartbeats 1000000 in
theorem st_witness (h : CX l D tc A p s m args meth c code 7 RL Ts) (hls : l.stackTraces = false) (hX : va_X b L xs s s.heap) (hbl : b < s.heap.size) (hbA : ¬ A b) (hi : i + 4 < L) (hL : L < 2 ^ 31) (hJ : LJ tc am ad q0 o X A1 yv S Lm Lc) {x1 x2 : Int32} (hx1 : xs (i + 1) = x1) (hx2 : xs (i + 2) = x2)
    (hA1 : A1 = sf X 0 0) (hI : INV K A1) (hm : iMom A1) (h0 : tf A1 0 = 0) (h13 : tf A1 13 ≤ j) (hj : j ≤ 512) (hK : K < 1600000000) (hfr : 16 ≤ R.frames) (hlo : 626 ≤ R.locals) (hro : k + (4 * j + 40) ≤ R.cells) (hrs : n + 27468 ≤ R.slots)
    (kk : ∀ (X' : TS) (yv' : Int64) (S' : HS) (Lm' Lc' : List Nat) (a : Nat), LJ tc am ad q0 o X' X' yv' S' Lm' Lc' → NX K j A1 a X' → V l D tc A p e R s m args below meth c 7 Q S' (k + (4 * j + 40)) (n + (12468 + 15000 * a)) 1179 [some (.ref b), some (.ref q0), some (.ref am), some (.ref o), some (.int (nI i)), none, none] []) : V l D tc A p e R s m args below meth c 7 Q S k n 1073 [some (.ref b), some (.ref q0), some (.ref am), some (.ref o), some (.int (nI i)), none, none] [] := by
  have h7 : 700 ≤ K := Nat.le_trans (by decide) hI.k7
  have h73 : 7300 ≤ K := hI.k7
  rcases noIx_cs (x := x1) (n := tf A1 1) (by have := hI.f1; omega) with hx | ⟨w9, hw, rfl⟩
  · exact e_witness_t1 h hls hX hbl hbA hi hL hJ hx1 hx2 (fun S1 ax ay hR => t_witness_b hls hR hx) (r_witness_b hls X _ x1 x2 hA1 hx) (by rw [hA1]) (by rw [hA1]; exact AG.s0r) (by decide) hfr hlo (by omega) (by omega) (fun S' Lm' Lc' hJ' => V.widen (by omega) (by omega) (kk _ _ S' Lm' Lc' 0 hJ' (by rw [← hA1]; exact NX.thr hI hm h13 (by decide))))
  rcases noIx_cs (x := x2) (n := 4) (by decide) with hx | ⟨t, ht, rfl⟩
  · exact e_witness_t2 h hls hX hbl hbA hi hL hJ hx1 hx2 (fun S1 ax ay hR => t_witness_w hls hR hw hx) (r_witness_w hls X _ w9 K x2 hA1 hw hI.f1.2 hI.nb (by omega) hx) (by rw [hA1]) (by rw [hA1]; exact AG.s0r) (by decide) hfr hlo (by omega) (by omega) (fun S' Lm' Lc' hJ' => V.widen (by omega) (by omega) (kk _ _ S' Lm' Lc' 0 hJ' (by rw [← hA1]; exact NX.thr hI hm h13 (by decide))))
  have w44 := hI.w44 hw
  have hRl := r_witness hls X A1 w9 t K (l := l) (D := D) (tc := tc) (am := am) (ad := ad) hA1 hw hI.f1.2 hI.nb (by omega) ht w44.1 w44.2 hI.2.1.2.1
  rw [← wit_show (hI.wi hw)] at hRl
  exact e_witness (v := witC A1 w9 t) (C := A1) (X2 := A1) h hls hX hbl hbA hi hL hJ hx1 hx2 (fun S1 ax ay hq hR => c_witness hls hR hw ht hI.2.1.2.1 hI.nb (by omega) h7 ⟨rfl, ax, ay, hq, hR⟩) (hRl) (h0) EQ.rfl AG.rfl (by decide) (by decide) hfr hlo (by omega) (by omega) (fun S' Lm' Lc' hJ' => V.widen (by omega) (by omega) (kk _ _ S' Lm' Lc' 0 hJ' (NX.same hI hm h13)))

set_option maxHeartbeats 1000000 in
theorem st_audit (h : CX l D tc A p s m args meth c code 7 RL Ts) (hls : l.stackTraces = false) (hX : va_X b L xs s s.heap) (hbl : b < s.heap.size) (hbA : ¬ A b) (hi : i + 4 < L) (hL : L < 2 ^ 31) (hJ : LJ tc am ad q0 o X A1 yv S Lm Lc) 
    (hA1 : A1 = sf X 0 0) (hI : INV K A1) (hm : iMom A1) (h0 : tf A1 0 = 0) (h13 : tf A1 13 ≤ j) (hj : j ≤ 512) (hK : K < 1600000000) (hfr : 16 ≤ R.frames) (hlo : 626 ≤ R.locals) (hro : k + (4 * j + 40) ≤ R.cells) (hrs : n + 27468 ≤ R.slots)
    (kk : ∀ (X' : TS) (yv' : Int64) (S' : HS) (Lm' Lc' : List Nat) (a : Nat), LJ tc am ad q0 o X' X' yv' S' Lm' Lc' → NX K j A1 a X' → V l D tc A p e R s m args below meth c 7 Q S' (k + (4 * j + 40)) (n + (12468 + 15000 * a)) 1179 [some (.ref b), some (.ref q0), some (.ref am), some (.ref o), some (.int (nI i)), none, none] []) : V l D tc A p e R s m args below meth c 7 Q S k n 1141 [some (.ref b), some (.ref q0), some (.ref am), some (.ref o), some (.int (nI i)), none, none] [] := by
  have h7 : 700 ≤ K := Nat.le_trans (by decide) hI.k7
  have h73 : 7300 ≤ K := hI.k7
  have hD := pch_D hI
  have hNB := pch_NB hI.nb
  have hJp := hJ.two (d11_pch.AG (Nat.le_refl _))
  have hAp : AG A1 (pch A1) := d11_pch.symm.AG (Nat.le_refl _)
  have e5 := hI.f5
  have f38 := hI.f38
  have lg := hI.lg (e := tf A1 38 - 1) (by omega)
  have hRl := r_audit hls X A1 K (l := l) (D := D) (tc := tc) (am := am) (ad := ad) hA1 f38.1 f38.2 (by omega) lg.2.2.2.2 (by omega) hI.nb (by omega)
  rw [audit_ok hI hm] at hRl
  exact k_audit (v := audC A1) h hJp (fun ax ay hq hR => by
    rw [← hq]
    exact c_audit hls hR rfl (by show 1 ≤ tf A1 5; omega) hD hNB (by omega) h7 ⟨by rw [aud_pch hI], rfl⟩) hRl (by decide) (by decide) hfr hlo (by omega) (by omega) (fun S' Lm' hJ' => V.widen (by omega) (by omega) (kk _ _ S' Lm' _ 0 (hJ'.mono EQ.rfl hAp) (NX.same hI hm h13)))
set_option maxHeartbeats 1000000 in
theorem st_count (h : CX l D tc A p s m args meth c code 7 RL Ts) (hls : l.stackTraces = false) (hX : va_X b L xs s s.heap) (hbl : b < s.heap.size) (hbA : ¬ A b) (hi : i + 4 < L) (hL : L < 2 ^ 31) (hJ : LJ tc am ad q0 o X A1 yv S Lm Lc) {x1 : Int32} (hx1 : xs (i + 1) = x1)
    (hA1 : A1 = sf X 0 0) (hI : INV K A1) (hm : iMom A1) (h0 : tf A1 0 = 0) (h13 : tf A1 13 ≤ j) (hj : j ≤ 512) (hK : K < 1600000000) (hfr : 16 ≤ R.frames) (hlo : 626 ≤ R.locals) (hro : k + (4 * j + 40) ≤ R.cells) (hrs : n + 27468 ≤ R.slots)
    (kk : ∀ (X' : TS) (yv' : Int64) (S' : HS) (Lm' Lc' : List Nat) (a : Nat), LJ tc am ad q0 o X' X' yv' S' Lm' Lc' → NX K j A1 a X' → V l D tc A p e R s m args below meth c 7 Q S' (k + (4 * j + 40)) (n + (12468 + 15000 * a)) 1179 [some (.ref b), some (.ref q0), some (.ref am), some (.ref o), some (.int (nI i)), none, none] []) : V l D tc A p e R s m args below meth c 7 Q S k n 1154 [some (.ref b), some (.ref q0), some (.ref am), some (.ref o), some (.int (nI i)), none, none] [] := by
  have h7 : 700 ≤ K := Nat.le_trans (by decide) hI.k7
  have h73 : 7300 ≤ K := hI.k7
  rcases noIx_cs (x := x1) (n := 9) (by decide) with hx | ⟨t, ht, rfl⟩
  · exact k_count (v := oI 0) h hX hbl hbA hi hL hJ hx1 (fun ax ay hq hR => by
      rw [← hq]
      exact c_count_w hls hR hx ⟨rfl, rfl⟩) (r_count_w hls X A1 x1 hA1 hx) (by decide) (by decide) hfr hlo (by omega) (by omega) (fun S' Lm' hJ' => V.widen (by omega) (by omega) (kk _ _ S' Lm' _ 0 (hJ'.mono EQ.rfl AG.rfl) (NX.same hI hm h13)))
  have cs := cnt_show (t := t) hI
  exact k_count (v := nI (cntV A1 t)) h hX hbl hbA hi hL hJ hx1 (fun ax ay hq hR => by
      rw [← hq]
      exact c_count hls hR ht ⟨by rw [cs], rfl⟩) (r_count hls X A1 t hA1 ht) (by decide) (by decide) hfr hlo (by omega) (by omega) (fun S' Lm' hJ' => V.widen (by omega) (by omega) (kk _ _ S' Lm' _ 0 (hJ'.mono EQ.rfl AG.rfl) (NX.same hI hm h13)))
end
