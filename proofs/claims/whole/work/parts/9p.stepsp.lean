/-! ===== the law: steps of its loop ===== -/
set_option maxRecDepth 100000
section
variable {l : Launch} {D : va_G} {tc : Nat → ClassId} {A : Nat → Prop} {p : Program} {e : Env} {R : Room} {s : State} {m : MethodId} {args : Array Value} {below : List Frame} {meth : Method} {c : Code} {Q : State → Prop} {S : HS} {k n : Nat} {Ts : List Cond} {am q0 o b L i kx dC dR mc ms : Nat} {ad : Nat → Nat} {xs : Nat → Int32} {X A1 : TS} {yv yv' : Int64} {Lm Lc : List Nat}
variable {K j : Nat}
set_option maxHeartbeats 1000000 in
theorem st_decide (h : CX l D tc A p s m args meth c code 7 RL Ts) (hls : l.stackTraces = false) (hX : va_X b L xs s s.heap) (hbl : b < s.heap.size) (hbA : ¬ A b) (hi : i + 4 < L) (hL : L < 2 ^ 31) (hJ : LJ tc am ad q0 o X A1 yv S Lm Lc) {x1 x2 : Int32} (hx1 : xs (i + 1) = x1) (hx2 : xs (i + 2) = x2)
    (hA1 : A1 = sf X 0 0) (hI : INV K A1) (hm : iMom A1) (h0 : tf A1 0 = 0) (h13 : tf A1 13 ≤ j) (hj : j ≤ 512) (hK : K < 1600000000) (hfr : 16 ≤ R.frames) (hlo : 626 ≤ R.locals) (hro : k + (4 * j + 40) ≤ R.cells) (hrs : n + 27468 ≤ R.slots)
    (kk : ∀ (X' : TS) (yv' : Int64) (S' : HS) (Lm' Lc' : List Nat) (a : Nat), LJ tc am ad q0 o X' X' yv' S' Lm' Lc' → NX K j A1 a X' → V l D tc A p e R s m args below meth c 7 Q S' (k + (4 * j + 40)) (n + (12468 + 15000 * a)) 1179 [some (.ref b), some (.ref q0), some (.ref am), some (.ref o), some (.int (nI i)), none, none] []) : V l D tc A p e R s m args below meth c 7 Q S k n 665 [some (.ref b), some (.ref q0), some (.ref am), some (.ref o), some (.int (nI i)), none, none] [] := by
  have h7 : 700 ≤ K := Nat.le_trans (by decide) hI.k7
  have h73 : 7300 ≤ K := hI.k7
  have e5 := hI.f5
  have f38 := hI.f38
  rcases noIx_cs (x := x1) (n := tf A1 1) (by have := hI.f1; omega) with hx | ⟨b9, hb, rfl⟩
  · exact e_decide_t1 h hls hX hbl hbA hi hL hJ hx1 hx2 (fun S1 ax ay hR => t_decide_b hls hR hx) (r_decide_b hls X _ x1 x2 hA1 (by rw [hx]; rfl)) (by rw [hA1]) (by rw [hA1]; exact AG.s0r) (by decide) hfr hlo (by omega) (by omega) (fun S' Lm' Lc' hJ' => V.widen (by omega) (by omega) (kk _ _ S' Lm' Lc' 0 hJ' (by rw [← hA1]; exact NX.thr hI hm h13 (by decide))))
  rcases noIx_cs (x := x2) (n := tf A1 1) (by have := hI.f1; omega) with hx | ⟨w9, hw, rfl⟩
  · exact e_decide_t1 h hls hX hbl hbA hi hL hJ hx1 hx2 (fun S1 ax ay hR => t_decide_w hls hR hb hx) (r_decide_b hls X _ _ x2 hA1 (by rw [hx, Bool.or_true])) (by rw [hA1]) (by rw [hA1]; exact AG.s0r) (by decide) hfr hlo (by omega) (by omega) (fun S' Lm' Lc' hJ' => V.widen (by omega) (by omega) (kk _ _ S' Lm' Lc' 0 hJ' (by rw [← hA1]; exact NX.thr hI hm h13 (by decide))))
  by_cases h12 : tf A1 38 = 12
  · exact e_decide_t2 h hls hX hbl hbA hi hL hJ hx1 hx2 (fun S1 ax ay hR => t_decide_f hls hR hb hw (by omega)) (r_decide_f hls X _ b9 w9 12 K hA1 hb hw hI.f1.2 h12 hI.nb (by omega) rfl) (by rw [hA1]) (by rw [hA1]; exact AG.s0r) (by decide) hfr hlo (by omega) (by omega) (fun S' Lm' Lc' hJ' => V.widen (by omega) (by omega) (kk _ _ S' Lm' Lc' 0 hJ' (by rw [← hA1]; exact NX.thr hI hm h13 (by decide))))
  have q := decide_ok hI hm rfl (by omega) hb hw
  have bk := hI.2.2.2.2.2.2.2.2.1 b9 hb
  have lg := hI.lg bk.1
  have df := dec_f (A := A1) (e := tf A1 38) (b := b9) (w := w9)
  exact e_decide (v := nI (tf A1 38)) (C := decC A1 (tf A1 38) b9 w9) (X2 := decC A1 (tf A1 38) b9 w9) h hls hX hbl hbA hi hL hJ hx1 hx2 (fun S1 ax ay hq hR => c_decide hls hR hb hw e5 rfl (by omega) bk.1 bk.2 (by omega) hI.2.2.2.2.1.1 hI.2.1.2.1 q.2.2.2.2.2.1 q.2.2.2.2.2.2 h7 hI.nb (by omega) (fun S8 ax8 ay8 hg hR8 => ⟨rfl, ax8, ay8, by rw [hg]; exact hq, hR8⟩)) (r_decide hls X A1 b9 w9 (tf A1 38) K hA1 hb hw hI.f1.2 rfl hI.nb (by omega) (by omega) (by omega) (by omega) (hI.w44 hw).1 q.2.2.2.2.1 h73) (df.1.trans h0) q.1 AG.rfl (by decide) (by decide) hfr hlo (by omega) (by omega) (fun S' Lm' Lc' hJ' => V.widen (by omega) (by omega) (kk _ _ S' Lm' Lc' 1 hJ' ⟨q.2.1.mono (by omega), q.2.2.1, by omega, (q.1.1 38 (by decide) (by decide)).symm.trans df.2⟩))

end
