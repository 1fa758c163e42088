/-! ===== the law: the step that delivers a letter ===== -/
set_option maxRecDepth 100000
section
variable {K n k9 : Nat} {A A1 B C X : TS}
theorem AG.trans (h : AG A B) (g : AG B C) : AG A C := by
  obtain ⟨a0, a1, a2, a3, a4, a5, a6, a7⟩ := h
  obtain ⟨b0, b1, b2, b3, b4, b5, b6, b7⟩ := g
  have f38 : tf B 38 = tf C 38 := b0 38 (by decide)
  have f1 : tf B 1 = tf C 1 := b0 1 (by decide)
  have f13 : tf B 13 = tf C 13 := b0 13 (by decide)
  have f53 : tf B 53 = tf C 53 := b0 53 (by decide)
  refine ⟨fun j hj => (a0 j hj).trans (b0 j hj), fun e he => ?_, fun i hi => ?_, fun i hi => ?_, fun i hi => ?_, fun e k he hk h6 => ?_, fun i hi => ?_, fun e k he hk h6 => ?_⟩
  · obtain ⟨p1, p2, p3, p4, p5, p6, p7, p8, p9⟩ := a1 e (by omega)
    obtain ⟨q1, q2, q3, q4, q5, q6, q7, q8, q9⟩ := b1 e he
    exact ⟨p1.trans q1, p2.trans q2, p3.trans q3, p4.trans q4, p5.trans q5, p6.trans q6, p7.trans q7, fun k hk => (p8 k (by omega)).trans (q8 k hk), fun k hk => (p9 k hk).trans (q9 k hk)⟩
  · obtain ⟨p1, p2, p3, p4, p5⟩ := a2 i (by omega)
    obtain ⟨q1, q2, q3, q4, q5⟩ := b2 i hi
    exact ⟨p1.trans q1, p2.trans q2, p3.trans q3, p4.trans q4, fun k hk => (p5 k hk).trans (q5 k hk)⟩
  · obtain ⟨p1, p2, p3, p4, p5, p6⟩ := a3 i hi
    obtain ⟨q1, q2, q3, q4, q5, q6⟩ := b3 i hi
    exact ⟨p1.trans q1, p2.trans q2, p3.trans q3, p4.trans q4, p5.trans q5, p6.trans q6⟩
  · obtain ⟨p1, p2, p3, p4, p5, p6, p7, p8⟩ := a4 i (by omega)
    obtain ⟨q1, q2, q3, q4, q5, q6, q7, q8⟩ := b4 i hi
    exact ⟨p1.trans q1, p2.trans q2, p3.trans q3, p4.trans q4, p5.trans q5, p6.trans q6, p7.trans q7, p8.trans q8⟩
  · obtain ⟨p1, p2, p3, p4⟩ := a5 e k (by omega) (by rw [(b1 e he).1]; exact hk) h6
    obtain ⟨q1, q2, q3, q4⟩ := b5 e k he hk h6
    exact ⟨p1.trans q1, p2.trans q2, p3.trans q3, p4.trans q4⟩
  · obtain ⟨p1, p2, p3⟩ := a6 i (by omega)
    obtain ⟨q1, q2, q3⟩ := b6 i hi
    exact ⟨fun j u v => (p1 j u v).trans (q1 j u v), p2.trans q2, p3.trans q3⟩
  · obtain ⟨p1, p2, p3, p4, p5⟩ := a7 e k (by omega) (by rw [(b1 e he).2.1]; exact hk) h6
    obtain ⟨q1, q2, q3, q4, q5⟩ := b7 e k he hk h6
    exact ⟨p1.trans q1, p2.trans q2, p3.trans q3, p4.trans q4, p5.trans q5⟩
theorem d11.tkL (h : d11 n X B) (k : Nat) : ∀ j, d11 n (tkL X k j) (tkL B k j)
  | 0 => by
    unfold _root_.Jvm.Pilot.COneTripLaw_law_r7449_bb9836.tkL
    rw [h.1 53]
    exact h.sf _ _
  | j + 1 => by
    have ih := d11.tkL h k j
    unfold _root_.Jvm.Pilot.COneTripLaw_law_r7449_bb9836.tkL tkS
    generalize _root_.Jvm.Pilot.COneTripLaw_law_r7449_bb9836.tkL X k j = Y at *
    generalize _root_.Jvm.Pilot.COneTripLaw_law_r7449_bb9836.tkL B k j = Z at *
    rw [ih.2.1 45 _ (by omega), ih.2.1 46 _ (by omega), ih.2.1 47 _ (by omega), ih.2.1 48 _ (by omega), ih.2.1 49 _ (by omega), ih.2.1 50 _ (by omega), ih.2.2.1 51, ih.2.2.2 52]
    exact ((((((((ih.sn _ _ _).sn _ _ _).sn _ _ _).sn _ _ _).sn _ _ _).sn _ _ _).sr _ _ _).sb _ _ _)
theorem d11.tk (h : d11 n X B) (k : Nat) : d11 n (tkF X k) (tkF B k) := by
  unfold tkF
  rw [h.1 53]
  exact h.tkL _ _
theorem tkR (k : Nat) : (∀ j, j ≠ 53 → tf (tkF A k) j = tf A j) ∧ (∀ j i, j < 45 → tn (tkF A k) j i = tn A j i) ∧ (∀ j i, j < 45 → tb (tkF A k) j i = tb A j i) := ⟨fun j hj => tkF_df.1 j (by simpa using hj), fun j i hj => tkF_df.2.1 j hj (by simp) i, fun j i hj => tkF_df.2.2.2 j hj (by simp) i⟩
/-- the reference's side -/
theorem dl_ref {l : Launch} {D : va_G} {tc : Nat → ClassId} {am : Nat} {ad : Nat → Nat} (hls : l.stackTraces = false) (hA1 : A1 = sf X 0 0) (hI : INV K A1) (hK : K < 1600000000) (h13 : tf A1 13 ≤ 512) (hk : k9 < tf A1 53) : RM l D tc am ad yX11_deliver cX11_deliver 10 (some .int) 4 [.ref am, .int (nI k9)] X (some (.int (nI (tf (dlvS A1 k9 (tn A1 45 k9)) 53)))) (dlvS A1 k9 (tn A1 45 k9)) := by
  have h73 : 7300 ≤ K := hI.k7
  have hl := hI.2.2.2.2.2.2.2.2.2.1 k9 hk
  obtain ⟨l1, l2, l3, l4, l5, l6, l7, l8, l9⟩ := hl
  have hT := hI.take hk
  obtain ⟨fT, nT, bT⟩ := tkR (A := A1) k9
  have f1 := hI.f1
  have f38 := hI.f38
  have t13 : tf (tkF A1 k9) 13 = tf A1 13 := fT 13 (by decide)
  have t38 : tf (tkF A1 k9) 38 = tf A1 38 := fT 38 (by decide)
  have t1 : tf (tkF A1 k9) 1 = tf A1 1 := fT 1 (by decide)
  have lg := hT.lg (e := tn A1 46 k9) (by omega)
  have g37 := hT.g37 (e := tn A1 46 k9) (by omega)
  have b46 := hI.nb.2 46 k9
  have b49 := hI.nb.2 49 k9
  have b50 := hI.nb.2 50 k9
  have p1 : 2 ^ tf (tkF A1 k9) 1 ≤ 2 ^ 3 := Nat.pow_le_pow_right (by decide) (by omega)
  refine r_deliver hls X A1 k9 _ K hA1 hk hI.f53 hI.nb (by omega) rfl l1 (by omega) (fun z => ?_) (fun z _ => ?_) (fun z _ => ?_) (fun z _ => ?_) (fun z => ?_) (fun z => ?_) (fun z => ?_) (fun z => ?_) (fun z => ?_)
  · have := l3 z; omega
  · have := l3 (by omega)
    exact r_reads hls _ _ _ K (by omega) (by omega) lg.2.1 (by omega) (by omega) lg.2.2.2.2 (by omega) hT.1.2.2.2.2.2.2.2.2.2.2.2.2 hT.f53 h73 hT.nb (by omega)
  · have := l3 (by omega)
    exact r_readsSyncNow hls _ _ _ K (by omega) (by omega) (by omega) (by omega) (by omega) hT.f53 h73 hT.nb (by omega)
  · have hto := l8 (by omega)
    have hn := l9 (Or.inr z)
    have hn2 : tn A1 49 k9 ≤ tn (tkF A1 k9) 26 (tn A1 46 k9) := by rw [nT 26 _ (by decide)]; exact hn
    have ak := (hT.ack1 (e := tn A1 46 k9) (b := tn A1 47 k9) (n := tn A1 49 k9) (c := tn A1 50 k9) (by omega) (by omega) hn2).2.1
    have gt := hT.2.2.2.2.2.2.1
    have gte := gt.2.2 (tn A1 46 k9) (by omega)
    have hB : raB (tkF A1 k9) (tn A1 46 k9) (tn A1 47 k9) (tn A1 49 k9) (tn A1 50 k9) = rakB (tkF A1 k9) (tn A1 46 k9) (tn A1 47 k9) (tn A1 49 k9) (tn A1 50 k9) := by
      unfold raB rakB
      rw [kaA_is]
    have r1 := (rakB_row (A := tkF A1 k9) (e := tn A1 46 k9) (b := tn A1 47 k9) (n := tn A1 49 k9) (c := tn A1 50 k9)).1 1
    exact r_readsAck hls _ _ _ _ _ K (by omega) (by omega) (by omega) b50 (by omega) (by omega) lg.2.1 (by rw [hB, r1]; exact ak) (by omega) (by omega) hT.2.2.2.2.1.1 gt.1 (fun i => Nat.lt_of_lt_of_le (gt.2.1 i) p1) (fun k hk => ⟨by have := (gte.1 k hk).1; omega, (gte.1 k hk).2.1⟩) lg.2.2.2.2 hT.f53 h73 hT.nb (by omega)
  · have hto := l8 (by omega)
    have hn := l9 (Or.inl z)
    exact r_readsSync hls _ _ _ _ _ K (by omega) b46 b49 b50 hT.f53 h73 hT.nb (by omega)
  · have hto := l5 z
    have hop := l3 (by omega)
    have w44 := hT.w44 (w := tn A1 47 k9) (by omega)
    have f2 := hT.1.2.2.2.2.2.2.2.2
    exact r_readsRecord hls _ _ _ _ K (by omega) w44.1 w44.2 (by omega) (by omega) b46 f2.1 f2.2.1 (wit_fit hT.1 (hT.wi (by omega))) hT.f53 h73 hT.nb (by omega)
  · have hto := l8 (by omega)
    have w44 := hT.w44 (w := tn A1 47 k9) (by omega)
    exact r_readsGc hls _ _ _ _ K (by omega) w44.1 w44.2 (by omega) (by omega) b49 h73 hT.nb (by omega)
  · have hto := l8 (by omega)
    exact r_readsReset hls _ _ _ K (by omega) b46 hT.nb (by omega)
  · have hop := l3 (by omega)
    have hw := l7 (by omega) (by omega)
    have c4 := hT.2.1.2.2.1 (tn A1 48 k9 - 1) (by omega)
    exact r_readsClient hls _ _ _ _ _ _ _ K (by omega) b46 (by omega) c4 (by omega) (hT.c16 c4) (by omega) (fun c => Nat.lt_of_lt_of_le (hT.2.2.2.1 c) p1) hT.f53 h73 hT.nb (by omega)
end
section
theorem rcF_0 {A : TS} {so e op w : Nat} {v : Int32} {b : Bool} : tf (rcF A so e op w v b) 0 = tf A 0 := by
  have hend : ∀ (G : TS) (c : Nat) (x : Int32), tf (endF G c x) 0 = tf G 0 := fun G c x => by
    unfold endF
    rw [tf_sf, if_neg (by decide), tf_sr, tf_sn, tf_sf, if_neg (by decide)]
  have hrc : ∀ (B G : TS) (c : Nat), tf (rcC B c op G) 0 = tf G 0 := fun B G c => by
    unfold rcC
    (repeat' split) <;> first | rfl | (rw [tf_sn]; exact hend _ _ _) | exact hend _ _ _
  unfold rcF
  split
  · rfl
  · split
    · exact (send_keep ..).1 0 (by decide) (by decide)
    · split
      · exact hrc _ _ _
      · split
        · exact hend _ _ _
        · exact hrc _ _ _
end
section
variable {l : Launch} {D : va_G} {tc : Nat → ClassId} {A : Nat → Prop} {p : Program} {e : Env} {R : Room} {s : State} {m : MethodId} {args : Array Value} {below : List Frame} {meth : Method} {c : Code} {Q : State → Prop} {S : HS} {k n : Nat} {Ts : List Cond} {am q0 o b L i kx dC dR mc ms : Nat} {ad : Nat → Nat} {xs : Nat → Int32} {X A1 : TS} {yv yv' : Int64} {Lm Lc : List Nat}
variable {K j : Nat}
variable {F C X2 Y : TS} {k9 d : Nat}
set_option maxHeartbeats 1000000 in
theorem dl_fin (h : CX l D tc A p s m args meth c code 7 RL Ts) (hls : l.stackTraces = false) (hX : va_X b L xs s s.heap) (hbl : b < s.heap.size) (hbA : ¬ A b) (hi : i + 4 < L) (hL : L < 2 ^ 31) (hJ : LJ tc am ad q0 o X A1 yv S Lm Lc) (hx1 : xs (i + 1) = nI k9)
    (hk : k9 < tf A1 53) (hY : LJ tc am ad q0 o X Y yv S Lm Lc) (hF : dlvS A1 k9 (tn A1 45 k9) = F) (hE : EQ F X2) (hA : AG X2 C) (hM : ∀ (S1 : HS) (ax ay : Nat → Nat → Nat), ax 10 0 = q0 → RA tc (mx ax ay) Y S1 → CM l D tc yX10_deliver cX10_deliver 3 (some .int) d mc ms [.ref (ax 10 0), .int (nI k9)] S1 (fun v' S2 => v' = some (.int (nI (tf C 53))) ∧ ∃ ax' ay', ax' 10 0 = q0 ∧ RA tc (mx ax' ay') C S2)) (hz : tf F 0 = 0) (hN : NX K j A1 0 X2) (hd : d ≤ 12) (hmc : mc ≤ 4 * j + 40) (hms : ms ≤ 12468)
    (hA1 : A1 = sf X 0 0) (hI : INV K A1) (hm : iMom A1) (h0 : tf A1 0 = 0) (h13 : tf A1 13 ≤ j) (hj : j ≤ 512) (hK : K < 1600000000) (hfr : 16 ≤ R.frames) (hlo : 626 ≤ R.locals) (hro : k + (4 * j + 40) ≤ R.cells) (hrs : n + 27468 ≤ R.slots)
    (kk : ∀ (X' : TS) (yv' : Int64) (S' : HS) (Lm' Lc' : List Nat) (a : Nat), LJ tc am ad q0 o X' X' yv' S' Lm' Lc' → NX K j A1 a X' → V l D tc A p e R s m args below meth c 7 Q S' (k + (4 * j + 40)) (n + (12468 + 15000 * a)) 1179 [some (.ref b), some (.ref q0), some (.ref am), some (.ref o), some (.int (nI i)), none, none] []) : V l D tc A p e R s m args below meth c 7 Q S k n 371 [some (.ref b), some (.ref q0), some (.ref am), some (.ref o), some (.int (nI i)), none, none] [] := by
  have h7 : 700 ≤ K := Nat.le_trans (by decide) hI.k7
  have h73 : 7300 ≤ K := hI.k7
  have e53 : tf C 53 = tf F 53 := (hA.1 53 (by decide)).symm.trans (hE.1 53 (by decide) (by decide)).symm
  have hRl := dl_ref (l := l) (D := D) (tc := tc) (am := am) (ad := ad) hls hA1 hI hK (by omega) hk
  rw [hF] at hRl
  rw [e53] at hM
  exact e_deliver (v := nI (tf F 53)) h hls hX hbl hbA hi hL hY hx1 hM hRl hz hE hA hd (by decide) hfr hlo (by omega) (by omega) (fun S' Lm' Lc' hJ' => V.widen (by omega) (by omega) (kk _ _ S' Lm' Lc' 0 hJ' hN))
set_option maxHeartbeats 1000000 in
theorem st_deliver (h : CX l D tc A p s m args meth c code 7 RL Ts) (hls : l.stackTraces = false) (hX : va_X b L xs s s.heap) (hbl : b < s.heap.size) (hbA : ¬ A b) (hi : i + 4 < L) (hL : L < 2 ^ 31) (hJ : LJ tc am ad q0 o X A1 yv S Lm Lc) {x1 : Int32} (hx1 : xs (i + 1) = x1)
    (hA1 : A1 = sf X 0 0) (hI : INV K A1) (hm : iMom A1) (h0 : tf A1 0 = 0) (h13 : tf A1 13 ≤ j) (hj : j ≤ 512) (hK : K < 1600000000) (hfr : 16 ≤ R.frames) (hlo : 626 ≤ R.locals) (hro : k + (4 * j + 40) ≤ R.cells) (hrs : n + 27468 ≤ R.slots)
    (kk : ∀ (X' : TS) (yv' : Int64) (S' : HS) (Lm' Lc' : List Nat) (a : Nat), LJ tc am ad q0 o X' X' yv' S' Lm' Lc' → NX K j A1 a X' → V l D tc A p e R s m args below meth c 7 Q S' (k + (4 * j + 40)) (n + (12468 + 15000 * a)) 1179 [some (.ref b), some (.ref q0), some (.ref am), some (.ref o), some (.int (nI i)), none, none] []) : V l D tc A p e R s m args below meth c 7 Q S k n 371 [some (.ref b), some (.ref q0), some (.ref am), some (.ref o), some (.int (nI i)), none, none] [] := by
  have h7 : 700 ≤ K := Nat.le_trans (by decide) hI.k7
  have h73 : 7300 ≤ K := hI.k7
  rcases noIx_cs (x := x1) (n := tf A1 53) (by have := hI.f53; omega) with hx | ⟨k9, hk, rfl⟩
  · exact e_deliver_t1 h hls hX hbl hbA hi hL hJ hx1 (fun S1 ax ay hR => t_deliver_b hls hR hx) (r_deliver_b hls X _ x1 hA1 hx) (by rw [hA1]) (by rw [hA1]; exact AG.s0r) (by decide) hfr hlo (by omega) (by omega) (fun S' Lm' Lc' hJ' => V.widen (by omega) (by omega) (kk _ _ S' Lm' Lc' 0 hJ' (by rw [← hA1]; exact NX.thr hI hm h13 (by decide))))
  have e5 := hI.f5
  have hl := hI.2.2.2.2.2.2.2.2.2.1 k9 hk
  obtain ⟨l1, l2, l3, l4, l5, l6, l7, l8, l9⟩ := hl
  have hT := hI.take hk
  have hmT : iMom (tkF A1 k9) := hm.df tkF_df (by decide) (by decide) (by decide)
  have kT : kq A1 (tkF A1 k9) := kq.take
  obtain ⟨fT, nT, bT⟩ := tkR (A := A1) k9
  have f1 := hI.f1
  have f38 := hI.f38
  have t13 : tf (tkF A1 k9) 13 = tf A1 13 := fT 13 (by decide)
  have t38 : tf (tkF A1 k9) 38 = tf A1 38 := fT 38 (by decide)
  have t5 : tf (tkF A1 k9) 5 = tf A1 5 := fT 5 (by decide)
  have t1 : tf (tkF A1 k9) 1 = tf A1 1 := fT 1 (by decide)
  have h0T : tf (tkF A1 k9) 0 = 0 := kT.z h0
  have lg := hT.lg (e := tn A1 46 k9) (by omega)
  have g37 := hT.g37 (e := tn A1 46 k9) (by omega)
  have b46 := hI.nb.2 46 k9
  have b49 := hI.nb.2 49 k9
  have b50 := hI.nb.2 50 k9
  have nx0 : NX K j A1 0 (tkF A1 k9) := NX.kq kT EQ.rfl hT (by omega) hm h13
  have hs : tn A1 45 k9 = 0 ∨ tn A1 45 k9 = 1 ∨ tn A1 45 k9 = 2 ∨ tn A1 45 k9 = 3 ∨ tn A1 45 k9 = 4 ∨ tn A1 45 k9 = 5 ∨ tn A1 45 k9 = 6 ∨ tn A1 45 k9 = 7 ∨ tn A1 45 k9 = 8 ∨ tn A1 45 k9 = 9 := by omega
  rcases hs with hs | hs | hs | hs | hs | hs | hs | hs | hs | hs
  · have hop := l3 (by omega)
    cases ho : tb (tkF A1 k9) 30 (tn A1 46 k9) with
    | false =>
      exact dl_fin (F := tkF A1 k9) (X2 := tkF A1 k9) (C := tkF A1 k9) h hls hX hbl hbA hi hL hJ hx1 hk hJ (by rw [hs]; exact if_neg (by rw [ho]; decide)) EQ.rfl AG.rfl (fun S1 ax ay hq hR => c_deliver0 hls hR rfl hk hs rfl (show tn A1 48 k9 = (tn A1 48 k9 - 1) + 1 by omega) (by omega) (by omega) (hT.2.1.2.1 _) lg.1 lg.2.1 (by omega) hT.nb (by omega) h7 ⟨fun _ S8 ay8 hR8 => ⟨rfl, ax, ay8, hq, hR8⟩, fun z => absurd z (by rw [ho]; decide)⟩) (h0T) nx0 (by decide) (by omega) (by omega) hA1 hI hm h0 h13 hj hK hfr hlo hro hrs kk
    | true =>
      have q := exec_ok (e := tn A1 46 k9) (op := tn A1 48 k9 - 1) hT (by omega) (by omega) (by omega)
      exact dl_fin (F := exeF (tkF A1 k9) (tn A1 46 k9) (tn A1 48 k9 - 1)) (X2 := rexC (tkF A1 k9) (tn A1 46 k9) (tn A1 48 k9 - 1)) (C := rexC (tkF A1 k9) (tn A1 46 k9) (tn A1 48 k9 - 1)) h hls hX hbl hbA hi hL hJ hx1 hk hJ (by rw [hs]; exact if_pos ho) q.1 AG.rfl (fun S1 ax ay hq hR => c_deliver0 hls hR rfl hk hs rfl (show tn A1 48 k9 = (tn A1 48 k9 - 1) + 1 by omega) (by omega) (by omega) (hT.2.1.2.1 _) lg.1 lg.2.1 (by omega) hT.nb (by omega) h7 ⟨fun z => absurd z (by rw [ho]; decide), fun _ S8 ax8 ay8 hg hR8 => ⟨rfl, ax8, ay8, by rw [hg 10 (by decide)]; exact hq, hR8⟩⟩) ((q.1.1 0 (by decide) (by decide)).trans (kq.exe.z h0T)) (NX.kq (kT.trans kq.exe) EQ.rfl q.2 (by omega) hm h13) (by decide) (by omega) (by omega) hA1 hI hm h0 h13 hj hK hfr hlo hro hrs kk
  · have hop := l3 (by omega)
    have hto := l5 hs
    obtain ⟨X3, q1, q2, q3, q4, q5⟩ := rec_ok (w := tn A1 47 k9) (e := tn A1 46 k9) (op := tn A1 48 k9 - 1) hT hmT (by omega) (by omega) (by omega) (by rw [nT 7 _ (by decide)]; exact hto.2)
    exact dl_fin (F := recF (tkF A1 k9) (tn A1 47 k9) (tn A1 46 k9) (tn A1 48 k9 - 1)) (X2 := X3) (C := wrcC (tkF A1 k9) (tn A1 47 k9) (tn A1 46 k9) (tn A1 48 k9 - 1)) h hls hX hbl hbA hi hL hJ hx1 hk hJ (by rw [hs]; rfl) q1 q2 (fun S1 ax ay hq hR => c_deliver1 hls hR rfl hk hs rfl rfl (show tn A1 48 k9 = (tn A1 48 k9 - 1) + 1 by omega) (by omega) (by omega) b46 hT.nb (by omega) h7 (fun S8 ay8 hR8 => ⟨rfl, ax, ay8, hq, hR8⟩)) (kq.rec.z h0T) (NX.kq (kT.trans kq.rec) q1 q3 (by omega) hm h13) (by decide) (by omega) (by omega) hA1 hI hm h0 h13 hj hK hfr hlo hro hrs kk
  · have hop := l3 (by omega)
    have hto := l6 (by omega) (by omega)
    have hw := l7 (by omega) (by omega)
    have c4 := hT.2.1.2.2.1 (tn A1 48 k9 - 1) (by omega)
    have hto2 : tn A1 47 k9 = tn (tkF A1 k9) 5 (tn A1 48 k9 - 1) := by rw [nT 5 _ (by decide)]; exact hto
    have hD : ∀ i, tn (tkF (pch A1) k9) 11 i ≠ 1 := fun i => by rw [(tkR (A := pch A1) k9).2.1 11 i (by decide)]; exact pch_D hI i
    have hpT := (hI.take hk)
    have dT : d11 (tf A1 13) (tkF (pch A1) k9) (tkF A1 k9) := d11_pch.tk k9
    have hJp := hJ.two (d11_pch.AG (Nat.le_refl _))
    have hNB : NB K (tkF (pch A1) k9) := by
      refine ⟨fun j => by rw [dT.1 j]; exact hT.nb.1 j, fun j i => ?_⟩
      by_cases z : j = 11
      · rw [z, (tkR (A := pch A1) k9).2.1 11 i (by decide)]
        exact (pch_NB hI.nb).2 11 i
      · rw [dT.2.1 j i (by omega)]
        exact hT.nb.2 j i
    have P : ∀ j, j ≠ 11 → tn (pch A1) j k9 = tn A1 j k9 := fun j hj => pch_n hj
    have h18 : tn (tkF (pch A1) k9) 18 (tn A1 47 k9) < 2 ^ tf (tkF (pch A1) k9) 1 := by rw [dT.2.1 18 _ (by omega), dT.1 1]; exact hT.2.2.2.1 _
    have t13p : tf (tkF (pch A1) k9) 13 = tf A1 13 := (dT.1 13).trans t13
    have t1p : tf (tkF (pch A1) k9) 1 = tf A1 1 := (dT.1 1).trans t1
    obtain ⟨X3, q1, q2, q3, q4, q5⟩ := client2_ok (op := tn A1 48 k9 - 1) (e := tn A1 46 k9) (w := tn A1 50 k9) (w' := 0) (v := tr A1 51 k9) (b := tb A1 52 k9) hT hmT (by omega)
    have q13 := (q2.1 13 (by decide)).symm.trans q5
    have q13' : tf (rclC (tkF A1 k9) 2 (tn A1 46 k9) (tn A1 47 k9) (tn A1 48 k9 - 1) 0 (tr A1 51 k9) (tb A1 52 k9)) 13 = tf (tkF A1 k9) 13 := by rw [hto2]; exact q13
    have ag : AG (rclC (tkF A1 k9) 2 (tn A1 46 k9) (tn A1 47 k9) (tn A1 48 k9 - 1) 0 (tr A1 51 k9) (tb A1 52 k9)) (rclC (tkF (pch A1) k9) 2 (tn A1 46 k9) (tn A1 47 k9) (tn A1 48 k9 - 1) 0 (tr A1 51 k9) (tb A1 52 k9)) := (dT.rcl _ _ _ _ _ _ _ (by omega)).symm.AG (Nat.le_of_eq (((dT.rcl _ _ _ _ _ _ _ (by omega)).1 13).trans (q13'.trans t13)))
    rw [← hto2] at q2
    have q38 : tf X3 38 = tf A1 38 := (q2.1 38 (by decide)).trans ((cl_f (Or.inr rfl)).trans t38)
    exact dl_fin (F := rcF (tkF A1 k9) 2 (tn A1 46 k9) (tn A1 48 k9 - 1) (tn A1 50 k9) (tr A1 51 k9) (tb A1 52 k9)) (X2 := X3) (C := rclC (tkF (pch A1) k9) 2 (tn A1 46 k9) (tn A1 47 k9) (tn A1 48 k9 - 1) 0 (tr A1 51 k9) (tb A1 52 k9)) h hls hX hbl hbA hi hL hJ hx1 hk hJp (by rw [hs]; rfl) q1 (q2.trans ag) (fun S1 ax ay hq hR => c_deliver2 hls hR rfl hk (by rw [P 45 (by decide)]; exact hs) (P 46 (by decide)) (P 47 (by decide)) (show tn (pch A1) 48 k9 = (tn A1 48 k9 - 1) + 1 by rw [P 48 (by decide)]; omega) rfl rfl (by omega) (by omega) hD h18 b46 hNB (by omega) h7 (fun S8 ay8 hR8 => ⟨rfl, ax, ay8, hq, hR8⟩)) (by have hc0 : ∀ G : TS, tf (rcF G 2 (tn A1 46 k9) (tn A1 48 k9 - 1) (tn A1 50 k9) (tr A1 51 k9) (tb A1 52 k9)) 0 = tf G 0 := fun G => rcF_0; exact (hc0 _).trans h0T) (NX.of q3 (by omega) q4 (by omega) q38) (by decide) (by omega) (by omega) hA1 hI hm h0 h13 hj hK hfr hlo hro hrs kk
  · have hop := l3 (by omega)
    have hto := l6 (by omega) (by omega)
    have hw := l7 (by omega) (by omega)
    have c4 := hT.2.1.2.2.1 (tn A1 48 k9 - 1) (by omega)
    have hto2 : tn A1 47 k9 = tn (tkF A1 k9) 5 (tn A1 48 k9 - 1) := by rw [nT 5 _ (by decide)]; exact hto
    have hD : ∀ i, tn (tkF (pch A1) k9) 11 i ≠ 1 := fun i => by rw [(tkR (A := pch A1) k9).2.1 11 i (by decide)]; exact pch_D hI i
    have hpT := (hI.take hk)
    have dT : d11 (tf A1 13) (tkF (pch A1) k9) (tkF A1 k9) := d11_pch.tk k9
    have hJp := hJ.two (d11_pch.AG (Nat.le_refl _))
    have hNB : NB K (tkF (pch A1) k9) := by
      refine ⟨fun j => by rw [dT.1 j]; exact hT.nb.1 j, fun j i => ?_⟩
      by_cases z : j = 11
      · rw [z, (tkR (A := pch A1) k9).2.1 11 i (by decide)]
        exact (pch_NB hI.nb).2 11 i
      · rw [dT.2.1 j i (by omega)]
        exact hT.nb.2 j i
    have P : ∀ j, j ≠ 11 → tn (pch A1) j k9 = tn A1 j k9 := fun j hj => pch_n hj
    have h18 : tn (tkF (pch A1) k9) 18 (tn A1 47 k9) < 2 ^ tf (tkF (pch A1) k9) 1 := by rw [dT.2.1 18 _ (by omega), dT.1 1]; exact hT.2.2.2.1 _
    have t13p : tf (tkF (pch A1) k9) 13 = tf A1 13 := (dT.1 13).trans t13
    have t1p : tf (tkF (pch A1) k9) 1 = tf A1 1 := (dT.1 1).trans t1
    have q := client3_ok (op := tn A1 48 k9 - 1) (e := tn A1 46 k9) (w := tn A1 50 k9) (v := tr A1 51 k9) (v' := nI 0) (b := tb A1 52 k9) (b' := tb A1 52 k9) hT hmT (by omega) (by omega)
    have q13 := q.2.2.2
    have q13' : tf (rclC (tkF A1 k9) 3 (tn A1 46 k9) (tn A1 47 k9) (tn A1 48 k9 - 1) (tn A1 50 k9) (nI 0) (tb A1 52 k9)) 13 = tf (tkF A1 k9) 13 := by rw [hto2]; exact q13
    have ag : AG (rclC (tkF A1 k9) 3 (tn A1 46 k9) (tn A1 47 k9) (tn A1 48 k9 - 1) (tn A1 50 k9) (nI 0) (tb A1 52 k9)) (rclC (tkF (pch A1) k9) 3 (tn A1 46 k9) (tn A1 47 k9) (tn A1 48 k9 - 1) (tn A1 50 k9) (nI 0) (tb A1 52 k9)) := (dT.rcl _ _ _ _ _ _ _ (by omega)).symm.AG (Nat.le_of_eq (((dT.rcl _ _ _ _ _ _ _ (by omega)).1 13).trans (q13'.trans t13)))
    rw [← hto2] at q
    exact dl_fin (F := rcF (tkF A1 k9) 3 (tn A1 46 k9) (tn A1 48 k9 - 1) (tn A1 50 k9) (tr A1 51 k9) (tb A1 52 k9)) (X2 := rclC (tkF A1 k9) 3 (tn A1 46 k9) (tn A1 47 k9) (tn A1 48 k9 - 1) (tn A1 50 k9) (nI 0) (tb A1 52 k9)) (C := rclC (tkF (pch A1) k9) 3 (tn A1 46 k9) (tn A1 47 k9) (tn A1 48 k9 - 1) (tn A1 50 k9) (nI 0) (tb A1 52 k9)) h hls hX hbl hbA hi hL hJ hx1 hk hJp (by rw [hs]; rfl) q.1 ag (fun S1 ax ay hq hR => c_deliver3 hls hR rfl hk (by rw [P 45 (by decide)]; exact hs) (P 46 (by decide)) (P 47 (by decide)) (show tn (pch A1) 48 k9 = (tn A1 48 k9 - 1) + 1 by rw [P 48 (by decide)]; omega) (P 50 (by decide)) (by omega) (by omega) hD (by omega) h18 b46 hNB (by omega) h7 (fun S8 ay8 hR8 => ⟨rfl, ax, ay8, hq, hR8⟩)) ((q.1.1 0 (by decide) (by decide)).trans ((cl_f (Or.inl rfl)).trans h0T)) (NX.of q.2.1 (by omega) q.2.2.1 (by omega) ((cl_f (Or.inr rfl)).trans t38)) (by decide) (by omega) (by omega) hA1 hI hm h0 h13 hj hK hfr hlo hro hrs kk
  · have hop := l3 (by omega)
    have hto := l6 (by omega) (by omega)
    have hw := l7 (by omega) (by omega)
    have c4 := hT.2.1.2.2.1 (tn A1 48 k9 - 1) (by omega)
    have hto2 : tn A1 47 k9 = tn (tkF A1 k9) 5 (tn A1 48 k9 - 1) := by rw [nT 5 _ (by decide)]; exact hto
    have hD : ∀ i, tn (tkF (pch A1) k9) 11 i ≠ 1 := fun i => by rw [(tkR (A := pch A1) k9).2.1 11 i (by decide)]; exact pch_D hI i
    have hpT := (hI.take hk)
    have dT : d11 (tf A1 13) (tkF (pch A1) k9) (tkF A1 k9) := d11_pch.tk k9
    have hJp := hJ.two (d11_pch.AG (Nat.le_refl _))
    have hNB : NB K (tkF (pch A1) k9) := by
      refine ⟨fun j => by rw [dT.1 j]; exact hT.nb.1 j, fun j i => ?_⟩
      by_cases z : j = 11
      · rw [z, (tkR (A := pch A1) k9).2.1 11 i (by decide)]
        exact (pch_NB hI.nb).2 11 i
      · rw [dT.2.1 j i (by omega)]
        exact hT.nb.2 j i
    have P : ∀ j, j ≠ 11 → tn (pch A1) j k9 = tn A1 j k9 := fun j hj => pch_n hj
    have h18 : tn (tkF (pch A1) k9) 18 (tn A1 47 k9) < 2 ^ tf (tkF (pch A1) k9) 1 := by rw [dT.2.1 18 _ (by omega), dT.1 1]; exact hT.2.2.2.1 _
    have t13p : tf (tkF (pch A1) k9) 13 = tf A1 13 := (dT.1 13).trans t13
    have t1p : tf (tkF (pch A1) k9) 1 = tf A1 1 := (dT.1 1).trans t1
    have q := client4_ok (op := tn A1 48 k9 - 1) (e := tn A1 46 k9) (w := tn A1 50 k9) (w' := 0) (v := tr A1 51 k9) (v' := nI (tn A1 50 k9)) (b := tb A1 52 k9) (b' := tb A1 52 k9) hT hmT (by omega) (by omega)
    have q13 := q.2.2.2
    have q13' : tf (rclC (tkF A1 k9) 4 (tn A1 46 k9) (tn A1 47 k9) (tn A1 48 k9 - 1) 0 (nI (tn A1 50 k9)) (tb A1 52 k9)) 13 = tf (tkF A1 k9) 13 := by rw [hto2]; exact q13
    have ag : AG (rclC (tkF A1 k9) 4 (tn A1 46 k9) (tn A1 47 k9) (tn A1 48 k9 - 1) 0 (nI (tn A1 50 k9)) (tb A1 52 k9)) (rclC (tkF (pch A1) k9) 4 (tn A1 46 k9) (tn A1 47 k9) (tn A1 48 k9 - 1) 0 (nI (tn A1 50 k9)) (tb A1 52 k9)) := (dT.rcl _ _ _ _ _ _ _ (by omega)).symm.AG (Nat.le_of_eq (((dT.rcl _ _ _ _ _ _ _ (by omega)).1 13).trans (q13'.trans t13)))
    rw [← hto2] at q
    exact dl_fin (F := rcF (tkF A1 k9) 4 (tn A1 46 k9) (tn A1 48 k9 - 1) (tn A1 50 k9) (tr A1 51 k9) (tb A1 52 k9)) (X2 := rclC (tkF A1 k9) 4 (tn A1 46 k9) (tn A1 47 k9) (tn A1 48 k9 - 1) 0 (nI (tn A1 50 k9)) (tb A1 52 k9)) (C := rclC (tkF (pch A1) k9) 4 (tn A1 46 k9) (tn A1 47 k9) (tn A1 48 k9 - 1) 0 (nI (tn A1 50 k9)) (tb A1 52 k9)) h hls hX hbl hbA hi hL hJ hx1 hk hJp (by rw [hs]; rfl) (EQ.of q.1) ag (fun S1 ax ay hq hR => c_deliver4 hls hR rfl hk (by rw [P 45 (by decide)]; exact hs) (P 46 (by decide)) (P 47 (by decide)) (show tn (pch A1) 48 k9 = (tn A1 48 k9 - 1) + 1 by rw [P 48 (by decide)]; omega) (by omega) (by omega) hD b46 hNB (by omega) h7 (fun S8 ay8 hR8 => by rw [P 50 (by decide)] at hR8 ⊢; exact ⟨rfl, ax, ay8, hq, hR8⟩)) (by rw [q.1]; exact (cl_f (Or.inl rfl)).trans h0T) (NX.of q.2.1 (by omega) q.2.2.1 (by omega) ((cl_f (Or.inr rfl)).trans t38)) (by decide) (by omega) (by omega) hA1 hI hm h0 h13 hj hK hfr hlo hro hrs kk
  · have hop := l3 (by omega)
    cases ho : tb (tkF A1 k9) 30 (tn A1 46 k9) with
    | false =>
      exact dl_fin (F := tkF A1 k9) (X2 := tkF A1 k9) (C := tkF A1 k9) h hls hX hbl hbA hi hL hJ hx1 hk hJ (by rw [hs]; exact if_neg (by rw [ho]; decide)) EQ.rfl AG.rfl (fun S1 ax ay hq hR => c_deliver5 hls hR rfl hk hs rfl (show tn A1 48 k9 = (tn A1 48 k9 - 1) + 1 by omega) (by omega) (by omega) lg.1 hT.nb (by omega) h7 ⟨fun _ S8 ay8 hR8 => ⟨rfl, ax, ay8, hq, hR8⟩, fun z => absurd z (by rw [ho]; decide)⟩) (h0T) nx0 (by decide) (by omega) (by omega) hA1 hI hm h0 h13 hj hK hfr hlo hro hrs kk
    | true =>
      exact dl_fin (F := snowF (tkF A1 k9) (tn A1 46 k9) (tn A1 48 k9 - 1)) (X2 := snowF (tkF A1 k9) (tn A1 46 k9) (tn A1 48 k9 - 1)) (C := snowF (tkF A1 k9) (tn A1 46 k9) (tn A1 48 k9 - 1)) h hls hX hbl hbA hi hL hJ hx1 hk hJ (by rw [hs]; exact if_pos ho) EQ.rfl AG.rfl (fun S1 ax ay hq hR => c_deliver5 hls hR rfl hk hs rfl (show tn A1 48 k9 = (tn A1 48 k9 - 1) + 1 by omega) (by omega) (by omega) lg.1 hT.nb (by omega) h7 ⟨fun z => absurd z (by rw [ho]; decide), fun _ S8 ay8 hR8 => ⟨rfl, ax, ay8, hq, hR8⟩⟩) (kq.snow.z h0T) (NX.kq (kT.trans kq.snow) EQ.rfl (hT.snow (by omega) (by omega)) (by omega) hm h13) (by decide) (by omega) (by omega) hA1 hI hm h0 h13 hj hK hfr hlo hro hrs kk
  · have hto := l8 (by omega)
    have hop := l4 (by omega)
    have hn := l9 (Or.inl hs)
    exact dl_fin (F := rsynF (tkF A1 k9) (tn A1 47 k9) (tn A1 46 k9) (tn A1 49 k9) (tn A1 50 k9)) (X2 := rsynF (tkF A1 k9) (tn A1 47 k9) (tn A1 46 k9) (tn A1 49 k9) (tn A1 50 k9)) (C := rsynF (tkF A1 k9) (tn A1 47 k9) (tn A1 46 k9) (tn A1 49 k9) (tn A1 50 k9)) h hls hX hbl hbA hi hL hJ hx1 hk hJ (by rw [hs]; rfl) EQ.rfl AG.rfl (fun S1 ax ay hq hR => c_deliver6 hls hR rfl hk hs rfl rfl hop rfl rfl (by omega) b46 b49 hT.nb (by omega) h7 (fun S8 ay8 hR8 => ⟨rfl, ax, ay8, hq, hR8⟩)) (kq.rsyn.z h0T) (NX.kq (kT.trans kq.rsyn) EQ.rfl (hT.rsyn (by omega) (by omega) (by rw [nT 26 _ (by decide)]; exact hn) b50) (by omega) hm h13) (by decide) (by omega) (by omega) hA1 hI hm h0 h13 hj hK hfr hlo hro hrs kk
  · have hto := l8 (by omega)
    have hop := l4 (by omega)
    have hn := l9 (Or.inr hs)
    have hn2 : tn A1 49 k9 ≤ tn (tkF A1 k9) 26 (tn A1 46 k9) := by rw [nT 26 _ (by decide)]; exact hn
    cases ho : tb (tkF A1 k9) 30 (tn A1 46 k9) with
    | false =>
      exact dl_fin (F := tkF A1 k9) (X2 := tkF A1 k9) (C := tkF A1 k9) h hls hX hbl hbA hi hL hJ hx1 hk hJ (by rw [hs]; exact if_neg (by rw [ho]; decide)) EQ.rfl AG.rfl (fun S1 ax ay hq hR => c_deliver7 hls hR rfl hk hs rfl rfl hop rfl rfl (by omega) (by omega) (by omega) b50 hT.2.2.2.2.2.2.1.2.1 lg.2.2.1 g37 hT.2.2.2.2.2.2.1.1 hT.2.2.2.2.1.1 h73 hT.nb (by omega) h7 ⟨fun _ S8 ay8 hR8 => ⟨rfl, ax, ay8, hq, hR8⟩, fun z => absurd z (by rw [ho]; decide)⟩) (h0T) nx0 (by decide) (by omega) (by omega) hA1 hI hm h0 h13 hj hK hfr hlo hro hrs kk
    | true =>
      obtain ⟨X3, q1, q2, q3⟩ := ack_ok (e := tn A1 46 k9) (b := tn A1 47 k9) (n := tn A1 49 k9) (c := tn A1 50 k9) hT (by omega) (by omega) hn2
      have qE : EQ (ackF (tkF A1 k9) (tn A1 46 k9) (tn A1 47 k9) (tn A1 49 k9) (tn A1 50 k9)) X3 := by rw [q3]; exact EQ.mrg _ _
      exact dl_fin (F := ackF (tkF A1 k9) (tn A1 46 k9) (tn A1 47 k9) (tn A1 49 k9) (tn A1 50 k9)) (X2 := X3) (C := rakC (tkF A1 k9) (tn A1 46 k9) (tn A1 47 k9) (tn A1 49 k9) (tn A1 50 k9)) h hls hX hbl hbA hi hL hJ hx1 hk hJ (by rw [hs]; exact if_pos ho) qE q1 (fun S1 ax ay hq hR => c_deliver7 hls hR rfl hk hs rfl rfl hop rfl rfl (by omega) (by omega) (by omega) b50 hT.2.2.2.2.2.2.1.2.1 lg.2.2.1 g37 hT.2.2.2.2.2.2.1.1 hT.2.2.2.2.1.1 h73 hT.nb (by omega) h7 ⟨fun z => absurd z (by rw [ho]; decide), fun _ S8 ay8 hR8 => ⟨rfl, ax, ay8, hq, hR8⟩⟩) ((kq.ack hT.f53).z h0T) (NX.kq (kT.trans (kq.ack hT.f53)) qE q2 (by omega) hm h13) (by decide) (by omega) (by omega) hA1 hI hm h0 h13 hj hK hfr hlo hro hrs kk
  · have hto := l8 (by omega)
    have hop := l4 (by omega)
    obtain ⟨X3, q1, q2, q3, q4, q5⟩ := gc_ok (w := tn A1 47 k9) (e := tn A1 46 k9) (n := tn A1 49 k9) hT hmT (by omega)
    exact dl_fin (F := gcF (tkF A1 k9) (tn A1 47 k9) (tn A1 46 k9) (tn A1 49 k9)) (X2 := X3) (C := wgcC (tkF A1 k9) (tn A1 47 k9) (tn A1 46 k9) (tn A1 49 k9)) h hls hX hbl hbA hi hL hJ hx1 hk hJ (by rw [hs]; rfl) q1 q2 (fun S1 ax ay hq hR => c_deliver8 hls hR rfl hk hs rfl rfl hop rfl (by omega) (by omega) b49 lg.1 hT.nb (by omega) h7 (fun S8 ay8 hR8 => ⟨rfl, ax, ay8, hq, hR8⟩)) (kq.gc.z h0T) (NX.kq (kT.trans kq.gc) q1 q3 (by omega) hm h13) (by decide) (by omega) (by omega) hA1 hI hm h0 h13 hj hK hfr hlo hro hrs kk
  · have hto := l8 (by omega)
    have hop := l4 (by omega)
    obtain ⟨X3, q1, q2, q3, q4, q5⟩ := reset_ok (w := tn A1 47 k9) (e := tn A1 46 k9) hT hmT (by omega) (by omega)
    exact dl_fin (F := rstF (tkF A1 k9) (tn A1 47 k9) (tn A1 46 k9)) (X2 := X3) (C := wrsC (tkF A1 k9) (tn A1 47 k9) (tn A1 46 k9)) h hls hX hbl hbA hi hL hJ hx1 hk hJ (by rw [hs]; rfl) q1 q2 (fun S1 ax ay hq hR => c_deliver9 hls hR rfl hk hs rfl rfl hop (by omega) b46 hT.nb (by omega) h7 (fun S8 ay8 hR8 => ⟨rfl, ax, ay8, hq, hR8⟩)) (kq.rst.z h0T) (NX.kq (kT.trans kq.rst) q1 q3 (by omega) hm h13) (by decide) (by omega) (by omega) hA1 hI hm h0 h13 hj hK hfr hlo hro hrs kk
end
