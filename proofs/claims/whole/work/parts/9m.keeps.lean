/-! ===== what the calls keep: thrown, epochs, operations, moments ===== -/
def kq (A B : TS) : Prop := (∀ j, j = 0 ∨ j = 13 ∨ j = 14 ∨ j = 38 → tf B j = tf A j) ∧ (∀ j i, j = 10 ∨ j = 11 → tn B j i = tn A j i)
section
variable {K : Nat} {A B C X F : TS}
theorem kq.rfl : kq A A := ⟨fun _ _ => Eq.refl _, fun _ _ _ => Eq.refl _⟩
theorem kq.trans (h : kq A B) (k : kq B C) : kq A C := ⟨fun j a => (k.1 j a).trans (h.1 j a), fun j i a => (k.2 j i a).trans (h.2 j i a)⟩
theorem kq.keep (h : keepL A B) : kq A B := ⟨fun j a => h.1 j (by omega) (by omega), fun j i a => h.2.1 j i (by omega)⟩
theorem kq.kR (h : kR A B) : kq A B := ⟨fun j a => h.1 j (by omega) (by omega), fun j i a => h.2.2.1 j i (by omega) (by omega) (by omega) (by omega)⟩
theorem kq.send {so e to op n c : Nat} {v : Int32} {b : Bool} : kq A (sendF A so e to op n c v b) := kq.keep (send_keep ..)
theorem kq.sn {j i v : Nat} (hj : j ≠ 10) (hj1 : j ≠ 11) : kq A (sn A j i v) := ⟨fun _ _ => Eq.refl _, fun x y a => by rw [tn_sn, if_neg (by omega)]⟩
theorem kq.sb {j i : Nat} {v : Bool} : kq A (sb A j i v) := ⟨fun _ _ => Eq.refl _, fun _ _ _ => Eq.refl _⟩
theorem kq.sr {j i : Nat} {v : Int32} : kq A (sr A j i v) := ⟨fun _ _ => Eq.refl _, fun _ _ _ => Eq.refl _⟩
theorem kq.take {k : Nat} : kq A (tkF A k) := ⟨fun j a => tkF_df.1 j (by simp only [List.mem_singleton]; omega), fun j i a => tkF_df.2.1 j (by omega) (by simp) i⟩
theorem kq.syn {e : Nat} : kq A (synF A e) := ⟨fun j a => (syn_keep A e).1 j (by omega) (by omega), fun j i a => (syn_keep A e).2.1 j i (by omega) (by omega)⟩
theorem kq.ans {e op : Nat} {v : Int32} {b : Bool} : kq A (ansF A e op v b) := kq.keep (ans_keep ..)
theorem kq.crash {e : Nat} : kq A (craF A e) := kq.trans kq.sb (kq.sn (by decide) (by decide))
theorem kq.sync {e : Nat} : kq A (sycF A e) := by
  unfold sycF
  split
  · exact kq.syn.trans (kq.keep (resL_keep _ _ _))
  · exact kq.syn
theorem kq.snow {e op : Nat} : kq A (snowF A e op) := by
  unfold snowF
  split
  · exact kq.rfl
  · split
    · exact kq.ans
    · exact kq.sb.trans kq.syn
theorem kq.rsyn {b e n c : Nat} : kq A (rsynF A b e n c) := by
  unfold rsynF
  split
  · exact kq.rfl
  · exact kq.trans ⟨fun j _ => (rsynA_row (A := A) (b := b) (e := e) (n := n)).1 j, fun j i a => (rsynA_row (A := A) (b := b) (e := e) (n := n)).2.1 j i (by omega) (by omega)⟩ kq.send
theorem kq.rec {w e op : Nat} : kq A (recF A w e op) := by
  unfold recF recA
  refine kq.trans (B := if recB A w e op = true ∧ holdF A w op = false then _root_.Jvm.Pilot.COneTripLaw_law_r7449_bb9836.sn (_root_.Jvm.Pilot.COneTripLaw_law_r7449_bb9836.sn A 43 (16 * w + tn A 44 w) op) 44 w (tn A 44 w + 1) else A) ?_ kq.send
  split
  · exact kq.trans (kq.sn (by decide) (by decide)) (kq.sn (by decide) (by decide))
  · exact kq.rfl
theorem kq.gcL {w e n : Nat} : ∀ k, kq A (gcL A w e n k).1
  | 0 => kq.rfl
  | k + 1 => by
    have ih := kq.gcL (w := w) (e := e) (n := n) k
    unfold _root_.Jvm.Pilot.COneTripLaw_law_r7449_bb9836.gcL gcS
    split
    · exact ih
    · exact ih.trans (kq.sn (by decide) (by decide))
theorem kq.gc {w e n : Nat} : kq A (gcF A w e n) := by
  unfold gcF
  split
  · exact (kq.gcL _).trans (kq.sn (by decide) (by decide))
  · exact kq.rfl
theorem kq.rst {w e : Nat} : kq A (rstF A w e) := by
  unfold rstF
  split
  · exact kq.rfl
  · exact kq.trans (kq.sn (by decide) (by decide)) (kq.sb.trans (kq.sn (by decide) (by decide)))
theorem kq.ap {e op : Nat} {late : Bool} : kq A (apC A e op late) := ⟨fun j _ => apC_row.1 j, fun j i a => apC_row.2.1 j i (by omega) (by omega)⟩
theorem kq.exe {e op : Nat} : kq A (rexC A e op) := by
  unfold rexC
  split
  · unfold agnF
    split
    · exact kq.ans
    · split
      · exact kq.syn
      · exact kq.ans
  · split
    · exact kq.rfl
    · split
      · unfold waC
        split
        · exact kq.syn
        · exact kq.trans kq.syn ⟨fun j _ => gtG_row.1 j, fun j i a => gtG_row.2.1 j i (by omega) (by omega)⟩
      · unfold exeC
        split
        · exact kq.ap.trans kq.syn
        · split
          · exact kq.ap.trans (kq.ans.trans kq.syn)
          · exact kq.ap.trans kq.ans
theorem awL_kq {e b c : Nat} : ∀ k, kq A (awL A e b c k) ∧ ∀ j, tf (awL A e b c k) j = tf A j
  | 0 => ⟨kq.rfl, fun _ => rfl⟩
  | k + 1 => by
    obtain ⟨i1, i2⟩ := awL_kq (e := e) (b := b) (c := c) k
    unfold awL awS
    split
    · exact ⟨i1.trans (kq.sn (by decide) (by decide)), i2⟩
    · exact ⟨i1, i2⟩
theorem kq.ack {e b n c : Nat} (h : tf A 53 ≤ 250) : kq A (ackF A e b n c) := by
  have hA : kq A (raA A e b n) ∧ ∀ j, tf (raA A e b n) j = tf A j := by
    unfold raA
    split
    · exact ⟨kq.sn (by decide) (by decide), fun _ => Eq.refl _⟩
    · exact ⟨kq.rfl, fun _ => Eq.refl _⟩
  have hB : kq A (raB A e b n c) ∧ ∀ j, tf (raB A e b n c) j = tf A j := by
    unfold raB
    have q := awL_kq (A := raA A e b n) (e := e) (b := b) (c := c) (tn (raA A e b n) 37 e)
    exact ⟨hA.1.trans q.1, fun j => (q.2 j).trans (hA.2 j)⟩
  unfold ackF ackX
  generalize raB A e b n c = B at *
  have b53 : tf B 53 ≤ 250 := by rw [hB.2]; exact h
  have kC : _root_.Jvm.Pilot.COneTripLaw_law_r7449_bb9836.kR B (raC B e (lkF B e (tf B 1 - 1))) := by
    unfold raC
    exact (kR.rfl b53).sn (Or.inl (Eq.refl _))
  have kD : _root_.Jvm.Pilot.COneTripLaw_law_r7449_bb9836.kR B (raD (raC B e (lkF B e (tf B 1 - 1))) e (tn B 28 e)) := by
    unfold raD
    have q := aaL_keep (A := raC B e (lkF B e (tf B 1 - 1))) (e := e) (s := tn B 28 e) kC.2.1 (tn (raC B e (lkF B e (tf B 1 - 1))) 28 e - tn B 28 e)
    exact kC.keep q.1 q.2
  have kG := raG_kR (raE_kR kD (e := e) (lk := lkF B e (tf B 1 - 1))) (e := e) (w := tn B 28 e)
  generalize raG (raE (raD (raC B e (lkF B e (tf B 1 - 1))) e (tn B 28 e)) e (lkF B e (tf B 1 - 1))) e (tn B 28 e) = G at *
  refine hB.1.trans ((kq.kR kG).trans ?_)
  unfold agF
  have q := agL_inv (A := G) (e := e) kG.2.1 (tn G 37 e)
  exact kq.trans ⟨fun j a => q.2.1 j (by omega) (by omega), fun j i a => q.2.2.2.1 j i (by omega) (by omega)⟩ (kq.sn (by decide) (by decide))
/-- what holds of the next state -/
def NX (K j : Nat) (A : TS) (a : Nat) (X : TS) : Prop := INV (K + 3100) X ∧ iMom X ∧ tf X 13 ≤ j + 1 ∧ tf X 38 = tf A 38 + a
theorem NX.of {j K' : Nat} (h : INV K' X) (hk : K' ≤ K + 3100) (hm : iMom X) (h13 : tf X 13 ≤ j + 1) (h38 : tf X 38 = tf A 38) : NX K j A 0 X := ⟨h.mono hk, hm, h13, h38⟩
theorem NX.same {j : Nat} (h : INV K A) (hm : iMom A) (h13 : tf A 13 ≤ j) : NX K j A 0 A := ⟨h.mono (by omega), hm, by omega, rfl⟩
theorem NX.thr {j t : Nat} (h : INV K A) (hm : iMom A) (h13 : tf A 13 ≤ j) (ht : t ≤ 2) : NX K j A 0 (sf A 0 t) := by
  have h7 := h.k7
  exact NX.of (h.s0 (v := t) (by omega)) (by omega) (hm.same rfl (fun _ => rfl) (fun _ => rfl)) (by show tf A 13 ≤ j + 1; omega) rfl
theorem NX.kq {j K' : Nat} (k : kq A F) (e : EQ F X) (h : INV K' X) (hk : K' ≤ K + 3100) (hm : iMom A) (h13 : tf A 13 ≤ j) : NX K j A 0 X := by
  have q : ∀ i, i = 0 ∨ i = 13 ∨ i = 14 ∨ i = 38 → tf X i = tf A i := fun i a => (e.1 i (by omega) (by omega)).symm.trans (k.1 i a)
  have r : ∀ i x, i = 10 ∨ i = 11 → tn X i x = tn A i x := fun i x a => (e.2.1 i x (by omega)).symm.trans (k.2 i x a)
  refine NX.of h hk (hm.same (q 14 (by omega)) (fun i => r 10 i (by omega)) (fun i => r 11 i (by omega))) ?_ (q 38 (by omega))
  rw [q 13 (by omega)]
  omega
theorem kq.z (k : kq A F) (h : tf A 0 = 0) : tf F 0 = 0 := (k.1 0 (Or.inl (Eq.refl _))).trans h
theorem AG.s0r {v : Nat} : AG A (sf A 0 v) := AG.of (fun j hj => by rw [tf_sf, if_neg hj]) (fun _ _ _ _ => rfl) (fun _ _ _ => rfl) (fun _ _ => rfl)
theorem AG.rfl : AG A A := AG.of (fun _ _ => Eq.refl _) (fun _ _ _ _ => Eq.refl _) (fun _ _ _ => Eq.refl _) (fun _ _ => Eq.refl _)
theorem INV.c16 {c : Nat} (h : INV K A) (hc : c < 4) : tn A 16 c ≤ 600 := by
  have := (h.2.2.1 c hc).1
  have := h.1.2.2.2.2.1
  omega
theorem INV.f53 (h : INV K A) : tf A 53 ≤ 250 := h.1.2.2.2.2.2.1
theorem INV.f1 (h : INV K A) : 1 ≤ tf A 1 ∧ tf A 1 ≤ 3 := ⟨h.1.2.2.2.2.2.2.1, h.1.2.2.2.2.2.2.2.1⟩
theorem INV.f38 (h : INV K A) : 1 ≤ tf A 38 ∧ tf A 38 ≤ 12 := ⟨h.1.2.2.1, h.1.2.2.2.1⟩
theorem INV.f5 (h : INV K A) : tf A 5 = tf A 38 := h.1.1
theorem INV.f6 (h : INV K A) : tf A 6 = tf A 13 := h.1.2.1
theorem INV.w44 {w : Nat} (h : INV K A) (hw : w < tf A 1) : tn A 44 w ≤ 16 ∧ ∀ k, k < tn A 44 w → tn A 43 (16 * w + k) < 600 := by
  have q := (h.wi hw).1
  have := h.1.2.2.2.2.1
  exact ⟨Nat.le_trans (WI.m (h.wi hw)) (N16 h.1), fun k hk => by have := (q k hk).1; omega⟩
theorem INV.lg {e : Nat} (h : INV K A) (he : e < tf A 38) : LogOK A e ∧ tn A 28 e ≤ tn A 26 e ∧ tn A 26 e ≤ tf A 13 ∧ tf A 13 ≤ 600 ∧ ∀ k, k < tn A 26 e → tn A 22 (600 * e + k) < 600 := by
  have q := h.2.2.2.2.1.2 e he
  have n := h.1.2.2.2.2.1
  exact ⟨q.1, q.2.1, q.1.le, n, fun k hk => by have := q.1.2.1 k hk; omega⟩
theorem INV.g37 {e : Nat} (h : INV K A) (he : e < tf A 38) : tn A 37 e ≤ tf A 13 := by
  have q := h.2.2.2.2.2.2.1.2.2 e he
  exact pigeon _ _ (fun k => tn A 33 (600 * e + k)) (fun k hk => (q.1 k hk).1) (fun i j hi hj hij => q.2 i j hi hj hij)
/-- thrown cleared first -/
theorem s0_all {j : Nat} (h : INV K X) (hm : iMom X) (h13 : tf X 13 ≤ j) : INV K (sf X 0 0) ∧ iMom (sf X 0 0) ∧ tf (sf X 0 0) 0 = 0 ∧ tf (sf X 0 0) 13 ≤ j ∧ tf (sf X 0 0) 38 = tf X 38 := ⟨h.s0 (Nat.zero_le _), hm.same rfl (fun _ => rfl) (fun _ => rfl), rfl, h13, rfl⟩
theorem noIx_cs {x : Int32} {n : Nat} (hn : n < 2 ^ 31) : noIx x n = true ∨ ∃ j : Nat, j < n ∧ x = nI j := by
  cases q : noIx x n
  · exact Or.inr (noIx_t hn q)
  · exact Or.inl rfl
end
section
variable {K : Nat} {A B C X F : TS}
theorem kq.beg {c : Nat} : kq A (begF A c) := ⟨fun j a => (beg_keep A c).1 j (by omega) (by omega), fun j i a => (beg_keep A c).2.1 j i (by omega) (by omega)⟩
theorem kq.lrn {c : Nat} : kq A (lrnF A c) := by
  unfold lrnF
  split
  · exact kq.rfl
  · split
    · exact kq.trans (kq.sn (by decide) (by decide)) kq.beg
    · exact kq.sn (by decide) (by decide)
theorem ask_f {c wh ky j : Nat} {v : Int32} (hj : j = 0 ∨ j = 38) : tf (askF A c wh ky v) j = tf A j := by
  unfold askF
  rw [(beg_keep _ c).1 j (by omega) (by omega)]
  show tf (sf (sf A 13 (tf A 13 + 1)) 14 (tf A 14 + 1)) j = tf A j
  rw [tf_sf, if_neg (by omega), tf_sf, if_neg (by omega)]
theorem rpL_f {e w c j : Nat} : ∀ k, tf (rpL A e w c k) j = tf A j
  | 0 => rfl
  | k + 1 => by
    have ih := rpL_f (e := e) (w := w) (c := c) (j := j) k
    unfold rpL rpS
    split
    · exact ((app_keep _ _ _ _).1 j).trans ih
    · exact ih
theorem rpO_f {e w j : Nat} : ∀ c, tf (rpO A e w c) j = tf A j
  | 0 => rfl
  | c + 1 => by
    unfold rpO
    exact (rpL_f _).trans (rpO_f c)
theorem dec_f {e b w : Nat} : tf (decF A e b w) 0 = tf A 0 ∧ tf (decF A e b w) 38 = e + 1 := by
  have h1 : ∀ j, tf (decF A e b w) j = tf (riF A e) j := fun j => by
    refine (rpO_f (A := decD A e b) (e := e) (w := w) (j := j) 4).trans ?_
    exact (dcL_keep (riF A e) e (tn A 39 b) (tn A 40 b)).1 j
  refine ⟨(h1 0).trans ((ri_keep A e).1 0 (by decide)), (h1 38).trans ?_⟩
  unfold riF
  rw [tf_sf, if_pos rfl]
theorem cl_f {so e c op w j : Nat} {x : Int32} {sa : Bool} (hj : j = 0 ∨ j = 38) : tf (rclC A so e c op w x sa) j = tf A j := by
  have hfin : ∀ G : TS, tf (finC G c op) j = tf G j := fun G => by
    unfold finC
    rw [tf_sf, if_neg (by omega), tf_sr, tf_sn, tf_sf, if_neg (by omega)]
  have hfia : ∀ G : TS, tf (fiaC G c op) j = tf G j := fun G => by
    unfold fiaC
    split
    · rw [tf_sn]; exact hfin G
    · rfl
  unfold rclC
  split
  · split
    · exact (send_keep ..).1 j (by omega) (by omega)
    · split
      · exact hfia _
      · unfold ranC
        split
        · exact hfin _
        · exact hfia _
  · rfl
end
