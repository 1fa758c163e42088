/-! ===== a new operation ===== -/
def nwO (A : TS) (c nr wh ky : Nat) (v : Int32) (at9 : Nat) : TS := sr (sn (sn (sr (sn (sn (sn (sn (sf A 13 (tf A 13 + 1)) 5 (tf A 13) c) 6 (tf A 13) nr) 7 (tf A 13) wh) 8 (tf A 13) ky) 9 (tf A 13) v) 10 (tf A 13) at9) 11 (tf A 13) 0) 12 (tf A 13) 0
theorem nwO_row {A : TS} {c nr wh ky : Nat} {v : Int32} {at9 : Nat} : (∀ j, tf (nwO A c nr wh ky v at9) j = if j = 13 then tf A 13 + 1 else tf A j) ∧
    (∀ j i, ¬ ((j = 5 ∨ j = 6 ∨ j = 7 ∨ j = 8 ∨ j = 10 ∨ j = 11) ∧ i = tf A 13) → tn (nwO A c nr wh ky v at9) j i = tn A j i) ∧
    (∀ j i, ¬ ((j = 9 ∨ j = 12) ∧ i = tf A 13) → tr (nwO A c nr wh ky v at9) j i = tr A j i) ∧ (∀ j i, tb (nwO A c nr wh ky v at9) j i = tb A j i) ∧
    tn (nwO A c nr wh ky v at9) 5 (tf A 13) = c ∧ tn (nwO A c nr wh ky v at9) 6 (tf A 13) = nr ∧ tn (nwO A c nr wh ky v at9) 7 (tf A 13) = wh ∧ tn (nwO A c nr wh ky v at9) 8 (tf A 13) = ky ∧ tn (nwO A c nr wh ky v at9) 10 (tf A 13) = at9 ∧ tn (nwO A c nr wh ky v at9) 11 (tf A 13) = 0 ∧ tr (nwO A c nr wh ky v at9) 9 (tf A 13) = v ∧ tr (nwO A c nr wh ky v at9) 12 (tf A 13) = 0 := by
  unfold nwO
  generalize tf A 13 = n
  refine ⟨fun j => ?_, fun j i q => ?_, fun j i q => ?_, fun _ _ => rfl, ?_, ?_, ?_, ?_, ?_, ?_, ?_, ?_⟩
  · simp only [tf_sr, tf_sn, tf_sf]
  · simp only [tn_sr, tn_sn, tn_sf]
    rw [if_neg (by omega), if_neg (by omega), if_neg (by omega), if_neg (by omega), if_neg (by omega), if_neg (by omega)]
  · simp only [tr_sr, tr_sn, tr_sf]
    rw [if_neg (by omega), if_neg (by omega)]
  all_goals simp only [tn_sr, tn_sn, tr_sr, tr_sn]
  all_goals simp
def OX (S : HS) (q cl nr wh ky : Nat) (v : Int32) (at9 : Nat) : Prop := q ∈ zL S ∧ zK S q = 6 ∧ zI S 384 q = nI cl ∧ zI S 385 q = nI nr ∧ zI S 386 q = nI wh ∧ zI S 387 q = nI ky ∧ zI S 388 q = v ∧ zI S 389 q = nI at9 ∧ zI S 390 q = 0 ∧ zI S 391 q = 0
theorem fty6 {j : Nat} {b : Bool} (h : (fty 6)[j]? = some b) : b = true ∧ (j = 0 ∨ j = 1 ∨ j = 2 ∨ j = 3 ∨ j = 4 ∨ j = 5 ∨ j = 6 ∨ j = 7) := by
  have hl := (List.getElem?_eq_some_iff.mp h).1
  have hl' : j < 8 := hl
  have : j = 0 ∨ j = 1 ∨ j = 2 ∨ j = 3 ∨ j = 4 ∨ j = 5 ∨ j = 6 ∨ j = 7 := by omega
  rcases this with rfl | rfl | rfl | rfl | rfl | rfl | rfl | rfl <;> (simp [fty] at h; subst h; simp)
theorem lv_n6 {A B : TS} {g i : Nat} (h6 : g ≠ 6) (h38 : tf B 38 = tf A 38) (h1 : tf B 1 = tf A 1) (h53 : tf B 53 = tf A 53) (h26 : ∀ i, tn B 26 i = tn A 26 i) (h37 : ∀ i, tn B 37 i = tn A 37 i) : lv B g i ↔ lv A g i := by
  unfold lv
  split <;> first | exact absurd rfl h6 | simp only [h38, h1, h53, h26, h37]
def ax6 (ax : Nat → Nat → Nat) (n q : Nat) : Nat → Nat → Nat := fun g i => if g = 6 ∧ i = n then q else ax g i
theorem mx_6 (ax ay : Nat → Nat → Nat) (n q : Nat) (g i : Nat) : mx (ax6 ax n q) ay g i = if g = 6 ∧ i = n then q else mx ax ay g i := by
  by_cases h4 : g = 4
  · subst h4; rw [if_neg (by omega)]; rfl
  by_cases h8 : g = 8
  · subst h8; rw [if_neg (by omega)]; rfl
  by_cases h23 : g = 23
  · subst h23; rw [if_neg (by omega)]; rfl
  by_cases h50 : g = 50
  · subst h50; rw [if_neg (by omega)]; rfl
  have e : ∀ bx by' : Nat → Nat → Nat, mx bx by' g i = bx g i := fun bx by' => by
    unfold mx
    split <;> first | rfl | contradiction
  rw [e, e]
  rfl
theorem lv_24 {A : TS} {g i : Nat} (hl : lv A g i) (hg : 24 ≤ g) : g = 24 ∨ g = 25 ∨ g = 26 ∨ (g = 27 ∧ i < tf A 1) := by
  by_cases a1 : g = 24
  · exact Or.inl a1
  by_cases a2 : g = 25
  · exact Or.inr (Or.inl a2)
  by_cases a3 : g = 26
  · exact Or.inr (Or.inr (Or.inl a3))
  by_cases a4 : g = 27
  · subst a4
    exact Or.inr (Or.inr (Or.inr ⟨rfl, hl⟩))
  exfalso
  unfold lv at hl
  split at hl <;> first | exact absurd hg (by decide) | exact absurd rfl a1 | exact absurd rfl a2 | exact absurd rfl a3 | exact absurd rfl a4 | exact hl.elim
section
variable {tc : Nat → ClassId} {ax ay : Nat → Nat → Nat} {A : TS} {S : HS}
set_option maxHeartbeats 4000000 in
theorem RA.newop (h : RA tc (mx ax ay) A S) {q c nr wh ky at9 : Nat} {v : Int32} (h600 : tf A 13 < 600) (hq : OX S q c nr wh ky v at9) (hfr : ∀ i, lv A 6 i → ax 6 i ≠ q) : RA tc (mx (ax6 ax (tf A 13) q) ay) (nwO A c nr wh ky v at9) S := by
  obtain ⟨r1, r2, r3, r4, e5, e6, e7, e8, e10, e11, e9, e12⟩ := nwO_row (A := A) (c := c) (nr := nr) (wh := wh) (ky := ky) (v := v) (at9 := at9)
  generalize nwO A c nr wh ky v at9 = B at *
  have hm := mx_6 ax ay (tf A 13) q
  generalize mx (ax6 ax (tf A 13) q) ay = a' at *
  have hW := h.2.2
  obtain ⟨w1, w2, w3, w4, w5, w6, w7, w8⟩ := hW
  have f : ∀ j, j ≠ 13 → tf B j = tf A j := fun j hj => by rw [r1, if_neg hj]
  have f13 : tf B 13 = tf A 13 + 1 := by rw [r1, if_pos rfl]
  have hlv : ∀ g i, g ≠ 6 → (lv B g i ↔ lv A g i) := fun g i hg => lv_n6 hg (f 38 (by decide)) (f 1 (by decide)) (f 53 (by decide)) (fun i => r2 26 i (by omega)) (fun i => r2 37 i (by omega))
  have hop : ∀ t, t ≤ tf A 13 → opA a' t = opA (mx ax ay) t := fun t ht => by
    unfold opA
    split
    · rfl
    · rw [hm, if_neg (by omega)]
  have h6 : ∀ i, i < tf A 13 → a' 6 i = mx ax ay 6 i := fun i hi => by rw [hm, if_neg (by omega)]
  have ho : ∀ g i, g ≠ 6 → a' g i = mx ax ay g i := fun g i hg => by rw [hm, if_neg (fun z => hg z.1)]
  refine h.adopt (fun g i => g = 6 ∧ i = tf A 13) (fun g i => ?_) (fun g i hN hl => ?_) (fun g i hl => ?_) (fun i _ => ⟨ho 23 i (by decide), ho 50 i (by decide)⟩) (fun g i j hl => ?_) (fun g i j hl => ?_) (fun g i _ => ?_) (fun i k _ _ => ?_) (fun g i k hl hg hk => ?_) (fun i _ => ?_) ?_ (fun g i hN => ?_) (fun g i j hN hl => ?_) (fun g i j hN hN' _ => hN.2.trans hN'.2.symm) (fun g i j hN _ _ hj => ?_) (fun g i j hN _ _ hj => ?_) (fun g i hN hg => ?_) (fun i k hN => absurd hN.1 (by decide)) (fun g i k hN hg => ?_) (fun i hN => absurd hN.1 (by decide))
  · by_cases hg : g = 6
    · subst hg
      show i < tf B 13 ↔ i < tf A 13 ∨ _
      rw [f13]
      omega
    · rw [hlv g i hg]
      exact ⟨Or.inl, fun z => z.elim id (fun z => absurd z.1 hg)⟩
  · obtain ⟨rfl, rfl⟩ := hN
    exact absurd (show tf A 13 < tf A 13 from hl) (Nat.lt_irrefl _)
  · by_cases hg : g = 6
    · subst hg
      exact h6 i hl
    · exact ho g i hg
  · have key : g = 6 → i ≠ tf A 13 := fun z y => by
      subst z
      have : i < tf A 13 := hl
      omega
    have hno := rwc_no (g := g) (j := j)
    refine civ_eq (fun r q1 _ => r2 r i ?_) (fun r q1 _ => r3 r i ?_) (fun r _ _ => r4 r i) (fun r q1 _ => f r ?_) (fun z => ⟨r2 45 i (by omega), r3 51 i (by omega), r2 50 i (by omega)⟩) (fun z => r2 11 i (fun y => key z y.2))
    · rintro ⟨y, rfl⟩
      by_cases hg : g = 6
      · exact key hg rfl
      · have := (rwc_6 (j := j) hg).1
        omega
    · rintro ⟨y, rfl⟩
      by_cases hg : g = 6
      · exact key hg rfl
      · have := rwc_6 (j := j) hg
        omega
    · omega
  · unfold cpv
    split
    · rw [r2 16 i (by omega), hop _ (w4 i hl)]
    · rw [r2 22 i (by omega), h6 _ (w5 i hl)]
    · rw [r2 48 i (by omega), hop _ (w6 i hl)]
    · rw [ho 7 _ (by decide)]
    · rw [ho 0 _ (by decide)]
    · rw [ho 0 _ (by decide)]
    · rw [ho 20 _ (by decide)]
    · rw [ho 20 _ (by decide)]
    · rw [ho 0 _ (by decide)]
    · rw [r2 33 i (by omega), h6 _ (w7 i hl)]
    · rw [ho 27 _ (by decide)]
    · rw [ho 7 _ (by decide)]
    · rw [ho 24 _ (by decide)]
    · rw [ho 25 _ (by decide)]
    · rw [ho 26 _ (by decide)]
    · rw [ho 0 _ (by decide)]
    · rw [ho 0 _ (by decide)]
    · rfl
  · simp only [cln, f 1 (by decide), f 2 (by decide), f 3 (by decide)]
  · unfold cav
    rw [r3 3 (16 * (i / 2) + k) (by omega), r2 32 (3 * (i / 2) + k) (by omega)]
  · unfold crv
    rw [ho 2 _ (by decide), ho 1 _ (by decide), ho 9 _ (by decide), r2 1 _ (by omega)]
    rcases lv_24 hl hg with rfl | rfl | rfl | ⟨rfl, hi⟩
    · rfl
    · rfl
    · rfl
    · have hk' : k < tf A 2 * tf A 3 := hk
      have h16 : tf A 2 * tf A 3 ≤ 4 * 4 := Nat.mul_le_mul w1.2.2.2.1 w1.2.2.2.2.2
      exact hop _ (w8 i k hi (by omega))
  · unfold lsz
    rw [f 53 (by decide), f 5 (by decide), f 6 (by decide), r2 26 (i - 3) (by omega), r2 37 (i - 15) (by omega)]
  · refine ⟨?_, ?_, fun e he => ?_, fun i hi => ?_, fun i hl => ?_, fun i hl => ?_, fun i hl => ?_, fun w k hw hk => ?_⟩
    · rw [f 1 (by decide), f 2 (by decide), f 3 (by decide)]; exact w1
    · rw [f 5 (by decide), f 38 (by decide), f 6 (by decide), f13, f 53 (by decide)]
      obtain ⟨b1, b2, b3, b4, b5⟩ := w2
      exact ⟨b1, b2, by omega, by omega, b5⟩
    · rw [f 38 (by decide)] at he
      rw [r2 26 e (by omega), r2 37 e (by omega)]
      exact w3 e he
    · rw [r2 16 i (by omega), f13]
      exact Nat.le_succ_of_le (w4 i hi)
    · rw [r2 22 i (by omega), f13]
      exact Nat.lt_succ_of_lt (w5 i ((hlv 3 i (by decide)).mp hl))
    · rw [r2 48 i (by omega), f13]
      exact Nat.le_succ_of_le (w6 i ((hlv 4 i (by decide)).mp hl))
    · rw [r2 33 i (by omega), f13]
      exact Nat.lt_succ_of_lt (w7 i ((hlv 8 i (by decide)).mp hl))
    · rw [f 1 (by decide)] at hw
      rw [r2 1 _ (by omega), f13]
      exact Nat.le_succ_of_le (w8 w k hw hk)
  · obtain ⟨rfl, rfl⟩ := hN
    rw [hm, if_pos ⟨rfl, rfl⟩]
    exact ⟨hq.1, hq.2.1⟩
  · obtain ⟨rfl, rfl⟩ := hN
    rw [hm, if_pos ⟨rfl, rfl⟩]
    exact fun z => hfr j hl z.symm
  · obtain ⟨rfl, rfl⟩ := hN
    rw [hm, if_pos ⟨rfl, rfl⟩]
    obtain ⟨q1, q2, q3, q4, q5, q6, q7, q8, q9, q10⟩ := hq
    rcases (fty6 hj).2 with rfl | rfl | rfl | rfl | rfl | rfl | rfl | rfl
    · exact q3.trans (by show nI c = nI (tn B 5 _); rw [e5])
    · exact q4.trans (by show nI nr = nI (tn B 6 _); rw [e6])
    · exact q5.trans (by show nI wh = nI (tn B 7 _); rw [e7])
    · exact q6.trans (by show nI ky = nI (tn B 8 _); rw [e8])
    · exact q7.trans (by show v = tr B 9 _; rw [e9])
    · exact q8.trans (by show nI at9 = nI (tn B 10 _); rw [e10])
    · exact q9.trans (by show 0 = nI (tn B 11 _ - 1); rw [e11]; rfl)
    · exact q10.trans (by show 0 = tr B 12 _; rw [e12])
  · obtain ⟨rfl, rfl⟩ := hN
    exact absurd (fty6 hj).1 (by decide)
  · obtain ⟨rfl, -⟩ := hN
    omega
  · obtain ⟨rfl, -⟩ := hN
    omega
theorem OT.at {S0 S1 : HS} {q cl nr wh ky : Nat} {v : Int32} {M : Nat} (hS : RA tc (mx ax ay) A S0) (hx : hext S0 S1) (ho : OT S1 q cl nr wh ky v) (hq : q ∉ zL S0) : RA tc (mx ax ay) (sf A 14 M) (setI (setI S1 (64 * 10 + 10) (ax 10 0) (nI M)) (64 * 6 + 5) q (nI M)) ∧ OX (setI (setI S1 (64 * 10 + 10) (ax 10 0) (nI M)) (64 * 6 + 5) q (nI M)) q cl nr wh ky v M := by
  have hne : ax 10 0 ≠ q := fun z => hq (z ▸ hS.mem (show lv A 10 0 from rfl))
  have e : setI (setI S1 (64 * 10 + 10) (ax 10 0) (nI M)) (64 * 6 + 5) q (nI M) = setI (setI S1 (64 * 6 + 5) q (nI M)) (64 * 10 + 10) (ax 10 0) (nI M) := by
    unfold setI
    have : up2 (up2 (zI S1) (64 * 10 + 10) (ax 10 0) (nI M)) (64 * 6 + 5) q (nI M) = up2 (up2 (zI S1) (64 * 6 + 5) q (nI M)) (64 * 10 + 10) (ax 10 0) (nI M) := by
      funext g b
      unfold up2
      by_cases y : g = 64 * 6 + 5 ∧ b = q
      · rw [if_pos y, if_neg (by omega), if_pos y]
      · rw [if_neg y, if_neg y]
    show (zL S1, zK S1, up2 (up2 (zI S1) (64 * 10 + 10) (ax 10 0) (nI M)) (64 * 6 + 5) q (nI M), _) = (zL S1, zK S1, up2 (up2 (zI S1) (64 * 6 + 5) q (nI M)) (64 * 10 + 10) (ax 10 0) (nI M), _)
    rw [this]
    rfl
  refine ⟨?_, ?_⟩
  · rw [e]
    exact (hS.ext (hx.setI hq)).p_10_10
  · obtain ⟨o1, o2, o3, o4, o5, o6, o7, o8, o9, o10⟩ := ho
    have f : ∀ g, g ≠ 389 → zI (setI (setI S1 (64 * 10 + 10) (ax 10 0) (nI M)) (64 * 6 + 5) q (nI M)) g q = zI S1 g q := fun g hg => by
      show up2 (up2 (zI S1) (64 * 10 + 10) (ax 10 0) (nI M)) (64 * 6 + 5) q (nI M) g q = _
      unfold up2
      rw [if_neg (by omega), if_neg (fun z => hne z.2.symm)]
    exact ⟨o1, o2, (f _ (by decide)).trans o3, (f _ (by decide)).trans o4, (f _ (by decide)).trans o5, (f _ (by decide)).trans o6, (f _ (by decide)).trans o7, up2_at, (f _ (by decide)).trans o9, (f _ (by decide)).trans o10⟩
theorem asn_is {c : Nat} : (if tn A 16 c = 0 then 0 else tn A 6 (tn A 16 c - 1)) + 1 = asnF A c := by
  unfold asnF
  split <;> rfl
theorem aS_sl {a : Nat → Nat → Nat} {f n i0 q t M : Nat} (h : q = a f n) : SL a (aS a f n i0 q t M) := by
  intro g i h4 h8 h23 h50
  unfold aS
  by_cases y : g = f ∧ i = n
  · rw [if_pos y, h, y.1, y.2]
  · rw [if_neg y, if_neg (fun z => h23 z.1), if_neg (fun z => h50 z.1)]
theorem gcap_898 {M : Nat} (h : M < 600) : gcap M ≤ 898 := by
  unfold gcap
  split
  · omega
  · split <;> omega
end
