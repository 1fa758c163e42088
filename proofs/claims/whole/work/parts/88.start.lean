/-! ===== the class's state at the start ===== -/
def inC (F su uu b : Nat) : TS := (fun h => if h = 1 then F else if h = 2 then su else if h = 3 then uu else if h = 4 then b else if h = 5 then 1 else if h = 38 then 1 else 0, fun _ _ => 0, fun _ _ => 0, fun j i => decide (j = 30 ∧ i = 0))
def axI (q r l0 l1 l2 ca ba wa m9 b1 b2 v1 v2 : Nat) (cl bk wt pl : Nat → Nat) : Nat → Nat → Nat := fun g i => match g with
  | 0 => if i = 0 then l0 else if i = 1 then l1 else if i = 2 then l2 else if i = 3 then b1 else b2
  | 1 => bk i
  | 2 => cl i
  | 5 => m9
  | 7 => r
  | 9 => wt i
  | 10 => q
  | 20 => if i = 0 then v1 else v2
  | 24 => ca
  | 25 => ba
  | 26 => wa
  | 27 => pl i
  | _ => 0
def ayI (t9 e9 : Nat) : Nat → Nat → Nat := fun g i => match g with
  | 23 => if i = 1 then t9 else e9
  | 50 => if i = 1 then 10 else 0
  | _ => 0
theorem lvI {F su uu b g i : Nat} (h : lv (inC F su uu b) g i) : (g = 0 ∧ (i = 0 ∨ i = 1 ∨ i = 2 ∨ i = 3 ∨ i = 15)) ∨ (g = 1 ∧ i < F) ∨ (g = 2 ∧ i < 4) ∨ (g = 5 ∧ i = 0) ∨ (g = 7 ∧ i = 0) ∨ (g = 9 ∧ i < F) ∨ (g = 10 ∧ i = 0) ∨ (g = 20 ∧ (i = 0 ∨ i = 1)) ∨ (g = 24 ∧ i = 0) ∨ (g = 25 ∧ i = 0) ∨ (g = 26 ∧ i = 0) ∨ (g = 27 ∧ i < F) := by
  unfold lv at h
  split at h
  · have h' : i < 3 ∨ (3 ≤ i ∧ i < 3 + 1 ∧ i < 15) ∨ (15 ≤ i ∧ i < 15 + 1) := h
    left
    exact ⟨rfl, by omega⟩
  · exact Or.inr (Or.inl ⟨rfl, h⟩)
  · exact Or.inr (Or.inr (Or.inl ⟨rfl, h⟩))
  · exact absurd h.2 (Nat.not_lt_zero _)
  · exact absurd h (Nat.not_lt_zero _)
  · have h' : i < 1 := h
    exact Or.inr (Or.inr (Or.inr (Or.inl ⟨rfl, by omega⟩)))
  · exact absurd h (Nat.not_lt_zero _)
  · exact Or.inr (Or.inr (Or.inr (Or.inr (Or.inl ⟨rfl, h⟩))))
  · exact absurd h.2 (Nat.not_lt_zero _)
  · exact Or.inr (Or.inr (Or.inr (Or.inr (Or.inr (Or.inl ⟨rfl, h⟩)))))
  · exact Or.inr (Or.inr (Or.inr (Or.inr (Or.inr (Or.inr (Or.inl ⟨rfl, h⟩))))))
  · have h' : i < 2 * 1 := h
    exact Or.inr (Or.inr (Or.inr (Or.inr (Or.inr (Or.inr (Or.inr (Or.inl ⟨rfl, by omega⟩)))))))
  · exact Or.inr (Or.inr (Or.inr (Or.inr (Or.inr (Or.inr (Or.inr (Or.inr (Or.inl ⟨rfl, h⟩))))))))
  · exact Or.inr (Or.inr (Or.inr (Or.inr (Or.inr (Or.inr (Or.inr (Or.inr (Or.inr (Or.inl ⟨rfl, h⟩)))))))))
  · exact Or.inr (Or.inr (Or.inr (Or.inr (Or.inr (Or.inr (Or.inr (Or.inr (Or.inr (Or.inr (Or.inl ⟨rfl, h⟩))))))))))
  · exact Or.inr (Or.inr (Or.inr (Or.inr (Or.inr (Or.inr (Or.inr (Or.inr (Or.inr (Or.inr (Or.inr ⟨rfl, h⟩))))))))))
  · exact h.elim
theorem ftyI {g j : Nat} {b : Bool} (h : (fty g)[j]? = some b) : j < (fty g).length := (List.getElem?_eq_some_iff.mp h).1
theorem fty1 {j : Nat} {b : Bool} (h : (fty 1)[j]? = some b) : b = true ∧ (j = 0 ∨ j = 1 ∨ j = 2) := by
  have hl : j < 3 := ftyI h
  have : j = 0 ∨ j = 1 ∨ j = 2 := by omega
  rcases this with rfl | rfl | rfl <;> (simp [fty] at h; subst h; simp)
theorem fty2 {j : Nat} {b : Bool} (h : (fty 2)[j]? = some b) : (b = true ∧ (j = 0 ∨ j = 2 ∨ j = 3 ∨ j = 4 ∨ j = 5)) ∨ (b = false ∧ j = 1) := by
  have hl : j < 6 := ftyI h
  have : j = 0 ∨ j = 1 ∨ j = 2 ∨ j = 3 ∨ j = 4 ∨ j = 5 := by omega
  rcases this with rfl | rfl | rfl | rfl | rfl | rfl <;> (simp [fty] at h; subst h; simp)
theorem fty7 {j : Nat} {b : Bool} (h : (fty 7)[j]? = some b) : (b = true ∧ j = 1) ∨ (b = false ∧ j = 0) := by
  have hl : j < 2 := ftyI h
  have : j = 0 ∨ j = 1 := by omega
  rcases this with rfl | rfl <;> (simp [fty] at h; subst h; simp)
theorem fty9 {j : Nat} {b : Bool} (h : (fty 9)[j]? = some b) : (b = true ∧ (j = 0 ∨ j = 1 ∨ j = 2 ∨ j = 4 ∨ j = 5)) ∨ (b = false ∧ j = 3) := by
  have hl : j < 6 := ftyI h
  have : j = 0 ∨ j = 1 ∨ j = 2 ∨ j = 3 ∨ j = 4 ∨ j = 5 := by omega
  rcases this with rfl | rfl | rfl | rfl | rfl | rfl <;> (simp [fty] at h; subst h; simp)
theorem fty10 {j : Nat} {b : Bool} (h : (fty 10)[j]? = some b) : (b = true ∧ (j = 0 ∨ j = 1 ∨ j = 2 ∨ j = 9 ∨ j = 10)) ∨ (b = false ∧ (j = 3 ∨ j = 4 ∨ j = 5 ∨ j = 6 ∨ j = 7 ∨ j = 8)) := by
  have hl : j < 11 := ftyI h
  have : j = 0 ∨ j = 1 ∨ j = 2 ∨ j = 3 ∨ j = 4 ∨ j = 5 ∨ j = 6 ∨ j = 7 ∨ j = 8 ∨ j = 9 ∨ j = 10 := by omega
  rcases this with rfl | rfl | rfl | rfl | rfl | rfl | rfl | rfl | rfl | rfl | rfl <;> (simp [fty] at h; subst h; simp)
theorem ob.i {T : HS} {x k c : Nat} {v w : Int32} {fi : List (Nat × Int32)} {fp : List (Nat × Option Nat)} (h : ob T x k fi fp) (hm : (c, v) ∈ fi) (hw : w = v) : zI T c x = w := by rw [hw]; exact h.2.2.1 _ hm
theorem ob.p {T : HS} {x k c : Nat} {v w : Option Nat} {fi : List (Nat × Int32)} {fp : List (Nat × Option Nat)} (h : ob T x k fi fp) (hm : (c, v) ∈ fp) (hw : w = v) : zP T c x = w := by rw [hw]; exact h.2.2.2 _ hm
set_option maxHeartbeats 4000000 in
theorem RA_init {tc : Nat → ClassId} {T : HS} {q0 F su uu b : Nat} (hF : 1 ≤ F ∧ F ≤ 3) (hsu : 1 ≤ su ∧ su ≤ 4) (huu : 1 ≤ uu ∧ uu ≤ 4) (h : IN tc T q0 F su uu b) : ∃ ax ay, ax 10 0 = q0 ∧ RA tc (mx ax ay) (inC F su uu b) T := by
  obtain ⟨q, rfl, r, l0, l1, l2, ca, ba, wa, m9, b1, b2, v1, v2, t9, cl, bk, wt, pl, h⟩ := h
  revert h
  rintro ⟨hq, hrow, hl0, hca, hcl, hba, hwa, hbk, hwt, hpl, hl1, hm, hb1, hb2, hv1, hv2, ht, hl2, n01, n20, n21, n2b1, n2b2, nb1, nb2, nb10, nb20, nb12, nv12, cli, bki, wti, pli⟩
  refine ⟨axI q r l0 l1 l2 ca ba wa m9 b1 b2 v1 v2 cl bk wt pl, ayI t9 (tc 100), rfl, ⟨fun g i hl => ?_, fun g i j _ hvi hvj e => ?_, fun g i j hl h1 h2 hj => ?_, fun g i j hl h1 h2 hj => ?_, fun g i hl h1 => ?_, fun i k hl hk => ?_, fun g i k hl h1 hk => ?_⟩, ⟨fun i hl => ?_, fun i j hi hj e1 e2 _ => ?_⟩, ?_⟩
  · rcases lvI hl with ⟨rfl, rfl | rfl | rfl | rfl | rfl⟩ | ⟨rfl, hi⟩ | ⟨rfl, hi⟩ | ⟨rfl, rfl⟩ | ⟨rfl, rfl⟩ | ⟨rfl, hi⟩ | ⟨rfl, rfl⟩ | ⟨rfl, rfl | rfl⟩ | ⟨rfl, rfl⟩ | ⟨rfl, rfl⟩ | ⟨rfl, rfl⟩ | ⟨rfl, hi⟩
    · exact ⟨hl0.1, hl0.2.1⟩
    · exact ⟨hl1.1, hl1.2.1⟩
    · exact ⟨hl2.1, hl2.2.1⟩
    · exact ⟨hb1.1, hb1.2.1⟩
    · exact ⟨hb2.1, hb2.2.1⟩
    · exact ⟨(hbk i hi).1, (hbk i hi).2.1⟩
    · exact ⟨(hcl i hi).1, (hcl i hi).2.1⟩
    · exact ⟨hm.1, hm.2.1⟩
    · exact ⟨hrow.1, hrow.2.1⟩
    · exact ⟨(hwt i hi).1, (hwt i hi).2.1⟩
    · exact ⟨hq.1, hq.2.1⟩
    · exact ⟨hv1.1, hv1.2.1⟩
    · exact ⟨hv2.1, hv2.2.1⟩
    · exact ⟨hca.1, hca.2.1⟩
    · exact ⟨hba.1, hba.2.1⟩
    · exact ⟨hwa.1, hwa.2.1⟩
    · exact ⟨(hpl i hi).1, (hpl i hi).2.1⟩
  · rcases lvI hvi with ⟨rfl, hi | hi | hi | hi | hi⟩ | ⟨rfl, hi⟩ | ⟨rfl, hi⟩ | ⟨rfl, hi⟩ | ⟨rfl, hi⟩ | ⟨rfl, hi⟩ | ⟨rfl, hi⟩ | ⟨rfl, hi | hi⟩ | ⟨rfl, hi⟩ | ⟨rfl, hi⟩ | ⟨rfl, hi⟩ | ⟨rfl, hi⟩ <;> rcases lvI hvj with ⟨z, hj | hj | hj | hj | hj⟩ | ⟨z, hj⟩ | ⟨z, hj⟩ | ⟨z, hj⟩ | ⟨z, hj⟩ | ⟨z, hj⟩ | ⟨z, hj⟩ | ⟨z, hj | hj⟩ | ⟨z, hj⟩ | ⟨z, hj⟩ | ⟨z, hj⟩ | ⟨z, hj⟩ <;> first
      | exact absurd z (by decide)
      | exact hi.trans hj.symm
      | exact bki i j hi hj e
      | exact cli i j hi hj e
      | exact wti i j hi hj e
      | exact pli i j hi hj e
      | (subst hi; subst hj; first | exact absurd e n01 | exact absurd e.symm n01 | exact absurd e n20 | exact absurd e.symm n20 | exact absurd e n21 | exact absurd e.symm n21 | exact absurd e n2b1 | exact absurd e.symm n2b1 | exact absurd e n2b2 | exact absurd e.symm n2b2 | exact absurd e nb1 | exact absurd e.symm nb1 | exact absurd e nb2 | exact absurd e.symm nb2 | exact absurd e nb10 | exact absurd e.symm nb10 | exact absurd e nb20 | exact absurd e.symm nb20 | exact absurd e nb12 | exact absurd e.symm nb12 | exact absurd e nv12 | exact absurd e.symm nv12)
  · rcases lvI hl with ⟨rfl, -⟩ | ⟨rfl, hi⟩ | ⟨rfl, hi⟩ | ⟨rfl, rfl⟩ | ⟨rfl, rfl⟩ | ⟨rfl, hi⟩ | ⟨rfl, rfl⟩ | ⟨rfl, -⟩ | ⟨rfl, -⟩ | ⟨rfl, -⟩ | ⟨rfl, -⟩ | ⟨rfl, -⟩
    · omega
    · rcases (fty1 hj).2 with rfl | rfl | rfl
      · exact (hbk i hi).i (c := 64) (v := nI i) (by simp) rfl
      · exact (hbk i hi).i (c := 65) (v := 0) (by simp) nI_0
      · exact (hbk i hi).i (c := 66) (v := 0) (by simp) nI_0
    · rcases fty2 hj with ⟨-, rfl | rfl | rfl | rfl | rfl⟩ | ⟨z, -⟩
      · exact (hcl i hi).i (c := 128) (v := 0) (by simp) nI_0
      · exact (hcl i hi).i (c := 130) (v := 0) (by simp) nI_0
      · exact (hcl i hi).i (c := 131) (v := 0) (by simp) rfl
      · exact (hcl i hi).i (c := 132) (v := 0) (by simp) rfl
      · exact (hcl i hi).i (c := 133) (v := 0) (by simp) nI_0
      · exact absurd z (by decide)
    · rcases fty5 hj with ⟨-, rfl | rfl | rfl | rfl | rfl | rfl | rfl⟩ | ⟨z, -⟩
      · exact hm.i (c := 320) (v := nI 0) (by simp) rfl
      · exact hm.i (c := 321) (v := nI b) (by simp) rfl
      · exact hm.i (c := 327) (v := bI true) (by simp) rfl
      · exact hm.i (c := 328) (v := 0) (by simp) rfl
      · exact hm.i (c := 329) (v := 0) (by simp) nI_0
      · exact hm.i (c := 330) (v := 0) (by simp) nI_0
      · exact hm.i (c := 331) (v := 0) (by simp) nI_0
      · exact absurd z (by decide)
    · rcases fty7 hj with ⟨-, rfl⟩ | ⟨z, -⟩
      · exact hrow.i (c := 449) (v := 0) (by simp) nI_0
      · exact absurd z (by decide)
    · rcases fty9 hj with ⟨-, rfl | rfl | rfl | rfl | rfl⟩ | ⟨z, -⟩
      · exact (hwt i hi).i (c := 576) (v := nI i) (by simp) rfl
      · exact (hwt i hi).i (c := 577) (v := nI su) (by simp) rfl
      · exact (hwt i hi).i (c := 578) (v := nI uu) (by simp) rfl
      · exact (hwt i hi).i (c := 580) (v := 0) (by simp) nI_0
      · exact (hwt i hi).i (c := 581) (v := 0) (by simp) rfl
      · exact absurd z (by decide)
    · rcases fty10 hj with ⟨-, rfl | rfl | rfl | rfl | rfl⟩ | ⟨z, -⟩
      · exact hq.i (c := 640) (v := nI su) (by simp) rfl
      · exact hq.i (c := 641) (v := nI uu) (by simp) rfl
      · exact hq.i (c := 642) (v := nI b) (by simp) rfl
      · exact hq.i (c := 649) (v := 0) (by simp) nI_0
      · exact hq.i (c := 650) (v := 0) (by simp) nI_0
      · exact absurd z (by decide)
    all_goals omega
  · rcases lvI hl with ⟨rfl, -⟩ | ⟨rfl, hi⟩ | ⟨rfl, hi⟩ | ⟨rfl, rfl⟩ | ⟨rfl, rfl⟩ | ⟨rfl, hi⟩ | ⟨rfl, rfl⟩ | ⟨rfl, -⟩ | ⟨rfl, -⟩ | ⟨rfl, -⟩ | ⟨rfl, -⟩ | ⟨rfl, -⟩
    · omega
    · exact absurd (fty1 hj).1 (by decide)
    · rcases fty2 hj with ⟨z, -⟩ | ⟨-, rfl⟩
      · exact absurd z (by decide)
      · exact (hcl i hi).p (c := 129) (v := none) (by simp) rfl
    · rcases fty5 hj with ⟨z, -⟩ | ⟨-, rfl | rfl | rfl | rfl | rfl⟩
      · exact absurd z (by decide)
      · exact hm.p (c := 322) (v := some r) (by simp) rfl
      · exact hm.p (c := 323) (v := some b1) (by simp) rfl
      · exact hm.p (c := 324) (v := some b2) (by simp) rfl
      · exact hm.p (c := 325) (v := some v1) (by simp) rfl
      · exact hm.p (c := 326) (v := some v2) (by simp) rfl
    · rcases fty7 hj with ⟨z, -⟩ | ⟨-, rfl⟩
      · exact absurd z (by decide)
      · exact hrow.p (c := 448) (v := some l0) (by simp) rfl
    · rcases fty9 hj with ⟨z, -⟩ | ⟨-, rfl⟩
      · exact absurd z (by decide)
      · exact (hwt i hi).p (c := 579) (v := some (pl i)) (by simp) rfl
    · rcases fty10 hj with ⟨z, -⟩ | ⟨-, rfl | rfl | rfl | rfl | rfl | rfl⟩
      · exact absurd z (by decide)
      · exact hq.p (c := 643) (v := some r) (by simp) rfl
      · exact hq.p (c := 644) (v := some ca) (by simp) rfl
      · exact hq.p (c := 645) (v := some ba) (by simp) rfl
      · exact hq.p (c := 646) (v := some wa) (by simp) rfl
      · exact hq.p (c := 647) (v := some l1) (by simp) rfl
      · exact hq.p (c := 648) (v := some l2) (by simp) rfl
    all_goals omega
  · rcases lvI hl with ⟨rfl, -⟩ | ⟨rfl, hi⟩ | ⟨rfl, hi⟩ | ⟨rfl, rfl⟩ | ⟨rfl, rfl⟩ | ⟨rfl, hi⟩ | ⟨rfl, rfl⟩ | ⟨rfl, rfl | rfl⟩ | ⟨rfl, rfl⟩ | ⟨rfl, rfl⟩ | ⟨rfl, rfl⟩ | ⟨rfl, hi⟩
    all_goals first | omega | skip
    · exact hv1.2.2.1
    · exact hv2.2.2.1
    · exact hca.2.2.1
    · exact hba.2.2.1
    · exact hwa.2.2.1
    · exact (hpl i hi).2.2.1
  · have hi : i < 2 * 1 := hl
    have hi2 : i = 0 ∨ i = 1 := by omega
    rcases hi2 with rfl | rfl
    · exact hv1.2.2.2 k hk
    · exact hv2.2.2.2 k hk
  · rcases lvI hl with ⟨rfl, -⟩ | ⟨rfl, hi⟩ | ⟨rfl, hi⟩ | ⟨rfl, rfl⟩ | ⟨rfl, rfl⟩ | ⟨rfl, hi⟩ | ⟨rfl, rfl⟩ | ⟨rfl, -⟩ | ⟨rfl, rfl⟩ | ⟨rfl, rfl⟩ | ⟨rfl, rfl⟩ | ⟨rfl, hi⟩
    all_goals first | omega | skip
    · exact hca.2.2.2 k hk
    · exact hba.2.2.2 k hk
    · exact hwa.2.2.2 k hk
    · exact (hpl i hi).2.2.2 k hk
  · have key : ∀ {x : Nat}, ob T x 0 [(2, nI 0)] [(1, some (tc 100))] → LX tc T x (tc 100) 0 0 := fun hx => LX_0 hx
    rcases lvI hl with ⟨-, rfl | rfl | rfl | rfl | rfl⟩ | ⟨z, -⟩ | ⟨z, -⟩ | ⟨z, -⟩ | ⟨z, -⟩ | ⟨z, -⟩ | ⟨z, -⟩ | ⟨z, -⟩ | ⟨z, -⟩ | ⟨z, -⟩ | ⟨z, -⟩ | ⟨z, -⟩
    · exact ⟨key hl0, fun k hk => absurd hk (Nat.not_lt_zero _)⟩
    · refine ⟨⟨hl1.1, hl1.2.1, hl1.p (c := 1) (v := some t9) (by simp) rfl, hl1.i (c := 2) (v := nI 1) (by simp) rfl, (by show 1 ≤ 10; decide), (by show 10 < 1000; decide), Or.inr ⟨(by show 0 < 10; decide), ht.1, ht.2.1, ht.2.2.1⟩⟩, fun k hk => ?_⟩
      have hk1 : k < 1 := hk
      have hk0 : k = 0 := by omega
      subst hk0
      exact ht.2.2.2 0 (by decide)
    · exact ⟨key hl2, fun k hk => absurd hk (Nat.not_lt_zero _)⟩
    · exact ⟨key hb1, fun k hk => absurd hk (Nat.not_lt_zero _)⟩
    · exact ⟨key hb2, fun k hk => absurd hk (Nat.not_lt_zero _)⟩
    all_goals exact absurd z (by decide)
  · have f : ∀ i, (if i = 1 then 10 else 0) ≠ 0 → i = 1 := fun i hi => by
      by_cases y : i = 1
      · exact y
      · rw [if_neg y] at hi
        exact absurd rfl hi
    exact (f i e1).trans (f j e2).symm
  · refine ⟨⟨hF.1, hF.2, hsu.1, hsu.2, huu.1, huu.2⟩, ⟨Nat.le_refl _, by show 1 ≤ 12; decide, Nat.le_refl _, by show 0 ≤ 600; decide, by show 0 ≤ 250; decide⟩, fun e he => ⟨Nat.zero_le _, Nat.zero_le _⟩, fun i hi => Nat.zero_le _, fun i hl => absurd hl.2 (Nat.not_lt_zero _), fun i hl => absurd hl (Nat.not_lt_zero _), fun i hl => absurd hl.2 (Nat.not_lt_zero _), fun w k hw hk => Nat.zero_le _⟩
