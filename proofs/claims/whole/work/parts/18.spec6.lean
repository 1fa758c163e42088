/-! an ACK at a master, stage by stage -/
def kR (A B : TS) : Prop := (∀ j, j ≠ 53 → j ≠ 54 → tf B j = tf A j) ∧ tf B 53 ≤ 250 ∧ (∀ j i, j < 45 → j ≠ 28 → j ≠ 32 → j ≠ 36 → tn B j i = tn A j i) ∧ (∀ j i, j < 45 → tr B j i = tr A j i) ∧ (∀ j i, j < 45 → j ≠ 31 → tb B j i = tb A j i)
theorem kR.rfl {A : TS} (h : tf A 53 ≤ 250) : kR A A := ⟨fun _ _ _ => Eq.refl _, h, fun _ _ _ _ _ _ => Eq.refl _, fun _ _ _ => Eq.refl _, fun _ _ _ _ => Eq.refl _⟩
theorem kR.keep {A B C : TS} (h : kR A B) (k : keepL B C) (hl : tf C 53 ≤ 250) : kR A C := ⟨fun j a b => (k.1 j a b).trans (h.1 j a b), hl, fun j i a b c d => (k.2.1 j i a).trans (h.2.2.1 j i a b c d), fun j i a => (k.2.2.1 j i a).trans (h.2.2.2.1 j i a), fun j i a b => (k.2.2.2 j i a).trans (h.2.2.2.2 j i a b)⟩
theorem kR.sn {A B : TS} (h : kR A B) {j i v : Nat} (hj : j = 28 ∨ j = 32 ∨ j = 36) : kR A (sn B j i v) := ⟨h.1, h.2.1, fun x y a b c d => by rw [tn_sn, if_neg (by omega)]; exact h.2.2.1 x y a b c d, h.2.2.2.1, h.2.2.2.2⟩
theorem kR.sb {A B : TS} (h : kR A B) {i : Nat} {v : Bool} : kR A (sb B 31 i v) := ⟨h.1, h.2.1, h.2.2.1, h.2.2.2.1, fun x y a b => by rw [tb_sb, if_neg (by omega)]; exact h.2.2.2.2 x y a b⟩
theorem kR.send {A B : TS} (h : kR A B) {so e to op n c : Nat} {v : Int32} {b : Bool} : kR A (sendF B so e to op n c v b) := h.keep (send_keep ..) (send_le _ _ _ _ _ _ _ _ h.2.1)
def raA (A : TS) (e b n : Nat) : TS := if tn A 32 (3 * e + b) ≤ n then sn A 32 (3 * e + b) (n + 1) else A
theorem raA_kR {A : TS} {e b n : Nat} (h : tf A 53 ≤ 250) : kR A (raA A e b n) := by unfold raA; split <;> first | exact (kR.rfl h).sn (Or.inr (Or.inl (Eq.refl _))) | exact kR.rfl h
theorem raA_NB {K : Nat} {A : TS} {e b n : Nat} (h : NB K A) (hn : n + 1 ≤ K) : NB K (raA A e b n) := by unfold raA; split <;> first | exact h.sn hn | exact h
theorem raA_36 {A : TS} {e b n i : Nat} : tn (raA A e b n) 36 i = tn A 36 i := by unfold raA; split <;> first | (rw [tn_sn, if_neg (by omega)]) | rfl
theorem raA_28 {A : TS} {e b n i : Nat} : tn (raA A e b n) 28 i = tn A 28 i := by unfold raA; split <;> first | (rw [tn_sn, if_neg (by omega)]) | rfl
def awS (e b c k : Nat) (G : TS) : TS := if tn G 35 (600 * e + k) ≤ c then sn G 36 (600 * e + k) (tn G 36 (600 * e + k) ||| 2 ^ b) else G
def awL (A : TS) (e b c : Nat) : Nat → TS
  | 0 => A
  | k + 1 => awS e b c k (awL A e b c k)
theorem awL_inv {A0 A : TS} {e b c K : Nat} (hb : b < 3) (h8 : ∀ i, tn A 36 i < 8) (hk : kR A0 A) (hB : NB K A) (hK : 8 ≤ K) : ∀ k, kR A0 (awL A e b c k) ∧ NB K (awL A e b c k) ∧ (∀ i, tn (awL A e b c k) 36 i < 8) ∧ (∀ j i, j ≠ 36 → tn (awL A e b c k) j i = tn A j i) ∧ (∀ j i, tb (awL A e b c k) j i = tb A j i)
  | 0 => ⟨hk, hB, h8, fun _ _ _ => rfl, fun _ _ => rfl⟩
  | k + 1 => by
    obtain ⟨h1, h2, h3, h4, h5⟩ := awL_inv (e := e) (c := c) hb h8 hk hB hK k
    unfold awL awS
    generalize awL A e b c k = G at *
    split
    · have o := Nat.or_lt_two_pow (n := 3) (h3 (600 * e + k)) (show 2 ^ b < 2 ^ 3 by have := pow2 hb; omega)
      refine ⟨h1.sn (Or.inr (Or.inr rfl)), h2.sn (by omega), fun i => ?_, fun j i q => ?_, h5⟩
      · rw [tn_sn]; split <;> first | exact o | exact h3 i
      · rw [tn_sn, if_neg (by omega)]; exact h4 j i q
    · exact ⟨h1, h2, h3, h4, h5⟩
def raC (B : TS) (e lk : Nat) : TS := sn B 28 e (if tn B 28 e + 1 < lk then lk - 1 else tn B 28 e)
def aaS (e i : Nat) (G : TS) : TS := if tb G 24 (600 * e + i) = true ∨ tb G 25 (600 * e + i) = true then ansF G e (tn G 22 (600 * e + i)) (tr G 23 (600 * e + i)) true else G
def aaL (A : TS) (e s : Nat) : Nat → TS
  | 0 => A
  | j + 1 => aaS e (s + j) (aaL A e s j)
theorem aaL_keep {A : TS} {e s : Nat} (h : tf A 53 ≤ 250) : ∀ j, keepL A (aaL A e s j) ∧ tf (aaL A e s j) 53 ≤ 250
  | 0 => ⟨keepL.rfl, h⟩
  | j + 1 => by
    obtain ⟨h1, h2⟩ := aaL_keep (e := e) (s := s) h j
    unfold aaL aaS
    split
    · exact ⟨h1.trans (ans_keep ..), send_le _ _ _ _ _ _ _ _ h2⟩
    · exact ⟨h1, h2⟩
theorem aaL_NB {K : Nat} {A : TS} {e s : Nat} (h : NB K A) (h9 : 7300 ≤ K) (he : e < 12) (hop : ∀ i, tn A 22 i ≤ 600) : ∀ j, NB (K + j) (aaL A e s j) ∧ ∀ i, tn (aaL A e s j) 22 i ≤ 600
  | 0 => ⟨h, hop⟩
  | j + 1 => by
    obtain ⟨h1, h2⟩ := aaL_NB (s := s) h h9 he hop j
    unfold aaL aaS
    generalize aaL A e s j = G at *
    have o := h2 (600 * e + (s + j))
    have a5 := h1.2 5 (tn G 22 (600 * e + (s + j)))
    have a6 := h1.2 6 (tn G 22 (600 * e + (s + j)))
    split
    · exact ⟨h1.send (by omega) (by omega) (by omega) (by omega) (by omega) (by omega) (by omega), fun i => by rw [(ans_keep ..).2.1 22 i (by decide)]; exact h2 i⟩
    · exact ⟨h1.mono (by omega), h2⟩
def raE (G : TS) (e lk : Nat) : TS := if tb G 31 e = false ∧ lk ≠ 0 ∧ tn G 27 e ≤ tn G 28 e then (if 0 < e then resF (sb G 31 e true) e else sb G 31 e true) else G
theorem res_kR {A B : TS} (h : kR A B) {e : Nat} : kR A (resF B e) := h.keep (resL_keep ..) (resL_le h.2.1 _)
theorem raE_kR {A G : TS} (h : kR A G) {e lk : Nat} : kR A (raE G e lk) := by
  unfold raE
  split
  · split
    · exact res_kR h.sb
    · exact h.sb
  · exact h
theorem raE_NB {K : Nat} {G : TS} {e lk : Nat} (h : NB K G) (he : e ≤ K) (h9 : 9 ≤ K) (hf : tf G 1 ≤ 3) : NB (K + 3) (raE G e lk) := by
  unfold raE
  split
  · split
    · exact resL_NB (A := sb G 31 e true) h he h9 _ hf
    · exact NB.mono (A := sb G 31 e true) h (by omega)
  · exact h.mono (by omega)
theorem raE_28 {G : TS} {e lk i : Nat} : tn (raE G e lk) 28 i = tn G 28 i := by
  unfold raE
  split
  · split
    · exact (resL_keep ..).2.1 28 i (by decide)
    · rfl
  · rfl
def gsL (A : TS) (e : Nat) : Nat → TS
  | 0 => A
  | w + 1 => sendF (gsL A e w) 8 e w 0 (tn (gsL A e w) 28 e) 0 (nI 0) false
theorem gsL_keep {A : TS} {e : Nat} (h : tf A 53 ≤ 250) : ∀ j, keepL A (gsL A e j) ∧ tf (gsL A e j) 53 ≤ 250
  | 0 => ⟨keepL.rfl, h⟩
  | j + 1 => ⟨(gsL_keep h j).1.trans (send_keep ..), send_le _ _ _ _ _ _ _ _ (gsL_keep h j).2⟩
theorem gsL_NB {K : Nat} {A : TS} {e : Nat} (h : NB K A) (he : e ≤ K) (h9 : 9 ≤ K) : ∀ b, NB (K + b) (gsL A e b)
  | 0 => h
  | b + 1 => by
    have h1 := gsL_NB h he h9 b
    have a := h1.2 28 e
    exact h1.send (by omega) (by omega) (by omega) (by omega) (by omega) (by omega) (by omega)
def raG (G : TS) (e was : Nat) : TS := if was < tn G 28 e then gsL G e (tf G 1) else G
theorem raG_kR {A G : TS} (h : kR A G) {e w : Nat} : kR A (raG G e w) := by
  unfold raG
  split
  · exact h.keep (gsL_keep h.2.1 _).1 (gsL_keep h.2.1 _).2
  · exact h
theorem raG_NB {K : Nat} {G : TS} {e w : Nat} (h : NB K G) (he : e ≤ K) (h9 : 9 ≤ K) (hf : tf G 1 ≤ 3) : NB (K + 3) (raG G e w) := by
  unfold raG
  split
  · exact (gsL_NB h he h9 _).mono (by omega)
  · exact h.mono (by omega)
def raB (A : TS) (e b n c : Nat) : TS := awL (raA A e b n) e b c (tn (raA A e b n) 37 e)
def raD (G : TS) (e was : Nat) : TS := aaL G e was (tn G 28 e - was)
def ackX (B : TS) (e lk : Nat) : TS := raG (raE (raD (raC B e lk) e (tn B 28 e)) e lk) e (tn B 28 e)
def ackF (A : TS) (e b n c : Nat) : TS := agF (ackX (raB A e b n c) e (lkF (raB A e b n c) e (tf (raB A e b n c) 1 - 1))) e
