/-! ===== what holds of the state all the time ===== -/
/-- B differs from A in these rows at most (rows below 45) -/
def df (B A : TS) (F N R T : List Nat) : Prop := (∀ j, j ∉ F → tf B j = tf A j) ∧ (∀ j, j < 45 → j ∉ N → ∀ i, tn B j i = tn A j i) ∧ (∀ j, j < 45 → j ∉ R → ∀ i, tr B j i = tr A j i) ∧ (∀ j, j < 45 → j ∉ T → ∀ i, tb B j i = tb A j i)
theorem df.rfl {A : TS} : df A A [] [] [] [] := ⟨fun _ _ => Eq.refl _, fun _ _ _ _ => Eq.refl _, fun _ _ _ _ => Eq.refl _, fun _ _ _ _ => Eq.refl _⟩
theorem df.trans {A B C : TS} {F N R T F' N' R' T' : List Nat} (h : df C B F N R T) (k : df B A F' N' R' T') : df C A (F ++ F') (N ++ N') (R ++ R') (T ++ T') := by
  refine ⟨fun j hj => ?_, fun j h4 hj i => ?_, fun j h4 hj i => ?_, fun j h4 hj i => ?_⟩
  · rw [List.mem_append, not_or] at hj; exact (h.1 j hj.1).trans (k.1 j hj.2)
  · rw [List.mem_append, not_or] at hj; exact (h.2.1 j h4 hj.1 i).trans (k.2.1 j h4 hj.2 i)
  · rw [List.mem_append, not_or] at hj; exact (h.2.2.1 j h4 hj.1 i).trans (k.2.2.1 j h4 hj.2 i)
  · rw [List.mem_append, not_or] at hj; exact (h.2.2.2 j h4 hj.1 i).trans (k.2.2.2 j h4 hj.2 i)
theorem df.mono {A B : TS} {F N R T F' N' R' T' : List Nat} (h : df B A F N R T) (h1 : ∀ j ∈ F, j ∈ F') (h2 : ∀ j ∈ N, j ∈ N') (h3 : ∀ j ∈ R, j ∈ R') (h4 : ∀ j ∈ T, j ∈ T') : df B A F' N' R' T' := ⟨fun j hj => h.1 j (fun z => hj (h1 j z)), fun j a hj => h.2.1 j a (fun z => hj (h2 j z)), fun j a hj => h.2.2.1 j a (fun z => hj (h3 j z)), fun j a hj => h.2.2.2 j a (fun z => hj (h4 j z))⟩
theorem df_sf {A : TS} {j v : Nat} : df (sf A j v) A [j] [] [] [] := ⟨fun x hx => by rw [tf_sf, if_neg (fun z => hx (by rw [z]; exact List.mem_singleton.mpr (Eq.refl _)))], fun _ _ _ _ => Eq.refl _, fun _ _ _ _ => Eq.refl _, fun _ _ _ _ => Eq.refl _⟩
theorem df_sn {A : TS} {j x v : Nat} : df (sn A j x v) A [] [j] [] [] := ⟨fun _ _ => Eq.refl _, fun y _ hy i => by rw [tn_sn, if_neg (fun z => hy (by rw [z.1]; exact List.mem_singleton.mpr (Eq.refl _)))], fun _ _ _ _ => Eq.refl _, fun _ _ _ _ => Eq.refl _⟩
theorem df_sr {A : TS} {j x : Nat} {v : Int32} : df (sr A j x v) A [] [] [j] [] := ⟨fun _ _ => Eq.refl _, fun _ _ _ _ => Eq.refl _, fun y _ hy i => by rw [tr_sr, if_neg (fun z => hy (by rw [z.1]; exact List.mem_singleton.mpr (Eq.refl _)))], fun _ _ _ _ => Eq.refl _⟩
theorem df_sb {A : TS} {j x : Nat} {v : Bool} : df (sb A j x v) A [] [] [] [j] := ⟨fun _ _ => Eq.refl _, fun _ _ _ _ => Eq.refl _, fun _ _ _ _ => Eq.refl _, fun y _ hy i => by rw [tb_sb, if_neg (fun z => hy (by rw [z.1]; exact List.mem_singleton.mpr (Eq.refl _)))]⟩
theorem keepL.df {A B : TS} (h : keepL A B) : df B A [53, 54] [] [] [] := ⟨fun j hj => h.1 j (fun z => hj (by rw [z]; decide)) (fun z => hj (by rw [z]; decide)), fun j a _ i => h.2.1 j i a, fun j a _ i => h.2.2.1 j i a, fun j a _ i => h.2.2.2 j i a⟩
def iNum (A : TS) : Prop := tf A 5 = tf A 38 ∧ tf A 6 = tf A 13 ∧ 1 ≤ tf A 38 ∧ tf A 38 ≤ 12 ∧ tf A 13 ≤ 600 ∧ tf A 53 ≤ 250 ∧ 1 ≤ tf A 1 ∧ tf A 1 ≤ 3 ∧ 1 ≤ tf A 2 ∧ tf A 2 ≤ 4 ∧ 1 ≤ tf A 3 ∧ tf A 3 ≤ 4 ∧ tf A 4 ≤ 10
def iOps (A : TS) : Prop := (∀ i, i < tf A 13 → tn A 11 i ≠ 1) ∧ (∀ i, tn A 8 i < 16) ∧ (∀ i, i < tf A 13 → tn A 5 i < 4) ∧ (∀ i j, i < j → j < tf A 13 → tn A 5 i = tn A 5 j → tn A 6 i < tn A 6 j) ∧ (∀ i, tf A 13 ≤ i → tr A 12 i = 0) ∧ (∀ i, i < tf A 13 → tn A 11 i = 0 → tr A 12 i = 0)
def iCli (A : TS) : Prop := ∀ c, c < 4 → tn A 16 c ≤ tf A 13 ∧ (tn A 16 c ≠ 0 → tn A 5 (tn A 16 c - 1) = c) ∧ (∀ i, i < tf A 13 → tn A 5 i = c → i < tn A 16 c) ∧ tn A 17 c < tf A 38
def i18 (A : TS) : Prop := ∀ c, tn A 18 c < 2 ^ tf A 1
def asF (A : TS) (e op k : Nat) : Int32 := if tn A 7 op = 0 then vaF A e (tn A 8 op) k else vaF A e (tn A 8 op) k + tr A 9 op
def iLog (A : TS) : Prop := (∀ i, tn A 22 i ≤ 600) ∧ ∀ e, e < tf A 38 → LogOK A e ∧ tn A 28 e ≤ tn A 26 e ∧ ∀ k, k < tn A 26 e → tn A 7 (tn A 22 (600 * e + k)) ≠ 2 ∧ tr A 23 (600 * e + k) = asF A e (tn A 22 (600 * e + k)) k
def iVal (A : TS) : Prop := ∀ e ky, e < tf A 38 → ky < 16 → tr A 3 (16 * e + ky) = vaF A e ky (tn A 26 e)
def iGet (A : TS) : Prop := (∀ i, tn A 33 i ≤ 600) ∧ (∀ i, tn A 36 i < 2 ^ tf A 1) ∧ ∀ e, e < tf A 38 → (∀ k, k < tn A 37 e → tn A 33 (600 * e + k) < tf A 13 ∧ tn A 34 (600 * e + k) ≤ tn A 26 e ∧ tr A 2 (600 * e + k) = vaF A e (tn A 8 (tn A 33 (600 * e + k))) (tn A 34 (600 * e + k))) ∧ (∀ i j, i < tn A 37 e → j < tn A 37 e → tn A 33 (600 * e + i) = tn A 33 (600 * e + j) → i = j)
def iSyn (A : TS) : Prop := ∀ e, e < tf A 38 → (∀ b, b < tf A 1 → tn A 32 (3 * e + b) ≤ tn A 26 e + 1) ∧ tn A 28 e = lkF A e (tf A 1 - 1) - 1
def iBak (A : TS) : Prop := ∀ b, b < tf A 1 → tn A 39 b < tf A 38 ∧ tn A 40 b ≤ tn A 26 (tn A 39 b)
def LET (A : TS) (s e to op n c : Nat) : Prop := s < 10 ∧ e < tf A 38 ∧ (s < 6 → 1 ≤ op ∧ op ≤ tf A 13) ∧ (6 ≤ s → op = 0) ∧ (s = 1 → to < tf A 1 ∧ tn A 7 (op - 1) ≠ 2) ∧ (2 ≤ s → s ≤ 4 → to = tn A 5 (op - 1)) ∧ (2 ≤ s → s ≤ 4 → c < tf A 1) ∧ (6 ≤ s → to < tf A 1) ∧ (s = 6 ∨ s = 7 → n ≤ tn A 26 e)
def iLet (A : TS) : Prop := ∀ k, k < tf A 53 → LET A (tn A 45 k) (tn A 46 k) (tn A 47 k) (tn A 48 k) (tn A 49 k) (tn A 50 k)
def iDed (A : TS) : Prop := (∀ e, tf A 38 ≤ e → tn A 26 e = 0 ∧ tn A 27 e = 0 ∧ tn A 28 e = 0 ∧ tn A 29 e = 0 ∧ tn A 37 e = 0 ∧ tb A 31 e = false) ∧ ∀ i, 600 * tf A 38 ≤ i → tb A 24 i = false ∧ tb A 25 i = false
def iWit (A : TS) : Prop := ∀ w, w < tf A 1 → (∀ k, k < tn A 44 w → tn A 43 (16 * w + k) < tf A 13 ∧ ∃ i, i < tf A 2 * tf A 3 ∧ tn A 1 (16 * w + i) = tn A 43 (16 * w + k) + 1) ∧ (∀ i, i < tf A 2 * tf A 3 → tn A 1 (16 * w + i) ≠ 0 → (∃ k, k < tn A 44 w ∧ tn A 43 (16 * w + k) + 1 = tn A 1 (16 * w + i)) ∧ tn A 7 (tn A 1 (16 * w + i) - 1) ≠ 2 ∧ i / tf A 3 = tn A 8 (tn A 1 (16 * w + i) - 1) % tf A 2) ∧ (∀ i j, i < tf A 2 * tf A 3 → j < tf A 2 * tf A 3 → tn A 1 (16 * w + i) ≠ 0 → tn A 1 (16 * w + j) ≠ 0 → tn A 8 (tn A 1 (16 * w + i) - 1) = tn A 8 (tn A 1 (16 * w + j) - 1) → i = j) ∧ (∀ k l, k < tn A 44 w → l < tn A 44 w → tn A 43 (16 * w + k) = tn A 43 (16 * w + l) → k = l)
def iAns (A : TS) : Prop := ∀ c, c < 4 → tb A 19 c = true → tr A 1 c = tr A 20 c
def INV (K : Nat) (A : TS) : Prop := iNum A ∧ iOps A ∧ iCli A ∧ i18 A ∧ iLog A ∧ iVal A ∧ iGet A ∧ iSyn A ∧ iBak A ∧ iLet A ∧ iDed A ∧ iWit A ∧ iAns A ∧ NB K A ∧ 7300 ≤ K
theorem vaF_same {A B : TS} (h22 : ∀ i, tn B 22 i = tn A 22 i) (h7 : ∀ i, tn B 7 i = tn A 7 i) (h8 : ∀ i, tn B 8 i = tn A 8 i) (h9 : ∀ i, tr B 9 i = tr A 9 i) (e ky : Nat) : ∀ n, vaF B e ky n = vaF A e ky n
  | 0 => rfl
  | n + 1 => by unfold vaF; rw [h22, h7, h8, h9, vaF_same h22 h7 h8 h9 e ky n]
theorem lkF_same {A B : TS} (h : ∀ i, tn B 32 i = tn A 32 i) (e : Nat) : ∀ n, lkF B e n = lkF A e n
  | 0 => h _
  | n + 1 => by unfold lkF; rw [h, lkF_same h e n]
section
variable {A B : TS} {F N R T : List Nat}
theorem iOps.df (h : df B A F N R T) (hF : ∀ j ∈ ([13] : List Nat), j ∉ F) (hN : ∀ j ∈ ([5, 6, 8, 11] : List Nat), j ∉ N) (hR : ∀ j ∈ ([12] : List Nat), j ∉ R) (k : iOps A) : iOps B := by
  have f13 : tf B 13 = tf A 13 := h.1 13 (hF _ (by decide))
  have n5 : ∀ i, tn B 5 i = tn A 5 i := h.2.1 5 (by decide) (hN _ (by decide))
  have n6 : ∀ i, tn B 6 i = tn A 6 i := h.2.1 6 (by decide) (hN _ (by decide))
  have n8 : ∀ i, tn B 8 i = tn A 8 i := h.2.1 8 (by decide) (hN _ (by decide))
  have n11 : ∀ i, tn B 11 i = tn A 11 i := h.2.1 11 (by decide) (hN _ (by decide))
  have r12 : ∀ i, tr B 12 i = tr A 12 i := h.2.2.1 12 (by decide) (hR _ (by decide))
  simp only [iOps, f13, n5, n6, n8, n11, r12] at k ⊢
  exact k
theorem iCli.df (h : df B A F N R T) (hF : ∀ j ∈ ([13, 38] : List Nat), j ∉ F) (hN : ∀ j ∈ ([5, 16, 17] : List Nat), j ∉ N) (k : iCli A) : iCli B := by
  have f13 : tf B 13 = tf A 13 := h.1 13 (hF _ (by decide))
  have f38 : tf B 38 = tf A 38 := h.1 38 (hF _ (by decide))
  have n5 : ∀ i, tn B 5 i = tn A 5 i := h.2.1 5 (by decide) (hN _ (by decide))
  have n16 : ∀ i, tn B 16 i = tn A 16 i := h.2.1 16 (by decide) (hN _ (by decide))
  have n17 : ∀ i, tn B 17 i = tn A 17 i := h.2.1 17 (by decide) (hN _ (by decide))
  simp only [iCli, f13, f38, n5, n16, n17] at k ⊢
  exact k
theorem i18.df (h : df B A F N R T) (hF : ∀ j ∈ ([1] : List Nat), j ∉ F) (hN : ∀ j ∈ ([18] : List Nat), j ∉ N) (k : i18 A) : i18 B := by
  have f1 : tf B 1 = tf A 1 := h.1 1 (hF _ (by decide))
  have n18 : ∀ i, tn B 18 i = tn A 18 i := h.2.1 18 (by decide) (hN _ (by decide))
  simp only [i18, f1, n18] at k ⊢
  exact k
theorem iLog.df (h : df B A F N R T) (hF : ∀ j ∈ ([13, 38] : List Nat), j ∉ F) (hN : ∀ j ∈ ([7, 8, 22, 26, 28] : List Nat), j ∉ N) (hR : ∀ j ∈ ([9, 23] : List Nat), j ∉ R) (k : iLog A) : iLog B := by
  have f13 : tf B 13 = tf A 13 := h.1 13 (hF _ (by decide))
  have f38 : tf B 38 = tf A 38 := h.1 38 (hF _ (by decide))
  have n7 : ∀ i, tn B 7 i = tn A 7 i := h.2.1 7 (by decide) (hN _ (by decide))
  have n8 : ∀ i, tn B 8 i = tn A 8 i := h.2.1 8 (by decide) (hN _ (by decide))
  have n22 : ∀ i, tn B 22 i = tn A 22 i := h.2.1 22 (by decide) (hN _ (by decide))
  have n26 : ∀ i, tn B 26 i = tn A 26 i := h.2.1 26 (by decide) (hN _ (by decide))
  have n28 : ∀ i, tn B 28 i = tn A 28 i := h.2.1 28 (by decide) (hN _ (by decide))
  have r9 : ∀ i, tr B 9 i = tr A 9 i := h.2.2.1 9 (by decide) (hR _ (by decide))
  have r23 : ∀ i, tr B 23 i = tr A 23 i := h.2.2.1 23 (by decide) (hR _ (by decide))
  have hv : ∀ e ky n, vaF B e ky n = vaF A e ky n := fun e ky n => vaF_same n22 n7 n8 r9 e ky n
  simp only [iLog, asF, LogOK, f13, f38, n7, n8, n22, n26, n28, r9, r23, hv] at k ⊢
  exact k
theorem iVal.df (h : df B A F N R T) (hF : ∀ j ∈ ([38] : List Nat), j ∉ F) (hN : ∀ j ∈ ([7, 8, 22, 26] : List Nat), j ∉ N) (hR : ∀ j ∈ ([3, 9] : List Nat), j ∉ R) (k : iVal A) : iVal B := by
  have f38 : tf B 38 = tf A 38 := h.1 38 (hF _ (by decide))
  have n7 : ∀ i, tn B 7 i = tn A 7 i := h.2.1 7 (by decide) (hN _ (by decide))
  have n8 : ∀ i, tn B 8 i = tn A 8 i := h.2.1 8 (by decide) (hN _ (by decide))
  have n22 : ∀ i, tn B 22 i = tn A 22 i := h.2.1 22 (by decide) (hN _ (by decide))
  have n26 : ∀ i, tn B 26 i = tn A 26 i := h.2.1 26 (by decide) (hN _ (by decide))
  have r3 : ∀ i, tr B 3 i = tr A 3 i := h.2.2.1 3 (by decide) (hR _ (by decide))
  have r9 : ∀ i, tr B 9 i = tr A 9 i := h.2.2.1 9 (by decide) (hR _ (by decide))
  have hv : ∀ e ky n, vaF B e ky n = vaF A e ky n := fun e ky n => vaF_same n22 n7 n8 r9 e ky n
  simp only [iVal, f38, n7, n8, n22, n26, r3, r9, hv] at k ⊢
  exact k
theorem iGet.df (h : df B A F N R T) (hF : ∀ j ∈ ([1, 13, 38] : List Nat), j ∉ F) (hN : ∀ j ∈ ([7, 8, 22, 26, 33, 34, 36, 37] : List Nat), j ∉ N) (hR : ∀ j ∈ ([2, 9] : List Nat), j ∉ R) (k : iGet A) : iGet B := by
  have f1 : tf B 1 = tf A 1 := h.1 1 (hF _ (by decide))
  have f13 : tf B 13 = tf A 13 := h.1 13 (hF _ (by decide))
  have f38 : tf B 38 = tf A 38 := h.1 38 (hF _ (by decide))
  have n7 : ∀ i, tn B 7 i = tn A 7 i := h.2.1 7 (by decide) (hN _ (by decide))
  have n8 : ∀ i, tn B 8 i = tn A 8 i := h.2.1 8 (by decide) (hN _ (by decide))
  have n22 : ∀ i, tn B 22 i = tn A 22 i := h.2.1 22 (by decide) (hN _ (by decide))
  have n26 : ∀ i, tn B 26 i = tn A 26 i := h.2.1 26 (by decide) (hN _ (by decide))
  have n33 : ∀ i, tn B 33 i = tn A 33 i := h.2.1 33 (by decide) (hN _ (by decide))
  have n34 : ∀ i, tn B 34 i = tn A 34 i := h.2.1 34 (by decide) (hN _ (by decide))
  have n36 : ∀ i, tn B 36 i = tn A 36 i := h.2.1 36 (by decide) (hN _ (by decide))
  have n37 : ∀ i, tn B 37 i = tn A 37 i := h.2.1 37 (by decide) (hN _ (by decide))
  have r2 : ∀ i, tr B 2 i = tr A 2 i := h.2.2.1 2 (by decide) (hR _ (by decide))
  have r9 : ∀ i, tr B 9 i = tr A 9 i := h.2.2.1 9 (by decide) (hR _ (by decide))
  have hv : ∀ e ky n, vaF B e ky n = vaF A e ky n := fun e ky n => vaF_same n22 n7 n8 r9 e ky n
  simp only [iGet, f1, f13, f38, n7, n8, n22, n26, n33, n34, n36, n37, r2, r9, hv] at k ⊢
  exact k
theorem iSyn.df (h : df B A F N R T) (hF : ∀ j ∈ ([1, 38] : List Nat), j ∉ F) (hN : ∀ j ∈ ([26, 28, 32] : List Nat), j ∉ N) (k : iSyn A) : iSyn B := by
  have f1 : tf B 1 = tf A 1 := h.1 1 (hF _ (by decide))
  have f38 : tf B 38 = tf A 38 := h.1 38 (hF _ (by decide))
  have n26 : ∀ i, tn B 26 i = tn A 26 i := h.2.1 26 (by decide) (hN _ (by decide))
  have n28 : ∀ i, tn B 28 i = tn A 28 i := h.2.1 28 (by decide) (hN _ (by decide))
  have n32 : ∀ i, tn B 32 i = tn A 32 i := h.2.1 32 (by decide) (hN _ (by decide))
  have hl : ∀ e n, lkF B e n = lkF A e n := fun e n => lkF_same n32 e n
  simp only [iSyn, f1, f38, n26, n28, n32, hl] at k ⊢
  exact k
theorem iBak.df (h : df B A F N R T) (hF : ∀ j ∈ ([1, 38] : List Nat), j ∉ F) (hN : ∀ j ∈ ([26, 39, 40] : List Nat), j ∉ N) (k : iBak A) : iBak B := by
  have f1 : tf B 1 = tf A 1 := h.1 1 (hF _ (by decide))
  have f38 : tf B 38 = tf A 38 := h.1 38 (hF _ (by decide))
  have n26 : ∀ i, tn B 26 i = tn A 26 i := h.2.1 26 (by decide) (hN _ (by decide))
  have n39 : ∀ i, tn B 39 i = tn A 39 i := h.2.1 39 (by decide) (hN _ (by decide))
  have n40 : ∀ i, tn B 40 i = tn A 40 i := h.2.1 40 (by decide) (hN _ (by decide))
  simp only [iBak, f1, f38, n26, n39, n40] at k ⊢
  exact k
theorem iDed.df (h : df B A F N R T) (hF : ∀ j ∈ ([38] : List Nat), j ∉ F) (hN : ∀ j ∈ ([26, 27, 28, 29, 37] : List Nat), j ∉ N) (hT : ∀ j ∈ ([24, 25, 31] : List Nat), j ∉ T) (k : iDed A) : iDed B := by
  have f38 : tf B 38 = tf A 38 := h.1 38 (hF _ (by decide))
  have n26 : ∀ i, tn B 26 i = tn A 26 i := h.2.1 26 (by decide) (hN _ (by decide))
  have n27 : ∀ i, tn B 27 i = tn A 27 i := h.2.1 27 (by decide) (hN _ (by decide))
  have n28 : ∀ i, tn B 28 i = tn A 28 i := h.2.1 28 (by decide) (hN _ (by decide))
  have n29 : ∀ i, tn B 29 i = tn A 29 i := h.2.1 29 (by decide) (hN _ (by decide))
  have n37 : ∀ i, tn B 37 i = tn A 37 i := h.2.1 37 (by decide) (hN _ (by decide))
  have t24 : ∀ i, tb B 24 i = tb A 24 i := h.2.2.2 24 (by decide) (hT _ (by decide))
  have t25 : ∀ i, tb B 25 i = tb A 25 i := h.2.2.2 25 (by decide) (hT _ (by decide))
  have t31 : ∀ i, tb B 31 i = tb A 31 i := h.2.2.2 31 (by decide) (hT _ (by decide))
  simp only [iDed, f38, n26, n27, n28, n29, n37, t24, t25, t31] at k ⊢
  exact k
theorem iWit.df (h : df B A F N R T) (hF : ∀ j ∈ ([1, 2, 3, 13] : List Nat), j ∉ F) (hN : ∀ j ∈ ([1, 7, 8, 43, 44] : List Nat), j ∉ N) (k : iWit A) : iWit B := by
  have f1 : tf B 1 = tf A 1 := h.1 1 (hF _ (by decide))
  have f2 : tf B 2 = tf A 2 := h.1 2 (hF _ (by decide))
  have f3 : tf B 3 = tf A 3 := h.1 3 (hF _ (by decide))
  have f13 : tf B 13 = tf A 13 := h.1 13 (hF _ (by decide))
  have n1 : ∀ i, tn B 1 i = tn A 1 i := h.2.1 1 (by decide) (hN _ (by decide))
  have n7 : ∀ i, tn B 7 i = tn A 7 i := h.2.1 7 (by decide) (hN _ (by decide))
  have n8 : ∀ i, tn B 8 i = tn A 8 i := h.2.1 8 (by decide) (hN _ (by decide))
  have n43 : ∀ i, tn B 43 i = tn A 43 i := h.2.1 43 (by decide) (hN _ (by decide))
  have n44 : ∀ i, tn B 44 i = tn A 44 i := h.2.1 44 (by decide) (hN _ (by decide))
  simp only [iWit, f1, f2, f3, f13, n1, n7, n8, n43, n44] at k ⊢
  exact k
theorem iAns.df (h : df B A F N R T) (hR : ∀ j ∈ ([1, 20] : List Nat), j ∉ R) (hT : ∀ j ∈ ([19] : List Nat), j ∉ T) (k : iAns A) : iAns B := by
  have r1 : ∀ i, tr B 1 i = tr A 1 i := h.2.2.1 1 (by decide) (hR _ (by decide))
  have r20 : ∀ i, tr B 20 i = tr A 20 i := h.2.2.1 20 (by decide) (hR _ (by decide))
  have t19 : ∀ i, tb B 19 i = tb A 19 i := h.2.2.2 19 (by decide) (hT _ (by decide))
  simp only [iAns, r1, r20, t19] at k ⊢
  exact k
theorem LET.df (h : df B A F N R T) (hF : ∀ j ∈ ([1, 13, 38] : List Nat), j ∉ F) (hN : ∀ j ∈ ([5, 7, 26] : List Nat), j ∉ N) {s e to op n c : Nat} (k : LET A s e to op n c) : LET B s e to op n c := by
  have f1 : tf B 1 = tf A 1 := h.1 1 (hF _ (by decide))
  have f13 : tf B 13 = tf A 13 := h.1 13 (hF _ (by decide))
  have f38 : tf B 38 = tf A 38 := h.1 38 (hF _ (by decide))
  have n5 : ∀ i, tn B 5 i = tn A 5 i := h.2.1 5 (by decide) (hN _ (by decide))
  have n7 : ∀ i, tn B 7 i = tn A 7 i := h.2.1 7 (by decide) (hN _ (by decide))
  have n26 : ∀ i, tn B 26 i = tn A 26 i := h.2.1 26 (by decide) (hN _ (by decide))
  simp only [LET, f1, f13, f38, n5, n7, n26] at k ⊢
  exact k
theorem iNum.df (h : df B A F N R T) (hF : ∀ j ∈ ([1, 2, 3, 4, 5, 6, 13, 38] : List Nat), j ∉ F) (h53 : tf B 53 ≤ 250) (k : iNum A) : iNum B := by
  have f1 : tf B 1 = tf A 1 := h.1 1 (hF _ (by decide))
  have f2 : tf B 2 = tf A 2 := h.1 2 (hF _ (by decide))
  have f3 : tf B 3 = tf A 3 := h.1 3 (hF _ (by decide))
  have f4 : tf B 4 = tf A 4 := h.1 4 (hF _ (by decide))
  have f5 : tf B 5 = tf A 5 := h.1 5 (hF _ (by decide))
  have f6 : tf B 6 = tf A 6 := h.1 6 (hF _ (by decide))
  have f13 : tf B 13 = tf A 13 := h.1 13 (hF _ (by decide))
  have f38 : tf B 38 = tf A 38 := h.1 38 (hF _ (by decide))
  obtain ⟨k1, k2, k3, k4, k5, k6, k7⟩ := k
  unfold iNum
  rw [f1, f2, f3, f4, f5, f6, f13, f38]
  exact ⟨k1, k2, k3, k4, k5, h53, k7⟩
/-- the rows of letters are as they were -/
def sl (B A : TS) : Prop := tf B 53 = tf A 53 ∧ ∀ j, 45 ≤ j → j ≤ 50 → ∀ i, tn B j i = tn A j i
theorem iLet.df (h : df B A F N R T) (hF : ∀ j ∈ ([1, 13, 38] : List Nat), j ∉ F) (hN : ∀ j ∈ ([5, 7, 26] : List Nat), j ∉ N) (hs : sl B A) (k : iLet A) : iLet B := fun x hx => by
  rw [hs.1] at hx
  rw [hs.2 45 (by decide) (by decide), hs.2 46 (by decide) (by decide), hs.2 47 (by decide) (by decide), hs.2 48 (by decide) (by decide), hs.2 49 (by decide) (by decide), hs.2 50 (by decide) (by decide)]
  exact (k x hx).df h hF hN
/-- a valid letter is sent -/
theorem INV.send {K so e to op n c : Nat} {v : Int32} {b : Bool} (h : INV K A) (hl : LET A so e to op n c) (hto0 : to ≤ K + 1) (hn : n ≤ K + 1) (hc : c ≤ K + 1) : INV (K + 1) (sendF A so e to op n c v b) := by
  have d := (send_keep A so e to op n c v b).df
  obtain ⟨h1, h2, h3, h4, h5, h6, h7, h8, h9, h10, h11, h12, h13, h14, h15⟩ := h
  have hK := hl
  obtain ⟨l1, l2, l3, l4, l5, l6, l7, l8, l9⟩ := hl
  refine ⟨h1.df d (by decide) (send_le _ _ _ _ _ _ _ _ h1.2.2.2.2.2.1), h2.df d (by decide) (by decide) (by decide), h3.df d (by decide) (by decide), h4.df d (by decide) (by decide), h5.df d (by decide) (by decide) (by decide), h6.df d (by decide) (by decide) (by decide), h7.df d (by decide) (by decide) (by decide), h8.df d (by decide) (by decide), h9.df d (by decide) (by decide), ?_, h11.df d (by decide) (by decide) (by decide), h12.df d (by decide) (by decide), h13.df d (by decide) (by decide), ?_, by omega⟩
  · intro x hx
    by_cases y : tf A 53 = 250
    · have e : sendF A so e to op n c v b = sf A 54 (tf A 54 + 1) := by unfold sendF; rw [if_pos y]
      rw [e] at hx ⊢
      exact LET.df (df_sf (A := A) (j := 54)) (by decide) (by decide) (h10 x hx)
    · obtain ⟨r1, r2, r3, r4, r5, e1, e2, e3, e4, e5, e6, -⟩ := send_row (A := A) (so := so) (e := e) (to := to) (op := op) (n := n) (c := c) (v := v) (b := b) y
      by_cases z : x = tf A 53
      · rw [z, e1, e2, e3, e4, e5, e6]
        exact hK.df d (by decide) (by decide)
      · rw [r2] at hx
        rw [r3 45 x (by omega), r3 46 x (by omega), r3 47 x (by omega), r3 48 x (by omega), r3 49 x (by omega), r3 50 x (by omega)]
        exact (h10 x (by omega)).df d (by decide) (by decide)
  · have a1 := h14.1 38
    have a2 := h14.1 13
    have hop : op ≤ K + 1 := by
      by_cases s2 : 6 ≤ so
      · have := l4 s2; omega
      · have := l3 (by omega); omega
    exact h14.send (Nat.le_refl _) (by omega) (by omega) hto0 hop hn hc
end
