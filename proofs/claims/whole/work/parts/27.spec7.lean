/-! ===== the reference's public methods: what they do ===== -/
theorem noIx_out {x : Int32} {n : Nat} (hn : n < 2 ^ 31) (h : noIx x n = true) : x.toInt < 0 ∨ ((n : Int) - 1) < x.toInt := by
  simp only [noIx, Bool.or_eq_true, decide_eq_true_eq] at h
  rcases h with h | h
  · rw [Int32.lt_iff_toInt_lt] at h
    exact Or.inl h
  · rw [Int32.le_iff_toInt_le, nI_toInt hn] at h
    exact Or.inr (by omega)
theorem noIx_nI {j n : Nat} (hj : j < n) (hn : n < 2 ^ 31) : noIx (nI j) n = false := by
  refine noIx_2 (fun q => ?_) ((nI_ltI (by omega) hn).mpr hj)
  exact (nI_z_lt (by omega)).mp q
section
variable {l : Launch} {D : va_G} {tc : Nat → ClassId} {am : Nat} {ad : Nat → Nat}
theorem r_throwsT (hls : l.stackTraces = false) (A : TS) (cd : Nat) : RM l D tc am ad yX11_throwsIf cX11_throwsIf 3 (some .boolean) 0 [.ref am, .int (bI true), .int (nI cd)] A (some (.int (bI true))) (sf A 0 cd) := r_throwsIf hls A true cd
theorem r_throwsN (hls : l.stackTraces = false) (A : TS) (cd : Nat) : RM l D tc am ad yX11_throwsIf cX11_throwsIf 3 (some .boolean) 0 [.ref am, .int (bI false), .int (nI cd)] A (some (.int (bI false))) A := r_throwsIf hls A false cd
theorem r_noClient_ (hls : l.stackTraces = false) (A : TS) {x : Int32} {b : Bool} (h : noIx x 4 = b) : RM l D tc am ad yX11_noClient cX11_noClient 1 (some .boolean) 0 [.int (x)] A (some (.int (bI b))) A := h ▸ r_noClient hls A x
theorem r_noLetter_ (hls : l.stackTraces = false) (A : TS) {x : Int32} {b : Bool} (h : noIx x (tf A 53) = b) : RM l D tc am ad yX11_noLetter cX11_noLetter 2 (some .boolean) 0 [.ref am, .int (x)] A (some (.int (bI b))) A := h ▸ r_noLetter hls A x
theorem r_noEpoch_ (hls : l.stackTraces = false) (A : TS) {x : Int32} {b : Bool} (h : noIx x (tf A 38) = b) : RM l D tc am ad yX11_noEpoch cX11_noEpoch 2 (some .boolean) 0 [.ref am, .int (x)] A (some (.int (bI b))) A := h ▸ r_noEpoch hls A x
theorem r_isOpen_ (hls : l.stackTraces = false) (A : TS) {c9 K : Nat} {b : Bool} (h : opnF A c9 = b) (hc : c9 < 4) (hl : tn A 16 c9 ≤ 600) (hB : NB K A) (hK : K < 2000000000) : RM l D tc am ad yX11_isOpen cX11_isOpen 2 (some .boolean) 0 [.ref am, .int (nI (c9))] A (some (.int (bI b))) A := h ▸ r_isOpen hls A c9 K hc hl hB hK
end
section
variable {l : Launch} {D : va_G} {tc : Nat → ClassId} {A0 : Nat → Prop} {p : Program} {e : Env} {R : Room} {s : State} {m : MethodId} {args : Array Value} {below : List Frame} {meth : Method} {c : Code} {nL : Nat} {Q : State → Prop} {am : Nat} {ad : Nat → Nat} {A : TS} {pc : Nat} {ls : List (Option Value)} {st : List Value} {cc : ByteArray} {own : String} {Ts : List Cond}
theorem VR.tableIn (h : CX l D tc A0 p s m args meth c cc nL own Ts) {dflt hi : Int} {offs : Array Int} {len : Nat} {x : Nat} {off : Int} {tgt : Nat} (hx : x < 100) (d : decode cc pc = .ok (.tableswitch dflt 0 hi offs, len)) (h2 : ¬ hi < (x : Int)) (ho : offs[x]? = some off) (ht : (pc : Int) + off = (tgt : Int)) (kk : VR l D tc A0 p e R s m args below meth c nL Q am ad A tgt ls st) : VR l D tc A0 p e R s m args below meth c nL Q am ad A pc ls (.int (nI x) :: st) := by
  intro S hS
  have e1 : (nI x).toInt = (x : Int) := nI_toInt (by omega)
  exact V.tableIn h d (by rw [e1]; omega) (by rw [e1]; exact h2) (by rw [e1, show ((x : Int) - 0).toNat = x by omega]; exact ho) ht (kk S hS)
theorem VR.tableOut (h : CX l D tc A0 p s m args meth c cc nL own Ts) {dflt hi : Int} {offs : Array Int} {len : Nat} {x : Int32} {tgt : Nat} (d : decode cc pc = .ok (.tableswitch dflt 0 hi offs, len)) (h1 : x.toInt < 0 ∨ hi < x.toInt) (ht : (pc : Int) + dflt = (tgt : Int)) (kk : VR l D tc A0 p e R s m args below meth c nL Q am ad A tgt ls st) : VR l D tc A0 p e R s m args below meth c nL Q am ad A pc ls (.int x :: st) := fun S hS => V.tableOut h d h1 ht (kk S hS)
end
def lrnF (A : TS) (c : Nat) : TS := if tn A 17 c = tf A 38 - 1 then A else if opnF A c = true then begF (sn A 17 c (tf A 38 - 1)) c else sn A 17 c (tf A 38 - 1)
def twiF (A : TS) (k : Nat) : TS := sendF A (tn A 45 k) (tn A 46 k) (tn A 47 k) (tn A 48 k) (tn A 49 k) (tn A 50 k) (tr A 51 k) (tb A 52 k)
def sycF (A : TS) (e : Nat) : TS := if tb A 31 e = true ∧ 0 < e then resF (synF A e) e else synF A e
def craF (A : TS) (e : Nat) : TS := sn (sb A 30 e false) 37 e 0
def asnF (A : TS) (c : Nat) : Nat := if tn A 16 c = 0 then 1 else tn A 6 (tn A 16 c - 1) + 1
def askA (A : TS) (c wh ky : Nat) (v : Int32) : TS :=
  sn (sn (sn (sf (sr (sn (sn (sn (sn (sf A 13 (tf A 13 + 1)) 5 (tf A 13) c) 6 (tf A 13) (asnF A c)) 7 (tf A 13) wh) 8 (tf A 13) ky) 9 (tf A 13) v) 14 (tf A 14 + 1)) 10 (tf A 13) (tf A 14 + 1)) 11 (tf A 13) 0) 16 c (tf A 13 + 1)
def askF (A : TS) (c wh ky : Nat) (v : Int32) : TS := begF (askA A c wh ky v) c
def letV (A : TS) (k : Nat) : Nat → Nat
  | 0 => tn A 45 k
  | 1 => tn A 46 k
  | 2 => tn A 47 k
  | _ => tn A 49 k
def one9 (b : Bool) : Int32 := nI (if b = true then 1 else 0)
def masV (A : TS) (e : Nat) : Nat → Int32
  | 0 => one9 (tb A 30 e)
  | 1 => nI (tn A 26 e)
  | 2 => nI (tn A 28 e)
  | 3 => nI (tn A 37 e)
  | _ => nI (tn A 27 e)
def bitF (A : TS) (w : Nat) : Nat → Nat
  | 0 => 0
  | k + 1 => bitF A w k ||| 2 ^ tn A 8 (tn A 43 (16 * w + k))
def witV (A : TS) (w : Nat) : Nat → Int32
  | 0 => nI (tn A 41 w)
  | 1 => one9 (tb A 42 w)
  | 2 => nI (tn A 44 w)
  | _ => nI (bitF A w (tn A 44 w))
def cntV (A : TS) : Nat → Nat
  | 0 => tf A 53
  | 1 => tf A 38
  | 2 => tf A 13
  | 3 => tf A 15
  | 4 => tf A 54
  | 5 => tf A 1
  | 6 => tf A 2
  | 7 => tf A 3
  | _ => tf A 4
/-! a log: its operations are known ones, each stands once -/
def LogOK (A : TS) (e : Nat) : Prop := tf A 13 ≤ 600 ∧ (∀ k, k < tn A 26 e → tn A 22 (600 * e + k) < tf A 13) ∧ ∀ i j, i < tn A 26 e → j < tn A 26 e → tn A 22 (600 * e + i) = tn A 22 (600 * e + j) → i = j
theorem pigeon : ∀ (m n : Nat) (f : Nat → Nat), (∀ k, k < n → f k < m) → (∀ i j, i < n → j < n → f i = f j → i = j) → n ≤ m
  | 0, n, f, h, _ => by
    rcases Nat.eq_zero_or_pos n with q | q
    · omega
    · exact absurd (h 0 q) (by omega)
  | m + 1, n, f, h, hi => by
    by_cases q : ∃ i, i < n ∧ f i = m
    · obtain ⟨i0, h0, h1⟩ := q
      have := pigeon m (n - 1) (fun i => if i < i0 then f i else f (i + 1)) (fun k hk => ?_) (fun i j a b c => ?_)
      · omega
      · show (if k < i0 then f k else f (k + 1)) < m
        split
        · rename_i z
          have a := h k (by omega)
          have b : f k ≠ m := fun y => absurd (hi k i0 (by omega) h0 (y.trans h1.symm)) (by omega)
          omega
        · rename_i z
          have a := h (k + 1) (by omega)
          have b : f (k + 1) ≠ m := fun y => absurd (hi (k + 1) i0 (by omega) h0 (y.trans h1.symm)) (by omega)
          omega
      · have c' : (if i < i0 then f i else f (i + 1)) = (if j < i0 then f j else f (j + 1)) := c
        split at c' <;> split at c'
        · exact hi i j (by omega) (by omega) c'
        · exact absurd (hi i (j + 1) (by omega) (by omega) c') (by omega)
        · exact absurd (hi (i + 1) j (by omega) (by omega) c') (by omega)
        · have := hi (i + 1) (j + 1) (by omega) (by omega) c'
          omega
    · refine Nat.le_succ_of_le (pigeon m n f (fun k hk => ?_) hi)
      have a := h k hk
      have b : f k ≠ m := fun y => q ⟨k, hk, y⟩
      omega
theorem plF_zero (A : TS) (e op : Nat) : ∀ n, plF A e op n = 0 ↔ ∀ k, k < n → tn A 22 (600 * e + k) ≠ op
  | 0 => ⟨fun _ k hk => absurd hk (by omega), fun _ => rfl⟩
  | n + 1 => by
    unfold plF
    split
    · rename_i q
      exact ⟨fun z => absurd z (by omega), fun z => absurd q (z n (by omega))⟩
    · rename_i q
      rw [plF_zero A e op n]
      refine ⟨fun z k hk => ?_, fun z k hk => z k (by omega)⟩
      rcases Nat.lt_or_ge k n with y | y
      · exact z k y
      · rw [show k = n by omega]; exact q
theorem LogOK.room {A : TS} {e op : Nat} (h : LogOK A e) (hop : op < tf A 13) (hp : placeF A e op = 0) : tn A 26 e < tf A 13 := by
  have hz := (plF_zero A e op _).mp hp
  have := pigeon (tf A 13) (tn A 26 e + 1) (fun k => if k < tn A 26 e then tn A 22 (600 * e + k) else op) (fun k hk => ?_) (fun i j a b c => ?_)
  · omega
  · show (if k < tn A 26 e then tn A 22 (600 * e + k) else op) < tf A 13
    split
    · exact h.2.1 k (by omega)
    · exact hop
  · have c' : (if i < tn A 26 e then tn A 22 (600 * e + i) else op) = (if j < tn A 26 e then tn A 22 (600 * e + j) else op) := c
    split at c' <;> split at c'
    · exact h.2.2 i j (by omega) (by omega) c'
    · exact absurd c' (hz i (by omega))
    · exact absurd c'.symm (hz j (by omega))
    · omega
theorem LogOK.le {A : TS} {e : Nat} (h : LogOK A e) : tn A 26 e ≤ tf A 13 := pigeon (tf A 13) (tn A 26 e) (fun k => tn A 22 (600 * e + k)) h.2.1 h.2.2
theorem app_26 (A : TS) (e op : Nat) (b : Bool) : tn (appF A e op b) 26 e = tn A 26 e + 1 := by
  unfold appF
  rw [tn_sn, if_pos ⟨rfl, rfl⟩]
theorem app_22 (A : TS) (e op : Nat) (b : Bool) (i : Nat) : tn (appF A e op b) 22 i = if i = 600 * e + tn A 26 e then op else tn A 22 i := by
  unfold appF
  rw [tn_sn, if_neg (by omega)]
  show tn (sn A 22 (600 * e + tn A 26 e) op) 22 i = _
  rw [tn_sn]
  simp
theorem LogOK.app {A : TS} {e op : Nat} (b : Bool) (h : LogOK A e) (hop : op < tf A 13) (hp : placeF A e op = 0) : LogOK (appF A e op b) e := by
  have hz := (plF_zero A e op _).mp hp
  refine ⟨h.1, fun k hk => ?_, fun i j a c q => ?_⟩
  · rw [app_26] at hk
    rw [app_22]
    show _ < tf A 13
    split
    · exact hop
    · exact h.2.1 k (by omega)
  · rw [app_26] at a c
    rw [app_22, app_22] at q
    split at q <;> split at q
    · omega
    · exact absurd q.symm (hz j (by omega))
    · exact absurd q (hz i (by omega))
    · exact h.2.2 i j (by omega) (by omega) q
def rpS (e w c k : Nat) (G : TS) : TS := if tn G 5 k = c ∧ holdF G w k = true ∧ placeF G e k = 0 ∧ hgF G e k (tn G 26 e) = false then appF G e k false else G
def rpL (A : TS) (e w c : Nat) : Nat → TS
  | 0 => A
  | k + 1 => rpS e w c k (rpL A e w c k)
def rpO (A : TS) (e w : Nat) : Nat → TS
  | 0 => A
  | c + 1 => rpL (rpO A e w c) e w c (tf (rpO A e w c) 13)
def rpF (A : TS) (e w : Nat) : TS := rpO A e w 4
/-- an append keeps all but the log -/
def keepA (A B : TS) : Prop := (∀ j, tf B j = tf A j) ∧ (∀ j i, j ≠ 22 → j ≠ 26 → tn B j i = tn A j i) ∧ (∀ j i, j ≠ 23 → tr B j i = tr A j i) ∧ (∀ j i, j ≠ 24 → j ≠ 25 → tb B j i = tb A j i)
theorem keepA.rfl {A : TS} : keepA A A := ⟨fun _ => Eq.refl _, fun _ _ _ _ => Eq.refl _, fun _ _ _ => Eq.refl _, fun _ _ _ _ => Eq.refl _⟩
theorem keepA.trans {A B C : TS} (h : keepA A B) (k : keepA B C) : keepA A C := ⟨fun j => (k.1 j).trans (h.1 j), fun j i a b => (k.2.1 j i a b).trans (h.2.1 j i a b), fun j i a => (k.2.2.1 j i a).trans (h.2.2.1 j i a), fun j i a b => (k.2.2.2 j i a b).trans (h.2.2.2 j i a b)⟩
theorem app_keep (A : TS) (e op : Nat) (b : Bool) : keepA A (appF A e op b) := by
  refine ⟨fun _ => rfl, fun j i p q => ?_, fun j i q => ?_, fun j i p q => ?_⟩
  · show tn (sn _ 26 _ _) j i = _
    rw [tn_sn, if_neg (fun z => q z.1)]
    show tn (sn A 22 _ _) j i = _
    rw [tn_sn, if_neg (fun z => p z.1)]
  · show tr (sr _ 23 _ _) j i = _
    rw [tr_sr, if_neg (fun z => q z.1)]
    rfl
  · show tb (sb (sb _ 24 _ _) 25 _ _) j i = _
    rw [tb_sb, if_neg (fun z => q z.1), tb_sb, if_neg (fun z => p z.1)]
    rfl
theorem rpS_inv {A0 G : TS} {e w c k K : Nat} (h : LogOK G e) (hk : k < tf G 13) (hB : NB K G) (h9 : 700 ≤ K) (q : keepA A0 G) : LogOK (rpS e w c k G) e ∧ NB K (rpS e w c k G) ∧ keepA A0 (rpS e w c k G) := by
  unfold rpS
  split
  · rename_i z
    have r := h.room hk z.2.2.1
    have r1 := h.1
    exact ⟨h.app false hk z.2.2.1, app_NB hB (by omega) (by omega), q.trans (app_keep ..)⟩
  · exact ⟨h, hB, q⟩
theorem rpL_inv {A0 A : TS} {e w c K : Nat} (h : LogOK A e) (hB : NB K A) (h9 : 700 ≤ K) (q : keepA A0 A) : ∀ k, k ≤ tf A 13 → LogOK (rpL A e w c k) e ∧ NB K (rpL A e w c k) ∧ keepA A0 (rpL A e w c k)
  | 0, _ => ⟨h, hB, q⟩
  | k + 1, hk => by
    obtain ⟨h1, h2, h3⟩ := rpL_inv (w := w) (c := c) h hB h9 q k (by omega)
    exact rpS_inv h1 (by rw [h3.1, ← q.1]; omega) h2 h9 h3
theorem rpO_inv {A : TS} {e w K : Nat} (h : LogOK A e) (hB : NB K A) (h9 : 700 ≤ K) : ∀ c, LogOK (rpO A e w c) e ∧ NB K (rpO A e w c) ∧ keepA A (rpO A e w c)
  | 0 => ⟨h, hB, keepA.rfl⟩
  | c + 1 => by
    obtain ⟨h1, h2, h3⟩ := rpO_inv (w := w) h hB h9 c
    exact rpL_inv h1 h2 h9 h3 _ (Nat.le_refl _)
theorem beg_keep (A : TS) (c : Nat) : (∀ j, j ≠ 53 → j ≠ 54 → tf (begF A c) j = tf A j) ∧ (∀ j i, j < 45 → j ≠ 18 → tn (begF A c) j i = tn A j i) ∧ (∀ j i, j < 45 → tr (begF A c) j i = tr A j i) ∧ (∀ j i, j < 45 → j ≠ 19 → tb (begF A c) j i = tb A j i) := by
  have ha : keepL (sb (sn A 18 c 0) 19 c false) (begA A c) := send_keep ..
  have hb : keepL (sb (sn A 18 c 0) 19 c false) (begF A c) := by
    unfold begF
    split
    · exact ha.trans (begL_keep ..)
    · exact ha
  refine ⟨fun j a b => hb.1 j a b, fun j i a b => (hb.2.1 j i a).trans ?_, fun j i a => hb.2.2.1 j i a, fun j i a b => (hb.2.2.2 j i a).trans ?_⟩
  · show tn (sn A 18 c 0) j i = _
    rw [tn_sn, if_neg (fun z => b z.1)]
  · rw [tb_sb, if_neg (fun z => b z.1)]
    rfl
theorem ask_16 (A : TS) (c wh ky : Nat) (v : Int32) : tn (askA A c wh ky v) 16 c = tf A 13 + 1 := by
  unfold askA
  rw [tn_sn, if_pos ⟨rfl, rfl⟩]
theorem ask_6 (A : TS) (c wh ky : Nat) (v : Int32) : tn (askF A c wh ky v) 6 (tf A 13) = asnF A c := by
  unfold askF
  rw [(beg_keep _ _).2.1 6 _ (by decide) (by decide)]
  unfold askA
  rw [tn_sn, if_neg (by omega), tn_sn, if_neg (by omega), tn_sn, if_neg (by omega)]
  rw [tn_sf, tn_sr]
  rw [tn_sn, if_neg (by omega), tn_sn, if_neg (by omega), tn_sn, if_pos ⟨rfl, rfl⟩]
theorem asn_le {K : Nat} {A : TS} (h : NB K A) (c : Nat) : asnF A c ≤ K + 1 := by
  unfold asnF
  split
  · omega
  · have := h.2 6 (tn A 16 c - 1)
    omega
theorem ask_NB {K : Nat} {A : TS} {c wh ky : Nat} {v : Int32} (h : NB K A) (hc : c ≤ K) (hw : wh ≤ K) (hk : ky ≤ K) : NB (K + 1) (askA A c wh ky v) := by
  have h' := h.mono (K' := K + 1) (by omega)
  have a := h.1 13
  have b := h.1 14
  have d := asn_le h c
  exact (((((((((h'.sf (by omega)).sn (by omega)).sn d).sn (by omega)).sn (by omega)).sr).sf (by omega)).sn (by omega)).sn (by omega)).sn (by omega)
def cliV (A : TS) (c : Nat) : Nat → Int32
  | 0 => nI (if tn A 16 c = 0 then 0 else tn A 6 (tn A 16 c - 1))
  | 1 => one9 (!opnF A c)
  | 2 => if tn A 16 c = 0 ∨ opnF A c = true then nI 0 else tr A 12 (tn A 16 c - 1)
  | 3 => nI (tn A 17 c)
  | 5 => one9 (opnF A c && tb A 19 c)
  | _ => nI (tn A 21 c)
