/-! ===== the reference's state, typed: numbers by field, rows of numbers, of ints, of truths by field and place ===== -/
abbrev TS : Type := (Nat → Nat) × (Nat → Nat → Nat) × (Nat → Nat → Int32) × (Nat → Nat → Bool)
def tf (A : TS) (j : Nat) : Nat := A.1 j
def tn (A : TS) (j i : Nat) : Nat := A.2.1 j i
def tr (A : TS) (j i : Nat) : Int32 := A.2.2.1 j i
def tb (A : TS) (j i : Nat) : Bool := A.2.2.2 j i
def sf (A : TS) (j v : Nat) : TS := (fun h => if h = j then v else A.1 h, A.2.1, A.2.2.1, A.2.2.2)
def sn (A : TS) (j i v : Nat) : TS := (A.1, up2 A.2.1 j i v, A.2.2.1, A.2.2.2)
def sr (A : TS) (j i : Nat) (v : Int32) : TS := (A.1, A.2.1, up2 A.2.2.1 j i v, A.2.2.2)
def sb (A : TS) (j i : Nat) (v : Bool) : TS := (A.1, A.2.1, A.2.2.1, up2 A.2.2.2 j i v)
theorem tf_sf {A : TS} {j v h : Nat} : tf (sf A j v) h = if h = j then v else tf A h := rfl
theorem tn_sf {A : TS} {j v h i : Nat} : tn (sf A j v) h i = tn A h i := rfl
theorem tr_sf {A : TS} {j v h i : Nat} : tr (sf A j v) h i = tr A h i := rfl
theorem tb_sf {A : TS} {j v h i : Nat} : tb (sf A j v) h i = tb A h i := rfl
theorem tf_sn {A : TS} {j i v h : Nat} : tf (sn A j i v) h = tf A h := rfl
theorem tn_sn {A : TS} {j i v h x : Nat} : tn (sn A j i v) h x = if h = j ∧ x = i then v else tn A h x := rfl
theorem tr_sn {A : TS} {j i v h x : Nat} : tr (sn A j i v) h x = tr A h x := rfl
theorem tb_sn {A : TS} {j i v h x : Nat} : tb (sn A j i v) h x = tb A h x := rfl
theorem tf_sr {A : TS} {j i h : Nat} {v : Int32} : tf (sr A j i v) h = tf A h := rfl
theorem tn_sr {A : TS} {j i h x : Nat} {v : Int32} : tn (sr A j i v) h x = tn A h x := rfl
theorem tr_sr {A : TS} {j i h x : Nat} {v : Int32} : tr (sr A j i v) h x = if h = j ∧ x = i then v else tr A h x := rfl
theorem tb_sr {A : TS} {j i h x : Nat} {v : Int32} : tb (sr A j i v) h x = tb A h x := rfl
theorem tf_sb {A : TS} {j i h : Nat} {v : Bool} : tf (sb A j i v) h = tf A h := rfl
theorem tn_sb {A : TS} {j i h x : Nat} {v : Bool} : tn (sb A j i v) h x = tn A h x := rfl
theorem tr_sb {A : TS} {j i h x : Nat} {v : Bool} : tr (sb A j i v) h x = tr A h x := rfl
theorem tb_sb {A : TS} {j i h x : Nat} {v : Bool} : tb (sb A j i v) h x = if h = j ∧ x = i then v else tb A h x := rfl
/-- NONE is 0, k is k + 1 -/
def oI (t : Nat) : Int32 := nI t - 1
theorem oI_s (t : Nat) : oI (t + 1) = nI t := by
  unfold oI
  exact nI_pred t
theorem oI_0 : oI 0 = -1 := by decide
theorem oI_toInt {t : Nat} (h : t < 2 ^ 31) : (oI t).toInt = (t : Int) - 1 := by
  cases t with
  | zero => decide
  | succ k => rw [oI_s, nI_toInt (by omega)]; omega
theorem oI_neg {t : Nat} (h : t < 2 ^ 31) : oI t < 0 ↔ t = 0 := by
  rw [Int32.lt_iff_toInt_lt, oI_toInt h]
  show (t : Int) - 1 < 0 ↔ _
  omega
theorem oI_nn {t : Nat} (h : t < 2 ^ 31) : 0 ≤ oI t ↔ t ≠ 0 := by
  rw [Int32.le_iff_toInt_le, oI_toInt h]
  show (0 : Int) ≤ (t : Int) - 1 ↔ _
  omega
theorem oI_lt {t u : Nat} (h : t < 2 ^ 31) (hu : u < 2 ^ 31) : oI t < oI u ↔ t < u := by
  rw [Int32.lt_iff_toInt_lt, oI_toInt h, oI_toInt hu]
  omega
theorem oI_eq {t u : Nat} (h : t < 2 ^ 31) (hu : u < 2 ^ 31) : oI t = oI u ↔ t = u := by
  rw [← Int32.toInt_inj, oI_toInt h, oI_toInt hu]
  omega
theorem oI_eqN {t u : Nat} (h : t < 2 ^ 31) (hu : u < 2 ^ 31) : oI t = nI u ↔ t = u + 1 := by
  rw [← Int32.toInt_inj, oI_toInt h, nI_toInt hu]
  omega
theorem oI_ltN {t u : Nat} (h : t < 2 ^ 31) (hu : u < 2 ^ 31) : oI t < nI u ↔ t ≤ u := by
  rw [Int32.lt_iff_toInt_lt, oI_toInt h, nI_toInt hu]
  omega
theorem oI_leN {t u : Nat} (h : t < 2 ^ 31) (hu : u < 2 ^ 31) : oI t ≤ nI u ↔ t ≤ u + 1 := by
  rw [Int32.le_iff_toInt_le, oI_toInt h, nI_toInt hu]
  omega
theorem nI_leO {t u : Nat} (h : t < 2 ^ 31) (hu : u < 2 ^ 31) : nI u ≤ oI t ↔ u + 1 ≤ t := by
  rw [Int32.le_iff_toInt_le, oI_toInt h, nI_toInt hu]
  omega
theorem nI_ltO {t u : Nat} (h : t < 2 ^ 31) (hu : u < 2 ^ 31) : nI u < oI t ↔ u + 1 < t := by
  rw [Int32.lt_iff_toInt_lt, oI_toInt h, nI_toInt hu]
  omega
theorem bI_0 {b : Bool} : bI b = 0 ↔ b = false := by cases b <;> decide
theorem bI_t : bI true = nI 1 := by decide
theorem bI_f : bI false = nI 0 := by decide
/-- by field: its kind (0 a number, 1 numbers, 2 numbers or NONE, 3 ints, 4 truths) and its length -/
def mkind (j : Nat) : Nat := if j = 11 ∨ j = 16 ∨ j = 32 ∨ j = 48 then 2 else if j = 9 ∨ j = 12 ∨ j = 20 ∨ j = 23 ∨ j = 51 then 3 else if j = 19 ∨ j = 24 ∨ j = 25 ∨ j = 30 ∨ j = 31 ∨ j = 42 ∨ j = 52 then 4 else 1
def mlen (j : Nat) : Nat := if j ≤ 12 then 600 else if j ≤ 21 then 4 else if j ≤ 25 then 7200 else if j ≤ 31 then 12 else if j = 32 then 36 else if j ≤ 36 then 7200 else if j = 37 then 12 else if j ≤ 42 then 3 else if j = 43 then 48 else if j = 44 then 3 else 250
def mval (A : TS) (j i : Nat) : Int32 := if mkind j = 4 then bI (tb A j i) else if mkind j = 3 then tr A j i else if mkind j = 2 then oI (tn A j i) else nI (tn A j i)
def mak (j : Nat) : Nat := if mkind j = 4 then 21 else 20
/-- the reference's heap: the object at am, its rows at ad j -/
def MW (am : Nat) (ad : Nat → Nat) (A : TS) (S : HS) : Prop :=
  am ∈ zL S ∧ zK S am = 11 ∧ (∀ j, (fty 11)[j]? = some true → zI S (704 + j) am = nI (tf A j)) ∧
  (∀ j, (fty 11)[j]? = some false → zP S (704 + j) am = some (ad j) ∧ ad j ∈ zL S ∧ zK S (ad j) = mak j ∧ zN S (ad j) = mlen j ∧ ∀ i, i < mlen j → zA S (ad j) i = mval A j i) ∧
  (∀ j h, (fty 11)[j]? = some false → (fty 11)[h]? = some false → ad j = ad h → j = h)
theorem MW.setf {am : Nat} {ad : Nat → Nat} {A : TS} {S : HS} (h : MW am ad A S) {j v : Nat} (hj : (fty 11)[j]? = some true) : MW am ad (sf A j v) (setI S (64 * 11 + j) am (nI v)) := by
  obtain ⟨h1, h2, h3, h4, h5⟩ := h
  refine ⟨h1, h2, fun i hi => ?_, fun i hi => h4 i hi, h5⟩
  show up2 (zI S) (64 * 11 + j) am (nI v) (704 + i) am = nI (if i = j then v else tf A i)
  unfold up2
  by_cases e : i = j
  · subst e
    rw [if_pos ⟨by omega, rfl⟩, if_pos rfl]
  · rw [if_neg (fun q => e (by omega)), if_neg e]
    exact h3 i hi
theorem MW.seta {am : Nat} {ad : Nat → Nat} {A A' : TS} {S : HS} (h : MW am ad A S) {j i : Nat} {v : Int32} (hj : (fty 11)[j]? = some false) (hf : ∀ x, tf A' x = tf A x) (hv : mval A' j i = v) (ho : ∀ h x, ¬ (h = j ∧ x = i) → mval A' h x = mval A h x) : MW am ad A' (setA S (ad j) (upd (zA S (ad j)) i v)) := by
  obtain ⟨h1, h2, h3, h4, h5⟩ := h
  refine ⟨h1, h2, fun x hx => by rw [hf]; exact h3 x hx, fun g hg => ?_, h5⟩
  obtain ⟨q1, q2, q3, q4, q5⟩ := h4 g hg
  refine ⟨q1, q2, q3, q4, fun x hx => ?_⟩
  show va_up (zA S) (ad j) (upd (zA S (ad j)) i v) (ad g) x = mval A' g x
  by_cases e : g = j
  · subst e
    rw [va_up_self]
    unfold upd
    by_cases ex : x = i
    · subst ex
      rw [if_pos rfl, hv]
    · rw [if_neg ex, ho g x (fun q => ex q.2)]
      exact q5 x hx
  · rw [va_up_ne _ _ (fun q => e (h5 g j hg hj q)), ho g x (fun q => e q.1)]
    exact q5 x hx
theorem mval_sn {A : TS} {j i v : Nat} (hk : mkind j < 3) {h x : Nat} : mval (sn A j i v) h x = if h = j ∧ x = i then (if mkind j = 2 then oI v else nI v) else mval A h x := by
  unfold mval
  by_cases e : h = j ∧ x = i
  · obtain ⟨rfl, rfl⟩ := e
    rw [if_neg (show ¬ mkind h = 4 by omega), if_neg (show ¬ mkind h = 3 by omega)]
    simp [tn_sn]
  · simp only [tb_sn, tr_sn, tn_sn, if_neg e]
theorem mval_sr {A : TS} {j i : Nat} {v : Int32} (hk : mkind j = 3) {h x : Nat} : mval (sr A j i v) h x = if h = j ∧ x = i then v else mval A h x := by
  unfold mval
  by_cases e : h = j ∧ x = i
  · obtain ⟨rfl, rfl⟩ := e
    rw [if_neg (show ¬ mkind h = 4 by omega), if_pos hk]
    simp [tr_sr]
  · simp only [tb_sr, tr_sr, tn_sr, if_neg e]
theorem mval_sb {A : TS} {j i : Nat} {v : Bool} (hk : mkind j = 4) {h x : Nat} : mval (sb A j i v) h x = if h = j ∧ x = i then bI v else mval A h x := by
  unfold mval
  by_cases e : h = j ∧ x = i
  · obtain ⟨rfl, rfl⟩ := e
    rw [if_pos hk]
    simp [tb_sb]
  · simp only [tb_sb, tr_sb, tn_sb, if_neg e]
/-- the judgement for the reference: V at any heap that holds A -/
def VR (l : Launch) (D : va_G) (tc : Nat → ClassId) (A0 : Nat → Prop) (p : Program) (e : Env) (R : Room) (s : State) (m : MethodId) (args : Array Value) (below : List Frame) (meth : Method) (c : Code) (nL : Nat) (Q : State → Prop) (am : Nat) (ad : Nat → Nat) (A : TS) (pc : Nat) (ls : List (Option Value)) (st : List Value) : Prop :=
  ∀ S, MW am ad A S → V l D tc A0 p e R s m args below meth c nL Q S 0 0 pc ls st
/-- a contract of the reference's methods: what it answers and the state behind -/
def RM (l : Launch) (D : va_G) (tc : Nat → ClassId) (am : Nat) (ad : Nat → Nat) (y : MethodName) (cc : ByteArray) (maxL : Nat) (ret : Option FieldType) (d : Nat) (av : List Value) (A : TS) (v : Option Value) (A' : TS) : Prop :=
  ∀ S, MW am ad A S → CM l D tc y cc maxL ret d 0 0 av S (fun v' S' => v' = v ∧ MW am ad A' S')
section VRR
variable {l : Launch} {D : va_G} {tc : Nat → ClassId} {A0 : Nat → Prop} {p : Program} {e : Env} {R : Room} {s : State} {m : MethodId} {args : Array Value} {below : List Frame} {meth : Method} {c : Code} {nL : Nat} {Q : State → Prop} {am : Nat} {ad : Nat → Nat} {A : TS} {pc : Nat} {ls : List (Option Value)} {st : List Value} {cc : ByteArray} {own : String} {Ts : List Cond}
theorem VR.blk (h : CX l D tc A0 p s m args meth c cc nL own Ts) (is : List (Instr × Nat)) (hd : decs cc pc is = true) {pc' : Nat} {ls' : List (Option Value)} {st' : List Value} (hx : exB is ls st = some (ls', st')) (hp : pc + lensum is = pc') (hn : ls.length ≤ nL) (kk : VR l D tc A0 p e R s m args below meth c nL Q am ad A pc' ls' st') : VR l D tc A0 p e R s m args below meth c nL Q am ad A pc ls st := fun S hS => V.blk h is hd hx hp hn (kk S hS)
theorem VR.getI (h : CX l D tc A0 p s m args meth c cc nL own Ts) {j idx : Nat} (hj : (fty 11)[j]? = some true) (lk : FL own idx (TX11 j).1 (TX11 j).2.1 (TX11 j).2.2.1) (d : decode cc pc = .ok (.getfield idx, 3)) {v : Nat} (hv : tf A j = v) (kk : VR l D tc A0 p e R s m args below meth c nL Q am ad A (pc + 3) ls (.int (nI v) :: st)) : VR l D tc A0 p e R s m args below meth c nL Q am ad A pc ls (.ref am :: st) := by
  intro S hS
  subst hv
  exact V.getI h cls_11 hj hS.1 hS.2.1 lk d (hS.2.2.1 j hj) (kk S hS)
theorem VR.getA (h : CX l D tc A0 p s m args meth c cc nL own Ts) {j idx : Nat} (hj : (fty 11)[j]? = some false) (lk : FL own idx (TX11 j).1 (TX11 j).2.1 (TX11 j).2.2.1) (d : decode cc pc = .ok (.getfield idx, 3)) (kk : VR l D tc A0 p e R s m args below meth c nL Q am ad A (pc + 3) ls (.ref (ad j) :: st)) : VR l D tc A0 p e R s m args below meth c nL Q am ad A pc ls (.ref am :: st) := by
  intro S hS
  exact V.getP h cls_11 hj hS.1 hS.2.1 lk d (hS.2.2.2.1 j hj).1 (kk S hS)
theorem VR.putI (h : CX l D tc A0 p s m args meth c cc nL own Ts) {j idx : Nat} (hj : (fty 11)[j]? = some true) (hty : tyX11 j = .int) (hfin : (TX11 j).2.2.2 = false) (lk : FL own idx (TX11 j).1 (TX11 j).2.1 (TX11 j).2.2.1) (d : decode cc pc = .ok (.putfield idx, 3)) {v : Nat} (kk : VR l D tc A0 p e R s m args below meth c nL Q am ad (sf A j v) (pc + 3) ls st) : VR l D tc A0 p e R s m args below meth c nL Q am ad A pc ls (.int (nI v) :: .ref am :: st) := by
  intro S hS
  exact V.putI h cls_11 hj hS.1 hS.2.1 lk hfin (by rw [hty]; rfl) (by rw [hty]; rfl) d (kk _ (hS.setf hj))
theorem mlen_lt {j : Nat} : mlen j < 2 ^ 31 := by unfold mlen; (repeat' split) <;> decide
theorem VR.iald (h : CX l D tc A0 p s m args meth c cc nL own Ts) {j i : Nat} (hj : (fty 11)[j]? = some false) (hk : mak j = 20) (hi : i < mlen j) (d : decode cc pc = .ok (.iaload, 1)) {v : Int32} (hv : mval A j i = v) (kk : VR l D tc A0 p e R s m args below meth c nL Q am ad A (pc + 1) ls (.int v :: st)) : VR l D tc A0 p e R s m args below meth c nL Q am ad A pc ls (.int (nI i) :: .ref (ad j) :: st) := by
  intro S hS
  obtain ⟨q1, q2, q3, q4, q5⟩ := hS.2.2.2.1 j hj
  exact V.iald h q2 (q3.trans hk) q4 hi mlen_lt d ((q5 i hi).trans hv) (kk S hS)
theorem VR.bald (h : CX l D tc A0 p s m args meth c cc nL own Ts) {j i : Nat} (hj : (fty 11)[j]? = some false) (hk : mak j = 21) (hi : i < mlen j) (d : decode cc pc = .ok (.baload, 1)) {v : Int32} (hv : mval A j i = v) (kk : VR l D tc A0 p e R s m args below meth c nL Q am ad A (pc + 1) ls (.int v :: st)) : VR l D tc A0 p e R s m args below meth c nL Q am ad A pc ls (.int (nI i) :: .ref (ad j) :: st) := by
  intro S hS
  obtain ⟨q1, q2, q3, q4, q5⟩ := hS.2.2.2.1 j hj
  exact V.bald h q2 (q3.trans hk) q4 hi mlen_lt d ((q5 i hi).trans hv) (kk S hS)
theorem VR.iastN (h : CX l D tc A0 p s m args meth c cc nL own Ts) {j i v : Nat} (hj : (fty 11)[j]? = some false) (hk : mkind j = 1) (hi : i < mlen j) (d : decode cc pc = .ok (.iastore, 1)) (kk : VR l D tc A0 p e R s m args below meth c nL Q am ad (sn A j i v) (pc + 1) ls st) : VR l D tc A0 p e R s m args below meth c nL Q am ad A pc ls (.int (nI v) :: .int (nI i) :: .ref (ad j) :: st) := by
  intro S hS
  obtain ⟨q1, q2, q3, q4, q5⟩ := hS.2.2.2.1 j hj
  refine V.iast h q2 (q3.trans (by simp [mak, hk])) q4 hi mlen_lt d (kk _ (hS.seta hj (fun _ => rfl) ?_ (fun g x q => ?_)))
  · rw [mval_sn (by omega), if_pos ⟨rfl, rfl⟩, if_neg (by omega)]
  · rw [mval_sn (by omega), if_neg q]
theorem VR.iastO (h : CX l D tc A0 p s m args meth c cc nL own Ts) {j i v : Nat} (hj : (fty 11)[j]? = some false) (hk : mkind j = 2) (hi : i < mlen j) (d : decode cc pc = .ok (.iastore, 1)) (kk : VR l D tc A0 p e R s m args below meth c nL Q am ad (sn A j i v) (pc + 1) ls st) : VR l D tc A0 p e R s m args below meth c nL Q am ad A pc ls (.int (oI v) :: .int (nI i) :: .ref (ad j) :: st) := by
  intro S hS
  obtain ⟨q1, q2, q3, q4, q5⟩ := hS.2.2.2.1 j hj
  refine V.iast h q2 (q3.trans (by simp [mak, hk])) q4 hi mlen_lt d (kk _ (hS.seta hj (fun _ => rfl) ?_ (fun g x q => ?_)))
  · rw [mval_sn (by omega), if_pos ⟨rfl, rfl⟩, if_pos hk]
  · rw [mval_sn (by omega), if_neg q]
theorem VR.iastR (h : CX l D tc A0 p s m args meth c cc nL own Ts) {j i : Nat} {v : Int32} (hj : (fty 11)[j]? = some false) (hk : mkind j = 3) (hi : i < mlen j) (d : decode cc pc = .ok (.iastore, 1)) (kk : VR l D tc A0 p e R s m args below meth c nL Q am ad (sr A j i v) (pc + 1) ls st) : VR l D tc A0 p e R s m args below meth c nL Q am ad A pc ls (.int v :: .int (nI i) :: .ref (ad j) :: st) := by
  intro S hS
  obtain ⟨q1, q2, q3, q4, q5⟩ := hS.2.2.2.1 j hj
  refine V.iast h q2 (q3.trans (by simp [mak, hk])) q4 hi mlen_lt d (kk _ (hS.seta hj (fun _ => rfl) ?_ (fun g x q => ?_)))
  · rw [mval_sr hk, if_pos ⟨rfl, rfl⟩]
  · rw [mval_sr hk, if_neg q]
theorem VR.bast (h : CX l D tc A0 p s m args meth c cc nL own Ts) {j i : Nat} {v : Bool} (hj : (fty 11)[j]? = some false) (hk : mkind j = 4) (hi : i < mlen j) (d : decode cc pc = .ok (.bastore, 1)) (kk : VR l D tc A0 p e R s m args below meth c nL Q am ad (sb A j i v) (pc + 1) ls st) : VR l D tc A0 p e R s m args below meth c nL Q am ad A pc ls (.int (bI v) :: .int (nI i) :: .ref (ad j) :: st) := by
  intro S hS
  obtain ⟨q1, q2, q3, q4, q5⟩ := hS.2.2.2.1 j hj
  refine V.bast h q2 (q3.trans (by simp [mak, hk])) q4 hi mlen_lt d (bI_vp v) (kk _ (hS.seta hj (fun _ => rfl) ?_ (fun g x q => ?_)))
  · rw [mval_sb hk, if_pos ⟨rfl, rfl⟩]
  · rw [mval_sb hk, if_neg q]
theorem VR.top {v v' : Value} (h : v' = v) (kk : VR l D tc A0 p e R s m args below meth c nL Q am ad A pc ls (v' :: st)) : VR l D tc A0 p e R s m args below meth c nL Q am ad A pc ls (v :: st) := h ▸ kk
theorem VR.st2 {u v v' : Value} (h : v' = v) (kk : VR l D tc A0 p e R s m args below meth c nL Q am ad A pc ls (u :: v' :: st)) : VR l D tc A0 p e R s m args below meth c nL Q am ad A pc ls (u :: v :: st) := h ▸ kk
theorem VR.eqA {A' : TS} (h : A' = A) (kk : VR l D tc A0 p e R s m args below meth c nL Q am ad A' pc ls st) : VR l D tc A0 p e R s m args below meth c nL Q am ad A pc ls st := h ▸ kk
theorem VR.eqL {ls' : List (Option Value)} (h : ls' = ls) (kk : VR l D tc A0 p e R s m args below meth c nL Q am ad A pc ls' st) : VR l D tc A0 p e R s m args below meth c nL Q am ad A pc ls st := h ▸ kk
theorem VR.drop (i : Nat) {ls' : List (Option Value)} (h : ls.set i none = ls') (kk : VR l D tc A0 p e R s m args below meth c nL Q am ad A pc ls' st) : VR l D tc A0 p e R s m args below meth c nL Q am ad A pc ls st := by
  subst h
  intro S hS
  refine V.sub (fun j v hj => ?_) (kk S hS)
  by_cases e : j = i
  · subst e
    rcases Nat.lt_or_ge j ls.length with q | q
    · rw [List.getElem?_set_self q] at hj; cases hj
    · rw [List.getElem?_eq_none (by rw [List.length_set]; exact q)] at hj; cases hj
  · rwa [List.getElem?_set_ne (Ne.symm e)] at hj
/-- numbers -/
theorem VR.m1 (h : CX l D tc A0 p s m args meth c cc nL own Ts) (d : decode cc pc = .ok (.iconst (-1), 1)) (hn : ls.length ≤ nL) (kk : VR l D tc A0 p e R s m args below meth c nL Q am ad A (pc + 1) ls (.int (oI 0) :: st)) : VR l D tc A0 p e R s m args below meth c nL Q am ad A pc ls st := fun S hS => V.one h d rfl rfl hn (V.top (by rw [oI_0]; rfl) (kk S hS))
theorem VR.addN (h : CX l D tc A0 p s m args meth c cc nL own Ts) {x y : Nat} (d : decode cc pc = .ok (.iadd, 1)) (hn : ls.length ≤ nL) (kk : VR l D tc A0 p e R s m args below meth c nL Q am ad A (pc + 1) ls (.int (nI (x + y)) :: st)) : VR l D tc A0 p e R s m args below meth c nL Q am ad A pc ls (.int (nI y) :: .int (nI x) :: st) := fun S hS => V.one h d rfl rfl hn (V.top (by rw [nI_add]) (kk S hS))
theorem VR.subN (h : CX l D tc A0 p s m args meth c cc nL own Ts) {x y : Nat} (d : decode cc pc = .ok (.isub, 1)) (hn : ls.length ≤ nL) (hle : y ≤ x) (kk : VR l D tc A0 p e R s m args below meth c nL Q am ad A (pc + 1) ls (.int (nI (x - y)) :: st)) : VR l D tc A0 p e R s m args below meth c nL Q am ad A pc ls (.int (nI y) :: .int (nI x) :: st) := fun S hS => V.one h d rfl rfl hn (V.top (by rw [pk_sub hle]) (kk S hS))
theorem VR.mulN (h : CX l D tc A0 p s m args meth c cc nL own Ts) {x y : Nat} (d : decode cc pc = .ok (.imul, 1)) (hn : ls.length ≤ nL) (kk : VR l D tc A0 p e R s m args below meth c nL Q am ad A (pc + 1) ls (.int (nI (x * y)) :: st)) : VR l D tc A0 p e R s m args below meth c nL Q am ad A pc ls (.int (nI y) :: .int (nI x) :: st) := fun S hS => V.one h d rfl rfl hn (V.top (by rw [pk_mul]) (kk S hS))
theorem VR.shl1 (h : CX l D tc A0 p s m args meth c cc nL own Ts) {x y v : Int32} (hv : x <<< (y &&& 31) = v) (d : decode cc pc = .ok (.ishl, 1)) (kk : VR l D tc A0 p e R s m args below meth c nL Q am ad A (pc + 1) ls (.int v :: st)) : VR l D tc A0 p e R s m args below meth c nL Q am ad A pc ls (.int y :: .int x :: st) := fun S hS => V.ishl h hv d (kk S hS)
theorem VR.orN (h : CX l D tc A0 p s m args meth c cc nL own Ts) {x y : Int32} {v : Int32} (hv : x ||| y = v) (d : decode cc pc = .ok (.ior, 1)) (hn : ls.length ≤ nL) (kk : VR l D tc A0 p e R s m args below meth c nL Q am ad A (pc + 1) ls (.int v :: st)) : VR l D tc A0 p e R s m args below meth c nL Q am ad A pc ls (.int y :: .int x :: st) := fun S hS => V.one h d rfl rfl hn (V.top (by rw [hv]) (kk S hS))
theorem VR.remN (h : CX l D tc A0 p s m args meth c cc nL own Ts) {x y : Nat} (d : decode cc pc = .ok (.irem, 1)) (hx : x < 2 ^ 31) (hy0 : 0 < y) (hy : y < 2 ^ 31) (kk : VR l D tc A0 p e R s m args below meth c nL Q am ad A (pc + 1) ls (.int (nI (x % y)) :: st)) : VR l D tc A0 p e R s m args below meth c nL Q am ad A pc ls (.int (nI y) :: .int (nI x) :: st) := fun S hS => V.irem h (nI_ne0 hy0 hy) (pk_rem hx hy0 hy) d (kk S hS)
theorem VR.incN (h : CX l D tc A0 p s m args meth c cc nL own Ts) {x i : Nat} (d : decode cc pc = .ok (.iinc i 1, 3)) (hl : ls[i]? = some (some (.int (nI x)))) (hn : ls.length ≤ nL) (kk : VR l D tc A0 p e R s m args below meth c nL Q am ad A (pc + 3) (ls.set i (some (.int (nI (x + 1))))) st) : VR l D tc A0 p e R s m args below meth c nL Q am ad A pc ls st := fun S hS => V.one (ls' := ls.set i (some (.int (nI x + kI 1)))) (st' := st) h d rfl (by simp only [ex1, hl]) hn (V.eq rfl (by rw [show kI 1 = nI 1 by decide, nI_add]) rfl (kk S hS))
theorem VR.goto (h : CX l D tc A0 p s m args meth c cc nL own Ts) {off : Int} {tgt : Nat} (d : decode cc pc = .ok (.goto off, 3)) (ht : (pc : Int) + off = (tgt : Int)) (kk : VR l D tc A0 p e R s m args below meth c nL Q am ad A tgt ls st) : VR l D tc A0 p e R s m args below meth c nL Q am ad A pc ls st := fun S hS => V.goto h d ht (kk S hS)
theorem VR.if_eq (h : CX l D tc A0 p s m args meth c cc nL own Ts) {x : Int32} {off : Int} {tgt : Nat} (d : decode cc pc = .ok (.ifCond .eq off, 3)) (ht : (pc : Int) + off = (tgt : Int)) (kt : x = 0 → VR l D tc A0 p e R s m args below meth c nL Q am ad A tgt ls st) (kf : ¬ x = 0 → VR l D tc A0 p e R s m args below meth c nL Q am ad A (pc + 3) ls st) : VR l D tc A0 p e R s m args below meth c nL Q am ad A pc ls (.int x :: st) := fun S hS => V.if_eq h d ht (fun q => kt q S hS) (fun q => kf q S hS)
theorem VR.if_ne (h : CX l D tc A0 p s m args meth c cc nL own Ts) {x : Int32} {off : Int} {tgt : Nat} (d : decode cc pc = .ok (.ifCond .ne off, 3)) (ht : (pc : Int) + off = (tgt : Int)) (kt : ¬ x = 0 → VR l D tc A0 p e R s m args below meth c nL Q am ad A tgt ls st) (kf : x = 0 → VR l D tc A0 p e R s m args below meth c nL Q am ad A (pc + 3) ls st) : VR l D tc A0 p e R s m args below meth c nL Q am ad A pc ls (.int x :: st) := fun S hS => V.if_ne h d ht (fun q => kt q S hS) (fun q => kf q S hS)
theorem VR.if_lt (h : CX l D tc A0 p s m args meth c cc nL own Ts) {x : Int32} {off : Int} {tgt : Nat} (d : decode cc pc = .ok (.ifCond .lt off, 3)) (ht : (pc : Int) + off = (tgt : Int)) (kt : x < 0 → VR l D tc A0 p e R s m args below meth c nL Q am ad A tgt ls st) (kf : ¬ x < 0 → VR l D tc A0 p e R s m args below meth c nL Q am ad A (pc + 3) ls st) : VR l D tc A0 p e R s m args below meth c nL Q am ad A pc ls (.int x :: st) := fun S hS => V.if_lt h d ht (fun q => kt q S hS) (fun q => kf q S hS)
theorem VR.if_ge (h : CX l D tc A0 p s m args meth c cc nL own Ts) {x : Int32} {off : Int} {tgt : Nat} (d : decode cc pc = .ok (.ifCond .ge off, 3)) (ht : (pc : Int) + off = (tgt : Int)) (kt : 0 ≤ x → VR l D tc A0 p e R s m args below meth c nL Q am ad A tgt ls st) (kf : ¬ 0 ≤ x → VR l D tc A0 p e R s m args below meth c nL Q am ad A (pc + 3) ls st) : VR l D tc A0 p e R s m args below meth c nL Q am ad A pc ls (.int x :: st) := fun S hS => V.if_ge h d ht (fun q => kt q S hS) (fun q => kf q S hS)
theorem VR.if_gt (h : CX l D tc A0 p s m args meth c cc nL own Ts) {x : Int32} {off : Int} {tgt : Nat} (d : decode cc pc = .ok (.ifCond .gt off, 3)) (ht : (pc : Int) + off = (tgt : Int)) (kt : 0 < x → VR l D tc A0 p e R s m args below meth c nL Q am ad A tgt ls st) (kf : ¬ 0 < x → VR l D tc A0 p e R s m args below meth c nL Q am ad A (pc + 3) ls st) : VR l D tc A0 p e R s m args below meth c nL Q am ad A pc ls (.int x :: st) := fun S hS => V.if_gt h d ht (fun q => kt q S hS) (fun q => kf q S hS)
theorem VR.if_le (h : CX l D tc A0 p s m args meth c cc nL own Ts) {x : Int32} {off : Int} {tgt : Nat} (d : decode cc pc = .ok (.ifCond .le off, 3)) (ht : (pc : Int) + off = (tgt : Int)) (kt : x ≤ 0 → VR l D tc A0 p e R s m args below meth c nL Q am ad A tgt ls st) (kf : ¬ x ≤ 0 → VR l D tc A0 p e R s m args below meth c nL Q am ad A (pc + 3) ls st) : VR l D tc A0 p e R s m args below meth c nL Q am ad A pc ls (.int x :: st) := fun S hS => V.if_le h d ht (fun q => kt q S hS) (fun q => kf q S hS)
theorem VR.icmp_eq (h : CX l D tc A0 p s m args meth c cc nL own Ts) {x y : Int32} {off : Int} {tgt : Nat} (d : decode cc pc = .ok (.if_icmp .eq off, 3)) (ht : (pc : Int) + off = (tgt : Int)) (kt : x = y → VR l D tc A0 p e R s m args below meth c nL Q am ad A tgt ls st) (kf : ¬ x = y → VR l D tc A0 p e R s m args below meth c nL Q am ad A (pc + 3) ls st) : VR l D tc A0 p e R s m args below meth c nL Q am ad A pc ls (.int y :: .int x :: st) := fun S hS => V.icmp_eq h d ht (fun q => kt q S hS) (fun q => kf q S hS)
theorem VR.icmp_ne (h : CX l D tc A0 p s m args meth c cc nL own Ts) {x y : Int32} {off : Int} {tgt : Nat} (d : decode cc pc = .ok (.if_icmp .ne off, 3)) (ht : (pc : Int) + off = (tgt : Int)) (kt : ¬ x = y → VR l D tc A0 p e R s m args below meth c nL Q am ad A tgt ls st) (kf : x = y → VR l D tc A0 p e R s m args below meth c nL Q am ad A (pc + 3) ls st) : VR l D tc A0 p e R s m args below meth c nL Q am ad A pc ls (.int y :: .int x :: st) := fun S hS => V.icmp_ne h d ht (fun q => kt q S hS) (fun q => kf q S hS)
theorem VR.icmp_lt (h : CX l D tc A0 p s m args meth c cc nL own Ts) {x y : Int32} {off : Int} {tgt : Nat} (d : decode cc pc = .ok (.if_icmp .lt off, 3)) (ht : (pc : Int) + off = (tgt : Int)) (kt : x < y → VR l D tc A0 p e R s m args below meth c nL Q am ad A tgt ls st) (kf : ¬ x < y → VR l D tc A0 p e R s m args below meth c nL Q am ad A (pc + 3) ls st) : VR l D tc A0 p e R s m args below meth c nL Q am ad A pc ls (.int y :: .int x :: st) := fun S hS => V.icmp_lt h d ht (fun q => kt q S hS) (fun q => kf q S hS)
theorem VR.icmp_ge (h : CX l D tc A0 p s m args meth c cc nL own Ts) {x y : Int32} {off : Int} {tgt : Nat} (d : decode cc pc = .ok (.if_icmp .ge off, 3)) (ht : (pc : Int) + off = (tgt : Int)) (kt : y ≤ x → VR l D tc A0 p e R s m args below meth c nL Q am ad A tgt ls st) (kf : ¬ y ≤ x → VR l D tc A0 p e R s m args below meth c nL Q am ad A (pc + 3) ls st) : VR l D tc A0 p e R s m args below meth c nL Q am ad A pc ls (.int y :: .int x :: st) := fun S hS => V.icmp_ge h d ht (fun q => kt q S hS) (fun q => kf q S hS)
theorem VR.icmp_gt (h : CX l D tc A0 p s m args meth c cc nL own Ts) {x y : Int32} {off : Int} {tgt : Nat} (d : decode cc pc = .ok (.if_icmp .gt off, 3)) (ht : (pc : Int) + off = (tgt : Int)) (kt : y < x → VR l D tc A0 p e R s m args below meth c nL Q am ad A tgt ls st) (kf : ¬ y < x → VR l D tc A0 p e R s m args below meth c nL Q am ad A (pc + 3) ls st) : VR l D tc A0 p e R s m args below meth c nL Q am ad A pc ls (.int y :: .int x :: st) := fun S hS => V.icmp_gt h d ht (fun q => kt q S hS) (fun q => kf q S hS)
theorem VR.icmp_le (h : CX l D tc A0 p s m args meth c cc nL own Ts) {x y : Int32} {off : Int} {tgt : Nat} (d : decode cc pc = .ok (.if_icmp .le off, 3)) (ht : (pc : Int) + off = (tgt : Int)) (kt : x ≤ y → VR l D tc A0 p e R s m args below meth c nL Q am ad A tgt ls st) (kf : ¬ x ≤ y → VR l D tc A0 p e R s m args below meth c nL Q am ad A (pc + 3) ls st) : VR l D tc A0 p e R s m args below meth c nL Q am ad A pc ls (.int y :: .int x :: st) := fun S hS => V.icmp_le h d ht (fun q => kt q S hS) (fun q => kf q S hS)
/-- the ends: Q is what is owed -/
def RQ (D : va_G) (tc : Nat → ClassId) (am : Nat) (ad : Nat → Nat) (below : List Frame) (args : Array Value) (s : State) (S0 : HS) (sz : Nat) (v : Option Value) (A : TS) : State → Prop := MQ below (zQ D tc (fun v9 S9 => v9 = v ∧ MW am ad A S9) S0 sz) args s 0 0 (zAd S0 sz)
theorem VR.iret {S0 : HS} {sz d : Nat} {v' : Option Value} {A' : TS} (h : CX l D tc A0 p s m args meth c cc nL own Ts) (hA : A0 = zAd S0 sz) (hQ : Q = RQ D tc am ad below args s S0 sz v' A') {v : Int32} {ty : FieldType} (hr : meth.sig.returnType = some ty) (hn : narrow ty (.int v) = .int v) (hv : v' = some (.int v)) (hA' : A = A') (dd : decode cc pc = .ok (.ireturn, 1)) :
    VR l D tc A0 p e (rmd d 0 0) s m args below meth c nL Q am ad A pc ls [.int v] := by
  intro S hS
  subst hQ
  exact V.iret h hA hr hn ⟨hv.symm, hA' ▸ hS⟩ dd (Nat.le_refl _) (Nat.le_refl _)
theorem VR.vret {S0 : HS} {sz d : Nat} {v' : Option Value} {A' : TS} (h : CX l D tc A0 p s m args meth c cc nL own Ts) (hA : A0 = zAd S0 sz) (hQ : Q = RQ D tc am ad below args s S0 sz v' A') (hr : meth.sig.returnType = none) (hv : v' = none) (hA' : A = A') (dd : decode cc pc = .ok (.return_, 1)) :
    VR l D tc A0 p e (rmd d 0 0) s m args below meth c nL Q am ad A pc ls [] := by
  intro S hS
  subst hQ
  exact V.vret h hA hr ⟨hv.symm, hA' ▸ hS⟩ dd (Nat.le_refl _) (Nat.le_refl _)
theorem RM.of {y : MethodName} {maxL : Nat} {ret : Option FieldType} {d : Nat} {av : List Value} {v : Option Value} {A' : TS} (hls : l.stackTraces = false) (hy : plainName y.cls = true) (hav : ∀ v ∈ av, v.category = 1) (hlen : av.length ≤ maxL)
    (body : ∀ (A0 : Nat → Prop) (p : Program) (e : Env) (s : State) (m : MethodId) (args : Array Value) (below : List Frame) (meth : Method) (c : Code) (S0 : HS) (sz : Nat) (Q : State → Prop), CX l D tc A0 p s m args meth c cc maxL y.cls (.code y cc maxL ret :: WG) → meth.sig.returnType = ret → A0 = zAd S0 sz → Q = RQ D tc am ad below args s S0 sz v A' →
      VR l D tc A0 p e (rmd d 0 0) s m args below meth c maxL Q am ad A 0 (av.map some ++ List.replicate (maxL - av.length) none) []) : RM l D tc am ad y cc maxL ret d av A v A' := by
  intro S hS
  refine CM.of hls hy hav hlen (fun A0 p e s m args below meth c sz h hr hnm hA => ?_)
  exact body A0 p e s m args below meth c S sz _ h hr hA rfl S hS
theorem VR.call {y : MethodName} {cy : ByteArray} {my : Nat} {ry : Option FieldType} {d np idx : Nat} {As : List Value} {v : Option Value} {A' : TS} (h : CX l D tc A0 p s m args meth c cc nL own Ts) (hM : RM l D tc am ad y cy my ry d (.ref am :: As) A v A')
    (hc : Cond.code y cy my ry ∈ WG) (hi : Cond.initialized y.cls ∈ WG) (hlk : ML own idx y) (hin : Cond.instanceMethod y ∈ WG) (hse : Cond.selects RX11 y y ∈ WG) (hy : yok y np = true) (hnp : As.length = np)
    (hfr : d + 1 ≤ R.frames) (hlo : 8 + (my + 11) + 36 * d ≤ R.locals) (hst : (st.map fun v => v.category).sum ≤ 8) (hd : decode cc pc = .ok (.invokevirtual idx, 3)) {st0 : List Value} (hst0 : st0 = As.reverse ++ .ref am :: st)
    (kk : VR l D tc A0 p e R s m args below meth c nL Q am ad A' (pc + 3) ls (v.toList ++ st)) : VR l D tc A0 p e R s m args below meth c nL Q am ad A pc ls st0 := by
  intro S hS
  exact V.callV h (hM S hS) hc hi hlk hin hse hy hnp cls_11 hS.1 hS.2.1 hfr hlo (Nat.zero_le _) (Nat.zero_le _) hst hd hst0 (fun v9 S9 q => by rw [q.1]; exact kk S9 q.2)
theorem VR.callS {y : MethodName} {cy : ByteArray} {my : Nat} {ry : Option FieldType} {d np idx : Nat} {As : List Value} {v : Option Value} {A' : TS} (h : CX l D tc A0 p s m args meth c cc nL own Ts) (hM : RM l D tc am ad y cy my ry d As A v A')
    (hc : Cond.code y cy my ry ∈ WG) (hi : Cond.initialized y.cls ∈ WG) (hlk : ML own idx y) (hin : Cond.static y ∈ WG) (hy : yok y np = true) (hnp : As.length = np)
    (hfr : d + 1 ≤ R.frames) (hlo : 8 + (my + 11) + 36 * d ≤ R.locals) (hst : (st.map fun v => v.category).sum ≤ 8) (hd : decode cc pc = .ok (.invokestatic idx, 3)) {st0 : List Value} (hst0 : st0 = As.reverse ++ st)
    (kk : VR l D tc A0 p e R s m args below meth c nL Q am ad A' (pc + 3) ls (v.toList ++ st)) : VR l D tc A0 p e R s m args below meth c nL Q am ad A pc ls st0 := by
  intro S hS
  exact V.callS h (hM S hS) hc hi hlk hin hy hnp hfr hlo (Nat.zero_le _) (Nat.zero_le _) hst hd hst0 (fun v9 S9 q => by rw [q.1]; exact kk S9 q.2)
end VRR
