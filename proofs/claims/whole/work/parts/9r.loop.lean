/-! ===== the law: its loop ===== -/
set_option maxRecDepth 100000
theorem and31 (y : Int32) : ∃ x : Nat, x < 32 ∧ y &&& nI 31 = nI x := by
  refine ⟨y.toBitVec.toNat &&& 31, Nat.lt_of_le_of_lt Nat.and_le_right (by decide), ?_⟩
  rw [← Int32.toBitVec_inj]
  apply BitVec.eq_of_toNat_eq
  have h : y.toBitVec.toNat &&& 31 ≤ 31 := Nat.and_le_right
  simp [nI, Nat.mod_eq_of_lt (show y.toBitVec.toNat &&& 31 < 4294967296 by omega)]
theorem hd_cmp {L i : Nat} (hL : L ≤ 2564) (hi : i ≤ 3000) : nI L - nI 5 < nI i ↔ L < i + 5 := by
  rcases Nat.lt_or_ge L 5 with q | q
  · refine ⟨fun _ => by omega, fun _ => ?_⟩
    have hn : nI L - nI 5 < 0 := by
      have : L = 0 ∨ L = 1 ∨ L = 2 ∨ L = 3 ∨ L = 4 := by omega
      rcases this with rfl | rfl | rfl | rfl | rfl <;> decide
    exact Int32.lt_of_lt_of_le hn (nI_pos' (by omega))
  · rw [pk_sub q, nI_ltI (by omega) (by omega)]
    omega
def KC : Nat → Nat
  | 0 => 100
  | j + 1 => KC j + (4 * j + 40)
theorem KC_mono (j : Nat) : ∀ d, KC j ≤ KC (j + d)
  | 0 => Nat.le_refl _
  | d + 1 => Nat.le_trans (KC_mono j d) (Nat.le_add_right _ _)
theorem KC_le {j : Nat} (h : j ≤ 512) : KC j ≤ 601024 := by
  obtain ⟨d, hd⟩ : ∃ d, 512 = j + d := ⟨512 - j, by omega⟩
  have h1 := KC_mono j d
  rw [← hd] at h1
  exact Nat.le_trans h1 (by decide +kernel)
section
variable {l : Launch} {D : va_G} {tc : Nat → ClassId} {A : Nat → Prop} {p : Program} {e : Env} {R : Room} {s : State} {m : MethodId} {args : Array Value} {below : List Frame} {meth : Method} {c : Code} {Q : State → Prop} {S : HS} {k n : Nat} {Ts : List Cond} {am q0 o b L i kx dC dR mc ms : Nat} {ad : Nat → Nat} {xs : Nat → Int32} {X X' A1 : TS} {yv yv' : Int64} {Lm Lc : List Nat}
variable {j : Nat}
theorem law_sw (h : CX l D tc A p s m args meth c code 7 RL Ts) (hls : l.stackTraces = false) (hX : va_X b L xs s s.heap) (hbl : b < s.heap.size) (hbA : ¬ A b) (hL : L ≤ 2564) (hfr : 16 ≤ R.frames) (hlo : 626 ≤ R.locals) (hro : 601024 ≤ R.cells) (hrs : 7293000 ≤ R.slots)
    (kend : ∀ (S : HS) (i : Nat), V l D tc A p e R s m args below meth c 7 Q S 601024 7293000 1185 [some (.ref b), some (.ref q0), some (.ref am), some (.ref o), some (.int (nI (i))), none, none] [])
    (hj : j ≤ 511) (h9 : 4 + 5 * j + 5 ≤ L) (hJ : LJ tc am ad q0 o X A1 yv S Lm Lc) (hA1 : A1 = sf X 0 0) (hI : INV (7300 + 3100 * j) A1) (hm : iMom A1) (h0 : tf A1 0 = 0) (h13 : tf A1 13 ≤ j) (hk : k + (4 * j + 40) ≤ 601024) (hn : n + 27468 ≤ 7293000) {x : Nat} (hx : x < 32) (hJX : LJ tc am ad q0 o X X yv S Lm Lc) (hN0 : NX (7300 + 3100 * j) j A1 0 X)
    (kk : ∀ (X' : TS) (yv' : Int64) (S' : HS) (Lm' Lc' : List Nat) (a : Nat), LJ tc am ad q0 o X' X' yv' S' Lm' Lc' → NX (7300 + 3100 * j) j A1 a X' → V l D tc A p e R s m args below meth c 7 Q S' (k + (4 * j + 40)) (n + (12468 + 15000 * a)) 1179 [some (.ref b), some (.ref q0), some (.ref am), some (.ref o), some (.int (nI (4 + 5 * j))), none, none] []) : V l D tc A p e R s m args below meth c 7 Q S k n 79 [some (.ref b), some (.ref q0), some (.ref am), some (.ref o), some (.int (nI (4 + 5 * j))), none, none] [.int (nI x)] := by
  have hd : decode code 79 = .ok (.tableswitch 1100 0 16 #[81, 173, 236, 292, 348, 404, 460, 523, 586, 654, 722, 790, 858, 926, 994, 1062, 1075], 81) := by decide +kernel
  rcases Nat.lt_or_ge x 17 with hx | h17
  · have hxs : x = 0 ∨ x = 1 ∨ x = 2 ∨ x = 3 ∨ x = 4 ∨ x = 5 ∨ x = 6 ∨ x = 7 ∨ x = 8 ∨ x = 9 ∨ x = 10 ∨ x = 11 ∨ x = 12 ∨ x = 13 ∨ x = 14 ∨ x = 15 ∨ x = 16 := by omega
    rcases hxs with rfl | rfl | rfl | rfl | rfl | rfl | rfl | rfl | rfl | rfl | rfl | rfl | rfl | rfl | rfl | rfl | rfl
    · exact V.tableN (pc := 79) (x := 0) h (by decide) hd (by decide) (off := 81) rfl (tgt := 160) (by decide) (st_ask h hls hX hbl hbA (by omega) (by omega) hJ rfl rfl rfl rfl hA1 hI hm h0 h13 (by omega) (by omega) hfr hlo (by omega) (by omega) kk)
    · exact V.tableN (pc := 79) (x := 1) h (by decide) hd (by decide) (off := 173) rfl (tgt := 252) (by decide) (st_retry h hls hX hbl hbA (by omega) (by omega) hJ rfl hA1 hI hm h0 h13 (by omega) (by omega) hfr hlo (by omega) (by omega) kk)
    · exact V.tableN (pc := 79) (x := 2) h (by decide) hd (by decide) (off := 236) rfl (tgt := 315) (by decide) (st_learn h hls hX hbl hbA (by omega) (by omega) hJ rfl hA1 hI hm h0 h13 (by omega) (by omega) hfr hlo (by omega) (by omega) kk)
    · exact V.tableN (pc := 79) (x := 3) h (by decide) hd (by decide) (off := 292) rfl (tgt := 371) (by decide) (st_deliver h hls hX hbl hbA (by omega) (by omega) hJ rfl hA1 hI hm h0 h13 (by omega) (by omega) hfr hlo (by omega) (by omega) kk)
    · exact V.tableN (pc := 79) (x := 4) h (by decide) hd (by decide) (off := 348) rfl (tgt := 427) (by decide) (st_lose h hls hX hbl hbA (by omega) (by omega) hJ rfl hA1 hI hm h0 h13 (by omega) (by omega) hfr hlo (by omega) (by omega) kk)
    · exact V.tableN (pc := 79) (x := 5) h (by decide) hd (by decide) (off := 404) rfl (tgt := 483) (by decide) (st_twice h hls hX hbl hbA (by omega) (by omega) hJ rfl hA1 hI hm h0 h13 (by omega) (by omega) hfr hlo (by omega) (by omega) kk)
    · exact V.tableN (pc := 79) (x := 6) h (by decide) hd (by decide) (off := 460) rfl (tgt := 539) (by decide) (st_sync h hls hX hbl hbA (by omega) (by omega) hJ rfl hA1 hI hm h0 h13 (by omega) (by omega) hfr hlo (by omega) (by omega) kk)
    · exact V.tableN (pc := 79) (x := 7) h (by decide) hd (by decide) (off := 523) rfl (tgt := 602) (by decide) (st_crash h hls hX hbl hbA (by omega) (by omega) hJ rfl hA1 hI hm h0 h13 (by omega) (by omega) hfr hlo (by omega) (by omega) kk)
    · exact V.tableN (pc := 79) (x := 8) h (by decide) hd (by decide) (off := 586) rfl (tgt := 665) (by decide) (st_decide h hls hX hbl hbA (by omega) (by omega) hJ rfl rfl hA1 hI hm h0 h13 (by omega) (by omega) hfr hlo (by omega) (by omega) kk)
    · exact V.tableN (pc := 79) (x := 9) h (by decide) hd (by decide) (off := 654) rfl (tgt := 733) (by decide) (st_letter h hls hX hbl hbA (by omega) (by omega) hJ rfl rfl hA1 hI hm h0 h13 (by omega) (by omega) hfr hlo (by omega) (by omega) kk)
    · exact V.tableN (pc := 79) (x := 10) h (by decide) hd (by decide) (off := 722) rfl (tgt := 801) (by decide) (st_client h hls hX hbl hbA (by omega) (by omega) hJ rfl rfl hA1 hI hm h0 h13 (by omega) (by omega) hfr hlo (by omega) (by omega) kk)
    · exact V.tableN (pc := 79) (x := 11) h (by decide) hd (by decide) (off := 790) rfl (tgt := 869) (by decide) (st_master h hls hX hbl hbA (by omega) (by omega) hJ rfl rfl hA1 hI hm h0 h13 (by omega) (by omega) hfr hlo (by omega) (by omega) kk)
    · exact V.tableN (pc := 79) (x := 12) h (by decide) hd (by decide) (off := 858) rfl (tgt := 937) (by decide) (st_value h hls hX hbl hbA (by omega) (by omega) hJ rfl rfl hA1 hI hm h0 h13 (by omega) (by omega) hfr hlo (by omega) (by omega) kk)
    · exact V.tableN (pc := 79) (x := 13) h (by decide) hd (by decide) (off := 926) rfl (tgt := 1005) (by decide) (st_backup h hls hX hbl hbA (by omega) (by omega) hJ rfl rfl hA1 hI hm h0 h13 (by omega) (by omega) hfr hlo (by omega) (by omega) kk)
    · exact V.tableN (pc := 79) (x := 14) h (by decide) hd (by decide) (off := 994) rfl (tgt := 1073) (by decide) (st_witness h hls hX hbl hbA (by omega) (by omega) hJ rfl rfl hA1 hI hm h0 h13 (by omega) (by omega) hfr hlo (by omega) (by omega) kk)
    · exact V.tableN (pc := 79) (x := 15) h (by decide) hd (by decide) (off := 1062) rfl (tgt := 1141) (by decide) (st_audit h hls hX hbl hbA (by omega) (by omega) hJ  hA1 hI hm h0 h13 (by omega) (by omega) hfr hlo (by omega) (by omega) kk)
    · exact V.tableN (pc := 79) (x := 16) h (by decide) hd (by decide) (off := 1075) rfl (tgt := 1154) (by decide) (st_count h hls hX hbl hbA (by omega) (by omega) hJ rfl hA1 hI hm h0 h13 (by omega) (by omega) hfr hlo (by omega) (by omega) kk)
  · refine V.tableOut (pc := 79) h hd (Or.inr (by rw [nI_toInt (by omega)]; omega)) (tgt := 1179) (by decide) ?_
    exact V.widen (by omega) (by omega) (kk _ _ _ _ _ 0 hJX hN0)
theorem law_step (h : CX l D tc A p s m args meth c code 7 RL Ts) (hls : l.stackTraces = false) (hX : va_X b L xs s s.heap) (hbl : b < s.heap.size) (hbA : ¬ A b) (hL : L ≤ 2564) (hfr : 16 ≤ R.frames) (hlo : 626 ≤ R.locals) (hro : 601024 ≤ R.cells) (hrs : 7293000 ≤ R.slots)
    (kend : ∀ (S : HS) (i : Nat), V l D tc A p e R s m args below meth c 7 Q S 601024 7293000 1185 [some (.ref b), some (.ref q0), some (.ref am), some (.ref o), some (.int (nI (i))), none, none] [])
    (hj : j ≤ 512) (hJ : LJ tc am ad q0 o X X yv S Lm Lc) (hI : INV (7300 + 3100 * j) X) (hm : iMom X) (h13 : tf X 13 ≤ j)
    (next : j ≤ 511 → ∀ (X' : TS) (yv' : Int64) (S' : HS) (Lm' Lc' : List Nat), LJ tc am ad q0 o X' X' yv' S' Lm' Lc' → INV (7300 + 3100 * (j + 1)) X' → iMom X' → tf X' 13 ≤ j + 1 → V l D tc A p e R s m args below meth c 7 Q S' (KC (j + 1)) (65000 + 12468 * (j + 1) + 15000 * tf X' 38) 63 [some (.ref b), some (.ref q0), some (.ref am), some (.ref o), some (.int (nI (4 + 5 * (j + 1)))), none, none] []) : V l D tc A p e R s m args below meth c 7 Q S (KC j) (65000 + 12468 * j + 15000 * tf X 38) 63 [some (.ref b), some (.ref q0), some (.ref am), some (.ref o), some (.int (nI (4 + 5 * j))), none, none] [] := by
  have f38 := hI.f38
  have hkc := KC_le hj
  refine V.blk h [(.iload 4, 2), (.aload_n 0, 1)] (by decide +kernel) (pc' := 66) (ls' := [some (.ref b), some (.ref q0), some (.ref am), some (.ref o), some (.int (nI (4 + 5 * j))), none, none]) (st' := [.ref b, .int (nI (4 + 5 * j))]) rfl rfl (Nat.le_of_ble_eq_true rfl) ?_
  refine V.slen (pc := 66) h hX hbl hbA (by decide +kernel) ?_
  refine V.blk h [(.iconst 5, 1), (.isub, 1)] (by decide +kernel) (pc' := 69) (ls' := [some (.ref b), some (.ref q0), some (.ref am), some (.ref o), some (.int (nI (4 + 5 * j))), none, none]) (st' := [.int (nI L - nI 5), .int (nI (4 + 5 * j))]) rfl rfl (Nat.le_of_ble_eq_true rfl) ?_
  refine V.icmp_gt (pc := 69) h (off := 1116) (by decide +kernel) (tgt := 1185) (by decide) (fun z => ?_) (fun z => ?_)
  · exact V.widen (by omega) (by omega) (kend S (4 + 5 * j))
  have h9 : 4 + 5 * j + 5 ≤ L := by
    rcases Nat.lt_or_ge L (4 + 5 * j + 5) with q | q
    · exact absurd ((hd_cmp hL (by omega)).mpr q) z
    · exact q
  have hj1 : j ≤ 511 := by omega
  have hkc1 := KC_le (j := j + 1) (by omega)
  have hkc2 : KC (j + 1) = KC j + (4 * j + 40) := rfl
  refine V.blk h [(.aload_n 0, 1), (.iload 4, 2)] (by decide +kernel) (pc' := 75) (ls' := [some (.ref b), some (.ref q0), some (.ref am), some (.ref o), some (.int (nI (4 + 5 * j))), none, none]) (st' := [.int (nI (4 + 5 * j)), .ref b]) rfl rfl (Nat.le_of_ble_eq_true rfl) ?_
  refine V.sld (pc := 75) h hX hbl hbA (show 4 + 5 * j < L by omega) (by omega) (by decide +kernel) ?_
  refine V.blk h [(.bipush 31, 2), (.iand, 1)] (by decide +kernel) (pc' := 79) (ls' := [some (.ref b), some (.ref q0), some (.ref am), some (.ref o), some (.int (nI (4 + 5 * j))), none, none]) (st' := [.int (xs (4 + 5 * j) &&& nI 31)]) rfl rfl (Nat.le_of_ble_eq_true rfl) ?_
  obtain ⟨x, hx, ex⟩ := and31 (xs (4 + 5 * j))
  refine V.top (v' := .int (nI x)) (by rw [ex]) ?_
  obtain ⟨q1, q2, q3, q4, q5⟩ := s0_all hI hm h13
  refine law_sw h hls hX hbl hbA hL hfr hlo hro hrs kend hj1 h9 (hJ.two AG.s0) rfl q1 q2 q3 q4 (by omega) (by omega) hx hJ ⟨hI.mono (by omega), hm, by omega, by rw [q5, Nat.add_zero]⟩ (fun X' yv' S' Lm' Lc' a hJ' hN => ?_)
  obtain ⟨n1, n2, n3, n4⟩ := hN
  rw [q5] at n4
  refine V.blk h [(.iinc 4 5, 3)] (by decide +kernel) (pc' := 1182) (ls' := [some (.ref b), some (.ref q0), some (.ref am), some (.ref o), some (.int (nI (4 + 5 * j) + nI 5)), none, none]) (st' := []) rfl rfl (Nat.le_of_ble_eq_true rfl) ?_
  refine V.goto (pc := 1182) h (off := -1119) (by decide +kernel) (tgt := 63) (by decide) ?_
  have e1 : nI (4 + 5 * j) + nI 5 = nI (4 + 5 * (j + 1)) := by rw [nI_add]; congr 1
  rw [e1]
  exact V.widen (by omega) (by omega) (next hj1 X' yv' S' Lm' Lc' hJ' (n1.mono (by omega)) n2 n3)
theorem law_loop (h : CX l D tc A p s m args meth c code 7 RL Ts) (hls : l.stackTraces = false) (hX : va_X b L xs s s.heap) (hbl : b < s.heap.size) (hbA : ¬ A b) (hL : L ≤ 2564) (hfr : 16 ≤ R.frames) (hlo : 626 ≤ R.locals) (hro : 601024 ≤ R.cells) (hrs : 7293000 ≤ R.slots)
    (kend : ∀ (S : HS) (i : Nat), V l D tc A p e R s m args below meth c 7 Q S 601024 7293000 1185 [some (.ref b), some (.ref q0), some (.ref am), some (.ref o), some (.int (nI (i))), none, none] []) : ∀ (f j : Nat) (X : TS) (yv : Int64) (S : HS) (Lm Lc : List Nat), j + f = 512 → LJ tc am ad q0 o X X yv S Lm Lc → INV (7300 + 3100 * j) X → iMom X → tf X 13 ≤ j → V l D tc A p e R s m args below meth c 7 Q S (KC j) (65000 + 12468 * j + 15000 * tf X 38) 63 [some (.ref b), some (.ref q0), some (.ref am), some (.ref o), some (.int (nI (4 + 5 * j))), none, none] []
  | 0, j, X, yv, S, Lm, Lc, hf, hJ, hI, hm, h13 => law_step h hls hX hbl hbA hL hfr hlo hro hrs kend (by omega) hJ hI hm h13 (fun z => absurd z (by omega))
  | f + 1, j, X, yv, S, Lm, Lc, hf, hJ, hI, hm, h13 => law_step h hls hX hbl hbA hL hfr hlo hro hrs kend (by omega) hJ hI hm h13 (fun _ X' yv' S' Lm' Lc' hJ' hI' hm' h13' => law_loop h hls hX hbl hbA hL hfr hlo hro hrs kend f (j + 1) X' yv' S' Lm' Lc' (by omega) hJ' hI' hm' h13')
end
