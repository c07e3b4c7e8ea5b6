/-! ===== the law: its cases ===== -/
def GoodA (a : AS) : Prop := Good a.1 ∧ (∀ i, i < a.2.1.1 → Good (a.2.1.2 i)) ∧ (∀ kz, a.2.2.1 = some kz → Good kz) ∧ TOk a.2.2.2
theorem psh_good {h : HP} {z : ZZ} (hh : ∀ i, i < h.1 → Good (h.2 i)) (hz : Good z) : ∀ i, i < (psh h z).1 → Good ((psh h z).2 i) := by
  intro i hi
  by_cases h5 : h.1 < 5
  · have e : psh h z = (h.1 + 1, fun i => if i = h.1 then z else h.2 i) := if_pos h5
    rw [e] at hi ⊢
    have hi : i < h.1 + 1 := hi
    show Good (if i = h.1 then z else h.2 i)
    by_cases c : i = h.1
    · rw [if_pos c]; exact hz
    · rw [if_neg c]; exact hh i (by omega)
  · have e : psh h z = (5, fun i => if i = 4 then z else h.2 (i + 1)) := if_neg h5
    rw [e] at hi ⊢
    have hi : i < 5 := hi
    show Good (if i = 4 then z else h.2 (i + 1))
    by_cases c : i = 4
    · rw [if_pos c]; exact hz
    · rw [if_neg c]; exact hh (i + 1) (by omega)
theorem GoodA.und {f : Int32 × ZZ} {a : AS} (h : GoodA a) (hf : Good f.2) : GoodA (und f a) := by
  obtain ⟨h1, h2, h3, h4⟩ := h
  unfold Jvm.Pilot.@@N@@.und
  refine ⟨hf, ?_, h3, h4⟩
  by_cases c : isEr f.1
  · rw [cif_pos c]; exact h2
  · rw [cif_neg c]; exact psh_good h2 h1
theorem GoodA.unA {a : AS} (h : GoodA a) : GoodA (unA a).2 := by
  obtain ⟨h1, h2, h3, h4⟩ := id h
  unfold Jvm.Pilot.@@N@@.unA
  by_cases c : a.2.1.1 = 0
  · rw [if_pos c]; exact h
  · rw [if_neg c]
    exact ⟨h2 _ (by omega), fun i hi => h2 i (by have hi : i < a.2.1.1 - 1 := hi; omega), h3, h4⟩
theorem GoodA.reA {a : AS} (h : GoodA a) : GoodA (reA a).2 := by
  obtain ⟨z, hh, k, t⟩ := a
  cases k with
  | none => exact h
  | some kz => exact h.und (f := (kz 0, kz)) (h.2.2.1 kz rfl)
theorem GoodA.svA {a : AS} (h : GoodA a) : GoodA (a.1, a.2.1, some a.1, a.2.2.2) := ⟨h.1, h.2.1, fun kz e => by cases e; exact h.1, h.2.2.2⟩
theorem GoodA.apA {a : AS} {x : Int32} (h : GoodA a) : GoodA (apA a x).2 := by
  obtain ⟨h1, h2, h3, h4⟩ := id h
  unfold Jvm.Pilot.@@N@@.apA
  by_cases c : nI 33 ≤ x ∧ x ≤ nI 126
  · rw [cif_pos c]
    by_cases c2 : a.2.2.2.1 = 80
    · rw [if_pos c2]; exact h
    · rw [if_neg c2]
      refine ⟨h1, h2, h3, fun j hj => ?_⟩
      have hj : j < a.2.2.2.1 + 1 := hj
      show ∃ c, 33 ≤ c ∧ c ≤ 126 ∧ upd a.2.2.2.2 a.2.2.2.1 x j = nI c
      unfold upd
      by_cases e : j = a.2.2.2.1
      · rw [if_pos e]
        obtain ⟨n, hn1, hn2, e2⟩ := inI (by decide) c (by decide)
        exact ⟨n, hn1, hn2, e2⟩
      · rw [if_neg e]; exact h4 j (by omega)
  · rw [cif_neg c]; exact h
theorem GoodA.clA {a : AS} (h : GoodA a) : GoodA (clA a).2 := ⟨h.1, h.2.1, h.2.2.1, fun j hj => absurd hj (Nat.not_lt_zero j)⟩
theorem GoodA.exA {a : AS} (h : GoodA a) : GoodA (exA a).2 := by
  obtain ⟨h1, h2, h3, h4⟩ := id h
  unfold Jvm.Pilot.@@N@@.exA
  cases hx : txt a.2.2.2 80 0 with
  | inl e => exact h
  | inr l => exact ⟨Good.exs l _ h1, psh_good h2 h1, h3, fun j hj => absurd hj (Nat.not_lt_zero j)⟩
theorem Good.ne {z : ZZ} (h : Good z) : ¬ isEr (z 0) := by
  obtain ⟨c, h⟩ := h
  have := h.1.1
  rw [h.1.2.1]
  exact isEr_nI (by omega)
def SX (E : EV) (X : CX) (L : Nat) (xs : Nat → Int32) : Prop := match X with
  | (p, l, e, R, s, m, args, below, meth, c, cells, slots, QF, A, H0) => va_X (E.2.1 (99, 0, 0)) L xs s H0 ∧ E.2.1 (99, 0, 0) < H0.size ∧ ¬ A (E.2.1 (99, 0, 0))
section MLW
variable {E : EV} {X : CX} {own : String} {cc : ByteArray} {nL : Nat} {ret : Option FieldType} {dep pc : Nat} {ls st : List VV} {mem : MEM} {L : Nat} {xs : Nat → Int32}
theorem f_sld (C : CK E X own cc nL ret dep) (S : SX E X L xs) {j : Nat} (hj : j < L) (hL : L < 2 ^ 31) (hdg : decode cc pc = .ok (.iaload, 1)) (h : G E X nL (pc + 1) ls (iv (xs j) :: st) mem) : G E X nL pc ls (iv (nI j) :: rv (99, 0, 0) :: st) mem := by
  obtain ⟨p, l, e, R, s, m, args, below, meth, c, cells, slots, QF, A, H0⟩ := X
  obtain ⟨hx, hb, -⟩ := C
  obtain ⟨s1, s2, s3⟩ := S
  intro lsA H locs hLR hW hS
  refine va_sld hx hb s1 s2 s3 hS (nI_in hj hL) hdg ?_
  rw [nI_clamp (Nat.lt_trans hj hL)]
  exact h lsA H locs hLR hW hS
theorem f_slen (C : CK E X own cc nL ret dep) (S : SX E X L xs) (hdg : decode cc pc = .ok (.arraylength, 1)) (h : G E X nL (pc + 1) ls (iv (nI L) :: st) mem) : G E X nL pc ls (rv (99, 0, 0) :: st) mem := by
  obtain ⟨p, l, e, R, s, m, args, below, meth, c, cells, slots, QF, A, H0⟩ := X
  obtain ⟨hx, hb, -⟩ := C
  obtain ⟨s1, s2, s3⟩ := S
  intro lsA H locs hLR hW hS
  exact va_slen hx hb s1 s2 s3 hS hdg (h lsA H locs hLR hW hS)
end MLW
theorem m_X7_replicas {E : EV} {l : Launch} {mem : MEM} {a : AS} (hM : RM mem a) {c : Nat} (hI : Inv a.1 c) : Ct E l yX7_replicas (me_ws yX7_replicas cX7_replicas 3 (some .int)) 2 [rv (17, 0, 0)] mem (Ret (iv (msk (fun r => rz a.1 r 0) 5)) mem) := by
  have h : Ct E l yX7_replicas (me_ws yX7_replicas cX7_replicas 3 (some .int)) 2 [rv (17, 0, 0)] (mz mem a.1) (Ret (iv (msk (fun r => rz a.1 r 0) 5)) (mz mem a.1)) := c_X7_replicas hI
  rw [mz_self hM.1] at h
  exact h
theorem m_X7_replica {E : EV} {l : Launch} {mem : MEM} {a : AS} (hM : RM mem a) {x y : Int32} : Ct E l yX7_replica (me_ws yX7_replica cX7_replica 3 (some .int)) 3 [rv (17, 0, 0), iv x, iv y] mem (Ret (iv (fRepl a.1 x y)) mem) := by
  have h : Ct E l yX7_replica (me_ws yX7_replica cX7_replica 3 (some .int)) 3 [rv (17, 0, 0), iv x, iv y] (mz mem a.1) (Ret (iv (fRepl a.1 x y)) (mz mem a.1)) := c_X7_replica
  rw [mz_self hM.1] at h
  exact h
theorem m_X7_length {E : EV} {l : Launch} {mem : MEM} {a : AS} (hM : RM mem a) : Ct E l yX7_length (me_ws yX7_length cX7_length 1 (some .int)) 1 [rv (17, 0, 0)] mem (Ret (iv (a.1 0)) mem) := by
  have h : Ct E l yX7_length (me_ws yX7_length cX7_length 1 (some .int)) 1 [rv (17, 0, 0)] (mz mem a.1) (Ret (iv (a.1 0)) (mz mem a.1)) := c_X7_length
  rw [mz_self hM.1] at h
  exact h
theorem m_X7_logged {E : EV} {l : Launch} {mem : MEM} {a : AS} (hM : RM mem a) {c : Nat} (hI : Inv a.1 c) {x y : Int32} : Ct E l yX7_logged (me_ws yX7_logged cX7_logged 3 (some .int)) 2 [rv (17, 0, 0), iv x, iv y] mem (Ret (iv (fLog a.1 x y)) mem) := by
  have h : Ct E l yX7_logged (me_ws yX7_logged cX7_logged 3 (some .int)) 2 [rv (17, 0, 0), iv x, iv y] (mz mem a.1) (Ret (iv (fLog a.1 x y)) (mz mem a.1)) := c_X7_logged hI
  rw [mz_self hM.1] at h
  exact h
theorem m_X7_position {E : EV} {l : Launch} {mem : MEM} {a : AS} (hM : RM mem a) {c : Nat} (hI : Inv a.1 c) {x : Int32} : Ct E l yX7_position (me_ws yX7_position cX7_position 2 (some .int)) 4 [rv (17, 0, 0), iv x] mem (Ret (iv (posg a.1 x)) mem) := by
  have h : Ct E l yX7_position (me_ws yX7_position cX7_position 2 (some .int)) 4 [rv (17, 0, 0), iv x] (mz mem a.1) (Ret (iv (posg a.1 x)) (mz mem a.1)) := c_X7_position hI
  rw [mz_self hM.1] at h
  exact h
theorem m_X7_version {E : EV} {l : Launch} {mem : MEM} {a : AS} (hM : RM mem a) {c : Nat} (hI : Inv a.1 c) {x y : Int32} : Ct E l yX7_version (me_ws yX7_version cX7_version 3 (some .int)) 4 [rv (17, 0, 0), iv x, iv y] mem (Ret (iv (fVer a.1 x y)) mem) := by
  have h : Ct E l yX7_version (me_ws yX7_version cX7_version 3 (some .int)) 4 [rv (17, 0, 0), iv x, iv y] (mz mem a.1) (Ret (iv (fVer a.1 x y)) (mz mem a.1)) := c_X7_version hI
  rw [mz_self hM.1] at h
  exact h
theorem m_X7_value {E : EV} {l : Launch} {mem : MEM} {a : AS} (hM : RM mem a) {c : Nat} (hI : Inv a.1 c) {x y : Int32} : Ct E l yX7_value (me_ws yX7_value cX7_value 3 (some .int)) 4 [rv (17, 0, 0), iv x, iv y] mem (Ret (iv (fVal a.1 x y)) mem) := by
  have h : Ct E l yX7_value (me_ws yX7_value cX7_value 3 (some .int)) 4 [rv (17, 0, 0), iv x, iv y] (mz mem a.1) (Ret (iv (fVal a.1 x y)) (mz mem a.1)) := c_X7_value hI
  rw [mz_self hM.1] at h
  exact h
theorem m_X7_missing {E : EV} {l : Launch} {mem : MEM} {a : AS} (hM : RM mem a) {c : Nat} (hI : Inv a.1 c) {x y : Int32} : Ct E l yX7_missing (me_ws yX7_missing cX7_missing 5 (some .int)) 4 [rv (17, 0, 0), iv x, iv y] mem (Ret (iv (fMis a.1 x y)) mem) := by
  have h : Ct E l yX7_missing (me_ws yX7_missing cX7_missing 5 (some .int)) 4 [rv (17, 0, 0), iv x, iv y] (mz mem a.1) (Ret (iv (fMis a.1 x y)) (mz mem a.1)) := c_X7_missing hI
  rw [mz_self hM.1] at h
  exact h
theorem m_X7_answers {E : EV} {l : Launch} {mem : MEM} {a : AS} (hM : RM mem a) {x : Int32} : Ct E l yX7_answers (me_ws yX7_answers cX7_answers 2 (some .int)) 4 [rv (17, 0, 0), iv x] mem (Ret (iv (fAns a.1 x)) mem) := by
  have h : Ct E l yX7_answers (me_ws yX7_answers cX7_answers 2 (some .int)) 4 [rv (17, 0, 0), iv x] (mz mem a.1) (Ret (iv (fAns a.1 x)) (mz mem a.1)) := c_X7_answers
  rw [mz_self hM.1] at h
  exact h
theorem m_X7_sessions {E : EV} {l : Launch} {mem : MEM} {a : AS} (hM : RM mem a) {c : Nat} (hI : Inv a.1 c) : Ct E l yX7_sessions (me_ws yX7_sessions cX7_sessions 3 (some .int)) 2 [rv (17, 0, 0)] mem (Ret (iv (msk (fun r => sz a.1 r 0) 8)) mem) := by
  have h : Ct E l yX7_sessions (me_ws yX7_sessions cX7_sessions 3 (some .int)) 2 [rv (17, 0, 0)] (mz mem a.1) (Ret (iv (msk (fun r => sz a.1 r 0) 8)) (mz mem a.1)) := c_X7_sessions hI
  rw [mz_self hM.1] at h
  exact h
theorem m_X7_session {E : EV} {l : Launch} {mem : MEM} {a : AS} (hM : RM mem a) {c : Nat} (hI : Inv a.1 c) {x y : Int32} : Ct E l yX7_session (me_ws yX7_session cX7_session 3 (some .int)) 4 [rv (17, 0, 0), iv x, iv y] mem (Ret (iv (fSes a.1 x y)) mem) := by
  have h : Ct E l yX7_session (me_ws yX7_session cX7_session 3 (some .int)) 4 [rv (17, 0, 0), iv x, iv y] (mz mem a.1) (Ret (iv (fSes a.1 x y)) (mz mem a.1)) := c_X7_session hI
  rw [mz_self hM.1] at h
  exact h
theorem m_X7_latest {E : EV} {l : Launch} {mem : MEM} {a : AS} (hM : RM mem a) {x : Int32} : Ct E l yX7_latest (me_ws yX7_latest cX7_latest 2 (some .int)) 2 [rv (17, 0, 0), iv x] mem (Ret (iv (fLat a.1 x)) mem) := by
  have h : Ct E l yX7_latest (me_ws yX7_latest cX7_latest 2 (some .int)) 2 [rv (17, 0, 0), iv x] (mz mem a.1) (Ret (iv (fLat a.1 x)) (mz mem a.1)) := c_X7_latest
  rw [mz_self hM.1] at h
  exact h
theorem m_X7_waitFor {E : EV} {l : Launch} {mem : MEM} {a : AS} (hM : RM mem a) {c : Nat} (hI : Inv a.1 c) {x y w : Int32} : Ct E l yX7_waitFor (me_ws yX7_waitFor cX7_waitFor 4 (some .int)) 6 [rv (17, 0, 0), iv x, iv y, iv w] mem (Ret (iv (fWai a.1 x y w)) mem) := by
  have h : Ct E l yX7_waitFor (me_ws yX7_waitFor cX7_waitFor 4 (some .int)) 6 [rv (17, 0, 0), iv x, iv y, iv w] (mz mem a.1) (Ret (iv (fWai a.1 x y w)) (mz mem a.1)) := c_X7_waitFor hI
  rw [mz_self hM.1] at h
  exact h
theorem m_X7_bestReplica {E : EV} {l : Launch} {mem : MEM} {a : AS} (hM : RM mem a) {c : Nat} (hI : Inv a.1 c) {x y : Int32} : Ct E l yX7_bestReplica (me_ws yX7_bestReplica cX7_bestReplica 8 (some .int)) 6 [rv (17, 0, 0), iv x, iv y] mem (Ret (iv (fBest a.1 x y)) mem) := by
  have h : Ct E l yX7_bestReplica (me_ws yX7_bestReplica cX7_bestReplica 8 (some .int)) 6 [rv (17, 0, 0), iv x, iv y] (mz mem a.1) (Ret (iv (fBest a.1 x y)) (mz mem a.1)) := c_X7_bestReplica hI
  rw [mz_self hM.1] at h
  exact h
theorem m_X7_keysAfter {E : EV} {l : Launch} {mem : MEM} {a : AS} (hM : RM mem a) {c : Nat} (hI : Inv a.1 c) {x y w : Int32} : Ct E l yX7_keysAfter (me_ws yX7_keysAfter cX7_keysAfter 6 (some .int)) 6 [rv (17, 0, 0), iv x, iv y, iv w] mem (Ret (iv (fKeys a.1 x y w)) mem) := by
  have h : Ct E l yX7_keysAfter (me_ws yX7_keysAfter cX7_keysAfter 6 (some .int)) 6 [rv (17, 0, 0), iv x, iv y, iv w] (mz mem a.1) (Ret (iv (fKeys a.1 x y w)) (mz mem a.1)) := c_X7_keysAfter hI
  rw [mz_self hM.1] at h
  exact h
theorem m_X7_catchUp {E : EV} {l : Launch} {mem : MEM} {a : AS} (hM : RM mem a) {c : Nat} (hI : Inv a.1 c) : Ct E l yX7_catchUp (me_ws yX7_catchUp cX7_catchUp 5 (some .int)) 2 [rv (17, 0, 0)] mem (Ret (iv (cup a.1 5)) mem) := by
  have h : Ct E l yX7_catchUp (me_ws yX7_catchUp cX7_catchUp 5 (some .int)) 2 [rv (17, 0, 0)] (mz mem a.1) (Ret (iv (cup a.1 5)) (mz mem a.1)) := c_X7_catchUp hI
  rw [mz_self hM.1] at h
  exact h
set_option maxRecDepth 100000 in
set_option maxHeartbeats 4000000 in
theorem lc_0 {E : EV} {X : CX} {L : Nat} {xs : Nat → Int32} (C : CK E X RL cL_law 4 (some .boolean) 11) (S : SX E X L xs) (hL : L ≤ 2048) {i : Nat} (hi : i + 4 ≤ L) {mem : MEM} {a : AS} (hC : RC mem a) (hM : RM mem a) (hG : GoodA a) (kk : ∀ m a, RC m a → RM m a → GoodA a → G E X 4 1223 [rv (99, 0, 0), rv (0, 0, 0), rv (17, 0, 0), iv (nI i)] [] m) : G E X 4 196 [rv (99, 0, 0), rv (0, 0, 0), rv (17, 0, 0), iv (nI i)] [] mem := by
  obtain ⟨c, hI, hX⟩ := hG.1
  refine e_aload_n C dL_law_196 rfl ?_
  refine e_aload_n C dL_law_197 rfl ?_
  refine e_iload_n C dL_law_198 rfl ?_
  refine e_iconst (v := nI 1) C dL_law_199 (by decide) ?_
  refine f_iaddn C dL_law_200 ?_
  refine f_sld C S (by omega) (by omega) dL_law_201 ?_
  refine e_aload_n C dL_law_202 rfl ?_
  refine e_iload_n C dL_law_203 rfl ?_
  refine e_iconst (v := nI 2) C dL_law_204 (by decide) ?_
  refine f_iaddn C dL_law_205 ?_
  refine f_sld C S (by omega) (by omega) dL_law_206 ?_
  refine f_callVi (As := [_, _]) (ci := 6) C mi_yX6_addReplica mv_yX6_addReplica b_ml_L_13 dL_law_207 rfl (c_X6_addReplica hC hI) (by decide) v0 rfl rfl (Nat.le_of_ble_eq_true rfl) (fun x_207 m_207 hc_207 => ?_)
  obtain ⟨rfl, hC1, hF1⟩ := hc_207
  have hM1 := hM.frC hF1
  refine e_aload_n C dL_law_210 rfl ?_
  refine e_aload_n C dL_law_211 rfl ?_
  refine e_iload_n C dL_law_212 rfl ?_
  refine e_iconst (v := nI 1) C dL_law_213 (by decide) ?_
  refine f_iaddn C dL_law_214 ?_
  refine f_sld C S (by omega) (by omega) dL_law_215 ?_
  refine e_aload_n C dL_law_216 rfl ?_
  refine e_iload_n C dL_law_217 rfl ?_
  refine e_iconst (v := nI 2) C dL_law_218 (by decide) ?_
  refine f_iaddn C dL_law_219 ?_
  refine f_sld C S (by omega) (by omega) dL_law_220 ?_
  refine f_callVi (As := [_, _]) (ci := 7) C mi_yX7_addReplica mv_yX7_addReplica b_ml_L_17 dL_law_221 rfl (c_X7_addReplica hM1 hG.1) (by decide) v17 rfl rfl (Nat.le_of_ble_eq_true rfl) (fun x_221 m_221 hc_221 => ?_)
  obtain ⟨rfl, hM2, hF2⟩ := hc_221
  have hC2 := hC1.frM hF2
  refine e_icmp_eq (tgt := 1223) C dL_law_224 (by decide) (fun h_224 => ?_) (fun h_224 => ?_)
  · skip
    exact kk _ _ hC2 hM2 (hG.und (Good.add hG.1))
  · skip
    exact absurd rfl h_224
set_option maxRecDepth 100000 in
set_option maxHeartbeats 4000000 in
theorem lc_1 {E : EV} {X : CX} {L : Nat} {xs : Nat → Int32} (C : CK E X RL cL_law 4 (some .boolean) 11) (S : SX E X L xs) (hL : L ≤ 2048) {i : Nat} (hi : i + 4 ≤ L) {mem : MEM} {a : AS} (hC : RC mem a) (hM : RM mem a) (hG : GoodA a) (kk : ∀ m a, RC m a → RM m a → GoodA a → G E X 4 1223 [rv (99, 0, 0), rv (0, 0, 0), rv (17, 0, 0), iv (nI i)] [] m) : G E X 4 229 [rv (99, 0, 0), rv (0, 0, 0), rv (17, 0, 0), iv (nI i)] [] mem := by
  obtain ⟨c, hI, hX⟩ := hG.1
  refine e_aload_n C dL_law_229 rfl ?_
  refine e_aload_n C dL_law_230 rfl ?_
  refine e_iload_n C dL_law_231 rfl ?_
  refine e_iconst (v := nI 1) C dL_law_232 (by decide) ?_
  refine f_iaddn C dL_law_233 ?_
  refine f_sld C S (by omega) (by omega) dL_law_234 ?_
  refine f_callVi (As := [_]) (ci := 6) C mi_yX6_drop mv_yX6_drop b_ml_L_18 dL_law_235 rfl (c_X6_drop hC hI) (by decide) v0 rfl rfl (Nat.le_of_ble_eq_true rfl) (fun x_235 m_235 hc_235 => ?_)
  obtain ⟨rfl, hC1, hF1⟩ := hc_235
  have hM1 := hM.frC hF1
  refine e_aload_n C dL_law_238 rfl ?_
  refine e_aload_n C dL_law_239 rfl ?_
  refine e_iload_n C dL_law_240 rfl ?_
  refine e_iconst (v := nI 1) C dL_law_241 (by decide) ?_
  refine f_iaddn C dL_law_242 ?_
  refine f_sld C S (by omega) (by omega) dL_law_243 ?_
  refine f_callVi (As := [_]) (ci := 7) C mi_yX7_drop mv_yX7_drop b_ml_L_22 dL_law_244 rfl (c_X7_drop hM1 hG.1) (by decide) v17 rfl rfl (Nat.le_of_ble_eq_true rfl) (fun x_244 m_244 hc_244 => ?_)
  obtain ⟨rfl, hM2, hF2⟩ := hc_244
  have hC2 := hC1.frM hF2
  refine e_icmp_eq (tgt := 1223) C dL_law_247 (by decide) (fun h_247 => ?_) (fun h_247 => ?_)
  · skip
    exact kk _ _ hC2 hM2 (hG.und (Good.drp hG.1))
  · skip
    exact absurd rfl h_247
set_option maxRecDepth 100000 in
set_option maxHeartbeats 4000000 in
theorem lc_2 {E : EV} {X : CX} {L : Nat} {xs : Nat → Int32} (C : CK E X RL cL_law 4 (some .boolean) 11) (S : SX E X L xs) (hL : L ≤ 2048) {i : Nat} (hi : i + 4 ≤ L) {mem : MEM} {a : AS} (hC : RC mem a) (hM : RM mem a) (hG : GoodA a) (kk : ∀ m a, RC m a → RM m a → GoodA a → G E X 4 1223 [rv (99, 0, 0), rv (0, 0, 0), rv (17, 0, 0), iv (nI i)] [] m) : G E X 4 252 [rv (99, 0, 0), rv (0, 0, 0), rv (17, 0, 0), iv (nI i)] [] mem := by
  obtain ⟨c, hI, hX⟩ := hG.1
  refine e_aload_n C dL_law_252 rfl ?_
  refine e_aload_n C dL_law_253 rfl ?_
  refine e_iload_n C dL_law_254 rfl ?_
  refine e_iconst (v := nI 1) C dL_law_255 (by decide) ?_
  refine f_iaddn C dL_law_256 ?_
  refine f_sld C S (by omega) (by omega) dL_law_257 ?_
  refine e_aload_n C dL_law_258 rfl ?_
  refine e_iload_n C dL_law_259 rfl ?_
  refine e_iconst (v := nI 2) C dL_law_260 (by decide) ?_
  refine f_iaddn C dL_law_261 ?_
  refine f_sld C S (by omega) (by omega) dL_law_262 ?_
  refine f_callVi (As := [_, _]) (ci := 6) C mi_yX6_setRate mv_yX6_setRate b_ml_L_23 dL_law_263 rfl (c_X6_setRate hC hI) (by decide) v0 rfl rfl (Nat.le_of_ble_eq_true rfl) (fun x_263 m_263 hc_263 => ?_)
  obtain ⟨rfl, hC1, hF1⟩ := hc_263
  have hM1 := hM.frC hF1
  refine e_aload_n C dL_law_266 rfl ?_
  refine e_aload_n C dL_law_267 rfl ?_
  refine e_iload_n C dL_law_268 rfl ?_
  refine e_iconst (v := nI 1) C dL_law_269 (by decide) ?_
  refine f_iaddn C dL_law_270 ?_
  refine f_sld C S (by omega) (by omega) dL_law_271 ?_
  refine e_aload_n C dL_law_272 rfl ?_
  refine e_iload_n C dL_law_273 rfl ?_
  refine e_iconst (v := nI 2) C dL_law_274 (by decide) ?_
  refine f_iaddn C dL_law_275 ?_
  refine f_sld C S (by omega) (by omega) dL_law_276 ?_
  refine f_callVi (As := [_, _]) (ci := 7) C mi_yX7_setRate mv_yX7_setRate b_ml_L_26 dL_law_277 rfl (c_X7_setRate hM1 hG.1) (by decide) v17 rfl rfl (Nat.le_of_ble_eq_true rfl) (fun x_277 m_277 hc_277 => ?_)
  obtain ⟨rfl, hM2, hF2⟩ := hc_277
  have hC2 := hC1.frM hF2
  refine e_icmp_eq (tgt := 1223) C dL_law_280 (by decide) (fun h_280 => ?_) (fun h_280 => ?_)
  · skip
    exact kk _ _ hC2 hM2 (hG.und (Good.rat hG.1))
  · skip
    exact absurd rfl h_280
set_option maxRecDepth 100000 in
set_option maxHeartbeats 4000000 in
theorem lc_3 {E : EV} {X : CX} {L : Nat} {xs : Nat → Int32} (C : CK E X RL cL_law 4 (some .boolean) 11) (S : SX E X L xs) (hL : L ≤ 2048) {i : Nat} (hi : i + 4 ≤ L) {mem : MEM} {a : AS} (hC : RC mem a) (hM : RM mem a) (hG : GoodA a) (kk : ∀ m a, RC m a → RM m a → GoodA a → G E X 4 1223 [rv (99, 0, 0), rv (0, 0, 0), rv (17, 0, 0), iv (nI i)] [] m) : G E X 4 285 [rv (99, 0, 0), rv (0, 0, 0), rv (17, 0, 0), iv (nI i)] [] mem := by
  obtain ⟨c, hI, hX⟩ := hG.1
  refine e_aload_n C dL_law_285 rfl ?_
  refine e_aload_n C dL_law_286 rfl ?_
  refine e_iload_n C dL_law_287 rfl ?_
  refine e_iconst (v := nI 1) C dL_law_288 (by decide) ?_
  refine f_iaddn C dL_law_289 ?_
  refine f_sld C S (by omega) (by omega) dL_law_290 ?_
  refine e_aload_n C dL_law_291 rfl ?_
  refine e_iload_n C dL_law_292 rfl ?_
  refine e_iconst (v := nI 2) C dL_law_293 (by decide) ?_
  refine f_iaddn C dL_law_294 ?_
  refine f_sld C S (by omega) (by omega) dL_law_295 ?_
  refine e_if_eq (tgt := 303) C dL_law_296 (by decide) (fun h_296 => ?_) (fun h_296 => ?_)
  · skip
    refine e_iconst (v := nI 0) C dL_law_303 (by decide) ?_
    refine f_callVi (As := [_, _]) (ci := 6) C mi_yX6_stop mv_yX6_stop b_ml_L_27 dL_law_304 rfl (c_X6_stop hC hI (by first | exact Or.inl rfl | exact Or.inr rfl)) (by decide) v0 rfl rfl (Nat.le_of_ble_eq_true rfl) (fun x_304 m_304 hc_304 => ?_)
    obtain ⟨rfl, hC1, hF1⟩ := hc_304
    have hM1 := hM.frC hF1
    refine e_aload_n C dL_law_307 rfl ?_
    refine e_aload_n C dL_law_308 rfl ?_
    refine e_iload_n C dL_law_309 rfl ?_
    refine e_iconst (v := nI 1) C dL_law_310 (by decide) ?_
    refine f_iaddn C dL_law_311 ?_
    refine f_sld C S (by omega) (by omega) dL_law_312 ?_
    refine e_aload_n C dL_law_313 rfl ?_
    refine e_iload_n C dL_law_314 rfl ?_
    refine e_iconst (v := nI 2) C dL_law_315 (by decide) ?_
    refine f_iaddn C dL_law_316 ?_
    refine f_sld C S (by omega) (by omega) dL_law_317 ?_
    refine e_if_eq (tgt := 325) C dL_law_318 (by decide) (fun h_318 => ?_) (fun h_318 => ?_)
    · skip
      refine e_iconst (v := nI 0) C dL_law_325 (by decide) ?_
      refine f_callVi (As := [_, _]) (ci := 7) C mi_yX7_stop mv_yX7_stop b_ml_L_31 dL_law_326 rfl (c_X7_stop hM1 hG.1 (by first | exact Or.inl rfl | exact Or.inr rfl)) (by decide) v17 rfl rfl (Nat.le_of_ble_eq_true rfl) (fun x_326 m_326 hc_326 => ?_)
      obtain ⟨rfl, hM2, hF2⟩ := hc_326
      have hC2 := hC1.frM hF2
      refine e_icmp_eq (tgt := 1223) C dL_law_329 (by decide) (fun h_329 => ?_) (fun h_329 => ?_)
      · skip
        exact kk _ _ hC2 hM2 (hG.und (Good.stp (by first | exact Or.inl rfl | exact Or.inr rfl) hG.1))
      · skip
        exact absurd rfl h_329
    · skip
      exact absurd h_296 h_318
  · skip
    refine e_iconst (v := nI 1) C dL_law_299 (by decide) ?_
    refine e_goto (tgt := 304) C dL_law_300 (by decide) ?_
    refine f_callVi (As := [_, _]) (ci := 6) C mi_yX6_stop mv_yX6_stop b_ml_L_27 dL_law_304 rfl (c_X6_stop hC hI (by first | exact Or.inl rfl | exact Or.inr rfl)) (by decide) v0 rfl rfl (Nat.le_of_ble_eq_true rfl) (fun x_304 m_304 hc_304 => ?_)
    obtain ⟨rfl, hC1, hF1⟩ := hc_304
    have hM1 := hM.frC hF1
    refine e_aload_n C dL_law_307 rfl ?_
    refine e_aload_n C dL_law_308 rfl ?_
    refine e_iload_n C dL_law_309 rfl ?_
    refine e_iconst (v := nI 1) C dL_law_310 (by decide) ?_
    refine f_iaddn C dL_law_311 ?_
    refine f_sld C S (by omega) (by omega) dL_law_312 ?_
    refine e_aload_n C dL_law_313 rfl ?_
    refine e_iload_n C dL_law_314 rfl ?_
    refine e_iconst (v := nI 2) C dL_law_315 (by decide) ?_
    refine f_iaddn C dL_law_316 ?_
    refine f_sld C S (by omega) (by omega) dL_law_317 ?_
    refine e_if_eq (tgt := 325) C dL_law_318 (by decide) (fun h_318 => ?_) (fun h_318 => ?_)
    · skip
      exact absurd h_318 h_296
    · skip
      refine e_iconst (v := nI 1) C dL_law_321 (by decide) ?_
      refine e_goto (tgt := 326) C dL_law_322 (by decide) ?_
      refine f_callVi (As := [_, _]) (ci := 7) C mi_yX7_stop mv_yX7_stop b_ml_L_31 dL_law_326 rfl (c_X7_stop hM1 hG.1 (by first | exact Or.inl rfl | exact Or.inr rfl)) (by decide) v17 rfl rfl (Nat.le_of_ble_eq_true rfl) (fun x_326 m_326 hc_326 => ?_)
      obtain ⟨rfl, hM2, hF2⟩ := hc_326
      have hC2 := hC1.frM hF2
      refine e_icmp_eq (tgt := 1223) C dL_law_329 (by decide) (fun h_329 => ?_) (fun h_329 => ?_)
      · skip
        exact kk _ _ hC2 hM2 (hG.und (Good.stp (by first | exact Or.inl rfl | exact Or.inr rfl) hG.1))
      · skip
        exact absurd rfl h_329
set_option maxRecDepth 100000 in
set_option maxHeartbeats 4000000 in
theorem lc_4 {E : EV} {X : CX} {L : Nat} {xs : Nat → Int32} (C : CK E X RL cL_law 4 (some .boolean) 11) (S : SX E X L xs) (hL : L ≤ 2048) {i : Nat} (hi : i + 4 ≤ L) {mem : MEM} {a : AS} (hC : RC mem a) (hM : RM mem a) (hG : GoodA a) (kk : ∀ m a, RC m a → RM m a → GoodA a → G E X 4 1223 [rv (99, 0, 0), rv (0, 0, 0), rv (17, 0, 0), iv (nI i)] [] m) : G E X 4 334 [rv (99, 0, 0), rv (0, 0, 0), rv (17, 0, 0), iv (nI i)] [] mem := by
  obtain ⟨c, hI, hX⟩ := hG.1
  refine e_aload_n C dL_law_334 rfl ?_
  refine e_aload_n C dL_law_335 rfl ?_
  refine e_iload_n C dL_law_336 rfl ?_
  refine e_iconst (v := nI 1) C dL_law_337 (by decide) ?_
  refine f_iaddn C dL_law_338 ?_
  refine f_sld C S (by omega) (by omega) dL_law_339 ?_
  refine e_aload_n C dL_law_340 rfl ?_
  refine e_iload_n C dL_law_341 rfl ?_
  refine e_iconst (v := nI 2) C dL_law_342 (by decide) ?_
  refine f_iaddn C dL_law_343 ?_
  refine f_sld C S (by omega) (by omega) dL_law_344 ?_
  refine f_callVi (As := [_, _]) (ci := 6) C mi_yX6_jumpBack mv_yX6_jumpBack b_ml_L_32 dL_law_345 rfl (c_X6_jumpBack hC hI) (by decide) v0 rfl rfl (Nat.le_of_ble_eq_true rfl) (fun x_345 m_345 hc_345 => ?_)
  obtain ⟨rfl, hC1, hF1⟩ := hc_345
  have hM1 := hM.frC hF1
  refine e_aload_n C dL_law_348 rfl ?_
  refine e_aload_n C dL_law_349 rfl ?_
  refine e_iload_n C dL_law_350 rfl ?_
  refine e_iconst (v := nI 1) C dL_law_351 (by decide) ?_
  refine f_iaddn C dL_law_352 ?_
  refine f_sld C S (by omega) (by omega) dL_law_353 ?_
  refine e_aload_n C dL_law_354 rfl ?_
  refine e_iload_n C dL_law_355 rfl ?_
  refine e_iconst (v := nI 2) C dL_law_356 (by decide) ?_
  refine f_iaddn C dL_law_357 ?_
  refine f_sld C S (by omega) (by omega) dL_law_358 ?_
  refine f_callVi (As := [_, _]) (ci := 7) C mi_yX7_jumpBack mv_yX7_jumpBack b_ml_L_35 dL_law_359 rfl (c_X7_jumpBack hM1 hG.1) (by decide) v17 rfl rfl (Nat.le_of_ble_eq_true rfl) (fun x_359 m_359 hc_359 => ?_)
  obtain ⟨rfl, hM2, hF2⟩ := hc_359
  have hC2 := hC1.frM hF2
  refine e_icmp_eq (tgt := 1223) C dL_law_362 (by decide) (fun h_362 => ?_) (fun h_362 => ?_)
  · skip
    exact kk _ _ hC2 hM2 (hG.und (Good.jmp hG.1))
  · skip
    exact absurd rfl h_362
set_option maxRecDepth 100000 in
set_option maxHeartbeats 4000000 in
theorem lc_5 {E : EV} {X : CX} {L : Nat} {xs : Nat → Int32} (C : CK E X RL cL_law 4 (some .boolean) 11) (S : SX E X L xs) (hL : L ≤ 2048) {i : Nat} (hi : i + 4 ≤ L) {mem : MEM} {a : AS} (hC : RC mem a) (hM : RM mem a) (hG : GoodA a) (kk : ∀ m a, RC m a → RM m a → GoodA a → G E X 4 1223 [rv (99, 0, 0), rv (0, 0, 0), rv (17, 0, 0), iv (nI i)] [] m) : G E X 4 367 [rv (99, 0, 0), rv (0, 0, 0), rv (17, 0, 0), iv (nI i)] [] mem := by
  obtain ⟨c, hI, hX⟩ := hG.1
  refine e_aload_n C dL_law_367 rfl ?_
  refine e_aload_n C dL_law_368 rfl ?_
  refine e_iload_n C dL_law_369 rfl ?_
  refine e_iconst (v := nI 1) C dL_law_370 (by decide) ?_
  refine f_iaddn C dL_law_371 ?_
  refine f_sld C S (by omega) (by omega) dL_law_372 ?_
  refine f_callVi (As := [_]) (ci := 6) C mi_yX6_tick mv_yX6_tick b_ml_L_36 dL_law_373 rfl (c_X6_tick hC hI) (by decide) v0 rfl rfl (Nat.le_of_ble_eq_true rfl) (fun x_373 m_373 hc_373 => ?_)
  obtain ⟨rfl, hC1, hF1⟩ := hc_373
  have hM1 := hM.frC hF1
  refine e_aload_n C dL_law_376 rfl ?_
  refine e_aload_n C dL_law_377 rfl ?_
  refine e_iload_n C dL_law_378 rfl ?_
  refine e_iconst (v := nI 1) C dL_law_379 (by decide) ?_
  refine f_iaddn C dL_law_380 ?_
  refine f_sld C S (by omega) (by omega) dL_law_381 ?_
  refine f_callVi (As := [_]) (ci := 7) C mi_yX7_tick mv_yX7_tick b_ml_L_39 dL_law_382 rfl (c_X7_tick hM1 hG.1) (by decide) v17 rfl rfl (Nat.le_of_ble_eq_true rfl) (fun x_382 m_382 hc_382 => ?_)
  obtain ⟨rfl, hM2, hF2⟩ := hc_382
  have hC2 := hC1.frM hF2
  refine e_icmp_eq (tgt := 1223) C dL_law_385 (by decide) (fun h_385 => ?_) (fun h_385 => ?_)
  · skip
    exact kk _ _ hC2 hM2 (hG.und (Good.tic hG.1))
  · skip
    exact absurd rfl h_385
set_option maxRecDepth 100000 in
set_option maxHeartbeats 4000000 in
theorem lc_6 {E : EV} {X : CX} {L : Nat} {xs : Nat → Int32} (C : CK E X RL cL_law 4 (some .boolean) 11) (S : SX E X L xs) (hL : L ≤ 2048) {i : Nat} (hi : i + 4 ≤ L) {mem : MEM} {a : AS} (hC : RC mem a) (hM : RM mem a) (hG : GoodA a) (kk : ∀ m a, RC m a → RM m a → GoodA a → G E X 4 1223 [rv (99, 0, 0), rv (0, 0, 0), rv (17, 0, 0), iv (nI i)] [] m) : G E X 4 390 [rv (99, 0, 0), rv (0, 0, 0), rv (17, 0, 0), iv (nI i)] [] mem := by
  obtain ⟨c, hI, hX⟩ := hG.1
  refine e_aload_n C dL_law_390 rfl ?_
  refine f_callVr (As := []) (ci := 6) C mi_yX6_replicas mv_yX6_replicas b_ml_L_40 dL_law_391 rfl (c_X6_replicas hC.1) (by decide) v0 rfl rfl (Nat.le_of_ble_eq_true rfl) ?_
  refine e_aload_n C dL_law_394 rfl ?_
  refine f_callVr (As := []) (ci := 7) C mi_yX7_replicas mv_yX7_replicas b_ml_L_44 dL_law_395 rfl (m_X7_replicas hM hI) (by decide) v17 rfl rfl (Nat.le_of_ble_eq_true rfl) ?_
  refine e_icmp_eq (tgt := 1223) C dL_law_398 (by decide) (fun h_398 => ?_) (fun h_398 => ?_)
  · skip
    exact kk mem a hC hM hG
  · skip
    exact absurd rfl h_398
set_option maxRecDepth 100000 in
set_option maxHeartbeats 4000000 in
theorem lc_7 {E : EV} {X : CX} {L : Nat} {xs : Nat → Int32} (C : CK E X RL cL_law 4 (some .boolean) 11) (S : SX E X L xs) (hL : L ≤ 2048) {i : Nat} (hi : i + 4 ≤ L) {mem : MEM} {a : AS} (hC : RC mem a) (hM : RM mem a) (hG : GoodA a) (kk : ∀ m a, RC m a → RM m a → GoodA a → G E X 4 1223 [rv (99, 0, 0), rv (0, 0, 0), rv (17, 0, 0), iv (nI i)] [] m) : G E X 4 403 [rv (99, 0, 0), rv (0, 0, 0), rv (17, 0, 0), iv (nI i)] [] mem := by
  obtain ⟨c, hI, hX⟩ := hG.1
  refine e_aload_n C dL_law_403 rfl ?_
  refine e_aload_n C dL_law_404 rfl ?_
  refine e_iload_n C dL_law_405 rfl ?_
  refine e_iconst (v := nI 1) C dL_law_406 (by decide) ?_
  refine f_iaddn C dL_law_407 ?_
  refine f_sld C S (by omega) (by omega) dL_law_408 ?_
  refine e_aload_n C dL_law_409 rfl ?_
  refine e_iload_n C dL_law_410 rfl ?_
  refine e_iconst (v := nI 2) C dL_law_411 (by decide) ?_
  refine f_iaddn C dL_law_412 ?_
  refine f_sld C S (by omega) (by omega) dL_law_413 ?_
  refine f_callVr (As := [_, _]) (ci := 6) C mi_yX6_replica mv_yX6_replica b_ml_L_45 dL_law_414 rfl (c_X6_replica hC.1) (by decide) v0 rfl rfl (Nat.le_of_ble_eq_true rfl) ?_
  refine e_aload_n C dL_law_417 rfl ?_
  refine e_aload_n C dL_law_418 rfl ?_
  refine e_iload_n C dL_law_419 rfl ?_
  refine e_iconst (v := nI 1) C dL_law_420 (by decide) ?_
  refine f_iaddn C dL_law_421 ?_
  refine f_sld C S (by omega) (by omega) dL_law_422 ?_
  refine e_aload_n C dL_law_423 rfl ?_
  refine e_iload_n C dL_law_424 rfl ?_
  refine e_iconst (v := nI 2) C dL_law_425 (by decide) ?_
  refine f_iaddn C dL_law_426 ?_
  refine f_sld C S (by omega) (by omega) dL_law_427 ?_
  refine f_callVr (As := [_, _]) (ci := 7) C mi_yX7_replica mv_yX7_replica b_ml_L_48 dL_law_428 rfl (m_X7_replica hM) (by decide) v17 rfl rfl (Nat.le_of_ble_eq_true rfl) ?_
  refine e_icmp_eq (tgt := 1223) C dL_law_431 (by decide) (fun h_431 => ?_) (fun h_431 => ?_)
  · skip
    exact kk mem a hC hM hG
  · skip
    exact absurd rfl h_431
set_option maxRecDepth 100000 in
set_option maxHeartbeats 4000000 in
theorem lc_8 {E : EV} {X : CX} {L : Nat} {xs : Nat → Int32} (C : CK E X RL cL_law 4 (some .boolean) 11) (S : SX E X L xs) (hL : L ≤ 2048) {i : Nat} (hi : i + 4 ≤ L) {mem : MEM} {a : AS} (hC : RC mem a) (hM : RM mem a) (hG : GoodA a) (kk : ∀ m a, RC m a → RM m a → GoodA a → G E X 4 1223 [rv (99, 0, 0), rv (0, 0, 0), rv (17, 0, 0), iv (nI i)] [] m) : G E X 4 436 [rv (99, 0, 0), rv (0, 0, 0), rv (17, 0, 0), iv (nI i)] [] mem := by
  obtain ⟨c, hI, hX⟩ := hG.1
  refine e_aload_n C dL_law_436 rfl ?_
  refine f_callVr (As := []) (ci := 6) C mi_yX6_length mv_yX6_length b_ml_L_49 dL_law_437 rfl (c_X6_length hC.1) (by decide) v0 rfl rfl (Nat.le_of_ble_eq_true rfl) ?_
  refine e_aload_n C dL_law_440 rfl ?_
  refine f_callVr (As := []) (ci := 7) C mi_yX7_length mv_yX7_length b_ml_L_52 dL_law_441 rfl (m_X7_length hM) (by decide) v17 rfl rfl (Nat.le_of_ble_eq_true rfl) ?_
  refine e_icmp_eq (tgt := 1223) C dL_law_444 (by decide) (fun h_444 => ?_) (fun h_444 => ?_)
  · skip
    exact kk mem a hC hM hG
  · skip
    exact absurd rfl h_444
set_option maxRecDepth 100000 in
set_option maxHeartbeats 4000000 in
theorem lc_9 {E : EV} {X : CX} {L : Nat} {xs : Nat → Int32} (C : CK E X RL cL_law 4 (some .boolean) 11) (S : SX E X L xs) (hL : L ≤ 2048) {i : Nat} (hi : i + 4 ≤ L) {mem : MEM} {a : AS} (hC : RC mem a) (hM : RM mem a) (hG : GoodA a) (kk : ∀ m a, RC m a → RM m a → GoodA a → G E X 4 1223 [rv (99, 0, 0), rv (0, 0, 0), rv (17, 0, 0), iv (nI i)] [] m) : G E X 4 449 [rv (99, 0, 0), rv (0, 0, 0), rv (17, 0, 0), iv (nI i)] [] mem := by
  obtain ⟨c, hI, hX⟩ := hG.1
  refine e_aload_n C dL_law_449 rfl ?_
  refine e_aload_n C dL_law_450 rfl ?_
  refine e_iload_n C dL_law_451 rfl ?_
  refine e_iconst (v := nI 1) C dL_law_452 (by decide) ?_
  refine f_iaddn C dL_law_453 ?_
  refine f_sld C S (by omega) (by omega) dL_law_454 ?_
  refine e_aload_n C dL_law_455 rfl ?_
  refine e_iload_n C dL_law_456 rfl ?_
  refine e_iconst (v := nI 2) C dL_law_457 (by decide) ?_
  refine f_iaddn C dL_law_458 ?_
  refine f_sld C S (by omega) (by omega) dL_law_459 ?_
  refine f_callVr (As := [_, _]) (ci := 6) C mi_yX6_logged mv_yX6_logged b_ml_L_53 dL_law_460 rfl (c_X6_logged hC.1 hI) (by decide) v0 rfl rfl (Nat.le_of_ble_eq_true rfl) ?_
  refine e_aload_n C dL_law_463 rfl ?_
  refine e_aload_n C dL_law_464 rfl ?_
  refine e_iload_n C dL_law_465 rfl ?_
  refine e_iconst (v := nI 1) C dL_law_466 (by decide) ?_
  refine f_iaddn C dL_law_467 ?_
  refine f_sld C S (by omega) (by omega) dL_law_468 ?_
  refine e_aload_n C dL_law_469 rfl ?_
  refine e_iload_n C dL_law_470 rfl ?_
  refine e_iconst (v := nI 2) C dL_law_471 (by decide) ?_
  refine f_iaddn C dL_law_472 ?_
  refine f_sld C S (by omega) (by omega) dL_law_473 ?_
  refine f_callVr (As := [_, _]) (ci := 7) C mi_yX7_logged mv_yX7_logged b_ml_L_56 dL_law_474 rfl (m_X7_logged hM hI) (by decide) v17 rfl rfl (Nat.le_of_ble_eq_true rfl) ?_
  refine e_icmp_eq (tgt := 1223) C dL_law_477 (by decide) (fun h_477 => ?_) (fun h_477 => ?_)
  · skip
    exact kk mem a hC hM hG
  · skip
    exact absurd rfl h_477
set_option maxRecDepth 100000 in
set_option maxHeartbeats 4000000 in
theorem lc_10 {E : EV} {X : CX} {L : Nat} {xs : Nat → Int32} (C : CK E X RL cL_law 4 (some .boolean) 11) (S : SX E X L xs) (hL : L ≤ 2048) {i : Nat} (hi : i + 4 ≤ L) {mem : MEM} {a : AS} (hC : RC mem a) (hM : RM mem a) (hG : GoodA a) (kk : ∀ m a, RC m a → RM m a → GoodA a → G E X 4 1223 [rv (99, 0, 0), rv (0, 0, 0), rv (17, 0, 0), iv (nI i)] [] m) : G E X 4 482 [rv (99, 0, 0), rv (0, 0, 0), rv (17, 0, 0), iv (nI i)] [] mem := by
  obtain ⟨c, hI, hX⟩ := hG.1
  refine e_aload_n C dL_law_482 rfl ?_
  refine e_aload_n C dL_law_483 rfl ?_
  refine e_iload_n C dL_law_484 rfl ?_
  refine e_iconst (v := nI 1) C dL_law_485 (by decide) ?_
  refine f_iaddn C dL_law_486 ?_
  refine f_sld C S (by omega) (by omega) dL_law_487 ?_
  refine f_callVr (As := [_]) (ci := 6) C mi_yX6_position mv_yX6_position b_ml_L_57 dL_law_488 rfl (c_X6_position hC.1) (by decide) v0 rfl rfl (Nat.le_of_ble_eq_true rfl) ?_
  refine e_aload_n C dL_law_491 rfl ?_
  refine e_aload_n C dL_law_492 rfl ?_
  refine e_iload_n C dL_law_493 rfl ?_
  refine e_iconst (v := nI 1) C dL_law_494 (by decide) ?_
  refine f_iaddn C dL_law_495 ?_
  refine f_sld C S (by omega) (by omega) dL_law_496 ?_
  refine f_callVr (As := [_]) (ci := 7) C mi_yX7_position mv_yX7_position b_ml_L_60 dL_law_497 rfl (m_X7_position hM hI) (by decide) v17 rfl rfl (Nat.le_of_ble_eq_true rfl) ?_
  refine e_icmp_eq (tgt := 1223) C dL_law_500 (by decide) (fun h_500 => ?_) (fun h_500 => ?_)
  · skip
    exact kk mem a hC hM hG
  · skip
    exact absurd rfl h_500
set_option maxRecDepth 100000 in
set_option maxHeartbeats 4000000 in
theorem lc_11 {E : EV} {X : CX} {L : Nat} {xs : Nat → Int32} (C : CK E X RL cL_law 4 (some .boolean) 11) (S : SX E X L xs) (hL : L ≤ 2048) {i : Nat} (hi : i + 4 ≤ L) {mem : MEM} {a : AS} (hC : RC mem a) (hM : RM mem a) (hG : GoodA a) (kk : ∀ m a, RC m a → RM m a → GoodA a → G E X 4 1223 [rv (99, 0, 0), rv (0, 0, 0), rv (17, 0, 0), iv (nI i)] [] m) : G E X 4 505 [rv (99, 0, 0), rv (0, 0, 0), rv (17, 0, 0), iv (nI i)] [] mem := by
  obtain ⟨c, hI, hX⟩ := hG.1
  refine e_aload_n C dL_law_505 rfl ?_
  refine e_aload_n C dL_law_506 rfl ?_
  refine e_iload_n C dL_law_507 rfl ?_
  refine e_iconst (v := nI 1) C dL_law_508 (by decide) ?_
  refine f_iaddn C dL_law_509 ?_
  refine f_sld C S (by omega) (by omega) dL_law_510 ?_
  refine e_aload_n C dL_law_511 rfl ?_
  refine e_iload_n C dL_law_512 rfl ?_
  refine e_iconst (v := nI 2) C dL_law_513 (by decide) ?_
  refine f_iaddn C dL_law_514 ?_
  refine f_sld C S (by omega) (by omega) dL_law_515 ?_
  refine f_callVr (As := [_, _]) (ci := 6) C mi_yX6_version mv_yX6_version b_ml_L_61 dL_law_516 rfl (c_X6_version hC.1 hI) (by decide) v0 rfl rfl (Nat.le_of_ble_eq_true rfl) ?_
  refine e_aload_n C dL_law_519 rfl ?_
  refine e_aload_n C dL_law_520 rfl ?_
  refine e_iload_n C dL_law_521 rfl ?_
  refine e_iconst (v := nI 1) C dL_law_522 (by decide) ?_
  refine f_iaddn C dL_law_523 ?_
  refine f_sld C S (by omega) (by omega) dL_law_524 ?_
  refine e_aload_n C dL_law_525 rfl ?_
  refine e_iload_n C dL_law_526 rfl ?_
  refine e_iconst (v := nI 2) C dL_law_527 (by decide) ?_
  refine f_iaddn C dL_law_528 ?_
  refine f_sld C S (by omega) (by omega) dL_law_529 ?_
  refine f_callVr (As := [_, _]) (ci := 7) C mi_yX7_version mv_yX7_version b_ml_L_64 dL_law_530 rfl (m_X7_version hM hI) (by decide) v17 rfl rfl (Nat.le_of_ble_eq_true rfl) ?_
  refine e_icmp_eq (tgt := 1223) C dL_law_533 (by decide) (fun h_533 => ?_) (fun h_533 => ?_)
  · skip
    exact kk mem a hC hM hG
  · skip
    exact absurd rfl h_533
set_option maxRecDepth 100000 in
set_option maxHeartbeats 4000000 in
theorem lc_12 {E : EV} {X : CX} {L : Nat} {xs : Nat → Int32} (C : CK E X RL cL_law 4 (some .boolean) 11) (S : SX E X L xs) (hL : L ≤ 2048) {i : Nat} (hi : i + 4 ≤ L) {mem : MEM} {a : AS} (hC : RC mem a) (hM : RM mem a) (hG : GoodA a) (kk : ∀ m a, RC m a → RM m a → GoodA a → G E X 4 1223 [rv (99, 0, 0), rv (0, 0, 0), rv (17, 0, 0), iv (nI i)] [] m) : G E X 4 538 [rv (99, 0, 0), rv (0, 0, 0), rv (17, 0, 0), iv (nI i)] [] mem := by
  obtain ⟨c, hI, hX⟩ := hG.1
  refine e_aload_n C dL_law_538 rfl ?_
  refine e_aload_n C dL_law_539 rfl ?_
  refine e_iload_n C dL_law_540 rfl ?_
  refine e_iconst (v := nI 1) C dL_law_541 (by decide) ?_
  refine f_iaddn C dL_law_542 ?_
  refine f_sld C S (by omega) (by omega) dL_law_543 ?_
  refine e_aload_n C dL_law_544 rfl ?_
  refine e_iload_n C dL_law_545 rfl ?_
  refine e_iconst (v := nI 2) C dL_law_546 (by decide) ?_
  refine f_iaddn C dL_law_547 ?_
  refine f_sld C S (by omega) (by omega) dL_law_548 ?_
  refine f_callVr (As := [_, _]) (ci := 6) C mi_yX6_value mv_yX6_value b_ml_L_65 dL_law_549 rfl (c_X6_value hC.1 hI) (by decide) v0 rfl rfl (Nat.le_of_ble_eq_true rfl) ?_
  refine e_aload_n C dL_law_552 rfl ?_
  refine e_aload_n C dL_law_553 rfl ?_
  refine e_iload_n C dL_law_554 rfl ?_
  refine e_iconst (v := nI 1) C dL_law_555 (by decide) ?_
  refine f_iaddn C dL_law_556 ?_
  refine f_sld C S (by omega) (by omega) dL_law_557 ?_
  refine e_aload_n C dL_law_558 rfl ?_
  refine e_iload_n C dL_law_559 rfl ?_
  refine e_iconst (v := nI 2) C dL_law_560 (by decide) ?_
  refine f_iaddn C dL_law_561 ?_
  refine f_sld C S (by omega) (by omega) dL_law_562 ?_
  refine f_callVr (As := [_, _]) (ci := 7) C mi_yX7_value mv_yX7_value b_ml_L_68 dL_law_563 rfl (m_X7_value hM hI) (by decide) v17 rfl rfl (Nat.le_of_ble_eq_true rfl) ?_
  refine e_icmp_eq (tgt := 1223) C dL_law_566 (by decide) (fun h_566 => ?_) (fun h_566 => ?_)
  · skip
    exact kk mem a hC hM hG
  · skip
    exact absurd rfl h_566
set_option maxRecDepth 100000 in
set_option maxHeartbeats 4000000 in
theorem lc_13 {E : EV} {X : CX} {L : Nat} {xs : Nat → Int32} (C : CK E X RL cL_law 4 (some .boolean) 11) (S : SX E X L xs) (hL : L ≤ 2048) {i : Nat} (hi : i + 4 ≤ L) {mem : MEM} {a : AS} (hC : RC mem a) (hM : RM mem a) (hG : GoodA a) (kk : ∀ m a, RC m a → RM m a → GoodA a → G E X 4 1223 [rv (99, 0, 0), rv (0, 0, 0), rv (17, 0, 0), iv (nI i)] [] m) : G E X 4 571 [rv (99, 0, 0), rv (0, 0, 0), rv (17, 0, 0), iv (nI i)] [] mem := by
  obtain ⟨c, hI, hX⟩ := hG.1
  refine e_aload_n C dL_law_571 rfl ?_
  refine e_aload_n C dL_law_572 rfl ?_
  refine e_iload_n C dL_law_573 rfl ?_
  refine e_iconst (v := nI 1) C dL_law_574 (by decide) ?_
  refine f_iaddn C dL_law_575 ?_
  refine f_sld C S (by omega) (by omega) dL_law_576 ?_
  refine e_aload_n C dL_law_577 rfl ?_
  refine e_iload_n C dL_law_578 rfl ?_
  refine e_iconst (v := nI 2) C dL_law_579 (by decide) ?_
  refine f_iaddn C dL_law_580 ?_
  refine f_sld C S (by omega) (by omega) dL_law_581 ?_
  refine f_callVr (As := [_, _]) (ci := 6) C mi_yX6_missing mv_yX6_missing b_ml_L_69 dL_law_582 rfl (c_X6_missing hC.1 hI) (by decide) v0 rfl rfl (Nat.le_of_ble_eq_true rfl) ?_
  refine e_aload_n C dL_law_585 rfl ?_
  refine e_aload_n C dL_law_586 rfl ?_
  refine e_iload_n C dL_law_587 rfl ?_
  refine e_iconst (v := nI 1) C dL_law_588 (by decide) ?_
  refine f_iaddn C dL_law_589 ?_
  refine f_sld C S (by omega) (by omega) dL_law_590 ?_
  refine e_aload_n C dL_law_591 rfl ?_
  refine e_iload_n C dL_law_592 rfl ?_
  refine e_iconst (v := nI 2) C dL_law_593 (by decide) ?_
  refine f_iaddn C dL_law_594 ?_
  refine f_sld C S (by omega) (by omega) dL_law_595 ?_
  refine f_callVr (As := [_, _]) (ci := 7) C mi_yX7_missing mv_yX7_missing b_ml_L_72 dL_law_596 rfl (m_X7_missing hM hI) (by decide) v17 rfl rfl (Nat.le_of_ble_eq_true rfl) ?_
  refine e_icmp_eq (tgt := 1223) C dL_law_599 (by decide) (fun h_599 => ?_) (fun h_599 => ?_)
  · skip
    exact kk mem a hC hM hG
  · skip
    exact absurd rfl h_599
set_option maxRecDepth 100000 in
set_option maxHeartbeats 4000000 in
theorem lc_14 {E : EV} {X : CX} {L : Nat} {xs : Nat → Int32} (C : CK E X RL cL_law 4 (some .boolean) 11) (S : SX E X L xs) (hL : L ≤ 2048) {i : Nat} (hi : i + 4 ≤ L) {mem : MEM} {a : AS} (hC : RC mem a) (hM : RM mem a) (hG : GoodA a) (kk : ∀ m a, RC m a → RM m a → GoodA a → G E X 4 1223 [rv (99, 0, 0), rv (0, 0, 0), rv (17, 0, 0), iv (nI i)] [] m) : G E X 4 604 [rv (99, 0, 0), rv (0, 0, 0), rv (17, 0, 0), iv (nI i)] [] mem := by
  obtain ⟨c, hI, hX⟩ := hG.1
  refine e_aload_n C dL_law_604 rfl ?_
  refine e_aload_n C dL_law_605 rfl ?_
  refine e_iload_n C dL_law_606 rfl ?_
  refine e_iconst (v := nI 1) C dL_law_607 (by decide) ?_
  refine f_iaddn C dL_law_608 ?_
  refine f_sld C S (by omega) (by omega) dL_law_609 ?_
  refine f_callVr (As := [_]) (ci := 6) C mi_yX6_answers mv_yX6_answers b_ml_L_73 dL_law_610 rfl (c_X6_answers hC.1) (by decide) v0 rfl rfl (Nat.le_of_ble_eq_true rfl) ?_
  refine e_aload_n C dL_law_613 rfl ?_
  refine e_aload_n C dL_law_614 rfl ?_
  refine e_iload_n C dL_law_615 rfl ?_
  refine e_iconst (v := nI 1) C dL_law_616 (by decide) ?_
  refine f_iaddn C dL_law_617 ?_
  refine f_sld C S (by omega) (by omega) dL_law_618 ?_
  refine f_callVr (As := [_]) (ci := 7) C mi_yX7_answers mv_yX7_answers b_ml_L_76 dL_law_619 rfl (m_X7_answers hM) (by decide) v17 rfl rfl (Nat.le_of_ble_eq_true rfl) ?_
  refine e_icmp_eq (tgt := 1223) C dL_law_622 (by decide) (fun h_622 => ?_) (fun h_622 => ?_)
  · skip
    exact kk mem a hC hM hG
  · skip
    exact absurd rfl h_622
set_option maxRecDepth 100000 in
set_option maxHeartbeats 4000000 in
theorem lc_15 {E : EV} {X : CX} {L : Nat} {xs : Nat → Int32} (C : CK E X RL cL_law 4 (some .boolean) 11) (S : SX E X L xs) (hL : L ≤ 2048) {i : Nat} (hi : i + 4 ≤ L) {mem : MEM} {a : AS} (hC : RC mem a) (hM : RM mem a) (hG : GoodA a) (kk : ∀ m a, RC m a → RM m a → GoodA a → G E X 4 1223 [rv (99, 0, 0), rv (0, 0, 0), rv (17, 0, 0), iv (nI i)] [] m) : G E X 4 627 [rv (99, 0, 0), rv (0, 0, 0), rv (17, 0, 0), iv (nI i)] [] mem := by
  obtain ⟨c, hI, hX⟩ := hG.1
  refine e_aload_n C dL_law_627 rfl ?_
  refine e_aload_n C dL_law_628 rfl ?_
  refine e_iload_n C dL_law_629 rfl ?_
  refine e_iconst (v := nI 1) C dL_law_630 (by decide) ?_
  refine f_iaddn C dL_law_631 ?_
  refine f_sld C S (by omega) (by omega) dL_law_632 ?_
  refine e_aload_n C dL_law_633 rfl ?_
  refine e_iload_n C dL_law_634 rfl ?_
  refine e_iconst (v := nI 2) C dL_law_635 (by decide) ?_
  refine f_iaddn C dL_law_636 ?_
  refine f_sld C S (by omega) (by omega) dL_law_637 ?_
  refine e_aload_n C dL_law_638 rfl ?_
  refine e_iload_n C dL_law_639 rfl ?_
  refine e_iconst (v := nI 3) C dL_law_640 (by decide) ?_
  refine f_iaddn C dL_law_641 ?_
  refine f_sld C S (by omega) (by omega) dL_law_642 ?_
  refine f_callVi (As := [_, _, _]) (ci := 6) C mi_yX6_open mv_yX6_open b_ml_L_77 dL_law_643 rfl (c_X6_open hC hI) (by decide) v0 rfl rfl (Nat.le_of_ble_eq_true rfl) (fun x_643 m_643 hc_643 => ?_)
  obtain ⟨rfl, hC1, hF1⟩ := hc_643
  have hM1 := hM.frC hF1
  refine e_aload_n C dL_law_646 rfl ?_
  refine e_aload_n C dL_law_647 rfl ?_
  refine e_iload_n C dL_law_648 rfl ?_
  refine e_iconst (v := nI 1) C dL_law_649 (by decide) ?_
  refine f_iaddn C dL_law_650 ?_
  refine f_sld C S (by omega) (by omega) dL_law_651 ?_
  refine e_aload_n C dL_law_652 rfl ?_
  refine e_iload_n C dL_law_653 rfl ?_
  refine e_iconst (v := nI 2) C dL_law_654 (by decide) ?_
  refine f_iaddn C dL_law_655 ?_
  refine f_sld C S (by omega) (by omega) dL_law_656 ?_
  refine e_aload_n C dL_law_657 rfl ?_
  refine e_iload_n C dL_law_658 rfl ?_
  refine e_iconst (v := nI 3) C dL_law_659 (by decide) ?_
  refine f_iaddn C dL_law_660 ?_
  refine f_sld C S (by omega) (by omega) dL_law_661 ?_
  refine f_callVi (As := [_, _, _]) (ci := 7) C mi_yX7_open mv_yX7_open b_ml_L_81 dL_law_662 rfl (c_X7_open hM1 hG.1) (by decide) v17 rfl rfl (Nat.le_of_ble_eq_true rfl) (fun x_662 m_662 hc_662 => ?_)
  obtain ⟨rfl, hM2, hF2⟩ := hc_662
  have hC2 := hC1.frM hF2
  refine e_icmp_eq (tgt := 1223) C dL_law_665 (by decide) (fun h_665 => ?_) (fun h_665 => ?_)
  · skip
    exact kk _ _ hC2 hM2 (hG.und (Good.opn hG.1))
  · skip
    exact absurd rfl h_665
set_option maxRecDepth 100000 in
set_option maxHeartbeats 4000000 in
theorem lc_16 {E : EV} {X : CX} {L : Nat} {xs : Nat → Int32} (C : CK E X RL cL_law 4 (some .boolean) 11) (S : SX E X L xs) (hL : L ≤ 2048) {i : Nat} (hi : i + 4 ≤ L) {mem : MEM} {a : AS} (hC : RC mem a) (hM : RM mem a) (hG : GoodA a) (kk : ∀ m a, RC m a → RM m a → GoodA a → G E X 4 1223 [rv (99, 0, 0), rv (0, 0, 0), rv (17, 0, 0), iv (nI i)] [] m) : G E X 4 670 [rv (99, 0, 0), rv (0, 0, 0), rv (17, 0, 0), iv (nI i)] [] mem := by
  obtain ⟨c, hI, hX⟩ := hG.1
  refine e_aload_n C dL_law_670 rfl ?_
  refine e_aload_n C dL_law_671 rfl ?_
  refine e_iload_n C dL_law_672 rfl ?_
  refine e_iconst (v := nI 1) C dL_law_673 (by decide) ?_
  refine f_iaddn C dL_law_674 ?_
  refine f_sld C S (by omega) (by omega) dL_law_675 ?_
  refine f_callVi (As := [_]) (ci := 6) C mi_yX6_close mv_yX6_close b_ml_L_82 dL_law_676 rfl (c_X6_close hC hI) (by decide) v0 rfl rfl (Nat.le_of_ble_eq_true rfl) (fun x_676 m_676 hc_676 => ?_)
  obtain ⟨rfl, hC1, hF1⟩ := hc_676
  have hM1 := hM.frC hF1
  refine e_aload_n C dL_law_679 rfl ?_
  refine e_aload_n C dL_law_680 rfl ?_
  refine e_iload_n C dL_law_681 rfl ?_
  refine e_iconst (v := nI 1) C dL_law_682 (by decide) ?_
  refine f_iaddn C dL_law_683 ?_
  refine f_sld C S (by omega) (by omega) dL_law_684 ?_
  refine f_callVi (As := [_]) (ci := 7) C mi_yX7_close mv_yX7_close b_ml_L_85 dL_law_685 rfl (c_X7_close hM1 hG.1) (by decide) v17 rfl rfl (Nat.le_of_ble_eq_true rfl) (fun x_685 m_685 hc_685 => ?_)
  obtain ⟨rfl, hM2, hF2⟩ := hc_685
  have hC2 := hC1.frM hF2
  refine e_icmp_eq (tgt := 1223) C dL_law_688 (by decide) (fun h_688 => ?_) (fun h_688 => ?_)
  · skip
    exact kk _ _ hC2 hM2 (hG.und (Good.cls hG.1))
  · skip
    exact absurd rfl h_688
set_option maxRecDepth 100000 in
set_option maxHeartbeats 4000000 in
theorem lc_17 {E : EV} {X : CX} {L : Nat} {xs : Nat → Int32} (C : CK E X RL cL_law 4 (some .boolean) 11) (S : SX E X L xs) (hL : L ≤ 2048) {i : Nat} (hi : i + 4 ≤ L) {mem : MEM} {a : AS} (hC : RC mem a) (hM : RM mem a) (hG : GoodA a) (kk : ∀ m a, RC m a → RM m a → GoodA a → G E X 4 1223 [rv (99, 0, 0), rv (0, 0, 0), rv (17, 0, 0), iv (nI i)] [] m) : G E X 4 693 [rv (99, 0, 0), rv (0, 0, 0), rv (17, 0, 0), iv (nI i)] [] mem := by
  obtain ⟨c, hI, hX⟩ := hG.1
  refine e_aload_n C dL_law_693 rfl ?_
  refine e_aload_n C dL_law_694 rfl ?_
  refine e_iload_n C dL_law_695 rfl ?_
  refine e_iconst (v := nI 1) C dL_law_696 (by decide) ?_
  refine f_iaddn C dL_law_697 ?_
  refine f_sld C S (by omega) (by omega) dL_law_698 ?_
  refine e_aload_n C dL_law_699 rfl ?_
  refine e_iload_n C dL_law_700 rfl ?_
  refine e_iconst (v := nI 2) C dL_law_701 (by decide) ?_
  refine f_iaddn C dL_law_702 ?_
  refine f_sld C S (by omega) (by omega) dL_law_703 ?_
  refine f_callVi (As := [_, _]) (ci := 6) C mi_yX6_move mv_yX6_move b_ml_L_86 dL_law_704 rfl (c_X6_move hC hI) (by decide) v0 rfl rfl (Nat.le_of_ble_eq_true rfl) (fun x_704 m_704 hc_704 => ?_)
  obtain ⟨rfl, hC1, hF1⟩ := hc_704
  have hM1 := hM.frC hF1
  refine e_aload_n C dL_law_707 rfl ?_
  refine e_aload_n C dL_law_708 rfl ?_
  refine e_iload_n C dL_law_709 rfl ?_
  refine e_iconst (v := nI 1) C dL_law_710 (by decide) ?_
  refine f_iaddn C dL_law_711 ?_
  refine f_sld C S (by omega) (by omega) dL_law_712 ?_
  refine e_aload_n C dL_law_713 rfl ?_
  refine e_iload_n C dL_law_714 rfl ?_
  refine e_iconst (v := nI 2) C dL_law_715 (by decide) ?_
  refine f_iaddn C dL_law_716 ?_
  refine f_sld C S (by omega) (by omega) dL_law_717 ?_
  refine f_callVi (As := [_, _]) (ci := 7) C mi_yX7_move mv_yX7_move b_ml_L_89 dL_law_718 rfl (c_X7_move hM1 hG.1) (by decide) v17 rfl rfl (Nat.le_of_ble_eq_true rfl) (fun x_718 m_718 hc_718 => ?_)
  obtain ⟨rfl, hM2, hF2⟩ := hc_718
  have hC2 := hC1.frM hF2
  refine e_icmp_eq (tgt := 1223) C dL_law_721 (by decide) (fun h_721 => ?_) (fun h_721 => ?_)
  · skip
    exact kk _ _ hC2 hM2 (hG.und (Good.mov hG.1))
  · skip
    exact absurd rfl h_721
set_option maxRecDepth 100000 in
set_option maxHeartbeats 4000000 in
theorem lc_18 {E : EV} {X : CX} {L : Nat} {xs : Nat → Int32} (C : CK E X RL cL_law 4 (some .boolean) 11) (S : SX E X L xs) (hL : L ≤ 2048) {i : Nat} (hi : i + 4 ≤ L) {mem : MEM} {a : AS} (hC : RC mem a) (hM : RM mem a) (hG : GoodA a) (kk : ∀ m a, RC m a → RM m a → GoodA a → G E X 4 1223 [rv (99, 0, 0), rv (0, 0, 0), rv (17, 0, 0), iv (nI i)] [] m) : G E X 4 726 [rv (99, 0, 0), rv (0, 0, 0), rv (17, 0, 0), iv (nI i)] [] mem := by
  obtain ⟨c, hI, hX⟩ := hG.1
  refine e_aload_n C dL_law_726 rfl ?_
  refine e_aload_n C dL_law_727 rfl ?_
  refine e_iload_n C dL_law_728 rfl ?_
  refine e_iconst (v := nI 1) C dL_law_729 (by decide) ?_
  refine f_iaddn C dL_law_730 ?_
  refine f_sld C S (by omega) (by omega) dL_law_731 ?_
  refine e_aload_n C dL_law_732 rfl ?_
  refine e_iload_n C dL_law_733 rfl ?_
  refine e_iconst (v := nI 2) C dL_law_734 (by decide) ?_
  refine f_iaddn C dL_law_735 ?_
  refine f_sld C S (by omega) (by omega) dL_law_736 ?_
  refine e_aload_n C dL_law_737 rfl ?_
  refine e_iload_n C dL_law_738 rfl ?_
  refine e_iconst (v := nI 3) C dL_law_739 (by decide) ?_
  refine f_iaddn C dL_law_740 ?_
  refine f_sld C S (by omega) (by omega) dL_law_741 ?_
  refine f_callVi (As := [_, _, _]) (ci := 6) C mi_yX6_change mv_yX6_change b_ml_L_90 dL_law_742 rfl (c_X6_change hC hI) (by decide) v0 rfl rfl (Nat.le_of_ble_eq_true rfl) (fun x_742 m_742 hc_742 => ?_)
  obtain ⟨rfl, hC1, hF1⟩ := hc_742
  have hM1 := hM.frC hF1
  refine e_aload_n C dL_law_745 rfl ?_
  refine e_aload_n C dL_law_746 rfl ?_
  refine e_iload_n C dL_law_747 rfl ?_
  refine e_iconst (v := nI 1) C dL_law_748 (by decide) ?_
  refine f_iaddn C dL_law_749 ?_
  refine f_sld C S (by omega) (by omega) dL_law_750 ?_
  refine e_aload_n C dL_law_751 rfl ?_
  refine e_iload_n C dL_law_752 rfl ?_
  refine e_iconst (v := nI 2) C dL_law_753 (by decide) ?_
  refine f_iaddn C dL_law_754 ?_
  refine f_sld C S (by omega) (by omega) dL_law_755 ?_
  refine e_aload_n C dL_law_756 rfl ?_
  refine e_iload_n C dL_law_757 rfl ?_
  refine e_iconst (v := nI 3) C dL_law_758 (by decide) ?_
  refine f_iaddn C dL_law_759 ?_
  refine f_sld C S (by omega) (by omega) dL_law_760 ?_
  refine f_callVi (As := [_, _, _]) (ci := 7) C mi_yX7_change mv_yX7_change b_ml_L_93 dL_law_761 rfl (c_X7_change hM1 hG.1) (by decide) v17 rfl rfl (Nat.le_of_ble_eq_true rfl) (fun x_761 m_761 hc_761 => ?_)
  obtain ⟨rfl, hM2, hF2⟩ := hc_761
  have hC2 := hC1.frM hF2
  refine e_icmp_eq (tgt := 1223) C dL_law_764 (by decide) (fun h_764 => ?_) (fun h_764 => ?_)
  · skip
    exact kk _ _ hC2 hM2 (hG.und (Good.chg hG.1))
  · skip
    exact absurd rfl h_764
set_option maxRecDepth 100000 in
set_option maxHeartbeats 4000000 in
theorem lc_19 {E : EV} {X : CX} {L : Nat} {xs : Nat → Int32} (C : CK E X RL cL_law 4 (some .boolean) 11) (S : SX E X L xs) (hL : L ≤ 2048) {i : Nat} (hi : i + 4 ≤ L) {mem : MEM} {a : AS} (hC : RC mem a) (hM : RM mem a) (hG : GoodA a) (kk : ∀ m a, RC m a → RM m a → GoodA a → G E X 4 1223 [rv (99, 0, 0), rv (0, 0, 0), rv (17, 0, 0), iv (nI i)] [] m) : G E X 4 769 [rv (99, 0, 0), rv (0, 0, 0), rv (17, 0, 0), iv (nI i)] [] mem := by
  obtain ⟨c, hI, hX⟩ := hG.1
  refine e_aload_n C dL_law_769 rfl ?_
  refine e_aload_n C dL_law_770 rfl ?_
  refine e_iload_n C dL_law_771 rfl ?_
  refine e_iconst (v := nI 1) C dL_law_772 (by decide) ?_
  refine f_iaddn C dL_law_773 ?_
  refine f_sld C S (by omega) (by omega) dL_law_774 ?_
  refine e_aload_n C dL_law_775 rfl ?_
  refine e_iload_n C dL_law_776 rfl ?_
  refine e_iconst (v := nI 2) C dL_law_777 (by decide) ?_
  refine f_iaddn C dL_law_778 ?_
  refine f_sld C S (by omega) (by omega) dL_law_779 ?_
  refine f_callVi (As := [_, _]) (ci := 6) C mi_yX6_hand mv_yX6_hand b_ml_L_94 dL_law_780 rfl (c_X6_hand hC hI) (by decide) v0 rfl rfl (Nat.le_of_ble_eq_true rfl) (fun x_780 m_780 hc_780 => ?_)
  obtain ⟨rfl, hC1, hF1⟩ := hc_780
  have hM1 := hM.frC hF1
  refine e_aload_n C dL_law_783 rfl ?_
  refine e_aload_n C dL_law_784 rfl ?_
  refine e_iload_n C dL_law_785 rfl ?_
  refine e_iconst (v := nI 1) C dL_law_786 (by decide) ?_
  refine f_iaddn C dL_law_787 ?_
  refine f_sld C S (by omega) (by omega) dL_law_788 ?_
  refine e_aload_n C dL_law_789 rfl ?_
  refine e_iload_n C dL_law_790 rfl ?_
  refine e_iconst (v := nI 2) C dL_law_791 (by decide) ?_
  refine f_iaddn C dL_law_792 ?_
  refine f_sld C S (by omega) (by omega) dL_law_793 ?_
  refine f_callVi (As := [_, _]) (ci := 7) C mi_yX7_hand mv_yX7_hand b_ml_L_97 dL_law_794 rfl (c_X7_hand hM1 hG.1) (by decide) v17 rfl rfl (Nat.le_of_ble_eq_true rfl) (fun x_794 m_794 hc_794 => ?_)
  obtain ⟨rfl, hM2, hF2⟩ := hc_794
  have hC2 := hC1.frM hF2
  refine e_icmp_eq (tgt := 1223) C dL_law_797 (by decide) (fun h_797 => ?_) (fun h_797 => ?_)
  · skip
    exact kk _ _ hC2 hM2 (hG.und (Good.hnd hG.1))
  · skip
    exact absurd rfl h_797
set_option maxRecDepth 100000 in
set_option maxHeartbeats 4000000 in
theorem lc_20 {E : EV} {X : CX} {L : Nat} {xs : Nat → Int32} (C : CK E X RL cL_law 4 (some .boolean) 11) (S : SX E X L xs) (hL : L ≤ 2048) {i : Nat} (hi : i + 4 ≤ L) {mem : MEM} {a : AS} (hC : RC mem a) (hM : RM mem a) (hG : GoodA a) (kk : ∀ m a, RC m a → RM m a → GoodA a → G E X 4 1223 [rv (99, 0, 0), rv (0, 0, 0), rv (17, 0, 0), iv (nI i)] [] m) : G E X 4 802 [rv (99, 0, 0), rv (0, 0, 0), rv (17, 0, 0), iv (nI i)] [] mem := by
  obtain ⟨c, hI, hX⟩ := hG.1
  refine e_aload_n C dL_law_802 rfl ?_
  refine f_callVr (As := []) (ci := 6) C mi_yX6_sessions mv_yX6_sessions b_ml_L_98 dL_law_803 rfl (c_X6_sessions hC.1) (by decide) v0 rfl rfl (Nat.le_of_ble_eq_true rfl) ?_
  refine e_aload_n C dL_law_806 rfl ?_
  refine f_callVr (As := []) (ci := 7) C mi_yX7_sessions mv_yX7_sessions b_ml_L_101 dL_law_807 rfl (m_X7_sessions hM hI) (by decide) v17 rfl rfl (Nat.le_of_ble_eq_true rfl) ?_
  refine e_icmp_eq (tgt := 1223) C dL_law_810 (by decide) (fun h_810 => ?_) (fun h_810 => ?_)
  · skip
    exact kk mem a hC hM hG
  · skip
    exact absurd rfl h_810
set_option maxRecDepth 100000 in
set_option maxHeartbeats 4000000 in
theorem lc_21 {E : EV} {X : CX} {L : Nat} {xs : Nat → Int32} (C : CK E X RL cL_law 4 (some .boolean) 11) (S : SX E X L xs) (hL : L ≤ 2048) {i : Nat} (hi : i + 4 ≤ L) {mem : MEM} {a : AS} (hC : RC mem a) (hM : RM mem a) (hG : GoodA a) (kk : ∀ m a, RC m a → RM m a → GoodA a → G E X 4 1223 [rv (99, 0, 0), rv (0, 0, 0), rv (17, 0, 0), iv (nI i)] [] m) : G E X 4 815 [rv (99, 0, 0), rv (0, 0, 0), rv (17, 0, 0), iv (nI i)] [] mem := by
  obtain ⟨c, hI, hX⟩ := hG.1
  refine e_aload_n C dL_law_815 rfl ?_
  refine e_aload_n C dL_law_816 rfl ?_
  refine e_iload_n C dL_law_817 rfl ?_
  refine e_iconst (v := nI 1) C dL_law_818 (by decide) ?_
  refine f_iaddn C dL_law_819 ?_
  refine f_sld C S (by omega) (by omega) dL_law_820 ?_
  refine e_aload_n C dL_law_821 rfl ?_
  refine e_iload_n C dL_law_822 rfl ?_
  refine e_iconst (v := nI 2) C dL_law_823 (by decide) ?_
  refine f_iaddn C dL_law_824 ?_
  refine f_sld C S (by omega) (by omega) dL_law_825 ?_
  refine f_callVr (As := [_, _]) (ci := 6) C mi_yX6_session mv_yX6_session b_ml_L_102 dL_law_826 rfl (c_X6_session hC.1 hI) (by decide) v0 rfl rfl (Nat.le_of_ble_eq_true rfl) ?_
  refine e_aload_n C dL_law_829 rfl ?_
  refine e_aload_n C dL_law_830 rfl ?_
  refine e_iload_n C dL_law_831 rfl ?_
  refine e_iconst (v := nI 1) C dL_law_832 (by decide) ?_
  refine f_iaddn C dL_law_833 ?_
  refine f_sld C S (by omega) (by omega) dL_law_834 ?_
  refine e_aload_n C dL_law_835 rfl ?_
  refine e_iload_n C dL_law_836 rfl ?_
  refine e_iconst (v := nI 2) C dL_law_837 (by decide) ?_
  refine f_iaddn C dL_law_838 ?_
  refine f_sld C S (by omega) (by omega) dL_law_839 ?_
  refine f_callVr (As := [_, _]) (ci := 7) C mi_yX7_session mv_yX7_session b_ml_L_105 dL_law_840 rfl (m_X7_session hM hI) (by decide) v17 rfl rfl (Nat.le_of_ble_eq_true rfl) ?_
  refine e_icmp_eq (tgt := 1223) C dL_law_843 (by decide) (fun h_843 => ?_) (fun h_843 => ?_)
  · skip
    exact kk mem a hC hM hG
  · skip
    exact absurd rfl h_843
set_option maxRecDepth 100000 in
set_option maxHeartbeats 4000000 in
theorem lc_22 {E : EV} {X : CX} {L : Nat} {xs : Nat → Int32} (C : CK E X RL cL_law 4 (some .boolean) 11) (S : SX E X L xs) (hL : L ≤ 2048) {i : Nat} (hi : i + 4 ≤ L) {mem : MEM} {a : AS} (hC : RC mem a) (hM : RM mem a) (hG : GoodA a) (kk : ∀ m a, RC m a → RM m a → GoodA a → G E X 4 1223 [rv (99, 0, 0), rv (0, 0, 0), rv (17, 0, 0), iv (nI i)] [] m) : G E X 4 848 [rv (99, 0, 0), rv (0, 0, 0), rv (17, 0, 0), iv (nI i)] [] mem := by
  obtain ⟨c, hI, hX⟩ := hG.1
  refine e_aload_n C dL_law_848 rfl ?_
  refine e_aload_n C dL_law_849 rfl ?_
  refine e_iload_n C dL_law_850 rfl ?_
  refine e_iconst (v := nI 1) C dL_law_851 (by decide) ?_
  refine f_iaddn C dL_law_852 ?_
  refine f_sld C S (by omega) (by omega) dL_law_853 ?_
  refine e_aload_n C dL_law_854 rfl ?_
  refine e_iload_n C dL_law_855 rfl ?_
  refine e_iconst (v := nI 2) C dL_law_856 (by decide) ?_
  refine f_iaddn C dL_law_857 ?_
  refine f_sld C S (by omega) (by omega) dL_law_858 ?_
  refine e_aload_n C dL_law_859 rfl ?_
  refine e_iload_n C dL_law_860 rfl ?_
  refine e_iconst (v := nI 3) C dL_law_861 (by decide) ?_
  refine f_iaddn C dL_law_862 ?_
  refine f_sld C S (by omega) (by omega) dL_law_863 ?_
  refine f_callVi (As := [_, _, _]) (ci := 6) C mi_yX6_write mv_yX6_write b_ml_L_106 dL_law_864 rfl (c_X6_write hC hI) (by decide) v0 rfl rfl (Nat.le_of_ble_eq_true rfl) (fun x_864 m_864 hc_864 => ?_)
  obtain ⟨rfl, hC1, hF1⟩ := hc_864
  have hM1 := hM.frC hF1
  refine e_aload_n C dL_law_867 rfl ?_
  refine e_aload_n C dL_law_868 rfl ?_
  refine e_iload_n C dL_law_869 rfl ?_
  refine e_iconst (v := nI 1) C dL_law_870 (by decide) ?_
  refine f_iaddn C dL_law_871 ?_
  refine f_sld C S (by omega) (by omega) dL_law_872 ?_
  refine e_aload_n C dL_law_873 rfl ?_
  refine e_iload_n C dL_law_874 rfl ?_
  refine e_iconst (v := nI 2) C dL_law_875 (by decide) ?_
  refine f_iaddn C dL_law_876 ?_
  refine f_sld C S (by omega) (by omega) dL_law_877 ?_
  refine e_aload_n C dL_law_878 rfl ?_
  refine e_iload_n C dL_law_879 rfl ?_
  refine e_iconst (v := nI 3) C dL_law_880 (by decide) ?_
  refine f_iaddn C dL_law_881 ?_
  refine f_sld C S (by omega) (by omega) dL_law_882 ?_
  refine f_callVi (As := [_, _, _]) (ci := 7) C mi_yX7_write mv_yX7_write b_ml_L_109 dL_law_883 rfl (c_X7_write hM1 hG.1) (by decide) v17 rfl rfl (Nat.le_of_ble_eq_true rfl) (fun x_883 m_883 hc_883 => ?_)
  obtain ⟨rfl, hM2, hF2⟩ := hc_883
  have hC2 := hC1.frM hF2
  refine e_icmp_eq (tgt := 1223) C dL_law_886 (by decide) (fun h_886 => ?_) (fun h_886 => ?_)
  · skip
    exact kk _ _ hC2 hM2 (hG.und (Good.wri hG.1))
  · skip
    exact absurd rfl h_886
set_option maxRecDepth 100000 in
set_option maxHeartbeats 4000000 in
theorem lc_23 {E : EV} {X : CX} {L : Nat} {xs : Nat → Int32} (C : CK E X RL cL_law 4 (some .boolean) 11) (S : SX E X L xs) (hL : L ≤ 2048) {i : Nat} (hi : i + 4 ≤ L) {mem : MEM} {a : AS} (hC : RC mem a) (hM : RM mem a) (hG : GoodA a) (kk : ∀ m a, RC m a → RM m a → GoodA a → G E X 4 1223 [rv (99, 0, 0), rv (0, 0, 0), rv (17, 0, 0), iv (nI i)] [] m) : G E X 4 891 [rv (99, 0, 0), rv (0, 0, 0), rv (17, 0, 0), iv (nI i)] [] mem := by
  obtain ⟨c, hI, hX⟩ := hG.1
  refine e_aload_n C dL_law_891 rfl ?_
  refine e_aload_n C dL_law_892 rfl ?_
  refine e_iload_n C dL_law_893 rfl ?_
  refine e_iconst (v := nI 1) C dL_law_894 (by decide) ?_
  refine f_iaddn C dL_law_895 ?_
  refine f_sld C S (by omega) (by omega) dL_law_896 ?_
  refine e_aload_n C dL_law_897 rfl ?_
  refine e_iload_n C dL_law_898 rfl ?_
  refine e_iconst (v := nI 2) C dL_law_899 (by decide) ?_
  refine f_iaddn C dL_law_900 ?_
  refine f_sld C S (by omega) (by omega) dL_law_901 ?_
  refine f_callVi (As := [_, _]) (ci := 6) C mi_yX6_read mv_yX6_read b_ml_L_110 dL_law_902 rfl (c_X6_read hC hI) (by decide) v0 rfl rfl (Nat.le_of_ble_eq_true rfl) (fun x_902 m_902 hc_902 => ?_)
  obtain ⟨rfl, hC1, hF1⟩ := hc_902
  have hM1 := hM.frC hF1
  refine e_aload_n C dL_law_905 rfl ?_
  refine e_aload_n C dL_law_906 rfl ?_
  refine e_iload_n C dL_law_907 rfl ?_
  refine e_iconst (v := nI 1) C dL_law_908 (by decide) ?_
  refine f_iaddn C dL_law_909 ?_
  refine f_sld C S (by omega) (by omega) dL_law_910 ?_
  refine e_aload_n C dL_law_911 rfl ?_
  refine e_iload_n C dL_law_912 rfl ?_
  refine e_iconst (v := nI 2) C dL_law_913 (by decide) ?_
  refine f_iaddn C dL_law_914 ?_
  refine f_sld C S (by omega) (by omega) dL_law_915 ?_
  refine f_callVi (As := [_, _]) (ci := 7) C mi_yX7_read mv_yX7_read b_ml_L_113 dL_law_916 rfl (c_X7_read hM1 hG.1) (by decide) v17 rfl rfl (Nat.le_of_ble_eq_true rfl) (fun x_916 m_916 hc_916 => ?_)
  obtain ⟨rfl, hM2, hF2⟩ := hc_916
  have hC2 := hC1.frM hF2
  refine e_icmp_eq (tgt := 1223) C dL_law_919 (by decide) (fun h_919 => ?_) (fun h_919 => ?_)
  · skip
    exact kk _ _ hC2 hM2 (hG.und (Good.rea hG.1))
  · skip
    exact absurd rfl h_919
set_option maxRecDepth 100000 in
set_option maxHeartbeats 4000000 in
theorem lc_24 {E : EV} {X : CX} {L : Nat} {xs : Nat → Int32} (C : CK E X RL cL_law 4 (some .boolean) 11) (S : SX E X L xs) (hL : L ≤ 2048) {i : Nat} (hi : i + 4 ≤ L) {mem : MEM} {a : AS} (hC : RC mem a) (hM : RM mem a) (hG : GoodA a) (kk : ∀ m a, RC m a → RM m a → GoodA a → G E X 4 1223 [rv (99, 0, 0), rv (0, 0, 0), rv (17, 0, 0), iv (nI i)] [] m) : G E X 4 924 [rv (99, 0, 0), rv (0, 0, 0), rv (17, 0, 0), iv (nI i)] [] mem := by
  obtain ⟨c, hI, hX⟩ := hG.1
  refine e_aload_n C dL_law_924 rfl ?_
  refine e_aload_n C dL_law_925 rfl ?_
  refine e_iload_n C dL_law_926 rfl ?_
  refine e_iconst (v := nI 1) C dL_law_927 (by decide) ?_
  refine f_iaddn C dL_law_928 ?_
  refine f_sld C S (by omega) (by omega) dL_law_929 ?_
  refine e_aload_n C dL_law_930 rfl ?_
  refine e_iload_n C dL_law_931 rfl ?_
  refine e_iconst (v := nI 2) C dL_law_932 (by decide) ?_
  refine f_iaddn C dL_law_933 ?_
  refine f_sld C S (by omega) (by omega) dL_law_934 ?_
  refine e_aload_n C dL_law_935 rfl ?_
  refine e_iload_n C dL_law_936 rfl ?_
  refine e_iconst (v := nI 3) C dL_law_937 (by decide) ?_
  refine f_iaddn C dL_law_938 ?_
  refine f_sld C S (by omega) (by omega) dL_law_939 ?_
  refine f_callVi (As := [_, _, _]) (ci := 6) C mi_yX6_readAt mv_yX6_readAt b_ml_L_114 dL_law_940 rfl (c_X6_readAt hC hI) (by decide) v0 rfl rfl (Nat.le_of_ble_eq_true rfl) (fun x_940 m_940 hc_940 => ?_)
  obtain ⟨rfl, hC1, hF1⟩ := hc_940
  have hM1 := hM.frC hF1
  refine e_aload_n C dL_law_943 rfl ?_
  refine e_aload_n C dL_law_944 rfl ?_
  refine e_iload_n C dL_law_945 rfl ?_
  refine e_iconst (v := nI 1) C dL_law_946 (by decide) ?_
  refine f_iaddn C dL_law_947 ?_
  refine f_sld C S (by omega) (by omega) dL_law_948 ?_
  refine e_aload_n C dL_law_949 rfl ?_
  refine e_iload_n C dL_law_950 rfl ?_
  refine e_iconst (v := nI 2) C dL_law_951 (by decide) ?_
  refine f_iaddn C dL_law_952 ?_
  refine f_sld C S (by omega) (by omega) dL_law_953 ?_
  refine e_aload_n C dL_law_954 rfl ?_
  refine e_iload_n C dL_law_955 rfl ?_
  refine e_iconst (v := nI 3) C dL_law_956 (by decide) ?_
  refine f_iaddn C dL_law_957 ?_
  refine f_sld C S (by omega) (by omega) dL_law_958 ?_
  refine f_callVi (As := [_, _, _]) (ci := 7) C mi_yX7_readAt mv_yX7_readAt b_ml_L_117 dL_law_959 rfl (c_X7_readAt hM1 hG.1) (by decide) v17 rfl rfl (Nat.le_of_ble_eq_true rfl) (fun x_959 m_959 hc_959 => ?_)
  obtain ⟨rfl, hM2, hF2⟩ := hc_959
  have hC2 := hC1.frM hF2
  refine e_icmp_eq (tgt := 1223) C dL_law_962 (by decide) (fun h_962 => ?_) (fun h_962 => ?_)
  · skip
    exact kk _ _ hC2 hM2 (hG.und (Good.rdA hG.1))
  · skip
    exact absurd rfl h_962
set_option maxRecDepth 100000 in
set_option maxHeartbeats 4000000 in
theorem lc_25 {E : EV} {X : CX} {L : Nat} {xs : Nat → Int32} (C : CK E X RL cL_law 4 (some .boolean) 11) (S : SX E X L xs) (hL : L ≤ 2048) {i : Nat} (hi : i + 4 ≤ L) {mem : MEM} {a : AS} (hC : RC mem a) (hM : RM mem a) (hG : GoodA a) (kk : ∀ m a, RC m a → RM m a → GoodA a → G E X 4 1223 [rv (99, 0, 0), rv (0, 0, 0), rv (17, 0, 0), iv (nI i)] [] m) : G E X 4 967 [rv (99, 0, 0), rv (0, 0, 0), rv (17, 0, 0), iv (nI i)] [] mem := by
  obtain ⟨c, hI, hX⟩ := hG.1
  refine e_aload_n C dL_law_967 rfl ?_
  refine e_aload_n C dL_law_968 rfl ?_
  refine e_iload_n C dL_law_969 rfl ?_
  refine e_iconst (v := nI 1) C dL_law_970 (by decide) ?_
  refine f_iaddn C dL_law_971 ?_
  refine f_sld C S (by omega) (by omega) dL_law_972 ?_
  refine f_callVr (As := [_]) (ci := 6) C mi_yX6_latest mv_yX6_latest b_ml_L_118 dL_law_973 rfl (c_X6_latest hC.1 hX.2.2) (by decide) v0 rfl rfl (Nat.le_of_ble_eq_true rfl) ?_
  refine e_aload_n C dL_law_976 rfl ?_
  refine e_aload_n C dL_law_977 rfl ?_
  refine e_iload_n C dL_law_978 rfl ?_
  refine e_iconst (v := nI 1) C dL_law_979 (by decide) ?_
  refine f_iaddn C dL_law_980 ?_
  refine f_sld C S (by omega) (by omega) dL_law_981 ?_
  refine f_callVr (As := [_]) (ci := 7) C mi_yX7_latest mv_yX7_latest b_ml_L_121 dL_law_982 rfl (m_X7_latest hM) (by decide) v17 rfl rfl (Nat.le_of_ble_eq_true rfl) ?_
  refine e_icmp_eq (tgt := 1223) C dL_law_985 (by decide) (fun h_985 => ?_) (fun h_985 => ?_)
  · skip
    exact kk mem a hC hM hG
  · skip
    exact absurd rfl h_985
set_option maxRecDepth 100000 in
set_option maxHeartbeats 4000000 in
theorem lc_26 {E : EV} {X : CX} {L : Nat} {xs : Nat → Int32} (C : CK E X RL cL_law 4 (some .boolean) 11) (S : SX E X L xs) (hL : L ≤ 2048) {i : Nat} (hi : i + 4 ≤ L) {mem : MEM} {a : AS} (hC : RC mem a) (hM : RM mem a) (hG : GoodA a) (kk : ∀ m a, RC m a → RM m a → GoodA a → G E X 4 1223 [rv (99, 0, 0), rv (0, 0, 0), rv (17, 0, 0), iv (nI i)] [] m) : G E X 4 990 [rv (99, 0, 0), rv (0, 0, 0), rv (17, 0, 0), iv (nI i)] [] mem := by
  obtain ⟨c, hI, hX⟩ := hG.1
  refine e_aload_n C dL_law_990 rfl ?_
  refine e_aload_n C dL_law_991 rfl ?_
  refine e_iload_n C dL_law_992 rfl ?_
  refine e_iconst (v := nI 1) C dL_law_993 (by decide) ?_
  refine f_iaddn C dL_law_994 ?_
  refine f_sld C S (by omega) (by omega) dL_law_995 ?_
  refine e_aload_n C dL_law_996 rfl ?_
  refine e_iload_n C dL_law_997 rfl ?_
  refine e_iconst (v := nI 2) C dL_law_998 (by decide) ?_
  refine f_iaddn C dL_law_999 ?_
  refine f_sld C S (by omega) (by omega) dL_law_1000 ?_
  refine e_aload_n C dL_law_1001 rfl ?_
  refine e_iload_n C dL_law_1002 rfl ?_
  refine e_iconst (v := nI 3) C dL_law_1003 (by decide) ?_
  refine f_iaddn C dL_law_1004 ?_
  refine f_sld C S (by omega) (by omega) dL_law_1005 ?_
  refine f_callVr (As := [_, _, _]) (ci := 6) C mi_yX6_waitFor mv_yX6_waitFor b_ml_L_122 dL_law_1006 rfl (c_X6_waitFor hC.1 hI) (by decide) v0 rfl rfl (Nat.le_of_ble_eq_true rfl) ?_
  refine e_aload_n C dL_law_1009 rfl ?_
  refine e_aload_n C dL_law_1010 rfl ?_
  refine e_iload_n C dL_law_1011 rfl ?_
  refine e_iconst (v := nI 1) C dL_law_1012 (by decide) ?_
  refine f_iaddn C dL_law_1013 ?_
  refine f_sld C S (by omega) (by omega) dL_law_1014 ?_
  refine e_aload_n C dL_law_1015 rfl ?_
  refine e_iload_n C dL_law_1016 rfl ?_
  refine e_iconst (v := nI 2) C dL_law_1017 (by decide) ?_
  refine f_iaddn C dL_law_1018 ?_
  refine f_sld C S (by omega) (by omega) dL_law_1019 ?_
  refine e_aload_n C dL_law_1020 rfl ?_
  refine e_iload_n C dL_law_1021 rfl ?_
  refine e_iconst (v := nI 3) C dL_law_1022 (by decide) ?_
  refine f_iaddn C dL_law_1023 ?_
  refine f_sld C S (by omega) (by omega) dL_law_1024 ?_
  refine f_callVr (As := [_, _, _]) (ci := 7) C mi_yX7_waitFor mv_yX7_waitFor b_ml_L_125 dL_law_1025 rfl (m_X7_waitFor hM hI) (by decide) v17 rfl rfl (Nat.le_of_ble_eq_true rfl) ?_
  refine e_icmp_eq (tgt := 1223) C dL_law_1028 (by decide) (fun h_1028 => ?_) (fun h_1028 => ?_)
  · skip
    exact kk mem a hC hM hG
  · skip
    exact absurd rfl h_1028
set_option maxRecDepth 100000 in
set_option maxHeartbeats 4000000 in
theorem lc_27 {E : EV} {X : CX} {L : Nat} {xs : Nat → Int32} (C : CK E X RL cL_law 4 (some .boolean) 11) (S : SX E X L xs) (hL : L ≤ 2048) {i : Nat} (hi : i + 4 ≤ L) {mem : MEM} {a : AS} (hC : RC mem a) (hM : RM mem a) (hG : GoodA a) (kk : ∀ m a, RC m a → RM m a → GoodA a → G E X 4 1223 [rv (99, 0, 0), rv (0, 0, 0), rv (17, 0, 0), iv (nI i)] [] m) : G E X 4 1033 [rv (99, 0, 0), rv (0, 0, 0), rv (17, 0, 0), iv (nI i)] [] mem := by
  obtain ⟨c, hI, hX⟩ := hG.1
  refine e_aload_n C dL_law_1033 rfl ?_
  refine e_aload_n C dL_law_1034 rfl ?_
  refine e_iload_n C dL_law_1035 rfl ?_
  refine e_iconst (v := nI 1) C dL_law_1036 (by decide) ?_
  refine f_iaddn C dL_law_1037 ?_
  refine f_sld C S (by omega) (by omega) dL_law_1038 ?_
  refine e_aload_n C dL_law_1039 rfl ?_
  refine e_iload_n C dL_law_1040 rfl ?_
  refine e_iconst (v := nI 2) C dL_law_1041 (by decide) ?_
  refine f_iaddn C dL_law_1042 ?_
  refine f_sld C S (by omega) (by omega) dL_law_1043 ?_
  refine f_callVr (As := [_, _]) (ci := 6) C mi_yX6_bestReplica mv_yX6_bestReplica b_ml_L_126 dL_law_1044 rfl (c_X6_bestReplica hC.1 hI) (by decide) v0 rfl rfl (Nat.le_of_ble_eq_true rfl) ?_
  refine e_aload_n C dL_law_1047 rfl ?_
  refine e_aload_n C dL_law_1048 rfl ?_
  refine e_iload_n C dL_law_1049 rfl ?_
  refine e_iconst (v := nI 1) C dL_law_1050 (by decide) ?_
  refine f_iaddn C dL_law_1051 ?_
  refine f_sld C S (by omega) (by omega) dL_law_1052 ?_
  refine e_aload_n C dL_law_1053 rfl ?_
  refine e_iload_n C dL_law_1054 rfl ?_
  refine e_iconst (v := nI 2) C dL_law_1055 (by decide) ?_
  refine f_iaddn C dL_law_1056 ?_
  refine f_sld C S (by omega) (by omega) dL_law_1057 ?_
  refine f_callVr (As := [_, _]) (ci := 7) C mi_yX7_bestReplica mv_yX7_bestReplica b_ml_L_129 dL_law_1058 rfl (m_X7_bestReplica hM hI) (by decide) v17 rfl rfl (Nat.le_of_ble_eq_true rfl) ?_
  refine e_icmp_eq (tgt := 1223) C dL_law_1061 (by decide) (fun h_1061 => ?_) (fun h_1061 => ?_)
  · skip
    exact kk mem a hC hM hG
  · skip
    exact absurd rfl h_1061
set_option maxRecDepth 100000 in
set_option maxHeartbeats 4000000 in
theorem lc_28 {E : EV} {X : CX} {L : Nat} {xs : Nat → Int32} (C : CK E X RL cL_law 4 (some .boolean) 11) (S : SX E X L xs) (hL : L ≤ 2048) {i : Nat} (hi : i + 4 ≤ L) {mem : MEM} {a : AS} (hC : RC mem a) (hM : RM mem a) (hG : GoodA a) (kk : ∀ m a, RC m a → RM m a → GoodA a → G E X 4 1223 [rv (99, 0, 0), rv (0, 0, 0), rv (17, 0, 0), iv (nI i)] [] m) : G E X 4 1066 [rv (99, 0, 0), rv (0, 0, 0), rv (17, 0, 0), iv (nI i)] [] mem := by
  obtain ⟨c, hI, hX⟩ := hG.1
  refine e_aload_n C dL_law_1066 rfl ?_
  refine e_aload_n C dL_law_1067 rfl ?_
  refine e_iload_n C dL_law_1068 rfl ?_
  refine e_iconst (v := nI 1) C dL_law_1069 (by decide) ?_
  refine f_iaddn C dL_law_1070 ?_
  refine f_sld C S (by omega) (by omega) dL_law_1071 ?_
  refine e_aload_n C dL_law_1072 rfl ?_
  refine e_iload_n C dL_law_1073 rfl ?_
  refine e_iconst (v := nI 2) C dL_law_1074 (by decide) ?_
  refine f_iaddn C dL_law_1075 ?_
  refine f_sld C S (by omega) (by omega) dL_law_1076 ?_
  refine e_aload_n C dL_law_1077 rfl ?_
  refine e_iload_n C dL_law_1078 rfl ?_
  refine e_iconst (v := nI 3) C dL_law_1079 (by decide) ?_
  refine f_iaddn C dL_law_1080 ?_
  refine f_sld C S (by omega) (by omega) dL_law_1081 ?_
  refine f_callVr (As := [_, _, _]) (ci := 6) C mi_yX6_keysAfter mv_yX6_keysAfter b_ml_L_130 dL_law_1082 rfl (c_X6_keysAfter hC.1 hI) (by decide) v0 rfl rfl (Nat.le_of_ble_eq_true rfl) ?_
  refine e_aload_n C dL_law_1085 rfl ?_
  refine e_aload_n C dL_law_1086 rfl ?_
  refine e_iload_n C dL_law_1087 rfl ?_
  refine e_iconst (v := nI 1) C dL_law_1088 (by decide) ?_
  refine f_iaddn C dL_law_1089 ?_
  refine f_sld C S (by omega) (by omega) dL_law_1090 ?_
  refine e_aload_n C dL_law_1091 rfl ?_
  refine e_iload_n C dL_law_1092 rfl ?_
  refine e_iconst (v := nI 2) C dL_law_1093 (by decide) ?_
  refine f_iaddn C dL_law_1094 ?_
  refine f_sld C S (by omega) (by omega) dL_law_1095 ?_
  refine e_aload_n C dL_law_1096 rfl ?_
  refine e_iload_n C dL_law_1097 rfl ?_
  refine e_iconst (v := nI 3) C dL_law_1098 (by decide) ?_
  refine f_iaddn C dL_law_1099 ?_
  refine f_sld C S (by omega) (by omega) dL_law_1100 ?_
  refine f_callVr (As := [_, _, _]) (ci := 7) C mi_yX7_keysAfter mv_yX7_keysAfter b_ml_L_133 dL_law_1101 rfl (m_X7_keysAfter hM hI) (by decide) v17 rfl rfl (Nat.le_of_ble_eq_true rfl) ?_
  refine e_icmp_eq (tgt := 1223) C dL_law_1104 (by decide) (fun h_1104 => ?_) (fun h_1104 => ?_)
  · skip
    exact kk mem a hC hM hG
  · skip
    exact absurd rfl h_1104
set_option maxRecDepth 100000 in
set_option maxHeartbeats 4000000 in
theorem lc_29 {E : EV} {X : CX} {L : Nat} {xs : Nat → Int32} (C : CK E X RL cL_law 4 (some .boolean) 11) (S : SX E X L xs) (hL : L ≤ 2048) {i : Nat} (hi : i + 4 ≤ L) {mem : MEM} {a : AS} (hC : RC mem a) (hM : RM mem a) (hG : GoodA a) (kk : ∀ m a, RC m a → RM m a → GoodA a → G E X 4 1223 [rv (99, 0, 0), rv (0, 0, 0), rv (17, 0, 0), iv (nI i)] [] m) : G E X 4 1109 [rv (99, 0, 0), rv (0, 0, 0), rv (17, 0, 0), iv (nI i)] [] mem := by
  obtain ⟨c, hI, hX⟩ := hG.1
  refine e_aload_n C dL_law_1109 rfl ?_
  refine f_callVr (As := []) (ci := 6) C mi_yX6_catchUp mv_yX6_catchUp b_ml_L_134 dL_law_1110 rfl (c_X6_catchUp hC.1 hI) (by decide) v0 rfl rfl (Nat.le_of_ble_eq_true rfl) ?_
  refine e_aload_n C dL_law_1113 rfl ?_
  refine f_callVr (As := []) (ci := 7) C mi_yX7_catchUp mv_yX7_catchUp b_ml_L_137 dL_law_1114 rfl (m_X7_catchUp hM hI) (by decide) v17 rfl rfl (Nat.le_of_ble_eq_true rfl) ?_
  refine e_icmp_eq (tgt := 1223) C dL_law_1117 (by decide) (fun h_1117 => ?_) (fun h_1117 => ?_)
  · skip
    exact kk mem a hC hM hG
  · skip
    exact absurd rfl h_1117
set_option maxRecDepth 100000 in
set_option maxHeartbeats 4000000 in
theorem lc_30 {E : EV} {X : CX} {L : Nat} {xs : Nat → Int32} (C : CK E X RL cL_law 4 (some .boolean) 11) (S : SX E X L xs) (hL : L ≤ 2048) {i : Nat} (hi : i + 4 ≤ L) {mem : MEM} {a : AS} (hC : RC mem a) (hM : RM mem a) (hG : GoodA a) (kk : ∀ m a, RC m a → RM m a → GoodA a → G E X 4 1223 [rv (99, 0, 0), rv (0, 0, 0), rv (17, 0, 0), iv (nI i)] [] m) : G E X 4 1122 [rv (99, 0, 0), rv (0, 0, 0), rv (17, 0, 0), iv (nI i)] [] mem := by
  refine e_aload_n C dL_law_1122 rfl ?_
  refine e_aload_n C dL_law_1123 rfl ?_
  refine e_iload_n C dL_law_1124 rfl ?_
  refine e_iconst (v := nI 1) C dL_law_1125 (by decide) ?_
  refine f_iaddn C dL_law_1126 ?_
  refine f_sld C S (by omega) (by omega) dL_law_1127 ?_
  refine f_callVi (As := [_]) (ci := 6) C mi_yX6_append mv_yX6_append b_ml_L_138 dL_law_1128 rfl (c_X6_append hC) (by decide) v0 rfl rfl (Nat.le_of_ble_eq_true rfl) (fun x_1128 m_1128 hc_1128 => ?_)
  obtain ⟨rfl, hC1, hF1⟩ := hc_1128
  have hM1 := hM.frC hF1
  refine e_aload_n C dL_law_1131 rfl ?_
  refine e_aload_n C dL_law_1132 rfl ?_
  refine e_iload_n C dL_law_1133 rfl ?_
  refine e_iconst (v := nI 1) C dL_law_1134 (by decide) ?_
  refine f_iaddn C dL_law_1135 ?_
  refine f_sld C S (by omega) (by omega) dL_law_1136 ?_
  refine f_callVi (As := [_]) (ci := 7) C mi_yX7_append mv_yX7_append b_ml_L_141 dL_law_1137 rfl (c_X7_append hM1) (by decide) v17 rfl rfl (Nat.le_of_ble_eq_true rfl) (fun x_1137 m_1137 hc_1137 => ?_)
  obtain ⟨rfl, hM2, hF2⟩ := hc_1137
  have hC2 := hC1.frM hF2
  refine e_icmp_eq (tgt := 1223) C dL_law_1140 (by decide) (fun h_1140 => ?_) (fun h_1140 => ?_)
  · skip
    exact kk _ _ hC2 hM2 (hG.apA)
  · skip
    exact absurd rfl h_1140
set_option maxRecDepth 100000 in
set_option maxHeartbeats 4000000 in
theorem lc_31 {E : EV} {X : CX} {L : Nat} {xs : Nat → Int32} (C : CK E X RL cL_law 4 (some .boolean) 11) (S : SX E X L xs) (hL : L ≤ 2048) {i : Nat} (hi : i + 4 ≤ L) {mem : MEM} {a : AS} (hC : RC mem a) (hM : RM mem a) (hG : GoodA a) (kk : ∀ m a, RC m a → RM m a → GoodA a → G E X 4 1223 [rv (99, 0, 0), rv (0, 0, 0), rv (17, 0, 0), iv (nI i)] [] m) : G E X 4 1145 [rv (99, 0, 0), rv (0, 0, 0), rv (17, 0, 0), iv (nI i)] [] mem := by
  refine e_aload_n C dL_law_1145 rfl ?_
  refine f_callVi (As := []) (ci := 6) C mi_yX6_clearText mv_yX6_clearText b_ml_L_142 dL_law_1146 rfl (c_X6_clearText hC) (by decide) v0 rfl rfl (Nat.le_of_ble_eq_true rfl) (fun x_1146 m_1146 hc_1146 => ?_)
  obtain ⟨rfl, hC1, hF1⟩ := hc_1146
  have hM1 := hM.frC hF1
  refine e_aload_n C dL_law_1149 rfl ?_
  refine f_callVi (As := []) (ci := 7) C mi_yX7_clearText mv_yX7_clearText b_ml_L_145 dL_law_1150 rfl (c_X7_clearText hM1) (by decide) v17 rfl rfl (Nat.le_of_ble_eq_true rfl) (fun x_1150 m_1150 hc_1150 => ?_)
  obtain ⟨rfl, hM2, hF2⟩ := hc_1150
  have hC2 := hC1.frM hF2
  refine e_icmp_eq (tgt := 1223) C dL_law_1153 (by decide) (fun h_1153 => ?_) (fun h_1153 => ?_)
  · skip
    exact kk _ _ hC2 hM2 (hG.clA)
  · skip
    exact absurd rfl h_1153
set_option maxRecDepth 100000 in
set_option maxHeartbeats 4000000 in
theorem lc_32 {E : EV} {X : CX} {L : Nat} {xs : Nat → Int32} (C : CK E X RL cL_law 4 (some .boolean) 11) (S : SX E X L xs) (hL : L ≤ 2048) {i : Nat} (hi : i + 4 ≤ L) {mem : MEM} {a : AS} (hC : RC mem a) (hM : RM mem a) (hG : GoodA a) (kk : ∀ m a, RC m a → RM m a → GoodA a → G E X 4 1223 [rv (99, 0, 0), rv (0, 0, 0), rv (17, 0, 0), iv (nI i)] [] m) : G E X 4 1158 [rv (99, 0, 0), rv (0, 0, 0), rv (17, 0, 0), iv (nI i)] [] mem := by
  refine e_aload_n C dL_law_1158 rfl ?_
  refine f_callVi (As := []) (ci := 6) C mi_yX6_errorPosition mv_yX6_errorPosition b_ml_L_146 dL_law_1159 rfl (c_X6_errorPosition hC) (by decide) v0 rfl rfl (Nat.le_of_ble_eq_true rfl) (fun x_1159 m_1159 hc_1159 => ?_)
  obtain ⟨rfl, hC1, hF1⟩ := hc_1159
  have hM1 := hM.frC hF1
  refine e_aload_n C dL_law_1162 rfl ?_
  refine f_callVi (As := []) (ci := 7) C mi_yX7_errorPosition mv_yX7_errorPosition b_ml_L_149 dL_law_1163 rfl (c_X7_errorPosition (hM1.MT hG.2.2.2)) (by decide) v17 rfl rfl (Nat.le_of_ble_eq_true rfl) (fun x_1163 m_1163 hc_1163 => ?_)
  obtain ⟨rfl, σ, n, td, rfl, -⟩ := hc_1163
  have hM2 := (hM1.tm (σ := σ) (n := n) (td := td)).1
  have hC2 := hC1.frM (hM1.tm (σ := σ) (n := n) (td := td)).2
  refine e_icmp_eq (tgt := 1223) C dL_law_1166 (by decide) (fun h_1166 => ?_) (fun h_1166 => ?_)
  · skip
    exact kk _ a hC2 hM2 hG
  · skip
    exact absurd rfl h_1166
set_option maxRecDepth 100000 in
set_option maxHeartbeats 4000000 in
theorem lc_33 {E : EV} {X : CX} {L : Nat} {xs : Nat → Int32} (C : CK E X RL cL_law 4 (some .boolean) 11) (S : SX E X L xs) (hL : L ≤ 2048) {i : Nat} (hi : i + 4 ≤ L) {mem : MEM} {a : AS} (hC : RC mem a) (hM : RM mem a) (hG : GoodA a) (kk : ∀ m a, RC m a → RM m a → GoodA a → G E X 4 1223 [rv (99, 0, 0), rv (0, 0, 0), rv (17, 0, 0), iv (nI i)] [] m) : G E X 4 1171 [rv (99, 0, 0), rv (0, 0, 0), rv (17, 0, 0), iv (nI i)] [] mem := by
  refine e_aload_n C dL_law_1171 rfl ?_
  refine f_callVi (As := []) (ci := 6) C mi_yX6_execute mv_yX6_execute b_ml_L_150 dL_law_1172 rfl (c_X6_execA hC hG.1) (by decide) v0 rfl rfl (Nat.le_of_ble_eq_true rfl) (fun x_1172 m_1172 hc_1172 => ?_)
  obtain ⟨rfl, hC1, hF1⟩ := hc_1172
  have hM1 := hM.frC hF1
  refine e_aload_n C dL_law_1175 rfl ?_
  refine f_callVi (As := []) (ci := 7) C mi_yX7_execute mv_yX7_execute b_ml_L_153 dL_law_1176 rfl (c_X7_execA hM1 hG.2.2.2 hG.1) (by decide) v17 rfl rfl (Nat.le_of_ble_eq_true rfl) (fun x_1176 m_1176 hc_1176 => ?_)
  obtain ⟨rfl, hM2, hF2⟩ := hc_1176
  have hC2 := hC1.frM hF2
  refine e_icmp_eq (tgt := 1223) C dL_law_1179 (by decide) (fun h_1179 => ?_) (fun h_1179 => ?_)
  · skip
    exact kk _ _ hC2 hM2 (hG.exA)
  · skip
    exact absurd rfl h_1179
set_option maxRecDepth 100000 in
set_option maxHeartbeats 4000000 in
theorem lc_34 {E : EV} {X : CX} {L : Nat} {xs : Nat → Int32} (C : CK E X RL cL_law 4 (some .boolean) 11) (S : SX E X L xs) (hL : L ≤ 2048) {i : Nat} (hi : i + 4 ≤ L) {mem : MEM} {a : AS} (hC : RC mem a) (hM : RM mem a) (hG : GoodA a) (kk : ∀ m a, RC m a → RM m a → GoodA a → G E X 4 1223 [rv (99, 0, 0), rv (0, 0, 0), rv (17, 0, 0), iv (nI i)] [] m) : G E X 4 1184 [rv (99, 0, 0), rv (0, 0, 0), rv (17, 0, 0), iv (nI i)] [] mem := by
  refine e_aload_n C dL_law_1184 rfl ?_
  refine f_callVi (As := []) (ci := 6) C mi_yX6_undo mv_yX6_undo b_ml_L_154 dL_law_1185 rfl (c_X6_undo hC) (by decide) v0 rfl rfl (Nat.le_of_ble_eq_true rfl) (fun x_1185 m_1185 hc_1185 => ?_)
  obtain ⟨rfl, hC1, hF1⟩ := hc_1185
  have hM1 := hM.frC hF1
  refine e_aload_n C dL_law_1188 rfl ?_
  refine f_callVi (As := []) (ci := 7) C mi_yX7_undo mv_yX7_undo b_ml_L_157 dL_law_1189 rfl (c_X7_undo hM1) (by decide) v17 rfl rfl (Nat.le_of_ble_eq_true rfl) (fun x_1189 m_1189 hc_1189 => ?_)
  obtain ⟨rfl, hM2, hF2⟩ := hc_1189
  have hC2 := hC1.frM hF2
  refine e_icmp_eq (tgt := 1223) C dL_law_1192 (by decide) (fun h_1192 => ?_) (fun h_1192 => ?_)
  · skip
    exact kk _ _ hC2 hM2 (hG.unA)
  · skip
    exact absurd rfl h_1192
set_option maxRecDepth 100000 in
set_option maxHeartbeats 4000000 in
theorem lc_35 {E : EV} {X : CX} {L : Nat} {xs : Nat → Int32} (C : CK E X RL cL_law 4 (some .boolean) 11) (S : SX E X L xs) (hL : L ≤ 2048) {i : Nat} (hi : i + 4 ≤ L) {mem : MEM} {a : AS} (hC : RC mem a) (hM : RM mem a) (hG : GoodA a) (kk : ∀ m a, RC m a → RM m a → GoodA a → G E X 4 1223 [rv (99, 0, 0), rv (0, 0, 0), rv (17, 0, 0), iv (nI i)] [] m) : G E X 4 1197 [rv (99, 0, 0), rv (0, 0, 0), rv (17, 0, 0), iv (nI i)] [] mem := by
  refine e_aload_n C dL_law_1197 rfl ?_
  refine f_callVi (As := []) (ci := 6) C mi_yX6_save mv_yX6_save b_ml_L_158 dL_law_1198 rfl (c_X6_save hC) (by decide) v0 rfl rfl (Nat.le_of_ble_eq_true rfl) (fun x_1198 m_1198 hc_1198 => ?_)
  obtain ⟨rfl, hC1, hF1⟩ := hc_1198
  have hM1 := hM.frC hF1
  refine e_aload_n C dL_law_1201 rfl ?_
  refine f_callVi (As := []) (ci := 7) C mi_yX7_save mv_yX7_save b_ml_L_161 dL_law_1202 rfl (c_X7_save hM1) (by decide) v17 rfl rfl (Nat.le_of_ble_eq_true rfl) (fun x_1202 m_1202 hc_1202 => ?_)
  obtain ⟨rfl, hM2, hF2⟩ := hc_1202
  have hC2 := hC1.frM hF2
  refine e_icmp_eq (tgt := 1223) C dL_law_1205 (by decide) (fun h_1205 => ?_) (fun h_1205 => ?_)
  · skip
    exact kk _ _ hC2 hM2 (hG.svA)
  · skip
    exact absurd rfl h_1205
set_option maxRecDepth 100000 in
set_option maxHeartbeats 4000000 in
theorem lc_36 {E : EV} {X : CX} {L : Nat} {xs : Nat → Int32} (C : CK E X RL cL_law 4 (some .boolean) 11) (S : SX E X L xs) (hL : L ≤ 2048) {i : Nat} (hi : i + 4 ≤ L) {mem : MEM} {a : AS} (hC : RC mem a) (hM : RM mem a) (hG : GoodA a) (kk : ∀ m a, RC m a → RM m a → GoodA a → G E X 4 1223 [rv (99, 0, 0), rv (0, 0, 0), rv (17, 0, 0), iv (nI i)] [] m) : G E X 4 1210 [rv (99, 0, 0), rv (0, 0, 0), rv (17, 0, 0), iv (nI i)] [] mem := by
  refine e_aload_n C dL_law_1210 rfl ?_
  refine f_callVi (As := []) (ci := 6) C mi_yX6_restore mv_yX6_restore b_ml_L_162 dL_law_1211 rfl (c_X6_restore hC) (by decide) v0 rfl rfl (Nat.le_of_ble_eq_true rfl) (fun x_1211 m_1211 hc_1211 => ?_)
  obtain ⟨rfl, hC1, hF1⟩ := hc_1211
  have hM1 := hM.frC hF1
  refine e_aload_n C dL_law_1214 rfl ?_
  refine f_callVi (As := []) (ci := 7) C mi_yX7_restore mv_yX7_restore b_ml_L_165 dL_law_1215 rfl (c_X7_restore hM1 (fun kz e => (hG.2.2.1 kz e).ne)) (by decide) v17 rfl rfl (Nat.le_of_ble_eq_true rfl) (fun x_1215 m_1215 hc_1215 => ?_)
  obtain ⟨rfl, hM2, hF2⟩ := hc_1215
  have hC2 := hC1.frM hF2
  refine e_icmp_eq (tgt := 1223) C dL_law_1218 (by decide) (fun h_1218 => ?_) (fun h_1218 => ?_)
  · skip
    exact kk _ _ hC2 hM2 (hG.reA)
  · skip
    exact absurd rfl h_1218
theorem swN {w : Int32} {N : Nat} (hN : N < 2 ^ 31) (h : ∀ k, k ≤ N → ¬ w = nI k) : w.toInt < 0 ∨ (N : Int) < w.toInt := Classical.byContradiction fun q => by
  obtain ⟨n, hn, rfl⟩ := xI_le_of (x := w) (N := N) (by rw [Int32.le_iff_toInt_le, Int32.toInt_zero]; omega) (by rw [Int32.le_iff_toInt_le, nI_toInt hN]; omega) hN
  exact h n hn rfl
theorem lw_cmp {i L : Nat} (hi : i < 100000) (hL : L ≤ 2048) (h : ¬ nI L - nI 4 < nI i) : i + 4 ≤ L := by
  rw [Int32.lt_iff_toInt_lt, Int32.toInt_sub, nI_toInt (by omega), nI_toInt (by decide), nI_toInt (by omega), Int.bmod_eq_of_le (by omega) (by omega)] at h
  omega
set_option maxRecDepth 100000 in
set_option maxHeartbeats 4000000 in
theorem law_loop {E : EV} {X : CX} {L : Nat} {xs : Nat → Int32} (C : CK E X RL cL_law 4 (some .boolean) 11) (S : SX E X L xs) (hL : L ≤ 2048) (kend : ∀ m ls, G E X 4 1230 ls [iv (nI 1)] m) : ∀ (n : Nat) (i : Nat) (mem : MEM) (a : AS), L - i < n → i ≤ L → RC mem a → RM mem a → GoodA a → G E X 4 18 [rv (99, 0, 0), rv (0, 0, 0), rv (17, 0, 0), iv (nI i)] [] mem := by
  intro n
  induction n with
  | zero => intro i mem a h; exact absurd h (Nat.not_lt_zero _)
  | succ n ih =>
    intro i mem a hn hiL hC hM hG
    refine e_iload_n C dL_law_18 rfl ?_
    refine e_aload_n C dL_law_19 rfl ?_
    refine f_slen C S dL_law_20 ?_
    refine e_iconst (v := nI 4) C dL_law_21 (by decide) ?_
    refine e_isub C dL_law_22 ?_
    refine e_icmp_gt (tgt := 1229) C dL_law_23 (by decide) (fun h_23 => ?_) (fun h_23 => ?_)
    · refine e_iconst (v := nI 1) C dL_law_1229 (by decide) ?_
      exact kend _ _
    · have hi := lw_cmp (by omega) hL h_23
      refine e_aload_n C dL_law_26 rfl ?_
      refine e_iload_n C dL_law_27 rfl ?_
      refine f_sld C S (by omega) (by omega) dL_law_28 ?_
      refine e_bipush (v := nI 63) C dL_law_29 (by decide) ?_
      refine e_iand C dL_law_31 ?_
      have kk : ∀ m a, RC m a → RM m a → GoodA a → G E X 4 1223 [rv (99, 0, 0), rv (0, 0, 0), rv (17, 0, 0), iv (nI i)] [] m := fun m a h1 h2 h3 => by
        refine e_iinc (v := nI (i + 4)) C dL_law_1223 rfl (xI_add i 4) (by decide) ?_
        refine e_goto (tgt := 18) C dL_law_1226 (by decide) ?_
        exact ih (i + 4) m a (by omega) hi h1 h2 h3
      generalize xs i &&& nI 63 = w
      by_cases k0 : w = nI 0
      · subst k0
        refine e_tableIn (tgt := 196) (off := 164) C dL_law_32 (by decide) (by decide) (by decide) (by decide) ?_
        exact lc_0 C S hL hi hC hM hG kk
      by_cases k1 : w = nI 1
      · subst k1
        refine e_tableIn (tgt := 229) (off := 197) C dL_law_32 (by decide) (by decide) (by decide) (by decide) ?_
        exact lc_1 C S hL hi hC hM hG kk
      by_cases k2 : w = nI 2
      · subst k2
        refine e_tableIn (tgt := 252) (off := 220) C dL_law_32 (by decide) (by decide) (by decide) (by decide) ?_
        exact lc_2 C S hL hi hC hM hG kk
      by_cases k3 : w = nI 3
      · subst k3
        refine e_tableIn (tgt := 285) (off := 253) C dL_law_32 (by decide) (by decide) (by decide) (by decide) ?_
        exact lc_3 C S hL hi hC hM hG kk
      by_cases k4 : w = nI 4
      · subst k4
        refine e_tableIn (tgt := 334) (off := 302) C dL_law_32 (by decide) (by decide) (by decide) (by decide) ?_
        exact lc_4 C S hL hi hC hM hG kk
      by_cases k5 : w = nI 5
      · subst k5
        refine e_tableIn (tgt := 367) (off := 335) C dL_law_32 (by decide) (by decide) (by decide) (by decide) ?_
        exact lc_5 C S hL hi hC hM hG kk
      by_cases k6 : w = nI 6
      · subst k6
        refine e_tableIn (tgt := 390) (off := 358) C dL_law_32 (by decide) (by decide) (by decide) (by decide) ?_
        exact lc_6 C S hL hi hC hM hG kk
      by_cases k7 : w = nI 7
      · subst k7
        refine e_tableIn (tgt := 403) (off := 371) C dL_law_32 (by decide) (by decide) (by decide) (by decide) ?_
        exact lc_7 C S hL hi hC hM hG kk
      by_cases k8 : w = nI 8
      · subst k8
        refine e_tableIn (tgt := 436) (off := 404) C dL_law_32 (by decide) (by decide) (by decide) (by decide) ?_
        exact lc_8 C S hL hi hC hM hG kk
      by_cases k9 : w = nI 9
      · subst k9
        refine e_tableIn (tgt := 449) (off := 417) C dL_law_32 (by decide) (by decide) (by decide) (by decide) ?_
        exact lc_9 C S hL hi hC hM hG kk
      by_cases k10 : w = nI 10
      · subst k10
        refine e_tableIn (tgt := 482) (off := 450) C dL_law_32 (by decide) (by decide) (by decide) (by decide) ?_
        exact lc_10 C S hL hi hC hM hG kk
      by_cases k11 : w = nI 11
      · subst k11
        refine e_tableIn (tgt := 505) (off := 473) C dL_law_32 (by decide) (by decide) (by decide) (by decide) ?_
        exact lc_11 C S hL hi hC hM hG kk
      by_cases k12 : w = nI 12
      · subst k12
        refine e_tableIn (tgt := 538) (off := 506) C dL_law_32 (by decide) (by decide) (by decide) (by decide) ?_
        exact lc_12 C S hL hi hC hM hG kk
      by_cases k13 : w = nI 13
      · subst k13
        refine e_tableIn (tgt := 571) (off := 539) C dL_law_32 (by decide) (by decide) (by decide) (by decide) ?_
        exact lc_13 C S hL hi hC hM hG kk
      by_cases k14 : w = nI 14
      · subst k14
        refine e_tableIn (tgt := 604) (off := 572) C dL_law_32 (by decide) (by decide) (by decide) (by decide) ?_
        exact lc_14 C S hL hi hC hM hG kk
      by_cases k15 : w = nI 15
      · subst k15
        refine e_tableIn (tgt := 627) (off := 595) C dL_law_32 (by decide) (by decide) (by decide) (by decide) ?_
        exact lc_15 C S hL hi hC hM hG kk
      by_cases k16 : w = nI 16
      · subst k16
        refine e_tableIn (tgt := 670) (off := 638) C dL_law_32 (by decide) (by decide) (by decide) (by decide) ?_
        exact lc_16 C S hL hi hC hM hG kk
      by_cases k17 : w = nI 17
      · subst k17
        refine e_tableIn (tgt := 693) (off := 661) C dL_law_32 (by decide) (by decide) (by decide) (by decide) ?_
        exact lc_17 C S hL hi hC hM hG kk
      by_cases k18 : w = nI 18
      · subst k18
        refine e_tableIn (tgt := 726) (off := 694) C dL_law_32 (by decide) (by decide) (by decide) (by decide) ?_
        exact lc_18 C S hL hi hC hM hG kk
      by_cases k19 : w = nI 19
      · subst k19
        refine e_tableIn (tgt := 769) (off := 737) C dL_law_32 (by decide) (by decide) (by decide) (by decide) ?_
        exact lc_19 C S hL hi hC hM hG kk
      by_cases k20 : w = nI 20
      · subst k20
        refine e_tableIn (tgt := 802) (off := 770) C dL_law_32 (by decide) (by decide) (by decide) (by decide) ?_
        exact lc_20 C S hL hi hC hM hG kk
      by_cases k21 : w = nI 21
      · subst k21
        refine e_tableIn (tgt := 815) (off := 783) C dL_law_32 (by decide) (by decide) (by decide) (by decide) ?_
        exact lc_21 C S hL hi hC hM hG kk
      by_cases k22 : w = nI 22
      · subst k22
        refine e_tableIn (tgt := 848) (off := 816) C dL_law_32 (by decide) (by decide) (by decide) (by decide) ?_
        exact lc_22 C S hL hi hC hM hG kk
      by_cases k23 : w = nI 23
      · subst k23
        refine e_tableIn (tgt := 891) (off := 859) C dL_law_32 (by decide) (by decide) (by decide) (by decide) ?_
        exact lc_23 C S hL hi hC hM hG kk
      by_cases k24 : w = nI 24
      · subst k24
        refine e_tableIn (tgt := 924) (off := 892) C dL_law_32 (by decide) (by decide) (by decide) (by decide) ?_
        exact lc_24 C S hL hi hC hM hG kk
      by_cases k25 : w = nI 25
      · subst k25
        refine e_tableIn (tgt := 967) (off := 935) C dL_law_32 (by decide) (by decide) (by decide) (by decide) ?_
        exact lc_25 C S hL hi hC hM hG kk
      by_cases k26 : w = nI 26
      · subst k26
        refine e_tableIn (tgt := 990) (off := 958) C dL_law_32 (by decide) (by decide) (by decide) (by decide) ?_
        exact lc_26 C S hL hi hC hM hG kk
      by_cases k27 : w = nI 27
      · subst k27
        refine e_tableIn (tgt := 1033) (off := 1001) C dL_law_32 (by decide) (by decide) (by decide) (by decide) ?_
        exact lc_27 C S hL hi hC hM hG kk
      by_cases k28 : w = nI 28
      · subst k28
        refine e_tableIn (tgt := 1066) (off := 1034) C dL_law_32 (by decide) (by decide) (by decide) (by decide) ?_
        exact lc_28 C S hL hi hC hM hG kk
      by_cases k29 : w = nI 29
      · subst k29
        refine e_tableIn (tgt := 1109) (off := 1077) C dL_law_32 (by decide) (by decide) (by decide) (by decide) ?_
        exact lc_29 C S hL hi hC hM hG kk
      by_cases k30 : w = nI 30
      · subst k30
        refine e_tableIn (tgt := 1122) (off := 1090) C dL_law_32 (by decide) (by decide) (by decide) (by decide) ?_
        exact lc_30 C S hL hi hC hM hG kk
      by_cases k31 : w = nI 31
      · subst k31
        refine e_tableIn (tgt := 1145) (off := 1113) C dL_law_32 (by decide) (by decide) (by decide) (by decide) ?_
        exact lc_31 C S hL hi hC hM hG kk
      by_cases k32 : w = nI 32
      · subst k32
        refine e_tableIn (tgt := 1158) (off := 1126) C dL_law_32 (by decide) (by decide) (by decide) (by decide) ?_
        exact lc_32 C S hL hi hC hM hG kk
      by_cases k33 : w = nI 33
      · subst k33
        refine e_tableIn (tgt := 1171) (off := 1139) C dL_law_32 (by decide) (by decide) (by decide) (by decide) ?_
        exact lc_33 C S hL hi hC hM hG kk
      by_cases k34 : w = nI 34
      · subst k34
        refine e_tableIn (tgt := 1184) (off := 1152) C dL_law_32 (by decide) (by decide) (by decide) (by decide) ?_
        exact lc_34 C S hL hi hC hM hG kk
      by_cases k35 : w = nI 35
      · subst k35
        refine e_tableIn (tgt := 1197) (off := 1165) C dL_law_32 (by decide) (by decide) (by decide) (by decide) ?_
        exact lc_35 C S hL hi hC hM hG kk
      by_cases k36 : w = nI 36
      · subst k36
        refine e_tableIn (tgt := 1210) (off := 1178) C dL_law_32 (by decide) (by decide) (by decide) (by decide) ?_
        exact lc_36 C S hL hi hC hM hG kk
      refine e_tableOut (tgt := 1223) C dL_law_32 (by
        have := swN (w := w) (N := 36) (by decide) (fun k hk => by
          match k, hk with
          | 0, _ => exact k0
          | 1, _ => exact k1
          | 2, _ => exact k2
          | 3, _ => exact k3
          | 4, _ => exact k4
          | 5, _ => exact k5
          | 6, _ => exact k6
          | 7, _ => exact k7
          | 8, _ => exact k8
          | 9, _ => exact k9
          | 10, _ => exact k10
          | 11, _ => exact k11
          | 12, _ => exact k12
          | 13, _ => exact k13
          | 14, _ => exact k14
          | 15, _ => exact k15
          | 16, _ => exact k16
          | 17, _ => exact k17
          | 18, _ => exact k18
          | 19, _ => exact k19
          | 20, _ => exact k20
          | 21, _ => exact k21
          | 22, _ => exact k22
          | 23, _ => exact k23
          | 24, _ => exact k24
          | 25, _ => exact k25
          | 26, _ => exact k26
          | 27, _ => exact k27
          | 28, _ => exact k28
          | 29, _ => exact k29
          | 30, _ => exact k30
          | 31, _ => exact k31
          | 32, _ => exact k32
          | 33, _ => exact k33
          | 34, _ => exact k34
          | 35, _ => exact k35
          | 36, _ => exact k36
          | k + 37, h => exact absurd h (by omega))
        omega) (by decide) ?_
      exact kk mem a hC hM hG

