/-! ===== what the calls that may be undone mean: the answer and the row behind it ===== -/
theorem nI_neN {a : Nat} {x : Int32} (h : a < 2 ^ 31) (hx : x.toInt < 0) : ¬ nI a = x := fun q => by
  have := nI_toInt h
  rw [q] at this
  omega
theorem maxI_comm (a b : Int32) : maxI a b = maxI b a := by
  unfold maxI
  by_cases h : a < b
  · rw [if_pos h, if_neg (fun q => by rw [Int32.lt_iff_toInt_lt] at h q; omega)]
  · rw [if_neg h]
    by_cases h2 : b < a
    · rw [if_pos h2]
    · rw [if_neg h2]
      apply Int32.toInt_inj.mp
      rw [Int32.lt_iff_toInt_lt] at h h2
      omega
noncomputable def fAdd (z : ZZ) (rate like : Int32) : Int32 × ZZ := cif (like = -6 ∨ isP z like) (cif (nI 0 ≤ rate ∧ rate ≤ nI 9) (cif (ffr (fun r => rz z r 0) 5 0 < 5) (nI (ffr (fun r => rz z r 0) 5 0)) (-4), cif (ffr (fun r => rz z r 0) 5 0 < 5) (bgz z (ffr (fun r => rz z r 0) 5 0) (cif (like = -6) (nI 0) (posg z like)) rate) z) (-2, z)) (-1, z)
noncomputable def fDrop (z : ZZ) (r : Int32) : Int32 × ZZ := cif (isR z r) (nI (homz z r 8), rs (sndz z r 8) (nt r) 0 (nI 0)) (-1, z)
noncomputable def fRate (z : ZZ) (r rate : Int32) : Int32 × ZZ := cif (isR z r) (cif (nI 0 ≤ rate ∧ rate ≤ nI 9) (rz z (nt r) 2, rs z (nt r) 2 rate) (-2, z)) (-1, z)
noncomputable def fStop (z : ZZ) (r b : Int32) : Int32 × ZZ := cif (isR z r) (rz z (nt r) 3, rs z (nt r) 3 b) (-1, z)
noncomputable def fJump (z : ZZ) (r pos : Int32) : Int32 × ZZ := cif (isR z r) (cif (nI 0 ≤ pos ∧ pos ≤ rz z (nt r) 1) (rz z (nt r) 1, rs z (nt r) 1 pos) (-2, z)) (-1, z)
noncomputable def fTick (z : ZZ) (t : Int32) : Int32 × ZZ := cif (nI 1 ≤ t ∧ t ≤ nI 99) (nI (cau (tck z t 5) 5), tck z t 5) (-2, z)
noncomputable def fOpen (z : ZZ) (home opt bnd : Int32) : Int32 × ZZ := cif (isP z home) (cif ((nI 0 ≤ opt ∧ opt ≤ nI 15) ∧ (nI 0 ≤ bnd ∧ bnd ≤ nI 20)) (cif (ffr (fun s => sz z s 0) 8 0 < 8) (nI (ffr (fun s => sz z s 0) 8 0)) (-4), cif (ffr (fun s => sz z s 0) 8 0 < 8) (bsz z (ffr (fun s => sz z s 0) 8 0) home opt bnd) z) (-2, z)) (-1, z)
noncomputable def fClose (z : ZZ) (s : Int32) : Int32 × ZZ := cif (isS z s) (sz z (nt s) 5, ss z (nt s) 0 (nI 0)) (-1, z)
noncomputable def fMove (z : ZZ) (s home : Int32) : Int32 × ZZ := cif (isS z s ∧ isP z home) (sz z (nt s) 1, ss z (nt s) 1 home) (-1, z)
noncomputable def fChange (z : ZZ) (s opt bnd : Int32) : Int32 × ZZ := cif (isS z s) (cif ((nI 0 ≤ opt ∧ opt ≤ nI 15) ∧ (nI 0 ≤ bnd ∧ bnd ≤ nI 20)) (sz z (nt s) 2, ss (ss z (nt s) 2 opt) (nt s) 3 bnd) (-2, z)) (-1, z)
def hndz (z : ZZ) (s o : Nat) : Int32 := maxI (sz z o 5) (maxI (sz z s 4) (sz z s 5))
noncomputable def fHand (z : ZZ) (s o : Int32) : Int32 × ZZ := cif (isS z s ∧ isS z o) (cif (s = o) (-2, z) (hndz z (nt s) (nt o), ss z (nt o) 5 (hndz z (nt s) (nt o)))) (-1, z)
def wrz (z : ZZ) (s q : Nat) (val : Int32) (c : Nat) : ZZ := ss (ss (upd (wsx (wsx (wsx z c 0 (nI q)) c 1 val) c 2 (nI s)) 0 (nI (c + 1))) s 4 (nI (c + 1))) s (9 + q) (nI (c + 1))
noncomputable def fWrite (z : ZZ) (s key val : Int32) : Int32 × ZZ := cif (isS z s ∧ isK key) (cif (nI 0 ≤ val ∧ val ≤ nI 999) (cif (z 0 = nI 200) (-4, z) (nI (nt (z 0) + 1), wrz z (nt s) (nt key) val (nt (z 0)))) (-2, z)) (-1, z)
noncomputable def anp (z : ZZ) (s q p : Nat) (t : Int32) : Int32 × ZZ := (valz z (ansv z q p), ansz z s q p t)
noncomputable def rdz (z : ZZ) (i q : Nat) : Int32 × ZZ := cif (¬ waitg z i (nI q) (sz z i 1) = -6 ∧ waitg z i (nI q) (sz z i 1) ≤ sz z i 3) (anp (tck z (waitg z i (nI q) (sz z i 1)) 5) i q (nt (sz z i 1)) (waitg z i (nI q) (sz z i 1))) (cif (hasz z i (nI 8)) (anp z i q 9 (nI 0)) (-3, z))
noncomputable def fRead (z : ZZ) (s key : Int32) : Int32 × ZZ := cif (isS z s ∧ isK key) (rdz z (nt s) (nt key)) (-1, z)
noncomputable def fReadAt (z : ZZ) (s key place : Int32) : Int32 × ZZ := cif (isS z s ∧ isK key ∧ isP z place) (cif (waitg z (nt s) key place = 0) (anp z (nt s) (nt key) (nt place) (nI 0)) (-3, z)) (-1, z)
theorem posg_bad {z : ZZ} {c : Nat} {n : Int32} (hI : Inv z c) : posg z n = -1 ↔ ¬ isP z n := by
  constructor
  · intro h hp
    obtain ⟨p, rfl, hp2⟩ := isP_nat hp
    rw [posg_p hp2] at h
    obtain ⟨m, hm, e⟩ := posz_nat hI hp2
    rw [e] at h
    have := hI.1
    exact nI_neN (by omega) (by decide) h
  · intro h
    unfold posg
    rw [cif_neg (fun q => h (Or.inl q)), cif_neg (fun q => h (Or.inr q))]
theorem sndz_rs {z : ZZ} {pl v : Int32} {r w : Nat} (hr : r < 5) (hw : w < 5) : ∀ n, n ≤ 8 → sndz (rs z r w v) pl n = rs (sndz z pl n) r w v
  | 0, _ => rfl
  | n + 1, h => by
    unfold sndz
    rw [sndz_rs hr hw n (by omega), sz_rs hr hw, sz_rs hr hw]
    by_cases hc : sz (sndz z pl n) n 0 = 1 ∧ sz (sndz z pl n) n 1 = pl
    · rw [cif_pos hc, cif_pos hc]
      exact upd_comm (by omega)
    · rw [cif_neg hc, cif_neg hc]
theorem homz_rs {z : ZZ} {pl v : Int32} {r w : Nat} (hr : r < 5) (hw : w < 5) : ∀ n, homz (rs z r w v) pl n = homz z pl n
  | 0 => rfl
  | n + 1 => by
    unfold homz
    rw [homz_rs hr hw n, sz_rs hr hw, sz_rs hr hw]
theorem tck_sz {z : ZZ} {t : Int32} {s w : Nat} : ∀ n, n ≤ 5 → sz (tck z t n) s w = sz z s w
  | 0, _ => rfl
  | n + 1, h => by
    unfold tck cif
    split
    · rw [sz_rs (by omega) (by decide), tck_sz n (by omega)]
    · exact tck_sz n (by omega)
theorem tck_wz {z : ZZ} {t : Int32} {s w : Nat} : ∀ n, n ≤ 5 → wz (tck z t n) s w = wz z s w
  | 0, _ => rfl
  | n + 1, h => by
    unfold tck cif
    split
    · rw [wz_rs (by omega) (by decide), tck_wz n (by omega)]
    · exact tck_wz n (by omega)
/-- a replica behind some ticks: only its position may be another -/
theorem tck_rz1 {z : ZZ} {t : Int32} {r w : Nat} (hw : w < 5) (h1 : w ≠ 1) : ∀ n, rz (tck z t n) r w = rz z r w
  | 0 => rfl
  | n + 1 => by
    unfold tck cif
    split
    · rw [rz_rs (by decide) hw, if_neg (by omega), tck_rz1 hw h1 n]
    · exact tck_rz1 hw h1 n
theorem tck_pos {z : ZZ} {t : Int32} {r : Nat} : ∀ n, r < n → rz (tck z t n) r 1 = cif (rz z r 0 = 1) (behz z r t) (rz z r 1)
  | 0, h => absurd h (Nat.not_lt_zero _)
  | n + 1, h => by
    unfold tck
    rw [tck_rz1 (by decide) (by decide)]
    have hb : behz (tck z t n) n t = behz z n t := by
      unfold behz
      rw [tck_rz (by decide) n (Nat.le_refl n), tck_rz1 (by decide) (by decide), tck_rz1 (by decide) (by decide), tck_h (by decide)]
    by_cases e : r = n
    · subst e
      by_cases hc : rz z r 0 = 1
      · rw [cif_pos hc, cif_pos hc, rz_rs (by decide) (by decide), if_pos ⟨rfl, rfl⟩, hb]
      · rw [cif_neg hc, cif_neg hc, tck_rz (by decide) r (Nat.le_refl r)]
    · by_cases hc : rz z n 0 = 1
      · rw [cif_pos hc, rz_rs (by decide) (by decide), if_neg (by omega), tck_pos n (by omega)]
      · rw [cif_neg hc, tck_pos n (by omega)]
theorem behz_nat {z : ZZ} {c r t : Nat} (hI : Inv z c) (hr : r < 5) (ho : rz z r 0 = 1) (ht : t ≤ 99) : ∃ p, p ≤ c ∧ behz z r (nI t) = nI p := by
  obtain ⟨p, q, hp, hq, ep, eq, h3⟩ := hI.reps hr ho
  have hc := hI.1
  unfold behz
  rw [ep, eq, hI.2.1]
  rcases h3 with e | e
  · rw [cif_neg (by rw [e]; decide), xI_mul, xI_add]
    have hm : q * t ≤ 9 * 99 := Nat.mul_le_mul hq ht
    rw [minI_nI (by omega) (by omega)]
    exact ⟨_, Nat.min_le_right _ _, rfl⟩
  · rw [cif_pos e, Int32.add_zero, minI_nI (by omega) (by omega)]
    exact ⟨_, Nat.min_le_right _ _, rfl⟩
theorem isP_congr {z z' : ZZ} {n : Int32} (h : ∀ r, r < 5 → rz z' r 0 = rz z r 0) : isP z' n ↔ isP z n := by
  unfold isP isR
  constructor
  · rintro (e | ⟨i, hi, e, h1⟩)
    · exact Or.inl e
    · exact Or.inr ⟨i, hi, e, by rw [← h i hi]; exact h1⟩
  · rintro (e | ⟨i, hi, e, h1⟩)
    · exact Or.inl e
    · exact Or.inr ⟨i, hi, e, by rw [h i hi]; exact h1⟩
theorem Inv_tck {z : ZZ} {c t : Nat} (hI : Inv z c) (ht : t ≤ 99) : Inv (tck z (nI t) 5) c := by
  refine ⟨hI.1, by rw [tck_h (by decide)]; exact hI.2.1, fun r hr => ⟨by rw [tck_rz1 (by decide) (by decide)]; exact (hI.2.2.1 r hr).1, fun ho => ?_⟩, fun s hs => ?_⟩
  · rw [tck_rz1 (by decide) (by decide)] at ho
    obtain ⟨p, q, hp, hq, ep, eq, h3⟩ := hI.reps hr ho
    refine ⟨?_, ⟨q, hq, by rw [tck_rz1 (by decide) (by decide)]; exact eq⟩, by rw [tck_rz1 (by decide) (by decide)]; exact h3⟩
    rw [tck_pos 5 hr, cif_pos ho]
    exact behz_nat hI hr ho ht
  · simp only [tck_sz 5 (Nat.le_refl 5)]
    refine ⟨(hI.2.2.2 s hs).1, fun ho => ?_⟩
    obtain ⟨h1, h2⟩ := (hI.2.2.2 s hs).2 ho
    exact ⟨(isP_congr fun r hr => tck_rz1 (by decide) (by decide) 5).mpr h1, h2⟩
theorem tkz_nat {p n q : Nat} {st : Int32} (hp : p ≤ 200) (hn : n ≤ 200) (hq : q ≤ 9) : tkz p n st (nI q) = -6 ∨ ∃ w, w < 2 ^ 31 ∧ tkz p n st (nI q) = nI w := by
  unfold tkz
  by_cases h1 : n ≤ p
  · rw [cif_pos h1]; exact Or.inr ⟨0, by decide, rfl⟩
  · rw [cif_neg h1]
    by_cases h2 : st = 1 ∨ nI q = 0
    · rw [cif_pos h2]; exact Or.inl rfl
    · rw [cif_neg h2]
      have hq0 : q ≠ 0 := fun e => h2 (Or.inr (by rw [e]; rfl))
      rw [xI_add, xI_sub (by omega), xI_div (by omega) (by omega)]
      exact Or.inr ⟨_, Nat.lt_of_le_of_lt (Nat.div_le_self _ _) (by omega), rfl⟩
theorem waitg_nat {z : ZZ} {c s : Nat} {key n : Int32} (hI : Inv z c) (hs : s < 8) (ho : sz z s 0 = 1) : waitg z s key n = -6 ∨ ∃ w, w < 2 ^ 31 ∧ waitg z s key n = nI w := by
  unfold waitg
  by_cases h1 : n = nI 9
  · rw [cif_pos h1]; exact Or.inr ⟨0, by decide, rfl⟩
  · rw [cif_neg h1]
    by_cases h2 : isR z n
    · rw [cif_pos h2]
      obtain ⟨i, hi, rfl, h3⟩ := h2
      rw [nt_nI (by omega)]
      obtain ⟨p, q, hp, hq, ep, eq, -⟩ := hI.reps hi h3
      have hc := hI.1
      have hn := nedz_le (key := key) hI hs ho
      rw [ep, eq, nt_nI (by omega)]
      exact tkz_nat (by omega) (by omega) hq
    · rw [cif_neg h2]; exact Or.inl rfl
theorem Inv.home {z : ZZ} {c s : Nat} (hI : Inv z c) (hs : s < 8) (ho : sz z s 0 = 1) : ∃ p b, sz z s 1 = nI p ∧ isPn z p ∧ p < 10 ∧ b ≤ 20 ∧ sz z s 3 = nI b := by
  obtain ⟨h1, ⟨b, hb, eb⟩, -⟩ := (hI.2.2.2 s hs).2 ho
  obtain ⟨p, ep, hp⟩ := isP_nat h1
  exact ⟨p, b, ep, hp, by rcases hp with h | h <;> omega, hb, eb⟩

set_option maxRecDepth 100000 in
set_option maxHeartbeats 4000000 in
theorem c_X6_startReplica {E : EV} {l : Launch} {mem : MEM} {z : ZZ} (hz : RelS mem 0 z) {c : Nat} (hI : Inv z c) {rate like : Int32} : Ct E l yX6_startReplica (me_ws yX6_startReplica cX6_startReplica 4 (some .int)) 4 [rv (0, 0, 0), iv rate, iv like] mem (fun rr mm => ∃ xx : Int32, rr = iv xx ∧ PoI 0 mem (fAdd z rate like).2 (fAdd z rate like).1 xx mm) := by
  refine Ct.of (RC := RX6) (ls0 := [rv (0, 0, 0), iv rate, iv like, uv]) mi_yX6_startReplica (Nat.le_of_ble_eq_true rfl) rfl (fun X C hX => ?_)
  refine e_iload_n C dX6_startReplica_0 rfl ?_
  refine e_bipush (v := -6) C dX6_startReplica_1 (by decide) ?_
  refine e_icmp_ne (tgt := 10) C dX6_startReplica_3 (by decide) (fun h_3 => ?_) (fun h_3 => ?_)
  · skip
    refine e_aload_n C dX6_startReplica_10 rfl ?_
    refine e_getr C (ci := 6) 0 rfl rfl rfl (by decide) b_X6 rfl b_fl_X6_12 v0 rfl dX6_startReplica_11 ?_
    refine e_iload_n C dX6_startReplica_14 rfl ?_
    refine f_callVr (As := [_]) (ci := 4) C mi_yX4_positionOf mv_yX4_positionOf b_ml_X6_107 dX6_startReplica_15 rfl (c_X4_positionOf (by decide : 0 < 8) (by assumption)) (by decide) (v1 (by decide : 0 < 8)) rfl rfl (Nat.le_of_ble_eq_true rfl) ?_
    refine f_istore_n (ls1 := [_, _, _, _]) C dX6_startReplica_18 (by decide) rfl ?_
    refine e_iload_n C dX6_startReplica_19 rfl ?_
    refine e_iconst (v := -1) C dX6_startReplica_20 (by decide) ?_
    refine e_icmp_ne (tgt := 26) C dX6_startReplica_21 (by decide) (fun h_21 => ?_) (fun h_21 => ?_)
    · skip
      refine e_iload_n C dX6_startReplica_26 rfl ?_
      refine e_iconst (v := nI 0) C dX6_startReplica_27 (by decide) ?_
      refine e_bipush (v := nI 9) C dX6_startReplica_28 (by decide) ?_
      refine f_callSr (As := [_, _, _]) C mi_yX6_isWithin b_st_yX6_isWithin b_ml_X6_189 dX6_startReplica_30 rfl c_X6_isWithin (by decide) (Nat.le_of_ble_eq_true rfl) ?_
      refine f_if_ne (tgt := 39) C dX6_startReplica_33 (by decide) (fun h_33 => ?_) (fun h_33 => ?_)
      · skip
        refine e_aload_n C dX6_startReplica_39 rfl ?_
        refine e_getr C (ci := 6) 0 rfl rfl rfl (by decide) b_X6 rfl b_fl_X6_12 v0 rfl dX6_startReplica_40 ?_
        refine e_iload_n C dX6_startReplica_43 rfl ?_
        refine e_iload_n C dX6_startReplica_44 rfl ?_
        refine f_callVi (As := [_, _]) (ci := 4) C mi_yX4_takeFreeReplica mv_yX4_takeFreeReplica b_ml_X6_246 dX6_startReplica_45 rfl (c_X4_takeFreeReplica (by decide : 0 < 8) (by assumption)) (by decide) (v1 (by decide : 0 < 8)) rfl rfl (Nat.le_of_ble_eq_true rfl) (fun x_45 m_45 hc_45 => ?_)
        refine f_ii C hX dX6_startReplica_48 ⟨?_, ?_, hc_45.2.2⟩
        · rw [fAdd, cif_pos (Or.inr (Classical.byContradiction fun q => h_21 ((posg_bad hI).mpr q))), cif_pos h_33]
          exact hc_45.1
        · rw [fAdd, cif_pos (Or.inr (Classical.byContradiction fun q => h_21 ((posg_bad hI).mpr q))), cif_pos h_33]
          rw [cif_neg h_3]
          exact hc_45.2.1
      · skip
        refine e_bipush (v := -2) C dX6_startReplica_36 (by decide) ?_
        exact f_ii C hX dX6_startReplica_38 ⟨by rw [fAdd, cif_pos (Or.inr (Classical.byContradiction fun q => h_21 ((posg_bad hI).mpr q))), cif_neg h_33], by rw [fAdd, cif_pos (Or.inr (Classical.byContradiction fun q => h_21 ((posg_bad hI).mpr q))), cif_neg h_33]; exact hz, FrS.rfl'⟩
    · skip
      refine e_iconst (v := -1) C dX6_startReplica_24 (by decide) ?_
      exact f_ii C hX dX6_startReplica_25 ⟨by rw [fAdd, cif_neg (fun q => q.elim h_3 ((posg_bad hI).mp h_21))], by rw [fAdd, cif_neg (fun q => q.elim h_3 ((posg_bad hI).mp h_21))]; exact hz, FrS.rfl'⟩
  · skip
    refine e_iconst (v := nI 0) C dX6_startReplica_6 (by decide) ?_
    refine e_goto (tgt := 18) C dX6_startReplica_7 (by decide) ?_
    refine f_istore_n (ls1 := [_, _, _, _]) C dX6_startReplica_18 (by decide) rfl ?_
    refine e_iload_n C dX6_startReplica_19 rfl ?_
    refine e_iconst (v := -1) C dX6_startReplica_20 (by decide) ?_
    refine e_icmp_ne (tgt := 26) C dX6_startReplica_21 (by decide) (fun h_21 => ?_) (fun h_21 => ?_)
    · skip
      refine e_iload_n C dX6_startReplica_26 rfl ?_
      refine e_iconst (v := nI 0) C dX6_startReplica_27 (by decide) ?_
      refine e_bipush (v := nI 9) C dX6_startReplica_28 (by decide) ?_
      refine f_callSr (As := [_, _, _]) C mi_yX6_isWithin b_st_yX6_isWithin b_ml_X6_189 dX6_startReplica_30 rfl c_X6_isWithin (by decide) (Nat.le_of_ble_eq_true rfl) ?_
      refine f_if_ne (tgt := 39) C dX6_startReplica_33 (by decide) (fun h_33 => ?_) (fun h_33 => ?_)
      · skip
        refine e_aload_n C dX6_startReplica_39 rfl ?_
        refine e_getr C (ci := 6) 0 rfl rfl rfl (by decide) b_X6 rfl b_fl_X6_12 v0 rfl dX6_startReplica_40 ?_
        refine e_iload_n C dX6_startReplica_43 rfl ?_
        refine e_iload_n C dX6_startReplica_44 rfl ?_
        refine f_callVi (As := [_, _]) (ci := 4) C mi_yX4_takeFreeReplica mv_yX4_takeFreeReplica b_ml_X6_246 dX6_startReplica_45 rfl (c_X4_takeFreeReplica (by decide : 0 < 8) (by assumption)) (by decide) (v1 (by decide : 0 < 8)) rfl rfl (Nat.le_of_ble_eq_true rfl) (fun x_45 m_45 hc_45 => ?_)
        refine f_ii C hX dX6_startReplica_48 ⟨?_, ?_, hc_45.2.2⟩
        · rw [fAdd, cif_pos (Or.inl h_3), cif_pos h_33]
          exact hc_45.1
        · rw [fAdd, cif_pos (Or.inl h_3), cif_pos h_33]
          rw [cif_pos h_3]
          exact hc_45.2.1
      · skip
        refine e_bipush (v := -2) C dX6_startReplica_36 (by decide) ?_
        exact f_ii C hX dX6_startReplica_38 ⟨by rw [fAdd, cif_pos (Or.inl h_3), cif_neg h_33], by rw [fAdd, cif_pos (Or.inl h_3), cif_neg h_33]; exact hz, FrS.rfl'⟩
    · skip
      exact absurd h_21 (by decide)
set_option maxRecDepth 100000 in
set_option maxHeartbeats 4000000 in
theorem c_X6_removeReplica {E : EV} {l : Launch} {mem : MEM} {z : ZZ} (hz : RelS mem 0 z) {r : Int32} : Ct E l yX6_removeReplica (me_ws yX6_removeReplica cX6_removeReplica 3 (some .int)) 4 [rv (0, 0, 0), iv r] mem (fun rr mm => ∃ xx : Int32, rr = iv xx ∧ PoI 0 mem (fDrop z r).2 (fDrop z r).1 xx mm) := by
  refine Ct.of (RC := RX6) (ls0 := [rv (0, 0, 0), iv r, uv]) mi_yX6_removeReplica (Nat.le_of_ble_eq_true rfl) rfl (fun X C hX => ?_)
  refine e_aload_n C dX6_removeReplica_0 rfl ?_
  refine e_getr C (ci := 6) 0 rfl rfl rfl (by decide) b_X6 rfl b_fl_X6_12 v0 rfl dX6_removeReplica_1 ?_
  refine e_iload_n C dX6_removeReplica_4 rfl ?_
  refine f_callVo (As := [_]) (ci := 4) C mi_yX4_findReplica mv_yX4_findReplica b_ml_X6_69 dX6_removeReplica_5 rfl (c_X4_findReplica (by decide : 0 < 8) (by assumption)) (by decide) (v1 (by decide : 0 < 8)) rfl rfl (Nat.le_of_ble_eq_true rfl) (fun ri_5 hc_5 => ?_) (fun hc_5 => ?_)
  · skip
    obtain ⟨i_5, hi_5, rfl, ho_5, rfl⟩ := hc_5
    refine f_astore_n (ls1 := [_, _, _]) C dX6_removeReplica_8 (by decide) rfl ?_
    refine e_aload_n C dX6_removeReplica_9 rfl ?_
    refine e_ifnonnull (tgt := 15) C dX6_removeReplica_10 (by decide) ?_
    refine e_aload_n C dX6_removeReplica_15 rfl ?_
    refine e_iconst (v := nI 0) C dX6_removeReplica_16 (by decide) ?_
    refine e_puti C (ci := 2) 0 rfl rfl rfl (by decide) b_X2 rfl b_fl_X6_249 (v8 (by decide : 0 < 8) hi_5) tyX2 tyX2_ok nmX2 rfl (.inr ⟨rfl, .inl rfl⟩) rfl dX6_removeReplica_17 ?_
    refine e_aload_n C dX6_removeReplica_20 rfl ?_
    refine e_getr C (ci := 6) 0 rfl rfl rfl (by decide) b_X6 rfl b_fl_X6_12 v0 rfl dX6_removeReplica_21 ?_
    refine e_iload_n C dX6_removeReplica_24 rfl ?_
    refine f_callVi (As := [_]) (ci := 4) C mi_yX4_sendSessionsToPrimary mv_yX4_sendSessionsToPrimary b_ml_X6_252 dX6_removeReplica_25 rfl (c_X4_sendSessionsToPrimary (by decide) (hz.s_rep (v := nI 0) hi_5 (by decide))) (by decide) (v1 (by decide : 0 < 8)) rfl rfl (Nat.le_of_ble_eq_true rfl) (fun x_25 m_25 hc_25 => ?_)
    refine f_ii C hX dX6_removeReplica_28 ⟨?_, ?_, (FrS.one (blk_of (by decide) (by decide))).trans hc_25.2.2⟩
    · rw [fDrop, cif_pos ⟨_, hi_5, rfl, ho_5⟩, nt_nI (by omega)]
      rw [hc_25.1, homz_rs hi_5 (by decide)]
    · rw [fDrop, cif_pos ⟨_, hi_5, rfl, ho_5⟩, nt_nI (by omega)]
      have := hc_25.2.1
      rw [sndz_rs hi_5 (by decide) 8 (Nat.le_refl 8)] at this
      exact this
  · skip
    refine f_astore_nN (ls1 := [_, _, _]) C dX6_removeReplica_8 (by decide) rfl ?_
    refine e_aload_nN C dX6_removeReplica_9 rfl ?_
    refine e_ifnonnullN C dX6_removeReplica_10 ?_
    refine e_iconst (v := -1) C dX6_removeReplica_13 (by decide) ?_
    exact f_ii C hX dX6_removeReplica_14 ⟨by rw [fDrop, cif_neg hc_5], by rw [fDrop, cif_neg hc_5]; exact hz, FrS.rfl'⟩
set_option maxRecDepth 100000 in
set_option maxHeartbeats 4000000 in
theorem c_X6_changeRate {E : EV} {l : Launch} {mem : MEM} {z : ZZ} (hz : RelS mem 0 z) {r rate : Int32} : Ct E l yX6_changeRate (me_ws yX6_changeRate cX6_changeRate 5 (some .int)) 3 [rv (0, 0, 0), iv r, iv rate] mem (fun rr mm => ∃ xx : Int32, rr = iv xx ∧ PoI 0 mem (fRate z r rate).2 (fRate z r rate).1 xx mm) := by
  refine Ct.of (RC := RX6) (ls0 := [rv (0, 0, 0), iv r, iv rate, uv, uv]) mi_yX6_changeRate (Nat.le_of_ble_eq_true rfl) rfl (fun X C hX => ?_)
  refine e_aload_n C dX6_changeRate_0 rfl ?_
  refine e_getr C (ci := 6) 0 rfl rfl rfl (by decide) b_X6 rfl b_fl_X6_12 v0 rfl dX6_changeRate_1 ?_
  refine e_iload_n C dX6_changeRate_4 rfl ?_
  refine f_callVo (As := [_]) (ci := 4) C mi_yX4_findReplica mv_yX4_findReplica b_ml_X6_69 dX6_changeRate_5 rfl (c_X4_findReplica (by decide : 0 < 8) (by assumption)) (by decide) (v1 (by decide : 0 < 8)) rfl rfl (Nat.le_of_ble_eq_true rfl) (fun ri_5 hc_5 => ?_) (fun hc_5 => ?_)
  · skip
    obtain ⟨i_5, hi_5, rfl, ho_5, rfl⟩ := hc_5
    refine f_astore_n (ls1 := [_, _, _, _, _]) C dX6_changeRate_8 (by decide) rfl ?_
    refine e_aload_n C dX6_changeRate_9 rfl ?_
    refine e_ifnonnull (tgt := 15) C dX6_changeRate_10 (by decide) ?_
    refine e_iload_n C dX6_changeRate_15 rfl ?_
    refine e_iconst (v := nI 0) C dX6_changeRate_16 (by decide) ?_
    refine e_bipush (v := nI 9) C dX6_changeRate_17 (by decide) ?_
    refine f_callSr (As := [_, _, _]) C mi_yX6_isWithin b_st_yX6_isWithin b_ml_X6_189 dX6_changeRate_19 rfl c_X6_isWithin (by decide) (Nat.le_of_ble_eq_true rfl) ?_
    refine f_if_ne (tgt := 28) C dX6_changeRate_22 (by decide) (fun h_22 => ?_) (fun h_22 => ?_)
    · skip
      refine e_aload_n C dX6_changeRate_28 rfl ?_
      refine e_geti C (ci := 2) 2 rfl rfl rfl (by decide) b_X2 rfl b_fl_X6_73 (v8 (by decide : 0 < 8) hi_5) rfl dX6_changeRate_29 ?_
      refine f_istore (ls1 := [_, _, _, _, _]) C dX6_changeRate_32 (by decide) rfl ?_
      refine e_aload_n C dX6_changeRate_34 rfl ?_
      refine e_iload_n C dX6_changeRate_35 rfl ?_
      refine e_puti C (ci := 2) 2 rfl rfl rfl (by decide) b_X2 rfl b_fl_X6_73 (v8 (by decide : 0 < 8) hi_5) tyX2 tyX2_ok nmX2 rfl (.inl ⟨rfl, rfl⟩) rfl dX6_changeRate_36 ?_
      refine e_iload C dX6_changeRate_39 rfl ?_
      refine f_ii C hX dX6_changeRate_41 ⟨?_, ?_, (FrS.one (blk_of (by decide) (by decide)))⟩
      · rw [fRate, cif_pos ⟨_, hi_5, rfl, ho_5⟩, cif_pos h_22, nt_nI (by omega)]
        exact hz.rep hi_5 (by decide)
      · rw [fRate, cif_pos ⟨_, hi_5, rfl, ho_5⟩, cif_pos h_22, nt_nI (by omega)]
        exact hz.s_rep hi_5 (by decide)
    · skip
      refine e_bipush (v := -2) C dX6_changeRate_25 (by decide) ?_
      exact f_ii C hX dX6_changeRate_27 ⟨by rw [fRate, cif_pos ⟨_, hi_5, rfl, ho_5⟩, cif_neg h_22], by rw [fRate, cif_pos ⟨_, hi_5, rfl, ho_5⟩, cif_neg h_22]; exact hz, FrS.rfl'⟩
  · skip
    refine f_astore_nN (ls1 := [_, _, _, _, _]) C dX6_changeRate_8 (by decide) rfl ?_
    refine e_aload_nN C dX6_changeRate_9 rfl ?_
    refine e_ifnonnullN C dX6_changeRate_10 ?_
    refine e_iconst (v := -1) C dX6_changeRate_13 (by decide) ?_
    exact f_ii C hX dX6_changeRate_14 ⟨by rw [fRate, cif_neg hc_5], by rw [fRate, cif_neg hc_5]; exact hz, FrS.rfl'⟩
set_option maxRecDepth 100000 in
set_option maxHeartbeats 4000000 in
theorem c_X6_changeStopped {E : EV} {l : Launch} {mem : MEM} {z : ZZ} (hz : RelS mem 0 z) {r b : Int32} (hb : b = 0 ∨ b = 1) : Ct E l yX6_changeStopped (me_ws yX6_changeStopped cX6_changeStopped 5 (some .int)) 3 [rv (0, 0, 0), iv r, iv b] mem (fun rr mm => ∃ xx : Int32, rr = iv xx ∧ PoI 0 mem (fStop z r b).2 (fStop z r b).1 xx mm) := by
  refine Ct.of (RC := RX6) (ls0 := [rv (0, 0, 0), iv r, iv b, uv, uv]) mi_yX6_changeStopped (Nat.le_of_ble_eq_true rfl) rfl (fun X C hX => ?_)
  refine e_aload_n C dX6_changeStopped_0 rfl ?_
  refine e_getr C (ci := 6) 0 rfl rfl rfl (by decide) b_X6 rfl b_fl_X6_12 v0 rfl dX6_changeStopped_1 ?_
  refine e_iload_n C dX6_changeStopped_4 rfl ?_
  refine f_callVo (As := [_]) (ci := 4) C mi_yX4_findReplica mv_yX4_findReplica b_ml_X6_69 dX6_changeStopped_5 rfl (c_X4_findReplica (by decide : 0 < 8) (by assumption)) (by decide) (v1 (by decide : 0 < 8)) rfl rfl (Nat.le_of_ble_eq_true rfl) (fun ri_5 hc_5 => ?_) (fun hc_5 => ?_)
  · skip
    obtain ⟨i_5, hi_5, rfl, ho_5, rfl⟩ := hc_5
    refine f_astore_n (ls1 := [_, _, _, _, _]) C dX6_changeStopped_8 (by decide) rfl ?_
    refine e_aload_n C dX6_changeStopped_9 rfl ?_
    refine e_ifnonnull (tgt := 15) C dX6_changeStopped_10 (by decide) ?_
    refine e_aload_n C dX6_changeStopped_15 rfl ?_
    refine e_getz C (ci := 2) 3 rfl rfl rfl (by decide) b_X2 rfl b_fl_X6_79 (v8 (by decide : 0 < 8) hi_5) rfl rfl dX6_changeStopped_16 (fun hz_16 => ?_)
    refine e_if_eq (tgt := 26) C dX6_changeStopped_19 (by decide) (fun h_19 => ?_) (fun h_19 => ?_)
    · skip
      refine e_iconst (v := nI 0) C dX6_changeStopped_26 (by decide) ?_
      refine f_istore (ls1 := [_, _, _, _, _]) C dX6_changeStopped_27 (by decide) rfl ?_
      refine e_aload_n C dX6_changeStopped_29 rfl ?_
      refine e_iload_n C dX6_changeStopped_30 rfl ?_
      refine e_puti C (ci := 2) 3 rfl rfl rfl (by decide) b_X2 rfl b_fl_X6_79 (v8 (by decide : 0 < 8) hi_5) tyX2 tyX2_ok nmX2 rfl (.inr ⟨rfl, (by assumption)⟩) rfl dX6_changeStopped_31 ?_
      refine e_iload C dX6_changeStopped_34 rfl ?_
      refine f_ii C hX dX6_changeStopped_36 ⟨?_, ?_, (FrS.one (blk_of (by decide) (by decide)))⟩
      · rw [fStop, cif_pos ⟨_, hi_5, rfl, ho_5⟩, nt_nI (by omega)]
        rw [← hz.rep hi_5 (by decide), h_19]; rfl
      · rw [fStop, cif_pos ⟨_, hi_5, rfl, ho_5⟩, nt_nI (by omega)]
        exact hz.s_rep hi_5 (by decide)
    · skip
      refine e_iconst (v := nI 1) C dX6_changeStopped_22 (by decide) ?_
      refine e_goto (tgt := 27) C dX6_changeStopped_23 (by decide) ?_
      refine f_istore (ls1 := [_, _, _, _, _]) C dX6_changeStopped_27 (by decide) rfl ?_
      refine e_aload_n C dX6_changeStopped_29 rfl ?_
      refine e_iload_n C dX6_changeStopped_30 rfl ?_
      refine e_puti C (ci := 2) 3 rfl rfl rfl (by decide) b_X2 rfl b_fl_X6_79 (v8 (by decide : 0 < 8) hi_5) tyX2 tyX2_ok nmX2 rfl (.inr ⟨rfl, (by assumption)⟩) rfl dX6_changeStopped_31 ?_
      refine e_iload C dX6_changeStopped_34 rfl ?_
      refine f_ii C hX dX6_changeStopped_36 ⟨?_, ?_, (FrS.one (blk_of (by decide) (by decide)))⟩
      · rw [fStop, cif_pos ⟨_, hi_5, rfl, ho_5⟩, nt_nI (by omega)]
        rw [← hz.rep hi_5 (by decide), hz_16.resolve_left h_19]; rfl
      · rw [fStop, cif_pos ⟨_, hi_5, rfl, ho_5⟩, nt_nI (by omega)]
        exact hz.s_rep hi_5 (by decide)
  · skip
    refine f_astore_nN (ls1 := [_, _, _, _, _]) C dX6_changeStopped_8 (by decide) rfl ?_
    refine e_aload_nN C dX6_changeStopped_9 rfl ?_
    refine e_ifnonnullN C dX6_changeStopped_10 ?_
    refine e_iconst (v := -1) C dX6_changeStopped_13 (by decide) ?_
    exact f_ii C hX dX6_changeStopped_14 ⟨by rw [fStop, cif_neg hc_5], by rw [fStop, cif_neg hc_5]; exact hz, FrS.rfl'⟩
set_option maxRecDepth 100000 in
set_option maxHeartbeats 4000000 in
theorem c_X6_setBack {E : EV} {l : Launch} {mem : MEM} {z : ZZ} (hz : RelS mem 0 z) {r pos : Int32} : Ct E l yX6_setBack (me_ws yX6_setBack cX6_setBack 5 (some .int)) 3 [rv (0, 0, 0), iv r, iv pos] mem (fun rr mm => ∃ xx : Int32, rr = iv xx ∧ PoI 0 mem (fJump z r pos).2 (fJump z r pos).1 xx mm) := by
  refine Ct.of (RC := RX6) (ls0 := [rv (0, 0, 0), iv r, iv pos, uv, uv]) mi_yX6_setBack (Nat.le_of_ble_eq_true rfl) rfl (fun X C hX => ?_)
  refine e_aload_n C dX6_setBack_0 rfl ?_
  refine e_getr C (ci := 6) 0 rfl rfl rfl (by decide) b_X6 rfl b_fl_X6_12 v0 rfl dX6_setBack_1 ?_
  refine e_iload_n C dX6_setBack_4 rfl ?_
  refine f_callVo (As := [_]) (ci := 4) C mi_yX4_findReplica mv_yX4_findReplica b_ml_X6_69 dX6_setBack_5 rfl (c_X4_findReplica (by decide : 0 < 8) (by assumption)) (by decide) (v1 (by decide : 0 < 8)) rfl rfl (Nat.le_of_ble_eq_true rfl) (fun ri_5 hc_5 => ?_) (fun hc_5 => ?_)
  · skip
    obtain ⟨i_5, hi_5, rfl, ho_5, rfl⟩ := hc_5
    refine f_astore_n (ls1 := [_, _, _, _, _]) C dX6_setBack_8 (by decide) rfl ?_
    refine e_aload_n C dX6_setBack_9 rfl ?_
    refine e_ifnonnull (tgt := 15) C dX6_setBack_10 (by decide) ?_
    refine e_iload_n C dX6_setBack_15 rfl ?_
    refine e_iconst (v := nI 0) C dX6_setBack_16 (by decide) ?_
    refine e_aload_n C dX6_setBack_17 rfl ?_
    refine e_geti C (ci := 2) 1 rfl rfl rfl (by decide) b_X2 rfl b_fl_X6_255 (v8 (by decide : 0 < 8) hi_5) rfl dX6_setBack_18 ?_
    refine f_callSr (As := [_, _, _]) C mi_yX6_isWithin b_st_yX6_isWithin b_ml_X6_189 dX6_setBack_21 rfl c_X6_isWithin (by decide) (Nat.le_of_ble_eq_true rfl) ?_
    refine f_if_ne (tgt := 30) C dX6_setBack_24 (by decide) (fun h_24 => ?_) (fun h_24 => ?_)
    · skip
      rw [hz.rep hi_5 (by decide)] at h_24
      refine e_aload_n C dX6_setBack_30 rfl ?_
      refine e_geti C (ci := 2) 1 rfl rfl rfl (by decide) b_X2 rfl b_fl_X6_255 (v8 (by decide : 0 < 8) hi_5) rfl dX6_setBack_31 ?_
      refine f_istore (ls1 := [_, _, _, _, _]) C dX6_setBack_34 (by decide) rfl ?_
      refine e_aload_n C dX6_setBack_36 rfl ?_
      refine e_iload_n C dX6_setBack_37 rfl ?_
      refine e_puti C (ci := 2) 1 rfl rfl rfl (by decide) b_X2 rfl b_fl_X6_255 (v8 (by decide : 0 < 8) hi_5) tyX2 tyX2_ok nmX2 rfl (.inl ⟨rfl, rfl⟩) rfl dX6_setBack_38 ?_
      refine e_iload C dX6_setBack_41 rfl ?_
      refine f_ii C hX dX6_setBack_43 ⟨?_, ?_, (FrS.one (blk_of (by decide) (by decide)))⟩
      · rw [fJump, cif_pos ⟨_, hi_5, rfl, ho_5⟩, nt_nI (by omega), cif_pos h_24]
        exact hz.rep hi_5 (by decide)
      · rw [fJump, cif_pos ⟨_, hi_5, rfl, ho_5⟩, nt_nI (by omega), cif_pos h_24]
        exact hz.s_rep hi_5 (by decide)
    · skip
      rw [hz.rep hi_5 (by decide)] at h_24
      refine e_bipush (v := -2) C dX6_setBack_27 (by decide) ?_
      exact f_ii C hX dX6_setBack_29 ⟨by rw [fJump, cif_pos ⟨_, hi_5, rfl, ho_5⟩, nt_nI (by omega), cif_neg h_24], by rw [fJump, cif_pos ⟨_, hi_5, rfl, ho_5⟩, nt_nI (by omega), cif_neg h_24]; exact hz, FrS.rfl'⟩
  · skip
    refine f_astore_nN (ls1 := [_, _, _, _, _]) C dX6_setBack_8 (by decide) rfl ?_
    refine e_aload_nN C dX6_setBack_9 rfl ?_
    refine e_ifnonnullN C dX6_setBack_10 ?_
    refine e_iconst (v := -1) C dX6_setBack_13 (by decide) ?_
    exact f_ii C hX dX6_setBack_14 ⟨by rw [fJump, cif_neg hc_5], by rw [fJump, cif_neg hc_5]; exact hz, FrS.rfl'⟩
set_option maxRecDepth 100000 in
set_option maxHeartbeats 4000000 in
theorem c_X6_letTicksPass {E : EV} {l : Launch} {mem : MEM} {z : ZZ} (hz : RelS mem 0 z) {c : Nat} (hI : Inv z c) {t : Int32} : Ct E l yX6_letTicksPass (me_ws yX6_letTicksPass cX6_letTicksPass 2 (some .int)) 4 [rv (0, 0, 0), iv t] mem (fun rr mm => ∃ xx : Int32, rr = iv xx ∧ PoI 0 mem (fTick z t).2 (fTick z t).1 xx mm) := by
  refine Ct.of (RC := RX6) (ls0 := [rv (0, 0, 0), iv t]) mi_yX6_letTicksPass (Nat.le_of_ble_eq_true rfl) rfl (fun X C hX => ?_)
  refine e_iload_n C dX6_letTicksPass_0 rfl ?_
  refine e_iconst (v := nI 1) C dX6_letTicksPass_1 (by decide) ?_
  refine e_bipush (v := nI 99) C dX6_letTicksPass_2 (by decide) ?_
  refine f_callSr (As := [_, _, _]) C mi_yX6_isWithin b_st_yX6_isWithin b_ml_X6_189 dX6_letTicksPass_4 rfl c_X6_isWithin (by decide) (Nat.le_of_ble_eq_true rfl) ?_
  refine f_if_ne (tgt := 13) C dX6_letTicksPass_7 (by decide) (fun h_7 => ?_) (fun h_7 => ?_)
  · skip
    refine e_aload_n C dX6_letTicksPass_13 rfl ?_
    refine e_getr C (ci := 6) 0 rfl rfl rfl (by decide) b_X6 rfl b_fl_X6_12 v0 rfl dX6_letTicksPass_14 ?_
    refine e_iload_n C dX6_letTicksPass_17 rfl ?_
    refine f_callVu (As := [_]) (ci := 4) C mi_yX4_passTicks mv_yX4_passTicks b_ml_X6_258 dX6_letTicksPass_18 rfl (c_X4_passTicks (by decide : 0 < 8) (by assumption) (by assumption)) (by decide) (v1 (by decide : 0 < 8)) rfl rfl (Nat.le_of_ble_eq_true rfl) (fun m_18 hc_18 => ?_)
    refine e_aload_n C dX6_letTicksPass_21 rfl ?_
    refine e_getr C (ci := 6) 0 rfl rfl rfl (by decide) b_X6 rfl b_fl_X6_12 v0 rfl dX6_letTicksPass_22 ?_
    refine f_callVr (As := []) (ci := 4) C mi_yX4_countCaughtUp mv_yX4_countCaughtUp b_ml_X6_262 dX6_letTicksPass_25 rfl (c_X4_countCaughtUp (by decide) hc_18.1) (by decide) (v1 (by decide : 0 < 8)) rfl rfl (Nat.le_of_ble_eq_true rfl) ?_
    refine f_ii C hX dX6_letTicksPass_28 ⟨?_, ?_, hc_18.2⟩
    · rw [fTick, cif_pos h_7]
    · rw [fTick, cif_pos h_7]
      exact hc_18.1
  · skip
    refine e_bipush (v := -2) C dX6_letTicksPass_10 (by decide) ?_
    exact f_ii C hX dX6_letTicksPass_12 ⟨by rw [fTick, cif_neg h_7], by rw [fTick, cif_neg h_7]; exact hz, FrS.rfl'⟩
set_option maxRecDepth 100000 in
set_option maxHeartbeats 4000000 in
theorem c_X6_startSession {E : EV} {l : Launch} {mem : MEM} {z : ZZ} (hz : RelS mem 0 z) {home opt bnd : Int32} : Ct E l yX6_startSession (me_ws yX6_startSession cX6_startSession 4 (some .int)) 4 [rv (0, 0, 0), iv home, iv opt, iv bnd] mem (fun rr mm => ∃ xx : Int32, rr = iv xx ∧ PoI 0 mem (fOpen z home opt bnd).2 (fOpen z home opt bnd).1 xx mm) := by
  refine Ct.of (RC := RX6) (ls0 := [rv (0, 0, 0), iv home, iv opt, iv bnd]) mi_yX6_startSession (Nat.le_of_ble_eq_true rfl) rfl (fun X C hX => ?_)
  refine e_aload_n C dX6_startSession_0 rfl ?_
  refine e_getr C (ci := 6) 0 rfl rfl rfl (by decide) b_X6 rfl b_fl_X6_12 v0 rfl dX6_startSession_1 ?_
  refine e_iload_n C dX6_startSession_4 rfl ?_
  refine f_callVr (As := [_]) (ci := 4) C mi_yX4_hasPlace mv_yX4_hasPlace b_ml_X6_110 dX6_startSession_5 rfl (c_X4_hasPlace (by decide : 0 < 8) (by assumption)) (by decide) (v1 (by decide : 0 < 8)) rfl rfl (Nat.le_of_ble_eq_true rfl) ?_
  refine f_if_ne (tgt := 13) C dX6_startSession_8 (by decide) (fun h_8 => ?_) (fun h_8 => ?_)
  · skip
    refine e_iload_n C dX6_startSession_13 rfl ?_
    refine e_iconst (v := nI 0) C dX6_startSession_14 (by decide) ?_
    refine e_bipush (v := nI 15) C dX6_startSession_15 (by decide) ?_
    refine f_callSr (As := [_, _, _]) C mi_yX6_isWithin b_st_yX6_isWithin b_ml_X6_189 dX6_startSession_17 rfl c_X6_isWithin (by decide) (Nat.le_of_ble_eq_true rfl) ?_
    refine f_if_eq (tgt := 33) C dX6_startSession_20 (by decide) (fun h_20 => ?_) (fun h_20 => ?_)
    · skip
      refine e_bipush (v := -2) C dX6_startSession_33 (by decide) ?_
      exact f_ii C hX dX6_startSession_35 ⟨by rw [fOpen, cif_pos h_8, cif_neg (fun q => h_20 q.1)], by rw [fOpen, cif_pos h_8, cif_neg (fun q => h_20 q.1)]; exact hz, FrS.rfl'⟩
    · skip
      refine e_iload_n C dX6_startSession_23 rfl ?_
      refine e_iconst (v := nI 0) C dX6_startSession_24 (by decide) ?_
      refine e_bipush (v := nI 20) C dX6_startSession_25 (by decide) ?_
      refine f_callSr (As := [_, _, _]) C mi_yX6_isWithin b_st_yX6_isWithin b_ml_X6_189 dX6_startSession_27 rfl c_X6_isWithin (by decide) (Nat.le_of_ble_eq_true rfl) ?_
      refine f_if_ne (tgt := 36) C dX6_startSession_30 (by decide) (fun h_30 => ?_) (fun h_30 => ?_)
      · skip
        refine e_aload_n C dX6_startSession_36 rfl ?_
        refine e_getr C (ci := 6) 0 rfl rfl rfl (by decide) b_X6 rfl b_fl_X6_12 v0 rfl dX6_startSession_37 ?_
        refine e_iload_n C dX6_startSession_40 rfl ?_
        refine e_iload_n C dX6_startSession_41 rfl ?_
        refine e_iload_n C dX6_startSession_42 rfl ?_
        refine f_callVi (As := [_, _, _]) (ci := 4) C mi_yX4_takeFreeSession mv_yX4_takeFreeSession b_ml_X6_265 dX6_startSession_43 rfl (c_X4_takeFreeSession (by decide : 0 < 8) (by assumption)) (by decide) (v1 (by decide : 0 < 8)) rfl rfl (Nat.le_of_ble_eq_true rfl) (fun x_43 m_43 hc_43 => ?_)
        refine f_ii C hX dX6_startSession_46 ⟨?_, ?_, hc_43.2.2⟩
        · rw [fOpen, cif_pos h_8, cif_pos ⟨h_20, h_30⟩]
          exact hc_43.1
        · rw [fOpen, cif_pos h_8, cif_pos ⟨h_20, h_30⟩]
          exact hc_43.2.1
      · skip
        refine e_bipush (v := -2) C dX6_startSession_33 (by decide) ?_
        exact f_ii C hX dX6_startSession_35 ⟨by rw [fOpen, cif_pos h_8, cif_neg (fun q => h_30 q.2)], by rw [fOpen, cif_pos h_8, cif_neg (fun q => h_30 q.2)]; exact hz, FrS.rfl'⟩
  · skip
    refine e_iconst (v := -1) C dX6_startSession_11 (by decide) ?_
    exact f_ii C hX dX6_startSession_12 ⟨by rw [fOpen, cif_neg h_8], by rw [fOpen, cif_neg h_8]; exact hz, FrS.rfl'⟩
set_option maxRecDepth 100000 in
set_option maxHeartbeats 4000000 in
theorem c_X6_endSession {E : EV} {l : Launch} {mem : MEM} {z : ZZ} (hz : RelS mem 0 z) {s : Int32} : Ct E l yX6_endSession (me_ws yX6_endSession cX6_endSession 3 (some .int)) 3 [rv (0, 0, 0), iv s] mem (fun rr mm => ∃ xx : Int32, rr = iv xx ∧ PoI 0 mem (fClose z s).2 (fClose z s).1 xx mm) := by
  refine Ct.of (RC := RX6) (ls0 := [rv (0, 0, 0), iv s, uv]) mi_yX6_endSession (Nat.le_of_ble_eq_true rfl) rfl (fun X C hX => ?_)
  refine e_aload_n C dX6_endSession_0 rfl ?_
  refine e_getr C (ci := 6) 0 rfl rfl rfl (by decide) b_X6 rfl b_fl_X6_12 v0 rfl dX6_endSession_1 ?_
  refine e_iload_n C dX6_endSession_4 rfl ?_
  refine f_callVo (As := [_]) (ci := 4) C mi_yX4_findSession mv_yX4_findSession b_ml_X6_147 dX6_endSession_5 rfl (c_X4_findSession (by decide : 0 < 8) (by assumption)) (by decide) (v1 (by decide : 0 < 8)) rfl rfl (Nat.le_of_ble_eq_true rfl) (fun ri_5 hc_5 => ?_) (fun hc_5 => ?_)
  · skip
    obtain ⟨i_5, hi_5, rfl, ho_5, rfl⟩ := hc_5
    refine f_astore_n (ls1 := [_, _, _]) C dX6_endSession_8 (by decide) rfl ?_
    refine e_aload_n C dX6_endSession_9 rfl ?_
    refine e_ifnonnull (tgt := 15) C dX6_endSession_10 (by decide) ?_
    refine e_aload_n C dX6_endSession_15 rfl ?_
    refine e_iconst (v := nI 0) C dX6_endSession_16 (by decide) ?_
    refine e_puti C (ci := 3) 0 rfl rfl rfl (by decide) b_X3 rfl b_fl_X6_268 (v9 (by decide : 0 < 8) hi_5) tyX3 tyX3_ok nmX3 rfl (.inr ⟨rfl, .inl rfl⟩) rfl dX6_endSession_17 ?_
    refine e_aload_n C dX6_endSession_20 rfl ?_
    refine e_geti C (ci := 3) 5 rfl rfl rfl (by decide) b_X3 rfl b_fl_X6_165 (v9 (by decide : 0 < 8) hi_5) rfl dX6_endSession_21 ?_
    refine f_ii C hX dX6_endSession_24 ⟨?_, ?_, (FrS.one (blk_of (by decide) (by decide)))⟩
    · rw [fClose, cif_pos ⟨_, hi_5, rfl, ho_5⟩, nt_nI (by omega)]
      rw [← hz.ses hi_5 ho_5 (by decide)]; simp [up]
    · rw [fClose, cif_pos ⟨_, hi_5, rfl, ho_5⟩, nt_nI (by omega)]
      exact hz.s_close hi_5
  · skip
    refine f_astore_nN (ls1 := [_, _, _]) C dX6_endSession_8 (by decide) rfl ?_
    refine e_aload_nN C dX6_endSession_9 rfl ?_
    refine e_ifnonnullN C dX6_endSession_10 ?_
    refine e_iconst (v := -1) C dX6_endSession_13 (by decide) ?_
    exact f_ii C hX dX6_endSession_14 ⟨by rw [fClose, cif_neg hc_5], by rw [fClose, cif_neg hc_5]; exact hz, FrS.rfl'⟩
set_option maxRecDepth 100000 in
set_option maxHeartbeats 4000000 in
theorem c_X6_changeHome {E : EV} {l : Launch} {mem : MEM} {z : ZZ} (hz : RelS mem 0 z) {s home : Int32} : Ct E l yX6_changeHome (me_ws yX6_changeHome cX6_changeHome 5 (some .int)) 4 [rv (0, 0, 0), iv s, iv home] mem (fun rr mm => ∃ xx : Int32, rr = iv xx ∧ PoI 0 mem (fMove z s home).2 (fMove z s home).1 xx mm) := by
  refine Ct.of (RC := RX6) (ls0 := [rv (0, 0, 0), iv s, iv home, uv, uv]) mi_yX6_changeHome (Nat.le_of_ble_eq_true rfl) rfl (fun X C hX => ?_)
  refine e_aload_n C dX6_changeHome_0 rfl ?_
  refine e_getr C (ci := 6) 0 rfl rfl rfl (by decide) b_X6 rfl b_fl_X6_12 v0 rfl dX6_changeHome_1 ?_
  refine e_iload_n C dX6_changeHome_4 rfl ?_
  refine f_callVo (As := [_]) (ci := 4) C mi_yX4_findSession mv_yX4_findSession b_ml_X6_147 dX6_changeHome_5 rfl (c_X4_findSession (by decide : 0 < 8) (by assumption)) (by decide) (v1 (by decide : 0 < 8)) rfl rfl (Nat.le_of_ble_eq_true rfl) (fun ri_5 hc_5 => ?_) (fun hc_5 => ?_)
  · skip
    obtain ⟨i_5, hi_5, rfl, ho_5, rfl⟩ := hc_5
    refine f_astore_n (ls1 := [_, _, _, _, _]) C dX6_changeHome_8 (by decide) rfl ?_
    refine e_aload_n C dX6_changeHome_9 rfl ?_
    refine e_ifnull C dX6_changeHome_10 ?_
    refine e_aload_n C dX6_changeHome_13 rfl ?_
    refine e_getr C (ci := 6) 0 rfl rfl rfl (by decide) b_X6 rfl b_fl_X6_12 v0 rfl dX6_changeHome_14 ?_
    refine e_iload_n C dX6_changeHome_17 rfl ?_
    refine f_callVr (As := [_]) (ci := 4) C mi_yX4_hasPlace mv_yX4_hasPlace b_ml_X6_110 dX6_changeHome_18 rfl (c_X4_hasPlace (by decide : 0 < 8) (by assumption)) (by decide) (v1 (by decide : 0 < 8)) rfl rfl (Nat.le_of_ble_eq_true rfl) ?_
    refine f_if_ne (tgt := 26) C dX6_changeHome_21 (by decide) (fun h_21 => ?_) (fun h_21 => ?_)
    · skip
      refine e_aload_n C dX6_changeHome_26 rfl ?_
      refine e_geti C (ci := 3) 1 rfl rfl rfl (by decide) b_X3 rfl b_fl_X6_151 (v9 (by decide : 0 < 8) hi_5) rfl dX6_changeHome_27 ?_
      refine f_istore (ls1 := [_, _, _, _, _]) C dX6_changeHome_30 (by decide) rfl ?_
      refine e_aload_n C dX6_changeHome_32 rfl ?_
      refine e_iload_n C dX6_changeHome_33 rfl ?_
      refine e_puti C (ci := 3) 1 rfl rfl rfl (by decide) b_X3 rfl b_fl_X6_151 (v9 (by decide : 0 < 8) hi_5) tyX3 tyX3_ok nmX3 rfl (.inl ⟨rfl, rfl⟩) rfl dX6_changeHome_34 ?_
      refine e_iload C dX6_changeHome_37 rfl ?_
      refine f_ii C hX dX6_changeHome_39 ⟨?_, ?_, (FrS.one (blk_of (by decide) (by decide)))⟩
      · rw [fMove, cif_pos ⟨⟨_, hi_5, rfl, ho_5⟩, h_21⟩, nt_nI (by omega)]
        exact hz.ses hi_5 ho_5 (by decide)
      · rw [fMove, cif_pos ⟨⟨_, hi_5, rfl, ho_5⟩, h_21⟩, nt_nI (by omega)]
        exact hz.s_ses hi_5 (by decide) (by decide)
    · skip
      refine e_iconst (v := -1) C dX6_changeHome_24 (by decide) ?_
      exact f_ii C hX dX6_changeHome_25 ⟨by rw [fMove, cif_neg (fun q => h_21 q.2)], by rw [fMove, cif_neg (fun q => h_21 q.2)]; exact hz, FrS.rfl'⟩
  · skip
    refine f_astore_nN (ls1 := [_, _, _, _, _]) C dX6_changeHome_8 (by decide) rfl ?_
    refine e_aload_nN C dX6_changeHome_9 rfl ?_
    refine e_ifnullN (tgt := 24) C dX6_changeHome_10 (by decide) ?_
    refine e_iconst (v := -1) C dX6_changeHome_24 (by decide) ?_
    exact f_ii C hX dX6_changeHome_25 ⟨by rw [fMove, cif_neg (fun q => hc_5 q.1)], by rw [fMove, cif_neg (fun q => hc_5 q.1)]; exact hz, FrS.rfl'⟩
set_option maxRecDepth 100000 in
set_option maxHeartbeats 4000000 in
theorem c_X6_changeOptions {E : EV} {l : Launch} {mem : MEM} {z : ZZ} (hz : RelS mem 0 z) {s opt bnd : Int32} : Ct E l yX6_changeOptions (me_ws yX6_changeOptions cX6_changeOptions 6 (some .int)) 3 [rv (0, 0, 0), iv s, iv opt, iv bnd] mem (fun rr mm => ∃ xx : Int32, rr = iv xx ∧ PoI 0 mem (fChange z s opt bnd).2 (fChange z s opt bnd).1 xx mm) := by
  refine Ct.of (RC := RX6) (ls0 := [rv (0, 0, 0), iv s, iv opt, iv bnd, uv, uv]) mi_yX6_changeOptions (Nat.le_of_ble_eq_true rfl) rfl (fun X C hX => ?_)
  refine e_aload_n C dX6_changeOptions_0 rfl ?_
  refine e_getr C (ci := 6) 0 rfl rfl rfl (by decide) b_X6 rfl b_fl_X6_12 v0 rfl dX6_changeOptions_1 ?_
  refine e_iload_n C dX6_changeOptions_4 rfl ?_
  refine f_callVo (As := [_]) (ci := 4) C mi_yX4_findSession mv_yX4_findSession b_ml_X6_147 dX6_changeOptions_5 rfl (c_X4_findSession (by decide : 0 < 8) (by assumption)) (by decide) (v1 (by decide : 0 < 8)) rfl rfl (Nat.le_of_ble_eq_true rfl) (fun ri_5 hc_5 => ?_) (fun hc_5 => ?_)
  · skip
    obtain ⟨i_5, hi_5, rfl, ho_5, rfl⟩ := hc_5
    refine f_astore (ls1 := [_, _, _, _, _, _]) C dX6_changeOptions_8 (by decide) rfl ?_
    refine e_aload C dX6_changeOptions_10 rfl ?_
    refine e_ifnonnull (tgt := 17) C dX6_changeOptions_12 (by decide) ?_
    refine e_iload_n C dX6_changeOptions_17 rfl ?_
    refine e_iconst (v := nI 0) C dX6_changeOptions_18 (by decide) ?_
    refine e_bipush (v := nI 15) C dX6_changeOptions_19 (by decide) ?_
    refine f_callSr (As := [_, _, _]) C mi_yX6_isWithin b_st_yX6_isWithin b_ml_X6_189 dX6_changeOptions_21 rfl c_X6_isWithin (by decide) (Nat.le_of_ble_eq_true rfl) ?_
    refine f_if_eq (tgt := 37) C dX6_changeOptions_24 (by decide) (fun h_24 => ?_) (fun h_24 => ?_)
    · skip
      refine e_bipush (v := -2) C dX6_changeOptions_37 (by decide) ?_
      exact f_ii C hX dX6_changeOptions_39 ⟨by rw [fChange, cif_pos ⟨_, hi_5, rfl, ho_5⟩, cif_neg (fun q => h_24 q.1)], by rw [fChange, cif_pos ⟨_, hi_5, rfl, ho_5⟩, cif_neg (fun q => h_24 q.1)]; exact hz, FrS.rfl'⟩
    · skip
      refine e_iload_n C dX6_changeOptions_27 rfl ?_
      refine e_iconst (v := nI 0) C dX6_changeOptions_28 (by decide) ?_
      refine e_bipush (v := nI 20) C dX6_changeOptions_29 (by decide) ?_
      refine f_callSr (As := [_, _, _]) C mi_yX6_isWithin b_st_yX6_isWithin b_ml_X6_189 dX6_changeOptions_31 rfl c_X6_isWithin (by decide) (Nat.le_of_ble_eq_true rfl) ?_
      refine f_if_ne (tgt := 40) C dX6_changeOptions_34 (by decide) (fun h_34 => ?_) (fun h_34 => ?_)
      · skip
        refine e_aload C dX6_changeOptions_40 rfl ?_
        refine e_geti C (ci := 3) 2 rfl rfl rfl (by decide) b_X3 rfl b_fl_X6_156 (v9 (by decide : 0 < 8) hi_5) rfl dX6_changeOptions_42 ?_
        refine f_istore (ls1 := [_, _, _, _, _, _]) C dX6_changeOptions_45 (by decide) rfl ?_
        refine e_aload C dX6_changeOptions_47 rfl ?_
        refine e_iload_n C dX6_changeOptions_49 rfl ?_
        refine e_puti C (ci := 3) 2 rfl rfl rfl (by decide) b_X3 rfl b_fl_X6_156 (v9 (by decide : 0 < 8) hi_5) tyX3 tyX3_ok nmX3 rfl (.inl ⟨rfl, rfl⟩) rfl dX6_changeOptions_50 ?_
        refine e_aload C dX6_changeOptions_53 rfl ?_
        refine e_iload_n C dX6_changeOptions_55 rfl ?_
        refine e_puti C (ci := 3) 3 rfl rfl rfl (by decide) b_X3 rfl b_fl_X6_159 (v9 (by decide : 0 < 8) hi_5) tyX3 tyX3_ok nmX3 rfl (.inl ⟨rfl, rfl⟩) rfl dX6_changeOptions_56 ?_
        refine e_iload C dX6_changeOptions_59 rfl ?_
        refine f_ii C hX dX6_changeOptions_61 ⟨?_, ?_, (FrS.one (blk_of (by decide) (by decide))).set (blk_of (by decide) (by decide))⟩
        · rw [fChange, cif_pos ⟨_, hi_5, rfl, ho_5⟩, cif_pos ⟨h_24, h_34⟩, nt_nI (by omega)]
          exact hz.ses hi_5 ho_5 (by decide)
        · rw [fChange, cif_pos ⟨_, hi_5, rfl, ho_5⟩, cif_pos ⟨h_24, h_34⟩, nt_nI (by omega)]
          exact (hz.s_ses hi_5 (by decide) (by decide)).s_ses hi_5 (by decide) (by decide)
      · skip
        refine e_bipush (v := -2) C dX6_changeOptions_37 (by decide) ?_
        exact f_ii C hX dX6_changeOptions_39 ⟨by rw [fChange, cif_pos ⟨_, hi_5, rfl, ho_5⟩, cif_neg (fun q => h_34 q.2)], by rw [fChange, cif_pos ⟨_, hi_5, rfl, ho_5⟩, cif_neg (fun q => h_34 q.2)]; exact hz, FrS.rfl'⟩
  · skip
    refine f_astoreN (ls1 := [_, _, _, _, _, _]) C dX6_changeOptions_8 (by decide) rfl ?_
    refine e_aloadN C dX6_changeOptions_10 rfl ?_
    refine e_ifnonnullN C dX6_changeOptions_12 ?_
    refine e_iconst (v := -1) C dX6_changeOptions_15 (by decide) ?_
    exact f_ii C hX dX6_changeOptions_16 ⟨by rw [fChange, cif_neg hc_5], by rw [fChange, cif_neg hc_5]; exact hz, FrS.rfl'⟩
set_option maxRecDepth 100000 in
set_option maxHeartbeats 4000000 in
theorem c_X6_handMarks {E : EV} {l : Launch} {mem : MEM} {z : ZZ} (hz : RelS mem 0 z) {s o : Int32} : Ct E l yX6_handMarks (me_ws yX6_handMarks cX6_handMarks 5 (some .int)) 3 [rv (0, 0, 0), iv s, iv o] mem (fun rr mm => ∃ xx : Int32, rr = iv xx ∧ PoI 0 mem (fHand z s o).2 (fHand z s o).1 xx mm) := by
  refine Ct.of (RC := RX6) (ls0 := [rv (0, 0, 0), iv s, iv o, uv, uv]) mi_yX6_handMarks (Nat.le_of_ble_eq_true rfl) rfl (fun X C hX => ?_)
  refine e_aload_n C dX6_handMarks_0 rfl ?_
  refine e_getr C (ci := 6) 0 rfl rfl rfl (by decide) b_X6 rfl b_fl_X6_12 v0 rfl dX6_handMarks_1 ?_
  refine e_iload_n C dX6_handMarks_4 rfl ?_
  refine f_callVo (As := [_]) (ci := 4) C mi_yX4_findSession mv_yX4_findSession b_ml_X6_147 dX6_handMarks_5 rfl (c_X4_findSession (by decide : 0 < 8) (by assumption)) (by decide) (v1 (by decide : 0 < 8)) rfl rfl (Nat.le_of_ble_eq_true rfl) (fun ri_5 hc_5 => ?_) (fun hc_5 => ?_)
  · skip
    obtain ⟨i_5, hi_5, rfl, ho_5, rfl⟩ := hc_5
    refine f_astore_n (ls1 := [_, _, _, _, _]) C dX6_handMarks_8 (by decide) rfl ?_
    refine e_aload_n C dX6_handMarks_9 rfl ?_
    refine e_getr C (ci := 6) 0 rfl rfl rfl (by decide) b_X6 rfl b_fl_X6_12 v0 rfl dX6_handMarks_10 ?_
    refine e_iload_n C dX6_handMarks_13 rfl ?_
    refine f_callVo (As := [_]) (ci := 4) C mi_yX4_findSession mv_yX4_findSession b_ml_X6_147 dX6_handMarks_14 rfl (c_X4_findSession (by decide : 0 < 8) (by assumption)) (by decide) (v1 (by decide : 0 < 8)) rfl rfl (Nat.le_of_ble_eq_true rfl) (fun ri_14 hc_14 => ?_) (fun hc_14 => ?_)
    · skip
      obtain ⟨i_14, hi_14, rfl, ho_14, rfl⟩ := hc_14
      refine f_astore (ls1 := [_, _, _, _, _]) C dX6_handMarks_17 (by decide) rfl ?_
      refine e_aload_n C dX6_handMarks_19 rfl ?_
      refine e_ifnull C dX6_handMarks_20 ?_
      refine e_aload C dX6_handMarks_23 rfl ?_
      refine e_ifnonnull (tgt := 30) C dX6_handMarks_25 (by decide) ?_
      refine e_iload_n C dX6_handMarks_30 rfl ?_
      refine e_iload_n C dX6_handMarks_31 rfl ?_
      refine e_icmp_ne (tgt := 38) C dX6_handMarks_32 (by decide) (fun h_32 => ?_) (fun h_32 => ?_)
      · skip
        have nh_32 := xI_neD h_32
        refine e_aload C dX6_handMarks_38 rfl ?_
        refine e_aload C dX6_handMarks_40 rfl ?_
        refine e_geti C (ci := 3) 5 rfl rfl rfl (by decide) b_X3 rfl b_fl_X6_165 (v9 (by decide : 0 < 8) hi_14) rfl dX6_handMarks_42 ?_
        refine e_aload_n C dX6_handMarks_45 rfl ?_
        refine e_geti C (ci := 3) 4 rfl rfl rfl (by decide) b_X3 rfl b_fl_X6_162 (v9 (by decide : 0 < 8) hi_5) rfl dX6_handMarks_46 ?_
        refine e_aload_n C dX6_handMarks_49 rfl ?_
        refine e_geti C (ci := 3) 5 rfl rfl rfl (by decide) b_X3 rfl b_fl_X6_165 (v9 (by decide : 0 < 8) hi_5) rfl dX6_handMarks_50 ?_
        refine e_mmax C b_ml_X6_209 dX6_handMarks_53 (Nat.le_of_ble_eq_true rfl) (by decide) ?_
        refine e_mmax C b_ml_X6_209 dX6_handMarks_56 (Nat.le_of_ble_eq_true rfl) (by decide) ?_
        rw [hz.ses hi_5 ho_5 (by decide), hz.ses hi_5 ho_5 (by decide), hz.ses hi_14 ho_14 (by decide)]
        refine f_val (y := hndz z i_5 i_14) rfl ?_
        refine e_puti C (ci := 3) 5 rfl rfl rfl (by decide) b_X3 rfl b_fl_X6_165 (v9 (by decide : 0 < 8) hi_14) tyX3 tyX3_ok nmX3 rfl (.inl ⟨rfl, rfl⟩) rfl dX6_handMarks_59 ?_
        refine e_aload C dX6_handMarks_62 rfl ?_
        refine e_geti C (ci := 3) 5 rfl rfl rfl (by decide) b_X3 rfl b_fl_X6_165 (v9 (by decide : 0 < 8) hi_14) rfl dX6_handMarks_64 ?_
        refine f_ii C hX dX6_handMarks_67 ⟨?_, ?_, (FrS.one (blk_of (by decide) (by decide)))⟩
        · rw [fHand, cif_pos ⟨⟨_, hi_5, rfl, ho_5⟩, ⟨_, hi_14, rfl, ho_14⟩⟩, cif_neg h_32, nt_nI (by omega), nt_nI (by omega)]
          simp [up]
        · rw [fHand, cif_pos ⟨⟨_, hi_5, rfl, ho_5⟩, ⟨_, hi_14, rfl, ho_14⟩⟩, cif_neg h_32, nt_nI (by omega), nt_nI (by omega)]
          exact hz.s_ses hi_14 (by decide) (by decide)
      · skip
        have nh_32 := xI_inj (by omega) (by omega) h_32
        refine e_bipush (v := -2) C dX6_handMarks_35 (by decide) ?_
        exact f_ii C hX dX6_handMarks_37 ⟨by rw [fHand, cif_pos ⟨⟨_, hi_5, rfl, ho_5⟩, ⟨_, hi_14, rfl, ho_14⟩⟩, cif_pos h_32], by rw [fHand, cif_pos ⟨⟨_, hi_5, rfl, ho_5⟩, ⟨_, hi_14, rfl, ho_14⟩⟩, cif_pos h_32]; exact hz, FrS.rfl'⟩
    · skip
      refine f_astoreN (ls1 := [_, _, _, _, _]) C dX6_handMarks_17 (by decide) rfl ?_
      refine e_aload_n C dX6_handMarks_19 rfl ?_
      refine e_ifnull C dX6_handMarks_20 ?_
      refine e_aloadN C dX6_handMarks_23 rfl ?_
      refine e_ifnonnullN C dX6_handMarks_25 ?_
      refine e_iconst (v := -1) C dX6_handMarks_28 (by decide) ?_
      exact f_ii C hX dX6_handMarks_29 ⟨by rw [fHand, cif_neg (fun q => hc_14 q.2)], by rw [fHand, cif_neg (fun q => hc_14 q.2)]; exact hz, FrS.rfl'⟩
  · skip
    refine f_astore_nN (ls1 := [_, _, _, _, _]) C dX6_handMarks_8 (by decide) rfl ?_
    refine e_aload_n C dX6_handMarks_9 rfl ?_
    refine e_getr C (ci := 6) 0 rfl rfl rfl (by decide) b_X6 rfl b_fl_X6_12 v0 rfl dX6_handMarks_10 ?_
    refine e_iload_n C dX6_handMarks_13 rfl ?_
    refine f_callVo (As := [_]) (ci := 4) C mi_yX4_findSession mv_yX4_findSession b_ml_X6_147 dX6_handMarks_14 rfl (c_X4_findSession (by decide : 0 < 8) (by assumption)) (by decide) (v1 (by decide : 0 < 8)) rfl rfl (Nat.le_of_ble_eq_true rfl) (fun ri_14 hc_14 => ?_) (fun hc_14 => ?_)
    · skip
      obtain ⟨i_14, hi_14, rfl, ho_14, rfl⟩ := hc_14
      refine f_astore (ls1 := [_, _, _, _, _]) C dX6_handMarks_17 (by decide) rfl ?_
      refine e_aload_nN C dX6_handMarks_19 rfl ?_
      refine e_ifnullN (tgt := 28) C dX6_handMarks_20 (by decide) ?_
      refine e_iconst (v := -1) C dX6_handMarks_28 (by decide) ?_
      exact f_ii C hX dX6_handMarks_29 ⟨by rw [fHand, cif_neg (fun q => hc_5 q.1)], by rw [fHand, cif_neg (fun q => hc_5 q.1)]; exact hz, FrS.rfl'⟩
    · skip
      refine f_astoreN (ls1 := [_, _, _, _, _]) C dX6_handMarks_17 (by decide) rfl ?_
      refine e_aload_nN C dX6_handMarks_19 rfl ?_
      refine e_ifnullN (tgt := 28) C dX6_handMarks_20 (by decide) ?_
      refine e_iconst (v := -1) C dX6_handMarks_28 (by decide) ?_
      exact f_ii C hX dX6_handMarks_29 ⟨by rw [fHand, cif_neg (fun q => hc_5 q.1)], by rw [fHand, cif_neg (fun q => hc_5 q.1)]; exact hz, FrS.rfl'⟩
set_option maxRecDepth 100000 in
set_option maxHeartbeats 4000000 in
theorem c_X6_addWrite_a {E : EV} {l : Launch} {mem : MEM} {z : ZZ} (hz : RelS mem 0 z) {c : Nat} (hI : Inv z c) (hcc : c < 200) {s key val : Int32} : Ct E l yX6_addWrite (me_ws yX6_addWrite cX6_addWrite 6 (some .int)) 4 [rv (0, 0, 0), iv s, iv key, iv val] mem (fun rr mm => ∃ xx : Int32, rr = iv xx ∧ PoI 0 mem (fWrite z s key val).2 (fWrite z s key val).1 xx mm) := by
  refine Ct.of (RC := RX6) (ls0 := [rv (0, 0, 0), iv s, iv key, iv val, uv, uv]) mi_yX6_addWrite (Nat.le_of_ble_eq_true rfl) rfl (fun X C hX => ?_)
  refine e_aload_n C dX6_addWrite_0 rfl ?_
  refine e_getr C (ci := 6) 0 rfl rfl rfl (by decide) b_X6 rfl b_fl_X6_12 v0 rfl dX6_addWrite_1 ?_
  refine e_iload_n C dX6_addWrite_4 rfl ?_
  refine f_callVo (As := [_]) (ci := 4) C mi_yX4_findSession mv_yX4_findSession b_ml_X6_147 dX6_addWrite_5 rfl (c_X4_findSession (by decide : 0 < 8) (by assumption)) (by decide) (v1 (by decide : 0 < 8)) rfl rfl (Nat.le_of_ble_eq_true rfl) (fun ri_5 hc_5 => ?_) (fun hc_5 => ?_)
  · skip
    obtain ⟨i_5, hi_5, rfl, ho_5, rfl⟩ := hc_5
    refine f_astore (ls1 := [_, _, _, _, _, _]) C dX6_addWrite_8 (by decide) rfl ?_
    refine e_aload C dX6_addWrite_10 rfl ?_
    refine e_ifnull C dX6_addWrite_12 ?_
    refine e_iload_n C dX6_addWrite_15 rfl ?_
    refine f_callSr (As := [_]) C mi_yX6_isKey b_st_yX6_isKey b_ml_X6_113 dX6_addWrite_16 rfl c_X6_isKey (by decide) (Nat.le_of_ble_eq_true rfl) ?_
    refine f_if_ne (tgt := 24) C dX6_addWrite_19 (by decide) (fun h_19 => ?_) (fun h_19 => ?_)
    · skip
      refine e_iload_n C dX6_addWrite_24 rfl ?_
      refine e_iconst (v := nI 0) C dX6_addWrite_25 (by decide) ?_
      refine e_sipush (v := nI 999) C dX6_addWrite_26 (by decide) ?_
      refine f_callSr (As := [_, _, _]) C mi_yX6_isWithin b_st_yX6_isWithin b_ml_X6_189 dX6_addWrite_29 rfl c_X6_isWithin (by decide) (Nat.le_of_ble_eq_true rfl) ?_
      refine f_if_ne (tgt := 38) C dX6_addWrite_32 (by decide) (fun h_32 => ?_) (fun h_32 => ?_)
      · skip
        have h19 := h_19
        obtain ⟨q, hq, rfl⟩ := isK_nat h_19
        refine e_aload_n C dX6_addWrite_38 rfl ?_
        refine e_getr C (ci := 6) 0 rfl rfl rfl (by decide) b_X6 rfl b_fl_X6_12 v0 rfl dX6_addWrite_39 ?_
        refine e_getr C (ci := 4) 0 rfl rfl rfl (by decide) b_X4 rfl b_fl_X6_85 (v1 (by decide : 0 < 8)) rfl dX6_addWrite_42 ?_
        refine e_iload_n C dX6_addWrite_45 rfl ?_
        refine e_iload_n C dX6_addWrite_46 rfl ?_
        refine e_iload_n C dX6_addWrite_47 rfl ?_
        refine f_callVr (As := [_, _, _]) (ci := 1) C mi_yX1_add mv_yX1_add b_ml_X6_271 dX6_addWrite_48 rfl (c_X1_add (by decide) (by rw [hz.cnt]; exact hI.2.1) hcc) (by decide) (v2 (by decide : 0 < 8)) rfl rfl (Nat.le_of_ble_eq_true rfl) ?_
        refine f_istore (ls1 := [_, _, _, _, _, _]) C dX6_addWrite_51 (by decide) rfl ?_
        refine e_iload C dX6_addWrite_53 rfl ?_
        refine e_bipush (v := -4) C dX6_addWrite_55 (by decide) ?_
        refine e_icmp_eq (tgt := 68) C dX6_addWrite_57 (by decide) (fun h_57 => ?_) (fun h_57 => ?_)
        · skip
          exact absurd h_57 (nI_neN (by omega) (by decide))
        · skip
          refine e_aload C dX6_addWrite_60 rfl ?_
          refine e_iload_n C dX6_addWrite_62 rfl ?_
          refine e_iload C dX6_addWrite_63 rfl ?_
          refine f_callVv (As := [_, _]) (ci := 3) C mi_yX3_noteWrite mv_yX3_noteWrite b_ml_X6_273 dX6_addWrite_65 rfl (c_X3_noteWrite (by decide) hi_5 hq) (by decide) (v9 (by decide : 0 < 8) hi_5) rfl rfl (Nat.le_of_ble_eq_true rfl) ?_
          refine e_iload C dX6_addWrite_68 rfl ?_
          refine f_ii C hX dX6_addWrite_70 ⟨?_, ?_, ((((((FrS.one (blk_of (by decide) (by decide))).set (blk_of (by decide) (by decide))).set (blk_of (by decide) (by decide))).set (blk_of (by decide) (by decide))).set (blk_of (by decide) (by decide))).set (blk_of (by decide) (by decide)))⟩
          · rw [fWrite, cif_pos ⟨⟨_, hi_5, rfl, ho_5⟩, h19⟩, cif_pos h_32, cif_neg (by rw [hI.2.1]; exact xI_ne (by omega) (by decide) (by omega))]
            rw [hI.2.1, nt_nI (by omega)]
          · rw [fWrite, cif_pos ⟨⟨_, hi_5, rfl, ho_5⟩, h19⟩, cif_pos h_32, cif_neg (by rw [hI.2.1]; exact xI_ne (by omega) (by decide) (by omega))]
            rw [hI.2.1, nt_nI (by omega), nt_nI (by omega), nt_nI (by omega)]
            exact (((hz.s_log hcc).s_cnt).s_ses hi_5 (by decide) (by decide)).s_wro hi_5 hq
      · skip
        refine e_bipush (v := -2) C dX6_addWrite_35 (by decide) ?_
        exact f_ii C hX dX6_addWrite_37 ⟨by rw [fWrite, cif_pos ⟨⟨_, hi_5, rfl, ho_5⟩, h_19⟩, cif_neg h_32], by rw [fWrite, cif_pos ⟨⟨_, hi_5, rfl, ho_5⟩, h_19⟩, cif_neg h_32]; exact hz, FrS.rfl'⟩
    · skip
      refine e_iconst (v := -1) C dX6_addWrite_22 (by decide) ?_
      exact f_ii C hX dX6_addWrite_23 ⟨by rw [fWrite, cif_neg (fun q => h_19 q.2)], by rw [fWrite, cif_neg (fun q => h_19 q.2)]; exact hz, FrS.rfl'⟩
  · skip
    refine f_astoreN (ls1 := [_, _, _, _, _, _]) C dX6_addWrite_8 (by decide) rfl ?_
    refine e_aloadN C dX6_addWrite_10 rfl ?_
    refine e_ifnullN (tgt := 22) C dX6_addWrite_12 (by decide) ?_
    refine e_iconst (v := -1) C dX6_addWrite_22 (by decide) ?_
    exact f_ii C hX dX6_addWrite_23 ⟨by rw [fWrite, cif_neg (fun q => hc_5 q.1)], by rw [fWrite, cif_neg (fun q => hc_5 q.1)]; exact hz, FrS.rfl'⟩
set_option maxRecDepth 100000 in
set_option maxHeartbeats 4000000 in
theorem c_X6_addWrite_b {E : EV} {l : Launch} {mem : MEM} {z : ZZ} (hz : RelS mem 0 z) {c : Nat} (hI : Inv z c) (hcc : c = 200) {s key val : Int32} : Ct E l yX6_addWrite (me_ws yX6_addWrite cX6_addWrite 6 (some .int)) 4 [rv (0, 0, 0), iv s, iv key, iv val] mem (fun rr mm => ∃ xx : Int32, rr = iv xx ∧ PoI 0 mem (fWrite z s key val).2 (fWrite z s key val).1 xx mm) := by
  refine Ct.of (RC := RX6) (ls0 := [rv (0, 0, 0), iv s, iv key, iv val, uv, uv]) mi_yX6_addWrite (Nat.le_of_ble_eq_true rfl) rfl (fun X C hX => ?_)
  refine e_aload_n C dX6_addWrite_0 rfl ?_
  refine e_getr C (ci := 6) 0 rfl rfl rfl (by decide) b_X6 rfl b_fl_X6_12 v0 rfl dX6_addWrite_1 ?_
  refine e_iload_n C dX6_addWrite_4 rfl ?_
  refine f_callVo (As := [_]) (ci := 4) C mi_yX4_findSession mv_yX4_findSession b_ml_X6_147 dX6_addWrite_5 rfl (c_X4_findSession (by decide : 0 < 8) (by assumption)) (by decide) (v1 (by decide : 0 < 8)) rfl rfl (Nat.le_of_ble_eq_true rfl) (fun ri_5 hc_5 => ?_) (fun hc_5 => ?_)
  · skip
    obtain ⟨i_5, hi_5, rfl, ho_5, rfl⟩ := hc_5
    refine f_astore (ls1 := [_, _, _, _, _, _]) C dX6_addWrite_8 (by decide) rfl ?_
    refine e_aload C dX6_addWrite_10 rfl ?_
    refine e_ifnull C dX6_addWrite_12 ?_
    refine e_iload_n C dX6_addWrite_15 rfl ?_
    refine f_callSr (As := [_]) C mi_yX6_isKey b_st_yX6_isKey b_ml_X6_113 dX6_addWrite_16 rfl c_X6_isKey (by decide) (Nat.le_of_ble_eq_true rfl) ?_
    refine f_if_ne (tgt := 24) C dX6_addWrite_19 (by decide) (fun h_19 => ?_) (fun h_19 => ?_)
    · skip
      refine e_iload_n C dX6_addWrite_24 rfl ?_
      refine e_iconst (v := nI 0) C dX6_addWrite_25 (by decide) ?_
      refine e_sipush (v := nI 999) C dX6_addWrite_26 (by decide) ?_
      refine f_callSr (As := [_, _, _]) C mi_yX6_isWithin b_st_yX6_isWithin b_ml_X6_189 dX6_addWrite_29 rfl c_X6_isWithin (by decide) (Nat.le_of_ble_eq_true rfl) ?_
      refine f_if_ne (tgt := 38) C dX6_addWrite_32 (by decide) (fun h_32 => ?_) (fun h_32 => ?_)
      · skip
        have h19 := h_19
        obtain ⟨q, hq, rfl⟩ := isK_nat h_19
        refine e_aload_n C dX6_addWrite_38 rfl ?_
        refine e_getr C (ci := 6) 0 rfl rfl rfl (by decide) b_X6 rfl b_fl_X6_12 v0 rfl dX6_addWrite_39 ?_
        refine e_getr C (ci := 4) 0 rfl rfl rfl (by decide) b_X4 rfl b_fl_X6_85 (v1 (by decide : 0 < 8)) rfl dX6_addWrite_42 ?_
        refine e_iload_n C dX6_addWrite_45 rfl ?_
        refine e_iload_n C dX6_addWrite_46 rfl ?_
        refine e_iload_n C dX6_addWrite_47 rfl ?_
        refine f_callVr (As := [_, _, _]) (ci := 1) C mi_yX1_add mv_yX1_add b_ml_X6_271 dX6_addWrite_48 rfl (c_X1_add_full (by decide) (by rw [hz.cnt, hI.2.1, hcc])) (by decide) (v2 (by decide : 0 < 8)) rfl rfl (Nat.le_of_ble_eq_true rfl) ?_
        refine f_istore (ls1 := [_, _, _, _, _, _]) C dX6_addWrite_51 (by decide) rfl ?_
        refine e_iload C dX6_addWrite_53 rfl ?_
        refine e_bipush (v := -4) C dX6_addWrite_55 (by decide) ?_
        refine e_icmp_eq (tgt := 68) C dX6_addWrite_57 (by decide) (fun h_57 => ?_) (fun h_57 => ?_)
        · skip
          refine e_iload C dX6_addWrite_68 rfl ?_
          exact f_ii C hX dX6_addWrite_70 ⟨by rw [fWrite, cif_pos ⟨⟨_, hi_5, rfl, ho_5⟩, h19⟩, cif_pos h_32, cif_pos (by rw [hI.2.1, hcc])], by rw [fWrite, cif_pos ⟨⟨_, hi_5, rfl, ho_5⟩, h19⟩, cif_pos h_32, cif_pos (by rw [hI.2.1, hcc])]; exact hz, FrS.rfl'⟩
        · skip
          exact absurd rfl h_57
      · skip
        refine e_bipush (v := -2) C dX6_addWrite_35 (by decide) ?_
        exact f_ii C hX dX6_addWrite_37 ⟨by rw [fWrite, cif_pos ⟨⟨_, hi_5, rfl, ho_5⟩, h_19⟩, cif_neg h_32], by rw [fWrite, cif_pos ⟨⟨_, hi_5, rfl, ho_5⟩, h_19⟩, cif_neg h_32]; exact hz, FrS.rfl'⟩
    · skip
      refine e_iconst (v := -1) C dX6_addWrite_22 (by decide) ?_
      exact f_ii C hX dX6_addWrite_23 ⟨by rw [fWrite, cif_neg (fun q => h_19 q.2)], by rw [fWrite, cif_neg (fun q => h_19 q.2)]; exact hz, FrS.rfl'⟩
  · skip
    refine f_astoreN (ls1 := [_, _, _, _, _, _]) C dX6_addWrite_8 (by decide) rfl ?_
    refine e_aloadN C dX6_addWrite_10 rfl ?_
    refine e_ifnullN (tgt := 22) C dX6_addWrite_12 (by decide) ?_
    refine e_iconst (v := -1) C dX6_addWrite_22 (by decide) ?_
    exact f_ii C hX dX6_addWrite_23 ⟨by rw [fWrite, cif_neg (fun q => hc_5 q.1)], by rw [fWrite, cif_neg (fun q => hc_5 q.1)]; exact hz, FrS.rfl'⟩
theorem c_X6_addWrite {E : EV} {l : Launch} {mem : MEM} {z : ZZ} (hz : RelS mem 0 z) {c : Nat} (hI : Inv z c) {s key val : Int32} : Ct E l yX6_addWrite (me_ws yX6_addWrite cX6_addWrite 6 (some .int)) 4 [rv (0, 0, 0), iv s, iv key, iv val] mem (fun rr mm => ∃ xx : Int32, rr = iv xx ∧ PoI 0 mem (fWrite z s key val).2 (fWrite z s key val).1 xx mm) := by
  by_cases h : c < 200
  · exact c_X6_addWrite_a hz hI h
  · exact c_X6_addWrite_b hz hI (by have := hI.1; omega)
set_option maxRecDepth 100000 in
set_option maxHeartbeats 4000000 in
theorem c_X6_readAtHome {E : EV} {l : Launch} {mem : MEM} {z : ZZ} (hz : RelS mem 0 z) {c : Nat} (hI : Inv z c) {s key : Int32} : Ct E l yX6_readAtHome (me_ws yX6_readAtHome cX6_readAtHome 5 (some .int)) 6 [rv (0, 0, 0), iv s, iv key] mem (fun rr mm => ∃ xx : Int32, rr = iv xx ∧ PoI 0 mem (fRead z s key).2 (fRead z s key).1 xx mm) := by
  refine Ct.of (RC := RX6) (ls0 := [rv (0, 0, 0), iv s, iv key, uv, uv]) mi_yX6_readAtHome (Nat.le_of_ble_eq_true rfl) rfl (fun X C hX => ?_)
  refine e_aload_n C dX6_readAtHome_0 rfl ?_
  refine e_getr C (ci := 6) 0 rfl rfl rfl (by decide) b_X6 rfl b_fl_X6_12 v0 rfl dX6_readAtHome_1 ?_
  refine e_iload_n C dX6_readAtHome_4 rfl ?_
  refine f_callVo (As := [_]) (ci := 4) C mi_yX4_findSession mv_yX4_findSession b_ml_X6_147 dX6_readAtHome_5 rfl (c_X4_findSession (by decide : 0 < 8) (by assumption)) (by decide) (v1 (by decide : 0 < 8)) rfl rfl (Nat.le_of_ble_eq_true rfl) (fun ri_5 hc_5 => ?_) (fun hc_5 => ?_)
  · skip
    obtain ⟨i_5, hi_5, rfl, ho_5, rfl⟩ := hc_5
    refine f_astore_n (ls1 := [_, _, _, _, _]) C dX6_readAtHome_8 (by decide) rfl ?_
    refine e_aload_n C dX6_readAtHome_9 rfl ?_
    refine e_ifnull C dX6_readAtHome_10 ?_
    refine e_iload_n C dX6_readAtHome_13 rfl ?_
    refine f_callSr (As := [_]) C mi_yX6_isKey b_st_yX6_isKey b_ml_X6_113 dX6_readAtHome_14 rfl c_X6_isKey (by decide) (Nat.le_of_ble_eq_true rfl) ?_
    refine f_if_ne (tgt := 22) C dX6_readAtHome_17 (by decide) (fun h_17 => ?_) (fun h_17 => ?_)
    · skip
      have h17 := h_17
      obtain ⟨q, hq, rfl⟩ := isK_nat h_17
      obtain ⟨p, b, ep, hp, hpl, hb, eb⟩ := hI.home hi_5 ho_5
      have hc200 := hI.1
      refine e_aload_n C dX6_readAtHome_22 rfl ?_
      refine e_getr C (ci := 6) 0 rfl rfl rfl (by decide) b_X6 rfl b_fl_X6_12 v0 rfl dX6_readAtHome_23 ?_
      refine e_aload_n C dX6_readAtHome_26 rfl ?_
      refine e_iload_n C dX6_readAtHome_27 rfl ?_
      refine e_aload_n C dX6_readAtHome_28 rfl ?_
      refine e_geti C (ci := 3) 1 rfl rfl rfl (by decide) b_X3 rfl b_fl_X6_151 (v9 (by decide : 0 < 8) hi_5) rfl dX6_readAtHome_29 ?_
      refine f_val (y := nI (p)) (by rw [hz.ses hi_5 ho_5 (by decide)]; exact ep) ?_
      refine f_callVr (As := [_, _, _]) (ci := 4) C mi_yX4_waitOf mv_yX4_waitOf b_ml_X6_202 dX6_readAtHome_32 rfl (c_X4_waitOf (by decide : 0 < 8) (by assumption) (by assumption) (by assumption) (by assumption)) (by decide) (v1 (by decide : 0 < 8)) rfl rfl (Nat.le_of_ble_eq_true rfl) ?_
      refine f_istore (ls1 := [_, _, _, _, _]) C dX6_readAtHome_35 (by decide) rfl ?_
      refine e_iload C dX6_readAtHome_37 rfl ?_
      refine e_bipush (v := -6) C dX6_readAtHome_39 (by decide) ?_
      refine e_icmp_eq (tgt := 78) C dX6_readAtHome_41 (by decide) (fun h_41 => ?_) (fun h_41 => ?_)
      · skip
        have hcd : ¬ (¬ waitg z i_5 (nI q) (sz z i_5 1) = -6 ∧ waitg z i_5 (nI q) (sz z i_5 1) ≤ sz z i_5 3) := fun r => r.1 (by rw [ep]; exact h_41)
        refine e_aload_n C dX6_readAtHome_78 rfl ?_
        refine e_bipush (v := nI 8) C dX6_readAtHome_79 (by decide) ?_
        refine f_callVr (As := [_]) (ci := 3) C mi_yX3_has mv_yX3_has b_ml_X6_281 dX6_readAtHome_81 rfl (c_X3_has (by decide) hi_5) (by decide) (v9 (by decide : 0 < 8) hi_5) rfl rfl (Nat.le_of_ble_eq_true rfl) ?_
        refine f_if_eq (tgt := 102) C dX6_readAtHome_84 (by decide) (fun h_84 => ?_) (fun h_84 => ?_)
        · skip
          refine e_bipush (v := -3) C dX6_readAtHome_102 (by decide) ?_
          exact f_ii C hX dX6_readAtHome_104 ⟨by rw [fRead, cif_pos ⟨⟨_, hi_5, rfl, ho_5⟩, h17⟩, nt_nI (by omega), nt_nI (by omega), rdz, cif_neg hcd, cif_neg (show ¬ hasz z i_5 (nI 8) from (by rw [hz.ses hi_5 ho_5 (by decide)] at h_84; exact h_84))], by rw [fRead, cif_pos ⟨⟨_, hi_5, rfl, ho_5⟩, h17⟩, nt_nI (by omega), nt_nI (by omega), rdz, cif_neg hcd, cif_neg (show ¬ hasz z i_5 (nI 8) from (by rw [hz.ses hi_5 ho_5 (by decide)] at h_84; exact h_84))]; exact hz, FrS.rfl'⟩
        · skip
          refine e_aload_n C dX6_readAtHome_87 rfl ?_
          refine e_getr C (ci := 6) 0 rfl rfl rfl (by decide) b_X6 rfl b_fl_X6_12 v0 rfl dX6_readAtHome_88 ?_
          refine e_aload_n C dX6_readAtHome_91 rfl ?_
          refine e_iload_n C dX6_readAtHome_92 rfl ?_
          refine e_bipush (v := nI 9) C dX6_readAtHome_93 (by decide) ?_
          refine e_iconst (v := nI 0) C dX6_readAtHome_95 (by decide) ?_
          refine f_callVi (As := [_, _, _, _]) (ci := 4) C mi_yX4_answer mv_yX4_answer b_ml_X6_277 dX6_readAtHome_96 rfl (c_X4_answer (by decide) hz hI hi_5 ho_5 hq (Or.inl rfl)) (by decide) (v1 (by decide : 0 < 8)) rfl rfl (Nat.le_of_ble_eq_true rfl) (fun x_96 m_96 hc_96 => ?_)
          refine e_goto (tgt := 104) C dX6_readAtHome_99 (by decide) ?_
          exact f_ii C hX dX6_readAtHome_104 ⟨by rw [fRead, cif_pos ⟨⟨_, hi_5, rfl, ho_5⟩, h17⟩, nt_nI (by omega), nt_nI (by omega), rdz, cif_neg hcd, cif_pos (show hasz z i_5 (nI 8) from (by rw [hz.ses hi_5 ho_5 (by decide)] at h_84; exact h_84))]; exact hc_96.1, by rw [fRead, cif_pos ⟨⟨_, hi_5, rfl, ho_5⟩, h17⟩, nt_nI (by omega), nt_nI (by omega), rdz, cif_neg hcd, cif_pos (show hasz z i_5 (nI 8) from (by rw [hz.ses hi_5 ho_5 (by decide)] at h_84; exact h_84))]; exact hc_96.2.1, hc_96.2.2⟩
      · skip
        refine e_iload C dX6_readAtHome_44 rfl ?_
        refine e_aload_n C dX6_readAtHome_46 rfl ?_
        refine e_geti C (ci := 3) 3 rfl rfl rfl (by decide) b_X3 rfl b_fl_X6_159 (v9 (by decide : 0 < 8) hi_5) rfl dX6_readAtHome_47 ?_
        refine e_icmp_gt (tgt := 78) C dX6_readAtHome_50 (by decide) (fun h_50 => ?_) (fun h_50 => ?_)
        · skip
          have hcd : ¬ (¬ waitg z i_5 (nI q) (sz z i_5 1) = -6 ∧ waitg z i_5 (nI q) (sz z i_5 1) ≤ sz z i_5 3) := fun r => by
            have r2 := r.2
            rw [ep, ← hz.ses hi_5 ho_5 (by decide)] at r2
            rw [Int32.lt_iff_toInt_lt] at h_50
            rw [Int32.le_iff_toInt_le] at r2
            omega
          refine e_aload_n C dX6_readAtHome_78 rfl ?_
          refine e_bipush (v := nI 8) C dX6_readAtHome_79 (by decide) ?_
          refine f_callVr (As := [_]) (ci := 3) C mi_yX3_has mv_yX3_has b_ml_X6_281 dX6_readAtHome_81 rfl (c_X3_has (by decide) hi_5) (by decide) (v9 (by decide : 0 < 8) hi_5) rfl rfl (Nat.le_of_ble_eq_true rfl) ?_
          refine f_if_eq (tgt := 102) C dX6_readAtHome_84 (by decide) (fun h_84 => ?_) (fun h_84 => ?_)
          · skip
            refine e_bipush (v := -3) C dX6_readAtHome_102 (by decide) ?_
            exact f_ii C hX dX6_readAtHome_104 ⟨by rw [fRead, cif_pos ⟨⟨_, hi_5, rfl, ho_5⟩, h17⟩, nt_nI (by omega), nt_nI (by omega), rdz, cif_neg hcd, cif_neg (show ¬ hasz z i_5 (nI 8) from (by rw [hz.ses hi_5 ho_5 (by decide)] at h_84; exact h_84))], by rw [fRead, cif_pos ⟨⟨_, hi_5, rfl, ho_5⟩, h17⟩, nt_nI (by omega), nt_nI (by omega), rdz, cif_neg hcd, cif_neg (show ¬ hasz z i_5 (nI 8) from (by rw [hz.ses hi_5 ho_5 (by decide)] at h_84; exact h_84))]; exact hz, FrS.rfl'⟩
          · skip
            refine e_aload_n C dX6_readAtHome_87 rfl ?_
            refine e_getr C (ci := 6) 0 rfl rfl rfl (by decide) b_X6 rfl b_fl_X6_12 v0 rfl dX6_readAtHome_88 ?_
            refine e_aload_n C dX6_readAtHome_91 rfl ?_
            refine e_iload_n C dX6_readAtHome_92 rfl ?_
            refine e_bipush (v := nI 9) C dX6_readAtHome_93 (by decide) ?_
            refine e_iconst (v := nI 0) C dX6_readAtHome_95 (by decide) ?_
            refine f_callVi (As := [_, _, _, _]) (ci := 4) C mi_yX4_answer mv_yX4_answer b_ml_X6_277 dX6_readAtHome_96 rfl (c_X4_answer (by decide) hz hI hi_5 ho_5 hq (Or.inl rfl)) (by decide) (v1 (by decide : 0 < 8)) rfl rfl (Nat.le_of_ble_eq_true rfl) (fun x_96 m_96 hc_96 => ?_)
            refine e_goto (tgt := 104) C dX6_readAtHome_99 (by decide) ?_
            exact f_ii C hX dX6_readAtHome_104 ⟨by rw [fRead, cif_pos ⟨⟨_, hi_5, rfl, ho_5⟩, h17⟩, nt_nI (by omega), nt_nI (by omega), rdz, cif_neg hcd, cif_pos (show hasz z i_5 (nI 8) from (by rw [hz.ses hi_5 ho_5 (by decide)] at h_84; exact h_84))]; exact hc_96.1, by rw [fRead, cif_pos ⟨⟨_, hi_5, rfl, ho_5⟩, h17⟩, nt_nI (by omega), nt_nI (by omega), rdz, cif_neg hcd, cif_pos (show hasz z i_5 (nI 8) from (by rw [hz.ses hi_5 ho_5 (by decide)] at h_84; exact h_84))]; exact hc_96.2.1, hc_96.2.2⟩
        · skip
          have hcd : ¬ waitg z i_5 (nI q) (sz z i_5 1) = -6 ∧ waitg z i_5 (nI q) (sz z i_5 1) ≤ sz z i_5 3 := ⟨by rw [ep]; exact h_41, by
            rw [ep, ← hz.ses hi_5 ho_5 (by decide)]
            rw [Int32.lt_iff_toInt_lt] at h_50
            rw [Int32.le_iff_toInt_le]
            omega⟩
          obtain ⟨w, hw, ew⟩ := (waitg_nat (key := nI q) (n := nI p) hI hi_5 ho_5).resolve_left h_41
          have hwb : w ≤ b := by
            have h2 := hcd.2
            rw [ep, ew, eb] at h2
            exact xI_leD hw (by omega) h2
          rw [ew]
          refine e_aload_n C dX6_readAtHome_53 rfl ?_
          refine e_getr C (ci := 6) 0 rfl rfl rfl (by decide) b_X6 rfl b_fl_X6_12 v0 rfl dX6_readAtHome_54 ?_
          refine e_iload C dX6_readAtHome_57 rfl ?_
          refine f_callVu (As := [_]) (ci := 4) C mi_yX4_passTicks mv_yX4_passTicks b_ml_X6_258 dX6_readAtHome_59 rfl (c_X4_passTicks (by decide : 0 < 8) (by assumption) (by assumption)) (by decide) (v1 (by decide : 0 < 8)) rfl rfl (Nat.le_of_ble_eq_true rfl) (fun m_59 hc_59 => ?_)
          obtain ⟨hr1, hf1⟩ := hc_59
          have hI1 := Inv_tck (t := w) hI (by omega)
          have ho1 : sz (tck z (nI w) 5) i_5 0 = 1 := by rw [tck_sz 5 (Nat.le_refl 5)]; exact ho_5
          have hp1 : isPn (tck z (nI w) 5) p := by
            rcases hp with h | ⟨h1, h2⟩
            · exact Or.inl h
            · exact Or.inr ⟨h1, by rw [tck_rz1 (by decide) (by decide)]; exact h2⟩
          refine e_aload_n C dX6_readAtHome_62 rfl ?_
          refine e_getr C (ci := 6) 0 rfl rfl rfl (by decide) b_X6 rfl b_fl_X6_12 v0 rfl dX6_readAtHome_63 ?_
          refine e_aload_n C dX6_readAtHome_66 rfl ?_
          refine e_iload_n C dX6_readAtHome_67 rfl ?_
          refine e_aload_n C dX6_readAtHome_68 rfl ?_
          refine e_geti C (ci := 3) 1 rfl rfl rfl (by decide) b_X3 rfl b_fl_X6_151 (v9 (by decide : 0 < 8) hi_5) rfl dX6_readAtHome_69 ?_
          refine f_val (y := nI (p)) (by rw [hr1.ses hi_5 ho1 (by decide), tck_sz 5 (Nat.le_refl 5)]; exact ep) ?_
          refine e_iload C dX6_readAtHome_72 rfl ?_
          refine f_callVi (As := [_, _, _, _]) (ci := 4) C mi_yX4_answer mv_yX4_answer b_ml_X6_277 dX6_readAtHome_74 rfl (c_X4_answer (by decide) hr1 hI1 hi_5 ho1 hq hp1) (by decide) (v1 (by decide : 0 < 8)) rfl rfl (Nat.le_of_ble_eq_true rfl) (fun x_74 m_74 hc_74 => ?_)
          refine f_ii C hX dX6_readAtHome_77 ⟨?_, ?_, hf1.trans hc_74.2.2⟩
          · rw [fRead, cif_pos ⟨⟨_, hi_5, rfl, ho_5⟩, h17⟩, nt_nI (by omega), nt_nI (by omega), rdz, cif_pos hcd, ep, ew, nt_nI (by omega)]
            exact hc_74.1
          · rw [fRead, cif_pos ⟨⟨_, hi_5, rfl, ho_5⟩, h17⟩, nt_nI (by omega), nt_nI (by omega), rdz, cif_pos hcd, ep, ew, nt_nI (by omega)]
            exact hc_74.2.1
    · skip
      refine e_iconst (v := -1) C dX6_readAtHome_20 (by decide) ?_
      exact f_ii C hX dX6_readAtHome_21 ⟨by rw [fRead, cif_neg (fun q => h_17 q.2)], by rw [fRead, cif_neg (fun q => h_17 q.2)]; exact hz, FrS.rfl'⟩
  · skip
    refine f_astore_nN (ls1 := [_, _, _, _, _]) C dX6_readAtHome_8 (by decide) rfl ?_
    refine e_aload_nN C dX6_readAtHome_9 rfl ?_
    refine e_ifnullN (tgt := 20) C dX6_readAtHome_10 (by decide) ?_
    refine e_iconst (v := -1) C dX6_readAtHome_20 (by decide) ?_
    exact f_ii C hX dX6_readAtHome_21 ⟨by rw [fRead, cif_neg (fun q => hc_5 q.1)], by rw [fRead, cif_neg (fun q => hc_5 q.1)]; exact hz, FrS.rfl'⟩
set_option maxRecDepth 100000 in
set_option maxHeartbeats 4000000 in
theorem c_X6_readAtPlace {E : EV} {l : Launch} {mem : MEM} {z : ZZ} (hz : RelS mem 0 z) {c : Nat} (hI : Inv z c) {s key place : Int32} : Ct E l yX6_readAtPlace (me_ws yX6_readAtPlace cX6_readAtPlace 5 (some .int)) 6 [rv (0, 0, 0), iv s, iv key, iv place] mem (fun rr mm => ∃ xx : Int32, rr = iv xx ∧ PoI 0 mem (fReadAt z s key place).2 (fReadAt z s key place).1 xx mm) := by
  refine Ct.of (RC := RX6) (ls0 := [rv (0, 0, 0), iv s, iv key, iv place, uv]) mi_yX6_readAtPlace (Nat.le_of_ble_eq_true rfl) rfl (fun X C hX => ?_)
  refine e_aload_n C dX6_readAtPlace_0 rfl ?_
  refine e_getr C (ci := 6) 0 rfl rfl rfl (by decide) b_X6 rfl b_fl_X6_12 v0 rfl dX6_readAtPlace_1 ?_
  refine e_iload_n C dX6_readAtPlace_4 rfl ?_
  refine f_callVo (As := [_]) (ci := 4) C mi_yX4_findSession mv_yX4_findSession b_ml_X6_147 dX6_readAtPlace_5 rfl (c_X4_findSession (by decide : 0 < 8) (by assumption)) (by decide) (v1 (by decide : 0 < 8)) rfl rfl (Nat.le_of_ble_eq_true rfl) (fun ri_5 hc_5 => ?_) (fun hc_5 => ?_)
  · skip
    obtain ⟨i_5, hi_5, rfl, ho_5, rfl⟩ := hc_5
    refine f_astore (ls1 := [_, _, _, _, _]) C dX6_readAtPlace_8 (by decide) rfl ?_
    refine e_aload C dX6_readAtPlace_10 rfl ?_
    refine e_ifnull C dX6_readAtPlace_12 ?_
    refine e_iload_n C dX6_readAtPlace_15 rfl ?_
    refine f_callSr (As := [_]) C mi_yX6_isKey b_st_yX6_isKey b_ml_X6_113 dX6_readAtPlace_16 rfl c_X6_isKey (by decide) (Nat.le_of_ble_eq_true rfl) ?_
    refine f_if_eq (tgt := 33) C dX6_readAtPlace_19 (by decide) (fun h_19 => ?_) (fun h_19 => ?_)
    · skip
      refine e_iconst (v := -1) C dX6_readAtPlace_33 (by decide) ?_
      exact f_ii C hX dX6_readAtPlace_34 ⟨by rw [fReadAt, cif_neg (fun q => h_19 q.2.1)], by rw [fReadAt, cif_neg (fun q => h_19 q.2.1)]; exact hz, FrS.rfl'⟩
    · skip
      refine e_aload_n C dX6_readAtPlace_22 rfl ?_
      refine e_getr C (ci := 6) 0 rfl rfl rfl (by decide) b_X6 rfl b_fl_X6_12 v0 rfl dX6_readAtPlace_23 ?_
      refine e_iload_n C dX6_readAtPlace_26 rfl ?_
      refine f_callVr (As := [_]) (ci := 4) C mi_yX4_hasPlace mv_yX4_hasPlace b_ml_X6_110 dX6_readAtPlace_27 rfl (c_X4_hasPlace (by decide : 0 < 8) (by assumption)) (by decide) (v1 (by decide : 0 < 8)) rfl rfl (Nat.le_of_ble_eq_true rfl) ?_
      refine f_if_ne (tgt := 35) C dX6_readAtPlace_30 (by decide) (fun h_30 => ?_) (fun h_30 => ?_)
      · skip
        have h19 := h_19
        have h30 := h_30
        obtain ⟨q, hq, rfl⟩ := isK_nat h_19
        obtain ⟨p, rfl, hp⟩ := isP_nat h_30
        have hpl : p < 10 := by rcases hp with h | h <;> omega
        refine e_aload_n C dX6_readAtPlace_35 rfl ?_
        refine e_getr C (ci := 6) 0 rfl rfl rfl (by decide) b_X6 rfl b_fl_X6_12 v0 rfl dX6_readAtPlace_36 ?_
        refine e_aload C dX6_readAtPlace_39 rfl ?_
        refine e_iload_n C dX6_readAtPlace_41 rfl ?_
        refine e_iload_n C dX6_readAtPlace_42 rfl ?_
        refine f_callVr (As := [_, _, _]) (ci := 4) C mi_yX4_waitOf mv_yX4_waitOf b_ml_X6_202 dX6_readAtPlace_43 rfl (c_X4_waitOf (by decide : 0 < 8) (by assumption) (by assumption) (by assumption) (by assumption)) (by decide) (v1 (by decide : 0 < 8)) rfl rfl (Nat.le_of_ble_eq_true rfl) ?_
        refine e_if_ne (tgt := 64) C dX6_readAtPlace_46 (by decide) (fun h_46 => ?_) (fun h_46 => ?_)
        · skip
          refine e_bipush (v := -3) C dX6_readAtPlace_64 (by decide) ?_
          exact f_ii C hX dX6_readAtPlace_66 ⟨by rw [fReadAt, cif_pos ⟨⟨_, hi_5, rfl, ho_5⟩, h19, h30⟩, nt_nI (by omega), cif_neg h_46], by rw [fReadAt, cif_pos ⟨⟨_, hi_5, rfl, ho_5⟩, h19, h30⟩, nt_nI (by omega), cif_neg h_46]; exact hz, FrS.rfl'⟩
        · skip
          refine e_aload_n C dX6_readAtPlace_49 rfl ?_
          refine e_getr C (ci := 6) 0 rfl rfl rfl (by decide) b_X6 rfl b_fl_X6_12 v0 rfl dX6_readAtPlace_50 ?_
          refine e_aload C dX6_readAtPlace_53 rfl ?_
          refine e_iload_n C dX6_readAtPlace_55 rfl ?_
          refine e_iload_n C dX6_readAtPlace_56 rfl ?_
          refine e_iconst (v := nI 0) C dX6_readAtPlace_57 (by decide) ?_
          refine f_callVi (As := [_, _, _, _]) (ci := 4) C mi_yX4_answer mv_yX4_answer b_ml_X6_277 dX6_readAtPlace_58 rfl (c_X4_answer (by decide) hz hI hi_5 ho_5 hq hp) (by decide) (v1 (by decide : 0 < 8)) rfl rfl (Nat.le_of_ble_eq_true rfl) (fun x_58 m_58 hc_58 => ?_)
          refine e_goto (tgt := 66) C dX6_readAtPlace_61 (by decide) ?_
          exact f_ii C hX dX6_readAtPlace_66 ⟨by rw [fReadAt, cif_pos ⟨⟨_, hi_5, rfl, ho_5⟩, h19, h30⟩, nt_nI (by omega), cif_pos h_46, nt_nI (by omega), nt_nI (by omega)]; exact hc_58.1, by rw [fReadAt, cif_pos ⟨⟨_, hi_5, rfl, ho_5⟩, h19, h30⟩, nt_nI (by omega), cif_pos h_46, nt_nI (by omega), nt_nI (by omega)]; exact hc_58.2.1, hc_58.2.2⟩
      · skip
        refine e_iconst (v := -1) C dX6_readAtPlace_33 (by decide) ?_
        exact f_ii C hX dX6_readAtPlace_34 ⟨by rw [fReadAt, cif_neg (fun q => h_30 q.2.2)], by rw [fReadAt, cif_neg (fun q => h_30 q.2.2)]; exact hz, FrS.rfl'⟩
  · skip
    refine f_astoreN (ls1 := [_, _, _, _, _]) C dX6_readAtPlace_8 (by decide) rfl ?_
    refine e_aloadN C dX6_readAtPlace_10 rfl ?_
    refine e_ifnullN (tgt := 33) C dX6_readAtPlace_12 (by decide) ?_
    refine e_iconst (v := -1) C dX6_readAtPlace_33 (by decide) ?_
    exact f_ii C hX dX6_readAtPlace_34 ⟨by rw [fReadAt, cif_neg (fun q => hc_5 q.1)], by rw [fReadAt, cif_neg (fun q => hc_5 q.1)]; exact hz, FrS.rfl'⟩
