/-! ===== the class's states, in the words of their rows ===== -/
theorem fm_ok : ∀ a, a < 12 → (nI a - nI a / nI 6 * nI 6 = nI (a % 6) ∧ 0 ≤ nI a ^^^ nI 6) := by decide +kernel
noncomputable def posg (z : ZZ) (n : Int32) : Int32 := cif (n = nI 9) (z 0) (cif (isR z n) (rz z (nt n) 1) (-1))
theorem posg_p {z : ZZ} {p : Nat} (h : isPn z p) : posg z (nI p) = posz z p := by
  unfold posg posz
  rcases h with rfl | ⟨h1, h2⟩
  · rw [cif_pos rfl]; rfl
  · rw [cif_neg (xI_ne (by omega) (by decide) (by omega)), cif_pos ⟨p, h1, rfl, h2⟩, nt_nI (by omega), if_neg (by omega)]
noncomputable def waitg (z : ZZ) (s : Nat) (key n : Int32) : Int32 := cif (n = nI 9) (nI 0) (cif (isR z n) (tkz (nt (rz z (nt n) 1)) (nedz z s key) (rz z (nt n) 3) (rz z (nt n) 2)) (-6))
theorem tck_rz {z : ZZ} {t : Int32} {w r : Nat} (hw : w < 5) : ∀ n, n ≤ r → rz (tck z t n) r w = rz z r w
  | 0, _ => rfl
  | n + 1, h => by
    unfold tck cif
    split
    · rw [rz_rs (by decide) hw, if_neg (by omega), tck_rz hw n (by omega)]
    · exact tck_rz hw n (by omega)
theorem tck_h {z : ZZ} {t : Int32} {j : Nat} (hj : j < 5) : ∀ n, tck z t n j = z j
  | 0 => rfl
  | n + 1 => by
    unfold tck cif
    split
    · rw [hz_rs hj, tck_h hj n]
    · exact tck_h hj n
theorem sndz_sz {z : ZZ} {pl : Int32} {w s : Nat} (hw : w < 33) : ∀ n, n ≤ s → sz (sndz z pl n) s w = sz z s w
  | 0, _ => rfl
  | n + 1, h => by
    unfold sndz cif
    split
    · rw [sz_ss (by decide) hw, if_neg (by omega), sndz_sz hw n (by omega)]
    · exact sndz_sz hw n (by omega)
theorem blk_of {t k i : Nat} (h1 : 1 ≤ t) (h2 : t ≤ 11) : blk k (t, k, i) := ⟨rfl, h1, h2⟩
theorem pt_step {m : MEM} {k i : Nat} {y : ZZ} {t : Int32} (h : RelS m k y) (hi : i < 5) (h3 : rz y i 3 = 0 ∨ rz y i 3 = 1) (hs : rz y i 3 = 1 → ¬ y 0 < rz y i 1) :
    RelS (cif (m (8, k, i) 3 = 0) (up m (8, k, i) 1 (minI (m (8, k, i) 1 + m (8, k, i) 2 * t) (m (2, k, 0) 0))) m) k (rs y i 1 (behz y i t)) := by
  rw [h.rep hi (by decide), h.rep hi (by decide), h.rep hi (by decide), h.cnt]
  rcases h3 with e | e
  · rw [cif_pos e]
    have e2 : behz y i t = minI (rz y i 1 + rz y i 2 * t) (y 0) := by
      unfold behz
      rw [cif_neg (by rw [e]; decide)]
    rw [e2]
    exact h.s_rep hi (by decide)
  · rw [cif_neg (by rw [e]; decide)]
    have e2 : behz y i t = rz y i 1 := by
      unfold behz
      rw [cif_pos e, Int32.add_zero]
      unfold minI
      rw [if_neg (hs e)]
    rw [e2, rs_same]
    exact h
theorem pt_fr {mem m : MEM} {k i : Nat} {x : Int32} {p : Prop} (h : FrS k mem m) : FrS k mem (cif p (up m (8, k, i) 1 x) m) := by
  unfold cif
  split
  · exact h.set (blk_of (by decide) (by decide))
  · exact h
def bgz (z : ZZ) (i : Nat) (pos rate : Int32) : ZZ := rs (rs (rs (rs (rs z i 0 (nI 1)) i 1 pos) i 2 rate) i 3 (nI 0)) i 4 (nI 0)
theorem bgz_ok {mem : MEM} {k i : Nat} {z : ZZ} {pos rate : Int32} (h : RelS mem k z) (hi : i < 5) : RelS (begR mem k i pos rate) k (bgz z i pos rate) :=
  ((((h.s_rep hi (by decide)).s_rep hi (by decide)).s_rep hi (by decide)).s_rep hi (by decide)).s_rep hi (by decide)
theorem FrS.one {k : Nat} {mem : MEM} {id : ID} {j : Nat} {v : Int32} (hb : blk k id) : FrS k mem (up mem id j v) := FrS.rfl'.set hb
theorem bgz_fr {mem : MEM} {k i : Nat} {pos rate : Int32} : FrS k mem (begR mem k i pos rate) := by
  have hb : blk k (8, k, i) := (blk_of (by decide) (by decide))
  exact ((((FrS.one hb).set hb).set hb).set hb).set hb
/-- the first n numbers of a session are 0 -/
def z33 (z : ZZ) (s n : Nat) : ZZ := fun j => if 30 + 33 * s ≤ j ∧ j < 30 + 33 * s + n then nI 0 else z j
def bsz (z : ZZ) (s : Nat) (h o b : Int32) : ZZ := ss (ss (ss (ss (z33 z s 33) s 0 (nI 1)) s 1 h) s 2 o) s 3 b
theorem sz_z33 {z : ZZ} {s s' w : Nat} (hw : w < 33) : sz (z33 z s 33) s' w = if s' = s then nI 0 else sz z s' w := by
  unfold sz z33
  by_cases e : s' = s
  · subst e; rw [if_pos (by omega), if_pos rfl]
  · rw [if_neg (by omega), if_neg e]
theorem bsz_ok {mem : MEM} {k s : Nat} {z : ZZ} {hm o b : Int32} (h : RelS mem k z) (hs : s < 8) : RelS (begS mem k s hm o b) k (bsz z s hm o b) := by
  obtain ⟨h1, h2, h3, h4, h5, h6, h7⟩ := h
  have z0 : ∀ j, j < 5 → bsz z s hm o b j = z j := fun j hj => by
    unfold bsz
    rw [hz_ss hj, hz_ss hj, hz_ss hj, hz_ss hj]
    unfold z33
    rw [if_neg (by omega)]
  have e1 : ∀ t i, t ≠ 9 → t ≠ 10 → t ≠ 11 → begS mem k s hm o b (t, k, i) = mem (t, k, i) := fun t i a1 a2 a3 => by
    funext j
    simp [begS, flA, up, a1, a2, a3]
  refine ⟨?_, ?_, ?_, ?_, ?_, ?_, ?_⟩
  · rw [z0 0 (by decide), e1 2 0 (by decide) (by decide) (by decide)]; exact h1
  · rw [z0 1 (by decide), e1 1 0 (by decide) (by decide) (by decide)]; exact h2
  · rw [z0 1 (by decide), z0 2 (by decide), z0 3 (by decide), e1 1 0 (by decide) (by decide) (by decide)]; exact h3
  · rw [z0 4 (by decide), e1 1 0 (by decide) (by decide) (by decide)]; exact h4
  · intro r hr w hw
    rw [e1 8 r (by decide) (by decide) (by decide), h5 r hr w hw]
    unfold bsz
    rw [rz_ss hr hw, rz_ss hr hw, rz_ss hr hw, rz_ss hr hw]
    unfold rz z33
    rw [if_neg (by omega)]
  · intro s' hs'
    have hsz : ∀ w, w < 33 → sz (bsz z s hm o b) s' w = if s' = s then (if w = 3 then b else if w = 2 then o else if w = 1 then hm else if w = 0 then nI 1 else nI 0) else sz z s' w := fun w hw => by
      unfold bsz
      rw [sz_ss (by decide) hw, sz_ss (by decide) hw, sz_ss (by decide) hw, sz_ss (by decide) hw, sz_z33 hw]
      by_cases e : s' = s
      · simp [e]
      · simp [e]
    by_cases e : s' = s
    · subst e
      rw [hsz 0 (by decide)]
      refine ⟨by simp [begS, flA, up], fun _ => ⟨fun w hw => ?_, fun q hq => ?_⟩⟩
      · rw [hsz w (by omega), if_pos rfl]
        match w, hw with
        | 0, _ => simp [begS, flA, up]
        | 1, _ => simp [begS, flA, up]
        | 2, _ => simp [begS, flA, up]
        | 3, _ => simp [begS, flA, up]
        | 4, _ => simp [begS, flA, up]
        | 5, _ => simp [begS, flA, up]
        | 6, _ => simp [begS, flA, up]
        | 7, _ => simp [begS, flA, up]
        | 8, _ => simp [begS, flA, up]
      · rw [hsz _ (by omega), hsz _ (by omega), if_pos rfl, if_pos rfl, if_neg (by omega), if_neg (by omega), if_neg (by omega), if_neg (by omega), if_neg (by omega), if_neg (by omega), if_neg (by omega), if_neg (by omega)]
        simp [begS, flA]
    · have e2 : ∀ t, begS mem k s hm o b (t, k, s') = mem (t, k, s') := fun t => by
        funext j
        simp [begS, flA, up, e]
      rw [hsz 0 (by decide), if_neg e, e2 9, e2 10, e2 11]
      refine ⟨(h6 s' hs').1, fun ho => ⟨fun w hw => ?_, fun q hq => ?_⟩⟩
      · rw [hsz w (by omega), if_neg e]; exact ((h6 s' hs').2 ho).1 w hw
      · rw [hsz _ (by omega), hsz _ (by omega), if_neg e, if_neg e]; exact ((h6 s' hs').2 ho).2 q hq
  · intro j hj
    have hwz : ∀ w, w < 3 → wz (bsz z s hm o b) j w = wz z j w := fun w hw => by
      unfold bsz
      rw [wz_ss hs (by decide), wz_ss hs (by decide), wz_ss hs (by decide), wz_ss hs (by decide)]
      unfold wz z33
      rw [if_neg (by omega)]
    rw [hwz 0 (by decide), hwz 1 (by decide), hwz 2 (by decide), e1 3 0 (by decide) (by decide) (by decide), e1 4 0 (by decide) (by decide) (by decide), e1 5 0 (by decide) (by decide) (by decide)]
    exact h7 j hj
theorem bsz_fr {mem : MEM} {k s : Nat} {hm o b : Int32} : FrS k mem (begS mem k s hm o b) := fun id h => by
  have h9 : id ≠ (9, k, s) := fun e => h (by rw [e]; exact (blk_of (by decide) (by decide)))
  have h10 : id ≠ (10, k, s) := fun e => h (by rw [e]; exact (blk_of (by decide) (by decide)))
  have h11 : id ≠ (11, k, s) := fun e => h (by rw [e]; exact (blk_of (by decide) (by decide)))
  funext j
  simp [begS, flA, up, h9, h10, h11]
theorem lastw_rel {mem : MEM} {k : Nat} {z : ZZ} (h : RelS mem k z) {p : Nat} (hp : p ≤ 200) {key : Int32} : lastw (mem (3, k, 0)) p key = lastw (keyf z) p key := lastw_congr key p fun j hj => h.key (by omega)
theorem cntw_rel {mem : MEM} {k : Nat} {z : ZZ} (h : RelS mem k z) {p c : Nat} (hc : c ≤ 200) {key : Int32} : cntw (mem (3, k, 0)) p key c = cntw (keyf z) p key c := cntw_congr p key c fun j hj => h.key (by omega)
theorem Inv.marks {z : ZZ} {c s : Nat} (h : Inv z c) (hs : s < 8) (ho : sz z s 0 = 1) : ∃ a b, a ≤ c ∧ b ≤ c ∧ sz z s 4 = nI a ∧ sz z s 5 = nI b := by
  obtain ⟨-, -, -, h4⟩ := h
  obtain ⟨-, h5⟩ := h4 s hs
  obtain ⟨-, -, ⟨a, ha, ea⟩, ⟨b, hb, eb⟩⟩ := h5 ho
  exact ⟨a, b, ha, hb, ea, eb⟩
theorem Inv.reps {z : ZZ} {c r : Nat} (h : Inv z c) (hr : r < 5) (ho : rz z r 0 = 1) : ∃ p q, p ≤ c ∧ q ≤ 9 ∧ rz z r 1 = nI p ∧ rz z r 2 = nI q ∧ (rz z r 3 = 0 ∨ rz z r 3 = 1) := by
  obtain ⟨-, -, h3, -⟩ := h
  obtain ⟨-, h5⟩ := h3 r hr
  obtain ⟨⟨p, hp, ep⟩, ⟨q, hq, eq⟩, h6⟩ := h5 ho
  exact ⟨p, q, hp, hq, ep, eq, h6⟩
theorem needz_le {z : ZZ} {c s : Nat} (h : Inv z c) (hs : s < 8) (ho : sz z s 0 = 1) : needz z s ≤ c := by
  obtain ⟨a, b, ha, hb, ea, eb⟩ := h.marks hs ho
  have hc := h.1
  unfold needz cif
  rw [ea, eb, nt_nI (by omega), nt_nI (by omega)]
  split <;> split <;> omega
theorem nedz_le {z : ZZ} {c s : Nat} {key : Int32} (h : Inv z c) (hs : s < 8) (ho : sz z s 0 = 1) : nedz z s key ≤ c := by
  have h1 := needz_le h hs ho
  unfold nedz cif
  split
  · exact Nat.le_trans (lastw_le _ _ _) h1
  · exact h1
theorem posz_nat {z : ZZ} {c p : Nat} (h : Inv z c) (hp : isPn z p) : ∃ n, n ≤ c ∧ posz z p = nI n := by
  unfold posz
  rcases hp with rfl | ⟨h1, h2⟩
  · exact ⟨c, Nat.le_refl c, h.2.1⟩
  · rw [if_neg (by omega)]
    obtain ⟨a, b, ha, hb, ea, -⟩ := h.reps h1 h2
    exact ⟨a, ha, ea⟩

set_option maxRecDepth 100000 in
set_option maxHeartbeats 4000000 in
theorem c_X4_findReplica {E : EV} {l : Launch} {mem : MEM} {k : Nat} (hk : k < 8) {z : ZZ} (hz : RelS mem k z) {n : Int32} : Ct E l yX4_findReplica (me_ws yX4_findReplica cX4_findReplica 3 (some (.object "ReplicaSessions$Replica"))) 2 [rv (1, k, 0), iv n] mem (OptQ (fun id => ∃ i, i < 5 ∧ n = nI i ∧ rz z i 0 = 1 ∧ id = (8, k, i)) (¬ isR z n) mem) := by
  refine Ct.of (RC := RX4) (ls0 := [rv (1, k, 0), iv n, uv]) mi_yX4_findReplica (Nat.le_of_ble_eq_true rfl) rfl (fun X C hX => ?_)
  refine e_iload_n C dX4_findReplica_0 rfl ?_
  refine e_iconst (v := nI 0) C dX4_findReplica_1 (by decide) ?_
  refine e_iconst (v := nI 4) C dX4_findReplica_2 (by decide) ?_
  refine f_callNr (As := [_, _, _]) (host := RX6) C mi_yX6_isWithin b_st_yX6_isWithin (by decide +kernel) dX4_findReplica_3 rfl c_X6_isWithin (by decide) (Nat.le_of_ble_eq_true rfl) ?_
  refine f_if_ne (tgt := 11) C dX4_findReplica_6 (by decide) (fun h_6 => ?_) (fun h_6 => ?_)
  · skip
    obtain ⟨i, hi, rfl⟩ := xI_le_of h_6.1 h_6.2 (by decide)
    refine e_aload_n C dX4_findReplica_11 rfl ?_
    refine e_getr C (ci := 4) 1 rfl rfl rfl (by decide) b_X4 rfl b_fl_X4_20 (v1 hk) rfl dX4_findReplica_12 ?_
    refine e_iload_n C dX4_findReplica_15 rfl ?_
    refine f_aaldR C hk (by omega) dX4_findReplica_16 ?_
    refine f_astore_n (ls1 := [_, _, _]) C dX4_findReplica_17 (by decide) rfl ?_
    refine e_aload_n C dX4_findReplica_18 rfl ?_
    refine e_ifnull C dX4_findReplica_19 ?_
    refine e_aload_n C dX4_findReplica_22 rfl ?_
    refine e_getz C (ci := 2) 0 rfl rfl rfl (by decide) b_X2 rfl b_fl_X4_49 (v8 hk (by omega)) rfl rfl dX4_findReplica_23 (fun hz_23 => ?_)
    refine e_if_eq (tgt := 33) C dX4_findReplica_26 (by decide) (fun h_26 => ?_) (fun h_26 => ?_)
    · skip
      refine e_null C dX4_findReplica_33 ?_
      exact f_an C hX dX4_findReplica_34 (fun q => by have := ((isR_nat (by omega)).mp q).2; rw [← hz.rep (by omega) (by decide), h_26] at this; exact absurd this (by decide)) rfl
    · skip
      refine e_aload_n C dX4_findReplica_29 rfl ?_
      refine e_goto (tgt := 34) C dX4_findReplica_30 (by decide) ?_
      exact f_ay C hX dX4_findReplica_34 ⟨i, by omega, rfl, by rw [← hz.rep (by omega) (by decide)]; exact hz_23.resolve_left h_26, rfl⟩ rfl
  · skip
    refine e_null C dX4_findReplica_9 ?_
    exact f_an C hX dX4_findReplica_10 (fun ⟨i, hi, e, _⟩ => h_6 (by rw [e]; exact ⟨nI_le (Nat.zero_le _) (by omega), nI_le (by omega) (by decide)⟩)) rfl
set_option maxRecDepth 100000 in
set_option maxHeartbeats 4000000 in
theorem c_X4_findSession {E : EV} {l : Launch} {mem : MEM} {k : Nat} (hk : k < 8) {z : ZZ} (hz : RelS mem k z) {n : Int32} : Ct E l yX4_findSession (me_ws yX4_findSession cX4_findSession 3 (some (.object "ReplicaSessions$Session"))) 2 [rv (1, k, 0), iv n] mem (OptQ (fun id => ∃ i, i < 8 ∧ n = nI i ∧ sz z i 0 = 1 ∧ id = (9, k, i)) (¬ isS z n) mem) := by
  refine Ct.of (RC := RX4) (ls0 := [rv (1, k, 0), iv n, uv]) mi_yX4_findSession (Nat.le_of_ble_eq_true rfl) rfl (fun X C hX => ?_)
  refine e_iload_n C dX4_findSession_0 rfl ?_
  refine e_iconst (v := nI 0) C dX4_findSession_1 (by decide) ?_
  refine e_bipush (v := nI 7) C dX4_findSession_2 (by decide) ?_
  refine f_callNr (As := [_, _, _]) (host := RX6) C mi_yX6_isWithin b_st_yX6_isWithin (by decide +kernel) dX4_findSession_4 rfl c_X6_isWithin (by decide) (Nat.le_of_ble_eq_true rfl) ?_
  refine f_if_ne (tgt := 12) C dX4_findSession_7 (by decide) (fun h_7 => ?_) (fun h_7 => ?_)
  · skip
    obtain ⟨i, hi, rfl⟩ := xI_le_of h_7.1 h_7.2 (by decide)
    refine e_aload_n C dX4_findSession_12 rfl ?_
    refine e_getr C (ci := 4) 2 rfl rfl rfl (by decide) b_X4 rfl b_fl_X4_26 (v1 hk) rfl dX4_findSession_13 ?_
    refine e_iload_n C dX4_findSession_16 rfl ?_
    refine f_aaldS C hk (by omega) dX4_findSession_17 ?_
    refine f_astore_n (ls1 := [_, _, _]) C dX4_findSession_18 (by decide) rfl ?_
    refine e_aload_n C dX4_findSession_19 rfl ?_
    refine e_ifnull C dX4_findSession_20 ?_
    refine e_aload_n C dX4_findSession_23 rfl ?_
    refine e_getz C (ci := 3) 0 rfl rfl rfl (by decide) b_X3 rfl b_fl_X4_53 (v9 hk (by omega)) rfl rfl dX4_findSession_24 (fun hz_24 => ?_)
    refine e_if_eq (tgt := 34) C dX4_findSession_27 (by decide) (fun h_27 => ?_) (fun h_27 => ?_)
    · skip
      refine e_null C dX4_findSession_34 ?_
      exact f_an C hX dX4_findSession_35 (fun q => by have := ((isS_nat (by omega)).mp q).2; rw [← hz.se0 (by omega), h_27] at this; exact absurd this (by decide)) rfl
    · skip
      refine e_aload_n C dX4_findSession_30 rfl ?_
      refine e_goto (tgt := 35) C dX4_findSession_31 (by decide) ?_
      exact f_ay C hX dX4_findSession_35 ⟨i, by omega, rfl, by rw [← hz.se0 (by omega)]; exact hz_24.resolve_left h_27, rfl⟩ rfl
  · skip
    refine e_null C dX4_findSession_10 ?_
    exact f_an C hX dX4_findSession_11 (fun ⟨i, hi, e, _⟩ => h_7 (by rw [e]; exact ⟨nI_le (Nat.zero_le _) (by omega), nI_le (by omega) (by decide)⟩)) rfl
set_option maxRecDepth 100000 in
set_option maxHeartbeats 4000000 in
theorem c_X4_hasPlace {E : EV} {l : Launch} {mem : MEM} {k : Nat} (hk : k < 8) {z : ZZ} (hz : RelS mem k z) {n : Int32} : Ct E l yX4_hasPlace (me_ws yX4_hasPlace cX4_hasPlace 2 (some .boolean)) 3 [rv (1, k, 0), iv n] mem (Ret (iv (b2i (isP z n))) mem) := by
  refine Ct.of (RC := RX4) (ls0 := [rv (1, k, 0), iv n]) mi_yX4_hasPlace (Nat.le_of_ble_eq_true rfl) rfl (fun X C hX => ?_)
  refine e_iload_n C dX4_hasPlace_0 rfl ?_
  refine e_bipush (v := nI 9) C dX4_hasPlace_1 (by decide) ?_
  refine e_icmp_eq (tgt := 14) C dX4_hasPlace_3 (by decide) (fun h_3 => ?_) (fun h_3 => ?_)
  · skip
    refine e_iconst (v := nI 1) C dX4_hasPlace_14 (by decide) ?_
    refine e_goto (tgt := 19) C dX4_hasPlace_15 (by decide) ?_
    exact f_zt C hX dX4_hasPlace_19 (Or.inl h_3) rfl
  · skip
    refine e_aload_n C dX4_hasPlace_6 rfl ?_
    refine e_iload_n C dX4_hasPlace_7 rfl ?_
    refine f_callVo (As := [_]) (ci := 4) C mi_yX4_findReplica mv_yX4_findReplica b_ml_X4_63 dX4_hasPlace_8 rfl (c_X4_findReplica hk (by assumption)) (by decide) (v1 hk) rfl rfl (Nat.le_of_ble_eq_true rfl) (fun ri_8 hc_8 => ?_) (fun hc_8 => ?_)
    · skip
      obtain ⟨i_8, hi_8, rfl, ho_8, rfl⟩ := hc_8
      refine e_ifnull C dX4_hasPlace_11 ?_
      refine e_iconst (v := nI 1) C dX4_hasPlace_14 (by decide) ?_
      refine e_goto (tgt := 19) C dX4_hasPlace_15 (by decide) ?_
      exact f_zt C hX dX4_hasPlace_19 (Or.inr ⟨i_8, hi_8, rfl, ho_8⟩) rfl
    · skip
      refine e_ifnullN (tgt := 18) C dX4_hasPlace_11 (by decide) ?_
      refine e_iconst (v := nI 0) C dX4_hasPlace_18 (by decide) ?_
      exact f_zf C hX dX4_hasPlace_19 (fun q => q.elim h_3 hc_8) rfl
set_option maxRecDepth 100000 in
set_option maxHeartbeats 4000000 in
theorem c_X4_positionOf {E : EV} {l : Launch} {mem : MEM} {k : Nat} (hk : k < 8) {z : ZZ} (hz : RelS mem k z) {n : Int32} : Ct E l yX4_positionOf (me_ws yX4_positionOf cX4_positionOf 3 (some .int)) 3 [rv (1, k, 0), iv n] mem (Ret (iv (posg z n)) mem) := by
  refine Ct.of (RC := RX4) (ls0 := [rv (1, k, 0), iv n, uv]) mi_yX4_positionOf (Nat.le_of_ble_eq_true rfl) rfl (fun X C hX => ?_)
  refine e_iload_n C dX4_positionOf_0 rfl ?_
  refine e_bipush (v := nI 9) C dX4_positionOf_1 (by decide) ?_
  refine e_icmp_ne (tgt := 14) C dX4_positionOf_3 (by decide) (fun h_3 => ?_) (fun h_3 => ?_)
  · skip
    refine e_aload_n C dX4_positionOf_14 rfl ?_
    refine e_iload_n C dX4_positionOf_15 rfl ?_
    refine f_callVo (As := [_]) (ci := 4) C mi_yX4_findReplica mv_yX4_findReplica b_ml_X4_63 dX4_positionOf_16 rfl (c_X4_findReplica hk (by assumption)) (by decide) (v1 hk) rfl rfl (Nat.le_of_ble_eq_true rfl) (fun ri_16 hc_16 => ?_) (fun hc_16 => ?_)
    · skip
      obtain ⟨i_16, hi_16, rfl, ho_16, rfl⟩ := hc_16
      refine f_astore_n (ls1 := [_, _, _]) C dX4_positionOf_19 (by decide) rfl ?_
      refine e_aload_n C dX4_positionOf_20 rfl ?_
      refine e_ifnonnull (tgt := 28) C dX4_positionOf_21 (by decide) ?_
      refine e_aload_n C dX4_positionOf_28 rfl ?_
      refine e_geti C (ci := 2) 1 rfl rfl rfl (by decide) b_X2 rfl b_fl_X4_77 (v8 hk hi_16) rfl dX4_positionOf_29 ?_
      exact f_ir C hX dX4_positionOf_32 (by rw [posg, cif_neg h_3, cif_pos ⟨_, hi_16, rfl, ho_16⟩, nt_nI (by omega)]; exact hz.rep hi_16 (by decide)) rfl
    · skip
      refine f_astore_nN (ls1 := [_, _, _]) C dX4_positionOf_19 (by decide) rfl ?_
      refine e_aload_nN C dX4_positionOf_20 rfl ?_
      refine e_ifnonnullN C dX4_positionOf_21 ?_
      refine e_iconst (v := -1) C dX4_positionOf_24 (by decide) ?_
      refine e_goto (tgt := 32) C dX4_positionOf_25 (by decide) ?_
      exact f_ir C hX dX4_positionOf_32 (by rw [posg, cif_neg h_3, cif_neg hc_16]) rfl
  · skip
    refine e_aload_n C dX4_positionOf_6 rfl ?_
    refine e_getr C (ci := 4) 0 rfl rfl rfl (by decide) b_X4 rfl b_fl_X4_12 (v1 hk) rfl dX4_positionOf_7 ?_
    refine e_geti C (ci := 1) 0 rfl rfl rfl (by decide) b_X1 rfl b_fl_X4_74 (v2 hk) rfl dX4_positionOf_10 ?_
    exact f_ir C hX dX4_positionOf_13 (by rw [posg, cif_pos h_3]; exact hz.cnt) rfl
set_option maxRecDepth 100000 in
set_option maxHeartbeats 4000000 in
theorem lp_X4_passTicks {E : EV} {l : Launch} {X : CX} {mem : MEM} {k : Nat} (hk : k < 8) {z : ZZ} (hz : RelS mem k z) {c : Nat} (hI : Inv z c) {t : Int32} (C : CK E X RX4 cX4_passTicks 4 none 3) (hX : EX E X l (fun r m => r = uv ∧ PoU k mem (tck z t 5) m)) : ∀ (lpn : Nat) (i : Nat) (mm : MEM) (x3 : VV), 5 - i < lpn → i ≤ 5 → RelS mm k (tck z t i) → FrS k mem mm → G E X 4 2 [rv (1, k, 0), iv t, iv (nI i), x3] [] mm := by
  intro lpn
  induction lpn with
  | zero => intro i mm x3 hlpn; exact absurd hlpn (Nat.not_lt_zero _)
  | succ lpn ih =>
    intro i mm x3 hlpn hi hr hf
    refine e_iload_n C dX4_passTicks_2 rfl ?_
    refine e_iconst (v := nI 5) C dX4_passTicks_3 (by decide) ?_
    refine e_icmp_ge (tgt := 35) C dX4_passTicks_4 (by decide) (fun h_4 => ?_) (fun h_4 => ?_)
    · skip
      have nh_4 := xI_leD (by omega) (by omega) h_4
      obtain rfl : i = 5 := by omega
      exact f_vu C hX dX4_passTicks_35 ⟨hr, hf⟩
    · skip
      have nh_4 := xI_nleD (by omega) (by omega) h_4
      refine e_aload_n C dX4_passTicks_7 rfl ?_
      refine e_iload_n C dX4_passTicks_8 rfl ?_
      refine f_callVo (As := [_]) (ci := 4) C mi_yX4_findReplica mv_yX4_findReplica b_ml_X4_63 dX4_passTicks_9 rfl (c_X4_findReplica hk (by assumption)) (by decide) (v1 hk) rfl rfl (Nat.le_of_ble_eq_true rfl) (fun ri_9 hc_9 => ?_) (fun hc_9 => ?_)
      · skip
        obtain ⟨i_9, hi_9, e_9, ho_9, rfl⟩ := hc_9
        obtain rfl := xI_inj (by omega) (by omega) e_9
        refine f_astore_n (ls1 := [_, _, _, _]) C dX4_passTicks_12 (by decide) rfl ?_
        refine e_aload_n C dX4_passTicks_13 rfl ?_
        refine e_ifnull C dX4_passTicks_14 ?_
        refine e_aload_n C dX4_passTicks_17 rfl ?_
        refine e_iload_n C dX4_passTicks_18 rfl ?_
        refine e_aload_n C dX4_passTicks_19 rfl ?_
        refine e_getr C (ci := 4) 0 rfl rfl rfl (by decide) b_X4 rfl b_fl_X4_12 (v1 hk) rfl dX4_passTicks_20 ?_
        refine e_geti C (ci := 1) 0 rfl rfl rfl (by decide) b_X1 rfl b_fl_X4_74 (v2 hk) rfl dX4_passTicks_23 ?_
        refine f_callVv (As := [_, _]) (ci := 2) C mi_yX2_passTicks mv_yX2_passTicks b_ml_X4_80 dX4_passTicks_26 rfl (c_X2_passTicks hk (by omega)) (by decide) (v8 hk (by omega)) rfl rfl (Nat.le_of_ble_eq_true rfl) ?_
        refine f_iincn (ls1 := [_, _, _, _]) C dX4_passTicks_29 rfl (by decide) rfl ?_
        refine e_goto (tgt := 2) C dX4_passTicks_32 (by decide) ?_
        exact ih (i + 1) _ _ (by omega) (by omega) (by rw [tck, cif_pos ho_9]; exact pt_step hr (by omega) (by rw [tck_rz (by decide) i (Nat.le_refl i)]; obtain ⟨_, _, _, _, _, _, h6⟩ := hI.reps (by omega) (by rw [tck_rz (by decide) i (Nat.le_refl i)] at ho_9; exact ho_9); exact h6) (fun _ => by rw [tck_h (by decide), tck_rz (by decide) i (Nat.le_refl i), hI.2.1]; obtain ⟨p, _, hp, _, ep, _⟩ := hI.reps (by omega) (by rw [tck_rz (by decide) i (Nat.le_refl i)] at ho_9; exact ho_9); rw [ep]; exact nI_nlt hp (by have := hI.1; omega))) (pt_fr hf)
      · skip
        have hno_9 := fun q => hc_9 ((isR_nat (by omega)).mpr ⟨by omega, q⟩)
        refine f_astore_nN (ls1 := [_, _, _, _]) C dX4_passTicks_12 (by decide) rfl ?_
        refine e_aload_nN C dX4_passTicks_13 rfl ?_
        refine e_ifnullN (tgt := 29) C dX4_passTicks_14 (by decide) ?_
        refine f_iincn (ls1 := [_, _, _, _]) C dX4_passTicks_29 rfl (by decide) rfl ?_
        refine e_goto (tgt := 2) C dX4_passTicks_32 (by decide) ?_
        exact ih (i + 1) mm _ (by omega) (by omega) (by rw [tck, cif_neg hno_9]; exact hr) hf
set_option maxRecDepth 100000 in
set_option maxHeartbeats 4000000 in
theorem c_X4_passTicks {E : EV} {l : Launch} {mem : MEM} {k : Nat} (hk : k < 8) {z : ZZ} (hz : RelS mem k z) {c : Nat} (hI : Inv z c) {t : Int32} : Ct E l yX4_passTicks (me_ws yX4_passTicks cX4_passTicks 4 none) 3 [rv (1, k, 0), iv t] mem (fun r m => r = uv ∧ PoU k mem (tck z t 5) m) := by
  refine Ct.of (RC := RX4) (ls0 := [rv (1, k, 0), iv t, uv, uv]) mi_yX4_passTicks (Nat.le_of_ble_eq_true rfl) rfl (fun X C hX => ?_)
  refine e_iconst (v := nI 0) C dX4_passTicks_0 (by decide) ?_
  refine f_istore_n (ls1 := [_, _, _, _]) C dX4_passTicks_1 (by decide) rfl ?_
  exact lp_X4_passTicks hk hz hI C hX 6 0 mem _ (by decide) (by decide) hz FrS.rfl'
set_option maxRecDepth 100000 in
set_option maxHeartbeats 4000000 in
theorem lp_X4_countCaughtUp {E : EV} {l : Launch} {X : CX} {mem : MEM} {k : Nat} (hk : k < 8) {z : ZZ} (hz : RelS mem k z) (C : CK E X RX4 cX4_countCaughtUp 4 (some .int) 3) (hX : EX E X l (Ret (iv (nI (cau z 5))) mem)) : ∀ (lpn : Nat) (i w : Nat) (x3 : VV), 5 - i < lpn → i ≤ 5 → w = cau z i → G E X 4 4 [rv (1, k, 0), iv (nI w), iv (nI i), x3] [] mem := by
  intro lpn
  induction lpn with
  | zero => intro i w x3 hlpn; exact absurd hlpn (Nat.not_lt_zero _)
  | succ lpn ih =>
    intro i w x3 hlpn hi hw
    refine e_iload_n C dX4_countCaughtUp_4 rfl ?_
    refine e_iconst (v := nI 5) C dX4_countCaughtUp_5 (by decide) ?_
    refine e_icmp_ge (tgt := 42) C dX4_countCaughtUp_6 (by decide) (fun h_6 => ?_) (fun h_6 => ?_)
    · skip
      have nh_6 := xI_leD (by omega) (by omega) h_6
      refine e_iload_n C dX4_countCaughtUp_42 rfl ?_
      obtain rfl : i = 5 := by omega
      exact f_ir C hX dX4_countCaughtUp_43 (by rw [hw]) rfl
    · skip
      have nh_6 := xI_nleD (by omega) (by omega) h_6
      refine e_aload_n C dX4_countCaughtUp_9 rfl ?_
      refine e_iload_n C dX4_countCaughtUp_10 rfl ?_
      refine f_callVo (As := [_]) (ci := 4) C mi_yX4_findReplica mv_yX4_findReplica b_ml_X4_63 dX4_countCaughtUp_11 rfl (c_X4_findReplica hk (by assumption)) (by decide) (v1 hk) rfl rfl (Nat.le_of_ble_eq_true rfl) (fun ri_11 hc_11 => ?_) (fun hc_11 => ?_)
      · skip
        obtain ⟨i_11, hi_11, e_11, ho_11, rfl⟩ := hc_11
        obtain rfl := xI_inj (by omega) (by omega) e_11
        refine f_astore_n (ls1 := [_, _, _, _]) C dX4_countCaughtUp_14 (by decide) rfl ?_
        refine e_aload_n C dX4_countCaughtUp_15 rfl ?_
        refine e_ifnull C dX4_countCaughtUp_16 ?_
        refine e_aload_n C dX4_countCaughtUp_19 rfl ?_
        refine e_geti C (ci := 2) 1 rfl rfl rfl (by decide) b_X2 rfl b_fl_X4_77 (v8 hk (by omega)) rfl dX4_countCaughtUp_20 ?_
        refine e_aload_n C dX4_countCaughtUp_23 rfl ?_
        refine e_getr C (ci := 4) 0 rfl rfl rfl (by decide) b_X4 rfl b_fl_X4_12 (v1 hk) rfl dX4_countCaughtUp_24 ?_
        refine e_geti C (ci := 1) 0 rfl rfl rfl (by decide) b_X1 rfl b_fl_X4_74 (v2 hk) rfl dX4_countCaughtUp_27 ?_
        refine e_icmp_ne (tgt := 36) C dX4_countCaughtUp_30 (by decide) (fun h_30 => ?_) (fun h_30 => ?_)
        · skip
          refine f_iincn (ls1 := [_, _, _, _]) C dX4_countCaughtUp_36 rfl (by decide) rfl ?_
          refine e_goto (tgt := 4) C dX4_countCaughtUp_39 (by decide) ?_
          exact ih (i + 1) w _ (by omega) (by omega) (by rw [hz.rep (by omega) (by decide), hz.cnt] at h_30; rw [cau, cif_neg (fun q => h_30 q.2)]; omega)
        · skip
          refine f_iincn (ls1 := [_, _, _, _]) C dX4_countCaughtUp_33 rfl (by decide) rfl ?_
          refine f_iincn (ls1 := [_, _, _, _]) C dX4_countCaughtUp_36 rfl (by decide) rfl ?_
          refine e_goto (tgt := 4) C dX4_countCaughtUp_39 (by decide) ?_
          exact ih (i + 1) (w + 1) _ (by omega) (by omega) (by rw [hz.rep (by omega) (by decide), hz.cnt] at h_30; rw [cau, cif_pos ⟨ho_11, h_30⟩]; omega)
      · skip
        have hno_11 := fun q => hc_11 ((isR_nat (by omega)).mpr ⟨by omega, q⟩)
        refine f_astore_nN (ls1 := [_, _, _, _]) C dX4_countCaughtUp_14 (by decide) rfl ?_
        refine e_aload_nN C dX4_countCaughtUp_15 rfl ?_
        refine e_ifnullN (tgt := 36) C dX4_countCaughtUp_16 (by decide) ?_
        refine f_iincn (ls1 := [_, _, _, _]) C dX4_countCaughtUp_36 rfl (by decide) rfl ?_
        refine e_goto (tgt := 4) C dX4_countCaughtUp_39 (by decide) ?_
        exact ih (i + 1) w _ (by omega) (by omega) (by rw [cau, cif_neg (fun q => hno_11 q.1)]; omega)
set_option maxRecDepth 100000 in
set_option maxHeartbeats 4000000 in
theorem c_X4_countCaughtUp {E : EV} {l : Launch} {mem : MEM} {k : Nat} (hk : k < 8) {z : ZZ} (hz : RelS mem k z) : Ct E l yX4_countCaughtUp (me_ws yX4_countCaughtUp cX4_countCaughtUp 4 (some .int)) 3 [rv (1, k, 0)] mem (Ret (iv (nI (cau z 5))) mem) := by
  refine Ct.of (RC := RX4) (ls0 := [rv (1, k, 0), uv, uv, uv]) mi_yX4_countCaughtUp (Nat.le_of_ble_eq_true rfl) rfl (fun X C hX => ?_)
  refine e_iconst (v := nI 0) C dX4_countCaughtUp_0 (by decide) ?_
  refine f_istore_n (ls1 := [_, _, _, _]) C dX4_countCaughtUp_1 (by decide) rfl ?_
  refine e_iconst (v := nI 0) C dX4_countCaughtUp_2 (by decide) ?_
  refine f_istore_n (ls1 := [_, _, _, _]) C dX4_countCaughtUp_3 (by decide) rfl ?_
  exact lp_X4_countCaughtUp hk hz C hX 6 0 0 _ (by decide) (by decide) rfl
set_option maxRecDepth 100000 in
set_option maxHeartbeats 4000000 in
theorem lp_X4_replicaMask {E : EV} {l : Launch} {X : CX} {mem : MEM} {k : Nat} (hk : k < 8) {z : ZZ} (hz : RelS mem k z) (C : CK E X RX4 cX4_replicaMask 3 (some .int) 3) (hX : EX E X l (Ret (iv (msk (fun r => rz z r 0) 5)) mem)) : ∀ (lpn : Nat) (i : Nat) (w : Int32), 5 - i < lpn → i ≤ 5 → w = msk (fun r => rz z r 0) i → G E X 3 4 [rv (1, k, 0), iv w, iv (nI i)] [] mem := by
  intro lpn
  induction lpn with
  | zero => intro i w hlpn; exact absurd hlpn (Nat.not_lt_zero _)
  | succ lpn ih =>
    intro i w hlpn hi hw
    refine e_iload_n C dX4_replicaMask_4 rfl ?_
    refine e_iconst (v := nI 5) C dX4_replicaMask_5 (by decide) ?_
    refine e_icmp_ge (tgt := 29) C dX4_replicaMask_6 (by decide) (fun h_6 => ?_) (fun h_6 => ?_)
    · skip
      have nh_6 := xI_leD (by omega) (by omega) h_6
      refine e_iload_n C dX4_replicaMask_29 rfl ?_
      obtain rfl : i = 5 := by omega
      exact f_ir C hX dX4_replicaMask_30 hw rfl
    · skip
      have nh_6 := xI_nleD (by omega) (by omega) h_6
      refine e_aload_n C dX4_replicaMask_9 rfl ?_
      refine e_iload_n C dX4_replicaMask_10 rfl ?_
      refine f_callVo (As := [_]) (ci := 4) C mi_yX4_findReplica mv_yX4_findReplica b_ml_X4_63 dX4_replicaMask_11 rfl (c_X4_findReplica hk (by assumption)) (by decide) (v1 hk) rfl rfl (Nat.le_of_ble_eq_true rfl) (fun ri_11 hc_11 => ?_) (fun hc_11 => ?_)
      · skip
        obtain ⟨i_11, hi_11, e_11, ho_11, rfl⟩ := hc_11
        obtain rfl := xI_inj (by omega) (by omega) e_11
        refine e_ifnull C dX4_replicaMask_14 ?_
        refine e_iload_n C dX4_replicaMask_17 rfl ?_
        refine e_iconst (v := nI 1) C dX4_replicaMask_18 (by decide) ?_
        refine e_iload_n C dX4_replicaMask_19 rfl ?_
        refine e_ishl C dX4_replicaMask_20 ?_
        refine e_ior C dX4_replicaMask_21 ?_
        refine f_istore_n (ls1 := [_, _, _]) C dX4_replicaMask_22 (by decide) rfl ?_
        refine f_iincn (ls1 := [_, _, _]) C dX4_replicaMask_23 rfl (by decide) rfl ?_
        refine e_goto (tgt := 4) C dX4_replicaMask_26 (by decide) ?_
        exact ih (i + 1) _ (by omega) (by omega) (by rw [msk, cif_pos ho_11, ← hw])
      · skip
        have hno_11 := fun q => hc_11 ((isR_nat (by omega)).mpr ⟨by omega, q⟩)
        refine e_ifnullN (tgt := 23) C dX4_replicaMask_14 (by decide) ?_
        refine f_iincn (ls1 := [_, _, _]) C dX4_replicaMask_23 rfl (by decide) rfl ?_
        refine e_goto (tgt := 4) C dX4_replicaMask_26 (by decide) ?_
        exact ih (i + 1) w (by omega) (by omega) (by rw [msk, cif_neg hno_11]; exact hw)
set_option maxRecDepth 100000 in
set_option maxHeartbeats 4000000 in
theorem c_X4_replicaMask {E : EV} {l : Launch} {mem : MEM} {k : Nat} (hk : k < 8) {z : ZZ} (hz : RelS mem k z) : Ct E l yX4_replicaMask (me_ws yX4_replicaMask cX4_replicaMask 3 (some .int)) 3 [rv (1, k, 0)] mem (Ret (iv (msk (fun r => rz z r 0) 5)) mem) := by
  refine Ct.of (RC := RX4) (ls0 := [rv (1, k, 0), uv, uv]) mi_yX4_replicaMask (Nat.le_of_ble_eq_true rfl) rfl (fun X C hX => ?_)
  refine e_iconst (v := nI 0) C dX4_replicaMask_0 (by decide) ?_
  refine f_istore_n (ls1 := [_, _, _]) C dX4_replicaMask_1 (by decide) rfl ?_
  refine e_iconst (v := nI 0) C dX4_replicaMask_2 (by decide) ?_
  refine f_istore_n (ls1 := [_, _, _]) C dX4_replicaMask_3 (by decide) rfl ?_
  exact lp_X4_replicaMask hk hz C hX 6 0 _ (by decide) (by decide) rfl
set_option maxRecDepth 100000 in
set_option maxHeartbeats 4000000 in
theorem lp_X4_sessionMask {E : EV} {l : Launch} {X : CX} {mem : MEM} {k : Nat} (hk : k < 8) {z : ZZ} (hz : RelS mem k z) (C : CK E X RX4 cX4_sessionMask 3 (some .int) 3) (hX : EX E X l (Ret (iv (msk (fun r => sz z r 0) 8)) mem)) : ∀ (lpn : Nat) (i : Nat) (w : Int32), 8 - i < lpn → i ≤ 8 → w = msk (fun r => sz z r 0) i → G E X 3 4 [rv (1, k, 0), iv w, iv (nI i)] [] mem := by
  intro lpn
  induction lpn with
  | zero => intro i w hlpn; exact absurd hlpn (Nat.not_lt_zero _)
  | succ lpn ih =>
    intro i w hlpn hi hw
    refine e_iload_n C dX4_sessionMask_4 rfl ?_
    refine e_bipush (v := nI 8) C dX4_sessionMask_5 (by decide) ?_
    refine e_icmp_ge (tgt := 30) C dX4_sessionMask_7 (by decide) (fun h_7 => ?_) (fun h_7 => ?_)
    · skip
      have nh_7 := xI_leD (by omega) (by omega) h_7
      refine e_iload_n C dX4_sessionMask_30 rfl ?_
      obtain rfl : i = 8 := by omega
      exact f_ir C hX dX4_sessionMask_31 hw rfl
    · skip
      have nh_7 := xI_nleD (by omega) (by omega) h_7
      refine e_aload_n C dX4_sessionMask_10 rfl ?_
      refine e_iload_n C dX4_sessionMask_11 rfl ?_
      refine f_callVo (As := [_]) (ci := 4) C mi_yX4_findSession mv_yX4_findSession b_ml_X4_67 dX4_sessionMask_12 rfl (c_X4_findSession hk (by assumption)) (by decide) (v1 hk) rfl rfl (Nat.le_of_ble_eq_true rfl) (fun ri_12 hc_12 => ?_) (fun hc_12 => ?_)
      · skip
        obtain ⟨i_12, hi_12, e_12, ho_12, rfl⟩ := hc_12
        obtain rfl := xI_inj (by omega) (by omega) e_12
        refine e_ifnull C dX4_sessionMask_15 ?_
        refine e_iload_n C dX4_sessionMask_18 rfl ?_
        refine e_iconst (v := nI 1) C dX4_sessionMask_19 (by decide) ?_
        refine e_iload_n C dX4_sessionMask_20 rfl ?_
        refine e_ishl C dX4_sessionMask_21 ?_
        refine e_ior C dX4_sessionMask_22 ?_
        refine f_istore_n (ls1 := [_, _, _]) C dX4_sessionMask_23 (by decide) rfl ?_
        refine f_iincn (ls1 := [_, _, _]) C dX4_sessionMask_24 rfl (by decide) rfl ?_
        refine e_goto (tgt := 4) C dX4_sessionMask_27 (by decide) ?_
        exact ih (i + 1) _ (by omega) (by omega) (by rw [msk, cif_pos ho_12, ← hw])
      · skip
        have hno_12 := fun q => hc_12 ((isS_nat (by omega)).mpr ⟨by omega, q⟩)
        refine e_ifnullN (tgt := 24) C dX4_sessionMask_15 (by decide) ?_
        refine f_iincn (ls1 := [_, _, _]) C dX4_sessionMask_24 rfl (by decide) rfl ?_
        refine e_goto (tgt := 4) C dX4_sessionMask_27 (by decide) ?_
        exact ih (i + 1) w (by omega) (by omega) (by rw [msk, cif_neg hno_12]; exact hw)
set_option maxRecDepth 100000 in
set_option maxHeartbeats 4000000 in
theorem c_X4_sessionMask {E : EV} {l : Launch} {mem : MEM} {k : Nat} (hk : k < 8) {z : ZZ} (hz : RelS mem k z) : Ct E l yX4_sessionMask (me_ws yX4_sessionMask cX4_sessionMask 3 (some .int)) 3 [rv (1, k, 0)] mem (Ret (iv (msk (fun r => sz z r 0) 8)) mem) := by
  refine Ct.of (RC := RX4) (ls0 := [rv (1, k, 0), uv, uv]) mi_yX4_sessionMask (Nat.le_of_ble_eq_true rfl) rfl (fun X C hX => ?_)
  refine e_iconst (v := nI 0) C dX4_sessionMask_0 (by decide) ?_
  refine f_istore_n (ls1 := [_, _, _]) C dX4_sessionMask_1 (by decide) rfl ?_
  refine e_iconst (v := nI 0) C dX4_sessionMask_2 (by decide) ?_
  refine f_istore_n (ls1 := [_, _, _]) C dX4_sessionMask_3 (by decide) rfl ?_
  exact lp_X4_sessionMask hk hz C hX 9 0 _ (by decide) (by decide) rfl
set_option maxRecDepth 100000 in
set_option maxHeartbeats 4000000 in
theorem lp_X4_countSessionsAt {E : EV} {l : Launch} {X : CX} {mem : MEM} {k : Nat} (hk : k < 8) {z : ZZ} (hz : RelS mem k z) {pl : Int32} (C : CK E X RX4 cX4_countSessionsAt 5 (some .int) 3) (hX : EX E X l (Ret (iv (nI (homz z pl 8))) mem)) : ∀ (lpn : Nat) (i w : Nat) (x4 : VV), 8 - i < lpn → i ≤ 8 → w = homz z pl i → G E X 5 4 [rv (1, k, 0), iv pl, iv (nI w), iv (nI i), x4] [] mem := by
  intro lpn
  induction lpn with
  | zero => intro i w x4 hlpn; exact absurd hlpn (Nat.not_lt_zero _)
  | succ lpn ih =>
    intro i w x4 hlpn hi hw
    refine e_iload_n C dX4_countSessionsAt_4 rfl ?_
    refine e_bipush (v := nI 8) C dX4_countSessionsAt_5 (by decide) ?_
    refine e_icmp_ge (tgt := 40) C dX4_countSessionsAt_7 (by decide) (fun h_7 => ?_) (fun h_7 => ?_)
    · skip
      have nh_7 := xI_leD (by omega) (by omega) h_7
      refine e_iload_n C dX4_countSessionsAt_40 rfl ?_
      obtain rfl : i = 8 := by omega
      exact f_ir C hX dX4_countSessionsAt_41 (by rw [hw]) rfl
    · skip
      have nh_7 := xI_nleD (by omega) (by omega) h_7
      refine e_aload_n C dX4_countSessionsAt_10 rfl ?_
      refine e_iload_n C dX4_countSessionsAt_11 rfl ?_
      refine f_callVo (As := [_]) (ci := 4) C mi_yX4_findSession mv_yX4_findSession b_ml_X4_67 dX4_countSessionsAt_12 rfl (c_X4_findSession hk (by assumption)) (by decide) (v1 hk) rfl rfl (Nat.le_of_ble_eq_true rfl) (fun ri_12 hc_12 => ?_) (fun hc_12 => ?_)
      · skip
        obtain ⟨i_12, hi_12, e_12, ho_12, rfl⟩ := hc_12
        obtain rfl := xI_inj (by omega) (by omega) e_12
        refine f_astore (ls1 := [_, _, _, _, _]) C dX4_countSessionsAt_15 (by decide) rfl ?_
        refine e_aload C dX4_countSessionsAt_17 rfl ?_
        refine e_ifnull C dX4_countSessionsAt_19 ?_
        refine e_aload C dX4_countSessionsAt_22 rfl ?_
        refine e_geti C (ci := 3) 1 rfl rfl rfl (by decide) b_X3 rfl b_fl_X4_71 (v9 hk (by omega)) rfl dX4_countSessionsAt_24 ?_
        refine e_iload_n C dX4_countSessionsAt_27 rfl ?_
        refine e_icmp_ne (tgt := 34) C dX4_countSessionsAt_28 (by decide) (fun h_28 => ?_) (fun h_28 => ?_)
        · skip
          refine f_iincn (ls1 := [_, _, _, _, _]) C dX4_countSessionsAt_34 rfl (by decide) rfl ?_
          refine e_goto (tgt := 4) C dX4_countSessionsAt_37 (by decide) ?_
          exact ih (i + 1) w _ (by omega) (by omega) (by rw [hz.ses (by omega) ho_12 (by decide)] at h_28; rw [homz, cif_neg (fun q => h_28 q.2)]; omega)
        · skip
          refine f_iincn (ls1 := [_, _, _, _, _]) C dX4_countSessionsAt_31 rfl (by decide) rfl ?_
          refine f_iincn (ls1 := [_, _, _, _, _]) C dX4_countSessionsAt_34 rfl (by decide) rfl ?_
          refine e_goto (tgt := 4) C dX4_countSessionsAt_37 (by decide) ?_
          exact ih (i + 1) (w + 1) _ (by omega) (by omega) (by rw [hz.ses (by omega) ho_12 (by decide)] at h_28; rw [homz, cif_pos ⟨ho_12, h_28⟩]; omega)
      · skip
        have hno_12 := fun q => hc_12 ((isS_nat (by omega)).mpr ⟨by omega, q⟩)
        refine f_astoreN (ls1 := [_, _, _, _, _]) C dX4_countSessionsAt_15 (by decide) rfl ?_
        refine e_aloadN C dX4_countSessionsAt_17 rfl ?_
        refine e_ifnullN (tgt := 34) C dX4_countSessionsAt_19 (by decide) ?_
        refine f_iincn (ls1 := [_, _, _, _, _]) C dX4_countSessionsAt_34 rfl (by decide) rfl ?_
        refine e_goto (tgt := 4) C dX4_countSessionsAt_37 (by decide) ?_
        exact ih (i + 1) w _ (by omega) (by omega) (by rw [homz, cif_neg (fun q => hno_12 q.1)]; omega)
set_option maxRecDepth 100000 in
set_option maxHeartbeats 4000000 in
theorem c_X4_countSessionsAt {E : EV} {l : Launch} {mem : MEM} {k : Nat} (hk : k < 8) {z : ZZ} (hz : RelS mem k z) {pl : Int32} : Ct E l yX4_countSessionsAt (me_ws yX4_countSessionsAt cX4_countSessionsAt 5 (some .int)) 3 [rv (1, k, 0), iv pl] mem (Ret (iv (nI (homz z pl 8))) mem) := by
  refine Ct.of (RC := RX4) (ls0 := [rv (1, k, 0), iv pl, uv, uv, uv]) mi_yX4_countSessionsAt (Nat.le_of_ble_eq_true rfl) rfl (fun X C hX => ?_)
  refine e_iconst (v := nI 0) C dX4_countSessionsAt_0 (by decide) ?_
  refine f_istore_n (ls1 := [_, _, _, _, _]) C dX4_countSessionsAt_1 (by decide) rfl ?_
  refine e_iconst (v := nI 0) C dX4_countSessionsAt_2 (by decide) ?_
  refine f_istore_n (ls1 := [_, _, _, _, _]) C dX4_countSessionsAt_3 (by decide) rfl ?_
  exact lp_X4_countSessionsAt hk hz C hX 9 0 0 _ (by decide) (by decide) rfl
set_option maxRecDepth 100000 in
set_option maxHeartbeats 4000000 in
theorem lp_X4_sendSessionsToPrimary {E : EV} {l : Launch} {X : CX} {mem : MEM} {k : Nat} (hk : k < 8) {z : ZZ} (hz : RelS mem k z) {pl : Int32} (C : CK E X RX4 cX4_sendSessionsToPrimary 5 (some .int) 3) (hX : EX E X l (fun r m => ∃ x : Int32, r = iv x ∧ PoI k mem (sndz z pl 8) (nI (homz z pl 8)) x m)) : ∀ (lpn : Nat) (i w : Nat) (mm : MEM) (x4 : VV), 8 - i < lpn → i ≤ 8 → w = homz z pl i → RelS mm k (sndz z pl i) → FrS k mem mm → G E X 5 4 [rv (1, k, 0), iv pl, iv (nI w), iv (nI i), x4] [] mm := by
  intro lpn
  induction lpn with
  | zero => intro i w mm x4 hlpn; exact absurd hlpn (Nat.not_lt_zero _)
  | succ lpn ih =>
    intro i w mm x4 hlpn hi hw hr hf
    refine e_iload_n C dX4_sendSessionsToPrimary_4 rfl ?_
    refine e_bipush (v := nI 8) C dX4_sendSessionsToPrimary_5 (by decide) ?_
    refine e_icmp_ge (tgt := 47) C dX4_sendSessionsToPrimary_7 (by decide) (fun h_7 => ?_) (fun h_7 => ?_)
    · skip
      have nh_7 := xI_leD (by omega) (by omega) h_7
      refine e_iload_n C dX4_sendSessionsToPrimary_47 rfl ?_
      obtain rfl : i = 8 := by omega
      exact f_ii C hX dX4_sendSessionsToPrimary_48 ⟨by rw [hw], hr, hf⟩
    · skip
      have nh_7 := xI_nleD (by omega) (by omega) h_7
      refine e_aload_n C dX4_sendSessionsToPrimary_10 rfl ?_
      refine e_iload_n C dX4_sendSessionsToPrimary_11 rfl ?_
      refine f_callVo (As := [_]) (ci := 4) C mi_yX4_findSession mv_yX4_findSession b_ml_X4_67 dX4_sendSessionsToPrimary_12 rfl (c_X4_findSession hk (by assumption)) (by decide) (v1 hk) rfl rfl (Nat.le_of_ble_eq_true rfl) (fun ri_12 hc_12 => ?_) (fun hc_12 => ?_)
      · skip
        obtain ⟨i_12, hi_12, e_12, ho_12, rfl⟩ := hc_12
        obtain rfl := xI_inj (by omega) (by omega) e_12
        refine f_astore (ls1 := [_, _, _, _, _]) C dX4_sendSessionsToPrimary_15 (by decide) rfl ?_
        refine e_aload C dX4_sendSessionsToPrimary_17 rfl ?_
        refine e_ifnull C dX4_sendSessionsToPrimary_19 ?_
        refine e_aload C dX4_sendSessionsToPrimary_22 rfl ?_
        refine e_geti C (ci := 3) 1 rfl rfl rfl (by decide) b_X3 rfl b_fl_X4_71 (v9 hk (by omega)) rfl dX4_sendSessionsToPrimary_24 ?_
        refine e_iload_n C dX4_sendSessionsToPrimary_27 rfl ?_
        refine e_icmp_ne (tgt := 41) C dX4_sendSessionsToPrimary_28 (by decide) (fun h_28 => ?_) (fun h_28 => ?_)
        · skip
          refine f_iincn (ls1 := [_, _, _, _, _]) C dX4_sendSessionsToPrimary_41 rfl (by decide) rfl ?_
          refine e_goto (tgt := 4) C dX4_sendSessionsToPrimary_44 (by decide) ?_
          exact ih (i + 1) w mm _ (by omega) (by omega) (by rw [hr.ses (by omega) ho_12 (by decide), sndz_sz (by decide) i (Nat.le_refl i)] at h_28; rw [homz, cif_neg (fun q => h_28 q.2)]; omega) (by rw [hr.ses (by omega) ho_12 (by decide)] at h_28; rw [sndz, cif_neg (fun q => h_28 q.2)]; exact hr) hf
        · skip
          refine e_aload C dX4_sendSessionsToPrimary_31 rfl ?_
          refine e_bipush (v := nI 9) C dX4_sendSessionsToPrimary_33 (by decide) ?_
          refine e_puti C (ci := 3) 1 rfl rfl rfl (by decide) b_X3 rfl b_fl_X4_71 (v9 hk (by omega)) tyX3 tyX3_ok nmX3 rfl (.inl ⟨rfl, rfl⟩) rfl dX4_sendSessionsToPrimary_35 ?_
          refine f_iincn (ls1 := [_, _, _, _, _]) C dX4_sendSessionsToPrimary_38 rfl (by decide) rfl ?_
          refine f_iincn (ls1 := [_, _, _, _, _]) C dX4_sendSessionsToPrimary_41 rfl (by decide) rfl ?_
          refine e_goto (tgt := 4) C dX4_sendSessionsToPrimary_44 (by decide) ?_
          exact ih (i + 1) (w + 1) _ _ (by omega) (by omega) (by rw [hr.ses (by omega) ho_12 (by decide), sndz_sz (by decide) i (Nat.le_refl i)] at h_28; rw [sndz_sz (by decide) i (Nat.le_refl i)] at ho_12; rw [homz, cif_pos ⟨ho_12, h_28⟩]; omega) (by rw [hr.ses (by omega) ho_12 (by decide)] at h_28; rw [sndz, cif_pos ⟨ho_12, h_28⟩]; exact hr.s_ses (by omega) (by decide) (by decide)) (hf.set (blk_of (by decide) (by decide)))
      · skip
        have hno_12 := fun q => hc_12 ((isS_nat (by omega)).mpr ⟨by omega, q⟩)
        refine f_astoreN (ls1 := [_, _, _, _, _]) C dX4_sendSessionsToPrimary_15 (by decide) rfl ?_
        refine e_aloadN C dX4_sendSessionsToPrimary_17 rfl ?_
        refine e_ifnullN (tgt := 41) C dX4_sendSessionsToPrimary_19 (by decide) ?_
        refine f_iincn (ls1 := [_, _, _, _, _]) C dX4_sendSessionsToPrimary_41 rfl (by decide) rfl ?_
        refine e_goto (tgt := 4) C dX4_sendSessionsToPrimary_44 (by decide) ?_
        exact ih (i + 1) w mm _ (by omega) (by omega) (by rw [sndz_sz (by decide) i (Nat.le_refl i)] at hno_12; rw [homz, cif_neg (fun q => hno_12 q.1)]; omega) (by rw [sndz, cif_neg (fun q => hno_12 q.1)]; exact hr) hf
set_option maxRecDepth 100000 in
set_option maxHeartbeats 4000000 in
theorem c_X4_sendSessionsToPrimary {E : EV} {l : Launch} {mem : MEM} {k : Nat} (hk : k < 8) {z : ZZ} (hz : RelS mem k z) {pl : Int32} : Ct E l yX4_sendSessionsToPrimary (me_ws yX4_sendSessionsToPrimary cX4_sendSessionsToPrimary 5 (some .int)) 3 [rv (1, k, 0), iv pl] mem (fun r m => ∃ x : Int32, r = iv x ∧ PoI k mem (sndz z pl 8) (nI (homz z pl 8)) x m) := by
  refine Ct.of (RC := RX4) (ls0 := [rv (1, k, 0), iv pl, uv, uv, uv]) mi_yX4_sendSessionsToPrimary (Nat.le_of_ble_eq_true rfl) rfl (fun X C hX => ?_)
  refine e_iconst (v := nI 0) C dX4_sendSessionsToPrimary_0 (by decide) ?_
  refine f_istore_n (ls1 := [_, _, _, _, _]) C dX4_sendSessionsToPrimary_1 (by decide) rfl ?_
  refine e_iconst (v := nI 0) C dX4_sendSessionsToPrimary_2 (by decide) ?_
  refine f_istore_n (ls1 := [_, _, _, _, _]) C dX4_sendSessionsToPrimary_3 (by decide) rfl ?_
  exact lp_X4_sendSessionsToPrimary hk hz C hX 9 0 0 mem _ (by decide) (by decide) rfl hz FrS.rfl'
