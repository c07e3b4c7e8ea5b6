/-! ===== the class's calls that only tell ===== -/
theorem sw3 {p : Int32} (h0 : ¬ p = nI 0) (h1 : ¬ p = nI 1) (h2 : ¬ p = nI 2) : p.toInt < 0 ∨ 2 < p.toInt := Classical.byContradiction fun h => by
  obtain ⟨n, hn, rfl⟩ := xI_le_of (x := p) (N := 2) (by rw [Int32.le_iff_toInt_le, Int32.toInt_zero]; omega) (by rw [Int32.le_iff_toInt_le, nI_toInt (by decide)]; omega) (by decide)
  match n, hn with
  | 0, _ => exact h0 rfl
  | 1, _ => exact h1 rfl
  | 2, _ => exact h2 rfl
theorem sw9 {p : Int32} (h0 : ¬ p = nI 0) (h1 : ¬ p = nI 1) (h2 : ¬ p = nI 2) (h3 : ¬ p = nI 3) (h4 : ¬ p = nI 4) (h5 : ¬ p = nI 5) (h6 : ¬ p = nI 6) (h7 : ¬ p = nI 7) (h8 : ¬ p = nI 8) : p.toInt < 0 ∨ 8 < p.toInt := Classical.byContradiction fun h => by
  obtain ⟨n, hn, rfl⟩ := xI_le_of (x := p) (N := 8) (by rw [Int32.le_iff_toInt_le, Int32.toInt_zero]; omega) (by rw [Int32.le_iff_toInt_le, nI_toInt (by decide)]; omega) (by decide)
  match n, hn with
  | 0, _ => exact h0 rfl
  | 1, _ => exact h1 rfl
  | 2, _ => exact h2 rfl
  | 3, _ => exact h3 rfl
  | 4, _ => exact h4 rfl
  | 5, _ => exact h5 rfl
  | 6, _ => exact h6 rfl
  | 7, _ => exact h7 rfl
  | 8, _ => exact h8 rfl
theorem in3 {p : Int32} (h : nI 0 ≤ p ∧ p ≤ nI 2) : p = nI 0 ∨ p = nI 1 ∨ p = nI 2 := by
  obtain ⟨n, hn, rfl⟩ := xI_le_of (x := p) (N := 2) h.1 h.2 (by decide)
  match n, hn with
  | 0, _ => exact Or.inl rfl
  | 1, _ => exact Or.inr (Or.inl rfl)
  | 2, _ => exact Or.inr (Or.inr rfl)
noncomputable def fRepl (z : ZZ) (n p : Int32) : Int32 := cif (isR z n) (cif (p = nI 0) (rz z (nt n) 2) (cif (p = nI 1) (rz z (nt n) 3) (cif (p = nI 2) (nI (homz z n 8)) (-2)))) (-1)
noncomputable def fLog (z : ZZ) (n p : Int32) : Int32 := cif (nI 1 ≤ n ∧ n ≤ z 0) (cif (p = nI 0) (wz z (nt n - 1) 0) (cif (p = nI 1) (wz z (nt n - 1) 1) (cif (p = nI 2) (wz z (nt n - 1) 2) (-2)))) (-1)
noncomputable def fVer (z : ZZ) (n k : Int32) : Int32 := cif (isP z n ∧ isK k) (nI (lastw (keyf z) (nt (posg z n)) k)) (-1)
noncomputable def fVal (z : ZZ) (n k : Int32) : Int32 := cif (isP z n ∧ isK k) (valz z (lastw (keyf z) (nt (posg z n)) k)) (-1)
noncomputable def fMis (z : ZZ) (n k : Int32) : Int32 := cif (isP z n ∧ isK k) (nI (cntw (keyf z) (nt (posg z n)) k (nt (z 0)))) (-1)
noncomputable def fAns (z : ZZ) (n : Int32) : Int32 := cif (n = nI 9) (z 4) (cif (isR z n) (rz z (nt n) 4) (-1))
noncomputable def fSes (z : ZZ) (n p : Int32) : Int32 := cif (isS z n) (cif (p = nI 0) (sz z (nt n) 1) (cif (p = nI 1) (sz z (nt n) 2) (cif (p = nI 2) (sz z (nt n) 3) (cif (p = nI 3) (sz z (nt n) 4) (cif (p = nI 4) (sz z (nt n) 5) (cif (p = nI 5) (nI (needz z (nt n))) (cif (p = nI 6) (sz z (nt n) 6) (cif (p = nI 7) (sz z (nt n) 7) (cif (p = nI 8) (sz z (nt n) 8) (-2)))))))))) (-1)
noncomputable def fLat (z : ZZ) (p : Int32) : Int32 := cif (nI 0 ≤ p ∧ p ≤ nI 2) (z (1 + nt p)) (-2)
noncomputable def fWai (z : ZZ) (s key place : Int32) : Int32 := cif (isS z s ∧ isK key ∧ isP z place) (waitg z (nt s) key place) (-1)
noncomputable def bst (z : ZZ) (s : Nat) (key : Int32) : Nat → Int32 × Int32
  | 0 => (-6, nI 0)
  | n + 1 => cif (¬ waitg z s key (nI n) = -6 ∧ ((bst z s key n).1 = -6 ∨ waitg z s key (nI n) < (bst z s key n).2)) (nI n, waitg z s key (nI n)) (bst z s key n)
noncomputable def fBest (z : ZZ) (s key : Int32) : Int32 := cif (isS z s ∧ isK key) (bst z (nt s) key 5).1 (-1)
noncomputable def kaf (z : ZZ) (s : Nat) (place t : Int32) : Nat → Nat
  | 0 => 0
  | n + 1 => kaf z s place t n + cif (¬ waitg z s (nI n) place = -6 ∧ waitg z s (nI n) place ≤ t) 1 0
noncomputable def fKeys (z : ZZ) (s place t : Int32) : Int32 := cif (isS z s ∧ isP z place) (cif (nI 0 ≤ t ∧ t ≤ nI 99) (nI (kaf z (nt s) place t 12)) (-2)) (-1)
noncomputable def cupw (z : ZZ) (n : Nat) : Int32 := tkz (nt (rz z n 1)) (nt (z 0)) (rz z n 3) (rz z n 2)
noncomputable def cup (z : ZZ) : Nat → Int32
  | 0 => nI 0
  | n + 1 => cif (cup z n = -6) (-6) (cif (rz z n 0 = 1) (cif (cupw z n = -6) (-6) (maxI (cup z n) (cupw z n))) (cup z n))
theorem cup_abs {z : ZZ} {n : Nat} (h : cup z n = -6) : ∀ m, n ≤ m → cup z m = -6
  | 0, hm => by rw [show n = 0 by omega] at h; exact h
  | m + 1, hm => by
    by_cases e : n = m + 1
    · rw [← e]; exact h
    · rw [cup, cif_pos (cup_abs h m (by omega))]
theorem posg_lt {z : ZZ} {c : Nat} {n : Int32} (hI : Inv z c) (hp : isP z n) : ∃ p, p ≤ c ∧ posg z n = nI p := by
  obtain ⟨p, rfl, hp2⟩ := isP_nat hp
  rw [posg_p hp2]
  exact posz_nat hI hp2

set_option maxRecDepth 100000 in
set_option maxHeartbeats 4000000 in
theorem c_X6_replicas {E : EV} {l : Launch} {mem : MEM} {z : ZZ} (hz : RelS mem 0 z) : Ct E l yX6_replicas (me_ws yX6_replicas cX6_replicas 1 (some .int)) 4 [rv (0, 0, 0)] mem (Ret (iv (msk (fun r => rz z r 0) 5)) mem) := by
  refine Ct.of (RC := RX6) (ls0 := [rv (0, 0, 0)]) mi_yX6_replicas (Nat.le_of_ble_eq_true rfl) rfl (fun X C hX => ?_)
  refine e_aload_n C dX6_replicas_0 rfl ?_
  refine e_getr C (ci := 6) 0 rfl rfl rfl (by decide) b_X6 rfl b_fl_X6_12 v0 rfl dX6_replicas_1 ?_
  refine f_callVr (As := []) (ci := 4) C mi_yX4_replicaMask mv_yX4_replicaMask b_ml_X6_65 dX6_replicas_4 rfl (c_X4_replicaMask (by decide : 0 < 8) (by assumption)) (by decide) (v1 (by decide : 0 < 8)) rfl rfl (Nat.le_of_ble_eq_true rfl) ?_
  exact f_ir C hX dX6_replicas_7 rfl rfl
set_option maxRecDepth 100000 in
set_option maxHeartbeats 4000000 in
theorem c_X6_sessions {E : EV} {l : Launch} {mem : MEM} {z : ZZ} (hz : RelS mem 0 z) : Ct E l yX6_sessions (me_ws yX6_sessions cX6_sessions 1 (some .int)) 4 [rv (0, 0, 0)] mem (Ret (iv (msk (fun s => sz z s 0) 8)) mem) := by
  refine Ct.of (RC := RX6) (ls0 := [rv (0, 0, 0)]) mi_yX6_sessions (Nat.le_of_ble_eq_true rfl) rfl (fun X C hX => ?_)
  refine e_aload_n C dX6_sessions_0 rfl ?_
  refine e_getr C (ci := 6) 0 rfl rfl rfl (by decide) b_X6 rfl b_fl_X6_12 v0 rfl dX6_sessions_1 ?_
  refine f_callVr (As := []) (ci := 4) C mi_yX4_sessionMask mv_yX4_sessionMask b_ml_X6_144 dX6_sessions_4 rfl (c_X4_sessionMask (by decide : 0 < 8) (by assumption)) (by decide) (v1 (by decide : 0 < 8)) rfl rfl (Nat.le_of_ble_eq_true rfl) ?_
  exact f_ir C hX dX6_sessions_7 rfl rfl
set_option maxRecDepth 100000 in
set_option maxHeartbeats 4000000 in
theorem c_X6_length {E : EV} {l : Launch} {mem : MEM} {z : ZZ} (hz : RelS mem 0 z) : Ct E l yX6_length (me_ws yX6_length cX6_length 1 (some .int)) 1 [rv (0, 0, 0)] mem (Ret (iv (z 0)) mem) := by
  refine Ct.of (RC := RX6) (ls0 := [rv (0, 0, 0)]) mi_yX6_length (Nat.le_of_ble_eq_true rfl) rfl (fun X C hX => ?_)
  refine e_aload_n C dX6_length_0 rfl ?_
  refine e_getr C (ci := 6) 0 rfl rfl rfl (by decide) b_X6 rfl b_fl_X6_12 v0 rfl dX6_length_1 ?_
  refine e_getr C (ci := 4) 0 rfl rfl rfl (by decide) b_X4 rfl b_fl_X6_85 (v1 (by decide : 0 < 8)) rfl dX6_length_4 ?_
  refine e_geti C (ci := 1) 0 rfl rfl rfl (by decide) b_X1 rfl b_fl_X6_89 (v2 (by decide : 0 < 8)) rfl dX6_length_7 ?_
  exact f_ir C hX dX6_length_10 hz.cnt rfl
set_option maxRecDepth 100000 in
set_option maxHeartbeats 4000000 in
theorem c_X6_position {E : EV} {l : Launch} {mem : MEM} {z : ZZ} (hz : RelS mem 0 z) {n : Int32} : Ct E l yX6_position (me_ws yX6_position cX6_position 2 (some .int)) 4 [rv (0, 0, 0), iv n] mem (Ret (iv (posg z n)) mem) := by
  refine Ct.of (RC := RX6) (ls0 := [rv (0, 0, 0), iv n]) mi_yX6_position (Nat.le_of_ble_eq_true rfl) rfl (fun X C hX => ?_)
  refine e_aload_n C dX6_position_0 rfl ?_
  refine e_getr C (ci := 6) 0 rfl rfl rfl (by decide) b_X6 rfl b_fl_X6_12 v0 rfl dX6_position_1 ?_
  refine e_iload_n C dX6_position_4 rfl ?_
  refine f_callVr (As := [_]) (ci := 4) C mi_yX4_positionOf mv_yX4_positionOf b_ml_X6_107 dX6_position_5 rfl (c_X4_positionOf (by decide : 0 < 8) (by assumption)) (by decide) (v1 (by decide : 0 < 8)) rfl rfl (Nat.le_of_ble_eq_true rfl) ?_
  exact f_ir C hX dX6_position_8 rfl rfl
set_option maxRecDepth 100000 in
set_option maxHeartbeats 4000000 in
theorem c_X6_replica {E : EV} {l : Launch} {mem : MEM} {z : ZZ} (hz : RelS mem 0 z) {n p : Int32} : Ct E l yX6_replica (me_ws yX6_replica cX6_replica 4 (some .int)) 4 [rv (0, 0, 0), iv n, iv p] mem (Ret (iv (fRepl z n p)) mem) := by
  refine Ct.of (RC := RX6) (ls0 := [rv (0, 0, 0), iv n, iv p, uv]) mi_yX6_replica (Nat.le_of_ble_eq_true rfl) rfl (fun X C hX => ?_)
  refine e_aload_n C dX6_replica_0 rfl ?_
  refine e_getr C (ci := 6) 0 rfl rfl rfl (by decide) b_X6 rfl b_fl_X6_12 v0 rfl dX6_replica_1 ?_
  refine e_iload_n C dX6_replica_4 rfl ?_
  refine f_callVo (As := [_]) (ci := 4) C mi_yX4_findReplica mv_yX4_findReplica b_ml_X6_69 dX6_replica_5 rfl (c_X4_findReplica (by decide : 0 < 8) (by assumption)) (by decide) (v1 (by decide : 0 < 8)) rfl rfl (Nat.le_of_ble_eq_true rfl) (fun ri_5 hc_5 => ?_) (fun hc_5 => ?_)
  · skip
    obtain ⟨i_5, hi_5, rfl, ho_5, rfl⟩ := hc_5
    refine f_astore_n (ls1 := [_, _, _, _]) C dX6_replica_8 (by decide) rfl ?_
    refine e_aload_n C dX6_replica_9 rfl ?_
    refine e_ifnonnull (tgt := 15) C dX6_replica_10 (by decide) ?_
    refine e_iload_n C dX6_replica_15 rfl ?_
    by_cases hs_16_0 : p = nI 0
    · skip
      subst hs_16_0
      refine e_tableIn (tgt := 44) (off := 28) C dX6_replica_16 (by decide) (by decide) (by decide) (by decide) ?_
      refine e_aload_n C dX6_replica_44 rfl ?_
      refine e_geti C (ci := 2) 2 rfl rfl rfl (by decide) b_X2 rfl b_fl_X6_73 (v8 (by decide : 0 < 8) hi_5) rfl dX6_replica_45 ?_
      exact f_ir C hX dX6_replica_48 (by rw [fRepl, cif_pos ⟨_, hi_5, rfl, ho_5⟩, nt_nI (by omega), cif_pos rfl]; exact hz.rep hi_5 (by decide)) rfl
    by_cases hs_16_1 : p = nI 1
    · skip
      subst hs_16_1
      refine e_tableIn (tgt := 49) (off := 33) C dX6_replica_16 (by decide) (by decide) (by decide) (by decide) ?_
      refine e_aload_n C dX6_replica_49 rfl ?_
      refine e_getz C (ci := 2) 3 rfl rfl rfl (by decide) b_X2 rfl b_fl_X6_79 (v8 (by decide : 0 < 8) hi_5) rfl rfl dX6_replica_50 (fun hz_50 => ?_)
      refine e_if_eq (tgt := 60) C dX6_replica_53 (by decide) (fun h_53 => ?_) (fun h_53 => ?_)
      · skip
        refine e_iconst (v := nI 0) C dX6_replica_60 (by decide) ?_
        exact f_ir C hX dX6_replica_61 (by rw [fRepl, cif_pos ⟨_, hi_5, rfl, ho_5⟩, nt_nI (by omega), cif_neg (by decide : ¬ nI 1 = nI 0), cif_pos rfl, ← hz.rep hi_5 (by decide), h_53]; rfl) rfl
      · skip
        refine e_iconst (v := nI 1) C dX6_replica_56 (by decide) ?_
        refine e_goto (tgt := 61) C dX6_replica_57 (by decide) ?_
        exact f_ir C hX dX6_replica_61 (by rw [fRepl, cif_pos ⟨_, hi_5, rfl, ho_5⟩, nt_nI (by omega), cif_neg (by decide : ¬ nI 1 = nI 0), cif_pos rfl, ← hz.rep hi_5 (by decide), hz_50.resolve_left h_53]; rfl) rfl
    by_cases hs_16_2 : p = nI 2
    · skip
      subst hs_16_2
      refine e_tableIn (tgt := 62) (off := 46) C dX6_replica_16 (by decide) (by decide) (by decide) (by decide) ?_
      refine e_aload_n C dX6_replica_62 rfl ?_
      refine e_getr C (ci := 6) 0 rfl rfl rfl (by decide) b_X6 rfl b_fl_X6_12 v0 rfl dX6_replica_63 ?_
      refine e_iload_n C dX6_replica_66 rfl ?_
      refine f_callVr (As := [_]) (ci := 4) C mi_yX4_countSessionsAt mv_yX4_countSessionsAt b_ml_X6_82 dX6_replica_67 rfl (c_X4_countSessionsAt (by decide : 0 < 8) (by assumption)) (by decide) (v1 (by decide : 0 < 8)) rfl rfl (Nat.le_of_ble_eq_true rfl) ?_
      exact f_ir C hX dX6_replica_70 (by rw [fRepl, cif_pos ⟨_, hi_5, rfl, ho_5⟩, cif_neg (by decide : ¬ nI 2 = nI 0), cif_neg (by decide : ¬ nI 2 = nI 1), cif_pos rfl]) rfl
    refine e_tableOut (tgt := 71) C dX6_replica_16 (sw3 hs_16_0 hs_16_1 hs_16_2) (by decide) ?_
    refine e_bipush (v := -2) C dX6_replica_71 (by decide) ?_
    exact f_ir C hX dX6_replica_73 (by rw [fRepl, cif_pos ⟨_, hi_5, rfl, ho_5⟩, cif_neg hs_16_0, cif_neg hs_16_1, cif_neg hs_16_2]) rfl
  · skip
    refine f_astore_nN (ls1 := [_, _, _, _]) C dX6_replica_8 (by decide) rfl ?_
    refine e_aload_nN C dX6_replica_9 rfl ?_
    refine e_ifnonnullN C dX6_replica_10 ?_
    refine e_iconst (v := -1) C dX6_replica_13 (by decide) ?_
    exact f_ir C hX dX6_replica_14 (by rw [fRepl, cif_neg hc_5]) rfl
set_option maxRecDepth 100000 in
set_option maxHeartbeats 4000000 in
theorem c_X6_version {E : EV} {l : Launch} {mem : MEM} {z : ZZ} (hz : RelS mem 0 z) {c : Nat} (hI : Inv z c) {n k : Int32} : Ct E l yX6_version (me_ws yX6_version cX6_version 3 (some .int)) 4 [rv (0, 0, 0), iv n, iv k] mem (Ret (iv (fVer z n k)) mem) := by
  refine Ct.of (RC := RX6) (ls0 := [rv (0, 0, 0), iv n, iv k]) mi_yX6_version (Nat.le_of_ble_eq_true rfl) rfl (fun X C hX => ?_)
  refine e_aload_n C dX6_version_0 rfl ?_
  refine e_getr C (ci := 6) 0 rfl rfl rfl (by decide) b_X6 rfl b_fl_X6_12 v0 rfl dX6_version_1 ?_
  refine e_iload_n C dX6_version_4 rfl ?_
  refine f_callVr (As := [_]) (ci := 4) C mi_yX4_hasPlace mv_yX4_hasPlace b_ml_X6_110 dX6_version_5 rfl (c_X4_hasPlace (by decide : 0 < 8) (by assumption)) (by decide) (v1 (by decide : 0 < 8)) rfl rfl (Nat.le_of_ble_eq_true rfl) ?_
  refine f_if_eq (tgt := 18) C dX6_version_8 (by decide) (fun h_8 => ?_) (fun h_8 => ?_)
  · skip
    refine e_iconst (v := -1) C dX6_version_18 (by decide) ?_
    exact f_ir C hX dX6_version_19 (by rw [fVer, cif_neg (fun q => h_8 q.1)]) rfl
  · skip
    refine e_iload_n C dX6_version_11 rfl ?_
    refine f_callSr (As := [_]) C mi_yX6_isKey b_st_yX6_isKey b_ml_X6_113 dX6_version_12 rfl c_X6_isKey (by decide) (Nat.le_of_ble_eq_true rfl) ?_
    refine f_if_ne (tgt := 20) C dX6_version_15 (by decide) (fun h_15 => ?_) (fun h_15 => ?_)
    · skip
      obtain ⟨p, hp, ep⟩ := posg_lt hI h_8
      have hc200 := hI.1
      have hcn := hI.2.1
      refine e_aload_n C dX6_version_20 rfl ?_
      refine e_getr C (ci := 6) 0 rfl rfl rfl (by decide) b_X6 rfl b_fl_X6_12 v0 rfl dX6_version_21 ?_
      refine e_getr C (ci := 4) 0 rfl rfl rfl (by decide) b_X4 rfl b_fl_X6_85 (v1 (by decide : 0 < 8)) rfl dX6_version_24 ?_
      refine e_aload_n C dX6_version_27 rfl ?_
      refine e_getr C (ci := 6) 0 rfl rfl rfl (by decide) b_X6 rfl b_fl_X6_12 v0 rfl dX6_version_28 ?_
      refine e_iload_n C dX6_version_31 rfl ?_
      refine f_callVr (As := [_]) (ci := 4) C mi_yX4_positionOf mv_yX4_positionOf b_ml_X6_107 dX6_version_32 rfl (c_X4_positionOf (by decide : 0 < 8) (by assumption)) (by decide) (v1 (by decide : 0 < 8)) rfl rfl (Nat.le_of_ble_eq_true rfl) ?_
      refine f_val (y := nI (p)) ep ?_
      refine e_iload_n C dX6_version_35 rfl ?_
      refine f_callVr (As := [_, _]) (ci := 1) C mi_yX1_versionAt mv_yX1_versionAt b_ml_X6_116 dX6_version_36 rfl (c_X1_versionAt (by decide) (by rw [hz.cnt]; exact hcn) hc200 hp) (by decide) (v2 (by decide : 0 < 8)) rfl rfl (Nat.le_of_ble_eq_true rfl) ?_
      exact f_ir C hX dX6_version_39 (by rw [fVer, cif_pos ⟨h_8, h_15⟩, ep, nt_nI (by omega), lastw_rel hz (by omega)]) rfl
    · skip
      refine e_iconst (v := -1) C dX6_version_18 (by decide) ?_
      exact f_ir C hX dX6_version_19 (by rw [fVer, cif_neg (fun q => h_15 q.2)]) rfl
set_option maxRecDepth 100000 in
set_option maxHeartbeats 4000000 in
theorem c_X6_missing {E : EV} {l : Launch} {mem : MEM} {z : ZZ} (hz : RelS mem 0 z) {c : Nat} (hI : Inv z c) {n k : Int32} : Ct E l yX6_missing (me_ws yX6_missing cX6_missing 3 (some .int)) 4 [rv (0, 0, 0), iv n, iv k] mem (Ret (iv (fMis z n k)) mem) := by
  refine Ct.of (RC := RX6) (ls0 := [rv (0, 0, 0), iv n, iv k]) mi_yX6_missing (Nat.le_of_ble_eq_true rfl) rfl (fun X C hX => ?_)
  refine e_aload_n C dX6_missing_0 rfl ?_
  refine e_getr C (ci := 6) 0 rfl rfl rfl (by decide) b_X6 rfl b_fl_X6_12 v0 rfl dX6_missing_1 ?_
  refine e_iload_n C dX6_missing_4 rfl ?_
  refine f_callVr (As := [_]) (ci := 4) C mi_yX4_hasPlace mv_yX4_hasPlace b_ml_X6_110 dX6_missing_5 rfl (c_X4_hasPlace (by decide : 0 < 8) (by assumption)) (by decide) (v1 (by decide : 0 < 8)) rfl rfl (Nat.le_of_ble_eq_true rfl) ?_
  refine f_if_eq (tgt := 18) C dX6_missing_8 (by decide) (fun h_8 => ?_) (fun h_8 => ?_)
  · skip
    refine e_iconst (v := -1) C dX6_missing_18 (by decide) ?_
    exact f_ir C hX dX6_missing_19 (by rw [fMis, cif_neg (fun q => h_8 q.1)]) rfl
  · skip
    refine e_iload_n C dX6_missing_11 rfl ?_
    refine f_callSr (As := [_]) C mi_yX6_isKey b_st_yX6_isKey b_ml_X6_113 dX6_missing_12 rfl c_X6_isKey (by decide) (Nat.le_of_ble_eq_true rfl) ?_
    refine f_if_ne (tgt := 20) C dX6_missing_15 (by decide) (fun h_15 => ?_) (fun h_15 => ?_)
    · skip
      obtain ⟨p, hp, ep⟩ := posg_lt hI h_8
      have hc200 := hI.1
      have hcn := hI.2.1
      refine e_aload_n C dX6_missing_20 rfl ?_
      refine e_getr C (ci := 6) 0 rfl rfl rfl (by decide) b_X6 rfl b_fl_X6_12 v0 rfl dX6_missing_21 ?_
      refine e_getr C (ci := 4) 0 rfl rfl rfl (by decide) b_X4 rfl b_fl_X6_85 (v1 (by decide : 0 < 8)) rfl dX6_missing_24 ?_
      refine e_aload_n C dX6_missing_27 rfl ?_
      refine e_getr C (ci := 6) 0 rfl rfl rfl (by decide) b_X6 rfl b_fl_X6_12 v0 rfl dX6_missing_28 ?_
      refine e_iload_n C dX6_missing_31 rfl ?_
      refine f_callVr (As := [_]) (ci := 4) C mi_yX4_positionOf mv_yX4_positionOf b_ml_X6_107 dX6_missing_32 rfl (c_X4_positionOf (by decide : 0 < 8) (by assumption)) (by decide) (v1 (by decide : 0 < 8)) rfl rfl (Nat.le_of_ble_eq_true rfl) ?_
      refine f_val (y := nI (p)) ep ?_
      refine e_iload_n C dX6_missing_35 rfl ?_
      refine f_callVr (As := [_, _]) (ci := 1) C mi_yX1_countAfter mv_yX1_countAfter b_ml_X6_119 dX6_missing_36 rfl (c_X1_countAfter (by decide) (by rw [hz.cnt]; exact hcn) hc200 hp) (by decide) (v2 (by decide : 0 < 8)) rfl rfl (Nat.le_of_ble_eq_true rfl) ?_
      exact f_ir C hX dX6_missing_39 (by rw [fMis, cif_pos ⟨h_8, h_15⟩, ep, nt_nI (by omega), hcn, nt_nI (by omega), cntw_rel hz hc200]) rfl
    · skip
      refine e_iconst (v := -1) C dX6_missing_18 (by decide) ?_
      exact f_ir C hX dX6_missing_19 (by rw [fMis, cif_neg (fun q => h_15 q.2)]) rfl
set_option maxRecDepth 100000 in
set_option maxHeartbeats 4000000 in
theorem c_X6_value {E : EV} {l : Launch} {mem : MEM} {z : ZZ} (hz : RelS mem 0 z) {c : Nat} (hI : Inv z c) {n k : Int32} : Ct E l yX6_value (me_ws yX6_value cX6_value 3 (some .int)) 4 [rv (0, 0, 0), iv n, iv k] mem (Ret (iv (fVal z n k)) mem) := by
  refine Ct.of (RC := RX6) (ls0 := [rv (0, 0, 0), iv n, iv k]) mi_yX6_value (Nat.le_of_ble_eq_true rfl) rfl (fun X C hX => ?_)
  refine e_aload_n C dX6_value_0 rfl ?_
  refine e_getr C (ci := 6) 0 rfl rfl rfl (by decide) b_X6 rfl b_fl_X6_12 v0 rfl dX6_value_1 ?_
  refine e_iload_n C dX6_value_4 rfl ?_
  refine f_callVr (As := [_]) (ci := 4) C mi_yX4_hasPlace mv_yX4_hasPlace b_ml_X6_110 dX6_value_5 rfl (c_X4_hasPlace (by decide : 0 < 8) (by assumption)) (by decide) (v1 (by decide : 0 < 8)) rfl rfl (Nat.le_of_ble_eq_true rfl) ?_
  refine f_if_eq (tgt := 18) C dX6_value_8 (by decide) (fun h_8 => ?_) (fun h_8 => ?_)
  · skip
    refine e_iconst (v := -1) C dX6_value_18 (by decide) ?_
    exact f_ir C hX dX6_value_19 (by rw [fVal, cif_neg (fun q => h_8 q.1)]) rfl
  · skip
    refine e_iload_n C dX6_value_11 rfl ?_
    refine f_callSr (As := [_]) C mi_yX6_isKey b_st_yX6_isKey b_ml_X6_113 dX6_value_12 rfl c_X6_isKey (by decide) (Nat.le_of_ble_eq_true rfl) ?_
    refine f_if_ne (tgt := 20) C dX6_value_15 (by decide) (fun h_15 => ?_) (fun h_15 => ?_)
    · skip
      obtain ⟨p, hp, ep⟩ := posg_lt hI h_8
      have hc200 := hI.1
      have hcn := hI.2.1
      refine e_aload_n C dX6_value_20 rfl ?_
      refine e_getr C (ci := 6) 0 rfl rfl rfl (by decide) b_X6 rfl b_fl_X6_12 v0 rfl dX6_value_21 ?_
      refine e_getr C (ci := 4) 0 rfl rfl rfl (by decide) b_X4 rfl b_fl_X6_85 (v1 (by decide : 0 < 8)) rfl dX6_value_24 ?_
      refine e_aload_n C dX6_value_27 rfl ?_
      refine e_getr C (ci := 6) 0 rfl rfl rfl (by decide) b_X6 rfl b_fl_X6_12 v0 rfl dX6_value_28 ?_
      refine e_getr C (ci := 4) 0 rfl rfl rfl (by decide) b_X4 rfl b_fl_X6_85 (v1 (by decide : 0 < 8)) rfl dX6_value_31 ?_
      refine e_aload_n C dX6_value_34 rfl ?_
      refine e_getr C (ci := 6) 0 rfl rfl rfl (by decide) b_X6 rfl b_fl_X6_12 v0 rfl dX6_value_35 ?_
      refine e_iload_n C dX6_value_38 rfl ?_
      refine f_callVr (As := [_]) (ci := 4) C mi_yX4_positionOf mv_yX4_positionOf b_ml_X6_107 dX6_value_39 rfl (c_X4_positionOf (by decide : 0 < 8) (by assumption)) (by decide) (v1 (by decide : 0 < 8)) rfl rfl (Nat.le_of_ble_eq_true rfl) ?_
      refine f_val (y := nI (p)) ep ?_
      refine e_iload_n C dX6_value_42 rfl ?_
      refine f_callVr (As := [_, _]) (ci := 1) C mi_yX1_versionAt mv_yX1_versionAt b_ml_X6_116 dX6_value_43 rfl (c_X1_versionAt (by decide) (by rw [hz.cnt]; exact hcn) hc200 hp) (by decide) (v2 (by decide : 0 < 8)) rfl rfl (Nat.le_of_ble_eq_true rfl) ?_
      refine f_val (y := nI (lastw (keyf z) p k)) (by rw [lastw_rel hz (by omega)]) ?_
      refine f_callVr (As := [_]) (ci := 1) C mi_yX1_valueOf mv_yX1_valueOf b_ml_X6_101 dX6_value_46 rfl (c_X1_valueOf_g (by decide) (by rw [hz.cnt]; exact hcn) hc200 (v := lastw (keyf z) p k) (Nat.le_trans (lastw_le _ _ _) hp)) (by decide) (v2 (by decide : 0 < 8)) rfl rfl (Nat.le_of_ble_eq_true rfl) ?_
      have hlv := lastw_le (keyf z) k p
      refine f_ir C hX dX6_value_49 ?_ rfl
      rw [fVal, cif_pos ⟨h_8, h_15⟩, ep, nt_nI (by omega)]
      unfold valz
      by_cases h0 : lastw (keyf z) p k = 0
      · rw [if_pos h0, if_pos h0]
      · rw [if_neg h0, if_neg h0, hz.val (by omega)]
    · skip
      refine e_iconst (v := -1) C dX6_value_18 (by decide) ?_
      exact f_ir C hX dX6_value_19 (by rw [fVal, cif_neg (fun q => h_15 q.2)]) rfl
set_option maxRecDepth 100000 in
set_option maxHeartbeats 4000000 in
theorem c_X6_answers {E : EV} {l : Launch} {mem : MEM} {z : ZZ} (hz : RelS mem 0 z) {n : Int32} : Ct E l yX6_answers (me_ws yX6_answers cX6_answers 3 (some .int)) 3 [rv (0, 0, 0), iv n] mem (Ret (iv (fAns z n)) mem) := by
  refine Ct.of (RC := RX6) (ls0 := [rv (0, 0, 0), iv n, uv]) mi_yX6_answers (Nat.le_of_ble_eq_true rfl) rfl (fun X C hX => ?_)
  refine e_iload_n C dX6_answers_0 rfl ?_
  refine e_bipush (v := nI 9) C dX6_answers_1 (by decide) ?_
  refine e_icmp_ne (tgt := 14) C dX6_answers_3 (by decide) (fun h_3 => ?_) (fun h_3 => ?_)
  · skip
    refine e_aload_n C dX6_answers_14 rfl ?_
    refine e_getr C (ci := 6) 0 rfl rfl rfl (by decide) b_X6 rfl b_fl_X6_12 v0 rfl dX6_answers_15 ?_
    refine e_iload_n C dX6_answers_18 rfl ?_
    refine f_callVo (As := [_]) (ci := 4) C mi_yX4_findReplica mv_yX4_findReplica b_ml_X6_69 dX6_answers_19 rfl (c_X4_findReplica (by decide : 0 < 8) (by assumption)) (by decide) (v1 (by decide : 0 < 8)) rfl rfl (Nat.le_of_ble_eq_true rfl) (fun ri_19 hc_19 => ?_) (fun hc_19 => ?_)
    · skip
      obtain ⟨i_19, hi_19, rfl, ho_19, rfl⟩ := hc_19
      refine f_astore_n (ls1 := [_, _, _]) C dX6_answers_22 (by decide) rfl ?_
      refine e_aload_n C dX6_answers_23 rfl ?_
      refine e_ifnonnull (tgt := 31) C dX6_answers_24 (by decide) ?_
      refine e_aload_n C dX6_answers_31 rfl ?_
      refine e_geti C (ci := 2) 4 rfl rfl rfl (by decide) b_X2 rfl b_fl_X6_125 (v8 (by decide : 0 < 8) hi_19) rfl dX6_answers_32 ?_
      exact f_ir C hX dX6_answers_35 (by rw [fAns, cif_neg h_3, cif_pos ⟨_, hi_19, rfl, ho_19⟩, nt_nI (by omega)]; exact hz.rep hi_19 (by decide)) rfl
    · skip
      refine f_astore_nN (ls1 := [_, _, _]) C dX6_answers_22 (by decide) rfl ?_
      refine e_aload_nN C dX6_answers_23 rfl ?_
      refine e_ifnonnullN C dX6_answers_24 ?_
      refine e_iconst (v := -1) C dX6_answers_27 (by decide) ?_
      refine e_goto (tgt := 35) C dX6_answers_28 (by decide) ?_
      exact f_ir C hX dX6_answers_35 (by rw [fAns, cif_neg h_3, cif_neg hc_19]) rfl
  · skip
    refine e_aload_n C dX6_answers_6 rfl ?_
    refine e_getr C (ci := 6) 0 rfl rfl rfl (by decide) b_X6 rfl b_fl_X6_12 v0 rfl dX6_answers_7 ?_
    refine e_geti C (ci := 4) 3 rfl rfl rfl (by decide) b_X4 rfl b_fl_X6_122 (v1 (by decide : 0 < 8)) rfl dX6_answers_10 ?_
    exact f_ir C hX dX6_answers_13 (by rw [fAns, cif_pos h_3]; exact hz.pa) rfl
set_option maxRecDepth 100000 in
set_option maxHeartbeats 4000000 in
theorem c_X6_session {E : EV} {l : Launch} {mem : MEM} {z : ZZ} (hz : RelS mem 0 z) {c : Nat} (hI : Inv z c) {n p : Int32} : Ct E l yX6_session (me_ws yX6_session cX6_session 4 (some .int)) 3 [rv (0, 0, 0), iv n, iv p] mem (Ret (iv (fSes z n p)) mem) := by
  refine Ct.of (RC := RX6) (ls0 := [rv (0, 0, 0), iv n, iv p, uv]) mi_yX6_session (Nat.le_of_ble_eq_true rfl) rfl (fun X C hX => ?_)
  refine e_aload_n C dX6_session_0 rfl ?_
  refine e_getr C (ci := 6) 0 rfl rfl rfl (by decide) b_X6 rfl b_fl_X6_12 v0 rfl dX6_session_1 ?_
  refine e_iload_n C dX6_session_4 rfl ?_
  refine f_callVo (As := [_]) (ci := 4) C mi_yX4_findSession mv_yX4_findSession b_ml_X6_147 dX6_session_5 rfl (c_X4_findSession (by decide : 0 < 8) (by assumption)) (by decide) (v1 (by decide : 0 < 8)) rfl rfl (Nat.le_of_ble_eq_true rfl) (fun ri_5 hc_5 => ?_) (fun hc_5 => ?_)
  · skip
    obtain ⟨i_5, hi_5, rfl, ho_5, rfl⟩ := hc_5
    refine f_astore_n (ls1 := [_, _, _, _]) C dX6_session_8 (by decide) rfl ?_
    refine e_aload_n C dX6_session_9 rfl ?_
    refine e_ifnonnull (tgt := 15) C dX6_session_10 (by decide) ?_
    obtain ⟨ma, mb, hma, hmb, ea, eb⟩ := hI.marks hi_5 ho_5
    have hc200 := hI.1
    refine e_iload_n C dX6_session_15 rfl ?_
    by_cases hs_16_0 : p = nI 0
    · skip
      subst hs_16_0
      refine e_tableIn (tgt := 68) (off := 52) C dX6_session_16 (by decide) (by decide) (by decide) (by decide) ?_
      refine e_aload_n C dX6_session_68 rfl ?_
      refine e_geti C (ci := 3) 1 rfl rfl rfl (by decide) b_X3 rfl b_fl_X6_151 (v9 (by decide : 0 < 8) hi_5) rfl dX6_session_69 ?_
      exact f_ir C hX dX6_session_72 (by rw [fSes, cif_pos ⟨_, hi_5, rfl, ho_5⟩, nt_nI (by omega), cif_pos rfl]; exact hz.ses hi_5 ho_5 (by decide)) rfl
    by_cases hs_16_1 : p = nI 1
    · skip
      subst hs_16_1
      refine e_tableIn (tgt := 73) (off := 57) C dX6_session_16 (by decide) (by decide) (by decide) (by decide) ?_
      refine e_aload_n C dX6_session_73 rfl ?_
      refine e_geti C (ci := 3) 2 rfl rfl rfl (by decide) b_X3 rfl b_fl_X6_156 (v9 (by decide : 0 < 8) hi_5) rfl dX6_session_74 ?_
      exact f_ir C hX dX6_session_77 (by rw [fSes, cif_pos ⟨_, hi_5, rfl, ho_5⟩, nt_nI (by omega), cif_neg (by decide : ¬ nI 1 = nI 0), cif_pos rfl]; exact hz.ses hi_5 ho_5 (by decide)) rfl
    by_cases hs_16_2 : p = nI 2
    · skip
      subst hs_16_2
      refine e_tableIn (tgt := 78) (off := 62) C dX6_session_16 (by decide) (by decide) (by decide) (by decide) ?_
      refine e_aload_n C dX6_session_78 rfl ?_
      refine e_geti C (ci := 3) 3 rfl rfl rfl (by decide) b_X3 rfl b_fl_X6_159 (v9 (by decide : 0 < 8) hi_5) rfl dX6_session_79 ?_
      exact f_ir C hX dX6_session_82 (by rw [fSes, cif_pos ⟨_, hi_5, rfl, ho_5⟩, nt_nI (by omega), cif_neg (by decide : ¬ nI 2 = nI 0), cif_neg (by decide : ¬ nI 2 = nI 1), cif_pos rfl]; exact hz.ses hi_5 ho_5 (by decide)) rfl
    by_cases hs_16_3 : p = nI 3
    · skip
      subst hs_16_3
      refine e_tableIn (tgt := 83) (off := 67) C dX6_session_16 (by decide) (by decide) (by decide) (by decide) ?_
      refine e_aload_n C dX6_session_83 rfl ?_
      refine e_geti C (ci := 3) 4 rfl rfl rfl (by decide) b_X3 rfl b_fl_X6_162 (v9 (by decide : 0 < 8) hi_5) rfl dX6_session_84 ?_
      exact f_ir C hX dX6_session_87 (by rw [fSes, cif_pos ⟨_, hi_5, rfl, ho_5⟩, nt_nI (by omega), cif_neg (by decide : ¬ nI 3 = nI 0), cif_neg (by decide : ¬ nI 3 = nI 1), cif_neg (by decide : ¬ nI 3 = nI 2), cif_pos rfl]; exact hz.ses hi_5 ho_5 (by decide)) rfl
    by_cases hs_16_4 : p = nI 4
    · skip
      subst hs_16_4
      refine e_tableIn (tgt := 88) (off := 72) C dX6_session_16 (by decide) (by decide) (by decide) (by decide) ?_
      refine e_aload_n C dX6_session_88 rfl ?_
      refine e_geti C (ci := 3) 5 rfl rfl rfl (by decide) b_X3 rfl b_fl_X6_165 (v9 (by decide : 0 < 8) hi_5) rfl dX6_session_89 ?_
      exact f_ir C hX dX6_session_92 (by rw [fSes, cif_pos ⟨_, hi_5, rfl, ho_5⟩, nt_nI (by omega), cif_neg (by decide : ¬ nI 4 = nI 0), cif_neg (by decide : ¬ nI 4 = nI 1), cif_neg (by decide : ¬ nI 4 = nI 2), cif_neg (by decide : ¬ nI 4 = nI 3), cif_pos rfl]; exact hz.ses hi_5 ho_5 (by decide)) rfl
    by_cases hs_16_5 : p = nI 5
    · skip
      subst hs_16_5
      refine e_tableIn (tgt := 93) (off := 77) C dX6_session_16 (by decide) (by decide) (by decide) (by decide) ?_
      refine e_aload_n C dX6_session_93 rfl ?_
      refine f_callVr (As := []) (ci := 3) C mi_yX3_need mv_yX3_need b_ml_X6_168 dX6_session_94 rfl (c_X3_need (by decide) hi_5 (by rw [hz.ses hi_5 ho_5 (by decide)]; exact ea) (by rw [hz.ses hi_5 ho_5 (by decide)]; exact eb) (by omega) (by omega)) (by decide) (v9 (by decide : 0 < 8) hi_5) rfl rfl (Nat.le_of_ble_eq_true rfl) ?_
      refine f_val (y := nI (needz z i_5)) (by rw [hz.ses hi_5 ho_5 (by decide), needz, ea, eb, nt_nI (by omega), nt_nI (by omega)]; rfl) ?_
      exact f_ir C hX dX6_session_97 (by rw [fSes, cif_pos ⟨_, hi_5, rfl, ho_5⟩, nt_nI (by omega), cif_neg (by decide : ¬ nI 5 = nI 0), cif_neg (by decide : ¬ nI 5 = nI 1), cif_neg (by decide : ¬ nI 5 = nI 2), cif_neg (by decide : ¬ nI 5 = nI 3), cif_neg (by decide : ¬ nI 5 = nI 4), cif_pos rfl]) rfl
    by_cases hs_16_6 : p = nI 6
    · skip
      subst hs_16_6
      refine e_tableIn (tgt := 98) (off := 82) C dX6_session_16 (by decide) (by decide) (by decide) (by decide) ?_
      refine e_aload_n C dX6_session_98 rfl ?_
      refine e_geti C (ci := 3) 6 rfl rfl rfl (by decide) b_X3 rfl b_fl_X6_171 (v9 (by decide : 0 < 8) hi_5) rfl dX6_session_99 ?_
      exact f_ir C hX dX6_session_102 (by rw [fSes, cif_pos ⟨_, hi_5, rfl, ho_5⟩, nt_nI (by omega), cif_neg (by decide : ¬ nI 6 = nI 0), cif_neg (by decide : ¬ nI 6 = nI 1), cif_neg (by decide : ¬ nI 6 = nI 2), cif_neg (by decide : ¬ nI 6 = nI 3), cif_neg (by decide : ¬ nI 6 = nI 4), cif_neg (by decide : ¬ nI 6 = nI 5), cif_pos rfl]; exact hz.ses hi_5 ho_5 (by decide)) rfl
    by_cases hs_16_7 : p = nI 7
    · skip
      subst hs_16_7
      refine e_tableIn (tgt := 103) (off := 87) C dX6_session_16 (by decide) (by decide) (by decide) (by decide) ?_
      refine e_aload_n C dX6_session_103 rfl ?_
      refine e_geti C (ci := 3) 7 rfl rfl rfl (by decide) b_X3 rfl b_fl_X6_174 (v9 (by decide : 0 < 8) hi_5) rfl dX6_session_104 ?_
      exact f_ir C hX dX6_session_107 (by rw [fSes, cif_pos ⟨_, hi_5, rfl, ho_5⟩, nt_nI (by omega), cif_neg (by decide : ¬ nI 7 = nI 0), cif_neg (by decide : ¬ nI 7 = nI 1), cif_neg (by decide : ¬ nI 7 = nI 2), cif_neg (by decide : ¬ nI 7 = nI 3), cif_neg (by decide : ¬ nI 7 = nI 4), cif_neg (by decide : ¬ nI 7 = nI 5), cif_neg (by decide : ¬ nI 7 = nI 6), cif_pos rfl]; exact hz.ses hi_5 ho_5 (by decide)) rfl
    by_cases hs_16_8 : p = nI 8
    · skip
      subst hs_16_8
      refine e_tableIn (tgt := 108) (off := 92) C dX6_session_16 (by decide) (by decide) (by decide) (by decide) ?_
      refine e_aload_n C dX6_session_108 rfl ?_
      refine e_geti C (ci := 3) 8 rfl rfl rfl (by decide) b_X3 rfl b_fl_X6_177 (v9 (by decide : 0 < 8) hi_5) rfl dX6_session_109 ?_
      exact f_ir C hX dX6_session_112 (by rw [fSes, cif_pos ⟨_, hi_5, rfl, ho_5⟩, nt_nI (by omega), cif_neg (by decide : ¬ nI 8 = nI 0), cif_neg (by decide : ¬ nI 8 = nI 1), cif_neg (by decide : ¬ nI 8 = nI 2), cif_neg (by decide : ¬ nI 8 = nI 3), cif_neg (by decide : ¬ nI 8 = nI 4), cif_neg (by decide : ¬ nI 8 = nI 5), cif_neg (by decide : ¬ nI 8 = nI 6), cif_neg (by decide : ¬ nI 8 = nI 7), cif_pos rfl]; exact hz.ses hi_5 ho_5 (by decide)) rfl
    refine e_tableOut (tgt := 113) C dX6_session_16 (sw9 hs_16_0 hs_16_1 hs_16_2 hs_16_3 hs_16_4 hs_16_5 hs_16_6 hs_16_7 hs_16_8) (by decide) ?_
    refine e_bipush (v := -2) C dX6_session_113 (by decide) ?_
    exact f_ir C hX dX6_session_115 (by rw [fSes, cif_pos ⟨_, hi_5, rfl, ho_5⟩, cif_neg hs_16_0, cif_neg hs_16_1, cif_neg hs_16_2, cif_neg hs_16_3, cif_neg hs_16_4, cif_neg hs_16_5, cif_neg hs_16_6, cif_neg hs_16_7, cif_neg hs_16_8]) rfl
  · skip
    refine f_astore_nN (ls1 := [_, _, _, _]) C dX6_session_8 (by decide) rfl ?_
    refine e_aload_nN C dX6_session_9 rfl ?_
    refine e_ifnonnullN C dX6_session_10 ?_
    refine e_iconst (v := -1) C dX6_session_13 (by decide) ?_
    exact f_ir C hX dX6_session_14 (by rw [fSes, cif_neg hc_5]) rfl
set_option maxRecDepth 100000 in
set_option maxHeartbeats 4000000 in
theorem c_X6_latest {E : EV} {l : Launch} {mem : MEM} {z : ZZ} (hz : RelS mem 0 z) (hL : z 1 = -6 → z 2 = -6 ∧ z 3 = -6) {p : Int32} : Ct E l yX6_latest (me_ws yX6_latest cX6_latest 2 (some .int)) 2 [rv (0, 0, 0), iv p] mem (Ret (iv (fLat z p)) mem) := by
  refine Ct.of (RC := RX6) (ls0 := [rv (0, 0, 0), iv p]) mi_yX6_latest (Nat.le_of_ble_eq_true rfl) rfl (fun X C hX => ?_)
  refine e_iload_n C dX6_latest_0 rfl ?_
  refine e_iconst (v := nI 0) C dX6_latest_1 (by decide) ?_
  refine e_iconst (v := nI 2) C dX6_latest_2 (by decide) ?_
  refine f_callSr (As := [_, _, _]) C mi_yX6_isWithin b_st_yX6_isWithin b_ml_X6_189 dX6_latest_3 rfl c_X6_isWithin (by decide) (Nat.le_of_ble_eq_true rfl) ?_
  refine f_if_ne (tgt := 12) C dX6_latest_6 (by decide) (fun h_6 => ?_) (fun h_6 => ?_)
  · skip
    refine e_aload_n C dX6_latest_12 rfl ?_
    refine e_getr C (ci := 6) 0 rfl rfl rfl (by decide) b_X6 rfl b_fl_X6_12 v0 rfl dX6_latest_13 ?_
    refine e_geti C (ci := 4) 4 rfl rfl rfl (by decide) b_X4 rfl b_fl_X6_193 (v1 (by decide : 0 < 8)) rfl dX6_latest_16 ?_
    refine e_bipush (v := -6) C dX6_latest_19 (by decide) ?_
    refine e_icmp_ne (tgt := 27) C dX6_latest_21 (by decide) (fun h_21 => ?_) (fun h_21 => ?_)
    · skip
      rw [hz.lp] at h_21
      refine e_iload_n C dX6_latest_27 rfl ?_
      by_cases hs_28_0 : p = nI 0
      · skip
        subst hs_28_0
        refine e_lookup (tgt := 56) (off := 28) C dX6_latest_28 (by decide) (by decide) (by decide) ?_
        refine e_aload_n C dX6_latest_56 rfl ?_
        refine e_getr C (ci := 6) 0 rfl rfl rfl (by decide) b_X6 rfl b_fl_X6_12 v0 rfl dX6_latest_57 ?_
        refine e_geti C (ci := 4) 4 rfl rfl rfl (by decide) b_X4 rfl b_fl_X6_193 (v1 (by decide : 0 < 8)) rfl dX6_latest_60 ?_
        exact f_ir C hX dX6_latest_63 (by rw [fLat, cif_pos h_6]; exact hz.lp) rfl
      by_cases hs_28_1 : p = nI 1
      · skip
        subst hs_28_1
        refine e_lookup (tgt := 64) (off := 36) C dX6_latest_28 (by decide) (by decide) (by decide) ?_
        refine e_aload_n C dX6_latest_64 rfl ?_
        refine e_getr C (ci := 6) 0 rfl rfl rfl (by decide) b_X6 rfl b_fl_X6_12 v0 rfl dX6_latest_65 ?_
        refine e_geti C (ci := 4) 5 rfl rfl rfl (by decide) b_X4 rfl b_fl_X6_196 (v1 (by decide : 0 < 8)) rfl dX6_latest_68 ?_
        exact f_ir C hX dX6_latest_71 (by rw [fLat, cif_pos h_6]; exact hz.lv h_21) rfl
      by_cases hs_28_2 : p = nI 2
      · skip
        subst hs_28_2
        refine e_lookup (tgt := 72) (off := 44) C dX6_latest_28 (by decide) (by decide) (by decide) ?_
        refine e_aload_n C dX6_latest_72 rfl ?_
        refine e_getr C (ci := 6) 0 rfl rfl rfl (by decide) b_X6 rfl b_fl_X6_12 v0 rfl dX6_latest_73 ?_
        refine e_geti C (ci := 4) 6 rfl rfl rfl (by decide) b_X4 rfl b_fl_X6_199 (v1 (by decide : 0 < 8)) rfl dX6_latest_76 ?_
        exact f_ir C hX dX6_latest_79 (by rw [fLat, cif_pos h_6]; exact hz.lt h_21) rfl
      exact ((in3 h_6).elim hs_28_0 (fun q => q.elim hs_28_1 hs_28_2)).elim
    · skip
      rw [hz.lp] at h_21
      refine e_bipush (v := -6) C dX6_latest_24 (by decide) ?_
      refine f_ir C hX dX6_latest_26 ?_ rfl
      rw [fLat, cif_pos h_6]
      obtain ⟨l2, l3⟩ := hL h_21
      rcases in3 h_6 with rfl | rfl | rfl
      · exact h_21.symm
      · exact l2.symm
      · exact l3.symm
  · skip
    refine e_bipush (v := -2) C dX6_latest_9 (by decide) ?_
    exact f_ir C hX dX6_latest_11 (by rw [fLat, cif_neg h_6]) rfl
set_option maxRecDepth 100000 in
set_option maxHeartbeats 4000000 in
theorem c_X6_waitFor {E : EV} {l : Launch} {mem : MEM} {z : ZZ} (hz : RelS mem 0 z) {c : Nat} (hI : Inv z c) {s key place : Int32} : Ct E l yX6_waitFor (me_ws yX6_waitFor cX6_waitFor 5 (some .int)) 6 [rv (0, 0, 0), iv s, iv key, iv place] mem (Ret (iv (fWai z s key place)) mem) := by
  refine Ct.of (RC := RX6) (ls0 := [rv (0, 0, 0), iv s, iv key, iv place, uv]) mi_yX6_waitFor (Nat.le_of_ble_eq_true rfl) rfl (fun X C hX => ?_)
  refine e_aload_n C dX6_waitFor_0 rfl ?_
  refine e_getr C (ci := 6) 0 rfl rfl rfl (by decide) b_X6 rfl b_fl_X6_12 v0 rfl dX6_waitFor_1 ?_
  refine e_iload_n C dX6_waitFor_4 rfl ?_
  refine f_callVo (As := [_]) (ci := 4) C mi_yX4_findSession mv_yX4_findSession b_ml_X6_147 dX6_waitFor_5 rfl (c_X4_findSession (by decide : 0 < 8) (by assumption)) (by decide) (v1 (by decide : 0 < 8)) rfl rfl (Nat.le_of_ble_eq_true rfl) (fun ri_5 hc_5 => ?_) (fun hc_5 => ?_)
  · skip
    obtain ⟨i_5, hi_5, rfl, ho_5, rfl⟩ := hc_5
    refine f_astore (ls1 := [_, _, _, _, _]) C dX6_waitFor_8 (by decide) rfl ?_
    refine e_aload C dX6_waitFor_10 rfl ?_
    refine e_ifnull C dX6_waitFor_12 ?_
    refine e_iload_n C dX6_waitFor_15 rfl ?_
    refine f_callSr (As := [_]) C mi_yX6_isKey b_st_yX6_isKey b_ml_X6_113 dX6_waitFor_16 rfl c_X6_isKey (by decide) (Nat.le_of_ble_eq_true rfl) ?_
    refine f_if_eq (tgt := 33) C dX6_waitFor_19 (by decide) (fun h_19 => ?_) (fun h_19 => ?_)
    · skip
      refine e_iconst (v := -1) C dX6_waitFor_33 (by decide) ?_
      exact f_ir C hX dX6_waitFor_34 (by rw [fWai, cif_neg (fun q => h_19 q.2.1)]) rfl
    · skip
      refine e_aload_n C dX6_waitFor_22 rfl ?_
      refine e_getr C (ci := 6) 0 rfl rfl rfl (by decide) b_X6 rfl b_fl_X6_12 v0 rfl dX6_waitFor_23 ?_
      refine e_iload_n C dX6_waitFor_26 rfl ?_
      refine f_callVr (As := [_]) (ci := 4) C mi_yX4_hasPlace mv_yX4_hasPlace b_ml_X6_110 dX6_waitFor_27 rfl (c_X4_hasPlace (by decide : 0 < 8) (by assumption)) (by decide) (v1 (by decide : 0 < 8)) rfl rfl (Nat.le_of_ble_eq_true rfl) ?_
      refine f_if_ne (tgt := 35) C dX6_waitFor_30 (by decide) (fun h_30 => ?_) (fun h_30 => ?_)
      · skip
        refine e_aload_n C dX6_waitFor_35 rfl ?_
        refine e_getr C (ci := 6) 0 rfl rfl rfl (by decide) b_X6 rfl b_fl_X6_12 v0 rfl dX6_waitFor_36 ?_
        refine e_aload C dX6_waitFor_39 rfl ?_
        refine e_iload_n C dX6_waitFor_41 rfl ?_
        refine e_iload_n C dX6_waitFor_42 rfl ?_
        refine f_callVr (As := [_, _, _]) (ci := 4) C mi_yX4_waitOf mv_yX4_waitOf b_ml_X6_202 dX6_waitFor_43 rfl (c_X4_waitOf (by decide) hz hI hi_5 ho_5) (by decide) (v1 (by decide : 0 < 8)) rfl rfl (Nat.le_of_ble_eq_true rfl) ?_
        exact f_ir C hX dX6_waitFor_46 (by rw [fWai, cif_pos ⟨⟨_, hi_5, rfl, ho_5⟩, h_19, h_30⟩, nt_nI (by omega)]) rfl
      · skip
        refine e_iconst (v := -1) C dX6_waitFor_33 (by decide) ?_
        exact f_ir C hX dX6_waitFor_34 (by rw [fWai, cif_neg (fun q => h_30 q.2.2)]) rfl
  · skip
    refine f_astoreN (ls1 := [_, _, _, _, _]) C dX6_waitFor_8 (by decide) rfl ?_
    refine e_aloadN C dX6_waitFor_10 rfl ?_
    refine e_ifnullN (tgt := 33) C dX6_waitFor_12 (by decide) ?_
    refine e_iconst (v := -1) C dX6_waitFor_33 (by decide) ?_
    exact f_ir C hX dX6_waitFor_34 (by rw [fWai, cif_neg (fun q => hc_5 q.1)]) rfl
set_option maxRecDepth 100000 in
set_option maxHeartbeats 4000000 in
theorem lp_X6_bestReplica {E : EV} {l : Launch} {X : CX} {mem : MEM} {z : ZZ} (hz : RelS mem 0 z) {c : Nat} (hI : Inv z c) {s : Nat} (hs : s < 8) (ho : sz z s 0 = 1) {key : Int32} (hk : isK key) (C : CK E X RX6 cX6_bestReplica 8 (some .int) 6) (hX : EX E X l (Ret (iv (fBest z (nI s) key)) mem)) : ∀ (lpn : Nat) (i : Nat) (b w : Int32) (x7 : VV), 5 - i < lpn → i ≤ 5 → b = (bst z s key i).1 → w = (bst z s key i).2 → G E X 8 32 [rv (0, 0, 0), iv (nI s), iv key, rv (9, 0, s), iv b, iv w, iv (nI i), x7] [] mem := by
  intro lpn
  induction lpn with
  | zero => intro i b w x7 hlpn; exact absurd hlpn (Nat.not_lt_zero _)
  | succ lpn ih =>
    intro i b w x7 hlpn hi hb hw
    refine e_iload C dX6_bestReplica_32 rfl ?_
    refine e_iconst (v := nI 5) C dX6_bestReplica_34 (by decide) ?_
    refine e_icmp_ge (tgt := 86) C dX6_bestReplica_35 (by decide) (fun h_35 => ?_) (fun h_35 => ?_)
    · skip
      have nh_35 := xI_leD (by omega) (by omega) h_35
      refine e_iload C dX6_bestReplica_86 rfl ?_
      obtain rfl : i = 5 := by omega
      exact f_ir C hX dX6_bestReplica_88 (by rw [fBest, cif_pos ⟨⟨_, hs, rfl, ho⟩, hk⟩, nt_nI (by omega)]; exact hb) rfl
    · skip
      have nh_35 := xI_nleD (by omega) (by omega) h_35
      refine e_aload_n C dX6_bestReplica_38 rfl ?_
      refine e_getr C (ci := 6) 0 rfl rfl rfl (by decide) b_X6 rfl b_fl_X6_12 v0 rfl dX6_bestReplica_39 ?_
      refine e_aload_n C dX6_bestReplica_42 rfl ?_
      refine e_iload_n C dX6_bestReplica_43 rfl ?_
      refine e_iload C dX6_bestReplica_44 rfl ?_
      refine f_callVr (As := [_, _, _]) (ci := 4) C mi_yX4_waitOf mv_yX4_waitOf b_ml_X6_202 dX6_bestReplica_46 rfl (c_X4_waitOf (by decide) hz hI hs ho) (by decide) (v1 (by decide : 0 < 8)) rfl rfl (Nat.le_of_ble_eq_true rfl) ?_
      refine f_istore (ls1 := [_, _, _, _, _, _, _, _]) C dX6_bestReplica_49 (by decide) rfl ?_
      refine e_iload C dX6_bestReplica_51 rfl ?_
      refine e_bipush (v := -6) C dX6_bestReplica_53 (by decide) ?_
      refine e_icmp_eq (tgt := 80) C dX6_bestReplica_55 (by decide) (fun h_55 => ?_) (fun h_55 => ?_)
      · skip
        refine f_iincn (ls1 := [_, _, _, _, _, _, _, _]) C dX6_bestReplica_80 rfl (by decide) rfl ?_
        refine e_goto (tgt := 32) C dX6_bestReplica_83 (by decide) ?_
        exact ih (i + 1) b w _ (by omega) (by omega) (by rw [bst, cif_neg (fun q => q.1 h_55)]; exact hb) (by rw [bst, cif_neg (fun q => q.1 h_55)]; exact hw)
      · skip
        refine e_iload C dX6_bestReplica_58 rfl ?_
        refine e_bipush (v := -6) C dX6_bestReplica_60 (by decide) ?_
        refine e_icmp_eq (tgt := 72) C dX6_bestReplica_62 (by decide) (fun h_62 => ?_) (fun h_62 => ?_)
        · skip
          refine e_iload C dX6_bestReplica_72 rfl ?_
          refine f_istore (ls1 := [_, _, _, _, _, _, _, _]) C dX6_bestReplica_74 (by decide) rfl ?_
          refine e_iload C dX6_bestReplica_76 rfl ?_
          refine f_istore (ls1 := [_, _, _, _, _, _, _, _]) C dX6_bestReplica_78 (by decide) rfl ?_
          refine f_iincn (ls1 := [_, _, _, _, _, _, _, _]) C dX6_bestReplica_80 rfl (by decide) rfl ?_
          refine e_goto (tgt := 32) C dX6_bestReplica_83 (by decide) ?_
          exact ih (i + 1) _ _ _ (by omega) (by omega) (by rw [bst, cif_pos ⟨h_55, Or.inl (hb ▸ h_62)⟩]) (by rw [bst, cif_pos ⟨h_55, Or.inl (hb ▸ h_62)⟩])
        · skip
          refine e_iload C dX6_bestReplica_65 rfl ?_
          refine e_iload C dX6_bestReplica_67 rfl ?_
          refine e_icmp_ge (tgt := 80) C dX6_bestReplica_69 (by decide) (fun h_69 => ?_) (fun h_69 => ?_)
          · skip
            refine f_iincn (ls1 := [_, _, _, _, _, _, _, _]) C dX6_bestReplica_80 rfl (by decide) rfl ?_
            refine e_goto (tgt := 32) C dX6_bestReplica_83 (by decide) ?_
            exact ih (i + 1) b w _ (by omega) (by omega) (by rw [bst, cif_neg (fun q => q.2.elim (fun r => h_62 (hb ▸ r)) (fun r => by rw [hw, Int32.le_iff_toInt_le] at h_69; rw [Int32.lt_iff_toInt_lt] at r; omega))]; exact hb) (by rw [bst, cif_neg (fun q => q.2.elim (fun r => h_62 (hb ▸ r)) (fun r => by rw [hw, Int32.le_iff_toInt_le] at h_69; rw [Int32.lt_iff_toInt_lt] at r; omega))]; exact hw)
          · skip
            refine e_iload C dX6_bestReplica_72 rfl ?_
            refine f_istore (ls1 := [_, _, _, _, _, _, _, _]) C dX6_bestReplica_74 (by decide) rfl ?_
            refine e_iload C dX6_bestReplica_76 rfl ?_
            refine f_istore (ls1 := [_, _, _, _, _, _, _, _]) C dX6_bestReplica_78 (by decide) rfl ?_
            refine f_iincn (ls1 := [_, _, _, _, _, _, _, _]) C dX6_bestReplica_80 rfl (by decide) rfl ?_
            refine e_goto (tgt := 32) C dX6_bestReplica_83 (by decide) ?_
            exact ih (i + 1) _ _ _ (by omega) (by omega) (by rw [bst, cif_pos ⟨h_55, Or.inr (by rw [hw, Int32.le_iff_toInt_le] at h_69; rw [Int32.lt_iff_toInt_lt]; omega)⟩]) (by rw [bst, cif_pos ⟨h_55, Or.inr (by rw [hw, Int32.le_iff_toInt_le] at h_69; rw [Int32.lt_iff_toInt_lt]; omega)⟩])
set_option maxRecDepth 100000 in
set_option maxHeartbeats 4000000 in
theorem c_X6_bestReplica {E : EV} {l : Launch} {mem : MEM} {z : ZZ} (hz : RelS mem 0 z) {c : Nat} (hI : Inv z c) {s key : Int32} : Ct E l yX6_bestReplica (me_ws yX6_bestReplica cX6_bestReplica 8 (some .int)) 6 [rv (0, 0, 0), iv s, iv key] mem (Ret (iv (fBest z s key)) mem) := by
  refine Ct.of (RC := RX6) (ls0 := [rv (0, 0, 0), iv s, iv key, uv, uv, uv, uv, uv]) mi_yX6_bestReplica (Nat.le_of_ble_eq_true rfl) rfl (fun X C hX => ?_)
  refine e_aload_n C dX6_bestReplica_0 rfl ?_
  refine e_getr C (ci := 6) 0 rfl rfl rfl (by decide) b_X6 rfl b_fl_X6_12 v0 rfl dX6_bestReplica_1 ?_
  refine e_iload_n C dX6_bestReplica_4 rfl ?_
  refine f_callVo (As := [_]) (ci := 4) C mi_yX4_findSession mv_yX4_findSession b_ml_X6_147 dX6_bestReplica_5 rfl (c_X4_findSession (by decide : 0 < 8) (by assumption)) (by decide) (v1 (by decide : 0 < 8)) rfl rfl (Nat.le_of_ble_eq_true rfl) (fun ri_5 hc_5 => ?_) (fun hc_5 => ?_)
  · skip
    obtain ⟨i_5, hi_5, rfl, ho_5, rfl⟩ := hc_5
    refine f_astore_n (ls1 := [_, _, _, _, _, _, _, _]) C dX6_bestReplica_8 (by decide) rfl ?_
    refine e_aload_n C dX6_bestReplica_9 rfl ?_
    refine e_ifnull C dX6_bestReplica_10 ?_
    refine e_iload_n C dX6_bestReplica_13 rfl ?_
    refine f_callSr (As := [_]) C mi_yX6_isKey b_st_yX6_isKey b_ml_X6_113 dX6_bestReplica_14 rfl c_X6_isKey (by decide) (Nat.le_of_ble_eq_true rfl) ?_
    refine f_if_ne (tgt := 22) C dX6_bestReplica_17 (by decide) (fun h_17 => ?_) (fun h_17 => ?_)
    · skip
      refine e_bipush (v := -6) C dX6_bestReplica_22 (by decide) ?_
      refine f_istore (ls1 := [_, _, _, _, _, _, _, _]) C dX6_bestReplica_24 (by decide) rfl ?_
      refine e_iconst (v := nI 0) C dX6_bestReplica_26 (by decide) ?_
      refine f_istore (ls1 := [_, _, _, _, _, _, _, _]) C dX6_bestReplica_27 (by decide) rfl ?_
      refine e_iconst (v := nI 0) C dX6_bestReplica_29 (by decide) ?_
      refine f_istore (ls1 := [_, _, _, _, _, _, _, _]) C dX6_bestReplica_30 (by decide) rfl ?_
      exact lp_X6_bestReplica hz hI hi_5 ho_5 h_17 C hX 6 0 _ _ _ (by decide) (by decide) rfl rfl
    · skip
      refine e_iconst (v := -1) C dX6_bestReplica_20 (by decide) ?_
      exact f_ir C hX dX6_bestReplica_21 (by rw [fBest, cif_neg (fun q => h_17 q.2)]) rfl
  · skip
    refine f_astore_nN (ls1 := [_, _, _, _, _, _, _, _]) C dX6_bestReplica_8 (by decide) rfl ?_
    refine e_aload_nN C dX6_bestReplica_9 rfl ?_
    refine e_ifnullN (tgt := 20) C dX6_bestReplica_10 (by decide) ?_
    refine e_iconst (v := -1) C dX6_bestReplica_20 (by decide) ?_
    exact f_ir C hX dX6_bestReplica_21 (by rw [fBest, cif_neg (fun q => hc_5 q.1)]) rfl
set_option maxRecDepth 100000 in
set_option maxHeartbeats 4000000 in
theorem lp_X6_keysAfter {E : EV} {l : Launch} {X : CX} {mem : MEM} {z : ZZ} (hz : RelS mem 0 z) {c : Nat} (hI : Inv z c) {s : Nat} (hs : s < 8) (ho : sz z s 0 = 1) {place t : Int32} (hp : isP z place) (ht : nI 0 ≤ t ∧ t ≤ nI 99) (C : CK E X RX6 cX6_keysAfter 8 (some .int) 6) (hX : EX E X l (Ret (iv (fKeys z (nI s) place t)) mem)) : ∀ (lpn : Nat) (i w : Nat) (x7 : VV), 12 - i < lpn → i ≤ 12 → w = kaf z s place t i → G E X 8 47 [rv (0, 0, 0), iv (nI s), iv place, iv t, rv (9, 0, s), iv (nI w), iv (nI i), x7] [] mem := by
  intro lpn
  induction lpn with
  | zero => intro i w x7 hlpn; exact absurd hlpn (Nat.not_lt_zero _)
  | succ lpn ih =>
    intro i w x7 hlpn hi hw
    refine e_iload C dX6_keysAfter_47 rfl ?_
    refine e_bipush (v := nI 12) C dX6_keysAfter_49 (by decide) ?_
    refine e_icmp_ge (tgt := 90) C dX6_keysAfter_51 (by decide) (fun h_51 => ?_) (fun h_51 => ?_)
    · skip
      have nh_51 := xI_leD (by omega) (by omega) h_51
      refine e_iload C dX6_keysAfter_90 rfl ?_
      obtain rfl : i = 12 := by omega
      exact f_ir C hX dX6_keysAfter_92 (by rw [fKeys, cif_pos ⟨⟨_, hs, rfl, ho⟩, hp⟩, cif_pos ht, nt_nI (by omega), hw]) rfl
    · skip
      have nh_51 := xI_nleD (by omega) (by omega) h_51
      refine e_aload_n C dX6_keysAfter_54 rfl ?_
      refine e_getr C (ci := 6) 0 rfl rfl rfl (by decide) b_X6 rfl b_fl_X6_12 v0 rfl dX6_keysAfter_55 ?_
      refine e_aload C dX6_keysAfter_58 rfl ?_
      refine e_iload C dX6_keysAfter_60 rfl ?_
      refine e_iload_n C dX6_keysAfter_62 rfl ?_
      refine f_callVr (As := [_, _, _]) (ci := 4) C mi_yX4_waitOf mv_yX4_waitOf b_ml_X6_202 dX6_keysAfter_63 rfl (c_X4_waitOf (by decide) hz hI hs ho) (by decide) (v1 (by decide : 0 < 8)) rfl rfl (Nat.le_of_ble_eq_true rfl) ?_
      refine f_istore (ls1 := [_, _, _, _, _, _, _, _]) C dX6_keysAfter_66 (by decide) rfl ?_
      refine e_iload C dX6_keysAfter_68 rfl ?_
      refine e_bipush (v := -6) C dX6_keysAfter_70 (by decide) ?_
      refine e_icmp_eq (tgt := 84) C dX6_keysAfter_72 (by decide) (fun h_72 => ?_) (fun h_72 => ?_)
      · skip
        refine f_iincn (ls1 := [_, _, _, _, _, _, _, _]) C dX6_keysAfter_84 rfl (by decide) rfl ?_
        refine e_goto (tgt := 47) C dX6_keysAfter_87 (by decide) ?_
        exact ih (i + 1) w _ (by omega) (by omega) (by rw [kaf, cif_neg (fun q => q.1 h_72)]; omega)
      · skip
        refine e_iload C dX6_keysAfter_75 rfl ?_
        refine e_iload_n C dX6_keysAfter_77 rfl ?_
        refine e_icmp_gt (tgt := 84) C dX6_keysAfter_78 (by decide) (fun h_78 => ?_) (fun h_78 => ?_)
        · skip
          refine f_iincn (ls1 := [_, _, _, _, _, _, _, _]) C dX6_keysAfter_84 rfl (by decide) rfl ?_
          refine e_goto (tgt := 47) C dX6_keysAfter_87 (by decide) ?_
          exact ih (i + 1) w _ (by omega) (by omega) (by rw [kaf, cif_neg (fun q => by have r := q.2; rw [Int32.le_iff_toInt_le] at r; rw [Int32.lt_iff_toInt_lt] at h_78; omega)]; omega)
        · skip
          refine f_iincn (ls1 := [_, _, _, _, _, _, _, _]) C dX6_keysAfter_81 rfl (by decide) rfl ?_
          refine f_iincn (ls1 := [_, _, _, _, _, _, _, _]) C dX6_keysAfter_84 rfl (by decide) rfl ?_
          refine e_goto (tgt := 47) C dX6_keysAfter_87 (by decide) ?_
          exact ih (i + 1) (w + 1) _ (by omega) (by omega) (by rw [kaf, cif_pos ⟨h_72, by rw [Int32.le_iff_toInt_le]; rw [Int32.lt_iff_toInt_lt] at h_78; omega⟩]; omega)
set_option maxRecDepth 100000 in
set_option maxHeartbeats 4000000 in
theorem c_X6_keysAfter {E : EV} {l : Launch} {mem : MEM} {z : ZZ} (hz : RelS mem 0 z) {c : Nat} (hI : Inv z c) {s place t : Int32} : Ct E l yX6_keysAfter (me_ws yX6_keysAfter cX6_keysAfter 8 (some .int)) 6 [rv (0, 0, 0), iv s, iv place, iv t] mem (Ret (iv (fKeys z s place t)) mem) := by
  refine Ct.of (RC := RX6) (ls0 := [rv (0, 0, 0), iv s, iv place, iv t, uv, uv, uv, uv]) mi_yX6_keysAfter (Nat.le_of_ble_eq_true rfl) rfl (fun X C hX => ?_)
  refine e_aload_n C dX6_keysAfter_0 rfl ?_
  refine e_getr C (ci := 6) 0 rfl rfl rfl (by decide) b_X6 rfl b_fl_X6_12 v0 rfl dX6_keysAfter_1 ?_
  refine e_iload_n C dX6_keysAfter_4 rfl ?_
  refine f_callVo (As := [_]) (ci := 4) C mi_yX4_findSession mv_yX4_findSession b_ml_X6_147 dX6_keysAfter_5 rfl (c_X4_findSession (by decide : 0 < 8) (by assumption)) (by decide) (v1 (by decide : 0 < 8)) rfl rfl (Nat.le_of_ble_eq_true rfl) (fun ri_5 hc_5 => ?_) (fun hc_5 => ?_)
  · skip
    obtain ⟨i_5, hi_5, rfl, ho_5, rfl⟩ := hc_5
    refine f_astore (ls1 := [_, _, _, _, _, _, _, _]) C dX6_keysAfter_8 (by decide) rfl ?_
    refine e_aload C dX6_keysAfter_10 rfl ?_
    refine e_ifnull C dX6_keysAfter_12 ?_
    refine e_aload_n C dX6_keysAfter_15 rfl ?_
    refine e_getr C (ci := 6) 0 rfl rfl rfl (by decide) b_X6 rfl b_fl_X6_12 v0 rfl dX6_keysAfter_16 ?_
    refine e_iload_n C dX6_keysAfter_19 rfl ?_
    refine f_callVr (As := [_]) (ci := 4) C mi_yX4_hasPlace mv_yX4_hasPlace b_ml_X6_110 dX6_keysAfter_20 rfl (c_X4_hasPlace (by decide : 0 < 8) (by assumption)) (by decide) (v1 (by decide : 0 < 8)) rfl rfl (Nat.le_of_ble_eq_true rfl) ?_
    refine f_if_ne (tgt := 28) C dX6_keysAfter_23 (by decide) (fun h_23 => ?_) (fun h_23 => ?_)
    · skip
      refine e_iload_n C dX6_keysAfter_28 rfl ?_
      refine e_iconst (v := nI 0) C dX6_keysAfter_29 (by decide) ?_
      refine e_bipush (v := nI 99) C dX6_keysAfter_30 (by decide) ?_
      refine f_callSr (As := [_, _, _]) C mi_yX6_isWithin b_st_yX6_isWithin b_ml_X6_189 dX6_keysAfter_32 rfl c_X6_isWithin (by decide) (Nat.le_of_ble_eq_true rfl) ?_
      refine f_if_ne (tgt := 41) C dX6_keysAfter_35 (by decide) (fun h_35 => ?_) (fun h_35 => ?_)
      · skip
        refine e_iconst (v := nI 0) C dX6_keysAfter_41 (by decide) ?_
        refine f_istore (ls1 := [_, _, _, _, _, _, _, _]) C dX6_keysAfter_42 (by decide) rfl ?_
        refine e_iconst (v := nI 0) C dX6_keysAfter_44 (by decide) ?_
        refine f_istore (ls1 := [_, _, _, _, _, _, _, _]) C dX6_keysAfter_45 (by decide) rfl ?_
        exact lp_X6_keysAfter hz hI hi_5 ho_5 h_23 h_35 C hX 13 0 0 _ (by decide) (by decide) rfl
      · skip
        refine e_bipush (v := -2) C dX6_keysAfter_38 (by decide) ?_
        exact f_ir C hX dX6_keysAfter_40 (by rw [fKeys, cif_pos ⟨⟨_, hi_5, rfl, ho_5⟩, h_23⟩, cif_neg h_35]) rfl
    · skip
      refine e_iconst (v := -1) C dX6_keysAfter_26 (by decide) ?_
      exact f_ir C hX dX6_keysAfter_27 (by rw [fKeys, cif_neg (fun q => h_23 q.2)]) rfl
  · skip
    refine f_astoreN (ls1 := [_, _, _, _, _, _, _, _]) C dX6_keysAfter_8 (by decide) rfl ?_
    refine e_aloadN C dX6_keysAfter_10 rfl ?_
    refine e_ifnullN (tgt := 26) C dX6_keysAfter_12 (by decide) ?_
    refine e_iconst (v := -1) C dX6_keysAfter_26 (by decide) ?_
    exact f_ir C hX dX6_keysAfter_27 (by rw [fKeys, cif_neg (fun q => hc_5 q.1)]) rfl
set_option maxRecDepth 100000 in
set_option maxHeartbeats 4000000 in
theorem lp_X6_catchUp {E : EV} {l : Launch} {X : CX} {mem : MEM} {z : ZZ} (hz : RelS mem 0 z) {c : Nat} (hI : Inv z c) (C : CK E X RX6 cX6_catchUp 5 (some .int) 3) (hX : EX E X l (Ret (iv (cup z 5)) mem)) : ∀ (lpn : Nat) (i w : Nat) (x3 x4 : VV), 5 - i < lpn → i ≤ 5 → w < 2 ^ 31 → nI w = cup z i → G E X 5 4 [rv (0, 0, 0), iv (nI w), iv (nI i), x3, x4] [] mem := by
  intro lpn
  induction lpn with
  | zero => intro i w x3 x4 hlpn; exact absurd hlpn (Nat.not_lt_zero _)
  | succ lpn ih =>
    intro i w x3 x4 hlpn hi hwl hw
    have hc200 := hI.1
    have hcn := hI.2.1
    have hcn6 : ¬ cup z i = -6 := by rw [← hw]; exact nI_neN hwl (by decide)
    refine e_iload_n C dX6_catchUp_4 rfl ?_
    refine e_iconst (v := nI 5) C dX6_catchUp_5 (by decide) ?_
    refine e_icmp_ge (tgt := 61) C dX6_catchUp_6 (by decide) (fun h_6 => ?_) (fun h_6 => ?_)
    · skip
      have nh_6 := xI_leD (by omega) (by omega) h_6
      refine e_iload_n C dX6_catchUp_61 rfl ?_
      obtain rfl : i = 5 := by omega
      exact f_ir C hX dX6_catchUp_62 hw rfl
    · skip
      have nh_6 := xI_nleD (by omega) (by omega) h_6
      refine e_aload_n C dX6_catchUp_9 rfl ?_
      refine e_getr C (ci := 6) 0 rfl rfl rfl (by decide) b_X6 rfl b_fl_X6_12 v0 rfl dX6_catchUp_10 ?_
      refine e_iload_n C dX6_catchUp_13 rfl ?_
      refine f_callVo (As := [_]) (ci := 4) C mi_yX4_findReplica mv_yX4_findReplica b_ml_X6_69 dX6_catchUp_14 rfl (c_X4_findReplica (by decide : 0 < 8) (by assumption)) (by decide) (v1 (by decide : 0 < 8)) rfl rfl (Nat.le_of_ble_eq_true rfl) (fun ri_14 hc_14 => ?_) (fun hc_14 => ?_)
      · skip
        obtain ⟨i_14, hi_14, e_14, ho_14, rfl⟩ := hc_14
        obtain rfl := xI_inj (by omega) (by omega) e_14
        refine f_astore_n (ls1 := [_, _, _, _, _]) C dX6_catchUp_17 (by decide) rfl ?_
        refine e_aload_n C dX6_catchUp_18 rfl ?_
        refine e_ifnull C dX6_catchUp_19 ?_
        refine e_aload_n C dX6_catchUp_22 rfl ?_
        refine e_aload_n C dX6_catchUp_23 rfl ?_
        refine e_getr C (ci := 6) 0 rfl rfl rfl (by decide) b_X6 rfl b_fl_X6_12 v0 rfl dX6_catchUp_24 ?_
        refine e_getr C (ci := 4) 0 rfl rfl rfl (by decide) b_X4 rfl b_fl_X6_85 (v1 (by decide : 0 < 8)) rfl dX6_catchUp_27 ?_
        refine e_geti C (ci := 1) 0 rfl rfl rfl (by decide) b_X1 rfl b_fl_X6_89 (v2 (by decide : 0 < 8)) rfl dX6_catchUp_30 ?_
        refine f_val (y := nI (c)) (by rw [hz.cnt]; exact hcn) ?_
        obtain ⟨pp, qq, hpp, hqq, epp, eqq, hst⟩ := hI.reps (by omega) ho_14
        refine f_callVr (As := [_]) (ci := 2) C mi_yX2_ticksTo mv_yX2_ticksTo b_ml_X6_206 dX6_catchUp_33 rfl (c_X2_ticksTo (by decide) (by omega) (by rw [hz.rep (by omega) (by decide)]; exact epp) (by rw [hz.rep (by omega) (by decide)]; exact eqq) (by omega) (by omega) hqq) (by decide) (v8 (by decide : 0 < 8) (by omega)) rfl rfl (Nat.le_of_ble_eq_true rfl) ?_
        have ec : tkz pp c (mem (8, 0, i) 3) (mem (8, 0, i) 2) = cupw z i := by rw [cupw, epp, hcn, nt_nI (by omega), nt_nI (by omega), hz.rep (by omega) (by decide), hz.rep (by omega) (by decide)]
        rw [ec]
        refine f_istore (ls1 := [_, _, _, _, _]) C dX6_catchUp_36 (by decide) rfl ?_
        refine e_iload C dX6_catchUp_38 rfl ?_
        refine e_bipush (v := -6) C dX6_catchUp_40 (by decide) ?_
        refine e_icmp_ne (tgt := 48) C dX6_catchUp_42 (by decide) (fun h_42 => ?_) (fun h_42 => ?_)
        · skip
          refine e_iload_n C dX6_catchUp_48 rfl ?_
          refine e_iload C dX6_catchUp_49 rfl ?_
          refine e_mmax C b_ml_X6_209 dX6_catchUp_51 (Nat.le_of_ble_eq_true rfl) (by decide) ?_
          obtain ⟨w2, hw2, ew2⟩ : ∃ w2, w2 < 2 ^ 31 ∧ cupw z i = nI w2 := by
            rw [← ec, hz.rep (by omega) (by decide), hz.rep (by omega) (by decide), eqq] at h_42 ⊢
            exact (tkz_nat (st := rz z i 3) (by omega) hc200 hqq).resolve_left h_42
          rw [show (if nI w < cupw z i then cupw z i else nI w) = nI (max w w2) from by rw [ew2]; exact maxI_nI hwl hw2]
          refine f_istore_n (ls1 := [_, _, _, _, _]) C dX6_catchUp_54 (by decide) rfl ?_
          refine f_iincn (ls1 := [_, _, _, _, _]) C dX6_catchUp_55 rfl (by decide) rfl ?_
          refine e_goto (tgt := 4) C dX6_catchUp_58 (by decide) ?_
          exact ih (i + 1) (max w w2) _ _ (by omega) (by omega) (by omega) (by rw [cup, cif_neg hcn6, cif_pos ho_14, cif_neg h_42, ← hw, ew2, maxI_nI hwl hw2])
        · skip
          refine e_bipush (v := -6) C dX6_catchUp_45 (by decide) ?_
          exact f_ir C hX dX6_catchUp_47 (by rw [cup_abs (n := i + 1) (by rw [cup, cif_neg hcn6, cif_pos ho_14, cif_pos h_42]) 5 (by omega)]) rfl
      · skip
        have hno_14 := fun q => hc_14 ((isR_nat (by omega)).mpr ⟨by omega, q⟩)
        refine f_astore_nN (ls1 := [_, _, _, _, _]) C dX6_catchUp_17 (by decide) rfl ?_
        refine e_aload_nN C dX6_catchUp_18 rfl ?_
        refine e_ifnullN (tgt := 55) C dX6_catchUp_19 (by decide) ?_
        refine f_iincn (ls1 := [_, _, _, _, _]) C dX6_catchUp_55 rfl (by decide) rfl ?_
        refine e_goto (tgt := 4) C dX6_catchUp_58 (by decide) ?_
        exact ih (i + 1) w _ _ (by omega) (by omega) hwl (by rw [cup, cif_neg hcn6, cif_neg hno_14]; exact hw)
set_option maxRecDepth 100000 in
set_option maxHeartbeats 4000000 in
theorem c_X6_catchUp {E : EV} {l : Launch} {mem : MEM} {z : ZZ} (hz : RelS mem 0 z) {c : Nat} (hI : Inv z c) : Ct E l yX6_catchUp (me_ws yX6_catchUp cX6_catchUp 5 (some .int)) 3 [rv (0, 0, 0)] mem (Ret (iv (cup z 5)) mem) := by
  refine Ct.of (RC := RX6) (ls0 := [rv (0, 0, 0), uv, uv, uv, uv]) mi_yX6_catchUp (Nat.le_of_ble_eq_true rfl) rfl (fun X C hX => ?_)
  refine e_iconst (v := nI 0) C dX6_catchUp_0 (by decide) ?_
  refine f_istore_n (ls1 := [_, _, _, _, _]) C dX6_catchUp_1 (by decide) rfl ?_
  refine e_iconst (v := nI 0) C dX6_catchUp_2 (by decide) ?_
  refine f_istore_n (ls1 := [_, _, _, _, _]) C dX6_catchUp_3 (by decide) rfl ?_
  exact lp_X6_catchUp hz hI C hX 6 0 0 _ _ (by decide) (by decide) (by decide) rfl
