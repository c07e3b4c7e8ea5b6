/-! ===== the class's past; its calls that may be undone ===== -/
section MRX
variable {E : EV} {X : CX} {own : String} {cc : ByteArray} {nL : Nat} {dep pc : Nat} {ls : List VV} {mem m1 : MEM} {l : Launch}
theorem f_ar {RC : String} {i : ID} (C : CK E X own cc nL (some (.object RC)) dep) (h : EX E X l (Ret (rv i) m1)) (hdg : decode cc pc = .ok (.areturn, 1)) (hm : mem = m1) : G E X nL pc ls [rv i] mem := e_aret C h hdg ⟨rfl, hm⟩
end MRX
theorem nb12 {k : Nat} : ¬ blk k (12, 0, 0) := fun q => by have := q.2.2; revert this; decide
def unA (a : AS) : Int32 × AS := if a.2.1.1 = 0 then (-3, a) else (nI (a.2.1.1 - 1), (a.2.1.2 (a.2.1.1 - 1), (a.2.1.1 - 1, a.2.1.2), a.2.2))

set_option maxRecDepth 100000 in
set_option maxHeartbeats 4000000 in
theorem c_J9_floorMod_7cf53 {E : EV} {l : Launch} {mem : MEM} {a : Nat} (ha : a < 12) : Ct E l yJ9_floorMod_7cf53 (me_ws yJ9_floorMod_7cf53 cJ9_floorMod_7cf53 3 (some .int)) 1 [iv (nI a), iv (nI 6)] mem (Ret (iv (nI (a % 6))) mem) := by
  refine Ct.of (RC := RJ9) (ls0 := [iv (nI a), iv (nI 6), uv]) mi_yJ9_floorMod_7cf53 (Nat.le_of_ble_eq_true rfl) rfl (fun X C hX => ?_)
  refine e_iload_n C dJ9_floorMod_7cf53_0 rfl ?_
  refine e_iload_n C dJ9_floorMod_7cf53_1 rfl ?_
  refine e_irem C dJ9_floorMod_7cf53_2 (by decide) ?_
  refine f_val (y := nI (a % 6)) (fm_ok a ha).1 ?_
  refine f_istore_n (ls1 := [_, _, _]) C dJ9_floorMod_7cf53_3 (by decide) rfl ?_
  refine e_iload_n C dJ9_floorMod_7cf53_4 rfl ?_
  refine e_iload_n C dJ9_floorMod_7cf53_5 rfl ?_
  refine e_ixor C dJ9_floorMod_7cf53_6 ?_
  refine e_if_ge (tgt := 18) C dJ9_floorMod_7cf53_7 (by decide) (fun h_7 => ?_) (fun h_7 => ?_)
  · skip
    refine e_iload_n C dJ9_floorMod_7cf53_18 rfl ?_
    exact f_ir C hX dJ9_floorMod_7cf53_19 rfl rfl
  · skip
    exact absurd (fm_ok a ha).2 h_7
set_option maxRecDepth 100000 in
set_option maxHeartbeats 4000000 in
theorem c_X0_stateAfterOldest {E : EV} {l : Launch} {mem : MEM} {o d : Nat} (ho : o < 6) (hd : d < 6) (he : mem (12, 0, 0) 1 = nI o) : Ct E l yX0_stateAfterOldest (me_ws yX0_stateAfterOldest cX0_stateAfterOldest 3 (some (.object "ReplicaSessions$State"))) 2 [rv (12, 0, 0), iv (nI d)] mem (Ret (rv (1, (o + d) % 6 + 2, 0)) mem) := by
  refine Ct.of (RC := RX0) (ls0 := [rv (12, 0, 0), iv (nI d), uv]) mi_yX0_stateAfterOldest (Nat.le_of_ble_eq_true rfl) rfl (fun X C hX => ?_)
  refine e_aload_n C dX0_stateAfterOldest_0 rfl ?_
  refine e_geti C (ci := 0) 1 rfl rfl rfl (by decide) b_X0 rfl b_fl_X0_17 v12 rfl dX0_stateAfterOldest_1 ?_
  refine f_val (y := nI (o)) he ?_
  refine e_iload_n C dX0_stateAfterOldest_4 rfl ?_
  refine f_iaddn C dX0_stateAfterOldest_5 ?_
  refine e_bipush (v := nI 6) C dX0_stateAfterOldest_6 (by decide) ?_
  refine f_callSr (As := [_, _]) C mi_yJ9_floorMod_7cf53 b_st_yJ9_floorMod_7cf53 b_ml_X0_37 dX0_stateAfterOldest_8 rfl (c_J9_floorMod_7cf53 (by omega)) (by decide) (Nat.le_of_ble_eq_true rfl) ?_
  refine f_istore_n (ls1 := [_, _, _]) C dX0_stateAfterOldest_11 (by decide) rfl ?_
  refine e_iload_n C dX0_stateAfterOldest_12 rfl ?_
  refine e_iconst (v := nI 0) C dX0_stateAfterOldest_13 (by decide) ?_
  refine e_iconst (v := nI 5) C dX0_stateAfterOldest_14 (by decide) ?_
  refine f_callNr (As := [_, _, _]) (host := RX6) C mi_yX6_isWithin b_st_yX6_isWithin (by decide +kernel) dX0_stateAfterOldest_15 rfl c_X6_isWithin (by decide) (Nat.le_of_ble_eq_true rfl) ?_
  refine f_if_eq (tgt := 30) C dX0_stateAfterOldest_18 (by decide) (fun h_18 => ?_) (fun h_18 => ?_)
  · skip
    exact absurd (show _ ∧ _ from ⟨(nI_leI (by omega) (by omega)).mpr (by omega), (nI_leI (by omega) (by omega)).mpr (by omega)⟩) h_18
  · skip
    refine e_aload_n C dX0_stateAfterOldest_21 rfl ?_
    refine e_getr C (ci := 0) 0 rfl rfl rfl (by decide) b_X0 rfl b_fl_X0_13 v12 rfl dX0_stateAfterOldest_22 ?_
    refine e_iload_n C dX0_stateAfterOldest_25 rfl ?_
    refine f_aaldH C (Nat.mod_lt _ (by decide)) dX0_stateAfterOldest_26 ?_
    refine e_goto (tgt := 31) C dX0_stateAfterOldest_27 (by decide) ?_
    exact f_ar C hX dX0_stateAfterOldest_31 rfl
set_option maxRecDepth 100000 in
set_option maxHeartbeats 4000000 in
theorem c_X0_prepare {E : EV} {l : Launch} {mem : MEM} {o n : Nat} (ho : o < 6) (hn : n ≤ 5) (he : mem (12, 0, 0) 1 = nI o) (hc : mem (12, 0, 0) 2 = nI n) : Ct E l yX0_prepare (me_ws yX0_prepare cX0_prepare 3 none) 3 [rv (12, 0, 0), rv (1, 0, 0)] mem (Ret uv (cpS mem (2 + (o + n) % 6) 0)) := by
  refine Ct.of (RC := RX0) (ls0 := [rv (12, 0, 0), rv (1, 0, 0), uv]) mi_yX0_prepare (Nat.le_of_ble_eq_true rfl) rfl (fun X C hX => ?_)
  refine e_aload_n C dX0_prepare_0 rfl ?_
  refine e_aload_n C dX0_prepare_1 rfl ?_
  refine e_geti C (ci := 0) 2 rfl rfl rfl (by decide) b_X0 rfl b_fl_X0_21 v12 rfl dX0_prepare_2 ?_
  refine f_val (y := nI (n)) hc ?_
  refine f_callVr (As := [_]) (ci := 0) C mi_yX0_stateAfterOldest mv_yX0_stateAfterOldest b_ml_X0_25 dX0_prepare_5 rfl (c_X0_stateAfterOldest ho (by omega) he) (by decide) v12 rfl rfl (Nat.le_of_ble_eq_true rfl) ?_
  refine f_astore_n (ls1 := [_, _, _]) C dX0_prepare_8 (by decide) rfl ?_
  refine e_aload_n C dX0_prepare_9 rfl ?_
  refine e_ifnull C dX0_prepare_10 ?_
  refine e_aload_n C dX0_prepare_13 rfl ?_
  refine e_aload_n C dX0_prepare_14 rfl ?_
  refine f_callVv (As := [_]) (ci := 4) C mi_yX4_copyFrom mv_yX4_copyFrom b_ml_X0_29 dX0_prepare_15 rfl (c_X4_copyFrom (by omega) (by decide : 0 < 8) (by first | assumption | decide | omega)) (by decide) (v1 (by omega)) rfl rfl (Nat.le_of_ble_eq_true rfl) ?_
  exact f_vr C hX dX0_prepare_18 (by rw [Nat.add_comm 2])
set_option maxRecDepth 100000 in
set_option maxHeartbeats 4000000 in
theorem c_X0_keepUnlessError {E : EV} {l : Launch} {mem : MEM} {o n : Nat} (ho : o < 6) (hn : n ≤ 5) (he : mem (12, 0, 0) 1 = nI o) (hc : mem (12, 0, 0) 2 = nI n) {x : Int32} : Ct E l yX0_keepUnlessError (me_ws yX0_keepUnlessError cX0_keepUnlessError 2 (some .int)) 3 [rv (12, 0, 0), iv x] mem (Ret (iv x) (kpm mem o n x)) := by
  refine Ct.of (RC := RX0) (ls0 := [rv (12, 0, 0), iv x]) mi_yX0_keepUnlessError (Nat.le_of_ble_eq_true rfl) rfl (fun X C hX => ?_)
  refine e_iload_n C dX0_keepUnlessError_0 rfl ?_
  refine f_callNr (As := [_]) (host := RX6) C mi_yX6_isError b_st_yX6_isError (by decide +kernel) dX0_keepUnlessError_1 rfl c_X6_isError (by decide) (Nat.le_of_ble_eq_true rfl) ?_
  refine f_if_ne (tgt := 43) C dX0_keepUnlessError_4 (by decide) (fun h_4 => ?_) (fun h_4 => ?_)
  · skip
    refine e_iload_n C dX0_keepUnlessError_43 rfl ?_
    exact f_ir C hX dX0_keepUnlessError_44 rfl (by rw [kpm, cif_pos (show isEr x from h_4)])
  · skip
    refine e_aload_n C dX0_keepUnlessError_7 rfl ?_
    refine e_geti C (ci := 0) 2 rfl rfl rfl (by decide) b_X0 rfl b_fl_X0_21 v12 rfl dX0_keepUnlessError_8 ?_
    refine f_val (y := nI (n)) hc ?_
    refine e_iconst (v := nI 5) C dX0_keepUnlessError_11 (by decide) ?_
    refine e_icmp_ge (tgt := 28) C dX0_keepUnlessError_12 (by decide) (fun h_12 => ?_) (fun h_12 => ?_)
    · skip
      have nh_12 := xI_leD (by omega) (by omega) h_12
      refine e_aload_n C dX0_keepUnlessError_28 rfl ?_
      refine e_aload_n C dX0_keepUnlessError_29 rfl ?_
      refine e_geti C (ci := 0) 1 rfl rfl rfl (by decide) b_X0 rfl b_fl_X0_17 v12 rfl dX0_keepUnlessError_30 ?_
      refine f_val (y := nI (o)) he ?_
      refine e_iconst (v := nI 1) C dX0_keepUnlessError_33 (by decide) ?_
      refine f_iaddn C dX0_keepUnlessError_34 ?_
      refine e_bipush (v := nI 6) C dX0_keepUnlessError_35 (by decide) ?_
      refine f_callSr (As := [_, _]) C mi_yJ9_floorMod_7cf53 b_st_yJ9_floorMod_7cf53 b_ml_X0_37 dX0_keepUnlessError_37 rfl (c_J9_floorMod_7cf53 (by omega)) (by decide) (Nat.le_of_ble_eq_true rfl) ?_
      refine e_puti C (ci := 0) 1 rfl rfl rfl (by decide) b_X0 rfl b_fl_X0_17 v12 tyX0 tyX0_ok nmX0 rfl (.inl ⟨rfl, rfl⟩) rfl dX0_keepUnlessError_40 ?_
      refine e_iload_n C dX0_keepUnlessError_43 rfl ?_
      exact f_ir C hX dX0_keepUnlessError_44 rfl (by rw [kpm, cif_neg (show ¬ isEr x from h_4)]; first | rw [if_pos (by omega)] | rw [if_neg (by omega)])
    · skip
      have nh_12 := xI_nleD (by omega) (by omega) h_12
      refine e_aload_n C dX0_keepUnlessError_15 rfl ?_
      refine e_dup C dX0_keepUnlessError_16 ?_
      refine e_geti C (ci := 0) 2 rfl rfl rfl (by decide) b_X0 rfl b_fl_X0_21 v12 rfl dX0_keepUnlessError_17 ?_
      refine f_val (y := nI (n)) hc ?_
      refine e_iconst (v := nI 1) C dX0_keepUnlessError_20 (by decide) ?_
      refine f_iaddn C dX0_keepUnlessError_21 ?_
      refine e_puti C (ci := 0) 2 rfl rfl rfl (by decide) b_X0 rfl b_fl_X0_21 v12 tyX0 tyX0_ok nmX0 rfl (.inl ⟨rfl, rfl⟩) rfl dX0_keepUnlessError_22 ?_
      refine e_goto (tgt := 43) C dX0_keepUnlessError_25 (by decide) ?_
      refine e_iload_n C dX0_keepUnlessError_43 rfl ?_
      exact f_ir C hX dX0_keepUnlessError_44 rfl (by rw [kpm, cif_neg (show ¬ isEr x from h_4)]; first | rw [if_pos (by omega)] | rw [if_neg (by omega)])
set_option maxRecDepth 100000 in
set_option maxHeartbeats 4000000 in
theorem c_X6_addReplica {E : EV} {l : Launch} {mem : MEM} {a : AS} (hR : RC mem a) {c : Nat} (hI : Inv a.1 c) {rate like : Int32} : Ct E l yX6_addReplica (me_ws yX6_addReplica cX6_addReplica 3 (some .int)) 5 [rv (0, 0, 0), iv rate, iv like] mem (fun rr mm => ∃ xx : Int32, rr = iv xx ∧ PoC mem (und (fAdd a.1 rate like) a) ((fAdd a.1 rate like).1) xx mm) := by
  obtain ⟨h1, hh, hk, ht⟩ := id hR
  obtain ⟨n5, o, ho, e1, e2, e3⟩ := hh
  refine Ct.of (RC := RX6) (ls0 := [rv (0, 0, 0), iv rate, iv like]) mi_yX6_addReplica (Nat.le_of_ble_eq_true rfl) rfl (fun X C hX => ?_)
  refine e_aload_n C dX6_addReplica_0 rfl ?_
  refine e_getr C (ci := 6) 3 rfl rfl rfl (by decide) b_X6 rfl b_fl_X6_26 v0 rfl dX6_addReplica_1 ?_
  refine e_aload_n C dX6_addReplica_4 rfl ?_
  refine e_getr C (ci := 6) 0 rfl rfl rfl (by decide) b_X6 rfl b_fl_X6_12 v0 rfl dX6_addReplica_5 ?_
  refine f_callVv (As := [_]) (ci := 0) C mi_yX0_prepare mv_yX0_prepare b_ml_X6_37 dX6_addReplica_8 rfl (c_X0_prepare ho n5 e1 e2) (by decide) v12 rfl rfl (Nat.le_of_ble_eq_true rfl) ?_
  have hz1 : RelS (cpS mem (2 + (o + a.2.1.1) % 6) 0) 0 a.1 := h1.frame FrS.copy (by omega)
  refine e_aload_n C dX6_addReplica_11 rfl ?_
  refine e_getr C (ci := 6) 3 rfl rfl rfl (by decide) b_X6 rfl b_fl_X6_26 v0 rfl dX6_addReplica_12 ?_
  refine e_aload_n C dX6_addReplica_15 rfl ?_
  refine e_iload_n C dX6_addReplica_16 rfl ?_
  refine e_iload_n C dX6_addReplica_17 rfl ?_
  refine f_callVi (As := [_, _]) (ci := 6) C mi_yX6_startReplica mv_yX6_startReplica b_ml_X6_41 dX6_addReplica_18 rfl (c_X6_startReplica hz1 hI) (by decide) v0 rfl rfl (Nat.le_of_ble_eq_true rfl) (fun x_18 m_18 hc_18 => ?_)
  have q12_18 : m_18 (12, 0, 0) = mem (12, 0, 0) := (hc_18.2.2 _ nb12).trans (FrS.copy _ nb12)
  refine f_callVr (As := [_]) (ci := 0) C mi_yX0_keepUnlessError mv_yX0_keepUnlessError b_ml_X6_45 dX6_addReplica_21 rfl (c_X0_keepUnlessError ho n5 (by rw [q12_18]; exact e1) (by rw [q12_18]; exact e2)) (by decide) v12 rfl rfl (Nat.le_of_ble_eq_true rfl) ?_
  exact f_ii C hX dX6_addReplica_24 (RC.keep hR ho e1 e3 hc_18)
set_option maxRecDepth 100000 in
set_option maxHeartbeats 4000000 in
theorem c_X6_drop {E : EV} {l : Launch} {mem : MEM} {a : AS} (hR : RC mem a) {c : Nat} (hI : Inv a.1 c) {r : Int32} : Ct E l yX6_drop (me_ws yX6_drop cX6_drop 2 (some .int)) 5 [rv (0, 0, 0), iv r] mem (fun rr mm => ∃ xx : Int32, rr = iv xx ∧ PoC mem (und (fDrop a.1 r) a) ((fDrop a.1 r).1) xx mm) := by
  obtain ⟨h1, hh, hk, ht⟩ := id hR
  obtain ⟨n5, o, ho, e1, e2, e3⟩ := hh
  refine Ct.of (RC := RX6) (ls0 := [rv (0, 0, 0), iv r]) mi_yX6_drop (Nat.le_of_ble_eq_true rfl) rfl (fun X C hX => ?_)
  refine e_aload_n C dX6_drop_0 rfl ?_
  refine e_getr C (ci := 6) 3 rfl rfl rfl (by decide) b_X6 rfl b_fl_X6_26 v0 rfl dX6_drop_1 ?_
  refine e_aload_n C dX6_drop_4 rfl ?_
  refine e_getr C (ci := 6) 0 rfl rfl rfl (by decide) b_X6 rfl b_fl_X6_12 v0 rfl dX6_drop_5 ?_
  refine f_callVv (As := [_]) (ci := 0) C mi_yX0_prepare mv_yX0_prepare b_ml_X6_37 dX6_drop_8 rfl (c_X0_prepare ho n5 e1 e2) (by decide) v12 rfl rfl (Nat.le_of_ble_eq_true rfl) ?_
  have hz1 : RelS (cpS mem (2 + (o + a.2.1.1) % 6) 0) 0 a.1 := h1.frame FrS.copy (by omega)
  refine e_aload_n C dX6_drop_11 rfl ?_
  refine e_getr C (ci := 6) 3 rfl rfl rfl (by decide) b_X6 rfl b_fl_X6_26 v0 rfl dX6_drop_12 ?_
  refine e_aload_n C dX6_drop_15 rfl ?_
  refine e_iload_n C dX6_drop_16 rfl ?_
  refine f_callVi (As := [_]) (ci := 6) C mi_yX6_removeReplica mv_yX6_removeReplica b_ml_X6_49 dX6_drop_17 rfl (c_X6_removeReplica hz1) (by decide) v0 rfl rfl (Nat.le_of_ble_eq_true rfl) (fun x_17 m_17 hc_17 => ?_)
  have q12_17 : m_17 (12, 0, 0) = mem (12, 0, 0) := (hc_17.2.2 _ nb12).trans (FrS.copy _ nb12)
  refine f_callVr (As := [_]) (ci := 0) C mi_yX0_keepUnlessError mv_yX0_keepUnlessError b_ml_X6_45 dX6_drop_20 rfl (c_X0_keepUnlessError ho n5 (by rw [q12_17]; exact e1) (by rw [q12_17]; exact e2)) (by decide) v12 rfl rfl (Nat.le_of_ble_eq_true rfl) ?_
  exact f_ii C hX dX6_drop_23 (RC.keep hR ho e1 e3 hc_17)
set_option maxRecDepth 100000 in
set_option maxHeartbeats 4000000 in
theorem c_X6_setRate {E : EV} {l : Launch} {mem : MEM} {a : AS} (hR : RC mem a) {c : Nat} (hI : Inv a.1 c) {r rate : Int32} : Ct E l yX6_setRate (me_ws yX6_setRate cX6_setRate 3 (some .int)) 4 [rv (0, 0, 0), iv r, iv rate] mem (fun rr mm => ∃ xx : Int32, rr = iv xx ∧ PoC mem (und (fRate a.1 r rate) a) ((fRate a.1 r rate).1) xx mm) := by
  obtain ⟨h1, hh, hk, ht⟩ := id hR
  obtain ⟨n5, o, ho, e1, e2, e3⟩ := hh
  refine Ct.of (RC := RX6) (ls0 := [rv (0, 0, 0), iv r, iv rate]) mi_yX6_setRate (Nat.le_of_ble_eq_true rfl) rfl (fun X C hX => ?_)
  refine e_aload_n C dX6_setRate_0 rfl ?_
  refine e_getr C (ci := 6) 3 rfl rfl rfl (by decide) b_X6 rfl b_fl_X6_26 v0 rfl dX6_setRate_1 ?_
  refine e_aload_n C dX6_setRate_4 rfl ?_
  refine e_getr C (ci := 6) 0 rfl rfl rfl (by decide) b_X6 rfl b_fl_X6_12 v0 rfl dX6_setRate_5 ?_
  refine f_callVv (As := [_]) (ci := 0) C mi_yX0_prepare mv_yX0_prepare b_ml_X6_37 dX6_setRate_8 rfl (c_X0_prepare ho n5 e1 e2) (by decide) v12 rfl rfl (Nat.le_of_ble_eq_true rfl) ?_
  have hz1 : RelS (cpS mem (2 + (o + a.2.1.1) % 6) 0) 0 a.1 := h1.frame FrS.copy (by omega)
  refine e_aload_n C dX6_setRate_11 rfl ?_
  refine e_getr C (ci := 6) 3 rfl rfl rfl (by decide) b_X6 rfl b_fl_X6_26 v0 rfl dX6_setRate_12 ?_
  refine e_aload_n C dX6_setRate_15 rfl ?_
  refine e_iload_n C dX6_setRate_16 rfl ?_
  refine e_iload_n C dX6_setRate_17 rfl ?_
  refine f_callVi (As := [_, _]) (ci := 6) C mi_yX6_changeRate mv_yX6_changeRate b_ml_X6_52 dX6_setRate_18 rfl (c_X6_changeRate hz1) (by decide) v0 rfl rfl (Nat.le_of_ble_eq_true rfl) (fun x_18 m_18 hc_18 => ?_)
  have q12_18 : m_18 (12, 0, 0) = mem (12, 0, 0) := (hc_18.2.2 _ nb12).trans (FrS.copy _ nb12)
  refine f_callVr (As := [_]) (ci := 0) C mi_yX0_keepUnlessError mv_yX0_keepUnlessError b_ml_X6_45 dX6_setRate_21 rfl (c_X0_keepUnlessError ho n5 (by rw [q12_18]; exact e1) (by rw [q12_18]; exact e2)) (by decide) v12 rfl rfl (Nat.le_of_ble_eq_true rfl) ?_
  exact f_ii C hX dX6_setRate_24 (RC.keep hR ho e1 e3 hc_18)
set_option maxRecDepth 100000 in
set_option maxHeartbeats 4000000 in
theorem c_X6_stop {E : EV} {l : Launch} {mem : MEM} {a : AS} (hR : RC mem a) {c : Nat} (hI : Inv a.1 c) {b : Int32} (hb : b = 0 ∨ b = 1) {r : Int32} : Ct E l yX6_stop (me_ws yX6_stop cX6_stop 3 (some .int)) 4 [rv (0, 0, 0), iv r, iv b] mem (fun rr mm => ∃ xx : Int32, rr = iv xx ∧ PoC mem (und (fStop a.1 r b) a) ((fStop a.1 r b).1) xx mm) := by
  obtain ⟨h1, hh, hk, ht⟩ := id hR
  obtain ⟨n5, o, ho, e1, e2, e3⟩ := hh
  refine Ct.of (RC := RX6) (ls0 := [rv (0, 0, 0), iv r, iv b]) mi_yX6_stop (Nat.le_of_ble_eq_true rfl) rfl (fun X C hX => ?_)
  refine e_aload_n C dX6_stop_0 rfl ?_
  refine e_getr C (ci := 6) 3 rfl rfl rfl (by decide) b_X6 rfl b_fl_X6_26 v0 rfl dX6_stop_1 ?_
  refine e_aload_n C dX6_stop_4 rfl ?_
  refine e_getr C (ci := 6) 0 rfl rfl rfl (by decide) b_X6 rfl b_fl_X6_12 v0 rfl dX6_stop_5 ?_
  refine f_callVv (As := [_]) (ci := 0) C mi_yX0_prepare mv_yX0_prepare b_ml_X6_37 dX6_stop_8 rfl (c_X0_prepare ho n5 e1 e2) (by decide) v12 rfl rfl (Nat.le_of_ble_eq_true rfl) ?_
  have hz1 : RelS (cpS mem (2 + (o + a.2.1.1) % 6) 0) 0 a.1 := h1.frame FrS.copy (by omega)
  refine e_aload_n C dX6_stop_11 rfl ?_
  refine e_getr C (ci := 6) 3 rfl rfl rfl (by decide) b_X6 rfl b_fl_X6_26 v0 rfl dX6_stop_12 ?_
  refine e_aload_n C dX6_stop_15 rfl ?_
  refine e_iload_n C dX6_stop_16 rfl ?_
  refine e_iload_n C dX6_stop_17 rfl ?_
  refine f_callVi (As := [_, _]) (ci := 6) C mi_yX6_changeStopped mv_yX6_changeStopped b_ml_X6_55 dX6_stop_18 rfl (c_X6_changeStopped hz1 hb) (by decide) v0 rfl rfl (Nat.le_of_ble_eq_true rfl) (fun x_18 m_18 hc_18 => ?_)
  have q12_18 : m_18 (12, 0, 0) = mem (12, 0, 0) := (hc_18.2.2 _ nb12).trans (FrS.copy _ nb12)
  refine f_callVr (As := [_]) (ci := 0) C mi_yX0_keepUnlessError mv_yX0_keepUnlessError b_ml_X6_45 dX6_stop_21 rfl (c_X0_keepUnlessError ho n5 (by rw [q12_18]; exact e1) (by rw [q12_18]; exact e2)) (by decide) v12 rfl rfl (Nat.le_of_ble_eq_true rfl) ?_
  exact f_ii C hX dX6_stop_24 (RC.keep hR ho e1 e3 hc_18)
set_option maxRecDepth 100000 in
set_option maxHeartbeats 4000000 in
theorem c_X6_jumpBack {E : EV} {l : Launch} {mem : MEM} {a : AS} (hR : RC mem a) {c : Nat} (hI : Inv a.1 c) {r pos : Int32} : Ct E l yX6_jumpBack (me_ws yX6_jumpBack cX6_jumpBack 3 (some .int)) 4 [rv (0, 0, 0), iv r, iv pos] mem (fun rr mm => ∃ xx : Int32, rr = iv xx ∧ PoC mem (und (fJump a.1 r pos) a) ((fJump a.1 r pos).1) xx mm) := by
  obtain ⟨h1, hh, hk, ht⟩ := id hR
  obtain ⟨n5, o, ho, e1, e2, e3⟩ := hh
  refine Ct.of (RC := RX6) (ls0 := [rv (0, 0, 0), iv r, iv pos]) mi_yX6_jumpBack (Nat.le_of_ble_eq_true rfl) rfl (fun X C hX => ?_)
  refine e_aload_n C dX6_jumpBack_0 rfl ?_
  refine e_getr C (ci := 6) 3 rfl rfl rfl (by decide) b_X6 rfl b_fl_X6_26 v0 rfl dX6_jumpBack_1 ?_
  refine e_aload_n C dX6_jumpBack_4 rfl ?_
  refine e_getr C (ci := 6) 0 rfl rfl rfl (by decide) b_X6 rfl b_fl_X6_12 v0 rfl dX6_jumpBack_5 ?_
  refine f_callVv (As := [_]) (ci := 0) C mi_yX0_prepare mv_yX0_prepare b_ml_X6_37 dX6_jumpBack_8 rfl (c_X0_prepare ho n5 e1 e2) (by decide) v12 rfl rfl (Nat.le_of_ble_eq_true rfl) ?_
  have hz1 : RelS (cpS mem (2 + (o + a.2.1.1) % 6) 0) 0 a.1 := h1.frame FrS.copy (by omega)
  refine e_aload_n C dX6_jumpBack_11 rfl ?_
  refine e_getr C (ci := 6) 3 rfl rfl rfl (by decide) b_X6 rfl b_fl_X6_26 v0 rfl dX6_jumpBack_12 ?_
  refine e_aload_n C dX6_jumpBack_15 rfl ?_
  refine e_iload_n C dX6_jumpBack_16 rfl ?_
  refine e_iload_n C dX6_jumpBack_17 rfl ?_
  refine f_callVi (As := [_, _]) (ci := 6) C mi_yX6_setBack mv_yX6_setBack b_ml_X6_59 dX6_jumpBack_18 rfl (c_X6_setBack hz1) (by decide) v0 rfl rfl (Nat.le_of_ble_eq_true rfl) (fun x_18 m_18 hc_18 => ?_)
  have q12_18 : m_18 (12, 0, 0) = mem (12, 0, 0) := (hc_18.2.2 _ nb12).trans (FrS.copy _ nb12)
  refine f_callVr (As := [_]) (ci := 0) C mi_yX0_keepUnlessError mv_yX0_keepUnlessError b_ml_X6_45 dX6_jumpBack_21 rfl (c_X0_keepUnlessError ho n5 (by rw [q12_18]; exact e1) (by rw [q12_18]; exact e2)) (by decide) v12 rfl rfl (Nat.le_of_ble_eq_true rfl) ?_
  exact f_ii C hX dX6_jumpBack_24 (RC.keep hR ho e1 e3 hc_18)
set_option maxRecDepth 100000 in
set_option maxHeartbeats 4000000 in
theorem c_X6_tick {E : EV} {l : Launch} {mem : MEM} {a : AS} (hR : RC mem a) {c : Nat} (hI : Inv a.1 c) {t : Int32} : Ct E l yX6_tick (me_ws yX6_tick cX6_tick 2 (some .int)) 5 [rv (0, 0, 0), iv t] mem (fun rr mm => ∃ xx : Int32, rr = iv xx ∧ PoC mem (und (fTick a.1 t) a) ((fTick a.1 t).1) xx mm) := by
  obtain ⟨h1, hh, hk, ht⟩ := id hR
  obtain ⟨n5, o, ho, e1, e2, e3⟩ := hh
  refine Ct.of (RC := RX6) (ls0 := [rv (0, 0, 0), iv t]) mi_yX6_tick (Nat.le_of_ble_eq_true rfl) rfl (fun X C hX => ?_)
  refine e_aload_n C dX6_tick_0 rfl ?_
  refine e_getr C (ci := 6) 3 rfl rfl rfl (by decide) b_X6 rfl b_fl_X6_26 v0 rfl dX6_tick_1 ?_
  refine e_aload_n C dX6_tick_4 rfl ?_
  refine e_getr C (ci := 6) 0 rfl rfl rfl (by decide) b_X6 rfl b_fl_X6_12 v0 rfl dX6_tick_5 ?_
  refine f_callVv (As := [_]) (ci := 0) C mi_yX0_prepare mv_yX0_prepare b_ml_X6_37 dX6_tick_8 rfl (c_X0_prepare ho n5 e1 e2) (by decide) v12 rfl rfl (Nat.le_of_ble_eq_true rfl) ?_
  have hz1 : RelS (cpS mem (2 + (o + a.2.1.1) % 6) 0) 0 a.1 := h1.frame FrS.copy (by omega)
  refine e_aload_n C dX6_tick_11 rfl ?_
  refine e_getr C (ci := 6) 3 rfl rfl rfl (by decide) b_X6 rfl b_fl_X6_26 v0 rfl dX6_tick_12 ?_
  refine e_aload_n C dX6_tick_15 rfl ?_
  refine e_iload_n C dX6_tick_16 rfl ?_
  refine f_callVi (As := [_]) (ci := 6) C mi_yX6_letTicksPass mv_yX6_letTicksPass b_ml_X6_62 dX6_tick_17 rfl (c_X6_letTicksPass hz1 hI) (by decide) v0 rfl rfl (Nat.le_of_ble_eq_true rfl) (fun x_17 m_17 hc_17 => ?_)
  have q12_17 : m_17 (12, 0, 0) = mem (12, 0, 0) := (hc_17.2.2 _ nb12).trans (FrS.copy _ nb12)
  refine f_callVr (As := [_]) (ci := 0) C mi_yX0_keepUnlessError mv_yX0_keepUnlessError b_ml_X6_45 dX6_tick_20 rfl (c_X0_keepUnlessError ho n5 (by rw [q12_17]; exact e1) (by rw [q12_17]; exact e2)) (by decide) v12 rfl rfl (Nat.le_of_ble_eq_true rfl) ?_
  exact f_ii C hX dX6_tick_23 (RC.keep hR ho e1 e3 hc_17)
set_option maxRecDepth 100000 in
set_option maxHeartbeats 4000000 in
theorem c_X6_open {E : EV} {l : Launch} {mem : MEM} {a : AS} (hR : RC mem a) {c : Nat} (hI : Inv a.1 c) {home opt bnd : Int32} : Ct E l yX6_open (me_ws yX6_open cX6_open 4 (some .int)) 5 [rv (0, 0, 0), iv home, iv opt, iv bnd] mem (fun rr mm => ∃ xx : Int32, rr = iv xx ∧ PoC mem (und (fOpen a.1 home opt bnd) a) ((fOpen a.1 home opt bnd).1) xx mm) := by
  obtain ⟨h1, hh, hk, ht⟩ := id hR
  obtain ⟨n5, o, ho, e1, e2, e3⟩ := hh
  refine Ct.of (RC := RX6) (ls0 := [rv (0, 0, 0), iv home, iv opt, iv bnd]) mi_yX6_open (Nat.le_of_ble_eq_true rfl) rfl (fun X C hX => ?_)
  refine e_aload_n C dX6_open_0 rfl ?_
  refine e_getr C (ci := 6) 3 rfl rfl rfl (by decide) b_X6 rfl b_fl_X6_26 v0 rfl dX6_open_1 ?_
  refine e_aload_n C dX6_open_4 rfl ?_
  refine e_getr C (ci := 6) 0 rfl rfl rfl (by decide) b_X6 rfl b_fl_X6_12 v0 rfl dX6_open_5 ?_
  refine f_callVv (As := [_]) (ci := 0) C mi_yX0_prepare mv_yX0_prepare b_ml_X6_37 dX6_open_8 rfl (c_X0_prepare ho n5 e1 e2) (by decide) v12 rfl rfl (Nat.le_of_ble_eq_true rfl) ?_
  have hz1 : RelS (cpS mem (2 + (o + a.2.1.1) % 6) 0) 0 a.1 := h1.frame FrS.copy (by omega)
  refine e_aload_n C dX6_open_11 rfl ?_
  refine e_getr C (ci := 6) 3 rfl rfl rfl (by decide) b_X6 rfl b_fl_X6_26 v0 rfl dX6_open_12 ?_
  refine e_aload_n C dX6_open_15 rfl ?_
  refine e_iload_n C dX6_open_16 rfl ?_
  refine e_iload_n C dX6_open_17 rfl ?_
  refine e_iload_n C dX6_open_18 rfl ?_
  refine f_callVi (As := [_, _, _]) (ci := 6) C mi_yX6_startSession mv_yX6_startSession b_ml_X6_128 dX6_open_19 rfl (c_X6_startSession hz1) (by decide) v0 rfl rfl (Nat.le_of_ble_eq_true rfl) (fun x_19 m_19 hc_19 => ?_)
  have q12_19 : m_19 (12, 0, 0) = mem (12, 0, 0) := (hc_19.2.2 _ nb12).trans (FrS.copy _ nb12)
  refine f_callVr (As := [_]) (ci := 0) C mi_yX0_keepUnlessError mv_yX0_keepUnlessError b_ml_X6_45 dX6_open_22 rfl (c_X0_keepUnlessError ho n5 (by rw [q12_19]; exact e1) (by rw [q12_19]; exact e2)) (by decide) v12 rfl rfl (Nat.le_of_ble_eq_true rfl) ?_
  exact f_ii C hX dX6_open_25 (RC.keep hR ho e1 e3 hc_19)
set_option maxRecDepth 100000 in
set_option maxHeartbeats 4000000 in
theorem c_X6_close {E : EV} {l : Launch} {mem : MEM} {a : AS} (hR : RC mem a) {c : Nat} (hI : Inv a.1 c) {s : Int32} : Ct E l yX6_close (me_ws yX6_close cX6_close 2 (some .int)) 4 [rv (0, 0, 0), iv s] mem (fun rr mm => ∃ xx : Int32, rr = iv xx ∧ PoC mem (und (fClose a.1 s) a) ((fClose a.1 s).1) xx mm) := by
  obtain ⟨h1, hh, hk, ht⟩ := id hR
  obtain ⟨n5, o, ho, e1, e2, e3⟩ := hh
  refine Ct.of (RC := RX6) (ls0 := [rv (0, 0, 0), iv s]) mi_yX6_close (Nat.le_of_ble_eq_true rfl) rfl (fun X C hX => ?_)
  refine e_aload_n C dX6_close_0 rfl ?_
  refine e_getr C (ci := 6) 3 rfl rfl rfl (by decide) b_X6 rfl b_fl_X6_26 v0 rfl dX6_close_1 ?_
  refine e_aload_n C dX6_close_4 rfl ?_
  refine e_getr C (ci := 6) 0 rfl rfl rfl (by decide) b_X6 rfl b_fl_X6_12 v0 rfl dX6_close_5 ?_
  refine f_callVv (As := [_]) (ci := 0) C mi_yX0_prepare mv_yX0_prepare b_ml_X6_37 dX6_close_8 rfl (c_X0_prepare ho n5 e1 e2) (by decide) v12 rfl rfl (Nat.le_of_ble_eq_true rfl) ?_
  have hz1 : RelS (cpS mem (2 + (o + a.2.1.1) % 6) 0) 0 a.1 := h1.frame FrS.copy (by omega)
  refine e_aload_n C dX6_close_11 rfl ?_
  refine e_getr C (ci := 6) 3 rfl rfl rfl (by decide) b_X6 rfl b_fl_X6_26 v0 rfl dX6_close_12 ?_
  refine e_aload_n C dX6_close_15 rfl ?_
  refine e_iload_n C dX6_close_16 rfl ?_
  refine f_callVi (As := [_]) (ci := 6) C mi_yX6_endSession mv_yX6_endSession b_ml_X6_132 dX6_close_17 rfl (c_X6_endSession hz1) (by decide) v0 rfl rfl (Nat.le_of_ble_eq_true rfl) (fun x_17 m_17 hc_17 => ?_)
  have q12_17 : m_17 (12, 0, 0) = mem (12, 0, 0) := (hc_17.2.2 _ nb12).trans (FrS.copy _ nb12)
  refine f_callVr (As := [_]) (ci := 0) C mi_yX0_keepUnlessError mv_yX0_keepUnlessError b_ml_X6_45 dX6_close_20 rfl (c_X0_keepUnlessError ho n5 (by rw [q12_17]; exact e1) (by rw [q12_17]; exact e2)) (by decide) v12 rfl rfl (Nat.le_of_ble_eq_true rfl) ?_
  exact f_ii C hX dX6_close_23 (RC.keep hR ho e1 e3 hc_17)
set_option maxRecDepth 100000 in
set_option maxHeartbeats 4000000 in
theorem c_X6_move {E : EV} {l : Launch} {mem : MEM} {a : AS} (hR : RC mem a) {c : Nat} (hI : Inv a.1 c) {s home : Int32} : Ct E l yX6_move (me_ws yX6_move cX6_move 3 (some .int)) 5 [rv (0, 0, 0), iv s, iv home] mem (fun rr mm => ∃ xx : Int32, rr = iv xx ∧ PoC mem (und (fMove a.1 s home) a) ((fMove a.1 s home).1) xx mm) := by
  obtain ⟨h1, hh, hk, ht⟩ := id hR
  obtain ⟨n5, o, ho, e1, e2, e3⟩ := hh
  refine Ct.of (RC := RX6) (ls0 := [rv (0, 0, 0), iv s, iv home]) mi_yX6_move (Nat.le_of_ble_eq_true rfl) rfl (fun X C hX => ?_)
  refine e_aload_n C dX6_move_0 rfl ?_
  refine e_getr C (ci := 6) 3 rfl rfl rfl (by decide) b_X6 rfl b_fl_X6_26 v0 rfl dX6_move_1 ?_
  refine e_aload_n C dX6_move_4 rfl ?_
  refine e_getr C (ci := 6) 0 rfl rfl rfl (by decide) b_X6 rfl b_fl_X6_12 v0 rfl dX6_move_5 ?_
  refine f_callVv (As := [_]) (ci := 0) C mi_yX0_prepare mv_yX0_prepare b_ml_X6_37 dX6_move_8 rfl (c_X0_prepare ho n5 e1 e2) (by decide) v12 rfl rfl (Nat.le_of_ble_eq_true rfl) ?_
  have hz1 : RelS (cpS mem (2 + (o + a.2.1.1) % 6) 0) 0 a.1 := h1.frame FrS.copy (by omega)
  refine e_aload_n C dX6_move_11 rfl ?_
  refine e_getr C (ci := 6) 3 rfl rfl rfl (by decide) b_X6 rfl b_fl_X6_26 v0 rfl dX6_move_12 ?_
  refine e_aload_n C dX6_move_15 rfl ?_
  refine e_iload_n C dX6_move_16 rfl ?_
  refine e_iload_n C dX6_move_17 rfl ?_
  refine f_callVi (As := [_, _]) (ci := 6) C mi_yX6_changeHome mv_yX6_changeHome b_ml_X6_135 dX6_move_18 rfl (c_X6_changeHome hz1) (by decide) v0 rfl rfl (Nat.le_of_ble_eq_true rfl) (fun x_18 m_18 hc_18 => ?_)
  have q12_18 : m_18 (12, 0, 0) = mem (12, 0, 0) := (hc_18.2.2 _ nb12).trans (FrS.copy _ nb12)
  refine f_callVr (As := [_]) (ci := 0) C mi_yX0_keepUnlessError mv_yX0_keepUnlessError b_ml_X6_45 dX6_move_21 rfl (c_X0_keepUnlessError ho n5 (by rw [q12_18]; exact e1) (by rw [q12_18]; exact e2)) (by decide) v12 rfl rfl (Nat.le_of_ble_eq_true rfl) ?_
  exact f_ii C hX dX6_move_24 (RC.keep hR ho e1 e3 hc_18)
set_option maxRecDepth 100000 in
set_option maxHeartbeats 4000000 in
theorem c_X6_change {E : EV} {l : Launch} {mem : MEM} {a : AS} (hR : RC mem a) {c : Nat} (hI : Inv a.1 c) {s opt bnd : Int32} : Ct E l yX6_change (me_ws yX6_change cX6_change 4 (some .int)) 4 [rv (0, 0, 0), iv s, iv opt, iv bnd] mem (fun rr mm => ∃ xx : Int32, rr = iv xx ∧ PoC mem (und (fChange a.1 s opt bnd) a) ((fChange a.1 s opt bnd).1) xx mm) := by
  obtain ⟨h1, hh, hk, ht⟩ := id hR
  obtain ⟨n5, o, ho, e1, e2, e3⟩ := hh
  refine Ct.of (RC := RX6) (ls0 := [rv (0, 0, 0), iv s, iv opt, iv bnd]) mi_yX6_change (Nat.le_of_ble_eq_true rfl) rfl (fun X C hX => ?_)
  refine e_aload_n C dX6_change_0 rfl ?_
  refine e_getr C (ci := 6) 3 rfl rfl rfl (by decide) b_X6 rfl b_fl_X6_26 v0 rfl dX6_change_1 ?_
  refine e_aload_n C dX6_change_4 rfl ?_
  refine e_getr C (ci := 6) 0 rfl rfl rfl (by decide) b_X6 rfl b_fl_X6_12 v0 rfl dX6_change_5 ?_
  refine f_callVv (As := [_]) (ci := 0) C mi_yX0_prepare mv_yX0_prepare b_ml_X6_37 dX6_change_8 rfl (c_X0_prepare ho n5 e1 e2) (by decide) v12 rfl rfl (Nat.le_of_ble_eq_true rfl) ?_
  have hz1 : RelS (cpS mem (2 + (o + a.2.1.1) % 6) 0) 0 a.1 := h1.frame FrS.copy (by omega)
  refine e_aload_n C dX6_change_11 rfl ?_
  refine e_getr C (ci := 6) 3 rfl rfl rfl (by decide) b_X6 rfl b_fl_X6_26 v0 rfl dX6_change_12 ?_
  refine e_aload_n C dX6_change_15 rfl ?_
  refine e_iload_n C dX6_change_16 rfl ?_
  refine e_iload_n C dX6_change_17 rfl ?_
  refine e_iload_n C dX6_change_18 rfl ?_
  refine f_callVi (As := [_, _, _]) (ci := 6) C mi_yX6_changeOptions mv_yX6_changeOptions b_ml_X6_138 dX6_change_19 rfl (c_X6_changeOptions hz1) (by decide) v0 rfl rfl (Nat.le_of_ble_eq_true rfl) (fun x_19 m_19 hc_19 => ?_)
  have q12_19 : m_19 (12, 0, 0) = mem (12, 0, 0) := (hc_19.2.2 _ nb12).trans (FrS.copy _ nb12)
  refine f_callVr (As := [_]) (ci := 0) C mi_yX0_keepUnlessError mv_yX0_keepUnlessError b_ml_X6_45 dX6_change_22 rfl (c_X0_keepUnlessError ho n5 (by rw [q12_19]; exact e1) (by rw [q12_19]; exact e2)) (by decide) v12 rfl rfl (Nat.le_of_ble_eq_true rfl) ?_
  exact f_ii C hX dX6_change_25 (RC.keep hR ho e1 e3 hc_19)
set_option maxRecDepth 100000 in
set_option maxHeartbeats 4000000 in
theorem c_X6_hand {E : EV} {l : Launch} {mem : MEM} {a : AS} (hR : RC mem a) {c : Nat} (hI : Inv a.1 c) {s o2 : Int32} : Ct E l yX6_hand (me_ws yX6_hand cX6_hand 3 (some .int)) 4 [rv (0, 0, 0), iv s, iv o2] mem (fun rr mm => ∃ xx : Int32, rr = iv xx ∧ PoC mem (und (fHand a.1 s o2) a) ((fHand a.1 s o2).1) xx mm) := by
  obtain ⟨h1, hh, hk, ht⟩ := id hR
  obtain ⟨n5, o, ho, e1, e2, e3⟩ := hh
  refine Ct.of (RC := RX6) (ls0 := [rv (0, 0, 0), iv s, iv o2]) mi_yX6_hand (Nat.le_of_ble_eq_true rfl) rfl (fun X C hX => ?_)
  refine e_aload_n C dX6_hand_0 rfl ?_
  refine e_getr C (ci := 6) 3 rfl rfl rfl (by decide) b_X6 rfl b_fl_X6_26 v0 rfl dX6_hand_1 ?_
  refine e_aload_n C dX6_hand_4 rfl ?_
  refine e_getr C (ci := 6) 0 rfl rfl rfl (by decide) b_X6 rfl b_fl_X6_12 v0 rfl dX6_hand_5 ?_
  refine f_callVv (As := [_]) (ci := 0) C mi_yX0_prepare mv_yX0_prepare b_ml_X6_37 dX6_hand_8 rfl (c_X0_prepare ho n5 e1 e2) (by decide) v12 rfl rfl (Nat.le_of_ble_eq_true rfl) ?_
  have hz1 : RelS (cpS mem (2 + (o + a.2.1.1) % 6) 0) 0 a.1 := h1.frame FrS.copy (by omega)
  refine e_aload_n C dX6_hand_11 rfl ?_
  refine e_getr C (ci := 6) 3 rfl rfl rfl (by decide) b_X6 rfl b_fl_X6_26 v0 rfl dX6_hand_12 ?_
  refine e_aload_n C dX6_hand_15 rfl ?_
  refine e_iload_n C dX6_hand_16 rfl ?_
  refine e_iload_n C dX6_hand_17 rfl ?_
  refine f_callVi (As := [_, _]) (ci := 6) C mi_yX6_handMarks mv_yX6_handMarks b_ml_X6_141 dX6_hand_18 rfl (c_X6_handMarks hz1) (by decide) v0 rfl rfl (Nat.le_of_ble_eq_true rfl) (fun x_18 m_18 hc_18 => ?_)
  have q12_18 : m_18 (12, 0, 0) = mem (12, 0, 0) := (hc_18.2.2 _ nb12).trans (FrS.copy _ nb12)
  refine f_callVr (As := [_]) (ci := 0) C mi_yX0_keepUnlessError mv_yX0_keepUnlessError b_ml_X6_45 dX6_hand_21 rfl (c_X0_keepUnlessError ho n5 (by rw [q12_18]; exact e1) (by rw [q12_18]; exact e2)) (by decide) v12 rfl rfl (Nat.le_of_ble_eq_true rfl) ?_
  exact f_ii C hX dX6_hand_24 (RC.keep hR ho e1 e3 hc_18)
set_option maxRecDepth 100000 in
set_option maxHeartbeats 4000000 in
theorem c_X6_write {E : EV} {l : Launch} {mem : MEM} {a : AS} (hR : RC mem a) {c : Nat} (hI : Inv a.1 c) {s key val : Int32} : Ct E l yX6_write (me_ws yX6_write cX6_write 4 (some .int)) 5 [rv (0, 0, 0), iv s, iv key, iv val] mem (fun rr mm => ∃ xx : Int32, rr = iv xx ∧ PoC mem (und (fWrite a.1 s key val) a) ((fWrite a.1 s key val).1) xx mm) := by
  obtain ⟨h1, hh, hk, ht⟩ := id hR
  obtain ⟨n5, o, ho, e1, e2, e3⟩ := hh
  refine Ct.of (RC := RX6) (ls0 := [rv (0, 0, 0), iv s, iv key, iv val]) mi_yX6_write (Nat.le_of_ble_eq_true rfl) rfl (fun X C hX => ?_)
  refine e_aload_n C dX6_write_0 rfl ?_
  refine e_getr C (ci := 6) 3 rfl rfl rfl (by decide) b_X6 rfl b_fl_X6_26 v0 rfl dX6_write_1 ?_
  refine e_aload_n C dX6_write_4 rfl ?_
  refine e_getr C (ci := 6) 0 rfl rfl rfl (by decide) b_X6 rfl b_fl_X6_12 v0 rfl dX6_write_5 ?_
  refine f_callVv (As := [_]) (ci := 0) C mi_yX0_prepare mv_yX0_prepare b_ml_X6_37 dX6_write_8 rfl (c_X0_prepare ho n5 e1 e2) (by decide) v12 rfl rfl (Nat.le_of_ble_eq_true rfl) ?_
  have hz1 : RelS (cpS mem (2 + (o + a.2.1.1) % 6) 0) 0 a.1 := h1.frame FrS.copy (by omega)
  refine e_aload_n C dX6_write_11 rfl ?_
  refine e_getr C (ci := 6) 3 rfl rfl rfl (by decide) b_X6 rfl b_fl_X6_26 v0 rfl dX6_write_12 ?_
  refine e_aload_n C dX6_write_15 rfl ?_
  refine e_iload_n C dX6_write_16 rfl ?_
  refine e_iload_n C dX6_write_17 rfl ?_
  refine e_iload_n C dX6_write_18 rfl ?_
  refine f_callVi (As := [_, _, _]) (ci := 6) C mi_yX6_addWrite mv_yX6_addWrite b_ml_X6_180 dX6_write_19 rfl (c_X6_addWrite hz1 hI) (by decide) v0 rfl rfl (Nat.le_of_ble_eq_true rfl) (fun x_19 m_19 hc_19 => ?_)
  have q12_19 : m_19 (12, 0, 0) = mem (12, 0, 0) := (hc_19.2.2 _ nb12).trans (FrS.copy _ nb12)
  refine f_callVr (As := [_]) (ci := 0) C mi_yX0_keepUnlessError mv_yX0_keepUnlessError b_ml_X6_45 dX6_write_22 rfl (c_X0_keepUnlessError ho n5 (by rw [q12_19]; exact e1) (by rw [q12_19]; exact e2)) (by decide) v12 rfl rfl (Nat.le_of_ble_eq_true rfl) ?_
  exact f_ii C hX dX6_write_25 (RC.keep hR ho e1 e3 hc_19)
set_option maxRecDepth 100000 in
set_option maxHeartbeats 4000000 in
theorem c_X6_read {E : EV} {l : Launch} {mem : MEM} {a : AS} (hR : RC mem a) {c : Nat} (hI : Inv a.1 c) {s key : Int32} : Ct E l yX6_read (me_ws yX6_read cX6_read 3 (some .int)) 7 [rv (0, 0, 0), iv s, iv key] mem (fun rr mm => ∃ xx : Int32, rr = iv xx ∧ PoC mem (und (fRead a.1 s key) a) ((fRead a.1 s key).1) xx mm) := by
  obtain ⟨h1, hh, hk, ht⟩ := id hR
  obtain ⟨n5, o, ho, e1, e2, e3⟩ := hh
  refine Ct.of (RC := RX6) (ls0 := [rv (0, 0, 0), iv s, iv key]) mi_yX6_read (Nat.le_of_ble_eq_true rfl) rfl (fun X C hX => ?_)
  refine e_aload_n C dX6_read_0 rfl ?_
  refine e_getr C (ci := 6) 3 rfl rfl rfl (by decide) b_X6 rfl b_fl_X6_26 v0 rfl dX6_read_1 ?_
  refine e_aload_n C dX6_read_4 rfl ?_
  refine e_getr C (ci := 6) 0 rfl rfl rfl (by decide) b_X6 rfl b_fl_X6_12 v0 rfl dX6_read_5 ?_
  refine f_callVv (As := [_]) (ci := 0) C mi_yX0_prepare mv_yX0_prepare b_ml_X6_37 dX6_read_8 rfl (c_X0_prepare ho n5 e1 e2) (by decide) v12 rfl rfl (Nat.le_of_ble_eq_true rfl) ?_
  have hz1 : RelS (cpS mem (2 + (o + a.2.1.1) % 6) 0) 0 a.1 := h1.frame FrS.copy (by omega)
  refine e_aload_n C dX6_read_11 rfl ?_
  refine e_getr C (ci := 6) 3 rfl rfl rfl (by decide) b_X6 rfl b_fl_X6_26 v0 rfl dX6_read_12 ?_
  refine e_aload_n C dX6_read_15 rfl ?_
  refine e_iload_n C dX6_read_16 rfl ?_
  refine e_iload_n C dX6_read_17 rfl ?_
  refine f_callVi (As := [_, _]) (ci := 6) C mi_yX6_readAtHome mv_yX6_readAtHome b_ml_X6_183 dX6_read_18 rfl (c_X6_readAtHome hz1 hI) (by decide) v0 rfl rfl (Nat.le_of_ble_eq_true rfl) (fun x_18 m_18 hc_18 => ?_)
  have q12_18 : m_18 (12, 0, 0) = mem (12, 0, 0) := (hc_18.2.2 _ nb12).trans (FrS.copy _ nb12)
  refine f_callVr (As := [_]) (ci := 0) C mi_yX0_keepUnlessError mv_yX0_keepUnlessError b_ml_X6_45 dX6_read_21 rfl (c_X0_keepUnlessError ho n5 (by rw [q12_18]; exact e1) (by rw [q12_18]; exact e2)) (by decide) v12 rfl rfl (Nat.le_of_ble_eq_true rfl) ?_
  exact f_ii C hX dX6_read_24 (RC.keep hR ho e1 e3 hc_18)
set_option maxRecDepth 100000 in
set_option maxHeartbeats 4000000 in
theorem c_X6_readAt {E : EV} {l : Launch} {mem : MEM} {a : AS} (hR : RC mem a) {c : Nat} (hI : Inv a.1 c) {s key place : Int32} : Ct E l yX6_readAt (me_ws yX6_readAt cX6_readAt 4 (some .int)) 7 [rv (0, 0, 0), iv s, iv key, iv place] mem (fun rr mm => ∃ xx : Int32, rr = iv xx ∧ PoC mem (und (fReadAt a.1 s key place) a) ((fReadAt a.1 s key place).1) xx mm) := by
  obtain ⟨h1, hh, hk, ht⟩ := id hR
  obtain ⟨n5, o, ho, e1, e2, e3⟩ := hh
  refine Ct.of (RC := RX6) (ls0 := [rv (0, 0, 0), iv s, iv key, iv place]) mi_yX6_readAt (Nat.le_of_ble_eq_true rfl) rfl (fun X C hX => ?_)
  refine e_aload_n C dX6_readAt_0 rfl ?_
  refine e_getr C (ci := 6) 3 rfl rfl rfl (by decide) b_X6 rfl b_fl_X6_26 v0 rfl dX6_readAt_1 ?_
  refine e_aload_n C dX6_readAt_4 rfl ?_
  refine e_getr C (ci := 6) 0 rfl rfl rfl (by decide) b_X6 rfl b_fl_X6_12 v0 rfl dX6_readAt_5 ?_
  refine f_callVv (As := [_]) (ci := 0) C mi_yX0_prepare mv_yX0_prepare b_ml_X6_37 dX6_readAt_8 rfl (c_X0_prepare ho n5 e1 e2) (by decide) v12 rfl rfl (Nat.le_of_ble_eq_true rfl) ?_
  have hz1 : RelS (cpS mem (2 + (o + a.2.1.1) % 6) 0) 0 a.1 := h1.frame FrS.copy (by omega)
  refine e_aload_n C dX6_readAt_11 rfl ?_
  refine e_getr C (ci := 6) 3 rfl rfl rfl (by decide) b_X6 rfl b_fl_X6_26 v0 rfl dX6_readAt_12 ?_
  refine e_aload_n C dX6_readAt_15 rfl ?_
  refine e_iload_n C dX6_readAt_16 rfl ?_
  refine e_iload_n C dX6_readAt_17 rfl ?_
  refine e_iload_n C dX6_readAt_18 rfl ?_
  refine f_callVi (As := [_, _, _]) (ci := 6) C mi_yX6_readAtPlace mv_yX6_readAtPlace b_ml_X6_186 dX6_readAt_19 rfl (c_X6_readAtPlace hz1 hI) (by decide) v0 rfl rfl (Nat.le_of_ble_eq_true rfl) (fun x_19 m_19 hc_19 => ?_)
  have q12_19 : m_19 (12, 0, 0) = mem (12, 0, 0) := (hc_19.2.2 _ nb12).trans (FrS.copy _ nb12)
  refine f_callVr (As := [_]) (ci := 0) C mi_yX0_keepUnlessError mv_yX0_keepUnlessError b_ml_X6_45 dX6_readAt_22 rfl (c_X0_keepUnlessError ho n5 (by rw [q12_19]; exact e1) (by rw [q12_19]; exact e2)) (by decide) v12 rfl rfl (Nat.le_of_ble_eq_true rfl) ?_
  exact f_ii C hX dX6_readAt_25 (RC.keep hR ho e1 e3 hc_19)
noncomputable def reA (a : AS) : Int32 × AS := match a.2.2.1 with
  | none => (-3, a)
  | some kz => (kz 0, und (kz 0, kz) a)
