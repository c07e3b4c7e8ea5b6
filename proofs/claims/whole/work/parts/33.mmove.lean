/-! ===== the model: what moves the row ===== -/
def Why (z : ZZ) (f : Int32 × ZZ) (P : Prop) (x : Int32) : Prop := (x = nI 0 ∧ P) ∨ (isEr x ∧ f = (x, z))
theorem Why.ge {z : ZZ} {f : Int32 × ZZ} {P : Prop} {x : Int32} (h : Why z f P x) (hx : 0 ≤ x) : P := by
  rcases h with h | h
  · exact h.2
  · have := h.1.2
    rw [Int32.le_iff_toInt_le] at this hx
    have e : (-1 : Int32).toInt = -1 := rfl
    rw [Int32.toInt_zero] at hx
    omega
theorem Why.lt {z : ZZ} {f : Int32 × ZZ} {P : Prop} {x : Int32} (h : Why z f P x) (hx : ¬ 0 ≤ x) : isEr x ∧ f = (x, z) := by
  rcases h with h | h
  · exact absurd (by rw [h.1]; decide) hx
  · exact h
theorem Why.eq {z : ZZ} {f : Int32 × ZZ} {P : Prop} {x : Int32} (h : Why z f P x) (hx : x = 0) : P := h.ge (by rw [hx]; decide)
theorem Why.ne {z : ZZ} {f : Int32 × ZZ} {P : Prop} {x : Int32} (h : Why z f P x) (hx : ¬ x = 0) : isEr x ∧ f = (x, z) := by
  rcases h with h | h
  · exact absurd h.1 hx
  · exact h
noncomputable def hwt (z : ZZ) (i q : Nat) : Int32 := waitg z i (nI q) (sz z i 1)
noncomputable def wah (z : ZZ) (i q : Nat) : Int32 := cif (¬ hwt z i q = -6 ∧ hwt z i q ≤ sz z i 3) (hwt z i q) (-6)
theorem rdz_y {z : ZZ} {i q : Nat} (h : ¬ hwt z i q = -6 ∧ hwt z i q ≤ sz z i 3) : rdz z i q = anp (tck z (hwt z i q) 5) i q (nt (sz z i 1)) (hwt z i q) := cif_pos h
theorem rdz_n {z : ZZ} {i q : Nat} (h : ¬ (¬ hwt z i q = -6 ∧ hwt z i q ≤ sz z i 3)) (h8 : hasz z i (nI 8)) : rdz z i q = anp z i q 9 (nI 0) := (cif_neg h).trans (cif_pos h8)
theorem rdz_e {z : ZZ} {i q : Nat} (h : ¬ (¬ hwt z i q = -6 ∧ hwt z i q ≤ sz z i 3)) (h8 : ¬ hasz z i (nI 8)) : rdz z i q = (-3, z) := (cif_neg h).trans (cif_neg h8)
theorem wah_6 {z : ZZ} {i q : Nat} : wah z i q = -6 ↔ ¬ (¬ hwt z i q = -6 ∧ hwt z i q ≤ sz z i 3) := by
  unfold wah
  by_cases h : ¬ hwt z i q = -6 ∧ hwt z i q ≤ sz z i 3
  · rw [cif_pos h]; exact ⟨fun e => absurd e h.1, fun e => absurd h e⟩
  · rw [cif_neg h]; exact ⟨fun _ => h, fun _ => rfl⟩

set_option maxRecDepth 100000 in
set_option maxHeartbeats 4000000 in
theorem c_X7_whyNotJump {E : EV} {l : Launch} {mem : MEM} {z : ZZ} {r pos : Int32} : Ct E l yX7_whyNotJump (me_ws yX7_whyNotJump cX7_whyNotJump 3 (some .int)) 3 [rv (17, 0, 0), iv r, iv pos] (mz mem z) (fun rr mm => ∃ xx : Int32, rr = iv xx ∧ (mm = mz mem z ∧ Why z (fJump z r pos) (isR z r ∧ nI 0 ≤ pos ∧ pos ≤ rz z (nt r) 1) xx)) := by
  refine Ct.of (RC := RX7) (ls0 := [rv (17, 0, 0), iv r, iv pos]) mi_yX7_whyNotJump (Nat.le_of_ble_eq_true rfl) rfl (fun X C hX => ?_)
  refine e_aload_n C dX7_whyNotJump_0 rfl ?_
  refine e_iload_n C dX7_whyNotJump_1 rfl ?_
  refine f_callVr (As := [_]) (ci := 7) C mi_yX7_isReplica mv_yX7_isReplica b_ml_X7_34 dX7_whyNotJump_2 rfl c_X7_isReplica (by decide) v17 rfl rfl (Nat.le_of_ble_eq_true rfl) ?_
  refine f_if_ne (tgt := 12) C dX7_whyNotJump_5 (by decide) (fun h_5 => ?_) (fun h_5 => ?_)
  · skip
    have hRR := h_5
    obtain ⟨i, hi, rfl, ho⟩ := h_5
    refine e_iload_n C dX7_whyNotJump_12 rfl ?_
    refine e_iconst (v := nI 0) C dX7_whyNotJump_13 (by decide) ?_
    refine e_aload_n C dX7_whyNotJump_14 rfl ?_
    refine e_iload_n C dX7_whyNotJump_15 rfl ?_
    refine e_iconst (v := nI 1) C dX7_whyNotJump_16 (by decide) ?_
    refine f_callVr (As := [_, _]) (ci := 7) C mi_yX7_ofReplica mv_yX7_ofReplica b_ml_X7_30 dX7_whyNotJump_17 rfl (c_X7_ofReplica (by omega) (by omega)) (by decide) v17 rfl rfl (Nat.le_of_ble_eq_true rfl) ?_
    refine f_callSr (As := [_, _, _]) C mi_yX7_in b_st_yX7_in b_ml_X7_26 dX7_whyNotJump_20 rfl c_X7_in (by decide) (Nat.le_of_ble_eq_true rfl) ?_
    refine f_if_eq (tgt := 30) C dX7_whyNotJump_23 (by decide) (fun h_23 => ?_) (fun h_23 => ?_)
    · skip
      refine e_bipush (v := -2) C dX7_whyNotJump_30 (by decide) ?_
      exact f_ii C hX dX7_whyNotJump_32 ⟨rfl, Or.inr ⟨isEr_2, by rw [fJump, cif_pos ⟨_, hi, rfl, ho⟩, nt_nI (by omega), cif_neg h_23]⟩⟩
    · skip
      refine e_iconst (v := nI 0) C dX7_whyNotJump_26 (by decide) ?_
      refine e_goto (tgt := 32) C dX7_whyNotJump_27 (by decide) ?_
      exact f_ii C hX dX7_whyNotJump_32 ⟨rfl, Or.inl ⟨rfl, ⟨hRR, by rw [nt_nI (by omega)]; exact h_23⟩⟩⟩
  · skip
    refine e_iconst (v := -1) C dX7_whyNotJump_8 (by decide) ?_
    refine e_goto (tgt := 32) C dX7_whyNotJump_9 (by decide) ?_
    exact f_ii C hX dX7_whyNotJump_32 ⟨rfl, Or.inr ⟨isEr_1, by rw [fJump, cif_neg h_5]⟩⟩
set_option maxRecDepth 100000 in
set_option maxHeartbeats 4000000 in
theorem c_X7_jumps {E : EV} {l : Launch} {mem : MEM} {z : ZZ} {i : Nat} {pos : Int32} (hi : i < 5) : Ct E l yX7_jumps (me_ws yX7_jumps cX7_jumps 4 (some .int)) 2 [rv (17, 0, 0), iv (nI i), iv pos] (mz mem z) (Ret (iv (rz z i 1)) (mz mem (rs z i 1 pos))) := by
  refine Ct.of (RC := RX7) (ls0 := [rv (17, 0, 0), iv (nI i), iv pos, uv]) mi_yX7_jumps (Nat.le_of_ble_eq_true rfl) rfl (fun X C hX => ?_)
  refine e_aload_n C dX7_jumps_0 rfl ?_
  refine e_iload_n C dX7_jumps_1 rfl ?_
  refine e_iconst (v := nI 1) C dX7_jumps_2 (by decide) ?_
  refine f_callVr (As := [_, _]) (ci := 7) C mi_yX7_ofReplica mv_yX7_ofReplica b_ml_X7_30 dX7_jumps_3 rfl (c_X7_ofReplica (by omega) (by omega)) (by decide) v17 rfl rfl (Nat.le_of_ble_eq_true rfl) ?_
  refine f_istore_n (ls1 := [_, _, _, _]) C dX7_jumps_6 (by decide) rfl ?_
  refine e_aload_n C dX7_jumps_7 rfl ?_
  refine e_iload_n C dX7_jumps_8 rfl ?_
  refine e_iconst (v := nI 1) C dX7_jumps_9 (by decide) ?_
  refine e_iload_n C dX7_jumps_10 rfl ?_
  refine f_callVv (As := [_, _, _]) (ci := 7) C mi_yX7_layReplica mv_yX7_layReplica b_ml_X7_55 dX7_jumps_11 rfl (c_X7_layReplica (by omega) (by omega)) (by decide) v17 rfl rfl (Nat.le_of_ble_eq_true rfl) ?_
  refine e_iload_n C dX7_jumps_14 rfl ?_
  exact f_ir C hX dX7_jumps_15 rfl rfl
set_option maxRecDepth 100000 in
set_option maxHeartbeats 4000000 in
theorem c_X7_moves {E : EV} {l : Launch} {mem : MEM} {z : ZZ} {i : Nat} {hm : Int32} (hi : i < 8) : Ct E l yX7_moves (me_ws yX7_moves cX7_moves 4 (some .int)) 2 [rv (17, 0, 0), iv (nI i), iv hm] (mz mem z) (Ret (iv (sz z i 1)) (mz mem (ss z i 1 hm))) := by
  refine Ct.of (RC := RX7) (ls0 := [rv (17, 0, 0), iv (nI i), iv hm, uv]) mi_yX7_moves (Nat.le_of_ble_eq_true rfl) rfl (fun X C hX => ?_)
  refine e_aload_n C dX7_moves_0 rfl ?_
  refine e_iload_n C dX7_moves_1 rfl ?_
  refine e_iconst (v := nI 1) C dX7_moves_2 (by decide) ?_
  refine f_callVr (As := [_, _]) (ci := 7) C mi_yX7_ofSession mv_yX7_ofSession b_ml_X7_38 dX7_moves_3 rfl (c_X7_ofSession (by omega) (by omega)) (by decide) v17 rfl rfl (Nat.le_of_ble_eq_true rfl) ?_
  refine f_istore_n (ls1 := [_, _, _, _]) C dX7_moves_6 (by decide) rfl ?_
  refine e_aload_n C dX7_moves_7 rfl ?_
  refine e_iload_n C dX7_moves_8 rfl ?_
  refine e_iconst (v := nI 1) C dX7_moves_9 (by decide) ?_
  refine e_iload_n C dX7_moves_10 rfl ?_
  refine f_callVv (As := [_, _, _]) (ci := 7) C mi_yX7_laySession mv_yX7_laySession b_ml_X7_66 dX7_moves_11 rfl (c_X7_laySession (by omega) (by omega)) (by decide) v17 rfl rfl (Nat.le_of_ble_eq_true rfl) ?_
  refine e_iload_n C dX7_moves_14 rfl ?_
  exact f_ir C hX dX7_moves_15 rfl rfl
set_option maxRecDepth 100000 in
set_option maxHeartbeats 4000000 in
theorem c_X7_hands {E : EV} {l : Launch} {mem : MEM} {z : ZZ} {i j : Nat} (hi : i < 8) (hj : j < 8) : Ct E l yX7_hands (me_ws yX7_hands cX7_hands 3 (some .int)) 2 [rv (17, 0, 0), iv (nI i), iv (nI j)] (mz mem z) (Ret (iv (hndz z i j)) (mz mem (ss z j 5 (hndz z i j)))) := by
  refine Ct.of (RC := RX7) (ls0 := [rv (17, 0, 0), iv (nI i), iv (nI j)]) mi_yX7_hands (Nat.le_of_ble_eq_true rfl) rfl (fun X C hX => ?_)
  refine e_aload_n C dX7_hands_0 rfl ?_
  refine e_iload_n C dX7_hands_1 rfl ?_
  refine e_iconst (v := nI 5) C dX7_hands_2 (by decide) ?_
  refine e_aload_n C dX7_hands_3 rfl ?_
  refine e_iload_n C dX7_hands_4 rfl ?_
  refine e_iconst (v := nI 5) C dX7_hands_5 (by decide) ?_
  refine f_callVr (As := [_, _]) (ci := 7) C mi_yX7_ofSession mv_yX7_ofSession b_ml_X7_38 dX7_hands_6 rfl (c_X7_ofSession (by omega) (by omega)) (by decide) v17 rfl rfl (Nat.le_of_ble_eq_true rfl) ?_
  refine e_aload_n C dX7_hands_9 rfl ?_
  refine e_iload_n C dX7_hands_10 rfl ?_
  refine e_iconst (v := nI 5) C dX7_hands_11 (by decide) ?_
  refine f_callVr (As := [_, _]) (ci := 7) C mi_yX7_ofSession mv_yX7_ofSession b_ml_X7_38 dX7_hands_12 rfl (c_X7_ofSession (by omega) (by omega)) (by decide) v17 rfl rfl (Nat.le_of_ble_eq_true rfl) ?_
  refine e_aload_n C dX7_hands_15 rfl ?_
  refine e_iload_n C dX7_hands_16 rfl ?_
  refine e_iconst (v := nI 4) C dX7_hands_17 (by decide) ?_
  refine f_callVr (As := [_, _]) (ci := 7) C mi_yX7_ofSession mv_yX7_ofSession b_ml_X7_38 dX7_hands_18 rfl (c_X7_ofSession (by omega) (by omega)) (by decide) v17 rfl rfl (Nat.le_of_ble_eq_true rfl) ?_
  refine f_callSr (As := [_, _]) C mi_yX7_more b_st_yX7_more b_ml_X7_100 dX7_hands_21 rfl c_X7_more (by decide) (Nat.le_of_ble_eq_true rfl) ?_
  refine f_callSr (As := [_, _]) C mi_yX7_more b_st_yX7_more b_ml_X7_100 dX7_hands_24 rfl c_X7_more (by decide) (Nat.le_of_ble_eq_true rfl) ?_
  rw [maxI_comm (sz z i 5) (sz z i 4)]
  refine f_callVv (As := [_, _, _]) (ci := 7) C mi_yX7_laySession mv_yX7_laySession b_ml_X7_66 dX7_hands_27 rfl (c_X7_laySession (by omega) (by omega)) (by decide) v17 rfl rfl (Nat.le_of_ble_eq_true rfl) ?_
  refine e_aload_n C dX7_hands_30 rfl ?_
  refine e_iload_n C dX7_hands_31 rfl ?_
  refine e_iconst (v := nI 5) C dX7_hands_32 (by decide) ?_
  refine f_callVr (As := [_, _]) (ci := 7) C mi_yX7_ofSession mv_yX7_ofSession b_ml_X7_38 dX7_hands_33 rfl (c_X7_ofSession (by omega) (by omega)) (by decide) v17 rfl rfl (Nat.le_of_ble_eq_true rfl) ?_
  exact f_ir C hX dX7_hands_36 (by rw [sz_ss (by decide) (by decide), if_pos ⟨rfl, rfl⟩]; rfl) rfl
set_option maxRecDepth 100000 in
set_option maxHeartbeats 4000000 in
theorem c_X7_whyNotHand {E : EV} {l : Launch} {mem : MEM} {z : ZZ} {s o : Int32} : Ct E l yX7_whyNotHand (me_ws yX7_whyNotHand cX7_whyNotHand 3 (some .int)) 3 [rv (17, 0, 0), iv s, iv o] (mz mem z) (fun rr mm => ∃ xx : Int32, rr = iv xx ∧ (mm = mz mem z ∧ Why z (fHand z s o) (isS z s ∧ isS z o ∧ ¬ s = o) xx)) := by
  refine Ct.of (RC := RX7) (ls0 := [rv (17, 0, 0), iv s, iv o]) mi_yX7_whyNotHand (Nat.le_of_ble_eq_true rfl) rfl (fun X C hX => ?_)
  refine e_aload_n C dX7_whyNotHand_0 rfl ?_
  refine e_iload_n C dX7_whyNotHand_1 rfl ?_
  refine f_callVr (As := [_]) (ci := 7) C mi_yX7_isSession mv_yX7_isSession b_ml_X7_94 dX7_whyNotHand_2 rfl c_X7_isSession (by decide) v17 rfl rfl (Nat.le_of_ble_eq_true rfl) ?_
  refine f_if_eq (tgt := 16) C dX7_whyNotHand_5 (by decide) (fun h_5 => ?_) (fun h_5 => ?_)
  · skip
    refine e_iconst (v := -1) C dX7_whyNotHand_16 (by decide) ?_
    refine e_goto (tgt := 31) C dX7_whyNotHand_17 (by decide) ?_
    exact f_ii C hX dX7_whyNotHand_31 ⟨rfl, Or.inr ⟨isEr_1, by rw [fHand, cif_neg (fun q => h_5 q.1)]⟩⟩
  · skip
    refine e_aload_n C dX7_whyNotHand_8 rfl ?_
    refine e_iload_n C dX7_whyNotHand_9 rfl ?_
    refine f_callVr (As := [_]) (ci := 7) C mi_yX7_isSession mv_yX7_isSession b_ml_X7_94 dX7_whyNotHand_10 rfl c_X7_isSession (by decide) v17 rfl rfl (Nat.le_of_ble_eq_true rfl) ?_
    refine f_if_ne (tgt := 20) C dX7_whyNotHand_13 (by decide) (fun h_13 => ?_) (fun h_13 => ?_)
    · skip
      refine e_iload_n C dX7_whyNotHand_20 rfl ?_
      refine e_iload_n C dX7_whyNotHand_21 rfl ?_
      refine e_icmp_ne (tgt := 30) C dX7_whyNotHand_22 (by decide) (fun h_22 => ?_) (fun h_22 => ?_)
      · skip
        refine e_iconst (v := nI 0) C dX7_whyNotHand_30 (by decide) ?_
        exact f_ii C hX dX7_whyNotHand_31 ⟨rfl, Or.inl ⟨rfl, ⟨h_5, h_13, h_22⟩⟩⟩
      · skip
        refine e_bipush (v := -2) C dX7_whyNotHand_25 (by decide) ?_
        refine e_goto (tgt := 31) C dX7_whyNotHand_27 (by decide) ?_
        exact f_ii C hX dX7_whyNotHand_31 ⟨rfl, Or.inr ⟨isEr_2, by rw [fHand, cif_pos ⟨h_5, h_13⟩, cif_pos h_22]⟩⟩
    · skip
      refine e_iconst (v := -1) C dX7_whyNotHand_16 (by decide) ?_
      refine e_goto (tgt := 31) C dX7_whyNotHand_17 (by decide) ?_
      exact f_ii C hX dX7_whyNotHand_31 ⟨rfl, Or.inr ⟨isEr_1, by rw [fHand, cif_neg (fun q => h_13 q.2)]⟩⟩
set_option maxRecDepth 100000 in
set_option maxHeartbeats 4000000 in
theorem c_X7_whyNotWrite {E : EV} {l : Launch} {mem : MEM} {z : ZZ} {s k v : Int32} : Ct E l yX7_whyNotWrite (me_ws yX7_whyNotWrite cX7_whyNotWrite 4 (some .int)) 3 [rv (17, 0, 0), iv s, iv k, iv v] (mz mem z) (fun rr mm => ∃ xx : Int32, rr = iv xx ∧ (mm = mz mem z ∧ Why z (fWrite z s k v) (isS z s ∧ isK k ∧ (nI 0 ≤ v ∧ v ≤ nI 999) ∧ ¬ z 0 = nI 200) xx)) := by
  refine Ct.of (RC := RX7) (ls0 := [rv (17, 0, 0), iv s, iv k, iv v]) mi_yX7_whyNotWrite (Nat.le_of_ble_eq_true rfl) rfl (fun X C hX => ?_)
  refine e_aload_n C dX7_whyNotWrite_0 rfl ?_
  refine e_iload_n C dX7_whyNotWrite_1 rfl ?_
  refine f_callVr (As := [_]) (ci := 7) C mi_yX7_isSession mv_yX7_isSession b_ml_X7_94 dX7_whyNotWrite_2 rfl c_X7_isSession (by decide) v17 rfl rfl (Nat.le_of_ble_eq_true rfl) ?_
  refine f_if_eq (tgt := 15) C dX7_whyNotWrite_5 (by decide) (fun h_5 => ?_) (fun h_5 => ?_)
  · skip
    refine e_iconst (v := -1) C dX7_whyNotWrite_15 (by decide) ?_
    exact f_ii C hX dX7_whyNotWrite_16 ⟨rfl, Or.inr ⟨isEr_1, by rw [fWrite, cif_neg (fun q => h_5 q.1)]⟩⟩
  · skip
    refine e_iload_n C dX7_whyNotWrite_8 rfl ?_
    refine f_callSr (As := [_]) C mi_yX7_isKey b_st_yX7_isKey b_ml_X7_85 dX7_whyNotWrite_9 rfl c_X7_isKey (by decide) (Nat.le_of_ble_eq_true rfl) ?_
    refine f_if_ne (tgt := 17) C dX7_whyNotWrite_12 (by decide) (fun h_12 => ?_) (fun h_12 => ?_)
    · skip
      refine e_iload_n C dX7_whyNotWrite_17 rfl ?_
      refine e_iconst (v := nI 0) C dX7_whyNotWrite_18 (by decide) ?_
      refine e_sipush (v := nI 999) C dX7_whyNotWrite_19 (by decide) ?_
      refine f_callSr (As := [_, _, _]) C mi_yX7_in b_st_yX7_in b_ml_X7_26 dX7_whyNotWrite_22 rfl c_X7_in (by decide) (Nat.le_of_ble_eq_true rfl) ?_
      refine f_if_ne (tgt := 33) C dX7_whyNotWrite_25 (by decide) (fun h_25 => ?_) (fun h_25 => ?_)
      · skip
        refine e_aload_n C dX7_whyNotWrite_33 rfl ?_
        refine e_getr C (ci := 7) 0 rfl rfl rfl (by decide) b_X7 rfl b_fl_X7_7 v17 rfl dX7_whyNotWrite_34 ?_
        refine e_iconst (v := nI 0) C dX7_whyNotWrite_37 (by decide) ?_
        refine f_iald C rfl v18 (by omega) (by decide) dX7_whyNotWrite_38 ?_
        rw [mz_18]
        refine e_sipush (v := nI 200) C dX7_whyNotWrite_39 (by decide) ?_
        refine e_icmp_ne (tgt := 50) C dX7_whyNotWrite_42 (by decide) (fun h_42 => ?_) (fun h_42 => ?_)
        · skip
          refine e_iconst (v := nI 0) C dX7_whyNotWrite_50 (by decide) ?_
          exact f_ii C hX dX7_whyNotWrite_51 ⟨rfl, Or.inl ⟨rfl, ⟨h_5, h_12, h_25, h_42⟩⟩⟩
        · skip
          refine e_bipush (v := -4) C dX7_whyNotWrite_45 (by decide) ?_
          refine e_goto (tgt := 51) C dX7_whyNotWrite_47 (by decide) ?_
          exact f_ii C hX dX7_whyNotWrite_51 ⟨rfl, Or.inr ⟨isEr_4, by rw [fWrite, cif_pos ⟨h_5, h_12⟩, cif_pos h_25, cif_pos h_42]⟩⟩
      · skip
        refine e_bipush (v := -2) C dX7_whyNotWrite_28 (by decide) ?_
        refine e_goto (tgt := 51) C dX7_whyNotWrite_30 (by decide) ?_
        exact f_ii C hX dX7_whyNotWrite_51 ⟨rfl, Or.inr ⟨isEr_2, by rw [fWrite, cif_pos ⟨h_5, h_12⟩, cif_neg h_25]⟩⟩
    · skip
      refine e_iconst (v := -1) C dX7_whyNotWrite_15 (by decide) ?_
      exact f_ii C hX dX7_whyNotWrite_16 ⟨rfl, Or.inr ⟨isEr_1, by rw [fWrite, cif_neg (fun q => h_12 q.2)]⟩⟩
set_option maxRecDepth 100000 in
set_option maxHeartbeats 4000000 in
theorem c_X7_writes {E : EV} {l : Launch} {mem : MEM} {z : ZZ} {c i q : Nat} {v : Int32} (hcn : z 0 = nI c) (hc : c < 200) (hi : i < 8) (hq : q < 12) : Ct E l yX7_writes (me_ws yX7_writes cX7_writes 5 (some .int)) 2 [rv (17, 0, 0), iv (nI i), iv (nI q), iv v] (mz mem z) (Ret (iv (nI (c + 1))) (mz mem (wrz z i q v c))) := by
  refine Ct.of (RC := RX7) (ls0 := [rv (17, 0, 0), iv (nI i), iv (nI q), iv v, uv]) mi_yX7_writes (Nat.le_of_ble_eq_true rfl) rfl (fun X C hX => ?_)
  refine e_sipush (v := nI 294) C dX7_writes_0 (by decide) ?_
  refine e_iconst (v := nI 3) C dX7_writes_3 (by decide) ?_
  refine e_aload_n C dX7_writes_4 rfl ?_
  refine e_getr C (ci := 7) 0 rfl rfl rfl (by decide) b_X7 rfl b_fl_X7_7 v17 rfl dX7_writes_5 ?_
  refine e_iconst (v := nI 0) C dX7_writes_8 (by decide) ?_
  refine f_iald C rfl v18 (by omega) (by decide) dX7_writes_9 ?_
  refine f_val (y := nI (c)) (by rw [mz_18]; exact hcn) ?_
  refine f_imuln C dX7_writes_10 ?_
  refine f_iaddn C dX7_writes_11 ?_
  refine f_istore (ls1 := [_, _, _, _, _]) C dX7_writes_12 (by decide) rfl ?_
  refine e_aload_n C dX7_writes_14 rfl ?_
  refine e_getr C (ci := 7) 0 rfl rfl rfl (by decide) b_X7 rfl b_fl_X7_7 v17 rfl dX7_writes_15 ?_
  refine e_iload C dX7_writes_18 rfl ?_
  refine e_iload_n C dX7_writes_20 rfl ?_
  refine f_iast C rfl v18 (by omega) (by decide) dX7_writes_21 ?_
  rw [up_mz]
  refine e_aload_n C dX7_writes_22 rfl ?_
  refine e_getr C (ci := 7) 0 rfl rfl rfl (by decide) b_X7 rfl b_fl_X7_7 v17 rfl dX7_writes_23 ?_
  refine e_iload C dX7_writes_26 rfl ?_
  refine e_iconst (v := nI 1) C dX7_writes_28 (by decide) ?_
  refine f_iaddn C dX7_writes_29 ?_
  refine e_iload_n C dX7_writes_30 rfl ?_
  refine f_iast C rfl v18 (by omega) (by decide) dX7_writes_31 ?_
  rw [up_mz]
  refine e_aload_n C dX7_writes_32 rfl ?_
  refine e_getr C (ci := 7) 0 rfl rfl rfl (by decide) b_X7 rfl b_fl_X7_7 v17 rfl dX7_writes_33 ?_
  refine e_iload C dX7_writes_36 rfl ?_
  refine e_iconst (v := nI 2) C dX7_writes_38 (by decide) ?_
  refine f_iaddn C dX7_writes_39 ?_
  refine e_iload_n C dX7_writes_40 rfl ?_
  refine f_iast C rfl v18 (by omega) (by decide) dX7_writes_41 ?_
  rw [up_mz]
  refine e_aload_n C dX7_writes_42 rfl ?_
  refine e_getr C (ci := 7) 0 rfl rfl rfl (by decide) b_X7 rfl b_fl_X7_7 v17 rfl dX7_writes_43 ?_
  refine e_iconst (v := nI 0) C dX7_writes_46 (by decide) ?_
  refine e_dup2 C dX7_writes_47 ?_
  refine f_iald C rfl v18 (by omega) (by decide) dX7_writes_48 ?_
  refine f_val (y := nI (c)) (by rw [mz_18]; unfold upd; rw [if_neg (by omega), if_neg (by omega), if_neg (by omega)]; exact hcn) ?_
  refine e_iconst (v := nI 1) C dX7_writes_49 (by decide) ?_
  refine f_iaddn C dX7_writes_50 ?_
  refine f_iast C rfl v18 (by omega) (by decide) dX7_writes_51 ?_
  rw [up_mz]
  refine e_aload_n C dX7_writes_52 rfl ?_
  refine e_iload_n C dX7_writes_53 rfl ?_
  refine e_iconst (v := nI 4) C dX7_writes_54 (by decide) ?_
  refine e_aload_n C dX7_writes_55 rfl ?_
  refine e_getr C (ci := 7) 0 rfl rfl rfl (by decide) b_X7 rfl b_fl_X7_7 v17 rfl dX7_writes_56 ?_
  refine e_iconst (v := nI 0) C dX7_writes_59 (by decide) ?_
  refine f_iald C rfl v18 (by omega) (by decide) dX7_writes_60 ?_
  refine f_val (y := nI (c + 1)) (by rw [mz_18]; rfl) ?_
  refine f_callVv (As := [_, _, _]) (ci := 7) C mi_yX7_laySession mv_yX7_laySession b_ml_X7_66 dX7_writes_61 rfl (c_X7_laySession (by omega) (by omega)) (by decide) v17 rfl rfl (Nat.le_of_ble_eq_true rfl) ?_
  refine e_aload_n C dX7_writes_64 rfl ?_
  refine e_iload_n C dX7_writes_65 rfl ?_
  refine e_bipush (v := nI 9) C dX7_writes_66 (by decide) ?_
  refine e_iload_n C dX7_writes_68 rfl ?_
  refine f_iaddn C dX7_writes_69 ?_
  refine e_aload_n C dX7_writes_70 rfl ?_
  refine e_getr C (ci := 7) 0 rfl rfl rfl (by decide) b_X7 rfl b_fl_X7_7 v17 rfl dX7_writes_71 ?_
  refine e_iconst (v := nI 0) C dX7_writes_74 (by decide) ?_
  refine f_iald C rfl v18 (by omega) (by decide) dX7_writes_75 ?_
  refine f_val (y := nI (c + 1)) (by rw [mz_18, hz_ss (by decide)]; rfl) ?_
  refine f_callVv (As := [_, _, _]) (ci := 7) C mi_yX7_laySession mv_yX7_laySession b_ml_X7_66 dX7_writes_76 rfl (c_X7_laySession (by omega) (by omega)) (by decide) v17 rfl rfl (Nat.le_of_ble_eq_true rfl) ?_
  refine e_aload_n C dX7_writes_79 rfl ?_
  refine e_getr C (ci := 7) 0 rfl rfl rfl (by decide) b_X7 rfl b_fl_X7_7 v17 rfl dX7_writes_80 ?_
  refine e_iconst (v := nI 0) C dX7_writes_83 (by decide) ?_
  refine f_iald C rfl v18 (by omega) (by decide) dX7_writes_84 ?_
  refine f_val (y := nI (c + 1)) (by rw [mz_18, hz_ss (by decide), hz_ss (by decide)]; rfl) ?_
  exact f_ir C hX dX7_writes_85 rfl rfl
set_option maxRecDepth 100000 in
set_option maxHeartbeats 4000000 in
theorem c_X7_answer {E : EV} {l : Launch} {mem : MEM} {z : ZZ} {c : Nat} (hI : Inv z c) {i q p : Nat} (hi : i < 8) (hq : q < 12) (hp : isPn z p) {t : Int32} : Ct E l yX7_answer (me_ws yX7_answer cX7_answer 6 (some .int)) 3 [rv (17, 0, 0), iv (nI i), iv (nI q), iv (nI p), iv t] (mz mem z) (Ret (iv (valz z (ansv z q p))) (mz mem (ansz z i q p t))) := by
  obtain ⟨n, hn, en⟩ := posz_nat hI hp
  have hp95 : p = 9 ∨ p < 5 := hp.elim Or.inl (fun h => Or.inr h.1)
  have hpl : p < 10 := by omega
  have hc200 := hI.1
  have hvl : ansv z q p ≤ n := by unfold ansv; rw [en, nt_nI (by omega)]; exact lastw_le _ _ _
  refine Ct.of (RC := RX7) (ls0 := [rv (17, 0, 0), iv (nI i), iv (nI q), iv (nI p), iv t, uv]) mi_yX7_answer (Nat.le_of_ble_eq_true rfl) rfl (fun X C hX => ?_)
  refine e_aload_n C dX7_answer_0 rfl ?_
  refine e_aload_n C dX7_answer_1 rfl ?_
  refine e_iload_n C dX7_answer_2 rfl ?_
  refine f_callVr (As := [_]) (ci := 7) C mi_yX7_at mv_yX7_at b_ml_X7_59 dX7_answer_3 rfl (c_X7_at (by assumption)) (by decide) v17 rfl rfl (Nat.le_of_ble_eq_true rfl) ?_
  refine f_val (y := nI (n)) en ?_
  refine e_iload_n C dX7_answer_6 rfl ?_
  refine f_callVr (As := [_, _]) (ci := 7) C mi_yX7_versionAt mv_yX7_versionAt b_ml_X7_88 dX7_answer_7 rfl (c_X7_versionAt (by omega)) (by decide) v17 rfl rfl (Nat.le_of_ble_eq_true rfl) ?_
  rw [show lastw (keyf z) n (nI q) = ansv z q p from by unfold ansv; rw [en, nt_nI (by omega)]]
  refine f_istore (ls1 := [_, _, _, _, _, _]) C dX7_answer_10 (by decide) rfl ?_
  refine e_aload_n C dX7_answer_12 rfl ?_
  refine e_iload_n C dX7_answer_13 rfl ?_
  refine e_bipush (v := nI 6) C dX7_answer_14 (by decide) ?_
  refine e_aload_n C dX7_answer_16 rfl ?_
  refine e_iload_n C dX7_answer_17 rfl ?_
  refine e_bipush (v := nI 6) C dX7_answer_18 (by decide) ?_
  refine f_callVr (As := [_, _]) (ci := 7) C mi_yX7_ofSession mv_yX7_ofSession b_ml_X7_38 dX7_answer_20 rfl (c_X7_ofSession (by omega) (by omega)) (by decide) v17 rfl rfl (Nat.le_of_ble_eq_true rfl) ?_
  refine e_iconst (v := nI 1) C dX7_answer_23 (by decide) ?_
  refine e_iadd C dX7_answer_24 ?_
  refine f_callVv (As := [_, _, _]) (ci := 7) C mi_yX7_laySession mv_yX7_laySession b_ml_X7_66 dX7_answer_25 rfl (c_X7_laySession (by omega) (by omega)) (by decide) v17 rfl rfl (Nat.le_of_ble_eq_true rfl) ?_
  refine e_aload_n C dX7_answer_28 rfl ?_
  refine e_iload_n C dX7_answer_29 rfl ?_
  refine e_bipush (v := nI 7) C dX7_answer_30 (by decide) ?_
  refine e_aload_n C dX7_answer_32 rfl ?_
  refine e_iload_n C dX7_answer_33 rfl ?_
  refine e_bipush (v := nI 7) C dX7_answer_34 (by decide) ?_
  refine f_callVr (As := [_, _]) (ci := 7) C mi_yX7_ofSession mv_yX7_ofSession b_ml_X7_38 dX7_answer_36 rfl (c_X7_ofSession (by omega) (by omega)) (by decide) v17 rfl rfl (Nat.le_of_ble_eq_true rfl) ?_
  rw [sz_ss (by decide) (by decide), if_neg (by omega)]
  refine e_aload_n C dX7_answer_39 rfl ?_
  refine e_iload_n C dX7_answer_40 rfl ?_
  refine e_bipush (v := nI 9) C dX7_answer_41 (by decide) ?_
  refine e_iload_n C dX7_answer_43 rfl ?_
  refine f_iaddn C dX7_answer_44 ?_
  refine f_callVr (As := [_, _]) (ci := 7) C mi_yX7_ofSession mv_yX7_ofSession b_ml_X7_38 dX7_answer_45 rfl (c_X7_ofSession (by omega) (by omega)) (by decide) v17 rfl rfl (Nat.le_of_ble_eq_true rfl) ?_
  rw [sz_ss (by decide) (by omega), if_neg (by omega)]
  refine e_iload C dX7_answer_48 rfl ?_
  refine e_icmp_le (tgt := 57) C dX7_answer_50 (by decide) (fun h_50 => ?_) (fun h_50 => ?_)
  · skip
    refine e_iconst (v := nI 0) C dX7_answer_57 (by decide) ?_
    refine e_iadd C dX7_answer_58 ?_
    rw [show sz z i 7 + nI 0 = sz z i 7 + cif (sz z i (9 + q) ≤ nI (ansv z q p)) (nI 0) (nI 1) from by rw [cif_pos h_50]]
    refine f_callVv (As := [_, _, _]) (ci := 7) C mi_yX7_laySession mv_yX7_laySession b_ml_X7_66 dX7_answer_59 rfl (c_X7_laySession (by omega) (by omega)) (by decide) v17 rfl rfl (Nat.le_of_ble_eq_true rfl) ?_
    refine e_aload_n C dX7_answer_62 rfl ?_
    refine e_iload_n C dX7_answer_63 rfl ?_
    refine e_bipush (v := nI 8) C dX7_answer_64 (by decide) ?_
    refine e_aload_n C dX7_answer_66 rfl ?_
    refine e_iload_n C dX7_answer_67 rfl ?_
    refine e_bipush (v := nI 8) C dX7_answer_68 (by decide) ?_
    refine f_callVr (As := [_, _]) (ci := 7) C mi_yX7_ofSession mv_yX7_ofSession b_ml_X7_38 dX7_answer_70 rfl (c_X7_ofSession (by omega) (by omega)) (by decide) v17 rfl rfl (Nat.le_of_ble_eq_true rfl) ?_
    rw [sz_ss (by decide) (by decide), if_neg (by omega)]
    rw [sz_ss (by decide) (by decide), if_neg (by omega)]
    refine e_aload_n C dX7_answer_73 rfl ?_
    refine e_iload_n C dX7_answer_74 rfl ?_
    refine e_bipush (v := nI 21) C dX7_answer_75 (by decide) ?_
    refine e_iload_n C dX7_answer_77 rfl ?_
    refine f_iaddn C dX7_answer_78 ?_
    refine f_callVr (As := [_, _]) (ci := 7) C mi_yX7_ofSession mv_yX7_ofSession b_ml_X7_38 dX7_answer_79 rfl (c_X7_ofSession (by omega) (by omega)) (by decide) v17 rfl rfl (Nat.le_of_ble_eq_true rfl) ?_
    rw [sz_ss (by decide) (by omega), if_neg (by omega)]
    rw [sz_ss (by decide) (by omega), if_neg (by omega)]
    refine e_iload C dX7_answer_82 rfl ?_
    refine e_icmp_le (tgt := 91) C dX7_answer_84 (by decide) (fun h_84 => ?_) (fun h_84 => ?_)
    · skip
      refine e_iconst (v := nI 0) C dX7_answer_91 (by decide) ?_
      refine e_iadd C dX7_answer_92 ?_
      rw [show sz z i 8 + nI 0 = sz z i 8 + cif (sz z i (21 + q) ≤ nI (ansv z q p)) (nI 0) (nI 1) from by rw [cif_pos h_84]]
      refine f_callVv (As := [_, _, _]) (ci := 7) C mi_yX7_laySession mv_yX7_laySession b_ml_X7_66 dX7_answer_93 rfl (c_X7_laySession (by omega) (by omega)) (by decide) v17 rfl rfl (Nat.le_of_ble_eq_true rfl) ?_
      refine e_aload_n C dX7_answer_96 rfl ?_
      refine e_iload_n C dX7_answer_97 rfl ?_
      refine e_bipush (v := nI 21) C dX7_answer_98 (by decide) ?_
      refine e_iload_n C dX7_answer_100 rfl ?_
      refine f_iaddn C dX7_answer_101 ?_
      refine e_aload_n C dX7_answer_102 rfl ?_
      refine e_iload_n C dX7_answer_103 rfl ?_
      refine e_bipush (v := nI 21) C dX7_answer_104 (by decide) ?_
      refine e_iload_n C dX7_answer_106 rfl ?_
      refine f_iaddn C dX7_answer_107 ?_
      refine f_callVr (As := [_, _]) (ci := 7) C mi_yX7_ofSession mv_yX7_ofSession b_ml_X7_38 dX7_answer_108 rfl (c_X7_ofSession (by omega) (by omega)) (by decide) v17 rfl rfl (Nat.le_of_ble_eq_true rfl) ?_
      rw [sz_ss (by decide) (by omega), if_neg (by omega)]
      rw [sz_ss (by decide) (by omega), if_neg (by omega)]
      rw [sz_ss (by decide) (by omega), if_neg (by omega)]
      refine e_iload C dX7_answer_111 rfl ?_
      refine f_callSr (As := [_, _]) C mi_yX7_more b_st_yX7_more b_ml_X7_100 dX7_answer_113 rfl c_X7_more (by decide) (Nat.le_of_ble_eq_true rfl) ?_
      refine f_callVv (As := [_, _, _]) (ci := 7) C mi_yX7_laySession mv_yX7_laySession b_ml_X7_66 dX7_answer_116 rfl (c_X7_laySession (by omega) (by omega)) (by decide) v17 rfl rfl (Nat.le_of_ble_eq_true rfl) ?_
      generalize hZ4 : ss (ss (ss (ss z i 6 (sz z i 6 + nI 1)) i 7 (sz z i 7 + cif (sz z i (9 + q) ≤ nI (ansv z q p)) (nI 0) (nI 1))) i 8 (sz z i 8 + cif (sz z i (21 + q) ≤ nI (ansv z q p)) (nI 0) (nI 1))) i (21 + q) (maxI (sz z i (21 + q)) (nI (ansv z q p))) = Z4
      have r4 : ∀ r w, r < 5 → w < 5 → rz Z4 r w = rz z r w := fun r w hr hw => by rw [← hZ4, rz_ss hr hw, rz_ss hr hw, rz_ss hr hw, rz_ss hr hw]
      have s45 : sz Z4 i 5 = sz z i 5 := by rw [← hZ4, sz_ss (by omega) (by decide), if_neg (by omega), sz_ss (by decide) (by decide), if_neg (by omega), sz_ss (by decide) (by decide), if_neg (by omega), sz_ss (by decide) (by decide), if_neg (by omega)]
      have h40 : Z4 0 = z 0 := by rw [← hZ4, hz_ss (by decide), hz_ss (by decide), hz_ss (by decide), hz_ss (by decide)]
      have p4 : posz Z4 p = posz z p := by
        unfold posz
        by_cases h9 : p = 9
        · rw [if_pos h9, if_pos h9]; exact h40
        · rw [if_neg h9, if_neg h9]; exact r4 p 1 (by omega) (by decide)
      have hp4 : isPn Z4 p := by
        rcases hp with h | ⟨h1, h2⟩
        · exact Or.inl h
        · exact Or.inr ⟨h1, by rw [r4 p 0 h1 (by decide)]; exact h2⟩
      have hN : ss Z4 i 5 (maxI (sz z i 5) (posz z p)) = nrz z i q (nI (ansv z q p)) (posz z p) := by rw [← hZ4]; rfl
      refine e_aload_n C dX7_answer_119 rfl ?_
      refine e_iload_n C dX7_answer_120 rfl ?_
      refine e_iconst (v := nI 5) C dX7_answer_121 (by decide) ?_
      refine e_aload_n C dX7_answer_122 rfl ?_
      refine e_iload_n C dX7_answer_123 rfl ?_
      refine e_iconst (v := nI 5) C dX7_answer_124 (by decide) ?_
      refine f_callVr (As := [_, _]) (ci := 7) C mi_yX7_ofSession mv_yX7_ofSession b_ml_X7_38 dX7_answer_125 rfl (c_X7_ofSession (by omega) (by omega)) (by decide) v17 rfl rfl (Nat.le_of_ble_eq_true rfl) ?_
      rw [s45]
      refine e_aload_n C dX7_answer_128 rfl ?_
      refine e_iload_n C dX7_answer_129 rfl ?_
      refine f_callVr (As := [_]) (ci := 7) C mi_yX7_at mv_yX7_at b_ml_X7_59 dX7_answer_130 rfl (c_X7_at hp4) (by decide) v17 rfl rfl (Nat.le_of_ble_eq_true rfl) ?_
      rw [p4]
      refine f_callSr (As := [_, _]) C mi_yX7_more b_st_yX7_more b_ml_X7_100 dX7_answer_133 rfl c_X7_more (by decide) (Nat.le_of_ble_eq_true rfl) ?_
      refine f_callVv (As := [_, _, _]) (ci := 7) C mi_yX7_laySession mv_yX7_laySession b_ml_X7_66 dX7_answer_136 rfl (c_X7_laySession (by omega) (by omega)) (by decide) v17 rfl rfl (Nat.le_of_ble_eq_true rfl) ?_
      rw [hN]
      refine e_iload_n C dX7_answer_139 rfl ?_
      refine e_bipush (v := nI 9) C dX7_answer_140 (by decide) ?_
      refine e_icmp_ne (tgt := 158) C dX7_answer_142 (by decide) (fun h_142 => ?_) (fun h_142 => ?_)
      · skip
        have nh_142 := xI_neD h_142
        have h5 : p < 5 := by omega
        have hop := (hp.resolve_left nh_142).2
        have hRn : isR (nrz z i q (nI (ansv z q p)) (posz z p)) (nI p) := ⟨p, h5, rfl, by rw [nrz_rz hq h5 (by decide)]; exact hop⟩
        refine e_aload_n C dX7_answer_158 rfl ?_
        refine e_iload_n C dX7_answer_159 rfl ?_
        refine e_iconst (v := nI 4) C dX7_answer_160 (by decide) ?_
        refine e_aload_n C dX7_answer_161 rfl ?_
        refine e_iload_n C dX7_answer_162 rfl ?_
        refine e_iconst (v := nI 4) C dX7_answer_163 (by decide) ?_
        refine f_callVr (As := [_, _]) (ci := 7) C mi_yX7_ofReplica mv_yX7_ofReplica b_ml_X7_30 dX7_answer_164 rfl (c_X7_ofReplica (by omega) (by omega)) (by decide) v17 rfl rfl (Nat.le_of_ble_eq_true rfl) ?_
        refine e_iconst (v := nI 1) C dX7_answer_167 (by decide) ?_
        refine e_iadd C dX7_answer_168 ?_
        refine f_callVv (As := [_, _, _]) (ci := 7) C mi_yX7_layReplica mv_yX7_layReplica b_ml_X7_55 dX7_answer_169 rfl (c_X7_layReplica (by omega) (by omega)) (by decide) v17 rfl rfl (Nat.le_of_ble_eq_true rfl) ?_
        refine e_mem (EqV.of (show _ = mz mem (canz (nrz z i q (nI (ansv z q p)) (posz z p)) (nI p)) from by rw [canz, cif_pos hRn, nt_nI (by omega)])) ?_
        refine e_aload_n C dX7_answer_172 rfl ?_
        refine e_getr C (ci := 7) 0 rfl rfl rfl (by decide) b_X7 rfl b_fl_X7_7 v17 rfl dX7_answer_173 ?_
        refine e_iconst (v := nI 1) C dX7_answer_176 (by decide) ?_
        refine e_iload_n C dX7_answer_177 rfl ?_
        refine f_iast C rfl v18 (by omega) (by decide) dX7_answer_178 ?_
        rw [up_mz]
        refine e_aload_n C dX7_answer_179 rfl ?_
        refine e_getr C (ci := 7) 0 rfl rfl rfl (by decide) b_X7 rfl b_fl_X7_7 v17 rfl dX7_answer_180 ?_
        refine e_iconst (v := nI 2) C dX7_answer_183 (by decide) ?_
        refine e_iload C dX7_answer_184 rfl ?_
        refine f_iast C rfl v18 (by omega) (by decide) dX7_answer_186 ?_
        rw [up_mz]
        refine e_aload_n C dX7_answer_187 rfl ?_
        refine e_getr C (ci := 7) 0 rfl rfl rfl (by decide) b_X7 rfl b_fl_X7_7 v17 rfl dX7_answer_188 ?_
        refine e_iconst (v := nI 3) C dX7_answer_191 (by decide) ?_
        refine e_iload C dX7_answer_192 rfl ?_
        refine f_iast C rfl v18 (by omega) (by decide) dX7_answer_194 ?_
        rw [up_mz]
        refine e_aload_n C dX7_answer_195 rfl ?_
        refine e_iload C dX7_answer_196 rfl ?_
        refine f_callVr (As := [_]) (ci := 7) C mi_yX7_valueOf mv_yX7_valueOf b_ml_X7_91 dX7_answer_198 rfl (c_X7_valueOf (by omega)) (by decide) v17 rfl rfl (Nat.le_of_ble_eq_true rfl) ?_
        refine f_ir C hX dX7_answer_201 ?_ rfl
        unfold valz
        by_cases h0 : ansv z q p = 0
        · rw [if_pos h0, if_pos h0]
        · rw [if_neg h0, if_neg h0, wz_h (by decide), wz_h (by decide), wz_h (by decide), canz_wz (fun h => isR_nt h), nrz_wz hi hq]
      · skip
        have nh_142 := xI_inj (by omega) (by omega) h_142
        have hRn : ¬ isR (nrz z i q (nI (ansv z q p)) (posz z p)) (nI p) := fun r => by have := ((isR_nat (by omega)).mp r).1; omega
        refine e_aload_n C dX7_answer_145 rfl ?_
        refine e_getr C (ci := 7) 0 rfl rfl rfl (by decide) b_X7 rfl b_fl_X7_7 v17 rfl dX7_answer_146 ?_
        refine e_iconst (v := nI 4) C dX7_answer_149 (by decide) ?_
        refine e_dup2 C dX7_answer_150 ?_
        refine f_iald C rfl v18 (by omega) (by decide) dX7_answer_151 ?_
        refine e_iconst (v := nI 1) C dX7_answer_152 (by decide) ?_
        refine e_iadd C dX7_answer_153 ?_
        refine f_iast C rfl v18 (by omega) (by decide) dX7_answer_154 ?_
        rw [up_mz, mz_18]
        refine e_mem (EqV.of (show _ = mz mem (canz (nrz z i q (nI (ansv z q p)) (posz z p)) (nI p)) from by rw [canz, cif_neg hRn])) ?_
        refine e_goto (tgt := 172) C dX7_answer_155 (by decide) ?_
        refine e_aload_n C dX7_answer_172 rfl ?_
        refine e_getr C (ci := 7) 0 rfl rfl rfl (by decide) b_X7 rfl b_fl_X7_7 v17 rfl dX7_answer_173 ?_
        refine e_iconst (v := nI 1) C dX7_answer_176 (by decide) ?_
        refine e_iload_n C dX7_answer_177 rfl ?_
        refine f_iast C rfl v18 (by omega) (by decide) dX7_answer_178 ?_
        rw [up_mz]
        refine e_aload_n C dX7_answer_179 rfl ?_
        refine e_getr C (ci := 7) 0 rfl rfl rfl (by decide) b_X7 rfl b_fl_X7_7 v17 rfl dX7_answer_180 ?_
        refine e_iconst (v := nI 2) C dX7_answer_183 (by decide) ?_
        refine e_iload C dX7_answer_184 rfl ?_
        refine f_iast C rfl v18 (by omega) (by decide) dX7_answer_186 ?_
        rw [up_mz]
        refine e_aload_n C dX7_answer_187 rfl ?_
        refine e_getr C (ci := 7) 0 rfl rfl rfl (by decide) b_X7 rfl b_fl_X7_7 v17 rfl dX7_answer_188 ?_
        refine e_iconst (v := nI 3) C dX7_answer_191 (by decide) ?_
        refine e_iload C dX7_answer_192 rfl ?_
        refine f_iast C rfl v18 (by omega) (by decide) dX7_answer_194 ?_
        rw [up_mz]
        refine e_aload_n C dX7_answer_195 rfl ?_
        refine e_iload C dX7_answer_196 rfl ?_
        refine f_callVr (As := [_]) (ci := 7) C mi_yX7_valueOf mv_yX7_valueOf b_ml_X7_91 dX7_answer_198 rfl (c_X7_valueOf (by omega)) (by decide) v17 rfl rfl (Nat.le_of_ble_eq_true rfl) ?_
        refine f_ir C hX dX7_answer_201 ?_ rfl
        unfold valz
        by_cases h0 : ansv z q p = 0
        · rw [if_pos h0, if_pos h0]
        · rw [if_neg h0, if_neg h0, wz_h (by decide), wz_h (by decide), wz_h (by decide), canz_wz (fun h => isR_nt h), nrz_wz hi hq]
    · skip
      refine e_iconst (v := nI 1) C dX7_answer_87 (by decide) ?_
      refine e_goto (tgt := 92) C dX7_answer_88 (by decide) ?_
      refine e_iadd C dX7_answer_92 ?_
      rw [show sz z i 8 + nI 1 = sz z i 8 + cif (sz z i (21 + q) ≤ nI (ansv z q p)) (nI 0) (nI 1) from by rw [cif_neg h_84]]
      refine f_callVv (As := [_, _, _]) (ci := 7) C mi_yX7_laySession mv_yX7_laySession b_ml_X7_66 dX7_answer_93 rfl (c_X7_laySession (by omega) (by omega)) (by decide) v17 rfl rfl (Nat.le_of_ble_eq_true rfl) ?_
      refine e_aload_n C dX7_answer_96 rfl ?_
      refine e_iload_n C dX7_answer_97 rfl ?_
      refine e_bipush (v := nI 21) C dX7_answer_98 (by decide) ?_
      refine e_iload_n C dX7_answer_100 rfl ?_
      refine f_iaddn C dX7_answer_101 ?_
      refine e_aload_n C dX7_answer_102 rfl ?_
      refine e_iload_n C dX7_answer_103 rfl ?_
      refine e_bipush (v := nI 21) C dX7_answer_104 (by decide) ?_
      refine e_iload_n C dX7_answer_106 rfl ?_
      refine f_iaddn C dX7_answer_107 ?_
      refine f_callVr (As := [_, _]) (ci := 7) C mi_yX7_ofSession mv_yX7_ofSession b_ml_X7_38 dX7_answer_108 rfl (c_X7_ofSession (by omega) (by omega)) (by decide) v17 rfl rfl (Nat.le_of_ble_eq_true rfl) ?_
      rw [sz_ss (by decide) (by omega), if_neg (by omega)]
      rw [sz_ss (by decide) (by omega), if_neg (by omega)]
      rw [sz_ss (by decide) (by omega), if_neg (by omega)]
      refine e_iload C dX7_answer_111 rfl ?_
      refine f_callSr (As := [_, _]) C mi_yX7_more b_st_yX7_more b_ml_X7_100 dX7_answer_113 rfl c_X7_more (by decide) (Nat.le_of_ble_eq_true rfl) ?_
      refine f_callVv (As := [_, _, _]) (ci := 7) C mi_yX7_laySession mv_yX7_laySession b_ml_X7_66 dX7_answer_116 rfl (c_X7_laySession (by omega) (by omega)) (by decide) v17 rfl rfl (Nat.le_of_ble_eq_true rfl) ?_
      generalize hZ4 : ss (ss (ss (ss z i 6 (sz z i 6 + nI 1)) i 7 (sz z i 7 + cif (sz z i (9 + q) ≤ nI (ansv z q p)) (nI 0) (nI 1))) i 8 (sz z i 8 + cif (sz z i (21 + q) ≤ nI (ansv z q p)) (nI 0) (nI 1))) i (21 + q) (maxI (sz z i (21 + q)) (nI (ansv z q p))) = Z4
      have r4 : ∀ r w, r < 5 → w < 5 → rz Z4 r w = rz z r w := fun r w hr hw => by rw [← hZ4, rz_ss hr hw, rz_ss hr hw, rz_ss hr hw, rz_ss hr hw]
      have s45 : sz Z4 i 5 = sz z i 5 := by rw [← hZ4, sz_ss (by omega) (by decide), if_neg (by omega), sz_ss (by decide) (by decide), if_neg (by omega), sz_ss (by decide) (by decide), if_neg (by omega), sz_ss (by decide) (by decide), if_neg (by omega)]
      have h40 : Z4 0 = z 0 := by rw [← hZ4, hz_ss (by decide), hz_ss (by decide), hz_ss (by decide), hz_ss (by decide)]
      have p4 : posz Z4 p = posz z p := by
        unfold posz
        by_cases h9 : p = 9
        · rw [if_pos h9, if_pos h9]; exact h40
        · rw [if_neg h9, if_neg h9]; exact r4 p 1 (by omega) (by decide)
      have hp4 : isPn Z4 p := by
        rcases hp with h | ⟨h1, h2⟩
        · exact Or.inl h
        · exact Or.inr ⟨h1, by rw [r4 p 0 h1 (by decide)]; exact h2⟩
      have hN : ss Z4 i 5 (maxI (sz z i 5) (posz z p)) = nrz z i q (nI (ansv z q p)) (posz z p) := by rw [← hZ4]; rfl
      refine e_aload_n C dX7_answer_119 rfl ?_
      refine e_iload_n C dX7_answer_120 rfl ?_
      refine e_iconst (v := nI 5) C dX7_answer_121 (by decide) ?_
      refine e_aload_n C dX7_answer_122 rfl ?_
      refine e_iload_n C dX7_answer_123 rfl ?_
      refine e_iconst (v := nI 5) C dX7_answer_124 (by decide) ?_
      refine f_callVr (As := [_, _]) (ci := 7) C mi_yX7_ofSession mv_yX7_ofSession b_ml_X7_38 dX7_answer_125 rfl (c_X7_ofSession (by omega) (by omega)) (by decide) v17 rfl rfl (Nat.le_of_ble_eq_true rfl) ?_
      rw [s45]
      refine e_aload_n C dX7_answer_128 rfl ?_
      refine e_iload_n C dX7_answer_129 rfl ?_
      refine f_callVr (As := [_]) (ci := 7) C mi_yX7_at mv_yX7_at b_ml_X7_59 dX7_answer_130 rfl (c_X7_at hp4) (by decide) v17 rfl rfl (Nat.le_of_ble_eq_true rfl) ?_
      rw [p4]
      refine f_callSr (As := [_, _]) C mi_yX7_more b_st_yX7_more b_ml_X7_100 dX7_answer_133 rfl c_X7_more (by decide) (Nat.le_of_ble_eq_true rfl) ?_
      refine f_callVv (As := [_, _, _]) (ci := 7) C mi_yX7_laySession mv_yX7_laySession b_ml_X7_66 dX7_answer_136 rfl (c_X7_laySession (by omega) (by omega)) (by decide) v17 rfl rfl (Nat.le_of_ble_eq_true rfl) ?_
      rw [hN]
      refine e_iload_n C dX7_answer_139 rfl ?_
      refine e_bipush (v := nI 9) C dX7_answer_140 (by decide) ?_
      refine e_icmp_ne (tgt := 158) C dX7_answer_142 (by decide) (fun h_142 => ?_) (fun h_142 => ?_)
      · skip
        have nh_142 := xI_neD h_142
        have h5 : p < 5 := by omega
        have hop := (hp.resolve_left nh_142).2
        have hRn : isR (nrz z i q (nI (ansv z q p)) (posz z p)) (nI p) := ⟨p, h5, rfl, by rw [nrz_rz hq h5 (by decide)]; exact hop⟩
        refine e_aload_n C dX7_answer_158 rfl ?_
        refine e_iload_n C dX7_answer_159 rfl ?_
        refine e_iconst (v := nI 4) C dX7_answer_160 (by decide) ?_
        refine e_aload_n C dX7_answer_161 rfl ?_
        refine e_iload_n C dX7_answer_162 rfl ?_
        refine e_iconst (v := nI 4) C dX7_answer_163 (by decide) ?_
        refine f_callVr (As := [_, _]) (ci := 7) C mi_yX7_ofReplica mv_yX7_ofReplica b_ml_X7_30 dX7_answer_164 rfl (c_X7_ofReplica (by omega) (by omega)) (by decide) v17 rfl rfl (Nat.le_of_ble_eq_true rfl) ?_
        refine e_iconst (v := nI 1) C dX7_answer_167 (by decide) ?_
        refine e_iadd C dX7_answer_168 ?_
        refine f_callVv (As := [_, _, _]) (ci := 7) C mi_yX7_layReplica mv_yX7_layReplica b_ml_X7_55 dX7_answer_169 rfl (c_X7_layReplica (by omega) (by omega)) (by decide) v17 rfl rfl (Nat.le_of_ble_eq_true rfl) ?_
        refine e_mem (EqV.of (show _ = mz mem (canz (nrz z i q (nI (ansv z q p)) (posz z p)) (nI p)) from by rw [canz, cif_pos hRn, nt_nI (by omega)])) ?_
        refine e_aload_n C dX7_answer_172 rfl ?_
        refine e_getr C (ci := 7) 0 rfl rfl rfl (by decide) b_X7 rfl b_fl_X7_7 v17 rfl dX7_answer_173 ?_
        refine e_iconst (v := nI 1) C dX7_answer_176 (by decide) ?_
        refine e_iload_n C dX7_answer_177 rfl ?_
        refine f_iast C rfl v18 (by omega) (by decide) dX7_answer_178 ?_
        rw [up_mz]
        refine e_aload_n C dX7_answer_179 rfl ?_
        refine e_getr C (ci := 7) 0 rfl rfl rfl (by decide) b_X7 rfl b_fl_X7_7 v17 rfl dX7_answer_180 ?_
        refine e_iconst (v := nI 2) C dX7_answer_183 (by decide) ?_
        refine e_iload C dX7_answer_184 rfl ?_
        refine f_iast C rfl v18 (by omega) (by decide) dX7_answer_186 ?_
        rw [up_mz]
        refine e_aload_n C dX7_answer_187 rfl ?_
        refine e_getr C (ci := 7) 0 rfl rfl rfl (by decide) b_X7 rfl b_fl_X7_7 v17 rfl dX7_answer_188 ?_
        refine e_iconst (v := nI 3) C dX7_answer_191 (by decide) ?_
        refine e_iload C dX7_answer_192 rfl ?_
        refine f_iast C rfl v18 (by omega) (by decide) dX7_answer_194 ?_
        rw [up_mz]
        refine e_aload_n C dX7_answer_195 rfl ?_
        refine e_iload C dX7_answer_196 rfl ?_
        refine f_callVr (As := [_]) (ci := 7) C mi_yX7_valueOf mv_yX7_valueOf b_ml_X7_91 dX7_answer_198 rfl (c_X7_valueOf (by omega)) (by decide) v17 rfl rfl (Nat.le_of_ble_eq_true rfl) ?_
        refine f_ir C hX dX7_answer_201 ?_ rfl
        unfold valz
        by_cases h0 : ansv z q p = 0
        · rw [if_pos h0, if_pos h0]
        · rw [if_neg h0, if_neg h0, wz_h (by decide), wz_h (by decide), wz_h (by decide), canz_wz (fun h => isR_nt h), nrz_wz hi hq]
      · skip
        have nh_142 := xI_inj (by omega) (by omega) h_142
        have hRn : ¬ isR (nrz z i q (nI (ansv z q p)) (posz z p)) (nI p) := fun r => by have := ((isR_nat (by omega)).mp r).1; omega
        refine e_aload_n C dX7_answer_145 rfl ?_
        refine e_getr C (ci := 7) 0 rfl rfl rfl (by decide) b_X7 rfl b_fl_X7_7 v17 rfl dX7_answer_146 ?_
        refine e_iconst (v := nI 4) C dX7_answer_149 (by decide) ?_
        refine e_dup2 C dX7_answer_150 ?_
        refine f_iald C rfl v18 (by omega) (by decide) dX7_answer_151 ?_
        refine e_iconst (v := nI 1) C dX7_answer_152 (by decide) ?_
        refine e_iadd C dX7_answer_153 ?_
        refine f_iast C rfl v18 (by omega) (by decide) dX7_answer_154 ?_
        rw [up_mz, mz_18]
        refine e_mem (EqV.of (show _ = mz mem (canz (nrz z i q (nI (ansv z q p)) (posz z p)) (nI p)) from by rw [canz, cif_neg hRn])) ?_
        refine e_goto (tgt := 172) C dX7_answer_155 (by decide) ?_
        refine e_aload_n C dX7_answer_172 rfl ?_
        refine e_getr C (ci := 7) 0 rfl rfl rfl (by decide) b_X7 rfl b_fl_X7_7 v17 rfl dX7_answer_173 ?_
        refine e_iconst (v := nI 1) C dX7_answer_176 (by decide) ?_
        refine e_iload_n C dX7_answer_177 rfl ?_
        refine f_iast C rfl v18 (by omega) (by decide) dX7_answer_178 ?_
        rw [up_mz]
        refine e_aload_n C dX7_answer_179 rfl ?_
        refine e_getr C (ci := 7) 0 rfl rfl rfl (by decide) b_X7 rfl b_fl_X7_7 v17 rfl dX7_answer_180 ?_
        refine e_iconst (v := nI 2) C dX7_answer_183 (by decide) ?_
        refine e_iload C dX7_answer_184 rfl ?_
        refine f_iast C rfl v18 (by omega) (by decide) dX7_answer_186 ?_
        rw [up_mz]
        refine e_aload_n C dX7_answer_187 rfl ?_
        refine e_getr C (ci := 7) 0 rfl rfl rfl (by decide) b_X7 rfl b_fl_X7_7 v17 rfl dX7_answer_188 ?_
        refine e_iconst (v := nI 3) C dX7_answer_191 (by decide) ?_
        refine e_iload C dX7_answer_192 rfl ?_
        refine f_iast C rfl v18 (by omega) (by decide) dX7_answer_194 ?_
        rw [up_mz]
        refine e_aload_n C dX7_answer_195 rfl ?_
        refine e_iload C dX7_answer_196 rfl ?_
        refine f_callVr (As := [_]) (ci := 7) C mi_yX7_valueOf mv_yX7_valueOf b_ml_X7_91 dX7_answer_198 rfl (c_X7_valueOf (by omega)) (by decide) v17 rfl rfl (Nat.le_of_ble_eq_true rfl) ?_
        refine f_ir C hX dX7_answer_201 ?_ rfl
        unfold valz
        by_cases h0 : ansv z q p = 0
        · rw [if_pos h0, if_pos h0]
        · rw [if_neg h0, if_neg h0, wz_h (by decide), wz_h (by decide), wz_h (by decide), canz_wz (fun h => isR_nt h), nrz_wz hi hq]
  · skip
    refine e_iconst (v := nI 1) C dX7_answer_53 (by decide) ?_
    refine e_goto (tgt := 58) C dX7_answer_54 (by decide) ?_
    refine e_iadd C dX7_answer_58 ?_
    rw [show sz z i 7 + nI 1 = sz z i 7 + cif (sz z i (9 + q) ≤ nI (ansv z q p)) (nI 0) (nI 1) from by rw [cif_neg h_50]]
    refine f_callVv (As := [_, _, _]) (ci := 7) C mi_yX7_laySession mv_yX7_laySession b_ml_X7_66 dX7_answer_59 rfl (c_X7_laySession (by omega) (by omega)) (by decide) v17 rfl rfl (Nat.le_of_ble_eq_true rfl) ?_
    refine e_aload_n C dX7_answer_62 rfl ?_
    refine e_iload_n C dX7_answer_63 rfl ?_
    refine e_bipush (v := nI 8) C dX7_answer_64 (by decide) ?_
    refine e_aload_n C dX7_answer_66 rfl ?_
    refine e_iload_n C dX7_answer_67 rfl ?_
    refine e_bipush (v := nI 8) C dX7_answer_68 (by decide) ?_
    refine f_callVr (As := [_, _]) (ci := 7) C mi_yX7_ofSession mv_yX7_ofSession b_ml_X7_38 dX7_answer_70 rfl (c_X7_ofSession (by omega) (by omega)) (by decide) v17 rfl rfl (Nat.le_of_ble_eq_true rfl) ?_
    rw [sz_ss (by decide) (by decide), if_neg (by omega)]
    rw [sz_ss (by decide) (by decide), if_neg (by omega)]
    refine e_aload_n C dX7_answer_73 rfl ?_
    refine e_iload_n C dX7_answer_74 rfl ?_
    refine e_bipush (v := nI 21) C dX7_answer_75 (by decide) ?_
    refine e_iload_n C dX7_answer_77 rfl ?_
    refine f_iaddn C dX7_answer_78 ?_
    refine f_callVr (As := [_, _]) (ci := 7) C mi_yX7_ofSession mv_yX7_ofSession b_ml_X7_38 dX7_answer_79 rfl (c_X7_ofSession (by omega) (by omega)) (by decide) v17 rfl rfl (Nat.le_of_ble_eq_true rfl) ?_
    rw [sz_ss (by decide) (by omega), if_neg (by omega)]
    rw [sz_ss (by decide) (by omega), if_neg (by omega)]
    refine e_iload C dX7_answer_82 rfl ?_
    refine e_icmp_le (tgt := 91) C dX7_answer_84 (by decide) (fun h_84 => ?_) (fun h_84 => ?_)
    · skip
      refine e_iconst (v := nI 0) C dX7_answer_91 (by decide) ?_
      refine e_iadd C dX7_answer_92 ?_
      rw [show sz z i 8 + nI 0 = sz z i 8 + cif (sz z i (21 + q) ≤ nI (ansv z q p)) (nI 0) (nI 1) from by rw [cif_pos h_84]]
      refine f_callVv (As := [_, _, _]) (ci := 7) C mi_yX7_laySession mv_yX7_laySession b_ml_X7_66 dX7_answer_93 rfl (c_X7_laySession (by omega) (by omega)) (by decide) v17 rfl rfl (Nat.le_of_ble_eq_true rfl) ?_
      refine e_aload_n C dX7_answer_96 rfl ?_
      refine e_iload_n C dX7_answer_97 rfl ?_
      refine e_bipush (v := nI 21) C dX7_answer_98 (by decide) ?_
      refine e_iload_n C dX7_answer_100 rfl ?_
      refine f_iaddn C dX7_answer_101 ?_
      refine e_aload_n C dX7_answer_102 rfl ?_
      refine e_iload_n C dX7_answer_103 rfl ?_
      refine e_bipush (v := nI 21) C dX7_answer_104 (by decide) ?_
      refine e_iload_n C dX7_answer_106 rfl ?_
      refine f_iaddn C dX7_answer_107 ?_
      refine f_callVr (As := [_, _]) (ci := 7) C mi_yX7_ofSession mv_yX7_ofSession b_ml_X7_38 dX7_answer_108 rfl (c_X7_ofSession (by omega) (by omega)) (by decide) v17 rfl rfl (Nat.le_of_ble_eq_true rfl) ?_
      rw [sz_ss (by decide) (by omega), if_neg (by omega)]
      rw [sz_ss (by decide) (by omega), if_neg (by omega)]
      rw [sz_ss (by decide) (by omega), if_neg (by omega)]
      refine e_iload C dX7_answer_111 rfl ?_
      refine f_callSr (As := [_, _]) C mi_yX7_more b_st_yX7_more b_ml_X7_100 dX7_answer_113 rfl c_X7_more (by decide) (Nat.le_of_ble_eq_true rfl) ?_
      refine f_callVv (As := [_, _, _]) (ci := 7) C mi_yX7_laySession mv_yX7_laySession b_ml_X7_66 dX7_answer_116 rfl (c_X7_laySession (by omega) (by omega)) (by decide) v17 rfl rfl (Nat.le_of_ble_eq_true rfl) ?_
      generalize hZ4 : ss (ss (ss (ss z i 6 (sz z i 6 + nI 1)) i 7 (sz z i 7 + cif (sz z i (9 + q) ≤ nI (ansv z q p)) (nI 0) (nI 1))) i 8 (sz z i 8 + cif (sz z i (21 + q) ≤ nI (ansv z q p)) (nI 0) (nI 1))) i (21 + q) (maxI (sz z i (21 + q)) (nI (ansv z q p))) = Z4
      have r4 : ∀ r w, r < 5 → w < 5 → rz Z4 r w = rz z r w := fun r w hr hw => by rw [← hZ4, rz_ss hr hw, rz_ss hr hw, rz_ss hr hw, rz_ss hr hw]
      have s45 : sz Z4 i 5 = sz z i 5 := by rw [← hZ4, sz_ss (by omega) (by decide), if_neg (by omega), sz_ss (by decide) (by decide), if_neg (by omega), sz_ss (by decide) (by decide), if_neg (by omega), sz_ss (by decide) (by decide), if_neg (by omega)]
      have h40 : Z4 0 = z 0 := by rw [← hZ4, hz_ss (by decide), hz_ss (by decide), hz_ss (by decide), hz_ss (by decide)]
      have p4 : posz Z4 p = posz z p := by
        unfold posz
        by_cases h9 : p = 9
        · rw [if_pos h9, if_pos h9]; exact h40
        · rw [if_neg h9, if_neg h9]; exact r4 p 1 (by omega) (by decide)
      have hp4 : isPn Z4 p := by
        rcases hp with h | ⟨h1, h2⟩
        · exact Or.inl h
        · exact Or.inr ⟨h1, by rw [r4 p 0 h1 (by decide)]; exact h2⟩
      have hN : ss Z4 i 5 (maxI (sz z i 5) (posz z p)) = nrz z i q (nI (ansv z q p)) (posz z p) := by rw [← hZ4]; rfl
      refine e_aload_n C dX7_answer_119 rfl ?_
      refine e_iload_n C dX7_answer_120 rfl ?_
      refine e_iconst (v := nI 5) C dX7_answer_121 (by decide) ?_
      refine e_aload_n C dX7_answer_122 rfl ?_
      refine e_iload_n C dX7_answer_123 rfl ?_
      refine e_iconst (v := nI 5) C dX7_answer_124 (by decide) ?_
      refine f_callVr (As := [_, _]) (ci := 7) C mi_yX7_ofSession mv_yX7_ofSession b_ml_X7_38 dX7_answer_125 rfl (c_X7_ofSession (by omega) (by omega)) (by decide) v17 rfl rfl (Nat.le_of_ble_eq_true rfl) ?_
      rw [s45]
      refine e_aload_n C dX7_answer_128 rfl ?_
      refine e_iload_n C dX7_answer_129 rfl ?_
      refine f_callVr (As := [_]) (ci := 7) C mi_yX7_at mv_yX7_at b_ml_X7_59 dX7_answer_130 rfl (c_X7_at hp4) (by decide) v17 rfl rfl (Nat.le_of_ble_eq_true rfl) ?_
      rw [p4]
      refine f_callSr (As := [_, _]) C mi_yX7_more b_st_yX7_more b_ml_X7_100 dX7_answer_133 rfl c_X7_more (by decide) (Nat.le_of_ble_eq_true rfl) ?_
      refine f_callVv (As := [_, _, _]) (ci := 7) C mi_yX7_laySession mv_yX7_laySession b_ml_X7_66 dX7_answer_136 rfl (c_X7_laySession (by omega) (by omega)) (by decide) v17 rfl rfl (Nat.le_of_ble_eq_true rfl) ?_
      rw [hN]
      refine e_iload_n C dX7_answer_139 rfl ?_
      refine e_bipush (v := nI 9) C dX7_answer_140 (by decide) ?_
      refine e_icmp_ne (tgt := 158) C dX7_answer_142 (by decide) (fun h_142 => ?_) (fun h_142 => ?_)
      · skip
        have nh_142 := xI_neD h_142
        have h5 : p < 5 := by omega
        have hop := (hp.resolve_left nh_142).2
        have hRn : isR (nrz z i q (nI (ansv z q p)) (posz z p)) (nI p) := ⟨p, h5, rfl, by rw [nrz_rz hq h5 (by decide)]; exact hop⟩
        refine e_aload_n C dX7_answer_158 rfl ?_
        refine e_iload_n C dX7_answer_159 rfl ?_
        refine e_iconst (v := nI 4) C dX7_answer_160 (by decide) ?_
        refine e_aload_n C dX7_answer_161 rfl ?_
        refine e_iload_n C dX7_answer_162 rfl ?_
        refine e_iconst (v := nI 4) C dX7_answer_163 (by decide) ?_
        refine f_callVr (As := [_, _]) (ci := 7) C mi_yX7_ofReplica mv_yX7_ofReplica b_ml_X7_30 dX7_answer_164 rfl (c_X7_ofReplica (by omega) (by omega)) (by decide) v17 rfl rfl (Nat.le_of_ble_eq_true rfl) ?_
        refine e_iconst (v := nI 1) C dX7_answer_167 (by decide) ?_
        refine e_iadd C dX7_answer_168 ?_
        refine f_callVv (As := [_, _, _]) (ci := 7) C mi_yX7_layReplica mv_yX7_layReplica b_ml_X7_55 dX7_answer_169 rfl (c_X7_layReplica (by omega) (by omega)) (by decide) v17 rfl rfl (Nat.le_of_ble_eq_true rfl) ?_
        refine e_mem (EqV.of (show _ = mz mem (canz (nrz z i q (nI (ansv z q p)) (posz z p)) (nI p)) from by rw [canz, cif_pos hRn, nt_nI (by omega)])) ?_
        refine e_aload_n C dX7_answer_172 rfl ?_
        refine e_getr C (ci := 7) 0 rfl rfl rfl (by decide) b_X7 rfl b_fl_X7_7 v17 rfl dX7_answer_173 ?_
        refine e_iconst (v := nI 1) C dX7_answer_176 (by decide) ?_
        refine e_iload_n C dX7_answer_177 rfl ?_
        refine f_iast C rfl v18 (by omega) (by decide) dX7_answer_178 ?_
        rw [up_mz]
        refine e_aload_n C dX7_answer_179 rfl ?_
        refine e_getr C (ci := 7) 0 rfl rfl rfl (by decide) b_X7 rfl b_fl_X7_7 v17 rfl dX7_answer_180 ?_
        refine e_iconst (v := nI 2) C dX7_answer_183 (by decide) ?_
        refine e_iload C dX7_answer_184 rfl ?_
        refine f_iast C rfl v18 (by omega) (by decide) dX7_answer_186 ?_
        rw [up_mz]
        refine e_aload_n C dX7_answer_187 rfl ?_
        refine e_getr C (ci := 7) 0 rfl rfl rfl (by decide) b_X7 rfl b_fl_X7_7 v17 rfl dX7_answer_188 ?_
        refine e_iconst (v := nI 3) C dX7_answer_191 (by decide) ?_
        refine e_iload C dX7_answer_192 rfl ?_
        refine f_iast C rfl v18 (by omega) (by decide) dX7_answer_194 ?_
        rw [up_mz]
        refine e_aload_n C dX7_answer_195 rfl ?_
        refine e_iload C dX7_answer_196 rfl ?_
        refine f_callVr (As := [_]) (ci := 7) C mi_yX7_valueOf mv_yX7_valueOf b_ml_X7_91 dX7_answer_198 rfl (c_X7_valueOf (by omega)) (by decide) v17 rfl rfl (Nat.le_of_ble_eq_true rfl) ?_
        refine f_ir C hX dX7_answer_201 ?_ rfl
        unfold valz
        by_cases h0 : ansv z q p = 0
        · rw [if_pos h0, if_pos h0]
        · rw [if_neg h0, if_neg h0, wz_h (by decide), wz_h (by decide), wz_h (by decide), canz_wz (fun h => isR_nt h), nrz_wz hi hq]
      · skip
        have nh_142 := xI_inj (by omega) (by omega) h_142
        have hRn : ¬ isR (nrz z i q (nI (ansv z q p)) (posz z p)) (nI p) := fun r => by have := ((isR_nat (by omega)).mp r).1; omega
        refine e_aload_n C dX7_answer_145 rfl ?_
        refine e_getr C (ci := 7) 0 rfl rfl rfl (by decide) b_X7 rfl b_fl_X7_7 v17 rfl dX7_answer_146 ?_
        refine e_iconst (v := nI 4) C dX7_answer_149 (by decide) ?_
        refine e_dup2 C dX7_answer_150 ?_
        refine f_iald C rfl v18 (by omega) (by decide) dX7_answer_151 ?_
        refine e_iconst (v := nI 1) C dX7_answer_152 (by decide) ?_
        refine e_iadd C dX7_answer_153 ?_
        refine f_iast C rfl v18 (by omega) (by decide) dX7_answer_154 ?_
        rw [up_mz, mz_18]
        refine e_mem (EqV.of (show _ = mz mem (canz (nrz z i q (nI (ansv z q p)) (posz z p)) (nI p)) from by rw [canz, cif_neg hRn])) ?_
        refine e_goto (tgt := 172) C dX7_answer_155 (by decide) ?_
        refine e_aload_n C dX7_answer_172 rfl ?_
        refine e_getr C (ci := 7) 0 rfl rfl rfl (by decide) b_X7 rfl b_fl_X7_7 v17 rfl dX7_answer_173 ?_
        refine e_iconst (v := nI 1) C dX7_answer_176 (by decide) ?_
        refine e_iload_n C dX7_answer_177 rfl ?_
        refine f_iast C rfl v18 (by omega) (by decide) dX7_answer_178 ?_
        rw [up_mz]
        refine e_aload_n C dX7_answer_179 rfl ?_
        refine e_getr C (ci := 7) 0 rfl rfl rfl (by decide) b_X7 rfl b_fl_X7_7 v17 rfl dX7_answer_180 ?_
        refine e_iconst (v := nI 2) C dX7_answer_183 (by decide) ?_
        refine e_iload C dX7_answer_184 rfl ?_
        refine f_iast C rfl v18 (by omega) (by decide) dX7_answer_186 ?_
        rw [up_mz]
        refine e_aload_n C dX7_answer_187 rfl ?_
        refine e_getr C (ci := 7) 0 rfl rfl rfl (by decide) b_X7 rfl b_fl_X7_7 v17 rfl dX7_answer_188 ?_
        refine e_iconst (v := nI 3) C dX7_answer_191 (by decide) ?_
        refine e_iload C dX7_answer_192 rfl ?_
        refine f_iast C rfl v18 (by omega) (by decide) dX7_answer_194 ?_
        rw [up_mz]
        refine e_aload_n C dX7_answer_195 rfl ?_
        refine e_iload C dX7_answer_196 rfl ?_
        refine f_callVr (As := [_]) (ci := 7) C mi_yX7_valueOf mv_yX7_valueOf b_ml_X7_91 dX7_answer_198 rfl (c_X7_valueOf (by omega)) (by decide) v17 rfl rfl (Nat.le_of_ble_eq_true rfl) ?_
        refine f_ir C hX dX7_answer_201 ?_ rfl
        unfold valz
        by_cases h0 : ansv z q p = 0
        · rw [if_pos h0, if_pos h0]
        · rw [if_neg h0, if_neg h0, wz_h (by decide), wz_h (by decide), wz_h (by decide), canz_wz (fun h => isR_nt h), nrz_wz hi hq]
    · skip
      refine e_iconst (v := nI 1) C dX7_answer_87 (by decide) ?_
      refine e_goto (tgt := 92) C dX7_answer_88 (by decide) ?_
      refine e_iadd C dX7_answer_92 ?_
      rw [show sz z i 8 + nI 1 = sz z i 8 + cif (sz z i (21 + q) ≤ nI (ansv z q p)) (nI 0) (nI 1) from by rw [cif_neg h_84]]
      refine f_callVv (As := [_, _, _]) (ci := 7) C mi_yX7_laySession mv_yX7_laySession b_ml_X7_66 dX7_answer_93 rfl (c_X7_laySession (by omega) (by omega)) (by decide) v17 rfl rfl (Nat.le_of_ble_eq_true rfl) ?_
      refine e_aload_n C dX7_answer_96 rfl ?_
      refine e_iload_n C dX7_answer_97 rfl ?_
      refine e_bipush (v := nI 21) C dX7_answer_98 (by decide) ?_
      refine e_iload_n C dX7_answer_100 rfl ?_
      refine f_iaddn C dX7_answer_101 ?_
      refine e_aload_n C dX7_answer_102 rfl ?_
      refine e_iload_n C dX7_answer_103 rfl ?_
      refine e_bipush (v := nI 21) C dX7_answer_104 (by decide) ?_
      refine e_iload_n C dX7_answer_106 rfl ?_
      refine f_iaddn C dX7_answer_107 ?_
      refine f_callVr (As := [_, _]) (ci := 7) C mi_yX7_ofSession mv_yX7_ofSession b_ml_X7_38 dX7_answer_108 rfl (c_X7_ofSession (by omega) (by omega)) (by decide) v17 rfl rfl (Nat.le_of_ble_eq_true rfl) ?_
      rw [sz_ss (by decide) (by omega), if_neg (by omega)]
      rw [sz_ss (by decide) (by omega), if_neg (by omega)]
      rw [sz_ss (by decide) (by omega), if_neg (by omega)]
      refine e_iload C dX7_answer_111 rfl ?_
      refine f_callSr (As := [_, _]) C mi_yX7_more b_st_yX7_more b_ml_X7_100 dX7_answer_113 rfl c_X7_more (by decide) (Nat.le_of_ble_eq_true rfl) ?_
      refine f_callVv (As := [_, _, _]) (ci := 7) C mi_yX7_laySession mv_yX7_laySession b_ml_X7_66 dX7_answer_116 rfl (c_X7_laySession (by omega) (by omega)) (by decide) v17 rfl rfl (Nat.le_of_ble_eq_true rfl) ?_
      generalize hZ4 : ss (ss (ss (ss z i 6 (sz z i 6 + nI 1)) i 7 (sz z i 7 + cif (sz z i (9 + q) ≤ nI (ansv z q p)) (nI 0) (nI 1))) i 8 (sz z i 8 + cif (sz z i (21 + q) ≤ nI (ansv z q p)) (nI 0) (nI 1))) i (21 + q) (maxI (sz z i (21 + q)) (nI (ansv z q p))) = Z4
      have r4 : ∀ r w, r < 5 → w < 5 → rz Z4 r w = rz z r w := fun r w hr hw => by rw [← hZ4, rz_ss hr hw, rz_ss hr hw, rz_ss hr hw, rz_ss hr hw]
      have s45 : sz Z4 i 5 = sz z i 5 := by rw [← hZ4, sz_ss (by omega) (by decide), if_neg (by omega), sz_ss (by decide) (by decide), if_neg (by omega), sz_ss (by decide) (by decide), if_neg (by omega), sz_ss (by decide) (by decide), if_neg (by omega)]
      have h40 : Z4 0 = z 0 := by rw [← hZ4, hz_ss (by decide), hz_ss (by decide), hz_ss (by decide), hz_ss (by decide)]
      have p4 : posz Z4 p = posz z p := by
        unfold posz
        by_cases h9 : p = 9
        · rw [if_pos h9, if_pos h9]; exact h40
        · rw [if_neg h9, if_neg h9]; exact r4 p 1 (by omega) (by decide)
      have hp4 : isPn Z4 p := by
        rcases hp with h | ⟨h1, h2⟩
        · exact Or.inl h
        · exact Or.inr ⟨h1, by rw [r4 p 0 h1 (by decide)]; exact h2⟩
      have hN : ss Z4 i 5 (maxI (sz z i 5) (posz z p)) = nrz z i q (nI (ansv z q p)) (posz z p) := by rw [← hZ4]; rfl
      refine e_aload_n C dX7_answer_119 rfl ?_
      refine e_iload_n C dX7_answer_120 rfl ?_
      refine e_iconst (v := nI 5) C dX7_answer_121 (by decide) ?_
      refine e_aload_n C dX7_answer_122 rfl ?_
      refine e_iload_n C dX7_answer_123 rfl ?_
      refine e_iconst (v := nI 5) C dX7_answer_124 (by decide) ?_
      refine f_callVr (As := [_, _]) (ci := 7) C mi_yX7_ofSession mv_yX7_ofSession b_ml_X7_38 dX7_answer_125 rfl (c_X7_ofSession (by omega) (by omega)) (by decide) v17 rfl rfl (Nat.le_of_ble_eq_true rfl) ?_
      rw [s45]
      refine e_aload_n C dX7_answer_128 rfl ?_
      refine e_iload_n C dX7_answer_129 rfl ?_
      refine f_callVr (As := [_]) (ci := 7) C mi_yX7_at mv_yX7_at b_ml_X7_59 dX7_answer_130 rfl (c_X7_at hp4) (by decide) v17 rfl rfl (Nat.le_of_ble_eq_true rfl) ?_
      rw [p4]
      refine f_callSr (As := [_, _]) C mi_yX7_more b_st_yX7_more b_ml_X7_100 dX7_answer_133 rfl c_X7_more (by decide) (Nat.le_of_ble_eq_true rfl) ?_
      refine f_callVv (As := [_, _, _]) (ci := 7) C mi_yX7_laySession mv_yX7_laySession b_ml_X7_66 dX7_answer_136 rfl (c_X7_laySession (by omega) (by omega)) (by decide) v17 rfl rfl (Nat.le_of_ble_eq_true rfl) ?_
      rw [hN]
      refine e_iload_n C dX7_answer_139 rfl ?_
      refine e_bipush (v := nI 9) C dX7_answer_140 (by decide) ?_
      refine e_icmp_ne (tgt := 158) C dX7_answer_142 (by decide) (fun h_142 => ?_) (fun h_142 => ?_)
      · skip
        have nh_142 := xI_neD h_142
        have h5 : p < 5 := by omega
        have hop := (hp.resolve_left nh_142).2
        have hRn : isR (nrz z i q (nI (ansv z q p)) (posz z p)) (nI p) := ⟨p, h5, rfl, by rw [nrz_rz hq h5 (by decide)]; exact hop⟩
        refine e_aload_n C dX7_answer_158 rfl ?_
        refine e_iload_n C dX7_answer_159 rfl ?_
        refine e_iconst (v := nI 4) C dX7_answer_160 (by decide) ?_
        refine e_aload_n C dX7_answer_161 rfl ?_
        refine e_iload_n C dX7_answer_162 rfl ?_
        refine e_iconst (v := nI 4) C dX7_answer_163 (by decide) ?_
        refine f_callVr (As := [_, _]) (ci := 7) C mi_yX7_ofReplica mv_yX7_ofReplica b_ml_X7_30 dX7_answer_164 rfl (c_X7_ofReplica (by omega) (by omega)) (by decide) v17 rfl rfl (Nat.le_of_ble_eq_true rfl) ?_
        refine e_iconst (v := nI 1) C dX7_answer_167 (by decide) ?_
        refine e_iadd C dX7_answer_168 ?_
        refine f_callVv (As := [_, _, _]) (ci := 7) C mi_yX7_layReplica mv_yX7_layReplica b_ml_X7_55 dX7_answer_169 rfl (c_X7_layReplica (by omega) (by omega)) (by decide) v17 rfl rfl (Nat.le_of_ble_eq_true rfl) ?_
        refine e_mem (EqV.of (show _ = mz mem (canz (nrz z i q (nI (ansv z q p)) (posz z p)) (nI p)) from by rw [canz, cif_pos hRn, nt_nI (by omega)])) ?_
        refine e_aload_n C dX7_answer_172 rfl ?_
        refine e_getr C (ci := 7) 0 rfl rfl rfl (by decide) b_X7 rfl b_fl_X7_7 v17 rfl dX7_answer_173 ?_
        refine e_iconst (v := nI 1) C dX7_answer_176 (by decide) ?_
        refine e_iload_n C dX7_answer_177 rfl ?_
        refine f_iast C rfl v18 (by omega) (by decide) dX7_answer_178 ?_
        rw [up_mz]
        refine e_aload_n C dX7_answer_179 rfl ?_
        refine e_getr C (ci := 7) 0 rfl rfl rfl (by decide) b_X7 rfl b_fl_X7_7 v17 rfl dX7_answer_180 ?_
        refine e_iconst (v := nI 2) C dX7_answer_183 (by decide) ?_
        refine e_iload C dX7_answer_184 rfl ?_
        refine f_iast C rfl v18 (by omega) (by decide) dX7_answer_186 ?_
        rw [up_mz]
        refine e_aload_n C dX7_answer_187 rfl ?_
        refine e_getr C (ci := 7) 0 rfl rfl rfl (by decide) b_X7 rfl b_fl_X7_7 v17 rfl dX7_answer_188 ?_
        refine e_iconst (v := nI 3) C dX7_answer_191 (by decide) ?_
        refine e_iload C dX7_answer_192 rfl ?_
        refine f_iast C rfl v18 (by omega) (by decide) dX7_answer_194 ?_
        rw [up_mz]
        refine e_aload_n C dX7_answer_195 rfl ?_
        refine e_iload C dX7_answer_196 rfl ?_
        refine f_callVr (As := [_]) (ci := 7) C mi_yX7_valueOf mv_yX7_valueOf b_ml_X7_91 dX7_answer_198 rfl (c_X7_valueOf (by omega)) (by decide) v17 rfl rfl (Nat.le_of_ble_eq_true rfl) ?_
        refine f_ir C hX dX7_answer_201 ?_ rfl
        unfold valz
        by_cases h0 : ansv z q p = 0
        · rw [if_pos h0, if_pos h0]
        · rw [if_neg h0, if_neg h0, wz_h (by decide), wz_h (by decide), wz_h (by decide), canz_wz (fun h => isR_nt h), nrz_wz hi hq]
      · skip
        have nh_142 := xI_inj (by omega) (by omega) h_142
        have hRn : ¬ isR (nrz z i q (nI (ansv z q p)) (posz z p)) (nI p) := fun r => by have := ((isR_nat (by omega)).mp r).1; omega
        refine e_aload_n C dX7_answer_145 rfl ?_
        refine e_getr C (ci := 7) 0 rfl rfl rfl (by decide) b_X7 rfl b_fl_X7_7 v17 rfl dX7_answer_146 ?_
        refine e_iconst (v := nI 4) C dX7_answer_149 (by decide) ?_
        refine e_dup2 C dX7_answer_150 ?_
        refine f_iald C rfl v18 (by omega) (by decide) dX7_answer_151 ?_
        refine e_iconst (v := nI 1) C dX7_answer_152 (by decide) ?_
        refine e_iadd C dX7_answer_153 ?_
        refine f_iast C rfl v18 (by omega) (by decide) dX7_answer_154 ?_
        rw [up_mz, mz_18]
        refine e_mem (EqV.of (show _ = mz mem (canz (nrz z i q (nI (ansv z q p)) (posz z p)) (nI p)) from by rw [canz, cif_neg hRn])) ?_
        refine e_goto (tgt := 172) C dX7_answer_155 (by decide) ?_
        refine e_aload_n C dX7_answer_172 rfl ?_
        refine e_getr C (ci := 7) 0 rfl rfl rfl (by decide) b_X7 rfl b_fl_X7_7 v17 rfl dX7_answer_173 ?_
        refine e_iconst (v := nI 1) C dX7_answer_176 (by decide) ?_
        refine e_iload_n C dX7_answer_177 rfl ?_
        refine f_iast C rfl v18 (by omega) (by decide) dX7_answer_178 ?_
        rw [up_mz]
        refine e_aload_n C dX7_answer_179 rfl ?_
        refine e_getr C (ci := 7) 0 rfl rfl rfl (by decide) b_X7 rfl b_fl_X7_7 v17 rfl dX7_answer_180 ?_
        refine e_iconst (v := nI 2) C dX7_answer_183 (by decide) ?_
        refine e_iload C dX7_answer_184 rfl ?_
        refine f_iast C rfl v18 (by omega) (by decide) dX7_answer_186 ?_
        rw [up_mz]
        refine e_aload_n C dX7_answer_187 rfl ?_
        refine e_getr C (ci := 7) 0 rfl rfl rfl (by decide) b_X7 rfl b_fl_X7_7 v17 rfl dX7_answer_188 ?_
        refine e_iconst (v := nI 3) C dX7_answer_191 (by decide) ?_
        refine e_iload C dX7_answer_192 rfl ?_
        refine f_iast C rfl v18 (by omega) (by decide) dX7_answer_194 ?_
        rw [up_mz]
        refine e_aload_n C dX7_answer_195 rfl ?_
        refine e_iload C dX7_answer_196 rfl ?_
        refine f_callVr (As := [_]) (ci := 7) C mi_yX7_valueOf mv_yX7_valueOf b_ml_X7_91 dX7_answer_198 rfl (c_X7_valueOf (by omega)) (by decide) v17 rfl rfl (Nat.le_of_ble_eq_true rfl) ?_
        refine f_ir C hX dX7_answer_201 ?_ rfl
        unfold valz
        by_cases h0 : ansv z q p = 0
        · rw [if_pos h0, if_pos h0]
        · rw [if_neg h0, if_neg h0, wz_h (by decide), wz_h (by decide), wz_h (by decide), canz_wz (fun h => isR_nt h), nrz_wz hi hq]
set_option maxRecDepth 100000 in
set_option maxHeartbeats 4000000 in
theorem c_X7_waitsAtHome {E : EV} {l : Launch} {mem : MEM} {z : ZZ} {c : Nat} (hI : Inv z c) {i : Nat} (hi : i < 8) (ho : sz z i 0 = 1) {q : Nat} (hq : q < 12) : Ct E l yX7_waitsAtHome (me_ws yX7_waitsAtHome cX7_waitsAtHome 4 (some .int)) 6 [rv (17, 0, 0), iv (nI i), iv (nI q)] (mz mem z) (Ret (iv (wah z i q)) (mz mem z)) := by
  obtain ⟨p, b, ep, hp, hpl, hb, eb⟩ := hI.home hi ho
  refine Ct.of (RC := RX7) (ls0 := [rv (17, 0, 0), iv (nI i), iv (nI q), uv]) mi_yX7_waitsAtHome (Nat.le_of_ble_eq_true rfl) rfl (fun X C hX => ?_)
  refine e_aload_n C dX7_waitsAtHome_0 rfl ?_
  refine e_iload_n C dX7_waitsAtHome_1 rfl ?_
  refine e_iload_n C dX7_waitsAtHome_2 rfl ?_
  refine e_aload_n C dX7_waitsAtHome_3 rfl ?_
  refine e_iload_n C dX7_waitsAtHome_4 rfl ?_
  refine e_iconst (v := nI 1) C dX7_waitsAtHome_5 (by decide) ?_
  refine f_callVr (As := [_, _]) (ci := 7) C mi_yX7_ofSession mv_yX7_ofSession b_ml_X7_38 dX7_waitsAtHome_6 rfl (c_X7_ofSession (by omega) (by omega)) (by decide) v17 rfl rfl (Nat.le_of_ble_eq_true rfl) ?_
  refine f_val (y := nI (p)) ep ?_
  refine f_callVr (As := [_, _, _]) (ci := 7) C mi_yX7_waitOf mv_yX7_waitOf b_ml_X7_126 dX7_waitsAtHome_9 rfl (c_X7_waitOf hI hi ho hp) (by decide) v17 rfl rfl (Nat.le_of_ble_eq_true rfl) ?_
  rw [show waitg z i (nI q) (nI p) = hwt z i q from by rw [hwt, ep]]
  refine f_istore_n (ls1 := [_, _, _, _]) C dX7_waitsAtHome_12 (by decide) rfl ?_
  refine e_iload_n C dX7_waitsAtHome_13 rfl ?_
  refine e_bipush (v := -6) C dX7_waitsAtHome_14 (by decide) ?_
  refine e_icmp_eq (tgt := 29) C dX7_waitsAtHome_16 (by decide) (fun h_16 => ?_) (fun h_16 => ?_)
  · skip
    refine e_bipush (v := -6) C dX7_waitsAtHome_29 (by decide) ?_
    refine e_goto (tgt := 35) C dX7_waitsAtHome_31 (by decide) ?_
    exact f_ir C hX dX7_waitsAtHome_35 (by rw [wah, cif_neg (fun r => r.1 h_16)]) rfl
  · skip
    refine e_iload_n C dX7_waitsAtHome_19 rfl ?_
    refine e_aload_n C dX7_waitsAtHome_20 rfl ?_
    refine e_iload_n C dX7_waitsAtHome_21 rfl ?_
    refine e_iconst (v := nI 3) C dX7_waitsAtHome_22 (by decide) ?_
    refine f_callVr (As := [_, _]) (ci := 7) C mi_yX7_ofSession mv_yX7_ofSession b_ml_X7_38 dX7_waitsAtHome_23 rfl (c_X7_ofSession (by omega) (by omega)) (by decide) v17 rfl rfl (Nat.le_of_ble_eq_true rfl) ?_
    refine e_icmp_le (tgt := 34) C dX7_waitsAtHome_26 (by decide) (fun h_26 => ?_) (fun h_26 => ?_)
    · skip
      refine e_iload_n C dX7_waitsAtHome_34 rfl ?_
      exact f_ir C hX dX7_waitsAtHome_35 (by rw [wah, cif_pos ⟨h_16, h_26⟩]) rfl
    · skip
      refine e_bipush (v := -6) C dX7_waitsAtHome_29 (by decide) ?_
      refine e_goto (tgt := 35) C dX7_waitsAtHome_31 (by decide) ?_
      exact f_ir C hX dX7_waitsAtHome_35 (by rw [wah, cif_neg (fun r => h_26 r.2)]) rfl
set_option maxRecDepth 100000 in
set_option maxHeartbeats 4000000 in
theorem c_X7_whyNotRead {E : EV} {l : Launch} {mem : MEM} {z : ZZ} {c : Nat} (hI : Inv z c) {s k : Int32} : Ct E l yX7_whyNotRead (me_ws yX7_whyNotRead cX7_whyNotRead 3 (some .int)) 7 [rv (17, 0, 0), iv s, iv k] (mz mem z) (fun rr mm => ∃ xx : Int32, rr = iv xx ∧ (mm = mz mem z ∧ Why z (fRead z s k) (isS z s ∧ isK k ∧ ((¬ hwt z (nt s) (nt k) = -6 ∧ hwt z (nt s) (nt k) ≤ sz z (nt s) 3) ∨ hasz z (nt s) (nI 8))) xx)) := by
  refine Ct.of (RC := RX7) (ls0 := [rv (17, 0, 0), iv s, iv k]) mi_yX7_whyNotRead (Nat.le_of_ble_eq_true rfl) rfl (fun X C hX => ?_)
  refine e_aload_n C dX7_whyNotRead_0 rfl ?_
  refine e_iload_n C dX7_whyNotRead_1 rfl ?_
  refine f_callVr (As := [_]) (ci := 7) C mi_yX7_isSession mv_yX7_isSession b_ml_X7_94 dX7_whyNotRead_2 rfl c_X7_isSession (by decide) v17 rfl rfl (Nat.le_of_ble_eq_true rfl) ?_
  refine f_if_eq (tgt := 15) C dX7_whyNotRead_5 (by decide) (fun h_5 => ?_) (fun h_5 => ?_)
  · skip
    refine e_iconst (v := -1) C dX7_whyNotRead_15 (by decide) ?_
    exact f_ii C hX dX7_whyNotRead_16 ⟨rfl, Or.inr ⟨isEr_1, by rw [fRead, cif_neg (fun q => h_5 q.1)]⟩⟩
  · skip
    have hSS := h_5
    obtain ⟨i, hi, rfl, ho⟩ := h_5
    refine e_iload_n C dX7_whyNotRead_8 rfl ?_
    refine f_callSr (As := [_]) C mi_yX7_isKey b_st_yX7_isKey b_ml_X7_85 dX7_whyNotRead_9 rfl c_X7_isKey (by decide) (Nat.le_of_ble_eq_true rfl) ?_
    refine f_if_ne (tgt := 17) C dX7_whyNotRead_12 (by decide) (fun h_12 => ?_) (fun h_12 => ?_)
    · skip
      have hKK := h_12
      obtain ⟨q, hq, rfl⟩ := isK_nat h_12
      refine e_aload_n C dX7_whyNotRead_17 rfl ?_
      refine e_iload_n C dX7_whyNotRead_18 rfl ?_
      refine e_iload_n C dX7_whyNotRead_19 rfl ?_
      refine f_callVr (As := [_, _]) (ci := 7) C mi_yX7_waitsAtHome mv_yX7_waitsAtHome b_ml_X7_129 dX7_whyNotRead_20 rfl (c_X7_waitsAtHome (by assumption) (by assumption) (by assumption) (by assumption)) (by decide) v17 rfl rfl (Nat.le_of_ble_eq_true rfl) ?_
      refine e_bipush (v := -6) C dX7_whyNotRead_23 (by decide) ?_
      refine e_icmp_ne (tgt := 43) C dX7_whyNotRead_25 (by decide) (fun h_25 => ?_) (fun h_25 => ?_)
      · skip
        refine e_iconst (v := nI 0) C dX7_whyNotRead_43 (by decide) ?_
        exact f_ii C hX dX7_whyNotRead_44 ⟨rfl, Or.inl ⟨rfl, ⟨hSS, hKK, by rw [nt_nI (by omega), nt_nI (by omega)]; exact Or.inl (Classical.byContradiction fun r => h_25 (wah_6.mpr r))⟩⟩⟩
      · skip
        refine e_aload_n C dX7_whyNotRead_28 rfl ?_
        refine e_iload_n C dX7_whyNotRead_29 rfl ?_
        refine e_bipush (v := nI 8) C dX7_whyNotRead_30 (by decide) ?_
        refine f_callVr (As := [_, _]) (ci := 7) C mi_yX7_has mv_yX7_has b_ml_X7_109 dX7_whyNotRead_32 rfl (c_X7_has (by omega)) (by decide) v17 rfl rfl (Nat.le_of_ble_eq_true rfl) ?_
        refine f_if_ne (tgt := 43) C dX7_whyNotRead_35 (by decide) (fun h_35 => ?_) (fun h_35 => ?_)
        · skip
          refine e_iconst (v := nI 0) C dX7_whyNotRead_43 (by decide) ?_
          exact f_ii C hX dX7_whyNotRead_44 ⟨rfl, Or.inl ⟨rfl, ⟨hSS, hKK, by rw [nt_nI (by omega), nt_nI (by omega)]; exact Or.inr h_35⟩⟩⟩
        · skip
          refine e_bipush (v := -3) C dX7_whyNotRead_38 (by decide) ?_
          refine e_goto (tgt := 44) C dX7_whyNotRead_40 (by decide) ?_
          exact f_ii C hX dX7_whyNotRead_44 ⟨rfl, Or.inr ⟨isEr_3, by rw [fRead, cif_pos ⟨hSS, hKK⟩, nt_nI (by omega), nt_nI (by omega), rdz_e (wah_6.mp h_25) h_35]⟩⟩
    · skip
      refine e_iconst (v := -1) C dX7_whyNotRead_15 (by decide) ?_
      exact f_ii C hX dX7_whyNotRead_16 ⟨rfl, Or.inr ⟨isEr_1, by rw [fRead, cif_neg (fun q => h_12 q.2)]⟩⟩
set_option maxRecDepth 100000 in
set_option maxHeartbeats 4000000 in
theorem c_X7_reads {E : EV} {l : Launch} {mem : MEM} {z : ZZ} {c : Nat} (hI : Inv z c) {i : Nat} (hi : i < 8) (ho : sz z i 0 = 1) {q : Nat} (hq : q < 12) (hcd : (¬ hwt z i q = -6 ∧ hwt z i q ≤ sz z i 3) ∨ hasz z i (nI 8)) : Ct E l yX7_reads (me_ws yX7_reads cX7_reads 4 (some .int)) 7 [rv (17, 0, 0), iv (nI i), iv (nI q)] (mz mem z) (Ret (iv (rdz z i q).1) (mz mem (rdz z i q).2)) := by
  obtain ⟨p, b, ep, hp, hpl, hb, eb⟩ := hI.home hi ho
  refine Ct.of (RC := RX7) (ls0 := [rv (17, 0, 0), iv (nI i), iv (nI q), uv]) mi_yX7_reads (Nat.le_of_ble_eq_true rfl) rfl (fun X C hX => ?_)
  refine e_aload_n C dX7_reads_0 rfl ?_
  refine e_iload_n C dX7_reads_1 rfl ?_
  refine e_iload_n C dX7_reads_2 rfl ?_
  refine f_callVr (As := [_, _]) (ci := 7) C mi_yX7_waitsAtHome mv_yX7_waitsAtHome b_ml_X7_129 dX7_reads_3 rfl (c_X7_waitsAtHome (by assumption) (by assumption) (by assumption) (by assumption)) (by decide) v17 rfl rfl (Nat.le_of_ble_eq_true rfl) ?_
  refine f_istore_n (ls1 := [_, _, _, _]) C dX7_reads_6 (by decide) rfl ?_
  refine e_iload_n C dX7_reads_7 rfl ?_
  refine e_bipush (v := -6) C dX7_reads_8 (by decide) ?_
  refine e_icmp_ne (tgt := 23) C dX7_reads_10 (by decide) (fun h_10 => ?_) (fun h_10 => ?_)
  · skip
    have hy : ¬ hwt z i q = -6 ∧ hwt z i q ≤ sz z i 3 := Classical.byContradiction fun r => h_10 (wah_6.mpr r)
    obtain ⟨w, hw, ew⟩ := (waitg_nat (key := nI q) (n := sz z i 1) hI hi ho).resolve_left hy.1
    have hwb : w ≤ b := by
      have h2 := hy.2
      rw [show hwt z i q = nI w from ew, eb] at h2
      exact xI_leD hw (by omega) h2
    rw [show wah z i q = nI w from by rw [wah, cif_pos hy]; exact ew]
    refine e_aload_n C dX7_reads_23 rfl ?_
    refine e_iload_n C dX7_reads_24 rfl ?_
    refine f_callVv (As := [_]) (ci := 7) C mi_yX7_ticks mv_yX7_ticks b_ml_X7_78 dX7_reads_25 rfl c_X7_ticks (by decide) v17 rfl rfl (Nat.le_of_ble_eq_true rfl) ?_
    refine e_aload_n C dX7_reads_28 rfl ?_
    refine e_iload_n C dX7_reads_29 rfl ?_
    refine e_iload_n C dX7_reads_30 rfl ?_
    refine e_aload_n C dX7_reads_31 rfl ?_
    refine e_iload_n C dX7_reads_32 rfl ?_
    refine e_iconst (v := nI 1) C dX7_reads_33 (by decide) ?_
    refine f_callVr (As := [_, _]) (ci := 7) C mi_yX7_ofSession mv_yX7_ofSession b_ml_X7_38 dX7_reads_34 rfl (c_X7_ofSession (by omega) (by omega)) (by decide) v17 rfl rfl (Nat.le_of_ble_eq_true rfl) ?_
    refine f_val (y := nI (p)) (by rw [tck_sz 5 (Nat.le_refl 5)]; exact ep) ?_
    refine e_iload_n C dX7_reads_37 rfl ?_
    refine f_callVr (As := [_, _, _, _]) (ci := 7) C mi_yX7_answer mv_yX7_answer b_ml_X7_132 dX7_reads_38 rfl (c_X7_answer (Inv_tck hI (by omega)) hi hq (isPn_tck hp)) (by decide) v17 rfl rfl (Nat.le_of_ble_eq_true rfl) ?_
    exact f_ir C hX dX7_reads_41 (by rw [rdz_y hy, show hwt z i q = nI w from ew, ep, nt_nI (by omega)]; rfl) (by rw [rdz_y hy, show hwt z i q = nI w from ew, ep, nt_nI (by omega)]; rfl)
  · skip
    refine e_aload_n C dX7_reads_13 rfl ?_
    refine e_iload_n C dX7_reads_14 rfl ?_
    refine e_iload_n C dX7_reads_15 rfl ?_
    refine e_bipush (v := nI 9) C dX7_reads_16 (by decide) ?_
    refine e_iconst (v := nI 0) C dX7_reads_18 (by decide) ?_
    refine f_callVr (As := [_, _, _, _]) (ci := 7) C mi_yX7_answer mv_yX7_answer b_ml_X7_132 dX7_reads_19 rfl (c_X7_answer hI hi hq (Or.inl rfl)) (by decide) v17 rfl rfl (Nat.le_of_ble_eq_true rfl) ?_
    have hn := wah_6.mp h_10
    exact f_ir C hX dX7_reads_22 (by rw [rdz_n hn (hcd.resolve_left hn)]; rfl) (by rw [rdz_n hn (hcd.resolve_left hn)]; rfl)
