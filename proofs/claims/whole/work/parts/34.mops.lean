/-! ===== the model: its calls that may be undone ===== -/
theorem z33_0 {z : ZZ} {s : Nat} : z33 z s 0 = z := by
  funext j
  unfold z33
  rw [if_neg (by omega)]
theorem z33_s {z : ZZ} {s k : Nat} : ss (z33 z s k) s k (nI 0) = z33 z s (k + 1) := by
  funext j
  unfold ss upd z33
  by_cases h : j = 30 + 33 * s + k
  · rw [if_pos h, if_pos (by omega)]
  · rw [if_neg h]
    by_cases h2 : 30 + 33 * s ≤ j ∧ j < 30 + 33 * s + k
    · rw [if_pos h2, if_pos (by omega)]
    · rw [if_neg h2, if_neg (by omega)]

set_option maxRecDepth 100000 in
set_option maxHeartbeats 4000000 in
theorem c_X7_setRate {E : EV} {l : Launch} {mem : MEM} {a : AS} (hM : RM mem a) (hGd : Good a.1) {r v : Int32} : Ct E l yX7_setRate (me_ws yX7_setRate cX7_setRate 4 (some .int)) 4 [rv (17, 0, 0), iv r, iv v] mem (fun rr mm => ∃ xx : Int32, rr = iv xx ∧ PoM mem (und (fRate a.1 r v) a) ((fRate a.1 r v).1) xx mm) := by
  obtain ⟨c, hG⟩ := hGd
  have hI := hG.1
  have hc200 := hI.1
  have hcn := hI.2.1
  refine Ct.of (RC := RX7) (ls0 := [rv (17, 0, 0), iv r, iv v, uv]) mi_yX7_setRate (Nat.le_of_ble_eq_true rfl) rfl (fun X C hX => ?_)
  refine e_mem (EqV.of (mz_self hM.1).symm) ?_
  refine e_aload_n C dX7_setRate_0 rfl ?_
  refine e_iload_n C dX7_setRate_1 rfl ?_
  refine f_callVr (As := [_]) (ci := 7) C mi_yX7_isReplica mv_yX7_isReplica b_ml_X7_34 dX7_setRate_2 rfl c_X7_isReplica (by decide) v17 rfl rfl (Nat.le_of_ble_eq_true rfl) ?_
  refine f_if_ne (tgt := 10) C dX7_setRate_5 (by decide) (fun h_5 => ?_) (fun h_5 => ?_)
  · skip
    have hRR := h_5
    obtain ⟨i, hi, rfl, ho⟩ := h_5
    obtain ⟨pp, qq, hpp, hqq, epp, eqq, hst⟩ := hI.reps hi ho
    refine e_iload_n C dX7_setRate_10 rfl ?_
    refine e_iconst (v := nI 0) C dX7_setRate_11 (by decide) ?_
    refine e_bipush (v := nI 9) C dX7_setRate_12 (by decide) ?_
    refine f_callSr (As := [_, _, _]) C mi_yX7_in b_st_yX7_in b_ml_X7_26 dX7_setRate_14 rfl c_X7_in (by decide) (Nat.le_of_ble_eq_true rfl) ?_
    refine f_if_ne (tgt := 23) C dX7_setRate_17 (by decide) (fun h_17 => ?_) (fun h_17 => ?_)
    · skip
      refine e_aload_n C dX7_setRate_23 rfl ?_
      refine f_callVu (As := []) (ci := 7) C mi_yX7_record mv_yX7_record b_ml_X7_49 dX7_setRate_24 rfl (c_X7_record hM.2) (by decide) v17 rfl rfl (Nat.le_of_ble_eq_true rfl) (fun m_24 hc_24 => ?_)
      obtain ⟨m0, rfl, hr0, hf0⟩ := hc_24
      refine e_aload_n C dX7_setRate_27 rfl ?_
      refine e_iload_n C dX7_setRate_28 rfl ?_
      refine e_iconst (v := nI 2) C dX7_setRate_29 (by decide) ?_
      refine f_callVr (As := [_, _]) (ci := 7) C mi_yX7_ofReplica mv_yX7_ofReplica b_ml_X7_30 dX7_setRate_30 rfl (c_X7_ofReplica (by omega) (by omega)) (by decide) v17 rfl rfl (Nat.le_of_ble_eq_true rfl) ?_
      refine f_istore_n (ls1 := [_, _, _, _]) C dX7_setRate_33 (by decide) rfl ?_
      refine e_aload_n C dX7_setRate_34 rfl ?_
      refine e_iload_n C dX7_setRate_35 rfl ?_
      refine e_iconst (v := nI 2) C dX7_setRate_36 (by decide) ?_
      refine e_iload_n C dX7_setRate_37 rfl ?_
      refine f_callVv (As := [_, _, _]) (ci := 7) C mi_yX7_layReplica mv_yX7_layReplica b_ml_X7_55 dX7_setRate_38 rfl (c_X7_layReplica (by omega) (by omega)) (by decide) v17 rfl rfl (Nat.le_of_ble_eq_true rfl) ?_
      refine e_iload_n C dX7_setRate_41 rfl ?_
      exact f_ii C hX dX7_setRate_42 (RM.ok hr0 hf0 (by rw [fRate, cif_pos ⟨_, hi, rfl, ho⟩, cif_pos h_17, nt_nI (by omega)]) (by rw [eqq]; exact isEr_nI (by omega)))
    · skip
      refine e_bipush (v := -2) C dX7_setRate_20 (by decide) ?_
      exact f_ii C hX dX7_setRate_22 (RM.er hM (by rw [fRate, cif_pos ⟨_, hi, rfl, ho⟩, cif_neg h_17]) isEr_2)
  · skip
    refine e_iconst (v := -1) C dX7_setRate_8 (by decide) ?_
    exact f_ii C hX dX7_setRate_9 (RM.er hM (by rw [fRate, cif_neg h_5]) isEr_1)
set_option maxRecDepth 100000 in
set_option maxHeartbeats 4000000 in
theorem c_X7_stop {E : EV} {l : Launch} {mem : MEM} {a : AS} (hM : RM mem a) (hGd : Good a.1) {r b : Int32} (hb : b = 0 ∨ b = 1) : Ct E l yX7_stop (me_ws yX7_stop cX7_stop 4 (some .int)) 4 [rv (17, 0, 0), iv r, iv b] mem (fun rr mm => ∃ xx : Int32, rr = iv xx ∧ PoM mem (und (fStop a.1 r b) a) ((fStop a.1 r b).1) xx mm) := by
  obtain ⟨c, hG⟩ := hGd
  have hI := hG.1
  have hc200 := hI.1
  have hcn := hI.2.1
  refine Ct.of (RC := RX7) (ls0 := [rv (17, 0, 0), iv r, iv b, uv]) mi_yX7_stop (Nat.le_of_ble_eq_true rfl) rfl (fun X C hX => ?_)
  refine e_mem (EqV.of (mz_self hM.1).symm) ?_
  refine e_aload_n C dX7_stop_0 rfl ?_
  refine e_iload_n C dX7_stop_1 rfl ?_
  refine f_callVr (As := [_]) (ci := 7) C mi_yX7_isReplica mv_yX7_isReplica b_ml_X7_34 dX7_stop_2 rfl c_X7_isReplica (by decide) v17 rfl rfl (Nat.le_of_ble_eq_true rfl) ?_
  refine f_if_ne (tgt := 10) C dX7_stop_5 (by decide) (fun h_5 => ?_) (fun h_5 => ?_)
  · skip
    have hRR := h_5
    obtain ⟨i, hi, rfl, ho⟩ := h_5
    obtain ⟨pp, qq, hpp, hqq, epp, eqq, hst⟩ := hI.reps hi ho
    refine e_aload_n C dX7_stop_10 rfl ?_
    refine f_callVu (As := []) (ci := 7) C mi_yX7_record mv_yX7_record b_ml_X7_49 dX7_stop_11 rfl (c_X7_record hM.2) (by decide) v17 rfl rfl (Nat.le_of_ble_eq_true rfl) (fun m_11 hc_11 => ?_)
    obtain ⟨m0, rfl, hr0, hf0⟩ := hc_11
    refine e_aload_n C dX7_stop_14 rfl ?_
    refine e_iload_n C dX7_stop_15 rfl ?_
    refine e_iconst (v := nI 3) C dX7_stop_16 (by decide) ?_
    refine f_callVr (As := [_, _]) (ci := 7) C mi_yX7_ofReplica mv_yX7_ofReplica b_ml_X7_30 dX7_stop_17 rfl (c_X7_ofReplica (by omega) (by omega)) (by decide) v17 rfl rfl (Nat.le_of_ble_eq_true rfl) ?_
    refine f_istore_n (ls1 := [_, _, _, _]) C dX7_stop_20 (by decide) rfl ?_
    refine e_aload_n C dX7_stop_21 rfl ?_
    refine e_iload_n C dX7_stop_22 rfl ?_
    refine e_iconst (v := nI 3) C dX7_stop_23 (by decide) ?_
    refine e_iload_n C dX7_stop_24 rfl ?_
    refine e_if_eq (tgt := 32) C dX7_stop_25 (by decide) (fun h_25 => ?_) (fun h_25 => ?_)
    · skip
      obtain rfl : b = 0 := h_25
      refine e_iconst (v := nI 0) C dX7_stop_32 (by decide) ?_
      refine f_callVv (As := [_, _, _]) (ci := 7) C mi_yX7_layReplica mv_yX7_layReplica b_ml_X7_55 dX7_stop_33 rfl (c_X7_layReplica (by omega) (by omega)) (by decide) v17 rfl rfl (Nat.le_of_ble_eq_true rfl) ?_
      refine e_iload_n C dX7_stop_36 rfl ?_
      exact f_ii C hX dX7_stop_37 (RM.ok hr0 hf0 (by rw [fStop, cif_pos ⟨_, hi, rfl, ho⟩, nt_nI (by omega)]; rfl) (hst.elim (fun e => by rw [e]; exact isEr_nI (n := 0) (by decide)) (fun e => by rw [e]; exact isEr_nI (n := 1) (by decide))))
    · skip
      obtain rfl : b = 1 := hb.resolve_left h_25
      refine e_iconst (v := nI 1) C dX7_stop_28 (by decide) ?_
      refine e_goto (tgt := 33) C dX7_stop_29 (by decide) ?_
      refine f_callVv (As := [_, _, _]) (ci := 7) C mi_yX7_layReplica mv_yX7_layReplica b_ml_X7_55 dX7_stop_33 rfl (c_X7_layReplica (by omega) (by omega)) (by decide) v17 rfl rfl (Nat.le_of_ble_eq_true rfl) ?_
      refine e_iload_n C dX7_stop_36 rfl ?_
      exact f_ii C hX dX7_stop_37 (RM.ok hr0 hf0 (by rw [fStop, cif_pos ⟨_, hi, rfl, ho⟩, nt_nI (by omega)]; rfl) (hst.elim (fun e => by rw [e]; exact isEr_nI (n := 0) (by decide)) (fun e => by rw [e]; exact isEr_nI (n := 1) (by decide))))
  · skip
    refine e_iconst (v := -1) C dX7_stop_8 (by decide) ?_
    exact f_ii C hX dX7_stop_9 (RM.er hM (by rw [fStop, cif_neg h_5]) isEr_1)
set_option maxRecDepth 100000 in
set_option maxHeartbeats 4000000 in
theorem lp_X7_drop {E : EV} {l : Launch} {X : CX} {mem m0 : MEM} {a : AS} (hr0 : RMr m0 (psh a.2.1 a.1, a.2.2)) (hf0 : FrM mem m0) {i : Nat} (hi : i < 5) (ho : rz a.1 i 0 = 1) (C : CK E X RX7 cX7_drop 4 (some .int) 4) (hX : EX E X l (fun rr mm => ∃ xx : Int32, rr = iv xx ∧ PoM mem (und (fDrop a.1 (nI i)) a) ((fDrop a.1 (nI i)).1) xx mm)) : ∀ (lpn : Nat) (j : Nat), 8 - j < lpn → j ≤ 8 → G E X 4 22 [rv (17, 0, 0), iv (nI i), iv (nI (homz a.1 (nI i) 8)), iv (nI j)] [] (mz m0 (sndz a.1 (nI i) j)) := by
  intro lpn
  induction lpn with
  | zero => intro j hlpn; exact absurd hlpn (Nat.not_lt_zero _)
  | succ lpn ih =>
    intro j hlpn hj
    refine e_iload_n C dX7_drop_22 rfl ?_
    refine e_bipush (v := nI 8) C dX7_drop_23 (by decide) ?_
    refine e_icmp_ge (tgt := 71) C dX7_drop_25 (by decide) (fun h_25 => ?_) (fun h_25 => ?_)
    · skip
      have nh_25 := xI_leD (by omega) (by omega) h_25
      refine e_aload_n C dX7_drop_71 rfl ?_
      refine e_iload_n C dX7_drop_72 rfl ?_
      refine e_iconst (v := nI 0) C dX7_drop_73 (by decide) ?_
      refine e_iconst (v := nI 0) C dX7_drop_74 (by decide) ?_
      refine f_callVv (As := [_, _, _]) (ci := 7) C mi_yX7_layReplica mv_yX7_layReplica b_ml_X7_55 dX7_drop_75 rfl (c_X7_layReplica (by omega) (by omega)) (by decide) v17 rfl rfl (Nat.le_of_ble_eq_true rfl) ?_
      refine e_iload_n C dX7_drop_78 rfl ?_
      obtain rfl : j = 8 := by omega
      exact f_ii C hX dX7_drop_79 (RM.ok hr0 hf0 (by rw [fDrop, cif_pos ⟨_, hi, rfl, ho⟩, nt_nI (by omega)]) (isEr_nI (Nat.lt_of_le_of_lt (homz_le _ _ 8) (by decide))))
    · skip
      have nh_25 := xI_nleD (by omega) (by omega) h_25
      refine e_aload_n C dX7_drop_28 rfl ?_
      refine e_iload_n C dX7_drop_29 rfl ?_
      refine e_iconst (v := nI 1) C dX7_drop_30 (by decide) ?_
      refine e_aload_n C dX7_drop_31 rfl ?_
      refine e_iload_n C dX7_drop_32 rfl ?_
      refine e_iconst (v := nI 0) C dX7_drop_33 (by decide) ?_
      refine f_callVr (As := [_, _]) (ci := 7) C mi_yX7_ofSession mv_yX7_ofSession b_ml_X7_38 dX7_drop_34 rfl (c_X7_ofSession (by omega) (by omega)) (by decide) v17 rfl rfl (Nat.le_of_ble_eq_true rfl) ?_
      refine e_iconst (v := nI 1) C dX7_drop_37 (by decide) ?_
      refine e_icmp_ne (tgt := 56) C dX7_drop_38 (by decide) (fun h_38 => ?_) (fun h_38 => ?_)
      · skip
        refine e_aload_n C dX7_drop_56 rfl ?_
        refine e_iload_n C dX7_drop_57 rfl ?_
        refine e_iconst (v := nI 1) C dX7_drop_58 (by decide) ?_
        refine f_callVr (As := [_, _]) (ci := 7) C mi_yX7_ofSession mv_yX7_ofSession b_ml_X7_38 dX7_drop_59 rfl (c_X7_ofSession (by omega) (by omega)) (by decide) v17 rfl rfl (Nat.le_of_ble_eq_true rfl) ?_
        refine f_callVv (As := [_, _, _]) (ci := 7) C mi_yX7_laySession mv_yX7_laySession b_ml_X7_66 dX7_drop_62 rfl (c_X7_laySession (by omega) (by omega)) (by decide) v17 rfl rfl (Nat.le_of_ble_eq_true rfl) ?_
        refine f_iincn (ls1 := [_, _, _, _]) C dX7_drop_65 rfl (by decide) rfl ?_
        refine e_goto (tgt := 22) C dX7_drop_68 (by decide) ?_
        exact e_mem (EqV.of (by rw [sndz, cif_neg (fun q => h_38 q.1), ss_same])) (ih (j + 1) (by omega) (by omega))
      · skip
        refine e_aload_n C dX7_drop_41 rfl ?_
        refine e_iload_n C dX7_drop_42 rfl ?_
        refine e_iconst (v := nI 1) C dX7_drop_43 (by decide) ?_
        refine f_callVr (As := [_, _]) (ci := 7) C mi_yX7_ofSession mv_yX7_ofSession b_ml_X7_38 dX7_drop_44 rfl (c_X7_ofSession (by omega) (by omega)) (by decide) v17 rfl rfl (Nat.le_of_ble_eq_true rfl) ?_
        refine e_iload_n C dX7_drop_47 rfl ?_
        refine e_icmp_ne (tgt := 56) C dX7_drop_48 (by decide) (fun h_48 => ?_) (fun h_48 => ?_)
        · skip
          refine e_aload_n C dX7_drop_56 rfl ?_
          refine e_iload_n C dX7_drop_57 rfl ?_
          refine e_iconst (v := nI 1) C dX7_drop_58 (by decide) ?_
          refine f_callVr (As := [_, _]) (ci := 7) C mi_yX7_ofSession mv_yX7_ofSession b_ml_X7_38 dX7_drop_59 rfl (c_X7_ofSession (by omega) (by omega)) (by decide) v17 rfl rfl (Nat.le_of_ble_eq_true rfl) ?_
          refine f_callVv (As := [_, _, _]) (ci := 7) C mi_yX7_laySession mv_yX7_laySession b_ml_X7_66 dX7_drop_62 rfl (c_X7_laySession (by omega) (by omega)) (by decide) v17 rfl rfl (Nat.le_of_ble_eq_true rfl) ?_
          refine f_iincn (ls1 := [_, _, _, _]) C dX7_drop_65 rfl (by decide) rfl ?_
          refine e_goto (tgt := 22) C dX7_drop_68 (by decide) ?_
          exact e_mem (EqV.of (by rw [sndz, cif_neg (fun q => h_48 q.2), ss_same])) (ih (j + 1) (by omega) (by omega))
        · skip
          refine e_bipush (v := nI 9) C dX7_drop_51 (by decide) ?_
          refine e_goto (tgt := 62) C dX7_drop_53 (by decide) ?_
          refine f_callVv (As := [_, _, _]) (ci := 7) C mi_yX7_laySession mv_yX7_laySession b_ml_X7_66 dX7_drop_62 rfl (c_X7_laySession (by omega) (by omega)) (by decide) v17 rfl rfl (Nat.le_of_ble_eq_true rfl) ?_
          refine f_iincn (ls1 := [_, _, _, _]) C dX7_drop_65 rfl (by decide) rfl ?_
          refine e_goto (tgt := 22) C dX7_drop_68 (by decide) ?_
          exact e_mem (EqV.of (by rw [sndz, cif_pos ⟨h_38, h_48⟩])) (ih (j + 1) (by omega) (by omega))
set_option maxRecDepth 100000 in
set_option maxHeartbeats 4000000 in
theorem c_X7_drop {E : EV} {l : Launch} {mem : MEM} {a : AS} (hM : RM mem a) (hGd : Good a.1) {r : Int32} : Ct E l yX7_drop (me_ws yX7_drop cX7_drop 4 (some .int)) 4 [rv (17, 0, 0), iv r] mem (fun rr mm => ∃ xx : Int32, rr = iv xx ∧ PoM mem (und (fDrop a.1 r) a) ((fDrop a.1 r).1) xx mm) := by
  obtain ⟨c, hG⟩ := hGd
  have hI := hG.1
  have hc200 := hI.1
  have hcn := hI.2.1
  refine Ct.of (RC := RX7) (ls0 := [rv (17, 0, 0), iv r, uv, uv]) mi_yX7_drop (Nat.le_of_ble_eq_true rfl) rfl (fun X C hX => ?_)
  refine e_mem (EqV.of (mz_self hM.1).symm) ?_
  refine e_aload_n C dX7_drop_0 rfl ?_
  refine e_iload_n C dX7_drop_1 rfl ?_
  refine f_callVr (As := [_]) (ci := 7) C mi_yX7_isReplica mv_yX7_isReplica b_ml_X7_34 dX7_drop_2 rfl c_X7_isReplica (by decide) v17 rfl rfl (Nat.le_of_ble_eq_true rfl) ?_
  refine f_if_ne (tgt := 10) C dX7_drop_5 (by decide) (fun h_5 => ?_) (fun h_5 => ?_)
  · skip
    have hRR := h_5
    obtain ⟨i, hi, rfl, ho⟩ := h_5
    refine e_aload_n C dX7_drop_10 rfl ?_
    refine f_callVu (As := []) (ci := 7) C mi_yX7_record mv_yX7_record b_ml_X7_49 dX7_drop_11 rfl (c_X7_record hM.2) (by decide) v17 rfl rfl (Nat.le_of_ble_eq_true rfl) (fun m_11 hc_11 => ?_)
    obtain ⟨m0, rfl, hr0, hf0⟩ := hc_11
    refine e_aload_n C dX7_drop_14 rfl ?_
    refine e_iload_n C dX7_drop_15 rfl ?_
    refine f_callVr (As := [_]) (ci := 7) C mi_yX7_homes mv_yX7_homes b_ml_X7_63 dX7_drop_16 rfl c_X7_homes (by decide) v17 rfl rfl (Nat.le_of_ble_eq_true rfl) ?_
    refine f_istore_n (ls1 := [_, _, _, _]) C dX7_drop_19 (by decide) rfl ?_
    refine e_iconst (v := nI 0) C dX7_drop_20 (by decide) ?_
    refine f_istore_n (ls1 := [_, _, _, _]) C dX7_drop_21 (by decide) rfl ?_
    exact lp_X7_drop hr0 hf0 hi ho C hX 9 0 (by decide) (by decide)
  · skip
    refine e_iconst (v := -1) C dX7_drop_8 (by decide) ?_
    exact f_ii C hX dX7_drop_9 (RM.er hM (by rw [fDrop, cif_neg h_5]) isEr_1)
set_option maxRecDepth 100000 in
set_option maxHeartbeats 4000000 in
theorem c_X7_jumpBack {E : EV} {l : Launch} {mem : MEM} {a : AS} (hM : RM mem a) (hGd : Good a.1) {r pos : Int32} : Ct E l yX7_jumpBack (me_ws yX7_jumpBack cX7_jumpBack 4 (some .int)) 5 [rv (17, 0, 0), iv r, iv pos] mem (fun rr mm => ∃ xx : Int32, rr = iv xx ∧ PoM mem (und (fJump a.1 r pos) a) ((fJump a.1 r pos).1) xx mm) := by
  obtain ⟨c, hG⟩ := hGd
  have hI := hG.1
  have hc200 := hI.1
  have hcn := hI.2.1
  refine Ct.of (RC := RX7) (ls0 := [rv (17, 0, 0), iv r, iv pos, uv]) mi_yX7_jumpBack (Nat.le_of_ble_eq_true rfl) rfl (fun X C hX => ?_)
  refine e_mem (EqV.of (mz_self hM.1).symm) ?_
  refine e_aload_n C dX7_jumpBack_0 rfl ?_
  refine e_iload_n C dX7_jumpBack_1 rfl ?_
  refine e_iload_n C dX7_jumpBack_2 rfl ?_
  refine f_callVi (As := [_, _]) (ci := 7) C mi_yX7_whyNotJump mv_yX7_whyNotJump b_ml_X7_69 dX7_jumpBack_3 rfl c_X7_whyNotJump (by decide) v17 rfl rfl (Nat.le_of_ble_eq_true rfl) (fun x_3 m_3 hc_3 => ?_)
  obtain ⟨rfl, hw⟩ := hc_3
  refine f_istore_n (ls1 := [_, _, _, _]) C dX7_jumpBack_6 (by decide) rfl ?_
  refine e_iload_n C dX7_jumpBack_7 rfl ?_
  refine e_if_ge (tgt := 13) C dX7_jumpBack_8 (by decide) (fun h_8 => ?_) (fun h_8 => ?_)
  · skip
    obtain ⟨⟨i, hi, rfl, ho⟩, hp1, hp2⟩ := hw.ge h_8
    rw [nt_nI (by omega)] at hp2
    obtain ⟨pp, qq, hpp, hqq, epp, eqq, hst⟩ := hI.reps hi ho
    refine e_aload_n C dX7_jumpBack_13 rfl ?_
    refine f_callVu (As := []) (ci := 7) C mi_yX7_record mv_yX7_record b_ml_X7_49 dX7_jumpBack_14 rfl (c_X7_record hM.2) (by decide) v17 rfl rfl (Nat.le_of_ble_eq_true rfl) (fun m_14 hc_14 => ?_)
    obtain ⟨m0, rfl, hr0, hf0⟩ := hc_14
    refine e_aload_n C dX7_jumpBack_17 rfl ?_
    refine e_iload_n C dX7_jumpBack_18 rfl ?_
    refine e_iload_n C dX7_jumpBack_19 rfl ?_
    refine f_callVr (As := [_, _]) (ci := 7) C mi_yX7_jumps mv_yX7_jumps b_ml_X7_72 dX7_jumpBack_20 rfl (c_X7_jumps (by assumption)) (by decide) v17 rfl rfl (Nat.le_of_ble_eq_true rfl) ?_
    exact f_ii C hX dX7_jumpBack_23 (RM.ok hr0 hf0 (by rw [fJump, cif_pos ⟨_, hi, rfl, ho⟩, nt_nI (by omega), cif_pos ⟨hp1, hp2⟩]) (by rw [epp]; exact isEr_nI (by omega)))
  · skip
    refine e_iload_n C dX7_jumpBack_11 rfl ?_
    obtain ⟨he, hv⟩ := hw.lt h_8
    exact f_ii C hX dX7_jumpBack_12 (RM.er hM hv he)
set_option maxRecDepth 100000 in
set_option maxHeartbeats 4000000 in
theorem c_X7_hand {E : EV} {l : Launch} {mem : MEM} {a : AS} (hM : RM mem a) (hGd : Good a.1) {s o : Int32} : Ct E l yX7_hand (me_ws yX7_hand cX7_hand 4 (some .int)) 5 [rv (17, 0, 0), iv s, iv o] mem (fun rr mm => ∃ xx : Int32, rr = iv xx ∧ PoM mem (und (fHand a.1 s o) a) ((fHand a.1 s o).1) xx mm) := by
  obtain ⟨c, hG⟩ := hGd
  have hI := hG.1
  have hc200 := hI.1
  have hcn := hI.2.1
  refine Ct.of (RC := RX7) (ls0 := [rv (17, 0, 0), iv s, iv o, uv]) mi_yX7_hand (Nat.le_of_ble_eq_true rfl) rfl (fun X C hX => ?_)
  refine e_mem (EqV.of (mz_self hM.1).symm) ?_
  refine e_aload_n C dX7_hand_0 rfl ?_
  refine e_iload_n C dX7_hand_1 rfl ?_
  refine e_iload_n C dX7_hand_2 rfl ?_
  refine f_callVi (As := [_, _]) (ci := 7) C mi_yX7_whyNotHand mv_yX7_whyNotHand b_ml_X7_103 dX7_hand_3 rfl c_X7_whyNotHand (by decide) v17 rfl rfl (Nat.le_of_ble_eq_true rfl) (fun x_3 m_3 hc_3 => ?_)
  obtain ⟨rfl, hw⟩ := hc_3
  refine f_istore_n (ls1 := [_, _, _, _]) C dX7_hand_6 (by decide) rfl ?_
  refine e_iload_n C dX7_hand_7 rfl ?_
  refine e_if_ge (tgt := 13) C dX7_hand_8 (by decide) (fun h_8 => ?_) (fun h_8 => ?_)
  · skip
    obtain ⟨⟨i, hi, rfl, ho⟩, ⟨j, hj, rfl, hoj⟩, hne⟩ := hw.ge h_8
    refine e_aload_n C dX7_hand_13 rfl ?_
    refine f_callVu (As := []) (ci := 7) C mi_yX7_record mv_yX7_record b_ml_X7_49 dX7_hand_14 rfl (c_X7_record hM.2) (by decide) v17 rfl rfl (Nat.le_of_ble_eq_true rfl) (fun m_14 hc_14 => ?_)
    obtain ⟨m0, rfl, hr0, hf0⟩ := hc_14
    refine e_aload_n C dX7_hand_17 rfl ?_
    refine e_iload_n C dX7_hand_18 rfl ?_
    refine e_iload_n C dX7_hand_19 rfl ?_
    refine f_callVr (As := [_, _]) (ci := 7) C mi_yX7_hands mv_yX7_hands b_ml_X7_106 dX7_hand_20 rfl (c_X7_hands (by assumption) (by assumption)) (by decide) v17 rfl rfl (Nat.le_of_ble_eq_true rfl) ?_
    exact f_ii C hX dX7_hand_23 (RM.ok hr0 hf0 (by rw [fHand, cif_pos ⟨⟨_, hi, rfl, ho⟩, ⟨_, hj, rfl, hoj⟩⟩, cif_neg hne, nt_nI (by omega), nt_nI (by omega)]) (by obtain ⟨w, hw2, ew⟩ := hndz_nat hG hi hj ho hoj; rw [ew]; exact isEr_nI (by omega)))
  · skip
    refine e_iload_n C dX7_hand_11 rfl ?_
    obtain ⟨he, hv⟩ := hw.lt h_8
    exact f_ii C hX dX7_hand_12 (RM.er hM hv he)
set_option maxRecDepth 100000 in
set_option maxHeartbeats 4000000 in
theorem c_X7_write {E : EV} {l : Launch} {mem : MEM} {a : AS} (hM : RM mem a) (hGd : Good a.1) {s k v : Int32} : Ct E l yX7_write (me_ws yX7_write cX7_write 5 (some .int)) 5 [rv (17, 0, 0), iv s, iv k, iv v] mem (fun rr mm => ∃ xx : Int32, rr = iv xx ∧ PoM mem (und (fWrite a.1 s k v) a) ((fWrite a.1 s k v).1) xx mm) := by
  obtain ⟨c, hG⟩ := hGd
  have hI := hG.1
  have hc200 := hI.1
  have hcn := hI.2.1
  refine Ct.of (RC := RX7) (ls0 := [rv (17, 0, 0), iv s, iv k, iv v, uv]) mi_yX7_write (Nat.le_of_ble_eq_true rfl) rfl (fun X C hX => ?_)
  refine e_mem (EqV.of (mz_self hM.1).symm) ?_
  refine e_aload_n C dX7_write_0 rfl ?_
  refine e_iload_n C dX7_write_1 rfl ?_
  refine e_iload_n C dX7_write_2 rfl ?_
  refine e_iload_n C dX7_write_3 rfl ?_
  refine f_callVi (As := [_, _, _]) (ci := 7) C mi_yX7_whyNotWrite mv_yX7_whyNotWrite b_ml_X7_116 dX7_write_4 rfl c_X7_whyNotWrite (by decide) v17 rfl rfl (Nat.le_of_ble_eq_true rfl) (fun x_4 m_4 hc_4 => ?_)
  obtain ⟨rfl, hw⟩ := hc_4
  refine f_istore (ls1 := [_, _, _, _, _]) C dX7_write_7 (by decide) rfl ?_
  refine e_iload C dX7_write_9 rfl ?_
  refine e_if_ge (tgt := 17) C dX7_write_11 (by decide) (fun h_11 => ?_) (fun h_11 => ?_)
  · skip
    obtain ⟨⟨i, hi, rfl, ho⟩, hk, hv9, hlim⟩ := hw.ge h_11
    have hkk := hk
    obtain ⟨q, hq, rfl⟩ := isK_nat hk
    have hc2 : c < 200 := by
      rcases Nat.lt_or_ge c 200 with e | e
      · exact e
      · exact absurd (by rw [hcn]; congr 1; omega) hlim
    refine e_aload_n C dX7_write_17 rfl ?_
    refine f_callVu (As := []) (ci := 7) C mi_yX7_record mv_yX7_record b_ml_X7_49 dX7_write_18 rfl (c_X7_record hM.2) (by decide) v17 rfl rfl (Nat.le_of_ble_eq_true rfl) (fun m_18 hc_18 => ?_)
    obtain ⟨m0, rfl, hr0, hf0⟩ := hc_18
    refine e_aload_n C dX7_write_21 rfl ?_
    refine e_iload_n C dX7_write_22 rfl ?_
    refine e_iload_n C dX7_write_23 rfl ?_
    refine e_iload_n C dX7_write_24 rfl ?_
    refine f_callVr (As := [_, _, _]) (ci := 7) C mi_yX7_writes mv_yX7_writes b_ml_X7_120 dX7_write_25 rfl (c_X7_writes (by assumption) (by omega) (by assumption) (by assumption)) (by decide) v17 rfl rfl (Nat.le_of_ble_eq_true rfl) ?_
    exact f_ii C hX dX7_write_28 (RM.ok hr0 hf0 (by rw [fWrite, cif_pos ⟨⟨_, hi, rfl, ho⟩, hkk⟩, cif_pos hv9, cif_neg hlim, hcn, nt_nI (by omega), nt_nI (by omega), nt_nI (by omega)]) (isEr_nI (by omega)))
  · skip
    refine e_iload C dX7_write_14 rfl ?_
    obtain ⟨he, hv⟩ := hw.lt h_11
    exact f_ii C hX dX7_write_16 (RM.er hM hv he)
set_option maxRecDepth 100000 in
set_option maxHeartbeats 4000000 in
theorem c_X7_read {E : EV} {l : Launch} {mem : MEM} {a : AS} (hM : RM mem a) (hGd : Good a.1) {s k : Int32} : Ct E l yX7_read (me_ws yX7_read cX7_read 4 (some .int)) 8 [rv (17, 0, 0), iv s, iv k] mem (fun rr mm => ∃ xx : Int32, rr = iv xx ∧ PoM mem (und (fRead a.1 s k) a) ((fRead a.1 s k).1) xx mm) := by
  obtain ⟨c, hG⟩ := hGd
  have hI := hG.1
  have hc200 := hI.1
  have hcn := hI.2.1
  refine Ct.of (RC := RX7) (ls0 := [rv (17, 0, 0), iv s, iv k, uv]) mi_yX7_read (Nat.le_of_ble_eq_true rfl) rfl (fun X C hX => ?_)
  refine e_mem (EqV.of (mz_self hM.1).symm) ?_
  refine e_aload_n C dX7_read_0 rfl ?_
  refine e_iload_n C dX7_read_1 rfl ?_
  refine e_iload_n C dX7_read_2 rfl ?_
  refine f_callVi (As := [_, _]) (ci := 7) C mi_yX7_whyNotRead mv_yX7_whyNotRead b_ml_X7_136 dX7_read_3 rfl (c_X7_whyNotRead hI) (by decide) v17 rfl rfl (Nat.le_of_ble_eq_true rfl) (fun x_3 m_3 hc_3 => ?_)
  obtain ⟨rfl, hw⟩ := hc_3
  refine f_istore_n (ls1 := [_, _, _, _]) C dX7_read_6 (by decide) rfl ?_
  refine e_iload_n C dX7_read_7 rfl ?_
  refine e_if_ge (tgt := 13) C dX7_read_8 (by decide) (fun h_8 => ?_) (fun h_8 => ?_)
  · skip
    obtain ⟨⟨i, hi, rfl, ho⟩, hk, hcd⟩ := hw.ge h_8
    have hkk := hk
    obtain ⟨q, hq, rfl⟩ := isK_nat hk
    rw [nt_nI (by omega), nt_nI (by omega)] at hcd
    refine e_aload_n C dX7_read_13 rfl ?_
    refine f_callVu (As := []) (ci := 7) C mi_yX7_record mv_yX7_record b_ml_X7_49 dX7_read_14 rfl (c_X7_record hM.2) (by decide) v17 rfl rfl (Nat.le_of_ble_eq_true rfl) (fun m_14 hc_14 => ?_)
    obtain ⟨m0, rfl, hr0, hf0⟩ := hc_14
    refine e_aload_n C dX7_read_17 rfl ?_
    refine e_iload_n C dX7_read_18 rfl ?_
    refine e_iload_n C dX7_read_19 rfl ?_
    refine f_callVr (As := [_, _]) (ci := 7) C mi_yX7_reads mv_yX7_reads b_ml_X7_139 dX7_read_20 rfl (c_X7_reads hI hi ho hq hcd) (by decide) v17 rfl rfl (Nat.le_of_ble_eq_true rfl) ?_
    exact f_ii C hX dX7_read_23 (RM.ok hr0 hf0 (by rw [fRead, cif_pos ⟨⟨_, hi, rfl, ho⟩, hkk⟩, nt_nI (by omega), nt_nI (by omega)]) ((rdz_ok hG hi ho hq).2 hcd))
  · skip
    refine e_iload_n C dX7_read_11 rfl ?_
    obtain ⟨he, hv⟩ := hw.lt h_8
    exact f_ii C hX dX7_read_12 (RM.er hM hv he)
set_option maxRecDepth 100000 in
set_option maxHeartbeats 4000000 in
theorem c_X7_readAt {E : EV} {l : Launch} {mem : MEM} {a : AS} (hM : RM mem a) (hGd : Good a.1) {s k pl : Int32} : Ct E l yX7_readAt (me_ws yX7_readAt cX7_readAt 4 (some .int)) 8 [rv (17, 0, 0), iv s, iv k, iv pl] mem (fun rr mm => ∃ xx : Int32, rr = iv xx ∧ PoM mem (und (fReadAt a.1 s k pl) a) ((fReadAt a.1 s k pl).1) xx mm) := by
  obtain ⟨c, hG⟩ := hGd
  have hI := hG.1
  have hc200 := hI.1
  have hcn := hI.2.1
  refine Ct.of (RC := RX7) (ls0 := [rv (17, 0, 0), iv s, iv k, iv pl]) mi_yX7_readAt (Nat.le_of_ble_eq_true rfl) rfl (fun X C hX => ?_)
  refine e_mem (EqV.of (mz_self hM.1).symm) ?_
  refine e_aload_n C dX7_readAt_0 rfl ?_
  refine e_iload_n C dX7_readAt_1 rfl ?_
  refine f_callVr (As := [_]) (ci := 7) C mi_yX7_isSession mv_yX7_isSession b_ml_X7_94 dX7_readAt_2 rfl c_X7_isSession (by decide) v17 rfl rfl (Nat.le_of_ble_eq_true rfl) ?_
  refine f_if_eq (tgt := 23) C dX7_readAt_5 (by decide) (fun h_5 => ?_) (fun h_5 => ?_)
  · skip
    refine e_iconst (v := -1) C dX7_readAt_23 (by decide) ?_
    exact f_ii C hX dX7_readAt_24 (RM.er hM (by rw [fReadAt, cif_neg (fun q => h_5 q.1)]) isEr_1)
  · skip
    have hSS := h_5
    obtain ⟨i, hi, rfl, ho⟩ := h_5
    refine e_iload_n C dX7_readAt_8 rfl ?_
    refine f_callSr (As := [_]) C mi_yX7_isKey b_st_yX7_isKey b_ml_X7_85 dX7_readAt_9 rfl c_X7_isKey (by decide) (Nat.le_of_ble_eq_true rfl) ?_
    refine f_if_eq (tgt := 23) C dX7_readAt_12 (by decide) (fun h_12 => ?_) (fun h_12 => ?_)
    · skip
      refine e_iconst (v := -1) C dX7_readAt_23 (by decide) ?_
      exact f_ii C hX dX7_readAt_24 (RM.er hM (by rw [fReadAt, cif_neg (fun q => h_12 q.2.1)]) isEr_1)
    · skip
      have hKK := h_12
      obtain ⟨q, hq, rfl⟩ := isK_nat h_12
      refine e_aload_n C dX7_readAt_15 rfl ?_
      refine e_iload_n C dX7_readAt_16 rfl ?_
      refine f_callVr (As := [_]) (ci := 7) C mi_yX7_isPlace mv_yX7_isPlace b_ml_X7_52 dX7_readAt_17 rfl c_X7_isPlace (by decide) v17 rfl rfl (Nat.le_of_ble_eq_true rfl) ?_
      refine f_if_ne (tgt := 25) C dX7_readAt_20 (by decide) (fun h_20 => ?_) (fun h_20 => ?_)
      · skip
        have hPP := h_20
        obtain ⟨p, rfl, hp⟩ := isP_nat h_20
        have hpl : p < 10 := by rcases hp with h | h <;> omega
        refine e_aload_n C dX7_readAt_25 rfl ?_
        refine e_iload_n C dX7_readAt_26 rfl ?_
        refine e_iload_n C dX7_readAt_27 rfl ?_
        refine e_iload_n C dX7_readAt_28 rfl ?_
        refine f_callVr (As := [_, _, _]) (ci := 7) C mi_yX7_waitOf mv_yX7_waitOf b_ml_X7_126 dX7_readAt_29 rfl (c_X7_waitOf hI hi ho hp) (by decide) v17 rfl rfl (Nat.le_of_ble_eq_true rfl) ?_
        refine e_if_eq (tgt := 38) C dX7_readAt_32 (by decide) (fun h_32 => ?_) (fun h_32 => ?_)
        · skip
          refine e_aload_n C dX7_readAt_38 rfl ?_
          refine f_callVu (As := []) (ci := 7) C mi_yX7_record mv_yX7_record b_ml_X7_49 dX7_readAt_39 rfl (c_X7_record hM.2) (by decide) v17 rfl rfl (Nat.le_of_ble_eq_true rfl) (fun m_39 hc_39 => ?_)
          obtain ⟨m0, rfl, hr0, hf0⟩ := hc_39
          refine e_aload_n C dX7_readAt_42 rfl ?_
          refine e_iload_n C dX7_readAt_43 rfl ?_
          refine e_iload_n C dX7_readAt_44 rfl ?_
          refine e_iload_n C dX7_readAt_45 rfl ?_
          refine e_iconst (v := nI 0) C dX7_readAt_46 (by decide) ?_
          refine f_callVr (As := [_, _, _, _]) (ci := 7) C mi_yX7_answer mv_yX7_answer b_ml_X7_132 dX7_readAt_47 rfl (c_X7_answer hI hi hq hp) (by decide) v17 rfl rfl (Nat.le_of_ble_eq_true rfl) ?_
          exact f_ii C hX dX7_readAt_50 (RM.ok hr0 hf0 (by rw [fReadAt, cif_pos ⟨hSS, hKK, hPP⟩, nt_nI (by omega), cif_pos h_32, nt_nI (by omega), nt_nI (by omega)]; rfl) (anp_ok (s := i) (t := nI 0) hG hp))
        · skip
          refine e_bipush (v := -3) C dX7_readAt_35 (by decide) ?_
          exact f_ii C hX dX7_readAt_37 (RM.er hM (by rw [fReadAt, cif_pos ⟨hSS, hKK, hPP⟩, nt_nI (by omega), cif_neg h_32]) isEr_3)
      · skip
        refine e_iconst (v := -1) C dX7_readAt_23 (by decide) ?_
        exact f_ii C hX dX7_readAt_24 (RM.er hM (by rw [fReadAt, cif_neg (fun q => h_20 q.2.2)]) isEr_1)
set_option maxRecDepth 100000 in
set_option maxHeartbeats 4000000 in
theorem lp_X7_tick {E : EV} {l : Launch} {X : CX} {mem m0 : MEM} {a : AS} (hr0 : RMr m0 (psh a.2.1 a.1, a.2.2)) (hf0 : FrM mem m0) {t : Int32} (ht : nI 1 ≤ t ∧ t ≤ nI 99) (C : CK E X RX7 cX7_tick 4 (some .int) 5) (hX : EX E X l (fun rr mm => ∃ xx : Int32, rr = iv xx ∧ PoM mem (und (fTick a.1 t) a) ((fTick a.1 t).1) xx mm)) : ∀ (lpn : Nat) (i w : Nat), 5 - i < lpn → i ≤ 5 → w = cau (tck a.1 t 5) i → G E X 4 26 [rv (17, 0, 0), iv t, iv (nI w), iv (nI i)] [] (mz m0 (tck a.1 t 5)) := by
  intro lpn
  induction lpn with
  | zero => intro i w hlpn; exact absurd hlpn (Nat.not_lt_zero _)
  | succ lpn ih =>
    intro i w hlpn hi hw
    refine e_iload_n C dX7_tick_26 rfl ?_
    refine e_iconst (v := nI 5) C dX7_tick_27 (by decide) ?_
    refine e_icmp_ge (tgt := 70) C dX7_tick_28 (by decide) (fun h_28 => ?_) (fun h_28 => ?_)
    · skip
      have nh_28 := xI_leD (by omega) (by omega) h_28
      refine e_iload_n C dX7_tick_70 rfl ?_
      obtain rfl : i = 5 := by omega
      exact f_ii C hX dX7_tick_71 (RM.ok hr0 hf0 (by rw [fTick, cif_pos ht, hw]) (isEr_nI (by rw [hw]; exact Nat.lt_of_le_of_lt (cau_le _ 5) (by decide))))
    · skip
      have nh_28 := xI_nleD (by omega) (by omega) h_28
      refine e_iload_n C dX7_tick_31 rfl ?_
      refine e_aload_n C dX7_tick_32 rfl ?_
      refine e_iload_n C dX7_tick_33 rfl ?_
      refine e_iconst (v := nI 0) C dX7_tick_34 (by decide) ?_
      refine f_callVr (As := [_, _]) (ci := 7) C mi_yX7_ofReplica mv_yX7_ofReplica b_ml_X7_30 dX7_tick_35 rfl (c_X7_ofReplica (by omega) (by omega)) (by decide) v17 rfl rfl (Nat.le_of_ble_eq_true rfl) ?_
      refine e_iconst (v := nI 1) C dX7_tick_38 (by decide) ?_
      refine e_icmp_ne (tgt := 61) C dX7_tick_39 (by decide) (fun h_39 => ?_) (fun h_39 => ?_)
      · skip
        refine e_iconst (v := nI 0) C dX7_tick_61 (by decide) ?_
        refine f_iaddn C dX7_tick_62 ?_
        refine f_istore_n (ls1 := [_, _, _, _]) C dX7_tick_63 (by decide) rfl ?_
        refine f_iincn (ls1 := [_, _, _, _]) C dX7_tick_64 rfl (by decide) rfl ?_
        refine e_goto (tgt := 26) C dX7_tick_67 (by decide) ?_
        exact ih (i + 1) _ (by omega) (by omega) (by rw [cau, cif_neg (fun q => h_39 q.1)]; omega)
      · skip
        refine e_aload_n C dX7_tick_42 rfl ?_
        refine e_iload_n C dX7_tick_43 rfl ?_
        refine e_iconst (v := nI 1) C dX7_tick_44 (by decide) ?_
        refine f_callVr (As := [_, _]) (ci := 7) C mi_yX7_ofReplica mv_yX7_ofReplica b_ml_X7_30 dX7_tick_45 rfl (c_X7_ofReplica (by omega) (by omega)) (by decide) v17 rfl rfl (Nat.le_of_ble_eq_true rfl) ?_
        refine e_aload_n C dX7_tick_48 rfl ?_
        refine e_getr C (ci := 7) 0 rfl rfl rfl (by decide) b_X7 rfl b_fl_X7_7 v17 rfl dX7_tick_49 ?_
        refine e_iconst (v := nI 0) C dX7_tick_52 (by decide) ?_
        refine f_iald C rfl v18 (by omega) (by decide) dX7_tick_53 ?_
        rw [mz_18]
        refine e_icmp_ne (tgt := 61) C dX7_tick_54 (by decide) (fun h_54 => ?_) (fun h_54 => ?_)
        · skip
          refine e_iconst (v := nI 0) C dX7_tick_61 (by decide) ?_
          refine f_iaddn C dX7_tick_62 ?_
          refine f_istore_n (ls1 := [_, _, _, _]) C dX7_tick_63 (by decide) rfl ?_
          refine f_iincn (ls1 := [_, _, _, _]) C dX7_tick_64 rfl (by decide) rfl ?_
          refine e_goto (tgt := 26) C dX7_tick_67 (by decide) ?_
          exact ih (i + 1) _ (by omega) (by omega) (by rw [cau, cif_neg (fun q => h_54 q.2)]; omega)
        · skip
          refine e_iconst (v := nI 1) C dX7_tick_57 (by decide) ?_
          refine e_goto (tgt := 62) C dX7_tick_58 (by decide) ?_
          refine f_iaddn C dX7_tick_62 ?_
          refine f_istore_n (ls1 := [_, _, _, _]) C dX7_tick_63 (by decide) rfl ?_
          refine f_iincn (ls1 := [_, _, _, _]) C dX7_tick_64 rfl (by decide) rfl ?_
          refine e_goto (tgt := 26) C dX7_tick_67 (by decide) ?_
          exact ih (i + 1) _ (by omega) (by omega) (by rw [cau, cif_pos ⟨h_39, h_54⟩]; omega)
set_option maxRecDepth 100000 in
set_option maxHeartbeats 4000000 in
theorem c_X7_tick {E : EV} {l : Launch} {mem : MEM} {a : AS} (hM : RM mem a) (hGd : Good a.1) {t : Int32} : Ct E l yX7_tick (me_ws yX7_tick cX7_tick 4 (some .int)) 5 [rv (17, 0, 0), iv t] mem (fun rr mm => ∃ xx : Int32, rr = iv xx ∧ PoM mem (und (fTick a.1 t) a) ((fTick a.1 t).1) xx mm) := by
  obtain ⟨c, hG⟩ := hGd
  have hI := hG.1
  have hc200 := hI.1
  have hcn := hI.2.1
  refine Ct.of (RC := RX7) (ls0 := [rv (17, 0, 0), iv t, uv, uv]) mi_yX7_tick (Nat.le_of_ble_eq_true rfl) rfl (fun X C hX => ?_)
  refine e_mem (EqV.of (mz_self hM.1).symm) ?_
  refine e_iload_n C dX7_tick_0 rfl ?_
  refine e_iconst (v := nI 1) C dX7_tick_1 (by decide) ?_
  refine e_bipush (v := nI 99) C dX7_tick_2 (by decide) ?_
  refine f_callSr (As := [_, _, _]) C mi_yX7_in b_st_yX7_in b_ml_X7_26 dX7_tick_4 rfl c_X7_in (by decide) (Nat.le_of_ble_eq_true rfl) ?_
  refine f_if_ne (tgt := 13) C dX7_tick_7 (by decide) (fun h_7 => ?_) (fun h_7 => ?_)
  · skip
    refine e_aload_n C dX7_tick_13 rfl ?_
    refine f_callVu (As := []) (ci := 7) C mi_yX7_record mv_yX7_record b_ml_X7_49 dX7_tick_14 rfl (c_X7_record hM.2) (by decide) v17 rfl rfl (Nat.le_of_ble_eq_true rfl) (fun m_14 hc_14 => ?_)
    obtain ⟨m0, rfl, hr0, hf0⟩ := hc_14
    refine e_aload_n C dX7_tick_17 rfl ?_
    refine e_iload_n C dX7_tick_18 rfl ?_
    refine f_callVv (As := [_]) (ci := 7) C mi_yX7_ticks mv_yX7_ticks b_ml_X7_78 dX7_tick_19 rfl c_X7_ticks (by decide) v17 rfl rfl (Nat.le_of_ble_eq_true rfl) ?_
    refine e_iconst (v := nI 0) C dX7_tick_22 (by decide) ?_
    refine f_istore_n (ls1 := [_, _, _, _]) C dX7_tick_23 (by decide) rfl ?_
    refine e_iconst (v := nI 0) C dX7_tick_24 (by decide) ?_
    refine f_istore_n (ls1 := [_, _, _, _]) C dX7_tick_25 (by decide) rfl ?_
    exact lp_X7_tick hr0 hf0 h_7 C hX 6 0 0 (by decide) (by decide) rfl
  · skip
    refine e_bipush (v := -2) C dX7_tick_10 (by decide) ?_
    exact f_ii C hX dX7_tick_12 (RM.er hM (by rw [fTick, cif_neg h_7]) isEr_2)
set_option maxRecDepth 100000 in
set_option maxHeartbeats 4000000 in
theorem c_X7_close {E : EV} {l : Launch} {mem : MEM} {a : AS} (hM : RM mem a) (hGd : Good a.1) {s : Int32} : Ct E l yX7_close (me_ws yX7_close cX7_close 2 (some .int)) 4 [rv (17, 0, 0), iv s] mem (fun rr mm => ∃ xx : Int32, rr = iv xx ∧ PoM mem (und (fClose a.1 s) a) ((fClose a.1 s).1) xx mm) := by
  obtain ⟨c, hG⟩ := hGd
  have hI := hG.1
  have hc200 := hI.1
  have hcn := hI.2.1
  refine Ct.of (RC := RX7) (ls0 := [rv (17, 0, 0), iv s]) mi_yX7_close (Nat.le_of_ble_eq_true rfl) rfl (fun X C hX => ?_)
  refine e_mem (EqV.of (mz_self hM.1).symm) ?_
  refine e_aload_n C dX7_close_0 rfl ?_
  refine e_iload_n C dX7_close_1 rfl ?_
  refine f_callVr (As := [_]) (ci := 7) C mi_yX7_isSession mv_yX7_isSession b_ml_X7_94 dX7_close_2 rfl c_X7_isSession (by decide) v17 rfl rfl (Nat.le_of_ble_eq_true rfl) ?_
  refine f_if_ne (tgt := 10) C dX7_close_5 (by decide) (fun h_5 => ?_) (fun h_5 => ?_)
  · skip
    have hSS := h_5
    obtain ⟨i, hi, rfl, ho⟩ := h_5
    obtain ⟨ma, mb, hma, hmb, ea, eb⟩ := hI.marks hi ho
    refine e_aload_n C dX7_close_10 rfl ?_
    refine f_callVu (As := []) (ci := 7) C mi_yX7_record mv_yX7_record b_ml_X7_49 dX7_close_11 rfl (c_X7_record hM.2) (by decide) v17 rfl rfl (Nat.le_of_ble_eq_true rfl) (fun m_11 hc_11 => ?_)
    obtain ⟨m0, rfl, hr0, hf0⟩ := hc_11
    refine e_aload_n C dX7_close_14 rfl ?_
    refine e_iload_n C dX7_close_15 rfl ?_
    refine e_iconst (v := nI 0) C dX7_close_16 (by decide) ?_
    refine e_iconst (v := nI 0) C dX7_close_17 (by decide) ?_
    refine f_callVv (As := [_, _, _]) (ci := 7) C mi_yX7_laySession mv_yX7_laySession b_ml_X7_66 dX7_close_18 rfl (c_X7_laySession (by omega) (by omega)) (by decide) v17 rfl rfl (Nat.le_of_ble_eq_true rfl) ?_
    refine e_aload_n C dX7_close_21 rfl ?_
    refine e_iload_n C dX7_close_22 rfl ?_
    refine e_iconst (v := nI 5) C dX7_close_23 (by decide) ?_
    refine f_callVr (As := [_, _]) (ci := 7) C mi_yX7_ofSession mv_yX7_ofSession b_ml_X7_38 dX7_close_24 rfl (c_X7_ofSession (by omega) (by omega)) (by decide) v17 rfl rfl (Nat.le_of_ble_eq_true rfl) ?_
    rw [sz_ss (by decide) (by decide), if_neg (by omega)]
    exact f_ii C hX dX7_close_27 (RM.ok hr0 hf0 (by rw [fClose, cif_pos ⟨_, hi, rfl, ho⟩, nt_nI (by omega)]) (by rw [eb]; exact isEr_nI (by omega)))
  · skip
    refine e_iconst (v := -1) C dX7_close_8 (by decide) ?_
    exact f_ii C hX dX7_close_9 (RM.er hM (by rw [fClose, cif_neg h_5]) isEr_1)
set_option maxRecDepth 100000 in
set_option maxHeartbeats 4000000 in
theorem c_X7_move {E : EV} {l : Launch} {mem : MEM} {a : AS} (hM : RM mem a) (hGd : Good a.1) {s hm : Int32} : Ct E l yX7_move (me_ws yX7_move cX7_move 3 (some .int)) 5 [rv (17, 0, 0), iv s, iv hm] mem (fun rr mm => ∃ xx : Int32, rr = iv xx ∧ PoM mem (und (fMove a.1 s hm) a) ((fMove a.1 s hm).1) xx mm) := by
  obtain ⟨c, hG⟩ := hGd
  have hI := hG.1
  have hc200 := hI.1
  have hcn := hI.2.1
  refine Ct.of (RC := RX7) (ls0 := [rv (17, 0, 0), iv s, iv hm]) mi_yX7_move (Nat.le_of_ble_eq_true rfl) rfl (fun X C hX => ?_)
  refine e_mem (EqV.of (mz_self hM.1).symm) ?_
  refine e_aload_n C dX7_move_0 rfl ?_
  refine e_iload_n C dX7_move_1 rfl ?_
  refine f_callVr (As := [_]) (ci := 7) C mi_yX7_isSession mv_yX7_isSession b_ml_X7_94 dX7_move_2 rfl c_X7_isSession (by decide) v17 rfl rfl (Nat.le_of_ble_eq_true rfl) ?_
  refine f_if_eq (tgt := 16) C dX7_move_5 (by decide) (fun h_5 => ?_) (fun h_5 => ?_)
  · skip
    refine e_iconst (v := -1) C dX7_move_16 (by decide) ?_
    exact f_ii C hX dX7_move_17 (RM.er hM (by rw [fMove, cif_neg (fun q => h_5 q.1)]) isEr_1)
  · skip
    have hSS := h_5
    obtain ⟨i, hi, rfl, ho⟩ := h_5
    obtain ⟨p, b, ep, hp, hpl, hb, eb⟩ := hI.home hi ho
    refine e_aload_n C dX7_move_8 rfl ?_
    refine e_iload_n C dX7_move_9 rfl ?_
    refine f_callVr (As := [_]) (ci := 7) C mi_yX7_isPlace mv_yX7_isPlace b_ml_X7_52 dX7_move_10 rfl c_X7_isPlace (by decide) v17 rfl rfl (Nat.le_of_ble_eq_true rfl) ?_
    refine f_if_ne (tgt := 18) C dX7_move_13 (by decide) (fun h_13 => ?_) (fun h_13 => ?_)
    · skip
      refine e_aload_n C dX7_move_18 rfl ?_
      refine f_callVu (As := []) (ci := 7) C mi_yX7_record mv_yX7_record b_ml_X7_49 dX7_move_19 rfl (c_X7_record hM.2) (by decide) v17 rfl rfl (Nat.le_of_ble_eq_true rfl) (fun m_19 hc_19 => ?_)
      obtain ⟨m0, rfl, hr0, hf0⟩ := hc_19
      refine e_aload_n C dX7_move_22 rfl ?_
      refine e_iload_n C dX7_move_23 rfl ?_
      refine e_iload_n C dX7_move_24 rfl ?_
      refine f_callVr (As := [_, _]) (ci := 7) C mi_yX7_moves mv_yX7_moves b_ml_X7_97 dX7_move_25 rfl (c_X7_moves (by assumption)) (by decide) v17 rfl rfl (Nat.le_of_ble_eq_true rfl) ?_
      exact f_ii C hX dX7_move_28 (RM.ok hr0 hf0 (by rw [fMove, cif_pos ⟨hSS, h_13⟩, nt_nI (by omega)]) (by rw [ep]; exact isEr_nI (by omega)))
    · skip
      refine e_iconst (v := -1) C dX7_move_16 (by decide) ?_
      exact f_ii C hX dX7_move_17 (RM.er hM (by rw [fMove, cif_neg (fun q => h_13 q.2)]) isEr_1)
set_option maxRecDepth 100000 in
set_option maxHeartbeats 4000000 in
theorem c_X7_change {E : EV} {l : Launch} {mem : MEM} {a : AS} (hM : RM mem a) (hGd : Good a.1) {s o b : Int32} : Ct E l yX7_change (me_ws yX7_change cX7_change 5 (some .int)) 4 [rv (17, 0, 0), iv s, iv o, iv b] mem (fun rr mm => ∃ xx : Int32, rr = iv xx ∧ PoM mem (und (fChange a.1 s o b) a) ((fChange a.1 s o b).1) xx mm) := by
  obtain ⟨c, hG⟩ := hGd
  have hI := hG.1
  have hc200 := hI.1
  have hcn := hI.2.1
  refine Ct.of (RC := RX7) (ls0 := [rv (17, 0, 0), iv s, iv o, iv b, uv]) mi_yX7_change (Nat.le_of_ble_eq_true rfl) rfl (fun X C hX => ?_)
  refine e_mem (EqV.of (mz_self hM.1).symm) ?_
  refine e_aload_n C dX7_change_0 rfl ?_
  refine e_iload_n C dX7_change_1 rfl ?_
  refine f_callVr (As := [_]) (ci := 7) C mi_yX7_isSession mv_yX7_isSession b_ml_X7_94 dX7_change_2 rfl c_X7_isSession (by decide) v17 rfl rfl (Nat.le_of_ble_eq_true rfl) ?_
  refine f_if_ne (tgt := 10) C dX7_change_5 (by decide) (fun h_5 => ?_) (fun h_5 => ?_)
  · skip
    have hSS := h_5
    obtain ⟨i, hi, rfl, ho⟩ := h_5
    obtain ⟨oo, hoo, eo⟩ := hG.2.2.1 i hi ho
    refine e_iload_n C dX7_change_10 rfl ?_
    refine e_iconst (v := nI 0) C dX7_change_11 (by decide) ?_
    refine e_bipush (v := nI 15) C dX7_change_12 (by decide) ?_
    refine f_callSr (As := [_, _, _]) C mi_yX7_in b_st_yX7_in b_ml_X7_26 dX7_change_14 rfl c_X7_in (by decide) (Nat.le_of_ble_eq_true rfl) ?_
    refine f_if_eq (tgt := 30) C dX7_change_17 (by decide) (fun h_17 => ?_) (fun h_17 => ?_)
    · skip
      refine e_bipush (v := -2) C dX7_change_30 (by decide) ?_
      exact f_ii C hX dX7_change_32 (RM.er hM (by rw [fChange, cif_pos hSS, cif_neg (fun q => h_17 q.1)]) isEr_2)
    · skip
      refine e_iload_n C dX7_change_20 rfl ?_
      refine e_iconst (v := nI 0) C dX7_change_21 (by decide) ?_
      refine e_bipush (v := nI 20) C dX7_change_22 (by decide) ?_
      refine f_callSr (As := [_, _, _]) C mi_yX7_in b_st_yX7_in b_ml_X7_26 dX7_change_24 rfl c_X7_in (by decide) (Nat.le_of_ble_eq_true rfl) ?_
      refine f_if_ne (tgt := 33) C dX7_change_27 (by decide) (fun h_27 => ?_) (fun h_27 => ?_)
      · skip
        refine e_aload_n C dX7_change_33 rfl ?_
        refine f_callVu (As := []) (ci := 7) C mi_yX7_record mv_yX7_record b_ml_X7_49 dX7_change_34 rfl (c_X7_record hM.2) (by decide) v17 rfl rfl (Nat.le_of_ble_eq_true rfl) (fun m_34 hc_34 => ?_)
        obtain ⟨m0, rfl, hr0, hf0⟩ := hc_34
        refine e_aload_n C dX7_change_37 rfl ?_
        refine e_iload_n C dX7_change_38 rfl ?_
        refine e_iconst (v := nI 2) C dX7_change_39 (by decide) ?_
        refine f_callVr (As := [_, _]) (ci := 7) C mi_yX7_ofSession mv_yX7_ofSession b_ml_X7_38 dX7_change_40 rfl (c_X7_ofSession (by omega) (by omega)) (by decide) v17 rfl rfl (Nat.le_of_ble_eq_true rfl) ?_
        refine f_istore (ls1 := [_, _, _, _, _]) C dX7_change_43 (by decide) rfl ?_
        refine e_aload_n C dX7_change_45 rfl ?_
        refine e_iload_n C dX7_change_46 rfl ?_
        refine e_iconst (v := nI 2) C dX7_change_47 (by decide) ?_
        refine e_iload_n C dX7_change_48 rfl ?_
        refine f_callVv (As := [_, _, _]) (ci := 7) C mi_yX7_laySession mv_yX7_laySession b_ml_X7_66 dX7_change_49 rfl (c_X7_laySession (by omega) (by omega)) (by decide) v17 rfl rfl (Nat.le_of_ble_eq_true rfl) ?_
        refine e_aload_n C dX7_change_52 rfl ?_
        refine e_iload_n C dX7_change_53 rfl ?_
        refine e_iconst (v := nI 3) C dX7_change_54 (by decide) ?_
        refine e_iload_n C dX7_change_55 rfl ?_
        refine f_callVv (As := [_, _, _]) (ci := 7) C mi_yX7_laySession mv_yX7_laySession b_ml_X7_66 dX7_change_56 rfl (c_X7_laySession (by omega) (by omega)) (by decide) v17 rfl rfl (Nat.le_of_ble_eq_true rfl) ?_
        refine e_iload C dX7_change_59 rfl ?_
        exact f_ii C hX dX7_change_61 (RM.ok hr0 hf0 (by rw [fChange, cif_pos hSS, cif_pos ⟨h_17, h_27⟩, nt_nI (by omega)]) (by rw [eo]; exact isEr_nI (by omega)))
      · skip
        refine e_bipush (v := -2) C dX7_change_30 (by decide) ?_
        exact f_ii C hX dX7_change_32 (RM.er hM (by rw [fChange, cif_pos hSS, cif_neg (fun q => h_27 q.2)]) isEr_2)
  · skip
    refine e_iconst (v := -1) C dX7_change_8 (by decide) ?_
    exact f_ii C hX dX7_change_9 (RM.er hM (by rw [fChange, cif_neg h_5]) isEr_1)
set_option maxRecDepth 100000 in
set_option maxHeartbeats 4000000 in
theorem lp_X7_addReplica {E : EV} {l : Launch} {X : CX} {mem : MEM} {a : AS} (hM : RM mem a) {c : Nat} (hG : GoodC a.1 c) {rate like : Int32} (hl : like = -6 ∨ isP a.1 like) (hr9 : nI 0 ≤ rate ∧ rate ≤ nI 9) (C : CK E X RX7 cX7_addReplica 4 (some .int) 4) (hX : EX E X l (fun rr mm => ∃ xx : Int32, rr = iv xx ∧ PoM mem (und (fAdd a.1 rate like) a) ((fAdd a.1 rate like).1) xx mm)) : ∀ (lpn : Nat) (i : Nat), 5 - i < lpn → i ≤ 5 → ffr (fun r => rz a.1 r 0) (5 - i) i = ffr (fun r => rz a.1 r 0) 5 0 → G E X 4 31 [rv (17, 0, 0), iv rate, iv like, iv (nI i)] [] (mz mem a.1) := by
  intro lpn
  induction lpn with
  | zero => intro i hlpn; exact absurd hlpn (Nat.not_lt_zero _)
  | succ lpn ih =>
    intro i hlpn hi hw
    refine e_iload_n C dX7_addReplica_31 rfl ?_
    refine e_iconst (v := nI 5) C dX7_addReplica_32 (by decide) ?_
    refine e_icmp_ge (tgt := 52) C dX7_addReplica_33 (by decide) (fun h_33 => ?_) (fun h_33 => ?_)
    · skip
      have nh_33 := xI_leD (by omega) (by omega) h_33
      have hi5 : i = 5 := by omega
      refine e_iload_n C dX7_addReplica_52 rfl ?_
      refine e_iconst (v := nI 5) C dX7_addReplica_53 (by decide) ?_
      refine e_icmp_ne (tgt := 60) C dX7_addReplica_54 (by decide) (fun h_54 => ?_) (fun h_54 => ?_)
      · skip
        have nh_54 := xI_neD h_54
        exact absurd hi5 nh_54
      · skip
        have nh_54 := xI_inj (by omega) (by omega) h_54
        refine e_bipush (v := -4) C dX7_addReplica_57 (by decide) ?_
        obtain rfl : i = 5 := by omega
        have hw5 : ffr (fun r => rz a.1 r 0) 5 0 = 5 := by rw [← hw, ffr_end]
        exact f_ii C hX dX7_addReplica_59 (RM.er hM (by rw [fAdd, cif_pos hl, cif_pos hr9, cif_neg (by omega), cif_neg (by omega)]) isEr_4)
    · skip
      have nh_33 := xI_nleD (by omega) (by omega) h_33
      refine e_aload_n C dX7_addReplica_36 rfl ?_
      refine e_iload_n C dX7_addReplica_37 rfl ?_
      refine e_iconst (v := nI 0) C dX7_addReplica_38 (by decide) ?_
      refine f_callVr (As := [_, _]) (ci := 7) C mi_yX7_ofReplica mv_yX7_ofReplica b_ml_X7_30 dX7_addReplica_39 rfl (c_X7_ofReplica (by omega) (by omega)) (by decide) v17 rfl rfl (Nat.le_of_ble_eq_true rfl) ?_
      refine e_iconst (v := nI 1) C dX7_addReplica_42 (by decide) ?_
      refine e_icmp_ne (tgt := 52) C dX7_addReplica_43 (by decide) (fun h_43 => ?_) (fun h_43 => ?_)
      · skip
        have hfree : ¬ (fun r => rz a.1 r 0) i = 1 := h_43
        refine e_iload_n C dX7_addReplica_52 rfl ?_
        refine e_iconst (v := nI 5) C dX7_addReplica_53 (by decide) ?_
        refine e_icmp_ne (tgt := 60) C dX7_addReplica_54 (by decide) (fun h_54 => ?_) (fun h_54 => ?_)
        · skip
          have nh_54 := xI_neD h_54
          have hw5 : ffr (fun r => rz a.1 r 0) 5 0 = i := by rw [← hw, ffr_no (f := (fun r => rz a.1 r 0)) hfree (by omega)]
          refine e_aload_n C dX7_addReplica_60 rfl ?_
          refine f_callVu (As := []) (ci := 7) C mi_yX7_record mv_yX7_record b_ml_X7_49 dX7_addReplica_61 rfl (c_X7_record hM.2) (by decide) v17 rfl rfl (Nat.le_of_ble_eq_true rfl) (fun m_61 hc_61 => ?_)
          obtain ⟨m0, rfl, hr0, hf0⟩ := hc_61
          refine e_aload_n C dX7_addReplica_64 rfl ?_
          refine e_iload_n C dX7_addReplica_65 rfl ?_
          refine e_iconst (v := nI 0) C dX7_addReplica_66 (by decide) ?_
          refine e_iconst (v := nI 1) C dX7_addReplica_67 (by decide) ?_
          refine f_callVv (As := [_, _, _]) (ci := 7) C mi_yX7_layReplica mv_yX7_layReplica b_ml_X7_55 dX7_addReplica_68 rfl (c_X7_layReplica (by omega) (by omega)) (by decide) v17 rfl rfl (Nat.le_of_ble_eq_true rfl) ?_
          refine e_aload_n C dX7_addReplica_71 rfl ?_
          refine e_iload_n C dX7_addReplica_72 rfl ?_
          refine e_iconst (v := nI 1) C dX7_addReplica_73 (by decide) ?_
          refine e_iload_n C dX7_addReplica_74 rfl ?_
          refine e_bipush (v := -6) C dX7_addReplica_75 (by decide) ?_
          refine e_icmp_ne (tgt := 84) C dX7_addReplica_77 (by decide) (fun h_77 => ?_) (fun h_77 => ?_)
          · skip
            obtain ⟨p, rfl, hp⟩ := isP_nat (hl.resolve_left h_77)
            have hpl : p < 10 := by rcases hp with h | h <;> omega
            have hp2 : isPn (rs a.1 i 0 (nI 1)) p := by
              rcases hp with h | ⟨h1, h2⟩
              · exact Or.inl h
              · refine Or.inr ⟨h1, ?_⟩
                rw [rz_rs (by decide) (by decide)]
                by_cases e : p = i ∧ 0 = 0
                · rw [if_pos e]; rfl
                · rw [if_neg e]; exact h2
            have hps : posz (rs a.1 i 0 (nI 1)) p = posz a.1 p := by
              unfold posz
              by_cases e : p = 9
              · rw [if_pos e, if_pos e, hz_rs (by decide)]
              · rw [if_neg e, if_neg e, rz_rs (by decide) (by decide), if_neg (by omega)]
            refine e_aload_n C dX7_addReplica_84 rfl ?_
            refine e_iload_n C dX7_addReplica_85 rfl ?_
            refine f_callVr (As := [_]) (ci := 7) C mi_yX7_at mv_yX7_at b_ml_X7_59 dX7_addReplica_86 rfl (c_X7_at hp2) (by decide) v17 rfl rfl (Nat.le_of_ble_eq_true rfl) ?_
            rw [hps]
            refine f_callVv (As := [_, _, _]) (ci := 7) C mi_yX7_layReplica mv_yX7_layReplica b_ml_X7_55 dX7_addReplica_89 rfl (c_X7_layReplica (by omega) (by omega)) (by decide) v17 rfl rfl (Nat.le_of_ble_eq_true rfl) ?_
            refine e_aload_n C dX7_addReplica_92 rfl ?_
            refine e_iload_n C dX7_addReplica_93 rfl ?_
            refine e_iconst (v := nI 2) C dX7_addReplica_94 (by decide) ?_
            refine e_iload_n C dX7_addReplica_95 rfl ?_
            refine f_callVv (As := [_, _, _]) (ci := 7) C mi_yX7_layReplica mv_yX7_layReplica b_ml_X7_55 dX7_addReplica_96 rfl (c_X7_layReplica (by omega) (by omega)) (by decide) v17 rfl rfl (Nat.le_of_ble_eq_true rfl) ?_
            refine e_aload_n C dX7_addReplica_99 rfl ?_
            refine e_iload_n C dX7_addReplica_100 rfl ?_
            refine e_iconst (v := nI 3) C dX7_addReplica_101 (by decide) ?_
            refine e_iconst (v := nI 0) C dX7_addReplica_102 (by decide) ?_
            refine f_callVv (As := [_, _, _]) (ci := 7) C mi_yX7_layReplica mv_yX7_layReplica b_ml_X7_55 dX7_addReplica_103 rfl (c_X7_layReplica (by omega) (by omega)) (by decide) v17 rfl rfl (Nat.le_of_ble_eq_true rfl) ?_
            refine e_aload_n C dX7_addReplica_106 rfl ?_
            refine e_iload_n C dX7_addReplica_107 rfl ?_
            refine e_iconst (v := nI 4) C dX7_addReplica_108 (by decide) ?_
            refine e_iconst (v := nI 0) C dX7_addReplica_109 (by decide) ?_
            refine f_callVv (As := [_, _, _]) (ci := 7) C mi_yX7_layReplica mv_yX7_layReplica b_ml_X7_55 dX7_addReplica_110 rfl (c_X7_layReplica (by omega) (by omega)) (by decide) v17 rfl rfl (Nat.le_of_ble_eq_true rfl) ?_
            refine e_iload_n C dX7_addReplica_113 rfl ?_
            exact f_ii C hX dX7_addReplica_114 (RM.ok hr0 hf0 (by rw [fAdd, cif_pos hl, cif_pos hr9, cif_pos (by omega), cif_pos (by omega), cif_neg h_77, posg_p hp, hw5]; rfl) (isEr_nI (by omega)))
          · skip
            refine e_iconst (v := nI 0) C dX7_addReplica_80 (by decide) ?_
            refine e_goto (tgt := 89) C dX7_addReplica_81 (by decide) ?_
            refine f_callVv (As := [_, _, _]) (ci := 7) C mi_yX7_layReplica mv_yX7_layReplica b_ml_X7_55 dX7_addReplica_89 rfl (c_X7_layReplica (by omega) (by omega)) (by decide) v17 rfl rfl (Nat.le_of_ble_eq_true rfl) ?_
            refine e_aload_n C dX7_addReplica_92 rfl ?_
            refine e_iload_n C dX7_addReplica_93 rfl ?_
            refine e_iconst (v := nI 2) C dX7_addReplica_94 (by decide) ?_
            refine e_iload_n C dX7_addReplica_95 rfl ?_
            refine f_callVv (As := [_, _, _]) (ci := 7) C mi_yX7_layReplica mv_yX7_layReplica b_ml_X7_55 dX7_addReplica_96 rfl (c_X7_layReplica (by omega) (by omega)) (by decide) v17 rfl rfl (Nat.le_of_ble_eq_true rfl) ?_
            refine e_aload_n C dX7_addReplica_99 rfl ?_
            refine e_iload_n C dX7_addReplica_100 rfl ?_
            refine e_iconst (v := nI 3) C dX7_addReplica_101 (by decide) ?_
            refine e_iconst (v := nI 0) C dX7_addReplica_102 (by decide) ?_
            refine f_callVv (As := [_, _, _]) (ci := 7) C mi_yX7_layReplica mv_yX7_layReplica b_ml_X7_55 dX7_addReplica_103 rfl (c_X7_layReplica (by omega) (by omega)) (by decide) v17 rfl rfl (Nat.le_of_ble_eq_true rfl) ?_
            refine e_aload_n C dX7_addReplica_106 rfl ?_
            refine e_iload_n C dX7_addReplica_107 rfl ?_
            refine e_iconst (v := nI 4) C dX7_addReplica_108 (by decide) ?_
            refine e_iconst (v := nI 0) C dX7_addReplica_109 (by decide) ?_
            refine f_callVv (As := [_, _, _]) (ci := 7) C mi_yX7_layReplica mv_yX7_layReplica b_ml_X7_55 dX7_addReplica_110 rfl (c_X7_layReplica (by omega) (by omega)) (by decide) v17 rfl rfl (Nat.le_of_ble_eq_true rfl) ?_
            refine e_iload_n C dX7_addReplica_113 rfl ?_
            exact f_ii C hX dX7_addReplica_114 (RM.ok hr0 hf0 (by rw [fAdd, cif_pos hl, cif_pos hr9, cif_pos (by omega), cif_pos (by omega), cif_pos h_77, hw5]; rfl) (isEr_nI (by omega)))
        · skip
          have nh_54 := xI_inj (by omega) (by omega) h_54
          omega
      · skip
        refine f_iincn (ls1 := [_, _, _, _]) C dX7_addReplica_46 rfl (by decide) rfl ?_
        refine e_goto (tgt := 31) C dX7_addReplica_49 (by decide) ?_
        exact ih (i + 1) (by omega) (by omega) ((ffr_yes (f := (fun r => rz a.1 r 0)) (N := 5) (i := i) (show rz a.1 i 0 = 1 from h_43) (by omega)).symm.trans hw)
set_option maxRecDepth 100000 in
set_option maxHeartbeats 4000000 in
theorem c_X7_addReplica {E : EV} {l : Launch} {mem : MEM} {a : AS} (hM : RM mem a) (hGd : Good a.1) {rate like : Int32} : Ct E l yX7_addReplica (me_ws yX7_addReplica cX7_addReplica 4 (some .int)) 4 [rv (17, 0, 0), iv rate, iv like] mem (fun rr mm => ∃ xx : Int32, rr = iv xx ∧ PoM mem (und (fAdd a.1 rate like) a) ((fAdd a.1 rate like).1) xx mm) := by
  obtain ⟨c, hG⟩ := hGd
  have hI := hG.1
  have hc200 := hI.1
  have hcn := hI.2.1
  refine Ct.of (RC := RX7) (ls0 := [rv (17, 0, 0), iv rate, iv like, uv]) mi_yX7_addReplica (Nat.le_of_ble_eq_true rfl) rfl (fun X C hX => ?_)
  refine e_mem (EqV.of (mz_self hM.1).symm) ?_
  refine e_iload_n C dX7_addReplica_0 rfl ?_
  refine e_bipush (v := -6) C dX7_addReplica_1 (by decide) ?_
  refine e_icmp_eq (tgt := 16) C dX7_addReplica_3 (by decide) (fun h_3 => ?_) (fun h_3 => ?_)
  · skip
    refine e_iload_n C dX7_addReplica_16 rfl ?_
    refine e_iconst (v := nI 0) C dX7_addReplica_17 (by decide) ?_
    refine e_bipush (v := nI 9) C dX7_addReplica_18 (by decide) ?_
    refine f_callSr (As := [_, _, _]) C mi_yX7_in b_st_yX7_in b_ml_X7_26 dX7_addReplica_20 rfl c_X7_in (by decide) (Nat.le_of_ble_eq_true rfl) ?_
    refine f_if_ne (tgt := 29) C dX7_addReplica_23 (by decide) (fun h_23 => ?_) (fun h_23 => ?_)
    · skip
      have hl0 : like = -6 ∨ isP a.1 like := Or.inl h_3
      refine e_iconst (v := nI 0) C dX7_addReplica_29 (by decide) ?_
      refine f_istore_n (ls1 := [_, _, _, _]) C dX7_addReplica_30 (by decide) rfl ?_
      exact lp_X7_addReplica hM hG hl0 h_23 C hX 6 0 (by decide) (by decide) rfl
    · skip
      refine e_bipush (v := -2) C dX7_addReplica_26 (by decide) ?_
      exact f_ii C hX dX7_addReplica_28 (RM.er hM (by rw [fAdd, cif_pos (Or.inl h_3), cif_neg h_23]) isEr_2)
  · skip
    refine e_aload_n C dX7_addReplica_6 rfl ?_
    refine e_iload_n C dX7_addReplica_7 rfl ?_
    refine f_callVr (As := [_]) (ci := 7) C mi_yX7_isPlace mv_yX7_isPlace b_ml_X7_52 dX7_addReplica_8 rfl c_X7_isPlace (by decide) v17 rfl rfl (Nat.le_of_ble_eq_true rfl) ?_
    refine f_if_ne (tgt := 16) C dX7_addReplica_11 (by decide) (fun h_11 => ?_) (fun h_11 => ?_)
    · skip
      refine e_iload_n C dX7_addReplica_16 rfl ?_
      refine e_iconst (v := nI 0) C dX7_addReplica_17 (by decide) ?_
      refine e_bipush (v := nI 9) C dX7_addReplica_18 (by decide) ?_
      refine f_callSr (As := [_, _, _]) C mi_yX7_in b_st_yX7_in b_ml_X7_26 dX7_addReplica_20 rfl c_X7_in (by decide) (Nat.le_of_ble_eq_true rfl) ?_
      refine f_if_ne (tgt := 29) C dX7_addReplica_23 (by decide) (fun h_23 => ?_) (fun h_23 => ?_)
      · skip
        have hl0 : like = -6 ∨ isP a.1 like := Or.inr h_11
        refine e_iconst (v := nI 0) C dX7_addReplica_29 (by decide) ?_
        refine f_istore_n (ls1 := [_, _, _, _]) C dX7_addReplica_30 (by decide) rfl ?_
        exact lp_X7_addReplica hM hG hl0 h_23 C hX 6 0 (by decide) (by decide) rfl
      · skip
        refine e_bipush (v := -2) C dX7_addReplica_26 (by decide) ?_
        exact f_ii C hX dX7_addReplica_28 (RM.er hM (by rw [fAdd, cif_pos (Or.inr h_11), cif_neg h_23]) isEr_2)
    · skip
      refine e_iconst (v := -1) C dX7_addReplica_14 (by decide) ?_
      exact f_ii C hX dX7_addReplica_15 (RM.er hM (by rw [fAdd, cif_neg (fun q => q.elim h_3 h_11)]) isEr_1)
set_option maxRecDepth 100000 in
set_option maxHeartbeats 4000000 in
theorem lp_X7_open2 {E : EV} {l : Launch} {X : CX} {mem m0 : MEM} {a : AS} (hr0 : RMr m0 (psh a.2.1 a.1, a.2.2)) (hf0 : FrM mem m0) {hm o b : Int32} (hh : isP a.1 hm) (hob : (nI 0 ≤ o ∧ o ≤ nI 15) ∧ (nI 0 ≤ b ∧ b ≤ nI 20)) {i : Nat} (hi : i < 8) (hw5 : ffr (fun s => sz a.1 s 0) 8 0 = i) (C : CK E X RX7 cX7_open 6 (some .int) 4) (hX : EX E X l (fun rr mm => ∃ xx : Int32, rr = iv xx ∧ PoM mem (und (fOpen a.1 hm o b) a) ((fOpen a.1 hm o b).1) xx mm)) : ∀ (lpn : Nat) (k : Nat), 33 - k < lpn → k ≤ 33 → G E X 6 77 [rv (17, 0, 0), iv hm, iv o, iv b, iv (nI i), iv (nI k)] [] (mz m0 (z33 a.1 i k)) := by
  intro lpn
  induction lpn with
  | zero => intro k hlpn; exact absurd hlpn (Nat.not_lt_zero _)
  | succ lpn ih =>
    intro k hlpn hk
    refine e_iload C dX7_open_77 rfl ?_
    refine e_bipush (v := nI 33) C dX7_open_79 (by decide) ?_
    refine e_icmp_ge (tgt := 99) C dX7_open_81 (by decide) (fun h_81 => ?_) (fun h_81 => ?_)
    · skip
      have nh_81 := xI_leD (by omega) (by omega) h_81
      obtain rfl : k = 33 := by omega
      refine e_aload_n C dX7_open_99 rfl ?_
      refine e_iload C dX7_open_100 rfl ?_
      refine e_iconst (v := nI 0) C dX7_open_102 (by decide) ?_
      refine e_iconst (v := nI 1) C dX7_open_103 (by decide) ?_
      refine f_callVv (As := [_, _, _]) (ci := 7) C mi_yX7_laySession mv_yX7_laySession b_ml_X7_66 dX7_open_104 rfl (c_X7_laySession (by omega) (by omega)) (by decide) v17 rfl rfl (Nat.le_of_ble_eq_true rfl) ?_
      refine e_aload_n C dX7_open_107 rfl ?_
      refine e_iload C dX7_open_108 rfl ?_
      refine e_iconst (v := nI 1) C dX7_open_110 (by decide) ?_
      refine e_iload_n C dX7_open_111 rfl ?_
      refine f_callVv (As := [_, _, _]) (ci := 7) C mi_yX7_laySession mv_yX7_laySession b_ml_X7_66 dX7_open_112 rfl (c_X7_laySession (by omega) (by omega)) (by decide) v17 rfl rfl (Nat.le_of_ble_eq_true rfl) ?_
      refine e_aload_n C dX7_open_115 rfl ?_
      refine e_iload C dX7_open_116 rfl ?_
      refine e_iconst (v := nI 2) C dX7_open_118 (by decide) ?_
      refine e_iload_n C dX7_open_119 rfl ?_
      refine f_callVv (As := [_, _, _]) (ci := 7) C mi_yX7_laySession mv_yX7_laySession b_ml_X7_66 dX7_open_120 rfl (c_X7_laySession (by omega) (by omega)) (by decide) v17 rfl rfl (Nat.le_of_ble_eq_true rfl) ?_
      refine e_aload_n C dX7_open_123 rfl ?_
      refine e_iload C dX7_open_124 rfl ?_
      refine e_iconst (v := nI 3) C dX7_open_126 (by decide) ?_
      refine e_iload_n C dX7_open_127 rfl ?_
      refine f_callVv (As := [_, _, _]) (ci := 7) C mi_yX7_laySession mv_yX7_laySession b_ml_X7_66 dX7_open_128 rfl (c_X7_laySession (by omega) (by omega)) (by decide) v17 rfl rfl (Nat.le_of_ble_eq_true rfl) ?_
      refine e_iload C dX7_open_131 rfl ?_
      exact f_ii C hX dX7_open_133 (RM.ok hr0 hf0 (by rw [fOpen, cif_pos hh, cif_pos hob, cif_pos (by omega), cif_pos (by omega), hw5]; rfl) (isEr_nI (by omega)))
    · skip
      have nh_81 := xI_nleD (by omega) (by omega) h_81
      refine e_aload_n C dX7_open_84 rfl ?_
      refine e_iload C dX7_open_85 rfl ?_
      refine e_iload C dX7_open_87 rfl ?_
      refine e_iconst (v := nI 0) C dX7_open_89 (by decide) ?_
      refine f_callVv (As := [_, _, _]) (ci := 7) C mi_yX7_laySession mv_yX7_laySession b_ml_X7_66 dX7_open_90 rfl (c_X7_laySession (by omega) (by omega)) (by decide) v17 rfl rfl (Nat.le_of_ble_eq_true rfl) ?_
      refine f_iincn (ls1 := [_, _, _, _, _, _]) C dX7_open_93 rfl (by decide) rfl ?_
      refine e_goto (tgt := 77) C dX7_open_96 (by decide) ?_
      exact e_mem (EqV.of (by rw [z33_s])) (ih (k + 1) (by omega) (by omega))
set_option maxRecDepth 100000 in
set_option maxHeartbeats 4000000 in
theorem lp_X7_open1 {E : EV} {l : Launch} {X : CX} {mem : MEM} {a : AS} (hM : RM mem a) {c : Nat} (hG : GoodC a.1 c) {hm o b : Int32} (hh : isP a.1 hm) (hob : (nI 0 ≤ o ∧ o ≤ nI 15) ∧ (nI 0 ≤ b ∧ b ≤ nI 20)) (C : CK E X RX7 cX7_open 6 (some .int) 4) (hX : EX E X l (fun rr mm => ∃ xx : Int32, rr = iv xx ∧ PoM mem (und (fOpen a.1 hm o b) a) ((fOpen a.1 hm o b).1) xx mm)) : ∀ (lpn : Nat) (i : Nat) (x5 : VV), 8 - i < lpn → i ≤ 8 → ffr (fun s => sz a.1 s 0) (8 - i) i = ffr (fun s => sz a.1 s 0) 8 0 → G E X 6 36 [rv (17, 0, 0), iv hm, iv o, iv b, iv (nI i), x5] [] (mz mem a.1) := by
  intro lpn
  induction lpn with
  | zero => intro i x5 hlpn; exact absurd hlpn (Nat.not_lt_zero _)
  | succ lpn ih =>
    intro i x5 hlpn hi hw
    refine e_iload C dX7_open_36 rfl ?_
    refine e_bipush (v := nI 8) C dX7_open_38 (by decide) ?_
    refine e_icmp_ge (tgt := 60) C dX7_open_40 (by decide) (fun h_40 => ?_) (fun h_40 => ?_)
    · skip
      have nh_40 := xI_leD (by omega) (by omega) h_40
      have hi5 : i = 8 := by omega
      refine e_iload C dX7_open_60 rfl ?_
      refine e_bipush (v := nI 8) C dX7_open_62 (by decide) ?_
      refine e_icmp_ne (tgt := 70) C dX7_open_64 (by decide) (fun h_64 => ?_) (fun h_64 => ?_)
      · skip
        have nh_64 := xI_neD h_64
        exact absurd hi5 nh_64
      · skip
        have nh_64 := xI_inj (by omega) (by omega) h_64
        refine e_bipush (v := -4) C dX7_open_67 (by decide) ?_
        obtain rfl : i = 8 := by omega
        have hw5 : ffr (fun s => sz a.1 s 0) 8 0 = 8 := by rw [← hw, ffr_end]
        exact f_ii C hX dX7_open_69 (RM.er hM (by rw [fOpen, cif_pos hh, cif_pos hob, cif_neg (by omega), cif_neg (by omega)]) isEr_4)
    · skip
      have nh_40 := xI_nleD (by omega) (by omega) h_40
      refine e_aload_n C dX7_open_43 rfl ?_
      refine e_iload C dX7_open_44 rfl ?_
      refine e_iconst (v := nI 0) C dX7_open_46 (by decide) ?_
      refine f_callVr (As := [_, _]) (ci := 7) C mi_yX7_ofSession mv_yX7_ofSession b_ml_X7_38 dX7_open_47 rfl (c_X7_ofSession (by omega) (by omega)) (by decide) v17 rfl rfl (Nat.le_of_ble_eq_true rfl) ?_
      refine e_iconst (v := nI 1) C dX7_open_50 (by decide) ?_
      refine e_icmp_ne (tgt := 60) C dX7_open_51 (by decide) (fun h_51 => ?_) (fun h_51 => ?_)
      · skip
        have hfree : ¬ (fun s => sz a.1 s 0) i = 1 := h_51
        refine e_iload C dX7_open_60 rfl ?_
        refine e_bipush (v := nI 8) C dX7_open_62 (by decide) ?_
        refine e_icmp_ne (tgt := 70) C dX7_open_64 (by decide) (fun h_64 => ?_) (fun h_64 => ?_)
        · skip
          have nh_64 := xI_neD h_64
          have hw5 : ffr (fun s => sz a.1 s 0) 8 0 = i := by rw [← hw, ffr_no (f := (fun s => sz a.1 s 0)) hfree (by omega)]
          refine e_aload_n C dX7_open_70 rfl ?_
          refine f_callVu (As := []) (ci := 7) C mi_yX7_record mv_yX7_record b_ml_X7_49 dX7_open_71 rfl (c_X7_record hM.2) (by decide) v17 rfl rfl (Nat.le_of_ble_eq_true rfl) (fun m_71 hc_71 => ?_)
          obtain ⟨m0, rfl, hr0, hf0⟩ := hc_71
          refine e_iconst (v := nI 0) C dX7_open_74 (by decide) ?_
          refine f_istore (ls1 := [_, _, _, _, _, _]) C dX7_open_75 (by decide) rfl ?_
          rw [show mz m0 a.1 = mz m0 (z33 a.1 i 0) from by rw [z33_0]]; exact lp_X7_open2 hr0 hf0 hh hob (by omega) hw5 C hX 34 0 (by decide) (by decide)
        · skip
          have nh_64 := xI_inj (by omega) (by omega) h_64
          omega
      · skip
        refine f_iincn (ls1 := [_, _, _, _, _, _]) C dX7_open_54 rfl (by decide) rfl ?_
        refine e_goto (tgt := 36) C dX7_open_57 (by decide) ?_
        exact ih (i + 1) _ (by omega) (by omega) ((ffr_yes (f := (fun s => sz a.1 s 0)) (N := 8) (i := i) (show sz a.1 i 0 = 1 from h_51) (by omega)).symm.trans hw)
set_option maxRecDepth 100000 in
set_option maxHeartbeats 4000000 in
theorem c_X7_open {E : EV} {l : Launch} {mem : MEM} {a : AS} (hM : RM mem a) (hGd : Good a.1) {hm o b : Int32} : Ct E l yX7_open (me_ws yX7_open cX7_open 6 (some .int)) 4 [rv (17, 0, 0), iv hm, iv o, iv b] mem (fun rr mm => ∃ xx : Int32, rr = iv xx ∧ PoM mem (und (fOpen a.1 hm o b) a) ((fOpen a.1 hm o b).1) xx mm) := by
  obtain ⟨c, hG⟩ := hGd
  have hI := hG.1
  have hc200 := hI.1
  have hcn := hI.2.1
  refine Ct.of (RC := RX7) (ls0 := [rv (17, 0, 0), iv hm, iv o, iv b, uv, uv]) mi_yX7_open (Nat.le_of_ble_eq_true rfl) rfl (fun X C hX => ?_)
  refine e_mem (EqV.of (mz_self hM.1).symm) ?_
  refine e_aload_n C dX7_open_0 rfl ?_
  refine e_iload_n C dX7_open_1 rfl ?_
  refine f_callVr (As := [_]) (ci := 7) C mi_yX7_isPlace mv_yX7_isPlace b_ml_X7_52 dX7_open_2 rfl c_X7_isPlace (by decide) v17 rfl rfl (Nat.le_of_ble_eq_true rfl) ?_
  refine f_if_ne (tgt := 10) C dX7_open_5 (by decide) (fun h_5 => ?_) (fun h_5 => ?_)
  · skip
    refine e_iload_n C dX7_open_10 rfl ?_
    refine e_iconst (v := nI 0) C dX7_open_11 (by decide) ?_
    refine e_bipush (v := nI 15) C dX7_open_12 (by decide) ?_
    refine f_callSr (As := [_, _, _]) C mi_yX7_in b_st_yX7_in b_ml_X7_26 dX7_open_14 rfl c_X7_in (by decide) (Nat.le_of_ble_eq_true rfl) ?_
    refine f_if_eq (tgt := 30) C dX7_open_17 (by decide) (fun h_17 => ?_) (fun h_17 => ?_)
    · skip
      refine e_bipush (v := -2) C dX7_open_30 (by decide) ?_
      exact f_ii C hX dX7_open_32 (RM.er hM (by rw [fOpen, cif_pos h_5, cif_neg (fun q => h_17 q.1)]) isEr_2)
    · skip
      refine e_iload_n C dX7_open_20 rfl ?_
      refine e_iconst (v := nI 0) C dX7_open_21 (by decide) ?_
      refine e_bipush (v := nI 20) C dX7_open_22 (by decide) ?_
      refine f_callSr (As := [_, _, _]) C mi_yX7_in b_st_yX7_in b_ml_X7_26 dX7_open_24 rfl c_X7_in (by decide) (Nat.le_of_ble_eq_true rfl) ?_
      refine f_if_ne (tgt := 33) C dX7_open_27 (by decide) (fun h_27 => ?_) (fun h_27 => ?_)
      · skip
        refine e_iconst (v := nI 0) C dX7_open_33 (by decide) ?_
        refine f_istore (ls1 := [_, _, _, _, _, _]) C dX7_open_34 (by decide) rfl ?_
        exact lp_X7_open1 hM hG h_5 ⟨h_17, h_27⟩ C hX 9 0 _ (by decide) (by decide) rfl
      · skip
        refine e_bipush (v := -2) C dX7_open_30 (by decide) ?_
        exact f_ii C hX dX7_open_32 (RM.er hM (by rw [fOpen, cif_pos h_5, cif_neg (fun q => h_27 q.2)]) isEr_2)
  · skip
    refine e_iconst (v := -1) C dX7_open_8 (by decide) ?_
    exact f_ii C hX dX7_open_9 (RM.er hM (by rw [fOpen, cif_neg h_5]) isEr_1)
