/-! ===== leaves: the class's small methods ===== -/

set_option maxRecDepth 100000 in
set_option maxHeartbeats 4000000 in
theorem c_X6_isWithin {E : EV} {l : Launch} {mem : MEM} {a b c : Int32} : Ct E l yX6_isWithin (me_ws yX6_isWithin cX6_isWithin 3 (some .boolean)) 1 [iv a, iv b, iv c] mem (Ret (iv (b2i (b ≤ a ∧ a ≤ c))) mem) := by
  refine Ct.of (RC := RX6) (ls0 := [iv a, iv b, iv c]) mi_yX6_isWithin (Nat.le_of_ble_eq_true rfl) rfl (fun X C hX => ?_)
  refine e_iload_n C dX6_isWithin_0 rfl ?_
  refine e_iload_n C dX6_isWithin_1 rfl ?_
  refine e_icmp_lt (tgt := 14) C dX6_isWithin_2 (by decide) (fun h_2 => ?_) (fun h_2 => ?_)
  · skip
    refine e_iconst (v := nI 0) C dX6_isWithin_14 (by decide) ?_
    exact f_zf C hX dX6_isWithin_15 (by simp only [Int32.lt_iff_toInt_lt, Int32.le_iff_toInt_le, ← Int32.toInt_inj, Int32.toInt_zero, nI_toInt, Nat.reducePow, Nat.reduceLT] at *; omega) rfl
  · skip
    refine e_iload_n C dX6_isWithin_5 rfl ?_
    refine e_iload_n C dX6_isWithin_6 rfl ?_
    refine e_icmp_gt (tgt := 14) C dX6_isWithin_7 (by decide) (fun h_7 => ?_) (fun h_7 => ?_)
    · skip
      refine e_iconst (v := nI 0) C dX6_isWithin_14 (by decide) ?_
      exact f_zf C hX dX6_isWithin_15 (by simp only [Int32.lt_iff_toInt_lt, Int32.le_iff_toInt_le, ← Int32.toInt_inj, Int32.toInt_zero, nI_toInt, Nat.reducePow, Nat.reduceLT] at *; omega) rfl
    · skip
      refine e_iconst (v := nI 1) C dX6_isWithin_10 (by decide) ?_
      refine e_goto (tgt := 15) C dX6_isWithin_11 (by decide) ?_
      exact f_zt C hX dX6_isWithin_15 (by simp only [Int32.lt_iff_toInt_lt, Int32.le_iff_toInt_le, ← Int32.toInt_inj, Int32.toInt_zero, nI_toInt, Nat.reducePow, Nat.reduceLT] at *; omega) rfl
set_option maxRecDepth 100000 in
set_option maxHeartbeats 4000000 in
theorem c_X6_isKey {E : EV} {l : Launch} {mem : MEM} {a : Int32} : Ct E l yX6_isKey (me_ws yX6_isKey cX6_isKey 1 (some .boolean)) 2 [iv a] mem (Ret (iv (b2i (nI 0 ≤ a ∧ a ≤ nI 11))) mem) := by
  refine Ct.of (RC := RX6) (ls0 := [iv a]) mi_yX6_isKey (Nat.le_of_ble_eq_true rfl) rfl (fun X C hX => ?_)
  refine e_iload_n C dX6_isKey_0 rfl ?_
  refine e_iconst (v := nI 0) C dX6_isKey_1 (by decide) ?_
  refine e_bipush (v := nI 11) C dX6_isKey_2 (by decide) ?_
  refine f_callSr (As := [_, _, _]) C mi_yX6_isWithin b_st_yX6_isWithin b_ml_X6_189 dX6_isKey_4 rfl c_X6_isWithin (by decide) (Nat.le_of_ble_eq_true rfl) ?_
  exact f_zb C hX dX6_isKey_7 Iff.rfl rfl
set_option maxRecDepth 100000 in
set_option maxHeartbeats 4000000 in
theorem c_X6_isError {E : EV} {l : Launch} {mem : MEM} {a : Int32} : Ct E l yX6_isError (me_ws yX6_isError cX6_isError 1 (some .boolean)) 2 [iv a] mem (Ret (iv (b2i (-5 ≤ a ∧ a ≤ -1))) mem) := by
  refine Ct.of (RC := RX6) (ls0 := [iv a]) mi_yX6_isError (Nat.le_of_ble_eq_true rfl) rfl (fun X C hX => ?_)
  refine e_iload_n C dX6_isError_0 rfl ?_
  refine e_bipush (v := -5) C dX6_isError_1 (by decide) ?_
  refine e_iconst (v := -1) C dX6_isError_3 (by decide) ?_
  refine f_callSr (As := [_, _, _]) C mi_yX6_isWithin b_st_yX6_isWithin b_ml_X6_189 dX6_isError_4 rfl c_X6_isWithin (by decide) (Nat.le_of_ble_eq_true rfl) ?_
  exact f_zb C hX dX6_isError_7 Iff.rfl rfl
set_option maxRecDepth 100000 in
set_option maxHeartbeats 4000000 in
theorem c_X1_contains {E : EV} {l : Launch} {mem : MEM} {k : Nat} (hk : k < 8) {n : Int32} : Ct E l yX1_contains (me_ws yX1_contains cX1_contains 2 (some .boolean)) 1 [rv (2, k, 0), iv n] mem (Ret (iv (b2i (nI 1 ≤ n ∧ n ≤ mem (2, k, 0) 0 ∧ n ≤ nI 200))) mem) := by
  refine Ct.of (RC := RX1) (ls0 := [rv (2, k, 0), iv n]) mi_yX1_contains (Nat.le_of_ble_eq_true rfl) rfl (fun X C hX => ?_)
  refine e_iload_n C dX1_contains_0 rfl ?_
  refine e_iconst (v := nI 1) C dX1_contains_1 (by decide) ?_
  refine e_icmp_lt (tgt := 24) C dX1_contains_2 (by decide) (fun h_2 => ?_) (fun h_2 => ?_)
  · skip
    refine e_iconst (v := nI 0) C dX1_contains_24 (by decide) ?_
    exact f_zf C hX dX1_contains_25 (by simp only [Int32.lt_iff_toInt_lt, Int32.le_iff_toInt_le, ← Int32.toInt_inj, Int32.toInt_zero, nI_toInt, Nat.reducePow, Nat.reduceLT] at *; omega) rfl
  · skip
    refine e_iload_n C dX1_contains_5 rfl ?_
    refine e_aload_n C dX1_contains_6 rfl ?_
    refine e_geti C (ci := 1) 0 rfl rfl rfl (by decide) b_X1 rfl b_fl_X1_9 (v2 hk) rfl dX1_contains_7 ?_
    refine e_icmp_gt (tgt := 24) C dX1_contains_10 (by decide) (fun h_10 => ?_) (fun h_10 => ?_)
    · skip
      refine e_iconst (v := nI 0) C dX1_contains_24 (by decide) ?_
      exact f_zf C hX dX1_contains_25 (by simp only [Int32.lt_iff_toInt_lt, Int32.le_iff_toInt_le, ← Int32.toInt_inj, Int32.toInt_zero, nI_toInt, Nat.reducePow, Nat.reduceLT] at *; omega) rfl
    · skip
      refine e_iload_n C dX1_contains_13 rfl ?_
      refine e_sipush (v := nI 200) C dX1_contains_14 (by decide) ?_
      refine e_icmp_gt (tgt := 24) C dX1_contains_17 (by decide) (fun h_17 => ?_) (fun h_17 => ?_)
      · skip
        refine e_iconst (v := nI 0) C dX1_contains_24 (by decide) ?_
        exact f_zf C hX dX1_contains_25 (by simp only [Int32.lt_iff_toInt_lt, Int32.le_iff_toInt_le, ← Int32.toInt_inj, Int32.toInt_zero, nI_toInt, Nat.reducePow, Nat.reduceLT] at *; omega) rfl
      · skip
        refine e_iconst (v := nI 1) C dX1_contains_20 (by decide) ?_
        refine e_goto (tgt := 25) C dX1_contains_21 (by decide) ?_
        exact f_zt C hX dX1_contains_25 (by simp only [Int32.lt_iff_toInt_lt, Int32.le_iff_toInt_le, ← Int32.toInt_inj, Int32.toInt_zero, nI_toInt, Nat.reducePow, Nat.reduceLT] at *; omega) rfl
theorem c_X1_contains_n {E : EV} {l : Launch} {mem : MEM} {k : Nat} (hk : k < 8) {c j : Nat} (hc : mem (2, k, 0) 0 = nI c) (hcl : c ≤ 200) (hj : j < 2 ^ 31) : Ct E l yX1_contains (me_ws yX1_contains cX1_contains 2 (some .boolean)) 1 [rv (2, k, 0), iv (nI j)] mem (Ret (iv (b2i (1 ≤ j ∧ j ≤ c))) mem) := by
  have h := c_X1_contains (E := E) (l := l) (mem := mem) hk (n := nI j)
  have e : b2i (nI 1 ≤ nI j ∧ nI j ≤ mem (2, k, 0) 0 ∧ nI j ≤ nI 200) = b2i (1 ≤ j ∧ j ≤ c) := b2i_congr (by
    rw [hc, nI_leI (by omega) (by omega), nI_leI (by omega) (by omega), nI_leI (by omega) (by omega)]
    omega)
  rw [e] at h
  exact h
set_option maxRecDepth 100000 in
set_option maxHeartbeats 4000000 in
theorem c_X1_keyOf {E : EV} {l : Launch} {mem : MEM} {k : Nat} (hk : k < 8) {c : Nat} (hc : mem (2, k, 0) 0 = nI c) (hcl : c ≤ 200) {i : Nat} (hi : i < c) : Ct E l yX1_keyOf (me_ws yX1_keyOf cX1_keyOf 2 (some .int)) 2 [rv (2, k, 0), iv (nI (i + 1))] mem (Ret (iv (mem (3, k, 0) i)) mem) := by
  refine Ct.of (RC := RX1) (ls0 := [rv (2, k, 0), iv (nI (i + 1))]) mi_yX1_keyOf (Nat.le_of_ble_eq_true rfl) rfl (fun X C hX => ?_)
  refine e_aload_n C dX1_keyOf_0 rfl ?_
  refine e_iload_n C dX1_keyOf_1 rfl ?_
  refine f_callVr (As := [_]) (ci := 1) C mi_yX1_contains mv_yX1_contains b_ml_X1_25 dX1_keyOf_2 rfl (c_X1_contains_n hk hc hcl (by omega)) (by decide) (v2 hk) rfl rfl (Nat.le_of_ble_eq_true rfl) ?_
  refine f_if_eq (tgt := 19) C dX1_keyOf_5 (by decide) (fun h_5 => ?_) (fun h_5 => ?_)
  · skip
    omega
  · skip
    refine e_aload_n C dX1_keyOf_8 rfl ?_
    refine e_getr C (ci := 1) 1 rfl rfl rfl (by decide) b_X1 rfl b_fl_X1_15 (v2 hk) rfl dX1_keyOf_9 ?_
    refine e_iload_n C dX1_keyOf_12 rfl ?_
    refine e_iconst (v := nI 1) C dX1_keyOf_13 (by decide) ?_
    refine f_isubn C (by omega) dX1_keyOf_14 ?_
    refine f_iald C rfl (v3 hk) (by omega) (by decide) dX1_keyOf_15 ?_
    refine e_goto (tgt := 21) C dX1_keyOf_16 (by decide) ?_
    exact f_ir C hX dX1_keyOf_21 rfl rfl
set_option maxRecDepth 100000 in
set_option maxHeartbeats 4000000 in
theorem c_X1_valueOf {E : EV} {l : Launch} {mem : MEM} {k : Nat} (hk : k < 8) {c : Nat} (hc : mem (2, k, 0) 0 = nI c) (hcl : c ≤ 200) {i : Nat} (hi : i < c) : Ct E l yX1_valueOf (me_ws yX1_valueOf cX1_valueOf 2 (some .int)) 2 [rv (2, k, 0), iv (nI (i + 1))] mem (Ret (iv (mem (4, k, 0) i)) mem) := by
  refine Ct.of (RC := RX1) (ls0 := [rv (2, k, 0), iv (nI (i + 1))]) mi_yX1_valueOf (Nat.le_of_ble_eq_true rfl) rfl (fun X C hX => ?_)
  refine e_aload_n C dX1_valueOf_0 rfl ?_
  refine e_iload_n C dX1_valueOf_1 rfl ?_
  refine f_callVr (As := [_]) (ci := 1) C mi_yX1_contains mv_yX1_contains b_ml_X1_25 dX1_valueOf_2 rfl (c_X1_contains_n hk hc hcl (by omega)) (by decide) (v2 hk) rfl rfl (Nat.le_of_ble_eq_true rfl) ?_
  refine f_if_eq (tgt := 19) C dX1_valueOf_5 (by decide) (fun h_5 => ?_) (fun h_5 => ?_)
  · skip
    omega
  · skip
    refine e_aload_n C dX1_valueOf_8 rfl ?_
    refine e_getr C (ci := 1) 2 rfl rfl rfl (by decide) b_X1 rfl b_fl_X1_19 (v2 hk) rfl dX1_valueOf_9 ?_
    refine e_iload_n C dX1_valueOf_12 rfl ?_
    refine e_iconst (v := nI 1) C dX1_valueOf_13 (by decide) ?_
    refine f_isubn C (by omega) dX1_valueOf_14 ?_
    refine f_iald C rfl (v4 hk) (by omega) (by decide) dX1_valueOf_15 ?_
    refine e_goto (tgt := 21) C dX1_valueOf_16 (by decide) ?_
    exact f_ir C hX dX1_valueOf_21 rfl rfl
set_option maxRecDepth 100000 in
set_option maxHeartbeats 4000000 in
theorem c_X1_valueOf_0 {E : EV} {l : Launch} {mem : MEM} {k : Nat} (hk : k < 8) {c : Nat} (hc : mem (2, k, 0) 0 = nI c) (hcl : c ≤ 200) : Ct E l yX1_valueOf (me_ws yX1_valueOf cX1_valueOf 2 (some .int)) 2 [rv (2, k, 0), iv (nI 0)] mem (Ret (iv (-6)) mem) := by
  refine Ct.of (RC := RX1) (ls0 := [rv (2, k, 0), iv (nI 0)]) mi_yX1_valueOf (Nat.le_of_ble_eq_true rfl) rfl (fun X C hX => ?_)
  refine e_aload_n C dX1_valueOf_0 rfl ?_
  refine e_iload_n C dX1_valueOf_1 rfl ?_
  refine f_callVr (As := [_]) (ci := 1) C mi_yX1_contains mv_yX1_contains b_ml_X1_25 dX1_valueOf_2 rfl (c_X1_contains_n hk hc hcl (by omega)) (by decide) (v2 hk) rfl rfl (Nat.le_of_ble_eq_true rfl) ?_
  refine f_if_eq (tgt := 19) C dX1_valueOf_5 (by decide) (fun h_5 => ?_) (fun h_5 => ?_)
  · skip
    refine e_bipush (v := -6) C dX1_valueOf_19 (by decide) ?_
    exact f_ir C hX dX1_valueOf_21 rfl rfl
  · skip
    omega
set_option maxRecDepth 100000 in
set_option maxHeartbeats 4000000 in
theorem c_X1_add {E : EV} {l : Launch} {mem : MEM} {k : Nat} (hk : k < 8) {c : Nat} (hc : mem (2, k, 0) 0 = nI c) (hcl : c < 200) {key value writer : Int32} : Ct E l yX1_add (me_ws yX1_add cX1_add 4 (some .int)) 1 [rv (2, k, 0), iv key, iv value, iv writer] mem (Ret (iv (nI (c + 1))) (up (up (up (up mem (3, k, 0) c key) (4, k, 0) c value) (5, k, 0) c writer) (2, k, 0) 0 (nI (c + 1)))) := by
  refine Ct.of (RC := RX1) (ls0 := [rv (2, k, 0), iv key, iv value, iv writer]) mi_yX1_add (Nat.le_of_ble_eq_true rfl) rfl (fun X C hX => ?_)
  refine e_aload_n C dX1_add_0 rfl ?_
  refine e_geti C (ci := 1) 0 rfl rfl rfl (by decide) b_X1 rfl b_fl_X1_9 (v2 hk) rfl dX1_add_1 ?_
  refine f_val (y := nI (c)) (by first | exact hc | simp [up, hc]) ?_
  refine e_if_lt (tgt := 17) C dX1_add_4 (by decide) (fun h_4 => ?_) (fun h_4 => ?_)
  · skip
    have nh_4 := xI_ltD (a := c) (b := 0) (by omega) (by omega) h_4
    exact absurd nh_4 (Nat.not_lt_zero _)
  · skip
    have nh_4 := xI_nltD (a := c) (b := 0) (by omega) (by omega) h_4
    refine e_aload_n C dX1_add_7 rfl ?_
    refine e_geti C (ci := 1) 0 rfl rfl rfl (by decide) b_X1 rfl b_fl_X1_9 (v2 hk) rfl dX1_add_8 ?_
    refine f_val (y := nI (c)) (by first | exact hc | simp [up, hc]) ?_
    refine e_sipush (v := nI 200) C dX1_add_11 (by decide) ?_
    refine e_icmp_lt (tgt := 20) C dX1_add_14 (by decide) (fun h_14 => ?_) (fun h_14 => ?_)
    · skip
      have nh_14 := xI_ltD (by omega) (by omega) h_14
      refine e_aload_n C dX1_add_20 rfl ?_
      refine e_getr C (ci := 1) 1 rfl rfl rfl (by decide) b_X1 rfl b_fl_X1_15 (v2 hk) rfl dX1_add_21 ?_
      refine e_aload_n C dX1_add_24 rfl ?_
      refine e_geti C (ci := 1) 0 rfl rfl rfl (by decide) b_X1 rfl b_fl_X1_9 (v2 hk) rfl dX1_add_25 ?_
      refine f_val (y := nI (c)) (by first | exact hc | simp [up, hc]) ?_
      refine e_iload_n C dX1_add_28 rfl ?_
      refine f_iast C rfl (v3 hk) (by omega) (by decide) dX1_add_29 ?_
      refine e_aload_n C dX1_add_30 rfl ?_
      refine e_getr C (ci := 1) 2 rfl rfl rfl (by decide) b_X1 rfl b_fl_X1_19 (v2 hk) rfl dX1_add_31 ?_
      refine e_aload_n C dX1_add_34 rfl ?_
      refine e_geti C (ci := 1) 0 rfl rfl rfl (by decide) b_X1 rfl b_fl_X1_9 (v2 hk) rfl dX1_add_35 ?_
      refine f_val (y := nI (c)) (by first | exact hc | simp [up, hc]) ?_
      refine e_iload_n C dX1_add_38 rfl ?_
      refine f_iast C rfl (v4 hk) (by omega) (by decide) dX1_add_39 ?_
      refine e_aload_n C dX1_add_40 rfl ?_
      refine e_getr C (ci := 1) 3 rfl rfl rfl (by decide) b_X1 rfl b_fl_X1_22 (v2 hk) rfl dX1_add_41 ?_
      refine e_aload_n C dX1_add_44 rfl ?_
      refine e_geti C (ci := 1) 0 rfl rfl rfl (by decide) b_X1 rfl b_fl_X1_9 (v2 hk) rfl dX1_add_45 ?_
      refine f_val (y := nI (c)) (by first | exact hc | simp [up, hc]) ?_
      refine e_iload_n C dX1_add_48 rfl ?_
      refine f_iast C rfl (v5 hk) (by omega) (by decide) dX1_add_49 ?_
      refine e_aload_n C dX1_add_50 rfl ?_
      refine e_dup C dX1_add_51 ?_
      refine e_geti C (ci := 1) 0 rfl rfl rfl (by decide) b_X1 rfl b_fl_X1_9 (v2 hk) rfl dX1_add_52 ?_
      refine f_val (y := nI (c)) (by first | exact hc | simp [up, hc]) ?_
      refine e_iconst (v := nI 1) C dX1_add_55 (by decide) ?_
      refine f_iaddn C dX1_add_56 ?_
      refine e_puti C (ci := 1) 0 rfl rfl rfl (by decide) b_X1 rfl b_fl_X1_9 (v2 hk) tyX1 tyX1_ok nmX1 rfl (.inl ⟨rfl, rfl⟩) rfl dX1_add_57 ?_
      refine e_aload_n C dX1_add_60 rfl ?_
      refine e_geti C (ci := 1) 0 rfl rfl rfl (by decide) b_X1 rfl b_fl_X1_9 (v2 hk) rfl dX1_add_61 ?_
      refine f_val (y := nI (c + 1)) (by simp [up]) ?_
      exact f_ir C hX dX1_add_64 rfl rfl
    · skip
      have nh_14 := xI_nltD (by omega) (by omega) h_14
      omega
set_option maxRecDepth 100000 in
set_option maxHeartbeats 4000000 in
theorem c_X1_add_full {E : EV} {l : Launch} {mem : MEM} {k : Nat} (hk : k < 8) (hc : mem (2, k, 0) 0 = nI 200) {key value writer : Int32} : Ct E l yX1_add (me_ws yX1_add cX1_add 4 (some .int)) 1 [rv (2, k, 0), iv key, iv value, iv writer] mem (Ret (iv (-4)) mem) := by
  refine Ct.of (RC := RX1) (ls0 := [rv (2, k, 0), iv key, iv value, iv writer]) mi_yX1_add (Nat.le_of_ble_eq_true rfl) rfl (fun X C hX => ?_)
  refine e_aload_n C dX1_add_0 rfl ?_
  refine e_geti C (ci := 1) 0 rfl rfl rfl (by decide) b_X1 rfl b_fl_X1_9 (v2 hk) rfl dX1_add_1 ?_
  refine f_val (y := nI (200)) (by first | exact hc | simp [up, hc]) ?_
  refine e_if_lt (tgt := 17) C dX1_add_4 (by decide) (fun h_4 => ?_) (fun h_4 => ?_)
  · skip
    have nh_4 := xI_ltD (a := 200) (b := 0) (by omega) (by omega) h_4
    exact absurd nh_4 (Nat.not_lt_zero _)
  · skip
    have nh_4 := xI_nltD (a := 200) (b := 0) (by omega) (by omega) h_4
    refine e_aload_n C dX1_add_7 rfl ?_
    refine e_geti C (ci := 1) 0 rfl rfl rfl (by decide) b_X1 rfl b_fl_X1_9 (v2 hk) rfl dX1_add_8 ?_
    refine f_val (y := nI (200)) (by first | exact hc | simp [up, hc]) ?_
    refine e_sipush (v := nI 200) C dX1_add_11 (by decide) ?_
    refine e_icmp_lt (tgt := 20) C dX1_add_14 (by decide) (fun h_14 => ?_) (fun h_14 => ?_)
    · skip
      have nh_14 := xI_ltD (by omega) (by omega) h_14
      omega
    · skip
      have nh_14 := xI_nltD (by omega) (by omega) h_14
      refine e_bipush (v := -4) C dX1_add_17 (by decide) ?_
      exact f_ir C hX dX1_add_19 rfl rfl
set_option maxRecDepth 100000 in
set_option maxHeartbeats 4000000 in
theorem lp_X1_versionAt {E : EV} {l : Launch} {X : CX} {mem : MEM} {k : Nat} (hk : k < 8) {c : Nat} (hc : mem (2, k, 0) 0 = nI c) (hcl : c ≤ 200) {p : Nat} (hp : p ≤ c) {key : Int32} (C : CK E X RX1 cX1_versionAt 4 (some .int) 3) (hX : EX E X l (Ret (iv (nI (lastw (mem (3, k, 0)) p key))) mem)) : ∀ (lpn : Nat) (j : Nat), j < lpn → j ≤ p → lastw (mem (3, k, 0)) j key = lastw (mem (3, k, 0)) p key → G E X 4 9 [rv (2, k, 0), iv (nI p), iv key, iv (nI j)] [] mem := by
  intro lpn
  induction lpn with
  | zero => intro j hlpn; exact absurd hlpn (Nat.not_lt_zero _)
  | succ lpn ih =>
    intro j hlpn hj hv
    refine e_iload_n C dX1_versionAt_9 rfl ?_
    refine e_if_le (tgt := 28) C dX1_versionAt_10 (by decide) (fun h_10 => ?_) (fun h_10 => ?_)
    · skip
      have nh_10 := xI_leD (a := j) (b := 0) (by omega) (by omega) h_10
      obtain rfl : j = 0 := by omega
      refine e_iload_n C dX1_versionAt_28 rfl ?_
      exact f_ir C hX dX1_versionAt_29 (by rw [← hv]; rfl) rfl
    · skip
      have nh_10 := xI_nleD (a := j) (b := 0) (by omega) (by omega) h_10
      obtain ⟨i, rfl⟩ : ∃ i, j = i + 1 := ⟨j - 1, by omega⟩
      refine e_aload_n C dX1_versionAt_13 rfl ?_
      refine e_iload_n C dX1_versionAt_14 rfl ?_
      refine f_callVr (As := [_]) (ci := 1) C mi_yX1_keyOf mv_yX1_keyOf b_ml_X1_35 dX1_versionAt_15 rfl (c_X1_keyOf hk hc hcl (by omega)) (by decide) (v2 hk) rfl rfl (Nat.le_of_ble_eq_true rfl) ?_
      refine e_iload_n C dX1_versionAt_18 rfl ?_
      refine e_icmp_eq (tgt := 28) C dX1_versionAt_19 (by decide) (fun h_19 => ?_) (fun h_19 => ?_)
      · skip
        refine e_iload_n C dX1_versionAt_28 rfl ?_
        exact f_ir C hX dX1_versionAt_29 (by rw [← hv, lastw_yes (by assumption)]) rfl
      · skip
        refine f_idec (ls1 := [_, _, _, _]) C dX1_versionAt_22 rfl (by decide) rfl ?_
        refine e_goto (tgt := 9) C dX1_versionAt_25 (by decide) ?_
        exact ih i (by omega) (by omega) (by rw [← hv, lastw_no (by assumption)])
set_option maxRecDepth 100000 in
set_option maxHeartbeats 4000000 in
theorem c_X1_versionAt {E : EV} {l : Launch} {mem : MEM} {k : Nat} (hk : k < 8) {c : Nat} (hc : mem (2, k, 0) 0 = nI c) (hcl : c ≤ 200) {p : Nat} (hp : p ≤ c) {key : Int32} : Ct E l yX1_versionAt (me_ws yX1_versionAt cX1_versionAt 4 (some .int)) 3 [rv (2, k, 0), iv (nI p), iv key] mem (Ret (iv (nI (lastw (mem (3, k, 0)) p key))) mem) := by
  refine Ct.of (RC := RX1) (ls0 := [rv (2, k, 0), iv (nI p), iv key, uv]) mi_yX1_versionAt (Nat.le_of_ble_eq_true rfl) rfl (fun X C hX => ?_)
  refine e_iload_n C dX1_versionAt_0 rfl ?_
  refine e_aload_n C dX1_versionAt_1 rfl ?_
  refine e_geti C (ci := 1) 0 rfl rfl rfl (by decide) b_X1 rfl b_fl_X1_9 (v2 hk) rfl dX1_versionAt_2 ?_
  refine f_val (y := nI (c)) hc ?_
  refine e_mmin C b_ml_X1_29 dX1_versionAt_5 (Nat.le_of_ble_eq_true rfl) (by decide) ?_
  refine f_val (y := nI (p)) (if_neg (nI_nlt hp (by omega))) ?_
  refine f_istore_n (ls1 := [_, _, _, _]) C dX1_versionAt_8 (by decide) rfl ?_
  exact lp_X1_versionAt hk hc hcl hp C hX (p + 1) p (Nat.lt_succ_self p) (Nat.le_refl p) rfl
set_option maxRecDepth 100000 in
set_option maxHeartbeats 4000000 in
theorem lp_X1_countAfter {E : EV} {l : Launch} {X : CX} {mem : MEM} {k : Nat} (hk : k < 8) {c : Nat} (hc : mem (2, k, 0) 0 = nI c) (hcl : c ≤ 200) {p : Nat} (hp : p ≤ c) {key : Int32} (C : CK E X RX1 cX1_countAfter 5 (some .int) 3) (hX : EX E X l (Ret (iv (nI (cntw (mem (3, k, 0)) p key c))) mem)) : ∀ (lpn : Nat) (j w : Nat), j < lpn → j ≤ c → w + cntw (mem (3, k, 0)) p key j = cntw (mem (3, k, 0)) p key c → G E X 5 8 [rv (2, k, 0), iv (nI p), iv key, iv (nI w), iv (nI j)] [] mem := by
  intro lpn
  induction lpn with
  | zero => intro j w hlpn; exact absurd hlpn (Nat.not_lt_zero _)
  | succ lpn ih =>
    intro j w hlpn hj hv
    refine e_iload C dX1_countAfter_8 rfl ?_
    refine e_iload_n C dX1_countAfter_10 rfl ?_
    refine e_icmp_le (tgt := 38) C dX1_countAfter_11 (by decide) (fun h_11 => ?_) (fun h_11 => ?_)
    · skip
      have nh_11 := xI_leD (by omega) (by omega) h_11
      refine e_iload_n C dX1_countAfter_38 rfl ?_
      exact f_ir C hX dX1_countAfter_39 (by rw [← hv, cntw_0 _ _ _ j (by omega)]; rfl) rfl
    · skip
      have nh_11 := xI_nleD (by omega) (by omega) h_11
      refine e_iload C dX1_countAfter_14 rfl ?_
      refine e_if_le (tgt := 38) C dX1_countAfter_16 (by decide) (fun h_16 => ?_) (fun h_16 => ?_)
      · skip
        have nh_16 := xI_leD (a := j) (b := 0) (by omega) (by omega) h_16
        refine e_iload_n C dX1_countAfter_38 rfl ?_
        exact f_ir C hX dX1_countAfter_39 (by rw [← hv, cntw_0 _ _ _ j (by omega)]; rfl) rfl
      · skip
        have nh_16 := xI_nleD (a := j) (b := 0) (by omega) (by omega) h_16
        obtain ⟨i, rfl⟩ : ∃ i, j = i + 1 := ⟨j - 1, by omega⟩
        refine e_aload_n C dX1_countAfter_19 rfl ?_
        refine e_iload C dX1_countAfter_20 rfl ?_
        refine f_callVr (As := [_]) (ci := 1) C mi_yX1_keyOf mv_yX1_keyOf b_ml_X1_35 dX1_countAfter_22 rfl (c_X1_keyOf hk hc hcl (by omega)) (by decide) (v2 hk) rfl rfl (Nat.le_of_ble_eq_true rfl) ?_
        refine e_iload_n C dX1_countAfter_25 rfl ?_
        refine e_icmp_ne (tgt := 32) C dX1_countAfter_26 (by decide) (fun h_26 => ?_) (fun h_26 => ?_)
        · skip
          refine f_idec (ls1 := [_, _, _, _, _]) C dX1_countAfter_32 rfl (by decide) rfl ?_
          refine e_goto (tgt := 8) C dX1_countAfter_35 (by decide) ?_
          exact ih i w (by omega) (by omega) (by rw [← hv, cntw, if_neg (fun q => absurd q.2 (by assumption))]; rfl)
        · skip
          refine f_iincn (ls1 := [_, _, _, _, _]) C dX1_countAfter_29 rfl (by decide) rfl ?_
          refine f_idec (ls1 := [_, _, _, _, _]) C dX1_countAfter_32 rfl (by decide) rfl ?_
          refine e_goto (tgt := 8) C dX1_countAfter_35 (by decide) ?_
          exact ih i (w + 1) (by omega) (by omega) (by rw [← hv, cntw, if_pos ⟨by omega, by assumption⟩]; omega)
set_option maxRecDepth 100000 in
set_option maxHeartbeats 4000000 in
theorem c_X1_countAfter {E : EV} {l : Launch} {mem : MEM} {k : Nat} (hk : k < 8) {c : Nat} (hc : mem (2, k, 0) 0 = nI c) (hcl : c ≤ 200) {p : Nat} (hp : p ≤ c) {key : Int32} : Ct E l yX1_countAfter (me_ws yX1_countAfter cX1_countAfter 5 (some .int)) 3 [rv (2, k, 0), iv (nI p), iv key] mem (Ret (iv (nI (cntw (mem (3, k, 0)) p key c))) mem) := by
  refine Ct.of (RC := RX1) (ls0 := [rv (2, k, 0), iv (nI p), iv key, uv, uv]) mi_yX1_countAfter (Nat.le_of_ble_eq_true rfl) rfl (fun X C hX => ?_)
  refine e_iconst (v := nI 0) C dX1_countAfter_0 (by decide) ?_
  refine f_istore_n (ls1 := [_, _, _, _, _]) C dX1_countAfter_1 (by decide) rfl ?_
  refine e_aload_n C dX1_countAfter_2 rfl ?_
  refine e_geti C (ci := 1) 0 rfl rfl rfl (by decide) b_X1 rfl b_fl_X1_9 (v2 hk) rfl dX1_countAfter_3 ?_
  refine f_val (y := nI (c)) hc ?_
  refine f_istore (ls1 := [_, _, _, _, _]) C dX1_countAfter_6 (by decide) rfl ?_
  exact lp_X1_countAfter hk hc hcl hp C hX (c + 1) c 0 (Nat.lt_succ_self c) (Nat.le_refl c) (Nat.zero_add _)
/-- the log of a state as another's -/
def cpL (mem : MEM) (k k2 : Nat) : MEM := fun id => if id.2.1 = k ∧ 2 ≤ id.1 ∧ id.1 ≤ 5 then mem (id.1, k2, id.2.2) else mem id
theorem cpL_ok {mem : MEM} {k k2 : Nat} (hn : k ≠ k2) : EqV (cpc (cpc (cpc (up mem (2, k, 0) 0 (mem (2, k2, 0) 0)) (3, k, 0) (3, k2, 0)) (4, k, 0) (4, k2, 0)) (5, k, 0) (5, k2, 0)) (cpL mem k k2) := by
  rintro ⟨t, k', i⟩ ⟨hk, hi⟩ j hj hs
  simp only [cpc, up, cpL, Prod.mk.injEq]
  by_cases h : k' = k ∧ 2 ≤ t ∧ t ≤ 5
  · obtain ⟨rfl, h2, h5⟩ := h
    have ht : t = 2 ∨ t = 3 ∨ t = 4 ∨ t = 5 := by omega
    have hi : i = 0 := by
      rcases ht with rfl | rfl | rfl | rfl <;> exact Nat.lt_one_iff.mp hi
    subst hi
    have hj0 : t = 2 → j = 0 := by
      rintro rfl
      have hj : j < 4 := hj
      match j, hs, hj with
      | 0, _, _ => rfl
      | 1, hs, _ => cases hs
      | 2, hs, _ => cases hs
      | 3, hs, _ => cases hs
    rcases ht with rfl | rfl | rfl | rfl
    · obtain rfl := hj0 rfl
      simp [up]
    · simp [up, Ne.symm hn, hn]
    · simp [up, Ne.symm hn, hn]
    · simp [up, Ne.symm hn, hn]
  · rw [if_neg h]
    have h2 : ¬ (t = 2 ∧ k' = k ∧ i = 0) := by omega
    have h3 : ¬ (t = 3 ∧ k' = k ∧ i = 0) := by omega
    have h4 : ¬ (t = 4 ∧ k' = k ∧ i = 0) := by omega
    have h5 : ¬ (t = 5 ∧ k' = k ∧ i = 0) := by omega
    simp [up, h2, h3, h4, h5]

set_option maxRecDepth 100000 in
set_option maxHeartbeats 4000000 in
theorem c_X1_copyFrom {E : EV} {l : Launch} {mem : MEM} {k k2 : Nat} (hk : k < 8) (hk2 : k2 < 8) (hn : k ≠ k2) : Ct E l yX1_copyFrom (me_ws yX1_copyFrom cX1_copyFrom 2 none) 1 [rv (2, k, 0), rv (2, k2, 0)] mem (Ret uv (cpL mem k k2)) := by
  refine Ct.of (RC := RX1) (ls0 := [rv (2, k, 0), rv (2, k2, 0)]) mi_yX1_copyFrom (Nat.le_of_ble_eq_true rfl) rfl (fun X C hX => ?_)
  refine e_aload_n C dX1_copyFrom_0 rfl ?_
  refine e_aload_n C dX1_copyFrom_1 rfl ?_
  refine e_geti C (ci := 1) 0 rfl rfl rfl (by decide) b_X1 rfl b_fl_X1_9 (v2 hk2) rfl dX1_copyFrom_2 ?_
  refine e_puti C (ci := 1) 0 rfl rfl rfl (by decide) b_X1 rfl b_fl_X1_9 (v2 hk) tyX1 tyX1_ok nmX1 rfl (.inl ⟨rfl, rfl⟩) rfl dX1_copyFrom_5 ?_
  refine e_aload_n C dX1_copyFrom_8 rfl ?_
  refine e_getr C (ci := 1) 1 rfl rfl rfl (by decide) b_X1 rfl b_fl_X1_15 (v2 hk2) rfl dX1_copyFrom_9 ?_
  refine e_iconst (v := nI 0) C dX1_copyFrom_12 (by decide) ?_
  refine e_aload_n C dX1_copyFrom_13 rfl ?_
  refine e_getr C (ci := 1) 1 rfl rfl rfl (by decide) b_X1 rfl b_fl_X1_15 (v2 hk) rfl dX1_copyFrom_14 ?_
  refine e_iconst (v := nI 0) C dX1_copyFrom_17 (by decide) ?_
  refine e_sipush (v := nI 200) C dX1_copyFrom_18 (by decide) ?_
  refine e_copy (n := 200) C rfl rfl (v3 hk2) (v3 hk) (by decide) (by decide) b_ml_X1_39 dX1_copyFrom_21 (Nat.le_of_ble_eq_true rfl) (by decide) ?_
  refine e_aload_n C dX1_copyFrom_24 rfl ?_
  refine e_getr C (ci := 1) 2 rfl rfl rfl (by decide) b_X1 rfl b_fl_X1_19 (v2 hk2) rfl dX1_copyFrom_25 ?_
  refine e_iconst (v := nI 0) C dX1_copyFrom_28 (by decide) ?_
  refine e_aload_n C dX1_copyFrom_29 rfl ?_
  refine e_getr C (ci := 1) 2 rfl rfl rfl (by decide) b_X1 rfl b_fl_X1_19 (v2 hk) rfl dX1_copyFrom_30 ?_
  refine e_iconst (v := nI 0) C dX1_copyFrom_33 (by decide) ?_
  refine e_sipush (v := nI 200) C dX1_copyFrom_34 (by decide) ?_
  refine e_copy (n := 200) C rfl rfl (v4 hk2) (v4 hk) (by decide) (by decide) b_ml_X1_39 dX1_copyFrom_37 (Nat.le_of_ble_eq_true rfl) (by decide) ?_
  refine e_aload_n C dX1_copyFrom_40 rfl ?_
  refine e_getr C (ci := 1) 3 rfl rfl rfl (by decide) b_X1 rfl b_fl_X1_22 (v2 hk2) rfl dX1_copyFrom_41 ?_
  refine e_iconst (v := nI 0) C dX1_copyFrom_44 (by decide) ?_
  refine e_aload_n C dX1_copyFrom_45 rfl ?_
  refine e_getr C (ci := 1) 3 rfl rfl rfl (by decide) b_X1 rfl b_fl_X1_22 (v2 hk) rfl dX1_copyFrom_46 ?_
  refine e_iconst (v := nI 0) C dX1_copyFrom_49 (by decide) ?_
  refine e_sipush (v := nI 200) C dX1_copyFrom_50 (by decide) ?_
  refine e_copy (n := 200) C rfl rfl (v5 hk2) (v5 hk) (by decide) (by decide) b_ml_X1_39 dX1_copyFrom_53 (Nat.le_of_ble_eq_true rfl) (by decide) ?_
  exact e_mem (cpL_ok hn) (f_vr C hX dX1_copyFrom_56 rfl)
