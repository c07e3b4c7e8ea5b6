/-! ===== leaves: the class's small methods ===== -/
/-- the number of the latest of the first n writes with the key, 0 if there is none; f: the keys by place -/
def lastw (f : Nat → Int32) : Nat → Int32 → Nat
  | 0, _ => 0
  | n + 1, key => @ite Nat (f n = key) (instDecidableEqInt32 (f n) key) (n + 1) (lastw f n key)
theorem lastw_le (f : Nat → Int32) (key : Int32) : ∀ n, lastw f n key ≤ n
  | 0 => Nat.le_refl 0
  | n + 1 => by
    unfold lastw
    split
    · exact Nat.le_refl _
    · exact Nat.le_succ_of_le (lastw_le f key n)
theorem lastw_congr {f g : Nat → Int32} (key : Int32) : ∀ n, (∀ j, j < n → f j = g j) → lastw f n key = lastw g n key
  | 0, _ => rfl
  | n + 1, h => by
    unfold lastw
    rw [h n (Nat.lt_succ_self n), lastw_congr key n (fun j hj => h j (Nat.lt_succ_of_lt hj))]
theorem lastw_yes {f : Nat → Int32} {n : Nat} {key : Int32} (h : f n = key) : lastw f (n + 1) key = n + 1 := by unfold lastw; rw [if_pos h]
theorem lastw_no {f : Nat → Int32} {n : Nat} {key : Int32} (h : ¬ f n = key) : lastw f (n + 1) key = lastw f n key := by rw [lastw, if_neg h]
/-- how many of the writes at places p to n - 1 have the key -/
def cntw (f : Nat → Int32) (p : Nat) (key : Int32) : Nat → Nat
  | 0 => 0
  | n + 1 => cntw f p key n + if p ≤ n ∧ f n = key then 1 else 0
theorem cntw_le (f : Nat → Int32) (p : Nat) (key : Int32) : ∀ n, cntw f p key n ≤ n
  | 0 => Nat.le_refl 0
  | n + 1 => by
    unfold cntw
    have := cntw_le f p key n
    split <;> omega
theorem cntw_0 (f : Nat → Int32) (p : Nat) (key : Int32) : ∀ n, n ≤ p → cntw f p key n = 0
  | 0, _ => rfl
  | n + 1, h => by
    unfold cntw
    rw [cntw_0 f p key n (by omega), if_neg (by omega)]
theorem cntw_congr {f g : Nat → Int32} (p : Nat) (key : Int32) : ∀ n, (∀ j, j < n → f j = g j) → cntw f p key n = cntw g p key n
  | 0, _ => rfl
  | n + 1, h => by
    unfold cntw
    rw [h n (Nat.lt_succ_self n), cntw_congr p key n (fun j hj => h j (Nat.lt_succ_of_lt hj))]

set_option maxRecDepth 100000 in
set_option maxHeartbeats 4000000 in
theorem c_X6_isWithin {E : EV} {l : Launch} {mem : MEM} {a b c : Int32} : Ct E l yX6_isWithin (me_ws yX6_isWithin cX6_isWithin 3 (some .boolean)) 1 [iv a, iv b, iv c] mem (Ret (iv (b2i (b ≤ a ∧ a ≤ c))) mem) := by
  refine Ct.of (RC := RX6) (ls0 := [iv a, iv b, iv c]) mi_yX6_isWithin (Nat.le_of_ble_eq_true rfl) rfl (fun X C hX => ?_)
  refine e_iload_n C dX6_isWithin_0 rfl ?_
  refine e_iload_n C dX6_isWithin_1 rfl ?_
  refine e_icmp_lt (tgt := 14) C dX6_isWithin_2 (by decide) (fun h_2 => ?_) (fun h_2 => ?_)
  · skip
    refine e_iconst (v := nI 0) C dX6_isWithin_14 (by decide) ?_
    exact f_zf C hX dX6_isWithin_15 (by simp only [Int32.lt_iff_toInt_lt, Int32.le_iff_toInt_le, ← Int32.toInt_inj, Int32.toInt_zero, nI_toInt, Nat.reducePow, Nat.reduceLT] at *; omega) rfl
  · skip
    refine e_iload_n C dX6_isWithin_5 rfl ?_
    refine e_iload_n C dX6_isWithin_6 rfl ?_
    refine e_icmp_gt (tgt := 14) C dX6_isWithin_7 (by decide) (fun h_7 => ?_) (fun h_7 => ?_)
    · skip
      refine e_iconst (v := nI 0) C dX6_isWithin_14 (by decide) ?_
      exact f_zf C hX dX6_isWithin_15 (by simp only [Int32.lt_iff_toInt_lt, Int32.le_iff_toInt_le, ← Int32.toInt_inj, Int32.toInt_zero, nI_toInt, Nat.reducePow, Nat.reduceLT] at *; omega) rfl
    · skip
      refine e_iconst (v := nI 1) C dX6_isWithin_10 (by decide) ?_
      refine e_goto (tgt := 15) C dX6_isWithin_11 (by decide) ?_
      exact f_zt C hX dX6_isWithin_15 (by simp only [Int32.lt_iff_toInt_lt, Int32.le_iff_toInt_le, ← Int32.toInt_inj, Int32.toInt_zero, nI_toInt, Nat.reducePow, Nat.reduceLT] at *; omega) rfl
set_option maxRecDepth 100000 in
set_option maxHeartbeats 4000000 in
theorem c_X6_isKey {E : EV} {l : Launch} {mem : MEM} {a : Int32} : Ct E l yX6_isKey (me_ws yX6_isKey cX6_isKey 1 (some .boolean)) 2 [iv a] mem (Ret (iv (b2i (nI 0 ≤ a ∧ a ≤ nI 11))) mem) := by
  refine Ct.of (RC := RX6) (ls0 := [iv a]) mi_yX6_isKey (Nat.le_of_ble_eq_true rfl) rfl (fun X C hX => ?_)
  refine e_iload_n C dX6_isKey_0 rfl ?_
  refine e_iconst (v := nI 0) C dX6_isKey_1 (by decide) ?_
  refine e_bipush (v := nI 11) C dX6_isKey_2 (by decide) ?_
  refine f_callSr (As := [_, _, _]) C mi_yX6_isWithin b_st_yX6_isWithin b_ml_X6_189 dX6_isKey_4 rfl c_X6_isWithin (by decide) (Nat.le_of_ble_eq_true rfl) ?_
  exact f_zb C hX dX6_isKey_7 Iff.rfl rfl
set_option maxRecDepth 100000 in
set_option maxHeartbeats 4000000 in
theorem c_X6_isError {E : EV} {l : Launch} {mem : MEM} {a : Int32} : Ct E l yX6_isError (me_ws yX6_isError cX6_isError 1 (some .boolean)) 2 [iv a] mem (Ret (iv (b2i (-5 ≤ a ∧ a ≤ -1))) mem) := by
  refine Ct.of (RC := RX6) (ls0 := [iv a]) mi_yX6_isError (Nat.le_of_ble_eq_true rfl) rfl (fun X C hX => ?_)
  refine e_iload_n C dX6_isError_0 rfl ?_
  refine e_bipush (v := -5) C dX6_isError_1 (by decide) ?_
  refine e_iconst (v := -1) C dX6_isError_3 (by decide) ?_
  refine f_callSr (As := [_, _, _]) C mi_yX6_isWithin b_st_yX6_isWithin b_ml_X6_189 dX6_isError_4 rfl c_X6_isWithin (by decide) (Nat.le_of_ble_eq_true rfl) ?_
  exact f_zb C hX dX6_isError_7 Iff.rfl rfl
set_option maxRecDepth 100000 in
set_option maxHeartbeats 4000000 in
theorem c_X1_contains {E : EV} {l : Launch} {mem : MEM} {k : Nat} (hk : k < 8) {n : Int32} : Ct E l yX1_contains (me_ws yX1_contains cX1_contains 2 (some .boolean)) 1 [rv (2, k, 0), iv n] mem (Ret (iv (b2i (nI 1 ≤ n ∧ n ≤ mem (2, k, 0) 0 ∧ n ≤ nI 200))) mem) := by
  refine Ct.of (RC := RX1) (ls0 := [rv (2, k, 0), iv n]) mi_yX1_contains (Nat.le_of_ble_eq_true rfl) rfl (fun X C hX => ?_)
  refine e_iload_n C dX1_contains_0 rfl ?_
  refine e_iconst (v := nI 1) C dX1_contains_1 (by decide) ?_
  refine e_icmp_lt (tgt := 24) C dX1_contains_2 (by decide) (fun h_2 => ?_) (fun h_2 => ?_)
  · skip
    refine e_iconst (v := nI 0) C dX1_contains_24 (by decide) ?_
    exact f_zf C hX dX1_contains_25 (by simp only [Int32.lt_iff_toInt_lt, Int32.le_iff_toInt_le, ← Int32.toInt_inj, Int32.toInt_zero, nI_toInt, Nat.reducePow, Nat.reduceLT] at *; omega) rfl
  · skip
    refine e_iload_n C dX1_contains_5 rfl ?_
    refine e_aload_n C dX1_contains_6 rfl ?_
    refine e_geti C (ci := 1) 0 rfl rfl rfl (by decide) b_X1 rfl b_fl_X1_9 (v2 hk) rfl dX1_contains_7 ?_
    refine e_icmp_gt (tgt := 24) C dX1_contains_10 (by decide) (fun h_10 => ?_) (fun h_10 => ?_)
    · skip
      refine e_iconst (v := nI 0) C dX1_contains_24 (by decide) ?_
      exact f_zf C hX dX1_contains_25 (by simp only [Int32.lt_iff_toInt_lt, Int32.le_iff_toInt_le, ← Int32.toInt_inj, Int32.toInt_zero, nI_toInt, Nat.reducePow, Nat.reduceLT] at *; omega) rfl
    · skip
      refine e_iload_n C dX1_contains_13 rfl ?_
      refine e_sipush (v := nI 200) C dX1_contains_14 (by decide) ?_
      refine e_icmp_gt (tgt := 24) C dX1_contains_17 (by decide) (fun h_17 => ?_) (fun h_17 => ?_)
      · skip
        refine e_iconst (v := nI 0) C dX1_contains_24 (by decide) ?_
        exact f_zf C hX dX1_contains_25 (by simp only [Int32.lt_iff_toInt_lt, Int32.le_iff_toInt_le, ← Int32.toInt_inj, Int32.toInt_zero, nI_toInt, Nat.reducePow, Nat.reduceLT] at *; omega) rfl
      · skip
        refine e_iconst (v := nI 1) C dX1_contains_20 (by decide) ?_
        refine e_goto (tgt := 25) C dX1_contains_21 (by decide) ?_
        exact f_zt C hX dX1_contains_25 (by simp only [Int32.lt_iff_toInt_lt, Int32.le_iff_toInt_le, ← Int32.toInt_inj, Int32.toInt_zero, nI_toInt, Nat.reducePow, Nat.reduceLT] at *; omega) rfl
theorem c_X1_contains_n {E : EV} {l : Launch} {mem : MEM} {k : Nat} (hk : k < 8) {c j : Nat} (hc : mem (2, k, 0) 0 = nI c) (hcl : c ≤ 200) (hj : j < 2 ^ 31) : Ct E l yX1_contains (me_ws yX1_contains cX1_contains 2 (some .boolean)) 1 [rv (2, k, 0), iv (nI j)] mem (Ret (iv (b2i (1 ≤ j ∧ j ≤ c))) mem) := by
  have h := c_X1_contains (E := E) (l := l) (mem := mem) hk (n := nI j)
  have e : b2i (nI 1 ≤ nI j ∧ nI j ≤ mem (2, k, 0) 0 ∧ nI j ≤ nI 200) = b2i (1 ≤ j ∧ j ≤ c) := b2i_congr (by
    rw [hc, nI_leI (by omega) (by omega), nI_leI (by omega) (by omega), nI_leI (by omega) (by omega)]
    omega)
  rw [e] at h
  exact h
set_option maxRecDepth 100000 in
set_option maxHeartbeats 4000000 in
theorem c_X1_keyOf {E : EV} {l : Launch} {mem : MEM} {k : Nat} (hk : k < 8) {c : Nat} (hc : mem (2, k, 0) 0 = nI c) (hcl : c ≤ 200) {i : Nat} (hi : i < c) : Ct E l yX1_keyOf (me_ws yX1_keyOf cX1_keyOf 2 (some .int)) 2 [rv (2, k, 0), iv (nI (i + 1))] mem (Ret (iv (mem (3, k, 0) i)) mem) := by
  refine Ct.of (RC := RX1) (ls0 := [rv (2, k, 0), iv (nI (i + 1))]) mi_yX1_keyOf (Nat.le_of_ble_eq_true rfl) rfl (fun X C hX => ?_)
  refine e_aload_n C dX1_keyOf_0 rfl ?_
  refine e_iload_n C dX1_keyOf_1 rfl ?_
  refine f_callVr (As := [_]) (ci := 1) C mi_yX1_contains mv_yX1_contains b_ml_X1_25 dX1_keyOf_2 rfl (c_X1_contains_n hk hc hcl (by omega)) (by decide) (v2 hk) rfl rfl (Nat.le_of_ble_eq_true rfl) ?_
  refine f_if_eq (tgt := 19) C dX1_keyOf_5 (by decide) (fun h_5 => ?_) (fun h_5 => ?_)
  · skip
    omega
  · skip
    refine e_aload_n C dX1_keyOf_8 rfl ?_
    refine e_getr C (ci := 1) 1 rfl rfl rfl (by decide) b_X1 rfl b_fl_X1_15 (v2 hk) rfl dX1_keyOf_9 ?_
    refine e_iload_n C dX1_keyOf_12 rfl ?_
    refine e_iconst (v := nI 1) C dX1_keyOf_13 (by decide) ?_
    refine f_isubn C (by omega) dX1_keyOf_14 ?_
    refine f_iald C rfl (v3 hk) (by omega) (by decide) dX1_keyOf_15 ?_
    refine e_goto (tgt := 21) C dX1_keyOf_16 (by decide) ?_
    exact f_ir C hX dX1_keyOf_21 rfl rfl
set_option maxRecDepth 100000 in
set_option maxHeartbeats 4000000 in
theorem c_X1_valueOf {E : EV} {l : Launch} {mem : MEM} {k : Nat} (hk : k < 8) {c : Nat} (hc : mem (2, k, 0) 0 = nI c) (hcl : c ≤ 200) {i : Nat} (hi : i < c) : Ct E l yX1_valueOf (me_ws yX1_valueOf cX1_valueOf 2 (some .int)) 2 [rv (2, k, 0), iv (nI (i + 1))] mem (Ret (iv (mem (4, k, 0) i)) mem) := by
  refine Ct.of (RC := RX1) (ls0 := [rv (2, k, 0), iv (nI (i + 1))]) mi_yX1_valueOf (Nat.le_of_ble_eq_true rfl) rfl (fun X C hX => ?_)
  refine e_aload_n C dX1_valueOf_0 rfl ?_
  refine e_iload_n C dX1_valueOf_1 rfl ?_
  refine f_callVr (As := [_]) (ci := 1) C mi_yX1_contains mv_yX1_contains b_ml_X1_25 dX1_valueOf_2 rfl (c_X1_contains_n hk hc hcl (by omega)) (by decide) (v2 hk) rfl rfl (Nat.le_of_ble_eq_true rfl) ?_
  refine f_if_eq (tgt := 19) C dX1_valueOf_5 (by decide) (fun h_5 => ?_) (fun h_5 => ?_)
  · skip
    omega
  · skip
    refine e_aload_n C dX1_valueOf_8 rfl ?_
    refine e_getr C (ci := 1) 2 rfl rfl rfl (by decide) b_X1 rfl b_fl_X1_19 (v2 hk) rfl dX1_valueOf_9 ?_
    refine e_iload_n C dX1_valueOf_12 rfl ?_
    refine e_iconst (v := nI 1) C dX1_valueOf_13 (by decide) ?_
    refine f_isubn C (by omega) dX1_valueOf_14 ?_
    refine f_iald C rfl (v4 hk) (by omega) (by decide) dX1_valueOf_15 ?_
    refine e_goto (tgt := 21) C dX1_valueOf_16 (by decide) ?_
    exact f_ir C hX dX1_valueOf_21 rfl rfl
set_option maxRecDepth 100000 in
set_option maxHeartbeats 4000000 in
theorem c_X1_writerOf {E : EV} {l : Launch} {mem : MEM} {k : Nat} (hk : k < 8) {c : Nat} (hc : mem (2, k, 0) 0 = nI c) (hcl : c ≤ 200) {i : Nat} (hi : i < c) : Ct E l yX1_writerOf (me_ws yX1_writerOf cX1_writerOf 2 (some .int)) 2 [rv (2, k, 0), iv (nI (i + 1))] mem (Ret (iv (mem (5, k, 0) i)) mem) := by
  refine Ct.of (RC := RX1) (ls0 := [rv (2, k, 0), iv (nI (i + 1))]) mi_yX1_writerOf (Nat.le_of_ble_eq_true rfl) rfl (fun X C hX => ?_)
  refine e_aload_n C dX1_writerOf_0 rfl ?_
  refine e_iload_n C dX1_writerOf_1 rfl ?_
  refine f_callVr (As := [_]) (ci := 1) C mi_yX1_contains mv_yX1_contains b_ml_X1_25 dX1_writerOf_2 rfl (c_X1_contains_n hk hc hcl (by omega)) (by decide) (v2 hk) rfl rfl (Nat.le_of_ble_eq_true rfl) ?_
  refine f_if_eq (tgt := 19) C dX1_writerOf_5 (by decide) (fun h_5 => ?_) (fun h_5 => ?_)
  · skip
    omega
  · skip
    refine e_aload_n C dX1_writerOf_8 rfl ?_
    refine e_getr C (ci := 1) 3 rfl rfl rfl (by decide) b_X1 rfl b_fl_X1_22 (v2 hk) rfl dX1_writerOf_9 ?_
    refine e_iload_n C dX1_writerOf_12 rfl ?_
    refine e_iconst (v := nI 1) C dX1_writerOf_13 (by decide) ?_
    refine f_isubn C (by omega) dX1_writerOf_14 ?_
    refine f_iald C rfl (v5 hk) (by omega) (by decide) dX1_writerOf_15 ?_
    refine e_goto (tgt := 21) C dX1_writerOf_16 (by decide) ?_
    exact f_ir C hX dX1_writerOf_21 rfl rfl
set_option maxRecDepth 100000 in
set_option maxHeartbeats 4000000 in
theorem c_X1_valueOf_0 {E : EV} {l : Launch} {mem : MEM} {k : Nat} (hk : k < 8) {c : Nat} (hc : mem (2, k, 0) 0 = nI c) (hcl : c ≤ 200) : Ct E l yX1_valueOf (me_ws yX1_valueOf cX1_valueOf 2 (some .int)) 2 [rv (2, k, 0), iv (nI 0)] mem (Ret (iv (-6)) mem) := by
  refine Ct.of (RC := RX1) (ls0 := [rv (2, k, 0), iv (nI 0)]) mi_yX1_valueOf (Nat.le_of_ble_eq_true rfl) rfl (fun X C hX => ?_)
  refine e_aload_n C dX1_valueOf_0 rfl ?_
  refine e_iload_n C dX1_valueOf_1 rfl ?_
  refine f_callVr (As := [_]) (ci := 1) C mi_yX1_contains mv_yX1_contains b_ml_X1_25 dX1_valueOf_2 rfl (c_X1_contains_n hk hc hcl (by omega)) (by decide) (v2 hk) rfl rfl (Nat.le_of_ble_eq_true rfl) ?_
  refine f_if_eq (tgt := 19) C dX1_valueOf_5 (by decide) (fun h_5 => ?_) (fun h_5 => ?_)
  · skip
    refine e_bipush (v := -6) C dX1_valueOf_19 (by decide) ?_
    exact f_ir C hX dX1_valueOf_21 rfl rfl
  · skip
    omega
set_option maxRecDepth 100000 in
set_option maxHeartbeats 4000000 in
theorem c_X1_add {E : EV} {l : Launch} {mem : MEM} {k : Nat} (hk : k < 8) {c : Nat} (hc : mem (2, k, 0) 0 = nI c) (hcl : c < 200) {key value writer : Int32} : Ct E l yX1_add (me_ws yX1_add cX1_add 4 (some .int)) 1 [rv (2, k, 0), iv key, iv value, iv writer] mem (Ret (iv (nI (c + 1))) (up (up (up (up mem (3, k, 0) c key) (4, k, 0) c value) (5, k, 0) c writer) (2, k, 0) 0 (nI (c + 1)))) := by
  refine Ct.of (RC := RX1) (ls0 := [rv (2, k, 0), iv key, iv value, iv writer]) mi_yX1_add (Nat.le_of_ble_eq_true rfl) rfl (fun X C hX => ?_)
  refine e_aload_n C dX1_add_0 rfl ?_
  refine e_geti C (ci := 1) 0 rfl rfl rfl (by decide) b_X1 rfl b_fl_X1_9 (v2 hk) rfl dX1_add_1 ?_
  refine f_val (y := nI (c)) (by first | exact hc | simp [up, hc]) ?_
  refine e_if_lt (tgt := 17) C dX1_add_4 (by decide) (fun h_4 => ?_) (fun h_4 => ?_)
  · skip
    have nh_4 := xI_ltD (a := c) (b := 0) (by omega) (by omega) h_4
    refine e_bipush (v := -4) C dX1_add_17 (by decide) ?_
    exact f_ir C hX dX1_add_19 rfl rfl
  · skip
    have nh_4 := xI_nltD (a := c) (b := 0) (by omega) (by omega) h_4
    refine e_aload_n C dX1_add_7 rfl ?_
    refine e_geti C (ci := 1) 0 rfl rfl rfl (by decide) b_X1 rfl b_fl_X1_9 (v2 hk) rfl dX1_add_8 ?_
    refine f_val (y := nI (c)) (by first | exact hc | simp [up, hc]) ?_
    refine e_sipush (v := nI 200) C dX1_add_11 (by decide) ?_
    refine e_icmp_lt (tgt := 20) C dX1_add_14 (by decide) (fun h_14 => ?_) (fun h_14 => ?_)
    · skip
      have nh_14 := xI_ltD (by omega) (by omega) h_14
      refine e_aload_n C dX1_add_20 rfl ?_
      refine e_getr C (ci := 1) 1 rfl rfl rfl (by decide) b_X1 rfl b_fl_X1_15 (v2 hk) rfl dX1_add_21 ?_
      refine e_aload_n C dX1_add_24 rfl ?_
      refine e_geti C (ci := 1) 0 rfl rfl rfl (by decide) b_X1 rfl b_fl_X1_9 (v2 hk) rfl dX1_add_25 ?_
      refine f_val (y := nI (c)) (by first | exact hc | simp [up, hc]) ?_
      refine e_iload_n C dX1_add_28 rfl ?_
      refine f_iast C rfl (v3 hk) (by omega) (by decide) dX1_add_29 ?_
      refine e_aload_n C dX1_add_30 rfl ?_
      refine e_getr C (ci := 1) 2 rfl rfl rfl (by decide) b_X1 rfl b_fl_X1_19 (v2 hk) rfl dX1_add_31 ?_
      refine e_aload_n C dX1_add_34 rfl ?_
      refine e_geti C (ci := 1) 0 rfl rfl rfl (by decide) b_X1 rfl b_fl_X1_9 (v2 hk) rfl dX1_add_35 ?_
      refine f_val (y := nI (c)) (by first | exact hc | simp [up, hc]) ?_
      refine e_iload_n C dX1_add_38 rfl ?_
      refine f_iast C rfl (v4 hk) (by omega) (by decide) dX1_add_39 ?_
      refine e_aload_n C dX1_add_40 rfl ?_
      refine e_getr C (ci := 1) 3 rfl rfl rfl (by decide) b_X1 rfl b_fl_X1_22 (v2 hk) rfl dX1_add_41 ?_
      refine e_aload_n C dX1_add_44 rfl ?_
      refine e_geti C (ci := 1) 0 rfl rfl rfl (by decide) b_X1 rfl b_fl_X1_9 (v2 hk) rfl dX1_add_45 ?_
      refine f_val (y := nI (c)) (by first | exact hc | simp [up, hc]) ?_
      refine e_iload_n C dX1_add_48 rfl ?_
      refine f_iast C rfl (v5 hk) (by omega) (by decide) dX1_add_49 ?_
      refine e_aload_n C dX1_add_50 rfl ?_
      refine e_dup C dX1_add_51 ?_
      refine e_geti C (ci := 1) 0 rfl rfl rfl (by decide) b_X1 rfl b_fl_X1_9 (v2 hk) rfl dX1_add_52 ?_
      refine f_val (y := nI (c)) (by first | exact hc | simp [up, hc]) ?_
      refine e_iconst (v := nI 1) C dX1_add_55 (by decide) ?_
      refine f_iaddn C dX1_add_56 ?_
      refine e_puti C (ci := 1) 0 rfl rfl rfl (by decide) b_X1 rfl b_fl_X1_9 (v2 hk) tyX1 tyX1_ok nmX1 rfl (.inl ⟨rfl, rfl⟩) rfl dX1_add_57 ?_
      refine e_aload_n C dX1_add_60 rfl ?_
      refine e_geti C (ci := 1) 0 rfl rfl rfl (by decide) b_X1 rfl b_fl_X1_9 (v2 hk) rfl dX1_add_61 ?_
      refine f_val (y := nI (c)) (by first | exact hc | simp [up, hc]) ?_
      exact f_ir C hX dX1_add_64 rfl rfl
    · skip
      have nh_14 := xI_nltD (by omega) (by omega) h_14
      refine e_bipush (v := -4) C dX1_add_17 (by decide) ?_
      exact f_ir C hX dX1_add_19 rfl rfl
set_option maxRecDepth 100000 in
set_option maxHeartbeats 4000000 in
theorem c_X1_add_full {E : EV} {l : Launch} {mem : MEM} {k : Nat} (hk : k < 8) (hc : mem (2, k, 0) 0 = nI 200) {key value writer : Int32} : Ct E l yX1_add (me_ws yX1_add cX1_add 4 (some .int)) 1 [rv (2, k, 0), iv key, iv value, iv writer] mem (Ret (iv (-4)) mem) := by
  refine Ct.of (RC := RX1) (ls0 := [rv (2, k, 0), iv key, iv value, iv writer]) mi_yX1_add (Nat.le_of_ble_eq_true rfl) rfl (fun X C hX => ?_)
  refine e_aload_n C dX1_add_0 rfl ?_
  refine e_geti C (ci := 1) 0 rfl rfl rfl (by decide) b_X1 rfl b_fl_X1_9 (v2 hk) rfl dX1_add_1 ?_
  refine f_val (y := nI (200)) (by first | exact hc | simp [up, hc]) ?_
  refine e_if_lt (tgt := 17) C dX1_add_4 (by decide) (fun h_4 => ?_) (fun h_4 => ?_)
  · skip
    have nh_4 := xI_ltD (a := 200) (b := 0) (by omega) (by omega) h_4
    refine e_bipush (v := -4) C dX1_add_17 (by decide) ?_
    exact f_ir C hX dX1_add_19 rfl rfl
  · skip
    have nh_4 := xI_nltD (a := 200) (b := 0) (by omega) (by omega) h_4
    refine e_aload_n C dX1_add_7 rfl ?_
    refine e_geti C (ci := 1) 0 rfl rfl rfl (by decide) b_X1 rfl b_fl_X1_9 (v2 hk) rfl dX1_add_8 ?_
    refine f_val (y := nI (200)) (by first | exact hc | simp [up, hc]) ?_
    refine e_sipush (v := nI 200) C dX1_add_11 (by decide) ?_
    refine e_icmp_lt (tgt := 20) C dX1_add_14 (by decide) (fun h_14 => ?_) (fun h_14 => ?_)
    · skip
      have nh_14 := xI_ltD (by omega) (by omega) h_14
      refine e_aload_n C dX1_add_20 rfl ?_
      refine e_getr C (ci := 1) 1 rfl rfl rfl (by decide) b_X1 rfl b_fl_X1_15 (v2 hk) rfl dX1_add_21 ?_
      refine e_aload_n C dX1_add_24 rfl ?_
      refine e_geti C (ci := 1) 0 rfl rfl rfl (by decide) b_X1 rfl b_fl_X1_9 (v2 hk) rfl dX1_add_25 ?_
      refine f_val (y := nI (200)) (by first | exact hc | simp [up, hc]) ?_
      refine e_iload_n C dX1_add_28 rfl ?_
      refine f_iast C rfl (v3 hk) (by omega) (by decide) dX1_add_29 ?_
      refine e_aload_n C dX1_add_30 rfl ?_
      refine e_getr C (ci := 1) 2 rfl rfl rfl (by decide) b_X1 rfl b_fl_X1_19 (v2 hk) rfl dX1_add_31 ?_
      refine e_aload_n C dX1_add_34 rfl ?_
      refine e_geti C (ci := 1) 0 rfl rfl rfl (by decide) b_X1 rfl b_fl_X1_9 (v2 hk) rfl dX1_add_35 ?_
      refine f_val (y := nI (200)) (by first | exact hc | simp [up, hc]) ?_
      refine e_iload_n C dX1_add_38 rfl ?_
      refine f_iast C rfl (v4 hk) (by omega) (by decide) dX1_add_39 ?_
      refine e_aload_n C dX1_add_40 rfl ?_
      refine e_getr C (ci := 1) 3 rfl rfl rfl (by decide) b_X1 rfl b_fl_X1_22 (v2 hk) rfl dX1_add_41 ?_
      refine e_aload_n C dX1_add_44 rfl ?_
      refine e_geti C (ci := 1) 0 rfl rfl rfl (by decide) b_X1 rfl b_fl_X1_9 (v2 hk) rfl dX1_add_45 ?_
      refine f_val (y := nI (200)) (by first | exact hc | simp [up, hc]) ?_
      refine e_iload_n C dX1_add_48 rfl ?_
      refine f_iast C rfl (v5 hk) (by omega) (by decide) dX1_add_49 ?_
      refine e_aload_n C dX1_add_50 rfl ?_
      refine e_dup C dX1_add_51 ?_
      refine e_geti C (ci := 1) 0 rfl rfl rfl (by decide) b_X1 rfl b_fl_X1_9 (v2 hk) rfl dX1_add_52 ?_
      refine f_val (y := nI (200)) (by first | exact hc | simp [up, hc]) ?_
      refine e_iconst (v := nI 1) C dX1_add_55 (by decide) ?_
      refine f_iaddn C dX1_add_56 ?_
      refine e_puti C (ci := 1) 0 rfl rfl rfl (by decide) b_X1 rfl b_fl_X1_9 (v2 hk) tyX1 tyX1_ok nmX1 rfl (.inl ⟨rfl, rfl⟩) rfl dX1_add_57 ?_
      refine e_aload_n C dX1_add_60 rfl ?_
      refine e_geti C (ci := 1) 0 rfl rfl rfl (by decide) b_X1 rfl b_fl_X1_9 (v2 hk) rfl dX1_add_61 ?_
      refine f_val (y := nI (200)) (by first | exact hc | simp [up, hc]) ?_
      exact f_ir C hX dX1_add_64 rfl rfl
    · skip
      have nh_14 := xI_nltD (by omega) (by omega) h_14
      refine e_bipush (v := -4) C dX1_add_17 (by decide) ?_
      exact f_ir C hX dX1_add_19 rfl rfl
