/-! ===== the law's helpers ===== -/
set_option maxRecDepth 100000 in
set_option maxHeartbeats 4000000 in
theorem c_L_low {E : EV} {l : Launch} {mem : MEM} {x : Int32} {N : Nat} (hN : 0 < N) (hN2 : N < 2 ^ 31) : Ct E l yL_low (me_ws yL_low cL_low 2 (some .int)) 1 [iv x, iv (nI N)] mem (Ret (iv (nI (lowz x N))) mem) := by
  have hm := low_lt x
  refine Ct.of (RC := RL) (ls0 := [iv x, iv (nI N)]) mi_yL_low (Nat.le_of_ble_eq_true rfl) rfl (fun X C hX => ?_)
  refine e_iload_n C dL_low_0 rfl ?_
  refine e_ldc (v := 2147483647) C b_k_L_9 dL_low_1 ?_
  refine e_iand C dL_low_3 ?_
  refine f_val (y := nI ((x &&& 2147483647).toNatClampNeg)) (low_m x) ?_
  refine e_iload_n C dL_low_4 rfl ?_
  refine f_iremn C (by omega) (by omega) (by omega) dL_low_5 ?_
  exact f_ir C hX dL_low_6 (rfl) rfl
set_option maxRecDepth 100000 in
set_option maxHeartbeats 4000000 in
theorem c_L_at {E : EV} {l : Launch} {mem : MEM} {pl P : Nat} (hA : LAt mem pl P) : Ct E l yL_at (me_ws yL_at cL_at 3 (some .int)) 1 [rv (18, 0, 0), rv (21, 0, 0), iv (nI pl)] mem (Ret (iv (nI P)) mem) := by
  have hp9 : pl ≤ 9 := by rcases hA with h | h <;> omega
  refine Ct.of (RC := RL) (ls0 := [rv (18, 0, 0), rv (21, 0, 0), iv (nI pl)]) mi_yL_at (Nat.le_of_ble_eq_true rfl) rfl (fun X C hX => ?_)
  refine e_iload_n C dL_at_0 rfl ?_
  refine e_bipush (v := nI 9) C dL_at_1 (by decide) ?_
  refine e_icmp_ne (tgt := 12) C dL_at_3 (by decide) (fun h_3 => ?_) (fun h_3 => ?_)
  · skip
    have nh_3 := xI_neD h_3
    refine e_aload_n C dL_at_12 rfl ?_
    refine e_iload_n C dL_at_13 rfl ?_
    refine f_iald C rfl v18 (by rcases hA with h | h <;> omega) (by decide) dL_at_14 ?_
    exact f_ir C hX dL_at_15 (by rcases hA with h | h; exact absurd h.1 nh_3; exact h.2) rfl
  · skip
    have nh_3 := xI_inj (by omega) (by omega) h_3
    refine e_aload_n C dL_at_6 rfl ?_
    refine e_iconst (v := nI 0) C dL_at_7 (by decide) ?_
    refine f_iald C rfl v21 (by omega) (by decide) dL_at_8 ?_
    refine e_goto (tgt := 15) C dL_at_9 (by decide) ?_
    exact f_ir C hX dL_at_15 (by rcases hA with h | h; exact h.2; omega) rfl
set_option maxRecDepth 100000 in
set_option maxHeartbeats 4000000 in
theorem lp_L_version {E : EV} {l : Launch} {X : CX} {mem : MEM} {z : ZZ} {c : Nat} (hL : LLog mem z c) {p : Nat} (hp : p ≤ c) {q : Nat} (hq : q < 12) (C : CK E X RL cL_version 5 (some .int) 1) (hX : EX E X l (Ret (iv (nI (lastw (keyf z) p (nI q)))) mem)) : ∀ (lpn : Nat) (j w : Nat), p - j < lpn → (j ≤ p) → (w = lastw (keyf z) j (nI q)) → G E X 5 5 [rv (17, 0, 0), iv (nI p), iv (nI q), iv (nI w), iv (nI j)] [] mem := by
  intro lpn
  induction lpn with
  | zero => intro j w hlpn; exact absurd hlpn (Nat.not_lt_zero _)
  | succ lpn ih =>
    intro j w hlpn hj hw
    have hc60 := hL.1
    refine e_iload C dL_version_5 rfl ?_
    refine e_iload_n C dL_version_7 rfl ?_
    refine e_icmp_ge (tgt := 37) C dL_version_8 (by decide) (fun h_8 => ?_) (fun h_8 => ?_)
    · skip
      have nh_8 := xI_leD (by omega) (by omega) h_8
      refine e_iload_n C dL_version_37 rfl ?_
      exact f_ir C hX dL_version_38 (by rw [hw, show j = p by omega]) rfl
    · skip
      have nh_8 := xI_nleD (by omega) (by omega) h_8
      refine e_aload_n C dL_version_11 rfl ?_
      refine e_iload C dL_version_12 rfl ?_
      obtain ⟨k, v, u, hk, hv, hu, e1, e2, e3, e4⟩ := hL.2 (j) (by omega)
      refine f_iald C rfl v17 (by omega) (by decide) dL_version_14 ?_
      refine f_val (y := nI (k + 12 * v + 12000 * u)) e1 ?_
      refine e_bipush (v := nI 12) C dL_version_15 (by decide) ?_
      refine f_iremn C (by omega) (by omega) (by omega) dL_version_17 ?_
      refine e_iload_n C dL_version_18 rfl ?_
      refine e_icmp_ne (tgt := 29) C dL_version_19 (by decide) (fun h_19 => ?_) (fun h_19 => ?_)
      · skip
        have nh_19 := xI_neD h_19
        refine e_iload_n C dL_version_29 rfl ?_
        refine f_istore_n (ls1 := [_, _, _, _, _]) C dL_version_30 (by decide) rfl ?_
        refine f_iincn (ls1 := [_, _, _, _, _]) C dL_version_31 rfl (by decide) rfl ?_
        refine e_goto (tgt := 5) C dL_version_34 (by decide) ?_
        exact ih (j + 1) w (by omega) (by omega) (by rw [lastw_no (by show ¬ wz z j 0 = nI q; rw [e2]; exact xI_ne (by omega) (by omega) (by omega))]; exact hw)
      · skip
        have nh_19 := xI_inj (by omega) (by omega) h_19
        refine e_iload C dL_version_22 rfl ?_
        refine e_iconst (v := nI 1) C dL_version_24 (by decide) ?_
        refine f_iaddn C dL_version_25 ?_
        refine e_goto (tgt := 30) C dL_version_26 (by decide) ?_
        refine f_istore_n (ls1 := [_, _, _, _, _]) C dL_version_30 (by decide) rfl ?_
        refine f_iincn (ls1 := [_, _, _, _, _]) C dL_version_31 rfl (by decide) rfl ?_
        refine e_goto (tgt := 5) C dL_version_34 (by decide) ?_
        exact ih (j + 1) (j + 1) (by omega) (by omega) (by rw [lastw_yes (by show wz z j 0 = nI q; rw [e2] <;> (congr 1 <;> omega))])
set_option maxRecDepth 100000 in
set_option maxHeartbeats 4000000 in
theorem c_L_version {E : EV} {l : Launch} {mem : MEM} {z : ZZ} {c : Nat} (hL : LLog mem z c) {p : Nat} (hp : p ≤ c) {q : Nat} (hq : q < 12) : Ct E l yL_version (me_ws yL_version cL_version 5 (some .int)) 1 [rv (17, 0, 0), iv (nI p), iv (nI q)] mem (Ret (iv (nI (lastw (keyf z) p (nI q)))) mem) := by
  refine Ct.of (RC := RL) (ls0 := [rv (17, 0, 0), iv (nI p), iv (nI q), uv, uv]) mi_yL_version (Nat.le_of_ble_eq_true rfl) rfl (fun X C hX => ?_)
  refine e_iconst (v := nI 0) C dL_version_0 (by decide) ?_
  refine f_istore_n (ls1 := [_, _, _, _, _]) C dL_version_1 (by decide) rfl ?_
  refine e_iconst (v := nI 0) C dL_version_2 (by decide) ?_
  refine f_istore (ls1 := [_, _, _, _, _]) C dL_version_3 (by decide) rfl ?_
  exact lp_L_version hL hp hq C hX (p + 1) 0 0 (by omega) (by omega) rfl
set_option maxRecDepth 100000 in
set_option maxHeartbeats 4000000 in
theorem c_L_value {E : EV} {l : Launch} {mem : MEM} {z : ZZ} {c : Nat} (hL : LLog mem z c) {v : Nat} (hv : v ≤ c) : Ct E l yL_value (me_ws yL_value cL_value 2 (some .int)) 1 [rv (17, 0, 0), iv (nI v)] mem (Ret (iv (valz z v)) mem) := by
  have hc60 := hL.1
  refine Ct.of (RC := RL) (ls0 := [rv (17, 0, 0), iv (nI v)]) mi_yL_value (Nat.le_of_ble_eq_true rfl) rfl (fun X C hX => ?_)
  refine e_iload_n C dL_value_0 rfl ?_
  refine e_if_ne (tgt := 9) C dL_value_1 (by decide) (fun h_1 => ?_) (fun h_1 => ?_)
  · skip
    have nh_1 := xI_neD (a := v) (b := 0) h_1
    refine e_aload_n C dL_value_9 rfl ?_
    refine e_iload_n C dL_value_10 rfl ?_
    refine e_iconst (v := nI 1) C dL_value_11 (by decide) ?_
    refine f_isubn C (by omega) dL_value_12 ?_
    obtain ⟨k, v2, u, hk, hv2, hu, e1, e2, e3, e4⟩ := hL.2 (v - 1) (by omega)
    refine f_iald C rfl v17 (by omega) (by decide) dL_value_13 ?_
    refine f_val (y := nI (k + 12 * v2 + 12000 * u)) e1 ?_
    refine e_bipush (v := nI 12) C dL_value_14 (by decide) ?_
    refine f_idivn C (by omega) (by omega) (by omega) dL_value_16 ?_
    refine e_sipush (v := nI 1000) C dL_value_17 (by decide) ?_
    refine f_iremn C (by omega) (by omega) (by omega) dL_value_20 ?_
    exact f_ir C hX dL_value_21 (by rw [valz, if_neg nh_1, e3] <;> (congr 1 <;> omega)) rfl
  · skip
    have nh_1 := xI_inj (a := v) (b := 0) (by omega) (by omega) h_1
    refine e_bipush (v := -6) C dL_value_4 (by decide) ?_
    refine e_goto (tgt := 21) C dL_value_6 (by decide) ?_
    exact f_ir C hX dL_value_21 (by rw [valz, if_pos nh_1]) rfl
set_option maxRecDepth 100000 in
set_option maxHeartbeats 4000000 in
theorem c_L_need {E : EV} {l : Launch} {mem : MEM} {z : ZZ} {c : Nat} (hZ : LZ mem z c) (hI : GoodC z c) {n : Nat} (hn : n < 4) (ho : sz z n 0 = 1) : Ct E l yL_need (me_ws yL_need cL_need 4 (some .int)) 1 [rv (19, 0, 0), iv (nI n)] mem (Ret (iv (nI (needz z n))) mem) := by
  have hc60 := hZ.c60
  obtain ⟨ma, mb, hma, hmb, ea, eb⟩ := hI.1.marks (by omega) ho
  obtain ⟨hb1, hb2, -, -⟩ := hZ.bits hI.2 hn ho
  have hne : needz z n = max (cif (hasz z n (nI 1)) ma 0) (cif (hasz z n (nI 2)) mb 0) := by rw [needz, ea, eb, nt_nI (by omega), nt_nI (by omega)]
  refine Ct.of (RC := RL) (ls0 := [rv (19, 0, 0), iv (nI n), uv, uv]) mi_yL_need (Nat.le_of_ble_eq_true rfl) rfl (fun X C hX => ?_)
  refine e_aload_n C dL_need_0 rfl ?_
  refine e_iconst (v := nI 4) C dL_need_1 (by decide) ?_
  refine e_iload_n C dL_need_2 rfl ?_
  refine f_iaddn C dL_need_3 ?_
  refine f_iald C rfl v19 (by omega) (by decide) dL_need_4 ?_
  refine e_iconst (v := nI 1) C dL_need_5 (by decide) ?_
  refine e_iand C dL_need_6 ?_
  refine e_iconst (v := nI 1) C dL_need_7 (by decide) ?_
  refine e_icmp_ne (tgt := 20) C dL_need_8 (by decide) (fun h_8 => ?_) (fun h_8 => ?_)
  · skip
    refine e_iconst (v := nI 0) C dL_need_20 (by decide) ?_
    refine f_istore_n (ls1 := [_, _, _, _]) C dL_need_21 (by decide) rfl ?_
    refine e_aload_n C dL_need_22 rfl ?_
    refine e_iconst (v := nI 4) C dL_need_23 (by decide) ?_
    refine e_iload_n C dL_need_24 rfl ?_
    refine f_iaddn C dL_need_25 ?_
    refine f_iald C rfl v19 (by omega) (by decide) dL_need_26 ?_
    refine e_iconst (v := nI 2) C dL_need_27 (by decide) ?_
    refine e_iand C dL_need_28 ?_
    refine e_iconst (v := nI 2) C dL_need_29 (by decide) ?_
    refine e_icmp_ne (tgt := 42) C dL_need_30 (by decide) (fun h_30 => ?_) (fun h_30 => ?_)
    · skip
      refine e_iconst (v := nI 0) C dL_need_42 (by decide) ?_
      refine f_istore_n (ls1 := [_, _, _, _]) C dL_need_43 (by decide) rfl ?_
      refine e_iload_n C dL_need_44 rfl ?_
      refine e_iload_n C dL_need_45 rfl ?_
      refine e_icmp_ge (tgt := 53) C dL_need_46 (by decide) (fun h_46 => ?_) (fun h_46 => ?_)
      · skip
        have nh_46 := xI_leD (by omega) (by omega) h_46
        refine e_iload_n C dL_need_53 rfl ?_
        exact f_ir C hX dL_need_54 (by rw [hne, cif_neg (fun q => h_8 (hb1.mpr q)), cif_neg (fun q => h_30 (hb2.mpr q))] <;> (congr 1 <;> omega)) rfl
      · skip
        exact absurd (by decide) h_46
    · skip
      refine e_aload_n C dL_need_33 rfl ?_
      refine e_bipush (v := nI 16) C dL_need_34 (by decide) ?_
      refine e_iload_n C dL_need_36 rfl ?_
      refine f_iaddn C dL_need_37 ?_
      refine f_iald C rfl v19 (by omega) (by decide) dL_need_38 ?_
      refine f_val (y := nI (mb)) (by rw [hZ.s_seen hn ho]; exact eb) ?_
      refine e_goto (tgt := 43) C dL_need_39 (by decide) ?_
      refine f_istore_n (ls1 := [_, _, _, _]) C dL_need_43 (by decide) rfl ?_
      refine e_iload_n C dL_need_44 rfl ?_
      refine e_iload_n C dL_need_45 rfl ?_
      refine e_icmp_ge (tgt := 53) C dL_need_46 (by decide) (fun h_46 => ?_) (fun h_46 => ?_)
      · skip
        have nh_46 := xI_leD (by omega) (by omega) h_46
        refine e_iload_n C dL_need_53 rfl ?_
        exact f_ir C hX dL_need_54 (by rw [hne, cif_neg (fun q => h_8 (hb1.mpr q)), cif_pos (hb2.mp h_30)] <;> (congr 1 <;> omega)) rfl
      · skip
        have nh_46 := xI_nleD (by omega) (by omega) h_46
        refine e_iload_n C dL_need_49 rfl ?_
        refine e_goto (tgt := 54) C dL_need_50 (by decide) ?_
        exact f_ir C hX dL_need_54 (by rw [hne, cif_neg (fun q => h_8 (hb1.mpr q)), cif_pos (hb2.mp h_30)] <;> (congr 1 <;> omega)) rfl
  · skip
    refine e_aload_n C dL_need_11 rfl ?_
    refine e_bipush (v := nI 12) C dL_need_12 (by decide) ?_
    refine e_iload_n C dL_need_14 rfl ?_
    refine f_iaddn C dL_need_15 ?_
    refine f_iald C rfl v19 (by omega) (by decide) dL_need_16 ?_
    refine f_val (y := nI (ma)) (by rw [hZ.s_own hn ho]; exact ea) ?_
    refine e_goto (tgt := 21) C dL_need_17 (by decide) ?_
    refine f_istore_n (ls1 := [_, _, _, _]) C dL_need_21 (by decide) rfl ?_
    refine e_aload_n C dL_need_22 rfl ?_
    refine e_iconst (v := nI 4) C dL_need_23 (by decide) ?_
    refine e_iload_n C dL_need_24 rfl ?_
    refine f_iaddn C dL_need_25 ?_
    refine f_iald C rfl v19 (by omega) (by decide) dL_need_26 ?_
    refine e_iconst (v := nI 2) C dL_need_27 (by decide) ?_
    refine e_iand C dL_need_28 ?_
    refine e_iconst (v := nI 2) C dL_need_29 (by decide) ?_
    refine e_icmp_ne (tgt := 42) C dL_need_30 (by decide) (fun h_30 => ?_) (fun h_30 => ?_)
    · skip
      refine e_iconst (v := nI 0) C dL_need_42 (by decide) ?_
      refine f_istore_n (ls1 := [_, _, _, _]) C dL_need_43 (by decide) rfl ?_
      refine e_iload_n C dL_need_44 rfl ?_
      refine e_iload_n C dL_need_45 rfl ?_
      refine e_icmp_ge (tgt := 53) C dL_need_46 (by decide) (fun h_46 => ?_) (fun h_46 => ?_)
      · skip
        have nh_46 := xI_leD (by omega) (by omega) h_46
        refine e_iload_n C dL_need_53 rfl ?_
        exact f_ir C hX dL_need_54 (by rw [hne, cif_pos (hb1.mp h_8), cif_neg (fun q => h_30 (hb2.mpr q))] <;> (congr 1 <;> omega)) rfl
      · skip
        have nh_46 := xI_nleD (by omega) (by omega) h_46
        refine e_iload_n C dL_need_49 rfl ?_
        refine e_goto (tgt := 54) C dL_need_50 (by decide) ?_
        exact f_ir C hX dL_need_54 (by rw [hne, cif_pos (hb1.mp h_8), cif_neg (fun q => h_30 (hb2.mpr q))] <;> (congr 1 <;> omega)) rfl
    · skip
      refine e_aload_n C dL_need_33 rfl ?_
      refine e_bipush (v := nI 16) C dL_need_34 (by decide) ?_
      refine e_iload_n C dL_need_36 rfl ?_
      refine f_iaddn C dL_need_37 ?_
      refine f_iald C rfl v19 (by omega) (by decide) dL_need_38 ?_
      refine f_val (y := nI (mb)) (by rw [hZ.s_seen hn ho]; exact eb) ?_
      refine e_goto (tgt := 43) C dL_need_39 (by decide) ?_
      refine f_istore_n (ls1 := [_, _, _, _]) C dL_need_43 (by decide) rfl ?_
      refine e_iload_n C dL_need_44 rfl ?_
      refine e_iload_n C dL_need_45 rfl ?_
      refine e_icmp_ge (tgt := 53) C dL_need_46 (by decide) (fun h_46 => ?_) (fun h_46 => ?_)
      · skip
        have nh_46 := xI_leD (by omega) (by omega) h_46
        refine e_iload_n C dL_need_53 rfl ?_
        exact f_ir C hX dL_need_54 (by rw [hne, cif_pos (hb1.mp h_8), cif_pos (hb2.mp h_30)] <;> (congr 1 <;> omega)) rfl
      · skip
        have nh_46 := xI_nleD (by omega) (by omega) h_46
        refine e_iload_n C dL_need_49 rfl ?_
        refine e_goto (tgt := 54) C dL_need_50 (by decide) ?_
        exact f_ir C hX dL_need_54 (by rw [hne, cif_pos (hb1.mp h_8), cif_pos (hb2.mp h_30)] <;> (congr 1 <;> omega)) rfl
set_option maxRecDepth 100000 in
set_option maxHeartbeats 4000000 in
theorem c_L_can {E : EV} {l : Launch} {mem : MEM} {z : ZZ} {c : Nat} (hZ : LZ mem z c) (hI : GoodC z c) {n : Nat} (hn : n < 4) (ho : sz z n 0 = 1) {q : Nat} (hq : q < 12) {p : Nat} (hp : p ≤ c) : Ct E l yL_can (me_ws yL_can cL_can 5 (some .boolean)) 2 [rv (17, 0, 0), rv (19, 0, 0), iv (nI n), iv (nI q), iv (nI p)] mem (Ret (iv (b2i (nedz z n (nI q) ≤ p))) mem) := by
  have hc60 := hZ.c60
  have hnl := needz_le hI.1 (by omega) ho
  have hll := lastw_le (keyf z) (nI q) (needz z n)
  obtain ⟨-, -, hb4, -⟩ := hZ.bits hI.2 hn ho
  refine Ct.of (RC := RL) (ls0 := [rv (17, 0, 0), rv (19, 0, 0), iv (nI n), iv (nI q), iv (nI p)]) mi_yL_can (Nat.le_of_ble_eq_true rfl) rfl (fun X C hX => ?_)
  refine e_iload C dL_can_0 rfl ?_
  refine e_aload_n C dL_can_2 rfl ?_
  refine e_iload_n C dL_can_3 rfl ?_
  refine f_callSr (As := [_, _]) C mi_yL_need b_st_yL_need b_ml_L_12 dL_can_4 rfl (c_L_need hZ hI hn ho) (by decide) (Nat.le_of_ble_eq_true rfl) ?_
  refine e_icmp_ge (tgt := 36) C dL_can_7 (by decide) (fun h_7 => ?_) (fun h_7 => ?_)
  · skip
    have nh_7 := xI_leD (by omega) (by omega) h_7
    refine e_iconst (v := nI 1) C dL_can_36 (by decide) ?_
    refine e_goto (tgt := 41) C dL_can_37 (by decide) ?_
    exact f_zt C hX dL_can_41 (nedz_iff.mpr (Or.inl (by omega))) rfl
  · skip
    have nh_7 := xI_nleD (by omega) (by omega) h_7
    refine e_aload_n C dL_can_10 rfl ?_
    refine e_iconst (v := nI 4) C dL_can_11 (by decide) ?_
    refine e_iload_n C dL_can_12 rfl ?_
    refine f_iaddn C dL_can_13 ?_
    refine f_iald C rfl v19 (by omega) (by decide) dL_can_14 ?_
    refine e_iconst (v := nI 4) C dL_can_15 (by decide) ?_
    refine e_iand C dL_can_16 ?_
    refine e_iconst (v := nI 4) C dL_can_17 (by decide) ?_
    refine e_icmp_ne (tgt := 40) C dL_can_18 (by decide) (fun h_18 => ?_) (fun h_18 => ?_)
    · skip
      refine e_iconst (v := nI 0) C dL_can_40 (by decide) ?_
      exact f_zf C hX dL_can_41 (fun r => (nedz_iff.mp r).elim (fun r => by omega) (fun r => h_18 (hb4.mpr r.1))) rfl
    · skip
      refine e_aload_n C dL_can_21 rfl ?_
      refine e_aload_n C dL_can_22 rfl ?_
      refine e_iload_n C dL_can_23 rfl ?_
      refine f_callSr (As := [_, _]) C mi_yL_need b_st_yL_need b_ml_L_12 dL_can_24 rfl (c_L_need hZ hI hn ho) (by decide) (Nat.le_of_ble_eq_true rfl) ?_
      refine e_iload_n C dL_can_27 rfl ?_
      refine f_callSr (As := [_, _, _]) C mi_yL_version b_st_yL_version b_ml_L_18 dL_can_28 rfl (c_L_version hZ.log hnl hq) (by decide) (Nat.le_of_ble_eq_true rfl) ?_
      refine e_iload C dL_can_31 rfl ?_
      refine e_icmp_gt (tgt := 40) C dL_can_33 (by decide) (fun h_33 => ?_) (fun h_33 => ?_)
      · skip
        have nh_33 := xI_ltD (by omega) (by omega) h_33
        refine e_iconst (v := nI 0) C dL_can_40 (by decide) ?_
        exact f_zf C hX dL_can_41 (fun r => (nedz_iff.mp r).elim (fun r => by omega) (fun r => by have := r.2; omega)) rfl
      · skip
        have nh_33 := xI_nltD (by omega) (by omega) h_33
        refine e_iconst (v := nI 1) C dL_can_36 (by decide) ?_
        refine e_goto (tgt := 41) C dL_can_37 (by decide) ?_
        exact f_zt C hX dL_can_41 (nedz_iff.mpr (Or.inr ⟨hb4.mp h_18, by omega⟩)) rfl
set_option maxRecDepth 100000 in
set_option maxHeartbeats 4000000 in
theorem c_L_step {E : EV} {l : Launch} {mem : MEM} {z : ZZ} {c pl : Nat} (hS : LStep mem z c pl) {p : Nat} (hpc : p ≤ c) : Ct E l yL_step (me_ws yL_step cL_step 5 (some .int)) 1 [rv (18, 0, 0), rv (21, 0, 0), iv (nI pl), iv (nI p)] mem (Ret (iv (nI (stpz z c pl p))) mem) := by
  obtain ⟨hS1, hc60, hS3⟩ := hS
  have hp9 : pl ≤ 9 := by rcases hS3 with h | h <;> omega
  refine Ct.of (RC := RL) (ls0 := [rv (18, 0, 0), rv (21, 0, 0), iv (nI pl), iv (nI p), uv]) mi_yL_step (Nat.le_of_ble_eq_true rfl) rfl (fun X C hX => ?_)
  refine e_iload_n C dL_step_0 rfl ?_
  refine e_bipush (v := nI 9) C dL_step_1 (by decide) ?_
  refine e_icmp_eq (tgt := 16) C dL_step_3 (by decide) (fun h_3 => ?_) (fun h_3 => ?_)
  · skip
    have nh_3 := xI_inj (by omega) (by omega) h_3
    refine e_iload_n C dL_step_16 rfl ?_
    refine e_goto (tgt := 27) C dL_step_17 (by decide) ?_
    refine f_istore (ls1 := [_, _, _, _, _]) C dL_step_27 (by decide) rfl ?_
    refine e_iload C dL_step_29 rfl ?_
    refine e_aload_n C dL_step_31 rfl ?_
    refine e_iconst (v := nI 0) C dL_step_32 (by decide) ?_
    refine f_iald C rfl v21 (by omega) (by decide) dL_step_33 ?_
    refine f_val (y := nI (c)) hS1 ?_
    refine e_icmp_le (tgt := 43) C dL_step_34 (by decide) (fun h_34 => ?_) (fun h_34 => ?_)
    · skip
      have nh_34 := xI_leD (by omega) (by omega) h_34
      refine e_iload C dL_step_43 rfl ?_
      exact f_ir C hX dL_step_45 (by rw [stpz, cif_pos (Or.inl nh_3)] <;> (congr 1 <;> omega)) rfl
    · skip
      have nh_34 := xI_nleD (by omega) (by omega) h_34
      refine e_aload_n C dL_step_37 rfl ?_
      refine e_iconst (v := nI 0) C dL_step_38 (by decide) ?_
      refine f_iald C rfl v21 (by omega) (by decide) dL_step_39 ?_
      refine f_val (y := nI (c)) hS1 ?_
      refine e_goto (tgt := 45) C dL_step_40 (by decide) ?_
      exact f_ir C hX dL_step_45 (by rw [stpz, cif_pos (Or.inl nh_3)] <;> (congr 1 <;> omega)) rfl
  · skip
    have nh_3 := xI_neD h_3
    obtain ⟨g1, g2, g3, rr, hrr, eqq⟩ := hS3.resolve_left nh_3
    refine e_aload_n C dL_step_6 rfl ?_
    refine e_bipush (v := nI 10) C dL_step_7 (by decide) ?_
    refine e_iload_n C dL_step_9 rfl ?_
    refine f_iaddn C dL_step_10 ?_
    refine f_iald C rfl v18 (by omega) (by decide) dL_step_11 ?_
    refine e_iconst (v := nI 1) C dL_step_12 (by decide) ?_
    refine e_icmp_ne (tgt := 20) C dL_step_13 (by decide) (fun h_13 => ?_) (fun h_13 => ?_)
    · skip
      refine e_iload_n C dL_step_20 rfl ?_
      refine e_aload_n C dL_step_21 rfl ?_
      refine e_iconst (v := nI 5) C dL_step_22 (by decide) ?_
      refine e_iload_n C dL_step_23 rfl ?_
      refine f_iaddn C dL_step_24 ?_
      refine f_iald C rfl v18 (by omega) (by decide) dL_step_25 ?_
      refine f_val (y := nI (rr)) (by rw [g2]; exact eqq) ?_
      refine f_iaddn C dL_step_26 ?_
      refine f_istore (ls1 := [_, _, _, _, _]) C dL_step_27 (by decide) rfl ?_
      refine e_iload C dL_step_29 rfl ?_
      refine e_aload_n C dL_step_31 rfl ?_
      refine e_iconst (v := nI 0) C dL_step_32 (by decide) ?_
      refine f_iald C rfl v21 (by omega) (by decide) dL_step_33 ?_
      refine f_val (y := nI (c)) hS1 ?_
      refine e_icmp_le (tgt := 43) C dL_step_34 (by decide) (fun h_34 => ?_) (fun h_34 => ?_)
      · skip
        have nh_34 := xI_leD (by omega) (by omega) h_34
        refine e_iload C dL_step_43 rfl ?_
        exact f_ir C hX dL_step_45 (by rw [stpz, cif_neg (fun e => e.elim (fun e => nh_3 e) (fun e => h_13 (by rw [g3]; exact e))), eqq, nt_nI (by omega)] <;> (congr 1 <;> omega)) rfl
      · skip
        have nh_34 := xI_nleD (by omega) (by omega) h_34
        refine e_aload_n C dL_step_37 rfl ?_
        refine e_iconst (v := nI 0) C dL_step_38 (by decide) ?_
        refine f_iald C rfl v21 (by omega) (by decide) dL_step_39 ?_
        refine f_val (y := nI (c)) hS1 ?_
        refine e_goto (tgt := 45) C dL_step_40 (by decide) ?_
        exact f_ir C hX dL_step_45 (by rw [stpz, cif_neg (fun e => e.elim (fun e => nh_3 e) (fun e => h_13 (by rw [g3]; exact e))), eqq, nt_nI (by omega)] <;> (congr 1 <;> omega)) rfl
    · skip
      refine e_iload_n C dL_step_16 rfl ?_
      refine e_goto (tgt := 27) C dL_step_17 (by decide) ?_
      refine f_istore (ls1 := [_, _, _, _, _]) C dL_step_27 (by decide) rfl ?_
      refine e_iload C dL_step_29 rfl ?_
      refine e_aload_n C dL_step_31 rfl ?_
      refine e_iconst (v := nI 0) C dL_step_32 (by decide) ?_
      refine f_iald C rfl v21 (by omega) (by decide) dL_step_33 ?_
      refine f_val (y := nI (c)) hS1 ?_
      refine e_icmp_le (tgt := 43) C dL_step_34 (by decide) (fun h_34 => ?_) (fun h_34 => ?_)
      · skip
        have nh_34 := xI_leD (by omega) (by omega) h_34
        refine e_iload C dL_step_43 rfl ?_
        exact f_ir C hX dL_step_45 (by rw [stpz, cif_pos (Or.inr (by rw [← g3]; exact h_13))] <;> (congr 1 <;> omega)) rfl
      · skip
        have nh_34 := xI_nleD (by omega) (by omega) h_34
        refine e_aload_n C dL_step_37 rfl ?_
        refine e_iconst (v := nI 0) C dL_step_38 (by decide) ?_
        refine f_iald C rfl v21 (by omega) (by decide) dL_step_39 ?_
        refine f_val (y := nI (c)) hS1 ?_
        refine e_goto (tgt := 45) C dL_step_40 (by decide) ?_
        exact f_ir C hX dL_step_45 (by rw [stpz, cif_pos (Or.inr (by rw [← g3]; exact h_13))] <;> (congr 1 <;> omega)) rfl
set_option maxRecDepth 100000 in
set_option maxHeartbeats 4000000 in
theorem lp_L_wait {E : EV} {l : Launch} {X : CX} {mem : MEM} {z : ZZ} {c : Nat} (hZ : LZ mem z c) (hI : GoodC z c) {n : Nat} (hn : n < 4) (ho : sz z n 0 = 1) {q : Nat} (hq : q < 12) {pl : Nat} (hp : isPn z pl) (C : CK E X RL cL_wait 9 (some .int) 3) (hX : EX E X l (Ret (iv (waitg z n (nI q) (nI pl))) mem)) : ∀ (lpn : Nat) (k p : Nat), 67 - k < lpn → (k ≤ 66) → (p = itz z c pl (nt (posz z pl)) k) → (∀ j, j < k → ¬ nedz z n (nI q) ≤ itz z c pl (nt (posz z pl)) j) → G E X 9 12 [rv (17, 0, 0), rv (18, 0, 0), rv (19, 0, 0), rv (21, 0, 0), iv (nI n), iv (nI q), iv (nI pl), iv (nI p), iv (nI k)] [] mem := by
  intro lpn
  induction lpn with
  | zero => intro k p hlpn; exact absurd hlpn (Nat.not_lt_zero _)
  | succ lpn ih =>
    intro k p hlpn hk hv hm
    have hc60 := hZ.c60
    have hpo := posn_le hI.1 hp
    have hp9 := isPn_le hp
    have hpc : p ≤ c := by rw [hv]; exact itz_le hpo
    refine e_iload C dL_wait_12 rfl ?_
    refine e_bipush (v := nI 66) C dL_wait_14 (by decide) ?_
    refine e_icmp_ge (tgt := 53) C dL_wait_16 (by decide) (fun h_16 => ?_) (fun h_16 => ?_)
    · skip
      have nh_16 := xI_leD (by omega) (by omega) h_16
      refine e_bipush (v := -6) C dL_wait_53 (by decide) ?_
      exact f_ir C hX dL_wait_55 ((wg_no hI.1 hc60 (by omega) ho hp (by omega) hm).symm) rfl
    · skip
      have nh_16 := xI_nleD (by omega) (by omega) h_16
      refine e_aload_n C dL_wait_19 rfl ?_
      refine e_aload_n C dL_wait_20 rfl ?_
      refine e_iload C dL_wait_21 rfl ?_
      refine e_iload C dL_wait_23 rfl ?_
      refine e_iload C dL_wait_25 rfl ?_
      refine f_callSr (As := [_, _, _, _, _]) C mi_yL_can b_st_yL_can b_ml_L_26 dL_wait_27 rfl (c_L_can hZ hI hn ho hq (by omega)) (by decide) (Nat.le_of_ble_eq_true rfl) ?_
      refine f_if_eq (tgt := 36) C dL_wait_30 (by decide) (fun h_30 => ?_) (fun h_30 => ?_)
      · skip
        refine e_aload_n C dL_wait_36 rfl ?_
        refine e_aload_n C dL_wait_37 rfl ?_
        refine e_iload C dL_wait_38 rfl ?_
        refine e_iload C dL_wait_40 rfl ?_
        refine f_callSr (As := [_, _, _, _]) C mi_yL_step b_st_yL_step b_ml_L_30 dL_wait_42 rfl (c_L_step (hZ.step hI.1 hp) (by omega)) (by decide) (Nat.le_of_ble_eq_true rfl) ?_
        refine f_istore (ls1 := [_, _, _, _, _, _, _, _, _]) C dL_wait_45 (by decide) rfl ?_
        refine f_iincn (ls1 := [_, _, _, _, _, _, _, _, _]) C dL_wait_47 rfl (by decide) rfl ?_
        refine e_goto (tgt := 12) C dL_wait_50 (by decide) ?_
        exact ih (k + 1) (stpz z c pl p) (by omega) (by omega) (by rw [hv]; exact itz_succ) (fun j hj => by by_cases e : j = k; rw [e, ← hv]; exact h_30; exact hm j (by omega))
      · skip
        refine e_iload C dL_wait_33 rfl ?_
        exact f_ir C hX dL_wait_35 ((wg_yes hI.1 (by omega) ho hp hk (by rw [← hv]; exact h_30) hm).symm) rfl
set_option maxRecDepth 100000 in
set_option maxHeartbeats 4000000 in
theorem c_L_wait {E : EV} {l : Launch} {mem : MEM} {z : ZZ} {c : Nat} (hZ : LZ mem z c) (hI : GoodC z c) {n : Nat} (hn : n < 4) (ho : sz z n 0 = 1) {q : Nat} (hq : q < 12) {pl : Nat} (hp : isPn z pl) : Ct E l yL_wait (me_ws yL_wait cL_wait 9 (some .int)) 3 [rv (17, 0, 0), rv (18, 0, 0), rv (19, 0, 0), rv (21, 0, 0), iv (nI n), iv (nI q), iv (nI pl)] mem (Ret (iv (waitg z n (nI q) (nI pl))) mem) := by
  have hc60 := hZ.c60
  have hpo := posn_le hI.1 hp
  have hp9 := isPn_le hp
  refine Ct.of (RC := RL) (ls0 := [rv (17, 0, 0), rv (18, 0, 0), rv (19, 0, 0), rv (21, 0, 0), iv (nI n), iv (nI q), iv (nI pl), uv, uv]) mi_yL_wait (Nat.le_of_ble_eq_true rfl) rfl (fun X C hX => ?_)
  refine e_aload_n C dL_wait_0 rfl ?_
  refine e_aload_n C dL_wait_1 rfl ?_
  refine e_iload C dL_wait_2 rfl ?_
  refine f_callSr (As := [_, _, _]) C mi_yL_at b_st_yL_at b_ml_L_22 dL_wait_4 rfl (c_L_at (hZ.at' hI.1 hp)) (by decide) (Nat.le_of_ble_eq_true rfl) ?_
  refine f_istore (ls1 := [_, _, _, _, _, _, _, _, _]) C dL_wait_7 (by decide) rfl ?_
  refine e_iconst (v := nI 0) C dL_wait_9 (by decide) ?_
  refine f_istore (ls1 := [_, _, _, _, _, _, _, _, _]) C dL_wait_10 (by decide) rfl ?_
  exact lp_L_wait hZ hI hn ho hq hp C hX 68 0 _ (by omega) (by omega) (itz_0 hpo).symm (fun j hj => absurd hj (Nat.not_lt_zero _))
set_option maxRecDepth 100000 in
set_option maxHeartbeats 4000000 in
theorem lp_L_wrote {E : EV} {l : Launch} {X : CX} {mem : MEM} {z : ZZ} {c : Nat} (hZ : LZ mem z c) {n : Nat} (hn : n < 4) (ho : sz z n 0 = 1) {q : Nat} (hq : q < 12) {b : Nat} (hb : b ≤ c) (ew : ∀ q, q < 12 → sz z n (9 + q) = nI (lastb z n q b c)) (C : CK E X RL cL_wrote 7 (some .int) 1) (hX : EX E X l (Ret (iv (sz z n (9 + q))) mem)) : ∀ (lpn : Nat) (j w : Nat), c - j < lpn → (b ≤ j) → (j ≤ c) → (w = lastb z n q b j) → G E X 7 11 [rv (17, 0, 0), rv (19, 0, 0), rv (21, 0, 0), iv (nI n), iv (nI q), iv (nI w), iv (nI j)] [] mem := by
  intro lpn
  induction lpn with
  | zero => intro j w hlpn; exact absurd hlpn (Nat.not_lt_zero _)
  | succ lpn ih =>
    intro j w hlpn hbj hj hw
    have hc60 := hZ.c60
    have hL := hZ.log
    refine e_iload C dL_wrote_11 rfl ?_
    refine e_aload_n C dL_wrote_13 rfl ?_
    refine e_iconst (v := nI 0) C dL_wrote_14 (by decide) ?_
    refine f_iald C rfl v21 (by omega) (by decide) dL_wrote_15 ?_
    refine f_val (y := nI (c)) hZ.t0 ?_
    refine e_icmp_ge (tgt := 60) C dL_wrote_16 (by decide) (fun h_16 => ?_) (fun h_16 => ?_)
    · skip
      have nh_16 := xI_leD (by omega) (by omega) h_16
      refine e_iload C dL_wrote_60 rfl ?_
      exact f_ir C hX dL_wrote_62 (by rw [ew q hq, hw, show j = c by omega]) rfl
    · skip
      have nh_16 := xI_nleD (by omega) (by omega) h_16
      refine e_aload_n C dL_wrote_19 rfl ?_
      refine e_iload C dL_wrote_20 rfl ?_
      obtain ⟨k, v, u, hk, hv, hu, e1, e2, e3, e4⟩ := hL.2 (j) (by omega)
      refine f_iald C rfl v17 (by omega) (by decide) dL_wrote_22 ?_
      refine f_val (y := nI (k + 12 * v + 12000 * u)) e1 ?_
      refine e_bipush (v := nI 12) C dL_wrote_23 (by decide) ?_
      refine f_iremn C (by omega) (by omega) (by omega) dL_wrote_25 ?_
      refine e_iload C dL_wrote_26 rfl ?_
      refine e_icmp_ne (tgt := 50) C dL_wrote_28 (by decide) (fun h_28 => ?_) (fun h_28 => ?_)
      · skip
        have nh_28 := xI_neD h_28
        refine e_iload C dL_wrote_50 rfl ?_
        refine f_istore (ls1 := [_, _, _, _, _, _, _]) C dL_wrote_52 (by decide) rfl ?_
        refine f_iincn (ls1 := [_, _, _, _, _, _, _]) C dL_wrote_54 rfl (by decide) rfl ?_
        refine e_goto (tgt := 11) C dL_wrote_57 (by decide) ?_
        exact ih (j + 1) w (by omega) (by omega) (by omega) (by rw [lastb, cif_neg (fun e => absurd e.2.1 (by rw [e2]; exact xI_ne (by omega) (by omega) (by omega)))]; exact hw)
      · skip
        have nh_28 := xI_inj (by omega) (by omega) h_28
        refine e_aload_n C dL_wrote_31 rfl ?_
        refine e_iload C dL_wrote_32 rfl ?_
        refine f_iald C rfl v17 (by omega) (by decide) dL_wrote_34 ?_
        refine f_val (y := nI (k + 12 * v + 12000 * u)) e1 ?_
        refine e_sipush (v := nI 12000) C dL_wrote_35 (by decide) ?_
        refine f_idivn C (by omega) (by omega) (by omega) dL_wrote_38 ?_
        refine e_iload_n C dL_wrote_39 rfl ?_
        refine e_icmp_ne (tgt := 50) C dL_wrote_40 (by decide) (fun h_40 => ?_) (fun h_40 => ?_)
        · skip
          have nh_40 := xI_neD h_40
          refine e_iload C dL_wrote_50 rfl ?_
          refine f_istore (ls1 := [_, _, _, _, _, _, _]) C dL_wrote_52 (by decide) rfl ?_
          refine f_iincn (ls1 := [_, _, _, _, _, _, _]) C dL_wrote_54 rfl (by decide) rfl ?_
          refine e_goto (tgt := 11) C dL_wrote_57 (by decide) ?_
          exact ih (j + 1) w (by omega) (by omega) (by omega) (by rw [lastb, cif_neg (fun e => absurd e.2.2 (by rw [e4]; exact xI_ne (by omega) (by omega) (by omega)))]; exact hw)
        · skip
          have nh_40 := xI_inj (by omega) (by omega) h_40
          refine e_iload C dL_wrote_43 rfl ?_
          refine e_iconst (v := nI 1) C dL_wrote_45 (by decide) ?_
          refine f_iaddn C dL_wrote_46 ?_
          refine e_goto (tgt := 52) C dL_wrote_47 (by decide) ?_
          refine f_istore (ls1 := [_, _, _, _, _, _, _]) C dL_wrote_52 (by decide) rfl ?_
          refine f_iincn (ls1 := [_, _, _, _, _, _, _]) C dL_wrote_54 rfl (by decide) rfl ?_
          refine e_goto (tgt := 11) C dL_wrote_57 (by decide) ?_
          exact ih (j + 1) (j + 1) (by omega) (by omega) (by omega) (by rw [lastb, cif_pos ⟨hbj, by rw [e2] <;> (congr 1 <;> omega), by rw [e4] <;> (congr 1 <;> omega)⟩])
set_option maxRecDepth 100000 in
set_option maxHeartbeats 4000000 in
theorem c_L_wrote {E : EV} {l : Launch} {mem : MEM} {z : ZZ} {c : Nat} (hZ : LZ mem z c) {n : Nat} (hn : n < 4) (ho : sz z n 0 = 1) {q : Nat} (hq : q < 12) : Ct E l yL_wrote (me_ws yL_wrote cL_wrote 7 (some .int)) 1 [rv (17, 0, 0), rv (19, 0, 0), rv (21, 0, 0), iv (nI n), iv (nI q)] mem (Ret (iv (sz z n (9 + q))) mem) := by
  have hc60 := hZ.c60
  obtain ⟨b, hb, eb, ew⟩ := hZ.s_wr hn ho
  refine Ct.of (RC := RL) (ls0 := [rv (17, 0, 0), rv (19, 0, 0), rv (21, 0, 0), iv (nI n), iv (nI q), uv, uv]) mi_yL_wrote (Nat.le_of_ble_eq_true rfl) rfl (fun X C hX => ?_)
  refine e_iconst (v := nI 0) C dL_wrote_0 (by decide) ?_
  refine f_istore (ls1 := [_, _, _, _, _, _, _]) C dL_wrote_1 (by decide) rfl ?_
  refine e_aload_n C dL_wrote_3 rfl ?_
  refine e_bipush (v := nI 32) C dL_wrote_4 (by decide) ?_
  refine e_iload_n C dL_wrote_6 rfl ?_
  refine f_iaddn C dL_wrote_7 ?_
  refine f_iald C rfl v19 (by omega) (by decide) dL_wrote_8 ?_
  refine f_val (y := nI (b)) eb ?_
  refine f_istore (ls1 := [_, _, _, _, _, _, _]) C dL_wrote_9 (by decide) rfl ?_
  exact lp_L_wrote hZ hn ho hq hb ew C hX (c + 1) b 0 (by omega) (Nat.le_refl _) hb (lastb_0 b (Nat.le_refl _)).symm
set_option maxRecDepth 100000 in
set_option maxHeartbeats 4000000 in
theorem c_L_isPlace {E : EV} {l : Launch} {mem : MEM} {z : ZZ} {c : Nat} (hZ : LZ mem z c) (hI : GoodC z c) {p : Nat} (hp : p = 9 ∨ p < 5) : Ct E l yL_isPlace (me_ws yL_isPlace cL_isPlace 2 (some .boolean)) 1 [rv (18, 0, 0), iv (nI p)] mem (Ret (iv (b2i (isPn z p))) mem) := by
  refine Ct.of (RC := RL) (ls0 := [rv (18, 0, 0), iv (nI p)]) mi_yL_isPlace (Nat.le_of_ble_eq_true rfl) rfl (fun X C hX => ?_)
  refine e_iload_n C dL_isPlace_0 rfl ?_
  refine e_bipush (v := nI 9) C dL_isPlace_1 (by decide) ?_
  refine e_icmp_eq (tgt := 17) C dL_isPlace_3 (by decide) (fun h_3 => ?_) (fun h_3 => ?_)
  · skip
    have nh_3 := xI_inj (by omega) (by omega) h_3
    refine e_iconst (v := nI 1) C dL_isPlace_17 (by decide) ?_
    refine e_goto (tgt := 22) C dL_isPlace_18 (by decide) ?_
    exact f_zt C hX dL_isPlace_22 (Or.inl nh_3) rfl
  · skip
    have nh_3 := xI_neD h_3
    refine e_iload_n C dL_isPlace_6 rfl ?_
    refine e_iconst (v := nI 5) C dL_isPlace_7 (by decide) ?_
    refine e_icmp_ge (tgt := 21) C dL_isPlace_8 (by decide) (fun h_8 => ?_) (fun h_8 => ?_)
    · skip
      have nh_8 := xI_leD (by omega) (by omega) h_8
      refine e_iconst (v := nI 0) C dL_isPlace_21 (by decide) ?_
      exact absurd (hp.resolve_left nh_3) (by omega)
    · skip
      have nh_8 := xI_nleD (by omega) (by omega) h_8
      refine e_aload_n C dL_isPlace_11 rfl ?_
      refine e_iload_n C dL_isPlace_12 rfl ?_
      refine f_iald C rfl v18 (by omega) (by decide) dL_isPlace_13 ?_
      refine e_if_lt (tgt := 21) C dL_isPlace_14 (by decide) (fun h_14 => ?_) (fun h_14 => ?_)
      · skip
        refine e_iconst (v := nI 0) C dL_isPlace_21 (by decide) ?_
        exact f_zf C hX dL_isPlace_22 (fun r => r.elim nh_3 (fun r => (hZ.r_lt hI.1 (by omega)).mp h_14 r.2)) rfl
      · skip
        refine e_iconst (v := nI 1) C dL_isPlace_17 (by decide) ?_
        refine e_goto (tgt := 22) C dL_isPlace_18 (by decide) ?_
        exact f_zt C hX dL_isPlace_22 (Or.inr ⟨by omega, (hZ.r_ge hI.1 (by omega)).mp (Int32.not_lt.mp h_14)⟩) rfl
set_option maxRecDepth 100000 in
set_option maxHeartbeats 4000000 in
theorem c_L_place {E : EV} {l : Launch} {mem : MEM} {x : Int32} : Ct E l yL_place (me_ws yL_place cL_place 3 (some .int)) 2 [rv (18, 0, 0), iv x] mem ((fun rr mm => ∃ xx : Int32, rr = iv xx ∧ ((∃ p, (p = 9 ∨ p < 5) ∧ xx = nI p) ∧ mm = mem))) := by
  have hl := lowz_lt (x := x) (N := 8) (by decide)
  refine Ct.of (RC := RL) (ls0 := [rv (18, 0, 0), iv x, uv]) mi_yL_place (Nat.le_of_ble_eq_true rfl) rfl (fun X C hX => ?_)
  refine e_iload_n C dL_place_0 rfl ?_
  refine e_bipush (v := nI 8) C dL_place_1 (by decide) ?_
  refine f_callSr (As := [_, _]) C mi_yL_low b_st_yL_low b_ml_L_41 dL_place_3 rfl (c_L_low (by omega) (by omega)) (by decide) (Nat.le_of_ble_eq_true rfl) ?_
  refine f_istore_n (ls1 := [_, _, _]) C dL_place_6 (by decide) rfl ?_
  refine e_iload_n C dL_place_7 rfl ?_
  refine e_iconst (v := nI 4) C dL_place_8 (by decide) ?_
  refine e_icmp_gt (tgt := 28) C dL_place_9 (by decide) (fun h_9 => ?_) (fun h_9 => ?_)
  · skip
    have nh_9 := xI_ltD (by omega) (by omega) h_9
    refine e_bipush (v := nI 9) C dL_place_28 (by decide) ?_
    refine e_goto (tgt := 34) C dL_place_30 (by decide) ?_
    first | exact f_ii C hX dL_place_34 ⟨⟨9, Or.inl rfl, rfl⟩, rfl⟩ | exact f_ii C hX dL_place_34 ⟨⟨lowz x 8, Or.inr (by omega), rfl⟩, rfl⟩
  · skip
    have nh_9 := xI_nltD (by omega) (by omega) h_9
    refine e_aload_n C dL_place_12 rfl ?_
    refine e_iload_n C dL_place_13 rfl ?_
    refine f_iald C rfl v18 (by omega) (by decide) dL_place_14 ?_
    refine e_if_ge (tgt := 33) C dL_place_15 (by decide) (fun h_15 => ?_) (fun h_15 => ?_)
    · skip
      refine e_iload_n C dL_place_33 rfl ?_
      first | exact f_ii C hX dL_place_34 ⟨⟨9, Or.inl rfl, rfl⟩, rfl⟩ | exact f_ii C hX dL_place_34 ⟨⟨lowz x 8, Or.inr (by omega), rfl⟩, rfl⟩
    · skip
      refine e_iload_n C dL_place_18 rfl ?_
      refine e_iconst (v := nI 3) C dL_place_19 (by decide) ?_
      refine e_ishr C dL_place_20 ?_
      refine e_iconst (v := nI 4) C dL_place_21 (by decide) ?_
      refine f_callSr (As := [_, _]) C mi_yL_low b_st_yL_low b_ml_L_41 dL_place_22 rfl (c_L_low (by omega) (by omega)) (by decide) (Nat.le_of_ble_eq_true rfl) ?_
      refine e_if_le (tgt := 33) C dL_place_25 (by decide) (fun h_25 => ?_) (fun h_25 => ?_)
      · skip
        refine e_iload_n C dL_place_33 rfl ?_
        first | exact f_ii C hX dL_place_34 ⟨⟨9, Or.inl rfl, rfl⟩, rfl⟩ | exact f_ii C hX dL_place_34 ⟨⟨lowz x 8, Or.inr (by omega), rfl⟩, rfl⟩
      · skip
        refine e_bipush (v := nI 9) C dL_place_28 (by decide) ?_
        refine e_goto (tgt := 34) C dL_place_30 (by decide) ?_
        first | exact f_ii C hX dL_place_34 ⟨⟨9, Or.inl rfl, rfl⟩, rfl⟩ | exact f_ii C hX dL_place_34 ⟨⟨lowz x 8, Or.inr (by omega), rfl⟩, rfl⟩
def PIn (mem : MEM) (z : ZZ) (c k n : Nat) (m : MEM) : Prop := (∀ id, id ≠ (18, 0, 0) → m id = mem id) ∧ (∀ j, 5 ≤ j → m (18, 0, 0) j = mem (18, 0, 0) j) ∧ ∀ i, i < 5 → m (18, 0, 0) i = pv z c i (if i < n then k + 1 else k)
theorem PIn.at0 {mem m : MEM} {z : ZZ} {c k n : Nat} (h : PIn mem z c k n m) (hn : n < 5) : m (18, 0, 0) n = pv z c n k := by
  have := h.2.2 n hn
  rwa [if_neg (Nat.lt_irrefl _)] at this
theorem PIn.next {mem m : MEM} {z : ZZ} {c k n : Nat} (h : PIn mem z c k n m) (hn : n < 5) {v : Int32} (hv : v = pv z c n (k + 1)) : PIn mem z c k (n + 1) (up m (18, 0, 0) n v) := by
  refine ⟨fun id hid => (up_o hid).trans (h.1 id hid), fun j hj => ?_, fun i hi => ?_⟩
  · rw [up_s, if_neg (by omega)]; exact h.2.1 j hj
  · rw [up_s]
    by_cases e : i = n
    · rw [if_pos e, e, if_pos (by omega)]; exact hv
    · rw [if_neg e, h.2.2 i hi]
      by_cases e2 : i < n
      · rw [if_pos e2, if_pos (by omega)]
      · rw [if_neg e2, if_neg (by omega)]
theorem PIn.done {mem m : MEM} {z : ZZ} {c k : Nat} (h : PIn mem z c k 5 m) : PIn mem z c (k + 1) 0 m := by
  refine ⟨h.1, h.2.1, fun i hi => ?_⟩
  rw [h.2.2 i hi, if_pos hi, if_neg (Nat.not_lt_zero _)]
theorem PIn.start {mem : MEM} {z : ZZ} {c : Nat} (hZ : LZ mem z c) (hI : Inv z c) : PIn mem z c 0 0 mem := by
  refine ⟨fun _ _ => rfl, fun _ _ => rfl, fun i hi => ?_⟩
  rw [if_neg (Nat.not_lt_zero _)]
  unfold pv
  by_cases ho : rz z i 0 = 1
  · rw [cif_pos ho, itz_0 (posn_le hI (Or.inr ⟨hi, ho⟩)), ← posz_n hI (Or.inr ⟨hi, ho⟩), hZ.r_pos hi ho, posz_r hi]
  · rw [cif_neg ho]; exact hZ.r_no hi ho
theorem PIn.step {mem m : MEM} {z : ZZ} {c k n : Nat} (h : PIn mem z c k n m) (hZ : LZ mem z c) (hI : Inv z c) (hn : n < 5) (ho : rz z n 0 = 1) : LStep m z c n := by
  have g := hZ.step hI (Or.inr ⟨hn, ho⟩)
  obtain ⟨g1, g2, g3⟩ := g
  obtain ⟨a1, a2, a3, a4⟩ := g3.resolve_left (by omega)
  exact ⟨by rw [h.1 _ (by decide)]; exact g1, g2, Or.inr ⟨a1, by rw [h.2.1 _ (by omega)]; exact a2, by rw [h.2.1 _ (by omega)]; exact a3, a4⟩⟩
theorem pv_lt {z : ZZ} {c n k : Nat} (hc : c ≤ 60) (hI : Inv z c) (hn : n < 5) : pv z c n k < 0 ↔ ¬ rz z n 0 = 1 := by
  unfold pv
  by_cases ho : rz z n 0 = 1
  · rw [cif_pos ho]
    have := itz_le (z := z) (pl := n) (T := k) (posn_le hI (Or.inr ⟨hn, ho⟩))
    exact ⟨fun q => absurd q (xI_nlt0 (by omega)), fun q => absurd ho q⟩
  · rw [cif_neg ho]
    exact ⟨fun _ => ho, fun _ => by decide⟩
theorem pv_yes {z : ZZ} {c n k : Nat} (ho : rz z n 0 = 1) : pv z c n k = nI (itz z c n (nt (posz z n)) k) := cif_pos ho
theorem pv_no {z : ZZ} {c n k : Nat} (ho : ¬ rz z n 0 = 1) : pv z c n k = -1 := cif_neg ho
set_option maxRecDepth 100000 in
set_option maxHeartbeats 4000000 in
theorem lp_L_pass2 {E : EV} {l : Launch} {X : CX} {mem : MEM} {z : ZZ} {c : Nat} (hZ : LZ mem z c) (hI : GoodC z c) {T : Nat} (hT : T ≤ 99) {k : Nat} (hk : k < T) (ka : ∀ m, PIn mem z c (k + 1) 0 m → G E X 5 51 [rv (18, 0, 0), rv (21, 0, 0), iv (nI T), iv (nI k), iv (nI 5)] [] m) (C : CK E X RL cL_pass 5 none 2) (hX : EX E X l ((fun rr mm => rr = uv ∧ (LZ mm (tck z (nI T) 5) c ∧ ∀ id, id ≠ (18, 0, 0) → mm id = mem id)))) : ∀ (lpn : Nat) (n : Nat) (m : MEM), 5 - n < lpn → (n ≤ 5) → (PIn mem z c k n m) → G E X 5 10 [rv (18, 0, 0), rv (21, 0, 0), iv (nI T), iv (nI k), iv (nI n)] [] m := by
  intro lpn
  induction lpn with
  | zero => intro n m hlpn; exact absurd hlpn (Nat.not_lt_zero _)
  | succ lpn ih =>
    intro n m hlpn hn hm
    have hc60 := hZ.c60
    refine e_iload C dL_pass_10 rfl ?_
    refine e_iconst (v := nI 5) C dL_pass_12 (by decide) ?_
    refine e_icmp_ge (tgt := 51) C dL_pass_13 (by decide) (fun h_13 => ?_) (fun h_13 => ?_)
    · skip
      have nh_13 := xI_leD (by omega) (by omega) h_13
      obtain rfl : n = 5 := by omega
      exact ka m hm.done
    · skip
      have nh_13 := xI_nleD (by omega) (by omega) h_13
      refine e_aload_n C dL_pass_16 rfl ?_
      refine e_iload C dL_pass_17 rfl ?_
      refine e_aload_n C dL_pass_19 rfl ?_
      refine e_iload C dL_pass_20 rfl ?_
      refine f_iald C rfl v18 (by omega) (by decide) dL_pass_22 ?_
      refine e_if_ge (tgt := 33) C dL_pass_23 (by decide) (fun h_23 => ?_) (fun h_23 => ?_)
      · skip
        rw [hm.at0 (by omega)] at h_23
        have hor : rz z n 0 = 1 := Classical.byContradiction fun q => by
          have := (pv_lt (k := k) hc60 hI.1 (by omega)).mpr q
          exact absurd this (Int32.not_lt.mpr h_23)
        have hpo := posn_le hI.1 (Or.inr ⟨(by omega : n < 5), hor⟩)
        have hit := itz_le (z := z) (pl := n) (T := k) hpo
        refine e_aload_n C dL_pass_33 rfl ?_
        refine e_aload_n C dL_pass_34 rfl ?_
        refine e_iload C dL_pass_35 rfl ?_
        refine e_aload_n C dL_pass_37 rfl ?_
        refine e_iload C dL_pass_38 rfl ?_
        refine f_iald C rfl v18 (by omega) (by decide) dL_pass_40 ?_
        refine f_val (y := nI (itz z c n (nt (posz z n)) k)) (by rw [hm.at0 (by omega)]; exact pv_yes hor) ?_
        refine f_callSr (As := [_, _, _, _]) C mi_yL_step b_st_yL_step b_ml_L_30 dL_pass_41 rfl (c_L_step (hm.step hZ hI.1 (by omega) hor) hit) (by decide) (Nat.le_of_ble_eq_true rfl) ?_
        refine f_iast C rfl v18 (by omega) (by decide) dL_pass_44 ?_
        refine f_iincn (ls1 := [_, _, _, _, _]) C dL_pass_45 rfl (by decide) rfl ?_
        refine e_goto (tgt := 10) C dL_pass_48 (by decide) ?_
        exact ih (n + 1) _ (by omega) (by omega) (hm.next (by omega) (by rw [pv_yes hor, itz_succ]))
      · skip
        rw [hm.at0 (by omega)] at h_23
        have hor : ¬ rz z n 0 = 1 := (pv_lt (k := k) hc60 hI.1 (by omega)).mp (Int32.not_le.mp h_23)
        refine e_aload_n C dL_pass_26 rfl ?_
        refine e_iload C dL_pass_27 rfl ?_
        refine f_iald C rfl v18 (by omega) (by decide) dL_pass_29 ?_
        refine e_goto (tgt := 44) C dL_pass_30 (by decide) ?_
        refine f_iast C rfl v18 (by omega) (by decide) dL_pass_44 ?_
        refine f_iincn (ls1 := [_, _, _, _, _]) C dL_pass_45 rfl (by decide) rfl ?_
        refine e_goto (tgt := 10) C dL_pass_48 (by decide) ?_
        exact ih (n + 1) _ (by omega) (by omega) (hm.next (by omega) (by rw [hm.at0 (by omega), pv_no hor, pv_no hor]))
set_option maxRecDepth 100000 in
set_option maxHeartbeats 4000000 in
theorem lp_L_pass {E : EV} {l : Launch} {X : CX} {mem : MEM} {z : ZZ} {c : Nat} (hZ : LZ mem z c) (hI : GoodC z c) {T : Nat} (hT : T ≤ 99) (C : CK E X RL cL_pass 5 none 2) (hX : EX E X l ((fun rr mm => rr = uv ∧ (LZ mm (tck z (nI T) 5) c ∧ ∀ id, id ≠ (18, 0, 0) → mm id = mem id)))) : ∀ (lpn : Nat) (k : Nat) (m : MEM) (x4 : VV), T - k < lpn → (k ≤ T) → (PIn mem z c k 0 m) → G E X 5 2 [rv (18, 0, 0), rv (21, 0, 0), iv (nI T), iv (nI k), x4] [] m := by
  intro lpn
  induction lpn with
  | zero => intro k m x4 hlpn; exact absurd hlpn (Nat.not_lt_zero _)
  | succ lpn ih =>
    intro k m x4 hlpn hk hm
    have hc60 := hZ.c60
    refine e_iload_n C dL_pass_2 rfl ?_
    refine e_iload_n C dL_pass_3 rfl ?_
    refine e_icmp_ge (tgt := 57) C dL_pass_4 (by decide) (fun h_4 => ?_) (fun h_4 => ?_)
    · skip
      have nh_4 := xI_leD (by omega) (by omega) h_4
      obtain rfl : k = T := by omega
      exact f_vu C hX dL_pass_57 ⟨hZ.tck hI.1 hT hm.1 hm.2.1 (fun i hi => by rw [hm.2.2 i hi, if_neg (Nat.not_lt_zero _)]), hm.1⟩
    · skip
      have nh_4 := xI_nleD (by omega) (by omega) h_4
      refine e_iconst (v := nI 0) C dL_pass_7 (by decide) ?_
      refine f_istore (ls1 := [_, _, _, _, _]) C dL_pass_8 (by decide) rfl ?_
      refine lp_L_pass2 hZ hI hT (k := k) (by omega) (fun m2 hm2 => ?_) C hX 6 0 m (by omega) (by omega) hm
      refine f_iincn (ls1 := [_, _, _, _, _]) C dL_pass_51 rfl (by decide) rfl ?_
      refine e_goto (tgt := 2) C dL_pass_54 (by decide) ?_
      exact ih (k + 1) m2 _ (by omega) (by omega) hm2
set_option maxRecDepth 100000 in
set_option maxHeartbeats 4000000 in
theorem c_L_pass {E : EV} {l : Launch} {mem : MEM} {z : ZZ} {c : Nat} (hZ : LZ mem z c) (hI : GoodC z c) {T : Nat} (hT : T ≤ 99) : Ct E l yL_pass (me_ws yL_pass cL_pass 5 none) 2 [rv (18, 0, 0), rv (21, 0, 0), iv (nI T)] mem ((fun rr mm => rr = uv ∧ (LZ mm (tck z (nI T) 5) c ∧ ∀ id, id ≠ (18, 0, 0) → mm id = mem id))) := by
  refine Ct.of (RC := RL) (ls0 := [rv (18, 0, 0), rv (21, 0, 0), iv (nI T), uv, uv]) mi_yL_pass (Nat.le_of_ble_eq_true rfl) rfl (fun X C hX => ?_)
  refine e_iconst (v := nI 0) C dL_pass_0 (by decide) ?_
  refine f_istore_n (ls1 := [_, _, _, _, _]) C dL_pass_1 (by decide) rfl ?_
  exact lp_L_pass hZ hI hT C hX (T + 1) 0 mem _ (by omega) (by omega) (PIn.start hZ hI.1)
