/-! ===== the constructors' bodies ===== -/
theorem GK.to {E : EV} {b : Nat} {X : CX} {c c' s s' nL pc k k' n n' : Nat} {ls st : List VV} (h : GK E b X c s nL pc ls st k n) (h1 : c = c') (h2 : s = s') (h3 : k = k') (h4 : n = n') : GK E b X c' s' nL pc ls st k' n' := by
  subst h1; subst h2; subst h3; subst h4; exact h
theorem nstep_0 {n : Nat} {id : ID} {j : Nat} (h : ntk id.1 j = false) : nstep n n id j := Or.inl ⟨rfl, h⟩
theorem nstep_1 {n : Nat} {id : ID} {j : Nat} (h : ntk id.1 j = true) (h2 : tmk id j = n) : nstep n (n + 1) id j := Or.inr ⟨rfl, h, h2⟩
theorem sv2_0 {E : EV} {n : Nat} {id : ID} {j : Nat} {x : Value} (hx : x = df id j) (h : ntk id.1 j = false) : x = sv2 E n id j := hx.trans (sv2_df (fun q => absurd (h.symm.trans q) (by decide))).symm
theorem sv2_1 {E : EV} {n : Nat} {id : ID} {j : Nat} {x : Value} (hx : x = me_sv E M0 id j) (h : ntk id.1 j = true) (h2 : tmk id j = n) : x = sv2 E (n + 1) id j := by
  unfold sv2
  rw [if_pos (dn_yes h (by omega))]
  exact hx
theorem ge_1 {k i j : Nat} : tbk k + 3 ≤ tmk (1, k, i) j := by
  show tbk k + 3 ≤ (match j with | 0 => tbk k + 3 | 1 => tbk k + 4 | 2 => tbk k + 5 | _ => tbk k + 6)
  split <;> omega
theorem ge_2 {k i j : Nat} : tbk k ≤ tmk (2, k, i) j := by
  show tbk k ≤ (match j with | 1 => tbk k | 2 => tbk k + 1 | _ => tbk k + 2)
  split <;> omega
theorem ge_9 {k i j : Nat} : tbk k + 12 + 4 * i ≤ tmk (9, k, i) j := by
  show tbk k + 12 + 4 * i ≤ (match j with | 1 => tbk k + 12 + 4 * i | 9 => tbk k + 13 + 4 * i | _ => tbk k + 14 + 4 * i)
  split <;> omega
theorem ge_14 {k i j : Nat} : 362 ≤ tmk (14, k, i) j := by
  show 362 ≤ (match j with | 0 => 362 | _ => 363)
  split <;> omega
theorem sbk_s (i : Nat) : sbk (i + 2) + 36 = sbk (i + 1 + 2) := by
  unfold sbk
  rw [if_neg (by omega), if_neg (by omega)]
  omega
theorem tbk_s (i : Nat) : tbk (i + 2) + 45 = tbk (i + 1 + 2) := by
  unfold tbk
  rw [if_neg (by omega), if_neg (by omega)]
  omega
theorem df_0 {k i : Nat} : ∀ j, j < 3 → defaultValue (tyX0 j) = df (12, k, i) j := by
  intro j hj
  match j, hj with
  | 0, _ => rfl
  | 1, _ => rfl
  | 2, _ => rfl
theorem df_1 {k i : Nat} : ∀ j, j < 4 → defaultValue (tyX1 j) = df (2, k, i) j := by
  intro j hj
  match j, hj with
  | 0, _ => rfl
  | 1, _ => rfl
  | 2, _ => rfl
  | 3, _ => rfl
theorem df_2 {k i : Nat} : ∀ j, j < 5 → defaultValue (tyX2 j) = df (8, k, i) j := by
  intro j hj
  match j, hj with
  | 0, _ => rfl
  | 1, _ => rfl
  | 2, _ => rfl
  | 3, _ => rfl
  | 4, _ => rfl
theorem df_3 {k i : Nat} : ∀ j, j < 11 → defaultValue (tyX3 j) = df (9, k, i) j := by
  intro j hj
  match j, hj with
  | 0, _ => rfl
  | 1, _ => rfl
  | 2, _ => rfl
  | 3, _ => rfl
  | 4, _ => rfl
  | 5, _ => rfl
  | 6, _ => rfl
  | 7, _ => rfl
  | 8, _ => rfl
  | 9, _ => rfl
  | 10, _ => rfl
theorem df_4 {k i : Nat} : ∀ j, j < 7 → defaultValue (tyX4 j) = df (1, k, i) j := by
  intro j hj
  match j, hj with
  | 0, _ => rfl
  | 1, _ => rfl
  | 2, _ => rfl
  | 3, _ => rfl
  | 4, _ => rfl
  | 5, _ => rfl
  | 6, _ => rfl
theorem df_5 {k i : Nat} : ∀ j, j < 6 → defaultValue (tyX5 j) = df (14, k, i) j := by
  intro j hj
  match j, hj with
  | 0, _ => rfl
  | 1, _ => rfl
  | 2, _ => rfl
  | 3, _ => rfl
  | 4, _ => rfl
  | 5, _ => rfl
theorem df_6 {k i : Nat} : ∀ j, j < 5 → defaultValue (tyX6 j) = df (0, k, i) j := by
  intro j hj
  match j, hj with
  | 0, _ => rfl
  | 1, _ => rfl
  | 2, _ => rfl
  | 3, _ => rfl
  | 4, _ => rfl
theorem ct_X1 {E : EV} {b : Nat} (l : Launch) {kk : Nat} (hk : kk < 8) : CtK E b l yX1_init (me_ws yX1_init cX1_init 1 none) 1 (2, kk, 0) (sbk kk + 2) (tbk kk) (sbk kk + 5) (tbk kk + 3) 3 600 := by
  refine CtK.of mi_yX1_init rfl (by decide) rfl ?_
  intro X C K hI hX hl
  refine k_aload_n C dX1_init_0 rfl ?_
  refine k_obj C b_ml_X1_3 dX1_init_1 (by decide) (Nat.le_of_ble_eq_true rfl) ?_
  refine k_aload_n C dX1_init_4 rfl ?_
  refine k_iconst (v := nI 0) C dX1_init_5 (by decide) ?_
  refine k_puti C K (ci := 1) 0 rfl rfl rfl (by decide) b_X1 rfl b_fl_X1_9 (v2 hk) (by simp only [offs]; omega)  _ tyX1 tyX1_ok nmX1 rfl rfl rfl (nstep_0 rfl) (sv2_0 rfl rfl) dX1_init_6 ?_
  refine k_aload_n C dX1_init_9 rfl ?_
  refine k_sipush (v := nI 200) C dX1_init_10 (by decide) ?_
  refine k_newaI C K (3, kk, 0) (nn := 200) rfl (v3 hk) (by first | rfl | (simp only [offs]; omega)) (fun _ hj => absurd hj Bool.false_ne_true) (by decide) (by decide) (by decide) dX1_init_13 (by omega) (by omega) ?_
  refine k_putr C K (ci := 1) 1 rfl rfl rfl (by decide) b_X1 rfl b_fl_X1_15 (v2 hk) (by simp only [offs]; omega) rfl hI _ tyX1 tyX1_ok nmX1 rfl rfl rfl (nstep_1 rfl (by first | rfl | (simp only [tmk]; omega))) (sv2_1 rfl rfl (by first | rfl | (simp only [tmk]; omega))) dX1_init_15 ?_
  refine k_aload_n C dX1_init_18 rfl ?_
  refine k_sipush (v := nI 200) C dX1_init_19 (by decide) ?_
  refine k_newaI C K (4, kk, 0) (nn := 200) rfl (v4 hk) (by first | rfl | (simp only [offs]; omega)) (fun _ hj => absurd hj Bool.false_ne_true) (by decide) (by decide) (by decide) dX1_init_22 (by omega) (by omega) ?_
  refine k_putr C K (ci := 1) 2 rfl rfl rfl (by decide) b_X1 rfl b_fl_X1_19 (v2 hk) (by simp only [offs]; omega) rfl hI _ tyX1 tyX1_ok nmX1 rfl rfl rfl (nstep_1 rfl (by first | rfl | (simp only [tmk]; omega))) (sv2_1 rfl rfl (by first | rfl | (simp only [tmk]; omega))) dX1_init_24 ?_
  refine k_aload_n C dX1_init_27 rfl ?_
  refine k_sipush (v := nI 200) C dX1_init_28 (by decide) ?_
  refine k_newaI C K (5, kk, 0) (nn := 200) rfl (v5 hk) (by first | rfl | (simp only [offs]; omega)) (fun _ hj => absurd hj Bool.false_ne_true) (by decide) (by decide) (by decide) dX1_init_31 (by omega) (by omega) ?_
  refine k_putr C K (ci := 1) 3 rfl rfl rfl (by decide) b_X1 rfl b_fl_X1_22 (v2 hk) (by simp only [offs]; omega) rfl hI _ tyX1 tyX1_ok nmX1 rfl rfl rfl (nstep_1 rfl (by first | rfl | (simp only [tmk]; omega))) (sv2_1 rfl rfl (by first | rfl | (simp only [tmk]; omega))) dX1_init_33 ?_
  exact GK.to (k_vret C hX dX1_init_36) (by omega) (by omega) (by omega) (by omega)
theorem ct_X2 {E : EV} {b : Nat} (l : Launch) {kk i k n : Nat} (hk : kk < 8) (hi : i < 5) (ho : offs (8, kk, i) < k) : CtK E b l yX2_init (me_ws yX2_init cX2_init 1 none) 1 (8, kk, i) k n k n 0 0 := by
  refine CtK.of mi_yX2_init rfl (by decide) rfl ?_
  intro X C K hI hX hl
  refine k_aload_n C dX2_init_0 rfl ?_
  refine k_obj C b_ml_X2_3 dX2_init_1 (by decide) (Nat.le_of_ble_eq_true rfl) ?_
  refine k_aload_n C dX2_init_4 rfl ?_
  refine k_iconst (v := nI 0) C dX2_init_5 (by decide) ?_
  refine k_puti C K (ci := 2) 0 rfl rfl rfl (by decide) b_X2 rfl b_fl_X2_9 (v8 hk hi) ho  _ tyX2 tyX2_ok nmX2 rfl rfl rfl (nstep_0 rfl) (sv2_0 rfl rfl) dX2_init_6 ?_
  refine k_aload_n C dX2_init_9 rfl ?_
  refine k_iconst (v := nI 0) C dX2_init_10 (by decide) ?_
  refine k_puti C K (ci := 2) 1 rfl rfl rfl (by decide) b_X2 rfl b_fl_X2_15 (v8 hk hi) ho  _ tyX2 tyX2_ok nmX2 rfl rfl rfl (nstep_0 rfl) (sv2_0 rfl rfl) dX2_init_11 ?_
  refine k_aload_n C dX2_init_14 rfl ?_
  refine k_iconst (v := nI 0) C dX2_init_15 (by decide) ?_
  refine k_puti C K (ci := 2) 2 rfl rfl rfl (by decide) b_X2 rfl b_fl_X2_19 (v8 hk hi) ho  _ tyX2 tyX2_ok nmX2 rfl rfl rfl (nstep_0 rfl) (sv2_0 rfl rfl) dX2_init_16 ?_
  refine k_aload_n C dX2_init_19 rfl ?_
  refine k_iconst (v := nI 0) C dX2_init_20 (by decide) ?_
  refine k_puti C K (ci := 2) 3 rfl rfl rfl (by decide) b_X2 rfl b_fl_X2_22 (v8 hk hi) ho  _ tyX2 tyX2_ok nmX2 rfl rfl rfl (nstep_0 rfl) (sv2_0 rfl rfl) dX2_init_21 ?_
  refine k_aload_n C dX2_init_24 rfl ?_
  refine k_iconst (v := nI 0) C dX2_init_25 (by decide) ?_
  refine k_puti C K (ci := 2) 4 rfl rfl rfl (by decide) b_X2 rfl b_fl_X2_25 (v8 hk hi) ho  _ tyX2 tyX2_ok nmX2 rfl rfl rfl (nstep_0 rfl) (sv2_0 rfl rfl) dX2_init_26 ?_
  exact GK.to (k_vret C hX dX2_init_29) (by omega) (by omega) (by omega) (by omega)
theorem ct_X3 {E : EV} {b : Nat} (l : Launch) {kk i : Nat} (hk : kk < 8) (hi : i < 8) : CtK E b l yX3_init (me_ws yX3_init cX3_init 1 none) 1 (9, kk, i) (sbk kk + 12 + 3 * i + 1) (tbk kk + 12 + 4 * i) (sbk kk + 12 + 3 * i + 3) (tbk kk + 12 + 4 * i + 3) 2 24 := by
  refine CtK.of mi_yX3_init rfl (by decide) rfl ?_
  intro X C K hI hX hl
  refine k_aload_n C dX3_init_0 rfl ?_
  refine k_obj C b_ml_X3_3 dX3_init_1 (by decide) (Nat.le_of_ble_eq_true rfl) ?_
  refine k_aload_n C dX3_init_4 rfl ?_
  refine k_iconst (v := nI 0) C dX3_init_5 (by decide) ?_
  refine k_puti C K (ci := 3) 0 rfl rfl rfl (by decide) b_X3 rfl b_fl_X3_9 (v9 hk hi) (by simp only [offs]; omega)  _ tyX3 tyX3_ok nmX3 rfl rfl rfl (nstep_0 rfl) (sv2_0 rfl rfl) dX3_init_6 ?_
  refine k_aload_n C dX3_init_9 rfl ?_
  refine k_bipush (v := nI 9) C dX3_init_10 (by decide) ?_
  refine k_puti C K (ci := 3) 1 rfl rfl rfl (by decide) b_X3 rfl b_fl_X3_15 (v9 hk hi) (by simp only [offs]; omega)  _ tyX3 tyX3_ok nmX3 rfl rfl rfl (nstep_1 rfl (by first | rfl | (simp only [tmk]; omega))) (sv2_1 rfl rfl (by first | rfl | (simp only [tmk]; omega))) dX3_init_12 ?_
  refine k_aload_n C dX3_init_15 rfl ?_
  refine k_iconst (v := nI 0) C dX3_init_16 (by decide) ?_
  refine k_puti C K (ci := 3) 2 rfl rfl rfl (by decide) b_X3 rfl b_fl_X3_19 (v9 hk hi) (by simp only [offs]; omega)  _ tyX3 tyX3_ok nmX3 rfl rfl rfl (nstep_0 rfl) (sv2_0 rfl rfl) dX3_init_17 ?_
  refine k_aload_n C dX3_init_20 rfl ?_
  refine k_iconst (v := nI 0) C dX3_init_21 (by decide) ?_
  refine k_puti C K (ci := 3) 3 rfl rfl rfl (by decide) b_X3 rfl b_fl_X3_22 (v9 hk hi) (by simp only [offs]; omega)  _ tyX3 tyX3_ok nmX3 rfl rfl rfl (nstep_0 rfl) (sv2_0 rfl rfl) dX3_init_22 ?_
  refine k_aload_n C dX3_init_25 rfl ?_
  refine k_iconst (v := nI 0) C dX3_init_26 (by decide) ?_
  refine k_puti C K (ci := 3) 4 rfl rfl rfl (by decide) b_X3 rfl b_fl_X3_25 (v9 hk hi) (by simp only [offs]; omega)  _ tyX3 tyX3_ok nmX3 rfl rfl rfl (nstep_0 rfl) (sv2_0 rfl rfl) dX3_init_27 ?_
  refine k_aload_n C dX3_init_30 rfl ?_
  refine k_iconst (v := nI 0) C dX3_init_31 (by decide) ?_
  refine k_puti C K (ci := 3) 5 rfl rfl rfl (by decide) b_X3 rfl b_fl_X3_28 (v9 hk hi) (by simp only [offs]; omega)  _ tyX3 tyX3_ok nmX3 rfl rfl rfl (nstep_0 rfl) (sv2_0 rfl rfl) dX3_init_32 ?_
  refine k_aload_n C dX3_init_35 rfl ?_
  refine k_iconst (v := nI 0) C dX3_init_36 (by decide) ?_
  refine k_puti C K (ci := 3) 6 rfl rfl rfl (by decide) b_X3 rfl b_fl_X3_31 (v9 hk hi) (by simp only [offs]; omega)  _ tyX3 tyX3_ok nmX3 rfl rfl rfl (nstep_0 rfl) (sv2_0 rfl rfl) dX3_init_37 ?_
  refine k_aload_n C dX3_init_40 rfl ?_
  refine k_iconst (v := nI 0) C dX3_init_41 (by decide) ?_
  refine k_puti C K (ci := 3) 7 rfl rfl rfl (by decide) b_X3 rfl b_fl_X3_34 (v9 hk hi) (by simp only [offs]; omega)  _ tyX3 tyX3_ok nmX3 rfl rfl rfl (nstep_0 rfl) (sv2_0 rfl rfl) dX3_init_42 ?_
  refine k_aload_n C dX3_init_45 rfl ?_
  refine k_iconst (v := nI 0) C dX3_init_46 (by decide) ?_
  refine k_puti C K (ci := 3) 8 rfl rfl rfl (by decide) b_X3 rfl b_fl_X3_37 (v9 hk hi) (by simp only [offs]; omega)  _ tyX3 tyX3_ok nmX3 rfl rfl rfl (nstep_0 rfl) (sv2_0 rfl rfl) dX3_init_47 ?_
  refine k_aload_n C dX3_init_50 rfl ?_
  refine k_bipush (v := nI 12) C dX3_init_51 (by decide) ?_
  refine k_newaI C K (10, kk, i) (nn := 12) rfl (v10 hk hi) (by first | rfl | (simp only [offs]; omega)) (fun _ hj => absurd hj Bool.false_ne_true) (by decide) (by decide) (by decide) dX3_init_53 (by omega) (by omega) ?_
  refine k_putr C K (ci := 3) 9 rfl rfl rfl (by decide) b_X3 rfl b_fl_X3_40 (v9 hk hi) (by simp only [offs]; omega) rfl hI _ tyX3 tyX3_ok nmX3 rfl rfl rfl (nstep_1 rfl (by first | rfl | (simp only [tmk]; omega))) (sv2_1 rfl rfl (by first | rfl | (simp only [tmk]; omega))) dX3_init_55 ?_
  refine k_aload_n C dX3_init_58 rfl ?_
  refine k_bipush (v := nI 12) C dX3_init_59 (by decide) ?_
  refine k_newaI C K (11, kk, i) (nn := 12) rfl (v11 hk hi) (by first | rfl | (simp only [offs]; omega)) (fun _ hj => absurd hj Bool.false_ne_true) (by decide) (by decide) (by decide) dX3_init_61 (by omega) (by omega) ?_
  refine k_putr C K (ci := 3) 10 rfl rfl rfl (by decide) b_X3 rfl b_fl_X3_44 (v9 hk hi) (by simp only [offs]; omega) rfl hI _ tyX3 tyX3_ok nmX3 rfl rfl rfl (nstep_1 rfl (by first | rfl | (simp only [tmk]; omega))) (sv2_1 rfl rfl (by first | rfl | (simp only [tmk]; omega))) dX3_init_63 ?_
  exact GK.to (k_vret C hX dX3_init_66) (by omega) (by omega) (by omega) (by omega)
theorem ct_X4 {E : EV} {b : Nat} (l : Launch) {kk : Nat} (hk : kk < 8) : CtK E b l yX4_init (me_ws yX4_init cX4_init 2 none) 2 (1, kk, 0) (sbk kk + 1) (tbk kk) (sbk kk + 36) (tbk kk + 44) 35 922 := by
  refine CtK.of mi_yX4_init rfl (by decide) rfl ?_
  intro X C K hI hX hl
  have L2 : ∀ d i, i + d = 8 → GK E b X (11 + 3 * i) (642 + 35 * i) 2 81 [rv (1, kk, 0), iv (nI i)] [] (sbk kk + 12 + 3 * i) (tbk kk + 12 + 4 * i) := by
    intro d
    induction d with
    | zero =>
      intro i hi
      obtain rfl : i = 8 := by omega
      refine k_iload_n C dX4_init_81 rfl ?_
      refine k_bipush (v := nI 8) C dX4_init_82 (by decide) ?_
      refine k_icmp_ge (tgt := 106) C dX4_init_84 (by decide) (fun q => ?_) (fun q => ?_)
      · skip
        exact GK.to (k_vret C hX dX4_init_106) (by omega) (by omega) (by omega) (by omega)
      · exact absurd (Int32.le_refl _) q
    | succ d ih =>
      intro i hi
      refine k_iload_n C dX4_init_81 rfl ?_
      refine k_bipush (v := nI 8) C dX4_init_82 (by decide) ?_
      refine k_icmp_ge (tgt := 106) C dX4_init_84 (by decide) (fun q => ?_) (fun q => ?_)
      · exact absurd (xI_leD (by decide) (by omega) q) (by omega)
      · skip
        have hi8 : i < 8 := by omega
        refine k_aload_n C dX4_init_87 rfl ?_
        refine k_getr C (ci := 4) 2 rfl rfl rfl (by decide) b_X4 rfl b_fl_X4_26 (v1 hk) (by simp only [offs]; omega) rfl rfl (by simp only [tmk]; omega) dX4_init_88 ?_
        refine k_iload_n C dX4_init_91 rfl ?_
        refine k_new C K (ci := 3) (9, kk, i) rfl rfl rfl b_X3 tyX3 tyX3_ok df_3 b_cl_X4_24 b_is_X3 b_in_X3 (v9 hk hi8) (by first | rfl | (simp only [offs]; omega)) (fun _ _ => ge_9) dX4_init_92 (by omega) (by omega) ?_
        refine k_dup C dX4_init_95 ?_
        refine k_callIN C K mi_yX3_init rfl b_in_yX3_init (List.mem_of_getElem? (i := 2) rfl) dX4_init_96 (ct_X3 X.2.1 hk hi8) (by decide) (Nat.le_of_ble_eq_true rfl) (by omega) (by omega) ?_
        refine k_aast C K (ty := 3) (nn := 8) (ci := 3) rfl (by decide) rfl (v7 hk) (by simp only [offs]; omega) (v9 hk hi8) (by simp only [offs]; omega) rfl rfl hi8 (by decide) rfl (nstep_1 (decide_eq_true hi8) (by first | rfl | (simp only [tmk]; omega))) dX4_init_99 ?_
        refine k_iincn C dX4_init_100 rfl (by decide) rfl ?_
        refine k_goto (tgt := 81) C dX4_init_103 (by decide) ?_
        exact GK.to (ih (i + 1) (by omega)) (by omega) (by omega) (by omega) (by omega)
  have L1 : ∀ d i, i + d = 5 → GK E b X (6 + i) (617 + 5 * i) 2 55 [rv (1, kk, 0), iv (nI i)] [] (sbk kk + 7 + i) (tbk kk + 7 + i) := by
    intro d
    induction d with
    | zero =>
      intro i hi
      obtain rfl : i = 5 := by omega
      refine k_iload_n C dX4_init_55 rfl ?_
      refine k_iconst (v := nI 5) C dX4_init_56 (by decide) ?_
      refine k_icmp_ge (tgt := 79) C dX4_init_57 (by decide) (fun q => ?_) (fun q => ?_)
      · skip
        refine k_iconst (v := nI 0) C dX4_init_79 (by decide) ?_
        refine k_istore_n C dX4_init_80 (by decide) rfl ?_
        exact GK.to (L2 8 0 rfl) (by omega) (by omega) (by omega) (by omega)
      · exact absurd (Int32.le_refl _) q
    | succ d ih =>
      intro i hi
      refine k_iload_n C dX4_init_55 rfl ?_
      refine k_iconst (v := nI 5) C dX4_init_56 (by decide) ?_
      refine k_icmp_ge (tgt := 79) C dX4_init_57 (by decide) (fun q => ?_) (fun q => ?_)
      · exact absurd (xI_leD (by decide) (by omega) q) (by omega)
      · skip
        have hi8 : i < 5 := by omega
        refine k_aload_n C dX4_init_60 rfl ?_
        refine k_getr C (ci := 4) 1 rfl rfl rfl (by decide) b_X4 rfl b_fl_X4_20 (v1 hk) (by simp only [offs]; omega) rfl rfl (by simp only [tmk]; omega) dX4_init_61 ?_
        refine k_iload_n C dX4_init_64 rfl ?_
        refine k_new C K (ci := 2) (8, kk, i) rfl rfl rfl b_X2 tyX2 tyX2_ok df_2 b_cl_X4_18 b_is_X2 b_in_X2 (v8 hk hi8) (by first | rfl | (simp only [offs]; omega)) (fun _ hj => absurd hj Bool.false_ne_true) dX4_init_65 (by omega) (by omega) ?_
        refine k_dup C dX4_init_68 ?_
        refine k_callIN C K mi_yX2_init rfl b_in_yX2_init (List.mem_of_getElem? (i := 1) rfl) dX4_init_69 (ct_X2 X.2.1 hk hi8 (by simp only [offs]; omega)) (by decide) (Nat.le_of_ble_eq_true rfl) (by omega) (by omega) ?_
        refine k_aast C K (ty := 2) (nn := 5) (ci := 2) rfl (by decide) rfl (v6 hk) (by simp only [offs]; omega) (v8 hk hi8) (by simp only [offs]; omega) rfl rfl hi8 (by decide) rfl (nstep_1 (decide_eq_true hi8) (by first | rfl | (simp only [tmk]; omega))) dX4_init_72 ?_
        refine k_iincn C dX4_init_73 rfl (by decide) rfl ?_
        refine k_goto (tgt := 55) C dX4_init_76 (by decide) ?_
        exact GK.to (ih (i + 1) (by omega)) (by omega) (by omega) (by omega) (by omega)
  refine k_aload_n C dX4_init_0 rfl ?_
  refine k_obj C b_ml_X4_3 dX4_init_1 (by decide) (Nat.le_of_ble_eq_true rfl) ?_
  refine k_aload_n C dX4_init_4 rfl ?_
  refine k_new C K (ci := 1) (2, kk, 0) rfl rfl rfl b_X1 tyX1 tyX1_ok df_1 b_cl_X4_9 b_is_X1 b_in_X1 (v2 hk) (by first | rfl | (simp only [offs]; omega)) (fun _ _ => ge_2) dX4_init_5 (by omega) (by omega) ?_
  refine k_dup C dX4_init_8 ?_
  refine k_callIN C K mi_yX1_init rfl b_in_yX1_init (List.mem_of_getElem? (i := 0) rfl) dX4_init_9 (ct_X1 X.2.1 hk) (by decide) (Nat.le_of_ble_eq_true rfl) (by omega) (by omega) ?_
  refine k_putr C K (ci := 4) 0 rfl rfl rfl (by decide) b_X4 rfl b_fl_X4_12 (v1 hk) (by simp only [offs]; omega) rfl hI _ tyX4 tyX4_ok nmX4 rfl rfl rfl (nstep_1 rfl (by first | rfl | (simp only [tmk]; omega))) (sv2_1 rfl rfl (by first | rfl | (simp only [tmk]; omega))) dX4_init_12 ?_
  refine k_aload_n C dX4_init_15 rfl ?_
  refine k_iconst (v := nI 5) C dX4_init_16 (by decide) ?_
  refine k_anew C K (6, kk, 0) (ty := 2) (nn := 5) (RC := RX2) rfl (by decide) rfl (fun q => q.1) b_cl_X4_18 (v6 hk) (by first | rfl | (simp only [offs]; omega)) (fun j _ => by simp only [tmk]; omega) (by decide) (by decide) (by decide) dX4_init_17 (by omega) (by omega) ?_
  refine k_putr C K (ci := 4) 1 rfl rfl rfl (by decide) b_X4 rfl b_fl_X4_20 (v1 hk) (by simp only [offs]; omega) rfl hI _ tyX4 tyX4_ok nmX4 rfl rfl rfl (nstep_1 rfl (by first | rfl | (simp only [tmk]; omega))) (sv2_1 rfl rfl (by first | rfl | (simp only [tmk]; omega))) dX4_init_20 ?_
  refine k_aload_n C dX4_init_23 rfl ?_
  refine k_bipush (v := nI 8) C dX4_init_24 (by decide) ?_
  refine k_anew C K (7, kk, 0) (ty := 3) (nn := 8) (RC := RX3) rfl (by decide) rfl (fun q => q.2.1) b_cl_X4_24 (v7 hk) (by first | rfl | (simp only [offs]; omega)) (fun j _ => by simp only [tmk]; omega) (by decide) (by decide) (by decide) dX4_init_26 (by omega) (by omega) ?_
  refine k_putr C K (ci := 4) 2 rfl rfl rfl (by decide) b_X4 rfl b_fl_X4_26 (v1 hk) (by simp only [offs]; omega) rfl hI _ tyX4 tyX4_ok nmX4 rfl rfl rfl (nstep_1 rfl (by first | rfl | (simp only [tmk]; omega))) (sv2_1 rfl rfl (by first | rfl | (simp only [tmk]; omega))) dX4_init_29 ?_
  refine k_aload_n C dX4_init_32 rfl ?_
  refine k_iconst (v := nI 0) C dX4_init_33 (by decide) ?_
  refine k_puti C K (ci := 4) 3 rfl rfl rfl (by decide) b_X4 rfl b_fl_X4_30 (v1 hk) (by simp only [offs]; omega)  _ tyX4 tyX4_ok nmX4 rfl rfl rfl (nstep_0 rfl) (sv2_0 rfl rfl) dX4_init_34 ?_
  refine k_aload_n C dX4_init_37 rfl ?_
  refine k_bipush (v := nI 0 - nI 6) C dX4_init_38 (by decide) ?_
  refine k_puti C K (ci := 4) 4 rfl rfl rfl (by decide) b_X4 rfl b_fl_X4_34 (v1 hk) (by simp only [offs]; omega)  _ tyX4 tyX4_ok nmX4 rfl rfl rfl (nstep_1 rfl (by first | rfl | (simp only [tmk]; omega))) (sv2_1 rfl rfl (by first | rfl | (simp only [tmk]; omega))) dX4_init_40 ?_
  refine k_aload_n C dX4_init_43 rfl ?_
  refine k_iconst (v := nI 0) C dX4_init_44 (by decide) ?_
  refine k_puti C K (ci := 4) 5 rfl rfl rfl (by decide) b_X4 rfl b_fl_X4_37 (v1 hk) (by simp only [offs]; omega)  _ tyX4 tyX4_ok nmX4 rfl rfl rfl (nstep_0 rfl) (sv2_0 rfl rfl) dX4_init_45 ?_
  refine k_aload_n C dX4_init_48 rfl ?_
  refine k_iconst (v := nI 0) C dX4_init_49 (by decide) ?_
  refine k_puti C K (ci := 4) 6 rfl rfl rfl (by decide) b_X4 rfl b_fl_X4_40 (v1 hk) (by simp only [offs]; omega)  _ tyX4 tyX4_ok nmX4 rfl rfl rfl (nstep_0 rfl) (sv2_0 rfl rfl) dX4_init_50 ?_
  refine k_iconst (v := nI 0) C dX4_init_53 (by decide) ?_
  refine k_istore_n C dX4_init_54 (by decide) rfl ?_
  exact GK.to (L1 5 0 rfl) (by omega) (by omega) (by omega) (by omega)
theorem ct_X0 {E : EV} {b : Nat} (l : Launch)  : CtK E b l yX0_init (me_ws yX0_init cX0_init 2 none) 3 (12, 0, 0) 74 90 291 361 217 5580 := by
  refine CtK.of mi_yX0_init rfl (by decide) rfl ?_
  intro X C K hI hX hl
  have L1 : ∀ d i, i + d = 6 → GK E b X (1 + 36 * i) (6 + 929 * i) 2 25 [rv (12, 0, 0), iv (nI i)] [] (sbk (i + 2)) (tbk (i + 2)) := by
    intro d
    induction d with
    | zero =>
      intro i hi
      obtain rfl : i = 6 := by omega
      refine k_iload_n C dX0_init_25 rfl ?_
      refine k_bipush (v := nI 6) C dX0_init_26 (by decide) ?_
      refine k_icmp_ge (tgt := 50) C dX0_init_28 (by decide) (fun q => ?_) (fun q => ?_)
      · skip
        exact GK.to (k_vret C hX dX0_init_50) (by omega) (by omega) (by decide) (by decide)
      · exact absurd (Int32.le_refl _) q
    | succ d ih =>
      intro i hi
      refine k_iload_n C dX0_init_25 rfl ?_
      refine k_bipush (v := nI 6) C dX0_init_26 (by decide) ?_
      refine k_icmp_ge (tgt := 50) C dX0_init_28 (by decide) (fun q => ?_) (fun q => ?_)
      · exact absurd (xI_leD (by decide) (by omega) q) (by omega)
      · skip
        have hi8 : i < 6 := by omega
        refine k_aload_n C dX0_init_31 rfl ?_
        have hb2 : 75 + 36 * i = sbk (i + 2) := by unfold sbk; rw [if_neg (by omega)]; omega
        have hb3 : 91 + 45 * i = tbk (i + 2) := by unfold tbk; rw [if_neg (by omega)]; omega
        refine k_getr C (ci := 0) 0 rfl rfl rfl (by decide) b_X0 rfl b_fl_X0_13 v12 (by simp only [offs]; omega) rfl rfl (by simp only [tmk]; omega) dX0_init_32 ?_
        refine k_iload_n C dX0_init_35 rfl ?_
        refine k_new C K (ci := 4) (1, i + 2, 0) rfl rfl rfl b_X4 tyX4 tyX4_ok df_4 b_cl_X0_11 b_is_X4 b_in_X4 (v1 (by omega)) (by first | rfl | (simp only [offs]; omega)) (fun _ _ => Nat.le_trans (by omega) ge_1) dX0_init_36 (by omega) (by omega) ?_
        refine k_dup C dX0_init_39 ?_
        refine k_callI C K mi_yX4_init rfl b_in_yX4_init b_ml_X0_24 dX0_init_40 (ct_X4 X.2.1 (by omega)) (by decide) (Nat.le_of_ble_eq_true rfl) (by omega) (by omega) ?_
        refine k_aast C K (ty := 4) (nn := 6) (ci := 4) rfl (by decide) rfl v13 (by simp only [offs]; omega) (v1 (by omega)) (by simp only [offs]; omega) rfl rfl hi8 (by decide) rfl (nstep_1 (decide_eq_true hi8) (by first | rfl | (simp only [tmk]; omega))) dX0_init_43 ?_
        refine k_iincn C dX0_init_44 rfl (by decide) rfl ?_
        refine k_goto (tgt := 25) C dX0_init_47 (by decide) ?_
        exact GK.to (ih (i + 1) (by omega)) (by omega) (by omega) (sbk_s i).symm (tbk_s i).symm
  refine k_aload_n C dX0_init_0 rfl ?_
  refine k_obj C b_ml_X0_3 dX0_init_1 (by decide) (Nat.le_of_ble_eq_true rfl) ?_
  refine k_aload_n C dX0_init_4 rfl ?_
  refine k_bipush (v := nI 6) C dX0_init_5 (by decide) ?_
  refine k_anew C K (13, 0, 0) (ty := 4) (nn := 6) (RC := RX4) rfl (by decide) rfl (fun q => q.2.2) b_cl_X0_11 v13 (by first | rfl | (simp only [offs]; omega)) (fun j _ => by show 90 ≤ tbk (j + 2) + 44; unfold tbk; rw [if_neg (by omega)]; omega) (by decide) (by decide) (by decide) dX0_init_7 (by omega) (by omega) ?_
  refine k_putr C K (ci := 0) 0 rfl rfl rfl (by decide) b_X0 rfl b_fl_X0_13 v12 (by simp only [offs]; omega) rfl hI _ tyX0 tyX0_ok nmX0 rfl rfl rfl (nstep_1 rfl (by first | rfl | (simp only [tmk]; omega))) (sv2_1 rfl rfl (by first | rfl | (simp only [tmk]; omega))) dX0_init_10 ?_
  refine k_aload_n C dX0_init_13 rfl ?_
  refine k_iconst (v := nI 0) C dX0_init_14 (by decide) ?_
  refine k_puti C K (ci := 0) 1 rfl rfl rfl (by decide) b_X0 rfl b_fl_X0_17 v12 (by simp only [offs]; omega)  _ tyX0 tyX0_ok nmX0 rfl rfl rfl (nstep_0 rfl) (sv2_0 rfl rfl) dX0_init_15 ?_
  refine k_aload_n C dX0_init_18 rfl ?_
  refine k_iconst (v := nI 0) C dX0_init_19 (by decide) ?_
  refine k_puti C K (ci := 0) 2 rfl rfl rfl (by decide) b_X0 rfl b_fl_X0_21 v12 (by simp only [offs]; omega)  _ tyX0 tyX0_ok nmX0 rfl rfl rfl (nstep_0 rfl) (sv2_0 rfl rfl) dX0_init_20 ?_
  refine k_iconst (v := nI 0) C dX0_init_23 (by decide) ?_
  refine k_istore_n C dX0_init_24 (by decide) rfl ?_
  exact GK.to (L1 6 0 rfl) (by omega) (by omega) (by decide) (by decide)
theorem ct_X5 {E : EV} {b : Nat} (l : Launch)  : CtK E b l yX5_init (me_ws yX5_init cX5_init 1 none) 1 (14, 0, 0) 292 362 294 364 2 83 := by
  refine CtK.of mi_yX5_init rfl (by decide) rfl ?_
  intro X C K hI hX hl
  refine k_aload_n C dX5_init_0 rfl ?_
  refine k_obj C b_ml_X5_3 dX5_init_1 (by decide) (Nat.le_of_ble_eq_true rfl) ?_
  refine k_aload_n C dX5_init_4 rfl ?_
  refine k_bipush (v := nI 80) C dX5_init_5 (by decide) ?_
  refine k_newaI C K (15, 0, 0) (nn := 80) rfl v15 (by first | rfl | (simp only [offs]; omega)) (fun _ hj => absurd hj Bool.false_ne_true) (by decide) (by decide) (by decide) dX5_init_7 (by omega) (by omega) ?_
  refine k_putr C K (ci := 5) 0 rfl rfl rfl (by decide) b_X5 rfl b_fl_X5_9 v14 (by simp only [offs]; omega) rfl hI _ tyX5 tyX5_ok nmX5 rfl rfl rfl (nstep_1 rfl (by first | rfl | (simp only [tmk]; omega))) (sv2_1 rfl rfl (by first | rfl | (simp only [tmk]; omega))) dX5_init_9 ?_
  refine k_aload_n C dX5_init_12 rfl ?_
  refine k_iconst (v := nI 0) C dX5_init_13 (by decide) ?_
  refine k_puti C K (ci := 5) 1 rfl rfl rfl (by decide) b_X5 rfl b_fl_X5_15 v14 (by simp only [offs]; omega)  _ tyX5 tyX5_ok nmX5 rfl rfl rfl (nstep_0 rfl) (sv2_0 rfl rfl) dX5_init_14 ?_
  refine k_aload_n C dX5_init_17 rfl ?_
  refine k_iconst (v := nI 0) C dX5_init_18 (by decide) ?_
  refine k_puti C K (ci := 5) 2 rfl rfl rfl (by decide) b_X5 rfl b_fl_X5_19 v14 (by simp only [offs]; omega)  _ tyX5 tyX5_ok nmX5 rfl rfl rfl (nstep_0 rfl) (sv2_0 rfl rfl) dX5_init_19 ?_
  refine k_aload_n C dX5_init_22 rfl ?_
  refine k_iconst (v := nI 0) C dX5_init_23 (by decide) ?_
  refine k_puti C K (ci := 5) 3 rfl rfl rfl (by decide) b_X5 rfl b_fl_X5_22 v14 (by simp only [offs]; omega)  _ tyX5 tyX5_ok nmX5 rfl rfl rfl (nstep_0 rfl) (sv2_0 rfl rfl) dX5_init_24 ?_
  refine k_aload_n C dX5_init_27 rfl ?_
  refine k_iconst (v := nI 3) C dX5_init_28 (by decide) ?_
  refine k_newaI C K (16, 0, 0) (nn := 3) rfl v16 (by first | rfl | (simp only [offs]; omega)) (fun _ hj => absurd hj Bool.false_ne_true) (by decide) (by decide) (by decide) dX5_init_29 (by omega) (by omega) ?_
  refine k_putr C K (ci := 5) 4 rfl rfl rfl (by decide) b_X5 rfl b_fl_X5_25 v14 (by simp only [offs]; omega) rfl hI _ tyX5 tyX5_ok nmX5 rfl rfl rfl (nstep_1 rfl (by first | rfl | (simp only [tmk]; omega))) (sv2_1 rfl rfl (by first | rfl | (simp only [tmk]; omega))) dX5_init_31 ?_
  refine k_aload_n C dX5_init_34 rfl ?_
  refine k_iconst (v := nI 0) C dX5_init_35 (by decide) ?_
  refine k_puti C K (ci := 5) 5 rfl rfl rfl (by decide) b_X5 rfl b_fl_X5_28 v14 (by simp only [offs]; omega)  _ tyX5 tyX5_ok nmX5 rfl rfl rfl (nstep_0 rfl) (sv2_0 rfl rfl) dX5_init_36 ?_
  exact GK.to (k_vret C hX dX5_init_39) (by omega) (by omega) (by omega) (by omega)
theorem ct_X6 {E : EV} {b : Nat} (l : Launch)  : CtK E b l yX6_init (me_ws yX6_init cX6_init 1 none) 4 (0, 0, 0) 1 0 294 365 293 7530 := by
  refine CtK.of mi_yX6_init rfl (by decide) rfl ?_
  intro X C K hI hX hl
  refine k_aload_n C dX6_init_0 rfl ?_
  refine k_obj C b_ml_X6_3 dX6_init_1 (by decide) (Nat.le_of_ble_eq_true rfl) ?_
  refine k_aload_n C dX6_init_4 rfl ?_
  refine k_new C K (ci := 4) (1, 0, 0) rfl rfl rfl b_X4 tyX4 tyX4_ok df_4 b_cl_X6_9 b_is_X4 b_in_X4 (v1 (by decide)) (by first | rfl | (simp only [offs]; omega)) (fun _ _ => Nat.zero_le _) dX6_init_5 (by omega) (by omega) ?_
  refine k_dup C dX6_init_8 ?_
  refine k_callI C K mi_yX4_init rfl b_in_yX4_init b_ml_X6_11 dX6_init_9 (ct_X4 X.2.1 (by decide)) (by decide) (Nat.le_of_ble_eq_true rfl) (by omega) (by omega) ?_
  refine k_putr C K (ci := 6) 0 rfl rfl rfl (by decide) b_X6 rfl b_fl_X6_12 v0 (by decide) rfl hI _ tyX6 tyX6_ok nmX6 rfl rfl rfl (nstep_1 rfl (by first | rfl | (simp only [tmk]; omega))) (sv2_1 rfl rfl (by first | rfl | (simp only [tmk]; omega))) dX6_init_12 ?_
  refine k_aload_n C dX6_init_15 rfl ?_
  refine k_new C K (ci := 4) (1, 1, 0) rfl rfl rfl b_X4 tyX4 tyX4_ok df_4 b_cl_X6_9 b_is_X4 b_in_X4 (v1 (by decide)) (by first | rfl | (simp only [offs]; omega)) (fun _ _ => Nat.le_trans (by decide) ge_1) dX6_init_16 (by omega) (by omega) ?_
  refine k_dup C dX6_init_19 ?_
  refine k_callI C K mi_yX4_init rfl b_in_yX4_init b_ml_X6_11 dX6_init_20 (ct_X4 X.2.1 (by decide)) (by decide) (Nat.le_of_ble_eq_true rfl) (by omega) (by omega) ?_
  refine k_putr C K (ci := 6) 1 rfl rfl rfl (by decide) b_X6 rfl b_fl_X6_16 v0 (by decide) rfl hI _ tyX6 tyX6_ok nmX6 rfl rfl rfl (nstep_1 rfl (by first | rfl | (simp only [tmk]; omega))) (sv2_1 rfl rfl (by first | rfl | (simp only [tmk]; omega))) dX6_init_23 ?_
  refine k_aload_n C dX6_init_26 rfl ?_
  refine k_iconst (v := nI 0) C dX6_init_27 (by decide) ?_
  refine k_puti C K (ci := 6) 2 rfl rfl rfl (by decide) b_X6 rfl b_fl_X6_19 v0 (by decide)  _ tyX6 tyX6_ok nmX6 rfl rfl rfl (nstep_0 rfl) (sv2_0 rfl rfl) dX6_init_28 ?_
  refine k_aload_n C dX6_init_31 rfl ?_
  refine k_new C K (ci := 0) (12, 0, 0) rfl rfl rfl b_X0 tyX0 tyX0_ok df_0 b_cl_X6_23 b_is_X0 b_in_X0 v12 (by first | rfl | (simp only [offs]; omega)) (fun _ _ => Nat.le_refl _) dX6_init_32 (by omega) (by omega) ?_
  refine k_dup C dX6_init_35 ?_
  refine k_callI C K mi_yX0_init rfl b_in_yX0_init b_ml_X6_25 dX6_init_36 (ct_X0 X.2.1) (by decide) (Nat.le_of_ble_eq_true rfl) (by omega) (by omega) ?_
  refine k_putr C K (ci := 6) 3 rfl rfl rfl (by decide) b_X6 rfl b_fl_X6_26 v0 (by decide) rfl hI _ tyX6 tyX6_ok nmX6 rfl rfl rfl (nstep_1 rfl (by first | rfl | (simp only [tmk]; omega))) (sv2_1 rfl rfl (by first | rfl | (simp only [tmk]; omega))) dX6_init_39 ?_
  refine k_aload_n C dX6_init_42 rfl ?_
  refine k_new C K (ci := 5) (14, 0, 0) rfl rfl rfl b_X5 tyX5 tyX5_ok df_5 b_cl_X6_30 b_is_X5 b_in_X5 v14 (by first | rfl | (simp only [offs]; omega)) (fun _ _ => ge_14) dX6_init_43 (by omega) (by omega) ?_
  refine k_dup C dX6_init_46 ?_
  refine k_callIN C K mi_yX5_init rfl b_in_yX5_init (List.mem_of_getElem? (i := 3) rfl) dX6_init_47 (ct_X5 X.2.1) (by decide) (Nat.le_of_ble_eq_true rfl) (by omega) (by omega) ?_
  refine k_putr C K (ci := 6) 4 rfl rfl rfl (by decide) b_X6 rfl b_fl_X6_33 v0 (by decide) rfl hI _ tyX6 tyX6_ok nmX6 rfl rfl rfl (nstep_1 rfl (by first | rfl | (simp only [tmk]; omega))) (sv2_1 rfl rfl (by first | rfl | (simp only [tmk]; omega))) dX6_init_50 ?_
  exact k_vret C hX dX6_init_53
