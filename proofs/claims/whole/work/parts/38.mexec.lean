/-! ===== the model's execute ===== -/
def ExQ (z : ZZ) (q : CMD) (x : Int32) : Prop := (x = 0 ∧ ¬ isEr (exC z q).1) ∨ (¬ x = 0 ∧ isEr (exC z q).1)
theorem er_ne {x : Int32} (h : isEr x) : ¬ x = 0 := fun e => by
  have := h.2
  rw [e] at this
  exact absurd this (by decide)
def Kp (mem mm : MEM) : Prop := (∀ j, j ≠ 2 → mm (17, 0, 0) j = mem (17, 0, 0) j) ∧ mm (22, 0, 0) = mem (22, 0, 0)
theorem Kp.of {mem M1 : MEM} {f : Nat → Int32} {v : Int32} (h17 : ∀ j, j ≠ 2 → M1 (17, 0, 0) j = mem (17, 0, 0) j) (h22 : M1 (22, 0, 0) = mem (22, 0, 0)) : Kp mem (up (sc M1 (19, 0, 0) f) (17, 0, 0) 2 v) :=
  ⟨fun j hj => by rw [up_sco (by decide), sc_o (by decide), ← h17 j hj]; simp [up, hj], by rw [up_sco (by decide), sc_o (by decide), ← h22]; funext b; simp [up]⟩
theorem RecK.of {mem m : MEM} {z : ZZ} {r : HP × Option ZZ × TX} (h : Rec mem z r m) (hk : Kp mem m) : ∃ m0, m = mz m0 z ∧ RMr m0 (psh r.1 z, r.2) ∧ FrM mem m0 ∧ (∀ j, j ≠ 2 → m0 (17, 0, 0) j = mem (17, 0, 0) j) ∧ m0 (22, 0, 0) = mem (22, 0, 0) := by
  obtain ⟨m0, rfl, h1, h2⟩ := h
  refine ⟨m0, rfl, h1, h2, fun j hj => ?_, ?_⟩
  · rw [← hk.1 j hj, mz_o (by decide)]
  · rw [← hk.2, mz_o (by decide)]

set_option maxRecDepth 100000 in
set_option maxHeartbeats 4000000 in
theorem c_X7_executeOne_w {E : EV} {l : Launch} {mem : MEM} {z : ZZ} {c : Nat} (hG : GoodC z c) {k : Nat} (hk : k ≤ 40) {q : CMD} (ht : TDk (mem (22, 0, 0)) k q) (hq : q.1 = 119) : Ct E l yX7_executeOne (me_ws yX7_executeOne cX7_executeOne 6 (some .int)) 8 [rv (17, 0, 0), iv (nI (4 * k))] (mz mem z) (fun rr mm => ∃ xx : Int32, rr = iv xx ∧ (mm = mz mem (exC z q).2 ∧ ExQ z q xx)) := by
  have hI := hG.1
  have hc200 := hI.1
  have hcn := hI.2.1
  refine Ct.of (RC := RX7) (ls0 := [rv (17, 0, 0), iv (nI (4 * k)), uv, uv, uv, uv]) mi_yX7_executeOne (Nat.le_of_ble_eq_true rfl) rfl (fun X C hX => ?_)
  refine e_aload_n C dX7_executeOne_0 rfl ?_
  refine e_getr C (ci := 7) 7 rfl rfl rfl (by decide) b_X7 rfl b_fl_X7_23 v17 rfl dX7_executeOne_1 ?_
  refine e_iload_n C dX7_executeOne_4 rfl ?_
  refine e_iconst (v := nI 1) C dX7_executeOne_5 (by decide) ?_
  refine f_iaddn C dX7_executeOne_6 ?_
  refine f_iald C rfl v22 (by omega) (by decide) dX7_executeOne_7 ?_
  refine f_val (y := nI (q.2.1)) (by rw [mz_o (by decide)]; exact ht.2.1) ?_
  refine f_istore_n (ls1 := [_, _, _, _, _, _]) C dX7_executeOne_8 (by decide) rfl ?_
  refine e_aload_n C dX7_executeOne_9 rfl ?_
  refine e_getr C (ci := 7) 7 rfl rfl rfl (by decide) b_X7 rfl b_fl_X7_23 v17 rfl dX7_executeOne_10 ?_
  refine e_iload_n C dX7_executeOne_13 rfl ?_
  refine e_iconst (v := nI 2) C dX7_executeOne_14 (by decide) ?_
  refine f_iaddn C dX7_executeOne_15 ?_
  refine f_iald C rfl v22 (by omega) (by decide) dX7_executeOne_16 ?_
  refine f_val (y := nI (q.2.2.1)) (by rw [mz_o (by decide)]; exact ht.2.2.1 (by omega)) ?_
  refine f_istore_n (ls1 := [_, _, _, _, _, _]) C dX7_executeOne_17 (by decide) rfl ?_
  refine e_aload_n C dX7_executeOne_18 rfl ?_
  refine e_getr C (ci := 7) 7 rfl rfl rfl (by decide) b_X7 rfl b_fl_X7_23 v17 rfl dX7_executeOne_19 ?_
  refine e_iload_n C dX7_executeOne_22 rfl ?_
  refine e_iconst (v := nI 3) C dX7_executeOne_23 (by decide) ?_
  refine f_iaddn C dX7_executeOne_24 ?_
  refine f_iald C rfl v22 (by omega) (by decide) dX7_executeOne_25 ?_
  refine f_val (y := nI (q.2.2.2)) (by rw [mz_o (by decide)]; exact ht.2.2.2 hq) ?_
  refine f_istore (ls1 := [_, _, _, _, _, _]) C dX7_executeOne_26 (by decide) rfl ?_
  refine e_iconst (v := -1) C dX7_executeOne_28 (by decide) ?_
  refine f_istore (ls1 := [_, _, _, _, _, _]) C dX7_executeOne_29 (by decide) rfl ?_
  refine e_aload_n C dX7_executeOne_31 rfl ?_
  refine e_getr C (ci := 7) 7 rfl rfl rfl (by decide) b_X7 rfl b_fl_X7_23 v17 rfl dX7_executeOne_32 ?_
  refine e_iload_n C dX7_executeOne_35 rfl ?_
  refine f_iald C rfl v22 (by omega) (by decide) dX7_executeOne_36 ?_
  refine f_val (y := nI (119)) (by rw [mz_o (by decide)]; exact ht.1.trans (by rw [hq])) ?_
  refine e_lookup (tgt := 88) (off := 51) C dX7_executeOne_37 (by decide) (by decide) (by decide) ?_
  refine e_aload_n C dX7_executeOne_88 rfl ?_
  refine e_iload_n C dX7_executeOne_89 rfl ?_
  refine e_iload_n C dX7_executeOne_90 rfl ?_
  refine e_iload C dX7_executeOne_91 rfl ?_
  refine f_callVi (As := [_, _, _]) (ci := 7) C mi_yX7_whyNotWrite mv_yX7_whyNotWrite b_ml_X7_116 dX7_executeOne_93 rfl c_X7_whyNotWrite (by decide) v17 rfl rfl (Nat.le_of_ble_eq_true rfl) (fun x_93 m_93 hc_93 => ?_)
  obtain ⟨rfl, hw⟩ := hc_93
  refine f_istore (ls1 := [_, _, _, _, _, _]) C dX7_executeOne_96 (by decide) rfl ?_
  refine e_iload C dX7_executeOne_98 rfl ?_
  refine e_if_ne (tgt := 250) C dX7_executeOne_100 (by decide) (fun h_100 => ?_) (fun h_100 => ?_)
  · skip
    refine e_iload C dX7_executeOne_250 rfl ?_
    have hx := hw.ne h_100
    have hex : exC z q = (_, z) := (exC_w hq).trans hx.2
    exact f_ii C hX dX7_executeOne_252 ⟨by rw [hex], Or.inr ⟨er_ne hx.1, by rw [hex]; exact hx.1⟩⟩
  · skip
    have hx0 := h_100
    obtain ⟨⟨i, hi, ei, ho⟩, hkk, hv9, hlim⟩ := hw.eq h_100
    have hk2 := hkk
    obtain ⟨q2, hq2, eq2⟩ := isK_nat hkk
    rw [ei, eq2]
    have hc2 : c < 200 := by
      rcases Nat.lt_or_ge c 200 with e | e
      · exact e
      · exact absurd (by rw [hcn]; congr 1; omega) hlim
    refine e_aload_n C dX7_executeOne_103 rfl ?_
    refine e_iload_n C dX7_executeOne_104 rfl ?_
    refine e_iload_n C dX7_executeOne_105 rfl ?_
    refine e_iload C dX7_executeOne_106 rfl ?_
    refine f_callVr (As := [_, _, _]) (ci := 7) C mi_yX7_writes mv_yX7_writes b_ml_X7_120 dX7_executeOne_108 rfl (c_X7_writes (by assumption) (by omega) (by assumption) (by assumption)) (by decide) v17 rfl rfl (Nat.le_of_ble_eq_true rfl) ?_
    refine e_pop C dX7_executeOne_111 ?_
    refine e_goto (tgt := 250) C dX7_executeOne_112 (by decide) ?_
    refine e_iload C dX7_executeOne_250 rfl ?_
    have hex : exC z q = (nI (c + 1), wrz z i q2 (nI q.2.2.2) c) := by rw [exC_w hq]; rw [fWrite, cif_pos ⟨⟨i, hi, ei, ho⟩, hk2⟩, cif_pos hv9, cif_neg hlim, hcn, ei, eq2, nt_nI (by omega), nt_nI (by omega), nt_nI (by omega)]
    exact f_ii C hX dX7_executeOne_252 ⟨by rw [hex], Or.inl ⟨hx0, by rw [hex]; exact isEr_nI (by omega)⟩⟩
set_option maxRecDepth 100000 in
set_option maxHeartbeats 4000000 in
theorem c_X7_executeOne_r {E : EV} {l : Launch} {mem : MEM} {z : ZZ} {c : Nat} (hG : GoodC z c) {k : Nat} (hk : k ≤ 40) {q : CMD} (ht : TDk (mem (22, 0, 0)) k q) (hq : q.1 = 114) : Ct E l yX7_executeOne (me_ws yX7_executeOne cX7_executeOne 6 (some .int)) 8 [rv (17, 0, 0), iv (nI (4 * k))] (mz mem z) (fun rr mm => ∃ xx : Int32, rr = iv xx ∧ (mm = mz mem (exC z q).2 ∧ ExQ z q xx)) := by
  have hI := hG.1
  have hc200 := hI.1
  have hcn := hI.2.1
  refine Ct.of (RC := RX7) (ls0 := [rv (17, 0, 0), iv (nI (4 * k)), uv, uv, uv, uv]) mi_yX7_executeOne (Nat.le_of_ble_eq_true rfl) rfl (fun X C hX => ?_)
  refine e_aload_n C dX7_executeOne_0 rfl ?_
  refine e_getr C (ci := 7) 7 rfl rfl rfl (by decide) b_X7 rfl b_fl_X7_23 v17 rfl dX7_executeOne_1 ?_
  refine e_iload_n C dX7_executeOne_4 rfl ?_
  refine e_iconst (v := nI 1) C dX7_executeOne_5 (by decide) ?_
  refine f_iaddn C dX7_executeOne_6 ?_
  refine f_iald C rfl v22 (by omega) (by decide) dX7_executeOne_7 ?_
  refine f_val (y := nI (q.2.1)) (by rw [mz_o (by decide)]; exact ht.2.1) ?_
  refine f_istore_n (ls1 := [_, _, _, _, _, _]) C dX7_executeOne_8 (by decide) rfl ?_
  refine e_aload_n C dX7_executeOne_9 rfl ?_
  refine e_getr C (ci := 7) 7 rfl rfl rfl (by decide) b_X7 rfl b_fl_X7_23 v17 rfl dX7_executeOne_10 ?_
  refine e_iload_n C dX7_executeOne_13 rfl ?_
  refine e_iconst (v := nI 2) C dX7_executeOne_14 (by decide) ?_
  refine f_iaddn C dX7_executeOne_15 ?_
  refine f_iald C rfl v22 (by omega) (by decide) dX7_executeOne_16 ?_
  refine f_val (y := nI (q.2.2.1)) (by rw [mz_o (by decide)]; exact ht.2.2.1 (by omega)) ?_
  refine f_istore_n (ls1 := [_, _, _, _, _, _]) C dX7_executeOne_17 (by decide) rfl ?_
  refine e_aload_n C dX7_executeOne_18 rfl ?_
  refine e_getr C (ci := 7) 7 rfl rfl rfl (by decide) b_X7 rfl b_fl_X7_23 v17 rfl dX7_executeOne_19 ?_
  refine e_iload_n C dX7_executeOne_22 rfl ?_
  refine e_iconst (v := nI 3) C dX7_executeOne_23 (by decide) ?_
  refine f_iaddn C dX7_executeOne_24 ?_
  refine f_iald C rfl v22 (by omega) (by decide) dX7_executeOne_25 ?_
  refine f_istore (ls1 := [_, _, _, _, _, _]) C dX7_executeOne_26 (by decide) rfl ?_
  refine e_iconst (v := -1) C dX7_executeOne_28 (by decide) ?_
  refine f_istore (ls1 := [_, _, _, _, _, _]) C dX7_executeOne_29 (by decide) rfl ?_
  refine e_aload_n C dX7_executeOne_31 rfl ?_
  refine e_getr C (ci := 7) 7 rfl rfl rfl (by decide) b_X7 rfl b_fl_X7_23 v17 rfl dX7_executeOne_32 ?_
  refine e_iload_n C dX7_executeOne_35 rfl ?_
  refine f_iald C rfl v22 (by omega) (by decide) dX7_executeOne_36 ?_
  refine f_val (y := nI (114)) (by rw [mz_o (by decide)]; exact ht.1.trans (by rw [hq])) ?_
  refine e_lookup (tgt := 115) (off := 78) C dX7_executeOne_37 (by decide) (by decide) (by decide) ?_
  refine e_aload_n C dX7_executeOne_115 rfl ?_
  refine e_iload_n C dX7_executeOne_116 rfl ?_
  refine e_iload_n C dX7_executeOne_117 rfl ?_
  refine f_callVi (As := [_, _]) (ci := 7) C mi_yX7_whyNotRead mv_yX7_whyNotRead b_ml_X7_136 dX7_executeOne_118 rfl (c_X7_whyNotRead hI) (by decide) v17 rfl rfl (Nat.le_of_ble_eq_true rfl) (fun x_118 m_118 hc_118 => ?_)
  obtain ⟨rfl, hw⟩ := hc_118
  refine f_istore (ls1 := [_, _, _, _, _, _]) C dX7_executeOne_121 (by decide) rfl ?_
  refine e_iload C dX7_executeOne_123 rfl ?_
  refine e_if_ne (tgt := 250) C dX7_executeOne_125 (by decide) (fun h_125 => ?_) (fun h_125 => ?_)
  · skip
    refine e_iload C dX7_executeOne_250 rfl ?_
    have hx := hw.ne h_125
    have hex : exC z q = (_, z) := (exC_r hq).trans hx.2
    exact f_ii C hX dX7_executeOne_252 ⟨by rw [hex], Or.inr ⟨er_ne hx.1, by rw [hex]; exact hx.1⟩⟩
  · skip
    have hx0 := h_125
    obtain ⟨⟨i, hi, ei, ho⟩, hkk, hcd⟩ := hw.eq h_125
    have hk2 := hkk
    obtain ⟨q2, hq2, eq2⟩ := isK_nat hkk
    rw [ei, eq2, nt_nI (by omega), nt_nI (by omega)] at hcd
    rw [ei, eq2]
    refine e_aload_n C dX7_executeOne_128 rfl ?_
    refine e_iload_n C dX7_executeOne_129 rfl ?_
    refine e_iload_n C dX7_executeOne_130 rfl ?_
    refine f_callVr (As := [_, _]) (ci := 7) C mi_yX7_reads mv_yX7_reads b_ml_X7_139 dX7_executeOne_131 rfl (c_X7_reads hI hi ho hq2 hcd) (by decide) v17 rfl rfl (Nat.le_of_ble_eq_true rfl) ?_
    refine e_pop C dX7_executeOne_134 ?_
    refine e_goto (tgt := 250) C dX7_executeOne_135 (by decide) ?_
    refine e_iload C dX7_executeOne_250 rfl ?_
    have hex : exC z q = (rdz z i q2) := by rw [exC_r hq]; rw [fRead, cif_pos ⟨⟨i, hi, ei, ho⟩, hk2⟩, ei, eq2, nt_nI (by omega), nt_nI (by omega)]
    exact f_ii C hX dX7_executeOne_252 ⟨by rw [hex], Or.inl ⟨hx0, by rw [hex]; exact (rdz_ok hG hi ho hq2).2 hcd⟩⟩
set_option maxRecDepth 100000 in
set_option maxHeartbeats 4000000 in
theorem c_X7_executeOne_t {E : EV} {l : Launch} {mem : MEM} {z : ZZ} {c : Nat} (hG : GoodC z c) {k : Nat} (hk : k ≤ 40) {q : CMD} (ht : TDk (mem (22, 0, 0)) k q) (hq : q.1 = 116) : Ct E l yX7_executeOne (me_ws yX7_executeOne cX7_executeOne 6 (some .int)) 8 [rv (17, 0, 0), iv (nI (4 * k))] (mz mem z) (fun rr mm => ∃ xx : Int32, rr = iv xx ∧ (mm = mz mem (exC z q).2 ∧ ExQ z q xx)) := by
  have hI := hG.1
  have hc200 := hI.1
  have hcn := hI.2.1
  refine Ct.of (RC := RX7) (ls0 := [rv (17, 0, 0), iv (nI (4 * k)), uv, uv, uv, uv]) mi_yX7_executeOne (Nat.le_of_ble_eq_true rfl) rfl (fun X C hX => ?_)
  refine e_aload_n C dX7_executeOne_0 rfl ?_
  refine e_getr C (ci := 7) 7 rfl rfl rfl (by decide) b_X7 rfl b_fl_X7_23 v17 rfl dX7_executeOne_1 ?_
  refine e_iload_n C dX7_executeOne_4 rfl ?_
  refine e_iconst (v := nI 1) C dX7_executeOne_5 (by decide) ?_
  refine f_iaddn C dX7_executeOne_6 ?_
  refine f_iald C rfl v22 (by omega) (by decide) dX7_executeOne_7 ?_
  refine f_val (y := nI (q.2.1)) (by rw [mz_o (by decide)]; exact ht.2.1) ?_
  refine f_istore_n (ls1 := [_, _, _, _, _, _]) C dX7_executeOne_8 (by decide) rfl ?_
  refine e_aload_n C dX7_executeOne_9 rfl ?_
  refine e_getr C (ci := 7) 7 rfl rfl rfl (by decide) b_X7 rfl b_fl_X7_23 v17 rfl dX7_executeOne_10 ?_
  refine e_iload_n C dX7_executeOne_13 rfl ?_
  refine e_iconst (v := nI 2) C dX7_executeOne_14 (by decide) ?_
  refine f_iaddn C dX7_executeOne_15 ?_
  refine f_iald C rfl v22 (by omega) (by decide) dX7_executeOne_16 ?_
  refine f_istore_n (ls1 := [_, _, _, _, _, _]) C dX7_executeOne_17 (by decide) rfl ?_
  refine e_aload_n C dX7_executeOne_18 rfl ?_
  refine e_getr C (ci := 7) 7 rfl rfl rfl (by decide) b_X7 rfl b_fl_X7_23 v17 rfl dX7_executeOne_19 ?_
  refine e_iload_n C dX7_executeOne_22 rfl ?_
  refine e_iconst (v := nI 3) C dX7_executeOne_23 (by decide) ?_
  refine f_iaddn C dX7_executeOne_24 ?_
  refine f_iald C rfl v22 (by omega) (by decide) dX7_executeOne_25 ?_
  refine f_istore (ls1 := [_, _, _, _, _, _]) C dX7_executeOne_26 (by decide) rfl ?_
  refine e_iconst (v := -1) C dX7_executeOne_28 (by decide) ?_
  refine f_istore (ls1 := [_, _, _, _, _, _]) C dX7_executeOne_29 (by decide) rfl ?_
  refine e_aload_n C dX7_executeOne_31 rfl ?_
  refine e_getr C (ci := 7) 7 rfl rfl rfl (by decide) b_X7 rfl b_fl_X7_23 v17 rfl dX7_executeOne_32 ?_
  refine e_iload_n C dX7_executeOne_35 rfl ?_
  refine f_iald C rfl v22 (by omega) (by decide) dX7_executeOne_36 ?_
  refine f_val (y := nI (116)) (by rw [mz_o (by decide)]; exact ht.1.trans (by rw [hq])) ?_
  refine e_lookup (tgt := 138) (off := 101) C dX7_executeOne_37 (by decide) (by decide) (by decide) ?_
  refine e_iload_n C dX7_executeOne_138 rfl ?_
  refine e_iconst (v := nI 1) C dX7_executeOne_139 (by decide) ?_
  refine e_bipush (v := nI 99) C dX7_executeOne_140 (by decide) ?_
  refine f_callSr (As := [_, _, _]) C mi_yX7_in b_st_yX7_in b_ml_X7_26 dX7_executeOne_142 rfl c_X7_in (by decide) (Nat.le_of_ble_eq_true rfl) ?_
  refine f_if_eq (tgt := 152) C dX7_executeOne_145 (by decide) (fun h_145 => ?_) (fun h_145 => ?_)
  · skip
    refine e_bipush (v := -2) C dX7_executeOne_152 (by decide) ?_
    refine f_istore (ls1 := [_, _, _, _, _, _]) C dX7_executeOne_154 (by decide) rfl ?_
    refine e_iload C dX7_executeOne_156 rfl ?_
    refine e_if_ne (tgt := 250) C dX7_executeOne_158 (by decide) (fun h_158 => ?_) (fun h_158 => ?_)
    · skip
      refine e_iload C dX7_executeOne_250 rfl ?_
      have hex : exC z q = (-2, z) := by rw [exC_t hq, fTick, cif_neg h_145]
      exact f_ii C hX dX7_executeOne_252 ⟨by rw [hex], Or.inr ⟨by decide, by rw [hex]; exact isEr_2⟩⟩
    · skip
      exact absurd h_158 (by decide)
  · skip
    refine e_iconst (v := nI 0) C dX7_executeOne_148 (by decide) ?_
    refine e_goto (tgt := 154) C dX7_executeOne_149 (by decide) ?_
    refine f_istore (ls1 := [_, _, _, _, _, _]) C dX7_executeOne_154 (by decide) rfl ?_
    refine e_iload C dX7_executeOne_156 rfl ?_
    refine e_if_ne (tgt := 250) C dX7_executeOne_158 (by decide) (fun h_158 => ?_) (fun h_158 => ?_)
    · skip
      exact absurd h_158 (by decide)
    · skip
      have nh_158 := xI_inj (a := 0) (b := 0) (by omega) (by omega) h_158
      refine e_aload_n C dX7_executeOne_161 rfl ?_
      refine e_iload_n C dX7_executeOne_162 rfl ?_
      refine f_callVv (As := [_]) (ci := 7) C mi_yX7_ticks mv_yX7_ticks b_ml_X7_78 dX7_executeOne_163 rfl c_X7_ticks (by decide) v17 rfl rfl (Nat.le_of_ble_eq_true rfl) ?_
      refine e_goto (tgt := 250) C dX7_executeOne_166 (by decide) ?_
      refine e_iload C dX7_executeOne_250 rfl ?_
      have hex : exC z q = (nI (cau (tck z (nI q.2.1) 5) 5), tck z (nI q.2.1) 5) := by rw [exC_t hq]; rw [fTick, cif_pos h_145]
      exact f_ii C hX dX7_executeOne_252 ⟨by rw [hex], Or.inl ⟨rfl, by rw [hex]; exact isEr_nI (Nat.lt_of_le_of_lt (cau_le _ 5) (by decide))⟩⟩
set_option maxRecDepth 100000 in
set_option maxHeartbeats 4000000 in
theorem c_X7_executeOne_m {E : EV} {l : Launch} {mem : MEM} {z : ZZ} {c : Nat} (hG : GoodC z c) {k : Nat} (hk : k ≤ 40) {q : CMD} (ht : TDk (mem (22, 0, 0)) k q) (hq : q.1 = 109) : Ct E l yX7_executeOne (me_ws yX7_executeOne cX7_executeOne 6 (some .int)) 8 [rv (17, 0, 0), iv (nI (4 * k))] (mz mem z) (fun rr mm => ∃ xx : Int32, rr = iv xx ∧ (mm = mz mem (exC z q).2 ∧ ExQ z q xx)) := by
  have hI := hG.1
  have hc200 := hI.1
  have hcn := hI.2.1
  refine Ct.of (RC := RX7) (ls0 := [rv (17, 0, 0), iv (nI (4 * k)), uv, uv, uv, uv]) mi_yX7_executeOne (Nat.le_of_ble_eq_true rfl) rfl (fun X C hX => ?_)
  refine e_aload_n C dX7_executeOne_0 rfl ?_
  refine e_getr C (ci := 7) 7 rfl rfl rfl (by decide) b_X7 rfl b_fl_X7_23 v17 rfl dX7_executeOne_1 ?_
  refine e_iload_n C dX7_executeOne_4 rfl ?_
  refine e_iconst (v := nI 1) C dX7_executeOne_5 (by decide) ?_
  refine f_iaddn C dX7_executeOne_6 ?_
  refine f_iald C rfl v22 (by omega) (by decide) dX7_executeOne_7 ?_
  refine f_val (y := nI (q.2.1)) (by rw [mz_o (by decide)]; exact ht.2.1) ?_
  refine f_istore_n (ls1 := [_, _, _, _, _, _]) C dX7_executeOne_8 (by decide) rfl ?_
  refine e_aload_n C dX7_executeOne_9 rfl ?_
  refine e_getr C (ci := 7) 7 rfl rfl rfl (by decide) b_X7 rfl b_fl_X7_23 v17 rfl dX7_executeOne_10 ?_
  refine e_iload_n C dX7_executeOne_13 rfl ?_
  refine e_iconst (v := nI 2) C dX7_executeOne_14 (by decide) ?_
  refine f_iaddn C dX7_executeOne_15 ?_
  refine f_iald C rfl v22 (by omega) (by decide) dX7_executeOne_16 ?_
  refine f_val (y := nI (q.2.2.1)) (by rw [mz_o (by decide)]; exact ht.2.2.1 (by omega)) ?_
  refine f_istore_n (ls1 := [_, _, _, _, _, _]) C dX7_executeOne_17 (by decide) rfl ?_
  refine e_aload_n C dX7_executeOne_18 rfl ?_
  refine e_getr C (ci := 7) 7 rfl rfl rfl (by decide) b_X7 rfl b_fl_X7_23 v17 rfl dX7_executeOne_19 ?_
  refine e_iload_n C dX7_executeOne_22 rfl ?_
  refine e_iconst (v := nI 3) C dX7_executeOne_23 (by decide) ?_
  refine f_iaddn C dX7_executeOne_24 ?_
  refine f_iald C rfl v22 (by omega) (by decide) dX7_executeOne_25 ?_
  refine f_istore (ls1 := [_, _, _, _, _, _]) C dX7_executeOne_26 (by decide) rfl ?_
  refine e_iconst (v := -1) C dX7_executeOne_28 (by decide) ?_
  refine f_istore (ls1 := [_, _, _, _, _, _]) C dX7_executeOne_29 (by decide) rfl ?_
  refine e_aload_n C dX7_executeOne_31 rfl ?_
  refine e_getr C (ci := 7) 7 rfl rfl rfl (by decide) b_X7 rfl b_fl_X7_23 v17 rfl dX7_executeOne_32 ?_
  refine e_iload_n C dX7_executeOne_35 rfl ?_
  refine f_iald C rfl v22 (by omega) (by decide) dX7_executeOne_36 ?_
  refine f_val (y := nI (109)) (by rw [mz_o (by decide)]; exact ht.1.trans (by rw [hq])) ?_
  refine e_lookup (tgt := 169) (off := 132) C dX7_executeOne_37 (by decide) (by decide) (by decide) ?_
  refine e_aload_n C dX7_executeOne_169 rfl ?_
  refine e_iload_n C dX7_executeOne_170 rfl ?_
  refine f_callVr (As := [_]) (ci := 7) C mi_yX7_isSession mv_yX7_isSession b_ml_X7_94 dX7_executeOne_171 rfl c_X7_isSession (by decide) v17 rfl rfl (Nat.le_of_ble_eq_true rfl) ?_
  refine f_if_eq (tgt := 189) C dX7_executeOne_174 (by decide) (fun h_174 => ?_) (fun h_174 => ?_)
  · skip
    refine e_iconst (v := -1) C dX7_executeOne_189 (by decide) ?_
    refine f_istore (ls1 := [_, _, _, _, _, _]) C dX7_executeOne_190 (by decide) rfl ?_
    refine e_iload C dX7_executeOne_192 rfl ?_
    refine e_if_ne (tgt := 250) C dX7_executeOne_194 (by decide) (fun h_194 => ?_) (fun h_194 => ?_)
    · skip
      refine e_iload C dX7_executeOne_250 rfl ?_
      have hex : exC z q = (-1, z) := by rw [exC_m hq, fMove, cif_neg (fun r => h_174 r.1)]
      exact f_ii C hX dX7_executeOne_252 ⟨by rw [hex], Or.inr ⟨by decide, by rw [hex]; exact isEr_1⟩⟩
    · skip
      exact absurd h_194 (by decide)
  · skip
    refine e_aload_n C dX7_executeOne_177 rfl ?_
    refine e_iload_n C dX7_executeOne_178 rfl ?_
    refine f_callVr (As := [_]) (ci := 7) C mi_yX7_isPlace mv_yX7_isPlace b_ml_X7_52 dX7_executeOne_179 rfl c_X7_isPlace (by decide) v17 rfl rfl (Nat.le_of_ble_eq_true rfl) ?_
    refine f_if_eq (tgt := 189) C dX7_executeOne_182 (by decide) (fun h_182 => ?_) (fun h_182 => ?_)
    · skip
      refine e_iconst (v := -1) C dX7_executeOne_189 (by decide) ?_
      refine f_istore (ls1 := [_, _, _, _, _, _]) C dX7_executeOne_190 (by decide) rfl ?_
      refine e_iload C dX7_executeOne_192 rfl ?_
      refine e_if_ne (tgt := 250) C dX7_executeOne_194 (by decide) (fun h_194 => ?_) (fun h_194 => ?_)
      · skip
        refine e_iload C dX7_executeOne_250 rfl ?_
        have hex : exC z q = (-1, z) := by rw [exC_m hq, fMove, cif_neg (fun r => h_182 r.2)]
        exact f_ii C hX dX7_executeOne_252 ⟨by rw [hex], Or.inr ⟨by decide, by rw [hex]; exact isEr_1⟩⟩
      · skip
        exact absurd h_194 (by decide)
    · skip
      have hSS := h_174
      obtain ⟨i, hi, ei, ho⟩ := h_174
      rw [ei]
      obtain ⟨p, b, ep, hp, hpl, hb, eb⟩ := hI.home hi ho
      refine e_iconst (v := nI 0) C dX7_executeOne_185 (by decide) ?_
      refine e_goto (tgt := 190) C dX7_executeOne_186 (by decide) ?_
      refine f_istore (ls1 := [_, _, _, _, _, _]) C dX7_executeOne_190 (by decide) rfl ?_
      refine e_iload C dX7_executeOne_192 rfl ?_
      refine e_if_ne (tgt := 250) C dX7_executeOne_194 (by decide) (fun h_194 => ?_) (fun h_194 => ?_)
      · skip
        exact absurd h_194 (by decide)
      · skip
        have nh_194 := xI_inj (a := 0) (b := 0) (by omega) (by omega) h_194
        refine e_aload_n C dX7_executeOne_197 rfl ?_
        refine e_iload_n C dX7_executeOne_198 rfl ?_
        refine e_iload_n C dX7_executeOne_199 rfl ?_
        refine f_callVr (As := [_, _]) (ci := 7) C mi_yX7_moves mv_yX7_moves b_ml_X7_97 dX7_executeOne_200 rfl (c_X7_moves (by assumption)) (by decide) v17 rfl rfl (Nat.le_of_ble_eq_true rfl) ?_
        refine e_pop C dX7_executeOne_203 ?_
        refine e_goto (tgt := 250) C dX7_executeOne_204 (by decide) ?_
        refine e_iload C dX7_executeOne_250 rfl ?_
        have hex : exC z q = (sz z i 1, ss z i 1 (nI q.2.2.1)) := by rw [exC_m hq]; rw [fMove, cif_pos ⟨hSS, h_182⟩, ei, nt_nI (by omega)]
        exact f_ii C hX dX7_executeOne_252 ⟨by rw [hex], Or.inl ⟨rfl, by rw [hex]; exact (show ¬ isEr (sz z i 1) by rw [ep]; exact isEr_nI (by omega))⟩⟩
set_option maxRecDepth 100000 in
set_option maxHeartbeats 4000000 in
theorem c_X7_executeOne_h {E : EV} {l : Launch} {mem : MEM} {z : ZZ} {c : Nat} (hG : GoodC z c) {k : Nat} (hk : k ≤ 40) {q : CMD} (ht : TDk (mem (22, 0, 0)) k q) (hq : q.1 = 104) : Ct E l yX7_executeOne (me_ws yX7_executeOne cX7_executeOne 6 (some .int)) 8 [rv (17, 0, 0), iv (nI (4 * k))] (mz mem z) (fun rr mm => ∃ xx : Int32, rr = iv xx ∧ (mm = mz mem (exC z q).2 ∧ ExQ z q xx)) := by
  have hI := hG.1
  have hc200 := hI.1
  have hcn := hI.2.1
  refine Ct.of (RC := RX7) (ls0 := [rv (17, 0, 0), iv (nI (4 * k)), uv, uv, uv, uv]) mi_yX7_executeOne (Nat.le_of_ble_eq_true rfl) rfl (fun X C hX => ?_)
  refine e_aload_n C dX7_executeOne_0 rfl ?_
  refine e_getr C (ci := 7) 7 rfl rfl rfl (by decide) b_X7 rfl b_fl_X7_23 v17 rfl dX7_executeOne_1 ?_
  refine e_iload_n C dX7_executeOne_4 rfl ?_
  refine e_iconst (v := nI 1) C dX7_executeOne_5 (by decide) ?_
  refine f_iaddn C dX7_executeOne_6 ?_
  refine f_iald C rfl v22 (by omega) (by decide) dX7_executeOne_7 ?_
  refine f_val (y := nI (q.2.1)) (by rw [mz_o (by decide)]; exact ht.2.1) ?_
  refine f_istore_n (ls1 := [_, _, _, _, _, _]) C dX7_executeOne_8 (by decide) rfl ?_
  refine e_aload_n C dX7_executeOne_9 rfl ?_
  refine e_getr C (ci := 7) 7 rfl rfl rfl (by decide) b_X7 rfl b_fl_X7_23 v17 rfl dX7_executeOne_10 ?_
  refine e_iload_n C dX7_executeOne_13 rfl ?_
  refine e_iconst (v := nI 2) C dX7_executeOne_14 (by decide) ?_
  refine f_iaddn C dX7_executeOne_15 ?_
  refine f_iald C rfl v22 (by omega) (by decide) dX7_executeOne_16 ?_
  refine f_val (y := nI (q.2.2.1)) (by rw [mz_o (by decide)]; exact ht.2.2.1 (by omega)) ?_
  refine f_istore_n (ls1 := [_, _, _, _, _, _]) C dX7_executeOne_17 (by decide) rfl ?_
  refine e_aload_n C dX7_executeOne_18 rfl ?_
  refine e_getr C (ci := 7) 7 rfl rfl rfl (by decide) b_X7 rfl b_fl_X7_23 v17 rfl dX7_executeOne_19 ?_
  refine e_iload_n C dX7_executeOne_22 rfl ?_
  refine e_iconst (v := nI 3) C dX7_executeOne_23 (by decide) ?_
  refine f_iaddn C dX7_executeOne_24 ?_
  refine f_iald C rfl v22 (by omega) (by decide) dX7_executeOne_25 ?_
  refine f_istore (ls1 := [_, _, _, _, _, _]) C dX7_executeOne_26 (by decide) rfl ?_
  refine e_iconst (v := -1) C dX7_executeOne_28 (by decide) ?_
  refine f_istore (ls1 := [_, _, _, _, _, _]) C dX7_executeOne_29 (by decide) rfl ?_
  refine e_aload_n C dX7_executeOne_31 rfl ?_
  refine e_getr C (ci := 7) 7 rfl rfl rfl (by decide) b_X7 rfl b_fl_X7_23 v17 rfl dX7_executeOne_32 ?_
  refine e_iload_n C dX7_executeOne_35 rfl ?_
  refine f_iald C rfl v22 (by omega) (by decide) dX7_executeOne_36 ?_
  refine f_val (y := nI (104)) (by rw [mz_o (by decide)]; exact ht.1.trans (by rw [hq])) ?_
  refine e_lookup (tgt := 207) (off := 170) C dX7_executeOne_37 (by decide) (by decide) (by decide) ?_
  refine e_aload_n C dX7_executeOne_207 rfl ?_
  refine e_iload_n C dX7_executeOne_208 rfl ?_
  refine e_iload_n C dX7_executeOne_209 rfl ?_
  refine f_callVi (As := [_, _]) (ci := 7) C mi_yX7_whyNotHand mv_yX7_whyNotHand b_ml_X7_103 dX7_executeOne_210 rfl c_X7_whyNotHand (by decide) v17 rfl rfl (Nat.le_of_ble_eq_true rfl) (fun x_210 m_210 hc_210 => ?_)
  obtain ⟨rfl, hw⟩ := hc_210
  refine f_istore (ls1 := [_, _, _, _, _, _]) C dX7_executeOne_213 (by decide) rfl ?_
  refine e_iload C dX7_executeOne_215 rfl ?_
  refine e_if_ne (tgt := 250) C dX7_executeOne_217 (by decide) (fun h_217 => ?_) (fun h_217 => ?_)
  · skip
    refine e_iload C dX7_executeOne_250 rfl ?_
    have hx := hw.ne h_217
    have hex : exC z q = (_, z) := (exC_h hq).trans hx.2
    exact f_ii C hX dX7_executeOne_252 ⟨by rw [hex], Or.inr ⟨er_ne hx.1, by rw [hex]; exact hx.1⟩⟩
  · skip
    have hx0 := h_217
    obtain ⟨⟨i, hi, ei, ho⟩, ⟨j, hj, ej, hoj⟩, hne⟩ := hw.eq h_217
    rw [ei, ej]
    refine e_aload_n C dX7_executeOne_220 rfl ?_
    refine e_iload_n C dX7_executeOne_221 rfl ?_
    refine e_iload_n C dX7_executeOne_222 rfl ?_
    refine f_callVr (As := [_, _]) (ci := 7) C mi_yX7_hands mv_yX7_hands b_ml_X7_106 dX7_executeOne_223 rfl (c_X7_hands (by assumption) (by assumption)) (by decide) v17 rfl rfl (Nat.le_of_ble_eq_true rfl) ?_
    refine e_pop C dX7_executeOne_226 ?_
    refine e_goto (tgt := 250) C dX7_executeOne_227 (by decide) ?_
    refine e_iload C dX7_executeOne_250 rfl ?_
    have hex : exC z q = (hndz z i j, ss z j 5 (hndz z i j)) := by rw [exC_h hq]; rw [fHand, cif_pos ⟨⟨i, hi, ei, ho⟩, ⟨j, hj, ej, hoj⟩⟩, cif_neg hne, ei, ej, nt_nI (by omega), nt_nI (by omega)]
    exact f_ii C hX dX7_executeOne_252 ⟨by rw [hex], Or.inl ⟨hx0, by rw [hex]; exact (by obtain ⟨w, hw2, ew⟩ := hndz_nat hG hi hj ho hoj; show ¬ isEr (hndz z i j); rw [ew]; exact isEr_nI (by omega))⟩⟩
set_option maxRecDepth 100000 in
set_option maxHeartbeats 4000000 in
theorem c_X7_executeOne_j {E : EV} {l : Launch} {mem : MEM} {z : ZZ} {c : Nat} (hG : GoodC z c) {k : Nat} (hk : k ≤ 40) {q : CMD} (ht : TDk (mem (22, 0, 0)) k q) (hq : q.1 = 106) : Ct E l yX7_executeOne (me_ws yX7_executeOne cX7_executeOne 6 (some .int)) 8 [rv (17, 0, 0), iv (nI (4 * k))] (mz mem z) (fun rr mm => ∃ xx : Int32, rr = iv xx ∧ (mm = mz mem (exC z q).2 ∧ ExQ z q xx)) := by
  have hI := hG.1
  have hc200 := hI.1
  have hcn := hI.2.1
  refine Ct.of (RC := RX7) (ls0 := [rv (17, 0, 0), iv (nI (4 * k)), uv, uv, uv, uv]) mi_yX7_executeOne (Nat.le_of_ble_eq_true rfl) rfl (fun X C hX => ?_)
  refine e_aload_n C dX7_executeOne_0 rfl ?_
  refine e_getr C (ci := 7) 7 rfl rfl rfl (by decide) b_X7 rfl b_fl_X7_23 v17 rfl dX7_executeOne_1 ?_
  refine e_iload_n C dX7_executeOne_4 rfl ?_
  refine e_iconst (v := nI 1) C dX7_executeOne_5 (by decide) ?_
  refine f_iaddn C dX7_executeOne_6 ?_
  refine f_iald C rfl v22 (by omega) (by decide) dX7_executeOne_7 ?_
  refine f_val (y := nI (q.2.1)) (by rw [mz_o (by decide)]; exact ht.2.1) ?_
  refine f_istore_n (ls1 := [_, _, _, _, _, _]) C dX7_executeOne_8 (by decide) rfl ?_
  refine e_aload_n C dX7_executeOne_9 rfl ?_
  refine e_getr C (ci := 7) 7 rfl rfl rfl (by decide) b_X7 rfl b_fl_X7_23 v17 rfl dX7_executeOne_10 ?_
  refine e_iload_n C dX7_executeOne_13 rfl ?_
  refine e_iconst (v := nI 2) C dX7_executeOne_14 (by decide) ?_
  refine f_iaddn C dX7_executeOne_15 ?_
  refine f_iald C rfl v22 (by omega) (by decide) dX7_executeOne_16 ?_
  refine f_val (y := nI (q.2.2.1)) (by rw [mz_o (by decide)]; exact ht.2.2.1 (by omega)) ?_
  refine f_istore_n (ls1 := [_, _, _, _, _, _]) C dX7_executeOne_17 (by decide) rfl ?_
  refine e_aload_n C dX7_executeOne_18 rfl ?_
  refine e_getr C (ci := 7) 7 rfl rfl rfl (by decide) b_X7 rfl b_fl_X7_23 v17 rfl dX7_executeOne_19 ?_
  refine e_iload_n C dX7_executeOne_22 rfl ?_
  refine e_iconst (v := nI 3) C dX7_executeOne_23 (by decide) ?_
  refine f_iaddn C dX7_executeOne_24 ?_
  refine f_iald C rfl v22 (by omega) (by decide) dX7_executeOne_25 ?_
  refine f_istore (ls1 := [_, _, _, _, _, _]) C dX7_executeOne_26 (by decide) rfl ?_
  refine e_iconst (v := -1) C dX7_executeOne_28 (by decide) ?_
  refine f_istore (ls1 := [_, _, _, _, _, _]) C dX7_executeOne_29 (by decide) rfl ?_
  refine e_aload_n C dX7_executeOne_31 rfl ?_
  refine e_getr C (ci := 7) 7 rfl rfl rfl (by decide) b_X7 rfl b_fl_X7_23 v17 rfl dX7_executeOne_32 ?_
  refine e_iload_n C dX7_executeOne_35 rfl ?_
  refine f_iald C rfl v22 (by omega) (by decide) dX7_executeOne_36 ?_
  refine f_val (y := nI (106)) (by rw [mz_o (by decide)]; exact ht.1.trans (by rw [hq])) ?_
  refine e_lookup (tgt := 230) (off := 193) C dX7_executeOne_37 (by decide) (by decide) (by decide) ?_
  refine e_aload_n C dX7_executeOne_230 rfl ?_
  refine e_iload_n C dX7_executeOne_231 rfl ?_
  refine e_iload_n C dX7_executeOne_232 rfl ?_
  refine f_callVi (As := [_, _]) (ci := 7) C mi_yX7_whyNotJump mv_yX7_whyNotJump b_ml_X7_69 dX7_executeOne_233 rfl c_X7_whyNotJump (by decide) v17 rfl rfl (Nat.le_of_ble_eq_true rfl) (fun x_233 m_233 hc_233 => ?_)
  obtain ⟨rfl, hw⟩ := hc_233
  refine f_istore (ls1 := [_, _, _, _, _, _]) C dX7_executeOne_236 (by decide) rfl ?_
  refine e_iload C dX7_executeOne_238 rfl ?_
  refine e_if_ne (tgt := 250) C dX7_executeOne_240 (by decide) (fun h_240 => ?_) (fun h_240 => ?_)
  · skip
    refine e_iload C dX7_executeOne_250 rfl ?_
    have hx := hw.ne h_240
    have hex : exC z q = (_, z) := (exC_j hq).trans hx.2
    exact f_ii C hX dX7_executeOne_252 ⟨by rw [hex], Or.inr ⟨er_ne hx.1, by rw [hex]; exact hx.1⟩⟩
  · skip
    have hx0 := h_240
    obtain ⟨⟨i, hi, ei, ho⟩, hp1, hp2⟩ := hw.eq h_240
    have hp3 := hp2
    rw [ei, nt_nI (by omega)] at hp3
    obtain ⟨pp, qq, hpp, hqq, epp, eqq, hst⟩ := hI.reps hi ho
    rw [ei]
    refine e_aload_n C dX7_executeOne_243 rfl ?_
    refine e_iload_n C dX7_executeOne_244 rfl ?_
    refine e_iload_n C dX7_executeOne_245 rfl ?_
    refine f_callVr (As := [_, _]) (ci := 7) C mi_yX7_jumps mv_yX7_jumps b_ml_X7_72 dX7_executeOne_246 rfl (c_X7_jumps (by assumption)) (by decide) v17 rfl rfl (Nat.le_of_ble_eq_true rfl) ?_
    refine e_pop C dX7_executeOne_249 ?_
    refine e_iload C dX7_executeOne_250 rfl ?_
    have hex : exC z q = (rz z i 1, rs z i 1 (nI q.2.2.1)) := by rw [exC_j hq]; rw [fJump, cif_pos ⟨i, hi, ei, ho⟩, ei, nt_nI (by omega), cif_pos ⟨hp1, hp3⟩]
    exact f_ii C hX dX7_executeOne_252 ⟨by rw [hex], Or.inl ⟨hx0, by rw [hex]; exact (show ¬ isEr (rz z i 1) by rw [epp]; exact isEr_nI (by omega))⟩⟩
theorem c_X7_executeOne {E : EV} {l : Launch} {mem : MEM} {z : ZZ} {c : Nat} (hG : GoodC z c) {k : Nat} (hk : k ≤ 40) {q : CMD} (ht : TDk (mem (22, 0, 0)) k q) (hq : q.1 = 119 ∨ q.1 = 114 ∨ q.1 = 116 ∨ q.1 = 109 ∨ q.1 = 104 ∨ q.1 = 106) : Ct E l yX7_executeOne (me_ws yX7_executeOne cX7_executeOne 6 (some .int)) 8 [rv (17, 0, 0), iv (nI (4 * k))] (mz mem z) (fun rr mm => ∃ xx : Int32, rr = iv xx ∧ (mm = mz mem (exC z q).2 ∧ ExQ z q xx)) := by
  rcases hq with hq | hq | hq | hq | hq | hq
  · exact c_X7_executeOne_w hG hk ht hq
  · exact c_X7_executeOne_r hG hk ht hq
  · exact c_X7_executeOne_t hG hk ht hq
  · exact c_X7_executeOne_m hG hk ht hq
  · exact c_X7_executeOne_h hG hk ht hq
  · exact c_X7_executeOne_j hG hk ht hq
set_option maxRecDepth 100000 in
set_option maxHeartbeats 4000000 in
theorem c_X7_execute_e {E : EV} {l : Launch} {mem : MEM} {a : AS} (hM : RM mem a) (hT : MT_ mem a.2.2.2) {e : Nat} (hx : txt a.2.2.2 80 0 = .inl e) (hep : e < 2 ^ 31) : Ct E l yX7_execute (me_ws yX7_execute cX7_execute 2 (some .int)) 9 [rv (17, 0, 0)] mem (fun rr mm => ∃ xx : Int32, rr = iv xx ∧ PoM mem ((exA a).2) ((exA a).1) xx mm) := by
  refine Ct.of (RC := RX7) (ls0 := [rv (17, 0, 0), uv]) mi_yX7_execute (Nat.le_of_ble_eq_true rfl) rfl (fun X C hX => ?_)
  refine e_aload_n C dX7_execute_0 rfl ?_
  refine f_callVi (As := []) (ci := 7) C mi_yX7_errorPosition mv_yX7_errorPosition b_ml_X7_174 dX7_execute_1 rfl (c_X7_errorPosition (by assumption)) (by decide) v17 rfl rfl (Nat.le_of_ble_eq_true rfl) (fun x_1 m_1 hc_1 => ?_)
  obtain ⟨hv, σ, n, td, rfl, -⟩ := hc_1
  have hfe : fErr a.2.2.2 = nI e := by show frr (txt a.2.2.2 80 0) = _; rw [hx]; rfl
  refine e_bipush (v := -6) C dX7_execute_4 (by decide) ?_
  refine e_icmp_eq (tgt := 12) C dX7_execute_6 (by decide) (fun h_6 => ?_) (fun h_6 => ?_)
  · skip
    exact absurd (h_6.symm.trans (hv.trans hfe)).symm (nI_neN hep (by decide))
  · skip
    refine e_bipush (v := -5) C dX7_execute_9 (by decide) ?_
    exact f_ii C hX dX7_execute_11 ⟨by rw [exA, hx], by rw [exA, hx]; exact hM.tm.1, hM.tm.2⟩
set_option maxRecDepth 100000 in
set_option maxHeartbeats 4000000 in
theorem lp_X7_recordK2 {E : EV} {l : Launch} {X : CX} {mem M1 : MEM} {z : ZZ} {r : HP × Option ZZ × TX} {n : Nat} (hn5 : n < 5) (h18 : M1 (18, 0, 0) = z) (h2 : M1 (17, 0, 0) 2 = nI n) (hfin : (fun mm => Rec mem z r mm ∧ Kp mem mm) (up (sc M1 (19, 0, 0) (blo (M1 (19, 0, 0)) n z 894)) (17, 0, 0) 2 (nI (n + 1)))) (C : CK E X RX7 cX7_record 2 none 1) (hX : EX E X l (fun rr mm => rr = uv ∧ (Rec mem z r mm ∧ Kp mem mm))) : ∀ (lpn : Nat) (i : Nat), 894 - i < lpn → i ≤ 894 → G E X 2 51 [rv (17, 0, 0), iv (nI i)] [] (sc M1 (19, 0, 0) (blo (M1 (19, 0, 0)) n z i)) := by
  intro lpn
  induction lpn with
  | zero => intro i hlpn; exact absurd hlpn (Nat.not_lt_zero _)
  | succ lpn ih =>
    intro i hlpn hi
    refine e_iload_n C dX7_record_51 rfl ?_
    refine e_sipush (v := nI 894) C dX7_record_52 (by decide) ?_
    refine e_icmp_ge (tgt := 85) C dX7_record_55 (by decide) (fun h_55 => ?_) (fun h_55 => ?_)
    · skip
      have nh_55 := xI_leD (by omega) (by omega) h_55
      refine e_aload_n C dX7_record_85 rfl ?_
      refine e_dup C dX7_record_86 ?_
      refine e_geti C (ci := 7) 2 rfl rfl rfl (by decide) b_X7 rfl b_fl_X7_41 v17 rfl dX7_record_87 ?_
      refine f_val (y := nI (n)) (by rw [sc_o (by decide)]; exact h2) ?_
      refine e_iconst (v := nI 1) C dX7_record_90 (by decide) ?_
      refine f_iaddn C dX7_record_91 ?_
      refine e_puti C (ci := 7) 2 rfl rfl rfl (by decide) b_X7 rfl b_fl_X7_41 v17 tyX7 tyX7_ok nmX7 rfl (.inl ⟨rfl, rfl⟩) rfl dX7_record_92 ?_
      obtain rfl : i = 894 := by omega
      exact f_vu C hX dX7_record_95 hfin
    · skip
      have nh_55 := xI_nleD (by omega) (by omega) h_55
      refine e_aload_n C dX7_record_58 rfl ?_
      refine e_getr C (ci := 7) 1 rfl rfl rfl (by decide) b_X7 rfl b_fl_X7_13 v17 rfl dX7_record_59 ?_
      refine e_aload_n C dX7_record_62 rfl ?_
      refine e_geti C (ci := 7) 2 rfl rfl rfl (by decide) b_X7 rfl b_fl_X7_41 v17 rfl dX7_record_63 ?_
      refine f_val (y := nI (n)) (by rw [sc_o (by decide)]; exact h2) ?_
      refine e_sipush (v := nI 894) C dX7_record_66 (by decide) ?_
      refine f_imuln C dX7_record_69 ?_
      refine e_iload_n C dX7_record_70 rfl ?_
      refine f_iaddn C dX7_record_71 ?_
      refine e_aload_n C dX7_record_72 rfl ?_
      refine e_getr C (ci := 7) 0 rfl rfl rfl (by decide) b_X7 rfl b_fl_X7_7 v17 rfl dX7_record_73 ?_
      refine e_iload_n C dX7_record_76 rfl ?_
      refine f_iald C rfl v18 (by omega) (by decide) dX7_record_77 ?_
      refine f_iast C rfl v19 (by omega) (by decide) dX7_record_78 ?_
      rw [sc_o (mem := M1) (id := (19, 0, 0)) (a := (18, 0, 0)) (by decide), h18, up_sc, blo_s]
      refine f_iincn (ls1 := [_, _]) C dX7_record_79 rfl (by decide) rfl ?_
      refine e_goto (tgt := 51) C dX7_record_82 (by decide) ?_
      exact ih (i + 1) (by omega) (by omega)
set_option maxRecDepth 100000 in
set_option maxHeartbeats 4000000 in
theorem c_X7_recordK_a {E : EV} {l : Launch} {mem : MEM} {z : ZZ} {r : HP × Option ZZ × TX} (hr : RMr mem r) (hn5 : r.1.1 < 5) : Ct E l yX7_record (me_ws yX7_record cX7_record 2 none) 1 [rv (17, 0, 0)] (mz mem z) (fun rr mm => rr = uv ∧ (Rec mem z r mm ∧ Kp mem mm)) := by
  refine Ct.of (RC := RX7) (ls0 := [rv (17, 0, 0), uv]) mi_yX7_record (Nat.le_of_ble_eq_true rfl) rfl (fun X C hX => ?_)
  refine e_aload_n C dX7_record_0 rfl ?_
  refine e_geti C (ci := 7) 2 rfl rfl rfl (by decide) b_X7 rfl b_fl_X7_41 v17 rfl dX7_record_1 ?_
  refine f_val (y := nI (r.1.1)) (by rw [mz_o (by decide)]; exact hr.1.2.1) ?_
  refine e_iconst (v := nI 5) C dX7_record_4 (by decide) ?_
  refine e_icmp_ne (tgt := 49) C dX7_record_5 (by decide) (fun h_5 => ?_) (fun h_5 => ?_)
  · skip
    have nh_5 := xI_neD h_5
    refine e_iconst (v := nI 0) C dX7_record_49 (by decide) ?_
    refine f_istore_n (ls1 := [_, _]) C dX7_record_50 (by decide) rfl ?_
    rw [show mz mem z = sc (mz mem z) (19, 0, 0) (blo ((mz mem z) (19, 0, 0)) r.1.1 z 0) from by rw [blo_0, sc_self rfl]]; exact lp_X7_recordK2 hn5 mz_18 (by rw [mz_o (by decide)]; exact hr.1.2.1) ⟨rec_fin hr mz_18 (fun id _ h2 _ => mz_o h2) (fun j _ => by rw [mz_o (by decide)]) (Or.inl ⟨rfl, hn5, mz_o (by decide)⟩), Kp.of (fun j _ => by rw [mz_o (by decide)]) (mz_o (by decide))⟩ C hX 895 0 (by decide) (by decide)
  · skip
    have nh_5 := xI_inj (by omega) (by omega) h_5
    omega
set_option maxRecDepth 100000 in
set_option maxHeartbeats 4000000 in
theorem lp_X7_recordK1 {E : EV} {l : Launch} {X : CX} {mem : MEM} {z : ZZ} {r : HP × Option ZZ × TX} (hr : RMr mem r) (h5 : r.1.1 = 5) (C : CK E X RX7 cX7_record 2 none 1) (hX : EX E X l (fun rr mm => rr = uv ∧ (Rec mem z r mm ∧ Kp mem mm))) : ∀ (lpn : Nat) (i : Nat), 3576 - i < lpn → i ≤ 3576 → G E X 2 10 [rv (17, 0, 0), iv (nI i)] [] (sc (mz mem z) (19, 0, 0) (shf (mem (19, 0, 0)) i)) := by
  intro lpn
  induction lpn with
  | zero => intro i hlpn; exact absurd hlpn (Nat.not_lt_zero _)
  | succ lpn ih =>
    intro i hlpn hi
    refine e_iload_n C dX7_record_10 rfl ?_
    refine e_sipush (v := nI 3576) C dX7_record_11 (by decide) ?_
    refine e_icmp_ge (tgt := 39) C dX7_record_14 (by decide) (fun h_14 => ?_) (fun h_14 => ?_)
    · skip
      have nh_14 := xI_leD (by omega) (by omega) h_14
      obtain rfl : i = 3576 := by omega
      refine e_aload_n C dX7_record_39 rfl ?_
      refine e_dup C dX7_record_40 ?_
      refine e_geti C (ci := 7) 2 rfl rfl rfl (by decide) b_X7 rfl b_fl_X7_41 v17 rfl dX7_record_41 ?_
      refine f_val (y := nI (5)) (by rw [sc_o (by decide), mz_o (by decide)]; have := hr.1.2.1; rw [h5] at this; exact this) ?_
      refine e_iconst (v := nI 1) C dX7_record_44 (by decide) ?_
      refine f_isubn C (by omega) dX7_record_45 ?_
      refine e_puti C (ci := 7) 2 rfl rfl rfl (by decide) b_X7 rfl b_fl_X7_41 v17 tyX7 tyX7_ok nmX7 rfl (.inl ⟨rfl, rfl⟩) rfl dX7_record_46 ?_
      refine e_iconst (v := nI 0) C dX7_record_49 (by decide) ?_
      refine f_istore_n (ls1 := [_, _]) C dX7_record_50 (by decide) rfl ?_
      generalize hM1 : up (sc (mz mem z) (19, 0, 0) (shf (mem (19, 0, 0)) 3576)) (17, 0, 0) 2 (nI (5 - 1)) = M1
      have e18 : M1 (18, 0, 0) = z := by rw [← hM1, up_sco (by decide), sc_o (by decide), up_mzo (by decide), mz_18]
      have e19 : M1 (19, 0, 0) = shf (mem (19, 0, 0)) 3576 := by rw [← hM1, up_sco (by decide), sc_s]
      have eo : ∀ id : ID, id ≠ (17, 0, 0) → id ≠ (18, 0, 0) → id ≠ (19, 0, 0) → M1 id = mem id := fun id h1 h2 h3 => by rw [← hM1, up_sco (by decide), sc_o h3, up_mzo (by decide), mz_o h2]; funext b; simp [up, h1]
      have e17 : ∀ j, j ≠ 2 → M1 (17, 0, 0) j = mem (17, 0, 0) j := fun j hj => by rw [← hM1, up_sco (by decide), sc_o (by decide), up_mzo (by decide), mz_o (by decide)]; simp [up, hj]
      have e2 : M1 (17, 0, 0) 2 = nI 4 := by rw [← hM1]; simp [up]
      rw [show M1 = sc M1 (19, 0, 0) (blo (M1 (19, 0, 0)) 4 z 0) from by rw [blo_0, sc_self rfl]]
      exact lp_X7_recordK2 (by decide) e18 e2 ⟨rec_fin hr e18 eo e17 (Or.inr ⟨h5, rfl, e19⟩), Kp.of e17 (eo _ (by decide) (by decide) (by decide))⟩ C hX 895 0 (by decide) (by decide)
    · skip
      have nh_14 := xI_nleD (by omega) (by omega) h_14
      refine e_aload_n C dX7_record_17 rfl ?_
      refine e_getr C (ci := 7) 1 rfl rfl rfl (by decide) b_X7 rfl b_fl_X7_13 v17 rfl dX7_record_18 ?_
      refine e_iload_n C dX7_record_21 rfl ?_
      refine e_aload_n C dX7_record_22 rfl ?_
      refine e_getr C (ci := 7) 1 rfl rfl rfl (by decide) b_X7 rfl b_fl_X7_13 v17 rfl dX7_record_23 ?_
      refine e_iload_n C dX7_record_26 rfl ?_
      refine e_sipush (v := nI 894) C dX7_record_27 (by decide) ?_
      refine f_iaddn C dX7_record_30 ?_
      refine f_iald C rfl v19 (by omega) (by decide) dX7_record_31 ?_
      refine f_iast C rfl v19 (by omega) (by decide) dX7_record_32 ?_
      rw [sc_s, up_sc, shf_s]
      refine f_iincn (ls1 := [_, _]) C dX7_record_33 rfl (by decide) rfl ?_
      refine e_goto (tgt := 10) C dX7_record_36 (by decide) ?_
      exact ih (i + 1) (by omega) (by omega)
set_option maxRecDepth 100000 in
set_option maxHeartbeats 4000000 in
theorem c_X7_recordK_b {E : EV} {l : Launch} {mem : MEM} {z : ZZ} {r : HP × Option ZZ × TX} (hr : RMr mem r) (h5 : r.1.1 = 5) : Ct E l yX7_record (me_ws yX7_record cX7_record 2 none) 1 [rv (17, 0, 0)] (mz mem z) (fun rr mm => rr = uv ∧ (Rec mem z r mm ∧ Kp mem mm)) := by
  refine Ct.of (RC := RX7) (ls0 := [rv (17, 0, 0), uv]) mi_yX7_record (Nat.le_of_ble_eq_true rfl) rfl (fun X C hX => ?_)
  refine e_aload_n C dX7_record_0 rfl ?_
  refine e_geti C (ci := 7) 2 rfl rfl rfl (by decide) b_X7 rfl b_fl_X7_41 v17 rfl dX7_record_1 ?_
  refine f_val (y := nI (5)) (by rw [mz_o (by decide)]; have := hr.1.2.1; rw [h5] at this; exact this) ?_
  refine e_iconst (v := nI 5) C dX7_record_4 (by decide) ?_
  refine e_icmp_ne (tgt := 49) C dX7_record_5 (by decide) (fun h_5 => ?_) (fun h_5 => ?_)
  · skip
    exact absurd h_5 (by decide)
  · skip
    have nh_5 := xI_inj (by omega) (by omega) h_5
    refine e_iconst (v := nI 0) C dX7_record_8 (by decide) ?_
    refine f_istore_n (ls1 := [_, _]) C dX7_record_9 (by decide) rfl ?_
    rw [show mz mem z = sc (mz mem z) (19, 0, 0) (shf (mem (19, 0, 0)) 0) from by rw [shf_0, sc_self (mz_o (by decide))]]; exact lp_X7_recordK1 hr h5 C hX 3577 0 (by decide) (by decide)
theorem c_X7_recordK {E : EV} {l : Launch} {mem : MEM} {z : ZZ} {r : HP × Option ZZ × TX} (hr : RMr mem r) : Ct E l yX7_record (me_ws yX7_record cX7_record 2 none) 1 [rv (17, 0, 0)] (mz mem z) (fun rr mm => rr = uv ∧ (Rec mem z r mm ∧ Kp mem mm)) := by
  by_cases h : r.1.1 = 5
  · exact c_X7_recordK_b hr h
  · exact c_X7_recordK_a hr (by have := hr.1.1; omega)
set_option maxRecDepth 100000 in
set_option maxHeartbeats 4000000 in
theorem lp_X7_execute {E : EV} {l : Launch} {X : CX} {mem m0 : MEM} {a : AS} {l0 : List CMD} (hx : txt a.2.2.2 80 0 = .inr l0) (hr0 : RMr m0 (psh a.2.1 a.1, a.2.2)) (hf0 : FrM mem m0) (h8 : m0 (17, 0, 0) 8 = nI l0.length) (hl40 : l0.length ≤ 40) (hTD : ∀ k q, l0[k]? = some q → TDk (m0 (22, 0, 0)) k q) (hlet : ∀ (k : Nat) (q : CMD), l0[k]? = some q → q.1 = 119 ∨ q.1 = 114 ∨ q.1 = 116 ∨ q.1 = 109 ∨ q.1 = 104 ∨ q.1 = 106) (C : CK E X RX7 cX7_execute 2 (some .int) 9) (hX : EX E X l (fun rr mm => ∃ xx : Int32, rr = iv xx ∧ PoM mem ((exA a).2) ((exA a).1) xx mm)) : ∀ (lpn : Nat) (n : Nat) (z : ZZ), l0.length + 1 - n < lpn → n ≤ l0.length → Good z → n + (exs z (l0.drop n)).1 = (exs a.1 l0).1 → (exs z (l0.drop n)).2 = (exs a.1 l0).2 → G E X 2 18 [rv (17, 0, 0), iv (nI n)] [] (mz m0 z) := by
  intro lpn
  induction lpn with
  | zero => intro n z hlpn; exact absurd hlpn (Nat.not_lt_zero _)
  | succ lpn ih =>
    intro n z hlpn hn hGz ht1 ht2
    refine e_iload_n C dX7_execute_18 rfl ?_
    refine e_aload_n C dX7_execute_19 rfl ?_
    refine e_geti C (ci := 7) 8 rfl rfl rfl (by decide) b_X7 rfl b_fl_X7_162 v17 rfl dX7_execute_20 ?_
    refine f_val (y := nI (l0.length)) (by rw [mz_o (by decide)]; exact h8) ?_
    refine e_icmp_ge (tgt := 42) C dX7_execute_23 (by decide) (fun h_23 => ?_) (fun h_23 => ?_)
    · skip
      have nh_23 := xI_leD (by omega) (by omega) h_23
      refine e_aload_n C dX7_execute_42 rfl ?_
      refine e_iconst (v := nI 0) C dX7_execute_43 (by decide) ?_
      refine e_puti C (ci := 7) 6 rfl rfl rfl (by decide) b_X7 rfl b_fl_X7_142 v17 tyX7 tyX7_ok nmX7 rfl (.inl ⟨rfl, rfl⟩) rfl dX7_execute_44 ?_
      refine e_iload_n C dX7_execute_47 rfl ?_
      have hd0 : l0.drop n = [] := List.drop_eq_nil_of_le (by omega)
      rw [hd0] at ht1 ht2
      have hzf : z = (exs a.1 l0).2 := ht2
      have hnf : n = (exs a.1 l0).1 := ht1
      rw [hzf]
      have hp1 := RM.text (a := ((exs a.1 l0).2, psh a.2.1 a.1, a.2.2)) (mem := mz m0 (exs a.1 l0).2) (m := up (mz m0 (exs a.1 l0).2) (17, 0, 0) 6 (nI 0)) (t := (0, a.2.2.2.2)) ⟨mz_18, RMr.mz.mpr hr0⟩ (fun id h1 h2 _ => by funext b; simp [up, h1]) (by simp [up]) (by simp [up]) ⟨by show 0 ≤ 80; omega, by simp [up], fun j hj => absurd hj (Nat.not_lt_zero j)⟩
      have hfr : FrM mem (mz m0 (exs a.1 l0).2) := fun id hid => by rw [mz_o (fun e => by rw [e] at hid; revert hid; decide)]; exact hf0 id hid
      exact f_ii C hX dX7_execute_48 ⟨by rw [exA, hx, hnf], by rw [exA, hx]; exact hp1.1, hfr.trans hp1.2⟩
    · skip
      have nh_23 := xI_nleD (by omega) (by omega) h_23
      obtain ⟨c, hG⟩ := hGz
      obtain ⟨q, hq⟩ : ∃ q, l0[n]? = some q := ⟨l0[n], List.getElem?_eq_getElem (by omega)⟩
      have hdr : l0.drop n = q :: l0.drop (n + 1) := by
        rw [List.drop_eq_getElem_cons (by omega)]
        congr 1
        rw [List.getElem?_eq_getElem (by omega)] at hq
        exact Option.some.inj hq
      refine e_aload_n C dX7_execute_26 rfl ?_
      refine e_iconst (v := nI 4) C dX7_execute_27 (by decide) ?_
      refine e_iload_n C dX7_execute_28 rfl ?_
      refine f_imuln C dX7_execute_29 ?_
      refine f_callVi (As := [_]) (ci := 7) C mi_yX7_executeOne mv_yX7_executeOne b_ml_X7_177 dX7_execute_30 rfl (c_X7_executeOne hG (by omega) (hTD n q hq) (hlet n q hq)) (by decide) v17 rfl rfl (Nat.le_of_ble_eq_true rfl) (fun x_30 m_30 hc_30 => ?_)
      obtain ⟨rfl, hE⟩ := hc_30
      refine e_if_ne (tgt := 42) C dX7_execute_33 (by decide) (fun h_33 => ?_) (fun h_33 => ?_)
      · skip
        refine e_aload_n C dX7_execute_42 rfl ?_
        refine e_iconst (v := nI 0) C dX7_execute_43 (by decide) ?_
        refine e_puti C (ci := 7) 6 rfl rfl rfl (by decide) b_X7 rfl b_fl_X7_142 v17 tyX7 tyX7_ok nmX7 rfl (.inl ⟨rfl, rfl⟩) rfl dX7_execute_44 ?_
        refine e_iload_n C dX7_execute_47 rfl ?_
        have hex : isEr (exC z q).1 := hE.elim (fun r => absurd r.1 h_33) (fun r => r.2)
        have hzz : (exC z q).2 = z := (Alt.exC ⟨c, hG⟩).elim (fun r => r.1) (fun r => absurd hex r)
        have he1 : (exs z (l0.drop n)) = (0, z) := by rw [hdr, exs, cif_pos hex]
        rw [he1] at ht1 ht2
        have hzf : z = (exs a.1 l0).2 := ht2
        have hnf : n = (exs a.1 l0).1 := ht1
        rw [hzz, hzf]
        have hp1 := RM.text (a := ((exs a.1 l0).2, psh a.2.1 a.1, a.2.2)) (mem := mz m0 (exs a.1 l0).2) (m := up (mz m0 (exs a.1 l0).2) (17, 0, 0) 6 (nI 0)) (t := (0, a.2.2.2.2)) ⟨mz_18, RMr.mz.mpr hr0⟩ (fun id h1 h2 _ => by funext b; simp [up, h1]) (by simp [up]) (by simp [up]) ⟨by show 0 ≤ 80; omega, by simp [up], fun j hj => absurd hj (Nat.not_lt_zero j)⟩
        have hfr : FrM mem (mz m0 (exs a.1 l0).2) := fun id hid => by rw [mz_o (fun e => by rw [e] at hid; revert hid; decide)]; exact hf0 id hid
        exact f_ii C hX dX7_execute_48 ⟨by rw [exA, hx, hnf], by rw [exA, hx]; exact hp1.1, hfr.trans hp1.2⟩
      · skip
        refine f_iincn (ls1 := [_, _]) C dX7_execute_36 rfl (by decide) rfl ?_
        refine e_goto (tgt := 18) C dX7_execute_39 (by decide) ?_
        have hok : ¬ isEr (exC z q).1 := hE.elim (fun r => r.2) (fun r => absurd h_33 r.1)
        rw [hdr, exs, cif_neg hok] at ht1 ht2
        exact ih (n + 1) (exC z q).2 (by omega) (by omega) (Good.exC ⟨c, hG⟩) (by have : n + ((exs (exC z q).2 (l0.drop (n + 1))).1 + 1) = (exs a.1 l0).1 := ht1; omega) ht2
set_option maxRecDepth 100000 in
set_option maxHeartbeats 4000000 in
theorem c_X7_execute {E : EV} {l : Launch} {mem : MEM} {a : AS} (hM : RM mem a) (hT : MT_ mem a.2.2.2) (hGd : Good a.1) {l0 : List CMD} (hx : txt a.2.2.2 80 0 = .inr l0) (hlet : ∀ (k : Nat) (q : CMD), l0[k]? = some q → q.1 = 119 ∨ q.1 = 114 ∨ q.1 = 116 ∨ q.1 = 109 ∨ q.1 = 104 ∨ q.1 = 106) : Ct E l yX7_execute (me_ws yX7_execute cX7_execute 2 (some .int)) 9 [rv (17, 0, 0)] mem (fun rr mm => ∃ xx : Int32, rr = iv xx ∧ PoM mem ((exA a).2) ((exA a).1) xx mm) := by
  refine Ct.of (RC := RX7) (ls0 := [rv (17, 0, 0), uv]) mi_yX7_execute (Nat.le_of_ble_eq_true rfl) rfl (fun X C hX => ?_)
  refine e_aload_n C dX7_execute_0 rfl ?_
  refine f_callVi (As := []) (ci := 7) C mi_yX7_errorPosition mv_yX7_errorPosition b_ml_X7_174 dX7_execute_1 rfl (c_X7_errorPosition (by assumption)) (by decide) v17 rfl rfl (Nat.le_of_ble_eq_true rfl) (fun x_1 m_1 hc_1 => ?_)
  obtain ⟨hv, σ, n, td, rfl, hn40, hl⟩ := hc_1
  obtain ⟨hnl, hTD⟩ := hl l0 hx
  have hfe : fErr a.2.2.2 = -6 := fErr_r hx
  refine e_bipush (v := -6) C dX7_execute_4 (by decide) ?_
  refine e_icmp_eq (tgt := 12) C dX7_execute_6 (by decide) (fun h_6 => ?_) (fun h_6 => ?_)
  · skip
    refine e_aload_n C dX7_execute_12 rfl ?_
    have hM2 := (hM.tm (σ := σ) (n := n) (td := td)).1
    have hF2 := (hM.tm (σ := σ) (n := n) (td := td)).2
    refine e_mem (EqV.of (mz_self hM2.1).symm) ?_
    refine f_callVu (As := []) (ci := 7) C mi_yX7_record mv_yX7_record b_ml_X7_49 dX7_execute_13 rfl (c_X7_recordK hM2.2) (by decide) v17 rfl rfl (Nat.le_of_ble_eq_true rfl) (fun m_13 hc_13 => ?_)
    obtain ⟨m0, rfl, hr0, hf0, h17, h22⟩ := RecK.of hc_13.1 hc_13.2
    have h8 : m0 (17, 0, 0) 8 = nI l0.length := by rw [h17 8 (by decide), tm_8, hnl]
    have h22b : m0 (22, 0, 0) = td := by rw [h22, tm_22]
    refine e_iconst (v := nI 0) C dX7_execute_16 (by decide) ?_
    refine f_istore_n (ls1 := [_, _]) C dX7_execute_17 (by decide) rfl ?_
    exact lp_X7_execute hx hr0 (hF2.trans hf0) h8 (by omega) (by rw [h22b]; exact hTD) hlet C hX (l0.length + 2) 0 a.1 (by omega) (Nat.zero_le _) hGd (by rw [List.drop_zero, Nat.zero_add]) (by rw [List.drop_zero])
  · skip
    exact absurd (hv.trans hfe) h_6
theorem txt_let {t : TX} : ∀ (k i : Nat) (l : List CMD), txt t k i = .inr l → ∀ (j : Nat) (q : CMD), l[j]? = some q → q.1 = 119 ∨ q.1 = 114 ∨ q.1 = 116 ∨ q.1 = 109 ∨ q.1 = 104 ∨ q.1 = 106
  | 0, i, l, h => by rw [txt] at h; cases h
  | k + 1, i, l, h => by
    intro j q hj
    cases hc : cmd t i with
    | inl x => rw [txt_l hc] at h; cases h
    | inr y =>
      obtain ⟨e2, q2⟩ := y
      have hl := cmd_l hc
      by_cases he : e2 = t.1
      · rw [txt_e hc he] at h
        cases h
        cases j with
        | zero => cases hj; exact hl.2.2.2.2.2
        | succ j => simp at hj
      · by_cases hs : chc t e2 = nI 59
        · rw [txt_s hc he hs] at h
          cases h2 : txt t k (e2 + 1) with
          | inl x => rw [h2] at h; cases h
          | inr l2 =>
            rw [h2] at h
            cases h
            cases j with
            | zero => cases hj; exact hl.2.2.2.2.2
            | succ j => exact txt_let k (e2 + 1) l2 h2 j q (by simpa using hj)
        · rw [txt_n hc he hs] at h; cases h
theorem c_X7_execA {E : EV} {l : Launch} {mem : MEM} {a : AS} (hM : RM mem a) (hT : TOk a.2.2.2) (hG : Good a.1) : Ct E l yX7_execute (me_ws yX7_execute cX7_execute 2 (some .int)) 9 [rv (17, 0, 0)] mem (fun rr mm => ∃ xx : Int32, rr = iv xx ∧ PoM mem ((exA a).2) ((exA a).1) xx mm) := by
  cases hx : txt a.2.2.2 80 0 with
  | inl e => exact c_X7_execute_e hM (hM.MT hT) hx (by have := txt_el 80 0 e (Nat.zero_le _) hx; have := hM.2.2.2.1; omega)
  | inr l0 => exact c_X7_execute hM (hM.MT hT) hG hx (txt_let 80 0 l0 hx)
