/-! ===== the model's text: commands, errors ===== -/
section MQ2
variable {E : EV} {X : CX} {own : String} {cc : ByteArray} {nL : Nat} {ret : Option FieldType} {dep pc : Nat} {ls st : List VV} {mem : MEM}
theorem f_callVq2 (C : CK E X own cc nL ret dep) {y2 : MethodName} {cc2 : ByteArray} {nL2 index ci N dep2 : Nat} {ret2 : Option FieldType} {RC : String} {T : u_T} {id : ID} {As rest : List VV} {t : TX} {mem0 : MEM} {i n : Nat} {td : Nat → Int32} (mi : MI y2 cc2 nL2 ret2 RC As.length) (mv : MV y2 RC) (ml : Cond.methodLink own index y2 ∈ BW) (hdg : decode cc pc = .ok (.invokevirtual index, 3)) (hst : st = As.reverse ++ rv id :: rest) (hM : Ct E X.2.1 y2 (me_ws y2 cc2 nL2 ret2) dep2 (rv id :: As) mem (fun rr mm => rr = uv ∧ Rq t mem0 n td i mm)) (hdep : dep2 + 1 ≤ dep) (hv : vd id) (hk : me_kd id.1 = .inl ci) (hc : vwCl[ci]? = some (RC, T, N)) (hrest : rest.length ≤ 8)
    (h1 : ∀ e d, cmd t i = .inl e → (∀ j, j < 4 * n → d j = td j) → G E X nL (pc + 3) ls rest (tm mem0 (.inl e) (n + 1) d)) (h2 : ∀ e q d, cmd t i = .inr (e, q) → (∀ j, j < 4 * n → d j = td j) → TDk d n q → G E X nL (pc + 3) ls rest (tm mem0 (.inr e) (n + 1) d)) : G E X nL pc ls st mem :=
  e_callV C mi mv ml hdg hst hM hdep hv hk hc hrest (fun r m q => by
    obtain ⟨rfl, d, rfl, ho, hq⟩ := q
    cases hcm : cmd t i with
    | inl e => exact h1 e d hcm ho
    | inr a =>
      obtain ⟨e, q⟩ := a
      exact h2 e q d hcm ho (hq e q hcm))
end MQ2

set_option maxRecDepth 100000 in
set_option maxHeartbeats 4000000 in
theorem c_X7_readCommand_w {E : EV} {l : Launch} {mem : MEM} {t : TX} (hT : MT_ mem t) {i n : Nat} {td : Nat → Int32} (hi : i ≤ 100) (hn : n ≤ 40) (hl : chc t i = nI 119) : Ct E l yX7_readCommand (me_ws yX7_readCommand cX7_readCommand 3 none) 4 [rv (17, 0, 0)] (tm mem (.inr i) n td) (fun rr mm => rr = uv ∧ Rq t mem n td i mm) := by
  refine Ct.of (RC := RX7) (ls0 := [rv (17, 0, 0), uv, uv]) mi_yX7_readCommand (Nat.le_of_ble_eq_true rfl) rfl (fun X C hX => ?_)
  refine e_iconst (v := nI 4) C dX7_readCommand_0 (by decide) ?_
  refine e_aload_n C dX7_readCommand_1 rfl ?_
  refine e_geti C (ci := 7) 8 rfl rfl rfl (by decide) b_X7 rfl b_fl_X7_162 v17 rfl dX7_readCommand_2 ?_
  refine f_val (y := nI (n)) tm_8 ?_
  refine f_imuln C dX7_readCommand_5 ?_
  refine f_istore_n (ls1 := [_, _, _]) C dX7_readCommand_6 (by decide) rfl ?_
  refine e_aload_n C dX7_readCommand_7 rfl ?_
  refine f_callVr (As := []) (ci := 7) C mi_yX7_letter mv_yX7_letter b_ml_X7_151 dX7_readCommand_8 rfl (c_X7_letter hT (b := 100) (by decide) hi) (by decide) v17 rfl rfl (Nat.le_of_ble_eq_true rfl) ?_
  refine f_val (y := nI (119)) (show ltr t i = nI 119 from (ltr_in (by rw [hl]; decide)).trans hl) ?_
  refine f_istore_n (ls1 := [_, _, _]) C dX7_readCommand_11 (by decide) rfl ?_
  refine e_aload_n C dX7_readCommand_12 rfl ?_
  refine e_iload_n C dX7_readCommand_13 rfl ?_
  refine e_bipush (v := nI 119) C dX7_readCommand_14 (by decide) ?_
  refine e_icmp_eq (tgt := 49) C dX7_readCommand_16 (by decide) (fun h_16 => ?_) (fun h_16 => ?_)
  · skip
    have nh_16 := xI_inj (by omega) (by omega) h_16
    refine e_iconst (v := nI 1) C dX7_readCommand_49 (by decide) ?_
    refine e_goto (tgt := 54) C dX7_readCommand_50 (by decide) ?_
    refine f_val (b2i_1 (P := True) trivial) ?_
    refine f_callVv (As := [_]) (ci := 7) C mi_yX7_wants mv_yX7_wants b_ml_X7_155 dX7_readCommand_54 rfl (c_X7_wants (σ := .inr i) (b := 100) (by decide) hi) (by decide) v17 rfl rfl (Nat.le_of_ble_eq_true rfl) ?_
    refine e_mem (m' := tm mem (.inr (i + 1)) n td) (EqV.of (congrArg (fun s => tm mem s n td) (show wnt (.inr i) True = (.inr (i + 1) : PSt) from cif_pos trivial))) ?_
    have hb0 : sp (.inr (i + 1)) ≤ 101 := Nat.succ_le_succ hi
    refine e_aload_n C dX7_readCommand_57 rfl ?_
    refine e_getr C (ci := 7) 7 rfl rfl rfl (by decide) b_X7 rfl b_fl_X7_23 v17 rfl dX7_readCommand_58 ?_
    refine e_iload_n C dX7_readCommand_61 rfl ?_
    refine e_iload_n C dX7_readCommand_62 rfl ?_
    refine f_iast C rfl v22 (by omega) (by decide) dX7_readCommand_63 ?_
    rw [up_tm22]
    refine e_aload_n C dX7_readCommand_64 rfl ?_
    refine e_getr C (ci := 7) 7 rfl rfl rfl (by decide) b_X7 rfl b_fl_X7_23 v17 rfl dX7_readCommand_65 ?_
    refine e_iload_n C dX7_readCommand_68 rfl ?_
    refine e_iconst (v := nI 1) C dX7_readCommand_69 (by decide) ?_
    refine f_iaddn C dX7_readCommand_70 ?_
    refine e_iload_n C dX7_readCommand_71 rfl ?_
    refine e_bipush (v := nI 116) C dX7_readCommand_72 (by decide) ?_
    refine e_icmp_ne (tgt := 84) C dX7_readCommand_74 (by decide) (fun h_74 => ?_) (fun h_74 => ?_)
    · skip
      have nh_74 := xI_neD h_74
      refine e_aload_n C dX7_readCommand_84 rfl ?_
      refine f_callVi (As := []) (ci := 7) C mi_yX7_digit mv_yX7_digit b_ml_X7_159 dX7_readCommand_85 rfl (c_X7_digit hT (b := 101) (by decide) hb0) (by decide) v17 rfl rfl (Nat.le_of_ble_eq_true rfl) (fun x_85 m_85 hc_85 => ?_)
      obtain ⟨rfl, hv_85⟩ := hc_85
      refine f_iast C rfl v22 (by omega) (by decide) dX7_readCommand_88 ?_
      rw [up_tm22]
      refine e_iload_n C dX7_readCommand_89 rfl ?_
      refine e_bipush (v := nI 119) C dX7_readCommand_90 (by decide) ?_
      refine e_icmp_eq (tgt := 101) C dX7_readCommand_92 (by decide) (fun h_92 => ?_) (fun h_92 => ?_)
      · skip
        have nh_92 := xI_inj (by omega) (by omega) h_92
        refine e_aload_n C dX7_readCommand_101 rfl ?_
        refine e_aload_n C dX7_readCommand_102 rfl ?_
        refine f_callVr (As := []) (ci := 7) C mi_yX7_letter mv_yX7_letter b_ml_X7_151 dX7_readCommand_103 rfl (c_X7_letter hT (b := 102) (by decide) (sp_w hb0)) (by decide) v17 rfl rfl (Nat.le_of_ble_eq_true rfl) ?_
        refine e_bipush (v := nI 58) C dX7_readCommand_106 (by decide) ?_
        refine e_icmp_ne (tgt := 115) C dX7_readCommand_108 (by decide) (fun h_108 => ?_) (fun h_108 => ?_)
        · skip
          refine e_iconst (v := nI 0) C dX7_readCommand_115 (by decide) ?_
          refine f_val (b2i_0 (fun q => h_108 ((ltr_c (by decide) (by decide)).mpr q))) ?_
          refine f_callVv (As := [_]) (ci := 7) C mi_yX7_wants mv_yX7_wants b_ml_X7_155 dX7_readCommand_116 rfl (c_X7_wants (b := 102) (by decide) (sp_w hb0)) (by decide) v17 rfl rfl (Nat.le_of_ble_eq_true rfl) ?_
          refine e_aload_n C dX7_readCommand_119 rfl ?_
          refine e_getr C (ci := 7) 7 rfl rfl rfl (by decide) b_X7 rfl b_fl_X7_23 v17 rfl dX7_readCommand_120 ?_
          refine e_iload_n C dX7_readCommand_123 rfl ?_
          refine e_iconst (v := nI 2) C dX7_readCommand_124 (by decide) ?_
          refine f_iaddn C dX7_readCommand_125 ?_
          refine e_aload_n C dX7_readCommand_126 rfl ?_
          refine f_callVi (As := []) (ci := 7) C mi_yX7_number mv_yX7_number b_ml_X7_165 dX7_readCommand_127 rfl (c_X7_number hT (b := 103) (by decide) (sp_w (sp_w hb0))) (by decide) v17 rfl rfl (Nat.le_of_ble_eq_true rfl) (fun x_127 m_127 hc_127 => ?_)
          obtain ⟨rfl, hv_127⟩ := hc_127
          refine f_iast C rfl v22 (by omega) (by decide) dX7_readCommand_130 ?_
          rw [up_tm22]
          refine e_iload_n C dX7_readCommand_131 rfl ?_
          refine e_bipush (v := nI 119) C dX7_readCommand_132 (by decide) ?_
          refine e_icmp_ne (tgt := 167) C dX7_readCommand_134 (by decide) (fun h_134 => ?_) (fun h_134 => ?_)
          · skip
            exact absurd h_134 (by decide)
          · skip
            have nh_134 := xI_inj (by omega) (by omega) h_134
            refine e_aload_n C dX7_readCommand_137 rfl ?_
            refine e_aload_n C dX7_readCommand_138 rfl ?_
            refine f_callVr (As := []) (ci := 7) C mi_yX7_letter mv_yX7_letter b_ml_X7_151 dX7_readCommand_139 rfl (c_X7_letter hT (b := 106) (by decide) (sp_n (sp_w (sp_w hb0)))) (by decide) v17 rfl rfl (Nat.le_of_ble_eq_true rfl) ?_
            refine e_bipush (v := nI 61) C dX7_readCommand_142 (by decide) ?_
            refine e_icmp_ne (tgt := 151) C dX7_readCommand_144 (by decide) (fun h_144 => ?_) (fun h_144 => ?_)
            · skip
              refine e_iconst (v := nI 0) C dX7_readCommand_151 (by decide) ?_
              refine f_val (b2i_0 (fun q => h_144 ((ltr_c (by decide) (by decide)).mpr q))) ?_
              refine f_callVv (As := [_]) (ci := 7) C mi_yX7_wants mv_yX7_wants b_ml_X7_155 dX7_readCommand_152 rfl (c_X7_wants (b := 106) (by decide) (sp_n (sp_w (sp_w hb0)))) (by decide) v17 rfl rfl (Nat.le_of_ble_eq_true rfl) ?_
              refine e_aload_n C dX7_readCommand_155 rfl ?_
              refine e_getr C (ci := 7) 7 rfl rfl rfl (by decide) b_X7 rfl b_fl_X7_23 v17 rfl dX7_readCommand_156 ?_
              refine e_iload_n C dX7_readCommand_159 rfl ?_
              refine e_iconst (v := nI 3) C dX7_readCommand_160 (by decide) ?_
              refine f_iaddn C dX7_readCommand_161 ?_
              refine e_aload_n C dX7_readCommand_162 rfl ?_
              refine f_callVi (As := []) (ci := 7) C mi_yX7_number mv_yX7_number b_ml_X7_165 dX7_readCommand_163 rfl (c_X7_number hT (b := 107) (by decide) (sp_w (sp_n (sp_w (sp_w hb0))))) (by decide) v17 rfl rfl (Nat.le_of_ble_eq_true rfl) (fun x_163 m_163 hc_163 => ?_)
              obtain ⟨rfl, hv_163⟩ := hc_163
              refine f_iast C rfl v22 (by omega) (by decide) dX7_readCommand_166 ?_
              rw [up_tm22]
              refine e_iload_n C dX7_readCommand_167 rfl ?_
              refine e_bipush (v := nI 109) C dX7_readCommand_168 (by decide) ?_
              refine e_icmp_eq (tgt := 179) C dX7_readCommand_170 (by decide) (fun h_170 => ?_) (fun h_170 => ?_)
              · skip
                exact absurd h_170 (by decide)
              · skip
                have nh_170 := xI_neD h_170
                refine e_iload_n C dX7_readCommand_173 rfl ?_
                refine e_bipush (v := nI 104) C dX7_readCommand_174 (by decide) ?_
                refine e_icmp_ne (tgt := 222) C dX7_readCommand_176 (by decide) (fun h_176 => ?_) (fun h_176 => ?_)
                · skip
                  have nh_176 := xI_neD h_176
                  refine e_iload_n C dX7_readCommand_222 rfl ?_
                  refine e_bipush (v := nI 106) C dX7_readCommand_223 (by decide) ?_
                  refine e_icmp_ne (tgt := 258) C dX7_readCommand_225 (by decide) (fun h_225 => ?_) (fun h_225 => ?_)
                  · skip
                    have nh_225 := xI_neD h_225
                    refine e_aload_n C dX7_readCommand_258 rfl ?_
                    refine e_dup C dX7_readCommand_259 ?_
                    refine e_geti C (ci := 7) 8 rfl rfl rfl (by decide) b_X7 rfl b_fl_X7_162 v17 rfl dX7_readCommand_260 ?_
                    refine f_val (y := nI (n)) tm_8 ?_
                    refine e_iconst (v := nI 1) C dX7_readCommand_263 (by decide) ?_
                    refine f_iaddn C dX7_readCommand_264 ?_
                    refine e_puti C (ci := 7) 8 rfl rfl rfl (by decide) b_X7 rfl b_fl_X7_162 v17 tyX7 tyX7_ok nmX7 rfl (.inl ⟨rfl, rfl⟩) rfl dX7_readCommand_265 ?_
                    rw [up_tm8]
                    have hpos : (bnd (wnt (bnd (wnt (wnt (.inr (i + 1) : PSt) (isD (chc t (sp (.inr (i + 1) : PSt))))) (chc t (sp (wnt (.inr (i + 1) : PSt) (isD (chc t (sp (.inr (i + 1) : PSt)))))) = nI 58)) (pNp t)) (chc t (sp (bnd (wnt (wnt (.inr (i + 1) : PSt) (isD (chc t (sp (.inr (i + 1) : PSt))))) (chc t (sp (wnt (.inr (i + 1) : PSt) (isD (chc t (sp (.inr (i + 1) : PSt)))))) = nI 58)) (pNp t))) = nI 61)) (pNp t)) = posC (cmd t i) := by
                      rw [cmd_w hl]
                      by_cases g1 : isD (chc t (i + 1))
                      · skip
                        by_cases g2 : chc t (i + 1 + 1) = nI 58
                        · skip
                          by_cases g3 : isD (chc t (i + 1 + 1 + 1))
                          · skip
                            by_cases g4 : chc t ((nul t 2 (i + 1 + 1 + 1 + 1) (dv t (i + 1 + 1 + 1))).1) = nI 61
                            · skip
                              by_cases g5 : isD (chc t ((nul t 2 (i + 1 + 1 + 1 + 1) (dv t (i + 1 + 1 + 1))).1 + 1))
                              · skip
                                simp only [pw, pD, pN, pP, sgn, bnd, wnt, sp, pNp, posC, cif_pos g1, cif_pos g2, cif_pos g3, cif_pos g4, cif_pos g5]
                              · simp only [pw, pD, pN, pP, sgn, bnd, wnt, sp, pNp, posC, cif_pos g1, cif_pos g2, cif_pos g3, cif_pos g4, cif_neg g5]
                            · simp only [pw, pD, pN, pP, sgn, bnd, wnt, sp, pNp, posC, cif_pos g1, cif_pos g2, cif_pos g3, cif_neg g4]
                          · simp only [pw, pD, pN, pP, sgn, bnd, wnt, sp, pNp, posC, cif_pos g1, cif_pos g2, cif_neg g3]
                        · simp only [pw, pD, pN, pP, sgn, bnd, wnt, sp, pNp, posC, cif_pos g1, cif_neg g2]
                      · simp only [pw, pD, pN, pP, sgn, bnd, wnt, sp, pNp, posC, cif_neg g1]
                    have hval : ∀ e q, cmd t i = .inr (e, q) → TDk ((upd (upd (upd (upd td (4 * n) (nI 119)) (4 * n + 1) x_85) (4 * n + 2) x_127) (4 * n + 3) x_163)) n q := by
                      intro e q hcm
                      rw [cmd_w hl] at hcm
                      by_cases g1 : isD (chc t (i + 1))
                      case neg => simp only [pw, pD, pN, pP, sgn, bnd, wnt, sp, pNp, posC, cif_neg g1, reduceCtorEq] at hcm
                      case pos =>
                        by_cases g2 : chc t (i + 1 + 1) = nI 58
                        case neg => simp only [pw, pD, pN, pP, sgn, bnd, wnt, sp, pNp, posC, cif_pos g1, cif_neg g2, reduceCtorEq] at hcm
                        case pos =>
                          by_cases g3 : isD (chc t (i + 1 + 1 + 1))
                          case neg => simp only [pw, pD, pN, pP, sgn, bnd, wnt, sp, pNp, posC, cif_pos g1, cif_pos g2, cif_neg g3, reduceCtorEq] at hcm
                          case pos =>
                            by_cases g4 : chc t ((nul t 2 (i + 1 + 1 + 1 + 1) (dv t (i + 1 + 1 + 1))).1) = nI 61
                            case neg => simp only [pw, pD, pN, pP, sgn, bnd, wnt, sp, pNp, posC, cif_pos g1, cif_pos g2, cif_pos g3, cif_neg g4, reduceCtorEq] at hcm
                            case pos =>
                              by_cases g5 : isD (chc t ((nul t 2 (i + 1 + 1 + 1 + 1) (dv t (i + 1 + 1 + 1))).1 + 1))
                              case neg => simp only [pw, pD, pN, pP, sgn, bnd, wnt, sp, pNp, posC, cif_pos g1, cif_pos g2, cif_pos g3, cif_pos g4, cif_neg g5, reduceCtorEq] at hcm
                              case pos =>
                                simp only [pw, pD, pN, pP, sgn, bnd, wnt, sp, pNp, posC, cif_pos g1, cif_pos g2, cif_pos g3, cif_pos g4, cif_pos g5, Sum.inr.injEq, Prod.mk.injEq] at hcm
                                obtain ⟨-, rfl⟩ := hcm
                                have w_85 : x_85 = nI (dv t (i + 1)) := by
                                  have hh := hv_85
                                  have es : sp (.inr (i + 1) : PSt) = i + 1 := by simp only [pw, pD, pN, pP, sgn, bnd, wnt, sp, pNp, posC]
                                  rw [es] at hh
                                  exact hh g1
                                have w_127 : x_127 = nI (nul t 2 (i + 1 + 1 + 1 + 1) (dv t (i + 1 + 1 + 1))).2 := hv_127 (i + 1 + 1 + 1) (by simp only [pw, pD, pN, pP, sgn, bnd, wnt, sp, pNp, posC, cif_pos g1, cif_pos g2]) g3
                                have w_163 : x_163 = nI (nul t 2 ((nul t 2 (i + 1 + 1 + 1 + 1) (dv t (i + 1 + 1 + 1))).1 + 1 + 1) (dv t ((nul t 2 (i + 1 + 1 + 1 + 1) (dv t (i + 1 + 1 + 1))).1 + 1))).2 := hv_163 ((nul t 2 (i + 1 + 1 + 1 + 1) (dv t (i + 1 + 1 + 1))).1 + 1) (by simp only [pw, pD, pN, pP, sgn, bnd, wnt, sp, pNp, posC, cif_pos g1, cif_pos g2, cif_pos g3, cif_pos g4]) g5
                                exact ⟨by unfold upd; rw [if_neg (by omega), if_neg (by omega), if_neg (by omega), if_pos rfl], by unfold upd; rw [if_neg (by omega), if_neg (by omega), if_pos rfl, w_85], fun _ => by unfold upd; rw [if_neg (by omega), if_pos rfl, w_127], fun _ => by unfold upd; rw [if_pos rfl, w_163]⟩
                    exact f_vu C hX dX7_readCommand_268 (Rq.of hpos (fun j hj => by unfold upd; rw [if_neg (by omega), if_neg (by omega), if_neg (by omega), if_neg (by omega)]) hval)
                  · skip
                    exact absurd h_225 (by decide)
                · skip
                  exact absurd h_176 (by decide)
            · skip
              refine e_iconst (v := nI 1) C dX7_readCommand_147 (by decide) ?_
              refine e_goto (tgt := 152) C dX7_readCommand_148 (by decide) ?_
              refine f_val (b2i_1 ((ltr_c (by decide) (by decide)).mp h_144)) ?_
              refine f_callVv (As := [_]) (ci := 7) C mi_yX7_wants mv_yX7_wants b_ml_X7_155 dX7_readCommand_152 rfl (c_X7_wants (b := 106) (by decide) (sp_n (sp_w (sp_w hb0)))) (by decide) v17 rfl rfl (Nat.le_of_ble_eq_true rfl) ?_
              refine e_aload_n C dX7_readCommand_155 rfl ?_
              refine e_getr C (ci := 7) 7 rfl rfl rfl (by decide) b_X7 rfl b_fl_X7_23 v17 rfl dX7_readCommand_156 ?_
              refine e_iload_n C dX7_readCommand_159 rfl ?_
              refine e_iconst (v := nI 3) C dX7_readCommand_160 (by decide) ?_
              refine f_iaddn C dX7_readCommand_161 ?_
              refine e_aload_n C dX7_readCommand_162 rfl ?_
              refine f_callVi (As := []) (ci := 7) C mi_yX7_number mv_yX7_number b_ml_X7_165 dX7_readCommand_163 rfl (c_X7_number hT (b := 107) (by decide) (sp_w (sp_n (sp_w (sp_w hb0))))) (by decide) v17 rfl rfl (Nat.le_of_ble_eq_true rfl) (fun x_163 m_163 hc_163 => ?_)
              obtain ⟨rfl, hv_163⟩ := hc_163
              refine f_iast C rfl v22 (by omega) (by decide) dX7_readCommand_166 ?_
              rw [up_tm22]
              refine e_iload_n C dX7_readCommand_167 rfl ?_
              refine e_bipush (v := nI 109) C dX7_readCommand_168 (by decide) ?_
              refine e_icmp_eq (tgt := 179) C dX7_readCommand_170 (by decide) (fun h_170 => ?_) (fun h_170 => ?_)
              · skip
                exact absurd h_170 (by decide)
              · skip
                have nh_170 := xI_neD h_170
                refine e_iload_n C dX7_readCommand_173 rfl ?_
                refine e_bipush (v := nI 104) C dX7_readCommand_174 (by decide) ?_
                refine e_icmp_ne (tgt := 222) C dX7_readCommand_176 (by decide) (fun h_176 => ?_) (fun h_176 => ?_)
                · skip
                  have nh_176 := xI_neD h_176
                  refine e_iload_n C dX7_readCommand_222 rfl ?_
                  refine e_bipush (v := nI 106) C dX7_readCommand_223 (by decide) ?_
                  refine e_icmp_ne (tgt := 258) C dX7_readCommand_225 (by decide) (fun h_225 => ?_) (fun h_225 => ?_)
                  · skip
                    have nh_225 := xI_neD h_225
                    refine e_aload_n C dX7_readCommand_258 rfl ?_
                    refine e_dup C dX7_readCommand_259 ?_
                    refine e_geti C (ci := 7) 8 rfl rfl rfl (by decide) b_X7 rfl b_fl_X7_162 v17 rfl dX7_readCommand_260 ?_
                    refine f_val (y := nI (n)) tm_8 ?_
                    refine e_iconst (v := nI 1) C dX7_readCommand_263 (by decide) ?_
                    refine f_iaddn C dX7_readCommand_264 ?_
                    refine e_puti C (ci := 7) 8 rfl rfl rfl (by decide) b_X7 rfl b_fl_X7_162 v17 tyX7 tyX7_ok nmX7 rfl (.inl ⟨rfl, rfl⟩) rfl dX7_readCommand_265 ?_
                    rw [up_tm8]
                    have hpos : (bnd (wnt (bnd (wnt (wnt (.inr (i + 1) : PSt) (isD (chc t (sp (.inr (i + 1) : PSt))))) (chc t (sp (wnt (.inr (i + 1) : PSt) (isD (chc t (sp (.inr (i + 1) : PSt)))))) = nI 58)) (pNp t)) (chc t (sp (bnd (wnt (wnt (.inr (i + 1) : PSt) (isD (chc t (sp (.inr (i + 1) : PSt))))) (chc t (sp (wnt (.inr (i + 1) : PSt) (isD (chc t (sp (.inr (i + 1) : PSt)))))) = nI 58)) (pNp t))) = nI 61)) (pNp t)) = posC (cmd t i) := by
                      rw [cmd_w hl]
                      by_cases g1 : isD (chc t (i + 1))
                      · skip
                        by_cases g2 : chc t (i + 1 + 1) = nI 58
                        · skip
                          by_cases g3 : isD (chc t (i + 1 + 1 + 1))
                          · skip
                            by_cases g4 : chc t ((nul t 2 (i + 1 + 1 + 1 + 1) (dv t (i + 1 + 1 + 1))).1) = nI 61
                            · skip
                              by_cases g5 : isD (chc t ((nul t 2 (i + 1 + 1 + 1 + 1) (dv t (i + 1 + 1 + 1))).1 + 1))
                              · skip
                                simp only [pw, pD, pN, pP, sgn, bnd, wnt, sp, pNp, posC, cif_pos g1, cif_pos g2, cif_pos g3, cif_pos g4, cif_pos g5]
                              · simp only [pw, pD, pN, pP, sgn, bnd, wnt, sp, pNp, posC, cif_pos g1, cif_pos g2, cif_pos g3, cif_pos g4, cif_neg g5]
                            · simp only [pw, pD, pN, pP, sgn, bnd, wnt, sp, pNp, posC, cif_pos g1, cif_pos g2, cif_pos g3, cif_neg g4]
                          · simp only [pw, pD, pN, pP, sgn, bnd, wnt, sp, pNp, posC, cif_pos g1, cif_pos g2, cif_neg g3]
                        · simp only [pw, pD, pN, pP, sgn, bnd, wnt, sp, pNp, posC, cif_pos g1, cif_neg g2]
                      · simp only [pw, pD, pN, pP, sgn, bnd, wnt, sp, pNp, posC, cif_neg g1]
                    have hval : ∀ e q, cmd t i = .inr (e, q) → TDk ((upd (upd (upd (upd td (4 * n) (nI 119)) (4 * n + 1) x_85) (4 * n + 2) x_127) (4 * n + 3) x_163)) n q := by
                      intro e q hcm
                      rw [cmd_w hl] at hcm
                      by_cases g1 : isD (chc t (i + 1))
                      case neg => simp only [pw, pD, pN, pP, sgn, bnd, wnt, sp, pNp, posC, cif_neg g1, reduceCtorEq] at hcm
                      case pos =>
                        by_cases g2 : chc t (i + 1 + 1) = nI 58
                        case neg => simp only [pw, pD, pN, pP, sgn, bnd, wnt, sp, pNp, posC, cif_pos g1, cif_neg g2, reduceCtorEq] at hcm
                        case pos =>
                          by_cases g3 : isD (chc t (i + 1 + 1 + 1))
                          case neg => simp only [pw, pD, pN, pP, sgn, bnd, wnt, sp, pNp, posC, cif_pos g1, cif_pos g2, cif_neg g3, reduceCtorEq] at hcm
                          case pos =>
                            by_cases g4 : chc t ((nul t 2 (i + 1 + 1 + 1 + 1) (dv t (i + 1 + 1 + 1))).1) = nI 61
                            case neg => simp only [pw, pD, pN, pP, sgn, bnd, wnt, sp, pNp, posC, cif_pos g1, cif_pos g2, cif_pos g3, cif_neg g4, reduceCtorEq] at hcm
                            case pos =>
                              by_cases g5 : isD (chc t ((nul t 2 (i + 1 + 1 + 1 + 1) (dv t (i + 1 + 1 + 1))).1 + 1))
                              case neg => simp only [pw, pD, pN, pP, sgn, bnd, wnt, sp, pNp, posC, cif_pos g1, cif_pos g2, cif_pos g3, cif_pos g4, cif_neg g5, reduceCtorEq] at hcm
                              case pos =>
                                simp only [pw, pD, pN, pP, sgn, bnd, wnt, sp, pNp, posC, cif_pos g1, cif_pos g2, cif_pos g3, cif_pos g4, cif_pos g5, Sum.inr.injEq, Prod.mk.injEq] at hcm
                                obtain ⟨-, rfl⟩ := hcm
                                have w_85 : x_85 = nI (dv t (i + 1)) := by
                                  have hh := hv_85
                                  have es : sp (.inr (i + 1) : PSt) = i + 1 := by simp only [pw, pD, pN, pP, sgn, bnd, wnt, sp, pNp, posC]
                                  rw [es] at hh
                                  exact hh g1
                                have w_127 : x_127 = nI (nul t 2 (i + 1 + 1 + 1 + 1) (dv t (i + 1 + 1 + 1))).2 := hv_127 (i + 1 + 1 + 1) (by simp only [pw, pD, pN, pP, sgn, bnd, wnt, sp, pNp, posC, cif_pos g1, cif_pos g2]) g3
                                have w_163 : x_163 = nI (nul t 2 ((nul t 2 (i + 1 + 1 + 1 + 1) (dv t (i + 1 + 1 + 1))).1 + 1 + 1) (dv t ((nul t 2 (i + 1 + 1 + 1 + 1) (dv t (i + 1 + 1 + 1))).1 + 1))).2 := hv_163 ((nul t 2 (i + 1 + 1 + 1 + 1) (dv t (i + 1 + 1 + 1))).1 + 1) (by simp only [pw, pD, pN, pP, sgn, bnd, wnt, sp, pNp, posC, cif_pos g1, cif_pos g2, cif_pos g3, cif_pos g4]) g5
                                exact ⟨by unfold upd; rw [if_neg (by omega), if_neg (by omega), if_neg (by omega), if_pos rfl], by unfold upd; rw [if_neg (by omega), if_neg (by omega), if_pos rfl, w_85], fun _ => by unfold upd; rw [if_neg (by omega), if_pos rfl, w_127], fun _ => by unfold upd; rw [if_pos rfl, w_163]⟩
                    exact f_vu C hX dX7_readCommand_268 (Rq.of hpos (fun j hj => by unfold upd; rw [if_neg (by omega), if_neg (by omega), if_neg (by omega), if_neg (by omega)]) hval)
                  · skip
                    exact absurd h_225 (by decide)
                · skip
                  exact absurd h_176 (by decide)
        · skip
          refine e_iconst (v := nI 1) C dX7_readCommand_111 (by decide) ?_
          refine e_goto (tgt := 116) C dX7_readCommand_112 (by decide) ?_
          refine f_val (b2i_1 ((ltr_c (by decide) (by decide)).mp h_108)) ?_
          refine f_callVv (As := [_]) (ci := 7) C mi_yX7_wants mv_yX7_wants b_ml_X7_155 dX7_readCommand_116 rfl (c_X7_wants (b := 102) (by decide) (sp_w hb0)) (by decide) v17 rfl rfl (Nat.le_of_ble_eq_true rfl) ?_
          refine e_aload_n C dX7_readCommand_119 rfl ?_
          refine e_getr C (ci := 7) 7 rfl rfl rfl (by decide) b_X7 rfl b_fl_X7_23 v17 rfl dX7_readCommand_120 ?_
          refine e_iload_n C dX7_readCommand_123 rfl ?_
          refine e_iconst (v := nI 2) C dX7_readCommand_124 (by decide) ?_
          refine f_iaddn C dX7_readCommand_125 ?_
          refine e_aload_n C dX7_readCommand_126 rfl ?_
          refine f_callVi (As := []) (ci := 7) C mi_yX7_number mv_yX7_number b_ml_X7_165 dX7_readCommand_127 rfl (c_X7_number hT (b := 103) (by decide) (sp_w (sp_w hb0))) (by decide) v17 rfl rfl (Nat.le_of_ble_eq_true rfl) (fun x_127 m_127 hc_127 => ?_)
          obtain ⟨rfl, hv_127⟩ := hc_127
          refine f_iast C rfl v22 (by omega) (by decide) dX7_readCommand_130 ?_
          rw [up_tm22]
          refine e_iload_n C dX7_readCommand_131 rfl ?_
          refine e_bipush (v := nI 119) C dX7_readCommand_132 (by decide) ?_
          refine e_icmp_ne (tgt := 167) C dX7_readCommand_134 (by decide) (fun h_134 => ?_) (fun h_134 => ?_)
          · skip
            exact absurd h_134 (by decide)
          · skip
            have nh_134 := xI_inj (by omega) (by omega) h_134
            refine e_aload_n C dX7_readCommand_137 rfl ?_
            refine e_aload_n C dX7_readCommand_138 rfl ?_
            refine f_callVr (As := []) (ci := 7) C mi_yX7_letter mv_yX7_letter b_ml_X7_151 dX7_readCommand_139 rfl (c_X7_letter hT (b := 106) (by decide) (sp_n (sp_w (sp_w hb0)))) (by decide) v17 rfl rfl (Nat.le_of_ble_eq_true rfl) ?_
            refine e_bipush (v := nI 61) C dX7_readCommand_142 (by decide) ?_
            refine e_icmp_ne (tgt := 151) C dX7_readCommand_144 (by decide) (fun h_144 => ?_) (fun h_144 => ?_)
            · skip
              refine e_iconst (v := nI 0) C dX7_readCommand_151 (by decide) ?_
              refine f_val (b2i_0 (fun q => h_144 ((ltr_c (by decide) (by decide)).mpr q))) ?_
              refine f_callVv (As := [_]) (ci := 7) C mi_yX7_wants mv_yX7_wants b_ml_X7_155 dX7_readCommand_152 rfl (c_X7_wants (b := 106) (by decide) (sp_n (sp_w (sp_w hb0)))) (by decide) v17 rfl rfl (Nat.le_of_ble_eq_true rfl) ?_
              refine e_aload_n C dX7_readCommand_155 rfl ?_
              refine e_getr C (ci := 7) 7 rfl rfl rfl (by decide) b_X7 rfl b_fl_X7_23 v17 rfl dX7_readCommand_156 ?_
              refine e_iload_n C dX7_readCommand_159 rfl ?_
              refine e_iconst (v := nI 3) C dX7_readCommand_160 (by decide) ?_
              refine f_iaddn C dX7_readCommand_161 ?_
              refine e_aload_n C dX7_readCommand_162 rfl ?_
              refine f_callVi (As := []) (ci := 7) C mi_yX7_number mv_yX7_number b_ml_X7_165 dX7_readCommand_163 rfl (c_X7_number hT (b := 107) (by decide) (sp_w (sp_n (sp_w (sp_w hb0))))) (by decide) v17 rfl rfl (Nat.le_of_ble_eq_true rfl) (fun x_163 m_163 hc_163 => ?_)
              obtain ⟨rfl, hv_163⟩ := hc_163
              refine f_iast C rfl v22 (by omega) (by decide) dX7_readCommand_166 ?_
              rw [up_tm22]
              refine e_iload_n C dX7_readCommand_167 rfl ?_
              refine e_bipush (v := nI 109) C dX7_readCommand_168 (by decide) ?_
              refine e_icmp_eq (tgt := 179) C dX7_readCommand_170 (by decide) (fun h_170 => ?_) (fun h_170 => ?_)
              · skip
                exact absurd h_170 (by decide)
              · skip
                have nh_170 := xI_neD h_170
                refine e_iload_n C dX7_readCommand_173 rfl ?_
                refine e_bipush (v := nI 104) C dX7_readCommand_174 (by decide) ?_
                refine e_icmp_ne (tgt := 222) C dX7_readCommand_176 (by decide) (fun h_176 => ?_) (fun h_176 => ?_)
                · skip
                  have nh_176 := xI_neD h_176
                  refine e_iload_n C dX7_readCommand_222 rfl ?_
                  refine e_bipush (v := nI 106) C dX7_readCommand_223 (by decide) ?_
                  refine e_icmp_ne (tgt := 258) C dX7_readCommand_225 (by decide) (fun h_225 => ?_) (fun h_225 => ?_)
                  · skip
                    have nh_225 := xI_neD h_225
                    refine e_aload_n C dX7_readCommand_258 rfl ?_
                    refine e_dup C dX7_readCommand_259 ?_
                    refine e_geti C (ci := 7) 8 rfl rfl rfl (by decide) b_X7 rfl b_fl_X7_162 v17 rfl dX7_readCommand_260 ?_
                    refine f_val (y := nI (n)) tm_8 ?_
                    refine e_iconst (v := nI 1) C dX7_readCommand_263 (by decide) ?_
                    refine f_iaddn C dX7_readCommand_264 ?_
                    refine e_puti C (ci := 7) 8 rfl rfl rfl (by decide) b_X7 rfl b_fl_X7_162 v17 tyX7 tyX7_ok nmX7 rfl (.inl ⟨rfl, rfl⟩) rfl dX7_readCommand_265 ?_
                    rw [up_tm8]
                    have hpos : (bnd (wnt (bnd (wnt (wnt (.inr (i + 1) : PSt) (isD (chc t (sp (.inr (i + 1) : PSt))))) (chc t (sp (wnt (.inr (i + 1) : PSt) (isD (chc t (sp (.inr (i + 1) : PSt)))))) = nI 58)) (pNp t)) (chc t (sp (bnd (wnt (wnt (.inr (i + 1) : PSt) (isD (chc t (sp (.inr (i + 1) : PSt))))) (chc t (sp (wnt (.inr (i + 1) : PSt) (isD (chc t (sp (.inr (i + 1) : PSt)))))) = nI 58)) (pNp t))) = nI 61)) (pNp t)) = posC (cmd t i) := by
                      rw [cmd_w hl]
                      by_cases g1 : isD (chc t (i + 1))
                      · skip
                        by_cases g2 : chc t (i + 1 + 1) = nI 58
                        · skip
                          by_cases g3 : isD (chc t (i + 1 + 1 + 1))
                          · skip
                            by_cases g4 : chc t ((nul t 2 (i + 1 + 1 + 1 + 1) (dv t (i + 1 + 1 + 1))).1) = nI 61
                            · skip
                              by_cases g5 : isD (chc t ((nul t 2 (i + 1 + 1 + 1 + 1) (dv t (i + 1 + 1 + 1))).1 + 1))
                              · skip
                                simp only [pw, pD, pN, pP, sgn, bnd, wnt, sp, pNp, posC, cif_pos g1, cif_pos g2, cif_pos g3, cif_pos g4, cif_pos g5]
                              · simp only [pw, pD, pN, pP, sgn, bnd, wnt, sp, pNp, posC, cif_pos g1, cif_pos g2, cif_pos g3, cif_pos g4, cif_neg g5]
                            · simp only [pw, pD, pN, pP, sgn, bnd, wnt, sp, pNp, posC, cif_pos g1, cif_pos g2, cif_pos g3, cif_neg g4]
                          · simp only [pw, pD, pN, pP, sgn, bnd, wnt, sp, pNp, posC, cif_pos g1, cif_pos g2, cif_neg g3]
                        · simp only [pw, pD, pN, pP, sgn, bnd, wnt, sp, pNp, posC, cif_pos g1, cif_neg g2]
                      · simp only [pw, pD, pN, pP, sgn, bnd, wnt, sp, pNp, posC, cif_neg g1]
                    have hval : ∀ e q, cmd t i = .inr (e, q) → TDk ((upd (upd (upd (upd td (4 * n) (nI 119)) (4 * n + 1) x_85) (4 * n + 2) x_127) (4 * n + 3) x_163)) n q := by
                      intro e q hcm
                      rw [cmd_w hl] at hcm
                      by_cases g1 : isD (chc t (i + 1))
                      case neg => simp only [pw, pD, pN, pP, sgn, bnd, wnt, sp, pNp, posC, cif_neg g1, reduceCtorEq] at hcm
                      case pos =>
                        by_cases g2 : chc t (i + 1 + 1) = nI 58
                        case neg => simp only [pw, pD, pN, pP, sgn, bnd, wnt, sp, pNp, posC, cif_pos g1, cif_neg g2, reduceCtorEq] at hcm
                        case pos =>
                          by_cases g3 : isD (chc t (i + 1 + 1 + 1))
                          case neg => simp only [pw, pD, pN, pP, sgn, bnd, wnt, sp, pNp, posC, cif_pos g1, cif_pos g2, cif_neg g3, reduceCtorEq] at hcm
                          case pos =>
                            by_cases g4 : chc t ((nul t 2 (i + 1 + 1 + 1 + 1) (dv t (i + 1 + 1 + 1))).1) = nI 61
                            case neg => simp only [pw, pD, pN, pP, sgn, bnd, wnt, sp, pNp, posC, cif_pos g1, cif_pos g2, cif_pos g3, cif_neg g4, reduceCtorEq] at hcm
                            case pos =>
                              by_cases g5 : isD (chc t ((nul t 2 (i + 1 + 1 + 1 + 1) (dv t (i + 1 + 1 + 1))).1 + 1))
                              case neg => simp only [pw, pD, pN, pP, sgn, bnd, wnt, sp, pNp, posC, cif_pos g1, cif_pos g2, cif_pos g3, cif_pos g4, cif_neg g5, reduceCtorEq] at hcm
                              case pos =>
                                simp only [pw, pD, pN, pP, sgn, bnd, wnt, sp, pNp, posC, cif_pos g1, cif_pos g2, cif_pos g3, cif_pos g4, cif_pos g5, Sum.inr.injEq, Prod.mk.injEq] at hcm
                                obtain ⟨-, rfl⟩ := hcm
                                have w_85 : x_85 = nI (dv t (i + 1)) := by
                                  have hh := hv_85
                                  have es : sp (.inr (i + 1) : PSt) = i + 1 := by simp only [pw, pD, pN, pP, sgn, bnd, wnt, sp, pNp, posC]
                                  rw [es] at hh
                                  exact hh g1
                                have w_127 : x_127 = nI (nul t 2 (i + 1 + 1 + 1 + 1) (dv t (i + 1 + 1 + 1))).2 := hv_127 (i + 1 + 1 + 1) (by simp only [pw, pD, pN, pP, sgn, bnd, wnt, sp, pNp, posC, cif_pos g1, cif_pos g2]) g3
                                have w_163 : x_163 = nI (nul t 2 ((nul t 2 (i + 1 + 1 + 1 + 1) (dv t (i + 1 + 1 + 1))).1 + 1 + 1) (dv t ((nul t 2 (i + 1 + 1 + 1 + 1) (dv t (i + 1 + 1 + 1))).1 + 1))).2 := hv_163 ((nul t 2 (i + 1 + 1 + 1 + 1) (dv t (i + 1 + 1 + 1))).1 + 1) (by simp only [pw, pD, pN, pP, sgn, bnd, wnt, sp, pNp, posC, cif_pos g1, cif_pos g2, cif_pos g3, cif_pos g4]) g5
                                exact ⟨by unfold upd; rw [if_neg (by omega), if_neg (by omega), if_neg (by omega), if_pos rfl], by unfold upd; rw [if_neg (by omega), if_neg (by omega), if_pos rfl, w_85], fun _ => by unfold upd; rw [if_neg (by omega), if_pos rfl, w_127], fun _ => by unfold upd; rw [if_pos rfl, w_163]⟩
                    exact f_vu C hX dX7_readCommand_268 (Rq.of hpos (fun j hj => by unfold upd; rw [if_neg (by omega), if_neg (by omega), if_neg (by omega), if_neg (by omega)]) hval)
                  · skip
                    exact absurd h_225 (by decide)
                · skip
                  exact absurd h_176 (by decide)
            · skip
              refine e_iconst (v := nI 1) C dX7_readCommand_147 (by decide) ?_
              refine e_goto (tgt := 152) C dX7_readCommand_148 (by decide) ?_
              refine f_val (b2i_1 ((ltr_c (by decide) (by decide)).mp h_144)) ?_
              refine f_callVv (As := [_]) (ci := 7) C mi_yX7_wants mv_yX7_wants b_ml_X7_155 dX7_readCommand_152 rfl (c_X7_wants (b := 106) (by decide) (sp_n (sp_w (sp_w hb0)))) (by decide) v17 rfl rfl (Nat.le_of_ble_eq_true rfl) ?_
              refine e_aload_n C dX7_readCommand_155 rfl ?_
              refine e_getr C (ci := 7) 7 rfl rfl rfl (by decide) b_X7 rfl b_fl_X7_23 v17 rfl dX7_readCommand_156 ?_
              refine e_iload_n C dX7_readCommand_159 rfl ?_
              refine e_iconst (v := nI 3) C dX7_readCommand_160 (by decide) ?_
              refine f_iaddn C dX7_readCommand_161 ?_
              refine e_aload_n C dX7_readCommand_162 rfl ?_
              refine f_callVi (As := []) (ci := 7) C mi_yX7_number mv_yX7_number b_ml_X7_165 dX7_readCommand_163 rfl (c_X7_number hT (b := 107) (by decide) (sp_w (sp_n (sp_w (sp_w hb0))))) (by decide) v17 rfl rfl (Nat.le_of_ble_eq_true rfl) (fun x_163 m_163 hc_163 => ?_)
              obtain ⟨rfl, hv_163⟩ := hc_163
              refine f_iast C rfl v22 (by omega) (by decide) dX7_readCommand_166 ?_
              rw [up_tm22]
              refine e_iload_n C dX7_readCommand_167 rfl ?_
              refine e_bipush (v := nI 109) C dX7_readCommand_168 (by decide) ?_
              refine e_icmp_eq (tgt := 179) C dX7_readCommand_170 (by decide) (fun h_170 => ?_) (fun h_170 => ?_)
              · skip
                exact absurd h_170 (by decide)
              · skip
                have nh_170 := xI_neD h_170
                refine e_iload_n C dX7_readCommand_173 rfl ?_
                refine e_bipush (v := nI 104) C dX7_readCommand_174 (by decide) ?_
                refine e_icmp_ne (tgt := 222) C dX7_readCommand_176 (by decide) (fun h_176 => ?_) (fun h_176 => ?_)
                · skip
                  have nh_176 := xI_neD h_176
                  refine e_iload_n C dX7_readCommand_222 rfl ?_
                  refine e_bipush (v := nI 106) C dX7_readCommand_223 (by decide) ?_
                  refine e_icmp_ne (tgt := 258) C dX7_readCommand_225 (by decide) (fun h_225 => ?_) (fun h_225 => ?_)
                  · skip
                    have nh_225 := xI_neD h_225
                    refine e_aload_n C dX7_readCommand_258 rfl ?_
                    refine e_dup C dX7_readCommand_259 ?_
                    refine e_geti C (ci := 7) 8 rfl rfl rfl (by decide) b_X7 rfl b_fl_X7_162 v17 rfl dX7_readCommand_260 ?_
                    refine f_val (y := nI (n)) tm_8 ?_
                    refine e_iconst (v := nI 1) C dX7_readCommand_263 (by decide) ?_
                    refine f_iaddn C dX7_readCommand_264 ?_
                    refine e_puti C (ci := 7) 8 rfl rfl rfl (by decide) b_X7 rfl b_fl_X7_162 v17 tyX7 tyX7_ok nmX7 rfl (.inl ⟨rfl, rfl⟩) rfl dX7_readCommand_265 ?_
                    rw [up_tm8]
                    have hpos : (bnd (wnt (bnd (wnt (wnt (.inr (i + 1) : PSt) (isD (chc t (sp (.inr (i + 1) : PSt))))) (chc t (sp (wnt (.inr (i + 1) : PSt) (isD (chc t (sp (.inr (i + 1) : PSt)))))) = nI 58)) (pNp t)) (chc t (sp (bnd (wnt (wnt (.inr (i + 1) : PSt) (isD (chc t (sp (.inr (i + 1) : PSt))))) (chc t (sp (wnt (.inr (i + 1) : PSt) (isD (chc t (sp (.inr (i + 1) : PSt)))))) = nI 58)) (pNp t))) = nI 61)) (pNp t)) = posC (cmd t i) := by
                      rw [cmd_w hl]
                      by_cases g1 : isD (chc t (i + 1))
                      · skip
                        by_cases g2 : chc t (i + 1 + 1) = nI 58
                        · skip
                          by_cases g3 : isD (chc t (i + 1 + 1 + 1))
                          · skip
                            by_cases g4 : chc t ((nul t 2 (i + 1 + 1 + 1 + 1) (dv t (i + 1 + 1 + 1))).1) = nI 61
                            · skip
                              by_cases g5 : isD (chc t ((nul t 2 (i + 1 + 1 + 1 + 1) (dv t (i + 1 + 1 + 1))).1 + 1))
                              · skip
                                simp only [pw, pD, pN, pP, sgn, bnd, wnt, sp, pNp, posC, cif_pos g1, cif_pos g2, cif_pos g3, cif_pos g4, cif_pos g5]
                              · simp only [pw, pD, pN, pP, sgn, bnd, wnt, sp, pNp, posC, cif_pos g1, cif_pos g2, cif_pos g3, cif_pos g4, cif_neg g5]
                            · simp only [pw, pD, pN, pP, sgn, bnd, wnt, sp, pNp, posC, cif_pos g1, cif_pos g2, cif_pos g3, cif_neg g4]
                          · simp only [pw, pD, pN, pP, sgn, bnd, wnt, sp, pNp, posC, cif_pos g1, cif_pos g2, cif_neg g3]
                        · simp only [pw, pD, pN, pP, sgn, bnd, wnt, sp, pNp, posC, cif_pos g1, cif_neg g2]
                      · simp only [pw, pD, pN, pP, sgn, bnd, wnt, sp, pNp, posC, cif_neg g1]
                    have hval : ∀ e q, cmd t i = .inr (e, q) → TDk ((upd (upd (upd (upd td (4 * n) (nI 119)) (4 * n + 1) x_85) (4 * n + 2) x_127) (4 * n + 3) x_163)) n q := by
                      intro e q hcm
                      rw [cmd_w hl] at hcm
                      by_cases g1 : isD (chc t (i + 1))
                      case neg => simp only [pw, pD, pN, pP, sgn, bnd, wnt, sp, pNp, posC, cif_neg g1, reduceCtorEq] at hcm
                      case pos =>
                        by_cases g2 : chc t (i + 1 + 1) = nI 58
                        case neg => simp only [pw, pD, pN, pP, sgn, bnd, wnt, sp, pNp, posC, cif_pos g1, cif_neg g2, reduceCtorEq] at hcm
                        case pos =>
                          by_cases g3 : isD (chc t (i + 1 + 1 + 1))
                          case neg => simp only [pw, pD, pN, pP, sgn, bnd, wnt, sp, pNp, posC, cif_pos g1, cif_pos g2, cif_neg g3, reduceCtorEq] at hcm
                          case pos =>
                            by_cases g4 : chc t ((nul t 2 (i + 1 + 1 + 1 + 1) (dv t (i + 1 + 1 + 1))).1) = nI 61
                            case neg => simp only [pw, pD, pN, pP, sgn, bnd, wnt, sp, pNp, posC, cif_pos g1, cif_pos g2, cif_pos g3, cif_neg g4, reduceCtorEq] at hcm
                            case pos =>
                              by_cases g5 : isD (chc t ((nul t 2 (i + 1 + 1 + 1 + 1) (dv t (i + 1 + 1 + 1))).1 + 1))
                              case neg => simp only [pw, pD, pN, pP, sgn, bnd, wnt, sp, pNp, posC, cif_pos g1, cif_pos g2, cif_pos g3, cif_pos g4, cif_neg g5, reduceCtorEq] at hcm
                              case pos =>
                                simp only [pw, pD, pN, pP, sgn, bnd, wnt, sp, pNp, posC, cif_pos g1, cif_pos g2, cif_pos g3, cif_pos g4, cif_pos g5, Sum.inr.injEq, Prod.mk.injEq] at hcm
                                obtain ⟨-, rfl⟩ := hcm
                                have w_85 : x_85 = nI (dv t (i + 1)) := by
                                  have hh := hv_85
                                  have es : sp (.inr (i + 1) : PSt) = i + 1 := by simp only [pw, pD, pN, pP, sgn, bnd, wnt, sp, pNp, posC]
                                  rw [es] at hh
                                  exact hh g1
                                have w_127 : x_127 = nI (nul t 2 (i + 1 + 1 + 1 + 1) (dv t (i + 1 + 1 + 1))).2 := hv_127 (i + 1 + 1 + 1) (by simp only [pw, pD, pN, pP, sgn, bnd, wnt, sp, pNp, posC, cif_pos g1, cif_pos g2]) g3
                                have w_163 : x_163 = nI (nul t 2 ((nul t 2 (i + 1 + 1 + 1 + 1) (dv t (i + 1 + 1 + 1))).1 + 1 + 1) (dv t ((nul t 2 (i + 1 + 1 + 1 + 1) (dv t (i + 1 + 1 + 1))).1 + 1))).2 := hv_163 ((nul t 2 (i + 1 + 1 + 1 + 1) (dv t (i + 1 + 1 + 1))).1 + 1) (by simp only [pw, pD, pN, pP, sgn, bnd, wnt, sp, pNp, posC, cif_pos g1, cif_pos g2, cif_pos g3, cif_pos g4]) g5
                                exact ⟨by unfold upd; rw [if_neg (by omega), if_neg (by omega), if_neg (by omega), if_pos rfl], by unfold upd; rw [if_neg (by omega), if_neg (by omega), if_pos rfl, w_85], fun _ => by unfold upd; rw [if_neg (by omega), if_pos rfl, w_127], fun _ => by unfold upd; rw [if_pos rfl, w_163]⟩
                    exact f_vu C hX dX7_readCommand_268 (Rq.of hpos (fun j hj => by unfold upd; rw [if_neg (by omega), if_neg (by omega), if_neg (by omega), if_neg (by omega)]) hval)
                  · skip
                    exact absurd h_225 (by decide)
                · skip
                  exact absurd h_176 (by decide)
      · skip
        exact absurd (by decide) h_92
    · skip
      exact absurd h_74 (by decide)
  · skip
    exact absurd (by decide) h_16
set_option maxRecDepth 100000 in
set_option maxHeartbeats 4000000 in
theorem c_X7_readCommand_r {E : EV} {l : Launch} {mem : MEM} {t : TX} (hT : MT_ mem t) {i n : Nat} {td : Nat → Int32} (hi : i ≤ 100) (hn : n ≤ 40) (hl : chc t i = nI 114) : Ct E l yX7_readCommand (me_ws yX7_readCommand cX7_readCommand 3 none) 4 [rv (17, 0, 0)] (tm mem (.inr i) n td) (fun rr mm => rr = uv ∧ Rq t mem n td i mm) := by
  refine Ct.of (RC := RX7) (ls0 := [rv (17, 0, 0), uv, uv]) mi_yX7_readCommand (Nat.le_of_ble_eq_true rfl) rfl (fun X C hX => ?_)
  refine e_iconst (v := nI 4) C dX7_readCommand_0 (by decide) ?_
  refine e_aload_n C dX7_readCommand_1 rfl ?_
  refine e_geti C (ci := 7) 8 rfl rfl rfl (by decide) b_X7 rfl b_fl_X7_162 v17 rfl dX7_readCommand_2 ?_
  refine f_val (y := nI (n)) tm_8 ?_
  refine f_imuln C dX7_readCommand_5 ?_
  refine f_istore_n (ls1 := [_, _, _]) C dX7_readCommand_6 (by decide) rfl ?_
  refine e_aload_n C dX7_readCommand_7 rfl ?_
  refine f_callVr (As := []) (ci := 7) C mi_yX7_letter mv_yX7_letter b_ml_X7_151 dX7_readCommand_8 rfl (c_X7_letter hT (b := 100) (by decide) hi) (by decide) v17 rfl rfl (Nat.le_of_ble_eq_true rfl) ?_
  refine f_val (y := nI (114)) (show ltr t i = nI 114 from (ltr_in (by rw [hl]; decide)).trans hl) ?_
  refine f_istore_n (ls1 := [_, _, _]) C dX7_readCommand_11 (by decide) rfl ?_
  refine e_aload_n C dX7_readCommand_12 rfl ?_
  refine e_iload_n C dX7_readCommand_13 rfl ?_
  refine e_bipush (v := nI 119) C dX7_readCommand_14 (by decide) ?_
  refine e_icmp_eq (tgt := 49) C dX7_readCommand_16 (by decide) (fun h_16 => ?_) (fun h_16 => ?_)
  · skip
    exact absurd h_16 (by decide)
  · skip
    have nh_16 := xI_neD h_16
    refine e_iload_n C dX7_readCommand_19 rfl ?_
    refine e_bipush (v := nI 114) C dX7_readCommand_20 (by decide) ?_
    refine e_icmp_eq (tgt := 49) C dX7_readCommand_22 (by decide) (fun h_22 => ?_) (fun h_22 => ?_)
    · skip
      have nh_22 := xI_inj (by omega) (by omega) h_22
      refine e_iconst (v := nI 1) C dX7_readCommand_49 (by decide) ?_
      refine e_goto (tgt := 54) C dX7_readCommand_50 (by decide) ?_
      refine f_val (b2i_1 (P := True) trivial) ?_
      refine f_callVv (As := [_]) (ci := 7) C mi_yX7_wants mv_yX7_wants b_ml_X7_155 dX7_readCommand_54 rfl (c_X7_wants (σ := .inr i) (b := 100) (by decide) hi) (by decide) v17 rfl rfl (Nat.le_of_ble_eq_true rfl) ?_
      refine e_mem (m' := tm mem (.inr (i + 1)) n td) (EqV.of (congrArg (fun s => tm mem s n td) (show wnt (.inr i) True = (.inr (i + 1) : PSt) from cif_pos trivial))) ?_
      have hb0 : sp (.inr (i + 1)) ≤ 101 := Nat.succ_le_succ hi
      refine e_aload_n C dX7_readCommand_57 rfl ?_
      refine e_getr C (ci := 7) 7 rfl rfl rfl (by decide) b_X7 rfl b_fl_X7_23 v17 rfl dX7_readCommand_58 ?_
      refine e_iload_n C dX7_readCommand_61 rfl ?_
      refine e_iload_n C dX7_readCommand_62 rfl ?_
      refine f_iast C rfl v22 (by omega) (by decide) dX7_readCommand_63 ?_
      rw [up_tm22]
      refine e_aload_n C dX7_readCommand_64 rfl ?_
      refine e_getr C (ci := 7) 7 rfl rfl rfl (by decide) b_X7 rfl b_fl_X7_23 v17 rfl dX7_readCommand_65 ?_
      refine e_iload_n C dX7_readCommand_68 rfl ?_
      refine e_iconst (v := nI 1) C dX7_readCommand_69 (by decide) ?_
      refine f_iaddn C dX7_readCommand_70 ?_
      refine e_iload_n C dX7_readCommand_71 rfl ?_
      refine e_bipush (v := nI 116) C dX7_readCommand_72 (by decide) ?_
      refine e_icmp_ne (tgt := 84) C dX7_readCommand_74 (by decide) (fun h_74 => ?_) (fun h_74 => ?_)
      · skip
        have nh_74 := xI_neD h_74
        refine e_aload_n C dX7_readCommand_84 rfl ?_
        refine f_callVi (As := []) (ci := 7) C mi_yX7_digit mv_yX7_digit b_ml_X7_159 dX7_readCommand_85 rfl (c_X7_digit hT (b := 101) (by decide) hb0) (by decide) v17 rfl rfl (Nat.le_of_ble_eq_true rfl) (fun x_85 m_85 hc_85 => ?_)
        obtain ⟨rfl, hv_85⟩ := hc_85
        refine f_iast C rfl v22 (by omega) (by decide) dX7_readCommand_88 ?_
        rw [up_tm22]
        refine e_iload_n C dX7_readCommand_89 rfl ?_
        refine e_bipush (v := nI 119) C dX7_readCommand_90 (by decide) ?_
        refine e_icmp_eq (tgt := 101) C dX7_readCommand_92 (by decide) (fun h_92 => ?_) (fun h_92 => ?_)
        · skip
          exact absurd h_92 (by decide)
        · skip
          have nh_92 := xI_neD h_92
          refine e_iload_n C dX7_readCommand_95 rfl ?_
          refine e_bipush (v := nI 114) C dX7_readCommand_96 (by decide) ?_
          refine e_icmp_ne (tgt := 131) C dX7_readCommand_98 (by decide) (fun h_98 => ?_) (fun h_98 => ?_)
          · skip
            exact absurd h_98 (by decide)
          · skip
            have nh_98 := xI_inj (by omega) (by omega) h_98
            refine e_aload_n C dX7_readCommand_101 rfl ?_
            refine e_aload_n C dX7_readCommand_102 rfl ?_
            refine f_callVr (As := []) (ci := 7) C mi_yX7_letter mv_yX7_letter b_ml_X7_151 dX7_readCommand_103 rfl (c_X7_letter hT (b := 102) (by decide) (sp_w hb0)) (by decide) v17 rfl rfl (Nat.le_of_ble_eq_true rfl) ?_
            refine e_bipush (v := nI 58) C dX7_readCommand_106 (by decide) ?_
            refine e_icmp_ne (tgt := 115) C dX7_readCommand_108 (by decide) (fun h_108 => ?_) (fun h_108 => ?_)
            · skip
              refine e_iconst (v := nI 0) C dX7_readCommand_115 (by decide) ?_
              refine f_val (b2i_0 (fun q => h_108 ((ltr_c (by decide) (by decide)).mpr q))) ?_
              refine f_callVv (As := [_]) (ci := 7) C mi_yX7_wants mv_yX7_wants b_ml_X7_155 dX7_readCommand_116 rfl (c_X7_wants (b := 102) (by decide) (sp_w hb0)) (by decide) v17 rfl rfl (Nat.le_of_ble_eq_true rfl) ?_
              refine e_aload_n C dX7_readCommand_119 rfl ?_
              refine e_getr C (ci := 7) 7 rfl rfl rfl (by decide) b_X7 rfl b_fl_X7_23 v17 rfl dX7_readCommand_120 ?_
              refine e_iload_n C dX7_readCommand_123 rfl ?_
              refine e_iconst (v := nI 2) C dX7_readCommand_124 (by decide) ?_
              refine f_iaddn C dX7_readCommand_125 ?_
              refine e_aload_n C dX7_readCommand_126 rfl ?_
              refine f_callVi (As := []) (ci := 7) C mi_yX7_number mv_yX7_number b_ml_X7_165 dX7_readCommand_127 rfl (c_X7_number hT (b := 103) (by decide) (sp_w (sp_w hb0))) (by decide) v17 rfl rfl (Nat.le_of_ble_eq_true rfl) (fun x_127 m_127 hc_127 => ?_)
              obtain ⟨rfl, hv_127⟩ := hc_127
              refine f_iast C rfl v22 (by omega) (by decide) dX7_readCommand_130 ?_
              rw [up_tm22]
              refine e_iload_n C dX7_readCommand_131 rfl ?_
              refine e_bipush (v := nI 119) C dX7_readCommand_132 (by decide) ?_
              refine e_icmp_ne (tgt := 167) C dX7_readCommand_134 (by decide) (fun h_134 => ?_) (fun h_134 => ?_)
              · skip
                have nh_134 := xI_neD h_134
                refine e_iload_n C dX7_readCommand_167 rfl ?_
                refine e_bipush (v := nI 109) C dX7_readCommand_168 (by decide) ?_
                refine e_icmp_eq (tgt := 179) C dX7_readCommand_170 (by decide) (fun h_170 => ?_) (fun h_170 => ?_)
                · skip
                  exact absurd h_170 (by decide)
                · skip
                  have nh_170 := xI_neD h_170
                  refine e_iload_n C dX7_readCommand_173 rfl ?_
                  refine e_bipush (v := nI 104) C dX7_readCommand_174 (by decide) ?_
                  refine e_icmp_ne (tgt := 222) C dX7_readCommand_176 (by decide) (fun h_176 => ?_) (fun h_176 => ?_)
                  · skip
                    have nh_176 := xI_neD h_176
                    refine e_iload_n C dX7_readCommand_222 rfl ?_
                    refine e_bipush (v := nI 106) C dX7_readCommand_223 (by decide) ?_
                    refine e_icmp_ne (tgt := 258) C dX7_readCommand_225 (by decide) (fun h_225 => ?_) (fun h_225 => ?_)
                    · skip
                      have nh_225 := xI_neD h_225
                      refine e_aload_n C dX7_readCommand_258 rfl ?_
                      refine e_dup C dX7_readCommand_259 ?_
                      refine e_geti C (ci := 7) 8 rfl rfl rfl (by decide) b_X7 rfl b_fl_X7_162 v17 rfl dX7_readCommand_260 ?_
                      refine f_val (y := nI (n)) tm_8 ?_
                      refine e_iconst (v := nI 1) C dX7_readCommand_263 (by decide) ?_
                      refine f_iaddn C dX7_readCommand_264 ?_
                      refine e_puti C (ci := 7) 8 rfl rfl rfl (by decide) b_X7 rfl b_fl_X7_162 v17 tyX7 tyX7_ok nmX7 rfl (.inl ⟨rfl, rfl⟩) rfl dX7_readCommand_265 ?_
                      rw [up_tm8]
                      have hpos : (bnd (wnt (wnt (.inr (i + 1) : PSt) (isD (chc t (sp (.inr (i + 1) : PSt))))) (chc t (sp (wnt (.inr (i + 1) : PSt) (isD (chc t (sp (.inr (i + 1) : PSt)))))) = nI 58)) (pNp t)) = posC (cmd t i) := by
                        rw [cmd_r hl]
                        by_cases g1 : isD (chc t (i + 1))
                        · skip
                          by_cases g2 : chc t (i + 1 + 1) = nI 58
                          · skip
                            by_cases g3 : isD (chc t (i + 1 + 1 + 1))
                            · skip
                              simp only [pr, pD, pN, pP, sgn, bnd, wnt, sp, pNp, posC, cif_pos g1, cif_pos g2, cif_pos g3]
                            · simp only [pr, pD, pN, pP, sgn, bnd, wnt, sp, pNp, posC, cif_pos g1, cif_pos g2, cif_neg g3]
                          · simp only [pr, pD, pN, pP, sgn, bnd, wnt, sp, pNp, posC, cif_pos g1, cif_neg g2]
                        · simp only [pr, pD, pN, pP, sgn, bnd, wnt, sp, pNp, posC, cif_neg g1]
                      have hval : ∀ e q, cmd t i = .inr (e, q) → TDk ((upd (upd (upd td (4 * n) (nI 114)) (4 * n + 1) x_85) (4 * n + 2) x_127)) n q := by
                        intro e q hcm
                        rw [cmd_r hl] at hcm
                        by_cases g1 : isD (chc t (i + 1))
                        case neg => simp only [pr, pD, pN, pP, sgn, bnd, wnt, sp, pNp, posC, cif_neg g1, reduceCtorEq] at hcm
                        case pos =>
                          by_cases g2 : chc t (i + 1 + 1) = nI 58
                          case neg => simp only [pr, pD, pN, pP, sgn, bnd, wnt, sp, pNp, posC, cif_pos g1, cif_neg g2, reduceCtorEq] at hcm
                          case pos =>
                            by_cases g3 : isD (chc t (i + 1 + 1 + 1))
                            case neg => simp only [pr, pD, pN, pP, sgn, bnd, wnt, sp, pNp, posC, cif_pos g1, cif_pos g2, cif_neg g3, reduceCtorEq] at hcm
                            case pos =>
                              simp only [pr, pD, pN, pP, sgn, bnd, wnt, sp, pNp, posC, cif_pos g1, cif_pos g2, cif_pos g3, Sum.inr.injEq, Prod.mk.injEq] at hcm
                              obtain ⟨-, rfl⟩ := hcm
                              have w_85 : x_85 = nI (dv t (i + 1)) := by
                                have hh := hv_85
                                have es : sp (.inr (i + 1) : PSt) = i + 1 := by simp only [pr, pD, pN, pP, sgn, bnd, wnt, sp, pNp, posC]
                                rw [es] at hh
                                exact hh g1
                              have w_127 : x_127 = nI (nul t 2 (i + 1 + 1 + 1 + 1) (dv t (i + 1 + 1 + 1))).2 := hv_127 (i + 1 + 1 + 1) (by simp only [pr, pD, pN, pP, sgn, bnd, wnt, sp, pNp, posC, cif_pos g1, cif_pos g2]) g3
                              exact ⟨by unfold upd; rw [if_neg (by omega), if_neg (by omega), if_pos rfl], by unfold upd; rw [if_neg (by omega), if_pos rfl, w_85], fun _ => by unfold upd; rw [if_pos rfl, w_127], fun h => absurd h (show ¬ (114 : Nat) = 119 by decide)⟩
                      exact f_vu C hX dX7_readCommand_268 (Rq.of hpos (fun j hj => by unfold upd; rw [if_neg (by omega), if_neg (by omega), if_neg (by omega)]) hval)
                    · skip
                      exact absurd h_225 (by decide)
                  · skip
                    exact absurd h_176 (by decide)
              · skip
                exact absurd h_134 (by decide)
            · skip
              refine e_iconst (v := nI 1) C dX7_readCommand_111 (by decide) ?_
              refine e_goto (tgt := 116) C dX7_readCommand_112 (by decide) ?_
              refine f_val (b2i_1 ((ltr_c (by decide) (by decide)).mp h_108)) ?_
              refine f_callVv (As := [_]) (ci := 7) C mi_yX7_wants mv_yX7_wants b_ml_X7_155 dX7_readCommand_116 rfl (c_X7_wants (b := 102) (by decide) (sp_w hb0)) (by decide) v17 rfl rfl (Nat.le_of_ble_eq_true rfl) ?_
              refine e_aload_n C dX7_readCommand_119 rfl ?_
              refine e_getr C (ci := 7) 7 rfl rfl rfl (by decide) b_X7 rfl b_fl_X7_23 v17 rfl dX7_readCommand_120 ?_
              refine e_iload_n C dX7_readCommand_123 rfl ?_
              refine e_iconst (v := nI 2) C dX7_readCommand_124 (by decide) ?_
              refine f_iaddn C dX7_readCommand_125 ?_
              refine e_aload_n C dX7_readCommand_126 rfl ?_
              refine f_callVi (As := []) (ci := 7) C mi_yX7_number mv_yX7_number b_ml_X7_165 dX7_readCommand_127 rfl (c_X7_number hT (b := 103) (by decide) (sp_w (sp_w hb0))) (by decide) v17 rfl rfl (Nat.le_of_ble_eq_true rfl) (fun x_127 m_127 hc_127 => ?_)
              obtain ⟨rfl, hv_127⟩ := hc_127
              refine f_iast C rfl v22 (by omega) (by decide) dX7_readCommand_130 ?_
              rw [up_tm22]
              refine e_iload_n C dX7_readCommand_131 rfl ?_
              refine e_bipush (v := nI 119) C dX7_readCommand_132 (by decide) ?_
              refine e_icmp_ne (tgt := 167) C dX7_readCommand_134 (by decide) (fun h_134 => ?_) (fun h_134 => ?_)
              · skip
                have nh_134 := xI_neD h_134
                refine e_iload_n C dX7_readCommand_167 rfl ?_
                refine e_bipush (v := nI 109) C dX7_readCommand_168 (by decide) ?_
                refine e_icmp_eq (tgt := 179) C dX7_readCommand_170 (by decide) (fun h_170 => ?_) (fun h_170 => ?_)
                · skip
                  exact absurd h_170 (by decide)
                · skip
                  have nh_170 := xI_neD h_170
                  refine e_iload_n C dX7_readCommand_173 rfl ?_
                  refine e_bipush (v := nI 104) C dX7_readCommand_174 (by decide) ?_
                  refine e_icmp_ne (tgt := 222) C dX7_readCommand_176 (by decide) (fun h_176 => ?_) (fun h_176 => ?_)
                  · skip
                    have nh_176 := xI_neD h_176
                    refine e_iload_n C dX7_readCommand_222 rfl ?_
                    refine e_bipush (v := nI 106) C dX7_readCommand_223 (by decide) ?_
                    refine e_icmp_ne (tgt := 258) C dX7_readCommand_225 (by decide) (fun h_225 => ?_) (fun h_225 => ?_)
                    · skip
                      have nh_225 := xI_neD h_225
                      refine e_aload_n C dX7_readCommand_258 rfl ?_
                      refine e_dup C dX7_readCommand_259 ?_
                      refine e_geti C (ci := 7) 8 rfl rfl rfl (by decide) b_X7 rfl b_fl_X7_162 v17 rfl dX7_readCommand_260 ?_
                      refine f_val (y := nI (n)) tm_8 ?_
                      refine e_iconst (v := nI 1) C dX7_readCommand_263 (by decide) ?_
                      refine f_iaddn C dX7_readCommand_264 ?_
                      refine e_puti C (ci := 7) 8 rfl rfl rfl (by decide) b_X7 rfl b_fl_X7_162 v17 tyX7 tyX7_ok nmX7 rfl (.inl ⟨rfl, rfl⟩) rfl dX7_readCommand_265 ?_
                      rw [up_tm8]
                      have hpos : (bnd (wnt (wnt (.inr (i + 1) : PSt) (isD (chc t (sp (.inr (i + 1) : PSt))))) (chc t (sp (wnt (.inr (i + 1) : PSt) (isD (chc t (sp (.inr (i + 1) : PSt)))))) = nI 58)) (pNp t)) = posC (cmd t i) := by
                        rw [cmd_r hl]
                        by_cases g1 : isD (chc t (i + 1))
                        · skip
                          by_cases g2 : chc t (i + 1 + 1) = nI 58
                          · skip
                            by_cases g3 : isD (chc t (i + 1 + 1 + 1))
                            · skip
                              simp only [pr, pD, pN, pP, sgn, bnd, wnt, sp, pNp, posC, cif_pos g1, cif_pos g2, cif_pos g3]
                            · simp only [pr, pD, pN, pP, sgn, bnd, wnt, sp, pNp, posC, cif_pos g1, cif_pos g2, cif_neg g3]
                          · simp only [pr, pD, pN, pP, sgn, bnd, wnt, sp, pNp, posC, cif_pos g1, cif_neg g2]
                        · simp only [pr, pD, pN, pP, sgn, bnd, wnt, sp, pNp, posC, cif_neg g1]
                      have hval : ∀ e q, cmd t i = .inr (e, q) → TDk ((upd (upd (upd td (4 * n) (nI 114)) (4 * n + 1) x_85) (4 * n + 2) x_127)) n q := by
                        intro e q hcm
                        rw [cmd_r hl] at hcm
                        by_cases g1 : isD (chc t (i + 1))
                        case neg => simp only [pr, pD, pN, pP, sgn, bnd, wnt, sp, pNp, posC, cif_neg g1, reduceCtorEq] at hcm
                        case pos =>
                          by_cases g2 : chc t (i + 1 + 1) = nI 58
                          case neg => simp only [pr, pD, pN, pP, sgn, bnd, wnt, sp, pNp, posC, cif_pos g1, cif_neg g2, reduceCtorEq] at hcm
                          case pos =>
                            by_cases g3 : isD (chc t (i + 1 + 1 + 1))
                            case neg => simp only [pr, pD, pN, pP, sgn, bnd, wnt, sp, pNp, posC, cif_pos g1, cif_pos g2, cif_neg g3, reduceCtorEq] at hcm
                            case pos =>
                              simp only [pr, pD, pN, pP, sgn, bnd, wnt, sp, pNp, posC, cif_pos g1, cif_pos g2, cif_pos g3, Sum.inr.injEq, Prod.mk.injEq] at hcm
                              obtain ⟨-, rfl⟩ := hcm
                              have w_85 : x_85 = nI (dv t (i + 1)) := by
                                have hh := hv_85
                                have es : sp (.inr (i + 1) : PSt) = i + 1 := by simp only [pr, pD, pN, pP, sgn, bnd, wnt, sp, pNp, posC]
                                rw [es] at hh
                                exact hh g1
                              have w_127 : x_127 = nI (nul t 2 (i + 1 + 1 + 1 + 1) (dv t (i + 1 + 1 + 1))).2 := hv_127 (i + 1 + 1 + 1) (by simp only [pr, pD, pN, pP, sgn, bnd, wnt, sp, pNp, posC, cif_pos g1, cif_pos g2]) g3
                              exact ⟨by unfold upd; rw [if_neg (by omega), if_neg (by omega), if_pos rfl], by unfold upd; rw [if_neg (by omega), if_pos rfl, w_85], fun _ => by unfold upd; rw [if_pos rfl, w_127], fun h => absurd h (show ¬ (114 : Nat) = 119 by decide)⟩
                      exact f_vu C hX dX7_readCommand_268 (Rq.of hpos (fun j hj => by unfold upd; rw [if_neg (by omega), if_neg (by omega), if_neg (by omega)]) hval)
                    · skip
                      exact absurd h_225 (by decide)
                  · skip
                    exact absurd h_176 (by decide)
              · skip
                exact absurd h_134 (by decide)
      · skip
        exact absurd h_74 (by decide)
    · skip
      exact absurd (by decide) h_22
set_option maxRecDepth 100000 in
set_option maxHeartbeats 4000000 in
theorem c_X7_readCommand_t {E : EV} {l : Launch} {mem : MEM} {t : TX} (hT : MT_ mem t) {i n : Nat} {td : Nat → Int32} (hi : i ≤ 100) (hn : n ≤ 40) (hl : chc t i = nI 116) : Ct E l yX7_readCommand (me_ws yX7_readCommand cX7_readCommand 3 none) 4 [rv (17, 0, 0)] (tm mem (.inr i) n td) (fun rr mm => rr = uv ∧ Rq t mem n td i mm) := by
  refine Ct.of (RC := RX7) (ls0 := [rv (17, 0, 0), uv, uv]) mi_yX7_readCommand (Nat.le_of_ble_eq_true rfl) rfl (fun X C hX => ?_)
  refine e_iconst (v := nI 4) C dX7_readCommand_0 (by decide) ?_
  refine e_aload_n C dX7_readCommand_1 rfl ?_
  refine e_geti C (ci := 7) 8 rfl rfl rfl (by decide) b_X7 rfl b_fl_X7_162 v17 rfl dX7_readCommand_2 ?_
  refine f_val (y := nI (n)) tm_8 ?_
  refine f_imuln C dX7_readCommand_5 ?_
  refine f_istore_n (ls1 := [_, _, _]) C dX7_readCommand_6 (by decide) rfl ?_
  refine e_aload_n C dX7_readCommand_7 rfl ?_
  refine f_callVr (As := []) (ci := 7) C mi_yX7_letter mv_yX7_letter b_ml_X7_151 dX7_readCommand_8 rfl (c_X7_letter hT (b := 100) (by decide) hi) (by decide) v17 rfl rfl (Nat.le_of_ble_eq_true rfl) ?_
  refine f_val (y := nI (116)) (show ltr t i = nI 116 from (ltr_in (by rw [hl]; decide)).trans hl) ?_
  refine f_istore_n (ls1 := [_, _, _]) C dX7_readCommand_11 (by decide) rfl ?_
  refine e_aload_n C dX7_readCommand_12 rfl ?_
  refine e_iload_n C dX7_readCommand_13 rfl ?_
  refine e_bipush (v := nI 119) C dX7_readCommand_14 (by decide) ?_
  refine e_icmp_eq (tgt := 49) C dX7_readCommand_16 (by decide) (fun h_16 => ?_) (fun h_16 => ?_)
  · skip
    exact absurd h_16 (by decide)
  · skip
    have nh_16 := xI_neD h_16
    refine e_iload_n C dX7_readCommand_19 rfl ?_
    refine e_bipush (v := nI 114) C dX7_readCommand_20 (by decide) ?_
    refine e_icmp_eq (tgt := 49) C dX7_readCommand_22 (by decide) (fun h_22 => ?_) (fun h_22 => ?_)
    · skip
      exact absurd h_22 (by decide)
    · skip
      have nh_22 := xI_neD h_22
      refine e_iload_n C dX7_readCommand_25 rfl ?_
      refine e_bipush (v := nI 116) C dX7_readCommand_26 (by decide) ?_
      refine e_icmp_eq (tgt := 49) C dX7_readCommand_28 (by decide) (fun h_28 => ?_) (fun h_28 => ?_)
      · skip
        have nh_28 := xI_inj (by omega) (by omega) h_28
        refine e_iconst (v := nI 1) C dX7_readCommand_49 (by decide) ?_
        refine e_goto (tgt := 54) C dX7_readCommand_50 (by decide) ?_
        refine f_val (b2i_1 (P := True) trivial) ?_
        refine f_callVv (As := [_]) (ci := 7) C mi_yX7_wants mv_yX7_wants b_ml_X7_155 dX7_readCommand_54 rfl (c_X7_wants (σ := .inr i) (b := 100) (by decide) hi) (by decide) v17 rfl rfl (Nat.le_of_ble_eq_true rfl) ?_
        refine e_mem (m' := tm mem (.inr (i + 1)) n td) (EqV.of (congrArg (fun s => tm mem s n td) (show wnt (.inr i) True = (.inr (i + 1) : PSt) from cif_pos trivial))) ?_
        have hb0 : sp (.inr (i + 1)) ≤ 101 := Nat.succ_le_succ hi
        refine e_aload_n C dX7_readCommand_57 rfl ?_
        refine e_getr C (ci := 7) 7 rfl rfl rfl (by decide) b_X7 rfl b_fl_X7_23 v17 rfl dX7_readCommand_58 ?_
        refine e_iload_n C dX7_readCommand_61 rfl ?_
        refine e_iload_n C dX7_readCommand_62 rfl ?_
        refine f_iast C rfl v22 (by omega) (by decide) dX7_readCommand_63 ?_
        rw [up_tm22]
        refine e_aload_n C dX7_readCommand_64 rfl ?_
        refine e_getr C (ci := 7) 7 rfl rfl rfl (by decide) b_X7 rfl b_fl_X7_23 v17 rfl dX7_readCommand_65 ?_
        refine e_iload_n C dX7_readCommand_68 rfl ?_
        refine e_iconst (v := nI 1) C dX7_readCommand_69 (by decide) ?_
        refine f_iaddn C dX7_readCommand_70 ?_
        refine e_iload_n C dX7_readCommand_71 rfl ?_
        refine e_bipush (v := nI 116) C dX7_readCommand_72 (by decide) ?_
        refine e_icmp_ne (tgt := 84) C dX7_readCommand_74 (by decide) (fun h_74 => ?_) (fun h_74 => ?_)
        · skip
          exact absurd h_74 (by decide)
        · skip
          have nh_74 := xI_inj (by omega) (by omega) h_74
          refine e_aload_n C dX7_readCommand_77 rfl ?_
          refine f_callVi (As := []) (ci := 7) C mi_yX7_number mv_yX7_number b_ml_X7_165 dX7_readCommand_78 rfl (c_X7_number hT (b := 101) (by decide) hb0) (by decide) v17 rfl rfl (Nat.le_of_ble_eq_true rfl) (fun x_78 m_78 hc_78 => ?_)
          obtain ⟨rfl, hv_78⟩ := hc_78
          refine e_goto (tgt := 88) C dX7_readCommand_81 (by decide) ?_
          refine f_iast C rfl v22 (by omega) (by decide) dX7_readCommand_88 ?_
          rw [up_tm22]
          refine e_iload_n C dX7_readCommand_89 rfl ?_
          refine e_bipush (v := nI 119) C dX7_readCommand_90 (by decide) ?_
          refine e_icmp_eq (tgt := 101) C dX7_readCommand_92 (by decide) (fun h_92 => ?_) (fun h_92 => ?_)
          · skip
            exact absurd h_92 (by decide)
          · skip
            have nh_92 := xI_neD h_92
            refine e_iload_n C dX7_readCommand_95 rfl ?_
            refine e_bipush (v := nI 114) C dX7_readCommand_96 (by decide) ?_
            refine e_icmp_ne (tgt := 131) C dX7_readCommand_98 (by decide) (fun h_98 => ?_) (fun h_98 => ?_)
            · skip
              have nh_98 := xI_neD h_98
              refine e_iload_n C dX7_readCommand_131 rfl ?_
              refine e_bipush (v := nI 119) C dX7_readCommand_132 (by decide) ?_
              refine e_icmp_ne (tgt := 167) C dX7_readCommand_134 (by decide) (fun h_134 => ?_) (fun h_134 => ?_)
              · skip
                have nh_134 := xI_neD h_134
                refine e_iload_n C dX7_readCommand_167 rfl ?_
                refine e_bipush (v := nI 109) C dX7_readCommand_168 (by decide) ?_
                refine e_icmp_eq (tgt := 179) C dX7_readCommand_170 (by decide) (fun h_170 => ?_) (fun h_170 => ?_)
                · skip
                  exact absurd h_170 (by decide)
                · skip
                  have nh_170 := xI_neD h_170
                  refine e_iload_n C dX7_readCommand_173 rfl ?_
                  refine e_bipush (v := nI 104) C dX7_readCommand_174 (by decide) ?_
                  refine e_icmp_ne (tgt := 222) C dX7_readCommand_176 (by decide) (fun h_176 => ?_) (fun h_176 => ?_)
                  · skip
                    have nh_176 := xI_neD h_176
                    refine e_iload_n C dX7_readCommand_222 rfl ?_
                    refine e_bipush (v := nI 106) C dX7_readCommand_223 (by decide) ?_
                    refine e_icmp_ne (tgt := 258) C dX7_readCommand_225 (by decide) (fun h_225 => ?_) (fun h_225 => ?_)
                    · skip
                      have nh_225 := xI_neD h_225
                      refine e_aload_n C dX7_readCommand_258 rfl ?_
                      refine e_dup C dX7_readCommand_259 ?_
                      refine e_geti C (ci := 7) 8 rfl rfl rfl (by decide) b_X7 rfl b_fl_X7_162 v17 rfl dX7_readCommand_260 ?_
                      refine f_val (y := nI (n)) tm_8 ?_
                      refine e_iconst (v := nI 1) C dX7_readCommand_263 (by decide) ?_
                      refine f_iaddn C dX7_readCommand_264 ?_
                      refine e_puti C (ci := 7) 8 rfl rfl rfl (by decide) b_X7 rfl b_fl_X7_162 v17 tyX7 tyX7_ok nmX7 rfl (.inl ⟨rfl, rfl⟩) rfl dX7_readCommand_265 ?_
                      rw [up_tm8]
                      have hpos : (bnd (.inr (i + 1) : PSt) (pNp t)) = posC (cmd t i) := by
                        rw [cmd_t hl]
                        by_cases g1 : isD (chc t (i + 1))
                        · skip
                          simp only [pt, pD, pN, pP, sgn, bnd, wnt, sp, pNp, posC, cif_pos g1]
                        · simp only [pt, pD, pN, pP, sgn, bnd, wnt, sp, pNp, posC, cif_neg g1]
                      have hval : ∀ e q, cmd t i = .inr (e, q) → TDk ((upd (upd td (4 * n) (nI 116)) (4 * n + 1) x_78)) n q := by
                        intro e q hcm
                        rw [cmd_t hl] at hcm
                        by_cases g1 : isD (chc t (i + 1))
                        case neg => simp only [pt, pD, pN, pP, sgn, bnd, wnt, sp, pNp, posC, cif_neg g1, reduceCtorEq] at hcm
                        case pos =>
                          simp only [pt, pD, pN, pP, sgn, bnd, wnt, sp, pNp, posC, cif_pos g1, Sum.inr.injEq, Prod.mk.injEq] at hcm
                          obtain ⟨-, rfl⟩ := hcm
                          have w_78 : x_78 = nI (nul t 2 (i + 1 + 1) (dv t (i + 1))).2 := hv_78 (i + 1) (by simp only [pt, pD, pN, pP, sgn, bnd, wnt, sp, pNp, posC]) g1
                          exact ⟨by unfold upd; rw [if_neg (by omega), if_pos rfl], by unfold upd; rw [if_pos rfl, w_78], fun h => absurd rfl h, fun h => absurd h (show ¬ (116 : Nat) = 119 by decide)⟩
                      exact f_vu C hX dX7_readCommand_268 (Rq.of hpos (fun j hj => by unfold upd; rw [if_neg (by omega), if_neg (by omega)]) hval)
                    · skip
                      exact absurd h_225 (by decide)
                  · skip
                    exact absurd h_176 (by decide)
              · skip
                exact absurd h_134 (by decide)
            · skip
              exact absurd h_98 (by decide)
      · skip
        exact absurd (by decide) h_28
set_option maxRecDepth 100000 in
set_option maxHeartbeats 4000000 in
theorem c_X7_readCommand_m {E : EV} {l : Launch} {mem : MEM} {t : TX} (hT : MT_ mem t) {i n : Nat} {td : Nat → Int32} (hi : i ≤ 100) (hn : n ≤ 40) (hl : chc t i = nI 109) : Ct E l yX7_readCommand (me_ws yX7_readCommand cX7_readCommand 3 none) 4 [rv (17, 0, 0)] (tm mem (.inr i) n td) (fun rr mm => rr = uv ∧ Rq t mem n td i mm) := by
  refine Ct.of (RC := RX7) (ls0 := [rv (17, 0, 0), uv, uv]) mi_yX7_readCommand (Nat.le_of_ble_eq_true rfl) rfl (fun X C hX => ?_)
  refine e_iconst (v := nI 4) C dX7_readCommand_0 (by decide) ?_
  refine e_aload_n C dX7_readCommand_1 rfl ?_
  refine e_geti C (ci := 7) 8 rfl rfl rfl (by decide) b_X7 rfl b_fl_X7_162 v17 rfl dX7_readCommand_2 ?_
  refine f_val (y := nI (n)) tm_8 ?_
  refine f_imuln C dX7_readCommand_5 ?_
  refine f_istore_n (ls1 := [_, _, _]) C dX7_readCommand_6 (by decide) rfl ?_
  refine e_aload_n C dX7_readCommand_7 rfl ?_
  refine f_callVr (As := []) (ci := 7) C mi_yX7_letter mv_yX7_letter b_ml_X7_151 dX7_readCommand_8 rfl (c_X7_letter hT (b := 100) (by decide) hi) (by decide) v17 rfl rfl (Nat.le_of_ble_eq_true rfl) ?_
  refine f_val (y := nI (109)) (show ltr t i = nI 109 from (ltr_in (by rw [hl]; decide)).trans hl) ?_
  refine f_istore_n (ls1 := [_, _, _]) C dX7_readCommand_11 (by decide) rfl ?_
  refine e_aload_n C dX7_readCommand_12 rfl ?_
  refine e_iload_n C dX7_readCommand_13 rfl ?_
  refine e_bipush (v := nI 119) C dX7_readCommand_14 (by decide) ?_
  refine e_icmp_eq (tgt := 49) C dX7_readCommand_16 (by decide) (fun h_16 => ?_) (fun h_16 => ?_)
  · skip
    exact absurd h_16 (by decide)
  · skip
    have nh_16 := xI_neD h_16
    refine e_iload_n C dX7_readCommand_19 rfl ?_
    refine e_bipush (v := nI 114) C dX7_readCommand_20 (by decide) ?_
    refine e_icmp_eq (tgt := 49) C dX7_readCommand_22 (by decide) (fun h_22 => ?_) (fun h_22 => ?_)
    · skip
      exact absurd h_22 (by decide)
    · skip
      have nh_22 := xI_neD h_22
      refine e_iload_n C dX7_readCommand_25 rfl ?_
      refine e_bipush (v := nI 116) C dX7_readCommand_26 (by decide) ?_
      refine e_icmp_eq (tgt := 49) C dX7_readCommand_28 (by decide) (fun h_28 => ?_) (fun h_28 => ?_)
      · skip
        exact absurd h_28 (by decide)
      · skip
        have nh_28 := xI_neD h_28
        refine e_iload_n C dX7_readCommand_31 rfl ?_
        refine e_bipush (v := nI 109) C dX7_readCommand_32 (by decide) ?_
        refine e_icmp_eq (tgt := 49) C dX7_readCommand_34 (by decide) (fun h_34 => ?_) (fun h_34 => ?_)
        · skip
          have nh_34 := xI_inj (by omega) (by omega) h_34
          refine e_iconst (v := nI 1) C dX7_readCommand_49 (by decide) ?_
          refine e_goto (tgt := 54) C dX7_readCommand_50 (by decide) ?_
          refine f_val (b2i_1 (P := True) trivial) ?_
          refine f_callVv (As := [_]) (ci := 7) C mi_yX7_wants mv_yX7_wants b_ml_X7_155 dX7_readCommand_54 rfl (c_X7_wants (σ := .inr i) (b := 100) (by decide) hi) (by decide) v17 rfl rfl (Nat.le_of_ble_eq_true rfl) ?_
          refine e_mem (m' := tm mem (.inr (i + 1)) n td) (EqV.of (congrArg (fun s => tm mem s n td) (show wnt (.inr i) True = (.inr (i + 1) : PSt) from cif_pos trivial))) ?_
          have hb0 : sp (.inr (i + 1)) ≤ 101 := Nat.succ_le_succ hi
          refine e_aload_n C dX7_readCommand_57 rfl ?_
          refine e_getr C (ci := 7) 7 rfl rfl rfl (by decide) b_X7 rfl b_fl_X7_23 v17 rfl dX7_readCommand_58 ?_
          refine e_iload_n C dX7_readCommand_61 rfl ?_
          refine e_iload_n C dX7_readCommand_62 rfl ?_
          refine f_iast C rfl v22 (by omega) (by decide) dX7_readCommand_63 ?_
          rw [up_tm22]
          refine e_aload_n C dX7_readCommand_64 rfl ?_
          refine e_getr C (ci := 7) 7 rfl rfl rfl (by decide) b_X7 rfl b_fl_X7_23 v17 rfl dX7_readCommand_65 ?_
          refine e_iload_n C dX7_readCommand_68 rfl ?_
          refine e_iconst (v := nI 1) C dX7_readCommand_69 (by decide) ?_
          refine f_iaddn C dX7_readCommand_70 ?_
          refine e_iload_n C dX7_readCommand_71 rfl ?_
          refine e_bipush (v := nI 116) C dX7_readCommand_72 (by decide) ?_
          refine e_icmp_ne (tgt := 84) C dX7_readCommand_74 (by decide) (fun h_74 => ?_) (fun h_74 => ?_)
          · skip
            have nh_74 := xI_neD h_74
            refine e_aload_n C dX7_readCommand_84 rfl ?_
            refine f_callVi (As := []) (ci := 7) C mi_yX7_digit mv_yX7_digit b_ml_X7_159 dX7_readCommand_85 rfl (c_X7_digit hT (b := 101) (by decide) hb0) (by decide) v17 rfl rfl (Nat.le_of_ble_eq_true rfl) (fun x_85 m_85 hc_85 => ?_)
            obtain ⟨rfl, hv_85⟩ := hc_85
            refine f_iast C rfl v22 (by omega) (by decide) dX7_readCommand_88 ?_
            rw [up_tm22]
            refine e_iload_n C dX7_readCommand_89 rfl ?_
            refine e_bipush (v := nI 119) C dX7_readCommand_90 (by decide) ?_
            refine e_icmp_eq (tgt := 101) C dX7_readCommand_92 (by decide) (fun h_92 => ?_) (fun h_92 => ?_)
            · skip
              exact absurd h_92 (by decide)
            · skip
              have nh_92 := xI_neD h_92
              refine e_iload_n C dX7_readCommand_95 rfl ?_
              refine e_bipush (v := nI 114) C dX7_readCommand_96 (by decide) ?_
              refine e_icmp_ne (tgt := 131) C dX7_readCommand_98 (by decide) (fun h_98 => ?_) (fun h_98 => ?_)
              · skip
                have nh_98 := xI_neD h_98
                refine e_iload_n C dX7_readCommand_131 rfl ?_
                refine e_bipush (v := nI 119) C dX7_readCommand_132 (by decide) ?_
                refine e_icmp_ne (tgt := 167) C dX7_readCommand_134 (by decide) (fun h_134 => ?_) (fun h_134 => ?_)
                · skip
                  have nh_134 := xI_neD h_134
                  refine e_iload_n C dX7_readCommand_167 rfl ?_
                  refine e_bipush (v := nI 109) C dX7_readCommand_168 (by decide) ?_
                  refine e_icmp_eq (tgt := 179) C dX7_readCommand_170 (by decide) (fun h_170 => ?_) (fun h_170 => ?_)
                  · skip
                    have nh_170 := xI_inj (by omega) (by omega) h_170
                    refine e_aload_n C dX7_readCommand_179 rfl ?_
                    refine e_aload_n C dX7_readCommand_180 rfl ?_
                    refine f_callVr (As := []) (ci := 7) C mi_yX7_letter mv_yX7_letter b_ml_X7_151 dX7_readCommand_181 rfl (c_X7_letter hT (b := 102) (by decide) (sp_w hb0)) (by decide) v17 rfl rfl (Nat.le_of_ble_eq_true rfl) ?_
                    refine e_bipush (v := nI 62) C dX7_readCommand_184 (by decide) ?_
                    refine e_icmp_ne (tgt := 193) C dX7_readCommand_186 (by decide) (fun h_186 => ?_) (fun h_186 => ?_)
                    · skip
                      refine e_iconst (v := nI 0) C dX7_readCommand_193 (by decide) ?_
                      refine f_val (b2i_0 (fun q => h_186 ((ltr_c (by decide) (by decide)).mpr q))) ?_
                      refine f_callVv (As := [_]) (ci := 7) C mi_yX7_wants mv_yX7_wants b_ml_X7_155 dX7_readCommand_194 rfl (c_X7_wants (b := 102) (by decide) (sp_w hb0)) (by decide) v17 rfl rfl (Nat.le_of_ble_eq_true rfl) ?_
                      refine e_aload_n C dX7_readCommand_197 rfl ?_
                      refine e_getr C (ci := 7) 7 rfl rfl rfl (by decide) b_X7 rfl b_fl_X7_23 v17 rfl dX7_readCommand_198 ?_
                      refine e_iload_n C dX7_readCommand_201 rfl ?_
                      refine e_iconst (v := nI 2) C dX7_readCommand_202 (by decide) ?_
                      refine f_iaddn C dX7_readCommand_203 ?_
                      refine e_iload_n C dX7_readCommand_204 rfl ?_
                      refine e_bipush (v := nI 109) C dX7_readCommand_205 (by decide) ?_
                      refine e_icmp_ne (tgt := 217) C dX7_readCommand_207 (by decide) (fun h_207 => ?_) (fun h_207 => ?_)
                      · skip
                        exact absurd h_207 (by decide)
                      · skip
                        have nh_207 := xI_inj (by omega) (by omega) h_207
                        refine e_aload_n C dX7_readCommand_210 rfl ?_
                        refine f_callVi (As := []) (ci := 7) C mi_yX7_place mv_yX7_place b_ml_X7_168 dX7_readCommand_211 rfl (c_X7_place hT (b := 103) (by decide) (sp_w (sp_w hb0))) (by decide) v17 rfl rfl (Nat.le_of_ble_eq_true rfl) (fun x_211 m_211 hc_211 => ?_)
                        obtain ⟨rfl, hv_211⟩ := hc_211
                        refine e_goto (tgt := 221) C dX7_readCommand_214 (by decide) ?_
                        refine f_iast C rfl v22 (by omega) (by decide) dX7_readCommand_221 ?_
                        rw [up_tm22]
                        refine e_iload_n C dX7_readCommand_222 rfl ?_
                        refine e_bipush (v := nI 106) C dX7_readCommand_223 (by decide) ?_
                        refine e_icmp_ne (tgt := 258) C dX7_readCommand_225 (by decide) (fun h_225 => ?_) (fun h_225 => ?_)
                        · skip
                          have nh_225 := xI_neD h_225
                          refine e_aload_n C dX7_readCommand_258 rfl ?_
                          refine e_dup C dX7_readCommand_259 ?_
                          refine e_geti C (ci := 7) 8 rfl rfl rfl (by decide) b_X7 rfl b_fl_X7_162 v17 rfl dX7_readCommand_260 ?_
                          refine f_val (y := nI (n)) tm_8 ?_
                          refine e_iconst (v := nI 1) C dX7_readCommand_263 (by decide) ?_
                          refine f_iaddn C dX7_readCommand_264 ?_
                          refine e_puti C (ci := 7) 8 rfl rfl rfl (by decide) b_X7 rfl b_fl_X7_162 v17 tyX7 tyX7_ok nmX7 rfl (.inl ⟨rfl, rfl⟩) rfl dX7_readCommand_265 ?_
                          rw [up_tm8]
                          have hpos : (wnt (wnt (wnt (.inr (i + 1) : PSt) (isD (chc t (sp (.inr (i + 1) : PSt))))) (chc t (sp (wnt (.inr (i + 1) : PSt) (isD (chc t (sp (.inr (i + 1) : PSt)))))) = nI 62)) (isPl (chc t (sp (wnt (wnt (.inr (i + 1) : PSt) (isD (chc t (sp (.inr (i + 1) : PSt))))) (chc t (sp (wnt (.inr (i + 1) : PSt) (isD (chc t (sp (.inr (i + 1) : PSt)))))) = nI 62)))))) = posC (cmd t i) := by
                            rw [cmd_m hl]
                            by_cases g1 : isD (chc t (i + 1))
                            · skip
                              by_cases g2 : chc t (i + 1 + 1) = nI 62
                              · skip
                                by_cases g3 : isPl (chc t (i + 1 + 1 + 1))
                                · skip
                                  simp only [pm, pD, pN, pP, sgn, bnd, wnt, sp, pNp, posC, cif_pos g1, cif_pos g2, cif_pos g3]
                                · simp only [pm, pD, pN, pP, sgn, bnd, wnt, sp, pNp, posC, cif_pos g1, cif_pos g2, cif_neg g3]
                              · simp only [pm, pD, pN, pP, sgn, bnd, wnt, sp, pNp, posC, cif_pos g1, cif_neg g2]
                            · simp only [pm, pD, pN, pP, sgn, bnd, wnt, sp, pNp, posC, cif_neg g1]
                          have hval : ∀ e q, cmd t i = .inr (e, q) → TDk ((upd (upd (upd td (4 * n) (nI 109)) (4 * n + 1) x_85) (4 * n + 2) x_211)) n q := by
                            intro e q hcm
                            rw [cmd_m hl] at hcm
                            by_cases g1 : isD (chc t (i + 1))
                            case neg => simp only [pm, pD, pN, pP, sgn, bnd, wnt, sp, pNp, posC, cif_neg g1, reduceCtorEq] at hcm
                            case pos =>
                              by_cases g2 : chc t (i + 1 + 1) = nI 62
                              case neg => simp only [pm, pD, pN, pP, sgn, bnd, wnt, sp, pNp, posC, cif_pos g1, cif_neg g2, reduceCtorEq] at hcm
                              case pos =>
                                by_cases g3 : isPl (chc t (i + 1 + 1 + 1))
                                case neg => simp only [pm, pD, pN, pP, sgn, bnd, wnt, sp, pNp, posC, cif_pos g1, cif_pos g2, cif_neg g3, reduceCtorEq] at hcm
                                case pos =>
                                  simp only [pm, pD, pN, pP, sgn, bnd, wnt, sp, pNp, posC, cif_pos g1, cif_pos g2, cif_pos g3, Sum.inr.injEq, Prod.mk.injEq] at hcm
                                  obtain ⟨-, rfl⟩ := hcm
                                  have w_85 : x_85 = nI (dv t (i + 1)) := by
                                    have hh := hv_85
                                    have es : sp (.inr (i + 1) : PSt) = i + 1 := by simp only [pm, pD, pN, pP, sgn, bnd, wnt, sp, pNp, posC]
                                    rw [es] at hh
                                    exact hh g1
                                  have w_211 : x_211 = nI (plv t (i + 1 + 1 + 1)) := by
                                    have hh := hv_211
                                    have es : sp (wnt (wnt (.inr (i + 1) : PSt) (isD (chc t (sp (.inr (i + 1) : PSt))))) (chc t (sp (wnt (.inr (i + 1) : PSt) (isD (chc t (sp (.inr (i + 1) : PSt)))))) = nI 62)) = i + 1 + 1 + 1 := by simp only [pm, pD, pN, pP, sgn, bnd, wnt, sp, pNp, posC, cif_pos g1, cif_pos g2]
                                    rw [es] at hh
                                    exact hh g3
                                  exact ⟨by unfold upd; rw [if_neg (by omega), if_neg (by omega), if_pos rfl], by unfold upd; rw [if_neg (by omega), if_pos rfl, w_85], fun _ => by unfold upd; rw [if_pos rfl, w_211], fun h => absurd h (show ¬ (109 : Nat) = 119 by decide)⟩
                          exact f_vu C hX dX7_readCommand_268 (Rq.of hpos (fun j hj => by unfold upd; rw [if_neg (by omega), if_neg (by omega), if_neg (by omega)]) hval)
                        · skip
                          exact absurd h_225 (by decide)
                    · skip
                      refine e_iconst (v := nI 1) C dX7_readCommand_189 (by decide) ?_
                      refine e_goto (tgt := 194) C dX7_readCommand_190 (by decide) ?_
                      refine f_val (b2i_1 ((ltr_c (by decide) (by decide)).mp h_186)) ?_
                      refine f_callVv (As := [_]) (ci := 7) C mi_yX7_wants mv_yX7_wants b_ml_X7_155 dX7_readCommand_194 rfl (c_X7_wants (b := 102) (by decide) (sp_w hb0)) (by decide) v17 rfl rfl (Nat.le_of_ble_eq_true rfl) ?_
                      refine e_aload_n C dX7_readCommand_197 rfl ?_
                      refine e_getr C (ci := 7) 7 rfl rfl rfl (by decide) b_X7 rfl b_fl_X7_23 v17 rfl dX7_readCommand_198 ?_
                      refine e_iload_n C dX7_readCommand_201 rfl ?_
                      refine e_iconst (v := nI 2) C dX7_readCommand_202 (by decide) ?_
                      refine f_iaddn C dX7_readCommand_203 ?_
                      refine e_iload_n C dX7_readCommand_204 rfl ?_
                      refine e_bipush (v := nI 109) C dX7_readCommand_205 (by decide) ?_
                      refine e_icmp_ne (tgt := 217) C dX7_readCommand_207 (by decide) (fun h_207 => ?_) (fun h_207 => ?_)
                      · skip
                        exact absurd h_207 (by decide)
                      · skip
                        have nh_207 := xI_inj (by omega) (by omega) h_207
                        refine e_aload_n C dX7_readCommand_210 rfl ?_
                        refine f_callVi (As := []) (ci := 7) C mi_yX7_place mv_yX7_place b_ml_X7_168 dX7_readCommand_211 rfl (c_X7_place hT (b := 103) (by decide) (sp_w (sp_w hb0))) (by decide) v17 rfl rfl (Nat.le_of_ble_eq_true rfl) (fun x_211 m_211 hc_211 => ?_)
                        obtain ⟨rfl, hv_211⟩ := hc_211
                        refine e_goto (tgt := 221) C dX7_readCommand_214 (by decide) ?_
                        refine f_iast C rfl v22 (by omega) (by decide) dX7_readCommand_221 ?_
                        rw [up_tm22]
                        refine e_iload_n C dX7_readCommand_222 rfl ?_
                        refine e_bipush (v := nI 106) C dX7_readCommand_223 (by decide) ?_
                        refine e_icmp_ne (tgt := 258) C dX7_readCommand_225 (by decide) (fun h_225 => ?_) (fun h_225 => ?_)
                        · skip
                          have nh_225 := xI_neD h_225
                          refine e_aload_n C dX7_readCommand_258 rfl ?_
                          refine e_dup C dX7_readCommand_259 ?_
                          refine e_geti C (ci := 7) 8 rfl rfl rfl (by decide) b_X7 rfl b_fl_X7_162 v17 rfl dX7_readCommand_260 ?_
                          refine f_val (y := nI (n)) tm_8 ?_
                          refine e_iconst (v := nI 1) C dX7_readCommand_263 (by decide) ?_
                          refine f_iaddn C dX7_readCommand_264 ?_
                          refine e_puti C (ci := 7) 8 rfl rfl rfl (by decide) b_X7 rfl b_fl_X7_162 v17 tyX7 tyX7_ok nmX7 rfl (.inl ⟨rfl, rfl⟩) rfl dX7_readCommand_265 ?_
                          rw [up_tm8]
                          have hpos : (wnt (wnt (wnt (.inr (i + 1) : PSt) (isD (chc t (sp (.inr (i + 1) : PSt))))) (chc t (sp (wnt (.inr (i + 1) : PSt) (isD (chc t (sp (.inr (i + 1) : PSt)))))) = nI 62)) (isPl (chc t (sp (wnt (wnt (.inr (i + 1) : PSt) (isD (chc t (sp (.inr (i + 1) : PSt))))) (chc t (sp (wnt (.inr (i + 1) : PSt) (isD (chc t (sp (.inr (i + 1) : PSt)))))) = nI 62)))))) = posC (cmd t i) := by
                            rw [cmd_m hl]
                            by_cases g1 : isD (chc t (i + 1))
                            · skip
                              by_cases g2 : chc t (i + 1 + 1) = nI 62
                              · skip
                                by_cases g3 : isPl (chc t (i + 1 + 1 + 1))
                                · skip
                                  simp only [pm, pD, pN, pP, sgn, bnd, wnt, sp, pNp, posC, cif_pos g1, cif_pos g2, cif_pos g3]
                                · simp only [pm, pD, pN, pP, sgn, bnd, wnt, sp, pNp, posC, cif_pos g1, cif_pos g2, cif_neg g3]
                              · simp only [pm, pD, pN, pP, sgn, bnd, wnt, sp, pNp, posC, cif_pos g1, cif_neg g2]
                            · simp only [pm, pD, pN, pP, sgn, bnd, wnt, sp, pNp, posC, cif_neg g1]
                          have hval : ∀ e q, cmd t i = .inr (e, q) → TDk ((upd (upd (upd td (4 * n) (nI 109)) (4 * n + 1) x_85) (4 * n + 2) x_211)) n q := by
                            intro e q hcm
                            rw [cmd_m hl] at hcm
                            by_cases g1 : isD (chc t (i + 1))
                            case neg => simp only [pm, pD, pN, pP, sgn, bnd, wnt, sp, pNp, posC, cif_neg g1, reduceCtorEq] at hcm
                            case pos =>
                              by_cases g2 : chc t (i + 1 + 1) = nI 62
                              case neg => simp only [pm, pD, pN, pP, sgn, bnd, wnt, sp, pNp, posC, cif_pos g1, cif_neg g2, reduceCtorEq] at hcm
                              case pos =>
                                by_cases g3 : isPl (chc t (i + 1 + 1 + 1))
                                case neg => simp only [pm, pD, pN, pP, sgn, bnd, wnt, sp, pNp, posC, cif_pos g1, cif_pos g2, cif_neg g3, reduceCtorEq] at hcm
                                case pos =>
                                  simp only [pm, pD, pN, pP, sgn, bnd, wnt, sp, pNp, posC, cif_pos g1, cif_pos g2, cif_pos g3, Sum.inr.injEq, Prod.mk.injEq] at hcm
                                  obtain ⟨-, rfl⟩ := hcm
                                  have w_85 : x_85 = nI (dv t (i + 1)) := by
                                    have hh := hv_85
                                    have es : sp (.inr (i + 1) : PSt) = i + 1 := by simp only [pm, pD, pN, pP, sgn, bnd, wnt, sp, pNp, posC]
                                    rw [es] at hh
                                    exact hh g1
                                  have w_211 : x_211 = nI (plv t (i + 1 + 1 + 1)) := by
                                    have hh := hv_211
                                    have es : sp (wnt (wnt (.inr (i + 1) : PSt) (isD (chc t (sp (.inr (i + 1) : PSt))))) (chc t (sp (wnt (.inr (i + 1) : PSt) (isD (chc t (sp (.inr (i + 1) : PSt)))))) = nI 62)) = i + 1 + 1 + 1 := by simp only [pm, pD, pN, pP, sgn, bnd, wnt, sp, pNp, posC, cif_pos g1, cif_pos g2]
                                    rw [es] at hh
                                    exact hh g3
                                  exact ⟨by unfold upd; rw [if_neg (by omega), if_neg (by omega), if_pos rfl], by unfold upd; rw [if_neg (by omega), if_pos rfl, w_85], fun _ => by unfold upd; rw [if_pos rfl, w_211], fun h => absurd h (show ¬ (109 : Nat) = 119 by decide)⟩
                          exact f_vu C hX dX7_readCommand_268 (Rq.of hpos (fun j hj => by unfold upd; rw [if_neg (by omega), if_neg (by omega), if_neg (by omega)]) hval)
                        · skip
                          exact absurd h_225 (by decide)
                  · skip
                    exact absurd (by decide) h_170
                · skip
                  exact absurd h_134 (by decide)
              · skip
                exact absurd h_98 (by decide)
          · skip
            exact absurd h_74 (by decide)
        · skip
          exact absurd (by decide) h_34
set_option maxRecDepth 100000 in
set_option maxHeartbeats 4000000 in
theorem c_X7_readCommand_h {E : EV} {l : Launch} {mem : MEM} {t : TX} (hT : MT_ mem t) {i n : Nat} {td : Nat → Int32} (hi : i ≤ 100) (hn : n ≤ 40) (hl : chc t i = nI 104) : Ct E l yX7_readCommand (me_ws yX7_readCommand cX7_readCommand 3 none) 4 [rv (17, 0, 0)] (tm mem (.inr i) n td) (fun rr mm => rr = uv ∧ Rq t mem n td i mm) := by
  refine Ct.of (RC := RX7) (ls0 := [rv (17, 0, 0), uv, uv]) mi_yX7_readCommand (Nat.le_of_ble_eq_true rfl) rfl (fun X C hX => ?_)
  refine e_iconst (v := nI 4) C dX7_readCommand_0 (by decide) ?_
  refine e_aload_n C dX7_readCommand_1 rfl ?_
  refine e_geti C (ci := 7) 8 rfl rfl rfl (by decide) b_X7 rfl b_fl_X7_162 v17 rfl dX7_readCommand_2 ?_
  refine f_val (y := nI (n)) tm_8 ?_
  refine f_imuln C dX7_readCommand_5 ?_
  refine f_istore_n (ls1 := [_, _, _]) C dX7_readCommand_6 (by decide) rfl ?_
  refine e_aload_n C dX7_readCommand_7 rfl ?_
  refine f_callVr (As := []) (ci := 7) C mi_yX7_letter mv_yX7_letter b_ml_X7_151 dX7_readCommand_8 rfl (c_X7_letter hT (b := 100) (by decide) hi) (by decide) v17 rfl rfl (Nat.le_of_ble_eq_true rfl) ?_
  refine f_val (y := nI (104)) (show ltr t i = nI 104 from (ltr_in (by rw [hl]; decide)).trans hl) ?_
  refine f_istore_n (ls1 := [_, _, _]) C dX7_readCommand_11 (by decide) rfl ?_
  refine e_aload_n C dX7_readCommand_12 rfl ?_
  refine e_iload_n C dX7_readCommand_13 rfl ?_
  refine e_bipush (v := nI 119) C dX7_readCommand_14 (by decide) ?_
  refine e_icmp_eq (tgt := 49) C dX7_readCommand_16 (by decide) (fun h_16 => ?_) (fun h_16 => ?_)
  · skip
    exact absurd h_16 (by decide)
  · skip
    have nh_16 := xI_neD h_16
    refine e_iload_n C dX7_readCommand_19 rfl ?_
    refine e_bipush (v := nI 114) C dX7_readCommand_20 (by decide) ?_
    refine e_icmp_eq (tgt := 49) C dX7_readCommand_22 (by decide) (fun h_22 => ?_) (fun h_22 => ?_)
    · skip
      exact absurd h_22 (by decide)
    · skip
      have nh_22 := xI_neD h_22
      refine e_iload_n C dX7_readCommand_25 rfl ?_
      refine e_bipush (v := nI 116) C dX7_readCommand_26 (by decide) ?_
      refine e_icmp_eq (tgt := 49) C dX7_readCommand_28 (by decide) (fun h_28 => ?_) (fun h_28 => ?_)
      · skip
        exact absurd h_28 (by decide)
      · skip
        have nh_28 := xI_neD h_28
        refine e_iload_n C dX7_readCommand_31 rfl ?_
        refine e_bipush (v := nI 109) C dX7_readCommand_32 (by decide) ?_
        refine e_icmp_eq (tgt := 49) C dX7_readCommand_34 (by decide) (fun h_34 => ?_) (fun h_34 => ?_)
        · skip
          exact absurd h_34 (by decide)
        · skip
          have nh_34 := xI_neD h_34
          refine e_iload_n C dX7_readCommand_37 rfl ?_
          refine e_bipush (v := nI 104) C dX7_readCommand_38 (by decide) ?_
          refine e_icmp_eq (tgt := 49) C dX7_readCommand_40 (by decide) (fun h_40 => ?_) (fun h_40 => ?_)
          · skip
            have nh_40 := xI_inj (by omega) (by omega) h_40
            refine e_iconst (v := nI 1) C dX7_readCommand_49 (by decide) ?_
            refine e_goto (tgt := 54) C dX7_readCommand_50 (by decide) ?_
            refine f_val (b2i_1 (P := True) trivial) ?_
            refine f_callVv (As := [_]) (ci := 7) C mi_yX7_wants mv_yX7_wants b_ml_X7_155 dX7_readCommand_54 rfl (c_X7_wants (σ := .inr i) (b := 100) (by decide) hi) (by decide) v17 rfl rfl (Nat.le_of_ble_eq_true rfl) ?_
            refine e_mem (m' := tm mem (.inr (i + 1)) n td) (EqV.of (congrArg (fun s => tm mem s n td) (show wnt (.inr i) True = (.inr (i + 1) : PSt) from cif_pos trivial))) ?_
            have hb0 : sp (.inr (i + 1)) ≤ 101 := Nat.succ_le_succ hi
            refine e_aload_n C dX7_readCommand_57 rfl ?_
            refine e_getr C (ci := 7) 7 rfl rfl rfl (by decide) b_X7 rfl b_fl_X7_23 v17 rfl dX7_readCommand_58 ?_
            refine e_iload_n C dX7_readCommand_61 rfl ?_
            refine e_iload_n C dX7_readCommand_62 rfl ?_
            refine f_iast C rfl v22 (by omega) (by decide) dX7_readCommand_63 ?_
            rw [up_tm22]
            refine e_aload_n C dX7_readCommand_64 rfl ?_
            refine e_getr C (ci := 7) 7 rfl rfl rfl (by decide) b_X7 rfl b_fl_X7_23 v17 rfl dX7_readCommand_65 ?_
            refine e_iload_n C dX7_readCommand_68 rfl ?_
            refine e_iconst (v := nI 1) C dX7_readCommand_69 (by decide) ?_
            refine f_iaddn C dX7_readCommand_70 ?_
            refine e_iload_n C dX7_readCommand_71 rfl ?_
            refine e_bipush (v := nI 116) C dX7_readCommand_72 (by decide) ?_
            refine e_icmp_ne (tgt := 84) C dX7_readCommand_74 (by decide) (fun h_74 => ?_) (fun h_74 => ?_)
            · skip
              have nh_74 := xI_neD h_74
              refine e_aload_n C dX7_readCommand_84 rfl ?_
              refine f_callVi (As := []) (ci := 7) C mi_yX7_digit mv_yX7_digit b_ml_X7_159 dX7_readCommand_85 rfl (c_X7_digit hT (b := 101) (by decide) hb0) (by decide) v17 rfl rfl (Nat.le_of_ble_eq_true rfl) (fun x_85 m_85 hc_85 => ?_)
              obtain ⟨rfl, hv_85⟩ := hc_85
              refine f_iast C rfl v22 (by omega) (by decide) dX7_readCommand_88 ?_
              rw [up_tm22]
              refine e_iload_n C dX7_readCommand_89 rfl ?_
              refine e_bipush (v := nI 119) C dX7_readCommand_90 (by decide) ?_
              refine e_icmp_eq (tgt := 101) C dX7_readCommand_92 (by decide) (fun h_92 => ?_) (fun h_92 => ?_)
              · skip
                exact absurd h_92 (by decide)
              · skip
                have nh_92 := xI_neD h_92
                refine e_iload_n C dX7_readCommand_95 rfl ?_
                refine e_bipush (v := nI 114) C dX7_readCommand_96 (by decide) ?_
                refine e_icmp_ne (tgt := 131) C dX7_readCommand_98 (by decide) (fun h_98 => ?_) (fun h_98 => ?_)
                · skip
                  have nh_98 := xI_neD h_98
                  refine e_iload_n C dX7_readCommand_131 rfl ?_
                  refine e_bipush (v := nI 119) C dX7_readCommand_132 (by decide) ?_
                  refine e_icmp_ne (tgt := 167) C dX7_readCommand_134 (by decide) (fun h_134 => ?_) (fun h_134 => ?_)
                  · skip
                    have nh_134 := xI_neD h_134
                    refine e_iload_n C dX7_readCommand_167 rfl ?_
                    refine e_bipush (v := nI 109) C dX7_readCommand_168 (by decide) ?_
                    refine e_icmp_eq (tgt := 179) C dX7_readCommand_170 (by decide) (fun h_170 => ?_) (fun h_170 => ?_)
                    · skip
                      exact absurd h_170 (by decide)
                    · skip
                      have nh_170 := xI_neD h_170
                      refine e_iload_n C dX7_readCommand_173 rfl ?_
                      refine e_bipush (v := nI 104) C dX7_readCommand_174 (by decide) ?_
                      refine e_icmp_ne (tgt := 222) C dX7_readCommand_176 (by decide) (fun h_176 => ?_) (fun h_176 => ?_)
                      · skip
                        exact absurd h_176 (by decide)
                      · skip
                        have nh_176 := xI_inj (by omega) (by omega) h_176
                        refine e_aload_n C dX7_readCommand_179 rfl ?_
                        refine e_aload_n C dX7_readCommand_180 rfl ?_
                        refine f_callVr (As := []) (ci := 7) C mi_yX7_letter mv_yX7_letter b_ml_X7_151 dX7_readCommand_181 rfl (c_X7_letter hT (b := 102) (by decide) (sp_w hb0)) (by decide) v17 rfl rfl (Nat.le_of_ble_eq_true rfl) ?_
                        refine e_bipush (v := nI 62) C dX7_readCommand_184 (by decide) ?_
                        refine e_icmp_ne (tgt := 193) C dX7_readCommand_186 (by decide) (fun h_186 => ?_) (fun h_186 => ?_)
                        · skip
                          refine e_iconst (v := nI 0) C dX7_readCommand_193 (by decide) ?_
                          refine f_val (b2i_0 (fun q => h_186 ((ltr_c (by decide) (by decide)).mpr q))) ?_
                          refine f_callVv (As := [_]) (ci := 7) C mi_yX7_wants mv_yX7_wants b_ml_X7_155 dX7_readCommand_194 rfl (c_X7_wants (b := 102) (by decide) (sp_w hb0)) (by decide) v17 rfl rfl (Nat.le_of_ble_eq_true rfl) ?_
                          refine e_aload_n C dX7_readCommand_197 rfl ?_
                          refine e_getr C (ci := 7) 7 rfl rfl rfl (by decide) b_X7 rfl b_fl_X7_23 v17 rfl dX7_readCommand_198 ?_
                          refine e_iload_n C dX7_readCommand_201 rfl ?_
                          refine e_iconst (v := nI 2) C dX7_readCommand_202 (by decide) ?_
                          refine f_iaddn C dX7_readCommand_203 ?_
                          refine e_iload_n C dX7_readCommand_204 rfl ?_
                          refine e_bipush (v := nI 109) C dX7_readCommand_205 (by decide) ?_
                          refine e_icmp_ne (tgt := 217) C dX7_readCommand_207 (by decide) (fun h_207 => ?_) (fun h_207 => ?_)
                          · skip
                            have nh_207 := xI_neD h_207
                            refine e_aload_n C dX7_readCommand_217 rfl ?_
                            refine f_callVi (As := []) (ci := 7) C mi_yX7_digit mv_yX7_digit b_ml_X7_159 dX7_readCommand_218 rfl (c_X7_digit hT (b := 103) (by decide) (sp_w (sp_w hb0))) (by decide) v17 rfl rfl (Nat.le_of_ble_eq_true rfl) (fun x_218 m_218 hc_218 => ?_)
                            obtain ⟨rfl, hv_218⟩ := hc_218
                            refine f_iast C rfl v22 (by omega) (by decide) dX7_readCommand_221 ?_
                            rw [up_tm22]
                            refine e_iload_n C dX7_readCommand_222 rfl ?_
                            refine e_bipush (v := nI 106) C dX7_readCommand_223 (by decide) ?_
                            refine e_icmp_ne (tgt := 258) C dX7_readCommand_225 (by decide) (fun h_225 => ?_) (fun h_225 => ?_)
                            · skip
                              have nh_225 := xI_neD h_225
                              refine e_aload_n C dX7_readCommand_258 rfl ?_
                              refine e_dup C dX7_readCommand_259 ?_
                              refine e_geti C (ci := 7) 8 rfl rfl rfl (by decide) b_X7 rfl b_fl_X7_162 v17 rfl dX7_readCommand_260 ?_
                              refine f_val (y := nI (n)) tm_8 ?_
                              refine e_iconst (v := nI 1) C dX7_readCommand_263 (by decide) ?_
                              refine f_iaddn C dX7_readCommand_264 ?_
                              refine e_puti C (ci := 7) 8 rfl rfl rfl (by decide) b_X7 rfl b_fl_X7_162 v17 tyX7 tyX7_ok nmX7 rfl (.inl ⟨rfl, rfl⟩) rfl dX7_readCommand_265 ?_
                              rw [up_tm8]
                              have hpos : (wnt (wnt (wnt (.inr (i + 1) : PSt) (isD (chc t (sp (.inr (i + 1) : PSt))))) (chc t (sp (wnt (.inr (i + 1) : PSt) (isD (chc t (sp (.inr (i + 1) : PSt)))))) = nI 62)) (isD (chc t (sp (wnt (wnt (.inr (i + 1) : PSt) (isD (chc t (sp (.inr (i + 1) : PSt))))) (chc t (sp (wnt (.inr (i + 1) : PSt) (isD (chc t (sp (.inr (i + 1) : PSt)))))) = nI 62)))))) = posC (cmd t i) := by
                                rw [cmd_h hl]
                                by_cases g1 : isD (chc t (i + 1))
                                · skip
                                  by_cases g2 : chc t (i + 1 + 1) = nI 62
                                  · skip
                                    by_cases g3 : isD (chc t (i + 1 + 1 + 1))
                                    · skip
                                      simp only [ph, pD, pN, pP, sgn, bnd, wnt, sp, pNp, posC, cif_pos g1, cif_pos g2, cif_pos g3]
                                    · simp only [ph, pD, pN, pP, sgn, bnd, wnt, sp, pNp, posC, cif_pos g1, cif_pos g2, cif_neg g3]
                                  · simp only [ph, pD, pN, pP, sgn, bnd, wnt, sp, pNp, posC, cif_pos g1, cif_neg g2]
                                · simp only [ph, pD, pN, pP, sgn, bnd, wnt, sp, pNp, posC, cif_neg g1]
                              have hval : ∀ e q, cmd t i = .inr (e, q) → TDk ((upd (upd (upd td (4 * n) (nI 104)) (4 * n + 1) x_85) (4 * n + 2) x_218)) n q := by
                                intro e q hcm
                                rw [cmd_h hl] at hcm
                                by_cases g1 : isD (chc t (i + 1))
                                case neg => simp only [ph, pD, pN, pP, sgn, bnd, wnt, sp, pNp, posC, cif_neg g1, reduceCtorEq] at hcm
                                case pos =>
                                  by_cases g2 : chc t (i + 1 + 1) = nI 62
                                  case neg => simp only [ph, pD, pN, pP, sgn, bnd, wnt, sp, pNp, posC, cif_pos g1, cif_neg g2, reduceCtorEq] at hcm
                                  case pos =>
                                    by_cases g3 : isD (chc t (i + 1 + 1 + 1))
                                    case neg => simp only [ph, pD, pN, pP, sgn, bnd, wnt, sp, pNp, posC, cif_pos g1, cif_pos g2, cif_neg g3, reduceCtorEq] at hcm
                                    case pos =>
                                      simp only [ph, pD, pN, pP, sgn, bnd, wnt, sp, pNp, posC, cif_pos g1, cif_pos g2, cif_pos g3, Sum.inr.injEq, Prod.mk.injEq] at hcm
                                      obtain ⟨-, rfl⟩ := hcm
                                      have w_85 : x_85 = nI (dv t (i + 1)) := by
                                        have hh := hv_85
                                        have es : sp (.inr (i + 1) : PSt) = i + 1 := by simp only [ph, pD, pN, pP, sgn, bnd, wnt, sp, pNp, posC]
                                        rw [es] at hh
                                        exact hh g1
                                      have w_218 : x_218 = nI (dv t (i + 1 + 1 + 1)) := by
                                        have hh := hv_218
                                        have es : sp (wnt (wnt (.inr (i + 1) : PSt) (isD (chc t (sp (.inr (i + 1) : PSt))))) (chc t (sp (wnt (.inr (i + 1) : PSt) (isD (chc t (sp (.inr (i + 1) : PSt)))))) = nI 62)) = i + 1 + 1 + 1 := by simp only [ph, pD, pN, pP, sgn, bnd, wnt, sp, pNp, posC, cif_pos g1, cif_pos g2]
                                        rw [es] at hh
                                        exact hh g3
                                      exact ⟨by unfold upd; rw [if_neg (by omega), if_neg (by omega), if_pos rfl], by unfold upd; rw [if_neg (by omega), if_pos rfl, w_85], fun _ => by unfold upd; rw [if_pos rfl, w_218], fun h => absurd h (show ¬ (104 : Nat) = 119 by decide)⟩
                              exact f_vu C hX dX7_readCommand_268 (Rq.of hpos (fun j hj => by unfold upd; rw [if_neg (by omega), if_neg (by omega), if_neg (by omega)]) hval)
                            · skip
                              exact absurd h_225 (by decide)
                          · skip
                            exact absurd h_207 (by decide)
                        · skip
                          refine e_iconst (v := nI 1) C dX7_readCommand_189 (by decide) ?_
                          refine e_goto (tgt := 194) C dX7_readCommand_190 (by decide) ?_
                          refine f_val (b2i_1 ((ltr_c (by decide) (by decide)).mp h_186)) ?_
                          refine f_callVv (As := [_]) (ci := 7) C mi_yX7_wants mv_yX7_wants b_ml_X7_155 dX7_readCommand_194 rfl (c_X7_wants (b := 102) (by decide) (sp_w hb0)) (by decide) v17 rfl rfl (Nat.le_of_ble_eq_true rfl) ?_
                          refine e_aload_n C dX7_readCommand_197 rfl ?_
                          refine e_getr C (ci := 7) 7 rfl rfl rfl (by decide) b_X7 rfl b_fl_X7_23 v17 rfl dX7_readCommand_198 ?_
                          refine e_iload_n C dX7_readCommand_201 rfl ?_
                          refine e_iconst (v := nI 2) C dX7_readCommand_202 (by decide) ?_
                          refine f_iaddn C dX7_readCommand_203 ?_
                          refine e_iload_n C dX7_readCommand_204 rfl ?_
                          refine e_bipush (v := nI 109) C dX7_readCommand_205 (by decide) ?_
                          refine e_icmp_ne (tgt := 217) C dX7_readCommand_207 (by decide) (fun h_207 => ?_) (fun h_207 => ?_)
                          · skip
                            have nh_207 := xI_neD h_207
                            refine e_aload_n C dX7_readCommand_217 rfl ?_
                            refine f_callVi (As := []) (ci := 7) C mi_yX7_digit mv_yX7_digit b_ml_X7_159 dX7_readCommand_218 rfl (c_X7_digit hT (b := 103) (by decide) (sp_w (sp_w hb0))) (by decide) v17 rfl rfl (Nat.le_of_ble_eq_true rfl) (fun x_218 m_218 hc_218 => ?_)
                            obtain ⟨rfl, hv_218⟩ := hc_218
                            refine f_iast C rfl v22 (by omega) (by decide) dX7_readCommand_221 ?_
                            rw [up_tm22]
                            refine e_iload_n C dX7_readCommand_222 rfl ?_
                            refine e_bipush (v := nI 106) C dX7_readCommand_223 (by decide) ?_
                            refine e_icmp_ne (tgt := 258) C dX7_readCommand_225 (by decide) (fun h_225 => ?_) (fun h_225 => ?_)
                            · skip
                              have nh_225 := xI_neD h_225
                              refine e_aload_n C dX7_readCommand_258 rfl ?_
                              refine e_dup C dX7_readCommand_259 ?_
                              refine e_geti C (ci := 7) 8 rfl rfl rfl (by decide) b_X7 rfl b_fl_X7_162 v17 rfl dX7_readCommand_260 ?_
                              refine f_val (y := nI (n)) tm_8 ?_
                              refine e_iconst (v := nI 1) C dX7_readCommand_263 (by decide) ?_
                              refine f_iaddn C dX7_readCommand_264 ?_
                              refine e_puti C (ci := 7) 8 rfl rfl rfl (by decide) b_X7 rfl b_fl_X7_162 v17 tyX7 tyX7_ok nmX7 rfl (.inl ⟨rfl, rfl⟩) rfl dX7_readCommand_265 ?_
                              rw [up_tm8]
                              have hpos : (wnt (wnt (wnt (.inr (i + 1) : PSt) (isD (chc t (sp (.inr (i + 1) : PSt))))) (chc t (sp (wnt (.inr (i + 1) : PSt) (isD (chc t (sp (.inr (i + 1) : PSt)))))) = nI 62)) (isD (chc t (sp (wnt (wnt (.inr (i + 1) : PSt) (isD (chc t (sp (.inr (i + 1) : PSt))))) (chc t (sp (wnt (.inr (i + 1) : PSt) (isD (chc t (sp (.inr (i + 1) : PSt)))))) = nI 62)))))) = posC (cmd t i) := by
                                rw [cmd_h hl]
                                by_cases g1 : isD (chc t (i + 1))
                                · skip
                                  by_cases g2 : chc t (i + 1 + 1) = nI 62
                                  · skip
                                    by_cases g3 : isD (chc t (i + 1 + 1 + 1))
                                    · skip
                                      simp only [ph, pD, pN, pP, sgn, bnd, wnt, sp, pNp, posC, cif_pos g1, cif_pos g2, cif_pos g3]
                                    · simp only [ph, pD, pN, pP, sgn, bnd, wnt, sp, pNp, posC, cif_pos g1, cif_pos g2, cif_neg g3]
                                  · simp only [ph, pD, pN, pP, sgn, bnd, wnt, sp, pNp, posC, cif_pos g1, cif_neg g2]
                                · simp only [ph, pD, pN, pP, sgn, bnd, wnt, sp, pNp, posC, cif_neg g1]
                              have hval : ∀ e q, cmd t i = .inr (e, q) → TDk ((upd (upd (upd td (4 * n) (nI 104)) (4 * n + 1) x_85) (4 * n + 2) x_218)) n q := by
                                intro e q hcm
                                rw [cmd_h hl] at hcm
                                by_cases g1 : isD (chc t (i + 1))
                                case neg => simp only [ph, pD, pN, pP, sgn, bnd, wnt, sp, pNp, posC, cif_neg g1, reduceCtorEq] at hcm
                                case pos =>
                                  by_cases g2 : chc t (i + 1 + 1) = nI 62
                                  case neg => simp only [ph, pD, pN, pP, sgn, bnd, wnt, sp, pNp, posC, cif_pos g1, cif_neg g2, reduceCtorEq] at hcm
                                  case pos =>
                                    by_cases g3 : isD (chc t (i + 1 + 1 + 1))
                                    case neg => simp only [ph, pD, pN, pP, sgn, bnd, wnt, sp, pNp, posC, cif_pos g1, cif_pos g2, cif_neg g3, reduceCtorEq] at hcm
                                    case pos =>
                                      simp only [ph, pD, pN, pP, sgn, bnd, wnt, sp, pNp, posC, cif_pos g1, cif_pos g2, cif_pos g3, Sum.inr.injEq, Prod.mk.injEq] at hcm
                                      obtain ⟨-, rfl⟩ := hcm
                                      have w_85 : x_85 = nI (dv t (i + 1)) := by
                                        have hh := hv_85
                                        have es : sp (.inr (i + 1) : PSt) = i + 1 := by simp only [ph, pD, pN, pP, sgn, bnd, wnt, sp, pNp, posC]
                                        rw [es] at hh
                                        exact hh g1
                                      have w_218 : x_218 = nI (dv t (i + 1 + 1 + 1)) := by
                                        have hh := hv_218
                                        have es : sp (wnt (wnt (.inr (i + 1) : PSt) (isD (chc t (sp (.inr (i + 1) : PSt))))) (chc t (sp (wnt (.inr (i + 1) : PSt) (isD (chc t (sp (.inr (i + 1) : PSt)))))) = nI 62)) = i + 1 + 1 + 1 := by simp only [ph, pD, pN, pP, sgn, bnd, wnt, sp, pNp, posC, cif_pos g1, cif_pos g2]
                                        rw [es] at hh
                                        exact hh g3
                                      exact ⟨by unfold upd; rw [if_neg (by omega), if_neg (by omega), if_pos rfl], by unfold upd; rw [if_neg (by omega), if_pos rfl, w_85], fun _ => by unfold upd; rw [if_pos rfl, w_218], fun h => absurd h (show ¬ (104 : Nat) = 119 by decide)⟩
                              exact f_vu C hX dX7_readCommand_268 (Rq.of hpos (fun j hj => by unfold upd; rw [if_neg (by omega), if_neg (by omega), if_neg (by omega)]) hval)
                            · skip
                              exact absurd h_225 (by decide)
                          · skip
                            exact absurd h_207 (by decide)
                  · skip
                    exact absurd h_134 (by decide)
                · skip
                  exact absurd h_98 (by decide)
            · skip
              exact absurd h_74 (by decide)
          · skip
            exact absurd (by decide) h_40
set_option maxRecDepth 100000 in
set_option maxHeartbeats 4000000 in
theorem c_X7_readCommand_j {E : EV} {l : Launch} {mem : MEM} {t : TX} (hT : MT_ mem t) {i n : Nat} {td : Nat → Int32} (hi : i ≤ 100) (hn : n ≤ 40) (hl : chc t i = nI 106) : Ct E l yX7_readCommand (me_ws yX7_readCommand cX7_readCommand 3 none) 4 [rv (17, 0, 0)] (tm mem (.inr i) n td) (fun rr mm => rr = uv ∧ Rq t mem n td i mm) := by
  refine Ct.of (RC := RX7) (ls0 := [rv (17, 0, 0), uv, uv]) mi_yX7_readCommand (Nat.le_of_ble_eq_true rfl) rfl (fun X C hX => ?_)
  refine e_iconst (v := nI 4) C dX7_readCommand_0 (by decide) ?_
  refine e_aload_n C dX7_readCommand_1 rfl ?_
  refine e_geti C (ci := 7) 8 rfl rfl rfl (by decide) b_X7 rfl b_fl_X7_162 v17 rfl dX7_readCommand_2 ?_
  refine f_val (y := nI (n)) tm_8 ?_
  refine f_imuln C dX7_readCommand_5 ?_
  refine f_istore_n (ls1 := [_, _, _]) C dX7_readCommand_6 (by decide) rfl ?_
  refine e_aload_n C dX7_readCommand_7 rfl ?_
  refine f_callVr (As := []) (ci := 7) C mi_yX7_letter mv_yX7_letter b_ml_X7_151 dX7_readCommand_8 rfl (c_X7_letter hT (b := 100) (by decide) hi) (by decide) v17 rfl rfl (Nat.le_of_ble_eq_true rfl) ?_
  refine f_val (y := nI (106)) (show ltr t i = nI 106 from (ltr_in (by rw [hl]; decide)).trans hl) ?_
  refine f_istore_n (ls1 := [_, _, _]) C dX7_readCommand_11 (by decide) rfl ?_
  refine e_aload_n C dX7_readCommand_12 rfl ?_
  refine e_iload_n C dX7_readCommand_13 rfl ?_
  refine e_bipush (v := nI 119) C dX7_readCommand_14 (by decide) ?_
  refine e_icmp_eq (tgt := 49) C dX7_readCommand_16 (by decide) (fun h_16 => ?_) (fun h_16 => ?_)
  · skip
    exact absurd h_16 (by decide)
  · skip
    have nh_16 := xI_neD h_16
    refine e_iload_n C dX7_readCommand_19 rfl ?_
    refine e_bipush (v := nI 114) C dX7_readCommand_20 (by decide) ?_
    refine e_icmp_eq (tgt := 49) C dX7_readCommand_22 (by decide) (fun h_22 => ?_) (fun h_22 => ?_)
    · skip
      exact absurd h_22 (by decide)
    · skip
      have nh_22 := xI_neD h_22
      refine e_iload_n C dX7_readCommand_25 rfl ?_
      refine e_bipush (v := nI 116) C dX7_readCommand_26 (by decide) ?_
      refine e_icmp_eq (tgt := 49) C dX7_readCommand_28 (by decide) (fun h_28 => ?_) (fun h_28 => ?_)
      · skip
        exact absurd h_28 (by decide)
      · skip
        have nh_28 := xI_neD h_28
        refine e_iload_n C dX7_readCommand_31 rfl ?_
        refine e_bipush (v := nI 109) C dX7_readCommand_32 (by decide) ?_
        refine e_icmp_eq (tgt := 49) C dX7_readCommand_34 (by decide) (fun h_34 => ?_) (fun h_34 => ?_)
        · skip
          exact absurd h_34 (by decide)
        · skip
          have nh_34 := xI_neD h_34
          refine e_iload_n C dX7_readCommand_37 rfl ?_
          refine e_bipush (v := nI 104) C dX7_readCommand_38 (by decide) ?_
          refine e_icmp_eq (tgt := 49) C dX7_readCommand_40 (by decide) (fun h_40 => ?_) (fun h_40 => ?_)
          · skip
            exact absurd h_40 (by decide)
          · skip
            have nh_40 := xI_neD h_40
            refine e_iload_n C dX7_readCommand_43 rfl ?_
            refine e_bipush (v := nI 106) C dX7_readCommand_44 (by decide) ?_
            refine e_icmp_ne (tgt := 53) C dX7_readCommand_46 (by decide) (fun h_46 => ?_) (fun h_46 => ?_)
            · skip
              exact absurd h_46 (by decide)
            · skip
              have nh_46 := xI_inj (by omega) (by omega) h_46
              refine e_iconst (v := nI 1) C dX7_readCommand_49 (by decide) ?_
              refine e_goto (tgt := 54) C dX7_readCommand_50 (by decide) ?_
              refine f_val (b2i_1 (P := True) trivial) ?_
              refine f_callVv (As := [_]) (ci := 7) C mi_yX7_wants mv_yX7_wants b_ml_X7_155 dX7_readCommand_54 rfl (c_X7_wants (σ := .inr i) (b := 100) (by decide) hi) (by decide) v17 rfl rfl (Nat.le_of_ble_eq_true rfl) ?_
              refine e_mem (m' := tm mem (.inr (i + 1)) n td) (EqV.of (congrArg (fun s => tm mem s n td) (show wnt (.inr i) True = (.inr (i + 1) : PSt) from cif_pos trivial))) ?_
              have hb0 : sp (.inr (i + 1)) ≤ 101 := Nat.succ_le_succ hi
              refine e_aload_n C dX7_readCommand_57 rfl ?_
              refine e_getr C (ci := 7) 7 rfl rfl rfl (by decide) b_X7 rfl b_fl_X7_23 v17 rfl dX7_readCommand_58 ?_
              refine e_iload_n C dX7_readCommand_61 rfl ?_
              refine e_iload_n C dX7_readCommand_62 rfl ?_
              refine f_iast C rfl v22 (by omega) (by decide) dX7_readCommand_63 ?_
              rw [up_tm22]
              refine e_aload_n C dX7_readCommand_64 rfl ?_
              refine e_getr C (ci := 7) 7 rfl rfl rfl (by decide) b_X7 rfl b_fl_X7_23 v17 rfl dX7_readCommand_65 ?_
              refine e_iload_n C dX7_readCommand_68 rfl ?_
              refine e_iconst (v := nI 1) C dX7_readCommand_69 (by decide) ?_
              refine f_iaddn C dX7_readCommand_70 ?_
              refine e_iload_n C dX7_readCommand_71 rfl ?_
              refine e_bipush (v := nI 116) C dX7_readCommand_72 (by decide) ?_
              refine e_icmp_ne (tgt := 84) C dX7_readCommand_74 (by decide) (fun h_74 => ?_) (fun h_74 => ?_)
              · skip
                have nh_74 := xI_neD h_74
                refine e_aload_n C dX7_readCommand_84 rfl ?_
                refine f_callVi (As := []) (ci := 7) C mi_yX7_digit mv_yX7_digit b_ml_X7_159 dX7_readCommand_85 rfl (c_X7_digit hT (b := 101) (by decide) hb0) (by decide) v17 rfl rfl (Nat.le_of_ble_eq_true rfl) (fun x_85 m_85 hc_85 => ?_)
                obtain ⟨rfl, hv_85⟩ := hc_85
                refine f_iast C rfl v22 (by omega) (by decide) dX7_readCommand_88 ?_
                rw [up_tm22]
                refine e_iload_n C dX7_readCommand_89 rfl ?_
                refine e_bipush (v := nI 119) C dX7_readCommand_90 (by decide) ?_
                refine e_icmp_eq (tgt := 101) C dX7_readCommand_92 (by decide) (fun h_92 => ?_) (fun h_92 => ?_)
                · skip
                  exact absurd h_92 (by decide)
                · skip
                  have nh_92 := xI_neD h_92
                  refine e_iload_n C dX7_readCommand_95 rfl ?_
                  refine e_bipush (v := nI 114) C dX7_readCommand_96 (by decide) ?_
                  refine e_icmp_ne (tgt := 131) C dX7_readCommand_98 (by decide) (fun h_98 => ?_) (fun h_98 => ?_)
                  · skip
                    have nh_98 := xI_neD h_98
                    refine e_iload_n C dX7_readCommand_131 rfl ?_
                    refine e_bipush (v := nI 119) C dX7_readCommand_132 (by decide) ?_
                    refine e_icmp_ne (tgt := 167) C dX7_readCommand_134 (by decide) (fun h_134 => ?_) (fun h_134 => ?_)
                    · skip
                      have nh_134 := xI_neD h_134
                      refine e_iload_n C dX7_readCommand_167 rfl ?_
                      refine e_bipush (v := nI 109) C dX7_readCommand_168 (by decide) ?_
                      refine e_icmp_eq (tgt := 179) C dX7_readCommand_170 (by decide) (fun h_170 => ?_) (fun h_170 => ?_)
                      · skip
                        exact absurd h_170 (by decide)
                      · skip
                        have nh_170 := xI_neD h_170
                        refine e_iload_n C dX7_readCommand_173 rfl ?_
                        refine e_bipush (v := nI 104) C dX7_readCommand_174 (by decide) ?_
                        refine e_icmp_ne (tgt := 222) C dX7_readCommand_176 (by decide) (fun h_176 => ?_) (fun h_176 => ?_)
                        · skip
                          have nh_176 := xI_neD h_176
                          refine e_iload_n C dX7_readCommand_222 rfl ?_
                          refine e_bipush (v := nI 106) C dX7_readCommand_223 (by decide) ?_
                          refine e_icmp_ne (tgt := 258) C dX7_readCommand_225 (by decide) (fun h_225 => ?_) (fun h_225 => ?_)
                          · skip
                            exact absurd h_225 (by decide)
                          · skip
                            have nh_225 := xI_inj (by omega) (by omega) h_225
                            refine e_aload_n C dX7_readCommand_228 rfl ?_
                            refine e_aload_n C dX7_readCommand_229 rfl ?_
                            refine f_callVr (As := []) (ci := 7) C mi_yX7_letter mv_yX7_letter b_ml_X7_151 dX7_readCommand_230 rfl (c_X7_letter hT (b := 102) (by decide) (sp_w hb0)) (by decide) v17 rfl rfl (Nat.le_of_ble_eq_true rfl) ?_
                            refine e_bipush (v := nI 64) C dX7_readCommand_233 (by decide) ?_
                            refine e_icmp_ne (tgt := 242) C dX7_readCommand_235 (by decide) (fun h_235 => ?_) (fun h_235 => ?_)
                            · skip
                              refine e_iconst (v := nI 0) C dX7_readCommand_242 (by decide) ?_
                              refine f_val (b2i_0 (fun q => h_235 ((ltr_c (by decide) (by decide)).mpr q))) ?_
                              refine f_callVv (As := [_]) (ci := 7) C mi_yX7_wants mv_yX7_wants b_ml_X7_155 dX7_readCommand_243 rfl (c_X7_wants (b := 102) (by decide) (sp_w hb0)) (by decide) v17 rfl rfl (Nat.le_of_ble_eq_true rfl) ?_
                              refine e_aload_n C dX7_readCommand_246 rfl ?_
                              refine e_getr C (ci := 7) 7 rfl rfl rfl (by decide) b_X7 rfl b_fl_X7_23 v17 rfl dX7_readCommand_247 ?_
                              refine e_iload_n C dX7_readCommand_250 rfl ?_
                              refine e_iconst (v := nI 2) C dX7_readCommand_251 (by decide) ?_
                              refine f_iaddn C dX7_readCommand_252 ?_
                              refine e_aload_n C dX7_readCommand_253 rfl ?_
                              refine f_callVi (As := []) (ci := 7) C mi_yX7_number mv_yX7_number b_ml_X7_165 dX7_readCommand_254 rfl (c_X7_number hT (b := 103) (by decide) (sp_w (sp_w hb0))) (by decide) v17 rfl rfl (Nat.le_of_ble_eq_true rfl) (fun x_254 m_254 hc_254 => ?_)
                              obtain ⟨rfl, hv_254⟩ := hc_254
                              refine f_iast C rfl v22 (by omega) (by decide) dX7_readCommand_257 ?_
                              rw [up_tm22]
                              refine e_aload_n C dX7_readCommand_258 rfl ?_
                              refine e_dup C dX7_readCommand_259 ?_
                              refine e_geti C (ci := 7) 8 rfl rfl rfl (by decide) b_X7 rfl b_fl_X7_162 v17 rfl dX7_readCommand_260 ?_
                              refine f_val (y := nI (n)) tm_8 ?_
                              refine e_iconst (v := nI 1) C dX7_readCommand_263 (by decide) ?_
                              refine f_iaddn C dX7_readCommand_264 ?_
                              refine e_puti C (ci := 7) 8 rfl rfl rfl (by decide) b_X7 rfl b_fl_X7_162 v17 tyX7 tyX7_ok nmX7 rfl (.inl ⟨rfl, rfl⟩) rfl dX7_readCommand_265 ?_
                              rw [up_tm8]
                              have hpos : (bnd (wnt (wnt (.inr (i + 1) : PSt) (isD (chc t (sp (.inr (i + 1) : PSt))))) (chc t (sp (wnt (.inr (i + 1) : PSt) (isD (chc t (sp (.inr (i + 1) : PSt)))))) = nI 64)) (pNp t)) = posC (cmd t i) := by
                                rw [cmd_j hl]
                                by_cases g1 : isD (chc t (i + 1))
                                · skip
                                  by_cases g2 : chc t (i + 1 + 1) = nI 64
                                  · skip
                                    by_cases g3 : isD (chc t (i + 1 + 1 + 1))
                                    · skip
                                      simp only [pj, pD, pN, pP, sgn, bnd, wnt, sp, pNp, posC, cif_pos g1, cif_pos g2, cif_pos g3]
                                    · simp only [pj, pD, pN, pP, sgn, bnd, wnt, sp, pNp, posC, cif_pos g1, cif_pos g2, cif_neg g3]
                                  · simp only [pj, pD, pN, pP, sgn, bnd, wnt, sp, pNp, posC, cif_pos g1, cif_neg g2]
                                · simp only [pj, pD, pN, pP, sgn, bnd, wnt, sp, pNp, posC, cif_neg g1]
                              have hval : ∀ e q, cmd t i = .inr (e, q) → TDk ((upd (upd (upd td (4 * n) (nI 106)) (4 * n + 1) x_85) (4 * n + 2) x_254)) n q := by
                                intro e q hcm
                                rw [cmd_j hl] at hcm
                                by_cases g1 : isD (chc t (i + 1))
                                case neg => simp only [pj, pD, pN, pP, sgn, bnd, wnt, sp, pNp, posC, cif_neg g1, reduceCtorEq] at hcm
                                case pos =>
                                  by_cases g2 : chc t (i + 1 + 1) = nI 64
                                  case neg => simp only [pj, pD, pN, pP, sgn, bnd, wnt, sp, pNp, posC, cif_pos g1, cif_neg g2, reduceCtorEq] at hcm
                                  case pos =>
                                    by_cases g3 : isD (chc t (i + 1 + 1 + 1))
                                    case neg => simp only [pj, pD, pN, pP, sgn, bnd, wnt, sp, pNp, posC, cif_pos g1, cif_pos g2, cif_neg g3, reduceCtorEq] at hcm
                                    case pos =>
                                      simp only [pj, pD, pN, pP, sgn, bnd, wnt, sp, pNp, posC, cif_pos g1, cif_pos g2, cif_pos g3, Sum.inr.injEq, Prod.mk.injEq] at hcm
                                      obtain ⟨-, rfl⟩ := hcm
                                      have w_85 : x_85 = nI (dv t (i + 1)) := by
                                        have hh := hv_85
                                        have es : sp (.inr (i + 1) : PSt) = i + 1 := by simp only [pj, pD, pN, pP, sgn, bnd, wnt, sp, pNp, posC]
                                        rw [es] at hh
                                        exact hh g1
                                      have w_254 : x_254 = nI (nul t 2 (i + 1 + 1 + 1 + 1) (dv t (i + 1 + 1 + 1))).2 := hv_254 (i + 1 + 1 + 1) (by simp only [pj, pD, pN, pP, sgn, bnd, wnt, sp, pNp, posC, cif_pos g1, cif_pos g2]) g3
                                      exact ⟨by unfold upd; rw [if_neg (by omega), if_neg (by omega), if_pos rfl], by unfold upd; rw [if_neg (by omega), if_pos rfl, w_85], fun _ => by unfold upd; rw [if_pos rfl, w_254], fun h => absurd h (show ¬ (106 : Nat) = 119 by decide)⟩
                              exact f_vu C hX dX7_readCommand_268 (Rq.of hpos (fun j hj => by unfold upd; rw [if_neg (by omega), if_neg (by omega), if_neg (by omega)]) hval)
                            · skip
                              refine e_iconst (v := nI 1) C dX7_readCommand_238 (by decide) ?_
                              refine e_goto (tgt := 243) C dX7_readCommand_239 (by decide) ?_
                              refine f_val (b2i_1 ((ltr_c (by decide) (by decide)).mp h_235)) ?_
                              refine f_callVv (As := [_]) (ci := 7) C mi_yX7_wants mv_yX7_wants b_ml_X7_155 dX7_readCommand_243 rfl (c_X7_wants (b := 102) (by decide) (sp_w hb0)) (by decide) v17 rfl rfl (Nat.le_of_ble_eq_true rfl) ?_
                              refine e_aload_n C dX7_readCommand_246 rfl ?_
                              refine e_getr C (ci := 7) 7 rfl rfl rfl (by decide) b_X7 rfl b_fl_X7_23 v17 rfl dX7_readCommand_247 ?_
                              refine e_iload_n C dX7_readCommand_250 rfl ?_
                              refine e_iconst (v := nI 2) C dX7_readCommand_251 (by decide) ?_
                              refine f_iaddn C dX7_readCommand_252 ?_
                              refine e_aload_n C dX7_readCommand_253 rfl ?_
                              refine f_callVi (As := []) (ci := 7) C mi_yX7_number mv_yX7_number b_ml_X7_165 dX7_readCommand_254 rfl (c_X7_number hT (b := 103) (by decide) (sp_w (sp_w hb0))) (by decide) v17 rfl rfl (Nat.le_of_ble_eq_true rfl) (fun x_254 m_254 hc_254 => ?_)
                              obtain ⟨rfl, hv_254⟩ := hc_254
                              refine f_iast C rfl v22 (by omega) (by decide) dX7_readCommand_257 ?_
                              rw [up_tm22]
                              refine e_aload_n C dX7_readCommand_258 rfl ?_
                              refine e_dup C dX7_readCommand_259 ?_
                              refine e_geti C (ci := 7) 8 rfl rfl rfl (by decide) b_X7 rfl b_fl_X7_162 v17 rfl dX7_readCommand_260 ?_
                              refine f_val (y := nI (n)) tm_8 ?_
                              refine e_iconst (v := nI 1) C dX7_readCommand_263 (by decide) ?_
                              refine f_iaddn C dX7_readCommand_264 ?_
                              refine e_puti C (ci := 7) 8 rfl rfl rfl (by decide) b_X7 rfl b_fl_X7_162 v17 tyX7 tyX7_ok nmX7 rfl (.inl ⟨rfl, rfl⟩) rfl dX7_readCommand_265 ?_
                              rw [up_tm8]
                              have hpos : (bnd (wnt (wnt (.inr (i + 1) : PSt) (isD (chc t (sp (.inr (i + 1) : PSt))))) (chc t (sp (wnt (.inr (i + 1) : PSt) (isD (chc t (sp (.inr (i + 1) : PSt)))))) = nI 64)) (pNp t)) = posC (cmd t i) := by
                                rw [cmd_j hl]
                                by_cases g1 : isD (chc t (i + 1))
                                · skip
                                  by_cases g2 : chc t (i + 1 + 1) = nI 64
                                  · skip
                                    by_cases g3 : isD (chc t (i + 1 + 1 + 1))
                                    · skip
                                      simp only [pj, pD, pN, pP, sgn, bnd, wnt, sp, pNp, posC, cif_pos g1, cif_pos g2, cif_pos g3]
                                    · simp only [pj, pD, pN, pP, sgn, bnd, wnt, sp, pNp, posC, cif_pos g1, cif_pos g2, cif_neg g3]
                                  · simp only [pj, pD, pN, pP, sgn, bnd, wnt, sp, pNp, posC, cif_pos g1, cif_neg g2]
                                · simp only [pj, pD, pN, pP, sgn, bnd, wnt, sp, pNp, posC, cif_neg g1]
                              have hval : ∀ e q, cmd t i = .inr (e, q) → TDk ((upd (upd (upd td (4 * n) (nI 106)) (4 * n + 1) x_85) (4 * n + 2) x_254)) n q := by
                                intro e q hcm
                                rw [cmd_j hl] at hcm
                                by_cases g1 : isD (chc t (i + 1))
                                case neg => simp only [pj, pD, pN, pP, sgn, bnd, wnt, sp, pNp, posC, cif_neg g1, reduceCtorEq] at hcm
                                case pos =>
                                  by_cases g2 : chc t (i + 1 + 1) = nI 64
                                  case neg => simp only [pj, pD, pN, pP, sgn, bnd, wnt, sp, pNp, posC, cif_pos g1, cif_neg g2, reduceCtorEq] at hcm
                                  case pos =>
                                    by_cases g3 : isD (chc t (i + 1 + 1 + 1))
                                    case neg => simp only [pj, pD, pN, pP, sgn, bnd, wnt, sp, pNp, posC, cif_pos g1, cif_pos g2, cif_neg g3, reduceCtorEq] at hcm
                                    case pos =>
                                      simp only [pj, pD, pN, pP, sgn, bnd, wnt, sp, pNp, posC, cif_pos g1, cif_pos g2, cif_pos g3, Sum.inr.injEq, Prod.mk.injEq] at hcm
                                      obtain ⟨-, rfl⟩ := hcm
                                      have w_85 : x_85 = nI (dv t (i + 1)) := by
                                        have hh := hv_85
                                        have es : sp (.inr (i + 1) : PSt) = i + 1 := by simp only [pj, pD, pN, pP, sgn, bnd, wnt, sp, pNp, posC]
                                        rw [es] at hh
                                        exact hh g1
                                      have w_254 : x_254 = nI (nul t 2 (i + 1 + 1 + 1 + 1) (dv t (i + 1 + 1 + 1))).2 := hv_254 (i + 1 + 1 + 1) (by simp only [pj, pD, pN, pP, sgn, bnd, wnt, sp, pNp, posC, cif_pos g1, cif_pos g2]) g3
                                      exact ⟨by unfold upd; rw [if_neg (by omega), if_neg (by omega), if_pos rfl], by unfold upd; rw [if_neg (by omega), if_pos rfl, w_85], fun _ => by unfold upd; rw [if_pos rfl, w_254], fun h => absurd h (show ¬ (106 : Nat) = 119 by decide)⟩
                              exact f_vu C hX dX7_readCommand_268 (Rq.of hpos (fun j hj => by unfold upd; rw [if_neg (by omega), if_neg (by omega), if_neg (by omega)]) hval)
                        · skip
                          exact absurd h_176 (by decide)
                    · skip
                      exact absurd h_134 (by decide)
                  · skip
                    exact absurd h_98 (by decide)
              · skip
                exact absurd h_74 (by decide)
set_option maxRecDepth 100000 in
set_option maxHeartbeats 4000000 in
theorem c_X7_readCommand_o {E : EV} {l : Launch} {mem : MEM} {t : TX} (hT : MT_ mem t) {i n : Nat} {td : Nat → Int32} (hi : i ≤ 100) (hn : n ≤ 40) (hw : ¬ chc t i = nI 119) (hr : ¬ chc t i = nI 114) (ht : ¬ chc t i = nI 116) (hm : ¬ chc t i = nI 109) (hh : ¬ chc t i = nI 104) (hj : ¬ chc t i = nI 106) : Ct E l yX7_readCommand (me_ws yX7_readCommand cX7_readCommand 3 none) 4 [rv (17, 0, 0)] (tm mem (.inr i) n td) (fun rr mm => rr = uv ∧ Rq t mem n td i mm) := by
  have lw : ¬ ltr t i = nI 119 := fun q => hw ((ltr_c (by decide) (by decide)).mp q)
  have lr : ¬ ltr t i = nI 114 := fun q => hr ((ltr_c (by decide) (by decide)).mp q)
  have lt : ¬ ltr t i = nI 116 := fun q => ht ((ltr_c (by decide) (by decide)).mp q)
  have lm : ¬ ltr t i = nI 109 := fun q => hm ((ltr_c (by decide) (by decide)).mp q)
  have lh : ¬ ltr t i = nI 104 := fun q => hh ((ltr_c (by decide) (by decide)).mp q)
  have lj : ¬ ltr t i = nI 106 := fun q => hj ((ltr_c (by decide) (by decide)).mp q)
  refine Ct.of (RC := RX7) (ls0 := [rv (17, 0, 0), uv, uv]) mi_yX7_readCommand (Nat.le_of_ble_eq_true rfl) rfl (fun X C hX => ?_)
  refine e_iconst (v := nI 4) C dX7_readCommand_0 (by decide) ?_
  refine e_aload_n C dX7_readCommand_1 rfl ?_
  refine e_geti C (ci := 7) 8 rfl rfl rfl (by decide) b_X7 rfl b_fl_X7_162 v17 rfl dX7_readCommand_2 ?_
  refine f_val (y := nI (n)) tm_8 ?_
  refine f_imuln C dX7_readCommand_5 ?_
  refine f_istore_n (ls1 := [_, _, _]) C dX7_readCommand_6 (by decide) rfl ?_
  refine e_aload_n C dX7_readCommand_7 rfl ?_
  refine f_callVr (As := []) (ci := 7) C mi_yX7_letter mv_yX7_letter b_ml_X7_151 dX7_readCommand_8 rfl (c_X7_letter hT (b := 100) (by decide) hi) (by decide) v17 rfl rfl (Nat.le_of_ble_eq_true rfl) ?_
  refine f_istore_n (ls1 := [_, _, _]) C dX7_readCommand_11 (by decide) rfl ?_
  refine e_aload_n C dX7_readCommand_12 rfl ?_
  refine e_iload_n C dX7_readCommand_13 rfl ?_
  refine e_bipush (v := nI 119) C dX7_readCommand_14 (by decide) ?_
  refine e_icmp_eq (tgt := 49) C dX7_readCommand_16 (by decide) (fun h_16 => ?_) (fun h_16 => ?_)
  · skip
    exact absurd h_16 lw
  · skip
    refine e_iload_n C dX7_readCommand_19 rfl ?_
    refine e_bipush (v := nI 114) C dX7_readCommand_20 (by decide) ?_
    refine e_icmp_eq (tgt := 49) C dX7_readCommand_22 (by decide) (fun h_22 => ?_) (fun h_22 => ?_)
    · skip
      exact absurd h_22 lr
    · skip
      refine e_iload_n C dX7_readCommand_25 rfl ?_
      refine e_bipush (v := nI 116) C dX7_readCommand_26 (by decide) ?_
      refine e_icmp_eq (tgt := 49) C dX7_readCommand_28 (by decide) (fun h_28 => ?_) (fun h_28 => ?_)
      · skip
        exact absurd h_28 lt
      · skip
        refine e_iload_n C dX7_readCommand_31 rfl ?_
        refine e_bipush (v := nI 109) C dX7_readCommand_32 (by decide) ?_
        refine e_icmp_eq (tgt := 49) C dX7_readCommand_34 (by decide) (fun h_34 => ?_) (fun h_34 => ?_)
        · skip
          exact absurd h_34 lm
        · skip
          refine e_iload_n C dX7_readCommand_37 rfl ?_
          refine e_bipush (v := nI 104) C dX7_readCommand_38 (by decide) ?_
          refine e_icmp_eq (tgt := 49) C dX7_readCommand_40 (by decide) (fun h_40 => ?_) (fun h_40 => ?_)
          · skip
            exact absurd h_40 lh
          · skip
            refine e_iload_n C dX7_readCommand_43 rfl ?_
            refine e_bipush (v := nI 106) C dX7_readCommand_44 (by decide) ?_
            refine e_icmp_ne (tgt := 53) C dX7_readCommand_46 (by decide) (fun h_46 => ?_) (fun h_46 => ?_)
            · skip
              refine e_iconst (v := nI 0) C dX7_readCommand_53 (by decide) ?_
              refine f_val (b2i_0 (P := False) id) ?_
              refine f_callVv (As := [_]) (ci := 7) C mi_yX7_wants mv_yX7_wants b_ml_X7_155 dX7_readCommand_54 rfl (c_X7_wants (σ := .inr i) (b := 100) (by decide) hi) (by decide) v17 rfl rfl (Nat.le_of_ble_eq_true rfl) ?_
              refine e_mem (m' := tm mem (.inl i) n td) (EqV.of (congrArg (fun s => tm mem s n td) (show wnt (.inr i) False = (.inl i : PSt) from cif_neg id))) ?_
              have hb0 : sp (.inl i) ≤ 101 := Nat.succ_le_succ hi
              refine e_aload_n C dX7_readCommand_57 rfl ?_
              refine e_getr C (ci := 7) 7 rfl rfl rfl (by decide) b_X7 rfl b_fl_X7_23 v17 rfl dX7_readCommand_58 ?_
              refine e_iload_n C dX7_readCommand_61 rfl ?_
              refine e_iload_n C dX7_readCommand_62 rfl ?_
              refine f_iast C rfl v22 (by omega) (by decide) dX7_readCommand_63 ?_
              rw [up_tm22]
              refine e_aload_n C dX7_readCommand_64 rfl ?_
              refine e_getr C (ci := 7) 7 rfl rfl rfl (by decide) b_X7 rfl b_fl_X7_23 v17 rfl dX7_readCommand_65 ?_
              refine e_iload_n C dX7_readCommand_68 rfl ?_
              refine e_iconst (v := nI 1) C dX7_readCommand_69 (by decide) ?_
              refine f_iaddn C dX7_readCommand_70 ?_
              refine e_iload_n C dX7_readCommand_71 rfl ?_
              refine e_bipush (v := nI 116) C dX7_readCommand_72 (by decide) ?_
              refine e_icmp_ne (tgt := 84) C dX7_readCommand_74 (by decide) (fun h_74 => ?_) (fun h_74 => ?_)
              · skip
                refine e_aload_n C dX7_readCommand_84 rfl ?_
                refine f_callVi (As := []) (ci := 7) C mi_yX7_digit mv_yX7_digit b_ml_X7_159 dX7_readCommand_85 rfl (c_X7_digit hT (b := 101) (by decide) hb0) (by decide) v17 rfl rfl (Nat.le_of_ble_eq_true rfl) (fun x_85 m_85 hc_85 => ?_)
                obtain ⟨rfl, -⟩ := hc_85
                refine e_mem (EqV.of (show _ = tm mem (.inl i) n (upd td (4 * n) (ltr t (sp (.inr i)))) from rfl)) ?_
                refine f_iast C rfl v22 (by omega) (by decide) dX7_readCommand_88 ?_
                rw [up_tm22]
                refine e_iload_n C dX7_readCommand_89 rfl ?_
                refine e_bipush (v := nI 119) C dX7_readCommand_90 (by decide) ?_
                refine e_icmp_eq (tgt := 101) C dX7_readCommand_92 (by decide) (fun h_92 => ?_) (fun h_92 => ?_)
                · skip
                  exact absurd h_92 lw
                · skip
                  refine e_iload_n C dX7_readCommand_95 rfl ?_
                  refine e_bipush (v := nI 114) C dX7_readCommand_96 (by decide) ?_
                  refine e_icmp_ne (tgt := 131) C dX7_readCommand_98 (by decide) (fun h_98 => ?_) (fun h_98 => ?_)
                  · skip
                    refine e_iload_n C dX7_readCommand_131 rfl ?_
                    refine e_bipush (v := nI 119) C dX7_readCommand_132 (by decide) ?_
                    refine e_icmp_ne (tgt := 167) C dX7_readCommand_134 (by decide) (fun h_134 => ?_) (fun h_134 => ?_)
                    · skip
                      refine e_iload_n C dX7_readCommand_167 rfl ?_
                      refine e_bipush (v := nI 109) C dX7_readCommand_168 (by decide) ?_
                      refine e_icmp_eq (tgt := 179) C dX7_readCommand_170 (by decide) (fun h_170 => ?_) (fun h_170 => ?_)
                      · skip
                        exact absurd h_170 lm
                      · skip
                        refine e_iload_n C dX7_readCommand_173 rfl ?_
                        refine e_bipush (v := nI 104) C dX7_readCommand_174 (by decide) ?_
                        refine e_icmp_ne (tgt := 222) C dX7_readCommand_176 (by decide) (fun h_176 => ?_) (fun h_176 => ?_)
                        · skip
                          refine e_iload_n C dX7_readCommand_222 rfl ?_
                          refine e_bipush (v := nI 106) C dX7_readCommand_223 (by decide) ?_
                          refine e_icmp_ne (tgt := 258) C dX7_readCommand_225 (by decide) (fun h_225 => ?_) (fun h_225 => ?_)
                          · skip
                            refine e_aload_n C dX7_readCommand_258 rfl ?_
                            refine e_dup C dX7_readCommand_259 ?_
                            refine e_geti C (ci := 7) 8 rfl rfl rfl (by decide) b_X7 rfl b_fl_X7_162 v17 rfl dX7_readCommand_260 ?_
                            refine f_val (y := nI (n)) tm_8 ?_
                            refine e_iconst (v := nI 1) C dX7_readCommand_263 (by decide) ?_
                            refine f_iaddn C dX7_readCommand_264 ?_
                            refine e_puti C (ci := 7) 8 rfl rfl rfl (by decide) b_X7 rfl b_fl_X7_162 v17 tyX7 tyX7_ok nmX7 rfl (.inl ⟨rfl, rfl⟩) rfl dX7_readCommand_265 ?_
                            rw [up_tm8]
                            have hco := cmd_o hw hr ht hm hh hj
                            exact f_vu C hX dX7_readCommand_268 (Rq.of (by rw [hco]; rfl) (fun j hj => by unfold upd; rw [if_neg (by omega), if_neg (by omega)]) (fun e q hq => by rw [hco] at hq; cases hq))
                          · skip
                            exact absurd h_225 lj
                        · skip
                          exact absurd h_176 lh
                    · skip
                      exact absurd h_134 lw
                  · skip
                    exact absurd h_98 lr
              · skip
                exact absurd h_74 lt
            · skip
              exact absurd h_46 lj
theorem c_X7_readCommand {E : EV} {l : Launch} {mem : MEM} {t : TX} (hT : MT_ mem t) {i n : Nat} {td : Nat → Int32} (hi : i ≤ 100) (hn : n ≤ 40) : Ct E l yX7_readCommand (me_ws yX7_readCommand cX7_readCommand 3 none) 4 [rv (17, 0, 0)] (tm mem (.inr i) n td) (fun rr mm => rr = uv ∧ Rq t mem n td i mm) := by
  by_cases hw : chc t i = nI 119
  · exact c_X7_readCommand_w hT hi hn hw
  by_cases hr : chc t i = nI 114
  · exact c_X7_readCommand_r hT hi hn hr
  by_cases ht : chc t i = nI 116
  · exact c_X7_readCommand_t hT hi hn ht
  by_cases hm : chc t i = nI 109
  · exact c_X7_readCommand_m hT hi hn hm
  by_cases hh : chc t i = nI 104
  · exact c_X7_readCommand_h hT hi hn hh
  by_cases hj : chc t i = nI 106
  · exact c_X7_readCommand_j hT hi hn hj
  exact c_X7_readCommand_o hT hi hn hw hr ht hm hh hj
