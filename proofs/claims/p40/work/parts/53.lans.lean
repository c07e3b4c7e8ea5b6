/-! ===== the law's own answer to a session ===== -/
def FA (mem m : MEM) : Prop := ∀ id : ID, id ≠ (19, 0, 0) → id ≠ (20, 0, 0) → m id = mem id
def FrN (mem m : MEM) : Prop := ∀ id : ID, id.1 ≤ 17 → m id = mem id
theorem FA.s {mem m : MEM} {j : Nat} {v : Int32} (h : FA mem m) : FA mem (up m (19, 0, 0) j v) := fun id h1 h2 => (up_o h1).trans (h id h1 h2)
theorem FA.q {mem m : MEM} {j : Nat} {v : Int32} (h : FA mem m) : FA mem (up m (20, 0, 0) j v) := fun id h1 h2 => (up_o h2).trans (h id h1 h2)
theorem FA.rfl' {mem : MEM} : FA mem mem := fun _ _ _ => rfl
theorem FA.at' {mem m : MEM} {pl P : Nat} (h : FA mem m) (ha : LAt mem pl P) : LAt m pl P := by
  unfold LAt
  rw [h (21, 0, 0) (by decide) (by decide), h (18, 0, 0) (by decide) (by decide)]
  exact ha
theorem FA.n {mem m : MEM} (h : FA mem m) : FrN mem m := fun id hid => h id (fun e => by rw [e] at hid; revert hid; decide) (fun e => by rw [e] at hid; revert hid; decide)
theorem FrN.set {mem m : MEM} {id : ID} {j : Nat} {v : Int32} (h : FrN mem m) (hb : 17 < id.1) : FrN mem (up m id j v) := fun id' h' => (up_o (fun e => by rw [e] at h'; omega)).trans (h id' h')
theorem FrN.log {mem m : MEM} {z : ZZ} {c : Nat} (h : FrN mem m) (hL : LLog mem z c) : LLog m z c := by
  unfold LLog
  rw [h (17, 0, 0) (Nat.le_refl _)]
  exact hL
theorem FrN.M {mem m : MEM} (h : FrN mem m) : FrM mem m := fun id hid => h id (by omega)
theorem maxI_gt {a b : Int32} (h : ¬ a ≤ b) : a = maxI a b := by
  unfold maxI
  rw [if_neg]
  intro q
  rw [Int32.le_iff_toInt_le] at h
  rw [Int32.lt_iff_toInt_lt] at q
  omega
theorem maxI_ngt {a b : Int32} (h : a ≤ b) : b = maxI a b := by
  unfold maxI
  by_cases q : a < b
  · rw [if_pos q]
  · rw [if_neg q]
    rw [Int32.le_iff_toInt_le] at h
    rw [Int32.lt_iff_toInt_lt] at q
    exact Int32.toInt_inj.mp (by omega)
set_option maxRecDepth 100000 in
set_option maxHeartbeats 4000000 in
theorem c_L_answer {E : EV} {l : Launch} {mem : MEM} {z : ZZ} {c : Nat} (hZ : LZ mem z c) (hI : GoodC z c) {n : Nat} (hn : n < 4) (ho : sz z n 0 = 1) {q : Nat} (hq : q < 12) {pl : Nat} (hp : isPn z pl) {tk : Nat} : Ct E l yL_answer (me_ws yL_answer cL_answer 10 (some .int)) 2 [rv (17, 0, 0), rv (18, 0, 0), rv (19, 0, 0), rv (20, 0, 0), rv (21, 0, 0), iv (nI n), iv (nI q), iv (nI pl), iv (nI tk)] mem ((fun rr mm => ∃ xx : Int32, rr = iv xx ∧ ((xx = (anp z n q pl (nI tk)).1 ∧ LZ mm (anp z n q pl (nI tk)).2 c) ∧ FrN mem mm))) := by
  have hc60 := hZ.c60
  have hpo := posn_le hI.1 hp
  have epz := posz_n hI.1 hp
  have hp9 := isPn_le hp
  have hV : (ansv z q pl) ≤ c := Nat.le_trans (lastw_le _ _ _) hpo
  refine Ct.of (RC := RL) (ls0 := [rv (17, 0, 0), rv (18, 0, 0), rv (19, 0, 0), rv (20, 0, 0), rv (21, 0, 0), iv (nI n), iv (nI q), iv (nI pl), iv (nI tk), uv]) mi_yL_answer (Nat.le_of_ble_eq_true rfl) rfl (fun X C hX => ?_)
  refine e_aload_n C dL_answer_0 rfl ?_
  refine e_aload_n C dL_answer_1 rfl ?_
  refine e_aload C dL_answer_2 rfl ?_
  refine e_iload C dL_answer_4 rfl ?_
  refine f_callSr (As := [_, _, _]) C mi_yL_at b_st_yL_at b_ml_L_22 dL_answer_6 rfl (c_L_at (hZ.at' hI.1 hp)) (by decide) (Nat.le_of_ble_eq_true rfl) ?_
  refine e_iload C dL_answer_9 rfl ?_
  refine f_callSr (As := [_, _, _]) C mi_yL_version b_st_yL_version b_ml_L_18 dL_answer_11 rfl (c_L_version hZ.log hpo hq) (by decide) (Nat.le_of_ble_eq_true rfl) ?_
  refine f_val (y := nI (ansv z q pl)) rfl ?_
  refine f_istore (ls1 := [_, _, _, _, _, _, _, _, _, _]) C dL_answer_14 (by decide) rfl ?_
  refine e_aload_n C dL_answer_16 rfl ?_
  refine e_bipush (v := nI 20) C dL_answer_17 (by decide) ?_
  refine e_iload C dL_answer_19 rfl ?_
  refine f_iaddn C dL_answer_21 ?_
  refine e_dup2 C dL_answer_22 ?_
  refine f_iald C rfl v19 (by omega) (by decide) dL_answer_23 ?_
  refine e_iconst (v := nI 1) C dL_answer_24 (by decide) ?_
  refine e_iadd C dL_answer_25 ?_
  refine f_iast C rfl v19 (by omega) (by decide) dL_answer_26 ?_
  obtain ⟨z1, hz1⟩ : ∃ y, y = ss z n 6 (sz z n 6 + nI 1) := ⟨_, rfl⟩
  refine e_setm (P := fun m => LZ m z1 c ∧ FA mem m) ⟨by rw [hZ.s_rds hn ho, hz1]; exact hZ.ss' (w := 5) hn (by decide) ho, FA.rfl'.s⟩ (fun m1 h1 => ?_)
  obtain ⟨hZ1, hF1⟩ := h1
  have g1 : ∀ w, w < 33 → w ≠ 6 → sz z1 n w = sz z n w := fun w hw h1 => by rw [hz1, sz_ss (by omega) hw, if_neg (by omega)]
  have ho1 : sz z1 n 0 = 1 := by rw [g1 0 (by decide) (by omega)]; exact ho
  refine e_aload_n C dL_answer_27 rfl ?_
  refine e_bipush (v := nI 24) C dL_answer_28 (by decide) ?_
  refine e_iload C dL_answer_30 rfl ?_
  refine f_iaddn C dL_answer_32 ?_
  refine e_dup2 C dL_answer_33 ?_
  refine f_iald C rfl v19 (by omega) (by decide) dL_answer_34 ?_
  refine e_aload_n C dL_answer_35 rfl ?_
  refine e_aload_n C dL_answer_36 rfl ?_
  refine e_aload C dL_answer_37 rfl ?_
  refine e_iload C dL_answer_39 rfl ?_
  refine e_iload C dL_answer_41 rfl ?_
  refine f_callSr (As := [_, _, _, _, _]) C mi_yL_wrote b_st_yL_wrote b_ml_L_34 dL_answer_43 rfl (c_L_wrote hZ1 hn ho1 hq) (by decide) (Nat.le_of_ble_eq_true rfl) ?_
  refine e_iload C dL_answer_46 rfl ?_
  rw [g1 (9 + q) (by omega) (by omega)]
  refine e_cuti2 (tgt := 56) (P := fun x => x = cif (sz z n (9 + q) ≤ nI (ansv z q pl)) (nI 0) (nI 1)) ?_ ?_
  · intro x_48 hx_48
    refine e_iadd C dL_answer_56 ?_
    refine f_iast C rfl v19 (by omega) (by decide) dL_answer_57 ?_
    obtain ⟨z2, hz2⟩ : ∃ y, y = ss z1 n 7 (sz z n 7 + cif (sz z n (9 + q) ≤ nI (ansv z q pl)) (nI 0) (nI 1)) := ⟨_, rfl⟩
    refine e_setm (P := fun m => LZ m z2 c ∧ FA mem m) ⟨by rw [hZ1.s_und hn ho1, g1 7 (by decide) (by decide), hx_48, hz2]; exact hZ1.ss' (w := 6) hn (by decide) ho1, hF1.s⟩ (fun m2 h2 => ?_)
    obtain ⟨hZ2, hF2⟩ := h2
    have g2 : ∀ w, w < 33 → w ≠ 6 → w ≠ 7 → sz z2 n w = sz z n w := fun w hw h1 h2 => by rw [hz2, sz_ss (by omega) hw, if_neg (by omega), g1 w hw h1]
    have ho2 : sz z2 n 0 = 1 := by rw [g2 0 (by decide) (by omega) (by omega)]; exact ho
    refine e_aload_n C dL_answer_58 rfl ?_
    refine e_bipush (v := nI 28) C dL_answer_59 (by decide) ?_
    refine e_iload C dL_answer_61 rfl ?_
    refine f_iaddn C dL_answer_63 ?_
    refine e_dup2 C dL_answer_64 ?_
    refine f_iald C rfl v19 (by omega) (by decide) dL_answer_65 ?_
    refine e_aload_n C dL_answer_66 rfl ?_
    refine e_bipush (v := nI 12) C dL_answer_67 (by decide) ?_
    refine e_iload C dL_answer_69 rfl ?_
    refine f_imuln C dL_answer_71 ?_
    refine e_iload C dL_answer_72 rfl ?_
    refine f_iaddn C dL_answer_74 ?_
    refine f_iald C rfl v20 (by omega) (by decide) dL_answer_75 ?_
    refine e_iload C dL_answer_76 rfl ?_
    rw [hZ2.s_q hn ho2 hq, g2 (21 + q) (by omega) (by omega) (by omega)]
    refine e_cuti2 (tgt := 86) (P := fun x => x = cif (sz z n (21 + q) ≤ nI (ansv z q pl)) (nI 0) (nI 1)) ?_ ?_
    · intro x_78 hx_78
      refine e_iadd C dL_answer_86 ?_
      refine f_iast C rfl v19 (by omega) (by decide) dL_answer_87 ?_
      obtain ⟨z3, hz3⟩ : ∃ y, y = ss z2 n 8 (sz z n 8 + cif (sz z n (21 + q) ≤ nI (ansv z q pl)) (nI 0) (nI 1)) := ⟨_, rfl⟩
      refine e_setm (P := fun m => LZ m z3 c ∧ FA mem m) ⟨by rw [hZ2.s_bak hn ho2, g2 8 (by decide) (by decide) (by decide), hx_78, hz3]; exact hZ2.ss' (w := 7) hn (by decide) ho2, hF2.s⟩ (fun m3 h3 => ?_)
      obtain ⟨hZ3, hF3⟩ := h3
      have g3 : ∀ w, w < 33 → w ≠ 6 → w ≠ 7 → w ≠ 8 → sz z3 n w = sz z n w := fun w hw h1 h2 h3 => by rw [hz3, sz_ss (by omega) hw, if_neg (by omega), g2 w hw h1 h2]
      have ho3 : sz z3 n 0 = 1 := by rw [g3 0 (by decide) (by omega) (by omega) (by omega)]; exact ho
      have eq3 : m3 (20, 0, 0) (12 * n + q) = sz z n (21 + q) := by rw [hZ3.s_q hn ho3 hq, g3 (21 + q) (by omega) (by omega) (by omega) (by omega)]
      refine e_aload_n C dL_answer_88 rfl ?_
      refine e_bipush (v := nI 12) C dL_answer_89 (by decide) ?_
      refine e_iload C dL_answer_91 rfl ?_
      refine f_imuln C dL_answer_93 ?_
      refine e_iload C dL_answer_94 rfl ?_
      refine f_iaddn C dL_answer_96 ?_
      refine e_aload_n C dL_answer_97 rfl ?_
      refine e_bipush (v := nI 12) C dL_answer_98 (by decide) ?_
      refine e_iload C dL_answer_100 rfl ?_
      refine f_imuln C dL_answer_102 ?_
      refine e_iload C dL_answer_103 rfl ?_
      refine f_iaddn C dL_answer_105 ?_
      refine f_iald C rfl v20 (by omega) (by decide) dL_answer_106 ?_
      refine e_iload C dL_answer_107 rfl ?_
      rw [eq3]
      refine e_cuti2 (tgt := 127) (P := fun x => x = maxI (sz z n (21 + q)) (nI (ansv z q pl))) ?_ ?_
      · intro x_109 hx_109
        refine f_iast C rfl v20 (by omega) (by decide) dL_answer_127 ?_
        obtain ⟨z4, hz4⟩ : ∃ y, y = ss z3 n (21 + q) (maxI (sz z n (21 + q)) (nI (ansv z q pl))) := ⟨_, rfl⟩
        refine e_setm (P := fun m => LZ m z4 c ∧ FA mem m) ⟨by rw [hx_109, hz4]; exact hZ3.sq hn hq, hF3.q⟩ (fun m4 h4 => ?_)
        obtain ⟨hZ4, hF4⟩ := h4
        have g4 : ∀ w, w < 33 → w ≠ 6 → w ≠ 7 → w ≠ 8 → w ≠ 21 + q → sz z4 n w = sz z n w := fun w hw h1 h2 h3 h4 => by rw [hz4, sz_ss (by omega) hw, if_neg (by omega), g3 w hw h1 h2 h3]
        have ho4 : sz z4 n 0 = 1 := by rw [g4 0 (by decide) (by omega) (by omega) (by omega) (by omega)]; exact ho
        have eq4 : m4 (19, 0, 0) (16 + n) = sz z n 5 := by rw [hZ4.s_seen hn ho4, g4 5 (by decide) (by decide) (by decide) (by decide) (by omega)]
        have hA4 := hF4.at' (hZ.at' hI.1 hp)
        refine e_aload_n C dL_answer_128 rfl ?_
        refine e_bipush (v := nI 16) C dL_answer_129 (by decide) ?_
        refine e_iload C dL_answer_131 rfl ?_
        refine f_iaddn C dL_answer_133 ?_
        refine e_aload_n C dL_answer_134 rfl ?_
        refine e_bipush (v := nI 16) C dL_answer_135 (by decide) ?_
        refine e_iload C dL_answer_137 rfl ?_
        refine f_iaddn C dL_answer_139 ?_
        refine f_iald C rfl v19 (by omega) (by decide) dL_answer_140 ?_
        refine e_aload_n C dL_answer_141 rfl ?_
        refine e_aload C dL_answer_142 rfl ?_
        refine e_iload C dL_answer_144 rfl ?_
        refine f_callSr (As := [_, _, _]) C mi_yL_at b_st_yL_at b_ml_L_22 dL_answer_146 rfl (c_L_at hA4) (by decide) (Nat.le_of_ble_eq_true rfl) ?_
        rw [eq4, ← epz]
        refine e_cuti2 (tgt := 170) (P := fun x => x = maxI (sz z n 5) (posz z pl)) ?_ ?_
        · intro x_149 hx_149
          refine f_iast C rfl v19 (by omega) (by decide) dL_answer_170 ?_
          obtain ⟨z5, hz5⟩ : ∃ y, y = ss z4 n 5 (maxI (sz z n 5) (posz z pl)) := ⟨_, rfl⟩
          refine e_setm (P := fun m => LZ m z5 c ∧ FA mem m) ⟨by rw [hx_149, hz5]; exact hZ4.ss' (w := 4) hn (by decide) ho4, hF4.s⟩ (fun m5 h5 => ?_)
          obtain ⟨hZ5, hF5⟩ := h5
          have e5 : z5 = nrz z n q (nI (ansv z q pl)) (posz z pl) := by rw [hz5, hz4, hz3, hz2, hz1]; rfl
          refine e_aload C dL_answer_171 rfl ?_
          refine e_iconst (v := nI 1) C dL_answer_173 (by decide) ?_
          refine e_dup2 C dL_answer_174 ?_
          refine f_iald C rfl v21 (by omega) (by decide) dL_answer_175 ?_
          refine e_iload C dL_answer_176 rfl ?_
          refine e_bipush (v := nI 9) C dL_answer_178 (by decide) ?_
          refine e_icmp_ne (tgt := 187) C dL_answer_180 (by decide) (fun h_180 => ?_) (fun h_180 => ?_)
          · skip
            have nh_180 := xI_neD h_180
            refine e_iconst (v := nI 0) C dL_answer_187 (by decide) ?_
            refine e_iadd C dL_answer_188 ?_
            refine f_iast C rfl v21 (by omega) (by decide) dL_answer_189 ?_
            obtain ⟨hpl5, hpl1⟩ := hp.resolve_left nh_180
            have ho5 : rz z5 pl 0 = 1 := by rw [e5, nrz_rz hq hpl5 (by decide)]; exact hpl1
            refine e_setm (P := fun m => LZ m z5 c ∧ FrN mem m) ⟨by rw [hZ5.t1, addn0]; have hh := hZ5.h4 (v := z5 4); rwa [upd_same] at hh, hF5.n.set (by decide)⟩ (fun m6 h6 => ?_)
            obtain ⟨hZ5', hF5'⟩ := h6
            refine e_iload C dL_answer_190 rfl ?_
            refine e_bipush (v := nI 9) C dL_answer_192 (by decide) ?_
            refine e_icmp_ge (tgt := 208) C dL_answer_194 (by decide) (fun h_194 => ?_) (fun h_194 => ?_)
            · skip
              have nh_194 := xI_leD (by omega) (by omega) h_194
              omega
            · skip
              have nh_194 := xI_nleD (by omega) (by omega) h_194
              refine e_aload_n C dL_answer_197 rfl ?_
              refine e_bipush (v := nI 15) C dL_answer_198 (by decide) ?_
              refine e_iload C dL_answer_200 rfl ?_
              refine f_iaddn C dL_answer_202 ?_
              refine e_dup2 C dL_answer_203 ?_
              refine f_iald C rfl v18 (by omega) (by decide) dL_answer_204 ?_
              refine e_iconst (v := nI 1) C dL_answer_205 (by decide) ?_
              refine e_iadd C dL_answer_206 ?_
              refine f_iast C rfl v18 (by omega) (by decide) dL_answer_207 ?_
              obtain ⟨z6, hz6⟩ : ∃ y, y = canz z5 (nI pl) := ⟨_, rfl⟩
              refine e_setm (P := fun m => LZ m z6 c ∧ FrN mem m) ⟨by rw [hZ5'.r_ans hpl5 ho5, hz6, canz, cif_pos ⟨pl, hpl5, rfl, ho5⟩, nt_nI (by omega)]; exact hZ5'.rs' (w := 3) hpl5 (by decide) ho5, hF5'.set (by decide)⟩ (fun m7 h7 => ?_)
              obtain ⟨hZ6, hF6⟩ := h7
              refine e_aload C dL_answer_208 rfl ?_
              refine e_iconst (v := nI 2) C dL_answer_210 (by decide) ?_
              refine e_iload C dL_answer_211 rfl ?_
              refine f_iast C rfl v21 (by omega) (by decide) dL_answer_213 ?_
              refine e_aload C dL_answer_214 rfl ?_
              refine e_iconst (v := nI 3) C dL_answer_216 (by decide) ?_
              refine e_iload C dL_answer_217 rfl ?_
              refine f_iast C rfl v21 (by omega) (by decide) dL_answer_219 ?_
              refine e_aload C dL_answer_220 rfl ?_
              refine e_iconst (v := nI 4) C dL_answer_222 (by decide) ?_
              refine e_iload C dL_answer_223 rfl ?_
              refine f_iast C rfl v21 (by omega) (by decide) dL_answer_225 ?_
              refine e_setm (P := fun m => LZ m (upd (upd (upd z6 1 (nI pl)) 2 (nI (ansv z q pl))) 3 (nI tk)) c ∧ FrN mem m) ⟨hZ6.lat, ((hF6.set (by decide)).set (by decide)).set (by decide)⟩ (fun m8 h8 => ?_)
              obtain ⟨hZ8, hF8⟩ := h8
              refine e_aload_n C dL_answer_226 rfl ?_
              refine e_iload C dL_answer_227 rfl ?_
              refine f_callSr (As := [_, _]) C mi_yL_value b_st_yL_value b_ml_L_38 dL_answer_229 rfl (c_L_value (hF8.log hZ.log) hV) (by decide) (Nat.le_of_ble_eq_true rfl) ?_
              exact f_ii C hX dL_answer_232 ⟨⟨rfl, by rw [hz6, e5] at hZ8; exact hZ8⟩, hF8⟩
          · skip
            have nh_180 := xI_inj (by omega) (by omega) h_180
            refine e_iconst (v := nI 1) C dL_answer_183 (by decide) ?_
            refine e_goto (tgt := 188) C dL_answer_184 (by decide) ?_
            refine e_iadd C dL_answer_188 ?_
            refine f_iast C rfl v21 (by omega) (by decide) dL_answer_189 ?_
            have hnr : ¬ isR z5 (nI pl) := fun e => by have := ((isR_nat (by omega)).mp e).1; omega
            obtain ⟨z6, hz6⟩ : ∃ y, y = canz z5 (nI pl) := ⟨_, rfl⟩
            refine e_setm (P := fun m => LZ m z6 c ∧ FrN mem m) ⟨by rw [hZ5.t1, hz6, canz, cif_neg hnr]; exact hZ5.h4, hF5.n.set (by decide)⟩ (fun m6 h6 => ?_)
            obtain ⟨hZ6, hF6⟩ := h6
            refine e_iload C dL_answer_190 rfl ?_
            refine e_bipush (v := nI 9) C dL_answer_192 (by decide) ?_
            refine e_icmp_ge (tgt := 208) C dL_answer_194 (by decide) (fun h_194 => ?_) (fun h_194 => ?_)
            · skip
              have nh_194 := xI_leD (by omega) (by omega) h_194
              refine e_aload C dL_answer_208 rfl ?_
              refine e_iconst (v := nI 2) C dL_answer_210 (by decide) ?_
              refine e_iload C dL_answer_211 rfl ?_
              refine f_iast C rfl v21 (by omega) (by decide) dL_answer_213 ?_
              refine e_aload C dL_answer_214 rfl ?_
              refine e_iconst (v := nI 3) C dL_answer_216 (by decide) ?_
              refine e_iload C dL_answer_217 rfl ?_
              refine f_iast C rfl v21 (by omega) (by decide) dL_answer_219 ?_
              refine e_aload C dL_answer_220 rfl ?_
              refine e_iconst (v := nI 4) C dL_answer_222 (by decide) ?_
              refine e_iload C dL_answer_223 rfl ?_
              refine f_iast C rfl v21 (by omega) (by decide) dL_answer_225 ?_
              refine e_setm (P := fun m => LZ m (upd (upd (upd z6 1 (nI pl)) 2 (nI (ansv z q pl))) 3 (nI tk)) c ∧ FrN mem m) ⟨hZ6.lat, ((hF6.set (by decide)).set (by decide)).set (by decide)⟩ (fun m8 h8 => ?_)
              obtain ⟨hZ8, hF8⟩ := h8
              refine e_aload_n C dL_answer_226 rfl ?_
              refine e_iload C dL_answer_227 rfl ?_
              refine f_callSr (As := [_, _]) C mi_yL_value b_st_yL_value b_ml_L_38 dL_answer_229 rfl (c_L_value (hF8.log hZ.log) hV) (by decide) (Nat.le_of_ble_eq_true rfl) ?_
              exact f_ii C hX dL_answer_232 ⟨⟨rfl, by rw [hz6, e5] at hZ8; exact hZ8⟩, hF8⟩
            · skip
              have nh_194 := xI_nleD (by omega) (by omega) h_194
              omega
        · intro kc_149
          refine e_icmp_le (tgt := 162) C dL_answer_149 (by decide) (fun h_149 => ?_) (fun h_149 => ?_)
          · skip
            refine e_aload_n C dL_answer_162 rfl ?_
            refine e_aload C dL_answer_163 rfl ?_
            refine e_iload C dL_answer_165 rfl ?_
            refine f_callSr (As := [_, _, _]) C mi_yL_at b_st_yL_at b_ml_L_22 dL_answer_167 rfl (c_L_at hA4) (by decide) (Nat.le_of_ble_eq_true rfl) ?_
            rw [← epz]
            exact kc_149 _ (maxI_ngt h_149)
          · skip
            refine e_aload_n C dL_answer_152 rfl ?_
            refine e_bipush (v := nI 16) C dL_answer_153 (by decide) ?_
            refine e_iload C dL_answer_155 rfl ?_
            refine f_iaddn C dL_answer_157 ?_
            refine f_iald C rfl v19 (by omega) (by decide) dL_answer_158 ?_
            rw [eq4]
            refine e_goto (tgt := 170) C dL_answer_159 (by decide) ?_
            exact kc_149 _ (maxI_gt h_149)
      · intro kc_109
        refine e_icmp_le (tgt := 125) C dL_answer_109 (by decide) (fun h_109 => ?_) (fun h_109 => ?_)
        · skip
          refine e_iload C dL_answer_125 rfl ?_
          exact kc_109 _ (maxI_ngt h_109)
        · skip
          refine e_aload_n C dL_answer_112 rfl ?_
          refine e_bipush (v := nI 12) C dL_answer_113 (by decide) ?_
          refine e_iload C dL_answer_115 rfl ?_
          refine f_imuln C dL_answer_117 ?_
          refine e_iload C dL_answer_118 rfl ?_
          refine f_iaddn C dL_answer_120 ?_
          refine f_iald C rfl v20 (by omega) (by decide) dL_answer_121 ?_
          rw [eq3]
          refine e_goto (tgt := 127) C dL_answer_122 (by decide) ?_
          exact kc_109 _ (maxI_gt h_109)
    · intro kc_78
      refine e_icmp_le (tgt := 85) C dL_answer_78 (by decide) (fun h_78 => ?_) (fun h_78 => ?_)
      · skip
        refine e_iconst (v := nI 0) C dL_answer_85 (by decide) ?_
        exact kc_78 _ (cif_pos h_78).symm
      · skip
        refine e_iconst (v := nI 1) C dL_answer_81 (by decide) ?_
        refine e_goto (tgt := 86) C dL_answer_82 (by decide) ?_
        exact kc_78 _ (cif_neg h_78).symm
  · intro kc_48
    refine e_icmp_le (tgt := 55) C dL_answer_48 (by decide) (fun h_48 => ?_) (fun h_48 => ?_)
    · skip
      refine e_iconst (v := nI 0) C dL_answer_55 (by decide) ?_
      exact kc_48 _ (cif_pos h_48).symm
    · skip
      refine e_iconst (v := nI 1) C dL_answer_51 (by decide) ?_
      refine e_goto (tgt := 56) C dL_answer_52 (by decide) ?_
      exact kc_48 _ (cif_neg h_48).symm
