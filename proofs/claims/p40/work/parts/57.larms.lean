/-! ===== the law's arms ===== -/
set_option maxRecDepth 100000 in
set_option maxHeartbeats 4000000 in
theorem c_L_low_n {E : EV} {l : Launch} {mem : MEM} {x : Int32} {N : Nat} (hN : 0 < N) (hN2 : N < 2 ^ 31) : Ct E l yL_low (me_ws yL_low cL_low 2 (some .int)) 1 [iv x, iv (nI N)] mem ((fun rr mm => ∃ xx : Int32, rr = iv xx ∧ ((∃ n, n < N ∧ xx = nI n) ∧ mm = mem))) := by
  have hm := low_lt x
  refine Ct.of (RC := RL) (ls0 := [iv x, iv (nI N)]) mi_yL_low (Nat.le_of_ble_eq_true rfl) rfl (fun X C hX => ?_)
  refine e_iload_n C dL_low_0 rfl ?_
  refine e_ldc (v := 2147483647) C b_k_L_9 dL_low_1 ?_
  refine e_iand C dL_low_3 ?_
  refine f_val (y := nI ((x &&& 2147483647).toNatClampNeg)) (low_m x) ?_
  refine e_iload_n C dL_low_4 rfl ?_
  refine f_iremn C (by omega) (by omega) (by omega) dL_low_5 ?_
  exact f_ii C hX dL_low_6 ⟨⟨_, Nat.mod_lt _ hN, rfl⟩, rfl⟩
set_option maxRecDepth 100000 in
set_option maxHeartbeats 4000000 in
theorem lw_free {E : EV} {X : CX} {mem : MEM} {z : ZZ} {c : Nat} (hZ : LZ mem z c) (hI : GoodC z c) {y0 y1 y2 y4 y5 y6 y7 y8 y9 y10 y11 y12 y13 y14 y17 y18 : VV} (ka : G E X 19 239 [y0, y1, y2, rv (18, 0, 0), y4, y5, y6, y7, y8, y9, y10, y11, y12, y13, y14, iv (frv (fun r => rz z r 0) 5 0), iv (pj 0), y17, y18] [] mem) (C : CK E X RL cL_law 19 (some .boolean) 9) : ∀ (lpn : Nat) (j : Nat) (fx : Int32), j < lpn → (j ≤ 5) → (fx = frv (fun r => rz z r 0) 5 j) → G E X 19 212 [y0, y1, y2, rv (18, 0, 0), y4, y5, y6, y7, y8, y9, y10, y11, y12, y13, y14, iv fx, iv (pj j), y17, y18] [] mem := by
  intro lpn
  induction lpn with
  | zero => intro j fx hlpn; exact absurd hlpn (Nat.not_lt_zero _)
  | succ lpn ih =>
    intro j fx hlpn hj hf
    refine e_iload C dL_law_212 rfl ?_
    refine e_if_lt (tgt := 239) C dL_law_214 (by decide) (fun h_214 => ?_) (fun h_214 => ?_)
    · skip
      obtain rfl : j = 0 := (pj_lt (by omega)).mp h_214
      rw [hf]
      exact ka
    · skip
      obtain ⟨i, rfl⟩ : ∃ i, j = i + 1 := ⟨j - 1, by have : j ≠ 0 := fun e => h_214 ((pj_lt (by omega)).mpr e); omega⟩
      rw [show pj (i + 1) = nI i from rfl]
      refine e_aload_n C dL_law_217 rfl ?_
      refine e_iload C dL_law_218 rfl ?_
      refine f_iald C rfl v18 (by omega) (by decide) dL_law_220 ?_
      refine e_if_ge (tgt := 229) C dL_law_221 (by decide) (fun h_221 => ?_) (fun h_221 => ?_)
      · skip
        have hof := (hZ.r_ge hI.1 (by omega)).mp h_221
        refine e_iload C dL_law_229 rfl ?_
        refine f_istore (ls1 := [_, _, _, _, _, _, _, _, _, _, _, _, _, _, _, _, _, _, _]) C dL_law_231 (by decide) rfl ?_
        refine f_iincv (ls1 := [_, _, _, _, _, _, _, _, _, _, _, _, _, _, _, _, _, _, _]) C dL_law_233 rfl (pj_dec i) (by decide) rfl ?_
        refine e_goto (tgt := 212) C dL_law_236 (by decide) ?_
        exact ih i _ (by omega) (by omega) (by rw [hf, frv_yes (f := fun r => rz z r 0) hof (by omega)])
      · skip
        have hof := (hZ.r_lt hI.1 (by omega)).mp (Int32.not_le.mp h_221)
        refine e_iload C dL_law_224 rfl ?_
        refine e_goto (tgt := 231) C dL_law_226 (by decide) ?_
        refine f_istore (ls1 := [_, _, _, _, _, _, _, _, _, _, _, _, _, _, _, _, _, _, _]) C dL_law_231 (by decide) rfl ?_
        refine f_iincv (ls1 := [_, _, _, _, _, _, _, _, _, _, _, _, _, _, _, _, _, _, _]) C dL_law_233 rfl (pj_dec i) (by decide) rfl ?_
        refine e_goto (tgt := 212) C dL_law_236 (by decide) ?_
        exact ih i _ (by omega) (by omega) (by rw [frv_no (f := fun r => rz z r 0) hof (by omega)])
set_option maxRecDepth 100000 in
set_option maxHeartbeats 4000000 in
theorem la_add {E : EV} {X : CX} (C : CK E X RL cL_law 19 (some .boolean) 9) {e : Nat} {h : Int32} {kd n q p : Nat} (hn : n < 4) (hq : q < 12) (hp : p = 9 ∨ p < 5) {mem : MEM} {a : AS} {c : Nat} (hC : RC mem a) (hZ : LZ mem a.1 c) (hI : GoodC a.1 c) {x14 x15 x16 x17 x18 : VV} (kk : ∀ (m : MEM) (a : AS) (c : Nat) (x14 x15 x16 x17 x18 : VV), RC m a → LZ m a.1 c → Good a.1 → G E X 19 1869 [rv (99, 0, 0), rv (0, 0, 0), rv (17, 0, 0), rv (18, 0, 0), rv (19, 0, 0), rv (20, 0, 0), rv (21, 0, 0), iv (nI e), iv h, iv (nI kd), iv (nI n), iv (nI q), iv (nI p), iv (nI 1), x14, x15, x16, x17, x18] [] m) : G E X 19 185 [rv (99, 0, 0), rv (0, 0, 0), rv (17, 0, 0), rv (18, 0, 0), rv (19, 0, 0), rv (20, 0, 0), rv (21, 0, 0), iv (nI e), iv h, iv (nI kd), iv (nI n), iv (nI q), iv (nI p), iv (nI 1), x14, x15, x16, x17, x18] [] mem := by
  have hc60 := hZ.c60
  refine e_iload C dL_law_185 rfl ?_
  refine e_bipush (v := nI 17) C dL_law_187 (by decide) ?_
  refine e_ishr C dL_law_189 ?_
  refine e_iconst (v := nI 3) C dL_law_190 (by decide) ?_
  refine f_callSi (As := [_, _]) C mi_yL_low b_st_yL_low b_ml_L_41 dL_law_191 rfl (c_L_low_n (N := 3) (by omega) (by omega)) (by decide) (Nat.le_of_ble_eq_true rfl) (fun x_191 m_191 hc_191 => ?_)
  obtain ⟨⟨w1, hw1, hx_191⟩, hm_191⟩ := hc_191
  rw [hx_191, hm_191]
  refine e_cuti1 (tgt := 204) (P := fun x => x = -6 ∨ x = nI p) ?_ ?_
  · intro x_194 hx_194
    refine f_istore (ls1 := [_, _, _, _, _, _, _, _, _, _, _, _, _, _, _, _, _, _, _]) C dL_law_204 (by decide) rfl ?_
    refine e_iconst (v := -1) C dL_law_206 (by decide) ?_
    refine f_istore (ls1 := [_, _, _, _, _, _, _, _, _, _, _, _, _, _, _, _, _, _, _]) C dL_law_207 (by decide) rfl ?_
    refine e_iconst (v := nI 4) C dL_law_209 (by decide) ?_
    refine f_istore (ls1 := [_, _, _, _, _, _, _, _, _, _, _, _, _, _, _, _, _, _, _]) C dL_law_210 (by decide) rfl ?_
    refine lw_free hZ hI (?_) C 6 5 _ (by omega) (by omega) frv_end.symm
    refine e_iload C dL_law_239 rfl ?_
    refine e_bipush (v := -6) C dL_law_241 (by decide) ?_
    refine e_cutn2 (tgt := 260) (P := fun x => (x = 1 ∧ (x_194 = -6 ∨ isP a.1 x_194)) ∨ (x = 0 ∧ ¬ (x_194 = -6 ∨ isP a.1 x_194))) ?_ ?_
    · intro x_243 hx_243
      refine f_istore (ls1 := [_, _, _, _, _, _, _, _, _, _, _, _, _, _, _, _, _, _, _]) C dL_law_260 (by decide) rfl ?_
      refine e_iload C dL_law_262 rfl ?_
      refine e_bipush (v := nI 19) C dL_law_264 (by decide) ?_
      refine e_ishr C dL_law_266 ?_
      refine e_iconst (v := nI 4) C dL_law_267 (by decide) ?_
      refine f_callSi (As := [_, _]) C mi_yL_low b_st_yL_low b_ml_L_41 dL_law_268 rfl (c_L_low_n (N := 4) (by omega) (by omega)) (by decide) (Nat.le_of_ble_eq_true rfl) (fun x_268 m_268 hc_268 => ?_)
      obtain ⟨⟨zrt, hzrt, hx_268⟩, hm_268⟩ := hc_268
      rw [hx_268, hm_268]
      refine f_istore (ls1 := [_, _, _, _, _, _, _, _, _, _, _, _, _, _, _, _, _, _, _]) C dL_law_271 (by decide) rfl ?_
      refine e_aload_n C dL_law_273 rfl ?_
      refine e_iload C dL_law_274 rfl ?_
      refine e_iload C dL_law_276 rfl ?_
      refine f_callVi (As := [_, _]) (ci := 6) C mi_yX6_addReplica mv_yX6_addReplica b_ml_L_106 dL_law_278 rfl (c_X6_addReplica hC hI.1) (by decide) v0 rfl rfl (Nat.le_of_ble_eq_true rfl) (fun x_278 m_278 hc_278 => ?_)
      obtain ⟨hx_278, hC1, hF1⟩ := hc_278
      have hZ1 := hZ.fr hF1
      refine e_iload C dL_law_281 rfl ?_
      rw [hx_278]
      have hfr := frv_ge (f := fun r => rz a.1 r 0) (N := 5) (by decide)
      refine e_cuti1 (tgt := 302) (P := fun x => x = (fAdd a.1 (nI zrt) x_194).1) ?_ ?_
      · intro x_283 hx_283
        rw [hx_283]
        refine e_icmp_ne (tgt := 309) C dL_law_302 (by decide) (fun h_302 => ?_) (fun h_302 => ?_)
        · skip
          exact absurd rfl h_302
        · skip
          refine e_iconst (v := nI 1) C dL_law_305 (by decide) ?_
          refine e_goto (tgt := 310) C dL_law_306 (by decide) ?_
          refine f_istore (ls1 := [_, _, _, _, _, _, _, _, _, _, _, _, _, _, _, _, _, _, _]) C dL_law_310 (by decide) rfl ?_
          refine e_iload C dL_law_312 rfl ?_
          refine e_if_eq (tgt := 369) C dL_law_314 (by decide) (fun h_314 => ?_) (fun h_314 => ?_)
          · skip
            have nh_314 := xI_inj (a := x_243) (b := 0) (by omega) (by omega) h_314
            refine e_goto (tgt := 1869) C dL_law_369 (by decide) ?_
            exact kk _ _ c _ _ _ _ _ hC1 (by show LZ _ (fAdd a.1 (nI zrt) x_194).2 c; rw [fAdd_no (hx_243.resolve_left (by omega)).2]; exact hZ1) (Good.add ⟨c, hI⟩)
          · skip
            have nh_314 := xI_neD (a := x_243) (b := 0) h_314
            refine e_iload C dL_law_317 rfl ?_
            refine e_if_lt (tgt := 369) C dL_law_319 (by decide) (fun h_319 => ?_) (fun h_319 => ?_)
            · skip
              refine e_goto (tgt := 1869) C dL_law_369 (by decide) ?_
              exact kk _ _ c _ _ _ _ _ hC1 (by show LZ _ (fAdd a.1 (nI zrt) x_194).2 c; rw [fAdd_full (hx_243.resolve_right (by omega)).2 (by omega) (fun r => absurd (hfr.mpr r) (Int32.not_le.mpr h_319))]; exact hZ1) (Good.add ⟨c, hI⟩)
            · skip
              have hf5 : (ffr (fun r => rz a.1 r 0) 5 0) < 5 := hfr.mp (Int32.not_lt.mp h_319)
              have hffr := ffr_fr2 (f := fun r => rz a.1 r 0) 5 0 (by omega)
              rw [frv_at hf5]
              obtain ⟨zfq, hzfq⟩ : ∃ y, y = (ffr (fun r => rz a.1 r 0) 5 0) := ⟨_, rfl⟩
              have hfy := fAdd_yes (hx_243.resolve_right (by omega)).2 (show zrt ≤ 9 by omega) hf5
              rw [← hzfq] at hf5 hfy ⊢
              refine e_aload_n C dL_law_322 rfl ?_
              refine e_iload C dL_law_323 rfl ?_
              refine e_iload C dL_law_325 rfl ?_
              refine e_bipush (v := -6) C dL_law_327 (by decide) ?_
              refine e_cuti2 (tgt := 344) (P := fun x => x = cif (x_194 = -6) (nI 0) (posg a.1 x_194)) ?_ ?_
              · intro x_329 hx_329
                refine f_iast C rfl v18 (by omega) (by decide) dL_law_344 ?_
                refine e_aload_n C dL_law_345 rfl ?_
                refine e_iconst (v := nI 5) C dL_law_346 (by decide) ?_
                refine e_iload C dL_law_347 rfl ?_
                refine f_iaddn C dL_law_349 ?_
                refine e_iload C dL_law_350 rfl ?_
                refine f_iast C rfl v18 (by omega) (by decide) dL_law_352 ?_
                refine e_aload_n C dL_law_353 rfl ?_
                refine e_bipush (v := nI 10) C dL_law_354 (by decide) ?_
                refine e_iload C dL_law_356 rfl ?_
                refine f_iaddn C dL_law_358 ?_
                refine e_iconst (v := nI 0) C dL_law_359 (by decide) ?_
                refine f_iast C rfl v18 (by omega) (by decide) dL_law_360 ?_
                refine e_aload_n C dL_law_361 rfl ?_
                refine e_bipush (v := nI 15) C dL_law_362 (by decide) ?_
                refine e_iload C dL_law_364 rfl ?_
                refine f_iaddn C dL_law_366 ?_
                refine e_iconst (v := nI 0) C dL_law_367 (by decide) ?_
                refine f_iast C rfl v18 (by omega) (by decide) dL_law_368 ?_
                refine e_goto (tgt := 1869) C dL_law_369 (by decide) ?_
                exact kk _ _ c _ _ _ _ _ (hC1.frM ((((FrM.rfl'.law (by decide)).law (by decide)).law (by decide)).law (by decide))) (by show LZ _ (fAdd a.1 (nI zrt) x_194).2 c; rw [hfy, ← hx_329]; exact hZ1.rborn hf5) (Good.add ⟨c, hI⟩)
              · intro kc_329
                refine e_icmp_ne (tgt := 336) C dL_law_329 (by decide) (fun h_329 => ?_) (fun h_329 => ?_)
                · skip
                  have hisp : isP a.1 x_194 := ((hx_243.resolve_right (by omega)).2).resolve_left h_329
                  have hpn : isPn a.1 p := (isP_n (by omega)).mp (hx_194.resolve_left h_329 ▸ hisp)
                  refine e_aload_n C dL_law_336 rfl ?_
                  refine e_aload C dL_law_337 rfl ?_
                  refine e_iload C dL_law_339 rfl ?_
                  refine f_val (y := nI (p)) (hx_194.resolve_left h_329) ?_
                  refine f_callSr (As := [_, _, _]) C mi_yL_at b_st_yL_at b_ml_L_22 dL_law_341 rfl (c_L_at (hZ1.at' hI.1 hpn)) (by decide) (Nat.le_of_ble_eq_true rfl) ?_
                  exact kc_329 _ (by rw [cif_neg h_329, hx_194.resolve_left h_329, posg_p hpn]; exact (posz_n hI.1 hpn).symm)
                · skip
                  refine e_iconst (v := nI 0) C dL_law_332 (by decide) ?_
                  refine e_goto (tgt := 344) C dL_law_333 (by decide) ?_
                  exact kc_329 _ (cif_pos h_329).symm
      · intro kc_283
        refine e_if_ne (tgt := 290) C dL_law_283 (by decide) (fun h_283 => ?_) (fun h_283 => ?_)
        · skip
          have nh_283 := xI_neD (a := x_243) (b := 0) h_283
          refine e_iload C dL_law_290 rfl ?_
          refine e_if_ge (tgt := 300) C dL_law_292 (by decide) (fun h_292 => ?_) (fun h_292 => ?_)
          · skip
            refine e_iload C dL_law_300 rfl ?_
            exact kc_283 _ (by rw [fAdd_yes (hx_243.resolve_right (by omega)).2 (by omega) (hfr.mp h_292), frv_at (hfr.mp h_292)])
          · skip
            refine e_bipush (v := -4) C dL_law_295 (by decide) ?_
            refine e_goto (tgt := 302) C dL_law_297 (by decide) ?_
            exact kc_283 _ (by rw [fAdd_full (hx_243.resolve_right (by omega)).2 (by omega) (fun r => h_292 (hfr.mpr r))])
        · skip
          have nh_283 := xI_inj (a := x_243) (b := 0) (by omega) (by omega) h_283
          refine e_iconst (v := -1) C dL_law_286 (by decide) ?_
          refine e_goto (tgt := 302) C dL_law_287 (by decide) ?_
          exact kc_283 _ (by rw [fAdd_no (hx_243.resolve_left (by omega)).2])
    · intro kc_243
      refine e_icmp_eq (tgt := 255) C dL_law_243 (by decide) (fun h_243 => ?_) (fun h_243 => ?_)
      · skip
        refine e_iconst (v := nI 1) C dL_law_255 (by decide) ?_
        refine e_goto (tgt := 260) C dL_law_256 (by decide) ?_
        exact kc_243 _ (Or.inl ⟨rfl, Or.inl h_243⟩)
      · skip
        refine e_aload_n C dL_law_246 rfl ?_
        refine e_iload C dL_law_247 rfl ?_
        refine f_val (y := nI (p)) (hx_194.resolve_left h_243) ?_
        refine f_callSr (As := [_, _]) C mi_yL_isPlace b_st_yL_isPlace b_ml_L_102 dL_law_249 rfl (c_L_isPlace hZ hI hp) (by decide) (Nat.le_of_ble_eq_true rfl) ?_
        refine f_if_eq (tgt := 259) C dL_law_252 (by decide) (fun h_252 => ?_) (fun h_252 => ?_)
        · skip
          refine e_iconst (v := nI 0) C dL_law_259 (by decide) ?_
          exact kc_243 _ (Or.inr ⟨rfl, fun r => r.elim h_243 (fun r => h_252 ((isP_n (by omega)).mp (hx_194.resolve_left h_243 ▸ r)))⟩)
        · skip
          refine e_iconst (v := nI 1) C dL_law_255 (by decide) ?_
          refine e_goto (tgt := 260) C dL_law_256 (by decide) ?_
          exact kc_243 _ (Or.inl ⟨rfl, Or.inr (by rw [hx_194.resolve_left h_243]; exact isP_of h_252)⟩)
  · intro kc_194
    refine e_if_ne (tgt := 202) C dL_law_194 (by decide) (fun h_194 => ?_) (fun h_194 => ?_)
    · skip
      have nh_194 := xI_neD (a := w1) (b := 0) h_194
      refine e_iload C dL_law_202 rfl ?_
      exact kc_194 _ (Or.inr rfl)
    · skip
      have nh_194 := xI_inj (a := w1) (b := 0) (by omega) (by omega) h_194
      refine e_bipush (v := -6) C dL_law_197 (by decide) ?_
      refine e_goto (tgt := 204) C dL_law_199 (by decide) ?_
      exact kc_194 _ (Or.inl rfl)
set_option maxRecDepth 100000 in
set_option maxHeartbeats 4000000 in
theorem lw_free2 {E : EV} {X : CX} {mem : MEM} {z : ZZ} {c : Nat} (hZ : LZ mem z c) (hI : GoodC z c) {y0 y1 y2 y3 y5 y6 y7 y8 y9 y10 y11 y12 y13 y16 y17 y18 : VV} (ka : G E X 19 418 [y0, y1, y2, y3, rv (19, 0, 0), y5, y6, y7, y8, y9, y10, y11, y12, y13, iv (frv (fun s => sz z s 0) 4 0), iv (pj 0), y16, y17, y18] [] mem) (C : CK E X RL cL_law 19 (some .boolean) 9) : ∀ (lpn : Nat) (j : Nat) (fx : Int32), j < lpn → (j ≤ 4) → (fx = frv (fun s => sz z s 0) 4 j) → G E X 19 390 [y0, y1, y2, y3, rv (19, 0, 0), y5, y6, y7, y8, y9, y10, y11, y12, y13, iv fx, iv (pj j), y16, y17, y18] [] mem := by
  intro lpn
  induction lpn with
  | zero => intro j fx hlpn; exact absurd hlpn (Nat.not_lt_zero _)
  | succ lpn ih =>
    intro j fx hlpn hj hf
    refine e_iload C dL_law_390 rfl ?_
    refine e_if_lt (tgt := 418) C dL_law_392 (by decide) (fun h_392 => ?_) (fun h_392 => ?_)
    · skip
      obtain rfl : j = 0 := (pj_lt (by omega)).mp h_392
      rw [hf]
      exact ka
    · skip
      obtain ⟨i, rfl⟩ : ∃ i, j = i + 1 := ⟨j - 1, by have : j ≠ 0 := fun e => h_392 ((pj_lt (by omega)).mpr e); omega⟩
      rw [show pj (i + 1) = nI i from rfl]
      refine e_aload C dL_law_395 rfl ?_
      refine e_iload C dL_law_397 rfl ?_
      refine f_iald C rfl v19 (by omega) (by decide) dL_law_399 ?_
      refine e_if_ge (tgt := 408) C dL_law_400 (by decide) (fun h_400 => ?_) (fun h_400 => ?_)
      · skip
        have hof := (hZ.s_ge hI.1 (by omega)).mp h_400
        refine e_iload C dL_law_408 rfl ?_
        refine f_istore (ls1 := [_, _, _, _, _, _, _, _, _, _, _, _, _, _, _, _, _, _, _]) C dL_law_410 (by decide) rfl ?_
        refine f_iincv (ls1 := [_, _, _, _, _, _, _, _, _, _, _, _, _, _, _, _, _, _, _]) C dL_law_412 rfl (pj_dec i) (by decide) rfl ?_
        refine e_goto (tgt := 390) C dL_law_415 (by decide) ?_
        exact ih i _ (by omega) (by omega) (by rw [hf, frv_yes (f := fun s => sz z s 0) hof (by omega)])
      · skip
        have hof := (hZ.s_lt hI.1 (by omega)).mp (Int32.not_le.mp h_400)
        refine e_iload C dL_law_403 rfl ?_
        refine e_goto (tgt := 410) C dL_law_405 (by decide) ?_
        refine f_istore (ls1 := [_, _, _, _, _, _, _, _, _, _, _, _, _, _, _, _, _, _, _]) C dL_law_410 (by decide) rfl ?_
        refine f_iincv (ls1 := [_, _, _, _, _, _, _, _, _, _, _, _, _, _, _, _, _, _, _]) C dL_law_412 rfl (pj_dec i) (by decide) rfl ?_
        refine e_goto (tgt := 390) C dL_law_415 (by decide) ?_
        exact ih i _ (by omega) (by omega) (by rw [frv_no (f := fun s => sz z s 0) hof (by omega)])
set_option maxRecDepth 100000 in
set_option maxHeartbeats 4000000 in
theorem lw_opn1 {E : EV} {X : CX} {mem : MEM} {p f o b c : Nat} (hf : f < 4) (hb : b < 6) (ht : mem (21, 0, 0) 0 = nI c) {y0 y1 y2 y3 y5 y7 y8 y9 y10 y11 y13 y17 : VV} (ka : ∀ m, OP mem f p o b c 9 m → G E X 19 564 [y0, y1, y2, y3, rv (19, 0, 0), y5, rv (21, 0, 0), y7, y8, y9, y10, y11, iv (nI p), y13, iv (nI f), iv (nI o), iv (nI b), y17, iv (nI 9)] [] m) (C : CK E X RL cL_law 19 (some .boolean) 9) : ∀ (lpn : Nat) (k : Nat) (m : MEM), 9 - k < lpn → (k ≤ 9) → (OP mem f p o b c k m) → G E X 19 494 [y0, y1, y2, y3, rv (19, 0, 0), y5, rv (21, 0, 0), y7, y8, y9, y10, y11, iv (nI p), y13, iv (nI f), iv (nI o), iv (nI b), y17, iv (nI k)] [] m := by
  intro lpn
  induction lpn with
  | zero => intro k m hlpn; exact absurd hlpn (Nat.not_lt_zero _)
  | succ lpn ih =>
    intro k m hlpn hk hm
    refine e_iload C dL_law_494 rfl ?_
    refine e_bipush (v := nI 9) C dL_law_496 (by decide) ?_
    refine e_icmp_ge (tgt := 564) C dL_law_498 (by decide) (fun h_498 => ?_) (fun h_498 => ?_)
    · skip
      have nh_498 := xI_leD (by omega) (by omega) h_498
      obtain rfl : k = 9 := by omega
      exact ka m hm
    · skip
      have nh_498 := xI_nleD (by omega) (by omega) h_498
      refine e_aload C dL_law_501 rfl ?_
      refine e_iconst (v := nI 4) C dL_law_503 (by decide) ?_
      refine e_iload C dL_law_504 rfl ?_
      refine f_imuln C dL_law_506 ?_
      refine e_iload C dL_law_507 rfl ?_
      refine f_iaddn C dL_law_509 ?_
      refine e_iload C dL_law_510 rfl ?_
      refine e_cuti1 (tgt := 557) (P := fun x => x = ovl p o b c k) ?_ ?_
      · intro x_512 hx_512
        refine f_iast C rfl v19 (by omega) (by decide) dL_law_557 ?_
        refine f_iincn (ls1 := [_, _, _, _, _, _, _, _, _, _, _, _, _, _, _, _, _, _, _]) C dL_law_558 rfl (by decide) rfl ?_
        refine e_goto (tgt := 494) C dL_law_561 (by decide) ?_
        exact ih (k + 1) _ (by omega) (by omega) (hm.next hf hx_512)
      · intro kc_512
        refine e_if_ne (tgt := 520) C dL_law_512 (by decide) (fun h_512 => ?_) (fun h_512 => ?_)
        · skip
          have nh_512 := xI_neD (a := k) (b := 0) h_512
          refine e_iload C dL_law_520 rfl ?_
          refine e_iconst (v := nI 1) C dL_law_522 (by decide) ?_
          refine e_icmp_ne (tgt := 531) C dL_law_523 (by decide) (fun h_523 => ?_) (fun h_523 => ?_)
          · skip
            have nh_523 := xI_neD h_523
            refine e_iload C dL_law_531 rfl ?_
            refine e_iconst (v := nI 2) C dL_law_533 (by decide) ?_
            refine e_icmp_ne (tgt := 542) C dL_law_534 (by decide) (fun h_534 => ?_) (fun h_534 => ?_)
            · skip
              have nh_534 := xI_neD h_534
              refine e_iload C dL_law_542 rfl ?_
              refine e_bipush (v := nI 8) C dL_law_544 (by decide) ?_
              refine e_icmp_ne (tgt := 556) C dL_law_546 (by decide) (fun h_546 => ?_) (fun h_546 => ?_)
              · skip
                have nh_546 := xI_neD h_546
                refine e_iconst (v := nI 0) C dL_law_556 (by decide) ?_
                exact kc_512 _ (by unfold ovl; rw [if_neg nh_512, if_neg nh_523, if_neg nh_534, if_neg nh_546])
              · skip
                have nh_546 := xI_inj (by omega) (by omega) h_546
                refine e_aload C dL_law_549 rfl ?_
                refine e_iconst (v := nI 0) C dL_law_551 (by decide) ?_
                refine f_iald C rfl v21 (by omega) (by decide) dL_law_552 ?_
                refine e_goto (tgt := 557) C dL_law_553 (by decide) ?_
                exact kc_512 _ (by rw [nh_546, hm.1 _ (by decide), ht]; rfl)
            · skip
              have nh_534 := xI_inj (by omega) (by omega) h_534
              refine e_iload C dL_law_537 rfl ?_
              refine e_goto (tgt := 557) C dL_law_539 (by decide) ?_
              exact kc_512 _ (by rw [nh_534]; rfl)
          · skip
            have nh_523 := xI_inj (by omega) (by omega) h_523
            refine e_iload C dL_law_526 rfl ?_
            refine e_goto (tgt := 557) C dL_law_528 (by decide) ?_
            exact kc_512 _ (by rw [nh_523]; rfl)
        · skip
          have nh_512 := xI_inj (a := k) (b := 0) (by omega) (by omega) h_512
          refine e_iload C dL_law_515 rfl ?_
          refine e_goto (tgt := 557) C dL_law_517 (by decide) ?_
          exact kc_512 _ (by rw [nh_512]; rfl)
set_option maxRecDepth 100000 in
set_option maxHeartbeats 4000000 in
theorem lw_opn2 {E : EV} {X : CX} {mem : MEM} {f : Nat} (hf : f < 4) {y0 y1 y2 y3 y4 y6 y7 y8 y9 y10 y11 y12 y13 y15 y16 y17 : VV} (ka : ∀ m, OQ mem f 12 m → G E X 19 592 [y0, y1, y2, y3, y4, rv (20, 0, 0), y6, y7, y8, y9, y10, y11, y12, y13, iv (nI f), y15, y16, y17, iv (nI 12)] [] m) (C : CK E X RL cL_law 19 (some .boolean) 9) : ∀ (lpn : Nat) (k : Nat) (m : MEM), 12 - k < lpn → (k ≤ 12) → (OQ mem f k m) → G E X 19 567 [y0, y1, y2, y3, y4, rv (20, 0, 0), y6, y7, y8, y9, y10, y11, y12, y13, iv (nI f), y15, y16, y17, iv (nI k)] [] m := by
  intro lpn
  induction lpn with
  | zero => intro k m hlpn; exact absurd hlpn (Nat.not_lt_zero _)
  | succ lpn ih =>
    intro k m hlpn hk hm
    refine e_iload C dL_law_567 rfl ?_
    refine e_bipush (v := nI 12) C dL_law_569 (by decide) ?_
    refine e_icmp_ge (tgt := 592) C dL_law_571 (by decide) (fun h_571 => ?_) (fun h_571 => ?_)
    · skip
      have nh_571 := xI_leD (by omega) (by omega) h_571
      obtain rfl : k = 12 := by omega
      exact ka m hm
    · skip
      have nh_571 := xI_nleD (by omega) (by omega) h_571
      refine e_aload C dL_law_574 rfl ?_
      refine e_bipush (v := nI 12) C dL_law_576 (by decide) ?_
      refine e_iload C dL_law_578 rfl ?_
      refine f_imuln C dL_law_580 ?_
      refine e_iload C dL_law_581 rfl ?_
      refine f_iaddn C dL_law_583 ?_
      refine e_iconst (v := nI 0) C dL_law_584 (by decide) ?_
      refine f_iast C rfl v20 (by omega) (by decide) dL_law_585 ?_
      refine f_iincn (ls1 := [_, _, _, _, _, _, _, _, _, _, _, _, _, _, _, _, _, _, _]) C dL_law_586 rfl (by decide) rfl ?_
      refine e_goto (tgt := 567) C dL_law_589 (by decide) ?_
      exact ih (k + 1) _ (by omega) (by omega) (hm.next (by omega))
set_option maxRecDepth 100000 in
set_option maxHeartbeats 4000000 in
theorem la_open {E : EV} {X : CX} (C : CK E X RL cL_law 19 (some .boolean) 9) {e : Nat} {h : Int32} {kd n q p : Nat} (hn : n < 4) (hq : q < 12) (hp : p = 9 ∨ p < 5) {mem : MEM} {a : AS} {c : Nat} (hC : RC mem a) (hZ : LZ mem a.1 c) (hI : GoodC a.1 c) {x14 x15 x16 x17 x18 : VV} (kk : ∀ (m : MEM) (a : AS) (c : Nat) (x14 x15 x16 x17 x18 : VV), RC m a → LZ m a.1 c → Good a.1 → G E X 19 1869 [rv (99, 0, 0), rv (0, 0, 0), rv (17, 0, 0), rv (18, 0, 0), rv (19, 0, 0), rv (20, 0, 0), rv (21, 0, 0), iv (nI e), iv h, iv (nI kd), iv (nI n), iv (nI q), iv (nI p), iv (nI 1), x14, x15, x16, x17, x18] [] m) : G E X 19 384 [rv (99, 0, 0), rv (0, 0, 0), rv (17, 0, 0), rv (18, 0, 0), rv (19, 0, 0), rv (20, 0, 0), rv (21, 0, 0), iv (nI e), iv h, iv (nI kd), iv (nI n), iv (nI q), iv (nI p), iv (nI 1), x14, x15, x16, x17, x18] [] mem := by
  have hc60 := hZ.c60
  refine e_iconst (v := -1) C dL_law_384 (by decide) ?_
  refine f_istore (ls1 := [_, _, _, _, _, _, _, _, _, _, _, _, _, _, _, _, _, _, _]) C dL_law_385 (by decide) rfl ?_
  refine e_iconst (v := nI 3) C dL_law_387 (by decide) ?_
  refine f_istore (ls1 := [_, _, _, _, _, _, _, _, _, _, _, _, _, _, _, _, _, _, _]) C dL_law_388 (by decide) rfl ?_
  refine lw_free2 hZ hI (?_) C 5 4 _ (by omega) (by omega) frv_end.symm
  have hfr := frv_ge (f := fun s => sz a.1 s 0) (N := 4) (by decide)
  refine e_iload C dL_law_418 rfl ?_
  refine e_if_lt (tgt := 592) C dL_law_420 (by decide) (fun h_420 => ?_) (fun h_420 => ?_)
  · skip
    refine e_goto (tgt := 1869) C dL_law_592 (by decide) ?_
    exact kk _ a c _ _ _ _ _ hC hZ ⟨c, hI⟩
  · skip
    have hf4 : (ffr (fun s => sz a.1 s 0) 4 0) < 4 := hfr.mp (Int32.not_lt.mp h_420)
    have hff := ffr_more (f := fun s => sz a.1 s 0) (k := 4) 4 0 (by omega)
    rw [frv_at hf4]
    obtain ⟨zfq, hzfq⟩ : ∃ y, y = (ffr (fun s => sz a.1 s 0) 4 0) := ⟨_, rfl⟩
    rw [← hzfq] at hf4 hff ⊢
    refine e_iload C dL_law_423 rfl ?_
    refine e_bipush (v := nI 17) C dL_law_425 (by decide) ?_
    refine e_ishr C dL_law_427 ?_
    refine e_bipush (v := nI 16) C dL_law_428 (by decide) ?_
    refine f_callSi (As := [_, _]) C mi_yL_low b_st_yL_low b_ml_L_41 dL_law_430 rfl (c_L_low_n (N := 16) (by omega) (by omega)) (by decide) (Nat.le_of_ble_eq_true rfl) (fun x_430 m_430 hc_430 => ?_)
    obtain ⟨⟨zot, hzot, hx_430⟩, hm_430⟩ := hc_430
    rw [hx_430, hm_430]
    refine f_istore (ls1 := [_, _, _, _, _, _, _, _, _, _, _, _, _, _, _, _, _, _, _]) C dL_law_433 (by decide) rfl ?_
    refine e_iload C dL_law_435 rfl ?_
    refine e_bipush (v := nI 21) C dL_law_437 (by decide) ?_
    refine e_ishr C dL_law_439 ?_
    refine e_bipush (v := nI 6) C dL_law_440 (by decide) ?_
    refine f_callSi (As := [_, _]) C mi_yL_low b_st_yL_low b_ml_L_41 dL_law_442 rfl (c_L_low_n (N := 6) (by omega) (by omega)) (by decide) (Nat.le_of_ble_eq_true rfl) (fun x_442 m_442 hc_442 => ?_)
    obtain ⟨⟨zbd, hzbd, hx_442⟩, hm_442⟩ := hc_442
    rw [hx_442, hm_442]
    refine f_istore (ls1 := [_, _, _, _, _, _, _, _, _, _, _, _, _, _, _, _, _, _, _]) C dL_law_445 (by decide) rfl ?_
    refine e_aload_n C dL_law_447 rfl ?_
    refine e_iload C dL_law_448 rfl ?_
    refine f_callSr (As := [_, _]) C mi_yL_isPlace b_st_yL_isPlace b_ml_L_102 dL_law_450 rfl (c_L_isPlace hZ hI hp) (by decide) (Nat.le_of_ble_eq_true rfl) ?_
    refine f_istore (ls1 := [_, _, _, _, _, _, _, _, _, _, _, _, _, _, _, _, _, _, _]) C dL_law_453 (by decide) rfl ?_
    refine e_aload_n C dL_law_455 rfl ?_
    refine e_iload C dL_law_456 rfl ?_
    refine e_iload C dL_law_458 rfl ?_
    refine e_iload C dL_law_460 rfl ?_
    refine f_callVi (As := [_, _, _]) (ci := 6) C mi_yX6_open mv_yX6_open b_ml_L_109 dL_law_462 rfl (c_X6_open hC hI.1) (by decide) v0 rfl rfl (Nat.le_of_ble_eq_true rfl) (fun x_462 m_462 hc_462 => ?_)
    obtain ⟨hx_462, hC1, hF1⟩ := hc_462
    have hZ1 := hZ.fr hF1
    refine e_iload C dL_law_465 rfl ?_
    rw [hx_462]
    refine e_cuti1 (tgt := 476) (P := fun x => x = (fOpen a.1 (nI p) (nI zot) (nI zbd)).1) ?_ ?_
    · intro x_467 hx_467
      rw [hx_467]
      refine e_icmp_ne (tgt := 483) C dL_law_476 (by decide) (fun h_476 => ?_) (fun h_476 => ?_)
      · skip
        exact absurd rfl h_476
      · skip
        refine e_iconst (v := nI 1) C dL_law_479 (by decide) ?_
        refine e_goto (tgt := 484) C dL_law_480 (by decide) ?_
        refine f_istore (ls1 := [_, _, _, _, _, _, _, _, _, _, _, _, _, _, _, _, _, _, _]) C dL_law_484 (by decide) rfl ?_
        refine e_iload C dL_law_486 rfl ?_
        refine f_if_eq (tgt := 592) C dL_law_488 (by decide) (fun h_488 => ?_) (fun h_488 => ?_)
        · skip
          refine e_goto (tgt := 1869) C dL_law_592 (by decide) ?_
          exact kk _ _ c _ _ _ _ _ hC1 (by show LZ _ (fOpen a.1 (nI p) (nI zot) (nI zbd)).2 c; rw [fOpen_no (fun r => h_488 ((isP_n (by omega)).mp r))]; exact hZ1) (Good.opn ⟨c, hI⟩)
        · skip
          refine e_iconst (v := nI 0) C dL_law_491 (by decide) ?_
          refine f_istore (ls1 := [_, _, _, _, _, _, _, _, _, _, _, _, _, _, _, _, _, _, _]) C dL_law_492 (by decide) rfl ?_
          refine lw_opn1 (p := p) (f := zfq) (o := zot) (b := zbd) (c := c) hf4 hzbd hZ1.t0 (fun m1 hm1 => ?_) C 10 0 m_462 (by omega) (by omega) ⟨fun _ _ => rfl, fun _ _ => rfl, fun k' hk' => absurd hk' (Nat.not_lt_zero _)⟩
          refine e_iconst (v := nI 0) C dL_law_564 (by decide) ?_
          refine f_istore (ls1 := [_, _, _, _, _, _, _, _, _, _, _, _, _, _, _, _, _, _, _]) C dL_law_565 (by decide) rfl ?_
          refine lw_opn2 (f := zfq) hf4 (fun m2 hm2 => ?_) C 13 0 m1 (by omega) (by omega) ⟨fun _ _ => rfl, fun _ _ => rfl, fun k' hk' => absurd hk' (Nat.not_lt_zero _)⟩
          refine e_goto (tgt := 1869) C dL_law_592 (by decide) ?_
          exact kk _ _ c _ _ _ _ _ (hC1.frM (fun id hid => (hm2.1 id (fun e => by rw [e] at hid; revert hid; decide)).trans (hm1.1 id (fun e => by rw [e] at hid; revert hid; decide)))) (by show LZ _ (fOpen a.1 (nI p) (nI zot) (nI zbd)).2 c; rw [fOpen_yes (isP_of h_488) (by omega) (by omega) hff (by omega)]; exact hZ1.sborn hf4 hm1 hm2) (Good.opn ⟨c, hI⟩)
    · intro kc_467
      refine f_if_eq (tgt := 475) C dL_law_467 (by decide) (fun h_467 => ?_) (fun h_467 => ?_)
      · skip
        refine e_iconst (v := -1) C dL_law_475 (by decide) ?_
        exact kc_467 _ (by rw [fOpen_no (fun r => h_467 ((isP_n (by omega)).mp r))])
      · skip
        refine e_iload C dL_law_470 rfl ?_
        refine e_goto (tgt := 476) C dL_law_472 (by decide) ?_
        exact kc_467 _ (by rw [fOpen_yes (isP_of h_467) (by omega) (by omega) hff (by omega)])
