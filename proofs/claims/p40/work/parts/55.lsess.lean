/-! ===== the law's look at the sessions ===== -/
theorem fSes_no {z : ZZ} {n : Nat} {p : Int32} (hn : n < 8) (ho : ¬ sz z n 0 = 1) : fSes z (nI n) p = -1 := cif_neg (fun r => ho ((isS_nat (by omega)).mp r).2)
theorem fSes_yes {z : ZZ} {n : Nat} {p : Int32} (hn : n < 8) (ho : sz z n 0 = 1) : fSes z (nI n) p = cif (p = nI 0) (sz z n 1) (cif (p = nI 1) (sz z n 2) (cif (p = nI 2) (sz z n 3) (cif (p = nI 3) (sz z n 4) (cif (p = nI 4) (sz z n 5) (cif (p = nI 5) (nI (needz z n)) (cif (p = nI 6) (sz z n 6) (cif (p = nI 7) (sz z n 7) (cif (p = nI 8) (sz z n 8) (-2))))))))) := by
  unfold fSes
  rw [cif_pos ⟨n, hn, rfl, ho⟩, nt_nI (by omega)]
def BInv (z : ZZ) (n : Nat) (key : Int32) (k : Nat) (b le : Int32) : Prop := b = (bst z n key k).1 ∧ ((b = -6 ∧ le = nI 99) ∨ (¬ b = -6 ∧ le = (bst z n key k).2))
theorem BInv.next {z : ZZ} {n k c : Nat} {key b le W : Int32} (h : BInv z n key k b le) (hk : k < 5) (hc : c ≤ 60) (hW : W = waitg z n key (nI k)) (hb : W = -6 ∨ ∃ w, w ≤ c ∧ W = nI w) {b2 le2 : Int32} (h1 : b2 = cif (0 ≤ W ∧ W < le) (nI k) b) (h2 : le2 = cif (0 ≤ W ∧ W < le) W le) : BInv z n key (k + 1) b2 le2 := by
  obtain ⟨g1, g2⟩ := h
  have hiff : (0 ≤ W ∧ W < le) ↔ (¬ W = -6 ∧ ((bst z n key k).1 = -6 ∨ W < (bst z n key k).2)) := by
    rcases hb with e | ⟨w, hw, e⟩
    · rw [e]
      exact ⟨fun q => absurd q.1 (by decide), fun q => absurd rfl q.1⟩
    · have hne : ¬ W = -6 := by rw [e]; exact nI_neN (by omega) (by decide)
      have h0 : 0 ≤ W := by rw [e]; exact xI_ge0 w (by omega)
      rw [← g1]
      rcases g2 with ⟨q1, q2⟩ | ⟨q1, q2⟩
      · refine ⟨fun _ => ⟨hne, Or.inl q1⟩, fun _ => ⟨h0, ?_⟩⟩
        rw [q2, e]
        exact nI_lt (by omega) (by decide)
      · rw [q2]
        exact ⟨fun q => ⟨hne, Or.inr q.2⟩, fun q => ⟨h0, q.2.resolve_left q1⟩⟩
  unfold BInv
  rw [bst, ← hW]
  by_cases hcnd : 0 ≤ W ∧ W < le
  · rw [cif_pos (hiff.mp hcnd), h1, h2, cif_pos hcnd, cif_pos hcnd]
    exact ⟨rfl, Or.inr ⟨nI_neN (by omega) (by decide), rfl⟩⟩
  · rw [cif_neg (fun q => hcnd (hiff.mpr q)), h1, h2, cif_neg hcnd, cif_neg hcnd]
    exact ⟨g1, g2⟩
theorem fWai_yes {z : ZZ} {n q k : Nat} (hn : n < 8) (ho : sz z n 0 = 1) (hq : q < 12) (hk : isPn z k) : fWai z (nI n) (nI q) (nI k) = waitg z n (nI q) (nI k) := by
  unfold fWai
  rw [cif_pos ⟨⟨n, hn, rfl, ho⟩, isK_n hq, isP_of hk⟩, nt_nI (by omega)]
theorem fWai_no {z : ZZ} {n q k : Nat} (hk5 : k < 5) (hk : ¬ rz z k 0 = 1) : fWai z (nI n) (nI q) (nI k) = -1 := cif_neg (fun r => nisP hk5 hk r.2.2)
theorem fBest_yes {z : ZZ} {n q : Nat} (hn : n < 8) (ho : sz z n 0 = 1) (hq : q < 12) : fBest z (nI n) (nI q) = (bst z n (nI q) 5).1 := by
  unfold fBest
  rw [cif_pos ⟨⟨n, hn, rfl, ho⟩, isK_n hq⟩, nt_nI (by omega)]
theorem fKeys_yes {z : ZZ} {n p t : Nat} (hn : n < 8) (ho : sz z n 0 = 1) (hp : isPn z p) (ht : t ≤ 99) : fKeys z (nI n) (nI p) (nI t) = nI (kaf z n (nI p) (nI t) 12) := by
  unfold fKeys
  rw [cif_pos ⟨⟨n, hn, rfl, ho⟩, isP_of hp⟩, cif_pos ⟨nI_le (Nat.zero_le _) (by omega), nI_le ht (by decide)⟩, nt_nI (by omega)]
theorem kaf_le {z : ZZ} {s : Nat} {p t : Int32} : ∀ n, kaf z s p t n ≤ n
  | 0 => Nat.le_refl 0
  | n + 1 => by
    unfold kaf cif
    have := kaf_le (z := z) (s := s) (p := p) (t := t) n
    split <;> omega
set_option maxRecDepth 100000 in
set_option maxHeartbeats 4000000 in
theorem lp_se_best {E : EV} {l : Launch} {X : CX} {mem : MEM} {z : ZZ} (hz : RelS mem 0 z) {c : Nat} (hZ : LZ mem z c) (hI : GoodC z c) {q : Nat} (hq : q < 12) {tk : Nat} (htk : tk < 12) {n : Nat} (hn : n < 4) (ho : sz z n 0 = 1) {x6 x7 x14 x15 : VV} (ka : ∀ (b le : Int32) (x13 : VV), BInv z n (nI q) 5 b le → G E X 16 317 [rv (0, 0, 0), rv (17, 0, 0), rv (18, 0, 0), rv (19, 0, 0), rv (21, 0, 0), iv (nI q), x6, x7, iv (nI n), iv (nI 1), iv b, iv le, iv (nI 5), x13, x14, x15] [] mem) (C : CK E X RL cL_sessions 16 (some .boolean) 7) (hX : EX E X l (Ret (iv (b2i True)) mem)) : ∀ (lpn : Nat) (k : Nat) (b le : Int32) (x13 : VV), 5 - k < lpn → (k ≤ 5) → (BInv z n (nI q) k b le) → G E X 16 197 [rv (0, 0, 0), rv (17, 0, 0), rv (18, 0, 0), rv (19, 0, 0), rv (21, 0, 0), iv (nI q), x6, x7, iv (nI n), iv (nI 1), iv b, iv le, iv (nI k), x13, x14, x15] [] mem := by
  intro lpn
  induction lpn with
  | zero => intro k b le x13 hlpn; exact absurd hlpn (Nat.not_lt_zero _)
  | succ lpn ih =>
    intro k b le x13 hlpn hk hb
    have hc60 := hZ.c60
    refine e_iload C dL_sessions_197 rfl ?_
    refine e_iconst (v := nI 5) C dL_sessions_199 (by decide) ?_
    refine e_icmp_ge (tgt := 317) C dL_sessions_200 (by decide) (fun h_200 => ?_) (fun h_200 => ?_)
    · skip
      have nh_200 := xI_leD (by omega) (by omega) h_200
      obtain rfl : k = 5 := by omega
      exact ka b le _ hb
    · skip
      have nh_200 := xI_nleD (by omega) (by omega) h_200
      refine e_aload_n C dL_sessions_203 rfl ?_
      refine e_iload C dL_sessions_204 rfl ?_
      refine f_iald C rfl v18 (by omega) (by decide) dL_sessions_206 ?_
      refine e_cuti1 (tgt := 229) (P := fun x => x = waitg z n (nI q) (nI k)) ?_ ?_
      · intro x_207 hx_207
        refine f_istore (ls1 := [_, _, _, _, _, _, _, _, _, _, _, _, _, _, _, _]) C dL_sessions_229 (by decide) rfl ?_
        refine e_iload C dL_sessions_231 rfl ?_
        refine e_if_eq (tgt := 266) C dL_sessions_233 (by decide) (fun h_233 => ?_) (fun h_233 => ?_)
        · skip
          exact absurd h_233 (by decide)
        · skip
          have nh_233 := xI_neD (a := 1) (b := 0) h_233
          refine e_aload_n C dL_sessions_236 rfl ?_
          refine e_iload C dL_sessions_237 rfl ?_
          refine e_iload C dL_sessions_239 rfl ?_
          refine e_iload C dL_sessions_241 rfl ?_
          refine f_callVr (As := [_, _, _]) (ci := 6) C mi_yX6_waitFor mv_yX6_waitFor b_ml_L_82 dL_sessions_243 rfl (c_X6_waitFor hz hI.1) (by decide) v0 rfl rfl (Nat.le_of_ble_eq_true rfl) ?_
          refine e_aload_n C dL_sessions_246 rfl ?_
          refine e_iload C dL_sessions_247 rfl ?_
          refine f_iald C rfl v18 (by omega) (by decide) dL_sessions_249 ?_
          refine e_cuti1 (tgt := 259) (P := fun x => x = fWai z (nI n) (nI q) (nI k)) ?_ ?_
          · intro x_250 hx_250
            rw [hx_250]
            refine e_icmp_ne (tgt := 266) C dL_sessions_259 (by decide) (fun h_259 => ?_) (fun h_259 => ?_)
            · skip
              exact absurd rfl h_259
            · skip
              refine e_iconst (v := nI 1) C dL_sessions_262 (by decide) ?_
              refine e_goto (tgt := 267) C dL_sessions_263 (by decide) ?_
              refine f_istore (ls1 := [_, _, _, _, _, _, _, _, _, _, _, _, _, _, _, _]) C dL_sessions_267 (by decide) rfl ?_
              refine e_iload C dL_sessions_269 rfl ?_
              refine e_cuti1 (tgt := 288) (P := fun x => x = cif (0 ≤ x_207 ∧ x_207 < le) (nI k) b) ?_ ?_
              · intro x_271 hx_271
                refine f_istore (ls1 := [_, _, _, _, _, _, _, _, _, _, _, _, _, _, _, _]) C dL_sessions_288 (by decide) rfl ?_
                refine e_iload C dL_sessions_290 rfl ?_
                refine e_cuti1 (tgt := 309) (P := fun x => x = cif (0 ≤ x_207 ∧ x_207 < le) x_207 le) ?_ ?_
                · intro x_292 hx_292
                  refine f_istore (ls1 := [_, _, _, _, _, _, _, _, _, _, _, _, _, _, _, _]) C dL_sessions_309 (by decide) rfl ?_
                  refine f_iincn (ls1 := [_, _, _, _, _, _, _, _, _, _, _, _, _, _, _, _]) C dL_sessions_311 rfl (by decide) rfl ?_
                  refine e_goto (tgt := 197) C dL_sessions_314 (by decide) ?_
                  exact ih (k + 1) _ _ _ (by omega) (by omega) (hb.next (by omega) hc60 hx_207 (by rw [hx_207]; by_cases hpk : rz z k 0 = 1; exact wg_b hI.1 (by omega) ho (Or.inr ⟨by omega, hpk⟩); exact Or.inl (waitg_no (by omega) hpk)) hx_271 hx_292)
                · intro kc_292
                  refine e_if_lt (tgt := 307) C dL_sessions_292 (by decide) (fun h_292 => ?_) (fun h_292 => ?_)
                  · skip
                    refine e_iload C dL_sessions_307 rfl ?_
                    exact kc_292 _ (cif_neg (fun r => absurd r.1 (Int32.not_le.mpr h_292))).symm
                  · skip
                    refine e_iload C dL_sessions_295 rfl ?_
                    refine e_iload C dL_sessions_297 rfl ?_
                    refine e_icmp_ge (tgt := 307) C dL_sessions_299 (by decide) (fun h_299 => ?_) (fun h_299 => ?_)
                    · skip
                      refine e_iload C dL_sessions_307 rfl ?_
                      exact kc_292 _ (cif_neg (fun r => absurd r.2 (Int32.not_lt.mpr h_299))).symm
                    · skip
                      refine e_iload C dL_sessions_302 rfl ?_
                      refine e_goto (tgt := 309) C dL_sessions_304 (by decide) ?_
                      exact kc_292 _ (cif_pos ⟨Int32.not_lt.mp h_292, Int32.not_le.mp h_299⟩).symm
              · intro kc_271
                refine e_if_lt (tgt := 286) C dL_sessions_271 (by decide) (fun h_271 => ?_) (fun h_271 => ?_)
                · skip
                  refine e_iload C dL_sessions_286 rfl ?_
                  exact kc_271 _ (cif_neg (fun r => absurd r.1 (Int32.not_le.mpr h_271))).symm
                · skip
                  refine e_iload C dL_sessions_274 rfl ?_
                  refine e_iload C dL_sessions_276 rfl ?_
                  refine e_icmp_ge (tgt := 286) C dL_sessions_278 (by decide) (fun h_278 => ?_) (fun h_278 => ?_)
                  · skip
                    refine e_iload C dL_sessions_286 rfl ?_
                    exact kc_271 _ (cif_neg (fun r => absurd r.2 (Int32.not_lt.mpr h_278))).symm
                  · skip
                    refine e_iload C dL_sessions_281 rfl ?_
                    refine e_goto (tgt := 288) C dL_sessions_283 (by decide) ?_
                    exact kc_271 _ (cif_pos ⟨Int32.not_lt.mp h_271, Int32.not_le.mp h_278⟩).symm
          · intro kc_250
            refine e_if_ge (tgt := 257) C dL_sessions_250 (by decide) (fun h_250 => ?_) (fun h_250 => ?_)
            · skip
              have hpk : isPn z k := Or.inr ⟨by omega, (hZ.r_ge hI.1 (by omega)).mp h_250⟩
              refine e_iload C dL_sessions_257 rfl ?_
              exact kc_250 _ (by rw [hx_207, fWai_yes (by omega) ho hq hpk])
            · skip
              have hnk : ¬ rz z k 0 = 1 := (hZ.r_lt hI.1 (by omega)).mp (Int32.not_le.mp h_250)
              refine e_iconst (v := -1) C dL_sessions_253 (by decide) ?_
              refine e_goto (tgt := 259) C dL_sessions_254 (by decide) ?_
              exact kc_250 _ (fWai_no (by omega) hnk).symm
      · intro kc_207
        refine e_if_ge (tgt := 215) C dL_sessions_207 (by decide) (fun h_207 => ?_) (fun h_207 => ?_)
        · skip
          have hpk : isPn z k := Or.inr ⟨by omega, (hZ.r_ge hI.1 (by omega)).mp h_207⟩
          refine e_aload_n C dL_sessions_215 rfl ?_
          refine e_aload_n C dL_sessions_216 rfl ?_
          refine e_aload_n C dL_sessions_217 rfl ?_
          refine e_aload C dL_sessions_218 rfl ?_
          refine e_iload C dL_sessions_220 rfl ?_
          refine e_iload C dL_sessions_222 rfl ?_
          refine e_iload C dL_sessions_224 rfl ?_
          refine f_callSr (As := [_, _, _, _, _, _, _]) C mi_yL_wait b_st_yL_wait b_ml_L_78 dL_sessions_226 rfl (c_L_wait hZ hI hn ho hq hpk) (by decide) (Nat.le_of_ble_eq_true rfl) ?_
          exact kc_207 _ rfl
        · skip
          have hnk : ¬ rz z k 0 = 1 := (hZ.r_lt hI.1 (by omega)).mp (Int32.not_le.mp h_207)
          refine e_bipush (v := -6) C dL_sessions_210 (by decide) ?_
          refine e_goto (tgt := 229) C dL_sessions_212 (by decide) ?_
          exact kc_207 _ (waitg_no (by omega) hnk).symm
set_option maxRecDepth 100000 in
set_option maxHeartbeats 4000000 in
theorem lp_se_tick {E : EV} {l : Launch} {X : CX} {mem : MEM} {z : ZZ} {c : Nat} (hZ : LZ mem z c) (hI : GoodC z c) {tk : Nat} (htk : tk < 12) {ph : Nat} (hph : isPn z ph) {x0 x1 x3 x5 x7 x8 x9 x10 x11 x15 : VV} (ka : G E X 16 361 [x0, x1, rv (18, 0, 0), x3, rv (21, 0, 0), x5, iv (nI tk), x7, x8, x9, x10, x11, iv (nI ph), iv (nI (itz z c ph (nt (posz z ph)) tk)), iv (nI tk), x15] [] mem) (C : CK E X RL cL_sessions 16 (some .boolean) 7) (hX : EX E X l (Ret (iv (b2i True)) mem)) : ∀ (lpn : Nat) (k p : Nat), tk - k < lpn → (k ≤ tk) → (p = itz z c ph (nt (posz z ph)) k) → G E X 16 336 [x0, x1, rv (18, 0, 0), x3, rv (21, 0, 0), x5, iv (nI tk), x7, x8, x9, x10, x11, iv (nI ph), iv (nI p), iv (nI k), x15] [] mem := by
  intro lpn
  induction lpn with
  | zero => intro k p hlpn; exact absurd hlpn (Nat.not_lt_zero _)
  | succ lpn ih =>
    intro k p hlpn hk hv
    have hc60 := hZ.c60
    have hp9 := isPn_le hph
    have hpo := posn_le hI.1 hph
    have hpc : p ≤ c := by rw [hv]; exact itz_le hpo
    refine e_iload C dL_sessions_336 rfl ?_
    refine e_iload C dL_sessions_338 rfl ?_
    refine e_icmp_ge (tgt := 361) C dL_sessions_340 (by decide) (fun h_340 => ?_) (fun h_340 => ?_)
    · skip
      have nh_340 := xI_leD (by omega) (by omega) h_340
      obtain rfl : k = tk := by omega
      rw [hv]
      exact ka
    · skip
      have nh_340 := xI_nleD (by omega) (by omega) h_340
      refine e_aload_n C dL_sessions_343 rfl ?_
      refine e_aload C dL_sessions_344 rfl ?_
      refine e_iload C dL_sessions_346 rfl ?_
      refine e_iload C dL_sessions_348 rfl ?_
      refine f_callSr (As := [_, _, _, _]) C mi_yL_step b_st_yL_step b_ml_L_30 dL_sessions_350 rfl (c_L_step (hZ.step hI.1 hph) hpc) (by decide) (Nat.le_of_ble_eq_true rfl) ?_
      refine f_istore (ls1 := [_, _, _, _, _, _, _, _, _, _, _, _, _, _, _, _]) C dL_sessions_353 (by decide) rfl ?_
      refine f_iincn (ls1 := [_, _, _, _, _, _, _, _, _, _, _, _, _, _, _, _]) C dL_sessions_355 rfl (by decide) rfl ?_
      refine e_goto (tgt := 336) C dL_sessions_358 (by decide) ?_
      exact ih (k + 1) (stpz z c ph p) (by omega) (by omega) (by rw [hv]; exact itz_succ)
set_option maxRecDepth 100000 in
set_option maxHeartbeats 4000000 in
theorem lp_se_keys {E : EV} {l : Launch} {X : CX} {mem : MEM} {z : ZZ} {c : Nat} (hZ : LZ mem z c) (hI : GoodC z c) {tk : Nat} (htk : tk < 12) {ph : Nat} (hph : isPn z ph) {n : Nat} (hn : n < 4) (ho : sz z n 0 = 1) {x0 x2 x4 x5 x6 x7 x9 x10 x11 x12 : VV} (ka : G E X 16 404 [x0, rv (17, 0, 0), x2, rv (19, 0, 0), x4, x5, x6, x7, iv (nI n), x9, x10, x11, x12, iv (nI (itz z c ph (nt (posz z ph)) tk)), iv (nI (kaf z n (nI ph) (nI tk) 12)), iv (nI 12)] [] mem) (C : CK E X RL cL_sessions 16 (some .boolean) 7) (hX : EX E X l (Ret (iv (b2i True)) mem)) : ∀ (lpn : Nat) (k w : Nat), 12 - k < lpn → (k ≤ 12) → (w = kaf z n (nI ph) (nI tk) k) → G E X 16 367 [x0, rv (17, 0, 0), x2, rv (19, 0, 0), x4, x5, x6, x7, iv (nI n), x9, x10, x11, x12, iv (nI (itz z c ph (nt (posz z ph)) tk)), iv (nI w), iv (nI k)] [] mem := by
  intro lpn
  induction lpn with
  | zero => intro k w hlpn; exact absurd hlpn (Nat.not_lt_zero _)
  | succ lpn ih =>
    intro k w hlpn hk hw
    have hc60 := hZ.c60
    have hpo := posn_le hI.1 hph
    have hit : (itz z c ph (nt (posz z ph)) tk) ≤ c := itz_le hpo
    have hwl := kaf_le (z := z) (s := n) (p := nI ph) (t := nI tk) k
    refine e_iload C dL_sessions_367 rfl ?_
    refine e_bipush (v := nI 12) C dL_sessions_369 (by decide) ?_
    refine e_icmp_ge (tgt := 404) C dL_sessions_371 (by decide) (fun h_371 => ?_) (fun h_371 => ?_)
    · skip
      have nh_371 := xI_leD (by omega) (by omega) h_371
      obtain rfl : k = 12 := by omega
      rw [hw]
      exact ka
    · skip
      have nh_371 := xI_nleD (by omega) (by omega) h_371
      refine e_iload C dL_sessions_374 rfl ?_
      refine e_aload_n C dL_sessions_376 rfl ?_
      refine e_aload_n C dL_sessions_377 rfl ?_
      refine e_iload C dL_sessions_378 rfl ?_
      refine e_iload C dL_sessions_380 rfl ?_
      refine e_iload C dL_sessions_382 rfl ?_
      refine f_callSr (As := [_, _, _, _, _]) C mi_yL_can b_st_yL_can b_ml_L_26 dL_sessions_384 rfl (c_L_can hZ hI hn ho (by omega) hit) (by decide) (Nat.le_of_ble_eq_true rfl) ?_
      refine f_if_eq (tgt := 394) C dL_sessions_387 (by decide) (fun h_387 => ?_) (fun h_387 => ?_)
      · skip
        refine e_iconst (v := nI 0) C dL_sessions_394 (by decide) ?_
        refine f_iaddn C dL_sessions_395 ?_
        refine f_istore (ls1 := [_, _, _, _, _, _, _, _, _, _, _, _, _, _, _, _]) C dL_sessions_396 (by decide) rfl ?_
        refine f_iincn (ls1 := [_, _, _, _, _, _, _, _, _, _, _, _, _, _, _, _]) C dL_sessions_398 rfl (by decide) rfl ?_
        refine e_goto (tgt := 367) C dL_sessions_401 (by decide) ?_
        exact ih (k + 1) (w + 0) (by omega) (by omega) (by rw [kaf, cif_neg (fun r => h_387 ((wg_le hI.1 (by omega) ho hph (by omega)).mp r)), hw])
      · skip
        refine e_iconst (v := nI 1) C dL_sessions_390 (by decide) ?_
        refine e_goto (tgt := 395) C dL_sessions_391 (by decide) ?_
        refine f_iaddn C dL_sessions_395 ?_
        refine f_istore (ls1 := [_, _, _, _, _, _, _, _, _, _, _, _, _, _, _, _]) C dL_sessions_396 (by decide) rfl ?_
        refine f_iincn (ls1 := [_, _, _, _, _, _, _, _, _, _, _, _, _, _, _, _]) C dL_sessions_398 rfl (by decide) rfl ?_
        refine e_goto (tgt := 367) C dL_sessions_401 (by decide) ?_
        exact ih (k + 1) (w + 1) (by omega) (by omega) (by rw [kaf, cif_pos ((wg_le hI.1 (by omega) ho hph (by omega)).mpr h_387), hw])
set_option maxRecDepth 100000 in
set_option maxHeartbeats 4000000 in
theorem lp_se {E : EV} {l : Launch} {X : CX} {mem : MEM} {z : ZZ} (hz : RelS mem 0 z) {c : Nat} (hZ : LZ mem z c) (hI : GoodC z c) {q : Nat} (hq : q < 12) {tk : Nat} (htk : tk < 12) (C : CK E X RL cL_sessions 16 (some .boolean) 7) (hX : EX E X l (Ret (iv (b2i True)) mem)) : ∀ (lpn : Nat) (n : Nat) (sx : Int32) (x9 x10 x11 x12 x13 x14 x15 : VV), 4 - n < lpn → (n ≤ 4) → (sx = msk (fun s => sz z s 0) n) → G E X 16 6 [rv (0, 0, 0), rv (17, 0, 0), rv (18, 0, 0), rv (19, 0, 0), rv (21, 0, 0), iv (nI q), iv (nI tk), iv sx, iv (nI n), x9, x10, x11, x12, x13, x14, x15] [] mem := by
  intro lpn
  induction lpn with
  | zero => intro n sx x9 x10 x11 x12 x13 x14 x15 hlpn; exact absurd hlpn (Nat.not_lt_zero _)
  | succ lpn ih =>
    intro n sx x9 x10 x11 x12 x13 x14 x15 hlpn hn4 hset
    have hc60 := hZ.c60
    refine e_iload C dL_sessions_6 rfl ?_
    refine e_iconst (v := nI 4) C dL_sessions_8 (by decide) ?_
    refine e_icmp_ge (tgt := 474) C dL_sessions_9 (by decide) (fun h_9 => ?_) (fun h_9 => ?_)
    · skip
      have nh_9 := xI_leD (by omega) (by omega) h_9
      refine e_aload_n C dL_sessions_474 rfl ?_
      refine f_callVr (As := []) (ci := 6) C mi_yX6_sessions mv_yX6_sessions b_ml_L_92 dL_sessions_475 rfl (c_X6_sessions hz) (by decide) v0 rfl rfl (Nat.le_of_ble_eq_true rfl) ?_
      refine e_iload C dL_sessions_478 rfl ?_
      obtain rfl : n = 4 := by omega
      rw [msk_8 hZ, ← hset]
      refine e_icmp_ne (tgt := 487) C dL_sessions_480 (by decide) (fun h_480 => ?_) (fun h_480 => ?_)
      · skip
        exact absurd rfl h_480
      · skip
        refine e_iconst (v := nI 1) C dL_sessions_483 (by decide) ?_
        refine e_goto (tgt := 488) C dL_sessions_484 (by decide) ?_
        exact f_zt C hX dL_sessions_488 trivial rfl
    · skip
      have nh_9 := xI_nleD (by omega) (by omega) h_9
      refine e_aload_n C dL_sessions_12 rfl ?_
      refine e_iload C dL_sessions_13 rfl ?_
      refine f_iald C rfl v19 (by omega) (by decide) dL_sessions_15 ?_
      refine e_if_lt (tgt := 455) C dL_sessions_16 (by decide) (fun h_16 => ?_) (fun h_16 => ?_)
      · skip
        have hno : ¬ sz z n 0 = 1 := (hZ.s_lt hI.1 (by omega)).mp h_16
        refine e_aload_n C dL_sessions_455 rfl ?_
        refine e_iload C dL_sessions_456 rfl ?_
        refine e_iconst (v := nI 0) C dL_sessions_458 (by decide) ?_
        refine f_callVr (As := [_, _]) (ci := 6) C mi_yX6_session mv_yX6_session b_ml_L_75 dL_sessions_459 rfl (c_X6_session hz hI.1) (by decide) v0 rfl rfl (Nat.le_of_ble_eq_true rfl) ?_
        refine e_iconst (v := -1) C dL_sessions_462 (by decide) ?_
        rw [fSes_no (by omega) hno]
        refine e_icmp_eq (tgt := 468) C dL_sessions_463 (by decide) (fun h_463 => ?_) (fun h_463 => ?_)
        · skip
          refine f_iincn (ls1 := [_, _, _, _, _, _, _, _, _, _, _, _, _, _, _, _]) C dL_sessions_468 rfl (by decide) rfl ?_
          refine e_goto (tgt := 6) C dL_sessions_471 (by decide) ?_
          exact ih (n + 1) _ _ _ _ _ _ _ _ (by omega) (by omega) (by rw [msk, cif_neg hno]; exact hset)
        · skip
          exact absurd rfl h_463
      · skip
        have ho : sz z n 0 = 1 := (hZ.s_ge hI.1 (by omega)).mp (Int32.not_lt.mp h_16)
        have hn : n < 4 := by omega
        have hnl := needz_le hI.1 (by omega) ho
        have e0 : fSes z (nI n) (nI 0) = mem (19, 0, 0) n := by rw [fSes_yes (by omega) ho, cif_pos rfl]; exact (hZ.s_home hn ho).symm
        have e1 : fSes z (nI n) (nI 1) = mem (19, 0, 0) (4 + n) := by rw [fSes_yes (by omega) ho, cif_neg (by decide), cif_pos rfl]; exact (hZ.s_opt hn ho).symm
        have e2 : fSes z (nI n) (nI 2) = mem (19, 0, 0) (8 + n) := by rw [fSes_yes (by omega) ho, cif_neg (by decide), cif_neg (by decide), cif_pos rfl]; exact (hZ.s_bnd hn ho).symm
        have e3 : fSes z (nI n) (nI 3) = mem (19, 0, 0) (12 + n) := by rw [fSes_yes (by omega) ho, cif_neg (by decide), cif_neg (by decide), cif_neg (by decide), cif_pos rfl]; exact (hZ.s_own hn ho).symm
        have e4 : fSes z (nI n) (nI 4) = mem (19, 0, 0) (16 + n) := by rw [fSes_yes (by omega) ho, cif_neg (by decide), cif_neg (by decide), cif_neg (by decide), cif_neg (by decide), cif_pos rfl]; exact (hZ.s_seen hn ho).symm
        have e5 : fSes z (nI n) (nI 5) = nI (needz z n) := by rw [fSes_yes (by omega) ho, cif_neg (by decide), cif_neg (by decide), cif_neg (by decide), cif_neg (by decide), cif_neg (by decide), cif_pos rfl]
        have e6 : fSes z (nI n) (nI 6) = mem (19, 0, 0) (20 + n) := by rw [fSes_yes (by omega) ho, cif_neg (by decide), cif_neg (by decide), cif_neg (by decide), cif_neg (by decide), cif_neg (by decide), cif_neg (by decide), cif_pos rfl]; exact (hZ.s_rds hn ho).symm
        have e7 : fSes z (nI n) (nI 7) = mem (19, 0, 0) (24 + n) := by rw [fSes_yes (by omega) ho, cif_neg (by decide), cif_neg (by decide), cif_neg (by decide), cif_neg (by decide), cif_neg (by decide), cif_neg (by decide), cif_neg (by decide), cif_pos rfl]; exact (hZ.s_und hn ho).symm
        have e8 : fSes z (nI n) (nI 8) = mem (19, 0, 0) (28 + n) := by rw [fSes_yes (by omega) ho, cif_neg (by decide), cif_neg (by decide), cif_neg (by decide), cif_neg (by decide), cif_neg (by decide), cif_neg (by decide), cif_neg (by decide), cif_neg (by decide), cif_pos rfl]; exact (hZ.s_bak hn ho).symm
        obtain ⟨ph, bnd, eh, hph, hp10, -⟩ := hI.1.home (by omega : n < 8) ho
        have hpo := posn_le hI.1 hph
        have hp9 := isPn_le hph
        refine e_iload C dL_sessions_19 rfl ?_
        refine e_iconst (v := nI 1) C dL_sessions_21 (by decide) ?_
        refine e_iload C dL_sessions_22 rfl ?_
        refine e_ishl C dL_sessions_24 ?_
        refine e_ior C dL_sessions_25 ?_
        refine f_istore (ls1 := [_, _, _, _, _, _, _, _, _, _, _, _, _, _, _, _]) C dL_sessions_26 (by decide) rfl ?_
        refine e_aload_n C dL_sessions_28 rfl ?_
        refine e_iload C dL_sessions_29 rfl ?_
        refine e_iconst (v := nI 0) C dL_sessions_31 (by decide) ?_
        refine f_callVr (As := [_, _]) (ci := 6) C mi_yX6_session mv_yX6_session b_ml_L_75 dL_sessions_32 rfl (c_X6_session hz hI.1) (by decide) v0 rfl rfl (Nat.le_of_ble_eq_true rfl) ?_
        refine e_aload_n C dL_sessions_35 rfl ?_
        refine e_iload C dL_sessions_36 rfl ?_
        refine f_iald C rfl v19 (by omega) (by decide) dL_sessions_38 ?_
        rw [e0]
        refine e_icmp_ne (tgt := 183) C dL_sessions_39 (by decide) (fun h_39 => ?_) (fun h_39 => ?_)
        · skip
          exact absurd rfl h_39
        · skip
          refine e_aload_n C dL_sessions_42 rfl ?_
          refine e_iload C dL_sessions_43 rfl ?_
          refine e_iconst (v := nI 1) C dL_sessions_45 (by decide) ?_
          refine f_callVr (As := [_, _]) (ci := 6) C mi_yX6_session mv_yX6_session b_ml_L_75 dL_sessions_46 rfl (c_X6_session hz hI.1) (by decide) v0 rfl rfl (Nat.le_of_ble_eq_true rfl) ?_
          refine e_aload_n C dL_sessions_49 rfl ?_
          refine e_iconst (v := nI 4) C dL_sessions_50 (by decide) ?_
          refine e_iload C dL_sessions_51 rfl ?_
          refine f_iaddn C dL_sessions_53 ?_
          refine f_iald C rfl v19 (by omega) (by decide) dL_sessions_54 ?_
          rw [e1]
          refine e_icmp_ne (tgt := 183) C dL_sessions_55 (by decide) (fun h_55 => ?_) (fun h_55 => ?_)
          · skip
            exact absurd rfl h_55
          · skip
            refine e_aload_n C dL_sessions_58 rfl ?_
            refine e_iload C dL_sessions_59 rfl ?_
            refine e_iconst (v := nI 2) C dL_sessions_61 (by decide) ?_
            refine f_callVr (As := [_, _]) (ci := 6) C mi_yX6_session mv_yX6_session b_ml_L_75 dL_sessions_62 rfl (c_X6_session hz hI.1) (by decide) v0 rfl rfl (Nat.le_of_ble_eq_true rfl) ?_
            refine e_aload_n C dL_sessions_65 rfl ?_
            refine e_bipush (v := nI 8) C dL_sessions_66 (by decide) ?_
            refine e_iload C dL_sessions_68 rfl ?_
            refine f_iaddn C dL_sessions_70 ?_
            refine f_iald C rfl v19 (by omega) (by decide) dL_sessions_71 ?_
            rw [e2]
            refine e_icmp_ne (tgt := 183) C dL_sessions_72 (by decide) (fun h_72 => ?_) (fun h_72 => ?_)
            · skip
              exact absurd rfl h_72
            · skip
              refine e_aload_n C dL_sessions_75 rfl ?_
              refine e_iload C dL_sessions_76 rfl ?_
              refine e_iconst (v := nI 3) C dL_sessions_78 (by decide) ?_
              refine f_callVr (As := [_, _]) (ci := 6) C mi_yX6_session mv_yX6_session b_ml_L_75 dL_sessions_79 rfl (c_X6_session hz hI.1) (by decide) v0 rfl rfl (Nat.le_of_ble_eq_true rfl) ?_
              refine e_aload_n C dL_sessions_82 rfl ?_
              refine e_bipush (v := nI 12) C dL_sessions_83 (by decide) ?_
              refine e_iload C dL_sessions_85 rfl ?_
              refine f_iaddn C dL_sessions_87 ?_
              refine f_iald C rfl v19 (by omega) (by decide) dL_sessions_88 ?_
              rw [e3]
              refine e_icmp_ne (tgt := 183) C dL_sessions_89 (by decide) (fun h_89 => ?_) (fun h_89 => ?_)
              · skip
                exact absurd rfl h_89
              · skip
                refine e_aload_n C dL_sessions_92 rfl ?_
                refine e_iload C dL_sessions_93 rfl ?_
                refine e_iconst (v := nI 4) C dL_sessions_95 (by decide) ?_
                refine f_callVr (As := [_, _]) (ci := 6) C mi_yX6_session mv_yX6_session b_ml_L_75 dL_sessions_96 rfl (c_X6_session hz hI.1) (by decide) v0 rfl rfl (Nat.le_of_ble_eq_true rfl) ?_
                refine e_aload_n C dL_sessions_99 rfl ?_
                refine e_bipush (v := nI 16) C dL_sessions_100 (by decide) ?_
                refine e_iload C dL_sessions_102 rfl ?_
                refine f_iaddn C dL_sessions_104 ?_
                refine f_iald C rfl v19 (by omega) (by decide) dL_sessions_105 ?_
                rw [e4]
                refine e_icmp_ne (tgt := 183) C dL_sessions_106 (by decide) (fun h_106 => ?_) (fun h_106 => ?_)
                · skip
                  exact absurd rfl h_106
                · skip
                  refine e_aload_n C dL_sessions_109 rfl ?_
                  refine e_iload C dL_sessions_110 rfl ?_
                  refine e_iconst (v := nI 5) C dL_sessions_112 (by decide) ?_
                  refine f_callVr (As := [_, _]) (ci := 6) C mi_yX6_session mv_yX6_session b_ml_L_75 dL_sessions_113 rfl (c_X6_session hz hI.1) (by decide) v0 rfl rfl (Nat.le_of_ble_eq_true rfl) ?_
                  refine e_aload_n C dL_sessions_116 rfl ?_
                  refine e_iload C dL_sessions_117 rfl ?_
                  refine f_callSr (As := [_, _]) C mi_yL_need b_st_yL_need b_ml_L_12 dL_sessions_119 rfl (c_L_need hZ hI hn ho) (by decide) (Nat.le_of_ble_eq_true rfl) ?_
                  rw [e5]
                  refine e_icmp_ne (tgt := 183) C dL_sessions_122 (by decide) (fun h_122 => ?_) (fun h_122 => ?_)
                  · skip
                    exact absurd rfl h_122
                  · skip
                    refine e_aload_n C dL_sessions_125 rfl ?_
                    refine e_iload C dL_sessions_126 rfl ?_
                    refine e_bipush (v := nI 6) C dL_sessions_128 (by decide) ?_
                    refine f_callVr (As := [_, _]) (ci := 6) C mi_yX6_session mv_yX6_session b_ml_L_75 dL_sessions_130 rfl (c_X6_session hz hI.1) (by decide) v0 rfl rfl (Nat.le_of_ble_eq_true rfl) ?_
                    refine e_aload_n C dL_sessions_133 rfl ?_
                    refine e_bipush (v := nI 20) C dL_sessions_134 (by decide) ?_
                    refine e_iload C dL_sessions_136 rfl ?_
                    refine f_iaddn C dL_sessions_138 ?_
                    refine f_iald C rfl v19 (by omega) (by decide) dL_sessions_139 ?_
                    rw [e6]
                    refine e_icmp_ne (tgt := 183) C dL_sessions_140 (by decide) (fun h_140 => ?_) (fun h_140 => ?_)
                    · skip
                      exact absurd rfl h_140
                    · skip
                      refine e_aload_n C dL_sessions_143 rfl ?_
                      refine e_iload C dL_sessions_144 rfl ?_
                      refine e_bipush (v := nI 7) C dL_sessions_146 (by decide) ?_
                      refine f_callVr (As := [_, _]) (ci := 6) C mi_yX6_session mv_yX6_session b_ml_L_75 dL_sessions_148 rfl (c_X6_session hz hI.1) (by decide) v0 rfl rfl (Nat.le_of_ble_eq_true rfl) ?_
                      refine e_aload_n C dL_sessions_151 rfl ?_
                      refine e_bipush (v := nI 24) C dL_sessions_152 (by decide) ?_
                      refine e_iload C dL_sessions_154 rfl ?_
                      refine f_iaddn C dL_sessions_156 ?_
                      refine f_iald C rfl v19 (by omega) (by decide) dL_sessions_157 ?_
                      rw [e7]
                      refine e_icmp_ne (tgt := 183) C dL_sessions_158 (by decide) (fun h_158 => ?_) (fun h_158 => ?_)
                      · skip
                        exact absurd rfl h_158
                      · skip
                        refine e_aload_n C dL_sessions_161 rfl ?_
                        refine e_iload C dL_sessions_162 rfl ?_
                        refine e_bipush (v := nI 8) C dL_sessions_164 (by decide) ?_
                        refine f_callVr (As := [_, _]) (ci := 6) C mi_yX6_session mv_yX6_session b_ml_L_75 dL_sessions_166 rfl (c_X6_session hz hI.1) (by decide) v0 rfl rfl (Nat.le_of_ble_eq_true rfl) ?_
                        refine e_aload_n C dL_sessions_169 rfl ?_
                        refine e_bipush (v := nI 28) C dL_sessions_170 (by decide) ?_
                        refine e_iload C dL_sessions_172 rfl ?_
                        refine f_iaddn C dL_sessions_174 ?_
                        refine f_iald C rfl v19 (by omega) (by decide) dL_sessions_175 ?_
                        rw [e8]
                        refine e_icmp_ne (tgt := 183) C dL_sessions_176 (by decide) (fun h_176 => ?_) (fun h_176 => ?_)
                        · skip
                          exact absurd rfl h_176
                        · skip
                          refine e_iconst (v := nI 1) C dL_sessions_179 (by decide) ?_
                          refine e_goto (tgt := 184) C dL_sessions_180 (by decide) ?_
                          refine f_istore (ls1 := [_, _, _, _, _, _, _, _, _, _, _, _, _, _, _, _]) C dL_sessions_184 (by decide) rfl ?_
                          refine e_bipush (v := -6) C dL_sessions_186 (by decide) ?_
                          refine f_istore (ls1 := [_, _, _, _, _, _, _, _, _, _, _, _, _, _, _, _]) C dL_sessions_188 (by decide) rfl ?_
                          refine e_bipush (v := nI 99) C dL_sessions_190 (by decide) ?_
                          refine f_istore (ls1 := [_, _, _, _, _, _, _, _, _, _, _, _, _, _, _, _]) C dL_sessions_192 (by decide) rfl ?_
                          refine e_iconst (v := nI 0) C dL_sessions_194 (by decide) ?_
                          refine f_istore (ls1 := [_, _, _, _, _, _, _, _, _, _, _, _, _, _, _, _]) C dL_sessions_195 (by decide) rfl ?_
                          refine lp_se_best hz hZ hI hq htk (n := n) hn ho (fun b le x13b hb => ?_) C hX 6 0 _ _ _ (by omega) (by omega) ⟨rfl, Or.inl ⟨rfl, rfl⟩⟩
                          refine e_aload_n C dL_sessions_317 rfl ?_
                          refine e_iload C dL_sessions_318 rfl ?_
                          refine f_iald C rfl v19 (by omega) (by decide) dL_sessions_320 ?_
                          refine f_val (y := nI (ph)) (by rw [hZ.s_home hn ho]; exact eh) ?_
                          refine f_istore (ls1 := [_, _, _, _, _, _, _, _, _, _, _, _, _, _, _, _]) C dL_sessions_321 (by decide) rfl ?_
                          refine e_aload_n C dL_sessions_323 rfl ?_
                          refine e_aload C dL_sessions_324 rfl ?_
                          refine e_iload C dL_sessions_326 rfl ?_
                          refine f_callSr (As := [_, _, _]) C mi_yL_at b_st_yL_at b_ml_L_22 dL_sessions_328 rfl (c_L_at (hZ.at' hI.1 hph)) (by decide) (Nat.le_of_ble_eq_true rfl) ?_
                          refine f_istore (ls1 := [_, _, _, _, _, _, _, _, _, _, _, _, _, _, _, _]) C dL_sessions_331 (by decide) rfl ?_
                          refine e_iconst (v := nI 0) C dL_sessions_333 (by decide) ?_
                          refine f_istore (ls1 := [_, _, _, _, _, _, _, _, _, _, _, _, _, _, _, _]) C dL_sessions_334 (by decide) rfl ?_
                          refine lp_se_tick hZ hI htk hph (?_) C hX 13 0 _ (by omega) (by omega) (itz_0 hpo).symm
                          refine e_iconst (v := nI 0) C dL_sessions_361 (by decide) ?_
                          refine f_istore (ls1 := [_, _, _, _, _, _, _, _, _, _, _, _, _, _, _, _]) C dL_sessions_362 (by decide) rfl ?_
                          refine e_iconst (v := nI 0) C dL_sessions_364 (by decide) ?_
                          refine f_istore (ls1 := [_, _, _, _, _, _, _, _, _, _, _, _, _, _, _, _]) C dL_sessions_365 (by decide) rfl ?_
                          refine lp_se_keys hZ hI htk hph (n := n) hn ho (?_) C hX 13 0 0 (by omega) (by omega) rfl
                          refine e_iload C dL_sessions_404 rfl ?_
                          refine e_if_eq (tgt := 450) C dL_sessions_406 (by decide) (fun h_406 => ?_) (fun h_406 => ?_)
                          · skip
                            exact absurd h_406 (by decide)
                          · skip
                            have nh_406 := xI_neD (a := 1) (b := 0) h_406
                            refine e_aload_n C dL_sessions_409 rfl ?_
                            refine e_iload C dL_sessions_410 rfl ?_
                            refine e_iload C dL_sessions_412 rfl ?_
                            refine f_callVr (As := [_, _]) (ci := 6) C mi_yX6_bestReplica mv_yX6_bestReplica b_ml_L_86 dL_sessions_414 rfl (c_X6_bestReplica hz hI.1) (by decide) v0 rfl rfl (Nat.le_of_ble_eq_true rfl) ?_
                            refine e_iload C dL_sessions_417 rfl ?_
                            rw [fBest_yes (by omega) ho hq, ← hb.1]
                            refine e_icmp_ne (tgt := 450) C dL_sessions_419 (by decide) (fun h_419 => ?_) (fun h_419 => ?_)
                            · skip
                              exact absurd rfl h_419
                            · skip
                              refine e_aload_n C dL_sessions_422 rfl ?_
                              refine e_iload C dL_sessions_423 rfl ?_
                              refine e_iload C dL_sessions_425 rfl ?_
                              refine e_bipush (v := nI 9) C dL_sessions_427 (by decide) ?_
                              refine f_callVr (As := [_, _, _]) (ci := 6) C mi_yX6_waitFor mv_yX6_waitFor b_ml_L_82 dL_sessions_429 rfl (c_X6_waitFor hz hI.1) (by decide) v0 rfl rfl (Nat.le_of_ble_eq_true rfl) ?_
                              refine f_val (y := nI (0)) (by rw [fWai_yes (k := 9) (by omega) ho hq (Or.inl rfl)]; exact waitg_9) ?_
                              refine e_if_ne (tgt := 450) C dL_sessions_432 (by decide) (fun h_432 => ?_) (fun h_432 => ?_)
                              · skip
                                exact absurd h_432 (by decide)
                              · skip
                                have nh_432 := xI_inj (a := 0) (b := 0) (by omega) (by omega) h_432
                                refine e_aload_n C dL_sessions_435 rfl ?_
                                refine e_iload C dL_sessions_436 rfl ?_
                                refine e_iload C dL_sessions_438 rfl ?_
                                refine e_iload C dL_sessions_440 rfl ?_
                                refine f_callVr (As := [_, _, _]) (ci := 6) C mi_yX6_keysAfter mv_yX6_keysAfter b_ml_L_89 dL_sessions_442 rfl (c_X6_keysAfter hz hI.1) (by decide) v0 rfl rfl (Nat.le_of_ble_eq_true rfl) ?_
                                refine e_iload C dL_sessions_445 rfl ?_
                                rw [fKeys_yes (by omega) ho hph (by omega)]
                                refine e_icmp_eq (tgt := 452) C dL_sessions_447 (by decide) (fun h_447 => ?_) (fun h_447 => ?_)
                                · skip
                                  refine e_goto (tgt := 468) C dL_sessions_452 (by decide) ?_
                                  refine f_iincn (ls1 := [_, _, _, _, _, _, _, _, _, _, _, _, _, _, _, _]) C dL_sessions_468 rfl (by decide) rfl ?_
                                  refine e_goto (tgt := 6) C dL_sessions_471 (by decide) ?_
                                  exact ih (n + 1) _ _ _ _ _ _ _ _ (by omega) (by omega) (by rw [msk, cif_pos ho, ← hset])
                                · skip
                                  exact absurd rfl h_447
set_option maxRecDepth 100000 in
set_option maxHeartbeats 4000000 in
theorem c_L_sessions {E : EV} {l : Launch} {mem : MEM} {z : ZZ} (hz : RelS mem 0 z) {c : Nat} (hZ : LZ mem z c) (hI : GoodC z c) {q : Nat} (hq : q < 12) {tk : Nat} (htk : tk < 12) : Ct E l yL_sessions (me_ws yL_sessions cL_sessions 16 (some .boolean)) 7 [rv (0, 0, 0), rv (17, 0, 0), rv (18, 0, 0), rv (19, 0, 0), rv (21, 0, 0), iv (nI q), iv (nI tk)] mem (Ret (iv (b2i True)) mem) := by
  refine Ct.of (RC := RL) (ls0 := [rv (0, 0, 0), rv (17, 0, 0), rv (18, 0, 0), rv (19, 0, 0), rv (21, 0, 0), iv (nI q), iv (nI tk), uv, uv, uv, uv, uv, uv, uv, uv, uv]) mi_yL_sessions (Nat.le_of_ble_eq_true rfl) rfl (fun X C hX => ?_)
  refine e_iconst (v := nI 0) C dL_sessions_0 (by decide) ?_
  refine f_istore (ls1 := [_, _, _, _, _, _, _, _, _, _, _, _, _, _, _, _]) C dL_sessions_1 (by decide) rfl ?_
  refine e_iconst (v := nI 0) C dL_sessions_3 (by decide) ?_
  refine f_istore (ls1 := [_, _, _, _, _, _, _, _, _, _, _, _, _, _, _, _]) C dL_sessions_4 (by decide) rfl ?_
  exact lp_se hz hZ hI hq htk C hX 5 0 _ _ _ _ _ _ _ _ (by omega) (by omega) rfl
