/-! ===== the law's looks at places and sessions ===== -/
theorem homz_8 {mem : MEM} {z : ZZ} {c : Nat} (hZ : LZ mem z c) (pl : Int32) : homz z pl 8 = homz z pl 4 := by
  have e : ∀ n, 4 ≤ n → n < 8 → cif (sz z n 0 = 1 ∧ sz z n 1 = pl) 1 0 = 0 := fun n h1 h2 => cif_neg (fun q => hZ.s_far h1 h2 q.1)
  show homz z pl 4 + cif (sz z 4 0 = 1 ∧ sz z 4 1 = pl) 1 0 + cif (sz z 5 0 = 1 ∧ sz z 5 1 = pl) 1 0 + cif (sz z 6 0 = 1 ∧ sz z 6 1 = pl) 1 0 + cif (sz z 7 0 = 1 ∧ sz z 7 1 = pl) 1 0 = homz z pl 4
  rw [e 4 (by decide) (by decide), e 5 (by decide) (by decide), e 6 (by decide) (by decide), e 7 (by decide) (by decide)]
  rfl
theorem msk_8 {mem : MEM} {z : ZZ} {c : Nat} (hZ : LZ mem z c) : msk (fun s => sz z s 0) 8 = msk (fun s => sz z s 0) 4 := by
  have e : ∀ n, 4 ≤ n → n < 8 → msk (fun s => sz z s 0) (n + 1) = msk (fun s => sz z s 0) n := fun n h1 h2 => by rw [msk, cif_neg (hZ.s_far h1 h2)]
  rw [e 7 (by decide) (by decide), e 6 (by decide) (by decide), e 5 (by decide) (by decide), e 4 (by decide) (by decide)]
theorem isP_n {z : ZZ} {p : Nat} (hp : p < 2 ^ 31) : isP z (nI p) ↔ isPn z p := by
  constructor
  · intro h
    obtain ⟨q, e, h2⟩ := isP_nat h
    have := isPn_le h2
    rw [xI_inj hp (by omega) e]; exact h2
  · exact isP_of
theorem isK_n {q : Nat} (hq : q < 12) : isK (nI q) := ⟨nI_le (Nat.zero_le _) (by omega), nI_le (by omega) (by decide)⟩
section PLS
variable {z : ZZ} {c n q : Nat}
theorem posg_no (hn : n < 5) (ho : ¬ rz z n 0 = 1) : posg z (nI n) = -1 := by
  unfold posg
  rw [cif_neg (xI_ne (by omega) (by decide) (by omega)), cif_neg (fun r => ho ((isR_nat (by omega)).mp r).2)]
theorem nisR (hn : n < 5) (ho : ¬ rz z n 0 = 1) : ¬ isR z (nI n) := fun r => ho ((isR_nat (by omega)).mp r).2
theorem nisP (hn : n < 5) (ho : ¬ rz z n 0 = 1) : ¬ isP z (nI n) := fun r => ((isP_n (by omega)).mp r).elim (by omega) (fun r => ho r.2)
theorem fRepl_no {p : Int32} (hn : n < 5) (ho : ¬ rz z n 0 = 1) : fRepl z (nI n) p = -1 := cif_neg (nisR hn ho)
theorem fVer_no {k : Int32} (hn : n < 5) (ho : ¬ rz z n 0 = 1) : fVer z (nI n) k = -1 := cif_neg (fun r => nisP hn ho r.1)
theorem fAns_no (hn : n < 5) (ho : ¬ rz z n 0 = 1) : fAns z (nI n) = -1 := by
  unfold fAns
  rw [cif_neg (xI_ne (by omega) (by decide) (by omega)), cif_neg (nisR hn ho)]
theorem fRepl_yes {p : Int32} (hn : n < 5) (ho : rz z n 0 = 1) : fRepl z (nI n) p = cif (p = nI 0) (rz z n 2) (cif (p = nI 1) (rz z n 3) (cif (p = nI 2) (nI (homz z (nI n) 8)) (-2))) := by
  unfold fRepl
  rw [cif_pos ⟨n, hn, rfl, ho⟩, nt_nI (by omega)]
theorem fAns_yes (hn : n < 5) (ho : rz z n 0 = 1) : fAns z (nI n) = rz z n 4 := by
  unfold fAns
  rw [cif_neg (xI_ne (by omega) (by decide) (by omega)), cif_pos ⟨n, hn, rfl, ho⟩, nt_nI (by omega)]
theorem fVer_yes (hp : isPn z n) (hq : q < 12) : fVer z (nI n) (nI q) = nI (lastw (keyf z) (nt (posz z n)) (nI q)) := by
  unfold fVer
  rw [cif_pos ⟨isP_of hp, isK_n hq⟩, posg_p hp]
theorem fVal_yes (hp : isPn z n) (hq : q < 12) : fVal z (nI n) (nI q) = valz z (lastw (keyf z) (nt (posz z n)) (nI q)) := by
  unfold fVal
  rw [cif_pos ⟨isP_of hp, isK_n hq⟩, posg_p hp]
theorem fMis_yes (hI : Inv z c) (hp : isPn z n) (hq : q < 12) : fMis z (nI n) (nI q) = nI (cntw (keyf z) (nt (posz z n)) (nI q) c) := by
  have hc := hI.1
  unfold fMis
  rw [cif_pos ⟨isP_of hp, isK_n hq⟩, posg_p hp, hI.2.1, nt_nI (by omega)]
theorem cntw_none {f : Nat → Int32} {p : Nat} {key : Int32} : cntw f p key p = 0 := cntw_0 f p key p (Nat.le_refl p)
end PLS
set_option maxRecDepth 100000 in
set_option maxHeartbeats 4000000 in
theorem lp_pl_homes {E : EV} {l : Launch} {X : CX} {mem : MEM} {z : ZZ} {c : Nat} (hZ : LZ mem z c) (hI : GoodC z c) {n : Nat} (hn : n < 5) {x0 x1 x2 x4 x5 x6 x7 x8 x10 x12 x13 x14 : VV} (ka : G E X 16 126 [x0, x1, x2, rv (19, 0, 0), x4, x5, x6, x7, x8, iv (nI n), x10, iv (nI (homz z (nI n) 4)), x12, x13, x14, iv (nI 4)] [] mem) (C : CK E X RL cL_places 16 (some .boolean) 5) (hX : EX E X l (Ret (iv (b2i True)) mem)) : ∀ (lpn : Nat) (k w : Nat), 4 - k < lpn → (k ≤ 4) → (w = homz z (nI n) k) → G E X 16 95 [x0, x1, x2, rv (19, 0, 0), x4, x5, x6, x7, x8, iv (nI n), x10, iv (nI w), x12, x13, x14, iv (nI k)] [] mem := by
  intro lpn
  induction lpn with
  | zero => intro k w hlpn; exact absurd hlpn (Nat.not_lt_zero _)
  | succ lpn ih =>
    intro k w hlpn hk hw
    have hwl := homz_le z (nI n) k
    refine e_iload C dL_places_95 rfl ?_
    refine e_iconst (v := nI 4) C dL_places_97 (by decide) ?_
    refine e_icmp_ge (tgt := 126) C dL_places_98 (by decide) (fun h_98 => ?_) (fun h_98 => ?_)
    · skip
      have nh_98 := xI_leD (by omega) (by omega) h_98
      obtain rfl : k = 4 := by omega
      rw [hw]
      exact ka
    · skip
      have nh_98 := xI_nleD (by omega) (by omega) h_98
      refine e_iload C dL_places_101 rfl ?_
      refine e_aload_n C dL_places_103 rfl ?_
      refine e_iload C dL_places_104 rfl ?_
      refine f_iald C rfl v19 (by omega) (by decide) dL_places_106 ?_
      refine e_iload C dL_places_107 rfl ?_
      refine e_icmp_ne (tgt := 116) C dL_places_109 (by decide) (fun h_109 => ?_) (fun h_109 => ?_)
      · skip
        refine e_iconst (v := nI 0) C dL_places_116 (by decide) ?_
        refine f_iaddn C dL_places_117 ?_
        refine f_istore (ls1 := [_, _, _, _, _, _, _, _, _, _, _, _, _, _, _, _]) C dL_places_118 (by decide) rfl ?_
        refine f_iincn (ls1 := [_, _, _, _, _, _, _, _, _, _, _, _, _, _, _, _]) C dL_places_120 rfl (by decide) rfl ?_
        refine e_goto (tgt := 95) C dL_places_123 (by decide) ?_
        exact ih (k + 1) (w + 0) (by omega) (by omega) (by rw [homz, cif_neg (fun r => h_109 (by rw [hZ.s_home (by omega) r.1]; exact r.2)), hw])
      · skip
        have hoc : sz z k 0 = 1 ∧ sz z k 1 = nI n := by
          have h2 : sz z k 0 = 1 := (hZ.s_ge hI.1 (by omega)).mp (by rw [h_109]; exact xI_ge0 n (by omega))
          exact ⟨h2, by rw [← hZ.s_home (by omega) h2]; exact h_109⟩
        refine e_iconst (v := nI 1) C dL_places_112 (by decide) ?_
        refine e_goto (tgt := 117) C dL_places_113 (by decide) ?_
        refine f_iaddn C dL_places_117 ?_
        refine f_istore (ls1 := [_, _, _, _, _, _, _, _, _, _, _, _, _, _, _, _]) C dL_places_118 (by decide) rfl ?_
        refine f_iincn (ls1 := [_, _, _, _, _, _, _, _, _, _, _, _, _, _, _, _]) C dL_places_120 rfl (by decide) rfl ?_
        refine e_goto (tgt := 95) C dL_places_123 (by decide) ?_
        exact ih (k + 1) (w + 1) (by omega) (by omega) (by rw [homz, cif_pos hoc, hw])
set_option maxRecDepth 100000 in
set_option maxHeartbeats 4000000 in
theorem lp_pl_miss {E : EV} {l : Launch} {X : CX} {mem : MEM} {z : ZZ} {c : Nat} (hZ : LZ mem z c) (hI : GoodC z c) {q : Nat} (hq : q < 12) {p : Nat} {x0 x2 x3 x6 x7 x8 x9 x10 x11 x13 x14 : VV} (ka : G E X 16 169 [x0, rv (17, 0, 0), x2, x3, rv (21, 0, 0), iv (nI q), x6, x7, x8, x9, x10, x11, iv (nI (cntw (keyf z) p (nI q) c)), x13, x14, iv (nI c)] [] mem) (C : CK E X RL cL_places 16 (some .boolean) 5) (hX : EX E X l (Ret (iv (b2i True)) mem)) : ∀ (lpn : Nat) (j w : Nat), c - j < lpn → (p ≤ j) → (j ≤ c) → (w = cntw (keyf z) p (nI q) j) → G E X 16 132 [x0, rv (17, 0, 0), x2, x3, rv (21, 0, 0), iv (nI q), x6, x7, x8, x9, x10, x11, iv (nI w), x13, x14, iv (nI j)] [] mem := by
  intro lpn
  induction lpn with
  | zero => intro j w hlpn; exact absurd hlpn (Nat.not_lt_zero _)
  | succ lpn ih =>
    intro j w hlpn hpj hj hw
    have hc60 := hZ.c60
    have hL := hZ.log
    have hwl := cntw_le (keyf z) p (nI q) j
    refine e_iload C dL_places_132 rfl ?_
    refine e_aload C dL_places_134 rfl ?_
    refine e_iconst (v := nI 0) C dL_places_136 (by decide) ?_
    refine f_iald C rfl v21 (by omega) (by decide) dL_places_137 ?_
    refine f_val (y := nI (c)) hZ.t0 ?_
    refine e_icmp_ge (tgt := 169) C dL_places_138 (by decide) (fun h_138 => ?_) (fun h_138 => ?_)
    · skip
      have nh_138 := xI_leD (by omega) (by omega) h_138
      obtain rfl : j = c := by omega
      rw [hw]
      exact ka
    · skip
      have nh_138 := xI_nleD (by omega) (by omega) h_138
      refine e_iload C dL_places_141 rfl ?_
      refine e_aload_n C dL_places_143 rfl ?_
      refine e_iload C dL_places_144 rfl ?_
      obtain ⟨k, v, u, hk, hv, hu, e1, e2, e3, e4⟩ := hL.2 (j) (by omega)
      refine f_iald C rfl v17 (by omega) (by decide) dL_places_146 ?_
      refine f_val (y := nI (k + 12 * v + 12000 * u)) e1 ?_
      refine e_bipush (v := nI 12) C dL_places_147 (by decide) ?_
      refine f_iremn C (by omega) (by omega) (by omega) dL_places_149 ?_
      refine e_iload C dL_places_150 rfl ?_
      refine e_icmp_ne (tgt := 159) C dL_places_152 (by decide) (fun h_152 => ?_) (fun h_152 => ?_)
      · skip
        have nh_152 := xI_neD h_152
        refine e_iconst (v := nI 0) C dL_places_159 (by decide) ?_
        refine f_iaddn C dL_places_160 ?_
        refine f_istore (ls1 := [_, _, _, _, _, _, _, _, _, _, _, _, _, _, _, _]) C dL_places_161 (by decide) rfl ?_
        refine f_iincn (ls1 := [_, _, _, _, _, _, _, _, _, _, _, _, _, _, _, _]) C dL_places_163 rfl (by decide) rfl ?_
        refine e_goto (tgt := 132) C dL_places_166 (by decide) ?_
        exact ih (j + 1) (w + 0) (by omega) (by omega) (by omega) (by rw [cntw, if_neg (fun r => absurd r.2 (by show ¬ wz z j 0 = nI q; rw [e2]; exact xI_ne (by omega) (by omega) (by omega))), hw])
      · skip
        have nh_152 := xI_inj (by omega) (by omega) h_152
        refine e_iconst (v := nI 1) C dL_places_155 (by decide) ?_
        refine e_goto (tgt := 160) C dL_places_156 (by decide) ?_
        refine f_iaddn C dL_places_160 ?_
        refine f_istore (ls1 := [_, _, _, _, _, _, _, _, _, _, _, _, _, _, _, _]) C dL_places_161 (by decide) rfl ?_
        refine f_iincn (ls1 := [_, _, _, _, _, _, _, _, _, _, _, _, _, _, _, _]) C dL_places_163 rfl (by decide) rfl ?_
        refine e_goto (tgt := 132) C dL_places_166 (by decide) ?_
        exact ih (j + 1) (w + 1) (by omega) (by omega) (by omega) (by rw [cntw, if_pos ⟨hpj, by show wz z j 0 = nI q; rw [e2]; congr 1; omega⟩, hw])
set_option maxRecDepth 100000 in
set_option maxHeartbeats 4000000 in
theorem lp_pl_tick {E : EV} {l : Launch} {X : CX} {mem : MEM} {z : ZZ} {c : Nat} (hZ : LZ mem z c) (hI : GoodC z c) {n : Nat} (hn : n < 5) (hor : rz z n 0 = 1) {x0 x1 x3 x5 x6 x7 x8 x10 x11 x12 x15 : VV} (ka : ∀ k p, k ≤ 70 → (k = 70 → cupw z n = -6) → (¬ k = 70 → cupw z n = nI k) → G E X 16 203 [x0, x1, rv (18, 0, 0), x3, rv (21, 0, 0), x5, x6, x7, x8, iv (nI n), x10, x11, x12, iv (nI p), iv (nI k), x15] [] mem) (C : CK E X RL cL_places 16 (some .boolean) 5) (hX : EX E X l (Ret (iv (b2i True)) mem)) : ∀ (lpn : Nat) (k p : Nat), 71 - k < lpn → (k ≤ 70) → (p = itz z c n (nt (posz z n)) k) → (∀ j, j < k → ¬ c ≤ itz z c n (nt (posz z n)) j) → G E X 16 169 [x0, x1, rv (18, 0, 0), x3, rv (21, 0, 0), x5, x6, x7, x8, iv (nI n), x10, x11, x12, iv (nI p), iv (nI k), x15] [] mem := by
  intro lpn
  induction lpn with
  | zero => intro k p hlpn; exact absurd hlpn (Nat.not_lt_zero _)
  | succ lpn ih =>
    intro k p hlpn hk hv hm
    have hc60 := hZ.c60
    have hpo := posn_le hI.1 (Or.inr ⟨hn, hor⟩)
    have hpc : p ≤ c := by rw [hv]; exact itz_le hpo
    refine e_iload C dL_places_169 rfl ?_
    refine e_aload C dL_places_171 rfl ?_
    refine e_iconst (v := nI 0) C dL_places_173 (by decide) ?_
    refine f_iald C rfl v21 (by omega) (by decide) dL_places_174 ?_
    refine f_val (y := nI (c)) hZ.t0 ?_
    refine e_icmp_ge (tgt := 203) C dL_places_175 (by decide) (fun h_175 => ?_) (fun h_175 => ?_)
    · skip
      have nh_175 := xI_leD (by omega) (by omega) h_175
      exact ka k p hk (fun e => cu_no hI.1 hc60 hn hor (k := k) (by omega) hm) (fun e => cu_yes hI.1 hn hor hk (by rw [← hv]; omega) hm)
    · skip
      have nh_175 := xI_nleD (by omega) (by omega) h_175
      refine e_iload C dL_places_178 rfl ?_
      refine e_bipush (v := nI 70) C dL_places_180 (by decide) ?_
      refine e_icmp_ge (tgt := 203) C dL_places_182 (by decide) (fun h_182 => ?_) (fun h_182 => ?_)
      · skip
        have nh_182 := xI_leD (by omega) (by omega) h_182
        exact ka k p hk (fun e => cu_no hI.1 hc60 hn hor (k := k) (by omega) hm) (fun e => cu_yes hI.1 hn hor hk (by rw [← hv]; omega) hm)
      · skip
        have nh_182 := xI_nleD (by omega) (by omega) h_182
        refine e_aload_n C dL_places_185 rfl ?_
        refine e_aload C dL_places_186 rfl ?_
        refine e_iload C dL_places_188 rfl ?_
        refine e_iload C dL_places_190 rfl ?_
        refine f_callSr (As := [_, _, _, _]) C mi_yL_step b_st_yL_step b_ml_L_30 dL_places_192 rfl (c_L_step (hZ.step hI.1 (Or.inr ⟨hn, hor⟩)) hpc) (by decide) (Nat.le_of_ble_eq_true rfl) ?_
        refine f_istore (ls1 := [_, _, _, _, _, _, _, _, _, _, _, _, _, _, _, _]) C dL_places_195 (by decide) rfl ?_
        refine f_iincn (ls1 := [_, _, _, _, _, _, _, _, _, _, _, _, _, _, _, _]) C dL_places_197 rfl (by decide) rfl ?_
        refine e_goto (tgt := 169) C dL_places_200 (by decide) ?_
        exact ih (k + 1) (stpz z c n p) (by omega) (by omega) (by rw [hv]; exact itz_succ) (fun j hj => by by_cases e : j = k; rw [e, ← hv]; omega; exact hm j (by omega))
set_option maxRecDepth 100000 in
set_option maxHeartbeats 4000000 in
theorem lp_pl {E : EV} {l : Launch} {X : CX} {mem : MEM} {z : ZZ} (hz : RelS mem 0 z) {c : Nat} (hZ : LZ mem z c) (hI : GoodC z c) {q : Nat} (hq : q < 12) (C : CK E X RL cL_places 16 (some .boolean) 5) (hX : EX E X l (Ret (iv (b2i True)) mem)) : ∀ (lpn : Nat) (n : Nat) (sx : Int32) (mo nv : Nat) (x10 x11 x12 x13 x14 x15 : VV), 5 - n < lpn → (n ≤ 5) → (mo ≤ 70) → (nv ≤ 1) → (sx = msk (fun r => rz z r 0) n) → ((nv = 1 ∧ cup z n = -6) ∨ (nv = 0 ∧ cup z n = nI mo)) → G E X 16 12 [rv (0, 0, 0), rv (17, 0, 0), rv (18, 0, 0), rv (19, 0, 0), rv (21, 0, 0), iv (nI q), iv sx, iv (nI mo), iv (nI nv), iv (nI n), x10, x11, x12, x13, x14, x15] [] mem := by
  intro lpn
  induction lpn with
  | zero => intro n sx mo nv x10 x11 x12 x13 x14 x15 hlpn; exact absurd hlpn (Nat.not_lt_zero _)
  | succ lpn ih =>
    intro n sx mo nv x10 x11 x12 x13 x14 x15 hlpn hn5 hmo hnv hset hcup
    have hc60 := hZ.c60
    refine e_iload C dL_places_12 rfl ?_
    refine e_iconst (v := nI 5) C dL_places_14 (by decide) ?_
    refine e_icmp_ge (tgt := 384) C dL_places_15 (by decide) (fun h_15 => ?_) (fun h_15 => ?_)
    · skip
      have nh_15 := xI_leD (by omega) (by omega) h_15
      obtain rfl : n = 5 := by omega
      have hp9 : isPn z 9 := Or.inl rfl
      have w1 : posg z (nI 9) = mem (21, 0, 0) 0 := by rw [posg_p hp9, hZ.t0, ← hI.1.2.1]; exact if_pos rfl
      have w2 : fMis z (nI 9) (nI q) = nI 0 := by rw [fMis_yes hI.1 hp9 hq, posz_9 hI.1, cntw_none]
      have w3 : fVer z (nI 9) (nI q) = nI (lastw (keyf z) c (nI q)) := by rw [fVer_yes hp9 hq, posz_9 hI.1]
      have w4 : fAns z (nI 9) = mem (21, 0, 0) 1 := by rw [hZ.t1]; exact cif_pos rfl
      have w5 : fLat z (nI 0) = mem (21, 0, 0) 2 := by rw [hZ.t2]; exact cif_pos ⟨by decide, by decide⟩
      have w6 : fLat z (nI 1) = mem (21, 0, 0) 3 := by rw [hZ.t3]; exact cif_pos ⟨by decide, by decide⟩
      have w7 : fLat z (nI 2) = mem (21, 0, 0) 4 := by rw [hZ.t4]; exact cif_pos ⟨by decide, by decide⟩
      have w8 : z 0 = mem (21, 0, 0) 0 := by rw [hZ.t0, hZ.z0]
      have hlc := lastw_le (keyf z) (nI q) c
      refine e_aload_n C dL_places_384 rfl ?_
      refine f_callVr (As := []) (ci := 6) C mi_yX6_replicas mv_yX6_replicas b_ml_L_62 dL_places_385 rfl (c_X6_replicas hz) (by decide) v0 rfl rfl (Nat.le_of_ble_eq_true rfl) ?_
      refine e_iload C dL_places_388 rfl ?_
      rw [← hset]
      refine e_icmp_ne (tgt := 521) C dL_places_390 (by decide) (fun h_390 => ?_) (fun h_390 => ?_)
      · skip
        exact absurd rfl h_390
      · skip
        refine e_aload_n C dL_places_393 rfl ?_
        refine f_callVr (As := []) (ci := 6) C mi_yX6_length mv_yX6_length b_ml_L_66 dL_places_394 rfl (c_X6_length hz) (by decide) v0 rfl rfl (Nat.le_of_ble_eq_true rfl) ?_
        refine e_aload C dL_places_397 rfl ?_
        refine e_iconst (v := nI 0) C dL_places_399 (by decide) ?_
        refine f_iald C rfl v21 (by omega) (by decide) dL_places_400 ?_
        rw [w8]
        refine e_icmp_ne (tgt := 521) C dL_places_401 (by decide) (fun h_401 => ?_) (fun h_401 => ?_)
        · skip
          exact absurd rfl h_401
        · skip
          refine e_aload_n C dL_places_404 rfl ?_
          refine e_bipush (v := nI 9) C dL_places_405 (by decide) ?_
          refine f_callVr (As := [_]) (ci := 6) C mi_yX6_position mv_yX6_position b_ml_L_45 dL_places_407 rfl (c_X6_position hz) (by decide) v0 rfl rfl (Nat.le_of_ble_eq_true rfl) ?_
          refine e_aload C dL_places_410 rfl ?_
          refine e_iconst (v := nI 0) C dL_places_412 (by decide) ?_
          refine f_iald C rfl v21 (by omega) (by decide) dL_places_413 ?_
          rw [w1]
          refine e_icmp_ne (tgt := 521) C dL_places_414 (by decide) (fun h_414 => ?_) (fun h_414 => ?_)
          · skip
            exact absurd rfl h_414
          · skip
            refine e_aload_n C dL_places_417 rfl ?_
            refine e_bipush (v := nI 9) C dL_places_418 (by decide) ?_
            refine e_iload C dL_places_420 rfl ?_
            refine f_callVr (As := [_, _]) (ci := 6) C mi_yX6_missing mv_yX6_missing b_ml_L_59 dL_places_422 rfl (c_X6_missing hz hI.1) (by decide) v0 rfl rfl (Nat.le_of_ble_eq_true rfl) ?_
            refine f_val (y := nI (0)) w2 ?_
            refine e_if_ne (tgt := 521) C dL_places_425 (by decide) (fun h_425 => ?_) (fun h_425 => ?_)
            · skip
              exact absurd h_425 (by decide)
            · skip
              have nh_425 := xI_inj (a := 0) (b := 0) (by omega) (by omega) h_425
              refine e_aload_n C dL_places_428 rfl ?_
              refine e_bipush (v := nI 9) C dL_places_429 (by decide) ?_
              refine e_iload C dL_places_431 rfl ?_
              refine f_callVr (As := [_, _]) (ci := 6) C mi_yX6_version mv_yX6_version b_ml_L_52 dL_places_433 rfl (c_X6_version hz hI.1) (by decide) v0 rfl rfl (Nat.le_of_ble_eq_true rfl) ?_
              refine e_aload_n C dL_places_436 rfl ?_
              refine e_aload C dL_places_437 rfl ?_
              refine e_iconst (v := nI 0) C dL_places_439 (by decide) ?_
              refine f_iald C rfl v21 (by omega) (by decide) dL_places_440 ?_
              refine f_val (y := nI (c)) hZ.t0 ?_
              refine e_iload C dL_places_441 rfl ?_
              refine f_callSr (As := [_, _, _]) C mi_yL_version b_st_yL_version b_ml_L_18 dL_places_443 rfl (c_L_version hZ.log (Nat.le_refl _) hq) (by decide) (Nat.le_of_ble_eq_true rfl) ?_
              rw [w3]
              refine e_icmp_ne (tgt := 521) C dL_places_446 (by decide) (fun h_446 => ?_) (fun h_446 => ?_)
              · skip
                exact absurd rfl h_446
              · skip
                refine e_aload_n C dL_places_449 rfl ?_
                refine e_bipush (v := nI 9) C dL_places_450 (by decide) ?_
                refine f_callVr (As := [_]) (ci := 6) C mi_yX6_answers mv_yX6_answers b_ml_L_54 dL_places_452 rfl (c_X6_answers hz) (by decide) v0 rfl rfl (Nat.le_of_ble_eq_true rfl) ?_
                refine e_aload C dL_places_455 rfl ?_
                refine e_iconst (v := nI 1) C dL_places_457 (by decide) ?_
                refine f_iald C rfl v21 (by omega) (by decide) dL_places_458 ?_
                rw [w4]
                refine e_icmp_ne (tgt := 521) C dL_places_459 (by decide) (fun h_459 => ?_) (fun h_459 => ?_)
                · skip
                  exact absurd rfl h_459
                · skip
                  refine e_aload_n C dL_places_462 rfl ?_
                  refine f_callVr (As := []) (ci := 6) C mi_yX6_catchUp mv_yX6_catchUp b_ml_L_69 dL_places_463 rfl (c_X6_catchUp hz hI.1) (by decide) v0 rfl rfl (Nat.le_of_ble_eq_true rfl) ?_
                  refine e_iload C dL_places_466 rfl ?_
                  refine e_cuti1 (tgt := 478) (P := fun x => x = cup z 5) ?_ ?_
                  · intro x_468 hx_468
                    rw [hx_468]
                    refine e_icmp_ne (tgt := 521) C dL_places_478 (by decide) (fun h_478 => ?_) (fun h_478 => ?_)
                    · skip
                      exact absurd rfl h_478
                    · skip
                      refine e_aload_n C dL_places_481 rfl ?_
                      refine e_iconst (v := nI 0) C dL_places_482 (by decide) ?_
                      refine f_callVr (As := [_]) (ci := 6) C mi_yX6_latest mv_yX6_latest b_ml_L_72 dL_places_483 rfl (c_X6_latest hz hI.2.2.2) (by decide) v0 rfl rfl (Nat.le_of_ble_eq_true rfl) ?_
                      refine e_aload C dL_places_486 rfl ?_
                      refine e_iconst (v := nI 2) C dL_places_488 (by decide) ?_
                      refine f_iald C rfl v21 (by omega) (by decide) dL_places_489 ?_
                      rw [w5]
                      refine e_icmp_ne (tgt := 521) C dL_places_490 (by decide) (fun h_490 => ?_) (fun h_490 => ?_)
                      · skip
                        exact absurd rfl h_490
                      · skip
                        refine e_aload_n C dL_places_493 rfl ?_
                        refine e_iconst (v := nI 1) C dL_places_494 (by decide) ?_
                        refine f_callVr (As := [_]) (ci := 6) C mi_yX6_latest mv_yX6_latest b_ml_L_72 dL_places_495 rfl (c_X6_latest hz hI.2.2.2) (by decide) v0 rfl rfl (Nat.le_of_ble_eq_true rfl) ?_
                        refine e_aload C dL_places_498 rfl ?_
                        refine e_iconst (v := nI 3) C dL_places_500 (by decide) ?_
                        refine f_iald C rfl v21 (by omega) (by decide) dL_places_501 ?_
                        rw [w6]
                        refine e_icmp_ne (tgt := 521) C dL_places_502 (by decide) (fun h_502 => ?_) (fun h_502 => ?_)
                        · skip
                          exact absurd rfl h_502
                        · skip
                          refine e_aload_n C dL_places_505 rfl ?_
                          refine e_iconst (v := nI 2) C dL_places_506 (by decide) ?_
                          refine f_callVr (As := [_]) (ci := 6) C mi_yX6_latest mv_yX6_latest b_ml_L_72 dL_places_507 rfl (c_X6_latest hz hI.2.2.2) (by decide) v0 rfl rfl (Nat.le_of_ble_eq_true rfl) ?_
                          refine e_aload C dL_places_510 rfl ?_
                          refine e_iconst (v := nI 4) C dL_places_512 (by decide) ?_
                          refine f_iald C rfl v21 (by omega) (by decide) dL_places_513 ?_
                          rw [w7]
                          refine e_icmp_ne (tgt := 521) C dL_places_514 (by decide) (fun h_514 => ?_) (fun h_514 => ?_)
                          · skip
                            exact absurd rfl h_514
                          · skip
                            refine e_iconst (v := nI 1) C dL_places_517 (by decide) ?_
                            refine e_goto (tgt := 522) C dL_places_518 (by decide) ?_
                            exact f_zt C hX dL_places_522 trivial rfl
                  · intro kc_468
                    refine e_if_eq (tgt := 476) C dL_places_468 (by decide) (fun h_468 => ?_) (fun h_468 => ?_)
                    · skip
                      have nh_468 := xI_inj (a := nv) (b := 0) (by omega) (by omega) h_468
                      refine e_iload C dL_places_476 rfl ?_
                      exact kc_468 _ (by rcases hcup with ⟨a1, a2⟩ | ⟨a1, a2⟩; omega; exact a2.symm)
                    · skip
                      have nh_468 := xI_neD (a := nv) (b := 0) h_468
                      refine e_bipush (v := -6) C dL_places_471 (by decide) ?_
                      refine e_goto (tgt := 478) C dL_places_473 (by decide) ?_
                      exact kc_468 _ (by rcases hcup with ⟨a1, a2⟩ | ⟨a1, a2⟩; exact a2.symm; omega)
    · skip
      have nh_15 := xI_nleD (by omega) (by omega) h_15
      refine e_iconst (v := -1) C dL_places_18 (by decide) ?_
      refine f_istore (ls1 := [_, _, _, _, _, _, _, _, _, _, _, _, _, _, _, _]) C dL_places_19 (by decide) rfl ?_
      refine e_aload_n C dL_places_21 rfl ?_
      refine e_iload C dL_places_22 rfl ?_
      refine f_iald C rfl v18 (by omega) (by decide) dL_places_24 ?_
      refine e_if_ge (tgt := 77) C dL_places_25 (by decide) (fun h_25 => ?_) (fun h_25 => ?_)
      · skip
        have hor : rz z n 0 = 1 := (hZ.r_ge hI.1 (by omega)).mp h_25
        have hn : n < 5 := by omega
        have hpn : isPn z n := Or.inr ⟨hn, hor⟩
        have hpo := posn_le hI.1 hpn
        have epz : mem (18, 0, 0) n = nI (nt (posz z n)) := by rw [← posz_n hI.1 hpn, posz_r hn]; exact hZ.r_pos hn hor
        refine e_iconst (v := nI 0) C dL_places_77 (by decide) ?_
        refine f_istore (ls1 := [_, _, _, _, _, _, _, _, _, _, _, _, _, _, _, _]) C dL_places_78 (by decide) rfl ?_
        refine e_iconst (v := nI 0) C dL_places_80 (by decide) ?_
        refine f_istore (ls1 := [_, _, _, _, _, _, _, _, _, _, _, _, _, _, _, _]) C dL_places_81 (by decide) rfl ?_
        refine e_aload_n C dL_places_83 rfl ?_
        refine e_iload C dL_places_84 rfl ?_
        refine f_iald C rfl v18 (by omega) (by decide) dL_places_86 ?_
        refine f_val (y := nI ((nt (posz z n)))) epz ?_
        refine f_istore (ls1 := [_, _, _, _, _, _, _, _, _, _, _, _, _, _, _, _]) C dL_places_87 (by decide) rfl ?_
        refine e_iconst (v := nI 0) C dL_places_89 (by decide) ?_
        refine f_istore (ls1 := [_, _, _, _, _, _, _, _, _, _, _, _, _, _, _, _]) C dL_places_90 (by decide) rfl ?_
        refine e_iconst (v := nI 0) C dL_places_92 (by decide) ?_
        refine f_istore (ls1 := [_, _, _, _, _, _, _, _, _, _, _, _, _, _, _, _]) C dL_places_93 (by decide) rfl ?_
        refine lp_pl_homes hZ hI (n := n) hn (?_) C hX 5 0 0 (by omega) (by omega) rfl
        refine e_aload_n C dL_places_126 rfl ?_
        refine e_iload C dL_places_127 rfl ?_
        refine f_iald C rfl v18 (by omega) (by decide) dL_places_129 ?_
        refine f_val (y := nI ((nt (posz z n)))) epz ?_
        refine f_istore (ls1 := [_, _, _, _, _, _, _, _, _, _, _, _, _, _, _, _]) C dL_places_130 (by decide) rfl ?_
        refine lp_pl_miss hZ hI hq (p := (nt (posz z n))) (?_) C hX (c + 1) _ 0 (by omega) (Nat.le_refl _) hpo cntw_none.symm
        refine lp_pl_tick hZ hI hn hor (fun tk p1 htk hk70 hkn => ?_) C hX 72 0 _ (by omega) (by omega) (itz_0 hpo).symm (fun j hj => absurd hj (Nat.not_lt_zero _))
        refine e_iload C dL_places_203 rfl ?_
        refine e_iload C dL_places_205 rfl ?_
        refine e_cutn2 (tgt := 217) (P := fun x => x = max mo tk) ?_ ?_
        · intro x_207 hx_207
          refine f_istore (ls1 := [_, _, _, _, _, _, _, _, _, _, _, _, _, _, _, _]) C dL_places_217 (by decide) rfl ?_
          refine e_iload C dL_places_219 rfl ?_
          refine e_cutn1 (tgt := 236) (P := fun x => (x = 1 ∧ (nv = 1 ∨ tk = 70)) ∨ (x = 0 ∧ nv = 0 ∧ ¬ tk = 70)) ?_ ?_
          · intro x_221 hx_221
            refine f_istore (ls1 := [_, _, _, _, _, _, _, _, _, _, _, _, _, _, _, _]) C dL_places_236 (by decide) rfl ?_
            refine e_iload C dL_places_238 rfl ?_
            refine e_iconst (v := nI 1) C dL_places_240 (by decide) ?_
            refine e_iload C dL_places_241 rfl ?_
            refine e_ishl C dL_places_243 ?_
            refine e_ior C dL_places_244 ?_
            refine f_istore (ls1 := [_, _, _, _, _, _, _, _, _, _, _, _, _, _, _, _]) C dL_places_245 (by decide) rfl ?_
            refine e_aload_n C dL_places_247 rfl ?_
            refine e_aload_n C dL_places_248 rfl ?_
            refine e_iload C dL_places_249 rfl ?_
            refine f_iald C rfl v18 (by omega) (by decide) dL_places_251 ?_
            refine f_val (y := nI ((nt (posz z n)))) epz ?_
            refine e_iload C dL_places_252 rfl ?_
            refine f_callSr (As := [_, _, _]) C mi_yL_version b_st_yL_version b_ml_L_18 dL_places_254 rfl (c_L_version hZ.log hpo hq) (by decide) (Nat.le_of_ble_eq_true rfl) ?_
            refine f_istore (ls1 := [_, _, _, _, _, _, _, _, _, _, _, _, _, _, _, _]) C dL_places_257 (by decide) rfl ?_
            have hlw := lastw_le (keyf z) (nI q) (nt (posz z n))
            have q1 : posg z (nI n) = mem (18, 0, 0) n := by rw [posg_p hpn, posz_r hn]; exact (hZ.r_pos hn hor).symm
            have q2 : fRepl z (nI n) (nI 0) = mem (18, 0, 0) (5 + n) := by rw [fRepl_yes hn hor, cif_pos rfl]; exact (hZ.r_rate hn hor).symm
            have q3 : fRepl z (nI n) (nI 1) = mem (18, 0, 0) (10 + n) := by rw [fRepl_yes hn hor, cif_neg (by decide), cif_pos rfl]; exact (hZ.r_stop hn hor).symm
            have q4 : fRepl z (nI n) (nI 2) = nI (homz z (nI n) 4) := by rw [fRepl_yes hn hor, cif_neg (by decide), cif_neg (by decide), cif_pos rfl, homz_8 hZ]
            have q5 : fAns z (nI n) = mem (18, 0, 0) (15 + n) := by rw [fAns_yes hn hor]; exact (hZ.r_ans hn hor).symm
            have q6 := fVer_yes (z := z) hpn hq
            have q7 := fVal_yes (z := z) hpn hq
            have q8 := fMis_yes hI.1 hpn hq
            refine e_aload_n C dL_places_259 rfl ?_
            refine e_iload C dL_places_260 rfl ?_
            refine f_callVr (As := [_]) (ci := 6) C mi_yX6_position mv_yX6_position b_ml_L_45 dL_places_262 rfl (c_X6_position hz) (by decide) v0 rfl rfl (Nat.le_of_ble_eq_true rfl) ?_
            refine e_aload_n C dL_places_265 rfl ?_
            refine e_iload C dL_places_266 rfl ?_
            refine f_iald C rfl v18 (by omega) (by decide) dL_places_268 ?_
            rw [q1]
            refine e_icmp_ne (tgt := 376) C dL_places_269 (by decide) (fun h_269 => ?_) (fun h_269 => ?_)
            · skip
              exact absurd rfl h_269
            · skip
              refine e_aload_n C dL_places_272 rfl ?_
              refine e_iload C dL_places_273 rfl ?_
              refine e_iconst (v := nI 0) C dL_places_275 (by decide) ?_
              refine f_callVr (As := [_, _]) (ci := 6) C mi_yX6_replica mv_yX6_replica b_ml_L_49 dL_places_276 rfl (c_X6_replica hz) (by decide) v0 rfl rfl (Nat.le_of_ble_eq_true rfl) ?_
              refine e_aload_n C dL_places_279 rfl ?_
              refine e_iconst (v := nI 5) C dL_places_280 (by decide) ?_
              refine e_iload C dL_places_281 rfl ?_
              refine f_iaddn C dL_places_283 ?_
              refine f_iald C rfl v18 (by omega) (by decide) dL_places_284 ?_
              rw [q2]
              refine e_icmp_ne (tgt := 376) C dL_places_285 (by decide) (fun h_285 => ?_) (fun h_285 => ?_)
              · skip
                exact absurd rfl h_285
              · skip
                refine e_aload_n C dL_places_288 rfl ?_
                refine e_iload C dL_places_289 rfl ?_
                refine e_iconst (v := nI 1) C dL_places_291 (by decide) ?_
                refine f_callVr (As := [_, _]) (ci := 6) C mi_yX6_replica mv_yX6_replica b_ml_L_49 dL_places_292 rfl (c_X6_replica hz) (by decide) v0 rfl rfl (Nat.le_of_ble_eq_true rfl) ?_
                refine e_aload_n C dL_places_295 rfl ?_
                refine e_bipush (v := nI 10) C dL_places_296 (by decide) ?_
                refine e_iload C dL_places_298 rfl ?_
                refine f_iaddn C dL_places_300 ?_
                refine f_iald C rfl v18 (by omega) (by decide) dL_places_301 ?_
                rw [q3]
                refine e_icmp_ne (tgt := 376) C dL_places_302 (by decide) (fun h_302 => ?_) (fun h_302 => ?_)
                · skip
                  exact absurd rfl h_302
                · skip
                  refine e_aload_n C dL_places_305 rfl ?_
                  refine e_iload C dL_places_306 rfl ?_
                  refine e_iconst (v := nI 2) C dL_places_308 (by decide) ?_
                  refine f_callVr (As := [_, _]) (ci := 6) C mi_yX6_replica mv_yX6_replica b_ml_L_49 dL_places_309 rfl (c_X6_replica hz) (by decide) v0 rfl rfl (Nat.le_of_ble_eq_true rfl) ?_
                  refine e_iload C dL_places_312 rfl ?_
                  rw [q4]
                  refine e_icmp_ne (tgt := 376) C dL_places_314 (by decide) (fun h_314 => ?_) (fun h_314 => ?_)
                  · skip
                    exact absurd rfl h_314
                  · skip
                    refine e_aload_n C dL_places_317 rfl ?_
                    refine e_iload C dL_places_318 rfl ?_
                    refine f_callVr (As := [_]) (ci := 6) C mi_yX6_answers mv_yX6_answers b_ml_L_54 dL_places_320 rfl (c_X6_answers hz) (by decide) v0 rfl rfl (Nat.le_of_ble_eq_true rfl) ?_
                    refine e_aload_n C dL_places_323 rfl ?_
                    refine e_bipush (v := nI 15) C dL_places_324 (by decide) ?_
                    refine e_iload C dL_places_326 rfl ?_
                    refine f_iaddn C dL_places_328 ?_
                    refine f_iald C rfl v18 (by omega) (by decide) dL_places_329 ?_
                    rw [q5]
                    refine e_icmp_ne (tgt := 376) C dL_places_330 (by decide) (fun h_330 => ?_) (fun h_330 => ?_)
                    · skip
                      exact absurd rfl h_330
                    · skip
                      refine e_aload_n C dL_places_333 rfl ?_
                      refine e_iload C dL_places_334 rfl ?_
                      refine e_iload C dL_places_336 rfl ?_
                      refine f_callVr (As := [_, _]) (ci := 6) C mi_yX6_version mv_yX6_version b_ml_L_52 dL_places_338 rfl (c_X6_version hz hI.1) (by decide) v0 rfl rfl (Nat.le_of_ble_eq_true rfl) ?_
                      refine e_iload C dL_places_341 rfl ?_
                      rw [q6]
                      refine e_icmp_ne (tgt := 376) C dL_places_343 (by decide) (fun h_343 => ?_) (fun h_343 => ?_)
                      · skip
                        exact absurd rfl h_343
                      · skip
                        refine e_aload_n C dL_places_346 rfl ?_
                        refine e_iload C dL_places_347 rfl ?_
                        refine e_iload C dL_places_349 rfl ?_
                        refine f_callVr (As := [_, _]) (ci := 6) C mi_yX6_value mv_yX6_value b_ml_L_57 dL_places_351 rfl (c_X6_value hz hI.1) (by decide) v0 rfl rfl (Nat.le_of_ble_eq_true rfl) ?_
                        refine e_aload_n C dL_places_354 rfl ?_
                        refine e_iload C dL_places_355 rfl ?_
                        refine f_callSr (As := [_, _]) C mi_yL_value b_st_yL_value b_ml_L_38 dL_places_357 rfl (c_L_value hZ.log (Nat.le_trans hlw hpo)) (by decide) (Nat.le_of_ble_eq_true rfl) ?_
                        rw [q7]
                        refine e_icmp_ne (tgt := 376) C dL_places_360 (by decide) (fun h_360 => ?_) (fun h_360 => ?_)
                        · skip
                          exact absurd rfl h_360
                        · skip
                          refine e_aload_n C dL_places_363 rfl ?_
                          refine e_iload C dL_places_364 rfl ?_
                          refine e_iload C dL_places_366 rfl ?_
                          refine f_callVr (As := [_, _]) (ci := 6) C mi_yX6_missing mv_yX6_missing b_ml_L_59 dL_places_368 rfl (c_X6_missing hz hI.1) (by decide) v0 rfl rfl (Nat.le_of_ble_eq_true rfl) ?_
                          refine e_iload C dL_places_371 rfl ?_
                          rw [q8]
                          refine e_icmp_eq (tgt := 378) C dL_places_373 (by decide) (fun h_373 => ?_) (fun h_373 => ?_)
                          · skip
                            refine f_iincn (ls1 := [_, _, _, _, _, _, _, _, _, _, _, _, _, _, _, _]) C dL_places_378 rfl (by decide) rfl ?_
                            refine e_goto (tgt := 12) C dL_places_381 (by decide) ?_
                            exact ih (n + 1) _ x_207 x_221 _ _ _ _ _ _ (by omega) (by omega) (by omega) (by omega) (by rw [msk, cif_pos hor, ← hset]) (by rw [cup, cif_pos hor]; rcases hcup with ⟨a1, a2⟩ | ⟨a1, a2⟩; exact Or.inl ⟨by omega, by rw [cif_pos a2]⟩; by_cases e7 : tk = 70; exact Or.inl ⟨by omega, by rw [a2, cif_neg (nI_neN (by omega) (by decide)), hk70 e7, cif_pos rfl]⟩; exact Or.inr ⟨by omega, by rw [a2, cif_neg (nI_neN (by omega) (by decide)), hkn e7, cif_neg (nI_neN (by omega) (by decide)), maxI_nI (by omega) (by omega), hx_207]⟩)
                          · skip
                            exact absurd rfl h_373
          · intro kc_221
            refine e_if_ne (tgt := 231) C dL_places_221 (by decide) (fun h_221 => ?_) (fun h_221 => ?_)
            · skip
              have nh_221 := xI_neD (a := nv) (b := 0) h_221
              refine e_iconst (v := nI 1) C dL_places_231 (by decide) ?_
              refine e_goto (tgt := 236) C dL_places_232 (by decide) ?_
              exact kc_221 _ (by omega)
            · skip
              have nh_221 := xI_inj (a := nv) (b := 0) (by omega) (by omega) h_221
              refine e_iload C dL_places_224 rfl ?_
              refine e_bipush (v := nI 70) C dL_places_226 (by decide) ?_
              refine e_icmp_ne (tgt := 235) C dL_places_228 (by decide) (fun h_228 => ?_) (fun h_228 => ?_)
              · skip
                have nh_228 := xI_neD h_228
                refine e_iconst (v := nI 0) C dL_places_235 (by decide) ?_
                exact kc_221 _ (by omega)
              · skip
                have nh_228 := xI_inj (by omega) (by omega) h_228
                refine e_iconst (v := nI 1) C dL_places_231 (by decide) ?_
                refine e_goto (tgt := 236) C dL_places_232 (by decide) ?_
                exact kc_221 _ (by omega)
        · intro kc_207
          refine e_icmp_le (tgt := 215) C dL_places_207 (by decide) (fun h_207 => ?_) (fun h_207 => ?_)
          · skip
            have nh_207 := xI_leD (by omega) (by omega) h_207
            refine e_iload C dL_places_215 rfl ?_
            exact kc_207 _ (by omega)
          · skip
            have nh_207 := xI_nleD (by omega) (by omega) h_207
            refine e_iload C dL_places_210 rfl ?_
            refine e_goto (tgt := 217) C dL_places_212 (by decide) ?_
            exact kc_207 _ (by omega)
      · skip
        have hor : ¬ rz z n 0 = 1 := (hZ.r_lt hI.1 (by omega)).mp (Int32.not_le.mp h_25)
        refine e_aload_n C dL_places_28 rfl ?_
        refine e_iload C dL_places_29 rfl ?_
        refine f_callVr (As := [_]) (ci := 6) C mi_yX6_position mv_yX6_position b_ml_L_45 dL_places_31 rfl (c_X6_position hz) (by decide) v0 rfl rfl (Nat.le_of_ble_eq_true rfl) ?_
        refine e_iload C dL_places_34 rfl ?_
        rw [posg_no (by omega) hor]
        refine e_icmp_ne (tgt := 75) C dL_places_36 (by decide) (fun h_36 => ?_) (fun h_36 => ?_)
        · skip
          exact absurd rfl h_36
        · skip
          refine e_aload_n C dL_places_39 rfl ?_
          refine e_iload C dL_places_40 rfl ?_
          refine e_iconst (v := nI 0) C dL_places_42 (by decide) ?_
          refine f_callVr (As := [_, _]) (ci := 6) C mi_yX6_replica mv_yX6_replica b_ml_L_49 dL_places_43 rfl (c_X6_replica hz) (by decide) v0 rfl rfl (Nat.le_of_ble_eq_true rfl) ?_
          refine e_iload C dL_places_46 rfl ?_
          rw [fRepl_no (by omega) hor]
          refine e_icmp_ne (tgt := 75) C dL_places_48 (by decide) (fun h_48 => ?_) (fun h_48 => ?_)
          · skip
            exact absurd rfl h_48
          · skip
            refine e_aload_n C dL_places_51 rfl ?_
            refine e_iload C dL_places_52 rfl ?_
            refine e_iload C dL_places_54 rfl ?_
            refine f_callVr (As := [_, _]) (ci := 6) C mi_yX6_version mv_yX6_version b_ml_L_52 dL_places_56 rfl (c_X6_version hz hI.1) (by decide) v0 rfl rfl (Nat.le_of_ble_eq_true rfl) ?_
            refine e_iload C dL_places_59 rfl ?_
            rw [fVer_no (by omega) hor]
            refine e_icmp_ne (tgt := 75) C dL_places_61 (by decide) (fun h_61 => ?_) (fun h_61 => ?_)
            · skip
              exact absurd rfl h_61
            · skip
              refine e_aload_n C dL_places_64 rfl ?_
              refine e_iload C dL_places_65 rfl ?_
              refine f_callVr (As := [_]) (ci := 6) C mi_yX6_answers mv_yX6_answers b_ml_L_54 dL_places_67 rfl (c_X6_answers hz) (by decide) v0 rfl rfl (Nat.le_of_ble_eq_true rfl) ?_
              refine e_iload C dL_places_70 rfl ?_
              rw [fAns_no (by omega) hor]
              refine e_icmp_eq (tgt := 378) C dL_places_72 (by decide) (fun h_72 => ?_) (fun h_72 => ?_)
              · skip
                refine f_iincn (ls1 := [_, _, _, _, _, _, _, _, _, _, _, _, _, _, _, _]) C dL_places_378 rfl (by decide) rfl ?_
                refine e_goto (tgt := 12) C dL_places_381 (by decide) ?_
                exact ih (n + 1) _ mo nv _ _ _ _ _ _ (by omega) (by omega) (by omega) (by omega) (by rw [msk, cif_neg hor]; exact hset) (by rw [cup, cif_neg (show ¬ rz z n 0 = 1 from hor)]; rcases hcup with ⟨a1, a2⟩ | ⟨a1, a2⟩; exact Or.inl ⟨a1, by rw [cif_pos a2]⟩; exact Or.inr ⟨a1, by rw [a2, cif_neg (nI_neN (by omega) (by decide))]⟩)
              · skip
                exact absurd rfl h_72
set_option maxRecDepth 100000 in
set_option maxHeartbeats 4000000 in
theorem c_L_places {E : EV} {l : Launch} {mem : MEM} {z : ZZ} (hz : RelS mem 0 z) {c : Nat} (hZ : LZ mem z c) (hI : GoodC z c) {q : Nat} (hq : q < 12) : Ct E l yL_places (me_ws yL_places cL_places 16 (some .boolean)) 5 [rv (0, 0, 0), rv (17, 0, 0), rv (18, 0, 0), rv (19, 0, 0), rv (21, 0, 0), iv (nI q)] mem (Ret (iv (b2i True)) mem) := by
  refine Ct.of (RC := RL) (ls0 := [rv (0, 0, 0), rv (17, 0, 0), rv (18, 0, 0), rv (19, 0, 0), rv (21, 0, 0), iv (nI q), uv, uv, uv, uv, uv, uv, uv, uv, uv, uv]) mi_yL_places (Nat.le_of_ble_eq_true rfl) rfl (fun X C hX => ?_)
  refine e_iconst (v := nI 0) C dL_places_0 (by decide) ?_
  refine f_istore (ls1 := [_, _, _, _, _, _, _, _, _, _, _, _, _, _, _, _]) C dL_places_1 (by decide) rfl ?_
  refine e_iconst (v := nI 0) C dL_places_3 (by decide) ?_
  refine f_istore (ls1 := [_, _, _, _, _, _, _, _, _, _, _, _, _, _, _, _]) C dL_places_4 (by decide) rfl ?_
  refine e_iconst (v := nI 0) C dL_places_6 (by decide) ?_
  refine f_istore (ls1 := [_, _, _, _, _, _, _, _, _, _, _, _, _, _, _, _]) C dL_places_7 (by decide) rfl ?_
  refine e_iconst (v := nI 0) C dL_places_9 (by decide) ?_
  refine f_istore (ls1 := [_, _, _, _, _, _, _, _, _, _, _, _, _, _, _, _]) C dL_places_10 (by decide) rfl ?_
  exact lp_pl hz hZ hI hq C hX 6 0 _ 0 0 _ _ _ _ _ _ (by omega) (by omega) (by omega) (by omega) rfl (Or.inr ⟨rfl, rfl⟩)
