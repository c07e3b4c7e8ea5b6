/-! ===== the class's states: the rest ===== -/
theorem ffr_yes {f : Nat → Int32} {N i : Nat} (h : f i = 1) (hi : i < N) : ffr f (N - i) i = ffr f (N - (i + 1)) (i + 1) := by
  obtain ⟨n, hn⟩ : ∃ n, N - i = n + 1 := ⟨N - i - 1, by omega⟩
  rw [hn, ffr, if_pos h]
  congr 1
  omega
theorem ffr_no {f : Nat → Int32} {N i : Nat} (h : ¬ f i = 1) (hi : i < N) : ffr f (N - i) i = i := by
  obtain ⟨n, hn⟩ : ∃ n, N - i = n + 1 := ⟨N - i - 1, by omega⟩
  rw [hn, ffr, if_neg h]
theorem ffr_end {f : Nat → Int32} {N : Nat} : ffr f (N - N) N = N := by
  rw [Nat.sub_self]; rfl
theorem ffr_le {f : Nat → Int32} : ∀ n i, ffr f n i ≤ i + n
  | 0, i => Nat.le_refl i
  | n + 1, i => by
    rw [ffr]
    split
    · have := ffr_le (f := f) n (i + 1); omega
    · omega
theorem ss_comm {z : ZZ} {s w s' w' : Nat} {a b : Int32} (h : ¬ (s = s' ∧ w = w')) (hw : w < 33) (hw' : w' < 33) : ss (ss z s w a) s' w' b = ss (ss z s' w' b) s w a := upd_comm (by omega)
noncomputable def nrz (z : ZZ) (s q : Nat) (v pos : Int32) : ZZ :=
  ss (ss (ss (ss (ss z s 6 (sz z s 6 + nI 1)) s 7 (sz z s 7 + cif (sz z s (9 + q) ≤ v) (nI 0) (nI 1))) s 8 (sz z s 8 + cif (sz z s (21 + q) ≤ v) (nI 0) (nI 1))) s (21 + q) (maxI (sz z s (21 + q)) v)) s 5 (maxI (sz z s 5) pos)
theorem addn0 (x : Int32) : x + nI 0 = x := by rw [nI_0]; exact Int32.add_zero x
theorem ntR_ok {mem : MEM} {k s q : Nat} {z : ZZ} {v pos : Int32} (h : RelS mem k z) (hs : s < 8) (ho : sz z s 0 = 1) (hq : q < 12) : RelS (ntR mem k s q v pos) k (nrz z s q v pos) := by
  have a1 : RelS (ntR1 mem k s pos) k (ss (ss z s 6 (sz z s 6 + nI 1)) s 5 (maxI (sz z s 5) pos)) := by
    unfold ntR1
    rw [h.ses hs ho (by decide), h.ses hs ho (by decide)]
    exact (h.s_ses hs (by decide) (by decide)).s_ses hs (by decide) (by decide)
  generalize hz1 : ss (ss z s 6 (sz z s 6 + nI 1)) s 5 (maxI (sz z s 5) pos) = z1 at a1
  have e1 : ∀ w, w < 33 → w ≠ 5 → w ≠ 6 → sz z1 s w = sz z s w := fun w hw h5 h6 => by
    rw [← hz1, sz_ss (by decide) hw, sz_ss (by decide) hw, if_neg (by omega), if_neg (by omega)]
  have o1 : sz z1 s 0 = 1 := by rw [e1 0 (by decide) (by decide) (by decide)]; exact ho
  have a2 : RelS (ntR2 (ntR1 mem k s pos) k s q v) k (ss z1 s 7 (sz z s 7 + cif (sz z s (9 + q) ≤ v) (nI 0) (nI 1))) := by
    unfold ntR2
    rw [a1.wro hs o1 hq, a1.ses hs o1 (by decide), e1 7 (by decide) (by decide) (by decide), e1 (9 + q) (by omega) (by omega) (by omega)]
    by_cases hc : sz z s (9 + q) ≤ v
    · rw [cif_pos hc, cif_pos hc, addn0, ← e1 7 (by decide) (by decide) (by decide), ss_same]
      exact a1
    · rw [cif_neg hc, cif_neg hc]
      exact a1.s_ses hs (by decide) (by decide)
  generalize hz2 : ss z1 s 7 (sz z s 7 + cif (sz z s (9 + q) ≤ v) (nI 0) (nI 1)) = z2 at a2
  have e2 : ∀ w, w < 33 → w ≠ 5 → w ≠ 6 → w ≠ 7 → sz z2 s w = sz z s w := fun w hw h5 h6 h7 => by
    rw [← hz2, sz_ss (by decide) hw, if_neg (by omega), e1 w hw h5 h6]
  have o2 : sz z2 s 0 = 1 := by rw [e2 0 (by decide) (by decide) (by decide) (by decide)]; exact ho
  have a3 : RelS (ntR3 (ntR2 (ntR1 mem k s pos) k s q v) k s q v) k (ss z2 s 8 (sz z s 8 + cif (sz z s (21 + q) ≤ v) (nI 0) (nI 1))) := by
    unfold ntR3
    rw [a2.rea hs o2 hq, a2.ses hs o2 (by decide), e2 8 (by decide) (by decide) (by decide) (by decide), e2 (21 + q) (by omega) (by omega) (by omega) (by omega)]
    by_cases hc : sz z s (21 + q) ≤ v
    · rw [cif_pos hc, cif_pos hc, addn0, ← e2 8 (by decide) (by decide) (by decide) (by decide), ss_same]
      exact a2
    · rw [cif_neg hc, cif_neg hc]
      exact a2.s_ses hs (by decide) (by decide)
  generalize hz3 : ss z2 s 8 (sz z s 8 + cif (sz z s (21 + q) ≤ v) (nI 0) (nI 1)) = z3 at a3
  have e3 : ∀ w, w < 33 → w ≠ 5 → w ≠ 6 → w ≠ 7 → w ≠ 8 → sz z3 s w = sz z s w := fun w hw h5 h6 h7 h8 => by
    rw [← hz3, sz_ss (by decide) hw, if_neg (by omega), e2 w hw h5 h6 h7]
  have o3 : sz z3 s 0 = 1 := by rw [e3 0 (by decide) (by decide) (by decide) (by decide) (by decide)]; exact ho
  have a4 : RelS (ntR mem k s q v pos) k (ss z3 s (21 + q) (maxI (sz z s (21 + q)) v)) := by
    unfold ntR
    rw [a3.rea hs o3 hq, e3 (21 + q) (by omega) (by omega) (by omega) (by omega) (by omega)]
    exact a3.s_rea hs hq
  have e4 : ss z3 s (21 + q) (maxI (sz z s (21 + q)) v) = nrz z s q v pos := by
    rw [← hz3, ← hz2, ← hz1]
    unfold nrz
    rw [ss_comm (w := 5) (w' := 7) (by omega) (by decide) (by decide), ss_comm (w := 5) (w' := 8) (by omega) (by decide) (by decide), ss_comm (w := 5) (w' := 21 + q) (by omega) (by decide) (by omega)]
  rw [← e4]
  exact a4
theorem ntR_fr {mem : MEM} {k s q : Nat} {v pos : Int32} : FrS k mem (ntR mem k s q v pos) := by
  have b9 : blk k (9, k, s) := blk_of (by decide) (by decide)
  have b11 : blk k (11, k, s) := blk_of (by decide) (by decide)
  have a1 : FrS k mem (ntR1 mem k s pos) := (FrS.one b9).set b9
  have a2 : FrS k mem (ntR2 (ntR1 mem k s pos) k s q v) := by
    unfold ntR2 cif
    split
    · exact a1
    · exact a1.set b9
  have a3 : FrS k mem (ntR3 (ntR2 (ntR1 mem k s pos) k s q v) k s q v) := by
    unfold ntR3 cif
    split
    · exact a2
    · exact a2.set b9
  exact a3.set b11
noncomputable def canz (z : ZZ) (n : Int32) : ZZ := cif (isR z n) (rs z (nt n) 4 (rz z (nt n) 4 + nI 1)) (upd z 4 (z 4 + nI 1))
noncomputable def ansv (z : ZZ) (q p : Nat) : Nat := lastw (keyf z) (nt (posz z p)) (nI q)
noncomputable def ansz (z : ZZ) (s q p : Nat) (t : Int32) : ZZ :=
  upd (upd (upd (canz (nrz z s q (nI (ansv z q p)) (posz z p)) (nI p)) 1 (nI p)) 2 (nI (ansv z q p))) 3 t
theorem nrz_rz {z : ZZ} {s q : Nat} {v pos : Int32} (hq : q < 12) {r w : Nat} (hr : r < 5) (hw : w < 5) : rz (nrz z s q v pos) r w = rz z r w := by
  unfold nrz
  rw [rz_ss hr hw, rz_ss hr hw, rz_ss hr hw, rz_ss hr hw, rz_ss hr hw]
theorem nrz_h {z : ZZ} {s q : Nat} {v pos : Int32} {j : Nat} (hj : j < 5) : nrz z s q v pos j = z j := by
  unfold nrz
  rw [hz_ss hj, hz_ss hj, hz_ss hj, hz_ss hj, hz_ss hj]
theorem nrz_wz {z : ZZ} {s q : Nat} {v pos : Int32} (hs : s < 8) (hq : q < 12) {j w : Nat} : wz (nrz z s q v pos) j w = wz z j w := by
  unfold nrz
  rw [wz_ss hs (by decide), wz_ss hs (by omega), wz_ss hs (by decide), wz_ss hs (by decide), wz_ss hs (by decide)]
theorem nrz_isR {z : ZZ} {s q : Nat} {v pos n : Int32} (hq : q < 12) : isR (nrz z s q v pos) n ↔ isR z n := by
  unfold isR
  constructor
  · rintro ⟨i, hi, e, h⟩; exact ⟨i, hi, e, by rw [nrz_rz hq hi (by decide)] at h; exact h⟩
  · rintro ⟨i, hi, e, h⟩; exact ⟨i, hi, e, by rw [nrz_rz hq hi (by decide)]; exact h⟩
theorem canz_wz {z : ZZ} {n : Int32} (hn : isR z n → nt n < 5) {j w : Nat} : wz (canz z n) j w = wz z j w := by
  unfold canz
  by_cases h : isR z n
  · rw [cif_pos h, wz_rs (hn h) (by decide)]
  · rw [cif_neg h, wz_h (by decide)]
theorem canz_0 {z : ZZ} {n : Int32} : canz z n 0 = z 0 := by
  unfold canz cif
  split
  · exact hz_rs (by decide)
  · rfl
theorem isR_nt {z : ZZ} {n : Int32} (h : isR z n) : nt n < 5 := by
  obtain ⟨i, hi, rfl, -⟩ := h
  rw [nt_nI (by omega)]; exact hi
theorem valz_congr {z z' : ZZ} {v : Nat} (h : ∀ j w, wz z j w = wz z' j w) : valz z v = valz z' v := by
  unfold valz
  split
  · rfl
  · exact h _ _
/-- the replicas copied up to i, beside the log -/
def cp1 (mem : MEM) (k k2 i : Nat) : MEM := fun id => if id.2.1 = k ∧ ((2 ≤ id.1 ∧ id.1 ≤ 5) ∨ (id.1 = 8 ∧ id.2.2 < i)) then mem (id.1, k2, id.2.2) else mem id
def cp2 (mem : MEM) (k k2 i : Nat) : MEM := fun id => if id.2.1 = k ∧ ((2 ≤ id.1 ∧ id.1 ≤ 5) ∨ (id.1 = 8 ∧ id.2.2 < 5) ∨ (9 ≤ id.1 ∧ id.1 ≤ 11 ∧ id.2.2 < i)) then mem (id.1, k2, id.2.2) else mem id
theorem cp1_0 {mem : MEM} {k k2 : Nat} : cpL mem k k2 = cp1 mem k k2 0 := by
  funext id
  unfold cpL cp1
  simp
theorem cp1_s {mem : MEM} {k k2 i : Nat} (hn : k ≠ k2) : cpc (cp1 mem k k2 i) (8, k, i) (8, k2, i) = cp1 mem k k2 (i + 1) := by
  funext id
  obtain ⟨t, k', i'⟩ := id
  by_cases h : (t, k', i') = ((8, k, i) : ID)
  · rw [h]
    simp [cpc, cp1, Ne.symm hn]
  · rw [cpc, if_neg h]
    unfold cp1
    simp only [Prod.mk.injEq] at h
    have e : (k' = k ∧ ((2 ≤ t ∧ t ≤ 5) ∨ (t = 8 ∧ i' < i + 1))) ↔ (k' = k ∧ ((2 ≤ t ∧ t ≤ 5) ∨ (t = 8 ∧ i' < i))) := by omega
    simp only [e]
theorem cp2_0 {mem : MEM} {k k2 : Nat} : cp1 mem k k2 5 = cp2 mem k k2 0 := by
  funext id
  unfold cp1 cp2
  have e : (id.2.1 = k ∧ ((2 ≤ id.1 ∧ id.1 ≤ 5) ∨ (id.1 = 8 ∧ id.2.2 < 5))) ↔ (id.2.1 = k ∧ ((2 ≤ id.1 ∧ id.1 ≤ 5) ∨ (id.1 = 8 ∧ id.2.2 < 5) ∨ (9 ≤ id.1 ∧ id.1 ≤ 11 ∧ id.2.2 < 0))) := by omega
  simp only [e]
theorem cp2_s {mem : MEM} {k k2 i : Nat} (hn : k ≠ k2) : cpS1 (cp2 mem k k2 i) k k2 i = cp2 mem k k2 (i + 1) := by
  funext id
  obtain ⟨t, k', i'⟩ := id
  have hk2 : ∀ t, cp2 mem k k2 i (t, k2, i) = mem (t, k2, i) := fun t => by simp [cp2, Ne.symm hn]
  unfold cpS1
  by_cases h : k' = k ∧ i' = i ∧ 9 ≤ t ∧ t ≤ 11
  · obtain ⟨rfl, rfl, h9, h11⟩ := h
    have ht : t = 9 ∨ t = 10 ∨ t = 11 := by omega
    have hd : ∀ t, 9 ≤ t → t ≤ 11 → cp2 mem k' k2 (i' + 1) (t, k', i') = mem (t, k2, i') := fun t h1 h2 => by
      unfold cp2
      rw [if_pos ⟨rfl, Or.inr (Or.inr ⟨h1, h2, Nat.lt_succ_self _⟩)⟩]
    rcases ht with rfl | rfl | rfl
    · rw [hd 9 (by decide) (by decide)]; simp [cpc, hk2]
    · rw [hd 10 (by decide) (by decide)]; simp [cpc, hk2]
    · rw [hd 11 (by decide) (by decide)]; simp [cpc, hk2]
  · have n9 : (t, k', i') ≠ ((9, k, i) : ID) := by simp only [ne_eq, Prod.mk.injEq]; omega
    have n10 : (t, k', i') ≠ ((10, k, i) : ID) := by simp only [ne_eq, Prod.mk.injEq]; omega
    have n11 : (t, k', i') ≠ ((11, k, i) : ID) := by simp only [ne_eq, Prod.mk.injEq]; omega
    simp only [cpc, if_neg n9, if_neg n10, if_neg n11]
    unfold cp2
    have e : (k' = k ∧ ((2 ≤ t ∧ t ≤ 5) ∨ (t = 8 ∧ i' < 5) ∨ (9 ≤ t ∧ t ≤ 11 ∧ i' < i + 1))) ↔ (k' = k ∧ ((2 ≤ t ∧ t ≤ 5) ∨ (t = 8 ∧ i' < 5) ∨ (9 ≤ t ∧ t ≤ 11 ∧ i' < i))) := by omega
    simp only [e]
theorem cp2_up {mem : MEM} {k k2 : Nat} (hn : k ≠ k2) : EqV (up (up (up (up (cp2 mem k k2 8) (1, k, 0) 3 (mem (1, k2, 0) 3)) (1, k, 0) 4 (mem (1, k2, 0) 4)) (1, k, 0) 5 (mem (1, k2, 0) 5)) (1, k, 0) 6 (mem (1, k2, 0) 6)) (cpS mem k k2) := by
  rintro ⟨t, k', i⟩ ⟨hk, hi⟩ j hj hs
  by_cases h : t = 1 ∧ k' = k
  · obtain ⟨rfl, rfl⟩ := h
    obtain rfl : i = 0 := Nat.lt_one_iff.mp hi
    have hj : j < 7 := hj
    match j, hs, hj with
    | 0, hs, _ => cases hs
    | 1, hs, _ => cases hs
    | 2, hs, _ => cases hs
    | 3, _, _ => simp [up, cpS]
    | 4, _, _ => simp [up, cpS]
    | 5, _, _ => simp [up, cpS]
    | 6, _, _ => simp [up, cpS]
  · have n1 : ¬ (t = 1 ∧ k' = k ∧ i = 0) := fun q => h ⟨q.1, q.2.1⟩
    simp only [up, Prod.mk.injEq, n1, false_and, if_false]
    unfold cp2 cpS
    by_cases ha : k' = k ∧ 1 ≤ t ∧ t ≤ 11
    · obtain ⟨rfl, h1, h11⟩ := ha
      have hc : (2 ≤ t ∧ t ≤ 5) ∨ (t = 8 ∧ i < 5) ∨ (9 ≤ t ∧ t ≤ 11 ∧ i < 8) ∨ t = 6 ∨ t = 7 := by
        have ht : t = 2 ∨ t = 3 ∨ t = 4 ∨ t = 5 ∨ t = 6 ∨ t = 7 ∨ t = 8 ∨ t = 9 ∨ t = 10 ∨ t = 11 := by omega
        rcases ht with rfl | rfl | rfl | rfl | rfl | rfl | rfl | rfl | rfl | rfl
        · exact Or.inl ⟨by decide, by decide⟩
        · exact Or.inl ⟨by decide, by decide⟩
        · exact Or.inl ⟨by decide, by decide⟩
        · exact Or.inl ⟨by decide, by decide⟩
        · exact Or.inr (Or.inr (Or.inr (Or.inl rfl)))
        · exact Or.inr (Or.inr (Or.inr (Or.inr rfl)))
        · exact Or.inr (Or.inl ⟨rfl, hi⟩)
        · exact Or.inr (Or.inr (Or.inl ⟨by decide, by decide, hi⟩))
        · exact Or.inr (Or.inr (Or.inl ⟨by decide, by decide, hi⟩))
        · exact Or.inr (Or.inr (Or.inl ⟨by decide, by decide, hi⟩))
      rcases hc with hc | hc | hc | rfl | rfl
      · rw [if_pos ⟨rfl, Or.inl hc⟩, if_pos ⟨rfl, h1, h11⟩]
      · rw [if_pos ⟨rfl, Or.inr (Or.inl hc)⟩, if_pos ⟨rfl, h1, h11⟩]
      · rw [if_pos ⟨rfl, Or.inr (Or.inr hc)⟩, if_pos ⟨rfl, h1, h11⟩]
      · cases hs
      · cases hs
    · rw [if_neg ha, if_neg (fun q => ha ⟨q.1, by omega⟩)]

set_option maxRecDepth 100000 in
set_option maxHeartbeats 4000000 in
theorem lp_X4_takeFreeReplica {E : EV} {l : Launch} {X : CX} {mem : MEM} {k : Nat} (hk : k < 8) {z : ZZ} (hz : RelS mem k z) {rate pos : Int32} (C : CK E X RX4 cX4_takeFreeReplica 5 (some .int) 2) (hX : EX E X l (fun r m => ∃ x : Int32, r = iv x ∧ PoI k mem (cif (ffr (fun r => rz z r 0) 5 0 < 5) (bgz z (ffr (fun r => rz z r 0) 5 0) pos rate) z) (cif (ffr (fun r => rz z r 0) 5 0 < 5) (nI (ffr (fun r => rz z r 0) 5 0)) (-4)) x m)) : ∀ (lpn : Nat) (i : Nat) (x4 : VV), 5 - i < lpn → i ≤ 5 → ffr (fun r => rz z r 0) (5 - i) i = ffr (fun r => rz z r 0) 5 0 → G E X 5 2 [rv (1, k, 0), iv rate, iv pos, iv (nI i), x4] [] mem := by
  intro lpn
  induction lpn with
  | zero => intro i x4 hlpn; exact absurd hlpn (Nat.not_lt_zero _)
  | succ lpn ih =>
    intro i x4 hlpn hi hw
    refine e_iload_n C dX4_takeFreeReplica_2 rfl ?_
    refine e_iconst (v := nI 5) C dX4_takeFreeReplica_3 (by decide) ?_
    refine e_icmp_ge (tgt := 43) C dX4_takeFreeReplica_4 (by decide) (fun h_4 => ?_) (fun h_4 => ?_)
    · skip
      have nh_4 := xI_leD (by omega) (by omega) h_4
      refine e_bipush (v := -4) C dX4_takeFreeReplica_43 (by decide) ?_
      obtain rfl : i = 5 := by omega
      rw [ffr_end] at hw
      exact f_ii C hX dX4_takeFreeReplica_45 ⟨by rw [← hw, cif_neg (by decide)], by rw [← hw, cif_neg (by decide)]; exact hz, FrS.rfl'⟩
    · skip
      have nh_4 := xI_nleD (by omega) (by omega) h_4
      refine e_aload_n C dX4_takeFreeReplica_7 rfl ?_
      refine e_getr C (ci := 4) 1 rfl rfl rfl (by decide) b_X4 rfl b_fl_X4_20 (v1 hk) rfl dX4_takeFreeReplica_8 ?_
      refine e_iload_n C dX4_takeFreeReplica_11 rfl ?_
      refine f_aaldR C hk (by omega) dX4_takeFreeReplica_12 ?_
      refine f_astore (ls1 := [_, _, _, _, _]) C dX4_takeFreeReplica_13 (by decide) rfl ?_
      refine e_aload C dX4_takeFreeReplica_15 rfl ?_
      refine e_ifnull C dX4_takeFreeReplica_17 ?_
      refine e_aload C dX4_takeFreeReplica_20 rfl ?_
      refine e_getz C (ci := 2) 0 rfl rfl rfl (by decide) b_X2 rfl b_fl_X4_49 (v8 hk (by omega)) rfl rfl dX4_takeFreeReplica_22 (fun hz_22 => ?_)
      refine e_if_ne (tgt := 37) C dX4_takeFreeReplica_25 (by decide) (fun h_25 => ?_) (fun h_25 => ?_)
      · skip
        refine f_iincn (ls1 := [_, _, _, _, _]) C dX4_takeFreeReplica_37 rfl (by decide) rfl ?_
        refine e_goto (tgt := 2) C dX4_takeFreeReplica_40 (by decide) ?_
        exact ih (i + 1) _ (by omega) (by omega) ((ffr_yes (f := fun r => rz z r 0) (N := 5) (i := i) (by show rz z i 0 = 1; rw [← hz.rep (by omega) (by decide)]; exact hz_22.resolve_left h_25) (by omega)).symm.trans hw)
      · skip
        refine e_aload C dX4_takeFreeReplica_28 rfl ?_
        refine e_iload_n C dX4_takeFreeReplica_30 rfl ?_
        refine e_iload_n C dX4_takeFreeReplica_31 rfl ?_
        refine f_callVv (As := [_, _]) (ci := 2) C mi_yX2_begin mv_yX2_begin b_ml_X4_56 dX4_takeFreeReplica_32 rfl (c_X2_begin hk (by omega)) (by decide) (v8 hk (by omega)) rfl rfl (Nat.le_of_ble_eq_true rfl) ?_
        refine e_iload_n C dX4_takeFreeReplica_35 rfl ?_
        have e0 : ¬ rz z i 0 = 1 := by rw [← hz.rep (by omega) (by decide), h_25]; decide
        rw [ffr_no (f := fun r => rz z r 0) e0 (by omega)] at hw
        exact f_ii C hX dX4_takeFreeReplica_36 ⟨by rw [← hw, cif_pos (by omega)], by rw [← hw, cif_pos (by omega)]; exact bgz_ok hz (by omega), bgz_fr⟩
set_option maxRecDepth 100000 in
set_option maxHeartbeats 4000000 in
theorem c_X4_takeFreeReplica {E : EV} {l : Launch} {mem : MEM} {k : Nat} (hk : k < 8) {z : ZZ} (hz : RelS mem k z) {rate pos : Int32} : Ct E l yX4_takeFreeReplica (me_ws yX4_takeFreeReplica cX4_takeFreeReplica 5 (some .int)) 2 [rv (1, k, 0), iv rate, iv pos] mem (fun r m => ∃ x : Int32, r = iv x ∧ PoI k mem (cif (ffr (fun r => rz z r 0) 5 0 < 5) (bgz z (ffr (fun r => rz z r 0) 5 0) pos rate) z) (cif (ffr (fun r => rz z r 0) 5 0 < 5) (nI (ffr (fun r => rz z r 0) 5 0)) (-4)) x m) := by
  refine Ct.of (RC := RX4) (ls0 := [rv (1, k, 0), iv rate, iv pos, uv, uv]) mi_yX4_takeFreeReplica (Nat.le_of_ble_eq_true rfl) rfl (fun X C hX => ?_)
  refine e_iconst (v := nI 0) C dX4_takeFreeReplica_0 (by decide) ?_
  refine f_istore_n (ls1 := [_, _, _, _, _]) C dX4_takeFreeReplica_1 (by decide) rfl ?_
  exact lp_X4_takeFreeReplica hk hz C hX 6 0 _ (by decide) (by decide) rfl
set_option maxRecDepth 100000 in
set_option maxHeartbeats 4000000 in
theorem lp_X4_takeFreeSession {E : EV} {l : Launch} {X : CX} {mem : MEM} {k : Nat} (hk : k < 8) {z : ZZ} (hz : RelS mem k z) {home opt bnd : Int32} (C : CK E X RX4 cX4_takeFreeSession 6 (some .int) 3) (hX : EX E X l (fun r m => ∃ x : Int32, r = iv x ∧ PoI k mem (cif (ffr (fun s => sz z s 0) 8 0 < 8) (bsz z (ffr (fun s => sz z s 0) 8 0) home opt bnd) z) (cif (ffr (fun s => sz z s 0) 8 0 < 8) (nI (ffr (fun s => sz z s 0) 8 0)) (-4)) x m)) : ∀ (lpn : Nat) (i : Nat) (x5 : VV), 8 - i < lpn → i ≤ 8 → ffr (fun s => sz z s 0) (8 - i) i = ffr (fun s => sz z s 0) 8 0 → G E X 6 3 [rv (1, k, 0), iv home, iv opt, iv bnd, iv (nI i), x5] [] mem := by
  intro lpn
  induction lpn with
  | zero => intro i x5 hlpn; exact absurd hlpn (Nat.not_lt_zero _)
  | succ lpn ih =>
    intro i x5 hlpn hi hw
    refine e_iload C dX4_takeFreeSession_3 rfl ?_
    refine e_bipush (v := nI 8) C dX4_takeFreeSession_5 (by decide) ?_
    refine e_icmp_ge (tgt := 49) C dX4_takeFreeSession_7 (by decide) (fun h_7 => ?_) (fun h_7 => ?_)
    · skip
      have nh_7 := xI_leD (by omega) (by omega) h_7
      refine e_bipush (v := -4) C dX4_takeFreeSession_49 (by decide) ?_
      obtain rfl : i = 8 := by omega
      rw [ffr_end] at hw
      exact f_ii C hX dX4_takeFreeSession_51 ⟨by rw [← hw, cif_neg (by decide)], by rw [← hw, cif_neg (by decide)]; exact hz, FrS.rfl'⟩
    · skip
      have nh_7 := xI_nleD (by omega) (by omega) h_7
      refine e_aload_n C dX4_takeFreeSession_10 rfl ?_
      refine e_getr C (ci := 4) 2 rfl rfl rfl (by decide) b_X4 rfl b_fl_X4_26 (v1 hk) rfl dX4_takeFreeSession_11 ?_
      refine e_iload C dX4_takeFreeSession_14 rfl ?_
      refine f_aaldS C hk (by omega) dX4_takeFreeSession_16 ?_
      refine f_astore (ls1 := [_, _, _, _, _, _]) C dX4_takeFreeSession_17 (by decide) rfl ?_
      refine e_aload C dX4_takeFreeSession_19 rfl ?_
      refine e_ifnull C dX4_takeFreeSession_21 ?_
      refine e_aload C dX4_takeFreeSession_24 rfl ?_
      refine e_getz C (ci := 3) 0 rfl rfl rfl (by decide) b_X3 rfl b_fl_X4_53 (v9 hk (by omega)) rfl rfl dX4_takeFreeSession_26 (fun hz_26 => ?_)
      refine e_if_ne (tgt := 43) C dX4_takeFreeSession_29 (by decide) (fun h_29 => ?_) (fun h_29 => ?_)
      · skip
        refine f_iincn (ls1 := [_, _, _, _, _, _]) C dX4_takeFreeSession_43 rfl (by decide) rfl ?_
        refine e_goto (tgt := 3) C dX4_takeFreeSession_46 (by decide) ?_
        exact ih (i + 1) _ (by omega) (by omega) ((ffr_yes (f := fun s => sz z s 0) (N := 8) (i := i) (by show sz z i 0 = 1; rw [← hz.se0 (by omega)]; exact hz_26.resolve_left h_29) (by omega)).symm.trans hw)
      · skip
        refine e_aload C dX4_takeFreeSession_32 rfl ?_
        refine e_iload_n C dX4_takeFreeSession_34 rfl ?_
        refine e_iload_n C dX4_takeFreeSession_35 rfl ?_
        refine e_iload_n C dX4_takeFreeSession_36 rfl ?_
        refine f_callVv (As := [_, _, _]) (ci := 3) C mi_yX3_begin mv_yX3_begin b_ml_X4_60 dX4_takeFreeSession_37 rfl (c_X3_begin hk (by omega)) (by decide) (v9 hk (by omega)) rfl rfl (Nat.le_of_ble_eq_true rfl) ?_
        refine e_iload C dX4_takeFreeSession_40 rfl ?_
        have e0 : ¬ sz z i 0 = 1 := by rw [← hz.se0 (by omega), h_29]; decide
        rw [ffr_no (f := fun s => sz z s 0) e0 (by omega)] at hw
        exact f_ii C hX dX4_takeFreeSession_42 ⟨by rw [← hw, cif_pos (by omega)], by rw [← hw, cif_pos (by omega)]; exact bsz_ok hz (by omega), bsz_fr⟩
set_option maxRecDepth 100000 in
set_option maxHeartbeats 4000000 in
theorem c_X4_takeFreeSession {E : EV} {l : Launch} {mem : MEM} {k : Nat} (hk : k < 8) {z : ZZ} (hz : RelS mem k z) {home opt bnd : Int32} : Ct E l yX4_takeFreeSession (me_ws yX4_takeFreeSession cX4_takeFreeSession 6 (some .int)) 3 [rv (1, k, 0), iv home, iv opt, iv bnd] mem (fun r m => ∃ x : Int32, r = iv x ∧ PoI k mem (cif (ffr (fun s => sz z s 0) 8 0 < 8) (bsz z (ffr (fun s => sz z s 0) 8 0) home opt bnd) z) (cif (ffr (fun s => sz z s 0) 8 0 < 8) (nI (ffr (fun s => sz z s 0) 8 0)) (-4)) x m) := by
  refine Ct.of (RC := RX4) (ls0 := [rv (1, k, 0), iv home, iv opt, iv bnd, uv, uv]) mi_yX4_takeFreeSession (Nat.le_of_ble_eq_true rfl) rfl (fun X C hX => ?_)
  refine e_iconst (v := nI 0) C dX4_takeFreeSession_0 (by decide) ?_
  refine f_istore (ls1 := [_, _, _, _, _, _]) C dX4_takeFreeSession_1 (by decide) rfl ?_
  exact lp_X4_takeFreeSession hk hz C hX 9 0 _ (by decide) (by decide) rfl
set_option maxRecDepth 100000 in
set_option maxHeartbeats 4000000 in
theorem c_X4_neededPosition {E : EV} {l : Launch} {mem : MEM} {k : Nat} (hk : k < 8) {z : ZZ} (hz : RelS mem k z) {c : Nat} (hI : Inv z c) {s : Nat} (hs : s < 8) (ho : sz z s 0 = 1) {key : Int32} : Ct E l yX4_neededPosition (me_ws yX4_neededPosition cX4_neededPosition 4 (some .int)) 4 [rv (1, k, 0), rv (9, k, s), iv key] mem (Ret (iv (nI (nedz z s key))) mem) := by
  obtain ⟨a, b, ha, hb, ea, eb⟩ := hI.marks hs ho
  have hc200 := hI.1
  refine Ct.of (RC := RX4) (ls0 := [rv (1, k, 0), rv (9, k, s), iv key, uv]) mi_yX4_neededPosition (Nat.le_of_ble_eq_true rfl) rfl (fun X C hX => ?_)
  refine e_aload_n C dX4_neededPosition_0 rfl ?_
  refine f_callVr (As := []) (ci := 3) C mi_yX3_need mv_yX3_need b_ml_X4_83 dX4_neededPosition_1 rfl (c_X3_need hk hs (by rw [hz.ses hs ho (by decide)]; exact ea) (by rw [hz.ses hs ho (by decide)]; exact eb) (by omega) (by omega)) (by decide) (v9 hk hs) rfl rfl (Nat.le_of_ble_eq_true rfl) ?_
  refine f_val (y := nI (needz z s)) (by rw [hz.ses hs ho (by decide), needz, ea, eb, nt_nI (by omega), nt_nI (by omega)]; rfl) ?_
  have hnl := needz_le hI hs ho
  refine f_istore_n (ls1 := [_, _, _, _]) C dX4_neededPosition_4 (by decide) rfl ?_
  refine e_aload_n C dX4_neededPosition_5 rfl ?_
  refine e_iconst (v := nI 4) C dX4_neededPosition_6 (by decide) ?_
  refine f_callVr (As := [_]) (ci := 3) C mi_yX3_has mv_yX3_has b_ml_X4_87 dX4_neededPosition_7 rfl (c_X3_has hk hs) (by decide) (v9 hk hs) rfl rfl (Nat.le_of_ble_eq_true rfl) ?_
  refine f_if_eq (tgt := 25) C dX4_neededPosition_10 (by decide) (fun h_10 => ?_) (fun h_10 => ?_)
  · skip
    refine e_iload_n C dX4_neededPosition_25 rfl ?_
    exact f_ir C hX dX4_neededPosition_26 (by rw [nedz, cif_neg (fun q => h_10 (by rw [hz.ses hs ho (by decide)]; exact q))]) rfl
  · skip
    refine e_aload_n C dX4_neededPosition_13 rfl ?_
    refine e_getr C (ci := 4) 0 rfl rfl rfl (by decide) b_X4 rfl b_fl_X4_12 (v1 hk) rfl dX4_neededPosition_14 ?_
    refine e_iload_n C dX4_neededPosition_17 rfl ?_
    refine e_iload_n C dX4_neededPosition_18 rfl ?_
    refine f_callVr (As := [_, _]) (ci := 1) C mi_yX1_versionAt mv_yX1_versionAt b_ml_X4_91 dX4_neededPosition_19 rfl (c_X1_versionAt hk (by rw [hz.cnt]; exact hI.2.1) hc200 hnl) (by decide) (v2 hk) rfl rfl (Nat.le_of_ble_eq_true rfl) ?_
    refine e_goto (tgt := 26) C dX4_neededPosition_22 (by decide) ?_
    exact f_ir C hX dX4_neededPosition_26 (by rw [nedz, cif_pos (by rw [hz.ses hs ho (by decide)] at h_10; exact h_10), lastw_rel hz (by omega)]) rfl
set_option maxRecDepth 100000 in
set_option maxHeartbeats 4000000 in
theorem c_X4_waitOf {E : EV} {l : Launch} {mem : MEM} {k : Nat} (hk : k < 8) {z : ZZ} (hz : RelS mem k z) {c : Nat} (hI : Inv z c) {s : Nat} (hs : s < 8) (ho : sz z s 0 = 1) {key n : Int32} : Ct E l yX4_waitOf (me_ws yX4_waitOf cX4_waitOf 5 (some .int)) 5 [rv (1, k, 0), rv (9, k, s), iv key, iv n] mem (Ret (iv (waitg z s key n)) mem) := by
  refine Ct.of (RC := RX4) (ls0 := [rv (1, k, 0), rv (9, k, s), iv key, iv n, uv]) mi_yX4_waitOf (Nat.le_of_ble_eq_true rfl) rfl (fun X C hX => ?_)
  refine e_iload_n C dX4_waitOf_0 rfl ?_
  refine e_bipush (v := nI 9) C dX4_waitOf_1 (by decide) ?_
  refine e_icmp_ne (tgt := 8) C dX4_waitOf_3 (by decide) (fun h_3 => ?_) (fun h_3 => ?_)
  · skip
    refine e_aload_n C dX4_waitOf_8 rfl ?_
    refine e_iload_n C dX4_waitOf_9 rfl ?_
    refine f_callVo (As := [_]) (ci := 4) C mi_yX4_findReplica mv_yX4_findReplica b_ml_X4_63 dX4_waitOf_10 rfl (c_X4_findReplica hk (by assumption)) (by decide) (v1 hk) rfl rfl (Nat.le_of_ble_eq_true rfl) (fun ri_10 hc_10 => ?_) (fun hc_10 => ?_)
    · skip
      obtain ⟨i_10, hi_10, rfl, ho_10, rfl⟩ := hc_10
      refine f_astore (ls1 := [_, _, _, _, _]) C dX4_waitOf_13 (by decide) rfl ?_
      refine e_aload C dX4_waitOf_15 rfl ?_
      refine e_ifnonnull (tgt := 25) C dX4_waitOf_17 (by decide) ?_
      refine e_aload C dX4_waitOf_25 rfl ?_
      refine e_aload_n C dX4_waitOf_27 rfl ?_
      refine e_aload_n C dX4_waitOf_28 rfl ?_
      refine e_iload_n C dX4_waitOf_29 rfl ?_
      refine f_callVr (As := [_, _]) (ci := 4) C mi_yX4_neededPosition mv_yX4_neededPosition b_ml_X4_95 dX4_waitOf_30 rfl (c_X4_neededPosition hk (by assumption) (by assumption) (by assumption) (by assumption)) (by decide) (v1 hk) rfl rfl (Nat.le_of_ble_eq_true rfl) ?_
      obtain ⟨pp, qq, hpp, hqq, epp, eqq, hst⟩ := hI.reps hi_10 ho_10
      have hc200 := hI.1
      have hnl := nedz_le (key := key) hI hs ho
      refine f_callVr (As := [_]) (ci := 2) C mi_yX2_ticksTo mv_yX2_ticksTo b_ml_X4_99 dX4_waitOf_33 rfl (c_X2_ticksTo hk hi_10 (by rw [hz.rep hi_10 (by decide)]; exact epp) (by rw [hz.rep hi_10 (by decide)]; exact eqq) (by omega) (by omega) hqq) (by decide) (v8 hk hi_10) rfl rfl (Nat.le_of_ble_eq_true rfl) ?_
      exact f_ir C hX dX4_waitOf_36 (by rw [waitg, cif_neg h_3, cif_pos ⟨_, hi_10, rfl, ho_10⟩, nt_nI (by omega), epp, nt_nI (by omega), hz.rep hi_10 (by decide), hz.rep hi_10 (by decide)]) rfl
    · skip
      refine f_astoreN (ls1 := [_, _, _, _, _]) C dX4_waitOf_13 (by decide) rfl ?_
      refine e_aloadN C dX4_waitOf_15 rfl ?_
      refine e_ifnonnullN C dX4_waitOf_17 ?_
      refine e_bipush (v := -6) C dX4_waitOf_20 (by decide) ?_
      refine e_goto (tgt := 36) C dX4_waitOf_22 (by decide) ?_
      exact f_ir C hX dX4_waitOf_36 (by rw [waitg, cif_neg h_3, cif_neg hc_10]) rfl
  · skip
    refine e_iconst (v := nI 0) C dX4_waitOf_6 (by decide) ?_
    exact f_ir C hX dX4_waitOf_7 (by rw [waitg, cif_pos h_3]) rfl
set_option maxRecDepth 100000 in
set_option maxHeartbeats 4000000 in
theorem c_X4_countAnswer {E : EV} {l : Launch} {mem : MEM} {k : Nat} (hk : k < 8) {z : ZZ} (hz : RelS mem k z) {n : Int32} : Ct E l yX4_countAnswer (me_ws yX4_countAnswer cX4_countAnswer 3 none) 3 [rv (1, k, 0), iv n] mem (fun r m => r = uv ∧ PoU k mem (canz z n) m) := by
  refine Ct.of (RC := RX4) (ls0 := [rv (1, k, 0), iv n, uv]) mi_yX4_countAnswer (Nat.le_of_ble_eq_true rfl) rfl (fun X C hX => ?_)
  refine e_aload_n C dX4_countAnswer_0 rfl ?_
  refine e_iload_n C dX4_countAnswer_1 rfl ?_
  refine f_callVo (As := [_]) (ci := 4) C mi_yX4_findReplica mv_yX4_findReplica b_ml_X4_63 dX4_countAnswer_2 rfl (c_X4_findReplica hk (by assumption)) (by decide) (v1 hk) rfl rfl (Nat.le_of_ble_eq_true rfl) (fun ri_2 hc_2 => ?_) (fun hc_2 => ?_)
  · skip
    obtain ⟨i_2, hi_2, rfl, ho_2, rfl⟩ := hc_2
    refine f_astore_n (ls1 := [_, _, _]) C dX4_countAnswer_5 (by decide) rfl ?_
    refine e_aload_n C dX4_countAnswer_6 rfl ?_
    refine e_ifnonnull (tgt := 23) C dX4_countAnswer_7 (by decide) ?_
    refine e_aload_n C dX4_countAnswer_23 rfl ?_
    refine e_dup C dX4_countAnswer_24 ?_
    refine e_geti C (ci := 2) 4 rfl rfl rfl (by decide) b_X2 rfl b_fl_X4_116 (v8 hk hi_2) rfl dX4_countAnswer_25 ?_
    refine e_iconst (v := nI 1) C dX4_countAnswer_28 (by decide) ?_
    refine e_iadd C dX4_countAnswer_29 ?_
    refine e_puti C (ci := 2) 4 rfl rfl rfl (by decide) b_X2 rfl b_fl_X4_116 (v8 hk hi_2) tyX2 tyX2_ok nmX2 rfl (.inl ⟨rfl, rfl⟩) rfl dX4_countAnswer_30 ?_
    exact f_vu C hX dX4_countAnswer_33 ⟨by rw [canz, cif_pos ⟨_, hi_2, rfl, ho_2⟩, nt_nI (by omega), hz.rep hi_2 (by decide)]; exact hz.s_rep hi_2 (by decide), FrS.one (blk_of (by decide) (by decide))⟩
  · skip
    refine f_astore_nN (ls1 := [_, _, _]) C dX4_countAnswer_5 (by decide) rfl ?_
    refine e_aload_nN C dX4_countAnswer_6 rfl ?_
    refine e_ifnonnullN C dX4_countAnswer_7 ?_
    refine e_aload_n C dX4_countAnswer_10 rfl ?_
    refine e_dup C dX4_countAnswer_11 ?_
    refine e_geti C (ci := 4) 3 rfl rfl rfl (by decide) b_X4 rfl b_fl_X4_30 (v1 hk) rfl dX4_countAnswer_12 ?_
    refine e_iconst (v := nI 1) C dX4_countAnswer_15 (by decide) ?_
    refine e_iadd C dX4_countAnswer_16 ?_
    refine e_puti C (ci := 4) 3 rfl rfl rfl (by decide) b_X4 rfl b_fl_X4_30 (v1 hk) tyX4 tyX4_ok nmX4 rfl (.inl ⟨rfl, rfl⟩) rfl dX4_countAnswer_17 ?_
    refine e_goto (tgt := 33) C dX4_countAnswer_20 (by decide) ?_
    exact f_vu C hX dX4_countAnswer_33 ⟨by rw [canz, cif_neg hc_2, hz.pa]; exact hz.s_pa, FrS.one (blk_of (by decide) (by decide))⟩
theorem c_X1_valueOf_g {E : EV} {l : Launch} {mem : MEM} {k : Nat} (hk : k < 8) {c : Nat} (hc : mem (2, k, 0) 0 = nI c) (hcl : c ≤ 200) {v : Nat} (hv : v ≤ c) : Ct E l yX1_valueOf (me_ws yX1_valueOf cX1_valueOf 2 (some .int)) 2 [rv (2, k, 0), iv (nI v)] mem (Ret (iv (if v = 0 then -6 else mem (4, k, 0) (v - 1))) mem) := by
  cases v with
  | zero => exact c_X1_valueOf_0 hk hc hcl
  | succ i => exact c_X1_valueOf hk hc hcl (by omega)
set_option maxRecDepth 100000 in
set_option maxHeartbeats 4000000 in
theorem c_X4_answer {E : EV} {l : Launch} {mem : MEM} {k : Nat} (hk : k < 8) {z : ZZ} (hz : RelS mem k z) {c : Nat} (hI : Inv z c) {s : Nat} (hs : s < 8) (ho : sz z s 0 = 1) {q p : Nat} (hq : q < 12) (hp : isPn z p) {t : Int32} : Ct E l yX4_answer (me_ws yX4_answer cX4_answer 7 (some .int)) 4 [rv (1, k, 0), rv (9, k, s), iv (nI q), iv (nI p), iv t] mem (fun r m => ∃ x : Int32, r = iv x ∧ PoI k mem (ansz z s q p t) (valz z (ansv z q p)) x m) := by
  obtain ⟨n, hn, en⟩ := posz_nat hI hp
  have hc200 := hI.1
  have hpl : p < 10 := by rcases hp with h | h <;> omega
  refine Ct.of (RC := RX4) (ls0 := [rv (1, k, 0), rv (9, k, s), iv (nI q), iv (nI p), iv t, uv, uv]) mi_yX4_answer (Nat.le_of_ble_eq_true rfl) rfl (fun X C hX => ?_)
  refine e_aload_n C dX4_answer_0 rfl ?_
  refine e_iload_n C dX4_answer_1 rfl ?_
  refine f_callVr (As := [_]) (ci := 4) C mi_yX4_positionOf mv_yX4_positionOf b_ml_X4_103 dX4_answer_2 rfl (c_X4_positionOf hk (by assumption)) (by decide) (v1 hk) rfl rfl (Nat.le_of_ble_eq_true rfl) ?_
  refine f_val (y := nI (n)) (by rw [posg_p hp, en]) ?_
  refine f_istore (ls1 := [_, _, _, _, _, _, _]) C dX4_answer_5 (by decide) rfl ?_
  refine e_aload_n C dX4_answer_7 rfl ?_
  refine e_getr C (ci := 4) 0 rfl rfl rfl (by decide) b_X4 rfl b_fl_X4_12 (v1 hk) rfl dX4_answer_8 ?_
  refine e_iload C dX4_answer_11 rfl ?_
  refine e_iload_n C dX4_answer_13 rfl ?_
  refine f_callVr (As := [_, _]) (ci := 1) C mi_yX1_versionAt mv_yX1_versionAt b_ml_X4_91 dX4_answer_14 rfl (c_X1_versionAt hk (by rw [hz.cnt]; exact hI.2.1) hc200 hn) (by decide) (v2 hk) rfl rfl (Nat.le_of_ble_eq_true rfl) ?_
  refine f_val (y := nI (ansv z q p)) (by rw [lastw_rel hz (by omega), ansv, en, nt_nI (by omega)]) ?_
  refine f_istore (ls1 := [_, _, _, _, _, _, _]) C dX4_answer_17 (by decide) rfl ?_
  refine e_aload_n C dX4_answer_19 rfl ?_
  refine e_iload_n C dX4_answer_20 rfl ?_
  refine e_iload C dX4_answer_21 rfl ?_
  refine e_iload C dX4_answer_23 rfl ?_
  refine f_callVv (As := [_, _, _]) (ci := 3) C mi_yX3_noteRead mv_yX3_noteRead b_ml_X4_106 dX4_answer_25 rfl (c_X3_noteRead hk hs hq) (by decide) (v9 hk hs) rfl rfl (Nat.le_of_ble_eq_true rfl) ?_
  have hr1 := ntR_ok (v := nI (ansv z q p)) (pos := nI n) hz hs ho hq
  have hvl : ansv z q p ≤ n := by rw [ansv, en, nt_nI (by omega)]; exact lastw_le _ _ _
  refine e_aload_n C dX4_answer_28 rfl ?_
  refine e_iload_n C dX4_answer_29 rfl ?_
  refine f_callVu (As := [_]) (ci := 4) C mi_yX4_countAnswer mv_yX4_countAnswer b_ml_X4_109 dX4_answer_30 rfl (c_X4_countAnswer hk hr1) (by decide) (v1 hk) rfl rfl (Nat.le_of_ble_eq_true rfl) (fun m_30 hc_30 => ?_)
  obtain ⟨hr2, hf2⟩ := hc_30
  have hr3 := hr2.s_lat (a := nI p) (b := nI (ansv z q p)) (c := t)
  have b1 : blk k (1, k, 0) := blk_of (by decide) (by decide)
  have hf3 := (((ntR_fr.trans hf2).set (v := nI p) (j := 4) b1).set (v := nI (ansv z q p)) (j := 5) b1).set (v := t) (j := 6) b1
  refine e_aload_n C dX4_answer_33 rfl ?_
  refine e_iload_n C dX4_answer_34 rfl ?_
  refine e_puti C (ci := 4) 4 rfl rfl rfl (by decide) b_X4 rfl b_fl_X4_34 (v1 hk) tyX4 tyX4_ok nmX4 rfl (.inl ⟨rfl, rfl⟩) rfl dX4_answer_35 ?_
  refine e_aload_n C dX4_answer_38 rfl ?_
  refine e_iload C dX4_answer_39 rfl ?_
  refine e_puti C (ci := 4) 5 rfl rfl rfl (by decide) b_X4 rfl b_fl_X4_37 (v1 hk) tyX4 tyX4_ok nmX4 rfl (.inl ⟨rfl, rfl⟩) rfl dX4_answer_41 ?_
  refine e_aload_n C dX4_answer_44 rfl ?_
  refine e_iload C dX4_answer_45 rfl ?_
  refine e_puti C (ci := 4) 6 rfl rfl rfl (by decide) b_X4 rfl b_fl_X4_40 (v1 hk) tyX4 tyX4_ok nmX4 rfl (.inl ⟨rfl, rfl⟩) rfl dX4_answer_47 ?_
  refine e_aload_n C dX4_answer_50 rfl ?_
  refine e_getr C (ci := 4) 0 rfl rfl rfl (by decide) b_X4 rfl b_fl_X4_12 (v1 hk) rfl dX4_answer_51 ?_
  refine e_iload C dX4_answer_54 rfl ?_
  have hcnt3 := hr3.cnt
  rw [show (upd (upd (upd (canz (nrz z s q (nI (ansv z q p)) (nI n)) (nI p)) 1 (nI p)) 2 (nI (ansv z q p))) 3 t) 0 = nI c from by show canz _ _ 0 = _; rw [canz_0, nrz_h (by decide)]; exact hI.2.1] at hcnt3
  refine f_callVr (As := [_]) (ci := 1) C mi_yX1_valueOf mv_yX1_valueOf b_ml_X4_113 dX4_answer_56 rfl (c_X1_valueOf_g hk hcnt3 hc200 (v := ansv z q p) (by omega)) (by decide) (v2 hk) rfl rfl (Nat.le_of_ble_eq_true rfl) ?_
  refine f_ii C hX dX4_answer_59 ⟨?_, by rw [ansz, en]; exact hr3, hf3⟩
  unfold valz
  by_cases h0 : ansv z q p = 0
  · rw [if_pos h0, if_pos h0]
  · rw [if_neg h0, if_neg h0, hr3.val (by omega), wz_h (by decide), wz_h (by decide), wz_h (by decide), canz_wz (fun h => isR_nt h), nrz_wz hs hq]
set_option maxRecDepth 100000 in
set_option maxHeartbeats 4000000 in
theorem lp_X4_copyFrom2 {E : EV} {l : Launch} {X : CX} {mem : MEM} {k k2 : Nat} (hk : k < 8) (hk2 : k2 < 8) (hn : k ≠ k2) (C : CK E X RX4 cX4_copyFrom 5 none 2) (hX : EX E X l (Ret uv (cpS mem k k2))) : ∀ (lpn : Nat) (i : Nat) (x3 x4 : VV), 8 - i < lpn → i ≤ 8 → G E X 5 56 [rv (1, k, 0), rv (1, k2, 0), iv (nI i), x3, x4] [] (cp2 mem k k2 i) := by
  intro lpn
  induction lpn with
  | zero => intro i x3 x4 hlpn; exact absurd hlpn (Nat.not_lt_zero _)
  | succ lpn ih =>
    intro i x3 x4 hlpn hi
    refine e_iload_n C dX4_copyFrom_56 rfl ?_
    refine e_bipush (v := nI 8) C dX4_copyFrom_57 (by decide) ?_
    refine e_icmp_ge (tgt := 98) C dX4_copyFrom_59 (by decide) (fun h_59 => ?_) (fun h_59 => ?_)
    · skip
      have nh_59 := xI_leD (by omega) (by omega) h_59
      refine e_aload_n C dX4_copyFrom_98 rfl ?_
      obtain rfl : i = 8 := by omega
      refine e_aload_n C dX4_copyFrom_99 rfl ?_
      refine e_geti C (ci := 4) 3 rfl rfl rfl (by decide) b_X4 rfl b_fl_X4_30 (v1 hk2) rfl dX4_copyFrom_100 ?_
      refine e_puti C (ci := 4) 3 rfl rfl rfl (by decide) b_X4 rfl b_fl_X4_30 (v1 hk) tyX4 tyX4_ok nmX4 rfl (.inl ⟨rfl, rfl⟩) rfl dX4_copyFrom_103 ?_
      refine e_aload_n C dX4_copyFrom_106 rfl ?_
      refine e_aload_n C dX4_copyFrom_107 rfl ?_
      refine e_geti C (ci := 4) 4 rfl rfl rfl (by decide) b_X4 rfl b_fl_X4_34 (v1 hk2) rfl dX4_copyFrom_108 ?_
      refine e_puti C (ci := 4) 4 rfl rfl rfl (by decide) b_X4 rfl b_fl_X4_34 (v1 hk) tyX4 tyX4_ok nmX4 rfl (.inl ⟨rfl, rfl⟩) rfl dX4_copyFrom_111 ?_
      refine e_aload_n C dX4_copyFrom_114 rfl ?_
      refine e_aload_n C dX4_copyFrom_115 rfl ?_
      refine e_geti C (ci := 4) 5 rfl rfl rfl (by decide) b_X4 rfl b_fl_X4_37 (v1 hk2) rfl dX4_copyFrom_116 ?_
      refine e_puti C (ci := 4) 5 rfl rfl rfl (by decide) b_X4 rfl b_fl_X4_37 (v1 hk) tyX4 tyX4_ok nmX4 rfl (.inl ⟨rfl, rfl⟩) rfl dX4_copyFrom_119 ?_
      refine e_aload_n C dX4_copyFrom_122 rfl ?_
      refine e_aload_n C dX4_copyFrom_123 rfl ?_
      refine e_geti C (ci := 4) 6 rfl rfl rfl (by decide) b_X4 rfl b_fl_X4_40 (v1 hk2) rfl dX4_copyFrom_124 ?_
      refine e_puti C (ci := 4) 6 rfl rfl rfl (by decide) b_X4 rfl b_fl_X4_40 (v1 hk) tyX4 tyX4_ok nmX4 rfl (.inl ⟨rfl, rfl⟩) rfl dX4_copyFrom_127 ?_
      have e1 : ∀ j, cp2 mem k k2 8 (1, k2, 0) j = mem (1, k2, 0) j := fun j => by simp [cp2]
      refine e_mem (EqV.trans (EqV.of ?_) (cp2_up hn)) (f_vr C hX dX4_copyFrom_130 rfl)
      simp [up, hn, Ne.symm hn, e1]
    · skip
      have nh_59 := xI_nleD (by omega) (by omega) h_59
      refine e_aload_n C dX4_copyFrom_62 rfl ?_
      refine e_getr C (ci := 4) 2 rfl rfl rfl (by decide) b_X4 rfl b_fl_X4_26 (v1 hk2) rfl dX4_copyFrom_63 ?_
      refine e_iload_n C dX4_copyFrom_66 rfl ?_
      refine f_aaldS C hk2 (by omega) dX4_copyFrom_67 ?_
      refine f_astore_n (ls1 := [_, _, _, _, _]) C dX4_copyFrom_68 (by decide) rfl ?_
      refine e_aload_n C dX4_copyFrom_69 rfl ?_
      refine e_getr C (ci := 4) 2 rfl rfl rfl (by decide) b_X4 rfl b_fl_X4_26 (v1 hk) rfl dX4_copyFrom_70 ?_
      refine e_iload_n C dX4_copyFrom_73 rfl ?_
      refine f_aaldS C hk (by omega) dX4_copyFrom_74 ?_
      refine f_astore (ls1 := [_, _, _, _, _]) C dX4_copyFrom_75 (by decide) rfl ?_
      refine e_aload_n C dX4_copyFrom_77 rfl ?_
      refine e_ifnull C dX4_copyFrom_78 ?_
      refine e_aload C dX4_copyFrom_81 rfl ?_
      refine e_ifnull C dX4_copyFrom_83 ?_
      refine e_aload C dX4_copyFrom_86 rfl ?_
      refine e_aload_n C dX4_copyFrom_88 rfl ?_
      refine f_callVv (As := [_]) (ci := 3) C mi_yX3_copyFrom mv_yX3_copyFrom b_ml_X4_126 dX4_copyFrom_89 rfl (c_X3_copyFrom hk hk2 (by omega) hn) (by decide) (v9 hk (by omega)) rfl rfl (Nat.le_of_ble_eq_true rfl) ?_
      refine f_iincn (ls1 := [_, _, _, _, _]) C dX4_copyFrom_92 rfl (by decide) rfl ?_
      refine e_goto (tgt := 56) C dX4_copyFrom_95 (by decide) ?_
      rw [cp2_s hn]; exact ih (i + 1) _ _ (by omega) (by omega)
set_option maxRecDepth 100000 in
set_option maxHeartbeats 4000000 in
theorem lp_X4_copyFrom1 {E : EV} {l : Launch} {X : CX} {mem : MEM} {k k2 : Nat} (hk : k < 8) (hk2 : k2 < 8) (hn : k ≠ k2) (C : CK E X RX4 cX4_copyFrom 5 none 2) (hX : EX E X l (Ret uv (cpS mem k k2))) : ∀ (lpn : Nat) (i : Nat) (x3 x4 : VV), 5 - i < lpn → i ≤ 5 → G E X 5 13 [rv (1, k, 0), rv (1, k2, 0), iv (nI i), x3, x4] [] (cp1 mem k k2 i) := by
  intro lpn
  induction lpn with
  | zero => intro i x3 x4 hlpn; exact absurd hlpn (Nat.not_lt_zero _)
  | succ lpn ih =>
    intro i x3 x4 hlpn hi
    refine e_iload_n C dX4_copyFrom_13 rfl ?_
    refine e_iconst (v := nI 5) C dX4_copyFrom_14 (by decide) ?_
    refine e_icmp_ge (tgt := 54) C dX4_copyFrom_15 (by decide) (fun h_15 => ?_) (fun h_15 => ?_)
    · skip
      have nh_15 := xI_leD (by omega) (by omega) h_15
      obtain rfl : i = 5 := by omega
      refine e_iconst (v := nI 0) C dX4_copyFrom_54 (by decide) ?_
      refine f_istore_n (ls1 := [_, _, _, _, _]) C dX4_copyFrom_55 (by decide) rfl ?_
      rw [cp2_0]; exact lp_X4_copyFrom2 hk hk2 hn C hX 9 0 _ _ (by decide) (by decide)
    · skip
      have nh_15 := xI_nleD (by omega) (by omega) h_15
      refine e_aload_n C dX4_copyFrom_18 rfl ?_
      refine e_getr C (ci := 4) 1 rfl rfl rfl (by decide) b_X4 rfl b_fl_X4_20 (v1 hk2) rfl dX4_copyFrom_19 ?_
      refine e_iload_n C dX4_copyFrom_22 rfl ?_
      refine f_aaldR C hk2 (by omega) dX4_copyFrom_23 ?_
      refine f_astore_n (ls1 := [_, _, _, _, _]) C dX4_copyFrom_24 (by decide) rfl ?_
      refine e_aload_n C dX4_copyFrom_25 rfl ?_
      refine e_getr C (ci := 4) 1 rfl rfl rfl (by decide) b_X4 rfl b_fl_X4_20 (v1 hk) rfl dX4_copyFrom_26 ?_
      refine e_iload_n C dX4_copyFrom_29 rfl ?_
      refine f_aaldR C hk (by omega) dX4_copyFrom_30 ?_
      refine f_astore (ls1 := [_, _, _, _, _]) C dX4_copyFrom_31 (by decide) rfl ?_
      refine e_aload_n C dX4_copyFrom_33 rfl ?_
      refine e_ifnull C dX4_copyFrom_34 ?_
      refine e_aload C dX4_copyFrom_37 rfl ?_
      refine e_ifnull C dX4_copyFrom_39 ?_
      refine e_aload C dX4_copyFrom_42 rfl ?_
      refine e_aload_n C dX4_copyFrom_44 rfl ?_
      refine f_callVv (As := [_]) (ci := 2) C mi_yX2_copyFrom mv_yX2_copyFrom b_ml_X4_123 dX4_copyFrom_45 rfl (c_X2_copyFrom hk hk2 (by omega) hn) (by decide) (v8 hk (by omega)) rfl rfl (Nat.le_of_ble_eq_true rfl) ?_
      refine f_iincn (ls1 := [_, _, _, _, _]) C dX4_copyFrom_48 rfl (by decide) rfl ?_
      refine e_goto (tgt := 13) C dX4_copyFrom_51 (by decide) ?_
      rw [cp1_s hn]; exact ih (i + 1) _ _ (by omega) (by omega)
set_option maxRecDepth 100000 in
set_option maxHeartbeats 4000000 in
theorem c_X4_copyFrom {E : EV} {l : Launch} {mem : MEM} {k k2 : Nat} (hk : k < 8) (hk2 : k2 < 8) (hn : k ≠ k2) : Ct E l yX4_copyFrom (me_ws yX4_copyFrom cX4_copyFrom 5 none) 2 [rv (1, k, 0), rv (1, k2, 0)] mem (Ret uv (cpS mem k k2)) := by
  refine Ct.of (RC := RX4) (ls0 := [rv (1, k, 0), rv (1, k2, 0), uv, uv, uv]) mi_yX4_copyFrom (Nat.le_of_ble_eq_true rfl) rfl (fun X C hX => ?_)
  refine e_aload_n C dX4_copyFrom_0 rfl ?_
  refine e_getr C (ci := 4) 0 rfl rfl rfl (by decide) b_X4 rfl b_fl_X4_12 (v1 hk) rfl dX4_copyFrom_1 ?_
  refine e_aload_n C dX4_copyFrom_4 rfl ?_
  refine e_getr C (ci := 4) 0 rfl rfl rfl (by decide) b_X4 rfl b_fl_X4_12 (v1 hk2) rfl dX4_copyFrom_5 ?_
  refine f_callVv (As := [_]) (ci := 1) C mi_yX1_copyFrom mv_yX1_copyFrom b_ml_X4_119 dX4_copyFrom_8 rfl (c_X1_copyFrom hk hk2 (by assumption)) (by decide) (v2 hk) rfl rfl (Nat.le_of_ble_eq_true rfl) ?_
  refine e_iconst (v := nI 0) C dX4_copyFrom_11 (by decide) ?_
  refine f_istore_n (ls1 := [_, _, _, _, _]) C dX4_copyFrom_12 (by decide) rfl ?_
  rw [cp1_0]; exact lp_X4_copyFrom1 hk hk2 hn C hX 6 0 _ _ (by decide) (by decide)
