/-! ===== the model's past ===== -/
def shf (P : Nat → Int32) (k : Nat) : Nat → Int32 := fun j => if j < k then P (j + 894) else P j
theorem shf_0 {P : Nat → Int32} : shf P 0 = P := by funext j; simp [shf]
theorem shf_s {P : Nat → Int32} {k : Nat} : upd (shf P k) k (shf P k (k + 894)) = shf P (k + 1) := by
  funext j
  unfold upd shf
  by_cases h : j = k
  · rw [if_pos h, if_neg (by omega), if_pos (by omega), h]
  · rw [if_neg h]
    by_cases h2 : j < k
    · rw [if_pos h2, if_pos (by omega)]
    · rw [if_neg h2, if_neg (by omega)]
def blo (P : Nat → Int32) (n : Nat) (z : ZZ) (k : Nat) : Nat → Int32 := fun j => if 894 * n ≤ j ∧ j < 894 * n + k then z (j - 894 * n) else P j
theorem blo_0 {P : Nat → Int32} {n : Nat} {z : ZZ} : blo P n z 0 = P := by
  funext j
  unfold blo
  rw [if_neg (by omega)]
theorem blo_s {P : Nat → Int32} {n k : Nat} {z : ZZ} : upd (blo P n z k) (n * 894 + k) (z k) = blo P n z (k + 1) := by
  funext j
  unfold upd blo
  by_cases h : j = n * 894 + k
  · rw [if_pos h, if_pos (by omega), h]
    congr 1
    omega
  · rw [if_neg h]
    by_cases h2 : 894 * n ≤ j ∧ j < 894 * n + k
    · rw [if_pos h2, if_pos (by omega)]
    · rw [if_neg h2, if_neg (by omega)]
def cpr (z K : ZZ) (k : Nat) : ZZ := fun j => if j < k then z j else K j
theorem cpr_0 {z K : ZZ} : cpr z K 0 = K := by funext j; simp [cpr]
theorem cpr_s {z K : ZZ} {k : Nat} : upd (cpr z K k) k (z k) = cpr z K (k + 1) := by
  funext j
  unfold upd cpr
  by_cases h : j = k
  · rw [if_pos h, if_pos (by omega), h]
  · rw [if_neg h]
    by_cases h2 : j < k
    · rw [if_pos h2, if_pos (by omega)]
    · rw [if_neg h2, if_neg (by omega)]
theorem RMr.of {mem m : MEM} {h : HP} {k : Option ZZ} {t : TX} (h20 : m (20, 0, 0) = mem (20, 0, 0)) (h21 : m (21, 0, 0) = mem (21, 0, 0)) (h17 : ∀ j, j ≠ 2 → m (17, 0, 0) j = mem (17, 0, 0) j) {r : HP} (hr : RMr mem (r, k, t)) (hh : RMh m h) : RMr m (h, k, t) := by
  obtain ⟨-, hk, h1, h2, h3⟩ := hr
  refine ⟨hh, ?_, h1, by rw [h17 6 (by decide)]; exact h2, fun j hj => by rw [h21]; exact h3 j hj⟩
  revert hk
  show RMk mem k → RMk m k
  cases k with
  | none => intro hk; show m (17, 0, 0) 4 = 0; rw [h17 4 (by decide)]; exact hk
  | some y => intro hk; exact ⟨by rw [h17 4 (by decide)]; exact hk.1, fun j hj => by rw [h20]; exact hk.2 j hj⟩
theorem RMr.mz {mem : MEM} {z : ZZ} {r : HP × Option ZZ × TX} : RMr (mz mem z) r ↔ RMr mem r := by
  unfold RMr RMh RMk RMt
  rw [mz_o (by decide), mz_o (by decide), mz_o (by decide), mz_o (by decide)]
def Rec (mem : MEM) (z : ZZ) (r : HP × Option ZZ × TX) : MEM → Prop := fun m => ∃ m0, m = mz m0 z ∧ RMr m0 (psh r.1 z, r.2) ∧ FrM mem m0
/-- what the row's array, the past and its count are behind a record -/
theorem rec_fin {mem M1 : MEM} {z : ZZ} {r : HP × Option ZZ × TX} {n : Nat} (hr : RMr mem r) (h18 : M1 (18, 0, 0) = z) (ho : ∀ id : ID, id ≠ (17, 0, 0) → id ≠ (18, 0, 0) → id ≠ (19, 0, 0) → M1 id = mem id) (h17 : ∀ j, j ≠ 2 → M1 (17, 0, 0) j = mem (17, 0, 0) j)
    (hn : (r.1.1 = n ∧ n < 5 ∧ M1 (19, 0, 0) = mem (19, 0, 0)) ∨ (r.1.1 = 5 ∧ n = 4 ∧ M1 (19, 0, 0) = shf (mem (19, 0, 0)) 3576)) : Rec mem z r (up (sc M1 (19, 0, 0) (blo (M1 (19, 0, 0)) n z 894)) (17, 0, 0) 2 (nI (n + 1))) := by
  obtain ⟨h, k, t⟩ := r
  have hm := hr.1
  obtain ⟨a1, a2, a3⟩ := hm
  generalize hM : up (sc M1 (19, 0, 0) (blo (M1 (19, 0, 0)) n z 894)) (17, 0, 0) 2 (nI (n + 1)) = M
  have q18 : M (18, 0, 0) = z := by rw [← hM, up_sco (by decide), sc_o (by decide)]; exact (by funext b; simp [up, h18] : up M1 (17, 0, 0) 2 (nI (n + 1)) (18, 0, 0) = z)
  have q17 : ∀ j, j ≠ 2 → M (17, 0, 0) j = mem (17, 0, 0) j := fun j hj => by rw [← hM, up_sco (by decide), sc_o (by decide), ← h17 j hj]; simp [up, hj]
  have q172 : M (17, 0, 0) 2 = nI (n + 1) := by rw [← hM]; simp [up]
  have q19 : M (19, 0, 0) = blo (M1 (19, 0, 0)) n z 894 := by rw [← hM, up_sco (by decide), sc_s]
  have qo : ∀ id : ID, id ≠ (17, 0, 0) → id ≠ (18, 0, 0) → id ≠ (19, 0, 0) → M id = mem id := fun id h1 h2 h3 => by
    rw [← hM, up_sco (by decide), sc_o h3, ← ho id h1 h2 h3]
    funext b; simp [up, h1]
  refine ⟨M, (mz_self q18).symm, RMr.of (qo _ (by decide) (by decide) (by decide)) (qo _ (by decide) (by decide) (by decide)) q17 hr ?_, fun id hid => qo id (fun e => by rw [e] at hid; revert hid; decide) (fun e => by rw [e] at hid; revert hid; decide) (fun e => by rw [e] at hid; revert hid; decide)⟩
  obtain ⟨hn1, P⟩ := h
  simp only at a1 a2 a3 hn
  rcases hn with ⟨rfl, h5, e19⟩ | ⟨rfl, rfl, e19⟩
  · have e : psh (hn1, P) z = (hn1 + 1, fun i => if i = hn1 then z else P i) := if_pos h5
    show RMh M (psh (hn1, P) z)
    rw [e]
    refine ⟨h5, q172, fun i hi j hj => ?_⟩
    have hi : i < hn1 + 1 := hi
    rw [q19, e19]
    unfold blo
    by_cases hin : i = hn1
    · subst hin
      rw [if_pos (by omega)]
      simp only [if_true]
      congr 1
      omega
    · rw [if_neg (by omega)]
      simp only [if_neg hin]
      exact a3 i (by omega) j hj
  · have e : psh (5, P) z = (5, fun i => if i = 4 then z else P (i + 1)) := if_neg (Nat.lt_irrefl 5)
    show RMh M (psh (5, P) z)
    rw [e]
    refine ⟨Nat.le_refl 5, q172, fun i hi j hj => ?_⟩
    have hi : i < 5 := hi
    rw [q19, e19]
    unfold blo
    by_cases hin : i = 4
    · subst hin
      rw [if_pos (by omega)]
      simp only [if_true]
      exact congrArg z (by omega)
    · rw [if_neg (by omega)]
      simp only [if_neg hin]
      unfold shf
      rw [if_pos (by omega), show 894 * i + j + 894 = 894 * (i + 1) + j by omega]
      exact a3 (i + 1) (by omega) j hj
theorem RM.ok {mem m0 : MEM} {a : AS} {f : Int32 × ZZ} {v : Int32} {z' : ZZ} (hr : RMr m0 (psh a.2.1 a.1, a.2.2)) (hf : FrM mem m0) (hv : f = (v, z')) (hne : ¬ isEr v) : PoM mem (und f a) f.1 v (mz m0 z') := by
  subst hv
  rw [und_ok hne]
  exact ⟨rfl, ⟨mz_18, RMr.mz.mpr hr⟩, fun id hid => by rw [mz_o (fun e => by rw [e] at hid; revert hid; decide)]; exact hf id hid⟩
theorem RM.er {mem : MEM} {a : AS} {f : Int32 × ZZ} {v : Int32} (hM : RM mem a) (hv : f = (v, a.1)) (he : isEr v) : PoM mem (und f a) f.1 v (mz mem a.1) := by
  subst hv
  rw [und_er he rfl, mz_self hM.1]
  exact ⟨rfl, hM, FrM.rfl'⟩

set_option maxRecDepth 100000 in
set_option maxHeartbeats 4000000 in
theorem lp_X7_record2 {E : EV} {l : Launch} {X : CX} {mem M1 : MEM} {z : ZZ} {r : HP × Option ZZ × TX} {n : Nat} (hn5 : n < 5) (h18 : M1 (18, 0, 0) = z) (h2 : M1 (17, 0, 0) 2 = nI n) (hfin : Rec mem z r (up (sc M1 (19, 0, 0) (blo (M1 (19, 0, 0)) n z 894)) (17, 0, 0) 2 (nI (n + 1)))) (C : CK E X RX7 cX7_record 2 none 1) (hX : EX E X l (fun rr mm => rr = uv ∧ Rec mem z r mm)) : ∀ (lpn : Nat) (i : Nat), 894 - i < lpn → i ≤ 894 → G E X 2 51 [rv (17, 0, 0), iv (nI i)] [] (sc M1 (19, 0, 0) (blo (M1 (19, 0, 0)) n z i)) := by
  intro lpn
  induction lpn with
  | zero => intro i hlpn; exact absurd hlpn (Nat.not_lt_zero _)
  | succ lpn ih =>
    intro i hlpn hi
    refine e_iload_n C dX7_record_51 rfl ?_
    refine e_sipush (v := nI 894) C dX7_record_52 (by decide) ?_
    refine e_icmp_ge (tgt := 85) C dX7_record_55 (by decide) (fun h_55 => ?_) (fun h_55 => ?_)
    · skip
      have nh_55 := xI_leD (by omega) (by omega) h_55
      refine e_aload_n C dX7_record_85 rfl ?_
      refine e_dup C dX7_record_86 ?_
      refine e_geti C (ci := 7) 2 rfl rfl rfl (by decide) b_X7 rfl b_fl_X7_41 v17 rfl dX7_record_87 ?_
      refine f_val (y := nI (n)) (by rw [sc_o (by decide)]; exact h2) ?_
      refine e_iconst (v := nI 1) C dX7_record_90 (by decide) ?_
      refine f_iaddn C dX7_record_91 ?_
      refine e_puti C (ci := 7) 2 rfl rfl rfl (by decide) b_X7 rfl b_fl_X7_41 v17 tyX7 tyX7_ok nmX7 rfl (.inl ⟨rfl, rfl⟩) rfl dX7_record_92 ?_
      obtain rfl : i = 894 := by omega
      exact f_vu C hX dX7_record_95 hfin
    · skip
      have nh_55 := xI_nleD (by omega) (by omega) h_55
      refine e_aload_n C dX7_record_58 rfl ?_
      refine e_getr C (ci := 7) 1 rfl rfl rfl (by decide) b_X7 rfl b_fl_X7_13 v17 rfl dX7_record_59 ?_
      refine e_aload_n C dX7_record_62 rfl ?_
      refine e_geti C (ci := 7) 2 rfl rfl rfl (by decide) b_X7 rfl b_fl_X7_41 v17 rfl dX7_record_63 ?_
      refine f_val (y := nI (n)) (by rw [sc_o (by decide)]; exact h2) ?_
      refine e_sipush (v := nI 894) C dX7_record_66 (by decide) ?_
      refine f_imuln C dX7_record_69 ?_
      refine e_iload_n C dX7_record_70 rfl ?_
      refine f_iaddn C dX7_record_71 ?_
      refine e_aload_n C dX7_record_72 rfl ?_
      refine e_getr C (ci := 7) 0 rfl rfl rfl (by decide) b_X7 rfl b_fl_X7_7 v17 rfl dX7_record_73 ?_
      refine e_iload_n C dX7_record_76 rfl ?_
      refine f_iald C rfl v18 (by omega) (by decide) dX7_record_77 ?_
      refine f_iast C rfl v19 (by omega) (by decide) dX7_record_78 ?_
      rw [sc_o (mem := M1) (id := (19, 0, 0)) (a := (18, 0, 0)) (by decide), h18, up_sc, blo_s]
      refine f_iincn (ls1 := [_, _]) C dX7_record_79 rfl (by decide) rfl ?_
      refine e_goto (tgt := 51) C dX7_record_82 (by decide) ?_
      exact ih (i + 1) (by omega) (by omega)
set_option maxRecDepth 100000 in
set_option maxHeartbeats 4000000 in
theorem c_X7_record_a {E : EV} {l : Launch} {mem : MEM} {z : ZZ} {r : HP × Option ZZ × TX} (hr : RMr mem r) (hn5 : r.1.1 < 5) : Ct E l yX7_record (me_ws yX7_record cX7_record 2 none) 1 [rv (17, 0, 0)] (mz mem z) (fun rr mm => rr = uv ∧ Rec mem z r mm) := by
  refine Ct.of (RC := RX7) (ls0 := [rv (17, 0, 0), uv]) mi_yX7_record (Nat.le_of_ble_eq_true rfl) rfl (fun X C hX => ?_)
  refine e_aload_n C dX7_record_0 rfl ?_
  refine e_geti C (ci := 7) 2 rfl rfl rfl (by decide) b_X7 rfl b_fl_X7_41 v17 rfl dX7_record_1 ?_
  refine f_val (y := nI (r.1.1)) (by rw [mz_o (by decide)]; exact hr.1.2.1) ?_
  refine e_iconst (v := nI 5) C dX7_record_4 (by decide) ?_
  refine e_icmp_ne (tgt := 49) C dX7_record_5 (by decide) (fun h_5 => ?_) (fun h_5 => ?_)
  · skip
    have nh_5 := xI_neD h_5
    refine e_iconst (v := nI 0) C dX7_record_49 (by decide) ?_
    refine f_istore_n (ls1 := [_, _]) C dX7_record_50 (by decide) rfl ?_
    rw [show mz mem z = sc (mz mem z) (19, 0, 0) (blo ((mz mem z) (19, 0, 0)) r.1.1 z 0) from by rw [blo_0, sc_self rfl]]; exact lp_X7_record2 hn5 mz_18 (by rw [mz_o (by decide)]; exact hr.1.2.1) (rec_fin hr mz_18 (fun id _ h2 _ => mz_o h2) (fun j _ => by rw [mz_o (by decide)]) (Or.inl ⟨rfl, hn5, mz_o (by decide)⟩)) C hX 895 0 (by decide) (by decide)
  · skip
    have nh_5 := xI_inj (by omega) (by omega) h_5
    omega
set_option maxRecDepth 100000 in
set_option maxHeartbeats 4000000 in
theorem lp_X7_record1 {E : EV} {l : Launch} {X : CX} {mem : MEM} {z : ZZ} {r : HP × Option ZZ × TX} (hr : RMr mem r) (h5 : r.1.1 = 5) (C : CK E X RX7 cX7_record 2 none 1) (hX : EX E X l (fun rr mm => rr = uv ∧ Rec mem z r mm)) : ∀ (lpn : Nat) (i : Nat), 3576 - i < lpn → i ≤ 3576 → G E X 2 10 [rv (17, 0, 0), iv (nI i)] [] (sc (mz mem z) (19, 0, 0) (shf (mem (19, 0, 0)) i)) := by
  intro lpn
  induction lpn with
  | zero => intro i hlpn; exact absurd hlpn (Nat.not_lt_zero _)
  | succ lpn ih =>
    intro i hlpn hi
    refine e_iload_n C dX7_record_10 rfl ?_
    refine e_sipush (v := nI 3576) C dX7_record_11 (by decide) ?_
    refine e_icmp_ge (tgt := 39) C dX7_record_14 (by decide) (fun h_14 => ?_) (fun h_14 => ?_)
    · skip
      have nh_14 := xI_leD (by omega) (by omega) h_14
      obtain rfl : i = 3576 := by omega
      refine e_aload_n C dX7_record_39 rfl ?_
      refine e_dup C dX7_record_40 ?_
      refine e_geti C (ci := 7) 2 rfl rfl rfl (by decide) b_X7 rfl b_fl_X7_41 v17 rfl dX7_record_41 ?_
      refine f_val (y := nI (5)) (by rw [sc_o (by decide), mz_o (by decide)]; have := hr.1.2.1; rw [h5] at this; exact this) ?_
      refine e_iconst (v := nI 1) C dX7_record_44 (by decide) ?_
      refine f_isubn C (by omega) dX7_record_45 ?_
      refine e_puti C (ci := 7) 2 rfl rfl rfl (by decide) b_X7 rfl b_fl_X7_41 v17 tyX7 tyX7_ok nmX7 rfl (.inl ⟨rfl, rfl⟩) rfl dX7_record_46 ?_
      refine e_iconst (v := nI 0) C dX7_record_49 (by decide) ?_
      refine f_istore_n (ls1 := [_, _]) C dX7_record_50 (by decide) rfl ?_
      generalize hM1 : up (sc (mz mem z) (19, 0, 0) (shf (mem (19, 0, 0)) 3576)) (17, 0, 0) 2 (nI (5 - 1)) = M1
      have e18 : M1 (18, 0, 0) = z := by rw [← hM1, up_sco (by decide), sc_o (by decide), up_mzo (by decide), mz_18]
      have e19 : M1 (19, 0, 0) = shf (mem (19, 0, 0)) 3576 := by rw [← hM1, up_sco (by decide), sc_s]
      have eo : ∀ id : ID, id ≠ (17, 0, 0) → id ≠ (18, 0, 0) → id ≠ (19, 0, 0) → M1 id = mem id := fun id h1 h2 h3 => by rw [← hM1, up_sco (by decide), sc_o h3, up_mzo (by decide), mz_o h2]; funext b; simp [up, h1]
      have e17 : ∀ j, j ≠ 2 → M1 (17, 0, 0) j = mem (17, 0, 0) j := fun j hj => by rw [← hM1, up_sco (by decide), sc_o (by decide), up_mzo (by decide), mz_o (by decide)]; simp [up, hj]
      have e2 : M1 (17, 0, 0) 2 = nI 4 := by rw [← hM1]; simp [up]
      rw [show M1 = sc M1 (19, 0, 0) (blo (M1 (19, 0, 0)) 4 z 0) from by rw [blo_0, sc_self rfl]]
      exact lp_X7_record2 (by decide) e18 e2 (rec_fin hr e18 eo e17 (Or.inr ⟨h5, rfl, e19⟩)) C hX 895 0 (by decide) (by decide)
    · skip
      have nh_14 := xI_nleD (by omega) (by omega) h_14
      refine e_aload_n C dX7_record_17 rfl ?_
      refine e_getr C (ci := 7) 1 rfl rfl rfl (by decide) b_X7 rfl b_fl_X7_13 v17 rfl dX7_record_18 ?_
      refine e_iload_n C dX7_record_21 rfl ?_
      refine e_aload_n C dX7_record_22 rfl ?_
      refine e_getr C (ci := 7) 1 rfl rfl rfl (by decide) b_X7 rfl b_fl_X7_13 v17 rfl dX7_record_23 ?_
      refine e_iload_n C dX7_record_26 rfl ?_
      refine e_sipush (v := nI 894) C dX7_record_27 (by decide) ?_
      refine f_iaddn C dX7_record_30 ?_
      refine f_iald C rfl v19 (by omega) (by decide) dX7_record_31 ?_
      refine f_iast C rfl v19 (by omega) (by decide) dX7_record_32 ?_
      rw [sc_s, up_sc, shf_s]
      refine f_iincn (ls1 := [_, _]) C dX7_record_33 rfl (by decide) rfl ?_
      refine e_goto (tgt := 10) C dX7_record_36 (by decide) ?_
      exact ih (i + 1) (by omega) (by omega)
set_option maxRecDepth 100000 in
set_option maxHeartbeats 4000000 in
theorem c_X7_record_b {E : EV} {l : Launch} {mem : MEM} {z : ZZ} {r : HP × Option ZZ × TX} (hr : RMr mem r) (h5 : r.1.1 = 5) : Ct E l yX7_record (me_ws yX7_record cX7_record 2 none) 1 [rv (17, 0, 0)] (mz mem z) (fun rr mm => rr = uv ∧ Rec mem z r mm) := by
  refine Ct.of (RC := RX7) (ls0 := [rv (17, 0, 0), uv]) mi_yX7_record (Nat.le_of_ble_eq_true rfl) rfl (fun X C hX => ?_)
  refine e_aload_n C dX7_record_0 rfl ?_
  refine e_geti C (ci := 7) 2 rfl rfl rfl (by decide) b_X7 rfl b_fl_X7_41 v17 rfl dX7_record_1 ?_
  refine f_val (y := nI (5)) (by rw [mz_o (by decide)]; have := hr.1.2.1; rw [h5] at this; exact this) ?_
  refine e_iconst (v := nI 5) C dX7_record_4 (by decide) ?_
  refine e_icmp_ne (tgt := 49) C dX7_record_5 (by decide) (fun h_5 => ?_) (fun h_5 => ?_)
  · skip
    exact absurd h_5 (by decide)
  · skip
    have nh_5 := xI_inj (by omega) (by omega) h_5
    refine e_iconst (v := nI 0) C dX7_record_8 (by decide) ?_
    refine f_istore_n (ls1 := [_, _]) C dX7_record_9 (by decide) rfl ?_
    rw [show mz mem z = sc (mz mem z) (19, 0, 0) (shf (mem (19, 0, 0)) 0) from by rw [shf_0, sc_self (mz_o (by decide))]]; exact lp_X7_record1 hr h5 C hX 3577 0 (by decide) (by decide)
theorem c_X7_record {E : EV} {l : Launch} {mem : MEM} {z : ZZ} {r : HP × Option ZZ × TX} (hr : RMr mem r) : Ct E l yX7_record (me_ws yX7_record cX7_record 2 none) 1 [rv (17, 0, 0)] (mz mem z) (fun rr mm => rr = uv ∧ Rec mem z r mm) := by
  by_cases h : r.1.1 = 5
  · exact c_X7_record_b hr h
  · exact c_X7_record_a hr (by have := hr.1.1; omega)
