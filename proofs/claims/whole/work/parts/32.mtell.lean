/-! ===== the model: undo, save, restore; what it tells ===== -/
def pq (P : Nat → Int32) (n : Nat) : ZZ := fun j => P (n * 894 + j)
theorem sc_eqv {m : MEM} {id : ID} {f g : Nat → Int32} (h : ∀ j, j < me_wd id.1 → f j = g j) : EqV (sc m id f) (sc m id g) := by
  intro a ha j hj hs
  by_cases e : a = id
  · subst e; rw [sc_s, sc_s]; exact h j hj
  · rw [sc_o e, sc_o e]
def PmM (mem : MEM) (p : Int32 × AS) : Int32 → MEM → Prop := PoM mem p.2 p.1
theorem un_fin {mem : MEM} {a : AS} (hM : RM mem a) (h0 : 0 < a.2.1.1) : PoM mem (unA a).2 (unA a).1 (nI (a.2.1.1 - 1)) (sc (up mem (17, 0, 0) 2 (nI (a.2.1.1 - 1))) (18, 0, 0) (a.2.1.2 (a.2.1.1 - 1))) := by
  obtain ⟨z, ⟨n, P⟩, k, t⟩ := a
  obtain ⟨h18, hr⟩ := hM
  simp only at h0 ⊢
  unfold unA
  rw [if_neg (by show ¬ n = 0; omega)]
  refine ⟨rfl, ⟨sc_s, ?_⟩, fun id hid => ?_⟩
  · refine RMr.of (mem := mem) (by rw [sc_o (by decide)]; funext b; simp [up]) (by rw [sc_o (by decide)]; funext b; simp [up]) (fun j hj => by rw [sc_o (by decide)]; simp [up, hj]) hr ?_
    obtain ⟨⟨a1, a2, a3⟩, -⟩ := hr
    refine ⟨by show n - 1 ≤ 5; have : n ≤ 5 := a1; omega, by rw [sc_o (by decide)]; simp [up], fun i hi j hj => ?_⟩
    have hi : i < n - 1 := hi
    rw [sc_o (by decide)]
    have := a3 i (by show i < n; omega) j hj
    simp [up]
    exact this
  · rw [sc_o (fun e => by rw [e] at hid; revert hid; decide)]
    have : id ≠ (17, 0, 0) := fun e => by rw [e] at hid; revert hid; decide
    funext b
    simp [up, this]
theorem sv_fin {mem : MEM} {a : AS} (hM : RM mem a) {K : ZZ} : PoM mem (a.1, a.2.1, some a.1, a.2.2.2) (a.1 0) (a.1 0) (sc (up mem (17, 0, 0) 4 (nI 1)) (20, 0, 0) (cpr a.1 K 894)) := by
  obtain ⟨z, h, k, t⟩ := a
  obtain ⟨h18, ⟨a1, a2, a3⟩, -, b1, b2, b3⟩ := hM
  have q : ∀ j, j ≠ 4 → up mem (17, 0, 0) 4 (nI 1) (17, 0, 0) j = mem (17, 0, 0) j := fun j hj => by simp [up, hj]
  have qo : ∀ id : ID, id ≠ (17, 0, 0) → up mem (17, 0, 0) 4 (nI 1) id = mem id := fun id h => by funext b; simp [up, h]
  refine ⟨rfl, ⟨by rw [sc_o (by decide), qo _ (by decide)]; exact h18, ⟨a1, by rw [sc_o (by decide), q 2 (by decide)]; exact a2, fun i hi j hj => by rw [sc_o (by decide), qo _ (by decide)]; exact a3 i hi j hj⟩, ⟨by rw [sc_o (by decide)]; simp [up]; rfl, fun j hj => by rw [sc_s]; exact if_pos hj⟩, b1, by rw [sc_o (by decide), q 6 (by decide)]; exact b2, fun j hj => by rw [sc_o (by decide), qo _ (by decide)]; exact b3 j hj⟩, fun id hid => ?_⟩
  rw [sc_o (fun e => by rw [e] at hid; revert hid; decide), qo _ (fun e => by rw [e] at hid; revert hid; decide)]
theorem waitg_no {z : ZZ} {s i : Nat} {key : Int32} (hi : i < 5) (h : ¬ rz z i 0 = 1) : waitg z s key (nI i) = -6 := by
  unfold waitg
  rw [cif_neg (xI_ne (by omega) (by decide) (by omega)), cif_neg (fun q => h ((isR_nat (by omega)).mp q).2)]
theorem fLog_n {z : ZZ} {c i q : Nat} (hI : Inv z c) (hi : i < c) (hq : q < 3) : fLog z (nI (i + 1)) (nI q) = wz z i q := by
  have hc := hI.1
  unfold fLog
  rw [cif_pos ⟨nI_le (by omega) (by omega), by rw [hI.2.1]; exact nI_le (by omega) (by omega)⟩, nt_nI (by omega), Nat.add_sub_cancel]
  match q, hq with
  | 0, _ => rw [cif_pos rfl]
  | 1, _ => rw [cif_neg (by decide), cif_pos rfl]
  | 2, _ => rw [cif_neg (by decide), cif_neg (by decide), cif_pos rfl]
theorem fSes_n {z : ZZ} {i q : Nat} (hi : i < 8) (ho : sz z i 0 = 1) (hq : q ≤ 8) : fSes z (nI i) (nI q) = if q < 5 then sz z i (1 + q) else if q = 5 then nI (needz z i) else sz z i q := by
  unfold fSes
  rw [cif_pos ⟨i, hi, rfl, ho⟩, nt_nI (by omega)]
  match q, hq with
  | 0, _ => rw [cif_pos rfl]; rfl
  | 1, _ => rw [cif_neg (by decide), cif_pos rfl]; rfl
  | 2, _ => rw [cif_neg (by decide), cif_neg (by decide), cif_pos rfl]; rfl
  | 3, _ => rw [cif_neg (by decide), cif_neg (by decide), cif_neg (by decide), cif_pos rfl]; rfl
  | 4, _ => rw [cif_neg (by decide), cif_neg (by decide), cif_neg (by decide), cif_neg (by decide), cif_pos rfl]; rfl
  | 5, _ => rw [cif_neg (by decide), cif_neg (by decide), cif_neg (by decide), cif_neg (by decide), cif_neg (by decide), cif_pos rfl]; rfl
  | 6, _ => rw [cif_neg (by decide), cif_neg (by decide), cif_neg (by decide), cif_neg (by decide), cif_neg (by decide), cif_neg (by decide), cif_pos rfl]; rfl
  | 7, _ => rw [cif_neg (by decide), cif_neg (by decide), cif_neg (by decide), cif_neg (by decide), cif_neg (by decide), cif_neg (by decide), cif_neg (by decide), cif_pos rfl]; rfl
  | 8, _ => rw [cif_neg (by decide), cif_neg (by decide), cif_neg (by decide), cif_neg (by decide), cif_neg (by decide), cif_neg (by decide), cif_neg (by decide), cif_neg (by decide), cif_pos rfl]; rfl
theorem fSes_no {z : ZZ} {n p : Int32} (hn : isS z n) (h : ¬ (nI 0 ≤ p ∧ p ≤ nI 8)) : fSes z n p = -2 := by
  unfold fSes
  rw [cif_pos hn, cif_neg (fun e => h (by rw [e]; decide)), cif_neg (fun e => h (by rw [e]; decide)), cif_neg (fun e => h (by rw [e]; decide)), cif_neg (fun e => h (by rw [e]; decide)), cif_neg (fun e => h (by rw [e]; decide)), cif_neg (fun e => h (by rw [e]; decide)), cif_neg (fun e => h (by rw [e]; decide)), cif_neg (fun e => h (by rw [e]; decide)), cif_neg (fun e => h (by rw [e]; decide))]
theorem or0 (x : Int32) : x ||| 0 = x := Int32.toBitVec_inj.mp (by simp)
theorem msk_s {f : Nat → Int32} {i : Nat} (hi : i < 8) (h : f i = 0 ∨ f i = 1) : msk f i ||| (f i <<< (nI i &&& 31)) = msk f (i + 1) := by
  rw [msk]
  rcases h with e | e
  · rw [cif_neg (by rw [e]; decide), e, sh0 i hi]
    exact or0 _
  · rw [cif_pos e, e]
    rfl
/-- a key that a place can answer behind some ticks -/
theorem kaf_eq {z : ZZ} {c s p t : Nat} {key : Int32} (hI : Inv z c) (hs : s < 8) (ho : sz z s 0 = 1) (hp : isPn z p) (ht : t ≤ 99) : (nI (nedz z s key) ≤ atB z p (nI t)) ↔ (¬ waitg z s key (nI p) = -6 ∧ waitg z s key (nI p) ≤ nI t) := by
  have hc := hI.1
  have hn := nedz_le (key := key) hI hs ho
  rcases hp with rfl | ⟨h5, hop⟩
  · unfold atB waitg
    rw [if_pos rfl, cif_pos rfl, hI.2.1]
    exact ⟨fun _ => ⟨by decide, nI_le (Nat.zero_le _) (by omega)⟩, fun _ => nI_le hn (by omega)⟩
  · obtain ⟨P, q, hP, hq, eP, eq, hst⟩ := hI.reps h5 hop
    have hm : q * t ≤ 9 * 99 := Nat.mul_le_mul hq ht
    have e1 : atB z p (nI t) = nI (min (P + if rz z p 3 = 1 then 0 else q * t) c) := by
      unfold atB behz
      rw [if_neg (by omega), eP, eq, hI.2.1]
      rcases hst with e | e
      · rw [cif_neg (by rw [e]; decide), if_neg (by rw [e]; decide), xI_mul, xI_add, minI_nI (by omega) (by omega)]
      · rw [cif_pos e, if_pos e, Int32.add_zero, minI_nI (by omega) (by omega), Nat.add_zero]
    have e2 : waitg z s key (nI p) = tkz P (nedz z s key) (rz z p 3) (nI q) := by
      unfold waitg
      rw [cif_neg (xI_ne (by omega) (by decide) (by omega)), cif_pos ⟨p, h5, rfl, hop⟩, nt_nI (by omega), eP, eq, nt_nI (by omega)]
    rw [e1, e2]
    generalize nedz z s key = nd at hn ⊢
    unfold tkz
    by_cases h1 : nd ≤ P
    · rw [cif_pos h1]
      refine ⟨fun _ => ⟨by decide, nI_le (Nat.zero_le _) (by omega)⟩, fun _ => nI_le ?_ (by split <;> omega)⟩
      split <;> omega
    · rw [cif_neg h1]
      rcases hst with e | e
      · rw [if_neg (by rw [e]; decide)]
        by_cases hq0 : q = 0
        · subst hq0
          rw [cif_pos (show rz z p 3 = 1 ∨ nI 0 = 0 from Or.inr rfl), Nat.zero_mul]
          exact ⟨fun h => absurd (xI_leD (by omega) (by omega) h) (by omega), fun h => absurd rfl h.1⟩
        · rw [cif_neg (fun r => r.elim (fun r => by rw [e] at r; exact absurd r (by decide)) (fun r => hq0 (xI_inj (by omega) (by decide) r))), xI_add, xI_sub (by omega), xI_div (by omega) (by omega)]
          have hdl : (nd - P + q - 1) / q < 2 ^ 31 := Nat.lt_of_le_of_lt (Nat.div_le_self _ _) (by omega)
          have hk : (nd - P + q - 1) / q ≤ t ↔ nd ≤ P + q * t := by
            rw [← Nat.lt_succ_iff, Nat.div_lt_iff_lt_mul (by omega), Nat.succ_mul, Nat.mul_comm t q]
            omega
          constructor
          · intro h
            have h2 := xI_leD (by omega) (by omega) h
            exact ⟨nI_neN hdl (by decide), nI_le (hk.mpr (by omega)) (by omega)⟩
          · intro h
            have h2 := hk.mp (xI_leD hdl (by omega) h.2)
            exact nI_le (by omega) (by omega)
      · rw [if_pos e, cif_pos (Or.inl e)]
        exact ⟨fun h => absurd (xI_leD (by omega) (by omega) h) (by omega), fun h => absurd rfl h.1⟩

set_option maxRecDepth 100000 in
set_option maxHeartbeats 4000000 in
theorem c_X7_undo_b {E : EV} {l : Launch} {mem : MEM} {a : AS} (hM : RM mem a) (h0 : a.2.1.1 = 0) : Ct E l yX7_undo (me_ws yX7_undo cX7_undo 2 (some .int)) 1 [rv (17, 0, 0)] mem (fun rr mm => ∃ xx : Int32, rr = iv xx ∧ PoM mem ((unA a).2) ((unA a).1) xx mm) := by
  refine Ct.of (RC := RX7) (ls0 := [rv (17, 0, 0), uv]) mi_yX7_undo (Nat.le_of_ble_eq_true rfl) rfl (fun X C hX => ?_)
  refine e_aload_n C dX7_undo_0 rfl ?_
  refine e_geti C (ci := 7) 2 rfl rfl rfl (by decide) b_X7 rfl b_fl_X7_41 v17 rfl dX7_undo_1 ?_
  refine f_val (y := nI (0)) (by have := hM.2.1.2.1; rw [h0] at this; exact this) ?_
  refine e_if_ne (tgt := 10) C dX7_undo_4 (by decide) (fun h_4 => ?_) (fun h_4 => ?_)
  · skip
    exact absurd h_4 (by decide)
  · skip
    have nh_4 := xI_inj (a := 0) (b := 0) (by omega) (by omega) h_4
    refine e_bipush (v := -3) C dX7_undo_7 (by decide) ?_
    exact f_ii C hX dX7_undo_9 ⟨by rw [unA, if_pos h0], by rw [unA, if_pos h0]; exact hM, FrM.rfl'⟩
set_option maxRecDepth 100000 in
set_option maxHeartbeats 4000000 in
theorem lp_X7_undo {E : EV} {l : Launch} {X : CX} {mem : MEM} {a : AS} (hM : RM mem a) (h0 : 0 < a.2.1.1) {M1 : MEM} (hM1 : up mem (17, 0, 0) 2 (nI (a.2.1.1 - 1)) = M1) (C : CK E X RX7 cX7_undo 2 (some .int) 1) (hX : EX E X l (fun rr mm => ∃ xx : Int32, rr = iv xx ∧ PoM mem ((unA a).2) ((unA a).1) xx mm)) : ∀ (lpn : Nat) (i : Nat), 894 - i < lpn → i ≤ 894 → G E X 2 22 [rv (17, 0, 0), iv (nI i)] [] (sc M1 (18, 0, 0) (cpr (pq (M1 (19, 0, 0)) (a.2.1.1 - 1)) (M1 (18, 0, 0)) i)) := by
  intro lpn
  induction lpn with
  | zero => intro i hlpn; exact absurd hlpn (Nat.not_lt_zero _)
  | succ lpn ih =>
    intro i hlpn hi
    have hn5 : a.2.1.1 ≤ 5 := hM.2.1.1
    have e172 : M1 (17, 0, 0) 2 = nI (a.2.1.1 - 1) := by rw [← hM1]; simp [up]
    refine e_iload_n C dX7_undo_22 rfl ?_
    refine e_sipush (v := nI 894) C dX7_undo_23 (by decide) ?_
    refine e_icmp_ge (tgt := 56) C dX7_undo_26 (by decide) (fun h_26 => ?_) (fun h_26 => ?_)
    · skip
      have nh_26 := xI_leD (by omega) (by omega) h_26
      refine e_aload_n C dX7_undo_56 rfl ?_
      refine e_geti C (ci := 7) 2 rfl rfl rfl (by decide) b_X7 rfl b_fl_X7_41 v17 rfl dX7_undo_57 ?_
      refine f_val (y := nI (a.2.1.1 - 1)) (by rw [sc_o (by decide)]; exact e172) ?_
      obtain rfl : i = 894 := by omega
      refine e_mem (sc_eqv (g := a.2.1.2 (a.2.1.1 - 1)) (fun j hj => ?_)) ?_
      · have hj : j < 894 := hj
        unfold cpr pq
        rw [if_pos hj, ← hM1]
        have := hM.2.1.2.2 (a.2.1.1 - 1) (by omega) j hj
        simp [up]
        rw [Nat.mul_comm]
        exact this
      · rw [← hM1]
        exact f_ii C hX dX7_undo_60 (un_fin hM h0)
    · skip
      have nh_26 := xI_nleD (by omega) (by omega) h_26
      refine e_aload_n C dX7_undo_29 rfl ?_
      refine e_getr C (ci := 7) 0 rfl rfl rfl (by decide) b_X7 rfl b_fl_X7_7 v17 rfl dX7_undo_30 ?_
      refine e_iload_n C dX7_undo_33 rfl ?_
      refine e_aload_n C dX7_undo_34 rfl ?_
      refine e_getr C (ci := 7) 1 rfl rfl rfl (by decide) b_X7 rfl b_fl_X7_13 v17 rfl dX7_undo_35 ?_
      refine e_aload_n C dX7_undo_38 rfl ?_
      refine e_geti C (ci := 7) 2 rfl rfl rfl (by decide) b_X7 rfl b_fl_X7_41 v17 rfl dX7_undo_39 ?_
      refine f_val (y := nI (a.2.1.1 - 1)) (by rw [sc_o (by decide)]; exact e172) ?_
      refine e_sipush (v := nI 894) C dX7_undo_42 (by decide) ?_
      refine f_imuln C dX7_undo_45 ?_
      refine e_iload_n C dX7_undo_46 rfl ?_
      refine f_iaddn C dX7_undo_47 ?_
      refine f_iald C rfl v19 (by omega) (by decide) dX7_undo_48 ?_
      refine f_iast C rfl v18 (by omega) (by decide) dX7_undo_49 ?_
      rw [sc_o (mem := M1) (id := (18, 0, 0)) (a := (19, 0, 0)) (by decide), up_sc]
      refine e_mem (EqV.of (congrArg (sc M1 (18, 0, 0)) (cpr_s (z := pq (M1 (19, 0, 0)) (a.2.1.1 - 1))))) ?_
      refine f_iincn (ls1 := [_, _]) C dX7_undo_50 rfl (by decide) rfl ?_
      refine e_goto (tgt := 22) C dX7_undo_53 (by decide) ?_
      exact ih (i + 1) (by omega) (by omega)
set_option maxRecDepth 100000 in
set_option maxHeartbeats 4000000 in
theorem c_X7_undo_a {E : EV} {l : Launch} {mem : MEM} {a : AS} (hM : RM mem a) (h0 : 0 < a.2.1.1) : Ct E l yX7_undo (me_ws yX7_undo cX7_undo 2 (some .int)) 1 [rv (17, 0, 0)] mem (fun rr mm => ∃ xx : Int32, rr = iv xx ∧ PoM mem ((unA a).2) ((unA a).1) xx mm) := by
  have hn5 : a.2.1.1 ≤ 5 := hM.2.1.1
  refine Ct.of (RC := RX7) (ls0 := [rv (17, 0, 0), uv]) mi_yX7_undo (Nat.le_of_ble_eq_true rfl) rfl (fun X C hX => ?_)
  refine e_aload_n C dX7_undo_0 rfl ?_
  refine e_geti C (ci := 7) 2 rfl rfl rfl (by decide) b_X7 rfl b_fl_X7_41 v17 rfl dX7_undo_1 ?_
  refine f_val (y := nI (a.2.1.1)) hM.2.1.2.1 ?_
  refine e_if_ne (tgt := 10) C dX7_undo_4 (by decide) (fun h_4 => ?_) (fun h_4 => ?_)
  · skip
    have nh_4 := xI_neD (a := a.2.1.1) (b := 0) h_4
    refine e_aload_n C dX7_undo_10 rfl ?_
    refine e_dup C dX7_undo_11 ?_
    refine e_geti C (ci := 7) 2 rfl rfl rfl (by decide) b_X7 rfl b_fl_X7_41 v17 rfl dX7_undo_12 ?_
    refine f_val (y := nI (a.2.1.1)) hM.2.1.2.1 ?_
    refine e_iconst (v := nI 1) C dX7_undo_15 (by decide) ?_
    refine f_isubn C (by omega) dX7_undo_16 ?_
    refine e_puti C (ci := 7) 2 rfl rfl rfl (by decide) b_X7 rfl b_fl_X7_41 v17 tyX7 tyX7_ok nmX7 rfl (.inl ⟨rfl, rfl⟩) rfl dX7_undo_17 ?_
    refine e_iconst (v := nI 0) C dX7_undo_20 (by decide) ?_
    refine f_istore_n (ls1 := [_, _]) C dX7_undo_21 (by decide) rfl ?_
    generalize hM1 : up mem (17, 0, 0) 2 (nI (a.2.1.1 - 1)) = M1
    rw [show M1 = sc M1 (18, 0, 0) (cpr (pq (M1 (19, 0, 0)) (a.2.1.1 - 1)) (M1 (18, 0, 0)) 0) from by rw [cpr_0, sc_self rfl]]
    exact lp_X7_undo hM h0 hM1 C hX 895 0 (by decide) (by decide)
  · skip
    have nh_4 := xI_inj (a := a.2.1.1) (b := 0) (by omega) (by omega) h_4
    omega
theorem c_X7_undo {E : EV} {l : Launch} {mem : MEM} {a : AS} (hM : RM mem a) : Ct E l yX7_undo (me_ws yX7_undo cX7_undo 2 (some .int)) 1 [rv (17, 0, 0)] mem (fun rr mm => ∃ xx : Int32, rr = iv xx ∧ PoM mem ((unA a).2) ((unA a).1) xx mm) := by
  by_cases h : a.2.1.1 = 0
  · exact c_X7_undo_b hM h
  · exact c_X7_undo_a hM (by omega)
set_option maxRecDepth 100000 in
set_option maxHeartbeats 4000000 in
theorem lp_X7_save {E : EV} {l : Launch} {X : CX} {mem : MEM} {a : AS} (hM : RM mem a) {M1 : MEM} (hM1 : up mem (17, 0, 0) 4 (nI 1) = M1) (C : CK E X RX7 cX7_save 2 (some .int) 1) (hX : EX E X l (fun rr mm => ∃ xx : Int32, rr = iv xx ∧ PoM mem ((a.1, a.2.1, some a.1, a.2.2.2)) (a.1 0) xx mm)) : ∀ (lpn : Nat) (i : Nat), 894 - i < lpn → i ≤ 894 → G E X 2 7 [rv (17, 0, 0), iv (nI i)] [] (sc M1 (20, 0, 0) (cpr a.1 (M1 (20, 0, 0)) i)) := by
  intro lpn
  induction lpn with
  | zero => intro i hlpn; exact absurd hlpn (Nat.not_lt_zero _)
  | succ lpn ih =>
    intro i hlpn hi
    have e18 : M1 (18, 0, 0) = a.1 := by rw [← hM1, ← hM.1]; funext b; simp [up]
    refine e_iload_n C dX7_save_7 rfl ?_
    refine e_sipush (v := nI 894) C dX7_save_8 (by decide) ?_
    refine e_icmp_ge (tgt := 32) C dX7_save_11 (by decide) (fun h_11 => ?_) (fun h_11 => ?_)
    · skip
      have nh_11 := xI_leD (by omega) (by omega) h_11
      refine e_aload_n C dX7_save_32 rfl ?_
      refine e_getr C (ci := 7) 0 rfl rfl rfl (by decide) b_X7 rfl b_fl_X7_7 v17 rfl dX7_save_33 ?_
      refine e_iconst (v := nI 0) C dX7_save_36 (by decide) ?_
      refine f_iald C rfl v18 (by omega) (by decide) dX7_save_37 ?_
      obtain rfl : i = 894 := by omega
      rw [sc_o (mem := M1) (id := (20, 0, 0)) (a := (18, 0, 0)) (by decide), e18, ← hM1]
      exact f_ii C hX dX7_save_38 (sv_fin hM)
    · skip
      have nh_11 := xI_nleD (by omega) (by omega) h_11
      refine e_aload_n C dX7_save_14 rfl ?_
      refine e_getr C (ci := 7) 3 rfl rfl rfl (by decide) b_X7 rfl b_fl_X7_16 v17 rfl dX7_save_15 ?_
      refine e_iload_n C dX7_save_18 rfl ?_
      refine e_aload_n C dX7_save_19 rfl ?_
      refine e_getr C (ci := 7) 0 rfl rfl rfl (by decide) b_X7 rfl b_fl_X7_7 v17 rfl dX7_save_20 ?_
      refine e_iload_n C dX7_save_23 rfl ?_
      refine f_iald C rfl v18 (by omega) (by decide) dX7_save_24 ?_
      refine f_iast C rfl v20 (by omega) (by decide) dX7_save_25 ?_
      rw [sc_o (mem := M1) (id := (20, 0, 0)) (a := (18, 0, 0)) (by decide), e18, up_sc, cpr_s]
      refine f_iincn (ls1 := [_, _]) C dX7_save_26 rfl (by decide) rfl ?_
      refine e_goto (tgt := 7) C dX7_save_29 (by decide) ?_
      exact ih (i + 1) (by omega) (by omega)
set_option maxRecDepth 100000 in
set_option maxHeartbeats 4000000 in
theorem c_X7_save {E : EV} {l : Launch} {mem : MEM} {a : AS} (hM : RM mem a) : Ct E l yX7_save (me_ws yX7_save cX7_save 2 (some .int)) 1 [rv (17, 0, 0)] mem (fun rr mm => ∃ xx : Int32, rr = iv xx ∧ PoM mem ((a.1, a.2.1, some a.1, a.2.2.2)) (a.1 0) xx mm) := by
  refine Ct.of (RC := RX7) (ls0 := [rv (17, 0, 0), uv]) mi_yX7_save (Nat.le_of_ble_eq_true rfl) rfl (fun X C hX => ?_)
  refine e_aload_n C dX7_save_0 rfl ?_
  refine e_iconst (v := nI 1) C dX7_save_1 (by decide) ?_
  refine e_puti C (ci := 7) 4 rfl rfl rfl (by decide) b_X7 rfl b_fl_X7_45 v17 tyX7 tyX7_ok nmX7 rfl (.inr ⟨rfl, .inr rfl⟩) rfl dX7_save_2 ?_
  refine e_iconst (v := nI 0) C dX7_save_5 (by decide) ?_
  refine f_istore_n (ls1 := [_, _]) C dX7_save_6 (by decide) rfl ?_
  generalize hM1 : up mem (17, 0, 0) 4 (nI 1) = M1
  rw [show M1 = sc M1 (20, 0, 0) (cpr a.1 (M1 (20, 0, 0)) 0) from by rw [cpr_0, sc_self rfl]]
  exact lp_X7_save hM hM1 C hX 895 0 (by decide) (by decide)
set_option maxRecDepth 100000 in
set_option maxHeartbeats 4000000 in
theorem c_X7_restore_a {E : EV} {l : Launch} {mem : MEM} {a : AS} (hM : RM mem a) (h0 : mem (17, 0, 0) 4 = 0) : Ct E l yX7_restore (me_ws yX7_restore cX7_restore 2 (some .int)) 2 [rv (17, 0, 0)] mem (fun rr mm => ∃ xx : Int32, rr = iv xx ∧ PoM mem (a) (-3) xx mm) := by
  refine Ct.of (RC := RX7) (ls0 := [rv (17, 0, 0), uv]) mi_yX7_restore (Nat.le_of_ble_eq_true rfl) rfl (fun X C hX => ?_)
  refine e_aload_n C dX7_restore_0 rfl ?_
  refine e_getz C (ci := 7) 4 rfl rfl rfl (by decide) b_X7 rfl b_fl_X7_45 v17 rfl rfl dX7_restore_1 (fun hz_1 => ?_)
  refine e_if_ne (tgt := 10) C dX7_restore_4 (by decide) (fun h_4 => ?_) (fun h_4 => ?_)
  · skip
    exact absurd h0 h_4
  · skip
    refine e_bipush (v := -3) C dX7_restore_7 (by decide) ?_
    exact f_ii C hX dX7_restore_9 ⟨rfl, hM, FrM.rfl'⟩
set_option maxRecDepth 100000 in
set_option maxHeartbeats 4000000 in
theorem lp_X7_restore {E : EV} {l : Launch} {X : CX} {mem m0 : MEM} {a : AS} {kz : ZZ} (hk : a.2.2.1 = some kz) (hG : ¬ isEr (kz 0)) (hr0 : RMr m0 (psh a.2.1 a.1, a.2.2)) (hf0 : FrM mem m0) (C : CK E X RX7 cX7_restore 2 (some .int) 2) (hX : EX E X l (fun rr mm => ∃ xx : Int32, rr = iv xx ∧ PoM mem (und (kz 0, kz) a) (kz 0) xx mm)) : ∀ (lpn : Nat) (i : Nat), 894 - i < lpn → i ≤ 894 → G E X 2 16 [rv (17, 0, 0), iv (nI i)] [] (mz m0 (cpr (m0 (20, 0, 0)) a.1 i)) := by
  intro lpn
  induction lpn with
  | zero => intro i hlpn; exact absurd hlpn (Nat.not_lt_zero _)
  | succ lpn ih =>
    intro i hlpn hi
    refine e_iload_n C dX7_restore_16 rfl ?_
    refine e_sipush (v := nI 894) C dX7_restore_17 (by decide) ?_
    refine e_icmp_ge (tgt := 41) C dX7_restore_20 (by decide) (fun h_20 => ?_) (fun h_20 => ?_)
    · skip
      have nh_20 := xI_leD (by omega) (by omega) h_20
      refine e_aload_n C dX7_restore_41 rfl ?_
      refine e_getr C (ci := 7) 0 rfl rfl rfl (by decide) b_X7 rfl b_fl_X7_7 v17 rfl dX7_restore_42 ?_
      refine e_iconst (v := nI 0) C dX7_restore_45 (by decide) ?_
      refine f_iald C rfl v18 (by omega) (by decide) dX7_restore_46 ?_
      have hkj : ∀ j, j < 894 → m0 (20, 0, 0) j = kz j := by
        have := hr0.2.1
        revert this
        show RMk m0 a.2.2.1 → _
        rw [hk]
        exact fun q => q.2
      refine f_val (y := kz 0) (by rw [mz_18]; unfold cpr; rw [if_pos (by omega)]; exact hkj 0 (by decide)) ?_
      obtain rfl : i = 894 := by omega
      refine e_mem (sc_eqv (g := kz) (fun j hj => ?_)) ?_
      · have hj : j < 894 := hj
        unfold cpr
        rw [if_pos hj]
        exact hkj j hj
      · exact f_ii C hX dX7_restore_47 (RM.ok hr0 hf0 rfl hG)
    · skip
      have nh_20 := xI_nleD (by omega) (by omega) h_20
      refine e_aload_n C dX7_restore_23 rfl ?_
      refine e_getr C (ci := 7) 0 rfl rfl rfl (by decide) b_X7 rfl b_fl_X7_7 v17 rfl dX7_restore_24 ?_
      refine e_iload_n C dX7_restore_27 rfl ?_
      refine e_aload_n C dX7_restore_28 rfl ?_
      refine e_getr C (ci := 7) 3 rfl rfl rfl (by decide) b_X7 rfl b_fl_X7_16 v17 rfl dX7_restore_29 ?_
      refine e_iload_n C dX7_restore_32 rfl ?_
      refine f_iald C rfl v20 (by omega) (by decide) dX7_restore_33 ?_
      refine f_iast C rfl v18 (by omega) (by decide) dX7_restore_34 ?_
      rw [mz_o (mem := m0) (a := (20, 0, 0)) (by decide), up_mz, cpr_s]
      refine f_iincn (ls1 := [_, _]) C dX7_restore_35 rfl (by decide) rfl ?_
      refine e_goto (tgt := 16) C dX7_restore_38 (by decide) ?_
      exact ih (i + 1) (by omega) (by omega)
set_option maxRecDepth 100000 in
set_option maxHeartbeats 4000000 in
theorem c_X7_restore_b {E : EV} {l : Launch} {mem : MEM} {a : AS} (hM : RM mem a) {kz : ZZ} (h0 : mem (17, 0, 0) 4 = 1) (hk : a.2.2.1 = some kz) (hG : ¬ isEr (kz 0)) : Ct E l yX7_restore (me_ws yX7_restore cX7_restore 2 (some .int)) 2 [rv (17, 0, 0)] mem (fun rr mm => ∃ xx : Int32, rr = iv xx ∧ PoM mem (und (kz 0, kz) a) (kz 0) xx mm) := by
  refine Ct.of (RC := RX7) (ls0 := [rv (17, 0, 0), uv]) mi_yX7_restore (Nat.le_of_ble_eq_true rfl) rfl (fun X C hX => ?_)
  refine e_aload_n C dX7_restore_0 rfl ?_
  refine e_getz C (ci := 7) 4 rfl rfl rfl (by decide) b_X7 rfl b_fl_X7_45 v17 rfl rfl dX7_restore_1 (fun hz_1 => ?_)
  refine e_if_ne (tgt := 10) C dX7_restore_4 (by decide) (fun h_4 => ?_) (fun h_4 => ?_)
  · skip
    refine e_aload_n C dX7_restore_10 rfl ?_
    refine e_mem (EqV.of (mz_self hM.1).symm) ?_
    refine f_callVu (As := []) (ci := 7) C mi_yX7_record mv_yX7_record b_ml_X7_49 dX7_restore_11 rfl (c_X7_record hM.2) (by decide) v17 rfl rfl (Nat.le_of_ble_eq_true rfl) (fun m_11 hc_11 => ?_)
    obtain ⟨m0, rfl, hr0, hf0⟩ := hc_11
    refine e_iconst (v := nI 0) C dX7_restore_14 (by decide) ?_
    refine f_istore_n (ls1 := [_, _]) C dX7_restore_15 (by decide) rfl ?_
    rw [show mz m0 a.1 = mz m0 (cpr (m0 (20, 0, 0)) a.1 0) from by rw [cpr_0]]
    exact lp_X7_restore hk hG hr0 hf0 C hX 895 0 (by decide) (by decide)
  · skip
    rw [h0] at h_4
    exact absurd h_4 (by decide)
theorem c_X7_restore {E : EV} {l : Launch} {mem : MEM} {a : AS} (hM : RM mem a) (hG : ∀ kz, a.2.2.1 = some kz → ¬ isEr (kz 0)) : Ct E l yX7_restore (me_ws yX7_restore cX7_restore 2 (some .int)) 2 [rv (17, 0, 0)] mem (fun rr mm => ∃ xx : Int32, rr = iv xx ∧ PoM mem ((reA a).2) ((reA a).1) xx mm) := by
  obtain ⟨z, h, k, t⟩ := a
  cases k with
  | none => exact c_X7_restore_a hM hM.2.2.1
  | some kz => exact c_X7_restore_b hM hM.2.2.1.1 rfl (hG kz rfl)
set_option maxRecDepth 100000 in
set_option maxHeartbeats 4000000 in
theorem lp_X7_replicas {E : EV} {l : Launch} {X : CX} {mem : MEM} {z : ZZ} {c : Nat} (hI : Inv z c) (C : CK E X RX7 cX7_replicas 3 (some .int) 2) (hX : EX E X l (Ret (iv (msk (fun r => rz z r 0) 5)) (mz mem z))) : ∀ (lpn : Nat) (i : Nat) (w : Int32), 5 - i < lpn → i ≤ 5 → w = msk (fun r => rz z r 0) i → G E X 3 4 [rv (17, 0, 0), iv w, iv (nI i)] [] (mz mem z) := by
  intro lpn
  induction lpn with
  | zero => intro i w hlpn; exact absurd hlpn (Nat.not_lt_zero _)
  | succ lpn ih =>
    intro i w hlpn hi hw
    refine e_iload_n C dX7_replicas_4 rfl ?_
    refine e_iconst (v := nI 5) C dX7_replicas_5 (by decide) ?_
    refine e_icmp_ge (tgt := 26) C dX7_replicas_6 (by decide) (fun h_6 => ?_) (fun h_6 => ?_)
    · skip
      have nh_6 := xI_leD (by omega) (by omega) h_6
      refine e_iload_n C dX7_replicas_26 rfl ?_
      obtain rfl : i = 5 := by omega
      exact f_ir C hX dX7_replicas_27 hw rfl
    · skip
      have nh_6 := xI_nleD (by omega) (by omega) h_6
      refine e_iload_n C dX7_replicas_9 rfl ?_
      refine e_aload_n C dX7_replicas_10 rfl ?_
      refine e_iload_n C dX7_replicas_11 rfl ?_
      refine e_iconst (v := nI 0) C dX7_replicas_12 (by decide) ?_
      refine f_callVr (As := [_, _]) (ci := 7) C mi_yX7_ofReplica mv_yX7_ofReplica b_ml_X7_30 dX7_replicas_13 rfl (c_X7_ofReplica (by omega) (by omega)) (by decide) v17 rfl rfl (Nat.le_of_ble_eq_true rfl) ?_
      refine e_iload_n C dX7_replicas_16 rfl ?_
      refine e_ishl C dX7_replicas_17 ?_
      refine e_ior C dX7_replicas_18 ?_
      refine f_istore_n (ls1 := [_, _, _]) C dX7_replicas_19 (by decide) rfl ?_
      refine f_iincn (ls1 := [_, _, _]) C dX7_replicas_20 rfl (by decide) rfl ?_
      refine e_goto (tgt := 4) C dX7_replicas_23 (by decide) ?_
      exact ih (i + 1) _ (by omega) (by omega) (by rw [hw]; exact msk_s (f := (fun r => rz z r 0)) (by omega) (hI.2.2.1 i (by omega)).1)
set_option maxRecDepth 100000 in
set_option maxHeartbeats 4000000 in
theorem c_X7_replicas {E : EV} {l : Launch} {mem : MEM} {z : ZZ} {c : Nat} (hI : Inv z c) : Ct E l yX7_replicas (me_ws yX7_replicas cX7_replicas 3 (some .int)) 2 [rv (17, 0, 0)] (mz mem z) (Ret (iv (msk (fun r => rz z r 0) 5)) (mz mem z)) := by
  refine Ct.of (RC := RX7) (ls0 := [rv (17, 0, 0), uv, uv]) mi_yX7_replicas (Nat.le_of_ble_eq_true rfl) rfl (fun X C hX => ?_)
  refine e_iconst (v := nI 0) C dX7_replicas_0 (by decide) ?_
  refine f_istore_n (ls1 := [_, _, _]) C dX7_replicas_1 (by decide) rfl ?_
  refine e_iconst (v := nI 0) C dX7_replicas_2 (by decide) ?_
  refine f_istore_n (ls1 := [_, _, _]) C dX7_replicas_3 (by decide) rfl ?_
  exact lp_X7_replicas hI C hX 6 0 _ (by decide) (by decide) rfl
set_option maxRecDepth 100000 in
set_option maxHeartbeats 4000000 in
theorem lp_X7_sessions {E : EV} {l : Launch} {X : CX} {mem : MEM} {z : ZZ} {c : Nat} (hI : Inv z c) (C : CK E X RX7 cX7_sessions 3 (some .int) 2) (hX : EX E X l (Ret (iv (msk (fun r => sz z r 0) 8)) (mz mem z))) : ∀ (lpn : Nat) (i : Nat) (w : Int32), 8 - i < lpn → i ≤ 8 → w = msk (fun r => sz z r 0) i → G E X 3 4 [rv (17, 0, 0), iv w, iv (nI i)] [] (mz mem z) := by
  intro lpn
  induction lpn with
  | zero => intro i w hlpn; exact absurd hlpn (Nat.not_lt_zero _)
  | succ lpn ih =>
    intro i w hlpn hi hw
    refine e_iload_n C dX7_sessions_4 rfl ?_
    refine e_bipush (v := nI 8) C dX7_sessions_5 (by decide) ?_
    refine e_icmp_ge (tgt := 27) C dX7_sessions_7 (by decide) (fun h_7 => ?_) (fun h_7 => ?_)
    · skip
      have nh_7 := xI_leD (by omega) (by omega) h_7
      refine e_iload_n C dX7_sessions_27 rfl ?_
      obtain rfl : i = 8 := by omega
      exact f_ir C hX dX7_sessions_28 hw rfl
    · skip
      have nh_7 := xI_nleD (by omega) (by omega) h_7
      refine e_iload_n C dX7_sessions_10 rfl ?_
      refine e_aload_n C dX7_sessions_11 rfl ?_
      refine e_iload_n C dX7_sessions_12 rfl ?_
      refine e_iconst (v := nI 0) C dX7_sessions_13 (by decide) ?_
      refine f_callVr (As := [_, _]) (ci := 7) C mi_yX7_ofSession mv_yX7_ofSession b_ml_X7_38 dX7_sessions_14 rfl (c_X7_ofSession (by omega) (by omega)) (by decide) v17 rfl rfl (Nat.le_of_ble_eq_true rfl) ?_
      refine e_iload_n C dX7_sessions_17 rfl ?_
      refine e_ishl C dX7_sessions_18 ?_
      refine e_ior C dX7_sessions_19 ?_
      refine f_istore_n (ls1 := [_, _, _]) C dX7_sessions_20 (by decide) rfl ?_
      refine f_iincn (ls1 := [_, _, _]) C dX7_sessions_21 rfl (by decide) rfl ?_
      refine e_goto (tgt := 4) C dX7_sessions_24 (by decide) ?_
      exact ih (i + 1) _ (by omega) (by omega) (by rw [hw]; exact msk_s (f := (fun r => sz z r 0)) (by omega) (hI.2.2.2 i (by omega)).1)
set_option maxRecDepth 100000 in
set_option maxHeartbeats 4000000 in
theorem c_X7_sessions {E : EV} {l : Launch} {mem : MEM} {z : ZZ} {c : Nat} (hI : Inv z c) : Ct E l yX7_sessions (me_ws yX7_sessions cX7_sessions 3 (some .int)) 2 [rv (17, 0, 0)] (mz mem z) (Ret (iv (msk (fun r => sz z r 0) 8)) (mz mem z)) := by
  refine Ct.of (RC := RX7) (ls0 := [rv (17, 0, 0), uv, uv]) mi_yX7_sessions (Nat.le_of_ble_eq_true rfl) rfl (fun X C hX => ?_)
  refine e_iconst (v := nI 0) C dX7_sessions_0 (by decide) ?_
  refine f_istore_n (ls1 := [_, _, _]) C dX7_sessions_1 (by decide) rfl ?_
  refine e_iconst (v := nI 0) C dX7_sessions_2 (by decide) ?_
  refine f_istore_n (ls1 := [_, _, _]) C dX7_sessions_3 (by decide) rfl ?_
  exact lp_X7_sessions hI C hX 9 0 _ (by decide) (by decide) rfl
set_option maxRecDepth 100000 in
set_option maxHeartbeats 4000000 in
theorem c_X7_replica {E : EV} {l : Launch} {mem : MEM} {z : ZZ} {n p : Int32} : Ct E l yX7_replica (me_ws yX7_replica cX7_replica 3 (some .int)) 3 [rv (17, 0, 0), iv n, iv p] (mz mem z) (Ret (iv (fRepl z n p)) (mz mem z)) := by
  refine Ct.of (RC := RX7) (ls0 := [rv (17, 0, 0), iv n, iv p]) mi_yX7_replica (Nat.le_of_ble_eq_true rfl) rfl (fun X C hX => ?_)
  refine e_aload_n C dX7_replica_0 rfl ?_
  refine e_iload_n C dX7_replica_1 rfl ?_
  refine f_callVr (As := [_]) (ci := 7) C mi_yX7_isReplica mv_yX7_isReplica b_ml_X7_34 dX7_replica_2 rfl c_X7_isReplica (by decide) v17 rfl rfl (Nat.le_of_ble_eq_true rfl) ?_
  refine f_if_ne (tgt := 10) C dX7_replica_5 (by decide) (fun h_5 => ?_) (fun h_5 => ?_)
  · skip
    obtain ⟨i, hi, rfl, ho⟩ := h_5
    refine e_iload_n C dX7_replica_10 rfl ?_
    by_cases hs_11_0 : p = nI 0
    · skip
      subst hs_11_0
      refine e_tableIn (tgt := 36) (off := 25) C dX7_replica_11 (by decide) (by decide) (by decide) (by decide) ?_
      refine e_aload_n C dX7_replica_36 rfl ?_
      refine e_iload_n C dX7_replica_37 rfl ?_
      refine e_iconst (v := nI 2) C dX7_replica_38 (by decide) ?_
      refine f_callVr (As := [_, _]) (ci := 7) C mi_yX7_ofReplica mv_yX7_ofReplica b_ml_X7_30 dX7_replica_39 rfl (c_X7_ofReplica (by omega) (by omega)) (by decide) v17 rfl rfl (Nat.le_of_ble_eq_true rfl) ?_
      exact f_ir C hX dX7_replica_42 (by rw [fRepl, cif_pos ⟨_, hi, rfl, ho⟩, nt_nI (by omega), cif_pos rfl]) rfl
    by_cases hs_11_1 : p = nI 1
    · skip
      subst hs_11_1
      refine e_tableIn (tgt := 43) (off := 32) C dX7_replica_11 (by decide) (by decide) (by decide) (by decide) ?_
      refine e_aload_n C dX7_replica_43 rfl ?_
      refine e_iload_n C dX7_replica_44 rfl ?_
      refine e_iconst (v := nI 3) C dX7_replica_45 (by decide) ?_
      refine f_callVr (As := [_, _]) (ci := 7) C mi_yX7_ofReplica mv_yX7_ofReplica b_ml_X7_30 dX7_replica_46 rfl (c_X7_ofReplica (by omega) (by omega)) (by decide) v17 rfl rfl (Nat.le_of_ble_eq_true rfl) ?_
      exact f_ir C hX dX7_replica_49 (by rw [fRepl, cif_pos ⟨_, hi, rfl, ho⟩, nt_nI (by omega), cif_neg (by decide : ¬ nI 1 = nI 0), cif_pos rfl]) rfl
    by_cases hs_11_2 : p = nI 2
    · skip
      subst hs_11_2
      refine e_tableIn (tgt := 50) (off := 39) C dX7_replica_11 (by decide) (by decide) (by decide) (by decide) ?_
      refine e_aload_n C dX7_replica_50 rfl ?_
      refine e_iload_n C dX7_replica_51 rfl ?_
      refine f_callVr (As := [_]) (ci := 7) C mi_yX7_homes mv_yX7_homes b_ml_X7_63 dX7_replica_52 rfl c_X7_homes (by decide) v17 rfl rfl (Nat.le_of_ble_eq_true rfl) ?_
      exact f_ir C hX dX7_replica_55 (by rw [fRepl, cif_pos ⟨_, hi, rfl, ho⟩, cif_neg (by decide : ¬ nI 2 = nI 0), cif_neg (by decide : ¬ nI 2 = nI 1), cif_pos rfl]) rfl
    refine e_tableOut (tgt := 56) C dX7_replica_11 (sw3 hs_11_0 hs_11_1 hs_11_2) (by decide) ?_
    refine e_bipush (v := -2) C dX7_replica_56 (by decide) ?_
    exact f_ir C hX dX7_replica_58 (by rw [fRepl, cif_pos ⟨_, hi, rfl, ho⟩, cif_neg hs_11_0, cif_neg hs_11_1, cif_neg hs_11_2]) rfl
  · skip
    refine e_iconst (v := -1) C dX7_replica_8 (by decide) ?_
    exact f_ir C hX dX7_replica_9 (by rw [fRepl, cif_neg h_5]) rfl
set_option maxRecDepth 100000 in
set_option maxHeartbeats 4000000 in
theorem c_X7_length {E : EV} {l : Launch} {mem : MEM} {z : ZZ} : Ct E l yX7_length (me_ws yX7_length cX7_length 1 (some .int)) 1 [rv (17, 0, 0)] (mz mem z) (Ret (iv (z 0)) (mz mem z)) := by
  refine Ct.of (RC := RX7) (ls0 := [rv (17, 0, 0)]) mi_yX7_length (Nat.le_of_ble_eq_true rfl) rfl (fun X C hX => ?_)
  refine e_aload_n C dX7_length_0 rfl ?_
  refine e_getr C (ci := 7) 0 rfl rfl rfl (by decide) b_X7 rfl b_fl_X7_7 v17 rfl dX7_length_1 ?_
  refine e_iconst (v := nI 0) C dX7_length_4 (by decide) ?_
  refine f_iald C rfl v18 (by omega) (by decide) dX7_length_5 ?_
  exact f_ir C hX dX7_length_6 rfl rfl
set_option maxRecDepth 100000 in
set_option maxHeartbeats 4000000 in
theorem c_X7_logged {E : EV} {l : Launch} {mem : MEM} {z : ZZ} {c : Nat} (hI : Inv z c) {n p : Int32} : Ct E l yX7_logged (me_ws yX7_logged cX7_logged 3 (some .int)) 2 [rv (17, 0, 0), iv n, iv p] (mz mem z) (Ret (iv (fLog z n p)) (mz mem z)) := by
  have hc200 := hI.1
  have hcn := hI.2.1
  refine Ct.of (RC := RX7) (ls0 := [rv (17, 0, 0), iv n, iv p]) mi_yX7_logged (Nat.le_of_ble_eq_true rfl) rfl (fun X C hX => ?_)
  refine e_iload_n C dX7_logged_0 rfl ?_
  refine e_iconst (v := nI 1) C dX7_logged_1 (by decide) ?_
  refine e_aload_n C dX7_logged_2 rfl ?_
  refine e_getr C (ci := 7) 0 rfl rfl rfl (by decide) b_X7 rfl b_fl_X7_7 v17 rfl dX7_logged_3 ?_
  refine e_iconst (v := nI 0) C dX7_logged_6 (by decide) ?_
  refine f_iald C rfl v18 (by omega) (by decide) dX7_logged_7 ?_
  rw [mz_18]
  refine f_callSr (As := [_, _, _]) C mi_yX7_in b_st_yX7_in b_ml_X7_26 dX7_logged_8 rfl c_X7_in (by decide) (Nat.le_of_ble_eq_true rfl) ?_
  refine f_if_ne (tgt := 16) C dX7_logged_11 (by decide) (fun h_11 => ?_) (fun h_11 => ?_)
  · skip
    have hln := h_11
    obtain ⟨i, hi, rfl⟩ : ∃ i, i < c ∧ n = nI (i + 1) := by
      obtain ⟨hl1, hl2⟩ : nI 1 ≤ n ∧ n ≤ z 0 := h_11
      rw [hcn] at hl2
      obtain ⟨q, hq, rfl⟩ := xI_le_of (x := n) (N := c) (Int32.le_trans (by decide) hl1) hl2 (by omega)
      have := xI_leD (by decide) (by omega) hl1
      exact ⟨q - 1, by omega, by congr 1; omega⟩
    refine e_iload_n C dX7_logged_16 rfl ?_
    refine e_iconst (v := nI 0) C dX7_logged_17 (by decide) ?_
    refine e_iconst (v := nI 2) C dX7_logged_18 (by decide) ?_
    refine f_callSr (As := [_, _, _]) C mi_yX7_in b_st_yX7_in b_ml_X7_26 dX7_logged_19 rfl c_X7_in (by decide) (Nat.le_of_ble_eq_true rfl) ?_
    refine f_if_eq (tgt := 34) C dX7_logged_22 (by decide) (fun h_22 => ?_) (fun h_22 => ?_)
    · skip
      refine e_bipush (v := -2) C dX7_logged_34 (by decide) ?_
      exact f_ir C hX dX7_logged_36 (by rw [fLog, cif_pos hln, cif_neg (fun e => h_22 (by rw [e]; decide)), cif_neg (fun e => h_22 (by rw [e]; decide)), cif_neg (fun e => h_22 (by rw [e]; decide))]) rfl
    · skip
      obtain ⟨q, hq, rfl⟩ := xI_le_of h_22.1 h_22.2 (by decide)
      refine e_aload_n C dX7_logged_25 rfl ?_
      refine e_iload_n C dX7_logged_26 rfl ?_
      refine e_iload_n C dX7_logged_27 rfl ?_
      refine f_callVr (As := [_, _]) (ci := 7) C mi_yX7_ofWrite mv_yX7_ofWrite b_ml_X7_82 dX7_logged_28 rfl (c_X7_ofWrite (by omega) (by omega)) (by decide) v17 rfl rfl (Nat.le_of_ble_eq_true rfl) ?_
      refine e_goto (tgt := 36) C dX7_logged_31 (by decide) ?_
      exact f_ir C hX dX7_logged_36 (by rw [fLog_n hI hi (by omega)]) rfl
  · skip
    refine e_iconst (v := -1) C dX7_logged_14 (by decide) ?_
    exact f_ir C hX dX7_logged_15 (by rw [fLog, cif_neg h_11]) rfl
set_option maxRecDepth 100000 in
set_option maxHeartbeats 4000000 in
theorem c_X7_position {E : EV} {l : Launch} {mem : MEM} {z : ZZ} {c : Nat} (hI : Inv z c) {n : Int32} : Ct E l yX7_position (me_ws yX7_position cX7_position 2 (some .int)) 4 [rv (17, 0, 0), iv n] (mz mem z) (Ret (iv (posg z n)) (mz mem z)) := by
  refine Ct.of (RC := RX7) (ls0 := [rv (17, 0, 0), iv n]) mi_yX7_position (Nat.le_of_ble_eq_true rfl) rfl (fun X C hX => ?_)
  refine e_aload_n C dX7_position_0 rfl ?_
  refine e_iload_n C dX7_position_1 rfl ?_
  refine f_callVr (As := [_]) (ci := 7) C mi_yX7_isPlace mv_yX7_isPlace b_ml_X7_52 dX7_position_2 rfl c_X7_isPlace (by decide) v17 rfl rfl (Nat.le_of_ble_eq_true rfl) ?_
  refine f_if_eq (tgt := 16) C dX7_position_5 (by decide) (fun h_5 => ?_) (fun h_5 => ?_)
  · skip
    refine e_iconst (v := -1) C dX7_position_16 (by decide) ?_
    exact f_ir C hX dX7_position_17 (by rw [(posg_bad hI).mpr h_5]) rfl
  · skip
    obtain ⟨p, rfl, hp⟩ := isP_nat h_5
    obtain ⟨m, hm, em⟩ := posz_nat hI hp
    have hpl : p < 10 := by rcases hp with h | h <;> omega
    have hc200 := hI.1
    refine e_aload_n C dX7_position_8 rfl ?_
    refine e_iload_n C dX7_position_9 rfl ?_
    refine f_callVr (As := [_]) (ci := 7) C mi_yX7_at mv_yX7_at b_ml_X7_59 dX7_position_10 rfl (c_X7_at (by assumption)) (by decide) v17 rfl rfl (Nat.le_of_ble_eq_true rfl) ?_
    refine e_goto (tgt := 17) C dX7_position_13 (by decide) ?_
    exact f_ir C hX dX7_position_17 (by rw [posg_p hp]) rfl
set_option maxRecDepth 100000 in
set_option maxHeartbeats 4000000 in
theorem c_X7_version {E : EV} {l : Launch} {mem : MEM} {z : ZZ} {c : Nat} (hI : Inv z c) {n k : Int32} : Ct E l yX7_version (me_ws yX7_version cX7_version 3 (some .int)) 4 [rv (17, 0, 0), iv n, iv k] (mz mem z) (Ret (iv (fVer z n k)) (mz mem z)) := by
  refine Ct.of (RC := RX7) (ls0 := [rv (17, 0, 0), iv n, iv k]) mi_yX7_version (Nat.le_of_ble_eq_true rfl) rfl (fun X C hX => ?_)
  refine e_aload_n C dX7_version_0 rfl ?_
  refine e_iload_n C dX7_version_1 rfl ?_
  refine f_callVr (As := [_]) (ci := 7) C mi_yX7_isPlace mv_yX7_isPlace b_ml_X7_52 dX7_version_2 rfl c_X7_isPlace (by decide) v17 rfl rfl (Nat.le_of_ble_eq_true rfl) ?_
  refine f_if_eq (tgt := 28) C dX7_version_5 (by decide) (fun h_5 => ?_) (fun h_5 => ?_)
  · skip
    refine e_iconst (v := -1) C dX7_version_28 (by decide) ?_
    exact f_ir C hX dX7_version_29 (by rw [fVer, cif_neg (fun q => h_5 q.1)]) rfl
  · skip
    have hPP := h_5
    obtain ⟨p, rfl, hp⟩ := isP_nat h_5
    obtain ⟨m, hm, em⟩ := posz_nat hI hp
    have hpl : p < 10 := by rcases hp with h | h <;> omega
    have hc200 := hI.1
    refine e_iload_n C dX7_version_8 rfl ?_
    refine f_callSr (As := [_]) C mi_yX7_isKey b_st_yX7_isKey b_ml_X7_85 dX7_version_9 rfl c_X7_isKey (by decide) (Nat.le_of_ble_eq_true rfl) ?_
    refine f_if_eq (tgt := 28) C dX7_version_12 (by decide) (fun h_12 => ?_) (fun h_12 => ?_)
    · skip
      refine e_iconst (v := -1) C dX7_version_28 (by decide) ?_
      exact f_ir C hX dX7_version_29 (by rw [fVer, cif_neg (fun q => h_12 q.2)]) rfl
    · skip
      refine e_aload_n C dX7_version_15 rfl ?_
      refine e_aload_n C dX7_version_16 rfl ?_
      refine e_iload_n C dX7_version_17 rfl ?_
      refine f_callVr (As := [_]) (ci := 7) C mi_yX7_at mv_yX7_at b_ml_X7_59 dX7_version_18 rfl (c_X7_at (by assumption)) (by decide) v17 rfl rfl (Nat.le_of_ble_eq_true rfl) ?_
      refine f_val (y := nI (m)) em ?_
      refine e_iload_n C dX7_version_21 rfl ?_
      refine f_callVr (As := [_, _]) (ci := 7) C mi_yX7_versionAt mv_yX7_versionAt b_ml_X7_88 dX7_version_22 rfl (c_X7_versionAt (by omega)) (by decide) v17 rfl rfl (Nat.le_of_ble_eq_true rfl) ?_
      refine e_goto (tgt := 29) C dX7_version_25 (by decide) ?_
      exact f_ir C hX dX7_version_29 (by rw [fVer, cif_pos ⟨hPP, h_12⟩, posg_p hp, em, nt_nI (by omega)]) rfl
set_option maxRecDepth 100000 in
set_option maxHeartbeats 4000000 in
theorem c_X7_value {E : EV} {l : Launch} {mem : MEM} {z : ZZ} {c : Nat} (hI : Inv z c) {n k : Int32} : Ct E l yX7_value (me_ws yX7_value cX7_value 3 (some .int)) 4 [rv (17, 0, 0), iv n, iv k] (mz mem z) (Ret (iv (fVal z n k)) (mz mem z)) := by
  refine Ct.of (RC := RX7) (ls0 := [rv (17, 0, 0), iv n, iv k]) mi_yX7_value (Nat.le_of_ble_eq_true rfl) rfl (fun X C hX => ?_)
  refine e_aload_n C dX7_value_0 rfl ?_
  refine e_iload_n C dX7_value_1 rfl ?_
  refine f_callVr (As := [_]) (ci := 7) C mi_yX7_isPlace mv_yX7_isPlace b_ml_X7_52 dX7_value_2 rfl c_X7_isPlace (by decide) v17 rfl rfl (Nat.le_of_ble_eq_true rfl) ?_
  refine f_if_eq (tgt := 32) C dX7_value_5 (by decide) (fun h_5 => ?_) (fun h_5 => ?_)
  · skip
    refine e_iconst (v := -1) C dX7_value_32 (by decide) ?_
    exact f_ir C hX dX7_value_33 (by rw [fVal, cif_neg (fun q => h_5 q.1)]) rfl
  · skip
    have hPP := h_5
    obtain ⟨p, rfl, hp⟩ := isP_nat h_5
    obtain ⟨m, hm, em⟩ := posz_nat hI hp
    have hpl : p < 10 := by rcases hp with h | h <;> omega
    have hc200 := hI.1
    refine e_iload_n C dX7_value_8 rfl ?_
    refine f_callSr (As := [_]) C mi_yX7_isKey b_st_yX7_isKey b_ml_X7_85 dX7_value_9 rfl c_X7_isKey (by decide) (Nat.le_of_ble_eq_true rfl) ?_
    refine f_if_eq (tgt := 32) C dX7_value_12 (by decide) (fun h_12 => ?_) (fun h_12 => ?_)
    · skip
      refine e_iconst (v := -1) C dX7_value_32 (by decide) ?_
      exact f_ir C hX dX7_value_33 (by rw [fVal, cif_neg (fun q => h_12 q.2)]) rfl
    · skip
      refine e_aload_n C dX7_value_15 rfl ?_
      refine e_aload_n C dX7_value_16 rfl ?_
      refine e_aload_n C dX7_value_17 rfl ?_
      refine e_iload_n C dX7_value_18 rfl ?_
      refine f_callVr (As := [_]) (ci := 7) C mi_yX7_at mv_yX7_at b_ml_X7_59 dX7_value_19 rfl (c_X7_at (by assumption)) (by decide) v17 rfl rfl (Nat.le_of_ble_eq_true rfl) ?_
      refine f_val (y := nI (m)) em ?_
      refine e_iload_n C dX7_value_22 rfl ?_
      refine f_callVr (As := [_, _]) (ci := 7) C mi_yX7_versionAt mv_yX7_versionAt b_ml_X7_88 dX7_value_23 rfl (c_X7_versionAt (by omega)) (by decide) v17 rfl rfl (Nat.le_of_ble_eq_true rfl) ?_
      refine f_callVr (As := [_]) (ci := 7) C mi_yX7_valueOf mv_yX7_valueOf b_ml_X7_91 dX7_value_26 rfl (c_X7_valueOf (Nat.le_trans (lastw_le _ _ _) (by omega))) (by decide) v17 rfl rfl (Nat.le_of_ble_eq_true rfl) ?_
      refine e_goto (tgt := 33) C dX7_value_29 (by decide) ?_
      exact f_ir C hX dX7_value_33 (by rw [fVal, cif_pos ⟨hPP, h_12⟩, posg_p hp, em, nt_nI (by omega)]) rfl
set_option maxRecDepth 100000 in
set_option maxHeartbeats 4000000 in
theorem lp_X7_missing {E : EV} {l : Launch} {X : CX} {mem : MEM} {z : ZZ} {c : Nat} (hI : Inv z c) {p m : Nat} (hp : isPn z p) (em : posz z p = nI m) (hm : m ≤ c) {k : Int32} (hk : isK k) (C : CK E X RX7 cX7_missing 5 (some .int) 4) (hX : EX E X l (Ret (iv (fMis z (nI p) k)) (mz mem z))) : ∀ (lpn : Nat) (j w : Nat), c + 1 - j < lpn → j ≤ c → m ≤ j → w = cntw (keyf z) m k j → G E X 5 28 [rv (17, 0, 0), iv (nI p), iv k, iv (nI w), iv (nI (j + 1))] [] (mz mem z) := by
  intro lpn
  induction lpn with
  | zero => intro j w hlpn; exact absurd hlpn (Nat.not_lt_zero _)
  | succ lpn ih =>
    intro j w hlpn hj hmj hw
    have hc200 := hI.1
    have hcn := hI.2.1
    refine e_iload C dX7_missing_28 rfl ?_
    refine e_aload_n C dX7_missing_30 rfl ?_
    refine e_getr C (ci := 7) 0 rfl rfl rfl (by decide) b_X7 rfl b_fl_X7_7 v17 rfl dX7_missing_31 ?_
    refine e_iconst (v := nI 0) C dX7_missing_34 (by decide) ?_
    refine f_iald C rfl v18 (by omega) (by decide) dX7_missing_35 ?_
    refine f_val (y := nI (c)) (by rw [mz_18]; exact hcn) ?_
    refine e_icmp_gt (tgt := 64) C dX7_missing_36 (by decide) (fun h_36 => ?_) (fun h_36 => ?_)
    · skip
      have nh_36 := xI_ltD (by omega) (by omega) h_36
      refine e_iload_n C dX7_missing_64 rfl ?_
      obtain rfl : j = c := by omega
      exact f_ir C hX dX7_missing_65 (by rw [fMis, cif_pos ⟨isP_of hp, hk⟩, posg_p hp, em, nt_nI (by omega), hcn, nt_nI (by omega), hw]) rfl
    · skip
      have nh_36 := xI_nltD (by omega) (by omega) h_36
      refine e_iload_n C dX7_missing_39 rfl ?_
      refine e_aload_n C dX7_missing_40 rfl ?_
      refine e_iload C dX7_missing_41 rfl ?_
      refine e_iconst (v := nI 0) C dX7_missing_43 (by decide) ?_
      refine f_callVr (As := [_, _]) (ci := 7) C mi_yX7_ofWrite mv_yX7_ofWrite b_ml_X7_82 dX7_missing_44 rfl (c_X7_ofWrite (by omega) (by decide)) (by decide) v17 rfl rfl (Nat.le_of_ble_eq_true rfl) ?_
      refine e_iload_n C dX7_missing_47 rfl ?_
      refine e_icmp_ne (tgt := 55) C dX7_missing_48 (by decide) (fun h_48 => ?_) (fun h_48 => ?_)
      · skip
        refine e_iconst (v := nI 0) C dX7_missing_55 (by decide) ?_
        refine f_iaddn C dX7_missing_56 ?_
        refine f_istore_n (ls1 := [_, _, _, _, _]) C dX7_missing_57 (by decide) rfl ?_
        refine f_iincn (ls1 := [_, _, _, _, _]) C dX7_missing_58 rfl (by decide) rfl ?_
        refine e_goto (tgt := 28) C dX7_missing_61 (by decide) ?_
        exact ih (j + 1) _ (by omega) (by omega) (by omega) (by rw [cntw, if_neg (fun q => h_48 q.2)]; omega)
      · skip
        refine e_iconst (v := nI 1) C dX7_missing_51 (by decide) ?_
        refine e_goto (tgt := 56) C dX7_missing_52 (by decide) ?_
        refine f_iaddn C dX7_missing_56 ?_
        refine f_istore_n (ls1 := [_, _, _, _, _]) C dX7_missing_57 (by decide) rfl ?_
        refine f_iincn (ls1 := [_, _, _, _, _]) C dX7_missing_58 rfl (by decide) rfl ?_
        refine e_goto (tgt := 28) C dX7_missing_61 (by decide) ?_
        exact ih (j + 1) _ (by omega) (by omega) (by omega) (by rw [cntw, if_pos ⟨hmj, h_48⟩]; omega)
set_option maxRecDepth 100000 in
set_option maxHeartbeats 4000000 in
theorem c_X7_missing {E : EV} {l : Launch} {mem : MEM} {z : ZZ} {c : Nat} (hI : Inv z c) {n k : Int32} : Ct E l yX7_missing (me_ws yX7_missing cX7_missing 5 (some .int)) 4 [rv (17, 0, 0), iv n, iv k] (mz mem z) (Ret (iv (fMis z n k)) (mz mem z)) := by
  refine Ct.of (RC := RX7) (ls0 := [rv (17, 0, 0), iv n, iv k, uv, uv]) mi_yX7_missing (Nat.le_of_ble_eq_true rfl) rfl (fun X C hX => ?_)
  refine e_aload_n C dX7_missing_0 rfl ?_
  refine e_iload_n C dX7_missing_1 rfl ?_
  refine f_callVr (As := [_]) (ci := 7) C mi_yX7_isPlace mv_yX7_isPlace b_ml_X7_52 dX7_missing_2 rfl c_X7_isPlace (by decide) v17 rfl rfl (Nat.le_of_ble_eq_true rfl) ?_
  refine f_if_eq (tgt := 15) C dX7_missing_5 (by decide) (fun h_5 => ?_) (fun h_5 => ?_)
  · skip
    refine e_iconst (v := -1) C dX7_missing_15 (by decide) ?_
    exact f_ir C hX dX7_missing_16 (by rw [fMis, cif_neg (fun q => h_5 q.1)]) rfl
  · skip
    have hPP := h_5
    obtain ⟨p, rfl, hp⟩ := isP_nat h_5
    obtain ⟨m, hm, em⟩ := posz_nat hI hp
    have hpl : p < 10 := by rcases hp with h | h <;> omega
    have hc200 := hI.1
    refine e_iload_n C dX7_missing_8 rfl ?_
    refine f_callSr (As := [_]) C mi_yX7_isKey b_st_yX7_isKey b_ml_X7_85 dX7_missing_9 rfl c_X7_isKey (by decide) (Nat.le_of_ble_eq_true rfl) ?_
    refine f_if_ne (tgt := 17) C dX7_missing_12 (by decide) (fun h_12 => ?_) (fun h_12 => ?_)
    · skip
      refine e_iconst (v := nI 0) C dX7_missing_17 (by decide) ?_
      refine f_istore_n (ls1 := [_, _, _, _, _]) C dX7_missing_18 (by decide) rfl ?_
      refine e_aload_n C dX7_missing_19 rfl ?_
      refine e_iload_n C dX7_missing_20 rfl ?_
      refine f_callVr (As := [_]) (ci := 7) C mi_yX7_at mv_yX7_at b_ml_X7_59 dX7_missing_21 rfl (c_X7_at (by assumption)) (by decide) v17 rfl rfl (Nat.le_of_ble_eq_true rfl) ?_
      refine f_val (y := nI (m)) em ?_
      refine e_iconst (v := nI 1) C dX7_missing_24 (by decide) ?_
      refine f_iaddn C dX7_missing_25 ?_
      refine f_istore (ls1 := [_, _, _, _, _]) C dX7_missing_26 (by decide) rfl ?_
      exact lp_X7_missing hI hp em hm h_12 C hX (c + 2) m 0 (by omega) hm (Nat.le_refl m) (cntw_0 _ _ _ m (Nat.le_refl m)).symm
    · skip
      refine e_iconst (v := -1) C dX7_missing_15 (by decide) ?_
      exact f_ir C hX dX7_missing_16 (by rw [fMis, cif_neg (fun q => h_12 q.2)]) rfl
set_option maxRecDepth 100000 in
set_option maxHeartbeats 4000000 in
theorem c_X7_answers {E : EV} {l : Launch} {mem : MEM} {z : ZZ} {n : Int32} : Ct E l yX7_answers (me_ws yX7_answers cX7_answers 2 (some .int)) 4 [rv (17, 0, 0), iv n] (mz mem z) (Ret (iv (fAns z n)) (mz mem z)) := by
  refine Ct.of (RC := RX7) (ls0 := [rv (17, 0, 0), iv n]) mi_yX7_answers (Nat.le_of_ble_eq_true rfl) rfl (fun X C hX => ?_)
  refine e_aload_n C dX7_answers_0 rfl ?_
  refine e_iload_n C dX7_answers_1 rfl ?_
  refine f_callVr (As := [_]) (ci := 7) C mi_yX7_isPlace mv_yX7_isPlace b_ml_X7_52 dX7_answers_2 rfl c_X7_isPlace (by decide) v17 rfl rfl (Nat.le_of_ble_eq_true rfl) ?_
  refine f_if_ne (tgt := 12) C dX7_answers_5 (by decide) (fun h_5 => ?_) (fun h_5 => ?_)
  · skip
    obtain ⟨p, rfl, hp⟩ := isP_nat h_5
    have hpl : p < 10 := by rcases hp with h | h <;> omega
    refine e_iload_n C dX7_answers_12 rfl ?_
    refine e_bipush (v := nI 9) C dX7_answers_13 (by decide) ?_
    refine e_icmp_ne (tgt := 27) C dX7_answers_15 (by decide) (fun h_15 => ?_) (fun h_15 => ?_)
    · skip
      have nh_15 := xI_neD h_15
      obtain ⟨h5, ho⟩ := hp.resolve_left nh_15
      refine e_aload_n C dX7_answers_27 rfl ?_
      refine e_iload_n C dX7_answers_28 rfl ?_
      refine e_iconst (v := nI 4) C dX7_answers_29 (by decide) ?_
      refine f_callVr (As := [_, _]) (ci := 7) C mi_yX7_ofReplica mv_yX7_ofReplica b_ml_X7_30 dX7_answers_30 rfl (c_X7_ofReplica (by omega) (by omega)) (by decide) v17 rfl rfl (Nat.le_of_ble_eq_true rfl) ?_
      exact f_ir C hX dX7_answers_33 (by rw [fAns, cif_neg (xI_ne (by omega) (by decide) nh_15), cif_pos ⟨p, h5, rfl, ho⟩, nt_nI (by omega)]) rfl
    · skip
      have nh_15 := xI_inj (by omega) (by omega) h_15
      refine e_aload_n C dX7_answers_18 rfl ?_
      refine e_getr C (ci := 7) 0 rfl rfl rfl (by decide) b_X7 rfl b_fl_X7_7 v17 rfl dX7_answers_19 ?_
      refine e_iconst (v := nI 4) C dX7_answers_22 (by decide) ?_
      refine f_iald C rfl v18 (by omega) (by decide) dX7_answers_23 ?_
      refine e_goto (tgt := 33) C dX7_answers_24 (by decide) ?_
      exact f_ir C hX dX7_answers_33 (by rw [fAns, cif_pos (by rw [nh_15])]; rfl) rfl
  · skip
    refine e_iconst (v := -1) C dX7_answers_8 (by decide) ?_
    refine e_goto (tgt := 33) C dX7_answers_9 (by decide) ?_
    exact f_ir C hX dX7_answers_33 (by rw [fAns, cif_neg (fun q => h_5 (Or.inl q)), cif_neg (fun q => h_5 (Or.inr q))]) rfl
set_option maxRecDepth 100000 in
set_option maxHeartbeats 4000000 in
theorem c_X7_session {E : EV} {l : Launch} {mem : MEM} {z : ZZ} {c : Nat} (hI : Inv z c) {n p : Int32} : Ct E l yX7_session (me_ws yX7_session cX7_session 3 (some .int)) 4 [rv (17, 0, 0), iv n, iv p] (mz mem z) (Ret (iv (fSes z n p)) (mz mem z)) := by
  refine Ct.of (RC := RX7) (ls0 := [rv (17, 0, 0), iv n, iv p]) mi_yX7_session (Nat.le_of_ble_eq_true rfl) rfl (fun X C hX => ?_)
  refine e_aload_n C dX7_session_0 rfl ?_
  refine e_iload_n C dX7_session_1 rfl ?_
  refine f_callVr (As := [_]) (ci := 7) C mi_yX7_isSession mv_yX7_isSession b_ml_X7_94 dX7_session_2 rfl c_X7_isSession (by decide) v17 rfl rfl (Nat.le_of_ble_eq_true rfl) ?_
  refine f_if_ne (tgt := 10) C dX7_session_5 (by decide) (fun h_5 => ?_) (fun h_5 => ?_)
  · skip
    have hS := h_5
    obtain ⟨i, hi, rfl, ho⟩ := h_5
    obtain ⟨ma, mb, hma, hmb, ea, eb⟩ := hI.marks hi ho
    have hc200 := hI.1
    refine e_iload_n C dX7_session_10 rfl ?_
    refine e_iconst (v := nI 0) C dX7_session_11 (by decide) ?_
    refine e_bipush (v := nI 8) C dX7_session_12 (by decide) ?_
    refine f_callSr (As := [_, _, _]) C mi_yX7_in b_st_yX7_in b_ml_X7_26 dX7_session_14 rfl c_X7_in (by decide) (Nat.le_of_ble_eq_true rfl) ?_
    refine f_if_ne (tgt := 23) C dX7_session_17 (by decide) (fun h_17 => ?_) (fun h_17 => ?_)
    · skip
      obtain ⟨q, hq, rfl⟩ := xI_le_of h_17.1 h_17.2 (by decide)
      refine e_iload_n C dX7_session_23 rfl ?_
      refine e_iconst (v := nI 5) C dX7_session_24 (by decide) ?_
      refine e_icmp_ge (tgt := 39) C dX7_session_25 (by decide) (fun h_25 => ?_) (fun h_25 => ?_)
      · skip
        have nh_25 := xI_leD (by omega) (by omega) h_25
        refine e_iload_n C dX7_session_39 rfl ?_
        refine e_iconst (v := nI 5) C dX7_session_40 (by decide) ?_
        refine e_icmp_ne (tgt := 52) C dX7_session_41 (by decide) (fun h_41 => ?_) (fun h_41 => ?_)
        · skip
          have nh_41 := xI_neD h_41
          refine e_aload_n C dX7_session_52 rfl ?_
          refine e_iload_n C dX7_session_53 rfl ?_
          refine e_iload_n C dX7_session_54 rfl ?_
          refine f_callVr (As := [_, _]) (ci := 7) C mi_yX7_ofSession mv_yX7_ofSession b_ml_X7_38 dX7_session_55 rfl (c_X7_ofSession (by omega) (by omega)) (by decide) v17 rfl rfl (Nat.le_of_ble_eq_true rfl) ?_
          exact f_ir C hX dX7_session_58 (by rw [fSes_n hi ho hq, if_neg (by omega), if_neg nh_41]) rfl
        · skip
          have nh_41 := xI_inj (by omega) (by omega) h_41
          refine e_aload_n C dX7_session_44 rfl ?_
          refine e_iload_n C dX7_session_45 rfl ?_
          refine f_callVr (As := [_]) (ci := 7) C mi_yX7_need mv_yX7_need b_ml_X7_113 dX7_session_46 rfl (c_X7_need hi ea eb (by omega) (by omega)) (by decide) v17 rfl rfl (Nat.le_of_ble_eq_true rfl) ?_
          refine e_goto (tgt := 58) C dX7_session_49 (by decide) ?_
          exact f_ir C hX dX7_session_58 (by rw [fSes_n hi ho hq, if_neg (by omega), if_pos nh_41]) rfl
      · skip
        have nh_25 := xI_nleD (by omega) (by omega) h_25
        refine e_aload_n C dX7_session_28 rfl ?_
        refine e_iload_n C dX7_session_29 rfl ?_
        refine e_iconst (v := nI 1) C dX7_session_30 (by decide) ?_
        refine e_iload_n C dX7_session_31 rfl ?_
        refine f_iaddn C dX7_session_32 ?_
        refine f_callVr (As := [_, _]) (ci := 7) C mi_yX7_ofSession mv_yX7_ofSession b_ml_X7_38 dX7_session_33 rfl (c_X7_ofSession (by omega) (by omega)) (by decide) v17 rfl rfl (Nat.le_of_ble_eq_true rfl) ?_
        refine e_goto (tgt := 58) C dX7_session_36 (by decide) ?_
        exact f_ir C hX dX7_session_58 (by rw [fSes_n hi ho hq, if_pos (by omega)]) rfl
    · skip
      refine e_bipush (v := -2) C dX7_session_20 (by decide) ?_
      exact f_ir C hX dX7_session_22 (by rw [fSes_no hS h_17]) rfl
  · skip
    refine e_iconst (v := -1) C dX7_session_8 (by decide) ?_
    exact f_ir C hX dX7_session_9 (by rw [fSes, cif_neg h_5]) rfl
set_option maxRecDepth 100000 in
set_option maxHeartbeats 4000000 in
theorem c_X7_latest {E : EV} {l : Launch} {mem : MEM} {z : ZZ} {p : Int32} : Ct E l yX7_latest (me_ws yX7_latest cX7_latest 2 (some .int)) 2 [rv (17, 0, 0), iv p] (mz mem z) (Ret (iv (fLat z p)) (mz mem z)) := by
  refine Ct.of (RC := RX7) (ls0 := [rv (17, 0, 0), iv p]) mi_yX7_latest (Nat.le_of_ble_eq_true rfl) rfl (fun X C hX => ?_)
  refine e_iload_n C dX7_latest_0 rfl ?_
  refine e_iconst (v := nI 0) C dX7_latest_1 (by decide) ?_
  refine e_iconst (v := nI 2) C dX7_latest_2 (by decide) ?_
  refine f_callSr (As := [_, _, _]) C mi_yX7_in b_st_yX7_in b_ml_X7_26 dX7_latest_3 rfl c_X7_in (by decide) (Nat.le_of_ble_eq_true rfl) ?_
  refine f_if_eq (tgt := 20) C dX7_latest_6 (by decide) (fun h_6 => ?_) (fun h_6 => ?_)
  · skip
    refine e_bipush (v := -2) C dX7_latest_20 (by decide) ?_
    exact f_ir C hX dX7_latest_22 (by rw [fLat, cif_neg h_6]) rfl
  · skip
    have hin := h_6
    obtain ⟨q, hq, rfl⟩ := xI_le_of h_6.1 h_6.2 (by decide)
    refine e_aload_n C dX7_latest_9 rfl ?_
    refine e_getr C (ci := 7) 0 rfl rfl rfl (by decide) b_X7 rfl b_fl_X7_7 v17 rfl dX7_latest_10 ?_
    refine e_iconst (v := nI 1) C dX7_latest_13 (by decide) ?_
    refine e_iload_n C dX7_latest_14 rfl ?_
    refine f_iaddn C dX7_latest_15 ?_
    refine f_iald C rfl v18 (by omega) (by decide) dX7_latest_16 ?_
    refine e_goto (tgt := 22) C dX7_latest_17 (by decide) ?_
    exact f_ir C hX dX7_latest_22 (by rw [fLat, cif_pos hin, nt_nI (by omega)]; rfl) rfl
set_option maxRecDepth 100000 in
set_option maxHeartbeats 4000000 in
theorem c_X7_waitFor {E : EV} {l : Launch} {mem : MEM} {z : ZZ} {c : Nat} (hI : Inv z c) {s key place : Int32} : Ct E l yX7_waitFor (me_ws yX7_waitFor cX7_waitFor 4 (some .int)) 6 [rv (17, 0, 0), iv s, iv key, iv place] (mz mem z) (Ret (iv (fWai z s key place)) (mz mem z)) := by
  refine Ct.of (RC := RX7) (ls0 := [rv (17, 0, 0), iv s, iv key, iv place]) mi_yX7_waitFor (Nat.le_of_ble_eq_true rfl) rfl (fun X C hX => ?_)
  refine e_aload_n C dX7_waitFor_0 rfl ?_
  refine e_iload_n C dX7_waitFor_1 rfl ?_
  refine f_callVr (As := [_]) (ci := 7) C mi_yX7_isSession mv_yX7_isSession b_ml_X7_94 dX7_waitFor_2 rfl c_X7_isSession (by decide) v17 rfl rfl (Nat.le_of_ble_eq_true rfl) ?_
  refine f_if_eq (tgt := 33) C dX7_waitFor_5 (by decide) (fun h_5 => ?_) (fun h_5 => ?_)
  · skip
    refine e_iconst (v := -1) C dX7_waitFor_33 (by decide) ?_
    exact f_ir C hX dX7_waitFor_34 (by rw [fWai, cif_neg (fun q => h_5 q.1)]) rfl
  · skip
    have hS := h_5
    obtain ⟨i, hi, rfl, ho⟩ := h_5
    refine e_iload_n C dX7_waitFor_8 rfl ?_
    refine f_callSr (As := [_]) C mi_yX7_isKey b_st_yX7_isKey b_ml_X7_85 dX7_waitFor_9 rfl c_X7_isKey (by decide) (Nat.le_of_ble_eq_true rfl) ?_
    refine f_if_eq (tgt := 33) C dX7_waitFor_12 (by decide) (fun h_12 => ?_) (fun h_12 => ?_)
    · skip
      refine e_iconst (v := -1) C dX7_waitFor_33 (by decide) ?_
      exact f_ir C hX dX7_waitFor_34 (by rw [fWai, cif_neg (fun q => h_12 q.2.1)]) rfl
    · skip
      refine e_aload_n C dX7_waitFor_15 rfl ?_
      refine e_iload_n C dX7_waitFor_16 rfl ?_
      refine f_callVr (As := [_]) (ci := 7) C mi_yX7_isPlace mv_yX7_isPlace b_ml_X7_52 dX7_waitFor_17 rfl c_X7_isPlace (by decide) v17 rfl rfl (Nat.le_of_ble_eq_true rfl) ?_
      refine f_if_eq (tgt := 33) C dX7_waitFor_20 (by decide) (fun h_20 => ?_) (fun h_20 => ?_)
      · skip
        refine e_iconst (v := -1) C dX7_waitFor_33 (by decide) ?_
        exact f_ir C hX dX7_waitFor_34 (by rw [fWai, cif_neg (fun q => h_20 q.2.2)]) rfl
      · skip
        have hPP := h_20
        obtain ⟨p, rfl, hp⟩ := isP_nat h_20
        have hpl : p < 10 := by rcases hp with h | h <;> omega
        refine e_aload_n C dX7_waitFor_23 rfl ?_
        refine e_iload_n C dX7_waitFor_24 rfl ?_
        refine e_iload_n C dX7_waitFor_25 rfl ?_
        refine e_iload_n C dX7_waitFor_26 rfl ?_
        refine f_callVr (As := [_, _, _]) (ci := 7) C mi_yX7_waitOf mv_yX7_waitOf b_ml_X7_126 dX7_waitFor_27 rfl (c_X7_waitOf (by assumption) (by assumption) (by assumption) (by assumption)) (by decide) v17 rfl rfl (Nat.le_of_ble_eq_true rfl) ?_
        refine e_goto (tgt := 34) C dX7_waitFor_30 (by decide) ?_
        exact f_ir C hX dX7_waitFor_34 (by rw [fWai, cif_pos ⟨hS, h_12, hPP⟩, nt_nI (by omega)]) rfl
set_option maxRecDepth 100000 in
set_option maxHeartbeats 4000000 in
theorem lp_X7_bestReplica {E : EV} {l : Launch} {X : CX} {mem : MEM} {z : ZZ} {c : Nat} (hI : Inv z c) {s : Nat} (hs : s < 8) (ho : sz z s 0 = 1) {key : Int32} (hk : isK key) (C : CK E X RX7 cX7_bestReplica 8 (some .int) 6) (hX : EX E X l (Ret (iv (fBest z (nI s) key)) (mz mem z))) : ∀ (lpn : Nat) (i : Nat) (b w : Int32) (x6 x7 : VV), 5 - i < lpn → i ≤ 5 → b = (bst z s key i).1 → w = (bst z s key i).2 → G E X 8 26 [rv (17, 0, 0), iv (nI s), iv key, iv b, iv w, iv (nI i), x6, x7] [] (mz mem z) := by
  intro lpn
  induction lpn with
  | zero => intro i b w x6 x7 hlpn; exact absurd hlpn (Nat.not_lt_zero _)
  | succ lpn ih =>
    intro i b w x6 x7 hlpn hi hb hw
    refine e_iload C dX7_bestReplica_26 rfl ?_
    refine e_iconst (v := nI 5) C dX7_bestReplica_28 (by decide) ?_
    refine e_icmp_ge (tgt := 117) C dX7_bestReplica_29 (by decide) (fun h_29 => ?_) (fun h_29 => ?_)
    · skip
      have nh_29 := xI_leD (by omega) (by omega) h_29
      refine e_iload_n C dX7_bestReplica_117 rfl ?_
      obtain rfl : i = 5 := by omega
      exact f_ir C hX dX7_bestReplica_118 (by rw [fBest, cif_pos ⟨⟨_, hs, rfl, ho⟩, hk⟩, nt_nI (by omega)]; exact hb) rfl
    · skip
      have nh_29 := xI_nleD (by omega) (by omega) h_29
      refine e_aload_n C dX7_bestReplica_32 rfl ?_
      refine e_iload C dX7_bestReplica_33 rfl ?_
      refine e_iconst (v := nI 0) C dX7_bestReplica_35 (by decide) ?_
      refine f_callVr (As := [_, _]) (ci := 7) C mi_yX7_ofReplica mv_yX7_ofReplica b_ml_X7_30 dX7_bestReplica_36 rfl (c_X7_ofReplica (by omega) (by omega)) (by decide) v17 rfl rfl (Nat.le_of_ble_eq_true rfl) ?_
      refine e_iconst (v := nI 1) C dX7_bestReplica_39 (by decide) ?_
      refine e_icmp_ne (tgt := 54) C dX7_bestReplica_40 (by decide) (fun h_40 => ?_) (fun h_40 => ?_)
      · skip
        refine e_bipush (v := -6) C dX7_bestReplica_54 (by decide) ?_
        refine f_istore (ls1 := [_, _, _, _, _, _, _, _]) C dX7_bestReplica_56 (by decide) rfl ?_
        refine e_iload C dX7_bestReplica_58 rfl ?_
        refine e_bipush (v := -6) C dX7_bestReplica_60 (by decide) ?_
        refine e_icmp_eq (tgt := 82) C dX7_bestReplica_62 (by decide) (fun h_62 => ?_) (fun h_62 => ?_)
        · skip
          refine e_iconst (v := nI 0) C dX7_bestReplica_82 (by decide) ?_
          refine f_istore (ls1 := [_, _, _, _, _, _, _, _]) C dX7_bestReplica_83 (by decide) rfl ?_
          refine e_iload C dX7_bestReplica_85 rfl ?_
          refine e_if_eq (tgt := 95) C dX7_bestReplica_87 (by decide) (fun h_87 => ?_) (fun h_87 => ?_)
          · skip
            have nh_87 := xI_inj (a := 0) (b := 0) (by omega) (by omega) h_87
            refine e_iload_n C dX7_bestReplica_95 rfl ?_
            refine f_istore_n (ls1 := [_, _, _, _, _, _, _, _]) C dX7_bestReplica_96 (by decide) rfl ?_
            refine e_iload C dX7_bestReplica_97 rfl ?_
            refine e_if_eq (tgt := 107) C dX7_bestReplica_99 (by decide) (fun h_99 => ?_) (fun h_99 => ?_)
            · skip
              have nh_99 := xI_inj (a := 0) (b := 0) (by omega) (by omega) h_99
              refine e_iload C dX7_bestReplica_107 rfl ?_
              refine f_istore (ls1 := [_, _, _, _, _, _, _, _]) C dX7_bestReplica_109 (by decide) rfl ?_
              refine f_iincn (ls1 := [_, _, _, _, _, _, _, _]) C dX7_bestReplica_111 rfl (by decide) rfl ?_
              refine e_goto (tgt := 26) C dX7_bestReplica_114 (by decide) ?_
              exact ih (i + 1) b w _ _ (by omega) (by omega) (by rw [bst, cif_neg (fun q => q.1 (waitg_no (by omega) h_40))]; exact hb) (by rw [bst, cif_neg (fun q => q.1 (waitg_no (by omega) h_40))]; exact hw)
            · skip
              exact absurd (by decide) h_99
          · skip
            exact absurd (by decide) h_87
        · skip
          exact absurd (by decide) h_62
      · skip
        refine e_aload_n C dX7_bestReplica_43 rfl ?_
        refine e_iload_n C dX7_bestReplica_44 rfl ?_
        refine e_iload_n C dX7_bestReplica_45 rfl ?_
        refine e_iload C dX7_bestReplica_46 rfl ?_
        refine f_callVr (As := [_, _, _]) (ci := 7) C mi_yX7_waitOf mv_yX7_waitOf b_ml_X7_126 dX7_bestReplica_48 rfl (c_X7_waitOf hI hs ho (Or.inr ⟨by omega, h_40⟩)) (by decide) v17 rfl rfl (Nat.le_of_ble_eq_true rfl) ?_
        refine e_goto (tgt := 56) C dX7_bestReplica_51 (by decide) ?_
        refine f_istore (ls1 := [_, _, _, _, _, _, _, _]) C dX7_bestReplica_56 (by decide) rfl ?_
        refine e_iload C dX7_bestReplica_58 rfl ?_
        refine e_bipush (v := -6) C dX7_bestReplica_60 (by decide) ?_
        refine e_icmp_eq (tgt := 82) C dX7_bestReplica_62 (by decide) (fun h_62 => ?_) (fun h_62 => ?_)
        · skip
          refine e_iconst (v := nI 0) C dX7_bestReplica_82 (by decide) ?_
          refine f_istore (ls1 := [_, _, _, _, _, _, _, _]) C dX7_bestReplica_83 (by decide) rfl ?_
          refine e_iload C dX7_bestReplica_85 rfl ?_
          refine e_if_eq (tgt := 95) C dX7_bestReplica_87 (by decide) (fun h_87 => ?_) (fun h_87 => ?_)
          · skip
            have nh_87 := xI_inj (a := 0) (b := 0) (by omega) (by omega) h_87
            refine e_iload_n C dX7_bestReplica_95 rfl ?_
            refine f_istore_n (ls1 := [_, _, _, _, _, _, _, _]) C dX7_bestReplica_96 (by decide) rfl ?_
            refine e_iload C dX7_bestReplica_97 rfl ?_
            refine e_if_eq (tgt := 107) C dX7_bestReplica_99 (by decide) (fun h_99 => ?_) (fun h_99 => ?_)
            · skip
              have nh_99 := xI_inj (a := 0) (b := 0) (by omega) (by omega) h_99
              refine e_iload C dX7_bestReplica_107 rfl ?_
              refine f_istore (ls1 := [_, _, _, _, _, _, _, _]) C dX7_bestReplica_109 (by decide) rfl ?_
              refine f_iincn (ls1 := [_, _, _, _, _, _, _, _]) C dX7_bestReplica_111 rfl (by decide) rfl ?_
              refine e_goto (tgt := 26) C dX7_bestReplica_114 (by decide) ?_
              exact ih (i + 1) b w _ _ (by omega) (by omega) (by rw [bst, cif_neg (fun q => q.1 h_62)]; exact hb) (by rw [bst, cif_neg (fun q => q.1 h_62)]; exact hw)
            · skip
              exact absurd (by decide) h_99
          · skip
            exact absurd (by decide) h_87
        · skip
          refine e_iload_n C dX7_bestReplica_65 rfl ?_
          refine e_bipush (v := -6) C dX7_bestReplica_66 (by decide) ?_
          refine e_icmp_eq (tgt := 78) C dX7_bestReplica_68 (by decide) (fun h_68 => ?_) (fun h_68 => ?_)
          · skip
            refine e_iconst (v := nI 1) C dX7_bestReplica_78 (by decide) ?_
            refine e_goto (tgt := 83) C dX7_bestReplica_79 (by decide) ?_
            refine f_istore (ls1 := [_, _, _, _, _, _, _, _]) C dX7_bestReplica_83 (by decide) rfl ?_
            refine e_iload C dX7_bestReplica_85 rfl ?_
            refine e_if_eq (tgt := 95) C dX7_bestReplica_87 (by decide) (fun h_87 => ?_) (fun h_87 => ?_)
            · skip
              exact absurd h_87 (by decide)
            · skip
              have nh_87 := xI_neD (a := 1) (b := 0) h_87
              refine e_iload C dX7_bestReplica_90 rfl ?_
              refine e_goto (tgt := 96) C dX7_bestReplica_92 (by decide) ?_
              refine f_istore_n (ls1 := [_, _, _, _, _, _, _, _]) C dX7_bestReplica_96 (by decide) rfl ?_
              refine e_iload C dX7_bestReplica_97 rfl ?_
              refine e_if_eq (tgt := 107) C dX7_bestReplica_99 (by decide) (fun h_99 => ?_) (fun h_99 => ?_)
              · skip
                exact absurd h_99 (by decide)
              · skip
                have nh_99 := xI_neD (a := 1) (b := 0) h_99
                refine e_iload C dX7_bestReplica_102 rfl ?_
                refine e_goto (tgt := 109) C dX7_bestReplica_104 (by decide) ?_
                refine f_istore (ls1 := [_, _, _, _, _, _, _, _]) C dX7_bestReplica_109 (by decide) rfl ?_
                refine f_iincn (ls1 := [_, _, _, _, _, _, _, _]) C dX7_bestReplica_111 rfl (by decide) rfl ?_
                refine e_goto (tgt := 26) C dX7_bestReplica_114 (by decide) ?_
                exact ih (i + 1) _ _ _ _ (by omega) (by omega) (by rw [bst, cif_pos (⟨h_62, Or.inl (hb ▸ h_68)⟩)]) (by rw [bst, cif_pos (⟨h_62, Or.inl (hb ▸ h_68)⟩)])
          · skip
            refine e_iload C dX7_bestReplica_71 rfl ?_
            refine e_iload C dX7_bestReplica_73 rfl ?_
            refine e_icmp_ge (tgt := 82) C dX7_bestReplica_75 (by decide) (fun h_75 => ?_) (fun h_75 => ?_)
            · skip
              refine e_iconst (v := nI 0) C dX7_bestReplica_82 (by decide) ?_
              refine f_istore (ls1 := [_, _, _, _, _, _, _, _]) C dX7_bestReplica_83 (by decide) rfl ?_
              refine e_iload C dX7_bestReplica_85 rfl ?_
              refine e_if_eq (tgt := 95) C dX7_bestReplica_87 (by decide) (fun h_87 => ?_) (fun h_87 => ?_)
              · skip
                have nh_87 := xI_inj (a := 0) (b := 0) (by omega) (by omega) h_87
                refine e_iload_n C dX7_bestReplica_95 rfl ?_
                refine f_istore_n (ls1 := [_, _, _, _, _, _, _, _]) C dX7_bestReplica_96 (by decide) rfl ?_
                refine e_iload C dX7_bestReplica_97 rfl ?_
                refine e_if_eq (tgt := 107) C dX7_bestReplica_99 (by decide) (fun h_99 => ?_) (fun h_99 => ?_)
                · skip
                  have nh_99 := xI_inj (a := 0) (b := 0) (by omega) (by omega) h_99
                  refine e_iload C dX7_bestReplica_107 rfl ?_
                  refine f_istore (ls1 := [_, _, _, _, _, _, _, _]) C dX7_bestReplica_109 (by decide) rfl ?_
                  refine f_iincn (ls1 := [_, _, _, _, _, _, _, _]) C dX7_bestReplica_111 rfl (by decide) rfl ?_
                  refine e_goto (tgt := 26) C dX7_bestReplica_114 (by decide) ?_
                  exact ih (i + 1) b w _ _ (by omega) (by omega) (by rw [bst, cif_neg (fun q => q.2.elim (fun r => h_68 (hb ▸ r)) (fun r => by rw [hw, Int32.le_iff_toInt_le] at h_75; rw [Int32.lt_iff_toInt_lt] at r; omega))]; exact hb) (by rw [bst, cif_neg (fun q => q.2.elim (fun r => h_68 (hb ▸ r)) (fun r => by rw [hw, Int32.le_iff_toInt_le] at h_75; rw [Int32.lt_iff_toInt_lt] at r; omega))]; exact hw)
                · skip
                  exact absurd (by decide) h_99
              · skip
                exact absurd (by decide) h_87
            · skip
              refine e_iconst (v := nI 1) C dX7_bestReplica_78 (by decide) ?_
              refine e_goto (tgt := 83) C dX7_bestReplica_79 (by decide) ?_
              refine f_istore (ls1 := [_, _, _, _, _, _, _, _]) C dX7_bestReplica_83 (by decide) rfl ?_
              refine e_iload C dX7_bestReplica_85 rfl ?_
              refine e_if_eq (tgt := 95) C dX7_bestReplica_87 (by decide) (fun h_87 => ?_) (fun h_87 => ?_)
              · skip
                exact absurd h_87 (by decide)
              · skip
                have nh_87 := xI_neD (a := 1) (b := 0) h_87
                refine e_iload C dX7_bestReplica_90 rfl ?_
                refine e_goto (tgt := 96) C dX7_bestReplica_92 (by decide) ?_
                refine f_istore_n (ls1 := [_, _, _, _, _, _, _, _]) C dX7_bestReplica_96 (by decide) rfl ?_
                refine e_iload C dX7_bestReplica_97 rfl ?_
                refine e_if_eq (tgt := 107) C dX7_bestReplica_99 (by decide) (fun h_99 => ?_) (fun h_99 => ?_)
                · skip
                  exact absurd h_99 (by decide)
                · skip
                  have nh_99 := xI_neD (a := 1) (b := 0) h_99
                  refine e_iload C dX7_bestReplica_102 rfl ?_
                  refine e_goto (tgt := 109) C dX7_bestReplica_104 (by decide) ?_
                  refine f_istore (ls1 := [_, _, _, _, _, _, _, _]) C dX7_bestReplica_109 (by decide) rfl ?_
                  refine f_iincn (ls1 := [_, _, _, _, _, _, _, _]) C dX7_bestReplica_111 rfl (by decide) rfl ?_
                  refine e_goto (tgt := 26) C dX7_bestReplica_114 (by decide) ?_
                  exact ih (i + 1) _ _ _ _ (by omega) (by omega) (by rw [bst, cif_pos (⟨h_62, Or.inr (by rw [hw, Int32.le_iff_toInt_le] at h_75; rw [Int32.lt_iff_toInt_lt]; omega)⟩)]) (by rw [bst, cif_pos (⟨h_62, Or.inr (by rw [hw, Int32.le_iff_toInt_le] at h_75; rw [Int32.lt_iff_toInt_lt]; omega)⟩)])
set_option maxRecDepth 100000 in
set_option maxHeartbeats 4000000 in
theorem c_X7_bestReplica {E : EV} {l : Launch} {mem : MEM} {z : ZZ} {c : Nat} (hI : Inv z c) {s key : Int32} : Ct E l yX7_bestReplica (me_ws yX7_bestReplica cX7_bestReplica 8 (some .int)) 6 [rv (17, 0, 0), iv s, iv key] (mz mem z) (Ret (iv (fBest z s key)) (mz mem z)) := by
  refine Ct.of (RC := RX7) (ls0 := [rv (17, 0, 0), iv s, iv key, uv, uv, uv, uv, uv]) mi_yX7_bestReplica (Nat.le_of_ble_eq_true rfl) rfl (fun X C hX => ?_)
  refine e_aload_n C dX7_bestReplica_0 rfl ?_
  refine e_iload_n C dX7_bestReplica_1 rfl ?_
  refine f_callVr (As := [_]) (ci := 7) C mi_yX7_isSession mv_yX7_isSession b_ml_X7_94 dX7_bestReplica_2 rfl c_X7_isSession (by decide) v17 rfl rfl (Nat.le_of_ble_eq_true rfl) ?_
  refine f_if_eq (tgt := 15) C dX7_bestReplica_5 (by decide) (fun h_5 => ?_) (fun h_5 => ?_)
  · skip
    refine e_iconst (v := -1) C dX7_bestReplica_15 (by decide) ?_
    exact f_ir C hX dX7_bestReplica_16 (by rw [fBest, cif_neg (fun q => h_5 q.1)]) rfl
  · skip
    have hS := h_5
    obtain ⟨i, hi, rfl, ho⟩ := h_5
    refine e_iload_n C dX7_bestReplica_8 rfl ?_
    refine f_callSr (As := [_]) C mi_yX7_isKey b_st_yX7_isKey b_ml_X7_85 dX7_bestReplica_9 rfl c_X7_isKey (by decide) (Nat.le_of_ble_eq_true rfl) ?_
    refine f_if_ne (tgt := 17) C dX7_bestReplica_12 (by decide) (fun h_12 => ?_) (fun h_12 => ?_)
    · skip
      refine e_bipush (v := -6) C dX7_bestReplica_17 (by decide) ?_
      refine f_istore_n (ls1 := [_, _, _, _, _, _, _, _]) C dX7_bestReplica_19 (by decide) rfl ?_
      refine e_iconst (v := nI 0) C dX7_bestReplica_20 (by decide) ?_
      refine f_istore (ls1 := [_, _, _, _, _, _, _, _]) C dX7_bestReplica_21 (by decide) rfl ?_
      refine e_iconst (v := nI 0) C dX7_bestReplica_23 (by decide) ?_
      refine f_istore (ls1 := [_, _, _, _, _, _, _, _]) C dX7_bestReplica_24 (by decide) rfl ?_
      exact lp_X7_bestReplica hI hi ho h_12 C hX 6 0 _ _ _ _ (by decide) (by decide) rfl rfl
    · skip
      refine e_iconst (v := -1) C dX7_bestReplica_15 (by decide) ?_
      exact f_ir C hX dX7_bestReplica_16 (by rw [fBest, cif_neg (fun q => h_12 q.2)]) rfl
set_option maxRecDepth 100000 in
set_option maxHeartbeats 4000000 in
theorem lp_X7_keysAfter {E : EV} {l : Launch} {X : CX} {mem : MEM} {z : ZZ} {c : Nat} (hI : Inv z c) {s : Nat} (hs : s < 8) (ho : sz z s 0 = 1) {p t : Nat} (hp : isPn z p) (ht : t ≤ 99) (C : CK E X RX7 cX7_keysAfter 6 (some .int) 6) (hX : EX E X l (Ret (iv (fKeys z (nI s) (nI p) (nI t))) (mz mem z))) : ∀ (lpn : Nat) (i w : Nat), 12 - i < lpn → i ≤ 12 → w = kaf z s (nI p) (nI t) i → G E X 6 37 [rv (17, 0, 0), iv (nI s), iv (nI p), iv (nI t), iv (nI w), iv (nI i)] [] (mz mem z) := by
  intro lpn
  induction lpn with
  | zero => intro i w hlpn; exact absurd hlpn (Nat.not_lt_zero _)
  | succ lpn ih =>
    intro i w hlpn hi hw
    have hpl : p < 10 := by rcases hp with h | h <;> omega
    have hp95 : p = 9 ∨ p < 5 := by rcases hp with h | h <;> omega
    refine e_iload C dX7_keysAfter_37 rfl ?_
    refine e_bipush (v := nI 12) C dX7_keysAfter_39 (by decide) ?_
    refine e_icmp_ge (tgt := 76) C dX7_keysAfter_41 (by decide) (fun h_41 => ?_) (fun h_41 => ?_)
    · skip
      have nh_41 := xI_leD (by omega) (by omega) h_41
      refine e_iload C dX7_keysAfter_76 rfl ?_
      obtain rfl : i = 12 := by omega
      exact f_ir C hX dX7_keysAfter_78 (by rw [fKeys, cif_pos ⟨⟨_, hs, rfl, ho⟩, isP_of hp⟩, cif_pos ⟨nI_le (Nat.zero_le _) (by omega), nI_le ht (by decide)⟩, nt_nI (by omega), hw]) rfl
    · skip
      have nh_41 := xI_nleD (by omega) (by omega) h_41
      refine e_iload C dX7_keysAfter_44 rfl ?_
      refine e_aload_n C dX7_keysAfter_46 rfl ?_
      refine e_iload_n C dX7_keysAfter_47 rfl ?_
      refine e_iload_n C dX7_keysAfter_48 rfl ?_
      refine f_callVr (As := [_, _]) (ci := 7) C mi_yX7_atBehind mv_yX7_atBehind b_ml_X7_75 dX7_keysAfter_49 rfl (c_X7_atBehind hp95) (by decide) v17 rfl rfl (Nat.le_of_ble_eq_true rfl) ?_
      refine e_aload_n C dX7_keysAfter_52 rfl ?_
      refine e_iload_n C dX7_keysAfter_53 rfl ?_
      refine e_iload C dX7_keysAfter_54 rfl ?_
      refine f_callVr (As := [_, _]) (ci := 7) C mi_yX7_needed mv_yX7_needed b_ml_X7_123 dX7_keysAfter_56 rfl (c_X7_needed hI hs ho) (by decide) v17 rfl rfl (Nat.le_of_ble_eq_true rfl) ?_
      refine e_icmp_lt (tgt := 66) C dX7_keysAfter_59 (by decide) (fun h_59 => ?_) (fun h_59 => ?_)
      · skip
        refine e_iconst (v := nI 0) C dX7_keysAfter_66 (by decide) ?_
        refine f_iaddn C dX7_keysAfter_67 ?_
        refine f_istore (ls1 := [_, _, _, _, _, _]) C dX7_keysAfter_68 (by decide) rfl ?_
        refine f_iincn (ls1 := [_, _, _, _, _, _]) C dX7_keysAfter_70 rfl (by decide) rfl ?_
        refine e_goto (tgt := 37) C dX7_keysAfter_73 (by decide) ?_
        exact ih (i + 1) _ (by omega) (by omega) (by rw [kaf, cif_neg (fun q => by have r := (kaf_eq hI hs ho hp ht).mpr q; rw [Int32.le_iff_toInt_le] at r; rw [Int32.lt_iff_toInt_lt] at h_59; omega)]; omega)
      · skip
        refine e_iconst (v := nI 1) C dX7_keysAfter_62 (by decide) ?_
        refine e_goto (tgt := 67) C dX7_keysAfter_63 (by decide) ?_
        refine f_iaddn C dX7_keysAfter_67 ?_
        refine f_istore (ls1 := [_, _, _, _, _, _]) C dX7_keysAfter_68 (by decide) rfl ?_
        refine f_iincn (ls1 := [_, _, _, _, _, _]) C dX7_keysAfter_70 rfl (by decide) rfl ?_
        refine e_goto (tgt := 37) C dX7_keysAfter_73 (by decide) ?_
        exact ih (i + 1) _ (by omega) (by omega) (by rw [kaf, cif_pos ((kaf_eq hI hs ho hp ht).mp (by rw [Int32.le_iff_toInt_le]; rw [Int32.lt_iff_toInt_lt] at h_59; omega))]; omega)
set_option maxRecDepth 100000 in
set_option maxHeartbeats 4000000 in
theorem c_X7_keysAfter {E : EV} {l : Launch} {mem : MEM} {z : ZZ} {c : Nat} (hI : Inv z c) {s place t : Int32} : Ct E l yX7_keysAfter (me_ws yX7_keysAfter cX7_keysAfter 6 (some .int)) 6 [rv (17, 0, 0), iv s, iv place, iv t] (mz mem z) (Ret (iv (fKeys z s place t)) (mz mem z)) := by
  refine Ct.of (RC := RX7) (ls0 := [rv (17, 0, 0), iv s, iv place, iv t, uv, uv]) mi_yX7_keysAfter (Nat.le_of_ble_eq_true rfl) rfl (fun X C hX => ?_)
  refine e_aload_n C dX7_keysAfter_0 rfl ?_
  refine e_iload_n C dX7_keysAfter_1 rfl ?_
  refine f_callVr (As := [_]) (ci := 7) C mi_yX7_isSession mv_yX7_isSession b_ml_X7_94 dX7_keysAfter_2 rfl c_X7_isSession (by decide) v17 rfl rfl (Nat.le_of_ble_eq_true rfl) ?_
  refine f_if_eq (tgt := 16) C dX7_keysAfter_5 (by decide) (fun h_5 => ?_) (fun h_5 => ?_)
  · skip
    refine e_iconst (v := -1) C dX7_keysAfter_16 (by decide) ?_
    exact f_ir C hX dX7_keysAfter_17 (by rw [fKeys, cif_neg (fun q => h_5 q.1)]) rfl
  · skip
    have hS := h_5
    obtain ⟨i, hi, rfl, ho⟩ := h_5
    refine e_aload_n C dX7_keysAfter_8 rfl ?_
    refine e_iload_n C dX7_keysAfter_9 rfl ?_
    refine f_callVr (As := [_]) (ci := 7) C mi_yX7_isPlace mv_yX7_isPlace b_ml_X7_52 dX7_keysAfter_10 rfl c_X7_isPlace (by decide) v17 rfl rfl (Nat.le_of_ble_eq_true rfl) ?_
    refine f_if_ne (tgt := 18) C dX7_keysAfter_13 (by decide) (fun h_13 => ?_) (fun h_13 => ?_)
    · skip
      have hPP := h_13
      obtain ⟨p, rfl, hp⟩ := isP_nat h_13
      have hpl : p < 10 := by rcases hp with h | h <;> omega
      refine e_iload_n C dX7_keysAfter_18 rfl ?_
      refine e_iconst (v := nI 0) C dX7_keysAfter_19 (by decide) ?_
      refine e_bipush (v := nI 99) C dX7_keysAfter_20 (by decide) ?_
      refine f_callSr (As := [_, _, _]) C mi_yX7_in b_st_yX7_in b_ml_X7_26 dX7_keysAfter_22 rfl c_X7_in (by decide) (Nat.le_of_ble_eq_true rfl) ?_
      refine f_if_ne (tgt := 31) C dX7_keysAfter_25 (by decide) (fun h_25 => ?_) (fun h_25 => ?_)
      · skip
        have hin := h_25
        obtain ⟨tt, htt, rfl⟩ := xI_le_of h_25.1 h_25.2 (by decide)
        refine e_iconst (v := nI 0) C dX7_keysAfter_31 (by decide) ?_
        refine f_istore (ls1 := [_, _, _, _, _, _]) C dX7_keysAfter_32 (by decide) rfl ?_
        refine e_iconst (v := nI 0) C dX7_keysAfter_34 (by decide) ?_
        refine f_istore (ls1 := [_, _, _, _, _, _]) C dX7_keysAfter_35 (by decide) rfl ?_
        exact lp_X7_keysAfter hI hi ho hp htt C hX 13 0 0 (by decide) (by decide) rfl
      · skip
        refine e_bipush (v := -2) C dX7_keysAfter_28 (by decide) ?_
        exact f_ir C hX dX7_keysAfter_30 (by rw [fKeys, cif_pos ⟨hS, hPP⟩, cif_neg h_25]) rfl
    · skip
      refine e_iconst (v := -1) C dX7_keysAfter_16 (by decide) ?_
      exact f_ir C hX dX7_keysAfter_17 (by rw [fKeys, cif_neg (fun q => h_13 q.2)]) rfl
set_option maxRecDepth 100000 in
set_option maxHeartbeats 4000000 in
theorem lp_X7_catchUp {E : EV} {l : Launch} {X : CX} {mem : MEM} {z : ZZ} {c : Nat} (hI : Inv z c) (C : CK E X RX7 cX7_catchUp 5 (some .int) 2) (hX : EX E X l (Ret (iv (cup z 5)) (mz mem z))) : ∀ (lpn : Nat) (i w : Nat) (x3 x4 : VV), 5 - i < lpn → i ≤ 5 → w < 2 ^ 31 → nI w = cup z i → G E X 5 4 [rv (17, 0, 0), iv (nI w), iv (nI i), x3, x4] [] (mz mem z) := by
  intro lpn
  induction lpn with
  | zero => intro i w x3 x4 hlpn; exact absurd hlpn (Nat.not_lt_zero _)
  | succ lpn ih =>
    intro i w x3 x4 hlpn hi hwl hw
    have hc200 := hI.1
    have hcn := hI.2.1
    have hcn6 : ¬ cup z i = -6 := by rw [← hw]; exact nI_neN hwl (by decide)
    refine e_iload_n C dX7_catchUp_4 rfl ?_
    refine e_iconst (v := nI 5) C dX7_catchUp_5 (by decide) ?_
    refine e_icmp_ge (tgt := 99) C dX7_catchUp_6 (by decide) (fun h_6 => ?_) (fun h_6 => ?_)
    · skip
      have nh_6 := xI_leD (by omega) (by omega) h_6
      refine e_iload_n C dX7_catchUp_99 rfl ?_
      obtain rfl : i = 5 := by omega
      exact f_ir C hX dX7_catchUp_100 hw rfl
    · skip
      have nh_6 := xI_nleD (by omega) (by omega) h_6
      refine e_aload_n C dX7_catchUp_9 rfl ?_
      refine e_iload_n C dX7_catchUp_10 rfl ?_
      refine e_iconst (v := nI 0) C dX7_catchUp_11 (by decide) ?_
      refine f_callVr (As := [_, _]) (ci := 7) C mi_yX7_ofReplica mv_yX7_ofReplica b_ml_X7_30 dX7_catchUp_12 rfl (c_X7_ofReplica (by omega) (by omega)) (by decide) v17 rfl rfl (Nat.le_of_ble_eq_true rfl) ?_
      refine e_iconst (v := nI 1) C dX7_catchUp_15 (by decide) ?_
      refine e_icmp_ne (tgt := 35) C dX7_catchUp_16 (by decide) (fun h_16 => ?_) (fun h_16 => ?_)
      · skip
        refine e_iconst (v := nI 0) C dX7_catchUp_35 (by decide) ?_
        refine f_istore_n (ls1 := [_, _, _, _, _]) C dX7_catchUp_36 (by decide) rfl ?_
        refine e_aload_n C dX7_catchUp_37 rfl ?_
        refine e_iload_n C dX7_catchUp_38 rfl ?_
        refine e_iconst (v := nI 3) C dX7_catchUp_39 (by decide) ?_
        refine f_callVr (As := [_, _]) (ci := 7) C mi_yX7_ofReplica mv_yX7_ofReplica b_ml_X7_30 dX7_catchUp_40 rfl (c_X7_ofReplica (by omega) (by omega)) (by decide) v17 rfl rfl (Nat.le_of_ble_eq_true rfl) ?_
        refine e_iconst (v := nI 1) C dX7_catchUp_43 (by decide) ?_
        refine e_icmp_ne (tgt := 51) C dX7_catchUp_44 (by decide) (fun h_44 => ?_) (fun h_44 => ?_)
        · skip
          refine e_aload_n C dX7_catchUp_51 rfl ?_
          refine e_iload_n C dX7_catchUp_52 rfl ?_
          refine e_iconst (v := nI 2) C dX7_catchUp_53 (by decide) ?_
          refine f_callVr (As := [_, _]) (ci := 7) C mi_yX7_ofReplica mv_yX7_ofReplica b_ml_X7_30 dX7_catchUp_54 rfl (c_X7_ofReplica (by omega) (by omega)) (by decide) v17 rfl rfl (Nat.le_of_ble_eq_true rfl) ?_
          refine f_istore (ls1 := [_, _, _, _, _]) C dX7_catchUp_57 (by decide) rfl ?_
          refine e_iload_n C dX7_catchUp_59 rfl ?_
          refine e_if_le (tgt := 71) C dX7_catchUp_60 (by decide) (fun h_60 => ?_) (fun h_60 => ?_)
          · skip
            have nh_60 := xI_leD (a := 0) (b := 0) (by omega) (by omega) h_60
            refine e_iload_n C dX7_catchUp_71 rfl ?_
            refine e_if_le (tgt := 91) C dX7_catchUp_72 (by decide) (fun h_72 => ?_) (fun h_72 => ?_)
            · skip
              have nh_72 := xI_leD (a := 0) (b := 0) (by omega) (by omega) h_72
              refine e_iload_n C dX7_catchUp_91 rfl ?_
              refine f_istore_n (ls1 := [_, _, _, _, _]) C dX7_catchUp_92 (by decide) rfl ?_
              refine f_iincn (ls1 := [_, _, _, _, _]) C dX7_catchUp_93 rfl (by decide) rfl ?_
              refine e_goto (tgt := 4) C dX7_catchUp_96 (by decide) ?_
              exact ih (i + 1) w _ _ (by omega) (by omega) hwl (by rw [cup, cif_neg hcn6, cif_neg (show ¬ rz z i 0 = 1 from h_16)]; exact hw)
            · skip
              exact absurd (by decide) h_72
          · skip
            exact absurd (by decide) h_60
        · skip
          refine e_iconst (v := nI 0) C dX7_catchUp_47 (by decide) ?_
          refine e_goto (tgt := 57) C dX7_catchUp_48 (by decide) ?_
          refine f_istore (ls1 := [_, _, _, _, _]) C dX7_catchUp_57 (by decide) rfl ?_
          refine e_iload_n C dX7_catchUp_59 rfl ?_
          refine e_if_le (tgt := 71) C dX7_catchUp_60 (by decide) (fun h_60 => ?_) (fun h_60 => ?_)
          · skip
            have nh_60 := xI_leD (a := 0) (b := 0) (by omega) (by omega) h_60
            refine e_iload_n C dX7_catchUp_71 rfl ?_
            refine e_if_le (tgt := 91) C dX7_catchUp_72 (by decide) (fun h_72 => ?_) (fun h_72 => ?_)
            · skip
              have nh_72 := xI_leD (a := 0) (b := 0) (by omega) (by omega) h_72
              refine e_iload_n C dX7_catchUp_91 rfl ?_
              refine f_istore_n (ls1 := [_, _, _, _, _]) C dX7_catchUp_92 (by decide) rfl ?_
              refine f_iincn (ls1 := [_, _, _, _, _]) C dX7_catchUp_93 rfl (by decide) rfl ?_
              refine e_goto (tgt := 4) C dX7_catchUp_96 (by decide) ?_
              exact ih (i + 1) w _ _ (by omega) (by omega) hwl (by rw [cup, cif_neg hcn6, cif_neg (show ¬ rz z i 0 = 1 from h_16)]; exact hw)
            · skip
              exact absurd (by decide) h_72
          · skip
            exact absurd (by decide) h_60
      · skip
        obtain ⟨pp, qq, hpp, hqq, epp, eqq, hst⟩ := hI.reps (by omega) h_16
        refine e_aload_n C dX7_catchUp_19 rfl ?_
        refine e_getr C (ci := 7) 0 rfl rfl rfl (by decide) b_X7 rfl b_fl_X7_7 v17 rfl dX7_catchUp_20 ?_
        refine e_iconst (v := nI 0) C dX7_catchUp_23 (by decide) ?_
        refine f_iald C rfl v18 (by omega) (by decide) dX7_catchUp_24 ?_
        refine f_val (y := nI (c)) (by rw [mz_18]; exact hcn) ?_
        refine e_aload_n C dX7_catchUp_25 rfl ?_
        refine e_iload_n C dX7_catchUp_26 rfl ?_
        refine e_iconst (v := nI 1) C dX7_catchUp_27 (by decide) ?_
        refine f_callVr (As := [_, _]) (ci := 7) C mi_yX7_ofReplica mv_yX7_ofReplica b_ml_X7_30 dX7_catchUp_28 rfl (c_X7_ofReplica (by omega) (by omega)) (by decide) v17 rfl rfl (Nat.le_of_ble_eq_true rfl) ?_
        refine f_val (y := nI (pp)) epp ?_
        refine f_isubn C (by omega) dX7_catchUp_31 ?_
        refine e_goto (tgt := 36) C dX7_catchUp_32 (by decide) ?_
        refine f_istore_n (ls1 := [_, _, _, _, _]) C dX7_catchUp_36 (by decide) rfl ?_
        refine e_aload_n C dX7_catchUp_37 rfl ?_
        refine e_iload_n C dX7_catchUp_38 rfl ?_
        refine e_iconst (v := nI 3) C dX7_catchUp_39 (by decide) ?_
        refine f_callVr (As := [_, _]) (ci := 7) C mi_yX7_ofReplica mv_yX7_ofReplica b_ml_X7_30 dX7_catchUp_40 rfl (c_X7_ofReplica (by omega) (by omega)) (by decide) v17 rfl rfl (Nat.le_of_ble_eq_true rfl) ?_
        refine e_iconst (v := nI 1) C dX7_catchUp_43 (by decide) ?_
        refine e_icmp_ne (tgt := 51) C dX7_catchUp_44 (by decide) (fun h_44 => ?_) (fun h_44 => ?_)
        · skip
          refine e_aload_n C dX7_catchUp_51 rfl ?_
          refine e_iload_n C dX7_catchUp_52 rfl ?_
          refine e_iconst (v := nI 2) C dX7_catchUp_53 (by decide) ?_
          refine f_callVr (As := [_, _]) (ci := 7) C mi_yX7_ofReplica mv_yX7_ofReplica b_ml_X7_30 dX7_catchUp_54 rfl (c_X7_ofReplica (by omega) (by omega)) (by decide) v17 rfl rfl (Nat.le_of_ble_eq_true rfl) ?_
          refine f_val (y := nI (qq)) eqq ?_
          refine f_istore (ls1 := [_, _, _, _, _]) C dX7_catchUp_57 (by decide) rfl ?_
          refine e_iload_n C dX7_catchUp_59 rfl ?_
          refine e_if_le (tgt := 71) C dX7_catchUp_60 (by decide) (fun h_60 => ?_) (fun h_60 => ?_)
          · skip
            have nh_60 := xI_leD (a := (c - pp)) (b := 0) (by omega) (by omega) h_60
            refine e_iload_n C dX7_catchUp_71 rfl ?_
            refine e_if_le (tgt := 91) C dX7_catchUp_72 (by decide) (fun h_72 => ?_) (fun h_72 => ?_)
            · skip
              have nh_72 := xI_leD (a := (c - pp)) (b := 0) (by omega) (by omega) h_72
              refine e_iload_n C dX7_catchUp_91 rfl ?_
              refine f_istore_n (ls1 := [_, _, _, _, _]) C dX7_catchUp_92 (by decide) rfl ?_
              refine f_iincn (ls1 := [_, _, _, _, _]) C dX7_catchUp_93 rfl (by decide) rfl ?_
              refine e_goto (tgt := 4) C dX7_catchUp_96 (by decide) ?_
              exact ih (i + 1) w _ _ (by omega) (by omega) hwl (by rw [cup, cif_neg hcn6, cif_pos (show rz z i 0 = 1 from h_16), show cupw z i = nI 0 from by rw [cupw, epp, hcn, nt_nI (by omega), nt_nI (by omega), tkz, cif_pos (by omega)], cif_neg (by decide), ← hw, maxI_nI hwl (by decide), Nat.max_eq_left (Nat.zero_le w)])
            · skip
              have nh_72 := xI_nleD (a := (c - pp)) (b := 0) (by omega) (by omega) h_72
              omega
          · skip
            have nh_60 := xI_nleD (a := (c - pp)) (b := 0) (by omega) (by omega) h_60
            refine e_iload C dX7_catchUp_63 rfl ?_
            refine e_if_ne (tgt := 71) C dX7_catchUp_65 (by decide) (fun h_65 => ?_) (fun h_65 => ?_)
            · skip
              have nh_65 := xI_neD (a := qq) (b := 0) h_65
              refine e_iload_n C dX7_catchUp_71 rfl ?_
              refine e_if_le (tgt := 91) C dX7_catchUp_72 (by decide) (fun h_72 => ?_) (fun h_72 => ?_)
              · skip
                have nh_72 := xI_leD (a := (c - pp)) (b := 0) (by omega) (by omega) h_72
                omega
              · skip
                have nh_72 := xI_nleD (a := (c - pp)) (b := 0) (by omega) (by omega) h_72
                refine e_iload_n C dX7_catchUp_75 rfl ?_
                refine e_iload_n C dX7_catchUp_76 rfl ?_
                refine e_iload C dX7_catchUp_77 rfl ?_
                refine f_iaddn C dX7_catchUp_79 ?_
                refine e_iconst (v := nI 1) C dX7_catchUp_80 (by decide) ?_
                refine f_isubn C (by omega) dX7_catchUp_81 ?_
                refine e_iload C dX7_catchUp_82 rfl ?_
                refine f_idivn C (by omega) (by omega) (by omega) dX7_catchUp_84 ?_
                refine f_callSr (As := [_, _]) C mi_yX7_more b_st_yX7_more b_ml_X7_100 dX7_catchUp_85 rfl c_X7_more (by decide) (Nat.le_of_ble_eq_true rfl) ?_
                refine e_goto (tgt := 92) C dX7_catchUp_88 (by decide) ?_
                rw [show maxI (nI w) (nI ((c - pp + qq - 1) / qq)) = nI (max w ((c - pp + qq - 1) / qq)) from maxI_nI hwl (by have := Nat.div_le_self (c - pp + qq - 1) qq; omega)]
                refine f_istore_n (ls1 := [_, _, _, _, _]) C dX7_catchUp_92 (by decide) rfl ?_
                refine f_iincn (ls1 := [_, _, _, _, _]) C dX7_catchUp_93 rfl (by decide) rfl ?_
                refine e_goto (tgt := 4) C dX7_catchUp_96 (by decide) ?_
                exact ih (i + 1) (max w ((c - pp + qq - 1) / qq)) _ _ (by omega) (by omega) (by have := Nat.div_le_self (c - pp + qq - 1) qq; omega) (by rw [cup, cif_neg hcn6, cif_pos (show rz z i 0 = 1 from h_16), show cupw z i = nI ((c - pp + qq - 1) / qq) from by rw [cupw, epp, hcn, nt_nI (by omega), nt_nI (by omega), tkz, cif_neg (by omega), cif_neg (fun r => r.elim h_44 (fun r => by rw [eqq] at r; exact nh_65 (xI_inj (by omega) (by decide) r))), eqq, xI_add, xI_sub (by omega), xI_div (by omega) (by omega)], cif_neg (nI_neN (by have := Nat.div_le_self (c - pp + qq - 1) qq; omega) (by decide)), ← hw, maxI_nI hwl (by have := Nat.div_le_self (c - pp + qq - 1) qq; omega)])
            · skip
              have nh_65 := xI_inj (a := qq) (b := 0) (by omega) (by omega) h_65
              refine e_bipush (v := -6) C dX7_catchUp_68 (by decide) ?_
              have hcu : cup z (i + 1) = -6 := by rw [cup, cif_neg hcn6, cif_pos (show rz z i 0 = 1 from h_16), cif_pos (show cupw z i = -6 from by rw [cupw, epp, hcn, nt_nI (by omega), nt_nI (by omega), tkz, cif_neg (by omega), cif_pos (by first | exact Or.inl h_44 | exact Or.inr (by rw [eqq, nh_65]; rfl))])]
              exact f_ir C hX dX7_catchUp_70 (by rw [cup_abs hcu 5 (by omega)]) rfl
        · skip
          refine e_iconst (v := nI 0) C dX7_catchUp_47 (by decide) ?_
          refine e_goto (tgt := 57) C dX7_catchUp_48 (by decide) ?_
          refine f_istore (ls1 := [_, _, _, _, _]) C dX7_catchUp_57 (by decide) rfl ?_
          refine e_iload_n C dX7_catchUp_59 rfl ?_
          refine e_if_le (tgt := 71) C dX7_catchUp_60 (by decide) (fun h_60 => ?_) (fun h_60 => ?_)
          · skip
            have nh_60 := xI_leD (a := (c - pp)) (b := 0) (by omega) (by omega) h_60
            refine e_iload_n C dX7_catchUp_71 rfl ?_
            refine e_if_le (tgt := 91) C dX7_catchUp_72 (by decide) (fun h_72 => ?_) (fun h_72 => ?_)
            · skip
              have nh_72 := xI_leD (a := (c - pp)) (b := 0) (by omega) (by omega) h_72
              refine e_iload_n C dX7_catchUp_91 rfl ?_
              refine f_istore_n (ls1 := [_, _, _, _, _]) C dX7_catchUp_92 (by decide) rfl ?_
              refine f_iincn (ls1 := [_, _, _, _, _]) C dX7_catchUp_93 rfl (by decide) rfl ?_
              refine e_goto (tgt := 4) C dX7_catchUp_96 (by decide) ?_
              exact ih (i + 1) w _ _ (by omega) (by omega) hwl (by rw [cup, cif_neg hcn6, cif_pos (show rz z i 0 = 1 from h_16), show cupw z i = nI 0 from by rw [cupw, epp, hcn, nt_nI (by omega), nt_nI (by omega), tkz, cif_pos (by omega)], cif_neg (by decide), ← hw, maxI_nI hwl (by decide), Nat.max_eq_left (Nat.zero_le w)])
            · skip
              have nh_72 := xI_nleD (a := (c - pp)) (b := 0) (by omega) (by omega) h_72
              omega
          · skip
            have nh_60 := xI_nleD (a := (c - pp)) (b := 0) (by omega) (by omega) h_60
            refine e_iload C dX7_catchUp_63 rfl ?_
            refine e_if_ne (tgt := 71) C dX7_catchUp_65 (by decide) (fun h_65 => ?_) (fun h_65 => ?_)
            · skip
              exact absurd h_65 (by decide)
            · skip
              have nh_65 := xI_inj (a := 0) (b := 0) (by omega) (by omega) h_65
              refine e_bipush (v := -6) C dX7_catchUp_68 (by decide) ?_
              have hcu : cup z (i + 1) = -6 := by rw [cup, cif_neg hcn6, cif_pos (show rz z i 0 = 1 from h_16), cif_pos (show cupw z i = -6 from by rw [cupw, epp, hcn, nt_nI (by omega), nt_nI (by omega), tkz, cif_neg (by omega), cif_pos (by first | exact Or.inl h_44 | exact Or.inr (by rw [eqq, nh_65]; rfl))])]
              exact f_ir C hX dX7_catchUp_70 (by rw [cup_abs hcu 5 (by omega)]) rfl
set_option maxRecDepth 100000 in
set_option maxHeartbeats 4000000 in
theorem c_X7_catchUp {E : EV} {l : Launch} {mem : MEM} {z : ZZ} {c : Nat} (hI : Inv z c) : Ct E l yX7_catchUp (me_ws yX7_catchUp cX7_catchUp 5 (some .int)) 2 [rv (17, 0, 0)] (mz mem z) (Ret (iv (cup z 5)) (mz mem z)) := by
  refine Ct.of (RC := RX7) (ls0 := [rv (17, 0, 0), uv, uv, uv, uv]) mi_yX7_catchUp (Nat.le_of_ble_eq_true rfl) rfl (fun X C hX => ?_)
  refine e_iconst (v := nI 0) C dX7_catchUp_0 (by decide) ?_
  refine f_istore_n (ls1 := [_, _, _, _, _]) C dX7_catchUp_1 (by decide) rfl ?_
  refine e_iconst (v := nI 0) C dX7_catchUp_2 (by decide) ?_
  refine f_istore_n (ls1 := [_, _, _, _, _]) C dX7_catchUp_3 (by decide) rfl ?_
  exact lp_X7_catchUp hI C hX 6 0 0 _ _ (by decide) (by decide) (by decide) rfl
