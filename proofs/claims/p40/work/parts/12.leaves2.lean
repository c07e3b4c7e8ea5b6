/-! ===== leaves: replicas and sessions of the class ===== -/
def minI (x y : Int32) : Int32 := if y < x then y else x
def maxI (x y : Int32) : Int32 := if x < y then y else x
theorem maxI_nI {a b : Nat} (ha : a < 2 ^ 31) (hb : b < 2 ^ 31) : maxI (nI a) (nI b) = nI (max a b) := by
  unfold maxI
  by_cases h : a < b
  · rw [if_pos (nI_lt h hb), Nat.max_eq_right (by omega)]
  · rw [if_neg (nI_nlt (by omega) ha), Nat.max_eq_left (by omega)]
theorem minI_nI {a b : Nat} (ha : a < 2 ^ 31) (hb : b < 2 ^ 31) : minI (nI a) (nI b) = nI (min a b) := by
  unfold minI
  by_cases h : b < a
  · rw [if_pos (nI_lt h ha), Nat.min_eq_right (by omega)]
  · rw [if_neg (nI_nlt (by omega) hb), Nat.min_eq_left (by omega)]
def begR (mem : MEM) (k r : Nat) (pos rate : Int32) : MEM := up (up (up (up (up mem (8, k, r) 0 (nI 1)) (8, k, r) 1 pos) (8, k, r) 2 rate) (8, k, r) 3 (nI 0)) (8, k, r) 4 (nI 0)
theorem cpR_ok {mem : MEM} {k k2 r : Nat} (hn : k ≠ k2) : EqV (up (up (up (up (up mem (8, k, r) 0 (mem (8, k2, r) 0)) (8, k, r) 1 (mem (8, k2, r) 1)) (8, k, r) 2 (mem (8, k2, r) 2)) (8, k, r) 3 (mem (8, k2, r) 3)) (8, k, r) 4 (mem (8, k2, r) 4)) (cpc mem (8, k, r) (8, k2, r)) := by
  intro id hid j hj hs
  by_cases h : id = (8, k, r)
  · subst h
    have hj : j < 5 := hj
    match j, hj with
    | 0, _ => simp [up, cpc]
    | 1, _ => simp [up, cpc]
    | 2, _ => simp [up, cpc]
    | 3, _ => simp [up, cpc]
    | 4, _ => simp [up, cpc]
  · simp [up, cpc, h]
/-- an array's first i cells with one number -/
def flm (mem : MEM) (id : ID) (i : Nat) (v : Int32) : MEM := fun a b => if a = id ∧ b < i then v else mem a b
theorem flm_0 {mem : MEM} {id : ID} {v : Int32} : flm mem id 0 v = mem := by
  funext a b
  simp [flm]
theorem flm_s {mem : MEM} {id : ID} {i : Nat} {v : Int32} : up (flm mem id i v) id i v = flm mem id (i + 1) v := by
  funext a b
  by_cases h : a = id
  · subst h
    by_cases h2 : b = i
    · subst h2; simp [up, flm]
    · have : (b < i + 1) ↔ (b < i) := by omega
      simp [up, flm, h2, this]
  · simp [up, flm, h]
def flA (mem : MEM) (id : ID) (v : Int32) : MEM := fun a b => if a = id then v else mem a b
theorem flA_ok {mem : MEM} {id : ID} {v : Int32} {i : Nat} (h : me_wd id.1 ≤ i) : EqV (flm mem id i v) (flA mem id v) := by
  intro a ha j hj hs
  by_cases e : a = id
  · subst e
    simp [flm, flA, Nat.lt_of_lt_of_le hj h]
  · simp [flm, flA, e]
def begS (mem : MEM) (k s : Nat) (home opt bnd : Int32) : MEM := flA (flA (up (up (up (up (up (up (up (up (up mem (9, k, s) 0 (nI 1)) (9, k, s) 1 home) (9, k, s) 2 opt) (9, k, s) 3 bnd) (9, k, s) 4 (nI 0)) (9, k, s) 5 (nI 0)) (9, k, s) 6 (nI 0)) (9, k, s) 7 (nI 0)) (9, k, s) 8 (nI 0)) (10, k, s) (nI 0)) (11, k, s) (nI 0)
/-- a session as another state's -/
def cpS1 (mem : MEM) (k k2 s : Nat) : MEM := cpc (cpc (cpc mem (9, k, s) (9, k2, s)) (10, k, s) (10, k2, s)) (11, k, s) (11, k2, s)
theorem cpS1_ok {mem : MEM} {k k2 s : Nat} (hn : k ≠ k2) : EqV (cpc (cpc (up (up (up (up (up (up (up (up (up mem (9, k, s) 0 (mem (9, k2, s) 0)) (9, k, s) 1 (mem (9, k2, s) 1)) (9, k, s) 2 (mem (9, k2, s) 2)) (9, k, s) 3 (mem (9, k2, s) 3)) (9, k, s) 4 (mem (9, k2, s) 4)) (9, k, s) 5 (mem (9, k2, s) 5)) (9, k, s) 6 (mem (9, k2, s) 6)) (9, k, s) 7 (mem (9, k2, s) 7)) (9, k, s) 8 (mem (9, k2, s) 8)) (10, k, s) (10, k2, s)) (11, k, s) (11, k2, s)) (cpS1 mem k k2 s) := by
  intro id hid j hj hs
  unfold cpS1
  by_cases h : id = (9, k, s)
  · subst h
    have hj : j < 11 := hj
    match j, hj with
    | 0, _ => simp [up, cpc]
    | 1, _ => simp [up, cpc]
    | 2, _ => simp [up, cpc]
    | 3, _ => simp [up, cpc]
    | 4, _ => simp [up, cpc]
    | 5, _ => simp [up, cpc]
    | 6, _ => simp [up, cpc]
    | 7, _ => simp [up, cpc]
    | 8, _ => simp [up, cpc]
    | 9, _ => cases hs
    | 10, _ => cases hs
  · by_cases h10 : id = (10, k, s)
    · subst h10; simp [cpc, up]
    · by_cases h11 : id = (11, k, s)
      · subst h11; simp [cpc, up]
      · simp [cpc, up, h, h10, h11]
noncomputable def ntR1 (mem : MEM) (k s : Nat) (p : Int32) : MEM := up (up mem (9, k, s) 6 (mem (9, k, s) 6 + nI 1)) (9, k, s) 5 (maxI (mem (9, k, s) 5) p)
noncomputable def ntR2 (m : MEM) (k s q : Nat) (v : Int32) : MEM := cif (m (10, k, s) q ≤ v) m (up m (9, k, s) 7 (m (9, k, s) 7 + nI 1))
noncomputable def ntR3 (m : MEM) (k s q : Nat) (v : Int32) : MEM := cif (m (11, k, s) q ≤ v) m (up m (9, k, s) 8 (m (9, k, s) 8 + nI 1))
noncomputable def ntR (mem : MEM) (k s q : Nat) (v p : Int32) : MEM := up (ntR3 (ntR2 (ntR1 mem k s p) k s q v) k s q v) (11, k, s) q (maxI (ntR3 (ntR2 (ntR1 mem k s p) k s q v) k s q v (11, k, s) q) v)
theorem EqV.of {m m' : MEM} (h : m = m') : EqV m m' := fun _ _ _ _ _ => by rw [h]
theorem EqV.trans {a b c : MEM} (h1 : EqV a b) (h2 : EqV b c) : EqV a c := fun id hv j hj hs => (h1 id hv j hj hs).trans (h2 id hv j hj hs)

set_option maxRecDepth 100000 in
set_option maxHeartbeats 4000000 in
theorem c_X2_begin {E : EV} {l : Launch} {mem : MEM} {k r : Nat} (hk : k < 8) (hr : r < 5) {rate pos : Int32} : Ct E l yX2_begin (me_ws yX2_begin cX2_begin 3 none) 1 [rv (8, k, r), iv rate, iv pos] mem (Ret uv (begR mem k r pos rate)) := by
  refine Ct.of (RC := RX2) (ls0 := [rv (8, k, r), iv rate, iv pos]) mi_yX2_begin (Nat.le_of_ble_eq_true rfl) rfl (fun X C hX => ?_)
  refine e_aload_n C dX2_begin_0 rfl ?_
  refine e_iconst (v := nI 1) C dX2_begin_1 (by decide) ?_
  refine e_puti C (ci := 2) 0 rfl rfl rfl (by decide) b_X2 rfl b_fl_X2_9 (v8 hk hr) tyX2 tyX2_ok nmX2 rfl (.inr ⟨rfl, .inr rfl⟩) rfl dX2_begin_2 ?_
  refine e_aload_n C dX2_begin_5 rfl ?_
  refine e_iload_n C dX2_begin_6 rfl ?_
  refine e_puti C (ci := 2) 1 rfl rfl rfl (by decide) b_X2 rfl b_fl_X2_15 (v8 hk hr) tyX2 tyX2_ok nmX2 rfl (.inl ⟨rfl, rfl⟩) rfl dX2_begin_7 ?_
  refine e_aload_n C dX2_begin_10 rfl ?_
  refine e_iload_n C dX2_begin_11 rfl ?_
  refine e_puti C (ci := 2) 2 rfl rfl rfl (by decide) b_X2 rfl b_fl_X2_19 (v8 hk hr) tyX2 tyX2_ok nmX2 rfl (.inl ⟨rfl, rfl⟩) rfl dX2_begin_12 ?_
  refine e_aload_n C dX2_begin_15 rfl ?_
  refine e_iconst (v := nI 0) C dX2_begin_16 (by decide) ?_
  refine e_puti C (ci := 2) 3 rfl rfl rfl (by decide) b_X2 rfl b_fl_X2_22 (v8 hk hr) tyX2 tyX2_ok nmX2 rfl (.inr ⟨rfl, .inl rfl⟩) rfl dX2_begin_17 ?_
  refine e_aload_n C dX2_begin_20 rfl ?_
  refine e_iconst (v := nI 0) C dX2_begin_21 (by decide) ?_
  refine e_puti C (ci := 2) 4 rfl rfl rfl (by decide) b_X2 rfl b_fl_X2_25 (v8 hk hr) tyX2 tyX2_ok nmX2 rfl (.inl ⟨rfl, rfl⟩) rfl dX2_begin_22 ?_
  exact f_vr C hX dX2_begin_25 rfl
set_option maxRecDepth 100000 in
set_option maxHeartbeats 4000000 in
theorem c_X2_ticksTo {E : EV} {l : Launch} {mem : MEM} {k r : Nat} (hk : k < 8) (hr : r < 5) {p n q : Nat} (hp : mem (8, k, r) 1 = nI p) (hq : mem (8, k, r) 2 = nI q) (hpl : p ≤ 200) (hnl : n ≤ 200) (hql : q ≤ 9) : Ct E l yX2_ticksTo (me_ws yX2_ticksTo cX2_ticksTo 2 (some .int)) 1 [rv (8, k, r), iv (nI n)] mem (Ret (iv (tkz p n (mem (8, k, r) 3) (mem (8, k, r) 2))) mem) := by
  refine Ct.of (RC := RX2) (ls0 := [rv (8, k, r), iv (nI n)]) mi_yX2_ticksTo (Nat.le_of_ble_eq_true rfl) rfl (fun X C hX => ?_)
  refine e_aload_n C dX2_ticksTo_0 rfl ?_
  refine e_geti C (ci := 2) 1 rfl rfl rfl (by decide) b_X2 rfl b_fl_X2_15 (v8 hk hr) rfl dX2_ticksTo_1 ?_
  refine f_val (y := nI (p)) hp ?_
  refine e_iload_n C dX2_ticksTo_4 rfl ?_
  refine e_icmp_lt (tgt := 10) C dX2_ticksTo_5 (by decide) (fun h_5 => ?_) (fun h_5 => ?_)
  · skip
    have nh_5 := xI_ltD (by omega) (by omega) h_5
    refine e_aload_n C dX2_ticksTo_10 rfl ?_
    refine e_getz C (ci := 2) 3 rfl rfl rfl (by decide) b_X2 rfl b_fl_X2_22 (v8 hk hr) rfl rfl dX2_ticksTo_11 (fun hz_11 => ?_)
    refine e_if_ne (tgt := 24) C dX2_ticksTo_14 (by decide) (fun h_14 => ?_) (fun h_14 => ?_)
    · skip
      refine e_bipush (v := -6) C dX2_ticksTo_24 (by decide) ?_
      exact f_ir C hX dX2_ticksTo_26 (by rw [tkz, cif_neg (by omega), cif_pos (Or.inl (hz_11.resolve_left h_14))]) rfl
    · skip
      refine e_aload_n C dX2_ticksTo_17 rfl ?_
      refine e_geti C (ci := 2) 2 rfl rfl rfl (by decide) b_X2 rfl b_fl_X2_19 (v8 hk hr) rfl dX2_ticksTo_18 ?_
      refine e_if_gt (tgt := 27) C dX2_ticksTo_21 (by decide) (fun h_21 => ?_) (fun h_21 => ?_)
      · skip
        refine e_iload_n C dX2_ticksTo_27 rfl ?_
        refine e_aload_n C dX2_ticksTo_28 rfl ?_
        refine e_geti C (ci := 2) 1 rfl rfl rfl (by decide) b_X2 rfl b_fl_X2_15 (v8 hk hr) rfl dX2_ticksTo_29 ?_
        refine f_val (y := nI (p)) hp ?_
        refine f_isubn C (by omega) dX2_ticksTo_32 ?_
        refine e_aload_n C dX2_ticksTo_33 rfl ?_
        refine e_geti C (ci := 2) 2 rfl rfl rfl (by decide) b_X2 rfl b_fl_X2_19 (v8 hk hr) rfl dX2_ticksTo_34 ?_
        refine e_iadd C dX2_ticksTo_37 ?_
        refine e_iconst (v := nI 1) C dX2_ticksTo_38 (by decide) ?_
        refine e_isub C dX2_ticksTo_39 ?_
        refine e_aload_n C dX2_ticksTo_40 rfl ?_
        refine e_geti C (ci := 2) 2 rfl rfl rfl (by decide) b_X2 rfl b_fl_X2_19 (v8 hk hr) rfl dX2_ticksTo_41 ?_
        refine e_idiv C dX2_ticksTo_44 (fun q => by rw [q] at h_21; exact absurd h_21 (by decide)) ?_
        exact f_ir C hX dX2_ticksTo_45 (by rw [tkz, cif_neg (by omega), cif_neg (fun q => q.elim (fun q => by rw [q] at h_14; exact absurd h_14 (by decide)) (fun q => by rw [q] at h_21; exact absurd h_21 (by decide)))]) rfl
      · skip
        refine e_bipush (v := -6) C dX2_ticksTo_24 (by decide) ?_
        have h0 : mem (8, k, r) 2 = 0 := by
          rw [hq] at h_21 ⊢
          have := xI_nltD (a := 0) (b := q) (by decide) (by omega) h_21
          obtain rfl : q = 0 := by omega
          rfl
        exact f_ir C hX dX2_ticksTo_26 (by rw [tkz, cif_neg (by omega), cif_pos (Or.inr h0)]) rfl
  · skip
    have nh_5 := xI_nltD (by omega) (by omega) h_5
    refine e_iconst (v := nI 0) C dX2_ticksTo_8 (by decide) ?_
    exact f_ir C hX dX2_ticksTo_9 (by rw [tkz, cif_pos (by omega)]) rfl
set_option maxRecDepth 100000 in
set_option maxHeartbeats 4000000 in
theorem c_X2_passTicks {E : EV} {l : Launch} {mem : MEM} {k r : Nat} (hk : k < 8) (hr : r < 5) {t c : Int32} : Ct E l yX2_passTicks (me_ws yX2_passTicks cX2_passTicks 3 none) 2 [rv (8, k, r), iv t, iv c] mem (Ret uv (cif (mem (8, k, r) 3 = 0) (up mem (8, k, r) 1 (minI (mem (8, k, r) 1 + mem (8, k, r) 2 * t) c)) mem)) := by
  refine Ct.of (RC := RX2) (ls0 := [rv (8, k, r), iv t, iv c]) mi_yX2_passTicks (Nat.le_of_ble_eq_true rfl) rfl (fun X C hX => ?_)
  refine e_aload_n C dX2_passTicks_0 rfl ?_
  refine e_getz C (ci := 2) 3 rfl rfl rfl (by decide) b_X2 rfl b_fl_X2_22 (v8 hk hr) rfl rfl dX2_passTicks_1 (fun hz_1 => ?_)
  refine e_if_ne (tgt := 26) C dX2_passTicks_4 (by decide) (fun h_4 => ?_) (fun h_4 => ?_)
  · skip
    exact f_vr C hX dX2_passTicks_26 (cif_neg h_4).symm
  · skip
    refine e_aload_n C dX2_passTicks_7 rfl ?_
    refine e_aload_n C dX2_passTicks_8 rfl ?_
    refine e_geti C (ci := 2) 1 rfl rfl rfl (by decide) b_X2 rfl b_fl_X2_15 (v8 hk hr) rfl dX2_passTicks_9 ?_
    refine e_aload_n C dX2_passTicks_12 rfl ?_
    refine e_geti C (ci := 2) 2 rfl rfl rfl (by decide) b_X2 rfl b_fl_X2_19 (v8 hk hr) rfl dX2_passTicks_13 ?_
    refine e_iload_n C dX2_passTicks_16 rfl ?_
    refine e_imul C dX2_passTicks_17 ?_
    refine e_iadd C dX2_passTicks_18 ?_
    refine e_iload_n C dX2_passTicks_19 rfl ?_
    refine e_mmin C b_ml_X2_28 dX2_passTicks_20 (Nat.le_of_ble_eq_true rfl) (by decide) ?_
    refine e_puti C (ci := 2) 1 rfl rfl rfl (by decide) b_X2 rfl b_fl_X2_15 (v8 hk hr) tyX2 tyX2_ok nmX2 rfl (.inl ⟨rfl, rfl⟩) rfl dX2_passTicks_23 ?_
    exact f_vr C hX dX2_passTicks_26 (cif_pos h_4).symm
set_option maxRecDepth 100000 in
set_option maxHeartbeats 4000000 in
theorem c_X2_copyFrom {E : EV} {l : Launch} {mem : MEM} {k k2 r : Nat} (hk : k < 8) (hk2 : k2 < 8) (hr : r < 5) (hn : k ≠ k2) : Ct E l yX2_copyFrom (me_ws yX2_copyFrom cX2_copyFrom 2 none) 1 [rv (8, k, r), rv (8, k2, r)] mem (Ret uv (cpc mem (8, k, r) (8, k2, r))) := by
  refine Ct.of (RC := RX2) (ls0 := [rv (8, k, r), rv (8, k2, r)]) mi_yX2_copyFrom (Nat.le_of_ble_eq_true rfl) rfl (fun X C hX => ?_)
  refine e_aload_n C dX2_copyFrom_0 rfl ?_
  refine e_aload_n C dX2_copyFrom_1 rfl ?_
  refine e_getz C (ci := 2) 0 rfl rfl rfl (by decide) b_X2 rfl b_fl_X2_9 (v8 hk2 hr) rfl rfl dX2_copyFrom_2 (fun hz_2 => ?_)
  refine e_puti C (ci := 2) 0 rfl rfl rfl (by decide) b_X2 rfl b_fl_X2_9 (v8 hk hr) tyX2 tyX2_ok nmX2 rfl (.inr ⟨rfl, (by assumption)⟩) rfl dX2_copyFrom_5 ?_
  refine e_aload_n C dX2_copyFrom_8 rfl ?_
  refine e_aload_n C dX2_copyFrom_9 rfl ?_
  refine e_geti C (ci := 2) 1 rfl rfl rfl (by decide) b_X2 rfl b_fl_X2_15 (v8 hk2 hr) rfl dX2_copyFrom_10 ?_
  refine e_puti C (ci := 2) 1 rfl rfl rfl (by decide) b_X2 rfl b_fl_X2_15 (v8 hk hr) tyX2 tyX2_ok nmX2 rfl (.inl ⟨rfl, rfl⟩) rfl dX2_copyFrom_13 ?_
  refine e_aload_n C dX2_copyFrom_16 rfl ?_
  refine e_aload_n C dX2_copyFrom_17 rfl ?_
  refine e_geti C (ci := 2) 2 rfl rfl rfl (by decide) b_X2 rfl b_fl_X2_19 (v8 hk2 hr) rfl dX2_copyFrom_18 ?_
  refine e_puti C (ci := 2) 2 rfl rfl rfl (by decide) b_X2 rfl b_fl_X2_19 (v8 hk hr) tyX2 tyX2_ok nmX2 rfl (.inl ⟨rfl, rfl⟩) rfl dX2_copyFrom_21 ?_
  refine e_aload_n C dX2_copyFrom_24 rfl ?_
  refine e_aload_n C dX2_copyFrom_25 rfl ?_
  refine e_getz C (ci := 2) 3 rfl rfl rfl (by decide) b_X2 rfl b_fl_X2_22 (v8 hk2 hr) rfl rfl dX2_copyFrom_26 (fun hz_26 => ?_)
  refine e_puti C (ci := 2) 3 rfl rfl rfl (by decide) b_X2 rfl b_fl_X2_22 (v8 hk hr) tyX2 tyX2_ok nmX2 rfl (.inr ⟨rfl, (by assumption)⟩) rfl dX2_copyFrom_29 ?_
  refine e_aload_n C dX2_copyFrom_32 rfl ?_
  refine e_aload_n C dX2_copyFrom_33 rfl ?_
  refine e_geti C (ci := 2) 4 rfl rfl rfl (by decide) b_X2 rfl b_fl_X2_25 (v8 hk2 hr) rfl dX2_copyFrom_34 ?_
  refine e_puti C (ci := 2) 4 rfl rfl rfl (by decide) b_X2 rfl b_fl_X2_25 (v8 hk hr) tyX2 tyX2_ok nmX2 rfl (.inl ⟨rfl, rfl⟩) rfl dX2_copyFrom_37 ?_
  exact e_mem (EqV.trans (EqV.of (by simp [up, hn, Ne.symm hn])) (cpR_ok hn)) (f_vr C hX dX2_copyFrom_40 rfl)
set_option maxRecDepth 100000 in
set_option maxHeartbeats 4000000 in
theorem lp_J7_fill10 {E : EV} {l : Launch} {X : CX} {mem : MEM} {k s : Nat} (hk : k < 8) (hs : s < 8) {v : Int32} (C : CK E X RJ7 cJ7_fill_53178 4 none 1) (hX : EX E X l (Ret uv (flA mem (10, k, s) v))) : ∀ (lpn : Nat) (i : Nat), 12 - i < lpn → i ≤ 12 → G E X 4 5 [rv (10, k, s), iv v, iv (nI i), iv (nI 12)] [] (flm mem (10, k, s) i v) := by
  intro lpn
  induction lpn with
  | zero => intro i hlpn; exact absurd hlpn (Nat.not_lt_zero _)
  | succ lpn ih =>
    intro i hlpn hi
    refine e_iload_n C dJ7_fill_53178_5 rfl ?_
    refine e_iload_n C dJ7_fill_53178_6 rfl ?_
    refine e_icmp_ge (tgt := 20) C dJ7_fill_53178_7 (by decide) (fun h_7 => ?_) (fun h_7 => ?_)
    · skip
      have nh_7 := xI_leD (by omega) (by omega) h_7
      exact e_mem (flA_ok (i := i) (by show 12 ≤ i; omega)) (f_vr C hX dJ7_fill_53178_20 rfl)
    · skip
      have nh_7 := xI_nleD (by omega) (by omega) h_7
      refine e_aload_n C dJ7_fill_53178_10 rfl ?_
      refine e_iload_n C dJ7_fill_53178_11 rfl ?_
      refine e_iload_n C dJ7_fill_53178_12 rfl ?_
      refine f_iast C rfl (v10 hk hs) (by omega) (by decide) dJ7_fill_53178_13 ?_
      refine f_iincn (ls1 := [_, _, _, _]) C dJ7_fill_53178_14 rfl (by decide) rfl ?_
      refine e_goto (tgt := 5) C dJ7_fill_53178_17 (by decide) ?_
      rw [flm_s]; exact ih (i + 1) (by omega) (by omega)
set_option maxRecDepth 100000 in
set_option maxHeartbeats 4000000 in
theorem c_J7_fill10 {E : EV} {l : Launch} {mem : MEM} {k s : Nat} (hk : k < 8) (hs : s < 8) {v : Int32} : Ct E l yJ7_fill_53178 (me_ws yJ7_fill_53178 cJ7_fill_53178 4 none) 1 [rv (10, k, s), iv v] mem (Ret uv (flA mem (10, k, s) v)) := by
  refine Ct.of (RC := RJ7) (ls0 := [rv (10, k, s), iv v, uv, uv]) mi_yJ7_fill_53178 (Nat.le_of_ble_eq_true rfl) rfl (fun X C hX => ?_)
  refine e_iconst (v := nI 0) C dJ7_fill_53178_0 (by decide) ?_
  refine f_istore_n (ls1 := [_, _, _, _]) C dJ7_fill_53178_1 (by decide) rfl ?_
  refine e_aload_n C dJ7_fill_53178_2 rfl ?_
  refine e_alen (v := nI 12) C rfl (by decide) (v10 hk hs) rfl dJ7_fill_53178_3 ?_
  refine f_istore_n (ls1 := [_, _, _, _]) C dJ7_fill_53178_4 (by decide) rfl ?_
  rw [← flm_0 (mem := mem) (id := (10, k, s)) (v := v)]; exact lp_J7_fill10 hk hs C hX 13 0 (by decide) (by decide)
set_option maxRecDepth 100000 in
set_option maxHeartbeats 4000000 in
theorem lp_J7_fill11 {E : EV} {l : Launch} {X : CX} {mem : MEM} {k s : Nat} (hk : k < 8) (hs : s < 8) {v : Int32} (C : CK E X RJ7 cJ7_fill_53178 4 none 1) (hX : EX E X l (Ret uv (flA mem (11, k, s) v))) : ∀ (lpn : Nat) (i : Nat), 12 - i < lpn → i ≤ 12 → G E X 4 5 [rv (11, k, s), iv v, iv (nI i), iv (nI 12)] [] (flm mem (11, k, s) i v) := by
  intro lpn
  induction lpn with
  | zero => intro i hlpn; exact absurd hlpn (Nat.not_lt_zero _)
  | succ lpn ih =>
    intro i hlpn hi
    refine e_iload_n C dJ7_fill_53178_5 rfl ?_
    refine e_iload_n C dJ7_fill_53178_6 rfl ?_
    refine e_icmp_ge (tgt := 20) C dJ7_fill_53178_7 (by decide) (fun h_7 => ?_) (fun h_7 => ?_)
    · skip
      have nh_7 := xI_leD (by omega) (by omega) h_7
      exact e_mem (flA_ok (i := i) (by show 12 ≤ i; omega)) (f_vr C hX dJ7_fill_53178_20 rfl)
    · skip
      have nh_7 := xI_nleD (by omega) (by omega) h_7
      refine e_aload_n C dJ7_fill_53178_10 rfl ?_
      refine e_iload_n C dJ7_fill_53178_11 rfl ?_
      refine e_iload_n C dJ7_fill_53178_12 rfl ?_
      refine f_iast C rfl (v11 hk hs) (by omega) (by decide) dJ7_fill_53178_13 ?_
      refine f_iincn (ls1 := [_, _, _, _]) C dJ7_fill_53178_14 rfl (by decide) rfl ?_
      refine e_goto (tgt := 5) C dJ7_fill_53178_17 (by decide) ?_
      rw [flm_s]; exact ih (i + 1) (by omega) (by omega)
set_option maxRecDepth 100000 in
set_option maxHeartbeats 4000000 in
theorem c_J7_fill11 {E : EV} {l : Launch} {mem : MEM} {k s : Nat} (hk : k < 8) (hs : s < 8) {v : Int32} : Ct E l yJ7_fill_53178 (me_ws yJ7_fill_53178 cJ7_fill_53178 4 none) 1 [rv (11, k, s), iv v] mem (Ret uv (flA mem (11, k, s) v)) := by
  refine Ct.of (RC := RJ7) (ls0 := [rv (11, k, s), iv v, uv, uv]) mi_yJ7_fill_53178 (Nat.le_of_ble_eq_true rfl) rfl (fun X C hX => ?_)
  refine e_iconst (v := nI 0) C dJ7_fill_53178_0 (by decide) ?_
  refine f_istore_n (ls1 := [_, _, _, _]) C dJ7_fill_53178_1 (by decide) rfl ?_
  refine e_aload_n C dJ7_fill_53178_2 rfl ?_
  refine e_alen (v := nI 12) C rfl (by decide) (v11 hk hs) rfl dJ7_fill_53178_3 ?_
  refine f_istore_n (ls1 := [_, _, _, _]) C dJ7_fill_53178_4 (by decide) rfl ?_
  rw [← flm_0 (mem := mem) (id := (11, k, s)) (v := v)]; exact lp_J7_fill11 hk hs C hX 13 0 (by decide) (by decide)
set_option maxRecDepth 100000 in
set_option maxHeartbeats 4000000 in
theorem c_X3_begin {E : EV} {l : Launch} {mem : MEM} {k s : Nat} (hk : k < 8) (hs : s < 8) {home opt bnd : Int32} : Ct E l yX3_begin (me_ws yX3_begin cX3_begin 4 none) 2 [rv (9, k, s), iv home, iv opt, iv bnd] mem (Ret uv (begS mem k s home opt bnd)) := by
  refine Ct.of (RC := RX3) (ls0 := [rv (9, k, s), iv home, iv opt, iv bnd]) mi_yX3_begin (Nat.le_of_ble_eq_true rfl) rfl (fun X C hX => ?_)
  refine e_aload_n C dX3_begin_0 rfl ?_
  refine e_iconst (v := nI 1) C dX3_begin_1 (by decide) ?_
  refine e_puti C (ci := 3) 0 rfl rfl rfl (by decide) b_X3 rfl b_fl_X3_9 (v9 hk hs) tyX3 tyX3_ok nmX3 rfl (.inr ⟨rfl, .inr rfl⟩) rfl dX3_begin_2 ?_
  refine e_aload_n C dX3_begin_5 rfl ?_
  refine e_iload_n C dX3_begin_6 rfl ?_
  refine e_puti C (ci := 3) 1 rfl rfl rfl (by decide) b_X3 rfl b_fl_X3_15 (v9 hk hs) tyX3 tyX3_ok nmX3 rfl (.inl ⟨rfl, rfl⟩) rfl dX3_begin_7 ?_
  refine e_aload_n C dX3_begin_10 rfl ?_
  refine e_iload_n C dX3_begin_11 rfl ?_
  refine e_puti C (ci := 3) 2 rfl rfl rfl (by decide) b_X3 rfl b_fl_X3_19 (v9 hk hs) tyX3 tyX3_ok nmX3 rfl (.inl ⟨rfl, rfl⟩) rfl dX3_begin_12 ?_
  refine e_aload_n C dX3_begin_15 rfl ?_
  refine e_iload_n C dX3_begin_16 rfl ?_
  refine e_puti C (ci := 3) 3 rfl rfl rfl (by decide) b_X3 rfl b_fl_X3_22 (v9 hk hs) tyX3 tyX3_ok nmX3 rfl (.inl ⟨rfl, rfl⟩) rfl dX3_begin_17 ?_
  refine e_aload_n C dX3_begin_20 rfl ?_
  refine e_iconst (v := nI 0) C dX3_begin_21 (by decide) ?_
  refine e_puti C (ci := 3) 4 rfl rfl rfl (by decide) b_X3 rfl b_fl_X3_25 (v9 hk hs) tyX3 tyX3_ok nmX3 rfl (.inl ⟨rfl, rfl⟩) rfl dX3_begin_22 ?_
  refine e_aload_n C dX3_begin_25 rfl ?_
  refine e_iconst (v := nI 0) C dX3_begin_26 (by decide) ?_
  refine e_puti C (ci := 3) 5 rfl rfl rfl (by decide) b_X3 rfl b_fl_X3_28 (v9 hk hs) tyX3 tyX3_ok nmX3 rfl (.inl ⟨rfl, rfl⟩) rfl dX3_begin_27 ?_
  refine e_aload_n C dX3_begin_30 rfl ?_
  refine e_iconst (v := nI 0) C dX3_begin_31 (by decide) ?_
  refine e_puti C (ci := 3) 6 rfl rfl rfl (by decide) b_X3 rfl b_fl_X3_31 (v9 hk hs) tyX3 tyX3_ok nmX3 rfl (.inl ⟨rfl, rfl⟩) rfl dX3_begin_32 ?_
  refine e_aload_n C dX3_begin_35 rfl ?_
  refine e_iconst (v := nI 0) C dX3_begin_36 (by decide) ?_
  refine e_puti C (ci := 3) 7 rfl rfl rfl (by decide) b_X3 rfl b_fl_X3_34 (v9 hk hs) tyX3 tyX3_ok nmX3 rfl (.inl ⟨rfl, rfl⟩) rfl dX3_begin_37 ?_
  refine e_aload_n C dX3_begin_40 rfl ?_
  refine e_iconst (v := nI 0) C dX3_begin_41 (by decide) ?_
  refine e_puti C (ci := 3) 8 rfl rfl rfl (by decide) b_X3 rfl b_fl_X3_37 (v9 hk hs) tyX3 tyX3_ok nmX3 rfl (.inl ⟨rfl, rfl⟩) rfl dX3_begin_42 ?_
  refine e_aload_n C dX3_begin_45 rfl ?_
  refine e_getr C (ci := 3) 9 rfl rfl rfl (by decide) b_X3 rfl b_fl_X3_40 (v9 hk hs) rfl dX3_begin_46 ?_
  refine e_iconst (v := nI 0) C dX3_begin_49 (by decide) ?_
  refine f_callSv (As := [_, _]) C mi_yJ7_fill_53178 b_st_yJ7_fill_53178 b_ml_X3_47 dX3_begin_50 rfl (c_J7_fill10 hk hs) (by decide) (Nat.le_of_ble_eq_true rfl) ?_
  refine e_aload_n C dX3_begin_53 rfl ?_
  refine e_getr C (ci := 3) 10 rfl rfl rfl (by decide) b_X3 rfl b_fl_X3_44 (v9 hk hs) rfl dX3_begin_54 ?_
  refine e_iconst (v := nI 0) C dX3_begin_57 (by decide) ?_
  refine f_callSv (As := [_, _]) C mi_yJ7_fill_53178 b_st_yJ7_fill_53178 b_ml_X3_47 dX3_begin_58 rfl (c_J7_fill11 hk hs) (by decide) (Nat.le_of_ble_eq_true rfl) ?_
  exact f_vr C hX dX3_begin_61 rfl
set_option maxRecDepth 100000 in
set_option maxHeartbeats 4000000 in
theorem c_X3_has {E : EV} {l : Launch} {mem : MEM} {k s : Nat} (hk : k < 8) (hs : s < 8) {o : Int32} : Ct E l yX3_has (me_ws yX3_has cX3_has 2 (some .boolean)) 1 [rv (9, k, s), iv o] mem (Ret (iv (b2i (¬ (mem (9, k, s) 2 &&& o) = 0))) mem) := by
  refine Ct.of (RC := RX3) (ls0 := [rv (9, k, s), iv o]) mi_yX3_has (Nat.le_of_ble_eq_true rfl) rfl (fun X C hX => ?_)
  refine e_aload_n C dX3_has_0 rfl ?_
  refine e_geti C (ci := 3) 2 rfl rfl rfl (by decide) b_X3 rfl b_fl_X3_19 (v9 hk hs) rfl dX3_has_1 ?_
  refine e_iload_n C dX3_has_4 rfl ?_
  refine e_iand C dX3_has_5 ?_
  refine e_if_eq (tgt := 13) C dX3_has_6 (by decide) (fun h_6 => ?_) (fun h_6 => ?_)
  · skip
    refine e_iconst (v := nI 0) C dX3_has_13 (by decide) ?_
    exact f_zf C hX dX3_has_14 (by simp only [Int32.lt_iff_toInt_lt, Int32.le_iff_toInt_le, ← Int32.toInt_inj, Int32.toInt_zero, nI_toInt, Nat.reducePow, Nat.reduceLT] at *; omega) rfl
  · skip
    refine e_iconst (v := nI 1) C dX3_has_9 (by decide) ?_
    refine e_goto (tgt := 14) C dX3_has_10 (by decide) ?_
    exact f_zt C hX dX3_has_14 (by simp only [Int32.lt_iff_toInt_lt, Int32.le_iff_toInt_le, ← Int32.toInt_inj, Int32.toInt_zero, nI_toInt, Nat.reducePow, Nat.reduceLT] at *; omega) rfl
set_option maxRecDepth 100000 in
set_option maxHeartbeats 4000000 in
theorem c_X3_need {E : EV} {l : Launch} {mem : MEM} {k s : Nat} (hk : k < 8) (hs : s < 8) {a b : Nat} (ha : mem (9, k, s) 4 = nI a) (hb : mem (9, k, s) 5 = nI b) (hal : a ≤ 200) (hbl : b ≤ 200) : Ct E l yX3_need (me_ws yX3_need cX3_need 1 (some .int)) 2 [rv (9, k, s)] mem (Ret (iv (nI (max (cif (¬ (mem (9, k, s) 2 &&& nI 1) = 0) a 0) (cif (¬ (mem (9, k, s) 2 &&& nI 2) = 0) b 0)))) mem) := by
  refine Ct.of (RC := RX3) (ls0 := [rv (9, k, s)]) mi_yX3_need (Nat.le_of_ble_eq_true rfl) rfl (fun X C hX => ?_)
  refine e_aload_n C dX3_need_0 rfl ?_
  refine e_iconst (v := nI 1) C dX3_need_1 (by decide) ?_
  refine f_callVr (As := [_]) (ci := 3) C mi_yX3_has mv_yX3_has b_ml_X3_53 dX3_need_2 rfl (c_X3_has hk hs) (by decide) (v9 hk hs) rfl rfl (Nat.le_of_ble_eq_true rfl) ?_
  refine f_if_eq (tgt := 15) C dX3_need_5 (by decide) (fun h_5 => ?_) (fun h_5 => ?_)
  · skip
    refine e_iconst (v := nI 0) C dX3_need_15 (by decide) ?_
    refine e_aload_n C dX3_need_16 rfl ?_
    refine e_iconst (v := nI 2) C dX3_need_17 (by decide) ?_
    refine f_callVr (As := [_]) (ci := 3) C mi_yX3_has mv_yX3_has b_ml_X3_53 dX3_need_18 rfl (c_X3_has hk hs) (by decide) (v9 hk hs) rfl rfl (Nat.le_of_ble_eq_true rfl) ?_
    refine f_if_eq (tgt := 31) C dX3_need_21 (by decide) (fun h_21 => ?_) (fun h_21 => ?_)
    · skip
      refine e_iconst (v := nI 0) C dX3_need_31 (by decide) ?_
      refine e_mmax C b_ml_X3_57 dX3_need_32 (Nat.le_of_ble_eq_true rfl) (by decide) ?_
      exact f_ir C hX dX3_need_35 (by rw [cif_neg h_5, cif_neg h_21]; exact maxI_nI (by omega) (by omega)) rfl
    · skip
      refine e_aload_n C dX3_need_24 rfl ?_
      refine e_geti C (ci := 3) 5 rfl rfl rfl (by decide) b_X3 rfl b_fl_X3_28 (v9 hk hs) rfl dX3_need_25 ?_
      refine f_val (y := nI (b)) hb ?_
      refine e_goto (tgt := 32) C dX3_need_28 (by decide) ?_
      refine e_mmax C b_ml_X3_57 dX3_need_32 (Nat.le_of_ble_eq_true rfl) (by decide) ?_
      exact f_ir C hX dX3_need_35 (by rw [cif_neg h_5, cif_pos h_21]; exact maxI_nI (by omega) (by omega)) rfl
  · skip
    refine e_aload_n C dX3_need_8 rfl ?_
    refine e_geti C (ci := 3) 4 rfl rfl rfl (by decide) b_X3 rfl b_fl_X3_25 (v9 hk hs) rfl dX3_need_9 ?_
    refine f_val (y := nI (a)) ha ?_
    refine e_goto (tgt := 16) C dX3_need_12 (by decide) ?_
    refine e_aload_n C dX3_need_16 rfl ?_
    refine e_iconst (v := nI 2) C dX3_need_17 (by decide) ?_
    refine f_callVr (As := [_]) (ci := 3) C mi_yX3_has mv_yX3_has b_ml_X3_53 dX3_need_18 rfl (c_X3_has hk hs) (by decide) (v9 hk hs) rfl rfl (Nat.le_of_ble_eq_true rfl) ?_
    refine f_if_eq (tgt := 31) C dX3_need_21 (by decide) (fun h_21 => ?_) (fun h_21 => ?_)
    · skip
      refine e_iconst (v := nI 0) C dX3_need_31 (by decide) ?_
      refine e_mmax C b_ml_X3_57 dX3_need_32 (Nat.le_of_ble_eq_true rfl) (by decide) ?_
      exact f_ir C hX dX3_need_35 (by rw [cif_pos h_5, cif_neg h_21]; exact maxI_nI (by omega) (by omega)) rfl
    · skip
      refine e_aload_n C dX3_need_24 rfl ?_
      refine e_geti C (ci := 3) 5 rfl rfl rfl (by decide) b_X3 rfl b_fl_X3_28 (v9 hk hs) rfl dX3_need_25 ?_
      refine f_val (y := nI (b)) hb ?_
      refine e_goto (tgt := 32) C dX3_need_28 (by decide) ?_
      refine e_mmax C b_ml_X3_57 dX3_need_32 (Nat.le_of_ble_eq_true rfl) (by decide) ?_
      exact f_ir C hX dX3_need_35 (by rw [cif_pos h_5, cif_pos h_21]; exact maxI_nI (by omega) (by omega)) rfl
set_option maxRecDepth 100000 in
set_option maxHeartbeats 4000000 in
theorem c_X3_noteWrite {E : EV} {l : Launch} {mem : MEM} {k s : Nat} (hk : k < 8) (hs : s < 8) {q : Nat} (hq : q < 12) {n : Int32} : Ct E l yX3_noteWrite (me_ws yX3_noteWrite cX3_noteWrite 3 none) 3 [rv (9, k, s), iv (nI q), iv n] mem (Ret uv (up (up mem (9, k, s) 4 n) (10, k, s) q n)) := by
  refine Ct.of (RC := RX3) (ls0 := [rv (9, k, s), iv (nI q), iv n]) mi_yX3_noteWrite (Nat.le_of_ble_eq_true rfl) rfl (fun X C hX => ?_)
  refine e_aload_n C dX3_noteWrite_0 rfl ?_
  refine e_iload_n C dX3_noteWrite_1 rfl ?_
  refine e_puti C (ci := 3) 4 rfl rfl rfl (by decide) b_X3 rfl b_fl_X3_25 (v9 hk hs) tyX3 tyX3_ok nmX3 rfl (.inl ⟨rfl, rfl⟩) rfl dX3_noteWrite_2 ?_
  refine e_iload_n C dX3_noteWrite_5 rfl ?_
  refine f_callNr (As := [_]) (host := RX6) C mi_yX6_isKey b_st_yX6_isKey (by decide +kernel) dX3_noteWrite_6 rfl c_X6_isKey (by decide) (Nat.le_of_ble_eq_true rfl) ?_
  refine f_if_eq (tgt := 19) C dX3_noteWrite_9 (by decide) (fun h_9 => ?_) (fun h_9 => ?_)
  · skip
    exact absurd (⟨nI_le (Nat.zero_le _) (by omega), nI_le (by omega) (by decide)⟩ : nI 0 ≤ nI q ∧ nI q ≤ nI 11) (by assumption)
  · skip
    refine e_aload_n C dX3_noteWrite_12 rfl ?_
    refine e_getr C (ci := 3) 9 rfl rfl rfl (by decide) b_X3 rfl b_fl_X3_40 (v9 hk hs) rfl dX3_noteWrite_13 ?_
    refine e_iload_n C dX3_noteWrite_16 rfl ?_
    refine e_iload_n C dX3_noteWrite_17 rfl ?_
    refine f_iast C rfl (v10 hk hs) (by omega) (by decide) dX3_noteWrite_18 ?_
    exact f_vr C hX dX3_noteWrite_19 rfl
set_option maxRecDepth 100000 in
set_option maxHeartbeats 4000000 in
theorem c_X3_noteRead {E : EV} {l : Launch} {mem : MEM} {k s : Nat} (hk : k < 8) (hs : s < 8) {q : Nat} (hq : q < 12) {v p : Int32} : Ct E l yX3_noteRead (me_ws yX3_noteRead cX3_noteRead 4 none) 3 [rv (9, k, s), iv (nI q), iv v, iv p] mem (Ret uv (ntR mem k s q v p)) := by
  refine Ct.of (RC := RX3) (ls0 := [rv (9, k, s), iv (nI q), iv v, iv p]) mi_yX3_noteRead (Nat.le_of_ble_eq_true rfl) rfl (fun X C hX => ?_)
  refine e_aload_n C dX3_noteRead_0 rfl ?_
  refine e_dup C dX3_noteRead_1 ?_
  refine e_geti C (ci := 3) 6 rfl rfl rfl (by decide) b_X3 rfl b_fl_X3_31 (v9 hk hs) rfl dX3_noteRead_2 ?_
  refine e_iconst (v := nI 1) C dX3_noteRead_5 (by decide) ?_
  refine e_iadd C dX3_noteRead_6 ?_
  refine e_puti C (ci := 3) 6 rfl rfl rfl (by decide) b_X3 rfl b_fl_X3_31 (v9 hk hs) tyX3 tyX3_ok nmX3 rfl (.inl ⟨rfl, rfl⟩) rfl dX3_noteRead_7 ?_
  refine e_aload_n C dX3_noteRead_10 rfl ?_
  refine e_aload_n C dX3_noteRead_11 rfl ?_
  refine e_geti C (ci := 3) 5 rfl rfl rfl (by decide) b_X3 rfl b_fl_X3_28 (v9 hk hs) rfl dX3_noteRead_12 ?_
  refine e_iload_n C dX3_noteRead_15 rfl ?_
  refine e_mmax C b_ml_X3_57 dX3_noteRead_16 (Nat.le_of_ble_eq_true rfl) (by decide) ?_
  refine e_puti C (ci := 3) 5 rfl rfl rfl (by decide) b_X3 rfl b_fl_X3_28 (v9 hk hs) tyX3 tyX3_ok nmX3 rfl (.inl ⟨rfl, rfl⟩) rfl dX3_noteRead_19 ?_
  refine e_iload_n C dX3_noteRead_22 rfl ?_
  refine f_callNr (As := [_]) (host := RX6) C mi_yX6_isKey b_st_yX6_isKey (by decide +kernel) dX3_noteRead_23 rfl c_X6_isKey (by decide) (Nat.le_of_ble_eq_true rfl) ?_
  refine f_if_ne (tgt := 30) C dX3_noteRead_26 (by decide) (fun h_26 => ?_) (fun h_26 => ?_)
  · skip
    refine e_mem (m' := ntR1 mem k s p) (EqV.of (by simp [ntR1, up, maxI])) ?_
    refine e_aload_n C dX3_noteRead_30 rfl ?_
    refine e_getr C (ci := 3) 9 rfl rfl rfl (by decide) b_X3 rfl b_fl_X3_40 (v9 hk hs) rfl dX3_noteRead_31 ?_
    refine e_iload_n C dX3_noteRead_34 rfl ?_
    refine f_iald C rfl (v10 hk hs) (by omega) (by decide) dX3_noteRead_35 ?_
    refine e_iload_n C dX3_noteRead_36 rfl ?_
    refine e_icmp_le (tgt := 50) C dX3_noteRead_37 (by decide) (fun h_37 => ?_) (fun h_37 => ?_)
    · skip
      rw [show ntR1 mem k s p = ntR2 (ntR1 mem k s p) k s q v from (cif_pos h_37).symm]
      refine e_aload_n C dX3_noteRead_50 rfl ?_
      refine e_getr C (ci := 3) 10 rfl rfl rfl (by decide) b_X3 rfl b_fl_X3_44 (v9 hk hs) rfl dX3_noteRead_51 ?_
      refine e_iload_n C dX3_noteRead_54 rfl ?_
      refine f_iald C rfl (v11 hk hs) (by omega) (by decide) dX3_noteRead_55 ?_
      refine e_iload_n C dX3_noteRead_56 rfl ?_
      refine e_icmp_le (tgt := 70) C dX3_noteRead_57 (by decide) (fun h_57 => ?_) (fun h_57 => ?_)
      · skip
        refine e_mem (m' := ntR3 (ntR2 (ntR1 mem k s p) k s q v) k s q v) (EqV.of (cif_pos h_57).symm) ?_
        refine e_aload_n C dX3_noteRead_70 rfl ?_
        refine e_getr C (ci := 3) 10 rfl rfl rfl (by decide) b_X3 rfl b_fl_X3_44 (v9 hk hs) rfl dX3_noteRead_71 ?_
        refine e_iload_n C dX3_noteRead_74 rfl ?_
        refine e_aload_n C dX3_noteRead_75 rfl ?_
        refine e_getr C (ci := 3) 10 rfl rfl rfl (by decide) b_X3 rfl b_fl_X3_44 (v9 hk hs) rfl dX3_noteRead_76 ?_
        refine e_iload_n C dX3_noteRead_79 rfl ?_
        refine f_iald C rfl (v11 hk hs) (by omega) (by decide) dX3_noteRead_80 ?_
        refine e_iload_n C dX3_noteRead_81 rfl ?_
        refine e_mmax C b_ml_X3_57 dX3_noteRead_82 (Nat.le_of_ble_eq_true rfl) (by decide) ?_
        refine f_iast C rfl (v11 hk hs) (by omega) (by decide) dX3_noteRead_85 ?_
        exact f_vr C hX dX3_noteRead_86 rfl
      · skip
        refine e_aload_n C dX3_noteRead_60 rfl ?_
        refine e_dup C dX3_noteRead_61 ?_
        refine e_geti C (ci := 3) 8 rfl rfl rfl (by decide) b_X3 rfl b_fl_X3_37 (v9 hk hs) rfl dX3_noteRead_62 ?_
        refine e_iconst (v := nI 1) C dX3_noteRead_65 (by decide) ?_
        refine e_iadd C dX3_noteRead_66 ?_
        refine e_puti C (ci := 3) 8 rfl rfl rfl (by decide) b_X3 rfl b_fl_X3_37 (v9 hk hs) tyX3 tyX3_ok nmX3 rfl (.inl ⟨rfl, rfl⟩) rfl dX3_noteRead_67 ?_
        refine e_mem (m' := ntR3 (ntR2 (ntR1 mem k s p) k s q v) k s q v) (EqV.of (cif_neg h_57).symm) ?_
        refine e_aload_n C dX3_noteRead_70 rfl ?_
        refine e_getr C (ci := 3) 10 rfl rfl rfl (by decide) b_X3 rfl b_fl_X3_44 (v9 hk hs) rfl dX3_noteRead_71 ?_
        refine e_iload_n C dX3_noteRead_74 rfl ?_
        refine e_aload_n C dX3_noteRead_75 rfl ?_
        refine e_getr C (ci := 3) 10 rfl rfl rfl (by decide) b_X3 rfl b_fl_X3_44 (v9 hk hs) rfl dX3_noteRead_76 ?_
        refine e_iload_n C dX3_noteRead_79 rfl ?_
        refine f_iald C rfl (v11 hk hs) (by omega) (by decide) dX3_noteRead_80 ?_
        refine e_iload_n C dX3_noteRead_81 rfl ?_
        refine e_mmax C b_ml_X3_57 dX3_noteRead_82 (Nat.le_of_ble_eq_true rfl) (by decide) ?_
        refine f_iast C rfl (v11 hk hs) (by omega) (by decide) dX3_noteRead_85 ?_
        exact f_vr C hX dX3_noteRead_86 rfl
    · skip
      refine e_aload_n C dX3_noteRead_40 rfl ?_
      refine e_dup C dX3_noteRead_41 ?_
      refine e_geti C (ci := 3) 7 rfl rfl rfl (by decide) b_X3 rfl b_fl_X3_34 (v9 hk hs) rfl dX3_noteRead_42 ?_
      refine e_iconst (v := nI 1) C dX3_noteRead_45 (by decide) ?_
      refine e_iadd C dX3_noteRead_46 ?_
      refine e_puti C (ci := 3) 7 rfl rfl rfl (by decide) b_X3 rfl b_fl_X3_34 (v9 hk hs) tyX3 tyX3_ok nmX3 rfl (.inl ⟨rfl, rfl⟩) rfl dX3_noteRead_47 ?_
      refine e_mem (m' := ntR2 (ntR1 mem k s p) k s q v) (EqV.of (cif_neg h_37).symm) ?_
      refine e_aload_n C dX3_noteRead_50 rfl ?_
      refine e_getr C (ci := 3) 10 rfl rfl rfl (by decide) b_X3 rfl b_fl_X3_44 (v9 hk hs) rfl dX3_noteRead_51 ?_
      refine e_iload_n C dX3_noteRead_54 rfl ?_
      refine f_iald C rfl (v11 hk hs) (by omega) (by decide) dX3_noteRead_55 ?_
      refine e_iload_n C dX3_noteRead_56 rfl ?_
      refine e_icmp_le (tgt := 70) C dX3_noteRead_57 (by decide) (fun h_57 => ?_) (fun h_57 => ?_)
      · skip
        refine e_mem (m' := ntR3 (ntR2 (ntR1 mem k s p) k s q v) k s q v) (EqV.of (cif_pos h_57).symm) ?_
        refine e_aload_n C dX3_noteRead_70 rfl ?_
        refine e_getr C (ci := 3) 10 rfl rfl rfl (by decide) b_X3 rfl b_fl_X3_44 (v9 hk hs) rfl dX3_noteRead_71 ?_
        refine e_iload_n C dX3_noteRead_74 rfl ?_
        refine e_aload_n C dX3_noteRead_75 rfl ?_
        refine e_getr C (ci := 3) 10 rfl rfl rfl (by decide) b_X3 rfl b_fl_X3_44 (v9 hk hs) rfl dX3_noteRead_76 ?_
        refine e_iload_n C dX3_noteRead_79 rfl ?_
        refine f_iald C rfl (v11 hk hs) (by omega) (by decide) dX3_noteRead_80 ?_
        refine e_iload_n C dX3_noteRead_81 rfl ?_
        refine e_mmax C b_ml_X3_57 dX3_noteRead_82 (Nat.le_of_ble_eq_true rfl) (by decide) ?_
        refine f_iast C rfl (v11 hk hs) (by omega) (by decide) dX3_noteRead_85 ?_
        exact f_vr C hX dX3_noteRead_86 rfl
      · skip
        refine e_aload_n C dX3_noteRead_60 rfl ?_
        refine e_dup C dX3_noteRead_61 ?_
        refine e_geti C (ci := 3) 8 rfl rfl rfl (by decide) b_X3 rfl b_fl_X3_37 (v9 hk hs) rfl dX3_noteRead_62 ?_
        refine e_iconst (v := nI 1) C dX3_noteRead_65 (by decide) ?_
        refine e_iadd C dX3_noteRead_66 ?_
        refine e_puti C (ci := 3) 8 rfl rfl rfl (by decide) b_X3 rfl b_fl_X3_37 (v9 hk hs) tyX3 tyX3_ok nmX3 rfl (.inl ⟨rfl, rfl⟩) rfl dX3_noteRead_67 ?_
        refine e_mem (m' := ntR3 (ntR2 (ntR1 mem k s p) k s q v) k s q v) (EqV.of (cif_neg h_57).symm) ?_
        refine e_aload_n C dX3_noteRead_70 rfl ?_
        refine e_getr C (ci := 3) 10 rfl rfl rfl (by decide) b_X3 rfl b_fl_X3_44 (v9 hk hs) rfl dX3_noteRead_71 ?_
        refine e_iload_n C dX3_noteRead_74 rfl ?_
        refine e_aload_n C dX3_noteRead_75 rfl ?_
        refine e_getr C (ci := 3) 10 rfl rfl rfl (by decide) b_X3 rfl b_fl_X3_44 (v9 hk hs) rfl dX3_noteRead_76 ?_
        refine e_iload_n C dX3_noteRead_79 rfl ?_
        refine f_iald C rfl (v11 hk hs) (by omega) (by decide) dX3_noteRead_80 ?_
        refine e_iload_n C dX3_noteRead_81 rfl ?_
        refine e_mmax C b_ml_X3_57 dX3_noteRead_82 (Nat.le_of_ble_eq_true rfl) (by decide) ?_
        refine f_iast C rfl (v11 hk hs) (by omega) (by decide) dX3_noteRead_85 ?_
        exact f_vr C hX dX3_noteRead_86 rfl
  · skip
    exact absurd (⟨nI_le (Nat.zero_le _) (by omega), nI_le (by omega) (by decide)⟩ : nI 0 ≤ nI q ∧ nI q ≤ nI 11) (by assumption)
set_option maxRecDepth 100000 in
set_option maxHeartbeats 4000000 in
theorem c_X3_copyFrom {E : EV} {l : Launch} {mem : MEM} {k k2 s : Nat} (hk : k < 8) (hk2 : k2 < 8) (hs : s < 8) (hn : k ≠ k2) : Ct E l yX3_copyFrom (me_ws yX3_copyFrom cX3_copyFrom 2 none) 1 [rv (9, k, s), rv (9, k2, s)] mem (Ret uv (cpS1 mem k k2 s)) := by
  refine Ct.of (RC := RX3) (ls0 := [rv (9, k, s), rv (9, k2, s)]) mi_yX3_copyFrom (Nat.le_of_ble_eq_true rfl) rfl (fun X C hX => ?_)
  refine e_aload_n C dX3_copyFrom_0 rfl ?_
  refine e_aload_n C dX3_copyFrom_1 rfl ?_
  refine e_getz C (ci := 3) 0 rfl rfl rfl (by decide) b_X3 rfl b_fl_X3_9 (v9 hk2 hs) rfl rfl dX3_copyFrom_2 (fun hz_2 => ?_)
  refine e_puti C (ci := 3) 0 rfl rfl rfl (by decide) b_X3 rfl b_fl_X3_9 (v9 hk hs) tyX3 tyX3_ok nmX3 rfl (.inr ⟨rfl, (by assumption)⟩) rfl dX3_copyFrom_5 ?_
  refine e_aload_n C dX3_copyFrom_8 rfl ?_
  refine e_aload_n C dX3_copyFrom_9 rfl ?_
  refine e_geti C (ci := 3) 1 rfl rfl rfl (by decide) b_X3 rfl b_fl_X3_15 (v9 hk2 hs) rfl dX3_copyFrom_10 ?_
  refine e_puti C (ci := 3) 1 rfl rfl rfl (by decide) b_X3 rfl b_fl_X3_15 (v9 hk hs) tyX3 tyX3_ok nmX3 rfl (.inl ⟨rfl, rfl⟩) rfl dX3_copyFrom_13 ?_
  refine e_aload_n C dX3_copyFrom_16 rfl ?_
  refine e_aload_n C dX3_copyFrom_17 rfl ?_
  refine e_geti C (ci := 3) 2 rfl rfl rfl (by decide) b_X3 rfl b_fl_X3_19 (v9 hk2 hs) rfl dX3_copyFrom_18 ?_
  refine e_puti C (ci := 3) 2 rfl rfl rfl (by decide) b_X3 rfl b_fl_X3_19 (v9 hk hs) tyX3 tyX3_ok nmX3 rfl (.inl ⟨rfl, rfl⟩) rfl dX3_copyFrom_21 ?_
  refine e_aload_n C dX3_copyFrom_24 rfl ?_
  refine e_aload_n C dX3_copyFrom_25 rfl ?_
  refine e_geti C (ci := 3) 3 rfl rfl rfl (by decide) b_X3 rfl b_fl_X3_22 (v9 hk2 hs) rfl dX3_copyFrom_26 ?_
  refine e_puti C (ci := 3) 3 rfl rfl rfl (by decide) b_X3 rfl b_fl_X3_22 (v9 hk hs) tyX3 tyX3_ok nmX3 rfl (.inl ⟨rfl, rfl⟩) rfl dX3_copyFrom_29 ?_
  refine e_aload_n C dX3_copyFrom_32 rfl ?_
  refine e_aload_n C dX3_copyFrom_33 rfl ?_
  refine e_geti C (ci := 3) 4 rfl rfl rfl (by decide) b_X3 rfl b_fl_X3_25 (v9 hk2 hs) rfl dX3_copyFrom_34 ?_
  refine e_puti C (ci := 3) 4 rfl rfl rfl (by decide) b_X3 rfl b_fl_X3_25 (v9 hk hs) tyX3 tyX3_ok nmX3 rfl (.inl ⟨rfl, rfl⟩) rfl dX3_copyFrom_37 ?_
  refine e_aload_n C dX3_copyFrom_40 rfl ?_
  refine e_aload_n C dX3_copyFrom_41 rfl ?_
  refine e_geti C (ci := 3) 5 rfl rfl rfl (by decide) b_X3 rfl b_fl_X3_28 (v9 hk2 hs) rfl dX3_copyFrom_42 ?_
  refine e_puti C (ci := 3) 5 rfl rfl rfl (by decide) b_X3 rfl b_fl_X3_28 (v9 hk hs) tyX3 tyX3_ok nmX3 rfl (.inl ⟨rfl, rfl⟩) rfl dX3_copyFrom_45 ?_
  refine e_aload_n C dX3_copyFrom_48 rfl ?_
  refine e_aload_n C dX3_copyFrom_49 rfl ?_
  refine e_geti C (ci := 3) 6 rfl rfl rfl (by decide) b_X3 rfl b_fl_X3_31 (v9 hk2 hs) rfl dX3_copyFrom_50 ?_
  refine e_puti C (ci := 3) 6 rfl rfl rfl (by decide) b_X3 rfl b_fl_X3_31 (v9 hk hs) tyX3 tyX3_ok nmX3 rfl (.inl ⟨rfl, rfl⟩) rfl dX3_copyFrom_53 ?_
  refine e_aload_n C dX3_copyFrom_56 rfl ?_
  refine e_aload_n C dX3_copyFrom_57 rfl ?_
  refine e_geti C (ci := 3) 7 rfl rfl rfl (by decide) b_X3 rfl b_fl_X3_34 (v9 hk2 hs) rfl dX3_copyFrom_58 ?_
  refine e_puti C (ci := 3) 7 rfl rfl rfl (by decide) b_X3 rfl b_fl_X3_34 (v9 hk hs) tyX3 tyX3_ok nmX3 rfl (.inl ⟨rfl, rfl⟩) rfl dX3_copyFrom_61 ?_
  refine e_aload_n C dX3_copyFrom_64 rfl ?_
  refine e_aload_n C dX3_copyFrom_65 rfl ?_
  refine e_geti C (ci := 3) 8 rfl rfl rfl (by decide) b_X3 rfl b_fl_X3_37 (v9 hk2 hs) rfl dX3_copyFrom_66 ?_
  refine e_puti C (ci := 3) 8 rfl rfl rfl (by decide) b_X3 rfl b_fl_X3_37 (v9 hk hs) tyX3 tyX3_ok nmX3 rfl (.inl ⟨rfl, rfl⟩) rfl dX3_copyFrom_69 ?_
  refine e_aload_n C dX3_copyFrom_72 rfl ?_
  refine e_getr C (ci := 3) 9 rfl rfl rfl (by decide) b_X3 rfl b_fl_X3_40 (v9 hk2 hs) rfl dX3_copyFrom_73 ?_
  refine e_iconst (v := nI 0) C dX3_copyFrom_76 (by decide) ?_
  refine e_aload_n C dX3_copyFrom_77 rfl ?_
  refine e_getr C (ci := 3) 9 rfl rfl rfl (by decide) b_X3 rfl b_fl_X3_40 (v9 hk hs) rfl dX3_copyFrom_78 ?_
  refine e_iconst (v := nI 0) C dX3_copyFrom_81 (by decide) ?_
  refine e_bipush (v := nI 12) C dX3_copyFrom_82 (by decide) ?_
  refine e_copy (n := 12) C rfl rfl (v10 hk2 hs) (v10 hk hs) (by decide) (by decide) b_ml_X3_66 dX3_copyFrom_84 (Nat.le_of_ble_eq_true rfl) (by decide) ?_
  refine e_aload_n C dX3_copyFrom_87 rfl ?_
  refine e_getr C (ci := 3) 10 rfl rfl rfl (by decide) b_X3 rfl b_fl_X3_44 (v9 hk2 hs) rfl dX3_copyFrom_88 ?_
  refine e_iconst (v := nI 0) C dX3_copyFrom_91 (by decide) ?_
  refine e_aload_n C dX3_copyFrom_92 rfl ?_
  refine e_getr C (ci := 3) 10 rfl rfl rfl (by decide) b_X3 rfl b_fl_X3_44 (v9 hk hs) rfl dX3_copyFrom_93 ?_
  refine e_iconst (v := nI 0) C dX3_copyFrom_96 (by decide) ?_
  refine e_bipush (v := nI 12) C dX3_copyFrom_97 (by decide) ?_
  refine e_copy (n := 12) C rfl rfl (v11 hk2 hs) (v11 hk hs) (by decide) (by decide) b_ml_X3_66 dX3_copyFrom_99 (Nat.le_of_ble_eq_true rfl) (by decide) ?_
  exact e_mem (EqV.trans (EqV.of (by simp [up, hn, Ne.symm hn])) (cpS1_ok hn)) (f_vr C hX dX3_copyFrom_102 rfl)
