/-! ===== the model's text ===== -/
abbrev PSt : Type := Nat ⊕ Nat
def sp (σ : PSt) : Nat := match σ with
  | .inl e => e + 1
  | .inr i => i
def wr (σ : PSt) : Int32 := match σ with
  | .inl e => nI e
  | .inr _ => -6
noncomputable def wnt (σ : PSt) (P : Prop) : PSt := match σ with
  | .inl e => .inl e
  | .inr i => cif P (.inr (i + 1)) (.inl i)
def tm (mem : MEM) (σ : PSt) (n : Nat) (td : Nat → Int32) : MEM := fun id => if id = (17, 0, 0) then (fun j => if j = 8 then nI n else if j = 9 then nI (sp σ) else if j = 10 then wr σ else mem id j) else if id = (22, 0, 0) then td else mem id
theorem tm_o {mem : MEM} {σ : PSt} {n : Nat} {td : Nat → Int32} {id : ID} (h1 : id ≠ (17, 0, 0)) (h2 : id ≠ (22, 0, 0)) : tm mem σ n td id = mem id := by
  unfold tm
  rw [if_neg h1, if_neg h2]
theorem tm_17 {mem : MEM} {σ : PSt} {n : Nat} {td : Nat → Int32} {j : Nat} (h8 : j ≠ 8) (h9 : j ≠ 9) (h10 : j ≠ 10) : tm mem σ n td (17, 0, 0) j = mem (17, 0, 0) j := by simp [tm, h8, h9, h10]
theorem tm_8 {mem : MEM} {σ : PSt} {n : Nat} {td : Nat → Int32} : tm mem σ n td (17, 0, 0) 8 = nI n := by simp [tm]
theorem tm_9 {mem : MEM} {σ : PSt} {n : Nat} {td : Nat → Int32} : tm mem σ n td (17, 0, 0) 9 = nI (sp σ) := by simp [tm]
theorem tm_10 {mem : MEM} {σ : PSt} {n : Nat} {td : Nat → Int32} : tm mem σ n td (17, 0, 0) 10 = wr σ := by simp [tm]
theorem tm_22 {mem : MEM} {σ : PSt} {n : Nat} {td : Nat → Int32} : tm mem σ n td (22, 0, 0) = td := by simp [tm]
theorem up_tm22 {mem : MEM} {σ : PSt} {n j : Nat} {td : Nat → Int32} {v : Int32} : up (tm mem σ n td) (22, 0, 0) j v = tm mem σ n (upd td j v) := by
  funext a b
  by_cases h : a = (22, 0, 0)
  · subst h
    by_cases h2 : b = j
    · subst h2; simp [up, tm, upd]
    · simp [up, tm, upd, h2]
  · by_cases h17 : a = (17, 0, 0)
    · subst h17; simp [up, tm]
    · simp [up, tm, h, h17]
theorem up_tm8 {mem : MEM} {σ : PSt} {n n2 : Nat} {td : Nat → Int32} : up (tm mem σ n td) (17, 0, 0) 8 (nI n2) = tm mem σ n2 td := by
  funext a b
  by_cases h : a = (17, 0, 0)
  · subst h
    by_cases h2 : b = 8
    · subst h2; simp [up, tm]
    · simp [up, tm, h2]
  · simp [up, tm, h]
theorem up_tmg {mem : MEM} {σ σ' : PSt} {n : Nat} {td : Nat → Int32} : up (up (tm mem σ n td) (17, 0, 0) 10 (wr σ')) (17, 0, 0) 9 (nI (sp σ')) = tm mem σ' n td := by
  funext a b
  by_cases h : a = (17, 0, 0)
  · subst h
    by_cases h9 : b = 9
    · subst h9; simp [up, tm]
    · by_cases h10 : b = 10
      · subst h10; simp [up, tm]
      · simp [up, tm, h9, h10]
  · simp [up, tm, h]
theorem up_tm9 {mem : MEM} {i i2 n : Nat} {td : Nat → Int32} : up (tm mem (.inr i) n td) (17, 0, 0) 9 (nI i2) = tm mem (.inr i2) n td := by
  funext a b
  by_cases h : a = (17, 0, 0)
  · subst h
    by_cases h9 : b = 9
    · subst h9; simp [up, tm, sp]
    · simp [up, tm, h9, wr]
  · simp [up, tm, h]
theorem tm_self {m : MEM} {σ : PSt} {n : Nat} {td : Nat → Int32} (h8 : m (17, 0, 0) 8 = nI n) (h9 : m (17, 0, 0) 9 = nI (sp σ)) (h10 : m (17, 0, 0) 10 = wr σ) (h22 : m (22, 0, 0) = td) : tm m σ n td = m := by
  funext a b
  by_cases h : a = (17, 0, 0)
  · subst h
    by_cases e8 : b = 8
    · subst e8; simp [tm, h8]
    · by_cases e9 : b = 9
      · subst e9; simp [tm, h9]
      · by_cases e10 : b = 10
        · subst e10; simp [tm, h10]
        · simp [tm, e8, e9, e10]
  · by_cases h22' : a = (22, 0, 0)
    · subst h22'; simp [tm, h22]
    · simp [tm, h, h22']
def TOk (t : TX) : Prop := ∀ j, j < t.1 → ∃ c, 33 ≤ c ∧ c ≤ 126 ∧ t.2 j = nI c
theorem ltr_c {t : TX} {i : Nat} {s : Nat} (hs : 0 < s) (hs2 : s < 2 ^ 31) : ltr t i = nI s ↔ chc t i = nI s := by
  unfold ltr chc
  by_cases h : i < t.1
  · rw [if_pos h, if_pos h]
  · rw [if_neg h, if_neg h]
    exact ⟨fun e => absurd e.symm (nI_neN hs2 (by decide)), fun e => absurd (xI_inj (by decide) hs2 e) (by omega)⟩
theorem ltr_in {t : TX} {i : Nat} (h : ¬ chc t i = nI 0) : ltr t i = chc t i := by
  unfold ltr chc at *
  by_cases hi : i < t.1
  · rw [if_pos hi, if_pos hi]
  · rw [if_neg hi] at h; exact absurd rfl h
theorem ltr_end {t : TX} {i : Nat} (h : ¬ i < t.1) : ltr t i = -6 := if_neg h
theorem subI {x : Int32} {a : Nat} (h1 : -1000 ≤ x.toInt) (h2 : x.toInt ≤ 1000) (ha : a ≤ 1000) : (x - nI a).toInt = x.toInt - a := by
  rw [Int32.toInt_sub, nI_toInt (by omega), Int.bmod_eq_of_le (by omega) (by omega)]
theorem e6 : (-6 : Int32).toInt = -6 := rfl
theorem dig_iff {t : TX} (ht : TOk t) {i : Nat} : (nI 0 ≤ ltr t i - nI 48 ∧ ltr t i - nI 48 ≤ nI 9) ↔ isD (chc t i) := by
  unfold ltr chc isD
  by_cases h : i < t.1
  · rw [if_pos h, if_pos h]
    obtain ⟨c, h1, h2, e⟩ := ht i h
    have ec : (nI c).toInt = (c : Int) := nI_toInt (by omega)
    rw [e, Int32.le_iff_toInt_le, Int32.le_iff_toInt_le, Int32.le_iff_toInt_le, Int32.le_iff_toInt_le, subI (by omega) (by omega) (by decide), ec, nI_toInt (by decide), nI_toInt (by decide), nI_toInt (by decide), nI_toInt (by decide)]
    omega
  · rw [if_neg h, if_neg h]
    constructor
    · intro q
      have h1 := q.1
      rw [Int32.le_iff_toInt_le, subI (by rw [e6]; omega) (by rw [e6]; omega) (by decide), e6, nI_toInt (by decide)] at h1
      omega
    · intro q
      exact absurd q (by decide)
theorem pl_iff {t : TX} {i : Nat} : (ltr t i = nI 112 ∨ (nI 48 ≤ ltr t i ∧ ltr t i ≤ nI 52)) ↔ isPl (chc t i) := by
  unfold isPl
  by_cases h : i < t.1
  · have e : ltr t i = chc t i := by unfold ltr chc; rw [if_pos h, if_pos h]
    rw [e]
    exact or_comm
  · rw [ltr_end h]
    have e : chc t i = nI 0 := if_neg h
    rw [e]
    constructor
    · intro q
      exact absurd q (by decide)
    · intro q
      exact absurd q (by decide)
theorem ltr_dv {t : TX} {i : Nat} (h : isD (chc t i)) : ltr t i - nI 48 = nI (dv t i) := by
  rw [ltr_in (isD_n0 h), chc_dv h, xI_sub (by omega), Nat.add_sub_cancel]
theorem b2i_1 {P : Prop} (h : P) : nI 1 = b2i P := (b2i_pos h).symm
theorem b2i_0 {P : Prop} (h : ¬ P) : nI 0 = b2i P := (b2i_neg h).symm
theorem sp_w {σ : PSt} {P : Prop} {b : Nat} (h : sp σ ≤ b) : sp (wnt σ P) ≤ b + 1 := by
  cases σ with
  | inl e => exact Nat.le_succ_of_le h
  | inr i =>
    have h : i ≤ b := h
    unfold wnt cif
    dsimp only
    split
    · exact Nat.succ_le_succ h
    · exact Nat.succ_le_succ h
noncomputable def pNp (t : TX) (i : Nat) : PSt := cif (isD (chc t i)) (.inr (nul t 2 (i + 1) (dv t i)).1) (.inl i)
theorem sp_n {σ : PSt} {t : TX} {b : Nat} (h : sp σ ≤ b) : sp (bnd σ (pNp t)) ≤ b + 3 := by
  cases σ with
  | inl e => exact Nat.le_trans h (by omega)
  | inr i =>
    have h : i ≤ b := h
    show sp (pNp t i) ≤ b + 3
    unfold pNp cif
    split
    · have := nul_le t 2 (i + 1) (dv t i)
      show (nul t 2 (i + 1) (dv t i)).1 ≤ b + 3
      omega
    · show i + 1 ≤ b + 3
      omega
theorem nul_stop {t : TX} {p v : Nat} (h : v = 0 ∨ ¬ isD (chc t p)) : ∀ k, nul t k p v = (p, v)
  | 0 => rfl
  | k + 1 => by
    unfold nul
    rw [cif_neg (fun q => h.elim (fun e => by have := q.1; omega) (fun e => e q.2))]
def posC (x : CR) : PSt := match x with
  | .inl e => .inl e
  | .inr a => .inr a.1
def TDk (td : Nat → Int32) (k : Nat) (q : CMD) : Prop := td (4 * k) = nI q.1 ∧ td (4 * k + 1) = nI q.2.1 ∧ (q.1 ≠ 116 → td (4 * k + 2) = nI q.2.2.1) ∧ (q.1 = 119 → td (4 * k + 3) = nI q.2.2.2)
def Rq (t : TX) (mem : MEM) (n : Nat) (td : Nat → Int32) (i : Nat) (mm : MEM) : Prop := ∃ td', mm = tm mem (posC (cmd t i)) (n + 1) td' ∧ (∀ j, j < 4 * n → td' j = td j) ∧ ∀ e q, cmd t i = .inr (e, q) → TDk td' n q
theorem Rq.of {t : TX} {mem : MEM} {n : Nat} {td td' : Nat → Int32} {i : Nat} {σ : PSt} (hσ : σ = posC (cmd t i)) (ho : ∀ j, j < 4 * n → td' j = td j) (hq : ∀ e q, cmd t i = .inr (e, q) → TDk td' n q) : Rq t mem n td i (tm mem σ (n + 1) td') := ⟨td', by rw [hσ], ho, hq⟩
/-- what the model's text is: its count and its codes, in the memory -/
def MT_ (mem : MEM) (t : TX) : Prop := t.1 ≤ 80 ∧ mem (17, 0, 0) 6 = nI t.1 ∧ (∀ j, j < t.1 → mem (21, 0, 0) j = t.2 j) ∧ TOk t

set_option maxRecDepth 100000 in
set_option maxHeartbeats 4000000 in
theorem c_X7_letter {E : EV} {l : Launch} {mem : MEM} {t : TX} (hT : MT_ mem t) {σ : PSt} {n : Nat} {td : Nat → Int32} {b : Nat} (hb : b ≤ 1000) (hs : sp σ ≤ b) : Ct E l yX7_letter (me_ws yX7_letter cX7_letter 1 (some .int)) 1 [rv (17, 0, 0)] (tm mem σ n td) (Ret (iv (ltr t (sp σ))) (tm mem σ n td)) := by
  have hn80 := hT.1
  refine Ct.of (RC := RX7) (ls0 := [rv (17, 0, 0)]) mi_yX7_letter (Nat.le_of_ble_eq_true rfl) rfl (fun X C hX => ?_)
  refine e_aload_n C dX7_letter_0 rfl ?_
  refine e_geti C (ci := 7) 9 rfl rfl rfl (by decide) b_X7 rfl b_fl_X7_145 v17 rfl dX7_letter_1 ?_
  refine f_val (y := nI (sp σ)) tm_9 ?_
  refine e_aload_n C dX7_letter_4 rfl ?_
  refine e_geti C (ci := 7) 6 rfl rfl rfl (by decide) b_X7 rfl b_fl_X7_142 v17 rfl dX7_letter_5 ?_
  refine f_val (y := nI (t.1)) (by rw [tm_17 (by decide) (by decide) (by decide)]; exact hT.2.1) ?_
  refine e_icmp_ge (tgt := 23) C dX7_letter_8 (by decide) (fun h_8 => ?_) (fun h_8 => ?_)
  · skip
    have nh_8 := xI_leD (by omega) (by omega) h_8
    refine e_bipush (v := -6) C dX7_letter_23 (by decide) ?_
    exact f_ir C hX dX7_letter_25 (by rw [ltr, if_neg (by omega)]) rfl
  · skip
    have nh_8 := xI_nleD (by omega) (by omega) h_8
    refine e_aload_n C dX7_letter_11 rfl ?_
    refine e_getr C (ci := 7) 5 rfl rfl rfl (by decide) b_X7 rfl b_fl_X7_19 v17 rfl dX7_letter_12 ?_
    refine e_aload_n C dX7_letter_15 rfl ?_
    refine e_geti C (ci := 7) 9 rfl rfl rfl (by decide) b_X7 rfl b_fl_X7_145 v17 rfl dX7_letter_16 ?_
    refine f_val (y := nI (sp σ)) tm_9 ?_
    refine f_cald C rfl v21 (by omega) (by decide) dX7_letter_19 ?_
    refine e_goto (tgt := 25) C dX7_letter_20 (by decide) ?_
    exact f_ir C hX dX7_letter_25 (by rw [ltr, if_pos (by omega), tm_o (by decide) (by decide)]; exact hT.2.2.1 _ (by omega)) rfl
set_option maxRecDepth 100000 in
set_option maxHeartbeats 4000000 in
theorem c_X7_wants_l {E : EV} {l : Launch} {mem : MEM} {e : Nat} (he : e < 2 ^ 31) {n : Nat} {td : Nat → Int32} {P : Prop} : Ct E l yX7_wants (me_ws yX7_wants cX7_wants 2 none) 1 [rv (17, 0, 0), iv (b2i P)] (tm mem (.inl e) n td) (Ret uv (tm mem (.inl e) n td)) := by
  refine Ct.of (RC := RX7) (ls0 := [rv (17, 0, 0), iv (b2i P)]) mi_yX7_wants (Nat.le_of_ble_eq_true rfl) rfl (fun X C hX => ?_)
  refine e_aload_n C dX7_wants_0 rfl ?_
  refine e_geti C (ci := 7) 10 rfl rfl rfl (by decide) b_X7 rfl b_fl_X7_148 v17 rfl dX7_wants_1 ?_
  refine f_val (y := nI (e)) tm_10 ?_
  refine e_bipush (v := -6) C dX7_wants_4 (by decide) ?_
  refine e_icmp_ne (tgt := 36) C dX7_wants_6 (by decide) (fun h_6 => ?_) (fun h_6 => ?_)
  · skip
    exact f_vr C hX dX7_wants_36 rfl
  · skip
    exact absurd h_6 (nI_neN he (by decide))
set_option maxRecDepth 100000 in
set_option maxHeartbeats 4000000 in
theorem c_X7_wants_r {E : EV} {l : Launch} {mem : MEM} {i : Nat} {n : Nat} {td : Nat → Int32} {P : Prop} : Ct E l yX7_wants (me_ws yX7_wants cX7_wants 2 none) 1 [rv (17, 0, 0), iv (b2i P)] (tm mem (.inr i) n td) (Ret uv (tm mem (wnt (.inr i) P) n td)) := by
  refine Ct.of (RC := RX7) (ls0 := [rv (17, 0, 0), iv (b2i P)]) mi_yX7_wants (Nat.le_of_ble_eq_true rfl) rfl (fun X C hX => ?_)
  refine e_aload_n C dX7_wants_0 rfl ?_
  refine e_geti C (ci := 7) 10 rfl rfl rfl (by decide) b_X7 rfl b_fl_X7_148 v17 rfl dX7_wants_1 ?_
  refine f_val (y := -6) tm_10 ?_
  refine e_bipush (v := -6) C dX7_wants_4 (by decide) ?_
  refine e_icmp_ne (tgt := 36) C dX7_wants_6 (by decide) (fun h_6 => ?_) (fun h_6 => ?_)
  · skip
    exact absurd h_6 (by decide)
  · skip
    refine e_aload_n C dX7_wants_9 rfl ?_
    refine e_iload_n C dX7_wants_10 rfl ?_
    refine f_if_eq (tgt := 19) C dX7_wants_11 (by decide) (fun h_11 => ?_) (fun h_11 => ?_)
    · skip
      refine e_aload_n C dX7_wants_19 rfl ?_
      refine e_geti C (ci := 7) 9 rfl rfl rfl (by decide) b_X7 rfl b_fl_X7_145 v17 rfl dX7_wants_20 ?_
      refine f_val (y := nI (i)) tm_9 ?_
      refine e_puti C (ci := 7) 10 rfl rfl rfl (by decide) b_X7 rfl b_fl_X7_148 v17 tyX7 tyX7_ok nmX7 rfl (.inl ⟨rfl, rfl⟩) rfl dX7_wants_23 ?_
      refine e_aload_n C dX7_wants_26 rfl ?_
      refine e_dup C dX7_wants_27 ?_
      refine e_geti C (ci := 7) 9 rfl rfl rfl (by decide) b_X7 rfl b_fl_X7_145 v17 rfl dX7_wants_28 ?_
      refine f_val (y := nI (i)) (by simp [up]; exact tm_9) ?_
      refine e_iconst (v := nI 1) C dX7_wants_31 (by decide) ?_
      refine f_iaddn C dX7_wants_32 ?_
      refine e_puti C (ci := 7) 9 rfl rfl rfl (by decide) b_X7 rfl b_fl_X7_145 v17 tyX7 tyX7_ok nmX7 rfl (.inl ⟨rfl, rfl⟩) rfl dX7_wants_33 ?_
      refine e_mem (EqV.of ((up_tmg (σ' := .inl i)).trans (congrArg (fun s => tm mem s n td) (show (.inl i : PSt) = wnt (.inr i) P from (cif_neg h_11).symm)))) ?_
      exact f_vr C hX dX7_wants_36 rfl
    · skip
      refine e_bipush (v := -6) C dX7_wants_14 (by decide) ?_
      refine e_goto (tgt := 23) C dX7_wants_16 (by decide) ?_
      refine e_puti C (ci := 7) 10 rfl rfl rfl (by decide) b_X7 rfl b_fl_X7_148 v17 tyX7 tyX7_ok nmX7 rfl (.inl ⟨rfl, rfl⟩) rfl dX7_wants_23 ?_
      refine e_aload_n C dX7_wants_26 rfl ?_
      refine e_dup C dX7_wants_27 ?_
      refine e_geti C (ci := 7) 9 rfl rfl rfl (by decide) b_X7 rfl b_fl_X7_145 v17 rfl dX7_wants_28 ?_
      refine f_val (y := nI (i)) (by simp [up]; exact tm_9) ?_
      refine e_iconst (v := nI 1) C dX7_wants_31 (by decide) ?_
      refine f_iaddn C dX7_wants_32 ?_
      refine e_puti C (ci := 7) 9 rfl rfl rfl (by decide) b_X7 rfl b_fl_X7_145 v17 tyX7 tyX7_ok nmX7 rfl (.inl ⟨rfl, rfl⟩) rfl dX7_wants_33 ?_
      refine e_mem (EqV.of ((up_tmg (σ' := .inr (i + 1))).trans (congrArg (fun s => tm mem s n td) (show (.inr (i + 1) : PSt) = wnt (.inr i) P from (cif_pos h_11).symm)))) ?_
      exact f_vr C hX dX7_wants_36 rfl
theorem c_X7_wants {E : EV} {l : Launch} {mem : MEM} {σ : PSt} {b : Nat} (hb : b ≤ 1000) (hs : sp σ ≤ b) {n : Nat} {td : Nat → Int32} {P : Prop} : Ct E l yX7_wants (me_ws yX7_wants cX7_wants 2 none) 1 [rv (17, 0, 0), iv (b2i P)] (tm mem σ n td) (Ret uv (tm mem (wnt σ P) n td)) := by
  cases σ with
  | inl e => exact c_X7_wants_l (by have : e + 1 ≤ b := hs; omega)
  | inr i => exact c_X7_wants_r
set_option maxRecDepth 100000 in
set_option maxHeartbeats 4000000 in
theorem c_X7_digit {E : EV} {l : Launch} {mem : MEM} {t : TX} (hT : MT_ mem t) {σ : PSt} {n : Nat} {td : Nat → Int32} {b : Nat} (hb : b ≤ 1000) (hs : sp σ ≤ b) : Ct E l yX7_digit (me_ws yX7_digit cX7_digit 2 (some .int)) 2 [rv (17, 0, 0)] (tm mem σ n td) (fun rr mm => ∃ xx : Int32, rr = iv xx ∧ (mm = tm mem (wnt σ (isD (chc t (sp σ)))) n td ∧ (isD (chc t (sp σ)) → xx = nI (dv t (sp σ))))) := by
  refine Ct.of (RC := RX7) (ls0 := [rv (17, 0, 0), uv]) mi_yX7_digit (Nat.le_of_ble_eq_true rfl) rfl (fun X C hX => ?_)
  refine e_aload_n C dX7_digit_0 rfl ?_
  refine f_callVr (As := []) (ci := 7) C mi_yX7_letter mv_yX7_letter b_ml_X7_151 dX7_digit_1 rfl (c_X7_letter hT (by first | assumption | decide) (by assumption)) (by decide) v17 rfl rfl (Nat.le_of_ble_eq_true rfl) ?_
  refine e_bipush (v := nI 48) C dX7_digit_4 (by decide) ?_
  refine e_isub C dX7_digit_6 ?_
  refine f_istore_n (ls1 := [_, _]) C dX7_digit_7 (by decide) rfl ?_
  refine e_aload_n C dX7_digit_8 rfl ?_
  refine e_iload_n C dX7_digit_9 rfl ?_
  refine e_iconst (v := nI 0) C dX7_digit_10 (by decide) ?_
  refine e_bipush (v := nI 9) C dX7_digit_11 (by decide) ?_
  refine f_callSr (As := [_, _, _]) C mi_yX7_in b_st_yX7_in b_ml_X7_26 dX7_digit_13 rfl c_X7_in (by decide) (Nat.le_of_ble_eq_true rfl) ?_
  refine f_callVv (As := [_]) (ci := 7) C mi_yX7_wants mv_yX7_wants b_ml_X7_155 dX7_digit_16 rfl (c_X7_wants (by first | assumption | decide) (by assumption)) (by decide) v17 rfl rfl (Nat.le_of_ble_eq_true rfl) ?_
  rw [propext (dig_iff hT.2.2.2)]
  refine e_iload_n C dX7_digit_19 rfl ?_
  exact f_ii C hX dX7_digit_20 ⟨rfl, fun h => ltr_dv h⟩
set_option maxRecDepth 100000 in
set_option maxHeartbeats 4000000 in
theorem c_X7_place {E : EV} {l : Launch} {mem : MEM} {t : TX} (hT : MT_ mem t) {σ : PSt} {n : Nat} {td : Nat → Int32} {b : Nat} (hb : b ≤ 1000) (hs : sp σ ≤ b) : Ct E l yX7_place (me_ws yX7_place cX7_place 2 (some .int)) 2 [rv (17, 0, 0)] (tm mem σ n td) (fun rr mm => ∃ xx : Int32, rr = iv xx ∧ (mm = tm mem (wnt σ (isPl (chc t (sp σ)))) n td ∧ (isPl (chc t (sp σ)) → xx = nI (plv t (sp σ))))) := by
  refine Ct.of (RC := RX7) (ls0 := [rv (17, 0, 0), uv]) mi_yX7_place (Nat.le_of_ble_eq_true rfl) rfl (fun X C hX => ?_)
  refine e_aload_n C dX7_place_0 rfl ?_
  refine f_callVr (As := []) (ci := 7) C mi_yX7_letter mv_yX7_letter b_ml_X7_151 dX7_place_1 rfl (c_X7_letter hT (by first | assumption | decide) (by assumption)) (by decide) v17 rfl rfl (Nat.le_of_ble_eq_true rfl) ?_
  refine f_istore_n (ls1 := [_, _]) C dX7_place_4 (by decide) rfl ?_
  refine e_aload_n C dX7_place_5 rfl ?_
  refine e_iload_n C dX7_place_6 rfl ?_
  refine e_bipush (v := nI 112) C dX7_place_7 (by decide) ?_
  refine e_icmp_eq (tgt := 23) C dX7_place_9 (by decide) (fun h_9 => ?_) (fun h_9 => ?_)
  · skip
    refine e_iconst (v := nI 1) C dX7_place_23 (by decide) ?_
    refine e_goto (tgt := 28) C dX7_place_24 (by decide) ?_
    refine f_val (b2i_1 (pl_iff.mp (Or.inl h_9))) ?_
    refine f_callVv (As := [_]) (ci := 7) C mi_yX7_wants mv_yX7_wants b_ml_X7_155 dX7_place_28 rfl (c_X7_wants (by first | assumption | decide) (by assumption)) (by decide) v17 rfl rfl (Nat.le_of_ble_eq_true rfl) ?_
    refine e_iload_n C dX7_place_31 rfl ?_
    refine e_bipush (v := nI 112) C dX7_place_32 (by decide) ?_
    refine e_icmp_ne (tgt := 42) C dX7_place_34 (by decide) (fun h_34 => ?_) (fun h_34 => ?_)
    · skip
      refine e_iload_n C dX7_place_42 rfl ?_
      refine e_bipush (v := nI 48) C dX7_place_43 (by decide) ?_
      refine e_isub C dX7_place_45 ?_
      exact f_ii C hX dX7_place_46 ⟨rfl, fun h => by rw [plv, cif_neg (fun q => h_34 ((ltr_c (by decide) (by decide)).mpr q))]; exact ltr_dv (isPl_nat (h.resolve_right (fun q => h_34 ((ltr_c (by decide) (by decide)).mpr q))))⟩
    · skip
      refine e_bipush (v := nI 9) C dX7_place_37 (by decide) ?_
      refine e_goto (tgt := 46) C dX7_place_39 (by decide) ?_
      exact f_ii C hX dX7_place_46 ⟨rfl, fun _ => by rw [plv, cif_pos ((ltr_c (by decide) (by decide)).mp h_34)]⟩
  · skip
    refine e_iload_n C dX7_place_12 rfl ?_
    refine e_bipush (v := nI 48) C dX7_place_13 (by decide) ?_
    refine e_bipush (v := nI 52) C dX7_place_15 (by decide) ?_
    refine f_callSr (As := [_, _, _]) C mi_yX7_in b_st_yX7_in b_ml_X7_26 dX7_place_17 rfl c_X7_in (by decide) (Nat.le_of_ble_eq_true rfl) ?_
    refine f_if_eq (tgt := 27) C dX7_place_20 (by decide) (fun h_20 => ?_) (fun h_20 => ?_)
    · skip
      refine e_iconst (v := nI 0) C dX7_place_27 (by decide) ?_
      refine f_val (b2i_0 (fun q => (pl_iff.mpr q).elim h_9 h_20)) ?_
      refine f_callVv (As := [_]) (ci := 7) C mi_yX7_wants mv_yX7_wants b_ml_X7_155 dX7_place_28 rfl (c_X7_wants (by first | assumption | decide) (by assumption)) (by decide) v17 rfl rfl (Nat.le_of_ble_eq_true rfl) ?_
      refine e_iload_n C dX7_place_31 rfl ?_
      refine e_bipush (v := nI 112) C dX7_place_32 (by decide) ?_
      refine e_icmp_ne (tgt := 42) C dX7_place_34 (by decide) (fun h_34 => ?_) (fun h_34 => ?_)
      · skip
        refine e_iload_n C dX7_place_42 rfl ?_
        refine e_bipush (v := nI 48) C dX7_place_43 (by decide) ?_
        refine e_isub C dX7_place_45 ?_
        exact f_ii C hX dX7_place_46 ⟨rfl, fun h => by rw [plv, cif_neg (fun q => h_34 ((ltr_c (by decide) (by decide)).mpr q))]; exact ltr_dv (isPl_nat (h.resolve_right (fun q => h_34 ((ltr_c (by decide) (by decide)).mpr q))))⟩
      · skip
        refine e_bipush (v := nI 9) C dX7_place_37 (by decide) ?_
        refine e_goto (tgt := 46) C dX7_place_39 (by decide) ?_
        exact f_ii C hX dX7_place_46 ⟨rfl, fun _ => by rw [plv, cif_pos ((ltr_c (by decide) (by decide)).mp h_34)]⟩
    · skip
      refine e_iconst (v := nI 1) C dX7_place_23 (by decide) ?_
      refine e_goto (tgt := 28) C dX7_place_24 (by decide) ?_
      refine f_val (b2i_1 (pl_iff.mp (Or.inr h_20))) ?_
      refine f_callVv (As := [_]) (ci := 7) C mi_yX7_wants mv_yX7_wants b_ml_X7_155 dX7_place_28 rfl (c_X7_wants (by first | assumption | decide) (by assumption)) (by decide) v17 rfl rfl (Nat.le_of_ble_eq_true rfl) ?_
      refine e_iload_n C dX7_place_31 rfl ?_
      refine e_bipush (v := nI 112) C dX7_place_32 (by decide) ?_
      refine e_icmp_ne (tgt := 42) C dX7_place_34 (by decide) (fun h_34 => ?_) (fun h_34 => ?_)
      · skip
        refine e_iload_n C dX7_place_42 rfl ?_
        refine e_bipush (v := nI 48) C dX7_place_43 (by decide) ?_
        refine e_isub C dX7_place_45 ?_
        exact f_ii C hX dX7_place_46 ⟨rfl, fun h => by rw [plv, cif_neg (fun q => h_34 ((ltr_c (by decide) (by decide)).mpr q))]; exact ltr_dv (isPl_nat (h.resolve_right (fun q => h_34 ((ltr_c (by decide) (by decide)).mpr q))))⟩
      · skip
        refine e_bipush (v := nI 9) C dX7_place_37 (by decide) ?_
        refine e_goto (tgt := 46) C dX7_place_39 (by decide) ?_
        exact f_ii C hX dX7_place_46 ⟨rfl, fun _ => by rw [plv, cif_pos ((ltr_c (by decide) (by decide)).mp h_34)]⟩
set_option maxRecDepth 100000 in
set_option maxHeartbeats 4000000 in
theorem c_X7_number_l {E : EV} {l : Launch} {mem : MEM} {t : TX} (hT : MT_ mem t) {n : Nat} {td : Nat → Int32} {e : Nat} (hs : e + 1 ≤ 1000) : Ct E l yX7_number (me_ws yX7_number cX7_number 3 (some .int)) 3 [rv (17, 0, 0)] (tm mem (.inl e) n td) (fun rr mm => ∃ xx : Int32, rr = iv xx ∧ (mm = tm mem (bnd (.inl e : PSt) (pNp t)) n td ∧ (∀ j, (.inl e : PSt) = .inr j → isD (chc t j) → xx = nI (nul t 2 (j + 1) (dv t j)).2))) := by
  refine Ct.of (RC := RX7) (ls0 := [rv (17, 0, 0), uv, uv]) mi_yX7_number (Nat.le_of_ble_eq_true rfl) rfl (fun X C hX => ?_)
  refine e_aload_n C dX7_number_0 rfl ?_
  refine f_callVi (As := []) (ci := 7) C mi_yX7_digit mv_yX7_digit b_ml_X7_159 dX7_number_1 rfl (c_X7_digit hT (Nat.le_refl 1000) hs) (by decide) v17 rfl rfl (Nat.le_of_ble_eq_true rfl) (fun x_1 m_1 hc_1 => ?_)
  obtain ⟨rfl, -⟩ := hc_1
  refine e_mem (EqV.of (show _ = tm mem (.inl e) n td from rfl)) ?_
  refine f_istore_n (ls1 := [_, _, _]) C dX7_number_4 (by decide) rfl ?_
  refine e_aload_n C dX7_number_5 rfl ?_
  refine f_callVr (As := []) (ci := 7) C mi_yX7_letter mv_yX7_letter b_ml_X7_151 dX7_number_6 rfl (c_X7_letter hT (Nat.le_refl 1000) hs) (by decide) v17 rfl rfl (Nat.le_of_ble_eq_true rfl) ?_
  refine e_bipush (v := nI 48) C dX7_number_9 (by decide) ?_
  refine e_isub C dX7_number_11 ?_
  refine f_istore_n (ls1 := [_, _, _]) C dX7_number_12 (by decide) rfl ?_
  refine e_aload_n C dX7_number_13 rfl ?_
  refine e_geti C (ci := 7) 10 rfl rfl rfl (by decide) b_X7 rfl b_fl_X7_148 v17 rfl dX7_number_14 ?_
  refine f_val (y := nI (e)) tm_10 ?_
  refine e_bipush (v := -6) C dX7_number_17 (by decide) ?_
  refine e_icmp_ne (tgt := 76) C dX7_number_19 (by decide) (fun h_19 => ?_) (fun h_19 => ?_)
  · skip
    refine e_iload_n C dX7_number_76 rfl ?_
    exact f_ii C hX dX7_number_77 ⟨rfl, fun i h => by cases h⟩
  · skip
    exact absurd h_19 (nI_neN (by omega) (by decide))
set_option maxRecDepth 100000 in
set_option maxHeartbeats 4000000 in
theorem c_X7_number_n {E : EV} {l : Launch} {mem : MEM} {t : TX} (hT : MT_ mem t) {n : Nat} {td : Nat → Int32} {i : Nat} (hs : i ≤ 900) (hD : ¬ isD (chc t i)) : Ct E l yX7_number (me_ws yX7_number cX7_number 3 (some .int)) 3 [rv (17, 0, 0)] (tm mem (.inr i) n td) (fun rr mm => ∃ xx : Int32, rr = iv xx ∧ (mm = tm mem (bnd (.inr i : PSt) (pNp t)) n td ∧ (∀ j, (.inr i : PSt) = .inr j → isD (chc t j) → xx = nI (nul t 2 (j + 1) (dv t j)).2))) := by
  refine Ct.of (RC := RX7) (ls0 := [rv (17, 0, 0), uv, uv]) mi_yX7_number (Nat.le_of_ble_eq_true rfl) rfl (fun X C hX => ?_)
  refine e_aload_n C dX7_number_0 rfl ?_
  refine f_callVi (As := []) (ci := 7) C mi_yX7_digit mv_yX7_digit b_ml_X7_159 dX7_number_1 rfl (c_X7_digit hT (b := 900) (by decide) hs) (by decide) v17 rfl rfl (Nat.le_of_ble_eq_true rfl) (fun x_1 m_1 hc_1 => ?_)
  obtain ⟨rfl, -⟩ := hc_1
  refine e_mem (m' := tm mem (.inl i) n td) (EqV.of (by show tm mem (cif (isD (chc t i)) _ _) n td = _; rw [cif_neg hD])) ?_
  refine f_istore_n (ls1 := [_, _, _]) C dX7_number_4 (by decide) rfl ?_
  refine e_aload_n C dX7_number_5 rfl ?_
  refine f_callVr (As := []) (ci := 7) C mi_yX7_letter mv_yX7_letter b_ml_X7_151 dX7_number_6 rfl (c_X7_letter hT (b := 901) (by decide) (Nat.succ_le_succ hs)) (by decide) v17 rfl rfl (Nat.le_of_ble_eq_true rfl) ?_
  refine e_bipush (v := nI 48) C dX7_number_9 (by decide) ?_
  refine e_isub C dX7_number_11 ?_
  refine f_istore_n (ls1 := [_, _, _]) C dX7_number_12 (by decide) rfl ?_
  refine e_aload_n C dX7_number_13 rfl ?_
  refine e_geti C (ci := 7) 10 rfl rfl rfl (by decide) b_X7 rfl b_fl_X7_148 v17 rfl dX7_number_14 ?_
  refine f_val (y := nI (i)) tm_10 ?_
  refine e_bipush (v := -6) C dX7_number_17 (by decide) ?_
  refine e_icmp_ne (tgt := 76) C dX7_number_19 (by decide) (fun h_19 => ?_) (fun h_19 => ?_)
  · skip
    refine e_iload_n C dX7_number_76 rfl ?_
    exact f_ii C hX dX7_number_77 ⟨by show _ = tm mem (pNp t i) n td; rw [pNp, cif_neg hD], fun j h hj => by cases h; exact absurd hj hD⟩
  · skip
    exact absurd h_19 (nI_neN (by omega) (by decide))
set_option maxRecDepth 100000 in
set_option maxHeartbeats 4000000 in
theorem lp_X7_number {E : EV} {l : Launch} {X : CX} {mem : MEM} {t : TX} (hT : MT_ mem t) {n : Nat} {td : Nat → Int32} {i : Nat} (hs : i ≤ 900) (hD : isD (chc t i)) (C : CK E X RX7 cX7_number 3 (some .int) 3) (hX : EX E X l (fun rr mm => ∃ xx : Int32, rr = iv xx ∧ (mm = tm mem (bnd (.inr i : PSt) (pNp t)) n td ∧ (∀ j, (.inr i : PSt) = .inr j → isD (chc t j) → xx = nI (nul t 2 (j + 1) (dv t j)).2)))) : ∀ (lpn : Nat) (k p v : Nat), k < lpn → nul t k p v = nul t 2 (i + 1) (dv t i) → p ≤ 910 → ((k = 2 ∧ v ≤ 9 ∧ p ≤ 901) ∨ (k = 1 ∧ 10 ≤ v ∧ v ≤ 99 ∧ p ≤ 902) ∨ (k = 0 ∧ 100 ≤ v ∧ v ≤ 999)) → G E X 3 13 [rv (17, 0, 0), iv (nI v), iv (ltr t p - nI 48)] [] (tm mem (.inr p) n td) := by
  intro lpn
  induction lpn with
  | zero => intro k p v hlpn; exact absurd hlpn (Nat.not_lt_zero _)
  | succ lpn ih =>
    intro k p v hlpn he hp hb
    refine e_aload_n C dX7_number_13 rfl ?_
    refine e_geti C (ci := 7) 10 rfl rfl rfl (by decide) b_X7 rfl b_fl_X7_148 v17 rfl dX7_number_14 ?_
    refine f_val (y := -6) tm_10 ?_
    refine e_bipush (v := -6) C dX7_number_17 (by decide) ?_
    refine e_icmp_ne (tgt := 76) C dX7_number_19 (by decide) (fun h_19 => ?_) (fun h_19 => ?_)
    · skip
      exact absurd h_19 (by decide)
    · skip
      refine e_iload_n C dX7_number_22 rfl ?_
      refine e_if_le (tgt := 76) C dX7_number_23 (by decide) (fun h_23 => ?_) (fun h_23 => ?_)
      · skip
        have nh_23 := xI_leD (a := v) (b := 0) (by omega) (by omega) h_23
        refine e_iload_n C dX7_number_76 rfl ?_
        have hn : nul t 2 (i + 1) (dv t i) = (p, v) := he.symm.trans (nul_stop (Or.inl (by omega)) k)
        exact f_ii C hX dX7_number_77 ⟨by show _ = tm mem (pNp t i) n td; rw [pNp, cif_pos hD, hn], fun j h hj => by cases h; rw [hn]⟩
      · skip
        have nh_23 := xI_nleD (a := v) (b := 0) (by omega) (by omega) h_23
        refine e_iload_n C dX7_number_26 rfl ?_
        refine e_iconst (v := nI 0) C dX7_number_27 (by decide) ?_
        refine e_bipush (v := nI 9) C dX7_number_28 (by decide) ?_
        refine f_callSr (As := [_, _, _]) C mi_yX7_in b_st_yX7_in b_ml_X7_26 dX7_number_30 rfl c_X7_in (by decide) (Nat.le_of_ble_eq_true rfl) ?_
        refine f_if_eq (tgt := 76) C dX7_number_33 (by decide) (fun h_33 => ?_) (fun h_33 => ?_)
        · skip
          refine e_iload_n C dX7_number_76 rfl ?_
          have hn : nul t 2 (i + 1) (dv t i) = (p, v) := he.symm.trans (nul_stop (Or.inr (fun q => h_33 ((dig_iff hT.2.2.2).mpr q))) k)
          exact f_ii C hX dX7_number_77 ⟨by show _ = tm mem (pNp t i) n td; rw [pNp, cif_pos hD, hn], fun j h hj => by cases h; rw [hn]⟩
        · skip
          have hd2 := (dig_iff hT.2.2.2).mp h_33
          have hdl := dv_le hd2
          rw [ltr_dv hd2]
          refine e_bipush (v := nI 10) C dX7_number_36 (by decide) ?_
          refine e_iload_n C dX7_number_38 rfl ?_
          refine f_imuln C dX7_number_39 ?_
          refine e_iload_n C dX7_number_40 rfl ?_
          refine f_iaddn C dX7_number_41 ?_
          refine e_sipush (v := nI 999) C dX7_number_42 (by decide) ?_
          refine e_icmp_gt (tgt := 76) C dX7_number_45 (by decide) (fun h_45 => ?_) (fun h_45 => ?_)
          · skip
            have nh_45 := xI_ltD (by omega) (by omega) h_45
            refine e_iload_n C dX7_number_76 rfl ?_
            have hn : nul t 2 (i + 1) (dv t i) = (p, v) := by rw [← he, show k = 0 by omega]; rfl
            exact f_ii C hX dX7_number_77 ⟨by show _ = tm mem (pNp t i) n td; rw [pNp, cif_pos hD, hn], fun j h hj => by cases h; rw [hn]⟩
          · skip
            have nh_45 := xI_nltD (by omega) (by omega) h_45
            refine e_bipush (v := nI 10) C dX7_number_48 (by decide) ?_
            refine e_iload_n C dX7_number_50 rfl ?_
            refine f_imuln C dX7_number_51 ?_
            refine e_iload_n C dX7_number_52 rfl ?_
            refine f_iaddn C dX7_number_53 ?_
            refine f_istore_n (ls1 := [_, _, _]) C dX7_number_54 (by decide) rfl ?_
            refine e_aload_n C dX7_number_55 rfl ?_
            refine e_dup C dX7_number_56 ?_
            refine e_geti C (ci := 7) 9 rfl rfl rfl (by decide) b_X7 rfl b_fl_X7_145 v17 rfl dX7_number_57 ?_
            refine f_val (y := nI (p)) tm_9 ?_
            refine e_iconst (v := nI 1) C dX7_number_60 (by decide) ?_
            refine f_iaddn C dX7_number_61 ?_
            refine e_puti C (ci := 7) 9 rfl rfl rfl (by decide) b_X7 rfl b_fl_X7_145 v17 tyX7 tyX7_ok nmX7 rfl (.inl ⟨rfl, rfl⟩) rfl dX7_number_62 ?_
            rw [up_tm9]
            refine e_aload_n C dX7_number_65 rfl ?_
            refine f_callVr (As := []) (ci := 7) C mi_yX7_letter mv_yX7_letter b_ml_X7_151 dX7_number_66 rfl (c_X7_letter hT (b := 911) (by decide) (show p + 1 ≤ 911 by omega)) (by decide) v17 rfl rfl (Nat.le_of_ble_eq_true rfl) ?_
            refine e_bipush (v := nI 48) C dX7_number_69 (by decide) ?_
            refine e_isub C dX7_number_71 ?_
            refine f_istore_n (ls1 := [_, _, _]) C dX7_number_72 (by decide) rfl ?_
            refine e_goto (tgt := 13) C dX7_number_73 (by decide) ?_
            obtain ⟨k2, rfl⟩ : ∃ k2, k = k2 + 1 := ⟨k - 1, by omega⟩
            exact ih k2 (p + 1) (10 * v + dv t p) (by omega) (by rw [← he, nul, cif_pos ⟨by omega, hd2⟩]) (by omega) (by omega)
set_option maxRecDepth 100000 in
set_option maxHeartbeats 4000000 in
theorem c_X7_number_y {E : EV} {l : Launch} {mem : MEM} {t : TX} (hT : MT_ mem t) {n : Nat} {td : Nat → Int32} {i : Nat} (hs : i ≤ 900) (hD : isD (chc t i)) : Ct E l yX7_number (me_ws yX7_number cX7_number 3 (some .int)) 3 [rv (17, 0, 0)] (tm mem (.inr i) n td) (fun rr mm => ∃ xx : Int32, rr = iv xx ∧ (mm = tm mem (bnd (.inr i : PSt) (pNp t)) n td ∧ (∀ j, (.inr i : PSt) = .inr j → isD (chc t j) → xx = nI (nul t 2 (j + 1) (dv t j)).2))) := by
  refine Ct.of (RC := RX7) (ls0 := [rv (17, 0, 0), uv, uv]) mi_yX7_number (Nat.le_of_ble_eq_true rfl) rfl (fun X C hX => ?_)
  refine e_aload_n C dX7_number_0 rfl ?_
  refine f_callVi (As := []) (ci := 7) C mi_yX7_digit mv_yX7_digit b_ml_X7_159 dX7_number_1 rfl (c_X7_digit hT (b := 900) (by decide) hs) (by decide) v17 rfl rfl (Nat.le_of_ble_eq_true rfl) (fun x_1 m_1 hc_1 => ?_)
  obtain ⟨rfl, hv⟩ := hc_1
  obtain rfl := hv hD
  refine e_mem (m' := tm mem (.inr (i + 1)) n td) (EqV.of (by show tm mem (cif (isD (chc t i)) _ _) n td = _; rw [cif_pos hD])) ?_
  have hdl := dv_le hD
  refine f_istore_n (ls1 := [_, _, _]) C dX7_number_4 (by decide) rfl ?_
  refine e_aload_n C dX7_number_5 rfl ?_
  refine f_callVr (As := []) (ci := 7) C mi_yX7_letter mv_yX7_letter b_ml_X7_151 dX7_number_6 rfl (c_X7_letter hT (b := 901) (by decide) (Nat.succ_le_succ hs)) (by decide) v17 rfl rfl (Nat.le_of_ble_eq_true rfl) ?_
  refine e_bipush (v := nI 48) C dX7_number_9 (by decide) ?_
  refine e_isub C dX7_number_11 ?_
  refine f_istore_n (ls1 := [_, _, _]) C dX7_number_12 (by decide) rfl ?_
  exact lp_X7_number hT hs hD C hX 3 2 (i + 1) (dv t i) (by decide) rfl (by omega) (Or.inl ⟨rfl, hdl, by omega⟩)
theorem c_X7_number {E : EV} {l : Launch} {mem : MEM} {t : TX} (hT : MT_ mem t) {σ : PSt} {b : Nat} (hb : b ≤ 900) (hs : sp σ ≤ b) {n : Nat} {td : Nat → Int32} : Ct E l yX7_number (me_ws yX7_number cX7_number 3 (some .int)) 3 [rv (17, 0, 0)] (tm mem σ n td) (fun rr mm => ∃ xx : Int32, rr = iv xx ∧ (mm = tm mem (bnd σ (pNp t)) n td ∧ (∀ j, σ = .inr j → isD (chc t j) → xx = nI (nul t 2 (j + 1) (dv t j)).2))) := by
  cases σ with
  | inl e => exact c_X7_number_l hT (by have : e + 1 ≤ b := hs; omega)
  | inr i =>
    have hi : i ≤ b := hs
    by_cases hD : isD (chc t i)
    · exact c_X7_number_y hT (by omega) hD
    · exact c_X7_number_n hT (by omega) hD
