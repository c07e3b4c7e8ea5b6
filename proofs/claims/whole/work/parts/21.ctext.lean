/-! ===== the class's text ===== -/
def tx (mem : MEM) (i : Nat) (L : Int32) (k : Nat) (g : Nat → Int32) : MEM := fun id => if id = (14, 0, 0) then (fun j => if j = 2 then nI i else if j = 3 then L else if j = 5 then nI k else mem id j) else if id = (16, 0, 0) then g else mem id
theorem tx_o {mem : MEM} {i k : Nat} {L : Int32} {g : Nat → Int32} {id : ID} (h1 : id ≠ (14, 0, 0)) (h2 : id ≠ (16, 0, 0)) : tx mem i L k g id = mem id := by
  unfold tx
  rw [if_neg h1, if_neg h2]
theorem tx_1 {mem : MEM} {i k : Nat} {L : Int32} {g : Nat → Int32} : tx mem i L k g (14, 0, 0) 1 = mem (14, 0, 0) 1 := by simp [tx]
theorem tx_2 {mem : MEM} {i k : Nat} {L : Int32} {g : Nat → Int32} : tx mem i L k g (14, 0, 0) 2 = nI i := by simp [tx]
theorem tx_3 {mem : MEM} {i k : Nat} {L : Int32} {g : Nat → Int32} : tx mem i L k g (14, 0, 0) 3 = L := by simp [tx]
theorem tx_5 {mem : MEM} {i k : Nat} {L : Int32} {g : Nat → Int32} : tx mem i L k g (14, 0, 0) 5 = nI k := by simp [tx]
theorem tx_16 {mem : MEM} {i k : Nat} {L : Int32} {g : Nat → Int32} : tx mem i L k g (16, 0, 0) = g := by simp [tx]
theorem up_tx2 {mem : MEM} {i k j : Nat} {L : Int32} {g : Nat → Int32} : up (tx mem i L k g) (14, 0, 0) 2 (nI j) = tx mem j L k g := by
  funext a b
  by_cases h : a = (14, 0, 0)
  · subst h
    by_cases h2 : b = 2 <;> simp [up, tx, h2]
  · simp [up, tx, h]
theorem up_tx3 {mem : MEM} {i k : Nat} {L L2 : Int32} {g : Nat → Int32} : up (tx mem i L k g) (14, 0, 0) 3 L2 = tx mem i L2 k g := by
  funext a b
  by_cases h : a = (14, 0, 0)
  · subst h
    by_cases h2 : b = 3
    · subst h2; simp [up, tx]
    · simp [up, tx, h2]
  · simp [up, tx, h]
theorem up_tx5 {mem : MEM} {i k k2 : Nat} {L : Int32} {g : Nat → Int32} : up (tx mem i L k g) (14, 0, 0) 5 (nI k2) = tx mem i L k2 g := by
  funext a b
  by_cases h : a = (14, 0, 0)
  · subst h
    by_cases h2 : b = 5
    · subst h2; simp [up, tx]
    · simp [up, tx, h2]
  · simp [up, tx, h]
theorem up_tx16 {mem : MEM} {i k j : Nat} {L v : Int32} {g : Nat → Int32} : up (tx mem i L k g) (16, 0, 0) j v = tx mem i L k (upd g j v) := by
  funext a b
  by_cases h : a = (16, 0, 0)
  · subst h
    by_cases h2 : b = j
    · subst h2; simp [up, tx, upd]
    · simp [up, tx, upd, h2]
  · by_cases h14 : a = (14, 0, 0)
    · subst h14; simp [up, tx]
    · simp [up, tx, h, h14]
theorem tx_tx {mem : MEM} {i i2 k k2 : Nat} {L L2 : Int32} {g g2 : Nat → Int32} : tx (tx mem i L k g) i2 L2 k2 g2 = tx mem i2 L2 k2 g2 := by
  funext a b
  by_cases h : a = (14, 0, 0)
  · subst h
    by_cases h2 : b = 2
    · simp [tx, h2]
    · by_cases h3 : b = 3
      · simp [tx, h3]
      · by_cases h5 : b = 5 <;> simp [tx, h2, h3, h5]
  · by_cases h16 : a = (16, 0, 0)
    · subst h16; simp [tx]
    · simp [tx, h, h16]
theorem tx_self {m : MEM} {i k : Nat} {L : Int32} {g : Nat → Int32} (h2 : m (14, 0, 0) 2 = nI i) (h3 : m (14, 0, 0) 3 = L) (h5 : m (14, 0, 0) 5 = nI k) (hg : m (16, 0, 0) = g) : tx m i L k g = m := by
  funext a b
  by_cases h : a = (14, 0, 0)
  · subst h
    by_cases e2 : b = 2
    · subst e2; simp [tx, h2]
    · by_cases e3 : b = 3
      · subst e3; simp [tx, h3]
      · by_cases e5 : b = 5
        · subst e5; simp [tx, h5]
        · simp [tx, e2, e3, e5]
  · by_cases h16 : a = (16, 0, 0)
    · subst h16; simp [tx, hg]
    · simp [tx, h, h16]
theorem RelS.tx {mem : MEM} {i k : Nat} {L : Int32} {g : Nat → Int32} {n : Nat} {z : ZZ} (h : RelS mem n z) : RelS (tx mem i L k g) n z := h.same fun id hid => tx_o (fun e => by rw [e] at hid; revert hid; decide) (fun e => by rw [e] at hid; revert hid; decide)
def Tq (t : TX) (mem : MEM) (i : Nat) : VV → MEM → Prop := fun r m => (∃ e, cmd t i = .inl e ∧ r = iv (nI 0) ∧ ∃ L k g, m = tx mem e L k g) ∨ ∃ e q, cmd t i = .inr (e, q) ∧ r = iv (nI 1) ∧ ∃ k g, m = tx mem e (nI q.1) k g ∧ g 0 = nI q.2.1 ∧ (q.1 ≠ 116 → g 1 = nI q.2.2.1) ∧ (q.1 = 119 → g 2 = nI q.2.2.2)
section TQE
variable {E : EV} {X : CX} {own : String} {cc : ByteArray} {nL : Nat} {dep pc : Nat} {ls : List VV} {mem m1 : MEM} {l : Launch} {t : TX} {i : Nat}
theorem tq_no (C : CK E X own cc nL (some .boolean) dep) (h : EX E X l (Tq t mem i)) (hdg : decode cc pc = .ok (.ireturn, 1)) {e : Nat} {L : Int32} {k : Nat} {g : Nat → Int32} (hc : cmd t i = .inl e) : G E X nL pc ls [iv (nI 0)] (tx mem e L k g) := e_zret C h hdg (Or.inl rfl) (Or.inl ⟨e, hc, rfl, L, k, g, rfl⟩)
theorem tq_yes (C : CK E X own cc nL (some .boolean) dep) (h : EX E X l (Tq t mem i)) (hdg : decode cc pc = .ok (.ireturn, 1)) {e : Nat} {q : CMD} {L : Int32} {k : Nat} {g : Nat → Int32} (hc : cmd t i = .inr (e, q)) (hL : L = nI q.1) (h0 : g 0 = nI q.2.1) (h1 : q.1 ≠ 116 → g 1 = nI q.2.2.1) (h2 : q.1 = 119 → g 2 = nI q.2.2.2) : G E X nL pc ls [iv (nI 1)] (tx mem e L k g) := e_zret C h hdg (Or.inr rfl) (Or.inr ⟨e, q, hc, rfl, k, g, by rw [hL], h0, h1, h2⟩)
end TQE
section MRZ
variable {E : EV} {X : CX} {own : String} {cc : ByteArray} {nL : Nat} {dep pc : Nat} {ls : List VV} {mem m1 : MEM} {l : Launch} {P : Prop}
theorem f_zt_ (C : CK E X own cc nL (some .boolean) dep) (h : EX E X l (Ret (iv (b2i P)) m1)) (hdg : decode cc pc = .ok (.ireturn, 1)) (hp : P) (hm : mem = m1) : G E X nL pc ls [iv (nI 1)] mem := f_zt C h hdg hp hm
end MRZ
theorem e_tableD {E : EV} {X : CX} {own : String} {cc : ByteArray} {nL : Nat} {ret : Option FieldType} {dep pc : Nat} {ls st : List VV} {mem : MEM} (C : CK E X own cc nL ret dep) {dflt lo hi : Int} {offs : Array Int} {len : Nat} {x : Int32} {tgt : Nat} (hdg : decode cc pc = .ok (.tableswitch dflt lo hi offs, len)) (ho : ¬ x.toInt < lo → ¬ hi < x.toInt → offs[(x.toInt - lo).toNat]? = some dflt) (ht : (pc : Int) + dflt = (tgt : Int)) (h : G E X nL tgt ls st mem) : G E X nL pc ls (iv x :: st) mem := by
  by_cases h1 : x.toInt < lo
  · exact e_tableOut C hdg (Or.inl h1) ht h
  · by_cases h2 : hi < x.toInt
    · exact e_tableOut C hdg (Or.inr h2) ht h
    · exact e_tableIn C hdg h1 h2 (ho h1 h2) ht h
theorem tb_o {x : Int32} (hw : ¬ x = nI 119) (hr : ¬ x = nI 114) (ht : ¬ x = nI 116) (hm : ¬ x = nI 109) (hh : ¬ x = nI 104) (hj : ¬ x = nI 106) : ¬ x.toInt < 104 → ¬ 119 < x.toInt → (#[231, 307, 269, 307, 307, 193, 307, 307, 307, 307, 133, 307, 171, 307, 307, 79] : Array Int)[(x.toInt - 104).toNat]? = some 307 := by
  intro h1 h2
  obtain ⟨n, hn, rfl⟩ := xI_le_of (x := x) (N := 119) (by rw [Int32.le_iff_toInt_le, Int32.toInt_zero]; omega) (by rw [Int32.le_iff_toInt_le, nI_toInt (by decide)]; omega) (by decide)
  rw [nI_toInt (by omega)] at h1 h2 ⊢
  have hc : n = 104 ∨ n = 105 ∨ n = 106 ∨ n = 107 ∨ n = 108 ∨ n = 109 ∨ n = 110 ∨ n = 111 ∨ n = 112 ∨ n = 113 ∨ n = 114 ∨ n = 115 ∨ n = 116 ∨ n = 117 ∨ n = 118 ∨ n = 119 := by omega
  rcases hc with rfl | rfl | rfl | rfl | rfl | rfl | rfl | rfl | rfl | rfl | rfl | rfl | rfl | rfl | rfl | rfl <;> first | rfl | exact absurd rfl (by assumption)

set_option maxRecDepth 100000 in
set_option maxHeartbeats 4000000 in
theorem c_X5_codeHere {E : EV} {l : Launch} {mem : MEM} {t : TX} (hT : RTex mem t) {i k : Nat} {L : Int32} {g : Nat → Int32} (hi : i ≤ 1000) : Ct E l yX5_codeHere (me_ws yX5_codeHere cX5_codeHere 1 (some .int)) 1 [rv (14, 0, 0)] (tx mem i L k g) (Ret (iv (chc t i)) (tx mem i L k g)) := by
  have hn80 := hT.1
  refine Ct.of (RC := RX5) (ls0 := [rv (14, 0, 0)]) mi_yX5_codeHere (Nat.le_of_ble_eq_true rfl) rfl (fun X C hX => ?_)
  refine e_aload_n C dX5_codeHere_0 rfl ?_
  refine e_geti C (ci := 5) 2 rfl rfl rfl (by decide) b_X5 rfl b_fl_X5_19 v14 rfl dX5_codeHere_1 ?_
  refine f_val (y := nI (i)) tx_2 ?_
  refine e_if_lt (tgt := 39) C dX5_codeHere_4 (by decide) (fun h_4 => ?_) (fun h_4 => ?_)
  · skip
    have nh_4 := xI_ltD (a := i) (b := 0) (by omega) (by omega) h_4
    exact absurd nh_4 (Nat.not_lt_zero _)
  · skip
    have nh_4 := xI_nltD (a := i) (b := 0) (by omega) (by omega) h_4
    refine e_aload_n C dX5_codeHere_7 rfl ?_
    refine e_geti C (ci := 5) 2 rfl rfl rfl (by decide) b_X5 rfl b_fl_X5_19 v14 rfl dX5_codeHere_8 ?_
    refine f_val (y := nI (i)) tx_2 ?_
    refine e_aload_n C dX5_codeHere_11 rfl ?_
    refine e_geti C (ci := 5) 1 rfl rfl rfl (by decide) b_X5 rfl b_fl_X5_15 v14 rfl dX5_codeHere_12 ?_
    refine f_val (y := nI (t.1)) (by rw [tx_1]; exact hT.2.1) ?_
    refine e_icmp_ge (tgt := 39) C dX5_codeHere_15 (by decide) (fun h_15 => ?_) (fun h_15 => ?_)
    · skip
      have nh_15 := xI_leD (by omega) (by omega) h_15
      refine e_iconst (v := nI 0) C dX5_codeHere_39 (by decide) ?_
      exact f_ir C hX dX5_codeHere_40 (by rw [chc, if_neg (by omega)]) rfl
    · skip
      have nh_15 := xI_nleD (by omega) (by omega) h_15
      refine e_aload_n C dX5_codeHere_18 rfl ?_
      refine e_geti C (ci := 5) 2 rfl rfl rfl (by decide) b_X5 rfl b_fl_X5_19 v14 rfl dX5_codeHere_19 ?_
      refine f_val (y := nI (i)) tx_2 ?_
      refine e_bipush (v := nI 80) C dX5_codeHere_22 (by decide) ?_
      refine e_icmp_ge (tgt := 39) C dX5_codeHere_24 (by decide) (fun h_24 => ?_) (fun h_24 => ?_)
      · skip
        have nh_24 := xI_leD (by omega) (by omega) h_24
        omega
      · skip
        have nh_24 := xI_nleD (by omega) (by omega) h_24
        refine e_aload_n C dX5_codeHere_27 rfl ?_
        refine e_getr C (ci := 5) 0 rfl rfl rfl (by decide) b_X5 rfl b_fl_X5_9 v14 rfl dX5_codeHere_28 ?_
        refine e_aload_n C dX5_codeHere_31 rfl ?_
        refine e_geti C (ci := 5) 2 rfl rfl rfl (by decide) b_X5 rfl b_fl_X5_19 v14 rfl dX5_codeHere_32 ?_
        refine f_val (y := nI (i)) tx_2 ?_
        refine f_iald C rfl v15 (by omega) (by decide) dX5_codeHere_35 ?_
        refine e_goto (tgt := 40) C dX5_codeHere_36 (by decide) ?_
        exact f_ir C hX dX5_codeHere_40 (by rw [chc, if_pos (by omega), tx_o (by decide) (by decide)]; exact hT.2.2 _ (by omega)) rfl
set_option maxRecDepth 100000 in
set_option maxHeartbeats 4000000 in
theorem c_X5_readSign {E : EV} {l : Launch} {mem : MEM} {t : TX} (hT : RTex mem t) {i k : Nat} {L : Int32} {g : Nat → Int32} (hi : i ≤ 900) {s : Int32} : Ct E l yX5_readSign (me_ws yX5_readSign cX5_readSign 2 (some .boolean)) 2 [rv (14, 0, 0), iv s] (tx mem i L k g) (Ret (iv (b2i (chc t i = s))) (cif (chc t i = s) (tx mem (i + 1) L k g) (tx mem i L k g))) := by
  have hn80 := hT.1
  refine Ct.of (RC := RX5) (ls0 := [rv (14, 0, 0), iv s]) mi_yX5_readSign (Nat.le_of_ble_eq_true rfl) rfl (fun X C hX => ?_)
  refine e_aload_n C dX5_readSign_0 rfl ?_
  refine f_callVr (As := []) (ci := 5) C mi_yX5_codeHere mv_yX5_codeHere b_ml_X5_42 dX5_readSign_1 rfl (c_X5_codeHere hT (by omega)) (by decide) v14 rfl rfl (Nat.le_of_ble_eq_true rfl) ?_
  refine e_iload_n C dX5_readSign_4 rfl ?_
  refine e_icmp_eq (tgt := 10) C dX5_readSign_5 (by decide) (fun h_5 => ?_) (fun h_5 => ?_)
  · skip
    refine e_aload_n C dX5_readSign_10 rfl ?_
    refine e_dup C dX5_readSign_11 ?_
    refine e_geti C (ci := 5) 2 rfl rfl rfl (by decide) b_X5 rfl b_fl_X5_19 v14 rfl dX5_readSign_12 ?_
    refine f_val (y := nI (i)) tx_2 ?_
    refine e_iconst (v := nI 1) C dX5_readSign_15 (by decide) ?_
    refine f_iaddn C dX5_readSign_16 ?_
    refine e_puti C (ci := 5) 2 rfl rfl rfl (by decide) b_X5 rfl b_fl_X5_19 v14 tyX5 tyX5_ok nmX5 rfl (.inl ⟨rfl, rfl⟩) rfl dX5_readSign_17 ?_
    rw [up_tx2]
    refine e_iconst (v := nI 1) C dX5_readSign_20 (by decide) ?_
    exact f_zt C hX dX5_readSign_21 h_5 (cif_pos h_5).symm
  · skip
    refine e_iconst (v := nI 0) C dX5_readSign_8 (by decide) ?_
    exact f_zf C hX dX5_readSign_9 h_5 (cif_neg h_5).symm
set_option maxRecDepth 100000 in
set_option maxHeartbeats 4000000 in
theorem c_X5_takeDigit {E : EV} {l : Launch} {mem : MEM} {t : TX} (hT : RTex mem t) {i k : Nat} {L : Int32} {g : Nat → Int32} (hi : i ≤ 900) (hd : isD (chc t i)) : Ct E l yX5_takeDigit (me_ws yX5_takeDigit cX5_takeDigit 2 (some .int)) 2 [rv (14, 0, 0)] (tx mem i L k g) (Ret (iv (nI (dv t i))) (tx mem (i + 1) L k g)) := by
  have hn80 := hT.1
  have hdl := dv_le hd
  refine Ct.of (RC := RX5) (ls0 := [rv (14, 0, 0), uv]) mi_yX5_takeDigit (Nat.le_of_ble_eq_true rfl) rfl (fun X C hX => ?_)
  refine e_aload_n C dX5_takeDigit_0 rfl ?_
  refine f_callVr (As := []) (ci := 5) C mi_yX5_codeHere mv_yX5_codeHere b_ml_X5_42 dX5_takeDigit_1 rfl (c_X5_codeHere hT (by omega)) (by decide) v14 rfl rfl (Nat.le_of_ble_eq_true rfl) ?_
  refine f_val (y := nI (dv t i + 48)) (chc_dv hd) ?_
  refine e_bipush (v := nI 48) C dX5_takeDigit_4 (by decide) ?_
  refine f_isubn C (by omega) dX5_takeDigit_6 ?_
  refine f_istore_n (ls1 := [_, _]) C dX5_takeDigit_7 (by decide) rfl ?_
  refine e_aload_n C dX5_takeDigit_8 rfl ?_
  refine e_dup C dX5_takeDigit_9 ?_
  refine e_geti C (ci := 5) 2 rfl rfl rfl (by decide) b_X5 rfl b_fl_X5_19 v14 rfl dX5_takeDigit_10 ?_
  refine f_val (y := nI (i)) tx_2 ?_
  refine e_iconst (v := nI 1) C dX5_takeDigit_13 (by decide) ?_
  refine f_iaddn C dX5_takeDigit_14 ?_
  refine e_puti C (ci := 5) 2 rfl rfl rfl (by decide) b_X5 rfl b_fl_X5_19 v14 tyX5 tyX5_ok nmX5 rfl (.inl ⟨rfl, rfl⟩) rfl dX5_takeDigit_15 ?_
  rw [up_tx2]
  refine e_iload_n C dX5_takeDigit_18 rfl ?_
  exact f_ir C hX dX5_takeDigit_19 (by rw [Nat.add_sub_cancel]) rfl
set_option maxRecDepth 100000 in
set_option maxHeartbeats 4000000 in
theorem c_X5_addArgument {E : EV} {l : Launch} {mem : MEM} {i k : Nat} {L : Int32} {g : Nat → Int32} (hk : k < 3) {v : Int32} : Ct E l yX5_addArgument (me_ws yX5_addArgument cX5_addArgument 2 (some .boolean)) 2 [rv (14, 0, 0), iv v] (tx mem i L k g) (Ret (iv (nI 1)) (tx mem i L (k + 1) (upd g k v))) := by
  refine Ct.of (RC := RX5) (ls0 := [rv (14, 0, 0), iv v]) mi_yX5_addArgument (Nat.le_of_ble_eq_true rfl) rfl (fun X C hX => ?_)
  refine e_aload_n C dX5_addArgument_0 rfl ?_
  refine e_geti C (ci := 5) 5 rfl rfl rfl (by decide) b_X5 rfl b_fl_X5_28 v14 rfl dX5_addArgument_1 ?_
  refine f_val (y := nI (k)) tx_5 ?_
  refine e_iconst (v := nI 0) C dX5_addArgument_4 (by decide) ?_
  refine e_aload_n C dX5_addArgument_5 rfl ?_
  refine e_getr C (ci := 5) 4 rfl rfl rfl (by decide) b_X5 rfl b_fl_X5_25 v14 rfl dX5_addArgument_6 ?_
  refine e_alen (v := nI 3) C rfl (by decide) v16 rfl dX5_addArgument_9 ?_
  refine e_iconst (v := nI 1) C dX5_addArgument_10 (by decide) ?_
  refine f_isubn C (by omega) dX5_addArgument_11 ?_
  refine f_callNr (As := [_, _, _]) (host := RX6) C mi_yX6_isWithin b_st_yX6_isWithin (by decide +kernel) dX5_addArgument_12 rfl c_X6_isWithin (by decide) (Nat.le_of_ble_eq_true rfl) ?_
  refine f_if_ne (tgt := 20) C dX5_addArgument_15 (by decide) (fun h_15 => ?_) (fun h_15 => ?_)
  · skip
    refine e_aload_n C dX5_addArgument_20 rfl ?_
    refine e_getr C (ci := 5) 4 rfl rfl rfl (by decide) b_X5 rfl b_fl_X5_25 v14 rfl dX5_addArgument_21 ?_
    refine e_aload_n C dX5_addArgument_24 rfl ?_
    refine e_geti C (ci := 5) 5 rfl rfl rfl (by decide) b_X5 rfl b_fl_X5_28 v14 rfl dX5_addArgument_25 ?_
    refine f_val (y := nI (k)) tx_5 ?_
    refine e_iload_n C dX5_addArgument_28 rfl ?_
    refine f_iast C rfl v16 (by omega) (by decide) dX5_addArgument_29 ?_
    rw [up_tx16]
    refine e_aload_n C dX5_addArgument_30 rfl ?_
    refine e_dup C dX5_addArgument_31 ?_
    refine e_geti C (ci := 5) 5 rfl rfl rfl (by decide) b_X5 rfl b_fl_X5_28 v14 rfl dX5_addArgument_32 ?_
    refine f_val (y := nI (k)) tx_5 ?_
    refine e_iconst (v := nI 1) C dX5_addArgument_35 (by decide) ?_
    refine f_iaddn C dX5_addArgument_36 ?_
    refine e_puti C (ci := 5) 5 rfl rfl rfl (by decide) b_X5 rfl b_fl_X5_28 v14 tyX5 tyX5_ok nmX5 rfl (.inl ⟨rfl, rfl⟩) rfl dX5_addArgument_37 ?_
    rw [up_tx5]
    refine e_iconst (v := nI 1) C dX5_addArgument_40 (by decide) ?_
    exact e_zret C hX dX5_addArgument_41 (Or.inr rfl) ⟨rfl, rfl⟩
  · skip
    exact absurd ⟨nI_le (Nat.zero_le k) (by omega), nI_le (by omega) (by decide)⟩ h_15
set_option maxRecDepth 100000 in
set_option maxHeartbeats 4000000 in
theorem c_X5_argument {E : EV} {l : Launch} {mem : MEM} {i k : Nat} {L : Int32} {g : Nat → Int32} {j : Nat} (hj : j < 3) : Ct E l yX5_argument (me_ws yX5_argument cX5_argument 2 (some .int)) 2 [rv (14, 0, 0), iv (nI j)] (tx mem i L k g) (Ret (iv (g j)) (tx mem i L k g)) := by
  refine Ct.of (RC := RX5) (ls0 := [rv (14, 0, 0), iv (nI j)]) mi_yX5_argument (Nat.le_of_ble_eq_true rfl) rfl (fun X C hX => ?_)
  refine e_iload_n C dX5_argument_0 rfl ?_
  refine e_iconst (v := nI 0) C dX5_argument_1 (by decide) ?_
  refine e_aload_n C dX5_argument_2 rfl ?_
  refine e_getr C (ci := 5) 4 rfl rfl rfl (by decide) b_X5 rfl b_fl_X5_25 v14 rfl dX5_argument_3 ?_
  refine e_alen (v := nI 3) C rfl (by decide) v16 rfl dX5_argument_6 ?_
  refine e_iconst (v := nI 1) C dX5_argument_7 (by decide) ?_
  refine f_isubn C (by omega) dX5_argument_8 ?_
  refine f_callNr (As := [_, _, _]) (host := RX6) C mi_yX6_isWithin b_st_yX6_isWithin (by decide +kernel) dX5_argument_9 rfl c_X6_isWithin (by decide) (Nat.le_of_ble_eq_true rfl) ?_
  refine f_if_eq (tgt := 24) C dX5_argument_12 (by decide) (fun h_12 => ?_) (fun h_12 => ?_)
  · skip
    exact absurd ⟨nI_le (Nat.zero_le j) (by omega), nI_le (by omega) (by decide)⟩ h_12
  · skip
    refine e_aload_n C dX5_argument_15 rfl ?_
    refine e_getr C (ci := 5) 4 rfl rfl rfl (by decide) b_X5 rfl b_fl_X5_25 v14 rfl dX5_argument_16 ?_
    refine e_iload_n C dX5_argument_19 rfl ?_
    refine f_iald C rfl v16 (by omega) (by decide) dX5_argument_20 ?_
    refine e_goto (tgt := 26) C dX5_argument_21 (by decide) ?_
    exact f_ir C hX dX5_argument_26 (by rw [tx_16]) rfl
set_option maxRecDepth 100000 in
set_option maxHeartbeats 4000000 in
theorem c_X5_readDigit {E : EV} {l : Launch} {mem : MEM} {t : TX} (hT : RTex mem t) {i k : Nat} {L : Int32} {g : Nat → Int32} (hi : i ≤ 500) (hk : k < 3) : Ct E l yX5_readDigit (me_ws yX5_readDigit cX5_readDigit 1 (some .boolean)) 3 [rv (14, 0, 0)] (tx mem i L k g) (Ret (iv (b2i (isD (chc t i)))) (cif (isD (chc t i)) (tx mem (i + 1) L (k + 1) (upd g k (nI (dv t i)))) (tx mem i L k g))) := by
  have hn80 := hT.1
  refine Ct.of (RC := RX5) (ls0 := [rv (14, 0, 0)]) mi_yX5_readDigit (Nat.le_of_ble_eq_true rfl) rfl (fun X C hX => ?_)
  refine e_aload_n C dX5_readDigit_0 rfl ?_
  refine f_callVr (As := []) (ci := 5) C mi_yX5_codeHere mv_yX5_codeHere b_ml_X5_42 dX5_readDigit_1 rfl (c_X5_codeHere hT (by omega)) (by decide) v14 rfl rfl (Nat.le_of_ble_eq_true rfl) ?_
  refine e_bipush (v := nI 48) C dX5_readDigit_4 (by decide) ?_
  refine e_bipush (v := nI 57) C dX5_readDigit_6 (by decide) ?_
  refine f_callNr (As := [_, _, _]) (host := RX6) C mi_yX6_isWithin b_st_yX6_isWithin (by decide +kernel) dX5_readDigit_8 rfl c_X6_isWithin (by decide) (Nat.le_of_ble_eq_true rfl) ?_
  refine f_if_eq (tgt := 29) C dX5_readDigit_11 (by decide) (fun h_11 => ?_) (fun h_11 => ?_)
  · skip
    refine e_iconst (v := nI 0) C dX5_readDigit_29 (by decide) ?_
    exact f_zf C hX dX5_readDigit_30 h_11 (cif_neg h_11).symm
  · skip
    refine e_aload_n C dX5_readDigit_14 rfl ?_
    refine e_aload_n C dX5_readDigit_15 rfl ?_
    refine f_callVr (As := []) (ci := 5) C mi_yX5_takeDigit mv_yX5_takeDigit b_ml_X5_59 dX5_readDigit_16 rfl (c_X5_takeDigit hT (by omega) h_11) (by decide) v14 rfl rfl (Nat.le_of_ble_eq_true rfl) ?_
    refine f_callVr (As := [_]) (ci := 5) C mi_yX5_addArgument mv_yX5_addArgument b_ml_X5_62 dX5_readDigit_19 rfl (c_X5_addArgument hk) (by decide) v14 rfl rfl (Nat.le_of_ble_eq_true rfl) ?_
    refine e_if_eq (tgt := 29) C dX5_readDigit_22 (by decide) (fun h_22 => ?_) (fun h_22 => ?_)
    · skip
      exact absurd h_22 (by decide)
    · skip
      have nh_22 := xI_neD (a := 1) (b := 0) h_22
      refine e_iconst (v := nI 1) C dX5_readDigit_25 (by decide) ?_
      refine e_goto (tgt := 30) C dX5_readDigit_26 (by decide) ?_
      exact f_zt C hX dX5_readDigit_30 h_11 (cif_pos (show isD (chc t i) from h_11)).symm
set_option maxRecDepth 100000 in
set_option maxHeartbeats 4000000 in
theorem lp_X5_readNumber {E : EV} {l : Launch} {X : CX} {mem : MEM} {t : TX} (hT : RTex mem t) {i k : Nat} {L : Int32} {g : Nat → Int32} (hi : i ≤ 500) (hk : k < 3) (hD : isD (chc t i)) (C : CK E X RX5 cX5_readNumber 3 (some .boolean) 3) (hX : EX E X l (Ret (iv (b2i (isD (chc t i)))) (cif (isD (chc t i)) (tx mem (nul t 2 (i + 1) (dv t i)).1 L (k + 1) (upd g k (nI (nul t 2 (i + 1) (dv t i)).2))) (tx mem i L k g)))) : ∀ (lpn : Nat) (j p v : Nat), 3 - j < lpn → j ≤ 3 → p ≤ i + j → v < 10 ^ (j + 1) → nul t (3 - j) p v = nul t 2 (i + 1) (dv t i) → G E X 3 23 [rv (14, 0, 0), iv (nI v), iv (nI j)] [] (tx mem p L k g) := by
  intro lpn
  induction lpn with
  | zero => intro j p v hlpn; exact absurd hlpn (Nat.not_lt_zero _)
  | succ lpn ih =>
    intro j p v hlpn hj hp hvv he
    have hv4 : v < 10000 := Nat.lt_of_lt_of_le hvv (Nat.pow_le_pow_right (by decide) (by omega : j + 1 ≤ 4))
    refine e_iload_n C dX5_readNumber_23 rfl ?_
    refine e_iconst (v := nI 3) C dX5_readNumber_24 (by decide) ?_
    refine e_icmp_ge (tgt := 62) C dX5_readNumber_25 (by decide) (fun h_25 => ?_) (fun h_25 => ?_)
    · skip
      have nh_25 := xI_leD (by omega) (by omega) h_25
      refine e_aload_n C dX5_readNumber_62 rfl ?_
      refine e_iload_n C dX5_readNumber_63 rfl ?_
      refine f_callVr (As := [_]) (ci := 5) C mi_yX5_addArgument mv_yX5_addArgument b_ml_X5_62 dX5_readNumber_64 rfl (c_X5_addArgument hk) (by decide) v14 rfl rfl (Nat.le_of_ble_eq_true rfl) ?_
      obtain rfl : j = 3 := by omega
      have hf : (p, v) = nul t 2 (i + 1) (dv t i) := he
      exact f_zt_ C hX dX5_readNumber_67 hD (by rw [cif_pos hD, ← hf])
    · skip
      have nh_25 := xI_nleD (by omega) (by omega) h_25
      refine e_iload_n C dX5_readNumber_28 rfl ?_
      refine e_if_le (tgt := 62) C dX5_readNumber_29 (by decide) (fun h_29 => ?_) (fun h_29 => ?_)
      · skip
        have nh_29 := xI_leD (a := v) (b := 0) (by omega) (by omega) h_29
        refine e_aload_n C dX5_readNumber_62 rfl ?_
        refine e_iload_n C dX5_readNumber_63 rfl ?_
        refine f_callVr (As := [_]) (ci := 5) C mi_yX5_addArgument mv_yX5_addArgument b_ml_X5_62 dX5_readNumber_64 rfl (c_X5_addArgument hk) (by decide) v14 rfl rfl (Nat.le_of_ble_eq_true rfl) ?_
        obtain ⟨k3, hk3⟩ : ∃ k3, 3 - j = k3 + 1 := ⟨3 - j - 1, by omega⟩
        rw [hk3, nul, cif_neg (fun q => by omega)] at he
        exact f_zt_ C hX dX5_readNumber_67 hD (by rw [cif_pos hD, ← he])
      · skip
        have nh_29 := xI_nleD (a := v) (b := 0) (by omega) (by omega) h_29
        refine e_aload_n C dX5_readNumber_32 rfl ?_
        refine f_callVr (As := []) (ci := 5) C mi_yX5_codeHere mv_yX5_codeHere b_ml_X5_42 dX5_readNumber_33 rfl (c_X5_codeHere hT (by omega)) (by decide) v14 rfl rfl (Nat.le_of_ble_eq_true rfl) ?_
        refine e_bipush (v := nI 48) C dX5_readNumber_36 (by decide) ?_
        refine e_bipush (v := nI 57) C dX5_readNumber_38 (by decide) ?_
        refine f_callNr (As := [_, _, _]) (host := RX6) C mi_yX6_isWithin b_st_yX6_isWithin (by decide +kernel) dX5_readNumber_40 rfl c_X6_isWithin (by decide) (Nat.le_of_ble_eq_true rfl) ?_
        refine f_if_eq (tgt := 62) C dX5_readNumber_43 (by decide) (fun h_43 => ?_) (fun h_43 => ?_)
        · skip
          refine e_aload_n C dX5_readNumber_62 rfl ?_
          refine e_iload_n C dX5_readNumber_63 rfl ?_
          refine f_callVr (As := [_]) (ci := 5) C mi_yX5_addArgument mv_yX5_addArgument b_ml_X5_62 dX5_readNumber_64 rfl (c_X5_addArgument hk) (by decide) v14 rfl rfl (Nat.le_of_ble_eq_true rfl) ?_
          obtain ⟨k3, hk3⟩ : ∃ k3, 3 - j = k3 + 1 := ⟨3 - j - 1, by omega⟩
          rw [hk3, nul, cif_neg (fun q => h_43 q.2)] at he
          exact f_zt_ C hX dX5_readNumber_67 hD (by rw [cif_pos hD, ← he])
        · skip
          refine e_bipush (v := nI 10) C dX5_readNumber_46 (by decide) ?_
          refine e_iload_n C dX5_readNumber_48 rfl ?_
          refine f_imuln C dX5_readNumber_49 ?_
          refine e_aload_n C dX5_readNumber_50 rfl ?_
          have hdl := dv_le h_43
          refine f_callVr (As := []) (ci := 5) C mi_yX5_takeDigit mv_yX5_takeDigit b_ml_X5_59 dX5_readNumber_51 rfl (c_X5_takeDigit hT (by omega) h_43) (by decide) v14 rfl rfl (Nat.le_of_ble_eq_true rfl) ?_
          refine f_iaddn C dX5_readNumber_54 ?_
          refine f_istore_n (ls1 := [_, _, _]) C dX5_readNumber_55 (by decide) rfl ?_
          refine f_iincn (ls1 := [_, _, _]) C dX5_readNumber_56 rfl (by decide) rfl ?_
          refine e_goto (tgt := 23) C dX5_readNumber_59 (by decide) ?_
          exact ih (j + 1) (p + 1) (10 * v + dv t p) (by omega) (by omega) (by omega) (by rw [Nat.pow_succ]; omega) (by obtain ⟨k3, hk3⟩ : ∃ k3, 3 - j = k3 + 1 := ⟨3 - j - 1, by omega⟩; rw [hk3, nul, cif_pos ⟨by omega, h_43⟩] at he; rw [show 3 - (j + 1) = k3 by omega]; exact he)
set_option maxRecDepth 100000 in
set_option maxHeartbeats 4000000 in
theorem c_X5_readNumber {E : EV} {l : Launch} {mem : MEM} {t : TX} (hT : RTex mem t) {i k : Nat} {L : Int32} {g : Nat → Int32} (hi : i ≤ 500) (hk : k < 3) : Ct E l yX5_readNumber (me_ws yX5_readNumber cX5_readNumber 3 (some .boolean)) 3 [rv (14, 0, 0)] (tx mem i L k g) (Ret (iv (b2i (isD (chc t i)))) (cif (isD (chc t i)) (tx mem (nul t 2 (i + 1) (dv t i)).1 L (k + 1) (upd g k (nI (nul t 2 (i + 1) (dv t i)).2))) (tx mem i L k g))) := by
  have hn80 := hT.1
  refine Ct.of (RC := RX5) (ls0 := [rv (14, 0, 0), uv, uv]) mi_yX5_readNumber (Nat.le_of_ble_eq_true rfl) rfl (fun X C hX => ?_)
  refine e_aload_n C dX5_readNumber_0 rfl ?_
  refine f_callVr (As := []) (ci := 5) C mi_yX5_codeHere mv_yX5_codeHere b_ml_X5_42 dX5_readNumber_1 rfl (c_X5_codeHere hT (by omega)) (by decide) v14 rfl rfl (Nat.le_of_ble_eq_true rfl) ?_
  refine e_bipush (v := nI 48) C dX5_readNumber_4 (by decide) ?_
  refine e_bipush (v := nI 57) C dX5_readNumber_6 (by decide) ?_
  refine f_callNr (As := [_, _, _]) (host := RX6) C mi_yX6_isWithin b_st_yX6_isWithin (by decide +kernel) dX5_readNumber_8 rfl c_X6_isWithin (by decide) (Nat.le_of_ble_eq_true rfl) ?_
  refine f_if_ne (tgt := 16) C dX5_readNumber_11 (by decide) (fun h_11 => ?_) (fun h_11 => ?_)
  · skip
    refine e_aload_n C dX5_readNumber_16 rfl ?_
    refine f_callVr (As := []) (ci := 5) C mi_yX5_takeDigit mv_yX5_takeDigit b_ml_X5_59 dX5_readNumber_17 rfl (c_X5_takeDigit hT (by omega) h_11) (by decide) v14 rfl rfl (Nat.le_of_ble_eq_true rfl) ?_
    refine f_istore_n (ls1 := [_, _, _]) C dX5_readNumber_20 (by decide) rfl ?_
    refine e_iconst (v := nI 1) C dX5_readNumber_21 (by decide) ?_
    refine f_istore_n (ls1 := [_, _, _]) C dX5_readNumber_22 (by decide) rfl ?_
    exact lp_X5_readNumber hT hi hk h_11 C hX 4 1 (i + 1) (dv t i) (by decide) (by decide) (by omega) (by have := dv_le h_11; omega) rfl
  · skip
    refine e_iconst (v := nI 0) C dX5_readNumber_14 (by decide) ?_
    exact f_zf C hX dX5_readNumber_15 h_11 (cif_neg h_11).symm
set_option maxRecDepth 100000 in
set_option maxHeartbeats 4000000 in
theorem c_X5_readPlace {E : EV} {l : Launch} {mem : MEM} {t : TX} (hT : RTex mem t) {i k : Nat} {L : Int32} {g : Nat → Int32} (hi : i ≤ 500) (hk : k < 3) : Ct E l yX5_readPlace (me_ws yX5_readPlace cX5_readPlace 1 (some .boolean)) 3 [rv (14, 0, 0)] (tx mem i L k g) (Ret (iv (b2i (isPl (chc t i)))) (cif (isPl (chc t i)) (tx mem (i + 1) L (k + 1) (upd g k (nI (plv t i)))) (tx mem i L k g))) := by
  have hn80 := hT.1
  refine Ct.of (RC := RX5) (ls0 := [rv (14, 0, 0)]) mi_yX5_readPlace (Nat.le_of_ble_eq_true rfl) rfl (fun X C hX => ?_)
  refine e_aload_n C dX5_readPlace_0 rfl ?_
  refine f_callVr (As := []) (ci := 5) C mi_yX5_codeHere mv_yX5_codeHere b_ml_X5_42 dX5_readPlace_1 rfl (c_X5_codeHere hT (by omega)) (by decide) v14 rfl rfl (Nat.le_of_ble_eq_true rfl) ?_
  refine e_bipush (v := nI 48) C dX5_readPlace_4 (by decide) ?_
  refine e_bipush (v := nI 52) C dX5_readPlace_6 (by decide) ?_
  refine f_callNr (As := [_, _, _]) (host := RX6) C mi_yX6_isWithin b_st_yX6_isWithin (by decide +kernel) dX5_readPlace_8 rfl c_X6_isWithin (by decide) (Nat.le_of_ble_eq_true rfl) ?_
  refine f_if_eq (tgt := 23) C dX5_readPlace_11 (by decide) (fun h_11 => ?_) (fun h_11 => ?_)
  · skip
    refine e_aload_n C dX5_readPlace_23 rfl ?_
    refine e_bipush (v := nI 112) C dX5_readPlace_24 (by decide) ?_
    refine f_callVr (As := [_]) (ci := 5) C mi_yX5_readSign mv_yX5_readSign b_ml_X5_38 dX5_readPlace_26 rfl (c_X5_readSign hT (by omega)) (by decide) v14 rfl rfl (Nat.le_of_ble_eq_true rfl) ?_
    refine f_if_eq (tgt := 45) C dX5_readPlace_29 (by decide) (fun h_29 => ?_) (fun h_29 => ?_)
    · skip
      rw [cif_neg h_29]
      refine e_iconst (v := nI 0) C dX5_readPlace_45 (by decide) ?_
      exact f_zf C hX dX5_readPlace_46 (fun q => q.elim h_11 h_29) (cif_neg (fun q => q.elim h_11 h_29)).symm
    · skip
      rw [cif_pos h_29]
      refine e_aload_n C dX5_readPlace_32 rfl ?_
      refine e_bipush (v := nI 9) C dX5_readPlace_33 (by decide) ?_
      refine f_callVr (As := [_]) (ci := 5) C mi_yX5_addArgument mv_yX5_addArgument b_ml_X5_62 dX5_readPlace_35 rfl (c_X5_addArgument hk) (by decide) v14 rfl rfl (Nat.le_of_ble_eq_true rfl) ?_
      refine e_if_eq (tgt := 45) C dX5_readPlace_38 (by decide) (fun h_38 => ?_) (fun h_38 => ?_)
      · skip
        exact absurd h_38 (by decide)
      · skip
        have nh_38 := xI_neD (a := 1) (b := 0) h_38
        refine e_iconst (v := nI 1) C dX5_readPlace_41 (by decide) ?_
        refine e_goto (tgt := 46) C dX5_readPlace_42 (by decide) ?_
        exact f_zt C hX dX5_readPlace_46 (Or.inr h_29) (by rw [cif_pos (show isPl (chc t i) from Or.inr h_29), plv, cif_pos h_29])
  · skip
    refine e_aload_n C dX5_readPlace_14 rfl ?_
    refine e_aload_n C dX5_readPlace_15 rfl ?_
    refine f_callVr (As := []) (ci := 5) C mi_yX5_takeDigit mv_yX5_takeDigit b_ml_X5_59 dX5_readPlace_16 rfl (c_X5_takeDigit hT (by omega) (isPl_nat h_11)) (by decide) v14 rfl rfl (Nat.le_of_ble_eq_true rfl) ?_
    refine f_callVr (As := [_]) (ci := 5) C mi_yX5_addArgument mv_yX5_addArgument b_ml_X5_62 dX5_readPlace_19 rfl (c_X5_addArgument hk) (by decide) v14 rfl rfl (Nat.le_of_ble_eq_true rfl) ?_
    exact f_zt_ C hX dX5_readPlace_22 (Or.inl h_11) (by rw [cif_pos (show isPl (chc t i) from Or.inl h_11), plv, cif_neg (fun q => by rw [q] at h_11; exact absurd h_11 (by decide))])
set_option maxRecDepth 100000 in
set_option maxHeartbeats 4000000 in
theorem c_X5_rewind {E : EV} {l : Launch} {mem : MEM} {i k : Nat} {L : Int32} {g : Nat → Int32} : Ct E l yX5_rewind (me_ws yX5_rewind cX5_rewind 1 none) 1 [rv (14, 0, 0)] (tx mem i L k g) (Ret uv (tx mem 0 L k g)) := by
  refine Ct.of (RC := RX5) (ls0 := [rv (14, 0, 0)]) mi_yX5_rewind (Nat.le_of_ble_eq_true rfl) rfl (fun X C hX => ?_)
  refine e_aload_n C dX5_rewind_0 rfl ?_
  refine e_iconst (v := nI 0) C dX5_rewind_1 (by decide) ?_
  refine e_puti C (ci := 5) 2 rfl rfl rfl (by decide) b_X5 rfl b_fl_X5_19 v14 tyX5 tyX5_ok nmX5 rfl (.inl ⟨rfl, rfl⟩) rfl dX5_rewind_2 ?_
  rw [up_tx2]
  exact f_vr C hX dX5_rewind_5 rfl
set_option maxRecDepth 100000 in
set_option maxHeartbeats 4000000 in
theorem c_X5_empty {E : EV} {l : Launch} {mem : MEM} {n : Nat} (hn : mem (14, 0, 0) 1 = nI n) : Ct E l yX5_empty (me_ws yX5_empty cX5_empty 2 (some .int)) 1 [rv (14, 0, 0)] mem (Ret (iv (nI n)) (up mem (14, 0, 0) 1 (nI 0))) := by
  refine Ct.of (RC := RX5) (ls0 := [rv (14, 0, 0), uv]) mi_yX5_empty (Nat.le_of_ble_eq_true rfl) rfl (fun X C hX => ?_)
  refine e_aload_n C dX5_empty_0 rfl ?_
  refine e_geti C (ci := 5) 1 rfl rfl rfl (by decide) b_X5 rfl b_fl_X5_15 v14 rfl dX5_empty_1 ?_
  refine f_val (y := nI (n)) hn ?_
  refine f_istore_n (ls1 := [_, _]) C dX5_empty_4 (by decide) rfl ?_
  refine e_aload_n C dX5_empty_5 rfl ?_
  refine e_iconst (v := nI 0) C dX5_empty_6 (by decide) ?_
  refine e_puti C (ci := 5) 1 rfl rfl rfl (by decide) b_X5 rfl b_fl_X5_15 v14 tyX5 tyX5_ok nmX5 rfl (.inl ⟨rfl, rfl⟩) rfl dX5_empty_7 ?_
  refine e_iload_n C dX5_empty_10 rfl ?_
  exact f_ir C hX dX5_empty_11 rfl rfl
set_option maxRecDepth 100000 in
set_option maxHeartbeats 4000000 in
theorem c_X5_readCommand_w {E : EV} {l : Launch} {mem : MEM} {t : TX} (hT : RTex mem t) {i k : Nat} {L : Int32} {g : Nat → Int32} (hi : i ≤ 100) (hl : chc t i = nI 119) : Ct E l yX5_readCommand (me_ws yX5_readCommand cX5_readCommand 1 (some .boolean)) 4 [rv (14, 0, 0)] (tx mem i L k g) (Tq t mem i) := by
  have hn80 := hT.1
  refine Ct.of (RC := RX5) (ls0 := [rv (14, 0, 0)]) mi_yX5_readCommand (Nat.le_of_ble_eq_true rfl) rfl (fun X C hX => ?_)
  refine e_aload_n C dX5_readCommand_0 rfl ?_
  refine e_aload_n C dX5_readCommand_1 rfl ?_
  refine f_callVr (As := []) (ci := 5) C mi_yX5_codeHere mv_yX5_codeHere b_ml_X5_42 dX5_readCommand_2 rfl (c_X5_codeHere hT (by omega)) (by decide) v14 rfl rfl (Nat.le_of_ble_eq_true rfl) ?_
  refine f_val (y := nI (119)) hl ?_
  refine e_puti C (ci := 5) 3 rfl rfl rfl (by decide) b_X5 rfl b_fl_X5_22 v14 tyX5 tyX5_ok nmX5 rfl (.inl ⟨rfl, rfl⟩) rfl dX5_readCommand_5 ?_
  rw [up_tx3]
  refine e_aload_n C dX5_readCommand_8 rfl ?_
  refine e_iconst (v := nI 0) C dX5_readCommand_9 (by decide) ?_
  refine e_puti C (ci := 5) 5 rfl rfl rfl (by decide) b_X5 rfl b_fl_X5_28 v14 tyX5 tyX5_ok nmX5 rfl (.inl ⟨rfl, rfl⟩) rfl dX5_readCommand_10 ?_
  rw [up_tx5]
  refine e_aload_n C dX5_readCommand_13 rfl ?_
  refine e_geti C (ci := 5) 3 rfl rfl rfl (by decide) b_X5 rfl b_fl_X5_22 v14 rfl dX5_readCommand_14 ?_
  refine f_val (y := nI (119)) tx_3 ?_
  refine e_tableIn (tgt := 96) (off := 79) C dX5_readCommand_17 (by decide) (by decide) (by decide) (by decide) ?_
  refine e_aload_n C dX5_readCommand_96 rfl ?_
  refine e_bipush (v := nI 119) C dX5_readCommand_97 (by decide) ?_
  refine f_callVr (As := [_]) (ci := 5) C mi_yX5_readSign mv_yX5_readSign b_ml_X5_38 dX5_readCommand_99 rfl (c_X5_readSign hT (by omega)) (by decide) v14 rfl rfl (Nat.le_of_ble_eq_true rfl) ?_
  refine f_if_eq (tgt := 148) C dX5_readCommand_102 (by decide) (fun h_102 => ?_) (fun h_102 => ?_)
  · skip
    rw [cif_neg h_102]
    exact absurd hl h_102
  · skip
    rw [cif_pos h_102]
    refine e_aload_n C dX5_readCommand_105 rfl ?_
    refine f_callVr (As := []) (ci := 5) C mi_yX5_readDigit mv_yX5_readDigit b_ml_X5_46 dX5_readCommand_106 rfl (c_X5_readDigit hT (by omega) (by decide)) (by decide) v14 rfl rfl (Nat.le_of_ble_eq_true rfl) ?_
    refine f_if_eq (tgt := 148) C dX5_readCommand_109 (by decide) (fun h_109 => ?_) (fun h_109 => ?_)
    · skip
      rw [cif_neg h_109]
      refine e_iconst (v := nI 0) C dX5_readCommand_148 (by decide) ?_
      exact tq_no C hX dX5_readCommand_149 (by simp only [cmd_w hl, pw, pD, pN, pP, sgn, bnd, cif_neg h_109])
    · skip
      rw [cif_pos h_109]
      refine e_aload_n C dX5_readCommand_112 rfl ?_
      refine e_bipush (v := nI 58) C dX5_readCommand_113 (by decide) ?_
      refine f_callVr (As := [_]) (ci := 5) C mi_yX5_readSign mv_yX5_readSign b_ml_X5_38 dX5_readCommand_115 rfl (c_X5_readSign hT (by omega)) (by decide) v14 rfl rfl (Nat.le_of_ble_eq_true rfl) ?_
      refine f_if_eq (tgt := 148) C dX5_readCommand_118 (by decide) (fun h_118 => ?_) (fun h_118 => ?_)
      · skip
        rw [cif_neg h_118]
        refine e_iconst (v := nI 0) C dX5_readCommand_148 (by decide) ?_
        exact tq_no C hX dX5_readCommand_149 (by simp only [cmd_w hl, pw, pD, pN, pP, sgn, bnd, cif_pos h_109, cif_neg h_118])
      · skip
        rw [cif_pos h_118]
        refine e_aload_n C dX5_readCommand_121 rfl ?_
        refine f_callVr (As := []) (ci := 5) C mi_yX5_readNumber mv_yX5_readNumber b_ml_X5_49 dX5_readCommand_122 rfl (c_X5_readNumber hT (by omega) (by decide)) (by decide) v14 rfl rfl (Nat.le_of_ble_eq_true rfl) ?_
        refine f_if_eq (tgt := 148) C dX5_readCommand_125 (by decide) (fun h_125 => ?_) (fun h_125 => ?_)
        · skip
          rw [cif_neg h_125]
          refine e_iconst (v := nI 0) C dX5_readCommand_148 (by decide) ?_
          exact tq_no C hX dX5_readCommand_149 (by simp only [cmd_w hl, pw, pD, pN, pP, sgn, bnd, cif_pos h_109, cif_pos h_118, cif_neg h_125])
        · skip
          rw [cif_pos h_125]
          have hn1 := nul_le t 2 (i + 1 + 1 + 1 + 1) (dv t (i + 1 + 1 + 1))
          refine e_aload_n C dX5_readCommand_128 rfl ?_
          refine e_bipush (v := nI 61) C dX5_readCommand_129 (by decide) ?_
          refine f_callVr (As := [_]) (ci := 5) C mi_yX5_readSign mv_yX5_readSign b_ml_X5_38 dX5_readCommand_131 rfl (c_X5_readSign hT (by omega)) (by decide) v14 rfl rfl (Nat.le_of_ble_eq_true rfl) ?_
          refine f_if_eq (tgt := 148) C dX5_readCommand_134 (by decide) (fun h_134 => ?_) (fun h_134 => ?_)
          · skip
            rw [cif_neg h_134]
            refine e_iconst (v := nI 0) C dX5_readCommand_148 (by decide) ?_
            exact tq_no C hX dX5_readCommand_149 (by simp only [cmd_w hl, pw, pD, pN, pP, sgn, bnd, cif_pos h_109, cif_pos h_118, cif_pos h_125, cif_neg h_134])
          · skip
            rw [cif_pos h_134]
            refine e_aload_n C dX5_readCommand_137 rfl ?_
            refine f_callVr (As := []) (ci := 5) C mi_yX5_readNumber mv_yX5_readNumber b_ml_X5_49 dX5_readCommand_138 rfl (c_X5_readNumber hT (by omega) (by decide)) (by decide) v14 rfl rfl (Nat.le_of_ble_eq_true rfl) ?_
            refine f_if_eq (tgt := 148) C dX5_readCommand_141 (by decide) (fun h_141 => ?_) (fun h_141 => ?_)
            · skip
              rw [cif_neg h_141]
              refine e_iconst (v := nI 0) C dX5_readCommand_148 (by decide) ?_
              exact tq_no C hX dX5_readCommand_149 (by simp only [cmd_w hl, pw, pD, pN, pP, sgn, bnd, cif_pos h_109, cif_pos h_118, cif_pos h_125, cif_pos h_134, cif_neg h_141])
            · skip
              rw [cif_pos h_141]
              refine e_iconst (v := nI 1) C dX5_readCommand_144 (by decide) ?_
              refine e_goto (tgt := 149) C dX5_readCommand_145 (by decide) ?_
              exact tq_yes C hX dX5_readCommand_149 (by simp only [cmd_w hl, pw, pD, pN, pP, sgn, bnd, cif_pos h_109, cif_pos h_118, cif_pos h_125, cif_pos h_134, cif_pos h_141]; rfl) rfl (by simp [upd]) (by simp [upd]) (by simp [upd])
set_option maxRecDepth 100000 in
set_option maxHeartbeats 4000000 in
theorem c_X5_readCommand_r {E : EV} {l : Launch} {mem : MEM} {t : TX} (hT : RTex mem t) {i k : Nat} {L : Int32} {g : Nat → Int32} (hi : i ≤ 100) (hl : chc t i = nI 114) : Ct E l yX5_readCommand (me_ws yX5_readCommand cX5_readCommand 1 (some .boolean)) 4 [rv (14, 0, 0)] (tx mem i L k g) (Tq t mem i) := by
  have hn80 := hT.1
  refine Ct.of (RC := RX5) (ls0 := [rv (14, 0, 0)]) mi_yX5_readCommand (Nat.le_of_ble_eq_true rfl) rfl (fun X C hX => ?_)
  refine e_aload_n C dX5_readCommand_0 rfl ?_
  refine e_aload_n C dX5_readCommand_1 rfl ?_
  refine f_callVr (As := []) (ci := 5) C mi_yX5_codeHere mv_yX5_codeHere b_ml_X5_42 dX5_readCommand_2 rfl (c_X5_codeHere hT (by omega)) (by decide) v14 rfl rfl (Nat.le_of_ble_eq_true rfl) ?_
  refine f_val (y := nI (114)) hl ?_
  refine e_puti C (ci := 5) 3 rfl rfl rfl (by decide) b_X5 rfl b_fl_X5_22 v14 tyX5 tyX5_ok nmX5 rfl (.inl ⟨rfl, rfl⟩) rfl dX5_readCommand_5 ?_
  rw [up_tx3]
  refine e_aload_n C dX5_readCommand_8 rfl ?_
  refine e_iconst (v := nI 0) C dX5_readCommand_9 (by decide) ?_
  refine e_puti C (ci := 5) 5 rfl rfl rfl (by decide) b_X5 rfl b_fl_X5_28 v14 tyX5 tyX5_ok nmX5 rfl (.inl ⟨rfl, rfl⟩) rfl dX5_readCommand_10 ?_
  rw [up_tx5]
  refine e_aload_n C dX5_readCommand_13 rfl ?_
  refine e_geti C (ci := 5) 3 rfl rfl rfl (by decide) b_X5 rfl b_fl_X5_22 v14 rfl dX5_readCommand_14 ?_
  refine f_val (y := nI (114)) tx_3 ?_
  refine e_tableIn (tgt := 150) (off := 133) C dX5_readCommand_17 (by decide) (by decide) (by decide) (by decide) ?_
  refine e_aload_n C dX5_readCommand_150 rfl ?_
  refine e_bipush (v := nI 114) C dX5_readCommand_151 (by decide) ?_
  refine f_callVr (As := [_]) (ci := 5) C mi_yX5_readSign mv_yX5_readSign b_ml_X5_38 dX5_readCommand_153 rfl (c_X5_readSign hT (by omega)) (by decide) v14 rfl rfl (Nat.le_of_ble_eq_true rfl) ?_
  refine f_if_eq (tgt := 186) C dX5_readCommand_156 (by decide) (fun h_156 => ?_) (fun h_156 => ?_)
  · skip
    rw [cif_neg h_156]
    exact absurd hl h_156
  · skip
    rw [cif_pos h_156]
    refine e_aload_n C dX5_readCommand_159 rfl ?_
    refine f_callVr (As := []) (ci := 5) C mi_yX5_readDigit mv_yX5_readDigit b_ml_X5_46 dX5_readCommand_160 rfl (c_X5_readDigit hT (by omega) (by decide)) (by decide) v14 rfl rfl (Nat.le_of_ble_eq_true rfl) ?_
    refine f_if_eq (tgt := 186) C dX5_readCommand_163 (by decide) (fun h_163 => ?_) (fun h_163 => ?_)
    · skip
      rw [cif_neg h_163]
      refine e_iconst (v := nI 0) C dX5_readCommand_186 (by decide) ?_
      exact tq_no C hX dX5_readCommand_187 (by simp only [cmd_r hl, pr, pD, pN, pP, sgn, bnd, cif_neg h_163])
    · skip
      rw [cif_pos h_163]
      refine e_aload_n C dX5_readCommand_166 rfl ?_
      refine e_bipush (v := nI 58) C dX5_readCommand_167 (by decide) ?_
      refine f_callVr (As := [_]) (ci := 5) C mi_yX5_readSign mv_yX5_readSign b_ml_X5_38 dX5_readCommand_169 rfl (c_X5_readSign hT (by omega)) (by decide) v14 rfl rfl (Nat.le_of_ble_eq_true rfl) ?_
      refine f_if_eq (tgt := 186) C dX5_readCommand_172 (by decide) (fun h_172 => ?_) (fun h_172 => ?_)
      · skip
        rw [cif_neg h_172]
        refine e_iconst (v := nI 0) C dX5_readCommand_186 (by decide) ?_
        exact tq_no C hX dX5_readCommand_187 (by simp only [cmd_r hl, pr, pD, pN, pP, sgn, bnd, cif_pos h_163, cif_neg h_172])
      · skip
        rw [cif_pos h_172]
        refine e_aload_n C dX5_readCommand_175 rfl ?_
        refine f_callVr (As := []) (ci := 5) C mi_yX5_readNumber mv_yX5_readNumber b_ml_X5_49 dX5_readCommand_176 rfl (c_X5_readNumber hT (by omega) (by decide)) (by decide) v14 rfl rfl (Nat.le_of_ble_eq_true rfl) ?_
        refine f_if_eq (tgt := 186) C dX5_readCommand_179 (by decide) (fun h_179 => ?_) (fun h_179 => ?_)
        · skip
          rw [cif_neg h_179]
          refine e_iconst (v := nI 0) C dX5_readCommand_186 (by decide) ?_
          exact tq_no C hX dX5_readCommand_187 (by simp only [cmd_r hl, pr, pD, pN, pP, sgn, bnd, cif_pos h_163, cif_pos h_172, cif_neg h_179])
        · skip
          rw [cif_pos h_179]
          refine e_iconst (v := nI 1) C dX5_readCommand_182 (by decide) ?_
          refine e_goto (tgt := 187) C dX5_readCommand_183 (by decide) ?_
          exact tq_yes C hX dX5_readCommand_187 (by simp only [cmd_r hl, pr, pD, pN, pP, sgn, bnd, cif_pos h_163, cif_pos h_172, cif_pos h_179]; rfl) rfl (by simp [upd]) (by simp [upd]) (by simp [upd])
set_option maxRecDepth 100000 in
set_option maxHeartbeats 4000000 in
theorem c_X5_readCommand_t {E : EV} {l : Launch} {mem : MEM} {t : TX} (hT : RTex mem t) {i k : Nat} {L : Int32} {g : Nat → Int32} (hi : i ≤ 100) (hl : chc t i = nI 116) : Ct E l yX5_readCommand (me_ws yX5_readCommand cX5_readCommand 1 (some .boolean)) 4 [rv (14, 0, 0)] (tx mem i L k g) (Tq t mem i) := by
  have hn80 := hT.1
  refine Ct.of (RC := RX5) (ls0 := [rv (14, 0, 0)]) mi_yX5_readCommand (Nat.le_of_ble_eq_true rfl) rfl (fun X C hX => ?_)
  refine e_aload_n C dX5_readCommand_0 rfl ?_
  refine e_aload_n C dX5_readCommand_1 rfl ?_
  refine f_callVr (As := []) (ci := 5) C mi_yX5_codeHere mv_yX5_codeHere b_ml_X5_42 dX5_readCommand_2 rfl (c_X5_codeHere hT (by omega)) (by decide) v14 rfl rfl (Nat.le_of_ble_eq_true rfl) ?_
  refine f_val (y := nI (116)) hl ?_
  refine e_puti C (ci := 5) 3 rfl rfl rfl (by decide) b_X5 rfl b_fl_X5_22 v14 tyX5 tyX5_ok nmX5 rfl (.inl ⟨rfl, rfl⟩) rfl dX5_readCommand_5 ?_
  rw [up_tx3]
  refine e_aload_n C dX5_readCommand_8 rfl ?_
  refine e_iconst (v := nI 0) C dX5_readCommand_9 (by decide) ?_
  refine e_puti C (ci := 5) 5 rfl rfl rfl (by decide) b_X5 rfl b_fl_X5_28 v14 tyX5 tyX5_ok nmX5 rfl (.inl ⟨rfl, rfl⟩) rfl dX5_readCommand_10 ?_
  rw [up_tx5]
  refine e_aload_n C dX5_readCommand_13 rfl ?_
  refine e_geti C (ci := 5) 3 rfl rfl rfl (by decide) b_X5 rfl b_fl_X5_22 v14 rfl dX5_readCommand_14 ?_
  refine f_val (y := nI (116)) tx_3 ?_
  refine e_tableIn (tgt := 188) (off := 171) C dX5_readCommand_17 (by decide) (by decide) (by decide) (by decide) ?_
  refine e_aload_n C dX5_readCommand_188 rfl ?_
  refine e_bipush (v := nI 116) C dX5_readCommand_189 (by decide) ?_
  refine f_callVr (As := [_]) (ci := 5) C mi_yX5_readSign mv_yX5_readSign b_ml_X5_38 dX5_readCommand_191 rfl (c_X5_readSign hT (by omega)) (by decide) v14 rfl rfl (Nat.le_of_ble_eq_true rfl) ?_
  refine f_if_eq (tgt := 208) C dX5_readCommand_194 (by decide) (fun h_194 => ?_) (fun h_194 => ?_)
  · skip
    rw [cif_neg h_194]
    exact absurd hl h_194
  · skip
    rw [cif_pos h_194]
    refine e_aload_n C dX5_readCommand_197 rfl ?_
    refine f_callVr (As := []) (ci := 5) C mi_yX5_readNumber mv_yX5_readNumber b_ml_X5_49 dX5_readCommand_198 rfl (c_X5_readNumber hT (by omega) (by decide)) (by decide) v14 rfl rfl (Nat.le_of_ble_eq_true rfl) ?_
    refine f_if_eq (tgt := 208) C dX5_readCommand_201 (by decide) (fun h_201 => ?_) (fun h_201 => ?_)
    · skip
      rw [cif_neg h_201]
      refine e_iconst (v := nI 0) C dX5_readCommand_208 (by decide) ?_
      exact tq_no C hX dX5_readCommand_209 (by simp only [cmd_t hl, pt, pD, pN, pP, sgn, bnd, cif_neg h_201])
    · skip
      rw [cif_pos h_201]
      refine e_iconst (v := nI 1) C dX5_readCommand_204 (by decide) ?_
      refine e_goto (tgt := 209) C dX5_readCommand_205 (by decide) ?_
      exact tq_yes C hX dX5_readCommand_209 (by simp only [cmd_t hl, pt, pD, pN, pP, sgn, bnd, cif_pos h_201]; rfl) rfl (by simp [upd]) (by simp [upd]) (by simp [upd])
set_option maxRecDepth 100000 in
set_option maxHeartbeats 4000000 in
theorem c_X5_readCommand_m {E : EV} {l : Launch} {mem : MEM} {t : TX} (hT : RTex mem t) {i k : Nat} {L : Int32} {g : Nat → Int32} (hi : i ≤ 100) (hl : chc t i = nI 109) : Ct E l yX5_readCommand (me_ws yX5_readCommand cX5_readCommand 1 (some .boolean)) 4 [rv (14, 0, 0)] (tx mem i L k g) (Tq t mem i) := by
  have hn80 := hT.1
  refine Ct.of (RC := RX5) (ls0 := [rv (14, 0, 0)]) mi_yX5_readCommand (Nat.le_of_ble_eq_true rfl) rfl (fun X C hX => ?_)
  refine e_aload_n C dX5_readCommand_0 rfl ?_
  refine e_aload_n C dX5_readCommand_1 rfl ?_
  refine f_callVr (As := []) (ci := 5) C mi_yX5_codeHere mv_yX5_codeHere b_ml_X5_42 dX5_readCommand_2 rfl (c_X5_codeHere hT (by omega)) (by decide) v14 rfl rfl (Nat.le_of_ble_eq_true rfl) ?_
  refine f_val (y := nI (109)) hl ?_
  refine e_puti C (ci := 5) 3 rfl rfl rfl (by decide) b_X5 rfl b_fl_X5_22 v14 tyX5 tyX5_ok nmX5 rfl (.inl ⟨rfl, rfl⟩) rfl dX5_readCommand_5 ?_
  rw [up_tx3]
  refine e_aload_n C dX5_readCommand_8 rfl ?_
  refine e_iconst (v := nI 0) C dX5_readCommand_9 (by decide) ?_
  refine e_puti C (ci := 5) 5 rfl rfl rfl (by decide) b_X5 rfl b_fl_X5_28 v14 tyX5 tyX5_ok nmX5 rfl (.inl ⟨rfl, rfl⟩) rfl dX5_readCommand_10 ?_
  rw [up_tx5]
  refine e_aload_n C dX5_readCommand_13 rfl ?_
  refine e_geti C (ci := 5) 3 rfl rfl rfl (by decide) b_X5 rfl b_fl_X5_22 v14 rfl dX5_readCommand_14 ?_
  refine f_val (y := nI (109)) tx_3 ?_
  refine e_tableIn (tgt := 210) (off := 193) C dX5_readCommand_17 (by decide) (by decide) (by decide) (by decide) ?_
  refine e_aload_n C dX5_readCommand_210 rfl ?_
  refine e_bipush (v := nI 109) C dX5_readCommand_211 (by decide) ?_
  refine f_callVr (As := [_]) (ci := 5) C mi_yX5_readSign mv_yX5_readSign b_ml_X5_38 dX5_readCommand_213 rfl (c_X5_readSign hT (by omega)) (by decide) v14 rfl rfl (Nat.le_of_ble_eq_true rfl) ?_
  refine f_if_eq (tgt := 246) C dX5_readCommand_216 (by decide) (fun h_216 => ?_) (fun h_216 => ?_)
  · skip
    rw [cif_neg h_216]
    exact absurd hl h_216
  · skip
    rw [cif_pos h_216]
    refine e_aload_n C dX5_readCommand_219 rfl ?_
    refine f_callVr (As := []) (ci := 5) C mi_yX5_readDigit mv_yX5_readDigit b_ml_X5_46 dX5_readCommand_220 rfl (c_X5_readDigit hT (by omega) (by decide)) (by decide) v14 rfl rfl (Nat.le_of_ble_eq_true rfl) ?_
    refine f_if_eq (tgt := 246) C dX5_readCommand_223 (by decide) (fun h_223 => ?_) (fun h_223 => ?_)
    · skip
      rw [cif_neg h_223]
      refine e_iconst (v := nI 0) C dX5_readCommand_246 (by decide) ?_
      exact tq_no C hX dX5_readCommand_247 (by simp only [cmd_m hl, pm, pD, pN, pP, sgn, bnd, cif_neg h_223])
    · skip
      rw [cif_pos h_223]
      refine e_aload_n C dX5_readCommand_226 rfl ?_
      refine e_bipush (v := nI 62) C dX5_readCommand_227 (by decide) ?_
      refine f_callVr (As := [_]) (ci := 5) C mi_yX5_readSign mv_yX5_readSign b_ml_X5_38 dX5_readCommand_229 rfl (c_X5_readSign hT (by omega)) (by decide) v14 rfl rfl (Nat.le_of_ble_eq_true rfl) ?_
      refine f_if_eq (tgt := 246) C dX5_readCommand_232 (by decide) (fun h_232 => ?_) (fun h_232 => ?_)
      · skip
        rw [cif_neg h_232]
        refine e_iconst (v := nI 0) C dX5_readCommand_246 (by decide) ?_
        exact tq_no C hX dX5_readCommand_247 (by simp only [cmd_m hl, pm, pD, pN, pP, sgn, bnd, cif_pos h_223, cif_neg h_232])
      · skip
        rw [cif_pos h_232]
        refine e_aload_n C dX5_readCommand_235 rfl ?_
        refine f_callVr (As := []) (ci := 5) C mi_yX5_readPlace mv_yX5_readPlace b_ml_X5_52 dX5_readCommand_236 rfl (c_X5_readPlace hT (by omega) (by decide)) (by decide) v14 rfl rfl (Nat.le_of_ble_eq_true rfl) ?_
        refine f_if_eq (tgt := 246) C dX5_readCommand_239 (by decide) (fun h_239 => ?_) (fun h_239 => ?_)
        · skip
          rw [cif_neg h_239]
          refine e_iconst (v := nI 0) C dX5_readCommand_246 (by decide) ?_
          exact tq_no C hX dX5_readCommand_247 (by simp only [cmd_m hl, pm, pD, pN, pP, sgn, bnd, cif_pos h_223, cif_pos h_232, cif_neg h_239])
        · skip
          rw [cif_pos h_239]
          refine e_iconst (v := nI 1) C dX5_readCommand_242 (by decide) ?_
          refine e_goto (tgt := 247) C dX5_readCommand_243 (by decide) ?_
          exact tq_yes C hX dX5_readCommand_247 (by simp only [cmd_m hl, pm, pD, pN, pP, sgn, bnd, cif_pos h_223, cif_pos h_232, cif_pos h_239]; rfl) rfl (by simp [upd]) (by simp [upd]) (by simp [upd])
set_option maxRecDepth 100000 in
set_option maxHeartbeats 4000000 in
theorem c_X5_readCommand_h {E : EV} {l : Launch} {mem : MEM} {t : TX} (hT : RTex mem t) {i k : Nat} {L : Int32} {g : Nat → Int32} (hi : i ≤ 100) (hl : chc t i = nI 104) : Ct E l yX5_readCommand (me_ws yX5_readCommand cX5_readCommand 1 (some .boolean)) 4 [rv (14, 0, 0)] (tx mem i L k g) (Tq t mem i) := by
  have hn80 := hT.1
  refine Ct.of (RC := RX5) (ls0 := [rv (14, 0, 0)]) mi_yX5_readCommand (Nat.le_of_ble_eq_true rfl) rfl (fun X C hX => ?_)
  refine e_aload_n C dX5_readCommand_0 rfl ?_
  refine e_aload_n C dX5_readCommand_1 rfl ?_
  refine f_callVr (As := []) (ci := 5) C mi_yX5_codeHere mv_yX5_codeHere b_ml_X5_42 dX5_readCommand_2 rfl (c_X5_codeHere hT (by omega)) (by decide) v14 rfl rfl (Nat.le_of_ble_eq_true rfl) ?_
  refine f_val (y := nI (104)) hl ?_
  refine e_puti C (ci := 5) 3 rfl rfl rfl (by decide) b_X5 rfl b_fl_X5_22 v14 tyX5 tyX5_ok nmX5 rfl (.inl ⟨rfl, rfl⟩) rfl dX5_readCommand_5 ?_
  rw [up_tx3]
  refine e_aload_n C dX5_readCommand_8 rfl ?_
  refine e_iconst (v := nI 0) C dX5_readCommand_9 (by decide) ?_
  refine e_puti C (ci := 5) 5 rfl rfl rfl (by decide) b_X5 rfl b_fl_X5_28 v14 tyX5 tyX5_ok nmX5 rfl (.inl ⟨rfl, rfl⟩) rfl dX5_readCommand_10 ?_
  rw [up_tx5]
  refine e_aload_n C dX5_readCommand_13 rfl ?_
  refine e_geti C (ci := 5) 3 rfl rfl rfl (by decide) b_X5 rfl b_fl_X5_22 v14 rfl dX5_readCommand_14 ?_
  refine f_val (y := nI (104)) tx_3 ?_
  refine e_tableIn (tgt := 248) (off := 231) C dX5_readCommand_17 (by decide) (by decide) (by decide) (by decide) ?_
  refine e_aload_n C dX5_readCommand_248 rfl ?_
  refine e_bipush (v := nI 104) C dX5_readCommand_249 (by decide) ?_
  refine f_callVr (As := [_]) (ci := 5) C mi_yX5_readSign mv_yX5_readSign b_ml_X5_38 dX5_readCommand_251 rfl (c_X5_readSign hT (by omega)) (by decide) v14 rfl rfl (Nat.le_of_ble_eq_true rfl) ?_
  refine f_if_eq (tgt := 284) C dX5_readCommand_254 (by decide) (fun h_254 => ?_) (fun h_254 => ?_)
  · skip
    rw [cif_neg h_254]
    exact absurd hl h_254
  · skip
    rw [cif_pos h_254]
    refine e_aload_n C dX5_readCommand_257 rfl ?_
    refine f_callVr (As := []) (ci := 5) C mi_yX5_readDigit mv_yX5_readDigit b_ml_X5_46 dX5_readCommand_258 rfl (c_X5_readDigit hT (by omega) (by decide)) (by decide) v14 rfl rfl (Nat.le_of_ble_eq_true rfl) ?_
    refine f_if_eq (tgt := 284) C dX5_readCommand_261 (by decide) (fun h_261 => ?_) (fun h_261 => ?_)
    · skip
      rw [cif_neg h_261]
      refine e_iconst (v := nI 0) C dX5_readCommand_284 (by decide) ?_
      exact tq_no C hX dX5_readCommand_285 (by simp only [cmd_h hl, ph, pD, pN, pP, sgn, bnd, cif_neg h_261])
    · skip
      rw [cif_pos h_261]
      refine e_aload_n C dX5_readCommand_264 rfl ?_
      refine e_bipush (v := nI 62) C dX5_readCommand_265 (by decide) ?_
      refine f_callVr (As := [_]) (ci := 5) C mi_yX5_readSign mv_yX5_readSign b_ml_X5_38 dX5_readCommand_267 rfl (c_X5_readSign hT (by omega)) (by decide) v14 rfl rfl (Nat.le_of_ble_eq_true rfl) ?_
      refine f_if_eq (tgt := 284) C dX5_readCommand_270 (by decide) (fun h_270 => ?_) (fun h_270 => ?_)
      · skip
        rw [cif_neg h_270]
        refine e_iconst (v := nI 0) C dX5_readCommand_284 (by decide) ?_
        exact tq_no C hX dX5_readCommand_285 (by simp only [cmd_h hl, ph, pD, pN, pP, sgn, bnd, cif_pos h_261, cif_neg h_270])
      · skip
        rw [cif_pos h_270]
        refine e_aload_n C dX5_readCommand_273 rfl ?_
        refine f_callVr (As := []) (ci := 5) C mi_yX5_readDigit mv_yX5_readDigit b_ml_X5_46 dX5_readCommand_274 rfl (c_X5_readDigit hT (by omega) (by decide)) (by decide) v14 rfl rfl (Nat.le_of_ble_eq_true rfl) ?_
        refine f_if_eq (tgt := 284) C dX5_readCommand_277 (by decide) (fun h_277 => ?_) (fun h_277 => ?_)
        · skip
          rw [cif_neg h_277]
          refine e_iconst (v := nI 0) C dX5_readCommand_284 (by decide) ?_
          exact tq_no C hX dX5_readCommand_285 (by simp only [cmd_h hl, ph, pD, pN, pP, sgn, bnd, cif_pos h_261, cif_pos h_270, cif_neg h_277])
        · skip
          rw [cif_pos h_277]
          refine e_iconst (v := nI 1) C dX5_readCommand_280 (by decide) ?_
          refine e_goto (tgt := 285) C dX5_readCommand_281 (by decide) ?_
          exact tq_yes C hX dX5_readCommand_285 (by simp only [cmd_h hl, ph, pD, pN, pP, sgn, bnd, cif_pos h_261, cif_pos h_270, cif_pos h_277]; rfl) rfl (by simp [upd]) (by simp [upd]) (by simp [upd])
set_option maxRecDepth 100000 in
set_option maxHeartbeats 4000000 in
theorem c_X5_readCommand_j {E : EV} {l : Launch} {mem : MEM} {t : TX} (hT : RTex mem t) {i k : Nat} {L : Int32} {g : Nat → Int32} (hi : i ≤ 100) (hl : chc t i = nI 106) : Ct E l yX5_readCommand (me_ws yX5_readCommand cX5_readCommand 1 (some .boolean)) 4 [rv (14, 0, 0)] (tx mem i L k g) (Tq t mem i) := by
  have hn80 := hT.1
  refine Ct.of (RC := RX5) (ls0 := [rv (14, 0, 0)]) mi_yX5_readCommand (Nat.le_of_ble_eq_true rfl) rfl (fun X C hX => ?_)
  refine e_aload_n C dX5_readCommand_0 rfl ?_
  refine e_aload_n C dX5_readCommand_1 rfl ?_
  refine f_callVr (As := []) (ci := 5) C mi_yX5_codeHere mv_yX5_codeHere b_ml_X5_42 dX5_readCommand_2 rfl (c_X5_codeHere hT (by omega)) (by decide) v14 rfl rfl (Nat.le_of_ble_eq_true rfl) ?_
  refine f_val (y := nI (106)) hl ?_
  refine e_puti C (ci := 5) 3 rfl rfl rfl (by decide) b_X5 rfl b_fl_X5_22 v14 tyX5 tyX5_ok nmX5 rfl (.inl ⟨rfl, rfl⟩) rfl dX5_readCommand_5 ?_
  rw [up_tx3]
  refine e_aload_n C dX5_readCommand_8 rfl ?_
  refine e_iconst (v := nI 0) C dX5_readCommand_9 (by decide) ?_
  refine e_puti C (ci := 5) 5 rfl rfl rfl (by decide) b_X5 rfl b_fl_X5_28 v14 tyX5 tyX5_ok nmX5 rfl (.inl ⟨rfl, rfl⟩) rfl dX5_readCommand_10 ?_
  rw [up_tx5]
  refine e_aload_n C dX5_readCommand_13 rfl ?_
  refine e_geti C (ci := 5) 3 rfl rfl rfl (by decide) b_X5 rfl b_fl_X5_22 v14 rfl dX5_readCommand_14 ?_
  refine f_val (y := nI (106)) tx_3 ?_
  refine e_tableIn (tgt := 286) (off := 269) C dX5_readCommand_17 (by decide) (by decide) (by decide) (by decide) ?_
  refine e_aload_n C dX5_readCommand_286 rfl ?_
  refine e_bipush (v := nI 106) C dX5_readCommand_287 (by decide) ?_
  refine f_callVr (As := [_]) (ci := 5) C mi_yX5_readSign mv_yX5_readSign b_ml_X5_38 dX5_readCommand_289 rfl (c_X5_readSign hT (by omega)) (by decide) v14 rfl rfl (Nat.le_of_ble_eq_true rfl) ?_
  refine f_if_eq (tgt := 322) C dX5_readCommand_292 (by decide) (fun h_292 => ?_) (fun h_292 => ?_)
  · skip
    rw [cif_neg h_292]
    exact absurd hl h_292
  · skip
    rw [cif_pos h_292]
    refine e_aload_n C dX5_readCommand_295 rfl ?_
    refine f_callVr (As := []) (ci := 5) C mi_yX5_readDigit mv_yX5_readDigit b_ml_X5_46 dX5_readCommand_296 rfl (c_X5_readDigit hT (by omega) (by decide)) (by decide) v14 rfl rfl (Nat.le_of_ble_eq_true rfl) ?_
    refine f_if_eq (tgt := 322) C dX5_readCommand_299 (by decide) (fun h_299 => ?_) (fun h_299 => ?_)
    · skip
      rw [cif_neg h_299]
      refine e_iconst (v := nI 0) C dX5_readCommand_322 (by decide) ?_
      exact tq_no C hX dX5_readCommand_323 (by simp only [cmd_j hl, pj, pD, pN, pP, sgn, bnd, cif_neg h_299])
    · skip
      rw [cif_pos h_299]
      refine e_aload_n C dX5_readCommand_302 rfl ?_
      refine e_bipush (v := nI 64) C dX5_readCommand_303 (by decide) ?_
      refine f_callVr (As := [_]) (ci := 5) C mi_yX5_readSign mv_yX5_readSign b_ml_X5_38 dX5_readCommand_305 rfl (c_X5_readSign hT (by omega)) (by decide) v14 rfl rfl (Nat.le_of_ble_eq_true rfl) ?_
      refine f_if_eq (tgt := 322) C dX5_readCommand_308 (by decide) (fun h_308 => ?_) (fun h_308 => ?_)
      · skip
        rw [cif_neg h_308]
        refine e_iconst (v := nI 0) C dX5_readCommand_322 (by decide) ?_
        exact tq_no C hX dX5_readCommand_323 (by simp only [cmd_j hl, pj, pD, pN, pP, sgn, bnd, cif_pos h_299, cif_neg h_308])
      · skip
        rw [cif_pos h_308]
        refine e_aload_n C dX5_readCommand_311 rfl ?_
        refine f_callVr (As := []) (ci := 5) C mi_yX5_readNumber mv_yX5_readNumber b_ml_X5_49 dX5_readCommand_312 rfl (c_X5_readNumber hT (by omega) (by decide)) (by decide) v14 rfl rfl (Nat.le_of_ble_eq_true rfl) ?_
        refine f_if_eq (tgt := 322) C dX5_readCommand_315 (by decide) (fun h_315 => ?_) (fun h_315 => ?_)
        · skip
          rw [cif_neg h_315]
          refine e_iconst (v := nI 0) C dX5_readCommand_322 (by decide) ?_
          exact tq_no C hX dX5_readCommand_323 (by simp only [cmd_j hl, pj, pD, pN, pP, sgn, bnd, cif_pos h_299, cif_pos h_308, cif_neg h_315])
        · skip
          rw [cif_pos h_315]
          refine e_iconst (v := nI 1) C dX5_readCommand_318 (by decide) ?_
          refine e_goto (tgt := 323) C dX5_readCommand_319 (by decide) ?_
          exact tq_yes C hX dX5_readCommand_323 (by simp only [cmd_j hl, pj, pD, pN, pP, sgn, bnd, cif_pos h_299, cif_pos h_308, cif_pos h_315]; rfl) rfl (by simp [upd]) (by simp [upd]) (by simp [upd])
set_option maxRecDepth 100000 in
set_option maxHeartbeats 4000000 in
theorem c_X5_readCommand_o {E : EV} {l : Launch} {mem : MEM} {t : TX} (hT : RTex mem t) {i k : Nat} {L : Int32} {g : Nat → Int32} (hi : i ≤ 100) (hw : ¬ chc t i = nI 119) (hr : ¬ chc t i = nI 114) (ht : ¬ chc t i = nI 116) (hm : ¬ chc t i = nI 109) (hh : ¬ chc t i = nI 104) (hj : ¬ chc t i = nI 106) : Ct E l yX5_readCommand (me_ws yX5_readCommand cX5_readCommand 1 (some .boolean)) 4 [rv (14, 0, 0)] (tx mem i L k g) (Tq t mem i) := by
  have hn80 := hT.1
  refine Ct.of (RC := RX5) (ls0 := [rv (14, 0, 0)]) mi_yX5_readCommand (Nat.le_of_ble_eq_true rfl) rfl (fun X C hX => ?_)
  refine e_aload_n C dX5_readCommand_0 rfl ?_
  refine e_aload_n C dX5_readCommand_1 rfl ?_
  refine f_callVr (As := []) (ci := 5) C mi_yX5_codeHere mv_yX5_codeHere b_ml_X5_42 dX5_readCommand_2 rfl (c_X5_codeHere hT (by omega)) (by decide) v14 rfl rfl (Nat.le_of_ble_eq_true rfl) ?_
  refine e_puti C (ci := 5) 3 rfl rfl rfl (by decide) b_X5 rfl b_fl_X5_22 v14 tyX5 tyX5_ok nmX5 rfl (.inl ⟨rfl, rfl⟩) rfl dX5_readCommand_5 ?_
  rw [up_tx3]
  refine e_aload_n C dX5_readCommand_8 rfl ?_
  refine e_iconst (v := nI 0) C dX5_readCommand_9 (by decide) ?_
  refine e_puti C (ci := 5) 5 rfl rfl rfl (by decide) b_X5 rfl b_fl_X5_28 v14 tyX5 tyX5_ok nmX5 rfl (.inl ⟨rfl, rfl⟩) rfl dX5_readCommand_10 ?_
  rw [up_tx5]
  refine e_aload_n C dX5_readCommand_13 rfl ?_
  refine e_geti C (ci := 5) 3 rfl rfl rfl (by decide) b_X5 rfl b_fl_X5_22 v14 rfl dX5_readCommand_14 ?_
  refine f_val (y := chc t i) tx_3 ?_
  refine e_tableD (tgt := 324) C dX5_readCommand_17 (tb_o hw hr ht hm hh hj) (by decide) ?_
  refine e_iconst (v := nI 0) C dX5_readCommand_324 (by decide) ?_
  exact tq_no C hX dX5_readCommand_325 (cmd_o hw hr ht hm hh hj)
theorem c_X5_readCommand {E : EV} {l : Launch} {mem : MEM} {t : TX} (hT : RTex mem t) {i k : Nat} {L : Int32} {g : Nat → Int32} (hi : i ≤ 100) : Ct E l yX5_readCommand (me_ws yX5_readCommand cX5_readCommand 1 (some .boolean)) 4 [rv (14, 0, 0)] (tx mem i L k g) (Tq t mem i) := by
  by_cases hw : chc t i = nI 119
  · exact c_X5_readCommand_w hT hi hw
  by_cases hr : chc t i = nI 114
  · exact c_X5_readCommand_r hT hi hr
  by_cases ht : chc t i = nI 116
  · exact c_X5_readCommand_t hT hi ht
  by_cases hm : chc t i = nI 109
  · exact c_X5_readCommand_m hT hi hm
  by_cases hh : chc t i = nI 104
  · exact c_X5_readCommand_h hT hi hh
  by_cases hj : chc t i = nI 106
  · exact c_X5_readCommand_j hT hi hj
  exact c_X5_readCommand_o hT hi hw hr ht hm hh hj
