/-! ===== the model's text: errorPosition, append, clearText ===== -/
theorem tm_init {mem : MEM} : up (up (up mem (17, 0, 0) 8 (nI 0)) (17, 0, 0) 9 (nI 0)) (17, 0, 0) 10 (-6) = tm mem (.inr 0) 0 (mem (22, 0, 0)) := by
  funext a b
  by_cases h : a = (17, 0, 0)
  · subst h
    by_cases e8 : b = 8
    · subst e8; simp [up, tm]
    · by_cases e9 : b = 9
      · subst e9; simp [up, tm, sp]
      · by_cases e10 : b = 10
        · subst e10; simp [up, tm, wr]
        · simp [up, tm, e8, e9, e10]
  · by_cases h22 : a = (22, 0, 0)
    · subst h22; simp [up, tm]
    · simp [up, tm, h, h22]
theorem TDk.congr {td d : Nat → Int32} {k n : Nat} {q : CMD} (h : TDk td k q) (hk : k < n) (ho : ∀ j, j < 4 * n → d j = td j) : TDk d k q := by
  obtain ⟨h1, h2, h3, h4⟩ := h
  exact ⟨by rw [ho _ (by omega)]; exact h1, by rw [ho _ (by omega)]; exact h2, fun e => by rw [ho _ (by omega)]; exact h3 e, fun e => by rw [ho _ (by omega)]; exact h4 e⟩
theorem TD_app {td d : Nat → Int32} {l0 : List CMD} {n : Nat} {q0 : CMD} (hk : ∀ k q, l0[k]? = some q → TDk td k q) (hl : l0.length = n) (ho : ∀ j, j < 4 * n → d j = td j) (h0 : TDk d n q0) : ∀ k q, (l0 ++ [q0])[k]? = some q → TDk d k q := by
  intro k q h
  by_cases hkn : k < n
  · rw [List.getElem?_append_left (by omega)] at h
    exact (hk k q h).congr hkn ho
  · rw [List.getElem?_append_right (by omega)] at h
    have h1 := (List.getElem?_eq_some_iff.mp h).1
    have h2 : k - l0.length < 1 := h1
    obtain rfl : k = n := by omega
    rw [hl, Nat.sub_self] at h
    cases h
    exact h0
def ErT (t : TX) (mem mm : MEM) : Prop := ∃ σ n td, mm = tm mem σ n td ∧ n ≤ 40 ∧ ∀ l, txt t 80 0 = .inr l → n = l.length ∧ ∀ k q, l[k]? = some q → TDk td k q
theorem fErr_r {t : TX} {l : List CMD} (h : txt t 80 0 = .inr l) : fErr t = -6 := by
  show frr (txt t 80 0) = -6
  rw [h]; rfl
theorem i2c_ok : ∀ c, c < 127 → (((nI c).toUInt32 % 65536).toInt32 = nI c ∧ vp_nar .char (nI c) = nI c) := by decide +kernel
theorem RM.text {mem m : MEM} {a : AS} {t : TX} (h : RM mem a) (ho : ∀ id, id ≠ (17, 0, 0) → id ≠ (21, 0, 0) → id ≠ (22, 0, 0) → m id = mem id) (h2 : m (17, 0, 0) 2 = mem (17, 0, 0) 2) (h4 : m (17, 0, 0) 4 = mem (17, 0, 0) 4) (ht : RMt m t) : RM m (a.1, a.2.1, a.2.2.1, t) ∧ FrM mem m := by
  obtain ⟨h18, ⟨a1, a2, a3⟩, hk, -⟩ := h
  refine ⟨⟨by rw [ho _ (by decide) (by decide) (by decide)]; exact h18, ⟨a1, by rw [h2]; exact a2, fun i hi j hj => by rw [ho _ (by decide) (by decide) (by decide)]; exact a3 i hi j hj⟩, ?_, ht⟩, fun id hid => ho id (fun e => by rw [e] at hid; revert hid; decide) (fun e => by rw [e] at hid; revert hid; decide) (fun e => by rw [e] at hid; revert hid; decide)⟩
  revert hk
  show RMk mem a.2.2.1 → RMk m a.2.2.1
  cases a.2.2.1 with
  | none => intro hk; show m (17, 0, 0) 4 = 0; rw [h4]; exact hk
  | some y => intro hk; exact ⟨by rw [h4]; exact hk.1, fun j hj => by rw [ho _ (by decide) (by decide) (by decide)]; exact hk.2 j hj⟩
theorem RM.tm {mem : MEM} {a : AS} {σ : PSt} {n : Nat} {td : Nat → Int32} (h : RM mem a) : RM (tm mem σ n td) a ∧ FrM mem (Jvm.Pilot.@@N@@.tm mem σ n td) :=
  h.text (fun id h1 _ h3 => tm_o h1 h3) (tm_17 (by decide) (by decide) (by decide)) (tm_17 (by decide) (by decide) (by decide)) ⟨h.2.2.2.1, by rw [tm_17 (by decide) (by decide) (by decide)]; exact h.2.2.2.2.1, fun j hj => by rw [tm_o (by decide) (by decide)]; exact h.2.2.2.2.2 j hj⟩
theorem RM.MT {mem : MEM} {a : AS} (h : RM mem a) (ht : TOk a.2.2.2) : MT_ mem a.2.2.2 := ⟨h.2.2.2.1, h.2.2.2.2.1, h.2.2.2.2.2, ht⟩

set_option maxRecDepth 100000 in
set_option maxHeartbeats 4000000 in
theorem lp_X7_errorPosition {E : EV} {l : Launch} {X : CX} {mem : MEM} {t : TX} (hT : MT_ mem t) (C : CK E X RX7 cX7_errorPosition 2 (some .int) 5) (hX : EX E X l (fun rr mm => ∃ xx : Int32, rr = iv xx ∧ (xx = fErr t ∧ ErT t mem mm))) : ∀ (lpn : Nat) (n p : Nat) (td : Nat → Int32) (l0 : List CMD), t.1 + 1 - p < lpn → p ≤ t.1 → 3 * n ≤ p → frr (txt t (80 - n) p) = fErr t → (∀ l, txt t 80 0 = .inr l → ∃ l1, txt t (80 - n) p = .inr l1 ∧ l = l0 ++ l1) → l0.length = n → (∀ k q, l0[k]? = some q → TDk td k q) → G E X 2 18 [rv (17, 0, 0), iv (nI 1)] [] (tm mem (.inr p) n td) := by
  intro lpn
  induction lpn with
  | zero => intro n p td l0 hlpn; exact absurd hlpn (Nat.not_lt_zero _)
  | succ lpn ih =>
    intro n p td l0 hlpn hp hnp he hl hl0 hk
    have hn80 := hT.1
    refine e_iload_n C dX7_errorPosition_18 rfl ?_
    refine e_if_eq (tgt := 92) C dX7_errorPosition_19 (by decide) (fun h_19 => ?_) (fun h_19 => ?_)
    · skip
      exact absurd h_19 (by decide)
    · skip
      have nh_19 := xI_neD (a := 1) (b := 0) h_19
      refine e_aload_n C dX7_errorPosition_22 rfl ?_
      refine f_callVq2 (As := []) (ci := 7) C mi_yX7_readCommand mv_yX7_readCommand b_ml_X7_171 dX7_errorPosition_23 rfl (c_X7_readCommand hT (by omega) (by omega)) (by decide) v17 rfl rfl (Nat.le_of_ble_eq_true rfl) (fun e_23 d_23 hc_23 ho_23 => ?_) (fun e_23 q_23 d_23 hc_23 ho_23 ht_23 => ?_)
      · skip
        obtain ⟨f, hf⟩ : ∃ f, 80 - n = f + 1 := ⟨80 - n - 1, by omega⟩
        rw [hf] at he hl
        have hfe : fErr t = nI e_23 := by rw [← he, txt_l hc_23]; rfl
        have hel := cmd_el hc_23
        refine e_aload_n C dX7_errorPosition_26 rfl ?_
        refine e_geti C (ci := 7) 10 rfl rfl rfl (by decide) b_X7 rfl b_fl_X7_148 v17 rfl dX7_errorPosition_27 ?_
        refine f_val (y := nI (e_23)) tm_10 ?_
        refine e_bipush (v := -6) C dX7_errorPosition_30 (by decide) ?_
        refine e_icmp_ne (tgt := 50) C dX7_errorPosition_32 (by decide) (fun h_32 => ?_) (fun h_32 => ?_)
        · skip
          refine e_iconst (v := nI 0) C dX7_errorPosition_50 (by decide) ?_
          refine f_istore_n (ls1 := [_, _]) C dX7_errorPosition_51 (by decide) rfl ?_
          refine e_iload_n C dX7_errorPosition_52 rfl ?_
          refine e_if_eq (tgt := 18) C dX7_errorPosition_53 (by decide) (fun h_53 => ?_) (fun h_53 => ?_)
          · skip
            have nh_53 := xI_inj (a := 0) (b := 0) (by omega) (by omega) h_53
            refine e_iload_n C dX7_errorPosition_18 rfl ?_
            refine e_if_eq (tgt := 92) C dX7_errorPosition_19 (by decide) (fun h_19 => ?_) (fun h_19 => ?_)
            · skip
              have nh_19 := xI_inj (a := 0) (b := 0) (by omega) (by omega) h_19
              refine e_aload_n C dX7_errorPosition_92 rfl ?_
              refine e_geti C (ci := 7) 10 rfl rfl rfl (by decide) b_X7 rfl b_fl_X7_148 v17 rfl dX7_errorPosition_93 ?_
              refine f_val (y := nI e_23) tm_10 ?_
              exact f_ii C hX dX7_errorPosition_96 ⟨hfe.symm, _, _, _, rfl, by omega, fun l hq => absurd ((fErr_r hq).symm.trans hfe).symm (nI_neN (by omega) (by decide))⟩
            · skip
              exact absurd (by decide) h_19
          · skip
            exact absurd (by decide) h_53
        · skip
          exact absurd h_32 (nI_neN (by omega) (by decide))
      · skip
        obtain ⟨f, hf⟩ : ∃ f, 80 - n = f + 1 := ⟨80 - n - 1, by omega⟩
        rw [hf] at he hl
        have hcl := cmd_l hc_23
        refine e_aload_n C dX7_errorPosition_26 rfl ?_
        refine e_geti C (ci := 7) 10 rfl rfl rfl (by decide) b_X7 rfl b_fl_X7_148 v17 rfl dX7_errorPosition_27 ?_
        refine f_val (y := -6) tm_10 ?_
        refine e_bipush (v := -6) C dX7_errorPosition_30 (by decide) ?_
        refine e_icmp_ne (tgt := 50) C dX7_errorPosition_32 (by decide) (fun h_32 => ?_) (fun h_32 => ?_)
        · skip
          exact absurd h_32 (by decide)
        · skip
          refine e_aload_n C dX7_errorPosition_35 rfl ?_
          refine e_geti C (ci := 7) 9 rfl rfl rfl (by decide) b_X7 rfl b_fl_X7_145 v17 rfl dX7_errorPosition_36 ?_
          refine f_val (y := nI (e_23)) tm_9 ?_
          refine e_aload_n C dX7_errorPosition_39 rfl ?_
          refine e_geti C (ci := 7) 6 rfl rfl rfl (by decide) b_X7 rfl b_fl_X7_142 v17 rfl dX7_errorPosition_40 ?_
          refine f_val (y := nI (t.1)) (by rw [tm_17 (by decide) (by decide) (by decide)]; exact hT.2.1) ?_
          refine e_icmp_ge (tgt := 50) C dX7_errorPosition_43 (by decide) (fun h_43 => ?_) (fun h_43 => ?_)
          · skip
            have nh_43 := xI_leD (by omega) (by omega) h_43
            refine e_iconst (v := nI 0) C dX7_errorPosition_50 (by decide) ?_
            refine f_istore_n (ls1 := [_, _]) C dX7_errorPosition_51 (by decide) rfl ?_
            refine e_iload_n C dX7_errorPosition_52 rfl ?_
            refine e_if_eq (tgt := 18) C dX7_errorPosition_53 (by decide) (fun h_53 => ?_) (fun h_53 => ?_)
            · skip
              have nh_53 := xI_inj (a := 0) (b := 0) (by omega) (by omega) h_53
              refine e_iload_n C dX7_errorPosition_18 rfl ?_
              refine e_if_eq (tgt := 92) C dX7_errorPosition_19 (by decide) (fun h_19 => ?_) (fun h_19 => ?_)
              · skip
                have nh_19 := xI_inj (a := 0) (b := 0) (by omega) (by omega) h_19
                refine e_aload_n C dX7_errorPosition_92 rfl ?_
                refine e_geti C (ci := 7) 10 rfl rfl rfl (by decide) b_X7 rfl b_fl_X7_148 v17 rfl dX7_errorPosition_93 ?_
                have hee : e_23 = t.1 := by omega
                have hgd : ∀ l, txt t 80 0 = .inr l → n + 1 = l.length ∧ ∀ k q, l[k]? = some q → TDk d_23 k q := fun l hq => by
                  obtain ⟨l1, h1, h2⟩ := hl l hq
                  rw [txt_e hc_23 hee] at h1
                  cases h1
                  subst h2
                  exact ⟨by rw [List.length_append, hl0]; rfl, TD_app hk hl0 ho_23 ht_23⟩
                refine f_val (y := -6) tm_10 ?_
                exact f_ii C hX dX7_errorPosition_96 ⟨by rw [← he, txt_e hc_23 hee]; rfl, _, _, _, rfl, by omega, hgd⟩
              · skip
                exact absurd (by decide) h_19
            · skip
              exact absurd (by decide) h_53
          · skip
            have nh_43 := xI_nleD (by omega) (by omega) h_43
            refine e_iconst (v := nI 1) C dX7_errorPosition_46 (by decide) ?_
            refine e_goto (tgt := 51) C dX7_errorPosition_47 (by decide) ?_
            refine f_istore_n (ls1 := [_, _]) C dX7_errorPosition_51 (by decide) rfl ?_
            refine e_iload_n C dX7_errorPosition_52 rfl ?_
            refine e_if_eq (tgt := 18) C dX7_errorPosition_53 (by decide) (fun h_53 => ?_) (fun h_53 => ?_)
            · skip
              exact absurd h_53 (by decide)
            · skip
              have nh_53 := xI_neD (a := 1) (b := 0) h_53
              refine e_aload_n C dX7_errorPosition_56 rfl ?_
              refine e_aload_n C dX7_errorPosition_57 rfl ?_
              refine f_callVr (As := []) (ci := 7) C mi_yX7_letter mv_yX7_letter b_ml_X7_151 dX7_errorPosition_58 rfl (c_X7_letter hT (b := 100) (by decide) (show e_23 ≤ 100 by omega)) (by decide) v17 rfl rfl (Nat.le_of_ble_eq_true rfl) ?_
              refine e_bipush (v := nI 59) C dX7_errorPosition_61 (by decide) ?_
              refine e_icmp_ne (tgt := 70) C dX7_errorPosition_63 (by decide) (fun h_63 => ?_) (fun h_63 => ?_)
              · skip
                refine e_iconst (v := nI 0) C dX7_errorPosition_70 (by decide) ?_
                refine f_val (b2i_0 (fun q => h_63 ((ltr_c (by decide) (by decide)).mpr q))) ?_
                have hs9 : ¬ chc t e_23 = nI 59 := fun q => h_63 ((ltr_c (by decide) (by decide)).mpr q)
                refine f_callVv (As := [_]) (ci := 7) C mi_yX7_wants mv_yX7_wants b_ml_X7_155 dX7_errorPosition_71 rfl (c_X7_wants (σ := .inr e_23) (b := 100) (by decide) (show e_23 ≤ 100 by omega)) (by decide) v17 rfl rfl (Nat.le_of_ble_eq_true rfl) ?_
                refine e_mem (m' := tm mem (.inl e_23) (n + 1) d_23) (EqV.of (congrArg (fun s => tm mem s (n + 1) d_23) (show wnt (.inr e_23) (chc t e_23 = nI 59) = (.inl e_23 : PSt) from cif_neg hs9))) ?_
                have hfe : fErr t = nI e_23 := by rw [← he, txt_n hc_23 (by omega) hs9]; rfl
                refine e_aload_n C dX7_errorPosition_74 rfl ?_
                refine e_geti C (ci := 7) 10 rfl rfl rfl (by decide) b_X7 rfl b_fl_X7_148 v17 rfl dX7_errorPosition_75 ?_
                refine f_val (y := nI (e_23)) tm_10 ?_
                refine e_bipush (v := -6) C dX7_errorPosition_78 (by decide) ?_
                refine e_icmp_ne (tgt := 87) C dX7_errorPosition_80 (by decide) (fun h_80 => ?_) (fun h_80 => ?_)
                · skip
                  refine e_iconst (v := nI 0) C dX7_errorPosition_87 (by decide) ?_
                  refine f_istore_n (ls1 := [_, _]) C dX7_errorPosition_88 (by decide) rfl ?_
                  refine e_goto (tgt := 18) C dX7_errorPosition_89 (by decide) ?_
                  refine e_iload_n C dX7_errorPosition_18 rfl ?_
                  refine e_if_eq (tgt := 92) C dX7_errorPosition_19 (by decide) (fun h_19 => ?_) (fun h_19 => ?_)
                  · skip
                    have nh_19 := xI_inj (a := 0) (b := 0) (by omega) (by omega) h_19
                    refine e_aload_n C dX7_errorPosition_92 rfl ?_
                    refine e_geti C (ci := 7) 10 rfl rfl rfl (by decide) b_X7 rfl b_fl_X7_148 v17 rfl dX7_errorPosition_93 ?_
                    refine f_val (y := nI e_23) tm_10 ?_
                    exact f_ii C hX dX7_errorPosition_96 ⟨hfe.symm, _, _, _, rfl, by omega, fun l hq => absurd ((fErr_r hq).symm.trans hfe).symm (nI_neN (by omega) (by decide))⟩
                  · skip
                    exact absurd (by decide) h_19
                · skip
                  exact absurd h_80 (nI_neN (by omega) (by decide))
              · skip
                refine e_iconst (v := nI 1) C dX7_errorPosition_66 (by decide) ?_
                refine e_goto (tgt := 71) C dX7_errorPosition_67 (by decide) ?_
                refine f_val (b2i_1 ((ltr_c (by decide) (by decide)).mp h_63)) ?_
                have hs9 : chc t e_23 = nI 59 := (ltr_c (by decide) (by decide)).mp h_63
                refine f_callVv (As := [_]) (ci := 7) C mi_yX7_wants mv_yX7_wants b_ml_X7_155 dX7_errorPosition_71 rfl (c_X7_wants (σ := .inr e_23) (b := 100) (by decide) (show e_23 ≤ 100 by omega)) (by decide) v17 rfl rfl (Nat.le_of_ble_eq_true rfl) ?_
                refine e_mem (m' := tm mem (.inr (e_23 + 1)) (n + 1) d_23) (EqV.of (congrArg (fun s => tm mem s (n + 1) d_23) (show wnt (.inr e_23) (chc t e_23 = nI 59) = (.inr (e_23 + 1) : PSt) from cif_pos hs9))) ?_
                refine e_aload_n C dX7_errorPosition_74 rfl ?_
                refine e_geti C (ci := 7) 10 rfl rfl rfl (by decide) b_X7 rfl b_fl_X7_148 v17 rfl dX7_errorPosition_75 ?_
                refine f_val (y := -6) tm_10 ?_
                refine e_bipush (v := -6) C dX7_errorPosition_78 (by decide) ?_
                refine e_icmp_ne (tgt := 87) C dX7_errorPosition_80 (by decide) (fun h_80 => ?_) (fun h_80 => ?_)
                · skip
                  exact absurd h_80 (by decide)
                · skip
                  refine e_iconst (v := nI 1) C dX7_errorPosition_83 (by decide) ?_
                  refine e_goto (tgt := 88) C dX7_errorPosition_84 (by decide) ?_
                  refine f_istore_n (ls1 := [_, _]) C dX7_errorPosition_88 (by decide) rfl ?_
                  refine e_goto (tgt := 18) C dX7_errorPosition_89 (by decide) ?_
                  exact ih (n + 1) (e_23 + 1) d_23 (l0 ++ [q_23]) (by omega) (by omega) (by omega) (by rw [show 80 - (n + 1) = f by omega, ← frr_s hc_23 (by omega) hs9]; exact he) (fun l hq => by
                    obtain ⟨l1, h1, h2⟩ := hl l hq
                    rw [txt_s hc_23 (by omega) hs9] at h1
                    cases h3 : txt t f (e_23 + 1) with
                    | inl x => rw [h3] at h1; cases h1
                    | inr y =>
                      rw [h3] at h1
                      cases h1
                      exact ⟨y, by rw [show 80 - (n + 1) = f by omega]; exact h3, by rw [h2, List.append_assoc]; rfl⟩) (by rw [List.length_append, hl0]; rfl) (TD_app hk hl0 ho_23 ht_23)
set_option maxRecDepth 100000 in
set_option maxHeartbeats 4000000 in
theorem c_X7_errorPosition {E : EV} {l : Launch} {mem : MEM} {t : TX} (hT : MT_ mem t) : Ct E l yX7_errorPosition (me_ws yX7_errorPosition cX7_errorPosition 2 (some .int)) 5 [rv (17, 0, 0)] mem (fun rr mm => ∃ xx : Int32, rr = iv xx ∧ (xx = fErr t ∧ ErT t mem mm)) := by
  have hn80 := hT.1
  refine Ct.of (RC := RX7) (ls0 := [rv (17, 0, 0), uv]) mi_yX7_errorPosition (Nat.le_of_ble_eq_true rfl) rfl (fun X C hX => ?_)
  refine e_aload_n C dX7_errorPosition_0 rfl ?_
  refine e_iconst (v := nI 0) C dX7_errorPosition_1 (by decide) ?_
  refine e_puti C (ci := 7) 8 rfl rfl rfl (by decide) b_X7 rfl b_fl_X7_162 v17 tyX7 tyX7_ok nmX7 rfl (.inl ⟨rfl, rfl⟩) rfl dX7_errorPosition_2 ?_
  refine e_aload_n C dX7_errorPosition_5 rfl ?_
  refine e_iconst (v := nI 0) C dX7_errorPosition_6 (by decide) ?_
  refine e_puti C (ci := 7) 9 rfl rfl rfl (by decide) b_X7 rfl b_fl_X7_145 v17 tyX7 tyX7_ok nmX7 rfl (.inl ⟨rfl, rfl⟩) rfl dX7_errorPosition_7 ?_
  refine e_aload_n C dX7_errorPosition_10 rfl ?_
  refine e_bipush (v := -6) C dX7_errorPosition_11 (by decide) ?_
  refine e_puti C (ci := 7) 10 rfl rfl rfl (by decide) b_X7 rfl b_fl_X7_148 v17 tyX7 tyX7_ok nmX7 rfl (.inl ⟨rfl, rfl⟩) rfl dX7_errorPosition_13 ?_
  refine e_mem (EqV.of tm_init) ?_
  refine e_iconst (v := nI 1) C dX7_errorPosition_16 (by decide) ?_
  refine f_istore_n (ls1 := [_, _]) C dX7_errorPosition_17 (by decide) rfl ?_
  exact lp_X7_errorPosition hT C hX (t.1 + 2) 0 0 _ [] (by omega) (Nat.zero_le _) (Nat.zero_le _) rfl (fun l hq => ⟨l, hq, rfl⟩) rfl (fun k q h => by simp at h)
set_option maxRecDepth 100000 in
set_option maxHeartbeats 4000000 in
theorem c_X7_append {E : EV} {l : Launch} {mem : MEM} {a : AS} (hM : RM mem a) {x : Int32} : Ct E l yX7_append (me_ws yX7_append cX7_append 2 (some .int)) 2 [rv (17, 0, 0), iv x] mem (fun rr mm => ∃ xx : Int32, rr = iv xx ∧ PoM mem ((apA a x).2) ((apA a x).1) xx mm) := by
  have ht := hM.2.2.2
  have ht80 := ht.1
  refine Ct.of (RC := RX7) (ls0 := [rv (17, 0, 0), iv x]) mi_yX7_append (Nat.le_of_ble_eq_true rfl) rfl (fun X C hX => ?_)
  refine e_iload_n C dX7_append_0 rfl ?_
  refine e_bipush (v := nI 33) C dX7_append_1 (by decide) ?_
  refine e_bipush (v := nI 126) C dX7_append_3 (by decide) ?_
  refine f_callSr (As := [_, _, _]) C mi_yX7_in b_st_yX7_in b_ml_X7_26 dX7_append_5 rfl c_X7_in (by decide) (Nat.le_of_ble_eq_true rfl) ?_
  refine f_if_ne (tgt := 14) C dX7_append_8 (by decide) (fun h_8 => ?_) (fun h_8 => ?_)
  · skip
    refine e_aload_n C dX7_append_14 rfl ?_
    refine e_geti C (ci := 7) 6 rfl rfl rfl (by decide) b_X7 rfl b_fl_X7_142 v17 rfl dX7_append_15 ?_
    refine f_val (y := nI (a.2.2.2.1)) (by first | exact ht.2.1 | (simp [up]; exact ht.2.1)) ?_
    refine e_bipush (v := nI 80) C dX7_append_18 (by decide) ?_
    refine e_icmp_ne (tgt := 26) C dX7_append_20 (by decide) (fun h_20 => ?_) (fun h_20 => ?_)
    · skip
      have nh_20 := xI_neD h_20
      have hx8 := h_8
      obtain ⟨c, hc, rfl⟩ := xI_le_of (Int32.le_trans (by decide) h_8.1 : (0 : Int32) ≤ x) h_8.2 (by decide)
      refine e_aload_n C dX7_append_26 rfl ?_
      refine e_getr C (ci := 7) 5 rfl rfl rfl (by decide) b_X7 rfl b_fl_X7_19 v17 rfl dX7_append_27 ?_
      refine e_aload_n C dX7_append_30 rfl ?_
      refine e_geti C (ci := 7) 6 rfl rfl rfl (by decide) b_X7 rfl b_fl_X7_142 v17 rfl dX7_append_31 ?_
      refine f_val (y := nI (a.2.2.2.1)) (by first | exact ht.2.1 | (simp [up]; exact ht.2.1)) ?_
      refine e_iload_n C dX7_append_34 rfl ?_
      refine e_i2c C dX7_append_35 ?_
      refine f_val (y := nI (c)) (i2c_ok c (by omega)).1 ?_
      refine f_cast C rfl v21 (by omega) (by decide) (i2c_ok c (by omega)).2 dX7_append_36 ?_
      refine e_aload_n C dX7_append_37 rfl ?_
      refine e_dup C dX7_append_38 ?_
      refine e_geti C (ci := 7) 6 rfl rfl rfl (by decide) b_X7 rfl b_fl_X7_142 v17 rfl dX7_append_39 ?_
      refine f_val (y := nI (a.2.2.2.1)) (by first | exact ht.2.1 | (simp [up]; exact ht.2.1)) ?_
      refine e_iconst (v := nI 1) C dX7_append_42 (by decide) ?_
      refine f_iaddn C dX7_append_43 ?_
      refine e_puti C (ci := 7) 6 rfl rfl rfl (by decide) b_X7 rfl b_fl_X7_142 v17 tyX7 tyX7_ok nmX7 rfl (.inl ⟨rfl, rfl⟩) rfl dX7_append_44 ?_
      refine e_aload_n C dX7_append_47 rfl ?_
      refine e_geti C (ci := 7) 6 rfl rfl rfl (by decide) b_X7 rfl b_fl_X7_142 v17 rfl dX7_append_48 ?_
      refine f_val (y := nI (a.2.2.2.1 + 1)) (by simp [up]) ?_
      have hq := hM.text (m := up (up mem (21, 0, 0) a.2.2.2.1 (nI c)) (17, 0, 0) 6 (nI (a.2.2.2.1 + 1))) (t := (a.2.2.2.1 + 1, upd a.2.2.2.2 a.2.2.2.1 (nI c))) (fun id h1 h2 _ => by funext b; simp [up, h1, h2]) (by simp [up]) (by simp [up]) ⟨by show a.2.2.2.1 + 1 ≤ 80; omega, by simp [up], fun j hj => by
        have hj : j < a.2.2.2.1 + 1 := hj
        show _ = upd a.2.2.2.2 a.2.2.2.1 (nI c) j
        by_cases e : j = a.2.2.2.1
        · subst e; simp [up, upd]
        · have h3 := ht.2.2 j (by omega); simp [up, upd, e]; exact h3⟩
      exact f_ii C hX dX7_append_51 ⟨by rw [apA, cif_pos hx8, if_neg nh_20], by rw [apA, cif_pos hx8, if_neg nh_20]; exact hq.1, hq.2⟩
    · skip
      have nh_20 := xI_inj (by omega) (by omega) h_20
      refine e_bipush (v := -4) C dX7_append_23 (by decide) ?_
      exact f_ii C hX dX7_append_25 ⟨by rw [apA, cif_pos h_8, if_pos nh_20], by rw [apA, cif_pos h_8, if_pos nh_20]; exact hM, FrM.rfl'⟩
  · skip
    refine e_bipush (v := -2) C dX7_append_11 (by decide) ?_
    exact f_ii C hX dX7_append_13 ⟨by rw [apA, cif_neg h_8], by rw [apA, cif_neg h_8]; exact hM, FrM.rfl'⟩
set_option maxRecDepth 100000 in
set_option maxHeartbeats 4000000 in
theorem c_X7_clearText {E : EV} {l : Launch} {mem : MEM} {a : AS} (hM : RM mem a) : Ct E l yX7_clearText (me_ws yX7_clearText cX7_clearText 2 (some .int)) 1 [rv (17, 0, 0)] mem (fun rr mm => ∃ xx : Int32, rr = iv xx ∧ PoM mem ((clA a).2) ((clA a).1) xx mm) := by
  refine Ct.of (RC := RX7) (ls0 := [rv (17, 0, 0), uv]) mi_yX7_clearText (Nat.le_of_ble_eq_true rfl) rfl (fun X C hX => ?_)
  refine e_aload_n C dX7_clearText_0 rfl ?_
  refine e_geti C (ci := 7) 6 rfl rfl rfl (by decide) b_X7 rfl b_fl_X7_142 v17 rfl dX7_clearText_1 ?_
  refine f_val (y := nI (a.2.2.2.1)) hM.2.2.2.2.1 ?_
  refine f_istore_n (ls1 := [_, _]) C dX7_clearText_4 (by decide) rfl ?_
  refine e_aload_n C dX7_clearText_5 rfl ?_
  refine e_iconst (v := nI 0) C dX7_clearText_6 (by decide) ?_
  refine e_puti C (ci := 7) 6 rfl rfl rfl (by decide) b_X7 rfl b_fl_X7_142 v17 tyX7 tyX7_ok nmX7 rfl (.inl ⟨rfl, rfl⟩) rfl dX7_clearText_7 ?_
  refine e_iload_n C dX7_clearText_10 rfl ?_
  have hq := hM.text (m := up mem (17, 0, 0) 6 (nI 0)) (t := (0, a.2.2.2.2)) (fun id h1 h2 _ => by funext b; simp [up, h1]) (by simp [up]) (by simp [up]) ⟨by show 0 ≤ 80; omega, by simp [up], fun j hj => absurd hj (Nat.not_lt_zero j)⟩
  exact f_ii C hX dX7_clearText_11 ⟨rfl, hq.1, hq.2⟩
