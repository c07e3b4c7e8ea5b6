/-! ===== the class's execute, whole ===== -/
theorem bnd_e {α β : Type} {x : Nat ⊕ α} {f : α → Nat ⊕ β} {e : Nat} (h : bnd x f = .inl e) : x = .inl e ∨ ∃ a, x = .inr a ∧ f a = .inl e := by
  cases x with
  | inl e2 => rw [bnd_l] at h; cases h; exact Or.inl rfl
  | inr a => exact Or.inr ⟨a, rfl, h⟩
theorem pD_e {t : TX} {i e : Nat} (h : pD t i = .inl e) : e = i := by
  unfold pD at h
  by_cases hc : isD (chc t i)
  · rw [cif_pos hc] at h; cases h
  · rw [cif_neg hc] at h; cases h; rfl
theorem pN_e {t : TX} {i e : Nat} (h : pN t i = .inl e) : e = i := by
  unfold pN at h
  by_cases hc : isD (chc t i)
  · rw [cif_pos hc] at h; cases h
  · rw [cif_neg hc] at h; cases h; rfl
theorem pP_e {t : TX} {i e : Nat} (h : pP t i = .inl e) : e = i := by
  unfold pP at h
  by_cases hc : isPl (chc t i)
  · rw [cif_pos hc] at h; cases h
  · rw [cif_neg hc] at h; cases h; rfl
theorem sgn_e {t : TX} {s : Int32} {i e : Nat} (h : sgn t s i = .inl e) : e = i := by
  unfold sgn at h
  by_cases hc : chc t i = s
  · rw [cif_pos hc] at h; cases h
  · rw [cif_neg hc] at h; cases h; rfl
theorem sgn_l {t : TX} {s : Int32} {i a : Nat} (hs : ¬ s = nI 0) (h : sgn t s i = .inr a) : a ≤ t.1 := by
  obtain ⟨h1, rfl⟩ := sgn_i h
  exact chc_in (fun e => hs (by rw [← h1]; exact e))
theorem cmd_el {t : TX} {i e : Nat} (h : cmd t i = .inl e) : e ≤ i + 1 ∨ e ≤ t.1 := by
  by_cases hw : chc t i = nI 119
  · rw [cmd_w hw] at h
    rcases bnd_e h with q | ⟨a, ea, h⟩
    · have := pD_e q; omega
    · have la := pDl ea
      rcases bnd_e h with q | ⟨j, ej, h⟩
      · have := sgn_e q; omega
      · have lj := sgn_l (by decide) ej
        rcases bnd_e h with q | ⟨b, eb, h⟩
        · have := pN_e q; omega
        · have lb := pNl eb
          rcases bnd_e h with q | ⟨j2, ej2, h⟩
          · have := sgn_e q; omega
          · have lj2 := sgn_l (by decide) ej2
            rcases bnd_e h with q | ⟨c, ec, h⟩
            · have := pN_e q; omega
            · have lc := pNl ec
              cases h
  · skip
    by_cases hr : chc t i = nI 114
    · rw [cmd_r hr] at h
      rcases bnd_e h with q | ⟨a, ea, h⟩
      · have := pD_e q; omega
      · have la := pDl ea
        rcases bnd_e h with q | ⟨j, ej, h⟩
        · have := sgn_e q; omega
        · have lj := sgn_l (by decide) ej
          rcases bnd_e h with q | ⟨b, eb, h⟩
          · have := pN_e q; omega
          · have lb := pNl eb
            cases h
    · skip
      by_cases ht : chc t i = nI 116
      · rw [cmd_t ht] at h
        rcases bnd_e h with q | ⟨a, ea, h⟩
        · have := pN_e q; omega
        · have la := pNl ea
          cases h
      · skip
        by_cases hm : chc t i = nI 109
        · rw [cmd_m hm] at h
          rcases bnd_e h with q | ⟨a, ea, h⟩
          · have := pD_e q; omega
          · have la := pDl ea
            rcases bnd_e h with q | ⟨j, ej, h⟩
            · have := sgn_e q; omega
            · have lj := sgn_l (by decide) ej
              rcases bnd_e h with q | ⟨b, eb, h⟩
              · have := pP_e q; omega
              · have lb := pPl eb
                cases h
        · skip
          by_cases hh : chc t i = nI 104
          · rw [cmd_h hh] at h
            rcases bnd_e h with q | ⟨a, ea, h⟩
            · have := pD_e q; omega
            · have la := pDl ea
              rcases bnd_e h with q | ⟨j, ej, h⟩
              · have := sgn_e q; omega
              · have lj := sgn_l (by decide) ej
                rcases bnd_e h with q | ⟨b, eb, h⟩
                · have := pD_e q; omega
                · have lb := pDl eb
                  cases h
          · skip
            by_cases hj : chc t i = nI 106
            · rw [cmd_j hj] at h
              rcases bnd_e h with q | ⟨a, ea, h⟩
              · have := pD_e q; omega
              · have la := pDl ea
                rcases bnd_e h with q | ⟨j, ej, h⟩
                · have := sgn_e q; omega
                · have lj := sgn_l (by decide) ej
                  rcases bnd_e h with q | ⟨b, eb, h⟩
                  · have := pN_e q; omega
                  · have lb := pNl eb
                    cases h
            · skip
              rw [cmd_o hw hr ht hm hh hj] at h
              cases h
              omega
theorem txt_el {t : TX} : ∀ (k i e : Nat), i ≤ t.1 + 1 → txt t k i = .inl e → e ≤ t.1 + 2
  | 0, i, e, hi, h => by rw [txt] at h; cases h; omega
  | k + 1, i, e, hi, h => by
    cases hc : cmd t i with
    | inl x =>
      rw [txt_l hc] at h
      cases h
      have := cmd_el hc
      omega
    | inr y =>
      obtain ⟨e2, q⟩ := y
      have hl := cmd_l hc
      by_cases he : e2 = t.1
      · rw [txt_e hc he] at h; cases h
      · by_cases hs : chc t e2 = nI 59
        · rw [txt_s hc he hs] at h
          cases h2 : txt t k (e2 + 1) with
          | inl x =>
            rw [h2] at h
            cases h
            exact txt_el k (e2 + 1) _ (by omega) h2
          | inr l => rw [h2] at h; cases h
        · rw [txt_n hc he hs] at h; cases h; omega
theorem c_X6_execA {E : EV} {l : Launch} {mem : MEM} {a : AS} (hR : RC mem a) (hG : Good a.1) : Ct E l yX6_execute (me_ws yX6_execute cX6_execute 2 (some .int)) 9 [rv (0, 0, 0)] mem (fun rr mm => ∃ xx : Int32, rr = iv xx ∧ PoC mem ((exA a).2) ((exA a).1) xx mm) := by
  cases hx : txt a.2.2.2 80 0 with
  | inl e => exact c_X6_execute_e hR hx (by have := txt_el 80 0 e (Nat.zero_le _) hx; have := hR.2.2.2.1; omega)
  | inr l0 => exact c_X6_execute hR hG hx
