/-! ===== texts: what a buffer says ===== -/
def chc (t : TX) (i : Nat) : Int32 := if i < t.1 then t.2 i else nI 0
def ltr (t : TX) (i : Nat) : Int32 := if i < t.1 then t.2 i else -6
def isD (x : Int32) : Prop := nI 48 ≤ x ∧ x ≤ nI 57
def isPl (x : Int32) : Prop := (nI 48 ≤ x ∧ x ≤ nI 52) ∨ x = nI 112
def dv (t : TX) (i : Nat) : Nat := nt (chc t i) - 48
noncomputable def plv (t : TX) (i : Nat) : Nat := cif (chc t i = nI 112) 9 (dv t i)
noncomputable def nul (t : TX) : Nat → Nat → Nat → Nat × Nat
  | 0, i, v => (i, v)
  | k + 1, i, v => cif (0 < v ∧ isD (chc t i)) (nul t k (i + 1) (10 * v + dv t i)) (i, v)
def bnd {α β : Type} (x : Nat ⊕ α) (f : α → Nat ⊕ β) : Nat ⊕ β := match x with
  | .inl e => .inl e
  | .inr a => f a
theorem bnd_l {α β : Type} {e : Nat} {f : α → Nat ⊕ β} : bnd (.inl e) f = .inl e := rfl
theorem bnd_r {α β : Type} {a : α} {f : α → Nat ⊕ β} : bnd (.inr a) f = f a := rfl
noncomputable def sgn (t : TX) (s : Int32) (i : Nat) : Nat ⊕ Nat := cif (chc t i = s) (.inr (i + 1)) (.inl i)
noncomputable def pD (t : TX) (i : Nat) : Nat ⊕ (Nat × Nat) := cif (isD (chc t i)) (.inr (i + 1, dv t i)) (.inl i)
noncomputable def pN (t : TX) (i : Nat) : Nat ⊕ (Nat × Nat) := cif (isD (chc t i)) (.inr (nul t 2 (i + 1) (dv t i))) (.inl i)
noncomputable def pP (t : TX) (i : Nat) : Nat ⊕ (Nat × Nat) := cif (isPl (chc t i)) (.inr (i + 1, plv t i)) (.inl i)
abbrev CMD : Type := Nat × Nat × Nat × Nat
abbrev CR : Type := Nat ⊕ (Nat × CMD)
noncomputable def pw (t : TX) (i : Nat) : CR := bnd (pD t (i + 1)) fun a => bnd (sgn t (nI 58) a.1) fun j => bnd (pN t j) fun b => bnd (sgn t (nI 61) b.1) fun j2 => bnd (pN t j2) fun c => .inr (c.1, 119, a.2, b.2, c.2)
noncomputable def pr (t : TX) (i : Nat) : CR := bnd (pD t (i + 1)) fun a => bnd (sgn t (nI 58) a.1) fun j => bnd (pN t j) fun b => .inr (b.1, 114, a.2, b.2, 0)
noncomputable def pt (t : TX) (i : Nat) : CR := bnd (pN t (i + 1)) fun a => .inr (a.1, 116, a.2, 0, 0)
noncomputable def pm (t : TX) (i : Nat) : CR := bnd (pD t (i + 1)) fun a => bnd (sgn t (nI 62) a.1) fun j => bnd (pP t j) fun b => .inr (b.1, 109, a.2, b.2, 0)
noncomputable def ph (t : TX) (i : Nat) : CR := bnd (pD t (i + 1)) fun a => bnd (sgn t (nI 62) a.1) fun j => bnd (pD t j) fun b => .inr (b.1, 104, a.2, b.2, 0)
noncomputable def pj (t : TX) (i : Nat) : CR := bnd (pD t (i + 1)) fun a => bnd (sgn t (nI 64) a.1) fun j => bnd (pN t j) fun b => .inr (b.1, 106, a.2, b.2, 0)
noncomputable def cmd (t : TX) (i : Nat) : CR := cif (chc t i = nI 119) (pw t i) (cif (chc t i = nI 114) (pr t i) (cif (chc t i = nI 116) (pt t i) (cif (chc t i = nI 109) (pm t i) (cif (chc t i = nI 104) (ph t i) (cif (chc t i = nI 106) (pj t i) (.inl i))))))
theorem cmd_w {t : TX} {i : Nat} (h : chc t i = nI 119) : cmd t i = pw t i := by
  unfold cmd
  rw [cif_pos h]
theorem cmd_r {t : TX} {i : Nat} (h : chc t i = nI 114) : cmd t i = pr t i := by
  unfold cmd
  rw [cif_neg (by rw [h]; decide), cif_pos h]
theorem cmd_t {t : TX} {i : Nat} (h : chc t i = nI 116) : cmd t i = pt t i := by
  unfold cmd
  rw [cif_neg (by rw [h]; decide), cif_neg (by rw [h]; decide), cif_pos h]
theorem cmd_m {t : TX} {i : Nat} (h : chc t i = nI 109) : cmd t i = pm t i := by
  unfold cmd
  rw [cif_neg (by rw [h]; decide), cif_neg (by rw [h]; decide), cif_neg (by rw [h]; decide), cif_pos h]
theorem cmd_h {t : TX} {i : Nat} (h : chc t i = nI 104) : cmd t i = ph t i := by
  unfold cmd
  rw [cif_neg (by rw [h]; decide), cif_neg (by rw [h]; decide), cif_neg (by rw [h]; decide), cif_neg (by rw [h]; decide), cif_pos h]
theorem cmd_j {t : TX} {i : Nat} (h : chc t i = nI 106) : cmd t i = pj t i := by
  unfold cmd
  rw [cif_neg (by rw [h]; decide), cif_neg (by rw [h]; decide), cif_neg (by rw [h]; decide), cif_neg (by rw [h]; decide), cif_neg (by rw [h]; decide), cif_pos h]
theorem cmd_o {t : TX} {i : Nat} (h1 : ¬ chc t i = nI 119) (h2 : ¬ chc t i = nI 114) (h3 : ¬ chc t i = nI 116) (h4 : ¬ chc t i = nI 109) (h5 : ¬ chc t i = nI 104) (h6 : ¬ chc t i = nI 106) : cmd t i = .inl i := by
  unfold cmd
  rw [cif_neg h1, cif_neg h2, cif_neg h3, cif_neg h4, cif_neg h5, cif_neg h6]
theorem chc_in {t : TX} {i : Nat} (h : ¬ chc t i = nI 0) : i < t.1 := by
  unfold chc at h
  by_cases hi : i < t.1
  · exact hi
  · rw [if_neg hi] at h; exact absurd rfl h
theorem chc_end {t : TX} : chc t t.1 = nI 0 := by
  unfold chc
  rw [if_neg (Nat.lt_irrefl _)]
theorem isD_n0 {x : Int32} (h : isD x) : ¬ x = nI 0 := fun e => by
  have := h.1
  rw [e] at this
  exact absurd this (by decide)
theorem isD_nat {x : Int32} (h : isD x) : ∃ c, 48 ≤ c ∧ c ≤ 57 ∧ x = nI c := by
  obtain ⟨n, hn, rfl⟩ := xI_le_of (x := x) (N := 57) (Int32.le_trans (by decide) h.1) h.2 (by decide)
  have := xI_leD (by decide) (by omega) h.1
  exact ⟨n, this, hn, rfl⟩
theorem dv_le {t : TX} {i : Nat} (h : isD (chc t i)) : dv t i ≤ 9 := by
  obtain ⟨c, h1, h2, e⟩ := isD_nat h
  unfold dv
  rw [e, nt_nI (by omega)]
  omega
theorem chc_dv {t : TX} {i : Nat} (h : isD (chc t i)) : chc t i = nI (dv t i + 48) := by
  obtain ⟨c, h1, h2, e⟩ := isD_nat h
  unfold dv
  rw [e, nt_nI (by omega)]
  congr 1
  omega
theorem isPl_nat {x : Int32} (h : nI 48 ≤ x ∧ x ≤ nI 52) : isD x := ⟨h.1, Int32.le_trans h.2 (by decide)⟩
theorem isPl_n0 {x : Int32} (h : isPl x) : ¬ x = nI 0 := by
  rcases h with h | h
  · exact isD_n0 (isPl_nat h)
  · rw [h]; decide
theorem nul_le (t : TX) : ∀ (k i v : Nat), (nul t k i v).1 ≤ i + k
  | 0, i, v => Nat.le_refl i
  | k + 1, i, v => by
    unfold nul cif
    split
    · have := nul_le t k (i + 1) (10 * v + dv t i); omega
    · show i ≤ i + (k + 1); omega
theorem nul_ge (t : TX) : ∀ (k i v : Nat), i ≤ (nul t k i v).1
  | 0, i, v => Nat.le_refl i
  | k + 1, i, v => by
    unfold nul cif
    split
    · have := nul_ge t k (i + 1) (10 * v + dv t i); omega
    · exact Nat.le_refl i
theorem nul_in {t : TX} : ∀ (k i v : Nat), i ≤ t.1 → (nul t k i v).1 ≤ t.1
  | 0, i, v, h => h
  | k + 1, i, v, h => by
    unfold nul
    by_cases hc : 0 < v ∧ isD (chc t i)
    · rw [cif_pos hc]
      exact nul_in k (i + 1) _ (chc_in (isD_n0 hc.2))
    · rw [cif_neg hc]; exact h
theorem nul_v {t : TX} : ∀ (k i v M : Nat), v ≤ M → (nul t k i v).2 ≤ (M + 1) * 10 ^ k - 1
  | 0, i, v, M, h => by simp only [nul]; omega
  | k + 1, i, v, M, h => by
    unfold nul
    have hp : 1 ≤ 10 ^ k := Nat.one_le_pow _ _ (by decide)
    by_cases hc : 0 < v ∧ isD (chc t i)
    · rw [cif_pos hc]
      have hd := dv_le hc.2
      have := nul_v (t := t) k (i + 1) (10 * v + dv t i) (10 * M + 9) (by omega)
      rw [show (M + 1) * 10 ^ (k + 1) = (10 * M + 9 + 1) * 10 ^ k by rw [Nat.pow_succ]; rw [show 10 * M + 9 + 1 = (M + 1) * 10 by omega, Nat.mul_assoc, Nat.mul_comm 10]]
      exact this
    · rw [cif_neg hc]
      show v ≤ _
      have : M + 1 ≤ (M + 1) * 10 ^ (k + 1) := Nat.le_mul_of_pos_right _ (Nat.pow_pos (by decide))
      omega
theorem pD_i {t : TX} {i : Nat} {a : Nat × Nat} (h : pD t i = .inr a) : isD (chc t i) ∧ a = (i + 1, dv t i) := by
  unfold pD at h
  by_cases hc : isD (chc t i)
  · rw [cif_pos hc] at h; cases h; exact ⟨hc, rfl⟩
  · rw [cif_neg hc] at h; cases h
theorem pN_i {t : TX} {i : Nat} {a : Nat × Nat} (h : pN t i = .inr a) : isD (chc t i) ∧ a = nul t 2 (i + 1) (dv t i) := by
  unfold pN at h
  by_cases hc : isD (chc t i)
  · rw [cif_pos hc] at h; cases h; exact ⟨hc, rfl⟩
  · rw [cif_neg hc] at h; cases h
theorem pP_i {t : TX} {i : Nat} {a : Nat × Nat} (h : pP t i = .inr a) : isPl (chc t i) ∧ a = (i + 1, plv t i) := by
  unfold pP at h
  by_cases hc : isPl (chc t i)
  · rw [cif_pos hc] at h; cases h; exact ⟨hc, rfl⟩
  · rw [cif_neg hc] at h; cases h
theorem sgn_i {t : TX} {s : Int32} {i a : Nat} (h : sgn t s i = .inr a) : chc t i = s ∧ a = i + 1 := by
  unfold sgn at h
  by_cases hc : chc t i = s
  · rw [cif_pos hc] at h; cases h; exact ⟨hc, rfl⟩
  · rw [cif_neg hc] at h; cases h
theorem bnd_i {α β : Type} {x : Nat ⊕ α} {f : α → Nat ⊕ β} {b : β} (h : bnd x f = .inr b) : ∃ a, x = .inr a ∧ f a = .inr b := by
  cases x with
  | inl e => cases h
  | inr a => exact ⟨a, rfl, h⟩
/-- a command that stands: where it ends -/
theorem pDl {t : TX} {i : Nat} {a : Nat × Nat} (h : pD t i = .inr a) : i < a.1 ∧ a.1 ≤ t.1 ∧ a.2 ≤ 9 := by
  obtain ⟨h1, rfl⟩ := pD_i h
  exact ⟨Nat.lt_succ_self i, chc_in (isD_n0 h1), dv_le h1⟩
theorem pNl {t : TX} {i : Nat} {a : Nat × Nat} (h : pN t i = .inr a) : i < a.1 ∧ a.1 ≤ t.1 ∧ a.2 ≤ 999 := by
  obtain ⟨h1, rfl⟩ := pN_i h
  exact ⟨nul_ge t 2 (i + 1) _, nul_in 2 (i + 1) _ (chc_in (isD_n0 h1)), nul_v 2 (i + 1) _ 9 (dv_le h1)⟩
theorem pPl {t : TX} {i : Nat} {a : Nat × Nat} (h : pP t i = .inr a) : i < a.1 ∧ a.1 ≤ t.1 ∧ a.2 ≤ 9 := by
  obtain ⟨h1, rfl⟩ := pP_i h
  refine ⟨Nat.lt_succ_self i, chc_in (isPl_n0 h1), ?_⟩
  show plv t i ≤ 9
  unfold plv
  by_cases hc : chc t i = nI 112
  · rw [cif_pos hc]; decide
  · rw [cif_neg hc]; exact dv_le (isPl_nat (h1.resolve_right hc))
theorem cmd_l {t : TX} {i e : Nat} {q : CMD} (h : cmd t i = .inr (e, q)) : i + 2 ≤ e ∧ e ≤ t.1 ∧ q.2.1 ≤ 999 ∧ q.2.2.1 ≤ 999 ∧ q.2.2.2 ≤ 999 ∧ (q.1 = 119 ∨ q.1 = 114 ∨ q.1 = 116 ∨ q.1 = 109 ∨ q.1 = 104 ∨ q.1 = 106) := by
  by_cases hw : chc t i = nI 119
  · rw [cmd_w hw] at h
    obtain ⟨a, ea, h⟩ := bnd_i h
    have la := pDl ea
    obtain ⟨j, ej, h⟩ := bnd_i h
    obtain ⟨-, rfl⟩ := sgn_i ej
    obtain ⟨b, eb, h⟩ := bnd_i h
    have lb := pNl eb
    obtain ⟨j2, ej2, h⟩ := bnd_i h
    obtain ⟨-, rfl⟩ := sgn_i ej2
    obtain ⟨c, ec, h⟩ := bnd_i h
    have lc := pNl ec
    cases h
    exact ⟨by omega, by omega, by first | (dsimp only; omega) | decide, by first | (dsimp only; omega) | decide, by first | (dsimp only; omega) | decide, by first | exact Or.inl rfl | exact Or.inr (Or.inl rfl) | exact Or.inr (Or.inr (Or.inl rfl)) | exact Or.inr (Or.inr (Or.inr (Or.inl rfl))) | exact Or.inr (Or.inr (Or.inr (Or.inr (Or.inl rfl)))) | exact Or.inr (Or.inr (Or.inr (Or.inr (Or.inr rfl))))⟩
  · skip
    by_cases hr : chc t i = nI 114
    · rw [cmd_r hr] at h
      obtain ⟨a, ea, h⟩ := bnd_i h
      have la := pDl ea
      obtain ⟨j, ej, h⟩ := bnd_i h
      obtain ⟨-, rfl⟩ := sgn_i ej
      obtain ⟨b, eb, h⟩ := bnd_i h
      have lb := pNl eb
      cases h
      exact ⟨by omega, by omega, by first | (dsimp only; omega) | decide, by first | (dsimp only; omega) | decide, by first | (dsimp only; omega) | decide, by first | exact Or.inl rfl | exact Or.inr (Or.inl rfl) | exact Or.inr (Or.inr (Or.inl rfl)) | exact Or.inr (Or.inr (Or.inr (Or.inl rfl))) | exact Or.inr (Or.inr (Or.inr (Or.inr (Or.inl rfl)))) | exact Or.inr (Or.inr (Or.inr (Or.inr (Or.inr rfl))))⟩
    · skip
      by_cases ht : chc t i = nI 116
      · rw [cmd_t ht] at h
        obtain ⟨a, ea, h⟩ := bnd_i h
        have la := pNl ea
        cases h
        exact ⟨by omega, by omega, by first | (dsimp only; omega) | decide, by first | (dsimp only; omega) | decide, by first | (dsimp only; omega) | decide, by first | exact Or.inl rfl | exact Or.inr (Or.inl rfl) | exact Or.inr (Or.inr (Or.inl rfl)) | exact Or.inr (Or.inr (Or.inr (Or.inl rfl))) | exact Or.inr (Or.inr (Or.inr (Or.inr (Or.inl rfl)))) | exact Or.inr (Or.inr (Or.inr (Or.inr (Or.inr rfl))))⟩
      · skip
        by_cases hm : chc t i = nI 109
        · rw [cmd_m hm] at h
          obtain ⟨a, ea, h⟩ := bnd_i h
          have la := pDl ea
          obtain ⟨j, ej, h⟩ := bnd_i h
          obtain ⟨-, rfl⟩ := sgn_i ej
          obtain ⟨b, eb, h⟩ := bnd_i h
          have lb := pPl eb
          cases h
          exact ⟨by omega, by omega, by first | (dsimp only; omega) | decide, by first | (dsimp only; omega) | decide, by first | (dsimp only; omega) | decide, by first | exact Or.inl rfl | exact Or.inr (Or.inl rfl) | exact Or.inr (Or.inr (Or.inl rfl)) | exact Or.inr (Or.inr (Or.inr (Or.inl rfl))) | exact Or.inr (Or.inr (Or.inr (Or.inr (Or.inl rfl)))) | exact Or.inr (Or.inr (Or.inr (Or.inr (Or.inr rfl))))⟩
        · skip
          by_cases hh : chc t i = nI 104
          · rw [cmd_h hh] at h
            obtain ⟨a, ea, h⟩ := bnd_i h
            have la := pDl ea
            obtain ⟨j, ej, h⟩ := bnd_i h
            obtain ⟨-, rfl⟩ := sgn_i ej
            obtain ⟨b, eb, h⟩ := bnd_i h
            have lb := pDl eb
            cases h
            exact ⟨by omega, by omega, by first | (dsimp only; omega) | decide, by first | (dsimp only; omega) | decide, by first | (dsimp only; omega) | decide, by first | exact Or.inl rfl | exact Or.inr (Or.inl rfl) | exact Or.inr (Or.inr (Or.inl rfl)) | exact Or.inr (Or.inr (Or.inr (Or.inl rfl))) | exact Or.inr (Or.inr (Or.inr (Or.inr (Or.inl rfl)))) | exact Or.inr (Or.inr (Or.inr (Or.inr (Or.inr rfl))))⟩
          · skip
            by_cases hj : chc t i = nI 106
            · rw [cmd_j hj] at h
              obtain ⟨a, ea, h⟩ := bnd_i h
              have la := pDl ea
              obtain ⟨j, ej, h⟩ := bnd_i h
              obtain ⟨-, rfl⟩ := sgn_i ej
              obtain ⟨b, eb, h⟩ := bnd_i h
              have lb := pNl eb
              cases h
              exact ⟨by omega, by omega, by first | (dsimp only; omega) | decide, by first | (dsimp only; omega) | decide, by first | (dsimp only; omega) | decide, by first | exact Or.inl rfl | exact Or.inr (Or.inl rfl) | exact Or.inr (Or.inr (Or.inl rfl)) | exact Or.inr (Or.inr (Or.inr (Or.inl rfl))) | exact Or.inr (Or.inr (Or.inr (Or.inr (Or.inl rfl)))) | exact Or.inr (Or.inr (Or.inr (Or.inr (Or.inr rfl))))⟩
            · skip
              rw [cmd_o hw hr ht hm hh hj] at h
              cases h
noncomputable def txt (t : TX) : Nat → Nat → Nat ⊕ List CMD
  | 0, i => .inl i
  | k + 1, i => match cmd t i with
    | .inl e => .inl e
    | .inr (e, q) => cif (e = t.1) (.inr [q]) (cif (chc t e = nI 59) (match txt t k (e + 1) with
      | .inl x => .inl x
      | .inr l => .inr (q :: l)) (.inl e))
theorem txt_l {t : TX} {k i e : Nat} (h : cmd t i = .inl e) : txt t (k + 1) i = .inl e := by
  rw [txt, h]
theorem txt_e {t : TX} {k i e : Nat} {q : CMD} (h : cmd t i = .inr (e, q)) (he : e = t.1) : txt t (k + 1) i = .inr [q] := by
  rw [txt, h]
  exact cif_pos he
theorem txt_n {t : TX} {k i e : Nat} {q : CMD} (h : cmd t i = .inr (e, q)) (he : ¬ e = t.1) (hs : ¬ chc t e = nI 59) : txt t (k + 1) i = .inl e := by
  rw [txt, h]
  exact (cif_neg he).trans (cif_neg hs)
theorem txt_s {t : TX} {k i e : Nat} {q : CMD} (h : cmd t i = .inr (e, q)) (he : ¬ e = t.1) (hs : chc t e = nI 59) : txt t (k + 1) i = match txt t k (e + 1) with
    | .inl x => .inl x
    | .inr l => .inr (q :: l) := by
  rw [txt, h]
  exact (cif_neg he).trans (cif_pos hs)
noncomputable def exC (z : ZZ) (q : CMD) : Int32 × ZZ := if q.1 = 119 then fWrite z (nI q.2.1) (nI q.2.2.1) (nI q.2.2.2) else if q.1 = 114 then fRead z (nI q.2.1) (nI q.2.2.1) else if q.1 = 116 then fTick z (nI q.2.1) else if q.1 = 109 then fMove z (nI q.2.1) (nI q.2.2.1) else if q.1 = 104 then fHand z (nI q.2.1) (nI q.2.2.1) else fJump z (nI q.2.1) (nI q.2.2.1)
noncomputable def exs (z : ZZ) : List CMD → Nat × ZZ
  | [] => (0, z)
  | q :: l => cif (isEr (exC z q).1) (0, z) ((exs (exC z q).2 l).1 + 1, (exs (exC z q).2 l).2)
/-- errorPosition: what it answers -/
noncomputable def fErr (t : TX) : Int32 := match txt t 80 0 with
  | .inl e => nI e
  | .inr _ => -6
noncomputable def exA (a : AS) : Int32 × AS := match txt a.2.2.2 80 0 with
  | .inl _ => (-5, a)
  | .inr l => (nI (exs a.1 l).1, ((exs a.1 l).2, psh a.2.1 a.1, a.2.2.1, (0, a.2.2.2.2)))
noncomputable def apA (a : AS) (x : Int32) : Int32 × AS := cif (nI 33 ≤ x ∧ x ≤ nI 126) (if a.2.2.2.1 = 80 then (-4, a) else (nI (a.2.2.2.1 + 1), (a.1, a.2.1, a.2.2.1, (a.2.2.2.1 + 1, upd a.2.2.2.2 a.2.2.2.1 x)))) (-2, a)
def clA (a : AS) : Int32 × AS := (nI a.2.2.2.1, (a.1, a.2.1, a.2.2.1, (0, a.2.2.2.2)))
