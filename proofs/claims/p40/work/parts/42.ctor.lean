/-! ===== the constructors: a growing world, its cells in their order, its slots in the order in which they are first written ===== -/
def sbk (k : Nat) : Nat := if k < 2 then 1 + 36 * k else 3 + 36 * k
def tbk (k : Nat) : Nat := if k < 2 then 45 * k else 45 * k + 1
def offs (id : ID) : Nat := match id with
  | (t, k, i) => match t with
    | 0 => 0
    | 1 => sbk k
    | 2 => sbk k + 1
    | 3 => sbk k + 2
    | 4 => sbk k + 3
    | 5 => sbk k + 4
    | 6 => sbk k + 5
    | 7 => sbk k + 6
    | 8 => sbk k + 7 + i
    | 9 => sbk k + 12 + 3 * i
    | 10 => sbk k + 13 + 3 * i
    | 11 => sbk k + 14 + 3 * i
    | 12 => 73
    | 13 => 74
    | 14 => 291
    | 15 => 292
    | 16 => 293
    | 17 => 294
    | 18 => 295
    | 19 => 296
    | 20 => 297
    | _ => 298
/-- the slots that a constructor gives a value of its own -/
def ntk (t j : Nat) : Bool := match t with
  | 0 => j == 0 || j == 1 || j == 3 || j == 4
  | 1 => j == 0 || j == 1 || j == 2 || j == 4
  | 2 => j == 1 || j == 2 || j == 3
  | 6 => decide (j < 5)
  | 7 => decide (j < 8)
  | 9 => j == 1 || j == 9 || j == 10
  | 12 => j == 0
  | 13 => decide (j < 6)
  | 14 => j == 0 || j == 4
  | _ => false
/-- their order -/
def tmk (id : ID) (j : Nat) : Nat := match id with
  | (t, k, i) => match t with
    | 0 => (match j with | 0 => 44 | 1 => 89 | 3 => 361 | _ => 364)
    | 1 => (match j with | 0 => tbk k + 3 | 1 => tbk k + 4 | 2 => tbk k + 5 | _ => tbk k + 6)
    | 2 => (match j with | 1 => tbk k | 2 => tbk k + 1 | _ => tbk k + 2)
    | 6 => tbk k + 7 + j
    | 7 => tbk k + 15 + 4 * j
    | 9 => (match j with | 1 => tbk k + 12 + 4 * i | 9 => tbk k + 13 + 4 * i | _ => tbk k + 14 + 4 * i)
    | 12 => 90
    | 13 => tbk (j + 2) + 44
    | 14 => (match j with | 0 => 362 | _ => 363)
    | _ => 365 + j
/-- the ints at the end -/
def M0 : MEM := fun id j => match id.1 with
  | 1 => if j = 4 then nI 0 - nI 6 else 0
  | 9 => if j = 1 then nI 9 else 0
  | _ => 0
def tmS (k r : Nat) : ID × Nat := if r < 3 then ((2, k, 0), r + 1) else if r < 6 then ((1, k, 0), r - 3) else if r = 6 then ((1, k, 0), 4) else if r < 12 then ((6, k, 0), r - 7) else if (r - 12) % 4 = 3 then ((7, k, 0), (r - 12) / 4) else if (r - 12) % 4 = 0 then ((9, k, (r - 12) / 4), 1) else if (r - 12) % 4 = 1 then ((9, k, (r - 12) / 4), 9) else ((9, k, (r - 12) / 4), 10)
def tmI (n : Nat) : ID × Nat := if n < 90 then (if n % 45 = 44 then ((0, 0, 0), n / 45) else tmS (n / 45) (n % 45)) else if n = 90 then ((12, 0, 0), 0) else if n < 361 then (if (n - 91) % 45 = 44 then ((13, 0, 0), (n - 91) / 45) else tmS (2 + (n - 91) / 45) ((n - 91) % 45)) else match n with
  | 361 => ((0, 0, 0), 3)
  | 362 => ((14, 0, 0), 0)
  | 363 => ((14, 0, 0), 4)
  | 364 => ((0, 0, 0), 4)
  | _ => ((0, 0, 0), 0)
def ofS (k r : Nat) : ID := if r < 7 then (1 + r, k, 0) else if r < 12 then (8, k, r - 7) else (9 + (r - 12) % 3, k, (r - 12) / 3)
def ofI (n : Nat) : ID := if n = 0 then (0, 0, 0) else if n < 73 then ofS ((n - 1) / 36) ((n - 1) % 36) else if n < 75 then (n - 61, 0, 0) else if n < 291 then ofS (2 + (n - 75) / 36) ((n - 75) % 36) else (n - 277, 0, 0)
theorem vd_lt {id : ID} (h : vd id) : id.1 < 22 ∧ id.2.1 < 8 ∧ id.2.2 < 8 := by
  obtain ⟨t, k, i⟩ := id
  obtain ⟨h1, h2⟩ := h
  have h1 : k < me_kmax t := h1
  have h2 : i < me_imax t := h2
  have a1 : me_kmax t ≤ 8 := by unfold me_kmax; split <;> decide
  have a2 : me_imax t ≤ 8 := by unfold me_imax; split <;> decide
  have a3 : t < 22 := by
    unfold me_kmax at h1
    split at h1 <;> first | decide | omega
  exact ⟨a3, by show k < 8; omega, by show i < 8; omega⟩
theorem nt_lt {t j : Nat} (h : ntk t j = true) : j < 11 := by
  unfold ntk at h
  split at h <;> simp at h <;> omega
def tm_chk : Bool := (List.range 22).all fun t => (List.range 8).all fun k => (List.range 8).all fun i => !(decide (k < me_kmax t) && decide (i < me_imax t)) || ((decide (ofI (offs (t, k, i)) = (t, k, i)) && decide (offs (t, k, i) < 299)) && ((List.range 11).all fun j => !(ntk t j) || (decide (tmI (tmk (t, k, i) j) = ((t, k, i), j)) && decide (tmk (t, k, i) j < 365))))
theorem tm_chk_ok : tm_chk = true := by decide +kernel
theorem tm_all {t k i : Nat} (ht : t < 22) (hk : k < 8) (hi : i < 8) (h1 : k < me_kmax t) (h2 : i < me_imax t) : (ofI (offs (t, k, i)) = (t, k, i) ∧ offs (t, k, i) < 299) ∧ ∀ j, j < 11 → ntk t j = true → (tmI (tmk (t, k, i) j) = ((t, k, i), j) ∧ tmk (t, k, i) j < 365) := by
  have h := tm_chk_ok
  unfold tm_chk at h
  have h := List.all_eq_true.mp h t (List.mem_range.mpr ht)
  have h := List.all_eq_true.mp h k (List.mem_range.mpr hk)
  have h := List.all_eq_true.mp h i (List.mem_range.mpr hi)
  rw [decide_eq_true h1, decide_eq_true h2] at h
  simp only [Bool.and_self, Bool.not_true, Bool.false_or, Bool.and_eq_true, decide_eq_true_eq] at h
  refine ⟨h.1, fun j hj hn => ?_⟩
  have h := List.all_eq_true.mp h.2 j (List.mem_range.mpr hj)
  rw [hn] at h
  simpa only [Bool.not_true, Bool.false_or, Bool.and_eq_true, decide_eq_true_eq] using h
theorem tm_dec : ∀ t, t < 22 → ∀ k, k < 8 → ∀ i, i < 8 → k < me_kmax t → i < me_imax t → ∀ j, j < 11 → ntk t j = true → (tmI (tmk (t, k, i) j) = ((t, k, i), j) ∧ tmk (t, k, i) j < 365) := fun _ ht _ hk _ hi h1 h2 => (tm_all ht hk hi h1 h2).2
theorem of_dec : ∀ t, t < 22 → ∀ k, k < 8 → ∀ i, i < 8 → k < me_kmax t → i < me_imax t → (ofI (offs (t, k, i)) = (t, k, i) ∧ offs (t, k, i) < 299) := fun _ ht _ hk _ hi h1 h2 => (tm_all ht hk hi h1 h2).1
theorem tm_inj {a c : ID} (ha : vd a) (hc : vd c) {j j' : Nat} (h1 : ntk a.1 j = true) (h2 : ntk c.1 j' = true) (h : tmk a j = tmk c j') : a = c ∧ j = j' := by
  obtain ⟨a1, a2, a3⟩ := vd_lt ha
  obtain ⟨c1, c2, c3⟩ := vd_lt hc
  have e1 := (tm_dec a.1 a1 a.2.1 a2 a.2.2 a3 ha.1 ha.2 j (nt_lt h1) h1).1
  have e2 := (tm_dec c.1 c1 c.2.1 c2 c.2.2 c3 hc.1 hc.2 j' (nt_lt h2) h2).1
  have e : (a, j) = (c, j') := e1.symm.trans ((congrArg tmI h).trans e2)
  exact ⟨congrArg Prod.fst e, congrArg Prod.snd e⟩
theorem tm_lt {a : ID} (ha : vd a) {j : Nat} (h1 : ntk a.1 j = true) : tmk a j < 365 := by
  obtain ⟨a1, a2, a3⟩ := vd_lt ha
  exact (tm_dec a.1 a1 a.2.1 a2 a.2.2 a3 ha.1 ha.2 j (nt_lt h1) h1).2
theorem of_inj {a c : ID} (ha : vd a) (hc : vd c) (h : offs a = offs c) : a = c := by
  obtain ⟨a1, a2, a3⟩ := vd_lt ha
  obtain ⟨c1, c2, c3⟩ := vd_lt hc
  have e1 := (of_dec a.1 a1 a.2.1 a2 a.2.2 a3 ha.1 ha.2).1
  have e2 := (of_dec c.1 c1 c.2.1 c2 c.2.2 c3 hc.1 hc.2).1
  exact e1.symm.trans ((congrArg ofI h).trans e2)
theorem of_lt {a : ID} (ha : vd a) : offs a < 299 := by
  obtain ⟨a1, a2, a3⟩ := vd_lt ha
  exact (of_dec a.1 a1 a.2.1 a2 a.2.2 a3 ha.1 ha.2).2
def dn (n : Nat) (id : ID) (j : Nat) : Bool := ntk id.1 j && decide (tmk id j < n)
def df (id : ID) (j : Nat) : Value := match me_sl id j with
  | some _ => .null
  | none => .int 0
def sv2 (E : EV) (n : Nat) (id : ID) (j : Nat) : Value := if dn n id j = true then me_sv E M0 id j else df id j
def m2 (n : Nat) (id : ID) (j : Nat) : Int32 := if dn n id j = true then M0 id j else 0
def r2 (E : EV) (n : Nat) (id : ID) (j : Nat) : Option Nat := if dn n id j = true then (me_sl id j).map E.2.1 else none
def WR2 (E : EV) (n : Nat) (id : ID) (H : Heap) : Prop := match me_kd id.1 with
  | .inl ci => t_OB (E.2.1 id) (E.1.1 ci) (me_nf ci) (E.1.2 ci) H (sv2 E n id)
  | .inr q => if q.1 < 2 then H[E.2.1 id]? = some (vp_cell (E.2.2 q.1) (q.2, .inl (m2 n id))) else H[E.2.1 id]? = some (vp_cell (E.2.2 q.1) (q.2, .inr (.inr (.inr (.inr (r2 E n id))))))
theorem me_vq_congr {cA : ClassId} {n : Nat} {f g : Nat → Option Nat} (h : ∀ j, j < n → f j = g j) : vp_cell cA (n, .inr (.inr (.inr (.inr f)))) = vp_cell cA (n, .inr (.inr (.inr (.inr g)))) := by
  rw [vp_cell_q, vp_cell_q]
  unfold arrV
  congr 1
  apply congrArg
  funext j
  exact congrArg va_rf (h j.val j.isLt)
theorem WR2.same {E : EV} {n : Nat} {id : ID} {H H' : Heap} (h : WR2 E n id H) (hH : H'[E.2.1 id]? = H[E.2.1 id]?) : WR2 E n id H' := by
  unfold WR2 at h ⊢
  cases hk : me_kd id.1 with
  | inl ci =>
    rw [hk] at h
    exact t_OB.kept h hH
  | inr q =>
    rw [hk] at h
    by_cases hq : q.1 < 2
    · simp only [if_pos hq] at h ⊢
      rw [hH]; exact h
    · simp only [if_neg hq] at h ⊢
      rw [hH]; exact h
def nstep (n n' : Nat) (id : ID) (j : Nat) : Prop := (n' = n ∧ ntk id.1 j = false) ∨ (n' = n + 1 ∧ ntk id.1 j = true ∧ tmk id j = n)
theorem dn_step {n n' : Nat} {id c : ID} {j b : Nat} (hv : vd id) (hc : vd c) (h : nstep n n' id j) (hne : ¬ (c = id ∧ b = j)) : dn n' c b = dn n c b := by
  rcases h with ⟨rfl, -⟩ | ⟨rfl, h1, h2⟩
  · rfl
  · unfold dn
    by_cases hb : ntk c.1 b = true
    · rw [hb]
      have : tmk c b ≠ n := fun e => hne (tm_inj hc hv hb h1 (e.trans h2.symm))
      simp only [Bool.true_and, decide_eq_decide]
      omega
    · have hb : ntk c.1 b = false := by simpa using hb
      rw [hb]; rfl
theorem WR2.step {E : EV} {n n' : Nat} {id c : ID} {j : Nat} {H H' : Heap} (hv : vd id) (hc : vd c) (hne : c ≠ id) (hs : nstep n n' id j) (h : WR2 E n c H) (hH : H'[E.2.1 c]? = H[E.2.1 c]?) : WR2 E n' c H' := by
  have e : dn n' c = dn n c := by
    funext b
    exact dn_step hv hc hs (fun z => hne z.1)
  have h1 := h.same hH
  unfold WR2 sv2 m2 r2 at h1 ⊢
  rw [e]
  exact h1
def WP (E : EV) (b k n : Nat) (H : Heap) : Prop := H.size = b + k ∧ ∀ id, vd id → offs id < k → WR2 E n id H
def EO (E : EV) (b : Nat) : Prop := ∀ id, vd id → E.2.1 id = b + offs id
theorem EO.ok {E : EV} {b : Nat} (h : EO E b) : EOK E := fun a c ha hc e => of_inj ha hc (by rw [h a ha, h c hc] at e; omega)
theorem WP.put {E : EV} {b k n n' : Nat} {H H' : Heap} {id : ID} {j : Nat} (hE : EO E b) (hW : WP E b k n H) (hv : vd id) (z : H'.size = H.size) (oq : ∀ q : Nat, q ≠ E.2.1 id → H'[q]? = H[q]?) (hs : nstep n n' id j) (h1 : WR2 E n' id H') : WP E b k n' H' := by
  refine ⟨z.trans hW.1, fun c hc ho => ?_⟩
  by_cases e : c = id
  · subst e; exact h1
  · exact WR2.step hv hc e hs (hW.2 c hc ho) (oq _ (fun z => e (hE.ok c id hc hv z)))
theorem WP.grow {E : EV} {b k n : Nat} {H H' : Heap} {id : ID} (hE : EO E b) (hW : WP E b k n H) (hv : vd id) (ho : offs id = k) (z : H'.size = H.size + 1) (oq : ∀ q : Nat, q < H.size → H'[q]? = H[q]?) (h1 : WR2 E n id H') : WP E b (k + 1) n H' := by
  refine ⟨by rw [z, hW.1]; omega, fun c hc hk => ?_⟩
  by_cases e : offs c = k
  · have := of_inj hc hv (e.trans ho.symm)
    subst this; exact h1
  · exact (hW.2 c hc (by omega)).same (oq _ (by rw [hE c hc, hW.1]; omega))
theorem nt_sv {E : EV} {id : ID} {j : Nat} (hv : vd id) (hj : j < me_wd id.1) (h : ntk id.1 j = false) : me_sl id j = none ∧ M0 id j = 0 := by
  obtain ⟨t, k, i⟩ := id
  have ht : t < 22 := (vd_lt hv).1
  have hj : j < me_wd t := hj
  have h : ntk t j = false := h
  match t, ht with
  | 0, _ =>
    have hj : j < 5 := hj
    match j, hj with
    | 0, _ => exact absurd h (by decide)
    | 1, _ => exact absurd h (by decide)
    | 2, _ => exact ⟨rfl, rfl⟩
    | 3, _ => exact absurd h (by decide)
    | 4, _ => exact absurd h (by decide)
  | 1, _ =>
    have hj : j < 7 := hj
    match j, hj with
    | 0, _ => exact absurd h (by decide)
    | 1, _ => exact absurd h (by decide)
    | 2, _ => exact absurd h (by decide)
    | 3, _ => exact ⟨rfl, rfl⟩
    | 4, _ => exact absurd h (by decide)
    | 5, _ => exact ⟨rfl, rfl⟩
    | 6, _ => exact ⟨rfl, rfl⟩
  | 2, _ =>
    have hj : j < 4 := hj
    match j, hj with
    | 0, _ => exact ⟨rfl, rfl⟩
    | 1, _ => exact absurd h (by decide)
    | 2, _ => exact absurd h (by decide)
    | 3, _ => exact absurd h (by decide)
  | 3, _ => exact ⟨rfl, rfl⟩
  | 4, _ => exact ⟨rfl, rfl⟩
  | 5, _ => exact ⟨rfl, rfl⟩
  | 6, _ =>
    have hj : j < 5 := hj
    match j, hj with
    | 0, _ => exact absurd h (by decide)
    | 1, _ => exact absurd h (by decide)
    | 2, _ => exact absurd h (by decide)
    | 3, _ => exact absurd h (by decide)
    | 4, _ => exact absurd h (by decide)
  | 7, _ =>
    have hj : j < 8 := hj
    match j, hj with
    | 0, _ => exact absurd h (by decide)
    | 1, _ => exact absurd h (by decide)
    | 2, _ => exact absurd h (by decide)
    | 3, _ => exact absurd h (by decide)
    | 4, _ => exact absurd h (by decide)
    | 5, _ => exact absurd h (by decide)
    | 6, _ => exact absurd h (by decide)
    | 7, _ => exact absurd h (by decide)
  | 8, _ =>
    have hj : j < 5 := hj
    match j, hj with
    | 0, _ => exact ⟨rfl, rfl⟩
    | 1, _ => exact ⟨rfl, rfl⟩
    | 2, _ => exact ⟨rfl, rfl⟩
    | 3, _ => exact ⟨rfl, rfl⟩
    | 4, _ => exact ⟨rfl, rfl⟩
  | 9, _ =>
    have hj : j < 11 := hj
    match j, hj with
    | 0, _ => exact ⟨rfl, rfl⟩
    | 1, _ => exact absurd h (by decide)
    | 2, _ => exact ⟨rfl, rfl⟩
    | 3, _ => exact ⟨rfl, rfl⟩
    | 4, _ => exact ⟨rfl, rfl⟩
    | 5, _ => exact ⟨rfl, rfl⟩
    | 6, _ => exact ⟨rfl, rfl⟩
    | 7, _ => exact ⟨rfl, rfl⟩
    | 8, _ => exact ⟨rfl, rfl⟩
    | 9, _ => exact absurd h (by decide)
    | 10, _ => exact absurd h (by decide)
  | 10, _ => exact ⟨rfl, rfl⟩
  | 11, _ => exact ⟨rfl, rfl⟩
  | 12, _ =>
    have hj : j < 3 := hj
    match j, hj with
    | 0, _ => exact absurd h (by decide)
    | 1, _ => exact ⟨rfl, rfl⟩
    | 2, _ => exact ⟨rfl, rfl⟩
  | 13, _ =>
    have hj : j < 6 := hj
    match j, hj with
    | 0, _ => exact absurd h (by decide)
    | 1, _ => exact absurd h (by decide)
    | 2, _ => exact absurd h (by decide)
    | 3, _ => exact absurd h (by decide)
    | 4, _ => exact absurd h (by decide)
    | 5, _ => exact absurd h (by decide)
  | 14, _ =>
    have hj : j < 6 := hj
    match j, hj with
    | 0, _ => exact absurd h (by decide)
    | 1, _ => exact ⟨rfl, rfl⟩
    | 2, _ => exact ⟨rfl, rfl⟩
    | 3, _ => exact ⟨rfl, rfl⟩
    | 4, _ => exact absurd h (by decide)
    | 5, _ => exact ⟨rfl, rfl⟩
  | 15, _ => exact ⟨rfl, rfl⟩
  | 16, _ => exact ⟨rfl, rfl⟩
  | 17, _ => exact ⟨rfl, rfl⟩
  | 18, _ => exact ⟨rfl, rfl⟩
  | 19, _ => exact ⟨rfl, rfl⟩
  | 20, _ => exact ⟨rfl, rfl⟩
  | 21, _ => exact ⟨rfl, rfl⟩
theorem sv2_df {E : EV} {n : Nat} {id : ID} {j : Nat} (h : ntk id.1 j = true → n ≤ tmk id j) : sv2 E n id j = df id j := by
  have : dn n id j = false := by
    unfold dn
    by_cases hb : ntk id.1 j = true
    · rw [hb]
      have := h hb
      simp; omega
    · have hb : ntk id.1 j = false := by simpa using hb
      rw [hb]; rfl
  unfold sv2
  rw [if_neg (by rw [this]; decide)]
theorem m2_df {n : Nat} {id : ID} {j : Nat} (h : ntk id.1 j = true → n ≤ tmk id j) : m2 n id j = 0 := by
  have : dn n id j = false := by
    unfold dn
    by_cases hb : ntk id.1 j = true
    · rw [hb]
      have := h hb
      simp; omega
    · have hb : ntk id.1 j = false := by simpa using hb
      rw [hb]; rfl
  unfold m2
  rw [if_neg (by rw [this]; decide)]
theorem r2_df {E : EV} {n : Nat} {id : ID} {j : Nat} (h : ntk id.1 j = true → n ≤ tmk id j) : r2 E n id j = none := by
  have : dn n id j = false := by
    unfold dn
    by_cases hb : ntk id.1 j = true
    · rw [hb]
      have := h hb
      simp; omega
    · have hb : ntk id.1 j = false := by simpa using hb
      rw [hb]; rfl
  unfold r2
  rw [if_neg (by rw [this]; decide)]
theorem dn_yes {n : Nat} {id : ID} {j : Nat} (h1 : ntk id.1 j = true) (h2 : tmk id j < n) : dn n id j = true := by
  unfold dn
  rw [h1]
  simpa using h2
theorem WP.done {E : EV} {b : Nat} {H : Heap} (hW : WP E b 299 365 H) : WR E M0 H := by
  have key : ∀ id, vd id → ∀ j, dn 365 id j = ntk id.1 j := fun id hv j => by
    unfold dn
    by_cases hb : ntk id.1 j = true
    · rw [hb]
      have := tm_lt hv hb
      simpa using this
    · have hb : ntk id.1 j = false := by simpa using hb
      rw [hb]; rfl
  refine ⟨fun id hv => ?_, fun id j hv hb => Or.inl ?_⟩
  · have h := hW.2 id hv (of_lt hv)
    unfold WR2 at h
    unfold WR1
    have hw : me_wd id.1 = (match me_kd id.1 with | .inl ci => me_nf ci | .inr q => q.2) := rfl
    cases hk : me_kd id.1 with
    | inl ci =>
      rw [hk] at h hw
      refine t_OB.to h (fun j hj => ?_)
      unfold sv2
      rw [key id hv j]
      by_cases hb : ntk id.1 j = true
      · rw [if_pos hb]
      · have hb : ntk id.1 j = false := by simpa using hb
        obtain ⟨e1, e2⟩ := nt_sv (E := E) hv (by rw [hw]; exact hj) hb
        rw [if_neg (by rw [hb]; decide)]
        unfold df me_sv
        rw [e1, e2]
    | inr q =>
      rw [hk] at h hw
      by_cases hq : q.1 < 2
      · simp only [if_pos hq] at h ⊢
        rw [h]
        refine congrArg some (me_vp_congr fun j hj => ?_)
        unfold m2
        rw [key id hv j]
        by_cases hb : ntk id.1 j = true
        · rw [if_pos hb]
        · have hb : ntk id.1 j = false := by simpa using hb
          obtain ⟨e1, e2⟩ := nt_sv (E := E) hv (by rw [hw]; exact hj) hb
          rw [if_neg (by rw [hb]; decide), e2]
      · simp only [if_neg hq] at h ⊢
        rw [h]
        refine congrArg some (me_vq_congr fun j hj => ?_)
        unfold r2
        rw [key id hv j]
        by_cases hb : ntk id.1 j = true
        · rw [if_pos hb]
        · have hb : ntk id.1 j = false := by simpa using hb
          obtain ⟨e1, e2⟩ := nt_sv (E := E) hv (by rw [hw]; exact hj) hb
          rw [if_neg (by rw [hb]; decide), e1]
          rfl
  · obtain ⟨t, k, i⟩ := id
    have hb : me_bo t j = true := hb
    unfold me_bo at hb
    split at hb <;> simp at hb
    · rfl
    · rfl
    · subst hb; rfl
def AOs (s : State) : Prop := va_AO RX2 s ∧ va_AO RX3 s ∧ va_AO RX4 s
def GK (E : EV) (b : Nat) (X : CX) (cells slots nL pc : Nat) (ls st : List VV) (k n : Nat) : Prop := match X with
  | (p, l, e, R, s, m, args, below, meth, c, _, _, QF, A, H0) => ∀ (lsA : Array Slot) (H : Heap) (locs : List Loc), LR E lsA nL ls → WP E b k n H → va_S A H0 H locs → W p l e R s m args below meth c H locs cells slots QF (F0 m pc lsA (st.map (vv E)))
def KX (E : EV) (b : Nat) (X : CX) (MC MS : Nat) : Prop := match X with
  | (p, l, e, R, s, m, args, below, meth, c, _, _, QF, A, H0) => EO E b ∧ (∀ q, b ≤ q → A q) ∧ AOs s ∧ MC ≤ R.cells ∧ MS ≤ R.slots
def KI (X : CX) : Prop := X.2.2.2.2.2.2.2.2.1.name = "<init>"
section MK
variable {E : EV} {b : Nat} {X : CX} {own : String} {cc : ByteArray} {nL : Nat} {ret : Option FieldType} {dep pc cells slots MC MS k n : Nat} {ls st : List VV}
theorem k_iconst (C : CK E X own cc nL ret dep) {q : Int} {v : Int32} (hdg : decode cc pc = .ok (.iconst q, 1)) (hv : Int32.ofInt q = v) (h : GK E b X cells slots nL (pc + 1) ls (iv v :: st) k n) : GK E b X cells slots nL pc ls (st) k n := by
  obtain ⟨p, l, e, R, s, m, args, below, meth, c, x1, x2, QF, A, H0⟩ := X
  obtain ⟨hx, hb, -⟩ := C
  exact fun lsA H locs hL hW hS => lv_iconst hx hb hdg hv (h lsA H locs hL hW hS)
theorem k_bipush (C : CK E X own cc nL ret dep) {q : Int} {v : Int32} (hdg : decode cc pc = .ok (.bipush q, 2)) (hv : (Int8.ofInt q).toInt32 = v) (h : GK E b X cells slots nL (pc + 2) ls (iv v :: st) k n) : GK E b X cells slots nL pc ls (st) k n := by
  obtain ⟨p, l, e, R, s, m, args, below, meth, c, x1, x2, QF, A, H0⟩ := X
  obtain ⟨hx, hb, -⟩ := C
  exact fun lsA H locs hL hW hS => lv_bipush hx hb hdg hv (h lsA H locs hL hW hS)
theorem k_sipush (C : CK E X own cc nL ret dep) {q : Int} {v : Int32} (hdg : decode cc pc = .ok (.sipush q, 3)) (hv : (Int16.ofInt q).toInt32 = v) (h : GK E b X cells slots nL (pc + 3) ls (iv v :: st) k n) : GK E b X cells slots nL pc ls (st) k n := by
  obtain ⟨p, l, e, R, s, m, args, below, meth, c, x1, x2, QF, A, H0⟩ := X
  obtain ⟨hx, hb, -⟩ := C
  exact fun lsA H locs hL hW hS => lv_sipush hx hb hdg hv (h lsA H locs hL hW hS)
theorem k_iload_n (C : CK E X own cc nL ret dep) {f : Fin 4} {x : Int32} (hdg : decode cc pc = .ok (.iload_n f, 1)) (hl : ls[(f : Nat)]? = some (iv x)) (h : GK E b X cells slots nL (pc + 1) ls (iv x :: st) k n) : GK E b X cells slots nL pc ls (st) k n := by
  obtain ⟨p, l, e, R, s, m, args, below, meth, c, x1, x2, QF, A, H0⟩ := X
  obtain ⟨hx, hb, -⟩ := C
  exact fun lsA H locs hL hW hS => lv_iload_n hx hb hdg rfl (hL.2.2 _ _ hl) (h lsA H locs hL hW hS)
theorem k_aload_n (C : CK E X own cc nL ret dep) {f : Fin 4} {x : ID} (hdg : decode cc pc = .ok (.aload_n f, 1)) (hl : ls[(f : Nat)]? = some (rv x)) (h : GK E b X cells slots nL (pc + 1) ls (rv x :: st) k n) : GK E b X cells slots nL pc ls (st) k n := by
  obtain ⟨p, l, e, R, s, m, args, below, meth, c, x1, x2, QF, A, H0⟩ := X
  obtain ⟨hx, hb, -⟩ := C
  exact fun lsA H locs hL hW hS => lv_aload_n hx hb hdg rfl (hL.2.2 _ _ hl) (h lsA H locs hL hW hS)
theorem k_dup (C : CK E X own cc nL ret dep) {x : VV} (hdg : decode cc pc = .ok (.dup, 1)) (h : GK E b X cells slots nL (pc + 1) ls (x :: x :: st) k n) : GK E b X cells slots nL pc ls (x :: st) k n := by
  obtain ⟨p, l, e, R, s, m, args, below, meth, c, x1, x2, QF, A, H0⟩ := X
  obtain ⟨hx, hb, -⟩ := C
  exact fun lsA H locs hL hW hS => lv_dup hx hb hdg (vv_cat E x) (h lsA H locs hL hW hS)
theorem k_goto (C : CK E X own cc nL ret dep) {off : Int} {tgt : Nat} (hdg : decode cc pc = .ok (.goto off, 3)) (ht : (pc : Int) + off = (tgt : Int)) (h : GK E b X cells slots nL tgt ls (st) k n) : GK E b X cells slots nL pc ls (st) k n := by
  obtain ⟨p, l, e, R, s, m, args, below, meth, c, x1, x2, QF, A, H0⟩ := X
  obtain ⟨hx, hb, -⟩ := C
  exact fun lsA H locs hL hW hS => lv_goto hx hb hdg ht (h lsA H locs hL hW hS)
theorem k_iadd (C : CK E X own cc nL ret dep) {x y : Int32} (hdg : decode cc pc = .ok (.iadd, 1)) (h : GK E b X cells slots nL (pc + 1) ls (iv (x + y) :: st) k n) : GK E b X cells slots nL pc ls (iv y :: iv x :: st) k n := by
  obtain ⟨p, l, e, R, s, m, args, below, meth, c, x1, x2, QF, A, H0⟩ := X
  obtain ⟨hx, hb, -⟩ := C
  exact fun lsA H locs hL hW hS => lv_iadd hx hb hdg (h lsA H locs hL hW hS)
theorem k_istore_n (C : CK E X own cc nL ret dep) {f : Fin 4} {x : Int32} {ls1 : List VV} (hdg : decode cc pc = .ok (.istore_n f, 1)) (hn : (f : Nat) < nL) (hs : ls.set (f : Nat) (iv x) = ls1) (h : GK E b X cells slots nL (pc + 1) ls1 st k n) : GK E b X cells slots nL pc ls (iv x :: st) k n := by
  obtain ⟨p, l, e, R, s, m, args, below, meth, c, x1, x2, QF, A, H0⟩ := X
  obtain ⟨hx, hb, -⟩ := C
  subst hs
  exact fun lsA H locs hL hW hS => lv_istore_n hx hb hdg rfl hL.toHas hn rfl (fun ls1 h1 => h ls1 H locs (LR.ofStore (x := .inl x) h1) hW hS)
theorem k_astore_n (C : CK E X own cc nL ret dep) {f : Fin 4} {x : ID} {ls1 : List VV} (hdg : decode cc pc = .ok (.astore_n f, 1)) (hn : (f : Nat) < nL) (hs : ls.set (f : Nat) (rv x) = ls1) (h : GK E b X cells slots nL (pc + 1) ls1 st k n) : GK E b X cells slots nL pc ls (rv x :: st) k n := by
  obtain ⟨p, l, e, R, s, m, args, below, meth, c, x1, x2, QF, A, H0⟩ := X
  obtain ⟨hx, hb, -⟩ := C
  subst hs
  exact fun lsA H locs hL hW hS => lv_astore_n hx hb hdg rfl hL.toHas hn rfl (fun ls1 h1 => h ls1 H locs (LR.ofStore (x := .inr (some x)) h1) hW hS)
theorem k_iincn (C : CK E X own cc nL ret dep) {f i : Nat} {ls1 : List VV} (hdg : decode cc pc = .ok (.iinc f 1, 3)) (hl : ls[f]? = some (iv (nI i))) (hn : f < nL) (hs : ls.set f (iv (nI (i + 1))) = ls1) (h : GK E b X cells slots nL (pc + 3) ls1 st k n) : GK E b X cells slots nL pc ls st k n := by
  obtain ⟨p, l, e, R, s, m, args, below, meth, c, x1, x2, QF, A, H0⟩ := X
  obtain ⟨hx, hb, -⟩ := C
  subst hs
  intro lsA H locs hL hW hS
  obtain ⟨j, hj⟩ := List.getElem?_of_mem (me_enc_in (E := E) hl)
  exact lv_iinc hx hb hdg hL.toHas (k := j) hj (nI_succ i).symm hn rfl (fun ls1 h1 => h ls1 H locs (LR.ofStore (x := .inl (nI (i + 1))) h1) hW hS)
theorem k_icmp_ge (C : CK E X own cc nL ret dep) {x y : Int32} {off : Int} {tgt : Nat} (hdg : decode cc pc = .ok (.if_icmp .ge off, 3)) (ht : (pc : Int) + off = (tgt : Int)) (kt : y ≤ x → GK E b X cells slots nL tgt ls st k n) (kf : ¬ y ≤ x → GK E b X cells slots nL (pc + 3) ls st k n) : GK E b X cells slots nL pc ls (iv y :: iv x :: st) k n := by
  obtain ⟨p, l, e, R, s, m, args, below, meth, c, x1, x2, QF, A, H0⟩ := X
  obtain ⟨hx, hb, -⟩ := C
  exact fun lsA H locs hL hW hS => lv_icmp_ge hx hb hdg ht (fun q => kt q lsA H locs hL hW hS) (fun q => kf q lsA H locs hL hW hS)
theorem k_obj (C : CK E X own cc nL ret dep) {index : Nat} {id : ID} (ml : Cond.methodLink own index objectInit ∈ BW) (hdg : decode cc pc = .ok (.invokespecial index, 3)) (hdep : 1 ≤ dep) (hst : st.length ≤ 8) (h : GK E b X cells slots nL (pc + 3) ls st k n) : GK E b X cells slots nL pc ls (rv id :: st) k n := by
  obtain ⟨p, l, e, R, s, m, args, below, meth, c, x1, x2, QF, A, H0⟩ := X
  obtain ⟨hx, hb, hml, hfo, hts, hrt, hlk, hK, hA, hE0, hfr, hlo, hce, hsl, hN⟩ := C
  intro lsA H locs hL hW hS
  exact W.objInit hx hb hfo (hts _ ml) (hts _ b_in_objectInit) (hts _ b_co_objectInit) rfl (hL.1.trans hml.symm) rfl hdg (by omega) (by show 2 * 0 + ((st.map (vv E)).map fun v => v.category).sum + 12 ≤ _; rw [vv_cats]; omega) (h lsA H locs hL hW hS)
theorem k_new (C : CK E X own cc nL ret dep) (K : KX E b X MC MS) {ci N index : Nat} {RC : String} {T : u_T} (id : ID) (hk : me_kd id.1 = .inl ci) (hc : vwCl[ci]? = some (RC, T, N)) (hNf : me_nf ci = N) (hin : ∀ w ∈ u_ws RC T N, w ∈ BW) (ty0 : Nat → FieldType) (hty : ∀ j, j < N → parseFieldDescriptor (T j).2.2.1 = some (ty0 j)) (hdf : ∀ j, j < N → defaultValue (ty0 j) = df id j) (hcl : Cond.classLink own index RC ∈ BW) (hinst : Cond.instantiable RC N ∈ BW) (hini : Cond.initialized RC ∈ BW) (hv : vd id) (hof : offs id = k) (hnt : ∀ j, ntk id.1 j = true → n ≤ tmk id j) (hdg : decode cc pc = .ok (.new index, 3)) (h1 : cells + 1 ≤ MC) (h2 : slots + N ≤ MS) (h : GK E b X (cells + 1) (slots + N) nL (pc + 3) ls (rv id :: st) (k + 1) n) : GK E b X cells slots nL pc ls st k n := by
  obtain ⟨p, l, e, R, s, m, args, below, meth, c, x1, x2, QF, A, H0⟩ := X
  obtain ⟨hx, hb, hml, hfo, hts, hrt, hlk, hK, hA, hE0, hfr, hlo, hce, hsl, hN⟩ := C
  obtain ⟨hE, hA2, hO, hMC, hMS⟩ := K
  intro lsA H locs hL hW hS
  have hKn := hK.1 ci _ hc
  have hid : E.2.1 id = H.size := by rw [hE id hv, hof, hW.1]
  refine W.newcK hx hb hfo (hts _ hcl) (hts _ hinst) (hts _ hini) rfl hdg (Nat.le_trans h1 hMC) (Nat.le_trans h2 hMS) hKn.2.1 rfl fun H1 kC hkC e1 z1 o1 => ?_
  have hw : WR2 E n id H1 := by
    unfold WR2
    rw [hk]
    rw [← hid] at e1
    show t_OB _ _ (me_nf ci) _ _ _
    rw [hNf]
    exact (u_born ty0 hts hin hKn hkC e1 hty).to (fun j hj => (hdf j hj).trans (sv2_df (hnt j)).symm)
  have h3 := h lsA H1 locs hL (hW.grow hE hv hof z1 o1 hw) ⟨Nat.le_trans hS.1 (by omega), fun q g1 g2 => (o1 q (Nat.lt_of_lt_of_le g1 hS.1)).trans (hS.2.1 q g1 g2), hS.2.2⟩
  rw [List.map_cons, show vv E (rv id) = .ref H.size from congrArg Value.ref hid] at h3
  exact h3
theorem k_newaI (C : CK E X own cc nL ret dep) (K : KX E b X MC MS) (id : ID) {nn : Nat} {x : Int32} (hk : me_kd id.1 = .inr (0, nn)) (hv : vd id) (hof : offs id = k) (hnt : ∀ j, ntk id.1 j = true → n ≤ tmk id j) (hx0 : ¬ x < 0) (hNn : x.toNatClampNeg = nn) (hby : nn ≤ 5000) (hdg : decode cc pc = .ok (.newarray .int, 2)) (h1 : cells + 1 ≤ MC) (h2 : slots + nn ≤ MS) (h : GK E b X (cells + 1) (slots + nn) nL (pc + 2) ls (rv id :: st) (k + 1) n) : GK E b X cells slots nL pc ls (iv x :: st) k n := by
  obtain ⟨p, l, e, R, s, m, args, below, meth, c, x1, x2, QF, A, H0⟩ := X
  obtain ⟨hx, hb, hml, hfo, hts, hrt, hlk, hK, hA, hE0, hfr, hlo, hce, hsl, hN⟩ := C
  obtain ⟨hE, hA2, hO, hMC, hMS⟩ := K
  intro lsA H locs hL hW hS
  have hid : E.2.1 id = H.size := by rw [hE id hv, hof, hW.1]
  refine va_newaK hx hb (atype := .int) (hts _ b_ac_int) rfl hdg rfl hx0 hNn (Nat.le_trans (Nat.mul_le_mul_right _ hby) (by decide)) (Nat.le_trans h1 hMC) (Nat.le_trans h2 hMS) rfl fun H1 cA e1 z1 o1 hAr hNm => ?_
  have hcA : cA = E.2.2 0 := Option.some.inj (hNm.symm.trans (hK.2 0 _ rfl).2)
  subst hcA
  have hw : WR2 E n id H1 := by
    unfold WR2
    rw [hk, hid]
    show H1[H.size]? = some (vp_cell (E.2.2 0) (nn, .inl (m2 n id)))
    rw [e1, show m2 n id = fun _ => 0 from funext fun j => m2_df (hnt j)]
    rfl
  have h3 := h lsA H1 locs hL (hW.grow hE hv hof z1 o1 hw) ⟨Nat.le_trans hS.1 (by omega), fun q g1 g2 => (o1 q (Nat.lt_of_lt_of_le g1 hS.1)).trans (hS.2.1 q g1 g2), hS.2.2⟩
  rw [List.map_cons, show vv E (rv id) = .ref H.size from congrArg Value.ref hid] at h3
  exact h3
theorem k_anew (C : CK E X own cc nL ret dep) (K : KX E b X MC MS) (id : ID) {ty nn index : Nat} {RC : String} {x : Int32} (hk : me_kd id.1 = .inr (ty, nn)) (hty : 2 ≤ ty) (ht : (tyE E)[ty]? = some (E.2.2 ty, .object RC)) (hao : AOs X.2.2.2.2.1 → va_AO RC X.2.2.2.2.1) (hcl : Cond.classLink own index RC ∈ BW) (hv : vd id) (hof : offs id = k) (hnt : ∀ j, ntk id.1 j = true → n ≤ tmk id j) (hx0 : ¬ x < 0) (hNn : x.toNatClampNeg = nn) (hby : nn ≤ 5000) (hdg : decode cc pc = .ok (.anewarray index, 3)) (h1 : cells + 1 ≤ MC) (h2 : slots + nn ≤ MS) (h : GK E b X (cells + 1) (slots + nn) nL (pc + 3) ls (rv id :: st) (k + 1) n) : GK E b X cells slots nL pc ls (iv x :: st) k n := by
  obtain ⟨p, l, e, R, s, m, args, below, meth, c, x1, x2, QF, A, H0⟩ := X
  obtain ⟨hx, hb, hml, hfo, hts, hrt, hlk, hK, hA, hE0, hfr, hlo, hce, hsl, hN⟩ := C
  obtain ⟨hE, hA2, hO, hMC, hMS⟩ := K
  intro lsA H locs hL hW hS
  subst hNn
  have hid : E.2.1 id = H.size := by rw [hE id hv, hof, hW.1]
  refine W.anew hx hb hfo (hts _ hcl) (va_AO.use (hao hO)) rfl hdg rfl hx0 (Nat.le_trans (Nat.mul_le_mul_right _ hby) (by decide)) (Nat.le_trans h1 hMC) (Nat.le_trans h2 hMS) fun cA kA comp f1 f2 f3 f4 => ?_
  generalize hH1 : H.push ({ cls := cA, slots := Array.replicate x.toNatClampNeg .null, vm := .none } : Cell) = H1
  have z1 : H1.size = H.size + 1 := by rw [← hH1, Array.size_push]
  have e1 : H1[H.size]? = some (arrV cA x.toNatClampNeg (fun _ => .null)) := by rw [← hH1, Array.getElem?_push_size, ← arrV_new]
  have o1 : ∀ q : Nat, q < H.size → H1[q]? = H[q]? := fun q hq => by rw [← hH1, Array.getElem?_push, if_neg (Nat.ne_of_lt hq)]
  obtain ⟨kA2, comp2, g1, g2, g3, g4⟩ := (hK.2 ty _ ht).2
  have hcA : cA = E.2.2 ty := Option.some.inj (f1.symm.trans g4)
  subst hcA
  have hw : WR2 E n id H1 := by
    unfold WR2
    rw [hk, hid]
    simp only [if_neg (Nat.not_lt.mpr hty)]
    rw [e1, show r2 E n id = fun _ => none from funext fun j => r2_df (hnt j)]
    rfl
  have h3 := h lsA H1 locs hL (hW.grow hE hv hof z1 o1 hw) ⟨Nat.le_trans hS.1 (by omega), fun q g1 g2 => (o1 q (Nat.lt_of_lt_of_le g1 hS.1)).trans (hS.2.1 q g1 g2), hS.2.2⟩
  rw [List.map_cons, show vv E (rv id) = .ref H.size from congrArg Value.ref hid] at h3
  exact h3
theorem k_aast (C : CK E X own cc nL ret dep) (K : KX E b X MC MS) {id r : ID} {ty nn ci N j : Nat} {RC : String} {T : u_T} (hk : me_kd id.1 = .inr (ty, nn)) (hty : 2 ≤ ty) (ht : (tyE E)[ty]? = some (E.2.2 ty, .object RC)) (hv : vd id) (ho : offs id < k) (hvr : vd r) (hor : offs r < k) (hkr : me_kd r.1 = .inl ci) (hc : vwCl[ci]? = some (RC, T, N)) (hj : j < nn) (hnn : nn < 2 ^ 31) (hs : me_sl id j = some r) (hst : nstep n (n + 1) id j) (hdg : decode cc pc = .ok (.aastore, 1)) (h : GK E b X cells slots nL (pc + 1) ls st k (n + 1)) : GK E b X cells slots nL pc ls (rv r :: iv (nI j) :: rv id :: st) k n := by
  obtain ⟨p, l, e, R, s, m, args, below, meth, c, x1, x2, QF, A, H0⟩ := X
  obtain ⟨hx, hb, hml, hfo, hts, hrt, hlk, hK, hA, hE0, hfr, hlo, hce, hsl, hN⟩ := C
  obtain ⟨hE, hA2, hO, hMC, hMS⟩ := K
  intro lsA H locs hL hW hS
  have w1 := hW.2 id hv ho
  have w2 := hW.2 r hvr hor
  unfold WR2 at w1 w2
  rw [hk] at w1
  rw [hkr] at w2
  simp only [if_neg (Nat.not_lt.mpr hty)] at w1
  obtain ⟨cellV, g1, g2, g3, -⟩ := w2
  have hcls := (hK.1 ci _ hc).2
  obtain ⟨kA, comp, k1, k2, k3, -⟩ := (hK.2 ty _ ht).2
  have hcomp : comp = E.1.1 ci := Option.some.inj (k3.symm.trans hcls.1)
  subst hcomp
  obtain ⟨kC, hkC, -⟩ := hcls.2
  have hin := nI_in hj hnn
  have hcl : (nI j).toNatClampNeg = j := nI_clamp (Nat.lt_trans hj hnn)
  refine W.aast hx hb w1 (fun q h => by cases h) (fun h => by cases h) k1 k2 rfl hkC ⟨fun q => hin (Or.inl q), by show _ < (arrV _ _ _).slots.size; rw [arrV_size, hcl]; exact hj⟩ g1 (fun q h => by rw [g3] at h; cases h) (by rw [g2]; exact hkC) (by rw [g2]; exact va_assign hcls) rfl rfl hdg fun H1 e z oq => ?_
  refine h lsA H1 _ hL (hW.put hE hv z oq hst ?_) (hS.put z oq (hA id hv))
  have hst' := hst
  unfold WR2
  rw [hk]
  simp only [if_neg (Nat.not_lt.mpr hty)]
  rw [e, hcl, vp_cell_q, vp_cell_q, arrV_store]
  congr 2
  funext q
  rcases hst with ⟨q1, -⟩ | ⟨-, q2, q3⟩
  · omega
  by_cases hq : q = j
  · subst hq
    unfold r2
    rw [if_pos (dn_yes q2 (by omega)), hs]
    simp [updV, va_rf]
  · unfold r2
    rw [dn_step hv hv hst' (fun z => hq z.2)]
    simp [updV, hq]
theorem k_puti (C : CK E X own cc nL ret dep) (K : KX E b X MC MS) {id : ID} {ci N index : Nat} {RC : String} {T : u_T} (j : Nat) (hk : me_kd id.1 = .inl ci) (hc : vwCl[ci]? = some (RC, T, N)) (hNf : me_nf ci = N) (hj : j < N) (hin : ∀ w ∈ u_ws RC T N, w ∈ BW) (ho : (T j).1 = RC) (hl : Cond.fieldLink own index RC (T j).2.1 (T j).2.2.1 ∈ BW) (hv : vd id) (hof : offs id < k)  (n' : Nat) (ty0 : Nat → FieldType) (hty : ∀ q, q < N → parseFieldDescriptor (T q).2.2.1 = some (ty0 q)) (hnm : ∀ a, a < N → ∀ q, q < N → a ≠ q → (T a).2.1 ≠ (T q).2.1) (hfin : (T j).2.2.2 = false) {x : VV} (hnar : narrow (ty0 j) (vv E x) = vv E x) (hfit : fits (ty0 j) (vv E x) = true) (hst0 : nstep n n' id j) (hval : vv E x = sv2 E n' id j) (hdg : decode cc pc = .ok (.putfield index, 3)) (h : GK E b X cells slots nL (pc + 3) ls st k n') : GK E b X cells slots nL pc ls (x :: rv id :: st) k n := by
  obtain ⟨p, l, e, R, s, m, args, below, meth, c, x1, x2, QF, A, H0⟩ := X
  obtain ⟨hx, hb, hml, hfo, hts, hrt, hlk, hK, hA, hE0, hfr, hlo, hce, hsl, hN⟩ := C
  obtain ⟨hE, hA2, hO, hMC, hMS⟩ := K
  intro lsA H locs hL hW hS
  have h1 := hW.2 id hv hof
  unfold WR2 at h1
  rw [hk] at h1
  obtain ⟨cell, q1, q2, q3, q4⟩ := h1
  have hKc := hK.1 ci _ hc
  have hap := me_apart hts hin ty0 hty hnm hKc
  obtain ⟨hS', hfc, kC, hkC, hkind⟩ := hKc
  obtain ⟨cf, kf, fi, f, hi, hsl'⟩ := hS' j hj
  have hlay := hts _ (hin _ (u_in_lay hj))
  unfold u_lay at hlay
  rw [if_neg (by rw [hfin]; decide)] at hlay
  have hst := (u_facts hfc hkC (u_lays hts hin hj) hi).1
  have h6 := u_store hfc hkC hkind hlay hi (hty j hj) hnar hfit
  refine W.putK hx hb (f := f) ⟨hfo, hts _ hl, ⟨_, _, _, (by rw [ho] at hi; exact hi)⟩, hst⟩ (by rw [q2]; exact h6) q1 q3 (by rw [hsl']; exact k2_hasslot (q4 j (by rw [hNf]; exact hj))) rfl rfl hdg fun H' e1 e2 e3 => ?_
  rw [hsl'] at e1 ⊢
  refine h lsA H' _ hL (hW.put hE hv e2 e3 hst0 ?_) (hS.put e2 e3 (hA id hv))
  unfold WR2
  rw [hk]
  refine t_OB.to (V := updV (sv2 E n id) j (vv E x)) ⟨_, e1, q2, q3, t_set (by rw [hNf] at q4 ⊢; exact q4) (by rw [hNf]; exact hap) (by rw [hNf]; exact hj) _⟩ (fun q _ => ?_)
  by_cases hb' : q = j
  · subst hb'
    rw [← hval]
    simp [updV]
  · have : sv2 E n' id q = sv2 E n id q := by
      unfold sv2
      rw [dn_step hv hv hst0 (fun z => hb' z.2)]
    rw [this]
    simp [updV, hb']
theorem k_putr (C : CK E X own cc nL ret dep) (K : KX E b X MC MS) {id : ID} {ci N index : Nat} {RC : String} {T : u_T} (j : Nat) (hk : me_kd id.1 = .inl ci) (hc : vwCl[ci]? = some (RC, T, N)) (hNf : me_nf ci = N) (hj : j < N) (hin : ∀ w ∈ u_ws RC T N, w ∈ BW) (ho : (T j).1 = RC) (hl : Cond.fieldLink own index RC (T j).2.1 (T j).2.2.1 ∈ BW) (hv : vd id) (hof : offs id < k) (hown : RC = own) (hI : KI X) (n' : Nat) (ty0 : Nat → FieldType) (hty : ∀ q, q < N → parseFieldDescriptor (T q).2.2.1 = some (ty0 q)) (hnm : ∀ a, a < N → ∀ q, q < N → a ≠ q → (T a).2.1 ≠ (T q).2.1) (hfin : (T j).2.2.2 = true) {x : VV} (hnar : narrow (ty0 j) (vv E x) = vv E x) (hfit : fits (ty0 j) (vv E x) = true) (hst0 : nstep n n' id j) (hval : vv E x = sv2 E n' id j) (hdg : decode cc pc = .ok (.putfield index, 3)) (h : GK E b X cells slots nL (pc + 3) ls st k n') : GK E b X cells slots nL pc ls (x :: rv id :: st) k n := by
  obtain ⟨p, l, e, R, s, m, args, below, meth, c, x1, x2, QF, A, H0⟩ := X
  obtain ⟨hx, hb, hml, hfo, hts, hrt, hlk, hK, hA, hE0, hfr, hlo, hce, hsl, hN⟩ := C
  obtain ⟨hE, hA2, hO, hMC, hMS⟩ := K
  intro lsA H locs hL hW hS
  have h1 := hW.2 id hv hof
  unfold WR2 at h1
  rw [hk] at h1
  obtain ⟨cell, q1, q2, q3, q4⟩ := h1
  have hKc := hK.1 ci _ hc
  have hap := me_apart hts hin ty0 hty hnm hKc
  obtain ⟨hS', hfc, kC, hkC, hkind⟩ := hKc
  obtain ⟨cf, kf, fi, f, hi, hsl'⟩ := hS' j hj
  have hlay := hts _ (hin _ (u_in_lay hj))
  unfold u_lay at hlay
  rw [if_pos hfin] at hlay
  have hst := (u_facts hfc hkC (u_lays hts hin hj) hi).1
  have hcf : m.cls = cf := by
    obtain ⟨_, _, c', _, _, _, -, -, hf', -, -, -, hown2, -⟩ := Cond.laysFinal_spec hlay
    have e1 : c' = cf := by have := hi.symm.trans hf'; simp at this; exact this.1.symm
    rw [ho, hown] at hown2
    rw [← e1]; exact Option.some.inj (hfo.symm.trans hown2)
  have h6 := u_fits hfc hkC hkind (Or.inr hlay) hi (hty j hj) hnar hfit
  refine W.putFinK hx hb hfo (hts _ hl) (by rw [ho] at hi; exact hi) hst hcf hI (by rw [q2]; exact h6) q1 q3 (by rw [hsl']; exact k2_hasslot (q4 j (by rw [hNf]; exact hj))) rfl rfl hdg fun H' e1 e2 e3 => ?_
  rw [hsl'] at e1 ⊢
  refine h lsA H' _ hL (hW.put hE hv e2 e3 hst0 ?_) (hS.put e2 e3 (hA id hv))
  unfold WR2
  rw [hk]
  refine t_OB.to (V := updV (sv2 E n id) j (vv E x)) ⟨_, e1, q2, q3, t_set (by rw [hNf] at q4 ⊢; exact q4) (by rw [hNf]; exact hap) (by rw [hNf]; exact hj) _⟩ (fun q _ => ?_)
  by_cases hb' : q = j
  · subst hb'
    rw [← hval]
    simp [updV]
  · have : sv2 E n' id q = sv2 E n id q := by
      unfold sv2
      rw [dn_step hv hv hst0 (fun z => hb' z.2)]
    rw [this]
    simp [updV, hb']
theorem k_getr (C : CK E X own cc nL ret dep) {id : ID} {ci N index : Nat} {RC : String} {T : u_T} (j : Nat) (hk : me_kd id.1 = .inl ci) (hc : vwCl[ci]? = some (RC, T, N)) (hNf : me_nf ci = N) (hj : j < N) (hin : ∀ w ∈ u_ws RC T N, w ∈ BW) (ho : (T j).1 = RC) (hl : Cond.fieldLink own index RC (T j).2.1 (T j).2.2.1 ∈ BW) (hv : vd id) (hof : offs id < k) {r : ID} (hs : me_sl id j = some r) (hn1 : ntk id.1 j = true) (hn2 : tmk id j < n) (hdg : decode cc pc = .ok (.getfield index, 3)) (h : GK E b X cells slots nL (pc + 3) ls (rv r :: st) k n) : GK E b X cells slots nL pc ls (rv id :: st) k n := by
  obtain ⟨p, l, e, R, s, m, args, below, meth, c, x1, x2, QF, A, H0⟩ := X
  obtain ⟨hx, hb, hml, hfo, hts, hrt, hlk, hK, hA, hE0, hfr, hlo, hce, hsl, hN⟩ := C
  intro lsA H locs hL hW hS
  have h1 := hW.2 id hv hof
  unfold WR2 at h1
  rw [hk] at h1
  obtain ⟨cell, q1, q2, q3, q4⟩ := h1
  obtain ⟨hS', hfc, kC, hkC, hkind⟩ := hK.1 ci _ hc
  obtain ⟨cf, kf, fi, f, hi, hsl'⟩ := hS' j hj
  refine W.getf hx hb hfo (hts _ hl) (by rw [ho] at hi; exact hi) (u_facts hfc hkC (u_lays hts hin hj) hi).1 q1 (by rw [q3]; exact fun h => by cases h) (v := vv E (rv r)) ?_ rfl rfl hdg (h lsA H locs hL hW hS)
  rw [hsl', q4 j (by rw [hNf]; exact hj)]
  unfold sv2
  rw [if_pos (dn_yes hn1 hn2)]
  unfold me_sv
  rw [hs]
  rfl
theorem k_iast (C : CK E X own cc nL ret dep) (K : KX E b X MC MS) {id : ID} {nn j : Nat} {x : Int32} (hk : me_kd id.1 = .inr (0, nn)) (hv : vd id) (ho : offs id < k) (hj : j < nn) (hnn : nn < 2 ^ 31) (hst : nstep n (n + 1) id j) (hval : x = M0 id j) (hdg : decode cc pc = .ok (.iastore, 1)) (h : GK E b X cells slots nL (pc + 1) ls st k (n + 1)) : GK E b X cells slots nL pc ls (iv x :: iv (nI j) :: rv id :: st) k n := by
  obtain ⟨p, l, e, R, s, m, args, below, meth, c, x1, x2, QF, A, H0⟩ := X
  obtain ⟨hx, hb, hml, hfo, hts, hrt, hlk, hK, hA, hE0, hfr, hlo, hce, hsl, hN⟩ := C
  obtain ⟨hE, hA2, hO, hMC, hMS⟩ := K
  intro lsA H locs hL hW hS
  have w1 := hW.2 id hv ho
  unfold WR2 at w1
  rw [hk] at w1
  have w1 : H[E.2.1 id]? = some (vp_cell (E.2.2 0) (nn, .inl (m2 n id))) := w1
  have hcl : (nI j).toNatClampNeg = j := nI_clamp (Nat.lt_trans hj hnn)
  refine W.iast hx hb w1 ((hK.2 0 _ rfl).1 nn (fun q => .int (m2 n id q))) (fun q => by cases q) (by show ¬ (_ ∨ (arrV _ _ _).slots.size ≤ _); rw [arrV_size]; exact nI_in hj hnn) rfl rfl hdg fun H1 e z oq => ?_
  refine h lsA H1 _ hL (hW.put hE hv z oq hst ?_) (hS.put z oq (hA id hv))
  have hst' := hst
  unfold WR2
  rw [hk]
  show H1[_]? = some (vp_cell (E.2.2 0) (nn, .inl (m2 (n + 1) id)))
  rw [e, hcl, vp_cell_i, vp_cell_i, arrV_store]
  congr 2
  funext q
  rcases hst with ⟨q1, -⟩ | ⟨-, q2, q3⟩
  · omega
  by_cases hq : q = j
  · subst hq
    unfold m2
    rw [if_pos (dn_yes q2 (by omega)), hval]
    simp [updV]
  · unfold m2
    rw [dn_step hv hv hst' (fun z => hq z.2)]
    simp [updV, hq]
end MK
def QcK (E : EV) (b k n : Nat) : Array Value → State → Outcome → State → Prop := fun _ st oc t => (oc = .returned none ∧ WP E b k n t.heap) ∧ va_F (fun q => b ≤ q) st t
def me_rk (dep mc ms : Nat) : Room := { frames := dep, cells := mc, slots := ms, locals := 36 * dep }
def CtK (E : EV) (b : Nat) (l : Launch) (y : MethodName) (ws : List Cond) (dep : Nat) (id : ID) (k n k' n' mc ms : Nat) : Prop := EO E b → Met l y ws (me_rk dep mc ms) (va_Pc [vv E (rv id)] (fun U => WP E b k n U.heap ∧ va_K E.1 vwCl (tyE E) U ∧ NW U ∧ AOs U)) (QcK E b k' n') mc ms (fun q => b ≤ q)
theorem AOs.moved {u U : State} (hvm : u.vm.Alike U.vm) (h : AOs u) : AOs U := ⟨h.1.moved hvm, h.2.1.moved hvm, h.2.2.moved hvm⟩
section MKC
variable {p : Program} {l : Launch} {e : Env} {R : Room} {s : State} {m : MethodId} {args : Array Value} {below : List Frame} {meth : Method} {c : Code} {H : Heap} {locs : List Loc} {cells slots mc ms : Nat} {QF : State → Prop}
variable {pc : Nat} {lsA : Array Slot} {st0 : List Value} {a : Array Value} {A : Nat → Prop} {H0 : Heap}
theorem k_after {E : EV} {b k n : Nat} {rest : List Value} (hr : va_Run p l e R s m args below meth c H locs cells slots mc ms (F0 m pc lsA st0) rest (QcK E b k n a) (fun q => b ≤ q)) (hS : va_S A H0 H locs) (hA : ∀ q, b ≤ q → A q)
    (kk : ∀ (H1 : Heap) (locs1 : List Loc), WP E b k n H1 → va_S A H0 H1 locs1 → W p l e R s m args below meth c H1 locs1 (cells + mc) (slots + ms) QF (F0 m (pc + 3) lsA rest)) : W p l e R s m args below meth c H locs cells slots QF (F0 m pc lsA st0) := by
  intro T hT X
  obtain ⟨v, st₀, t, T', L, h0, X', hL, e1, e2, ⟨⟨hv, hw⟩, hz, hk⟩, st⟩ := hr T hT X
  have hv' : v = none := Outcome.returned.inj hv
  subst hv'
  rw [h0] at hz hk
  obtain ⟨t2, a1, b1⟩ := kk T'.heap (locs ++ L) (by rw [e1]; exact hw)
    ⟨Nat.le_trans hS.1 (by rw [e1]; exact hz), fun q h1 h2 => by rw [e1, hk q (Nat.lt_of_lt_of_le h1 hS.1) (fun z => h2 (hA q z))]; exact hS.2.1 q h1 h2, fun q hq => by
      rcases List.mem_append.mp hq with h | h
      · exact hS.2.2 q h
      · exact hA _ (hL q h)⟩ T' rfl X'
  exact ⟨t2, st t2 a1, b1⟩
end MKC
section MKD
variable {E : EV} {b : Nat} {X : CX} {own : String} {cc : ByteArray} {nL : Nat} {ret : Option FieldType} {dep pc cells slots MC MS k n k' n' mc ms : Nat} {ls rest : List VV}
theorem k_callI (C : CK E X own cc nL ret dep) (K : KX E b X MC MS) {y2 : MethodName} {cc2 : ByteArray} {nL2 index dep2 : Nat} {RC : String} {id : ID} (mi : MI y2 cc2 nL2 none RC 0) (hy1 : y2.name = "<init>") (hins : Cond.instanceMethod y2 ∈ BW) (ml : Cond.methodLink own index y2 ∈ BW) (hdg : decode cc pc = .ok (.invokespecial index, 3)) (hM : CtK E b X.2.1 y2 (me_ws y2 cc2 nL2 none) dep2 id k n k' n' mc ms) (hdep : dep2 + 1 ≤ dep) (hrest : rest.length ≤ 8) (h1 : cells + mc ≤ MC) (h2 : slots + ms ≤ MS) (h : GK E b X (cells + mc) (slots + ms) nL (pc + 3) ls rest k' n') : GK E b X cells slots nL pc ls (rv id :: rest) k n := by
  obtain ⟨p, l, e, R, s, m, args, below, meth, c, x1, x2, QF, A, H0⟩ := X
  obtain ⟨hx, hb, hml, hfo, hts, hrt, hlk, hK, hA, hE0, hfr, hlo, hce, hsl, hN⟩ := C
  obtain ⟨hE, hA2, hO, hMC, hMS⟩ := K
  intro lsA H locs hL hW hS
  obtain ⟨mi1, mi2, mi3, mi4, mi5, mi6⟩ := mi
  have cb : CallB R s args own index y2 cc2 nL2 none (me_ws y2 cc2 nL2 none) (me_rk dep2 mc ms) mc ms 0 := callB_of 0 hts (me_good ⟨mi1, mi2, mi3, mi4, mi5, mi6⟩) rfl rfl rfl (by rw [mi3]; exact hts _ mi2) (hts _ ml) mi4 ⟨by show dep2 + 1 ≤ _; omega, by show 8 + (nL2 + 11) + 36 * dep2 ≤ _; omega⟩
  have hr := va_runI (p := p) (l := l) (e := e) (below := below) (meth := meth) (cells := cells) (slots := slots) (locs := locs) (H := H) (g := F0 m pc lsA ((rv id :: rest).map (vv E))) (As := []) (rest := rest.map (vv E)) (b := E.2.1 id) (Qc := QcK E b k' n') ⟨hx, hb, hml, hfo, hts⟩ (hM hE) ⟨cb, hy1, hts _ hins⟩ ⟨fun a U g mk q => ⟨q.1, q.2.1, va_K.moved (u := U) (U := U.calling g mk a) (Vm.Alike.refl U.vm) q.2.2.1, nest_same (u := U) rfl q.2.2.2.1, AOs.moved (u := U) (U := U.calling g mk a) (Vm.Alike.refl U.vm) q.2.2.2.2⟩, fun U hU hWm => ⟨rfl, by rw [hU]; exact hW, va_K.moved hWm.alike hK, nest_warm hWm hN, hO.moved hWm.alike⟩⟩ rfl rfl hL.1 rfl (lv_room (by rw [vv_cats]; exact hrest)) hdg ⟨Nat.le_trans h1 hMC, Nat.le_trans h2 hMS⟩
  exact k_after hr hS hA2 fun H1 locs1 hW1 hS1 => h lsA H1 locs1 hL hW1 hS1
theorem k_callIN (C : CK E X own cc nL ret dep) (K : KX E b X MC MS) {y2 : MethodName} {cc2 : ByteArray} {nL2 index dep2 : Nat} {RC host : String} {id : ID} (mi : MI y2 cc2 nL2 none RC 0) (hy1 : y2.name = "<init>") (hins : Cond.instanceMethod y2 ∈ BW) (ml : Cond.methodLinkNest own index y2 host ∈ nestWs) (hdg : decode cc pc = .ok (.invokespecial index, 3)) (hM : CtK E b X.2.1 y2 (me_ws y2 cc2 nL2 none) dep2 id k n k' n' mc ms) (hdep : dep2 + 1 ≤ dep) (hrest : rest.length ≤ 8) (h1 : cells + mc ≤ MC) (h2 : slots + ms ≤ MS) (h : GK E b X (cells + mc) (slots + ms) nL (pc + 3) ls rest k' n') : GK E b X cells slots nL pc ls (rv id :: rest) k n := by
  obtain ⟨p, l, e, R, s, m, args, below, meth, c, x1, x2, QF, A, H0⟩ := X
  obtain ⟨hx, hb, hml, hfo, hts, hrt, hlk, hK, hA, hE0, hfr, hlo, hce, hsl, hN⟩ := C
  obtain ⟨hE, hA2, hO, hMC, hMS⟩ := K
  intro lsA H locs hL hW hS
  obtain ⟨mi1, mi2, mi3, mi4, mi5, mi6⟩ := mi
  have cb := va_cnB (R := R) (rm := me_rk dep2 mc ms) (mc := mc) (ms := ms) 0 hts (me_good ⟨mi1, mi2, mi3, mi4, mi5, mi6⟩) rfl rfl rfl (hN _ ml) (by rw [mi3]; exact hts _ mi2) mi4 ⟨by show dep2 + 1 ≤ _; omega, by show 8 + (nL2 + 11) + 36 * dep2 ≤ _; omega⟩
  have hr := va_runIN (p := p) (l := l) (e := e) (below := below) (meth := meth) (cells := cells) (slots := slots) (locs := locs) (H := H) (g := F0 m pc lsA ((rv id :: rest).map (vv E))) (As := []) (rest := rest.map (vv E)) (b := E.2.1 id) (Qc := QcK E b k' n') ⟨hx, hb, hml, hfo, hts⟩ (hM hE) ⟨cb, hy1, hts _ hins⟩ ⟨fun a U g mk q => ⟨q.1, q.2.1, va_K.moved (u := U) (U := U.calling g mk a) (Vm.Alike.refl U.vm) q.2.2.1, nest_same (u := U) rfl q.2.2.2.1, AOs.moved (u := U) (U := U.calling g mk a) (Vm.Alike.refl U.vm) q.2.2.2.2⟩, fun U hU hWm => ⟨rfl, by rw [hU]; exact hW, va_K.moved hWm.alike hK, nest_warm hWm hN, hO.moved hWm.alike⟩⟩ rfl rfl hL.1 rfl (lv_room (by rw [vv_cats]; exact hrest)) hdg ⟨Nat.le_trans h1 hMC, Nat.le_trans h2 hMS⟩
  exact k_after hr hS hA2 fun H1 locs1 hW1 hS1 => h lsA H1 locs1 hL hW1 hS1
def EXK (E : EV) (b : Nat) (X : CX) (l : Launch) (k n mc ms : Nat) : Prop := match X with
  | (p, l', e, R, s, m, args, below, meth, c, _, _, QF, A, H0) => l' = l ∧ QF = MQ below (QcK E b k n) args s mc ms (fun q => b ≤ q) ∧ A = (fun q => b ≤ q) ∧ H0 = s.heap
theorem k_vret {l : Launch} (C : CK E X own cc nL none dep) (h : EXK E b X l k n mc ms) (hdg : decode cc pc = .ok (.return_, 1)) : GK E b X mc ms nL pc ls [] k n := by
  obtain ⟨p, l, e, R, s, m, args, below, meth, c, x1, x2, QF, A, H0⟩ := X
  obtain ⟨hx, hb, hml, hfo, hts, hrt, hlk, -⟩ := C
  obtain ⟨rfl, rfl, rfl, rfl⟩ := h
  intro lsA H locs hL hW hS
  exact W.vret hx hb hrt (fun t ht hWm => ⟨⟨rfl, by rw [ht]; exact hW⟩, hS.F ht⟩) hS.2.2 hdg hlk
theorem CtK.of {l : Launch} {y : MethodName} {RC : String} {id : ID} {ls0 : List VV} (mi : MI y cc nL none RC 0) (hy1 : y.name = "<init>") (hlen : 1 ≤ nL) (hls : [rv id] ++ List.replicate (nL - 1) uv = ls0) (h : ∀ X, CK E X RC cc nL none dep → KX E b X mc ms → KI X → EXK E b X l k' n' mc ms → X.2.1 = l → GK E b X 0 0 nL 0 ls0 [] k n) : CtK E b l y (me_ws y cc nL none) dep id k n k' n' mc ms := by
  intro hE
  subst hls
  obtain ⟨mi1, mi2, mi3, mi4, mi5, mi6⟩ := mi
  refine Met.ofWF (cc := cc) (maxL := nL) (ret := none) mi6 rfl ?_
  intro p e s m args' below meth c s₁ B hml hv
  obtain ⟨rfl, hW, hK, hN, hO⟩ := hv
  have hts := atoms_spec (ws := me_ws y cc nL none) B.pre
  have hown := findClass_of_methodNamed B.named
  rw [mi3] at hown
  have hnm : meth.name = "<init>" := ((name_of_methodNamed B.named B.method).1).trans hy1
  rw [show ([vv E (rv id)] : List Value) = [rv id].map (vv E) from rfl]
  rw [entry_eq m ([rv id].map (vv E)) (fun v hv => by obtain ⟨x, -, rfl⟩ := List.mem_map.mp hv; exact vv_cat E x) nL]
  have hb2 : ∀ q, vd q → b ≤ E.2.1 q := fun q hq => by rw [hE q hq]; omega
  exact h (p, l, e, (headSpec (me_ws y cc nL none) (me_rk dep mc ms)).room, s, m, ([rv id].map (vv E)).toArray, below, meth, c, 0, 0, MQ below (QcK E b k' n') ([rv id].map (vv E)).toArray s mc ms (fun q => b ≤ q), (fun q => b ≤ q), s.heap)
    ⟨B.exec, B.bytes, hml, hown, fun w hw => hts w (List.mem_cons_of_mem _ hw), B.returns, B.notSynchronized, hK, fun q hq => hb2 q hq, hE.ok, Nat.le_refl dep, Nat.le_refl (36 * dep), Nat.zero_le _, Nat.zero_le _, hN⟩ ⟨hE, fun q hq => hq, hO, Nat.le_refl mc, Nat.le_refl ms⟩ hnm ⟨rfl, rfl, rfl, rfl⟩ rfl _ s.heap [] (me_entry E [rv id] nL hlen) hW va_S.rf
end MKD
