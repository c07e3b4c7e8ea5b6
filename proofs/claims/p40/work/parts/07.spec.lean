/-! ===== lists of writes ===== -/
/-- the number of the latest of the first n writes with the key, 0 if there is none; f: the keys by place -/
def lastw (f : Nat → Int32) : Nat → Int32 → Nat
  | 0, _ => 0
  | n + 1, key => @ite Nat (f n = key) (instDecidableEqInt32 (f n) key) (n + 1) (lastw f n key)
theorem lastw_le (f : Nat → Int32) (key : Int32) : ∀ n, lastw f n key ≤ n
  | 0 => Nat.le_refl 0
  | n + 1 => by
    unfold lastw
    split
    · exact Nat.le_refl _
    · exact Nat.le_succ_of_le (lastw_le f key n)
theorem lastw_congr {f g : Nat → Int32} (key : Int32) : ∀ n, (∀ j, j < n → f j = g j) → lastw f n key = lastw g n key
  | 0, _ => rfl
  | n + 1, h => by
    unfold lastw
    rw [h n (Nat.lt_succ_self n), lastw_congr key n (fun j hj => h j (Nat.lt_succ_of_lt hj))]
theorem lastw_yes {f : Nat → Int32} {n : Nat} {key : Int32} (h : f n = key) : lastw f (n + 1) key = n + 1 := by unfold lastw; rw [if_pos h]
theorem lastw_no {f : Nat → Int32} {n : Nat} {key : Int32} (h : ¬ f n = key) : lastw f (n + 1) key = lastw f n key := by rw [lastw, if_neg h]
/-- how many of the writes at places p to n - 1 have the key -/
def cntw (f : Nat → Int32) (p : Nat) (key : Int32) : Nat → Nat
  | 0 => 0
  | n + 1 => cntw f p key n + if p ≤ n ∧ f n = key then 1 else 0
theorem cntw_le (f : Nat → Int32) (p : Nat) (key : Int32) : ∀ n, cntw f p key n ≤ n
  | 0 => Nat.le_refl 0
  | n + 1 => by
    unfold cntw
    have := cntw_le f p key n
    split <;> omega
theorem cntw_0 (f : Nat → Int32) (p : Nat) (key : Int32) : ∀ n, n ≤ p → cntw f p key n = 0
  | 0, _ => rfl
  | n + 1, h => by
    unfold cntw
    rw [cntw_0 f p key n (by omega), if_neg (by omega)]
theorem cntw_congr {f g : Nat → Int32} (p : Nat) (key : Int32) : ∀ n, (∀ j, j < n → f j = g j) → cntw f p key n = cntw g p key n
  | 0, _ => rfl
  | n + 1, h => by
    unfold cntw
    rw [h n (Nat.lt_succ_self n), cntw_congr p key n (fun j hj => h j (Nat.lt_succ_of_lt hj))]
/-! ===== what each call means, on the model's row of numbers ===== -/
abbrev ZZ : Type := Nat → Int32
noncomputable def cif {α : Type} (p : Prop) (a b : α) : α := @ite α p (Classical.propDecidable p) a b
theorem cif_pos {α : Type} {p : Prop} {a b : α} (h : p) : cif p a b = a := if_pos h
theorem cif_neg {α : Type} {p : Prop} {a b : α} (h : ¬ p) : cif p a b = b := if_neg h
/-- a replica's, a session's, a write's number (the write's place: its number less one) -/
def rz (z : ZZ) (r w : Nat) : Int32 := z (5 + 5 * r + w)
def sz (z : ZZ) (s w : Nat) : Int32 := z (30 + 33 * s + w)
def wz (z : ZZ) (j w : Nat) : Int32 := z (294 + 3 * j + w)
def rs (z : ZZ) (r w : Nat) (v : Int32) : ZZ := upd z (5 + 5 * r + w) v
def ss (z : ZZ) (s w : Nat) (v : Int32) : ZZ := upd z (30 + 33 * s + w) v
def wsx (z : ZZ) (j w : Nat) (v : Int32) : ZZ := upd z (294 + 3 * j + w) v
theorem rz_rs {z : ZZ} {r w r' w' : Nat} {v : Int32} (hw : w < 5) (hw' : w' < 5) : rz (rs z r w v) r' w' = if r' = r ∧ w' = w then v else rz z r' w' := by
  unfold rz rs upd
  by_cases h : r' = r ∧ w' = w
  · rw [if_pos h, if_pos (by omega)]
  · rw [if_neg h, if_neg (by omega)]
theorem sz_rs {z : ZZ} {r w s' w' : Nat} {v : Int32} (hr : r < 5) (hw : w < 5) : sz (rs z r w v) s' w' = sz z s' w' := by
  unfold sz rs upd
  rw [if_neg (by omega)]
theorem wz_rs {z : ZZ} {r w s' w' : Nat} {v : Int32} (hr : r < 5) (hw : w < 5) : wz (rs z r w v) s' w' = wz z s' w' := by
  unfold wz rs upd
  rw [if_neg (by omega)]
theorem hz_rs {z : ZZ} {r w j : Nat} {v : Int32} (hj : j < 5) : rs z r w v j = z j := by
  unfold rs upd
  rw [if_neg (by omega)]
theorem sz_ss {z : ZZ} {r w r' w' : Nat} {v : Int32} (hw : w < 33) (hw' : w' < 33) : sz (ss z r w v) r' w' = if r' = r ∧ w' = w then v else sz z r' w' := by
  unfold sz ss upd
  by_cases h : r' = r ∧ w' = w
  · rw [if_pos h, if_pos (by omega)]
  · rw [if_neg h, if_neg (by omega)]
theorem rz_ss {z : ZZ} {s w r' w' : Nat} {v : Int32} (hr : r' < 5) (hw : w' < 5) : rz (ss z s w v) r' w' = rz z r' w' := by
  unfold rz ss upd
  rw [if_neg (by omega)]
theorem wz_ss {z : ZZ} {s w j w' : Nat} {v : Int32} (hs : s < 8) (hw : w < 33) : wz (ss z s w v) j w' = wz z j w' := by
  unfold wz ss upd
  rw [if_neg (by omega)]
theorem hz_ss {z : ZZ} {s w j : Nat} {v : Int32} (hj : j < 5) : ss z s w v j = z j := by
  unfold ss upd
  rw [if_neg (by omega)]
theorem wz_ws {z : ZZ} {r w r' w' : Nat} {v : Int32} (hw : w < 3) (hw' : w' < 3) : wz (wsx z r w v) r' w' = if r' = r ∧ w' = w then v else wz z r' w' := by
  unfold wz wsx upd
  by_cases h : r' = r ∧ w' = w
  · rw [if_pos h, if_pos (by omega)]
  · rw [if_neg h, if_neg (by omega)]
theorem rz_ws {z : ZZ} {s w r' w' : Nat} {v : Int32} (hr : r' < 5) (hw : w' < 5) : rz (wsx z s w v) r' w' = rz z r' w' := by
  unfold rz wsx upd
  rw [if_neg (by omega)]
theorem sz_ws {z : ZZ} {s w j w' : Nat} {v : Int32} (hs : j < 8) (hw : w' < 33) : sz (wsx z s w v) j w' = sz z j w' := by
  unfold sz wsx upd
  rw [if_neg (by omega)]
theorem hz_ws {z : ZZ} {s w j : Nat} {v : Int32} (hj : j < 5) : wsx z s w v j = z j := by
  unfold wsx upd
  rw [if_neg (by omega)]
theorem rz_h {z : ZZ} {j r w : Nat} {v : Int32} (hj : j < 5) : rz (upd z j v) r w = rz z r w := by
  unfold rz upd
  rw [if_neg (by omega)]
theorem sz_h {z : ZZ} {j r w : Nat} {v : Int32} (hj : j < 5) : sz (upd z j v) r w = sz z r w := by
  unfold sz upd
  rw [if_neg (by omega)]
theorem wz_h {z : ZZ} {j r w : Nat} {v : Int32} (hj : j < 5) : wz (upd z j v) r w = wz z r w := by
  unfold wz upd
  rw [if_neg (by omega)]
theorem upd_at {z : ZZ} {j i : Nat} {v : Int32} : upd z j v i = if i = j then v else z i := rfl
def isR (z : ZZ) (r : Int32) : Prop := ∃ i, i < 5 ∧ r = nI i ∧ rz z i 0 = 1
def isS (z : ZZ) (s : Int32) : Prop := ∃ i, i < 8 ∧ s = nI i ∧ sz z i 0 = 1
def isP (z : ZZ) (p : Int32) : Prop := p = nI 9 ∨ isR z p
def isK (k : Int32) : Prop := nI 0 ≤ k ∧ k ≤ nI 11
theorem isK_nat {k : Int32} (h : isK k) : ∃ q, q < 12 ∧ k = nI q := by
  obtain ⟨n, hn, e⟩ := xI_le_of (x := k) (N := 11) h.1 h.2 (by decide)
  exact ⟨n, by omega, e⟩
theorem isR_nat {z : ZZ} {i : Nat} (hi : i < 2 ^ 31) : isR z (nI i) ↔ i < 5 ∧ rz z i 0 = 1 := by
  constructor
  · rintro ⟨j, hj, e, h⟩
    have := xI_inj hi (by omega) e
    subst this
    exact ⟨hj, h⟩
  · rintro ⟨h1, h2⟩
    exact ⟨i, h1, rfl, h2⟩
theorem isS_nat {z : ZZ} {i : Nat} (hi : i < 2 ^ 31) : isS z (nI i) ↔ i < 8 ∧ sz z i 0 = 1 := by
  constructor
  · rintro ⟨j, hj, e, h⟩
    have := xI_inj hi (by omega) e
    subst this
    exact ⟨hj, h⟩
  · rintro ⟨h1, h2⟩
    exact ⟨i, h1, rfl, h2⟩
/-- a place by its number -/
def isPn (z : ZZ) (p : Nat) : Prop := p = 9 ∨ (p < 5 ∧ rz z p 0 = 1)
theorem isP_nat {z : ZZ} {p : Int32} (h : isP z p) : ∃ q, p = nI q ∧ isPn z q := by
  rcases h with h | ⟨i, h1, h2, h3⟩
  · exact ⟨9, h, Or.inl rfl⟩
  · exact ⟨i, h2, Or.inr ⟨h1, h3⟩⟩
theorem isP_of {z : ZZ} {p : Nat} (h : isPn z p) : isP z (nI p) := by
  rcases h with rfl | ⟨h1, h2⟩
  · exact Or.inl rfl
  · exact Or.inr ⟨p, h1, rfl, h2⟩
def posz (z : ZZ) (p : Nat) : Int32 := if p = 9 then z 0 else rz z p 1
def keyf (z : ZZ) (j : Nat) : Int32 := wz z j 0
def nt (x : Int32) : Nat := x.toNatClampNeg
theorem nt_nI {n : Nat} (h : n < 2 ^ 31) : nt (nI n) = n := nI_clamp h
def valz (z : ZZ) (v : Nat) : Int32 := if v = 0 then -6 else wz z (v - 1) 1
noncomputable def hasz (z : ZZ) (s : Nat) (o : Int32) : Prop := ¬ (sz z s 2 &&& o) = 0
noncomputable def needz (z : ZZ) (s : Nat) : Nat := max (cif (hasz z s (nI 1)) (nt (sz z s 4)) 0) (cif (hasz z s (nI 2)) (nt (sz z s 5)) 0)
noncomputable def nedz (z : ZZ) (s : Nat) (key : Int32) : Nat := cif (hasz z s (nI 4)) (lastw (keyf z) (needz z s) key) (needz z s)
/-- the wait of n positions at most for a place: what a replica at p with its rate and stop needs for a position n -/
noncomputable def tkz (p n : Nat) (st rate : Int32) : Int32 := cif (n ≤ p) (nI 0) (cif (st = 1 ∨ rate = 0) (-6) ((nI (n - p) + rate - nI 1) / rate))
noncomputable def waitz (z : ZZ) (s : Nat) (key : Int32) (p : Nat) : Int32 := cif (p = 9) (nI 0) (tkz (nt (rz z p 1)) (nedz z s key) (rz z p 3) (rz z p 2))
/-- what holds of each state -/
def Inv (z : ZZ) (c : Nat) : Prop := c ≤ 200 ∧ z 0 = nI c ∧
  (∀ r, r < 5 → (rz z r 0 = 0 ∨ rz z r 0 = 1) ∧ (rz z r 0 = 1 → (∃ p, p ≤ c ∧ rz z r 1 = nI p) ∧ (∃ q, q ≤ 9 ∧ rz z r 2 = nI q) ∧ (rz z r 3 = 0 ∨ rz z r 3 = 1))) ∧
  (∀ s, s < 8 → (sz z s 0 = 0 ∨ sz z s 0 = 1) ∧ (sz z s 0 = 1 → isP z (sz z s 1) ∧ (∃ b, b ≤ 20 ∧ sz z s 3 = nI b) ∧ (∃ a, a ≤ c ∧ sz z s 4 = nI a) ∧ (∃ a, a ≤ c ∧ sz z s 5 = nI a)))
