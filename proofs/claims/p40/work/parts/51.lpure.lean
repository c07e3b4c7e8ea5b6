/-! ===== what the law's helpers mean, in the words of the row ===== -/
theorem and31_n (x : Int32) : ∃ n, n < 2 ^ 31 ∧ x &&& 2147483647 = nI n := xI_of (by
  rw [Int32.le_iff_toInt_le, Int32.toInt_zero]
  show 0 ≤ (x &&& 2147483647).toBitVec.toInt
  apply BitVec.toInt_nonneg_of_msb_false
  rw [Int32.toBitVec_and, BitVec.msb_and, show (2147483647 : Int32).toBitVec.msb = false by decide, Bool.and_false])
def lowz (x : Int32) (N : Nat) : Nat := (x &&& 2147483647).toNatClampNeg % N
theorem low_lt (x : Int32) : (x &&& 2147483647).toNatClampNeg < 2 ^ 31 := by
  obtain ⟨n, hn, e⟩ := and31_n x
  rw [e, nI_clamp hn]; exact hn
theorem low_m (x : Int32) : x &&& 2147483647 = nI ((x &&& 2147483647).toNatClampNeg) := by
  obtain ⟨n, hn, e⟩ := and31_n x
  rw [e, nI_clamp hn]
theorem lowz_lt {x : Int32} {N : Nat} (h : 0 < N) : lowz x N < N := Nat.mod_lt _ h
theorem xI_mod {a b : Nat} (ha : a < 2 ^ 31) (hb : b < 2 ^ 31) : nI a - nI a / nI b * nI b = nI (a % b) := by
  rw [xI_div ha hb, xI_mul, xI_sub (Nat.div_mul_le_self a b)]
  congr 1
  have := Nat.div_add_mod a b
  rw [Nat.mul_comm] at this
  omega
section MREM
variable {E : EV} {X : CX} {own : String} {cc : ByteArray} {nL : Nat} {ret : Option FieldType} {dep pc : Nat} {ls st : List VV} {mem : MEM}
theorem f_iremn (C : CK E X own cc nL ret dep) {a b : Nat} (ha : a < 2 ^ 31) (hb : b < 2 ^ 31) (h0 : 0 < b) (hdg : decode cc pc = .ok (.irem, 1)) (h : G E X nL (pc + 1) ls (iv (nI (a % b)) :: st) mem) : G E X nL pc ls (iv (nI b) :: iv (nI a) :: st) mem := e_irem C hdg (nI_ne0 h0 hb) (by rw [xI_mod ha hb]; exact h)
/-- what is known of a memory is all that is kept of it -/
theorem e_setm {P : MEM → Prop} (h : P mem) (k : ∀ m, P m → G E X nL pc ls st m) : G E X nL pc ls st mem := k mem h
theorem e_cutn0 {tgt : Nat} {P : Nat → Prop} (k : ∀ x : Nat, P x → G E X nL tgt ls (iv (nI x) :: st) mem) (h : (∀ x : Nat, P x → G E X nL tgt ls (iv (nI x) :: st) mem) → G E X nL pc ls st mem) : G E X nL pc ls st mem := h k
theorem e_cutn1 {tgt : Nat} {P : Nat → Prop} {a : VV} (k : ∀ x : Nat, P x → G E X nL tgt ls (iv (nI x) :: st) mem) (h : (∀ x : Nat, P x → G E X nL tgt ls (iv (nI x) :: st) mem) → G E X nL pc ls (a :: st) mem) : G E X nL pc ls (a :: st) mem := h k
theorem e_cutn2 {tgt : Nat} {P : Nat → Prop} {a b : VV} (k : ∀ x : Nat, P x → G E X nL tgt ls (iv (nI x) :: st) mem) (h : (∀ x : Nat, P x → G E X nL tgt ls (iv (nI x) :: st) mem) → G E X nL pc ls (a :: b :: st) mem) : G E X nL pc ls (a :: b :: st) mem := h k
theorem e_cuti0 {tgt : Nat} {P : Int32 → Prop} (k : ∀ x : Int32, P x → G E X nL tgt ls (iv x :: st) mem) (h : (∀ x : Int32, P x → G E X nL tgt ls (iv x :: st) mem) → G E X nL pc ls st mem) : G E X nL pc ls st mem := h k
theorem e_cuti1 {tgt : Nat} {P : Int32 → Prop} {a : VV} (k : ∀ x : Int32, P x → G E X nL tgt ls (iv x :: st) mem) (h : (∀ x : Int32, P x → G E X nL tgt ls (iv x :: st) mem) → G E X nL pc ls (a :: st) mem) : G E X nL pc ls (a :: st) mem := h k
theorem e_cuti2 {tgt : Nat} {P : Int32 → Prop} {a b : VV} (k : ∀ x : Int32, P x → G E X nL tgt ls (iv x :: st) mem) (h : (∀ x : Int32, P x → G E X nL tgt ls (iv x :: st) mem) → G E X nL pc ls (a :: b :: st) mem) : G E X nL pc ls (a :: b :: st) mem := h k
theorem e_cutz0 {tgt : Nat} {P : Prop} (k : P → G E X nL tgt ls st mem) (h : (P → G E X nL tgt ls st mem) → G E X nL pc ls st mem) : G E X nL pc ls st mem := h k
theorem e_cutz1 {tgt : Nat} {P : Prop} {a : VV} (k : P → G E X nL tgt ls st mem) (h : (P → G E X nL tgt ls st mem) → G E X nL pc ls (a :: st) mem) : G E X nL pc ls (a :: st) mem := h k
theorem e_cutz2 {tgt : Nat} {P : Prop} {a b : VV} (k : P → G E X nL tgt ls st mem) (h : (P → G E X nL tgt ls st mem) → G E X nL pc ls (a :: b :: st) mem) : G E X nL pc ls (a :: b :: st) mem := h k
end MREM
theorem bit_ok : ∀ o, o < 16 → ((nI o &&& nI 1 = nI 1) ↔ ¬ (nI o &&& nI 1) = 0) ∧ ((nI o &&& nI 2 = nI 2) ↔ ¬ (nI o &&& nI 2) = 0) ∧ ((nI o &&& nI 4 = nI 4) ↔ ¬ (nI o &&& nI 4) = 0) ∧ ((nI o &&& nI 8 = nI 8) ↔ ¬ (nI o &&& nI 8) = 0) := by decide +kernel
section LZB
variable {mem : MEM} {z : ZZ} {c n : Nat}
theorem LZ.bits (h : LZ mem z c) (hX : InvX z c) (hn : n < 4) (ho : sz z n 0 = 1) : (mem (19, 0, 0) (4 + n) &&& nI 1 = nI 1 ↔ hasz z n (nI 1)) ∧ (mem (19, 0, 0) (4 + n) &&& nI 2 = nI 2 ↔ hasz z n (nI 2)) ∧ (mem (19, 0, 0) (4 + n) &&& nI 4 = nI 4 ↔ hasz z n (nI 4)) ∧ (mem (19, 0, 0) (4 + n) &&& nI 8 = nI 8 ↔ hasz z n (nI 8)) := by
  obtain ⟨o, ho15, e⟩ := hX.2.1 n (by omega) ho
  unfold hasz
  rw [h.s_opt hn ho, e]
  exact bit_ok o (by omega)
end LZB
theorem isPn_le {z : ZZ} {p : Nat} (h : isPn z p) : p ≤ 9 := by
  rcases h with rfl | ⟨h3, -⟩ <;> omega
theorem posz_n {z : ZZ} {c p : Nat} (hI : Inv z c) (hp : isPn z p) : posz z p = nI (nt (posz z p)) := by
  obtain ⟨n, hn, e⟩ := posz_nat hI hp
  have := hI.1
  rw [e, nt_nI (by omega)]
theorem posn_le {z : ZZ} {c p : Nat} (hI : Inv z c) (hp : isPn z p) : nt (posz z p) ≤ c := by
  obtain ⟨n, hn, e⟩ := posz_nat hI hp
  have := hI.1
  rw [e, nt_nI (by omega)]; exact hn
theorem posz_9 {z : ZZ} {c : Nat} (hI : Inv z c) : nt (posz z 9) = c := by
  have := hI.1
  unfold posz
  rw [if_pos rfl, hI.2.1, nt_nI (by omega)]
theorem nedz_iff {z : ZZ} {s p : Nat} {key : Int32} : nedz z s key ≤ p ↔ needz z s ≤ p ∨ (hasz z s (nI 4) ∧ lastw (keyf z) (needz z s) key ≤ p) := by
  have := lastw_le (keyf z) key (needz z s)
  unfold nedz
  by_cases h : hasz z s (nI 4)
  · rw [cif_pos h]
    exact ⟨fun q => Or.inr ⟨h, q⟩, fun q => q.elim (fun r => by omega) (fun r => r.2)⟩
  · rw [cif_neg h]
    exact ⟨fun q => Or.inl q, fun q => q.elim id (fun r => absurd r.1 h)⟩
/-- a place after some ticks; after one -/
noncomputable def itz (z : ZZ) (c pl p T : Nat) : Nat := cif (pl = 9 ∨ rz z pl 3 = 1) p (min (p + T * nt (rz z pl 2)) c)
noncomputable def stpz (z : ZZ) (c pl p : Nat) : Nat := cif (pl = 9 ∨ rz z pl 3 = 1) p (min (p + nt (rz z pl 2)) c)
theorem itz_0 {z : ZZ} {c pl p : Nat} (h : p ≤ c) : itz z c pl p 0 = p := by
  unfold itz cif
  split
  · rfl
  · rw [Nat.zero_mul]; omega
theorem itz_succ {z : ZZ} {c pl p T : Nat} : stpz z c pl (itz z c pl p T) = itz z c pl p (T + 1) := by
  unfold itz stpz
  by_cases h : pl = 9 ∨ rz z pl 3 = 1
  · rw [cif_pos h, cif_pos h, cif_pos h]
  · rw [cif_neg h, cif_neg h, cif_neg h, Nat.succ_mul]
    generalize T * nt (rz z pl 2) = a
    omega
theorem itz_le {z : ZZ} {c pl p T : Nat} (h : p ≤ c) : itz z c pl p T ≤ c := by
  unfold itz cif
  split
  · exact h
  · omega
theorem stpz_le {z : ZZ} {c pl p : Nat} (h : p ≤ c) : stpz z c pl p ≤ c := by
  unfold stpz cif
  split
  · exact h
  · omega
theorem ck_le {d r T : Nat} (hr : 0 < r) : (d + r - 1) / r ≤ T ↔ d ≤ T * r := by
  rw [Nat.div_le_iff_le_mul_add_pred hr]
  rw [Nat.mul_comm r T]
  omega
theorem tkz_le {p n c r T : Nat} {st : Int32} (hp : p ≤ c) (hn : n ≤ c) (hc : c ≤ 200) (hr : r ≤ 9) (hT : T < 2 ^ 31) : (¬ tkz p n st (nI r) = -6 ∧ tkz p n st (nI r) ≤ nI T) ↔ n ≤ cif (st = 1) p (min (p + T * r) c) := by
  unfold tkz
  by_cases h1 : n ≤ p
  · rw [cif_pos h1]
    refine ⟨fun _ => ?_, fun _ => ⟨by decide, nI_le (Nat.zero_le _) hT⟩⟩
    unfold cif
    split
    · exact h1
    · have := Nat.zero_le (T * r); omega
  · rw [cif_neg h1]
    by_cases h2 : st = 1
    · rw [cif_pos (Or.inl h2), cif_pos h2]
      exact ⟨fun q => absurd rfl q.1, fun q => absurd q h1⟩
    · rw [cif_neg h2]
      by_cases h3 : nI r = 0
      · have h4 : r = 0 := xI_inj (a := r) (b := 0) (by omega) (by decide) h3
        subst h4
        rw [cif_pos (show st = 1 ∨ nI 0 = 0 from Or.inr h3), Nat.mul_zero]
        exact ⟨fun q => absurd rfl q.1, fun q => absurd q (by omega)⟩
      · have h4 : 0 < r := Nat.pos_of_ne_zero (fun e => h3 (by rw [e]; rfl))
        have hd : (n - p + r - 1) / r < 2 ^ 31 := Nat.lt_of_le_of_lt (Nat.div_le_self _ _) (by omega)
        rw [cif_neg (fun q => q.elim h2 h3), xI_add, xI_sub (by omega), xI_div (by omega) (by omega), nI_leI hd hT, ck_le h4]
        have hne : ¬ nI ((n - p + r - 1) / r) = -6 := nI_neN hd (by decide)
        refine ⟨fun q => ?_, fun q => ⟨hne, ?_⟩⟩
        · have := q.2; omega
        · omega
theorem tkz_b {p n r : Nat} {st : Int32} (hp : p ≤ 200) (hn : n ≤ 200) (hr : r ≤ 9) : tkz p n st (nI r) = -6 ∨ ∃ w, w ≤ n ∧ tkz p n st (nI r) = nI w := by
  unfold tkz
  by_cases h1 : n ≤ p
  · rw [cif_pos h1]; exact Or.inr ⟨0, Nat.zero_le _, rfl⟩
  · rw [cif_neg h1]
    by_cases h2 : st = 1 ∨ nI r = 0
    · rw [cif_pos h2]; exact Or.inl rfl
    · have h4 : 0 < r := Nat.pos_of_ne_zero (fun e => h2 (Or.inr (by rw [e]; rfl)))
      rw [cif_neg h2, xI_add, xI_sub (by omega), xI_div (by omega) (by omega)]
      refine Or.inr ⟨_, ?_, rfl⟩
      rw [ck_le h4]
      have : n * 1 ≤ n * r := Nat.mul_le_mul_left n h4
      omega
/-- the first time at which something holds -/
theorem first_yes {W : Int32} {F : Nat → Prop} (hW : ∀ T, T < 2 ^ 31 → ((¬ W = -6 ∧ W ≤ nI T) ↔ F T)) (hb : W = -6 ∨ ∃ w, w ≤ 200 ∧ W = nI w) {k : Nat} (hk : k ≤ 200) (h1 : F k) (h2 : ∀ j, j < k → ¬ F j) : W = nI k := by
  obtain ⟨g1, g2⟩ := (hW k (by omega)).mpr h1
  obtain ⟨w, hw, e⟩ := hb.resolve_left g1
  have hwk : w ≤ k := by
    rw [e] at g2
    exact xI_leD (by omega) (by omega) g2
  by_cases hl : w < k
  · exact absurd ((hW w (by omega)).mp ⟨g1, by rw [e]; exact Int32.le_refl _⟩) (h2 w hl)
  · rw [e, show w = k by omega]
theorem first_no {W : Int32} {F : Nat → Prop} {B : Nat} (hW : ∀ T, T < 2 ^ 31 → ((¬ W = -6 ∧ W ≤ nI T) ↔ F T)) (hb : W = -6 ∨ ∃ w, w ≤ B ∧ W = nI w) {k : Nat} (hk : B < k) (hB : B < 2 ^ 31) (h2 : ∀ j, j < k → ¬ F j) : W = -6 := by
  rcases hb with h | ⟨w, hw, e⟩
  · exact h
  · have hne : ¬ W = -6 := by rw [e]; exact nI_neN (by omega) (by decide)
    exact absurd ((hW w (by omega)).mp ⟨hne, by rw [e]; exact Int32.le_refl _⟩) (h2 w (by omega))
section WG
variable {z : ZZ} {c s pl : Nat} {key : Int32}
theorem waitg_9 : waitg z s key (nI 9) = nI 0 := cif_pos rfl
theorem waitg_r (h1 : pl < 5) (h2 : rz z pl 0 = 1) : waitg z s key (nI pl) = tkz (nt (rz z pl 1)) (nedz z s key) (rz z pl 3) (rz z pl 2) := by
  unfold waitg
  rw [cif_neg (xI_ne (by omega) (by decide) (by omega)), cif_pos ⟨pl, h1, rfl, h2⟩, nt_nI (by omega)]
theorem waitg_no (h1 : pl < 5) (h2 : ¬ rz z pl 0 = 1) : waitg z s key (nI pl) = -6 := by
  unfold waitg
  rw [cif_neg (xI_ne (by omega) (by decide) (by omega)), cif_neg (fun q => h2 ((isR_nat (by omega)).mp q).2)]
theorem posz_r (h1 : pl < 5) : posz z pl = rz z pl 1 := if_neg (by omega)
theorem itz_r {p T : Nat} (h1 : pl < 5) : itz z c pl p T = cif (rz z pl 3 = 1) p (min (p + T * nt (rz z pl 2)) c) := by
  unfold itz
  rw [show (pl = 9 ∨ rz z pl 3 = 1) = (rz z pl 3 = 1) from propext ⟨fun q => q.resolve_left (by omega), Or.inr⟩]
theorem wg_le (hI : Inv z c) (hs : s < 8) (ho : sz z s 0 = 1) (hp : isPn z pl) {T : Nat} (hT : T < 2 ^ 31) : (¬ waitg z s key (nI pl) = -6 ∧ waitg z s key (nI pl) ≤ nI T) ↔ nedz z s key ≤ itz z c pl (nt (posz z pl)) T := by
  have hn := nedz_le (key := key) hI hs ho
  rcases hp with rfl | ⟨h1, h2⟩
  · rw [waitg_9, posz_9 hI]
    unfold itz
    rw [cif_pos (Or.inl rfl)]
    exact ⟨fun _ => hn, fun _ => ⟨by decide, nI_le (Nat.zero_le _) hT⟩⟩
  · obtain ⟨p, q, hp, hq, ep, eq, -⟩ := hI.reps h1 h2
    have hc := hI.1
    rw [waitg_r h1 h2, posz_r h1, itz_r h1, ep, eq, nt_nI (by omega), nt_nI (by omega)]
    exact tkz_le hp hn hc hq hT
theorem wg_b (hI : Inv z c) (hs : s < 8) (ho : sz z s 0 = 1) (hp : isPn z pl) : waitg z s key (nI pl) = -6 ∨ ∃ w, w ≤ c ∧ waitg z s key (nI pl) = nI w := by
  have hn := nedz_le (key := key) hI hs ho
  rcases hp with rfl | ⟨h1, h2⟩
  · exact Or.inr ⟨0, Nat.zero_le _, waitg_9⟩
  · obtain ⟨p, q, hp, hq, ep, eq, -⟩ := hI.reps h1 h2
    have hc := hI.1
    rw [waitg_r h1 h2, ep, eq, nt_nI (by omega)]
    rcases tkz_b (p := p) (n := nedz z s key) (r := q) (st := rz z pl 3) (by omega) (by omega) hq with h | ⟨w, hw, e⟩
    · exact Or.inl h
    · exact Or.inr ⟨w, by omega, e⟩
theorem wg_yes (hI : Inv z c) (hs : s < 8) (ho : sz z s 0 = 1) (hp : isPn z pl) {k : Nat} (hk : k ≤ 66) (h1 : nedz z s key ≤ itz z c pl (nt (posz z pl)) k) (h2 : ∀ j, j < k → ¬ nedz z s key ≤ itz z c pl (nt (posz z pl)) j) : waitg z s key (nI pl) = nI k := by
  have hc := hI.1
  refine first_yes (F := fun T => nedz z s key ≤ itz z c pl (nt (posz z pl)) T) (fun T hT => wg_le hI hs ho hp hT) ?_ (by omega) h1 h2
  rcases wg_b (key := key) hI hs ho hp with h | ⟨w, hw, e⟩
  · exact Or.inl h
  · exact Or.inr ⟨w, by omega, e⟩
theorem wg_no (hI : Inv z c) (hc : c ≤ 60) (hs : s < 8) (ho : sz z s 0 = 1) (hp : isPn z pl) {k : Nat} (hk : 60 < k) (h2 : ∀ j, j < k → ¬ nedz z s key ≤ itz z c pl (nt (posz z pl)) j) : waitg z s key (nI pl) = -6 :=
  first_no (F := fun T => nedz z s key ≤ itz z c pl (nt (posz z pl)) T) (fun T hT => wg_le hI hs ho hp hT) (wg_b hI hs ho hp) (k := k) (by omega) (by omega) h2
theorem cu_le (hI : Inv z c) (h1 : pl < 5) (h2 : rz z pl 0 = 1) {T : Nat} (hT : T < 2 ^ 31) : (¬ cupw z pl = -6 ∧ cupw z pl ≤ nI T) ↔ c ≤ itz z c pl (nt (posz z pl)) T := by
  obtain ⟨p, q, hp, hq, ep, eq, -⟩ := hI.reps h1 h2
  have hc := hI.1
  unfold cupw
  rw [posz_r h1, itz_r h1, ep, eq, hI.2.1, nt_nI (by omega), nt_nI (by omega), nt_nI (by omega)]
  exact tkz_le hp (Nat.le_refl _) hc hq hT
theorem cu_b (hI : Inv z c) (h1 : pl < 5) (h2 : rz z pl 0 = 1) : cupw z pl = -6 ∨ ∃ w, w ≤ c ∧ cupw z pl = nI w := by
  obtain ⟨p, q, hp, hq, ep, eq, -⟩ := hI.reps h1 h2
  have hc := hI.1
  unfold cupw
  rw [ep, eq, hI.2.1, nt_nI (by omega), nt_nI (by omega)]
  exact tkz_b (by omega) (by omega) hq
theorem cu_yes (hI : Inv z c) (h1 : pl < 5) (h2 : rz z pl 0 = 1) {k : Nat} (hk : k ≤ 70) (h3 : c ≤ itz z c pl (nt (posz z pl)) k) (h4 : ∀ j, j < k → ¬ c ≤ itz z c pl (nt (posz z pl)) j) : cupw z pl = nI k := by
  have hc := hI.1
  refine first_yes (F := fun T => c ≤ itz z c pl (nt (posz z pl)) T) (fun T hT => cu_le hI h1 h2 hT) ?_ (by omega) h3 h4
  rcases cu_b hI h1 h2 with h | ⟨w, hw, e⟩
  · exact Or.inl h
  · exact Or.inr ⟨w, by omega, e⟩
theorem cu_no (hI : Inv z c) (hc : c ≤ 60) (h1 : pl < 5) (h2 : rz z pl 0 = 1) {k : Nat} (hk : 60 < k) (h4 : ∀ j, j < k → ¬ c ≤ itz z c pl (nt (posz z pl)) j) : cupw z pl = -6 :=
  first_no (F := fun T => c ≤ itz z c pl (nt (posz z pl)) T) (fun T hT => cu_le hI h1 h2 hT) (cu_b hI h1 h2) (k := k) (by omega) (by omega) h4
theorem behz_it (hI : Inv z c) (h1 : pl < 5) (h2 : rz z pl 0 = 1) {T : Nat} (hT : T ≤ 99) : behz z pl (nI T) = nI (itz z c pl (nt (posz z pl)) T) := by
  obtain ⟨p, q, hp, hq, ep, eq, -⟩ := hI.reps h1 h2
  have hc := hI.1
  have hm : T * q ≤ 99 * 9 := Nat.mul_le_mul hT hq
  unfold behz
  rw [posz_r h1, itz_r h1, ep, eq, hI.2.1, nt_nI (by omega), nt_nI (by omega), xI_mul, Nat.mul_comm q T]
  have key : ∀ a, a ≤ 5000 → minI (nI a) (nI c) = nI (min a c) := fun a ha => by
    unfold minI
    by_cases h : c < a
    · rw [if_pos (nI_lt h (by omega)), Nat.min_eq_right (by omega)]
    · rw [if_neg (nI_nlt (by omega) (by omega)), Nat.min_eq_left (by omega)]
  by_cases h : rz z pl 3 = 1
  · rw [cif_pos h, cif_pos h, show nI p + (0 : Int32) = nI p from Int32.add_zero _, key p (by omega), Nat.min_eq_left hp]
  · rw [cif_neg h, cif_neg h, xI_add, key _ (by omega)]
end WG
/-- a replica's place in the law's row after some ticks -/
noncomputable def pv (z : ZZ) (c n T : Nat) : Int32 := cif (rz z n 0 = 1) (nI (itz z c n (nt (posz z n)) T)) (-1)
theorem LZ.tck {mem m : MEM} {z : ZZ} {c T : Nat} (h : LZ mem z c) (hI : Inv z c) (hT : T ≤ 99) (ho : ∀ id, id ≠ (18, 0, 0) → m id = mem id) (hj : ∀ j, 5 ≤ j → m (18, 0, 0) j = mem (18, 0, 0) j) (hp : ∀ n, n < 5 → m (18, 0, 0) n = pv z c n T) : LZ m (tck z (nI T) 5) c := by
  refine h.rz' ho (fun j w => tck_wz 5 (Nat.le_refl 5)) (fun s w _ => tck_sz 5 (Nat.le_refl 5)) (fun j hj => tck_h hj 5) (fun n hn => ?_)
  obtain ⟨g0, g9⟩ := h.2.1 n hn
  unfold LR1
  rw [tck_rz1 (by decide) (by decide) 5]
  refine ⟨fun q w hw => ?_, fun q => ?_⟩
  · by_cases e : w = 0
    · subst e
      rw [Nat.mul_zero, Nat.zero_add, hp n hn, tck_pos 5 hn, cif_pos q, behz_it hI hn q hT]
      exact cif_pos q
    · rw [tck_rz1 (by omega) (by omega) 5, hj _ (by omega)]
      exact g0 q w hw
  · rw [hp n hn]; exact cif_neg q
/-- what one step, or a look at a place, needs of the law's row -/
def LStep (mem : MEM) (z : ZZ) (c pl : Nat) : Prop := mem (21, 0, 0) 0 = nI c ∧ c ≤ 60 ∧ (pl = 9 ∨ (pl < 5 ∧ mem (18, 0, 0) (5 + pl) = rz z pl 2 ∧ mem (18, 0, 0) (10 + pl) = rz z pl 3 ∧ ∃ r, r ≤ 9 ∧ rz z pl 2 = nI r))
def LAt (mem : MEM) (pl P : Nat) : Prop := (pl = 9 ∧ mem (21, 0, 0) 0 = nI P) ∨ (pl < 5 ∧ mem (18, 0, 0) pl = nI P)
theorem LZ.step {mem : MEM} {z : ZZ} {c pl : Nat} (h : LZ mem z c) (hI : Inv z c) (hp : isPn z pl) : LStep mem z c pl := by
  refine ⟨h.t0, h.c60, ?_⟩
  rcases hp with rfl | ⟨h1, h2⟩
  · exact Or.inl rfl
  · obtain ⟨p, q, -, hq, -, eq, -⟩ := hI.reps h1 h2
    exact Or.inr ⟨h1, h.r_rate h1 h2, h.r_stop h1 h2, q, hq, eq⟩
theorem LZ.at' {mem : MEM} {z : ZZ} {c pl : Nat} (h : LZ mem z c) (hI : Inv z c) (hp : isPn z pl) : LAt mem pl (nt (posz z pl)) := by
  have e := posz_n hI hp
  rcases hp with rfl | ⟨h1, h2⟩
  · refine Or.inl ⟨rfl, ?_⟩
    rw [← e, h.t0, posz, if_pos rfl, h.z0]
  · refine Or.inr ⟨h1, ?_⟩
    rw [← e, h.r_pos h1 h2, posz_r h1]
