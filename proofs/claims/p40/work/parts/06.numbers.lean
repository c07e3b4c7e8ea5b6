/-! ===== numbers ===== -/
theorem xI_inj {a b : Nat} (ha : a < 2 ^ 31) (hb : b < 2 ^ 31) (h : nI a = nI b) : a = b := by
  have h1 := nI_toInt ha
  rw [h, nI_toInt hb] at h1
  omega
theorem xI_leD {a b : Nat} (ha : a < 2 ^ 31) (hb : b < 2 ^ 31) (h : nI a ≤ nI b) : a ≤ b := by
  rw [Int32.le_iff_toInt_le, nI_toInt ha, nI_toInt hb] at h; omega
theorem xI_nleD {a b : Nat} (ha : a < 2 ^ 31) (hb : b < 2 ^ 31) (h : ¬ nI a ≤ nI b) : b < a := by
  rw [Int32.le_iff_toInt_le, nI_toInt ha, nI_toInt hb] at h; omega
theorem xI_ltD {a b : Nat} (ha : a < 2 ^ 31) (hb : b < 2 ^ 31) (h : nI a < nI b) : a < b := by
  rw [Int32.lt_iff_toInt_lt, nI_toInt ha, nI_toInt hb] at h; omega
theorem xI_nltD {a b : Nat} (ha : a < 2 ^ 31) (hb : b < 2 ^ 31) (h : ¬ nI a < nI b) : b ≤ a := by
  rw [Int32.lt_iff_toInt_lt, nI_toInt ha, nI_toInt hb] at h; omega
theorem xI_neD {a b : Nat} (h : ¬ nI a = nI b) : a ≠ b := fun e => h (by rw [e])
theorem xI_le {a b : Nat} (ha : a < 2 ^ 31) (hb : b < 2 ^ 31) : nI a ≤ nI b ↔ a ≤ b := ⟨xI_leD ha hb, fun h => nI_le h hb⟩
theorem xI_lt {a b : Nat} (ha : a < 2 ^ 31) (hb : b < 2 ^ 31) : nI a < nI b ↔ a < b := ⟨xI_ltD ha hb, fun h => nI_lt h hb⟩
theorem xI_eq {a b : Nat} (ha : a < 2 ^ 31) (hb : b < 2 ^ 31) : nI a = nI b ↔ a = b := ⟨xI_inj ha hb, fun h => by rw [h]⟩
theorem xI_add (a b : Nat) : nI a + nI b = nI (a + b) := (Int32.ofNat_add a b).symm
theorem xI_mul (a b : Nat) : nI a * nI b = nI (a * b) := (Int32.ofNat_mul a b).symm
theorem xI_sub {a b : Nat} (h : b ≤ a) : nI a - nI b = nI (a - b) := by
  have e : nI a = nI (a - b) + nI b := by rw [xI_add]; congr 1; omega
  rw [e, Int32.add_sub_cancel]
theorem xI_of {x : Int32} (h : 0 ≤ x) : ∃ n : Nat, n < 2 ^ 31 ∧ x = nI n := by
  rw [Int32.le_iff_toInt_le, Int32.toInt_zero] at h
  have h2 := Int32.toInt_lt x
  refine ⟨x.toInt.toNat, by omega, ?_⟩
  apply Int32.toInt_inj.mp
  rw [nI_toInt (by omega)]
  omega
theorem xI_le_of {x : Int32} {N : Nat} (h : 0 ≤ x) (h1 : x ≤ nI N) (hN : N < 2 ^ 31) : ∃ n : Nat, n ≤ N ∧ x = nI n := by
  obtain ⟨n, hn, rfl⟩ := xI_of h
  exact ⟨n, xI_leD hn hN h1, rfl⟩
theorem xI_lt_of {x : Int32} {N : Nat} (h : 0 ≤ x) (h1 : x < nI N) (hN : N < 2 ^ 31) : ∃ n : Nat, n < N ∧ x = nI n := by
  obtain ⟨n, hn, rfl⟩ := xI_of h
  exact ⟨n, xI_ltD hn hN h1, rfl⟩
theorem xI_div {a b : Nat} (ha : a < 2 ^ 31) (hb : b < 2 ^ 31) : nI a / nI b = nI (a / b) := by
  apply Int32.toInt_inj.mp
  have hd : a / b < 2 ^ 31 := Nat.lt_of_le_of_lt (Nat.div_le_self a b) ha
  rw [Int32.toInt_div, nI_toInt ha, nI_toInt hb, nI_toInt hd]
  rw [Int.tdiv_eq_ediv_of_nonneg (by omega)]
  have hdd : ((a : Int) / (b : Int)) = ((a / b : Nat) : Int) := by norm_cast
  rw [hdd]
  generalize a / b = q at hd
  first
  | exact Int.bmod_eq_of_le (by omega) (by omega)
  | (unfold Int.bmod; simp; split <;> omega)
theorem xI_ne {a b : Nat} (ha : a < 2 ^ 31) (hb : b < 2 ^ 31) (h : a ≠ b) : ¬ nI a = nI b := fun q => h (xI_inj ha hb q)
theorem xI_ge0 (a : Nat) (h : a < 2 ^ 31) : (0 : Int32) ≤ nI a := nI_le (Nat.zero_le a) h
theorem xI_nlt0 {a : Nat} (h : a < 2 ^ 31) : ¬ nI a < (0 : Int32) := nI_pos h
section MN
variable {E : EV} {X : CX} {own : String} {cc : ByteArray} {nL : Nat} {ret : Option FieldType} {dep pc : Nat} {ls st : List VV} {mem : MEM}
theorem f_iaddn (C : CK E X own cc nL ret dep) {a b : Nat} (hdg : decode cc pc = .ok (.iadd, 1)) (h : G E X nL (pc + 1) ls (iv (nI (a + b)) :: st) mem) : G E X nL pc ls (iv (nI b) :: iv (nI a) :: st) mem := e_iadd C hdg (by rw [xI_add]; exact h)
theorem f_imuln (C : CK E X own cc nL ret dep) {a b : Nat} (hdg : decode cc pc = .ok (.imul, 1)) (h : G E X nL (pc + 1) ls (iv (nI (a * b)) :: st) mem) : G E X nL pc ls (iv (nI b) :: iv (nI a) :: st) mem := e_imul C hdg (by rw [xI_mul]; exact h)
theorem f_isubn (C : CK E X own cc nL ret dep) {a b : Nat} (hle : b ≤ a) (hdg : decode cc pc = .ok (.isub, 1)) (h : G E X nL (pc + 1) ls (iv (nI (a - b)) :: st) mem) : G E X nL pc ls (iv (nI b) :: iv (nI a) :: st) mem := e_isub C hdg (by rw [xI_sub hle]; exact h)
theorem f_idivn (C : CK E X own cc nL ret dep) {a b : Nat} (ha : a < 2 ^ 31) (hb : b < 2 ^ 31) (h0 : 0 < b) (hdg : decode cc pc = .ok (.idiv, 1)) (h : G E X nL (pc + 1) ls (iv (nI (a / b)) :: st) mem) : G E X nL pc ls (iv (nI b) :: iv (nI a) :: st) mem := e_idiv C hdg (nI_ne0 h0 hb) (by rw [xI_div ha hb]; exact h)
theorem f_val {x y : Int32} (e : x = y) (h : G E X nL pc ls (iv y :: st) mem) : G E X nL pc ls (iv x :: st) mem := by rw [e]; exact h
end MN
section MRET
variable {E : EV} {X : CX} {own : String} {cc : ByteArray} {nL : Nat} {dep pc : Nat} {ls : List VV} {mem m1 : MEM} {l : Launch} {P P' : Prop}
theorem f_zt (C : CK E X own cc nL (some .boolean) dep) (h : EX E X l (Ret (iv (b2i P)) m1)) (hdg : decode cc pc = .ok (.ireturn, 1)) (hp : P) (hm : mem = m1) : G E X nL pc ls [iv (nI 1)] mem := e_zret C h hdg (Or.inr rfl) ⟨by rw [b2i_pos hp]; rfl, hm⟩
theorem f_zf (C : CK E X own cc nL (some .boolean) dep) (h : EX E X l (Ret (iv (b2i P)) m1)) (hdg : decode cc pc = .ok (.ireturn, 1)) (hp : ¬ P) (hm : mem = m1) : G E X nL pc ls [iv (nI 0)] mem := e_zret C h hdg (Or.inl rfl) ⟨by rw [b2i_neg hp]; rfl, hm⟩
theorem f_zb (C : CK E X own cc nL (some .boolean) dep) (h : EX E X l (Ret (iv (b2i P)) m1)) (hdg : decode cc pc = .ok (.ireturn, 1)) (hp : P' ↔ P) (hm : mem = m1) : G E X nL pc ls [iv (b2i P')] mem := e_zret C h hdg (b2i_01 P') ⟨by rw [propext hp], hm⟩
theorem f_ir {v w : Int32} (C : CK E X own cc nL (some .int) dep) (h : EX E X l (Ret (iv w) m1)) (hdg : decode cc pc = .ok (.ireturn, 1)) (hv : v = w) (hm : mem = m1) : G E X nL pc ls [iv v] mem := e_iret C h hdg ⟨by rw [hv], hm⟩
theorem f_vr (C : CK E X own cc nL none dep) (h : EX E X l (Ret uv m1)) (hdg : decode cc pc = .ok (.return_, 1)) (hm : mem = m1) : G E X nL pc ls [] mem := e_vret C h hdg ⟨rfl, hm⟩
theorem f_ii {Pq : Int32 → MEM → Prop} {v : Int32} (C : CK E X own cc nL (some .int) dep) (h : EX E X l (fun r m => ∃ x : Int32, r = iv x ∧ Pq x m)) (hdg : decode cc pc = .ok (.ireturn, 1)) (hv : Pq v mem) : G E X nL pc ls [iv v] mem := e_iret C h hdg ⟨v, rfl, hv⟩
theorem f_vu {Pq : MEM → Prop} (C : CK E X own cc nL none dep) (h : EX E X l (fun r m => r = uv ∧ Pq m)) (hdg : decode cc pc = .ok (.return_, 1)) (hv : Pq mem) : G E X nL pc ls [] mem := e_vret C h hdg ⟨rfl, hv⟩
theorem f_ay {RC : String} {Po : ID → Prop} {Pn : Prop} {i : ID} (C : CK E X own cc nL (some (.object RC)) dep) (h : EX E X l (OptQ Po Pn m1)) (hdg : decode cc pc = .ok (.areturn, 1)) (hp : Po i) (hm : mem = m1) : G E X nL pc ls [rv i] mem := e_aret C h hdg (by rw [hm]; exact OptQ.yes hp)
theorem f_an {RC : String} {Po : ID → Prop} {Pn : Prop} (C : CK E X own cc nL (some (.object RC)) dep) (h : EX E X l (OptQ Po Pn m1)) (hdg : decode cc pc = .ok (.areturn, 1)) (hp : Pn) (hm : mem = m1) : G E X nL pc ls [nv] mem := e_aret C h hdg (by rw [hm]; exact OptQ.no hp)
end MRET
