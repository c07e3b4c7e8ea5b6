/-! ===== the class's text: its calls ===== -/
theorem nI_surj (x : Int32) : ∃ n : Nat, x = nI n := ⟨x.toBitVec.toNat, by
  apply Int32.toBitVec_inj.mp
  simp [nI]⟩
theorem tx_any (m : MEM) : ∃ i k, tx m i (m (14, 0, 0) 3) k (m (16, 0, 0)) = m := by
  obtain ⟨i, hi⟩ := nI_surj (m (14, 0, 0) 2)
  obtain ⟨k, hk⟩ := nI_surj (m (14, 0, 0) 5)
  exact ⟨i, k, tx_self hi rfl hk rfl⟩
section MQ_
variable {E : EV} {X : CX} {own : String} {cc : ByteArray} {nL : Nat} {ret : Option FieldType} {dep pc : Nat} {ls st : List VV} {mem : MEM}
theorem f_callVq (C : CK E X own cc nL ret dep) {y2 : MethodName} {cc2 : ByteArray} {nL2 index ci N dep2 : Nat} {ret2 : Option FieldType} {RC : String} {T : u_T} {id : ID} {As rest : List VV} {t : TX} {mem0 : MEM} {i : Nat} (mi : MI y2 cc2 nL2 ret2 RC As.length) (mv : MV y2 RC) (ml : Cond.methodLink own index y2 ∈ BW) (hdg : decode cc pc = .ok (.invokevirtual index, 3)) (hst : st = As.reverse ++ rv id :: rest) (hM : Ct E X.2.1 y2 (me_ws y2 cc2 nL2 ret2) dep2 (rv id :: As) mem (Tq t mem0 i)) (hdep : dep2 + 1 ≤ dep) (hv : vd id) (hk : me_kd id.1 = .inl ci) (hc : vwCl[ci]? = some (RC, T, N)) (hrest : rest.length ≤ 8)
    (h1 : ∀ e L k g, cmd t i = .inl e → G E X nL (pc + 3) ls (iv (nI 0) :: rest) (tx mem0 e L k g)) (h2 : ∀ e q k g, cmd t i = .inr (e, q) → g 0 = nI q.2.1 → (q.1 ≠ 116 → g 1 = nI q.2.2.1) → (q.1 = 119 → g 2 = nI q.2.2.2) → G E X nL (pc + 3) ls (iv (nI 1) :: rest) (tx mem0 e (nI q.1) k g)) : G E X nL pc ls st mem :=
  e_callV C mi mv ml hdg hst hM hdep hv hk hc hrest (fun r m q => by
    rcases q with ⟨e, q1, rfl, L, k, g, rfl⟩ | ⟨e, q, q1, rfl, k, g, rfl, g0, g1, g2⟩
    · exact h1 e L k g q1
    · exact h2 e q k g q1 g0 g1 g2)
end MQ_
theorem RC.text {mem m : MEM} {a : AS} {t : TX} (h : RC mem a) (ho : ∀ id, id ≠ (14, 0, 0) → id ≠ (15, 0, 0) → id ≠ (16, 0, 0) → m id = mem id) (ht : RTex m t) : RC m (a.1, a.2.1, a.2.2.1, t) ∧ FrC mem m := by
  obtain ⟨h1, ⟨n5, o, ho6, e1, e2, e3⟩, hk, -⟩ := h
  have on : ∀ id : ID, id.1 ≠ 14 → id.1 ≠ 15 → id.1 ≠ 16 → m id = mem id := fun id a1 a2 a3 => ho id (fun e => a1 (by rw [e])) (fun e => a2 (by rw [e])) (fun e => a3 (by rw [e]))
  have hs : ∀ {k : Nat} {y : ZZ}, RelS mem k y → RelS m k y := fun q => q.same fun id hid => on id (by omega) (by omega) (by omega)
  refine ⟨⟨hs h1, ⟨n5, o, ho6, by rw [on _ (by decide) (by decide) (by decide)]; exact e1, by rw [on _ (by decide) (by decide) (by decide)]; exact e2, fun i hi => hs (e3 i hi)⟩, ?_, ht⟩, fun id hid => on id (by omega) (by omega) (by omega)⟩
  revert hk
  show RKep mem a.2.2.1 → RKep m a.2.2.1
  cases a.2.2.1 with
  | none => intro hk; show m (0, 0, 0) 2 = 0; rw [on _ (by decide) (by decide) (by decide)]; exact hk
  | some y => intro hk; exact ⟨by rw [on _ (by decide) (by decide) (by decide)]; exact hk.1, hs hk.2⟩
theorem RC.tx {mem : MEM} {a : AS} {i k : Nat} {L : Int32} {g : Nat → Int32} (h : RC mem a) : RC (tx mem i L k g) a ∧ FrC mem (Jvm.Pilot.@@N@@.tx mem i L k g) :=
  h.text (fun id h1 _ h3 => tx_o h1 h3) ⟨h.2.2.2.1, by rw [tx_1]; exact h.2.2.2.2.1, fun j hj => by rw [tx_o (by decide) (by decide)]; exact h.2.2.2.2.2 j hj⟩
theorem RTex.tx {mem : MEM} {t : TX} {i k : Nat} {L : Int32} {g : Nat → Int32} (h : RTex mem t) : RTex (tx mem i L k g) t := ⟨h.1, by rw [tx_1]; exact h.2.1, fun j hj => by rw [tx_o (by decide) (by decide)]; exact h.2.2 j hj⟩
def frr (x : Nat ⊕ List CMD) : Int32 := match x with
  | .inl e => nI e
  | .inr _ => -6
theorem frr_s {t : TX} {k i e : Nat} {q : CMD} (h : cmd t i = .inr (e, q)) (he : ¬ e = t.1) (hs : chc t e = nI 59) : frr (txt t (k + 1) i) = frr (txt t k (e + 1)) := by
  rw [txt_s h he hs]
  cases txt t k (e + 1) <;> rfl
theorem exC_w {z : ZZ} {q : CMD} (h : q.1 = 119) : exC z q = fWrite z (nI q.2.1) (nI q.2.2.1) (nI q.2.2.2) := by unfold exC; rw [if_pos h]
theorem exC_r {z : ZZ} {q : CMD} (h : q.1 = 114) : exC z q = fRead z (nI q.2.1) (nI q.2.2.1) := by unfold exC; rw [if_neg (by omega), if_pos h]
theorem exC_t {z : ZZ} {q : CMD} (h : q.1 = 116) : exC z q = fTick z (nI q.2.1) := by unfold exC; rw [if_neg (by omega), if_neg (by omega), if_pos h]
theorem exC_m {z : ZZ} {q : CMD} (h : q.1 = 109) : exC z q = fMove z (nI q.2.1) (nI q.2.2.1) := by unfold exC; rw [if_neg (by omega), if_neg (by omega), if_neg (by omega), if_pos h]
theorem exC_h {z : ZZ} {q : CMD} (h : q.1 = 104) : exC z q = fHand z (nI q.2.1) (nI q.2.2.1) := by unfold exC; rw [if_neg (by omega), if_neg (by omega), if_neg (by omega), if_neg (by omega), if_pos h]
theorem exC_j {z : ZZ} {q : CMD} (h : q.1 = 106) : exC z q = fJump z (nI q.2.1) (nI q.2.2.1) := by unfold exC; rw [if_neg (by omega), if_neg (by omega), if_neg (by omega), if_neg (by omega), if_neg (by omega)]
theorem tx_fr {mem m : MEM} {i k : Nat} {L : Int32} {g : Nat → Int32} (h : FrS 0 (tx mem i L k g) m) : tx m i L k g = m ∧ FrS 0 mem (tx mem i L k g) → True := fun _ => trivial
theorem nb14 {k : Nat} : ¬ blk k (14, 0, 0) := fun q => by have := q.2.2; revert this; decide
theorem nb15 {k : Nat} : ¬ blk k (15, 0, 0) := fun q => by have := q.2.2; revert this; decide
theorem nb16 {k : Nat} : ¬ blk k (16, 0, 0) := fun q => by have := q.2.2; revert this; decide
theorem tx_mv {mem m : MEM} {i k : Nat} {L : Int32} {g : Nat → Int32} (h : FrS 0 (tx mem i L k g) m) : tx m i L k g = m := tx_self (by rw [h _ nb14]; exact tx_2) (by rw [h _ nb14]; exact tx_3) (by rw [h _ nb14]; exact tx_5) (by rw [h _ nb16]; exact tx_16)
def Alt (z : ZZ) (f : Int32 × ZZ) : Prop := (f.2 = z ∧ isEr f.1) ∨ ¬ isEr f.1
theorem Alt.wri {z : ZZ} {s k v : Int32} (h : Good z) : Alt z (fWrite z s k v) := by
  obtain ⟨c, h⟩ := h
  unfold fWrite
  by_cases h1 : isS z s ∧ isK k
  · rw [cif_pos h1]
    by_cases h2 : nI 0 ≤ v ∧ v ≤ nI 999
    · rw [cif_pos h2]
      by_cases h3 : z 0 = nI 200
      · rw [cif_pos h3]; exact Or.inl ⟨rfl, isEr_4⟩
      · rw [cif_neg h3]
        have hc := h.1.1
        refine Or.inr ?_
        show ¬ isEr (nI (nt (z 0) + 1))
        rw [h.1.2.1, nt_nI (by omega)]
        exact isEr_nI (by omega)
    · rw [cif_neg h2]; exact Or.inl ⟨rfl, isEr_2⟩
  · rw [cif_neg h1]; exact Or.inl ⟨rfl, isEr_1⟩
theorem Alt.rea {z : ZZ} {s k : Int32} (h : Good z) : Alt z (fRead z s k) := by
  obtain ⟨c, h⟩ := h
  unfold fRead
  by_cases h1 : isS z s ∧ isK k
  · rw [cif_pos h1]
    obtain ⟨⟨i, hi, rfl, ho⟩, hk⟩ := h1
    obtain ⟨q, hq, rfl⟩ := isK_nat hk
    rw [nt_nI (by omega), nt_nI (by omega)]
    by_cases h2 : (¬ waitg z i (nI q) (sz z i 1) = -6 ∧ waitg z i (nI q) (sz z i 1) ≤ sz z i 3) ∨ hasz z i (nI 8)
    · exact Or.inr ((rdz_ok h hi ho hq).2 h2)
    · unfold rdz
      rw [cif_neg (fun q => h2 (Or.inl q)), cif_neg (fun q => h2 (Or.inr q))]
      exact Or.inl ⟨rfl, isEr_3⟩
  · rw [cif_neg h1]; exact Or.inl ⟨rfl, isEr_1⟩
theorem Alt.tic {z : ZZ} {t : Int32} : Alt z (fTick z t) := by
  unfold fTick
  by_cases h2 : nI 1 ≤ t ∧ t ≤ nI 99
  · rw [cif_pos h2]
    exact Or.inr (isEr_nI (Nat.lt_of_le_of_lt (cau_le _ 5) (by decide)))
  · rw [cif_neg h2]; exact Or.inl ⟨rfl, isEr_2⟩
theorem Alt.mov {z : ZZ} {s hm : Int32} (h : Good z) : Alt z (fMove z s hm) := by
  obtain ⟨c, h⟩ := h
  unfold fMove
  by_cases h1 : isS z s ∧ isP z hm
  · rw [cif_pos h1]
    obtain ⟨⟨i, hi, rfl, ho⟩, hp⟩ := h1
    obtain ⟨p, b, ep, hp2, hpl, -⟩ := h.1.home hi ho
    refine Or.inr ?_
    show ¬ isEr (sz z (nt (nI i)) 1)
    rw [nt_nI (by omega), ep]
    exact isEr_nI (by omega)
  · rw [cif_neg h1]; exact Or.inl ⟨rfl, isEr_1⟩
theorem Alt.hnd {z : ZZ} {s o : Int32} (h : Good z) : Alt z (fHand z s o) := by
  obtain ⟨c, h⟩ := h
  unfold fHand
  by_cases h1 : isS z s ∧ isS z o
  · rw [cif_pos h1]
    by_cases h2 : s = o
    · rw [cif_pos h2]; exact Or.inl ⟨rfl, isEr_2⟩
    · rw [cif_neg h2]
      obtain ⟨⟨i, hi, rfl, hoi⟩, ⟨j, hj, rfl, hoj⟩⟩ := h1
      rw [nt_nI (by omega), nt_nI (by omega)]
      obtain ⟨q, hq, eq⟩ := hndz_nat h hi hj hoi hoj
      have hc := h.1.1
      refine Or.inr ?_
      show ¬ isEr (hndz z i j)
      rw [eq]
      exact isEr_nI (by omega)
  · rw [cif_neg h1]; exact Or.inl ⟨rfl, isEr_1⟩
theorem Alt.jmp {z : ZZ} {r v : Int32} (h : Good z) : Alt z (fJump z r v) := by
  obtain ⟨c, h⟩ := h
  unfold fJump
  by_cases h1 : isR z r
  · rw [cif_pos h1]
    obtain ⟨i, hi, rfl, ho⟩ := h1
    rw [nt_nI (by omega)]
    by_cases h2 : nI 0 ≤ v ∧ v ≤ rz z i 1
    · rw [cif_pos h2]
      obtain ⟨p, q, hp, -, ep, -⟩ := h.1.reps hi ho
      have hc := h.1.1
      refine Or.inr ?_
      show ¬ isEr (rz z i 1)
      rw [ep]
      exact isEr_nI (by omega)
    · rw [cif_neg h2]; exact Or.inl ⟨rfl, isEr_2⟩
  · rw [cif_neg h1]; exact Or.inl ⟨rfl, isEr_1⟩
theorem Alt.exC {z : ZZ} {q : CMD} (h : Good z) : Alt z (exC z q) := by
  unfold Jvm.Pilot.@@N@@.exC
  split
  · exact Alt.wri h
  · split
    · exact Alt.rea h
    · split
      · exact Alt.tic
      · split
        · exact Alt.mov h
        · split
          · exact Alt.hnd h
          · exact Alt.jmp h
theorem cpS_tx {mem : MEM} {i k S : Nat} {L : Int32} {g : Nat → Int32} {id : ID} (h1 : id ≠ (14, 0, 0)) (h2 : id ≠ (16, 0, 0)) : cpS (tx mem i L k g) S 0 id = cpS mem S 0 id := by
  unfold cpS
  by_cases c : id.2.1 = S ∧ 1 ≤ id.1 ∧ id.1 ≤ 11
  · rw [if_pos c, if_pos c, tx_o (fun e => by simp only [Prod.mk.injEq] at e; omega) (fun e => by simp only [Prod.mk.injEq] at e; omega)]
  · rw [if_neg c, if_neg c, tx_o h1 h2]
theorem kpm_congr {m m2 : MEM} {o n : Nat} {x : Int32} {id : ID} (h : m id = m2 id) : kpm m o n x id = kpm m2 o n x id := by
  unfold kpm cif
  split
  · exact h
  · split <;> (funext b; simp [up, h])
theorem kpm_o {m : MEM} {o n : Nat} {x : Int32} {id : ID} (h : id ≠ (12, 0, 0)) : kpm m o n x id = m id := by
  unfold kpm cif
  split
  · rfl
  · split <;> (funext b; simp [up, h])
theorem ex_fin {mem mf : MEM} {a : AS} {o n : Nat} {zf : ZZ} {l0 : List CMD} (hR : RC mem a) (ho : o < 6) (e1 : mem (12, 0, 0) 1 = nI o) (e3 : ∀ i, i < a.2.1.1 → RelS mem (2 + (o + i) % 6) (a.2.1.2 i)) (hx : txt a.2.2.2 80 0 = .inr l0) (hz : RelS mf 0 zf)
    (hf : ∀ id, ¬ blk 0 id → id ≠ (14, 0, 0) → id ≠ (16, 0, 0) → mf id = cpS mem (2 + (o + a.2.1.1) % 6) 0 id) (hn : n = (exs a.1 l0).1) (hzf : zf = (exs a.1 l0).2) (hnl : n ≤ 80) : PoC mem (exA a).2 (exA a).1 (nI n) (kpm (up mf (14, 0, 0) 1 (nI 0)) o a.2.1.1 (nI n)) := by
  subst hzf
  have hP : PoI 0 (cpS mem (2 + (o + a.2.1.1) % 6) 0) (exs a.1 l0).2 (nI n) (nI n) (fun id => if id = (14, 0, 0) ∨ id = (16, 0, 0) then cpS mem (2 + (o + a.2.1.1) % 6) 0 id else mf id) := by
    refine ⟨rfl, hz.same fun id hid => ?_, fun id hb => ?_⟩
    · rw [if_neg]
      rintro (e | e) <;> (rw [e] at hid; revert hid; decide)
    · by_cases c : id = (14, 0, 0) ∨ id = (16, 0, 0)
      · simp only [if_pos c]
      · simp only [if_neg c]
        exact hf id hb (fun e => c (Or.inl e)) (fun e => c (Or.inr e))
  have hk := RC.keep hR ho e1 e3 hP
  have hu : und (nI n, (exs a.1 l0).2) a = ((exs a.1 l0).2, psh a.2.1 a.1, a.2.2) := und_ok (isEr_nI (by omega))
  rw [hu] at hk
  have ht := hk.2.1.text (m := kpm (up mf (14, 0, 0) 1 (nI 0)) o a.2.1.1 (nI n)) (t := (0, a.2.2.2.2)) (fun id h1 h2 h3 => kpm_congr (by
    show _ = (if id = (14, 0, 0) ∨ id = (16, 0, 0) then cpS mem (2 + (o + a.2.1.1) % 6) 0 id else mf id)
    rw [if_neg (fun q => q.elim h1 h3)]
    funext b
    simp [up, h1])) ⟨by show 0 ≤ 80; omega, by rw [kpm_o (by decide)]; simp [up], fun j hj => absurd hj (Nat.not_lt_zero j)⟩
  refine ⟨by rw [exA, hx, hn], ?_, hk.2.2.trans ht.2⟩
  rw [exA, hx]
  exact ht.1

set_option maxRecDepth 100000 in
set_option maxHeartbeats 4000000 in
theorem c_X5_add_a {E : EV} {l : Launch} {mem : MEM} {n : Nat} (hn : mem (14, 0, 0) 1 = nI n) (hl : n < 80) {x : Int32} : Ct E l yX5_add (me_ws yX5_add cX5_add 2 (some .int)) 1 [rv (14, 0, 0), iv x] mem (Ret (iv (nI (n + 1))) (up (up mem (15, 0, 0) n x) (14, 0, 0) 1 (nI (n + 1)))) := by
  refine Ct.of (RC := RX5) (ls0 := [rv (14, 0, 0), iv x]) mi_yX5_add (Nat.le_of_ble_eq_true rfl) rfl (fun X C hX => ?_)
  refine e_aload_n C dX5_add_0 rfl ?_
  refine e_geti C (ci := 5) 1 rfl rfl rfl (by decide) b_X5 rfl b_fl_X5_15 v14 rfl dX5_add_1 ?_
  refine f_val (y := nI (n)) (by first | exact hn | simp [up, hn]) ?_
  refine e_if_lt (tgt := 16) C dX5_add_4 (by decide) (fun h_4 => ?_) (fun h_4 => ?_)
  · skip
    have nh_4 := xI_ltD (a := n) (b := 0) (by omega) (by omega) h_4
    exact absurd nh_4 (Nat.not_lt_zero _)
  · skip
    have nh_4 := xI_nltD (a := n) (b := 0) (by omega) (by omega) h_4
    refine e_aload_n C dX5_add_7 rfl ?_
    refine e_geti C (ci := 5) 1 rfl rfl rfl (by decide) b_X5 rfl b_fl_X5_15 v14 rfl dX5_add_8 ?_
    refine f_val (y := nI (n)) (by first | exact hn | simp [up, hn]) ?_
    refine e_bipush (v := nI 80) C dX5_add_11 (by decide) ?_
    refine e_icmp_lt (tgt := 19) C dX5_add_13 (by decide) (fun h_13 => ?_) (fun h_13 => ?_)
    · skip
      have nh_13 := xI_ltD (by omega) (by omega) h_13
      refine e_aload_n C dX5_add_19 rfl ?_
      refine e_getr C (ci := 5) 0 rfl rfl rfl (by decide) b_X5 rfl b_fl_X5_9 v14 rfl dX5_add_20 ?_
      refine e_aload_n C dX5_add_23 rfl ?_
      refine e_geti C (ci := 5) 1 rfl rfl rfl (by decide) b_X5 rfl b_fl_X5_15 v14 rfl dX5_add_24 ?_
      refine f_val (y := nI (n)) (by first | exact hn | simp [up, hn]) ?_
      refine e_iload_n C dX5_add_27 rfl ?_
      refine f_iast C rfl v15 (by omega) (by decide) dX5_add_28 ?_
      refine e_aload_n C dX5_add_29 rfl ?_
      refine e_dup C dX5_add_30 ?_
      refine e_geti C (ci := 5) 1 rfl rfl rfl (by decide) b_X5 rfl b_fl_X5_15 v14 rfl dX5_add_31 ?_
      refine f_val (y := nI (n)) (by first | exact hn | simp [up, hn]) ?_
      refine e_iconst (v := nI 1) C dX5_add_34 (by decide) ?_
      refine f_iaddn C dX5_add_35 ?_
      refine e_puti C (ci := 5) 1 rfl rfl rfl (by decide) b_X5 rfl b_fl_X5_15 v14 tyX5 tyX5_ok nmX5 rfl (.inl ⟨rfl, rfl⟩) rfl dX5_add_36 ?_
      refine e_aload_n C dX5_add_39 rfl ?_
      refine e_geti C (ci := 5) 1 rfl rfl rfl (by decide) b_X5 rfl b_fl_X5_15 v14 rfl dX5_add_40 ?_
      refine f_val (y := nI (n + 1)) (by simp [up]) ?_
      exact f_ir C hX dX5_add_43 rfl rfl
    · skip
      have nh_13 := xI_nltD (by omega) (by omega) h_13
      omega
set_option maxRecDepth 100000 in
set_option maxHeartbeats 4000000 in
theorem c_X5_add_b {E : EV} {l : Launch} {mem : MEM} (hn : mem (14, 0, 0) 1 = nI 80) {x : Int32} : Ct E l yX5_add (me_ws yX5_add cX5_add 2 (some .int)) 1 [rv (14, 0, 0), iv x] mem (Ret (iv (-4)) mem) := by
  refine Ct.of (RC := RX5) (ls0 := [rv (14, 0, 0), iv x]) mi_yX5_add (Nat.le_of_ble_eq_true rfl) rfl (fun X C hX => ?_)
  refine e_aload_n C dX5_add_0 rfl ?_
  refine e_geti C (ci := 5) 1 rfl rfl rfl (by decide) b_X5 rfl b_fl_X5_15 v14 rfl dX5_add_1 ?_
  refine f_val (y := nI (80)) hn ?_
  refine e_if_lt (tgt := 16) C dX5_add_4 (by decide) (fun h_4 => ?_) (fun h_4 => ?_)
  · skip
    exact absurd h_4 (by decide)
  · skip
    have nh_4 := xI_nltD (a := 80) (b := 0) (by omega) (by omega) h_4
    refine e_aload_n C dX5_add_7 rfl ?_
    refine e_geti C (ci := 5) 1 rfl rfl rfl (by decide) b_X5 rfl b_fl_X5_15 v14 rfl dX5_add_8 ?_
    refine f_val (y := nI (80)) hn ?_
    refine e_bipush (v := nI 80) C dX5_add_11 (by decide) ?_
    refine e_icmp_lt (tgt := 19) C dX5_add_13 (by decide) (fun h_13 => ?_) (fun h_13 => ?_)
    · skip
      exact absurd h_13 (by decide)
    · skip
      have nh_13 := xI_nltD (by omega) (by omega) h_13
      refine e_bipush (v := -4) C dX5_add_16 (by decide) ?_
      exact f_ir C hX dX5_add_18 rfl rfl
set_option maxRecDepth 100000 in
set_option maxHeartbeats 4000000 in
theorem c_X6_append_a {E : EV} {l : Launch} {mem : MEM} {a : AS} (hR : RC mem a) (hl : a.2.2.2.1 < 80) {x : Int32} : Ct E l yX6_append (me_ws yX6_append cX6_append 2 (some .int)) 2 [rv (0, 0, 0), iv x] mem (fun rr mm => ∃ xx : Int32, rr = iv xx ∧ PoC mem ((apA a x).2) ((apA a x).1) xx mm) := by
  have ht : RTex mem a.2.2.2 := hR.2.2.2
  refine Ct.of (RC := RX6) (ls0 := [rv (0, 0, 0), iv x]) mi_yX6_append (Nat.le_of_ble_eq_true rfl) rfl (fun X C hX => ?_)
  refine e_iload_n C dX6_append_0 rfl ?_
  refine e_bipush (v := nI 33) C dX6_append_1 (by decide) ?_
  refine e_bipush (v := nI 126) C dX6_append_3 (by decide) ?_
  refine f_callSr (As := [_, _, _]) C mi_yX6_isWithin b_st_yX6_isWithin b_ml_X6_189 dX6_append_5 rfl c_X6_isWithin (by decide) (Nat.le_of_ble_eq_true rfl) ?_
  refine f_if_ne (tgt := 14) C dX6_append_8 (by decide) (fun h_8 => ?_) (fun h_8 => ?_)
  · skip
    refine e_aload_n C dX6_append_14 rfl ?_
    refine e_getr C (ci := 6) 4 rfl rfl rfl (by decide) b_X6 rfl b_fl_X6_33 v0 rfl dX6_append_15 ?_
    refine e_iload_n C dX6_append_18 rfl ?_
    refine f_callVr (As := [_]) (ci := 5) C mi_yX5_add mv_yX5_add b_ml_X6_214 dX6_append_19 rfl (c_X5_add_a ht.2.1 hl) (by decide) v14 rfl rfl (Nat.le_of_ble_eq_true rfl) ?_
    have hq := hR.text (m := up (up mem (15, 0, 0) a.2.2.2.1 x) (14, 0, 0) 1 (nI (a.2.2.2.1 + 1))) (t := (a.2.2.2.1 + 1, upd a.2.2.2.2 a.2.2.2.1 x)) (fun id h1 h2 _ => by funext b; simp [up, h1, h2]) ⟨hl, by simp [up], fun j hj => by
      have hj : j < a.2.2.2.1 + 1 := hj
      show _ = upd a.2.2.2.2 a.2.2.2.1 x j
      by_cases e : j = a.2.2.2.1
      · subst e; simp [up, upd]
      · have h3 := ht.2.2 j (by omega); simp [up, upd, e]; exact h3⟩
    exact f_ii C hX dX6_append_22 ⟨by rw [apA, cif_pos h_8, if_neg (by omega)], by rw [apA, cif_pos h_8, if_neg (by omega)]; exact hq.1, hq.2⟩
  · skip
    refine e_bipush (v := -2) C dX6_append_11 (by decide) ?_
    exact f_ii C hX dX6_append_13 ⟨by rw [apA, cif_neg h_8], by rw [apA, cif_neg h_8]; exact hR, FrC.rfl'⟩
set_option maxRecDepth 100000 in
set_option maxHeartbeats 4000000 in
theorem c_X6_append_b {E : EV} {l : Launch} {mem : MEM} {a : AS} (hR : RC mem a) (hl : a.2.2.2.1 = 80) {x : Int32} : Ct E l yX6_append (me_ws yX6_append cX6_append 2 (some .int)) 2 [rv (0, 0, 0), iv x] mem (fun rr mm => ∃ xx : Int32, rr = iv xx ∧ PoC mem ((apA a x).2) ((apA a x).1) xx mm) := by
  have ht : RTex mem a.2.2.2 := hR.2.2.2
  refine Ct.of (RC := RX6) (ls0 := [rv (0, 0, 0), iv x]) mi_yX6_append (Nat.le_of_ble_eq_true rfl) rfl (fun X C hX => ?_)
  refine e_iload_n C dX6_append_0 rfl ?_
  refine e_bipush (v := nI 33) C dX6_append_1 (by decide) ?_
  refine e_bipush (v := nI 126) C dX6_append_3 (by decide) ?_
  refine f_callSr (As := [_, _, _]) C mi_yX6_isWithin b_st_yX6_isWithin b_ml_X6_189 dX6_append_5 rfl c_X6_isWithin (by decide) (Nat.le_of_ble_eq_true rfl) ?_
  refine f_if_ne (tgt := 14) C dX6_append_8 (by decide) (fun h_8 => ?_) (fun h_8 => ?_)
  · skip
    refine e_aload_n C dX6_append_14 rfl ?_
    refine e_getr C (ci := 6) 4 rfl rfl rfl (by decide) b_X6 rfl b_fl_X6_33 v0 rfl dX6_append_15 ?_
    refine e_iload_n C dX6_append_18 rfl ?_
    refine f_callVr (As := [_]) (ci := 5) C mi_yX5_add mv_yX5_add b_ml_X6_214 dX6_append_19 rfl (c_X5_add_b (by rw [ht.2.1, hl])) (by decide) v14 rfl rfl (Nat.le_of_ble_eq_true rfl) ?_
    exact f_ii C hX dX6_append_22 ⟨by rw [apA, cif_pos h_8, if_pos hl], by rw [apA, cif_pos h_8, if_pos hl]; exact hR, FrC.rfl'⟩
  · skip
    refine e_bipush (v := -2) C dX6_append_11 (by decide) ?_
    exact f_ii C hX dX6_append_13 ⟨by rw [apA, cif_neg h_8], by rw [apA, cif_neg h_8]; exact hR, FrC.rfl'⟩
theorem c_X6_append {E : EV} {l : Launch} {mem : MEM} {a : AS} (hR : RC mem a) {x : Int32} : Ct E l yX6_append (me_ws yX6_append cX6_append 2 (some .int)) 2 [rv (0, 0, 0), iv x] mem (fun rr mm => ∃ xx : Int32, rr = iv xx ∧ PoC mem ((apA a x).2) ((apA a x).1) xx mm) := by
  by_cases h : a.2.2.2.1 = 80
  · exact c_X6_append_b hR h
  · exact c_X6_append_a hR (by have := hR.2.2.2.1; omega)
set_option maxRecDepth 100000 in
set_option maxHeartbeats 4000000 in
theorem c_X6_clearText {E : EV} {l : Launch} {mem : MEM} {a : AS} (hR : RC mem a) : Ct E l yX6_clearText (me_ws yX6_clearText cX6_clearText 1 (some .int)) 2 [rv (0, 0, 0)] mem (fun rr mm => ∃ xx : Int32, rr = iv xx ∧ PoC mem ((clA a).2) ((clA a).1) xx mm) := by
  have ht : RTex mem a.2.2.2 := hR.2.2.2
  have hq := hR.text (m := up mem (14, 0, 0) 1 (nI 0)) (t := (0, a.2.2.2.2)) (fun id h1 h2 _ => by funext b; simp [up, h1]) ⟨by show 0 ≤ 80; omega, by simp [up], fun j hj => absurd hj (Nat.not_lt_zero j)⟩
  refine Ct.of (RC := RX6) (ls0 := [rv (0, 0, 0)]) mi_yX6_clearText (Nat.le_of_ble_eq_true rfl) rfl (fun X C hX => ?_)
  refine e_aload_n C dX6_clearText_0 rfl ?_
  refine e_getr C (ci := 6) 4 rfl rfl rfl (by decide) b_X6 rfl b_fl_X6_33 v0 rfl dX6_clearText_1 ?_
  refine f_callVr (As := []) (ci := 5) C mi_yX5_empty mv_yX5_empty b_ml_X6_217 dX6_clearText_4 rfl (c_X5_empty ht.2.1) (by decide) v14 rfl rfl (Nat.le_of_ble_eq_true rfl) ?_
  exact f_ii C hX dX6_clearText_7 ⟨rfl, hq.1, hq.2⟩
set_option maxRecDepth 100000 in
set_option maxHeartbeats 4000000 in
theorem lp_X5_findError {E : EV} {l : Launch} {X : CX} {mem : MEM} {t : TX} (hT : RTex mem t) (C : CK E X RX5 cX5_findError 2 (some .int) 5) (hX : EX E X l (fun rr mm => ∃ xx : Int32, rr = iv xx ∧ (xx = fErr t ∧ ∃ i L k g, mm = tx mem i L k g))) : ∀ (lpn : Nat) (n p k : Nat) (L : Int32) (g : Nat → Int32), 80 - n < lpn → n ≤ 80 → p ≤ t.1 + 1 → frr (txt t (80 - n) p) = fErr t → G E X 2 6 [rv (14, 0, 0), iv (nI n)] [] (tx mem p L k g) := by
  intro lpn
  induction lpn with
  | zero => intro n p k L g hlpn; exact absurd hlpn (Nat.not_lt_zero _)
  | succ lpn ih =>
    intro n p k L g hlpn hn hp he
    have hn80 := hT.1
    refine e_iload_n C dX5_findError_6 rfl ?_
    refine e_bipush (v := nI 80) C dX5_findError_7 (by decide) ?_
    refine e_icmp_ge (tgt := 58) C dX5_findError_9 (by decide) (fun h_9 => ?_) (fun h_9 => ?_)
    · skip
      have nh_9 := xI_leD (by omega) (by omega) h_9
      refine e_aload_n C dX5_findError_58 rfl ?_
      refine e_geti C (ci := 5) 2 rfl rfl rfl (by decide) b_X5 rfl b_fl_X5_19 v14 rfl dX5_findError_59 ?_
      refine f_val (y := nI (p)) tx_2 ?_
      obtain rfl : n = 80 := by omega
      exact f_ii C hX dX5_findError_62 ⟨by rw [← he]; rfl, _, _, _, _, rfl⟩
    · skip
      have nh_9 := xI_nleD (by omega) (by omega) h_9
      refine e_aload_n C dX5_findError_12 rfl ?_
      refine f_callVq (As := []) (ci := 5) C mi_yX5_readCommand mv_yX5_readCommand b_ml_X5_34 dX5_findError_13 rfl (c_X5_readCommand hT (by omega)) (by decide) v14 rfl rfl (Nat.le_of_ble_eq_true rfl) (fun e_13 L_13 k_13 g_13 hc_13 => ?_) (fun e_13 q_13 k_13 g_13 hc_13 h0_13 h1_13 h2_13 => ?_)
      · skip
        obtain ⟨f, hf⟩ : ∃ f, 80 - n = f + 1 := ⟨80 - n - 1, by omega⟩
        rw [hf] at he
        have hfe : fErr t = nI e_13 := by rw [← he, txt_l hc_13]; rfl
        refine e_if_ne (tgt := 24) C dX5_findError_16 (by decide) (fun h_16 => ?_) (fun h_16 => ?_)
        · skip
          exact absurd h_16 (by decide)
        · skip
          have nh_16 := xI_inj (a := 0) (b := 0) (by omega) (by omega) h_16
          refine e_aload_n C dX5_findError_19 rfl ?_
          refine e_geti C (ci := 5) 2 rfl rfl rfl (by decide) b_X5 rfl b_fl_X5_19 v14 rfl dX5_findError_20 ?_
          refine f_val (y := nI (e_13)) tx_2 ?_
          exact f_ii C hX dX5_findError_23 ⟨hfe.symm, _, _, _, _, rfl⟩
      · skip
        obtain ⟨f, hf⟩ : ∃ f, 80 - n = f + 1 := ⟨80 - n - 1, by omega⟩
        rw [hf] at he
        have hcl := cmd_l hc_13
        refine e_if_ne (tgt := 24) C dX5_findError_16 (by decide) (fun h_16 => ?_) (fun h_16 => ?_)
        · skip
          have nh_16 := xI_neD (a := 1) (b := 0) h_16
          refine e_aload_n C dX5_findError_24 rfl ?_
          refine e_geti C (ci := 5) 2 rfl rfl rfl (by decide) b_X5 rfl b_fl_X5_19 v14 rfl dX5_findError_25 ?_
          refine f_val (y := nI (e_13)) tx_2 ?_
          refine e_aload_n C dX5_findError_28 rfl ?_
          refine e_geti C (ci := 5) 1 rfl rfl rfl (by decide) b_X5 rfl b_fl_X5_15 v14 rfl dX5_findError_29 ?_
          refine f_val (y := nI (t.1)) (by rw [tx_1]; exact hT.2.1) ?_
          refine e_icmp_ne (tgt := 38) C dX5_findError_32 (by decide) (fun h_32 => ?_) (fun h_32 => ?_)
          · skip
            have nh_32 := xI_neD h_32
            refine e_aload_n C dX5_findError_38 rfl ?_
            refine e_bipush (v := nI 59) C dX5_findError_39 (by decide) ?_
            refine f_callVr (As := [_]) (ci := 5) C mi_yX5_readSign mv_yX5_readSign b_ml_X5_38 dX5_findError_41 rfl (c_X5_readSign hT (by omega)) (by decide) v14 rfl rfl (Nat.le_of_ble_eq_true rfl) ?_
            refine f_if_ne (tgt := 52) C dX5_findError_44 (by decide) (fun h_44 => ?_) (fun h_44 => ?_)
            · skip
              rw [cif_pos h_44]
              refine f_iincn (ls1 := [_, _]) C dX5_findError_52 rfl (by decide) rfl ?_
              refine e_goto (tgt := 6) C dX5_findError_55 (by decide) ?_
              exact ih (n + 1) (e_13 + 1) _ _ _ (by omega) (by omega) (by omega) (by rw [show 80 - (n + 1) = f by omega, ← frr_s hc_13 nh_32 h_44]; exact he)
            · skip
              rw [cif_neg h_44]
              refine e_aload_n C dX5_findError_47 rfl ?_
              refine e_geti C (ci := 5) 2 rfl rfl rfl (by decide) b_X5 rfl b_fl_X5_19 v14 rfl dX5_findError_48 ?_
              refine f_val (y := nI (e_13)) tx_2 ?_
              exact f_ii C hX dX5_findError_51 ⟨by rw [← he, txt_n hc_13 nh_32 h_44]; rfl, _, _, _, _, rfl⟩
          · skip
            have nh_32 := xI_inj (by omega) (by omega) h_32
            refine e_bipush (v := -6) C dX5_findError_35 (by decide) ?_
            exact f_ii C hX dX5_findError_37 ⟨by rw [← he, txt_e hc_13 nh_32]; rfl, _, _, _, _, rfl⟩
        · skip
          exact absurd h_16 (by decide)
set_option maxRecDepth 100000 in
set_option maxHeartbeats 4000000 in
theorem c_X5_findError {E : EV} {l : Launch} {mem : MEM} {t : TX} (hT : RTex mem t) : Ct E l yX5_findError (me_ws yX5_findError cX5_findError 2 (some .int)) 5 [rv (14, 0, 0)] mem (fun rr mm => ∃ xx : Int32, rr = iv xx ∧ (xx = fErr t ∧ ∃ i L k g, mm = tx mem i L k g)) := by
  obtain ⟨i0, k0, e0⟩ := tx_any mem
  have hn80 := hT.1
  refine Ct.of (RC := RX5) (ls0 := [rv (14, 0, 0), uv]) mi_yX5_findError (Nat.le_of_ble_eq_true rfl) rfl (fun X C hX => ?_)
  refine e_mem (EqV.of e0.symm) ?_
  refine e_aload_n C dX5_findError_0 rfl ?_
  refine f_callVv (As := []) (ci := 5) C mi_yX5_rewind mv_yX5_rewind b_ml_X5_31 dX5_findError_1 rfl c_X5_rewind (by decide) v14 rfl rfl (Nat.le_of_ble_eq_true rfl) ?_
  refine e_iconst (v := nI 0) C dX5_findError_4 (by decide) ?_
  refine f_istore_n (ls1 := [_, _]) C dX5_findError_5 (by decide) rfl ?_
  exact lp_X5_findError hT C hX 81 0 0 _ _ _ (by decide) (by decide) (Nat.zero_le _) rfl
set_option maxRecDepth 100000 in
set_option maxHeartbeats 4000000 in
theorem c_X6_errorPosition {E : EV} {l : Launch} {mem : MEM} {a : AS} (hR : RC mem a) : Ct E l yX6_errorPosition (me_ws yX6_errorPosition cX6_errorPosition 1 (some .int)) 6 [rv (0, 0, 0)] mem (fun rr mm => ∃ xx : Int32, rr = iv xx ∧ PoC mem (a) (fErr a.2.2.2) xx mm) := by
  have ht : RTex mem a.2.2.2 := hR.2.2.2
  refine Ct.of (RC := RX6) (ls0 := [rv (0, 0, 0)]) mi_yX6_errorPosition (Nat.le_of_ble_eq_true rfl) rfl (fun X C hX => ?_)
  refine e_aload_n C dX6_errorPosition_0 rfl ?_
  refine e_getr C (ci := 6) 4 rfl rfl rfl (by decide) b_X6 rfl b_fl_X6_33 v0 rfl dX6_errorPosition_1 ?_
  refine f_callVi (As := []) (ci := 5) C mi_yX5_findError mv_yX5_findError b_ml_X6_220 dX6_errorPosition_4 rfl (c_X5_findError (by assumption)) (by decide) v14 rfl rfl (Nat.le_of_ble_eq_true rfl) (fun x_4 m_4 hc_4 => ?_)
  obtain ⟨hv_4, i, L, k, g, rfl⟩ := hc_4
  exact f_ii C hX dX6_errorPosition_7 ⟨hv_4, hR.tx.1, hR.tx.2⟩
set_option maxRecDepth 100000 in
set_option maxHeartbeats 4000000 in
theorem c_X6_runCommand_w {E : EV} {l : Launch} {mem : MEM} {z : ZZ} (hz : RelS mem 0 z) {c : Nat} (hI : Inv z c) {p k : Nat} {g : Nat → Int32} {q : CMD} (hq : q.1 = 119) (h0 : g 0 = nI q.2.1) (h1 : q.1 ≠ 116 → g 1 = nI q.2.2.1) (h2 : q.1 = 119 → g 2 = nI q.2.2.2) : Ct E l yX6_runCommand (me_ws yX6_runCommand cX6_runCommand 3 (some .int)) 7 [rv (0, 0, 0)] (tx mem p (nI q.1) k g) (fun rr mm => ∃ xx : Int32, rr = iv xx ∧ PoI 0 (tx mem p (nI q.1) k g) (exC z q).2 (exC z q).1 xx mm) := by
  refine Ct.of (RC := RX6) (ls0 := [rv (0, 0, 0), uv, uv]) mi_yX6_runCommand (Nat.le_of_ble_eq_true rfl) rfl (fun X C hX => ?_)
  refine e_aload_n C dX6_runCommand_0 rfl ?_
  refine e_getr C (ci := 6) 4 rfl rfl rfl (by decide) b_X6 rfl b_fl_X6_33 v0 rfl dX6_runCommand_1 ?_
  refine e_iconst (v := nI 0) C dX6_runCommand_4 (by decide) ?_
  refine f_callVr (As := [_]) (ci := 5) C mi_yX5_argument mv_yX5_argument b_ml_X6_284 dX6_runCommand_5 rfl (c_X5_argument (by decide)) (by decide) v14 rfl rfl (Nat.le_of_ble_eq_true rfl) ?_
  rw [h0]
  refine f_istore_n (ls1 := [_, _, _]) C dX6_runCommand_8 (by decide) rfl ?_
  refine e_aload_n C dX6_runCommand_9 rfl ?_
  refine e_getr C (ci := 6) 4 rfl rfl rfl (by decide) b_X6 rfl b_fl_X6_33 v0 rfl dX6_runCommand_10 ?_
  refine e_iconst (v := nI 1) C dX6_runCommand_13 (by decide) ?_
  refine f_callVr (As := [_]) (ci := 5) C mi_yX5_argument mv_yX5_argument b_ml_X6_284 dX6_runCommand_14 rfl (c_X5_argument (by decide)) (by decide) v14 rfl rfl (Nat.le_of_ble_eq_true rfl) ?_
  rw [h1 (by omega)]
  refine f_istore_n (ls1 := [_, _, _]) C dX6_runCommand_17 (by decide) rfl ?_
  refine e_aload_n C dX6_runCommand_18 rfl ?_
  refine e_getr C (ci := 6) 4 rfl rfl rfl (by decide) b_X6 rfl b_fl_X6_33 v0 rfl dX6_runCommand_19 ?_
  refine e_geti C (ci := 5) 3 rfl rfl rfl (by decide) b_X5 rfl b_fl_X6_287 v14 rfl dX6_runCommand_22 ?_
  refine f_val (y := nI (119)) (by rw [tx_3, hq]) ?_
  refine e_tableIn (tgt := 104) (off := 79) C dX6_runCommand_25 (by decide) (by decide) (by decide) (by decide) ?_
  refine e_aload_n C dX6_runCommand_104 rfl ?_
  refine e_iload_n C dX6_runCommand_105 rfl ?_
  refine e_iload_n C dX6_runCommand_106 rfl ?_
  refine e_aload_n C dX6_runCommand_107 rfl ?_
  refine e_getr C (ci := 6) 4 rfl rfl rfl (by decide) b_X6 rfl b_fl_X6_33 v0 rfl dX6_runCommand_108 ?_
  refine e_iconst (v := nI 2) C dX6_runCommand_111 (by decide) ?_
  refine f_callVr (As := [_]) (ci := 5) C mi_yX5_argument mv_yX5_argument b_ml_X6_284 dX6_runCommand_112 rfl (c_X5_argument (by decide)) (by decide) v14 rfl rfl (Nat.le_of_ble_eq_true rfl) ?_
  rw [h2 hq]
  refine f_callVi (As := [_, _, _]) (ci := 6) C mi_yX6_addWrite mv_yX6_addWrite b_ml_X6_180 dX6_runCommand_115 rfl (c_X6_addWrite hz.tx hI) (by decide) v0 rfl rfl (Nat.le_of_ble_eq_true rfl) (fun x_115 m_115 hc_115 => ?_)
  exact f_ii C hX dX6_runCommand_118 (by rw [exC_w hq]; exact hc_115)
set_option maxRecDepth 100000 in
set_option maxHeartbeats 4000000 in
theorem c_X6_runCommand_r {E : EV} {l : Launch} {mem : MEM} {z : ZZ} (hz : RelS mem 0 z) {c : Nat} (hI : Inv z c) {p k : Nat} {g : Nat → Int32} {q : CMD} (hq : q.1 = 114) (h0 : g 0 = nI q.2.1) (h1 : q.1 ≠ 116 → g 1 = nI q.2.2.1) (h2 : q.1 = 119 → g 2 = nI q.2.2.2) : Ct E l yX6_runCommand (me_ws yX6_runCommand cX6_runCommand 3 (some .int)) 7 [rv (0, 0, 0)] (tx mem p (nI q.1) k g) (fun rr mm => ∃ xx : Int32, rr = iv xx ∧ PoI 0 (tx mem p (nI q.1) k g) (exC z q).2 (exC z q).1 xx mm) := by
  refine Ct.of (RC := RX6) (ls0 := [rv (0, 0, 0), uv, uv]) mi_yX6_runCommand (Nat.le_of_ble_eq_true rfl) rfl (fun X C hX => ?_)
  refine e_aload_n C dX6_runCommand_0 rfl ?_
  refine e_getr C (ci := 6) 4 rfl rfl rfl (by decide) b_X6 rfl b_fl_X6_33 v0 rfl dX6_runCommand_1 ?_
  refine e_iconst (v := nI 0) C dX6_runCommand_4 (by decide) ?_
  refine f_callVr (As := [_]) (ci := 5) C mi_yX5_argument mv_yX5_argument b_ml_X6_284 dX6_runCommand_5 rfl (c_X5_argument (by decide)) (by decide) v14 rfl rfl (Nat.le_of_ble_eq_true rfl) ?_
  rw [h0]
  refine f_istore_n (ls1 := [_, _, _]) C dX6_runCommand_8 (by decide) rfl ?_
  refine e_aload_n C dX6_runCommand_9 rfl ?_
  refine e_getr C (ci := 6) 4 rfl rfl rfl (by decide) b_X6 rfl b_fl_X6_33 v0 rfl dX6_runCommand_10 ?_
  refine e_iconst (v := nI 1) C dX6_runCommand_13 (by decide) ?_
  refine f_callVr (As := [_]) (ci := 5) C mi_yX5_argument mv_yX5_argument b_ml_X6_284 dX6_runCommand_14 rfl (c_X5_argument (by decide)) (by decide) v14 rfl rfl (Nat.le_of_ble_eq_true rfl) ?_
  rw [h1 (by omega)]
  refine f_istore_n (ls1 := [_, _, _]) C dX6_runCommand_17 (by decide) rfl ?_
  refine e_aload_n C dX6_runCommand_18 rfl ?_
  refine e_getr C (ci := 6) 4 rfl rfl rfl (by decide) b_X6 rfl b_fl_X6_33 v0 rfl dX6_runCommand_19 ?_
  refine e_geti C (ci := 5) 3 rfl rfl rfl (by decide) b_X5 rfl b_fl_X6_287 v14 rfl dX6_runCommand_22 ?_
  refine f_val (y := nI (114)) (by rw [tx_3, hq]) ?_
  refine e_tableIn (tgt := 119) (off := 94) C dX6_runCommand_25 (by decide) (by decide) (by decide) (by decide) ?_
  refine e_aload_n C dX6_runCommand_119 rfl ?_
  refine e_iload_n C dX6_runCommand_120 rfl ?_
  refine e_iload_n C dX6_runCommand_121 rfl ?_
  refine f_callVi (As := [_, _]) (ci := 6) C mi_yX6_readAtHome mv_yX6_readAtHome b_ml_X6_183 dX6_runCommand_122 rfl (c_X6_readAtHome hz.tx hI) (by decide) v0 rfl rfl (Nat.le_of_ble_eq_true rfl) (fun x_122 m_122 hc_122 => ?_)
  exact f_ii C hX dX6_runCommand_125 (by rw [exC_r hq]; exact hc_122)
set_option maxRecDepth 100000 in
set_option maxHeartbeats 4000000 in
theorem c_X6_runCommand_t {E : EV} {l : Launch} {mem : MEM} {z : ZZ} (hz : RelS mem 0 z) {c : Nat} (hI : Inv z c) {p k : Nat} {g : Nat → Int32} {q : CMD} (hq : q.1 = 116) (h0 : g 0 = nI q.2.1) (h1 : q.1 ≠ 116 → g 1 = nI q.2.2.1) (h2 : q.1 = 119 → g 2 = nI q.2.2.2) : Ct E l yX6_runCommand (me_ws yX6_runCommand cX6_runCommand 3 (some .int)) 7 [rv (0, 0, 0)] (tx mem p (nI q.1) k g) (fun rr mm => ∃ xx : Int32, rr = iv xx ∧ PoI 0 (tx mem p (nI q.1) k g) (exC z q).2 (exC z q).1 xx mm) := by
  refine Ct.of (RC := RX6) (ls0 := [rv (0, 0, 0), uv, uv]) mi_yX6_runCommand (Nat.le_of_ble_eq_true rfl) rfl (fun X C hX => ?_)
  refine e_aload_n C dX6_runCommand_0 rfl ?_
  refine e_getr C (ci := 6) 4 rfl rfl rfl (by decide) b_X6 rfl b_fl_X6_33 v0 rfl dX6_runCommand_1 ?_
  refine e_iconst (v := nI 0) C dX6_runCommand_4 (by decide) ?_
  refine f_callVr (As := [_]) (ci := 5) C mi_yX5_argument mv_yX5_argument b_ml_X6_284 dX6_runCommand_5 rfl (c_X5_argument (by decide)) (by decide) v14 rfl rfl (Nat.le_of_ble_eq_true rfl) ?_
  rw [h0]
  refine f_istore_n (ls1 := [_, _, _]) C dX6_runCommand_8 (by decide) rfl ?_
  refine e_aload_n C dX6_runCommand_9 rfl ?_
  refine e_getr C (ci := 6) 4 rfl rfl rfl (by decide) b_X6 rfl b_fl_X6_33 v0 rfl dX6_runCommand_10 ?_
  refine e_iconst (v := nI 1) C dX6_runCommand_13 (by decide) ?_
  refine f_callVr (As := [_]) (ci := 5) C mi_yX5_argument mv_yX5_argument b_ml_X6_284 dX6_runCommand_14 rfl (c_X5_argument (by decide)) (by decide) v14 rfl rfl (Nat.le_of_ble_eq_true rfl) ?_
  refine f_istore_n (ls1 := [_, _, _]) C dX6_runCommand_17 (by decide) rfl ?_
  refine e_aload_n C dX6_runCommand_18 rfl ?_
  refine e_getr C (ci := 6) 4 rfl rfl rfl (by decide) b_X6 rfl b_fl_X6_33 v0 rfl dX6_runCommand_19 ?_
  refine e_geti C (ci := 5) 3 rfl rfl rfl (by decide) b_X5 rfl b_fl_X6_287 v14 rfl dX6_runCommand_22 ?_
  refine f_val (y := nI (116)) (by rw [tx_3, hq]) ?_
  refine e_tableIn (tgt := 126) (off := 101) C dX6_runCommand_25 (by decide) (by decide) (by decide) (by decide) ?_
  refine e_aload_n C dX6_runCommand_126 rfl ?_
  refine e_iload_n C dX6_runCommand_127 rfl ?_
  refine f_callVi (As := [_]) (ci := 6) C mi_yX6_letTicksPass mv_yX6_letTicksPass b_ml_X6_62 dX6_runCommand_128 rfl (c_X6_letTicksPass hz.tx hI) (by decide) v0 rfl rfl (Nat.le_of_ble_eq_true rfl) (fun x_128 m_128 hc_128 => ?_)
  exact f_ii C hX dX6_runCommand_131 (by rw [exC_t hq]; exact hc_128)
set_option maxRecDepth 100000 in
set_option maxHeartbeats 4000000 in
theorem c_X6_runCommand_m {E : EV} {l : Launch} {mem : MEM} {z : ZZ} (hz : RelS mem 0 z) {c : Nat} (hI : Inv z c) {p k : Nat} {g : Nat → Int32} {q : CMD} (hq : q.1 = 109) (h0 : g 0 = nI q.2.1) (h1 : q.1 ≠ 116 → g 1 = nI q.2.2.1) (h2 : q.1 = 119 → g 2 = nI q.2.2.2) : Ct E l yX6_runCommand (me_ws yX6_runCommand cX6_runCommand 3 (some .int)) 7 [rv (0, 0, 0)] (tx mem p (nI q.1) k g) (fun rr mm => ∃ xx : Int32, rr = iv xx ∧ PoI 0 (tx mem p (nI q.1) k g) (exC z q).2 (exC z q).1 xx mm) := by
  refine Ct.of (RC := RX6) (ls0 := [rv (0, 0, 0), uv, uv]) mi_yX6_runCommand (Nat.le_of_ble_eq_true rfl) rfl (fun X C hX => ?_)
  refine e_aload_n C dX6_runCommand_0 rfl ?_
  refine e_getr C (ci := 6) 4 rfl rfl rfl (by decide) b_X6 rfl b_fl_X6_33 v0 rfl dX6_runCommand_1 ?_
  refine e_iconst (v := nI 0) C dX6_runCommand_4 (by decide) ?_
  refine f_callVr (As := [_]) (ci := 5) C mi_yX5_argument mv_yX5_argument b_ml_X6_284 dX6_runCommand_5 rfl (c_X5_argument (by decide)) (by decide) v14 rfl rfl (Nat.le_of_ble_eq_true rfl) ?_
  rw [h0]
  refine f_istore_n (ls1 := [_, _, _]) C dX6_runCommand_8 (by decide) rfl ?_
  refine e_aload_n C dX6_runCommand_9 rfl ?_
  refine e_getr C (ci := 6) 4 rfl rfl rfl (by decide) b_X6 rfl b_fl_X6_33 v0 rfl dX6_runCommand_10 ?_
  refine e_iconst (v := nI 1) C dX6_runCommand_13 (by decide) ?_
  refine f_callVr (As := [_]) (ci := 5) C mi_yX5_argument mv_yX5_argument b_ml_X6_284 dX6_runCommand_14 rfl (c_X5_argument (by decide)) (by decide) v14 rfl rfl (Nat.le_of_ble_eq_true rfl) ?_
  rw [h1 (by omega)]
  refine f_istore_n (ls1 := [_, _, _]) C dX6_runCommand_17 (by decide) rfl ?_
  refine e_aload_n C dX6_runCommand_18 rfl ?_
  refine e_getr C (ci := 6) 4 rfl rfl rfl (by decide) b_X6 rfl b_fl_X6_33 v0 rfl dX6_runCommand_19 ?_
  refine e_geti C (ci := 5) 3 rfl rfl rfl (by decide) b_X5 rfl b_fl_X6_287 v14 rfl dX6_runCommand_22 ?_
  refine f_val (y := nI (109)) (by rw [tx_3, hq]) ?_
  refine e_tableIn (tgt := 132) (off := 107) C dX6_runCommand_25 (by decide) (by decide) (by decide) (by decide) ?_
  refine e_aload_n C dX6_runCommand_132 rfl ?_
  refine e_iload_n C dX6_runCommand_133 rfl ?_
  refine e_iload_n C dX6_runCommand_134 rfl ?_
  refine f_callVi (As := [_, _]) (ci := 6) C mi_yX6_changeHome mv_yX6_changeHome b_ml_X6_135 dX6_runCommand_135 rfl (c_X6_changeHome hz.tx) (by decide) v0 rfl rfl (Nat.le_of_ble_eq_true rfl) (fun x_135 m_135 hc_135 => ?_)
  exact f_ii C hX dX6_runCommand_138 (by rw [exC_m hq]; exact hc_135)
set_option maxRecDepth 100000 in
set_option maxHeartbeats 4000000 in
theorem c_X6_runCommand_h {E : EV} {l : Launch} {mem : MEM} {z : ZZ} (hz : RelS mem 0 z) {c : Nat} (hI : Inv z c) {p k : Nat} {g : Nat → Int32} {q : CMD} (hq : q.1 = 104) (h0 : g 0 = nI q.2.1) (h1 : q.1 ≠ 116 → g 1 = nI q.2.2.1) (h2 : q.1 = 119 → g 2 = nI q.2.2.2) : Ct E l yX6_runCommand (me_ws yX6_runCommand cX6_runCommand 3 (some .int)) 7 [rv (0, 0, 0)] (tx mem p (nI q.1) k g) (fun rr mm => ∃ xx : Int32, rr = iv xx ∧ PoI 0 (tx mem p (nI q.1) k g) (exC z q).2 (exC z q).1 xx mm) := by
  refine Ct.of (RC := RX6) (ls0 := [rv (0, 0, 0), uv, uv]) mi_yX6_runCommand (Nat.le_of_ble_eq_true rfl) rfl (fun X C hX => ?_)
  refine e_aload_n C dX6_runCommand_0 rfl ?_
  refine e_getr C (ci := 6) 4 rfl rfl rfl (by decide) b_X6 rfl b_fl_X6_33 v0 rfl dX6_runCommand_1 ?_
  refine e_iconst (v := nI 0) C dX6_runCommand_4 (by decide) ?_
  refine f_callVr (As := [_]) (ci := 5) C mi_yX5_argument mv_yX5_argument b_ml_X6_284 dX6_runCommand_5 rfl (c_X5_argument (by decide)) (by decide) v14 rfl rfl (Nat.le_of_ble_eq_true rfl) ?_
  rw [h0]
  refine f_istore_n (ls1 := [_, _, _]) C dX6_runCommand_8 (by decide) rfl ?_
  refine e_aload_n C dX6_runCommand_9 rfl ?_
  refine e_getr C (ci := 6) 4 rfl rfl rfl (by decide) b_X6 rfl b_fl_X6_33 v0 rfl dX6_runCommand_10 ?_
  refine e_iconst (v := nI 1) C dX6_runCommand_13 (by decide) ?_
  refine f_callVr (As := [_]) (ci := 5) C mi_yX5_argument mv_yX5_argument b_ml_X6_284 dX6_runCommand_14 rfl (c_X5_argument (by decide)) (by decide) v14 rfl rfl (Nat.le_of_ble_eq_true rfl) ?_
  rw [h1 (by omega)]
  refine f_istore_n (ls1 := [_, _, _]) C dX6_runCommand_17 (by decide) rfl ?_
  refine e_aload_n C dX6_runCommand_18 rfl ?_
  refine e_getr C (ci := 6) 4 rfl rfl rfl (by decide) b_X6 rfl b_fl_X6_33 v0 rfl dX6_runCommand_19 ?_
  refine e_geti C (ci := 5) 3 rfl rfl rfl (by decide) b_X5 rfl b_fl_X6_287 v14 rfl dX6_runCommand_22 ?_
  refine f_val (y := nI (104)) (by rw [tx_3, hq]) ?_
  refine e_tableIn (tgt := 139) (off := 114) C dX6_runCommand_25 (by decide) (by decide) (by decide) (by decide) ?_
  refine e_aload_n C dX6_runCommand_139 rfl ?_
  refine e_iload_n C dX6_runCommand_140 rfl ?_
  refine e_iload_n C dX6_runCommand_141 rfl ?_
  refine f_callVi (As := [_, _]) (ci := 6) C mi_yX6_handMarks mv_yX6_handMarks b_ml_X6_141 dX6_runCommand_142 rfl (c_X6_handMarks hz.tx) (by decide) v0 rfl rfl (Nat.le_of_ble_eq_true rfl) (fun x_142 m_142 hc_142 => ?_)
  exact f_ii C hX dX6_runCommand_145 (by rw [exC_h hq]; exact hc_142)
set_option maxRecDepth 100000 in
set_option maxHeartbeats 4000000 in
theorem c_X6_runCommand_j {E : EV} {l : Launch} {mem : MEM} {z : ZZ} (hz : RelS mem 0 z) {c : Nat} (hI : Inv z c) {p k : Nat} {g : Nat → Int32} {q : CMD} (hq : q.1 = 106) (h0 : g 0 = nI q.2.1) (h1 : q.1 ≠ 116 → g 1 = nI q.2.2.1) (h2 : q.1 = 119 → g 2 = nI q.2.2.2) : Ct E l yX6_runCommand (me_ws yX6_runCommand cX6_runCommand 3 (some .int)) 7 [rv (0, 0, 0)] (tx mem p (nI q.1) k g) (fun rr mm => ∃ xx : Int32, rr = iv xx ∧ PoI 0 (tx mem p (nI q.1) k g) (exC z q).2 (exC z q).1 xx mm) := by
  refine Ct.of (RC := RX6) (ls0 := [rv (0, 0, 0), uv, uv]) mi_yX6_runCommand (Nat.le_of_ble_eq_true rfl) rfl (fun X C hX => ?_)
  refine e_aload_n C dX6_runCommand_0 rfl ?_
  refine e_getr C (ci := 6) 4 rfl rfl rfl (by decide) b_X6 rfl b_fl_X6_33 v0 rfl dX6_runCommand_1 ?_
  refine e_iconst (v := nI 0) C dX6_runCommand_4 (by decide) ?_
  refine f_callVr (As := [_]) (ci := 5) C mi_yX5_argument mv_yX5_argument b_ml_X6_284 dX6_runCommand_5 rfl (c_X5_argument (by decide)) (by decide) v14 rfl rfl (Nat.le_of_ble_eq_true rfl) ?_
  rw [h0]
  refine f_istore_n (ls1 := [_, _, _]) C dX6_runCommand_8 (by decide) rfl ?_
  refine e_aload_n C dX6_runCommand_9 rfl ?_
  refine e_getr C (ci := 6) 4 rfl rfl rfl (by decide) b_X6 rfl b_fl_X6_33 v0 rfl dX6_runCommand_10 ?_
  refine e_iconst (v := nI 1) C dX6_runCommand_13 (by decide) ?_
  refine f_callVr (As := [_]) (ci := 5) C mi_yX5_argument mv_yX5_argument b_ml_X6_284 dX6_runCommand_14 rfl (c_X5_argument (by decide)) (by decide) v14 rfl rfl (Nat.le_of_ble_eq_true rfl) ?_
  rw [h1 (by omega)]
  refine f_istore_n (ls1 := [_, _, _]) C dX6_runCommand_17 (by decide) rfl ?_
  refine e_aload_n C dX6_runCommand_18 rfl ?_
  refine e_getr C (ci := 6) 4 rfl rfl rfl (by decide) b_X6 rfl b_fl_X6_33 v0 rfl dX6_runCommand_19 ?_
  refine e_geti C (ci := 5) 3 rfl rfl rfl (by decide) b_X5 rfl b_fl_X6_287 v14 rfl dX6_runCommand_22 ?_
  refine f_val (y := nI (106)) (by rw [tx_3, hq]) ?_
  refine e_tableIn (tgt := 146) (off := 121) C dX6_runCommand_25 (by decide) (by decide) (by decide) (by decide) ?_
  refine e_aload_n C dX6_runCommand_146 rfl ?_
  refine e_iload_n C dX6_runCommand_147 rfl ?_
  refine e_iload_n C dX6_runCommand_148 rfl ?_
  refine f_callVi (As := [_, _]) (ci := 6) C mi_yX6_setBack mv_yX6_setBack b_ml_X6_59 dX6_runCommand_149 rfl (c_X6_setBack hz.tx) (by decide) v0 rfl rfl (Nat.le_of_ble_eq_true rfl) (fun x_149 m_149 hc_149 => ?_)
  exact f_ii C hX dX6_runCommand_152 (by rw [exC_j hq]; exact hc_149)
theorem c_X6_runCommand {E : EV} {l : Launch} {mem : MEM} {z : ZZ} (hz : RelS mem 0 z) {c : Nat} (hI : Inv z c) {p k : Nat} {g : Nat → Int32} {q : CMD} (hq : q.1 = 119 ∨ q.1 = 114 ∨ q.1 = 116 ∨ q.1 = 109 ∨ q.1 = 104 ∨ q.1 = 106) (h0 : g 0 = nI q.2.1) (h1 : q.1 ≠ 116 → g 1 = nI q.2.2.1) (h2 : q.1 = 119 → g 2 = nI q.2.2.2) : Ct E l yX6_runCommand (me_ws yX6_runCommand cX6_runCommand 3 (some .int)) 7 [rv (0, 0, 0)] (tx mem p (nI q.1) k g) (fun rr mm => ∃ xx : Int32, rr = iv xx ∧ PoI 0 (tx mem p (nI q.1) k g) (exC z q).2 (exC z q).1 xx mm) := by
  rcases hq with hq | hq | hq | hq | hq | hq
  · exact c_X6_runCommand_w hz hI hq h0 h1 h2
  · exact c_X6_runCommand_r hz hI hq h0 h1 h2
  · exact c_X6_runCommand_t hz hI hq h0 h1 h2
  · exact c_X6_runCommand_m hz hI hq h0 h1 h2
  · exact c_X6_runCommand_h hz hI hq h0 h1 h2
  · exact c_X6_runCommand_j hz hI hq h0 h1 h2
set_option maxRecDepth 100000 in
set_option maxHeartbeats 4000000 in
theorem c_X6_execute_e {E : EV} {l : Launch} {mem : MEM} {a : AS} (hR : RC mem a) {e : Nat} (hx : txt a.2.2.2 80 0 = .inl e) (hep : e < 2 ^ 31) : Ct E l yX6_execute (me_ws yX6_execute cX6_execute 2 (some .int)) 9 [rv (0, 0, 0)] mem (fun rr mm => ∃ xx : Int32, rr = iv xx ∧ PoC mem ((exA a).2) ((exA a).1) xx mm) := by
  have ht : RTex mem a.2.2.2 := hR.2.2.2
  refine Ct.of (RC := RX6) (ls0 := [rv (0, 0, 0), uv]) mi_yX6_execute (Nat.le_of_ble_eq_true rfl) rfl (fun X C hX => ?_)
  refine e_aload_n C dX6_execute_0 rfl ?_
  refine e_getr C (ci := 6) 4 rfl rfl rfl (by decide) b_X6 rfl b_fl_X6_33 v0 rfl dX6_execute_1 ?_
  refine f_callVi (As := []) (ci := 5) C mi_yX5_findError mv_yX5_findError b_ml_X6_220 dX6_execute_4 rfl (c_X5_findError (by assumption)) (by decide) v14 rfl rfl (Nat.le_of_ble_eq_true rfl) (fun x_4 m_4 hc_4 => ?_)
  obtain ⟨hv_4, i, L, k, g, rfl⟩ := hc_4
  have hfe : fErr a.2.2.2 = nI e := by show frr (txt a.2.2.2 80 0) = _; rw [hx]; rfl
  have he2 : e < 2 ^ 31 := hep
  refine e_bipush (v := -6) C dX6_execute_7 (by decide) ?_
  refine e_icmp_eq (tgt := 15) C dX6_execute_9 (by decide) (fun h_9 => ?_) (fun h_9 => ?_)
  · skip
    exact absurd (h_9.symm.trans (hv_4.trans hfe)).symm (nI_neN he2 (by decide))
  · skip
    refine e_bipush (v := -5) C dX6_execute_12 (by decide) ?_
    exact f_ii C hX dX6_execute_14 ⟨by rw [exA, hx], by rw [exA, hx]; exact hR.tx.1, hR.tx.2⟩
set_option maxRecDepth 100000 in
set_option maxHeartbeats 4000000 in
theorem lp_X6_execute {E : EV} {l : Launch} {X : CX} {mem : MEM} {a : AS} (hR : RC mem a) {o : Nat} (ho : o < 6) (e1 : mem (12, 0, 0) 1 = nI o) (e3 : ∀ i, i < a.2.1.1 → RelS mem (2 + (o + i) % 6) (a.2.1.2 i)) {l0 : List CMD} (hx : txt a.2.2.2 80 0 = .inr l0) (C : CK E X RX6 cX6_execute 2 (some .int) 9) (hX : EX E X l (fun rr mm => ∃ xx : Int32, rr = iv xx ∧ PoC mem ((exA a).2) ((exA a).1) xx mm)) : ∀ (lpn : Nat) (n p k : Nat) (L : Int32) (g : Nat → Int32) (mm : MEM) (z : ZZ) (rl : List CMD), 80 - n < lpn → n ≤ 80 → p ≤ a.2.2.2.1 + 1 → RelS mm 0 z → Good z → (∀ id, ¬ blk 0 id → id ≠ (14, 0, 0) → id ≠ (16, 0, 0) → mm id = (cpS mem (2 + (o + a.2.1.1) % 6) 0) id) → RTex mm a.2.2.2 → txt a.2.2.2 (80 - n) p = .inr rl ∨ (rl = [] ∧ p = a.2.2.2.1) → n + (exs z rl).1 = (exs a.1 l0).1 → (exs z rl).2 = (exs a.1 l0).2 → G E X 2 35 [rv (0, 0, 0), iv (nI n)] [] (tx mm p L k g) := by
  intro lpn
  induction lpn with
  | zero => intro n p k L g mm z rl hlpn; exact absurd hlpn (Nat.not_lt_zero _)
  | succ lpn ih =>
    intro n p k L g mm z rl hlpn hn hp hz hG hf hT hl ht1 ht2
    obtain ⟨n5, o2, ho2, e1b, e2, -⟩ := hR.2.1
    have ht : RTex mem a.2.2.2 := hR.2.2.2
    have hn80 := ht.1
    refine e_iload_n C dX6_execute_35 rfl ?_
    refine e_bipush (v := nI 80) C dX6_execute_36 (by decide) ?_
    refine e_icmp_ge (tgt := 77) C dX6_execute_38 (by decide) (fun h_38 => ?_) (fun h_38 => ?_)
    · skip
      have nh_38 := xI_leD (by omega) (by omega) h_38
      have hn8 : 80 - n = 0 := by omega
      have hrl : rl = [] := hl.elim (fun q => by rw [hn8] at q; cases q) (fun q => q.1)
      have hzf : RelS (tx mm p L k g) 0 (z) := hz.tx
      have hff : ∀ id, ¬ blk 0 id → id ≠ (14, 0, 0) → id ≠ (16, 0, 0) → (tx mm p L k g) id = (cpS mem (2 + (o + a.2.1.1) % 6) 0) id := fun id hb h14 h16 => (tx_o h14 h16).trans (hf id hb h14 h16)
      have hTf : RTex (tx mm p L k g) a.2.2.2 := hT.tx
      have hnf : n = (exs a.1 l0).1 := by rw [← ht1, hrl]; rfl
      have hzf2 : z = (exs a.1 l0).2 := by rw [← ht2, hrl]; rfl
      generalize tx mm p L k g = mf at hzf hff hTf ⊢
      have q12 : mf (12, 0, 0) = mem (12, 0, 0) := (hff _ nb12 (by decide) (by decide)).trans (FrS.copy _ nb12)
      refine e_aload_n C dX6_execute_77 rfl ?_
      refine e_getr C (ci := 6) 4 rfl rfl rfl (by decide) b_X6 rfl b_fl_X6_33 v0 rfl dX6_execute_78 ?_
      refine f_callVr (As := []) (ci := 5) C mi_yX5_empty mv_yX5_empty b_ml_X6_217 dX6_execute_81 rfl (c_X5_empty hTf.2.1) (by decide) v14 rfl rfl (Nat.le_of_ble_eq_true rfl) ?_
      refine e_pop C dX6_execute_84 ?_
      refine e_aload_n C dX6_execute_85 rfl ?_
      refine e_getr C (ci := 6) 3 rfl rfl rfl (by decide) b_X6 rfl b_fl_X6_26 v0 rfl dX6_execute_86 ?_
      refine e_iload_n C dX6_execute_89 rfl ?_
      refine f_callVr (As := [_]) (ci := 0) C mi_yX0_keepUnlessError mv_yX0_keepUnlessError b_ml_X6_45 dX6_execute_90 rfl (c_X0_keepUnlessError ho n5 (by simp [up]; rw [q12]; exact e1) (by simp [up]; rw [q12]; exact e2)) (by decide) v12 rfl rfl (Nat.le_of_ble_eq_true rfl) ?_
      exact f_ii C hX dX6_execute_93 (ex_fin hR ho e1 e3 hx hzf hff hnf hzf2 hn)
    · skip
      have nh_38 := xI_nleD (by omega) (by omega) h_38
      obtain ⟨f, hf80⟩ : ∃ f, 80 - n = f + 1 := ⟨80 - n - 1, by omega⟩
      rw [hf80] at hl
      refine e_aload_n C dX6_execute_41 rfl ?_
      refine e_getr C (ci := 6) 4 rfl rfl rfl (by decide) b_X6 rfl b_fl_X6_33 v0 rfl dX6_execute_42 ?_
      refine f_callVq (As := []) (ci := 5) C mi_yX5_readCommand mv_yX5_readCommand b_ml_X6_226 dX6_execute_45 rfl (c_X5_readCommand hT (by omega)) (by decide) v14 rfl rfl (Nat.le_of_ble_eq_true rfl) (fun e_45 L_45 k_45 g_45 hc_45 => ?_) (fun e_45 q_45 k_45 g_45 hc_45 h0_45 h1_45 h2_45 => ?_)
      · skip
        have hrl : rl = [] := hl.elim (fun q => by rw [txt_l hc_45] at q; cases q) (fun q => q.1)
        refine e_if_eq (tgt := 77) C dX6_execute_48 (by decide) (fun h_48 => ?_) (fun h_48 => ?_)
        · skip
          have nh_48 := xI_inj (a := 0) (b := 0) (by omega) (by omega) h_48
          have hzf : RelS (tx mm e_45 L_45 k_45 g_45) 0 (z) := hz.tx
          have hff : ∀ id, ¬ blk 0 id → id ≠ (14, 0, 0) → id ≠ (16, 0, 0) → (tx mm e_45 L_45 k_45 g_45) id = (cpS mem (2 + (o + a.2.1.1) % 6) 0) id := fun id hb h14 h16 => (tx_o h14 h16).trans (hf id hb h14 h16)
          have hTf : RTex (tx mm e_45 L_45 k_45 g_45) a.2.2.2 := hT.tx
          have hnf : n = (exs a.1 l0).1 := by rw [← ht1, hrl]; rfl
          have hzf2 : z = (exs a.1 l0).2 := by rw [← ht2, hrl]; rfl
          generalize tx mm e_45 L_45 k_45 g_45 = mf at hzf hff hTf ⊢
          have q12 : mf (12, 0, 0) = mem (12, 0, 0) := (hff _ nb12 (by decide) (by decide)).trans (FrS.copy _ nb12)
          refine e_aload_n C dX6_execute_77 rfl ?_
          refine e_getr C (ci := 6) 4 rfl rfl rfl (by decide) b_X6 rfl b_fl_X6_33 v0 rfl dX6_execute_78 ?_
          refine f_callVr (As := []) (ci := 5) C mi_yX5_empty mv_yX5_empty b_ml_X6_217 dX6_execute_81 rfl (c_X5_empty hTf.2.1) (by decide) v14 rfl rfl (Nat.le_of_ble_eq_true rfl) ?_
          refine e_pop C dX6_execute_84 ?_
          refine e_aload_n C dX6_execute_85 rfl ?_
          refine e_getr C (ci := 6) 3 rfl rfl rfl (by decide) b_X6 rfl b_fl_X6_26 v0 rfl dX6_execute_86 ?_
          refine e_iload_n C dX6_execute_89 rfl ?_
          refine f_callVr (As := [_]) (ci := 0) C mi_yX0_keepUnlessError mv_yX0_keepUnlessError b_ml_X6_45 dX6_execute_90 rfl (c_X0_keepUnlessError ho n5 (by simp [up]; rw [q12]; exact e1) (by simp [up]; rw [q12]; exact e2)) (by decide) v12 rfl rfl (Nat.le_of_ble_eq_true rfl) ?_
          exact f_ii C hX dX6_execute_93 (ex_fin hR ho e1 e3 hx hzf hff hnf hzf2 hn)
        · skip
          exact absurd (by decide) h_48
      · skip
        have hcl := cmd_l hc_45
        obtain ⟨rl2, hrl, hl2⟩ : ∃ rl2, rl = q_45 :: rl2 ∧ ((e_45 = a.2.2.2.1 ∧ rl2 = []) ∨ (¬ e_45 = a.2.2.2.1 ∧ chc a.2.2.2 e_45 = nI 59 ∧ txt a.2.2.2 f (e_45 + 1) = .inr rl2)) := by
          rcases hl with hl | ⟨hl, hl2⟩
          · by_cases he : e_45 = a.2.2.2.1
            · rw [txt_e hc_45 he] at hl; cases hl; exact ⟨[], rfl, Or.inl ⟨he, rfl⟩⟩
            · by_cases hs : chc a.2.2.2 e_45 = nI 59
              · rw [txt_s hc_45 he hs] at hl
                cases hq : txt a.2.2.2 f (e_45 + 1) with
                | inl x => rw [hq] at hl; cases hl
                | inr y => rw [hq] at hl; cases hl; exact ⟨y, rfl, Or.inr ⟨he, hs, rfl⟩⟩
              · rw [txt_n hc_45 he hs] at hl; cases hl
          · rw [hl2] at hcl; omega
        subst hrl
        obtain ⟨c, hGc⟩ := hG
        refine e_if_eq (tgt := 77) C dX6_execute_48 (by decide) (fun h_48 => ?_) (fun h_48 => ?_)
        · skip
          exact absurd h_48 (by decide)
        · skip
          have nh_48 := xI_neD (a := 1) (b := 0) h_48
          refine e_aload_n C dX6_execute_51 rfl ?_
          refine f_callVi (As := []) (ci := 6) C mi_yX6_runCommand mv_yX6_runCommand b_ml_X6_230 dX6_execute_52 rfl (c_X6_runCommand hz hGc.1 hcl.2.2.2.2.2 h0_45 h1_45 h2_45) (by decide) v0 rfl rfl (Nat.le_of_ble_eq_true rfl) (fun x_52 m_52 hc_52 => ?_)
          obtain ⟨rfl, hz2, hf2⟩ := hc_52
          have hmv := tx_mv hf2
          have hT2 : RTex m_52 a.2.2.2 := RTex.frS hT.tx hf2
          have hf3 : ∀ id, ¬ blk 0 id → id ≠ (14, 0, 0) → id ≠ (16, 0, 0) → m_52 id = (cpS mem (2 + (o + a.2.1.1) % 6) 0) id := fun id hb h14 h16 => ((hf2 id hb).trans (tx_o h14 h16)).trans (hf id hb h14 h16)
          refine f_callSr (As := [_]) C mi_yX6_isError b_st_yX6_isError b_ml_X6_233 dX6_execute_55 rfl c_X6_isError (by decide) (Nat.le_of_ble_eq_true rfl) ?_
          refine f_if_ne (tgt := 77) C dX6_execute_58 (by decide) (fun h_58 => ?_) (fun h_58 => ?_)
          · skip
            have hok : isEr (exC z q_45).1 := h_58
            have hzz : (exC z q_45).2 = z := (Alt.exC ⟨c, hGc⟩).elim (fun q => q.1) (fun q => absurd hok q)
            have hzf : RelS (m_52) 0 ((exC z q_45).2) := hz2
            have hff : ∀ id, ¬ blk 0 id → id ≠ (14, 0, 0) → id ≠ (16, 0, 0) → (m_52) id = (cpS mem (2 + (o + a.2.1.1) % 6) 0) id := fun id hb h14 h16 => hf3 id hb h14 h16
            have hTf : RTex (m_52) a.2.2.2 := hT2
            have hnf : n = (exs a.1 l0).1 := by rw [← ht1, exs, cif_pos hok]; rfl
            have hzf2 : (exC z q_45).2 = (exs a.1 l0).2 := by rw [← ht2, exs, cif_pos hok]; exact hzz
            have q12 : m_52 (12, 0, 0) = mem (12, 0, 0) := (hff _ nb12 (by decide) (by decide)).trans (FrS.copy _ nb12)
            refine e_aload_n C dX6_execute_77 rfl ?_
            refine e_getr C (ci := 6) 4 rfl rfl rfl (by decide) b_X6 rfl b_fl_X6_33 v0 rfl dX6_execute_78 ?_
            refine f_callVr (As := []) (ci := 5) C mi_yX5_empty mv_yX5_empty b_ml_X6_217 dX6_execute_81 rfl (c_X5_empty hTf.2.1) (by decide) v14 rfl rfl (Nat.le_of_ble_eq_true rfl) ?_
            refine e_pop C dX6_execute_84 ?_
            refine e_aload_n C dX6_execute_85 rfl ?_
            refine e_getr C (ci := 6) 3 rfl rfl rfl (by decide) b_X6 rfl b_fl_X6_26 v0 rfl dX6_execute_86 ?_
            refine e_iload_n C dX6_execute_89 rfl ?_
            refine f_callVr (As := [_]) (ci := 0) C mi_yX0_keepUnlessError mv_yX0_keepUnlessError b_ml_X6_45 dX6_execute_90 rfl (c_X0_keepUnlessError ho n5 (by simp [up]; rw [q12]; exact e1) (by simp [up]; rw [q12]; exact e2)) (by decide) v12 rfl rfl (Nat.le_of_ble_eq_true rfl) ?_
            exact f_ii C hX dX6_execute_93 (ex_fin hR ho e1 e3 hx hzf hff hnf hzf2 hn)
          · skip
            have hok : ¬ isEr (exC z q_45).1 := h_58
            have hs1 : n + 1 + (exs (exC z q_45).2 rl2).1 = (exs a.1 l0).1 := by rw [← ht1, exs, cif_neg hok]; show _ = n + ((exs (exC z q_45).2 rl2).1 + 1); omega
            have hs2 : (exs (exC z q_45).2 rl2).2 = (exs a.1 l0).2 := by rw [← ht2, exs, cif_neg hok]
            refine e_mem (EqV.of hmv.symm) ?_
            refine f_iincn (ls1 := [_, _]) C dX6_execute_61 rfl (by decide) rfl ?_
            refine e_aload_n C dX6_execute_64 rfl ?_
            refine e_getr C (ci := 6) 4 rfl rfl rfl (by decide) b_X6 rfl b_fl_X6_33 v0 rfl dX6_execute_65 ?_
            refine e_bipush (v := nI 59) C dX6_execute_68 (by decide) ?_
            refine f_callVr (As := [_]) (ci := 5) C mi_yX5_readSign mv_yX5_readSign b_ml_X6_236 dX6_execute_70 rfl (c_X5_readSign hT2 (by omega)) (by decide) v14 rfl rfl (Nat.le_of_ble_eq_true rfl) ?_
            refine e_pop C dX6_execute_73 ?_
            refine e_goto (tgt := 35) C dX6_execute_74 (by decide) ?_
            by_cases hs : chc a.2.2.2 e_45 = nI 59
            · rw [cif_pos hs]
              exact ih (n + 1) (e_45 + 1) _ _ _ m_52 (exC z q_45).2 rl2 (by omega) (by omega) (by omega) hz2 (Good.exC ⟨c, hGc⟩) hf3 hT2 (Or.inl (by rw [show 80 - (n + 1) = f by omega]; exact hl2.elim (fun q => by rw [q.1, chc_end] at hs; exact absurd hs (by decide)) (fun q => q.2.2))) hs1 hs2
            · rw [cif_neg hs]
              exact ih (n + 1) e_45 _ _ _ m_52 (exC z q_45).2 rl2 (by omega) (by omega) (by omega) hz2 (Good.exC ⟨c, hGc⟩) hf3 hT2 (Or.inr (hl2.elim (fun q => ⟨q.2, q.1⟩) (fun q => absurd q.2.1 hs))) hs1 hs2
set_option maxRecDepth 100000 in
set_option maxHeartbeats 4000000 in
theorem c_X6_execute {E : EV} {l : Launch} {mem : MEM} {a : AS} (hR : RC mem a) {l0 : List CMD} (hG : Good a.1) (hx : txt a.2.2.2 80 0 = .inr l0) : Ct E l yX6_execute (me_ws yX6_execute cX6_execute 2 (some .int)) 9 [rv (0, 0, 0)] mem (fun rr mm => ∃ xx : Int32, rr = iv xx ∧ PoC mem ((exA a).2) ((exA a).1) xx mm) := by
  obtain ⟨h1, hh, hk, ht⟩ := id hR
  obtain ⟨n5, o, ho, e1, e2, e3⟩ := hh
  refine Ct.of (RC := RX6) (ls0 := [rv (0, 0, 0), uv]) mi_yX6_execute (Nat.le_of_ble_eq_true rfl) rfl (fun X C hX => ?_)
  refine e_aload_n C dX6_execute_0 rfl ?_
  refine e_getr C (ci := 6) 4 rfl rfl rfl (by decide) b_X6 rfl b_fl_X6_33 v0 rfl dX6_execute_1 ?_
  refine f_callVi (As := []) (ci := 5) C mi_yX5_findError mv_yX5_findError b_ml_X6_220 dX6_execute_4 rfl (c_X5_findError (by assumption)) (by decide) v14 rfl rfl (Nat.le_of_ble_eq_true rfl) (fun x_4 m_4 hc_4 => ?_)
  obtain ⟨hv_4, i, L, k, g, rfl⟩ := hc_4
  have hfe : fErr a.2.2.2 = -6 := by show frr (txt a.2.2.2 80 0) = _; rw [hx]; rfl
  refine e_bipush (v := -6) C dX6_execute_7 (by decide) ?_
  refine e_icmp_eq (tgt := 15) C dX6_execute_9 (by decide) (fun h_9 => ?_) (fun h_9 => ?_)
  · skip
    refine e_aload_n C dX6_execute_15 rfl ?_
    refine e_getr C (ci := 6) 3 rfl rfl rfl (by decide) b_X6 rfl b_fl_X6_26 v0 rfl dX6_execute_16 ?_
    refine e_aload_n C dX6_execute_19 rfl ?_
    refine e_getr C (ci := 6) 0 rfl rfl rfl (by decide) b_X6 rfl b_fl_X6_12 v0 rfl dX6_execute_20 ?_
    refine f_callVv (As := [_]) (ci := 0) C mi_yX0_prepare mv_yX0_prepare b_ml_X6_37 dX6_execute_23 rfl (c_X0_prepare ho n5 (by rw [tx_o (by decide) (by decide)]; exact e1) (by rw [tx_o (by decide) (by decide)]; exact e2)) (by decide) v12 rfl rfl (Nat.le_of_ble_eq_true rfl) ?_
    refine e_iconst (v := nI 0) C dX6_execute_26 (by decide) ?_
    refine f_istore_n (ls1 := [_, _]) C dX6_execute_27 (by decide) rfl ?_
    obtain ⟨i2, k2, e5⟩ := tx_any (cpS (tx mem i L k g) (2 + (o + a.2.1.1) % 6) 0)
    refine e_mem (EqV.of e5.symm) ?_
    refine e_aload_n C dX6_execute_28 rfl ?_
    refine e_getr C (ci := 6) 4 rfl rfl rfl (by decide) b_X6 rfl b_fl_X6_33 v0 rfl dX6_execute_29 ?_
    refine f_callVv (As := []) (ci := 5) C mi_yX5_rewind mv_yX5_rewind b_ml_X6_223 dX6_execute_32 rfl (c_X5_rewind) (by decide) v14 rfl rfl (Nat.le_of_ble_eq_true rfl) ?_
    exact lp_X6_execute hR ho e1 e3 hx C hX 81 0 0 k2 _ _ (cpS (tx mem i L k g) (2 + (o + a.2.1.1) % 6) 0) a.1 l0 (by decide) (by decide) (Nat.zero_le _) (h1.tx.frame FrS.copy (by omega)) hG (fun id hb h14 h16 => cpS_tx h14 h16) (RTex.frS ht.tx FrS.copy) (Or.inl hx) (Nat.zero_add _) rfl
  · skip
    exact absurd (hv_4.trans hfe) h_9
