/-! ===== the model: its row, its small methods ===== -/
def sc (mem : MEM) (id : ID) (f : Nat → Int32) : MEM := fun a => if a = id then f else mem a
def mz (mem : MEM) (z : ZZ) : MEM := sc mem (18, 0, 0) z
theorem sc_s {mem : MEM} {id : ID} {f : Nat → Int32} : sc mem id f id = f := if_pos rfl
theorem sc_o {mem : MEM} {id a : ID} {f : Nat → Int32} (h : a ≠ id) : sc mem id f a = mem a := if_neg h
theorem up_sc {mem : MEM} {id : ID} {f : Nat → Int32} {j : Nat} {v : Int32} : up (sc mem id f) id j v = sc mem id (upd f j v) := by
  funext a b
  by_cases h : a = id
  · subst h
    by_cases h2 : b = j <;> simp [up, sc, upd, h2]
  · simp [up, sc, h]
theorem up_sco {mem : MEM} {id a : ID} {f : Nat → Int32} {j : Nat} {v : Int32} (h : a ≠ id) : up (sc mem id f) a j v = sc (up mem a j v) id f := by
  funext x y
  by_cases h1 : x = id
  · subst h1
    simp [up, sc, Ne.symm h]
  · simp [up, sc, h1]
theorem sc_self {mem : MEM} {id : ID} {f : Nat → Int32} (h : mem id = f) : sc mem id f = mem := by
  funext a
  by_cases e : a = id
  · subst e; rw [sc_s, h]
  · rw [sc_o e]
theorem sc_sc {mem : MEM} {id : ID} {f g : Nat → Int32} : sc (sc mem id f) id g = sc mem id g := by
  funext a
  by_cases e : a = id
  · subst e; rw [sc_s, sc_s]
  · rw [sc_o e, sc_o e, sc_o e]
theorem mz_18 {mem : MEM} {z : ZZ} : mz mem z (18, 0, 0) = z := sc_s
theorem mz_o {mem : MEM} {z : ZZ} {a : ID} (h : a ≠ (18, 0, 0)) : mz mem z a = mem a := sc_o h
theorem mz_self {mem : MEM} {z : ZZ} (h : mem (18, 0, 0) = z) : mz mem z = mem := sc_self h
theorem up_mz {mem : MEM} {z : ZZ} {j : Nat} {v : Int32} : up (mz mem z) (18, 0, 0) j v = mz mem (upd z j v) := up_sc
theorem up_mzo {mem : MEM} {z : ZZ} {a : ID} {j : Nat} {v : Int32} (h : a ≠ (18, 0, 0)) : up (mz mem z) a j v = mz (up mem a j v) z := up_sco h
theorem more_t {a b : Int32} (h : a ≤ b) : b = maxI a b := by
  unfold maxI
  by_cases h2 : a < b
  · rw [if_pos h2]
  · rw [if_neg h2]
    apply Int32.toInt_inj.mp
    rw [Int32.lt_iff_toInt_lt] at h2
    rw [Int32.le_iff_toInt_le] at h
    omega
theorem more_f {a b : Int32} (h : ¬ a ≤ b) : a = maxI a b := by
  unfold maxI
  rw [if_neg]
  rw [Int32.lt_iff_toInt_lt]
  rw [Int32.le_iff_toInt_le] at h
  omega
theorem min_t {a b : Int32} (h : a ≤ b) : a = minI a b := by
  unfold minI
  rw [if_neg]
  rw [Int32.lt_iff_toInt_lt]
  rw [Int32.le_iff_toInt_le] at h
  omega
theorem min_f {a b : Int32} (h : ¬ a ≤ b) : b = minI a b := by
  unfold minI
  rw [if_pos]
  rw [Int32.lt_iff_toInt_lt]
  rw [Int32.le_iff_toInt_le] at h
  omega
noncomputable def atB (z : ZZ) (p : Nat) (t : Int32) : Int32 := if p = 9 then z 0 else behz z p t
theorem sub_pos {a b : Nat} (ha : a < 2 ^ 30) (hb : b < 2 ^ 30) : (0 : Int32) < nI a - nI b ↔ b < a := by
  by_cases h : b ≤ a
  · rw [xI_sub h]
    constructor
    · intro q
      have := xI_ltD (a := 0) (by decide) (by omega) q
      omega
    · intro q
      exact nI_lt (a := 0) (by omega) (by omega)
  · constructor
    · intro q
      exfalso
      rw [Int32.lt_iff_toInt_lt, Int32.toInt_sub, nI_toInt (by omega), nI_toInt (by omega), Int32.toInt_zero] at q
      rw [Int.bmod_eq_of_le (by omega) (by omega)] at q
      omega
    · intro q
      omega
theorem sh0 : ∀ i, i < 8 → (0 : Int32) <<< (nI i &&& 31) = 0 := by decide +kernel

set_option maxRecDepth 100000 in
set_option maxHeartbeats 4000000 in
theorem c_X7_in {E : EV} {l : Launch} {mem : MEM} {a b c : Int32} : Ct E l yX7_in (me_ws yX7_in cX7_in 3 (some .boolean)) 1 [iv a, iv b, iv c] mem (Ret (iv (b2i (b ≤ a ∧ a ≤ c))) mem) := by
  refine Ct.of (RC := RX7) (ls0 := [iv a, iv b, iv c]) mi_yX7_in (Nat.le_of_ble_eq_true rfl) rfl (fun X C hX => ?_)
  refine e_iload_n C dX7_in_0 rfl ?_
  refine e_iload_n C dX7_in_1 rfl ?_
  refine e_icmp_lt (tgt := 14) C dX7_in_2 (by decide) (fun h_2 => ?_) (fun h_2 => ?_)
  · skip
    refine e_iconst (v := nI 0) C dX7_in_14 (by decide) ?_
    exact f_zf C hX dX7_in_15 (by simp only [Int32.lt_iff_toInt_lt, Int32.le_iff_toInt_le, ← Int32.toInt_inj, Int32.toInt_zero, nI_toInt, Nat.reducePow, Nat.reduceLT] at *; omega) rfl
  · skip
    refine e_iload_n C dX7_in_5 rfl ?_
    refine e_iload_n C dX7_in_6 rfl ?_
    refine e_icmp_gt (tgt := 14) C dX7_in_7 (by decide) (fun h_7 => ?_) (fun h_7 => ?_)
    · skip
      refine e_iconst (v := nI 0) C dX7_in_14 (by decide) ?_
      exact f_zf C hX dX7_in_15 (by simp only [Int32.lt_iff_toInt_lt, Int32.le_iff_toInt_le, ← Int32.toInt_inj, Int32.toInt_zero, nI_toInt, Nat.reducePow, Nat.reduceLT] at *; omega) rfl
    · skip
      refine e_iconst (v := nI 1) C dX7_in_10 (by decide) ?_
      refine e_goto (tgt := 15) C dX7_in_11 (by decide) ?_
      exact f_zt C hX dX7_in_15 (by simp only [Int32.lt_iff_toInt_lt, Int32.le_iff_toInt_le, ← Int32.toInt_inj, Int32.toInt_zero, nI_toInt, Nat.reducePow, Nat.reduceLT] at *; omega) rfl
set_option maxRecDepth 100000 in
set_option maxHeartbeats 4000000 in
theorem c_X7_isKey {E : EV} {l : Launch} {mem : MEM} {a : Int32} : Ct E l yX7_isKey (me_ws yX7_isKey cX7_isKey 1 (some .boolean)) 2 [iv a] mem (Ret (iv (b2i (nI 0 ≤ a ∧ a ≤ nI 11))) mem) := by
  refine Ct.of (RC := RX7) (ls0 := [iv a]) mi_yX7_isKey (Nat.le_of_ble_eq_true rfl) rfl (fun X C hX => ?_)
  refine e_iload_n C dX7_isKey_0 rfl ?_
  refine e_iconst (v := nI 0) C dX7_isKey_1 (by decide) ?_
  refine e_bipush (v := nI 11) C dX7_isKey_2 (by decide) ?_
  refine f_callSr (As := [_, _, _]) C mi_yX7_in b_st_yX7_in b_ml_X7_26 dX7_isKey_4 rfl c_X7_in (by decide) (Nat.le_of_ble_eq_true rfl) ?_
  exact f_zb C hX dX7_isKey_7 Iff.rfl rfl
set_option maxRecDepth 100000 in
set_option maxHeartbeats 4000000 in
theorem c_X7_more {E : EV} {l : Launch} {mem : MEM} {a b : Int32} : Ct E l yX7_more (me_ws yX7_more cX7_more 2 (some .int)) 1 [iv a, iv b] mem (Ret (iv (maxI a b)) mem) := by
  refine Ct.of (RC := RX7) (ls0 := [iv a, iv b]) mi_yX7_more (Nat.le_of_ble_eq_true rfl) rfl (fun X C hX => ?_)
  refine e_iload_n C dX7_more_0 rfl ?_
  refine e_iload_n C dX7_more_1 rfl ?_
  refine e_icmp_le (tgt := 9) C dX7_more_2 (by decide) (fun h_2 => ?_) (fun h_2 => ?_)
  · skip
    refine e_iload_n C dX7_more_9 rfl ?_
    exact f_ir C hX dX7_more_10 (more_t h_2) rfl
  · skip
    refine e_iload_n C dX7_more_5 rfl ?_
    refine e_goto (tgt := 10) C dX7_more_6 (by decide) ?_
    exact f_ir C hX dX7_more_10 (more_f h_2) rfl
set_option maxRecDepth 100000 in
set_option maxHeartbeats 4000000 in
theorem c_X7_ofReplica {E : EV} {l : Launch} {mem : MEM} {z : ZZ} {r w : Nat} (hr : r < 5) (hw : w < 5) : Ct E l yX7_ofReplica (me_ws yX7_ofReplica cX7_ofReplica 3 (some .int)) 1 [rv (17, 0, 0), iv (nI r), iv (nI w)] (mz mem z) (Ret (iv (rz z r w)) (mz mem z)) := by
  refine Ct.of (RC := RX7) (ls0 := [rv (17, 0, 0), iv (nI r), iv (nI w)]) mi_yX7_ofReplica (Nat.le_of_ble_eq_true rfl) rfl (fun X C hX => ?_)
  refine e_aload_n C dX7_ofReplica_0 rfl ?_
  refine e_getr C (ci := 7) 0 rfl rfl rfl (by decide) b_X7 rfl b_fl_X7_7 v17 rfl dX7_ofReplica_1 ?_
  refine e_iconst (v := nI 5) C dX7_ofReplica_4 (by decide) ?_
  refine e_iconst (v := nI 5) C dX7_ofReplica_5 (by decide) ?_
  refine e_iload_n C dX7_ofReplica_6 rfl ?_
  refine f_imuln C dX7_ofReplica_7 ?_
  refine f_iaddn C dX7_ofReplica_8 ?_
  refine e_iload_n C dX7_ofReplica_9 rfl ?_
  refine f_iaddn C dX7_ofReplica_10 ?_
  refine f_iald C rfl v18 (by omega) (by decide) dX7_ofReplica_11 ?_
  exact f_ir C hX dX7_ofReplica_12 rfl rfl
set_option maxRecDepth 100000 in
set_option maxHeartbeats 4000000 in
theorem c_X7_ofSession {E : EV} {l : Launch} {mem : MEM} {z : ZZ} {r w : Nat} (hr : r < 8) (hw : w < 33) : Ct E l yX7_ofSession (me_ws yX7_ofSession cX7_ofSession 3 (some .int)) 1 [rv (17, 0, 0), iv (nI r), iv (nI w)] (mz mem z) (Ret (iv (sz z r w)) (mz mem z)) := by
  refine Ct.of (RC := RX7) (ls0 := [rv (17, 0, 0), iv (nI r), iv (nI w)]) mi_yX7_ofSession (Nat.le_of_ble_eq_true rfl) rfl (fun X C hX => ?_)
  refine e_aload_n C dX7_ofSession_0 rfl ?_
  refine e_getr C (ci := 7) 0 rfl rfl rfl (by decide) b_X7 rfl b_fl_X7_7 v17 rfl dX7_ofSession_1 ?_
  refine e_bipush (v := nI 30) C dX7_ofSession_4 (by decide) ?_
  refine e_bipush (v := nI 33) C dX7_ofSession_6 (by decide) ?_
  refine e_iload_n C dX7_ofSession_8 rfl ?_
  refine f_imuln C dX7_ofSession_9 ?_
  refine f_iaddn C dX7_ofSession_10 ?_
  refine e_iload_n C dX7_ofSession_11 rfl ?_
  refine f_iaddn C dX7_ofSession_12 ?_
  refine f_iald C rfl v18 (by omega) (by decide) dX7_ofSession_13 ?_
  exact f_ir C hX dX7_ofSession_14 rfl rfl
set_option maxRecDepth 100000 in
set_option maxHeartbeats 4000000 in
theorem c_X7_layReplica {E : EV} {l : Launch} {mem : MEM} {z : ZZ} {r w : Nat} {v : Int32} (hr : r < 5) (hw : w < 5) : Ct E l yX7_layReplica (me_ws yX7_layReplica cX7_layReplica 4 none) 1 [rv (17, 0, 0), iv (nI r), iv (nI w), iv v] (mz mem z) (Ret uv (mz mem (rs z r w v))) := by
  refine Ct.of (RC := RX7) (ls0 := [rv (17, 0, 0), iv (nI r), iv (nI w), iv v]) mi_yX7_layReplica (Nat.le_of_ble_eq_true rfl) rfl (fun X C hX => ?_)
  refine e_aload_n C dX7_layReplica_0 rfl ?_
  refine e_getr C (ci := 7) 0 rfl rfl rfl (by decide) b_X7 rfl b_fl_X7_7 v17 rfl dX7_layReplica_1 ?_
  refine e_iconst (v := nI 5) C dX7_layReplica_4 (by decide) ?_
  refine e_iconst (v := nI 5) C dX7_layReplica_5 (by decide) ?_
  refine e_iload_n C dX7_layReplica_6 rfl ?_
  refine f_imuln C dX7_layReplica_7 ?_
  refine f_iaddn C dX7_layReplica_8 ?_
  refine e_iload_n C dX7_layReplica_9 rfl ?_
  refine f_iaddn C dX7_layReplica_10 ?_
  refine e_iload_n C dX7_layReplica_11 rfl ?_
  refine f_iast C rfl v18 (by omega) (by decide) dX7_layReplica_12 ?_
  rw [up_mz]
  exact f_vr C hX dX7_layReplica_13 rfl
set_option maxRecDepth 100000 in
set_option maxHeartbeats 4000000 in
theorem c_X7_laySession {E : EV} {l : Launch} {mem : MEM} {z : ZZ} {r w : Nat} {v : Int32} (hr : r < 8) (hw : w < 33) : Ct E l yX7_laySession (me_ws yX7_laySession cX7_laySession 4 none) 1 [rv (17, 0, 0), iv (nI r), iv (nI w), iv v] (mz mem z) (Ret uv (mz mem (ss z r w v))) := by
  refine Ct.of (RC := RX7) (ls0 := [rv (17, 0, 0), iv (nI r), iv (nI w), iv v]) mi_yX7_laySession (Nat.le_of_ble_eq_true rfl) rfl (fun X C hX => ?_)
  refine e_aload_n C dX7_laySession_0 rfl ?_
  refine e_getr C (ci := 7) 0 rfl rfl rfl (by decide) b_X7 rfl b_fl_X7_7 v17 rfl dX7_laySession_1 ?_
  refine e_bipush (v := nI 30) C dX7_laySession_4 (by decide) ?_
  refine e_bipush (v := nI 33) C dX7_laySession_6 (by decide) ?_
  refine e_iload_n C dX7_laySession_8 rfl ?_
  refine f_imuln C dX7_laySession_9 ?_
  refine f_iaddn C dX7_laySession_10 ?_
  refine e_iload_n C dX7_laySession_11 rfl ?_
  refine f_iaddn C dX7_laySession_12 ?_
  refine e_iload_n C dX7_laySession_13 rfl ?_
  refine f_iast C rfl v18 (by omega) (by decide) dX7_laySession_14 ?_
  rw [up_mz]
  exact f_vr C hX dX7_laySession_15 rfl
set_option maxRecDepth 100000 in
set_option maxHeartbeats 4000000 in
theorem c_X7_isReplica {E : EV} {l : Launch} {mem : MEM} {z : ZZ} {n : Int32} : Ct E l yX7_isReplica (me_ws yX7_isReplica cX7_isReplica 2 (some .boolean)) 2 [rv (17, 0, 0), iv n] (mz mem z) (Ret (iv (b2i (isR z n))) (mz mem z)) := by
  refine Ct.of (RC := RX7) (ls0 := [rv (17, 0, 0), iv n]) mi_yX7_isReplica (Nat.le_of_ble_eq_true rfl) rfl (fun X C hX => ?_)
  refine e_iload_n C dX7_isReplica_0 rfl ?_
  refine e_iconst (v := nI 0) C dX7_isReplica_1 (by decide) ?_
  refine e_iconst (v := nI 4) C dX7_isReplica_2 (by decide) ?_
  refine f_callSr (As := [_, _, _]) C mi_yX7_in b_st_yX7_in b_ml_X7_26 dX7_isReplica_3 rfl c_X7_in (by decide) (Nat.le_of_ble_eq_true rfl) ?_
  refine f_if_eq (tgt := 23) C dX7_isReplica_6 (by decide) (fun h_6 => ?_) (fun h_6 => ?_)
  · skip
    refine e_iconst (v := nI 0) C dX7_isReplica_23 (by decide) ?_
    exact f_zf C hX dX7_isReplica_24 (fun ⟨i, hi, e, _⟩ => h_6 (by rw [e]; exact ⟨nI_le (Nat.zero_le _) (by omega), nI_le (by omega) (by decide)⟩)) rfl
  · skip
    obtain ⟨i, hi, rfl⟩ := xI_le_of h_6.1 h_6.2 (by decide)
    refine e_aload_n C dX7_isReplica_9 rfl ?_
    refine e_iload_n C dX7_isReplica_10 rfl ?_
    refine e_iconst (v := nI 0) C dX7_isReplica_11 (by decide) ?_
    refine f_callVr (As := [_, _]) (ci := 7) C mi_yX7_ofReplica mv_yX7_ofReplica b_ml_X7_30 dX7_isReplica_12 rfl (c_X7_ofReplica (by omega) (by omega)) (by decide) v17 rfl rfl (Nat.le_of_ble_eq_true rfl) ?_
    refine e_iconst (v := nI 1) C dX7_isReplica_15 (by decide) ?_
    refine e_icmp_ne (tgt := 23) C dX7_isReplica_16 (by decide) (fun h_16 => ?_) (fun h_16 => ?_)
    · skip
      refine e_iconst (v := nI 0) C dX7_isReplica_23 (by decide) ?_
      exact f_zf C hX dX7_isReplica_24 (fun q => h_16 ((isR_nat (by omega)).mp q).2) rfl
    · skip
      refine e_iconst (v := nI 1) C dX7_isReplica_19 (by decide) ?_
      refine e_goto (tgt := 24) C dX7_isReplica_20 (by decide) ?_
      exact f_zt C hX dX7_isReplica_24 ⟨i, by omega, rfl, h_16⟩ rfl
set_option maxRecDepth 100000 in
set_option maxHeartbeats 4000000 in
theorem c_X7_isSession {E : EV} {l : Launch} {mem : MEM} {z : ZZ} {n : Int32} : Ct E l yX7_isSession (me_ws yX7_isSession cX7_isSession 2 (some .boolean)) 2 [rv (17, 0, 0), iv n] (mz mem z) (Ret (iv (b2i (isS z n))) (mz mem z)) := by
  refine Ct.of (RC := RX7) (ls0 := [rv (17, 0, 0), iv n]) mi_yX7_isSession (Nat.le_of_ble_eq_true rfl) rfl (fun X C hX => ?_)
  refine e_iload_n C dX7_isSession_0 rfl ?_
  refine e_iconst (v := nI 0) C dX7_isSession_1 (by decide) ?_
  refine e_bipush (v := nI 7) C dX7_isSession_2 (by decide) ?_
  refine f_callSr (As := [_, _, _]) C mi_yX7_in b_st_yX7_in b_ml_X7_26 dX7_isSession_4 rfl c_X7_in (by decide) (Nat.le_of_ble_eq_true rfl) ?_
  refine f_if_eq (tgt := 24) C dX7_isSession_7 (by decide) (fun h_7 => ?_) (fun h_7 => ?_)
  · skip
    refine e_iconst (v := nI 0) C dX7_isSession_24 (by decide) ?_
    exact f_zf C hX dX7_isSession_25 (fun ⟨i, hi, e, _⟩ => h_7 (by rw [e]; exact ⟨nI_le (Nat.zero_le _) (by omega), nI_le (by omega) (by decide)⟩)) rfl
  · skip
    obtain ⟨i, hi, rfl⟩ := xI_le_of h_7.1 h_7.2 (by decide)
    refine e_aload_n C dX7_isSession_10 rfl ?_
    refine e_iload_n C dX7_isSession_11 rfl ?_
    refine e_iconst (v := nI 0) C dX7_isSession_12 (by decide) ?_
    refine f_callVr (As := [_, _]) (ci := 7) C mi_yX7_ofSession mv_yX7_ofSession b_ml_X7_38 dX7_isSession_13 rfl (c_X7_ofSession (by omega) (by omega)) (by decide) v17 rfl rfl (Nat.le_of_ble_eq_true rfl) ?_
    refine e_iconst (v := nI 1) C dX7_isSession_16 (by decide) ?_
    refine e_icmp_ne (tgt := 24) C dX7_isSession_17 (by decide) (fun h_17 => ?_) (fun h_17 => ?_)
    · skip
      refine e_iconst (v := nI 0) C dX7_isSession_24 (by decide) ?_
      exact f_zf C hX dX7_isSession_25 (fun q => h_17 ((isS_nat (by omega)).mp q).2) rfl
    · skip
      refine e_iconst (v := nI 1) C dX7_isSession_20 (by decide) ?_
      refine e_goto (tgt := 25) C dX7_isSession_21 (by decide) ?_
      exact f_zt C hX dX7_isSession_25 ⟨i, by omega, rfl, h_17⟩ rfl
set_option maxRecDepth 100000 in
set_option maxHeartbeats 4000000 in
theorem c_X7_isPlace {E : EV} {l : Launch} {mem : MEM} {z : ZZ} {n : Int32} : Ct E l yX7_isPlace (me_ws yX7_isPlace cX7_isPlace 2 (some .boolean)) 3 [rv (17, 0, 0), iv n] (mz mem z) (Ret (iv (b2i (isP z n))) (mz mem z)) := by
  refine Ct.of (RC := RX7) (ls0 := [rv (17, 0, 0), iv n]) mi_yX7_isPlace (Nat.le_of_ble_eq_true rfl) rfl (fun X C hX => ?_)
  refine e_iload_n C dX7_isPlace_0 rfl ?_
  refine e_bipush (v := nI 9) C dX7_isPlace_1 (by decide) ?_
  refine e_icmp_eq (tgt := 14) C dX7_isPlace_3 (by decide) (fun h_3 => ?_) (fun h_3 => ?_)
  · skip
    refine e_iconst (v := nI 1) C dX7_isPlace_14 (by decide) ?_
    refine e_goto (tgt := 19) C dX7_isPlace_15 (by decide) ?_
    exact f_zt C hX dX7_isPlace_19 (Or.inl h_3) rfl
  · skip
    refine e_aload_n C dX7_isPlace_6 rfl ?_
    refine e_iload_n C dX7_isPlace_7 rfl ?_
    refine f_callVr (As := [_]) (ci := 7) C mi_yX7_isReplica mv_yX7_isReplica b_ml_X7_34 dX7_isPlace_8 rfl c_X7_isReplica (by decide) v17 rfl rfl (Nat.le_of_ble_eq_true rfl) ?_
    refine f_if_eq (tgt := 18) C dX7_isPlace_11 (by decide) (fun h_11 => ?_) (fun h_11 => ?_)
    · skip
      refine e_iconst (v := nI 0) C dX7_isPlace_18 (by decide) ?_
      exact f_zf C hX dX7_isPlace_19 (fun q => q.elim h_3 h_11) rfl
    · skip
      refine e_iconst (v := nI 1) C dX7_isPlace_14 (by decide) ?_
      refine e_goto (tgt := 19) C dX7_isPlace_15 (by decide) ?_
      exact f_zt C hX dX7_isPlace_19 (Or.inr h_11) rfl
set_option maxRecDepth 100000 in
set_option maxHeartbeats 4000000 in
theorem c_X7_at {E : EV} {l : Launch} {mem : MEM} {z : ZZ} {p : Nat} (hp : isPn z p) : Ct E l yX7_at (me_ws yX7_at cX7_at 2 (some .int)) 2 [rv (17, 0, 0), iv (nI p)] (mz mem z) (Ret (iv (posz z p)) (mz mem z)) := by
  have hpl : p < 10 := by rcases hp with h | h <;> omega
  refine Ct.of (RC := RX7) (ls0 := [rv (17, 0, 0), iv (nI p)]) mi_yX7_at (Nat.le_of_ble_eq_true rfl) rfl (fun X C hX => ?_)
  refine e_iload_n C dX7_at_0 rfl ?_
  refine e_bipush (v := nI 9) C dX7_at_1 (by decide) ?_
  refine e_icmp_ne (tgt := 15) C dX7_at_3 (by decide) (fun h_3 => ?_) (fun h_3 => ?_)
  · skip
    have nh_3 := xI_neD h_3
    obtain ⟨h5, -⟩ := hp.resolve_left nh_3
    refine e_aload_n C dX7_at_15 rfl ?_
    refine e_iload_n C dX7_at_16 rfl ?_
    refine e_iconst (v := nI 1) C dX7_at_17 (by decide) ?_
    refine f_callVr (As := [_, _]) (ci := 7) C mi_yX7_ofReplica mv_yX7_ofReplica b_ml_X7_30 dX7_at_18 rfl (c_X7_ofReplica (by omega) (by omega)) (by decide) v17 rfl rfl (Nat.le_of_ble_eq_true rfl) ?_
    exact f_ir C hX dX7_at_21 (by rw [posz, if_neg nh_3]) rfl
  · skip
    have nh_3 := xI_inj (by omega) (by omega) h_3
    refine e_aload_n C dX7_at_6 rfl ?_
    refine e_getr C (ci := 7) 0 rfl rfl rfl (by decide) b_X7 rfl b_fl_X7_7 v17 rfl dX7_at_7 ?_
    refine e_iconst (v := nI 0) C dX7_at_10 (by decide) ?_
    refine f_iald C rfl v18 (by omega) (by decide) dX7_at_11 ?_
    refine e_goto (tgt := 21) C dX7_at_12 (by decide) ?_
    exact f_ir C hX dX7_at_21 (by rw [posz, if_pos nh_3]; rfl) rfl
set_option maxRecDepth 100000 in
set_option maxHeartbeats 4000000 in
theorem c_X7_ofWrite {E : EV} {l : Launch} {mem : MEM} {z : ZZ} {i w : Nat} (hi : i < 200) (hw : w < 3) : Ct E l yX7_ofWrite (me_ws yX7_ofWrite cX7_ofWrite 3 (some .int)) 1 [rv (17, 0, 0), iv (nI (i + 1)), iv (nI w)] (mz mem z) (Ret (iv (wz z i w)) (mz mem z)) := by
  refine Ct.of (RC := RX7) (ls0 := [rv (17, 0, 0), iv (nI (i + 1)), iv (nI w)]) mi_yX7_ofWrite (Nat.le_of_ble_eq_true rfl) rfl (fun X C hX => ?_)
  refine e_aload_n C dX7_ofWrite_0 rfl ?_
  refine e_getr C (ci := 7) 0 rfl rfl rfl (by decide) b_X7 rfl b_fl_X7_7 v17 rfl dX7_ofWrite_1 ?_
  refine e_sipush (v := nI 294) C dX7_ofWrite_4 (by decide) ?_
  refine e_iconst (v := nI 3) C dX7_ofWrite_7 (by decide) ?_
  refine e_iload_n C dX7_ofWrite_8 rfl ?_
  refine e_iconst (v := nI 1) C dX7_ofWrite_9 (by decide) ?_
  refine f_isubn C (by omega) dX7_ofWrite_10 ?_
  refine f_imuln C dX7_ofWrite_11 ?_
  refine f_iaddn C dX7_ofWrite_12 ?_
  refine e_iload_n C dX7_ofWrite_13 rfl ?_
  refine f_iaddn C dX7_ofWrite_14 ?_
  refine f_iald C rfl v18 (by omega) (by decide) dX7_ofWrite_15 ?_
  exact f_ir C hX dX7_ofWrite_16 (by rw [Nat.add_sub_cancel]; rfl) rfl
set_option maxRecDepth 100000 in
set_option maxHeartbeats 4000000 in
theorem lp_X7_versionAt {E : EV} {l : Launch} {X : CX} {mem : MEM} {z : ZZ} {p : Nat} (hp : p ≤ 200) {key : Int32} (C : CK E X RX7 cX7_versionAt 4 (some .int) 2) (hX : EX E X l (Ret (iv (nI (lastw (keyf z) p key))) (mz mem z))) : ∀ (lpn : Nat) (j : Nat), j < lpn → j ≤ p → lastw (keyf z) j key = lastw (keyf z) p key → G E X 4 2 [rv (17, 0, 0), iv (nI p), iv key, iv (nI j)] [] (mz mem z) := by
  intro lpn
  induction lpn with
  | zero => intro j hlpn; exact absurd hlpn (Nat.not_lt_zero _)
  | succ lpn ih =>
    intro j hlpn hj hv
    refine e_iload_n C dX7_versionAt_2 rfl ?_
    refine e_if_le (tgt := 22) C dX7_versionAt_3 (by decide) (fun h_3 => ?_) (fun h_3 => ?_)
    · skip
      have nh_3 := xI_leD (a := j) (b := 0) (by omega) (by omega) h_3
      obtain rfl : j = 0 := by omega
      refine e_iload_n C dX7_versionAt_22 rfl ?_
      exact f_ir C hX dX7_versionAt_23 (by rw [← hv]; rfl) rfl
    · skip
      have nh_3 := xI_nleD (a := j) (b := 0) (by omega) (by omega) h_3
      obtain ⟨i, rfl⟩ : ∃ i, j = i + 1 := ⟨j - 1, by omega⟩
      refine e_aload_n C dX7_versionAt_6 rfl ?_
      refine e_iload_n C dX7_versionAt_7 rfl ?_
      refine e_iconst (v := nI 0) C dX7_versionAt_8 (by decide) ?_
      refine f_callVr (As := [_, _]) (ci := 7) C mi_yX7_ofWrite mv_yX7_ofWrite b_ml_X7_82 dX7_versionAt_9 rfl (c_X7_ofWrite (by omega) (by decide)) (by decide) v17 rfl rfl (Nat.le_of_ble_eq_true rfl) ?_
      refine e_iload_n C dX7_versionAt_12 rfl ?_
      refine e_icmp_eq (tgt := 22) C dX7_versionAt_13 (by decide) (fun h_13 => ?_) (fun h_13 => ?_)
      · skip
        refine e_iload_n C dX7_versionAt_22 rfl ?_
        exact f_ir C hX dX7_versionAt_23 (by rw [← hv, lastw_yes (f := keyf z) h_13]) rfl
      · skip
        refine f_idec (ls1 := [_, _, _, _]) C dX7_versionAt_16 rfl (by decide) rfl ?_
        refine e_goto (tgt := 2) C dX7_versionAt_19 (by decide) ?_
        exact ih i (by omega) (by omega) (by rw [← hv, lastw_no (f := keyf z) h_13])
set_option maxRecDepth 100000 in
set_option maxHeartbeats 4000000 in
theorem c_X7_versionAt {E : EV} {l : Launch} {mem : MEM} {z : ZZ} {p : Nat} (hp : p ≤ 200) {key : Int32} : Ct E l yX7_versionAt (me_ws yX7_versionAt cX7_versionAt 4 (some .int)) 2 [rv (17, 0, 0), iv (nI p), iv key] (mz mem z) (Ret (iv (nI (lastw (keyf z) p key))) (mz mem z)) := by
  refine Ct.of (RC := RX7) (ls0 := [rv (17, 0, 0), iv (nI p), iv key, uv]) mi_yX7_versionAt (Nat.le_of_ble_eq_true rfl) rfl (fun X C hX => ?_)
  refine e_iload_n C dX7_versionAt_0 rfl ?_
  refine f_istore_n (ls1 := [_, _, _, _]) C dX7_versionAt_1 (by decide) rfl ?_
  exact lp_X7_versionAt hp C hX (p + 1) p (Nat.lt_succ_self p) (Nat.le_refl p) rfl
set_option maxRecDepth 100000 in
set_option maxHeartbeats 4000000 in
theorem c_X7_valueOf {E : EV} {l : Launch} {mem : MEM} {z : ZZ} {v : Nat} (hv : v ≤ 200) : Ct E l yX7_valueOf (me_ws yX7_valueOf cX7_valueOf 2 (some .int)) 2 [rv (17, 0, 0), iv (nI v)] (mz mem z) (Ret (iv (valz z v)) (mz mem z)) := by
  refine Ct.of (RC := RX7) (ls0 := [rv (17, 0, 0), iv (nI v)]) mi_yX7_valueOf (Nat.le_of_ble_eq_true rfl) rfl (fun X C hX => ?_)
  refine e_iload_n C dX7_valueOf_0 rfl ?_
  refine e_if_ne (tgt := 9) C dX7_valueOf_1 (by decide) (fun h_1 => ?_) (fun h_1 => ?_)
  · skip
    have nh_1 := xI_neD (a := v) (b := 0) h_1
    obtain ⟨i, rfl⟩ : ∃ i, v = i + 1 := ⟨v - 1, by omega⟩
    refine e_aload_n C dX7_valueOf_9 rfl ?_
    refine e_iload_n C dX7_valueOf_10 rfl ?_
    refine e_iconst (v := nI 1) C dX7_valueOf_11 (by decide) ?_
    refine f_callVr (As := [_, _]) (ci := 7) C mi_yX7_ofWrite mv_yX7_ofWrite b_ml_X7_82 dX7_valueOf_12 rfl (c_X7_ofWrite (by omega) (by decide)) (by decide) v17 rfl rfl (Nat.le_of_ble_eq_true rfl) ?_
    exact f_ir C hX dX7_valueOf_15 (by rw [valz, if_neg (by omega)]; rfl) rfl
  · skip
    have nh_1 := xI_inj (a := v) (b := 0) (by omega) (by omega) h_1
    obtain rfl : v = 0 := by omega
    refine e_bipush (v := -6) C dX7_valueOf_4 (by decide) ?_
    refine e_goto (tgt := 15) C dX7_valueOf_6 (by decide) ?_
    exact f_ir C hX dX7_valueOf_15 rfl rfl
set_option maxRecDepth 100000 in
set_option maxHeartbeats 4000000 in
theorem lp_X7_homes {E : EV} {l : Launch} {X : CX} {mem : MEM} {z : ZZ} {pl : Int32} (C : CK E X RX7 cX7_homes 4 (some .int) 2) (hX : EX E X l (Ret (iv (nI (homz z pl 8))) (mz mem z))) : ∀ (lpn : Nat) (i w : Nat), 8 - i < lpn → i ≤ 8 → w = homz z pl i → G E X 4 4 [rv (17, 0, 0), iv pl, iv (nI w), iv (nI i)] [] (mz mem z) := by
  intro lpn
  induction lpn with
  | zero => intro i w hlpn; exact absurd hlpn (Nat.not_lt_zero _)
  | succ lpn ih =>
    intro i w hlpn hi hw
    refine e_iload_n C dX7_homes_4 rfl ?_
    refine e_bipush (v := nI 8) C dX7_homes_5 (by decide) ?_
    refine e_icmp_ge (tgt := 44) C dX7_homes_7 (by decide) (fun h_7 => ?_) (fun h_7 => ?_)
    · skip
      have nh_7 := xI_leD (by omega) (by omega) h_7
      refine e_iload_n C dX7_homes_44 rfl ?_
      obtain rfl : i = 8 := by omega
      exact f_ir C hX dX7_homes_45 (by rw [hw]) rfl
    · skip
      have nh_7 := xI_nleD (by omega) (by omega) h_7
      refine e_iload_n C dX7_homes_10 rfl ?_
      refine e_aload_n C dX7_homes_11 rfl ?_
      refine e_iload_n C dX7_homes_12 rfl ?_
      refine e_iconst (v := nI 0) C dX7_homes_13 (by decide) ?_
      refine f_callVr (As := [_, _]) (ci := 7) C mi_yX7_ofSession mv_yX7_ofSession b_ml_X7_38 dX7_homes_14 rfl (c_X7_ofSession (by omega) (by omega)) (by decide) v17 rfl rfl (Nat.le_of_ble_eq_true rfl) ?_
      refine e_iconst (v := nI 1) C dX7_homes_17 (by decide) ?_
      refine e_icmp_ne (tgt := 35) C dX7_homes_18 (by decide) (fun h_18 => ?_) (fun h_18 => ?_)
      · skip
        refine e_iconst (v := nI 0) C dX7_homes_35 (by decide) ?_
        refine f_iaddn C dX7_homes_36 ?_
        refine f_istore_n (ls1 := [_, _, _, _]) C dX7_homes_37 (by decide) rfl ?_
        refine f_iincn (ls1 := [_, _, _, _]) C dX7_homes_38 rfl (by decide) rfl ?_
        refine e_goto (tgt := 4) C dX7_homes_41 (by decide) ?_
        exact ih (i + 1) _ (by omega) (by omega) (by rw [homz, cif_neg (fun q => h_18 q.1)]; omega)
      · skip
        refine e_aload_n C dX7_homes_21 rfl ?_
        refine e_iload_n C dX7_homes_22 rfl ?_
        refine e_iconst (v := nI 1) C dX7_homes_23 (by decide) ?_
        refine f_callVr (As := [_, _]) (ci := 7) C mi_yX7_ofSession mv_yX7_ofSession b_ml_X7_38 dX7_homes_24 rfl (c_X7_ofSession (by omega) (by omega)) (by decide) v17 rfl rfl (Nat.le_of_ble_eq_true rfl) ?_
        refine e_iload_n C dX7_homes_27 rfl ?_
        refine e_icmp_ne (tgt := 35) C dX7_homes_28 (by decide) (fun h_28 => ?_) (fun h_28 => ?_)
        · skip
          refine e_iconst (v := nI 0) C dX7_homes_35 (by decide) ?_
          refine f_iaddn C dX7_homes_36 ?_
          refine f_istore_n (ls1 := [_, _, _, _]) C dX7_homes_37 (by decide) rfl ?_
          refine f_iincn (ls1 := [_, _, _, _]) C dX7_homes_38 rfl (by decide) rfl ?_
          refine e_goto (tgt := 4) C dX7_homes_41 (by decide) ?_
          exact ih (i + 1) _ (by omega) (by omega) (by rw [homz, cif_neg (fun q => h_28 q.2)]; omega)
        · skip
          refine e_iconst (v := nI 1) C dX7_homes_31 (by decide) ?_
          refine e_goto (tgt := 36) C dX7_homes_32 (by decide) ?_
          refine f_iaddn C dX7_homes_36 ?_
          refine f_istore_n (ls1 := [_, _, _, _]) C dX7_homes_37 (by decide) rfl ?_
          refine f_iincn (ls1 := [_, _, _, _]) C dX7_homes_38 rfl (by decide) rfl ?_
          refine e_goto (tgt := 4) C dX7_homes_41 (by decide) ?_
          exact ih (i + 1) _ (by omega) (by omega) (by rw [homz, cif_pos ⟨h_18, h_28⟩]; omega)
set_option maxRecDepth 100000 in
set_option maxHeartbeats 4000000 in
theorem c_X7_homes {E : EV} {l : Launch} {mem : MEM} {z : ZZ} {pl : Int32} : Ct E l yX7_homes (me_ws yX7_homes cX7_homes 4 (some .int)) 2 [rv (17, 0, 0), iv pl] (mz mem z) (Ret (iv (nI (homz z pl 8))) (mz mem z)) := by
  refine Ct.of (RC := RX7) (ls0 := [rv (17, 0, 0), iv pl, uv, uv]) mi_yX7_homes (Nat.le_of_ble_eq_true rfl) rfl (fun X C hX => ?_)
  refine e_iconst (v := nI 0) C dX7_homes_0 (by decide) ?_
  refine f_istore_n (ls1 := [_, _, _, _]) C dX7_homes_1 (by decide) rfl ?_
  refine e_iconst (v := nI 0) C dX7_homes_2 (by decide) ?_
  refine f_istore_n (ls1 := [_, _, _, _]) C dX7_homes_3 (by decide) rfl ?_
  exact lp_X7_homes C hX 9 0 0 (by decide) (by decide) rfl
set_option maxRecDepth 100000 in
set_option maxHeartbeats 4000000 in
theorem c_X7_atBehind {E : EV} {l : Launch} {mem : MEM} {z : ZZ} {p : Nat} (hp : p = 9 ∨ p < 5) {t : Int32} : Ct E l yX7_atBehind (me_ws yX7_atBehind cX7_atBehind 4 (some .int)) 2 [rv (17, 0, 0), iv (nI p), iv t] (mz mem z) (Ret (iv (atB z p t)) (mz mem z)) := by
  have hpl : p < 10 := by omega
  refine Ct.of (RC := RX7) (ls0 := [rv (17, 0, 0), iv (nI p), iv t, uv]) mi_yX7_atBehind (Nat.le_of_ble_eq_true rfl) rfl (fun X C hX => ?_)
  refine e_iload_n C dX7_atBehind_0 rfl ?_
  refine e_bipush (v := nI 9) C dX7_atBehind_1 (by decide) ?_
  refine e_icmp_ne (tgt := 13) C dX7_atBehind_3 (by decide) (fun h_3 => ?_) (fun h_3 => ?_)
  · skip
    have nh_3 := xI_neD h_3
    have h5 : p < 5 := hp.resolve_left nh_3
    refine e_aload_n C dX7_atBehind_13 rfl ?_
    refine e_iload_n C dX7_atBehind_14 rfl ?_
    refine e_iconst (v := nI 1) C dX7_atBehind_15 (by decide) ?_
    refine f_callVr (As := [_, _]) (ci := 7) C mi_yX7_ofReplica mv_yX7_ofReplica b_ml_X7_30 dX7_atBehind_16 rfl (c_X7_ofReplica (by omega) (by omega)) (by decide) v17 rfl rfl (Nat.le_of_ble_eq_true rfl) ?_
    refine e_aload_n C dX7_atBehind_19 rfl ?_
    refine e_iload_n C dX7_atBehind_20 rfl ?_
    refine e_iconst (v := nI 3) C dX7_atBehind_21 (by decide) ?_
    refine f_callVr (As := [_, _]) (ci := 7) C mi_yX7_ofReplica mv_yX7_ofReplica b_ml_X7_30 dX7_atBehind_22 rfl (c_X7_ofReplica (by omega) (by omega)) (by decide) v17 rfl rfl (Nat.le_of_ble_eq_true rfl) ?_
    refine e_iconst (v := nI 1) C dX7_atBehind_25 (by decide) ?_
    refine e_icmp_ne (tgt := 33) C dX7_atBehind_26 (by decide) (fun h_26 => ?_) (fun h_26 => ?_)
    · skip
      refine e_aload_n C dX7_atBehind_33 rfl ?_
      refine e_iload_n C dX7_atBehind_34 rfl ?_
      refine e_iconst (v := nI 2) C dX7_atBehind_35 (by decide) ?_
      refine f_callVr (As := [_, _]) (ci := 7) C mi_yX7_ofReplica mv_yX7_ofReplica b_ml_X7_30 dX7_atBehind_36 rfl (c_X7_ofReplica (by omega) (by omega)) (by decide) v17 rfl rfl (Nat.le_of_ble_eq_true rfl) ?_
      refine e_iload_n C dX7_atBehind_39 rfl ?_
      refine e_imul C dX7_atBehind_40 ?_
      refine e_iadd C dX7_atBehind_41 ?_
      refine f_istore_n (ls1 := [_, _, _, _]) C dX7_atBehind_42 (by decide) rfl ?_
      refine e_iload_n C dX7_atBehind_43 rfl ?_
      refine e_aload_n C dX7_atBehind_44 rfl ?_
      refine e_getr C (ci := 7) 0 rfl rfl rfl (by decide) b_X7 rfl b_fl_X7_7 v17 rfl dX7_atBehind_45 ?_
      refine e_iconst (v := nI 0) C dX7_atBehind_48 (by decide) ?_
      refine f_iald C rfl v18 (by omega) (by decide) dX7_atBehind_49 ?_
      refine e_icmp_le (tgt := 62) C dX7_atBehind_50 (by decide) (fun h_50 => ?_) (fun h_50 => ?_)
      · skip
        refine e_iload_n C dX7_atBehind_62 rfl ?_
        exact f_ir C hX dX7_atBehind_63 (by rw [atB, if_neg nh_3, behz, cif_neg (show ¬ rz z p 3 = 1 from h_26)]; exact min_t h_50) rfl
      · skip
        refine e_aload_n C dX7_atBehind_53 rfl ?_
        refine e_getr C (ci := 7) 0 rfl rfl rfl (by decide) b_X7 rfl b_fl_X7_7 v17 rfl dX7_atBehind_54 ?_
        refine e_iconst (v := nI 0) C dX7_atBehind_57 (by decide) ?_
        refine f_iald C rfl v18 (by omega) (by decide) dX7_atBehind_58 ?_
        refine e_goto (tgt := 63) C dX7_atBehind_59 (by decide) ?_
        exact f_ir C hX dX7_atBehind_63 (by rw [atB, if_neg nh_3, behz, cif_neg (show ¬ rz z p 3 = 1 from h_26)]; exact min_f h_50) rfl
    · skip
      refine e_iconst (v := nI 0) C dX7_atBehind_29 (by decide) ?_
      refine e_goto (tgt := 41) C dX7_atBehind_30 (by decide) ?_
      refine e_iadd C dX7_atBehind_41 ?_
      refine f_istore_n (ls1 := [_, _, _, _]) C dX7_atBehind_42 (by decide) rfl ?_
      refine e_iload_n C dX7_atBehind_43 rfl ?_
      refine e_aload_n C dX7_atBehind_44 rfl ?_
      refine e_getr C (ci := 7) 0 rfl rfl rfl (by decide) b_X7 rfl b_fl_X7_7 v17 rfl dX7_atBehind_45 ?_
      refine e_iconst (v := nI 0) C dX7_atBehind_48 (by decide) ?_
      refine f_iald C rfl v18 (by omega) (by decide) dX7_atBehind_49 ?_
      refine e_icmp_le (tgt := 62) C dX7_atBehind_50 (by decide) (fun h_50 => ?_) (fun h_50 => ?_)
      · skip
        refine e_iload_n C dX7_atBehind_62 rfl ?_
        exact f_ir C hX dX7_atBehind_63 (by rw [atB, if_neg nh_3, behz, cif_pos (show rz z p 3 = 1 from h_26)]; exact min_t h_50) rfl
      · skip
        refine e_aload_n C dX7_atBehind_53 rfl ?_
        refine e_getr C (ci := 7) 0 rfl rfl rfl (by decide) b_X7 rfl b_fl_X7_7 v17 rfl dX7_atBehind_54 ?_
        refine e_iconst (v := nI 0) C dX7_atBehind_57 (by decide) ?_
        refine f_iald C rfl v18 (by omega) (by decide) dX7_atBehind_58 ?_
        refine e_goto (tgt := 63) C dX7_atBehind_59 (by decide) ?_
        exact f_ir C hX dX7_atBehind_63 (by rw [atB, if_neg nh_3, behz, cif_pos (show rz z p 3 = 1 from h_26)]; exact min_f h_50) rfl
  · skip
    have nh_3 := xI_inj (by omega) (by omega) h_3
    refine e_aload_n C dX7_atBehind_6 rfl ?_
    refine e_getr C (ci := 7) 0 rfl rfl rfl (by decide) b_X7 rfl b_fl_X7_7 v17 rfl dX7_atBehind_7 ?_
    refine e_iconst (v := nI 0) C dX7_atBehind_10 (by decide) ?_
    refine f_iald C rfl v18 (by omega) (by decide) dX7_atBehind_11 ?_
    exact f_ir C hX dX7_atBehind_12 (by rw [atB, if_pos nh_3]; rfl) rfl
set_option maxRecDepth 100000 in
set_option maxHeartbeats 4000000 in
theorem lp_X7_ticks {E : EV} {l : Launch} {X : CX} {mem : MEM} {z : ZZ} {t : Int32} (C : CK E X RX7 cX7_ticks 3 none 3) (hX : EX E X l (Ret uv (mz mem (tck z t 5)))) : ∀ (lpn : Nat) (i : Nat), 5 - i < lpn → i ≤ 5 → G E X 3 2 [rv (17, 0, 0), iv t, iv (nI i)] [] (mz mem (tck z t i)) := by
  intro lpn
  induction lpn with
  | zero => intro i hlpn; exact absurd hlpn (Nat.not_lt_zero _)
  | succ lpn ih =>
    intro i hlpn hi
    refine e_iload_n C dX7_ticks_2 rfl ?_
    refine e_iconst (v := nI 5) C dX7_ticks_3 (by decide) ?_
    refine e_icmp_ge (tgt := 35) C dX7_ticks_4 (by decide) (fun h_4 => ?_) (fun h_4 => ?_)
    · skip
      have nh_4 := xI_leD (by omega) (by omega) h_4
      obtain rfl : i = 5 := by omega
      exact f_vr C hX dX7_ticks_35 rfl
    · skip
      have nh_4 := xI_nleD (by omega) (by omega) h_4
      refine e_aload_n C dX7_ticks_7 rfl ?_
      refine e_iload_n C dX7_ticks_8 rfl ?_
      refine e_iconst (v := nI 0) C dX7_ticks_9 (by decide) ?_
      refine f_callVr (As := [_, _]) (ci := 7) C mi_yX7_ofReplica mv_yX7_ofReplica b_ml_X7_30 dX7_ticks_10 rfl (c_X7_ofReplica (by omega) (by omega)) (by decide) v17 rfl rfl (Nat.le_of_ble_eq_true rfl) ?_
      refine e_iconst (v := nI 1) C dX7_ticks_13 (by decide) ?_
      refine e_icmp_ne (tgt := 29) C dX7_ticks_14 (by decide) (fun h_14 => ?_) (fun h_14 => ?_)
      · skip
        refine f_iincn (ls1 := [_, _, _]) C dX7_ticks_29 rfl (by decide) rfl ?_
        refine e_goto (tgt := 2) C dX7_ticks_32 (by decide) ?_
        exact e_mem (EqV.of (by rw [tck, cif_neg (show ¬ rz (tck z t i) i 0 = 1 from h_14)])) (ih (i + 1) (by omega) (by omega))
      · skip
        refine e_aload_n C dX7_ticks_17 rfl ?_
        refine e_iload_n C dX7_ticks_18 rfl ?_
        refine e_iconst (v := nI 1) C dX7_ticks_19 (by decide) ?_
        refine e_aload_n C dX7_ticks_20 rfl ?_
        refine e_iload_n C dX7_ticks_21 rfl ?_
        refine e_iload_n C dX7_ticks_22 rfl ?_
        refine f_callVr (As := [_, _]) (ci := 7) C mi_yX7_atBehind mv_yX7_atBehind b_ml_X7_75 dX7_ticks_23 rfl (c_X7_atBehind (by omega)) (by decide) v17 rfl rfl (Nat.le_of_ble_eq_true rfl) ?_
        refine f_callVv (As := [_, _, _]) (ci := 7) C mi_yX7_layReplica mv_yX7_layReplica b_ml_X7_55 dX7_ticks_26 rfl (c_X7_layReplica (by omega) (by omega)) (by decide) v17 rfl rfl (Nat.le_of_ble_eq_true rfl) ?_
        refine f_iincn (ls1 := [_, _, _]) C dX7_ticks_29 rfl (by decide) rfl ?_
        refine e_goto (tgt := 2) C dX7_ticks_32 (by decide) ?_
        exact e_mem (EqV.of (by rw [tck, cif_pos (show rz (tck z t i) i 0 = 1 from h_14), atB, if_neg (by omega)])) (ih (i + 1) (by omega) (by omega))
set_option maxRecDepth 100000 in
set_option maxHeartbeats 4000000 in
theorem c_X7_ticks {E : EV} {l : Launch} {mem : MEM} {z : ZZ} {t : Int32} : Ct E l yX7_ticks (me_ws yX7_ticks cX7_ticks 3 none) 3 [rv (17, 0, 0), iv t] (mz mem z) (Ret uv (mz mem (tck z t 5))) := by
  refine Ct.of (RC := RX7) (ls0 := [rv (17, 0, 0), iv t, uv]) mi_yX7_ticks (Nat.le_of_ble_eq_true rfl) rfl (fun X C hX => ?_)
  refine e_iconst (v := nI 0) C dX7_ticks_0 (by decide) ?_
  refine f_istore_n (ls1 := [_, _, _]) C dX7_ticks_1 (by decide) rfl ?_
  exact lp_X7_ticks C hX 6 0 (by decide) (by decide)
set_option maxRecDepth 100000 in
set_option maxHeartbeats 4000000 in
theorem c_X7_has {E : EV} {l : Launch} {mem : MEM} {z : ZZ} {s : Nat} {o : Int32} (hs : s < 8) : Ct E l yX7_has (me_ws yX7_has cX7_has 3 (some .boolean)) 2 [rv (17, 0, 0), iv (nI s), iv o] (mz mem z) (Ret (iv (b2i (hasz z s o))) (mz mem z)) := by
  refine Ct.of (RC := RX7) (ls0 := [rv (17, 0, 0), iv (nI s), iv o]) mi_yX7_has (Nat.le_of_ble_eq_true rfl) rfl (fun X C hX => ?_)
  refine e_aload_n C dX7_has_0 rfl ?_
  refine e_iload_n C dX7_has_1 rfl ?_
  refine e_iconst (v := nI 2) C dX7_has_2 (by decide) ?_
  refine f_callVr (As := [_, _]) (ci := 7) C mi_yX7_ofSession mv_yX7_ofSession b_ml_X7_38 dX7_has_3 rfl (c_X7_ofSession (by omega) (by omega)) (by decide) v17 rfl rfl (Nat.le_of_ble_eq_true rfl) ?_
  refine e_iload_n C dX7_has_6 rfl ?_
  refine e_iand C dX7_has_7 ?_
  refine e_if_eq (tgt := 15) C dX7_has_8 (by decide) (fun h_8 => ?_) (fun h_8 => ?_)
  · skip
    refine e_iconst (v := nI 0) C dX7_has_15 (by decide) ?_
    exact f_zf C hX dX7_has_16 (fun q => q h_8) rfl
  · skip
    refine e_iconst (v := nI 1) C dX7_has_11 (by decide) ?_
    refine e_goto (tgt := 16) C dX7_has_12 (by decide) ?_
    exact f_zt C hX dX7_has_16 h_8 rfl
set_option maxRecDepth 100000 in
set_option maxHeartbeats 4000000 in
theorem c_X7_need {E : EV} {l : Launch} {mem : MEM} {z : ZZ} {s a b : Nat} (hs : s < 8) (ea : sz z s 4 = nI a) (eb : sz z s 5 = nI b) (ha : a ≤ 200) (hb : b ≤ 200) : Ct E l yX7_need (me_ws yX7_need cX7_need 2 (some .int)) 3 [rv (17, 0, 0), iv (nI s)] (mz mem z) (Ret (iv (nI (needz z s))) (mz mem z)) := by
  refine Ct.of (RC := RX7) (ls0 := [rv (17, 0, 0), iv (nI s)]) mi_yX7_need (Nat.le_of_ble_eq_true rfl) rfl (fun X C hX => ?_)
  refine e_aload_n C dX7_need_0 rfl ?_
  refine e_iload_n C dX7_need_1 rfl ?_
  refine e_iconst (v := nI 1) C dX7_need_2 (by decide) ?_
  refine f_callVr (As := [_, _]) (ci := 7) C mi_yX7_has mv_yX7_has b_ml_X7_109 dX7_need_3 rfl (c_X7_has (by omega)) (by decide) v17 rfl rfl (Nat.le_of_ble_eq_true rfl) ?_
  refine f_if_eq (tgt := 18) C dX7_need_6 (by decide) (fun h_6 => ?_) (fun h_6 => ?_)
  · skip
    refine e_iconst (v := nI 0) C dX7_need_18 (by decide) ?_
    refine e_aload_n C dX7_need_19 rfl ?_
    refine e_iload_n C dX7_need_20 rfl ?_
    refine e_iconst (v := nI 2) C dX7_need_21 (by decide) ?_
    refine f_callVr (As := [_, _]) (ci := 7) C mi_yX7_has mv_yX7_has b_ml_X7_109 dX7_need_22 rfl (c_X7_has (by omega)) (by decide) v17 rfl rfl (Nat.le_of_ble_eq_true rfl) ?_
    refine f_if_eq (tgt := 37) C dX7_need_25 (by decide) (fun h_25 => ?_) (fun h_25 => ?_)
    · skip
      refine e_iconst (v := nI 0) C dX7_need_37 (by decide) ?_
      refine f_callSr (As := [_, _]) C mi_yX7_more b_st_yX7_more b_ml_X7_100 dX7_need_38 rfl c_X7_more (by decide) (Nat.le_of_ble_eq_true rfl) ?_
      exact f_ir C hX dX7_need_41 (by rw [maxI_nI (by omega) (by omega), needz, cif_neg h_6, cif_neg h_25]) rfl
    · skip
      refine e_aload_n C dX7_need_28 rfl ?_
      refine e_iload_n C dX7_need_29 rfl ?_
      refine e_iconst (v := nI 5) C dX7_need_30 (by decide) ?_
      refine f_callVr (As := [_, _]) (ci := 7) C mi_yX7_ofSession mv_yX7_ofSession b_ml_X7_38 dX7_need_31 rfl (c_X7_ofSession (by omega) (by omega)) (by decide) v17 rfl rfl (Nat.le_of_ble_eq_true rfl) ?_
      refine f_val (y := nI (b)) eb ?_
      refine e_goto (tgt := 38) C dX7_need_34 (by decide) ?_
      refine f_callSr (As := [_, _]) C mi_yX7_more b_st_yX7_more b_ml_X7_100 dX7_need_38 rfl c_X7_more (by decide) (Nat.le_of_ble_eq_true rfl) ?_
      exact f_ir C hX dX7_need_41 (by rw [maxI_nI (by omega) (by omega), needz, cif_neg h_6, cif_pos h_25, eb, nt_nI (by omega)]) rfl
  · skip
    refine e_aload_n C dX7_need_9 rfl ?_
    refine e_iload_n C dX7_need_10 rfl ?_
    refine e_iconst (v := nI 4) C dX7_need_11 (by decide) ?_
    refine f_callVr (As := [_, _]) (ci := 7) C mi_yX7_ofSession mv_yX7_ofSession b_ml_X7_38 dX7_need_12 rfl (c_X7_ofSession (by omega) (by omega)) (by decide) v17 rfl rfl (Nat.le_of_ble_eq_true rfl) ?_
    refine f_val (y := nI (a)) ea ?_
    refine e_goto (tgt := 19) C dX7_need_15 (by decide) ?_
    refine e_aload_n C dX7_need_19 rfl ?_
    refine e_iload_n C dX7_need_20 rfl ?_
    refine e_iconst (v := nI 2) C dX7_need_21 (by decide) ?_
    refine f_callVr (As := [_, _]) (ci := 7) C mi_yX7_has mv_yX7_has b_ml_X7_109 dX7_need_22 rfl (c_X7_has (by omega)) (by decide) v17 rfl rfl (Nat.le_of_ble_eq_true rfl) ?_
    refine f_if_eq (tgt := 37) C dX7_need_25 (by decide) (fun h_25 => ?_) (fun h_25 => ?_)
    · skip
      refine e_iconst (v := nI 0) C dX7_need_37 (by decide) ?_
      refine f_callSr (As := [_, _]) C mi_yX7_more b_st_yX7_more b_ml_X7_100 dX7_need_38 rfl c_X7_more (by decide) (Nat.le_of_ble_eq_true rfl) ?_
      exact f_ir C hX dX7_need_41 (by rw [maxI_nI (by omega) (by omega), needz, cif_pos h_6, cif_neg h_25, ea, nt_nI (by omega)]) rfl
    · skip
      refine e_aload_n C dX7_need_28 rfl ?_
      refine e_iload_n C dX7_need_29 rfl ?_
      refine e_iconst (v := nI 5) C dX7_need_30 (by decide) ?_
      refine f_callVr (As := [_, _]) (ci := 7) C mi_yX7_ofSession mv_yX7_ofSession b_ml_X7_38 dX7_need_31 rfl (c_X7_ofSession (by omega) (by omega)) (by decide) v17 rfl rfl (Nat.le_of_ble_eq_true rfl) ?_
      refine f_val (y := nI (b)) eb ?_
      refine e_goto (tgt := 38) C dX7_need_34 (by decide) ?_
      refine f_callSr (As := [_, _]) C mi_yX7_more b_st_yX7_more b_ml_X7_100 dX7_need_38 rfl c_X7_more (by decide) (Nat.le_of_ble_eq_true rfl) ?_
      exact f_ir C hX dX7_need_41 (by rw [maxI_nI (by omega) (by omega), needz, cif_pos h_6, cif_pos h_25, ea, nt_nI (by omega), eb, nt_nI (by omega)]) rfl
set_option maxRecDepth 100000 in
set_option maxHeartbeats 4000000 in
theorem c_X7_needed {E : EV} {l : Launch} {mem : MEM} {z : ZZ} {c : Nat} (hI : Inv z c) {s : Nat} (hs : s < 8) (ho : sz z s 0 = 1) {key : Int32} : Ct E l yX7_needed (me_ws yX7_needed cX7_needed 4 (some .int)) 4 [rv (17, 0, 0), iv (nI s), iv key] (mz mem z) (Ret (iv (nI (nedz z s key))) (mz mem z)) := by
  obtain ⟨ma, mb, hma, hmb, ea, eb⟩ := hI.marks hs ho
  have hc200 := hI.1
  have hnl := needz_le hI hs ho
  refine Ct.of (RC := RX7) (ls0 := [rv (17, 0, 0), iv (nI s), iv key, uv]) mi_yX7_needed (Nat.le_of_ble_eq_true rfl) rfl (fun X C hX => ?_)
  refine e_aload_n C dX7_needed_0 rfl ?_
  refine e_iload_n C dX7_needed_1 rfl ?_
  refine f_callVr (As := [_]) (ci := 7) C mi_yX7_need mv_yX7_need b_ml_X7_113 dX7_needed_2 rfl (c_X7_need hs ea eb (by omega) (by omega)) (by decide) v17 rfl rfl (Nat.le_of_ble_eq_true rfl) ?_
  refine f_istore_n (ls1 := [_, _, _, _]) C dX7_needed_5 (by decide) rfl ?_
  refine e_aload_n C dX7_needed_6 rfl ?_
  refine e_iload_n C dX7_needed_7 rfl ?_
  refine e_iconst (v := nI 4) C dX7_needed_8 (by decide) ?_
  refine f_callVr (As := [_, _]) (ci := 7) C mi_yX7_has mv_yX7_has b_ml_X7_109 dX7_needed_9 rfl (c_X7_has (by omega)) (by decide) v17 rfl rfl (Nat.le_of_ble_eq_true rfl) ?_
  refine f_if_eq (tgt := 24) C dX7_needed_12 (by decide) (fun h_12 => ?_) (fun h_12 => ?_)
  · skip
    refine e_iload_n C dX7_needed_24 rfl ?_
    exact f_ir C hX dX7_needed_25 (by rw [nedz, cif_neg h_12]) rfl
  · skip
    refine e_aload_n C dX7_needed_15 rfl ?_
    refine e_iload_n C dX7_needed_16 rfl ?_
    refine e_iload_n C dX7_needed_17 rfl ?_
    refine f_callVr (As := [_, _]) (ci := 7) C mi_yX7_versionAt mv_yX7_versionAt b_ml_X7_88 dX7_needed_18 rfl (c_X7_versionAt (by omega)) (by decide) v17 rfl rfl (Nat.le_of_ble_eq_true rfl) ?_
    refine e_goto (tgt := 25) C dX7_needed_21 (by decide) ?_
    exact f_ir C hX dX7_needed_25 (by rw [nedz, cif_pos h_12]) rfl
set_option maxRecDepth 100000 in
set_option maxHeartbeats 4000000 in
theorem c_X7_waitOf_9 {E : EV} {l : Launch} {mem : MEM} {z : ZZ} {c : Nat} (hI : Inv z c) {s : Nat} (hs : s < 8) (ho : sz z s 0 = 1) {key : Int32} {p : Nat} (hp : isPn z p) (h9 : p = 9) : Ct E l yX7_waitOf (me_ws yX7_waitOf cX7_waitOf 6 (some .int)) 5 [rv (17, 0, 0), iv (nI s), iv key, iv (nI p)] (mz mem z) (Ret (iv (waitg z s key (nI p))) (mz mem z)) := by
  obtain ⟨ma, mb, hma, hmb, ea, eb⟩ := hI.marks hs ho
  have hc200 := hI.1
  obtain ⟨n, hn, en⟩ := posz_nat hI hp
  have hpl : p < 10 := by rcases hp with h | h <;> omega
  have hnl := nedz_le (key := key) hI hs ho
  refine Ct.of (RC := RX7) (ls0 := [rv (17, 0, 0), iv (nI s), iv key, iv (nI p), uv, uv]) mi_yX7_waitOf (Nat.le_of_ble_eq_true rfl) rfl (fun X C hX => ?_)
  refine e_aload_n C dX7_waitOf_0 rfl ?_
  refine e_iload_n C dX7_waitOf_1 rfl ?_
  refine e_iload_n C dX7_waitOf_2 rfl ?_
  refine f_callVr (As := [_, _]) (ci := 7) C mi_yX7_needed mv_yX7_needed b_ml_X7_123 dX7_waitOf_3 rfl (c_X7_needed hI hs ho) (by decide) v17 rfl rfl (Nat.le_of_ble_eq_true rfl) ?_
  refine e_aload_n C dX7_waitOf_6 rfl ?_
  refine e_iload_n C dX7_waitOf_7 rfl ?_
  refine f_callVr (As := [_]) (ci := 7) C mi_yX7_at mv_yX7_at b_ml_X7_59 dX7_waitOf_8 rfl (c_X7_at hp) (by decide) v17 rfl rfl (Nat.le_of_ble_eq_true rfl) ?_
  refine f_val (y := nI (n)) en ?_
  refine e_isub C dX7_waitOf_11 ?_
  refine f_istore (ls1 := [_, _, _, _, _, _]) C dX7_waitOf_12 (by decide) rfl ?_
  refine e_iload C dX7_waitOf_14 rfl ?_
  refine e_if_gt (tgt := 21) C dX7_waitOf_16 (by decide) (fun h_16 => ?_) (fun h_16 => ?_)
  · skip
    exact absurd ((sub_pos (by omega) (by omega)).mp h_16) (by rw [h9, posz, if_pos rfl, hI.2.1] at en; have := xI_inj (by omega) (by omega) en; omega)
  · skip
    refine e_iconst (v := nI 0) C dX7_waitOf_19 (by decide) ?_
    exact f_ir C hX dX7_waitOf_20 (by rw [waitg, cif_pos (by rw [h9])]) rfl
set_option maxRecDepth 100000 in
set_option maxHeartbeats 4000000 in
theorem c_X7_waitOf_r {E : EV} {l : Launch} {mem : MEM} {z : ZZ} {c : Nat} (hI : Inv z c) {s : Nat} (hs : s < 8) (ho : sz z s 0 = 1) {key : Int32} {p : Nat} (hp : isPn z p) (h5 : p < 5) (hop : rz z p 0 = 1) : Ct E l yX7_waitOf (me_ws yX7_waitOf cX7_waitOf 6 (some .int)) 5 [rv (17, 0, 0), iv (nI s), iv key, iv (nI p)] (mz mem z) (Ret (iv (waitg z s key (nI p))) (mz mem z)) := by
  obtain ⟨ma, mb, hma, hmb, ea, eb⟩ := hI.marks hs ho
  have hc200 := hI.1
  obtain ⟨n, hn, en⟩ := posz_nat hI hp
  have hpl : p < 10 := by rcases hp with h | h <;> omega
  have hnl := nedz_le (key := key) hI hs ho
  obtain ⟨P, q, hP, hq, eP, eq, hst⟩ := hI.reps h5 hop
  have en2 : rz z p 1 = nI n := by rw [← en, posz, if_neg (by omega)]
  have h9 : ¬ nI p = nI 9 := xI_ne (by omega) (by decide) (by omega)
  have hR : isR z (nI p) := ⟨p, h5, rfl, hop⟩
  refine Ct.of (RC := RX7) (ls0 := [rv (17, 0, 0), iv (nI s), iv key, iv (nI p), uv, uv]) mi_yX7_waitOf (Nat.le_of_ble_eq_true rfl) rfl (fun X C hX => ?_)
  refine e_aload_n C dX7_waitOf_0 rfl ?_
  refine e_iload_n C dX7_waitOf_1 rfl ?_
  refine e_iload_n C dX7_waitOf_2 rfl ?_
  refine f_callVr (As := [_, _]) (ci := 7) C mi_yX7_needed mv_yX7_needed b_ml_X7_123 dX7_waitOf_3 rfl (c_X7_needed hI hs ho) (by decide) v17 rfl rfl (Nat.le_of_ble_eq_true rfl) ?_
  refine e_aload_n C dX7_waitOf_6 rfl ?_
  refine e_iload_n C dX7_waitOf_7 rfl ?_
  refine f_callVr (As := [_]) (ci := 7) C mi_yX7_at mv_yX7_at b_ml_X7_59 dX7_waitOf_8 rfl (c_X7_at hp) (by decide) v17 rfl rfl (Nat.le_of_ble_eq_true rfl) ?_
  refine f_val (y := nI (n)) en ?_
  refine e_isub C dX7_waitOf_11 ?_
  refine f_istore (ls1 := [_, _, _, _, _, _]) C dX7_waitOf_12 (by decide) rfl ?_
  refine e_iload C dX7_waitOf_14 rfl ?_
  refine e_if_gt (tgt := 21) C dX7_waitOf_16 (by decide) (fun h_16 => ?_) (fun h_16 => ?_)
  · skip
    have hlt := (sub_pos (by omega) (by omega)).mp h_16
    rw [xI_sub (by omega)]
    refine e_aload_n C dX7_waitOf_21 rfl ?_
    refine e_iload_n C dX7_waitOf_22 rfl ?_
    refine e_iconst (v := nI 3) C dX7_waitOf_23 (by decide) ?_
    refine f_callVr (As := [_, _]) (ci := 7) C mi_yX7_ofReplica mv_yX7_ofReplica b_ml_X7_30 dX7_waitOf_24 rfl (c_X7_ofReplica (by omega) (by omega)) (by decide) v17 rfl rfl (Nat.le_of_ble_eq_true rfl) ?_
    refine e_iconst (v := nI 1) C dX7_waitOf_27 (by decide) ?_
    refine e_icmp_ne (tgt := 35) C dX7_waitOf_28 (by decide) (fun h_28 => ?_) (fun h_28 => ?_)
    · skip
      refine e_aload_n C dX7_waitOf_35 rfl ?_
      refine e_iload_n C dX7_waitOf_36 rfl ?_
      refine e_iconst (v := nI 2) C dX7_waitOf_37 (by decide) ?_
      refine f_callVr (As := [_, _]) (ci := 7) C mi_yX7_ofReplica mv_yX7_ofReplica b_ml_X7_30 dX7_waitOf_38 rfl (c_X7_ofReplica (by omega) (by omega)) (by decide) v17 rfl rfl (Nat.le_of_ble_eq_true rfl) ?_
      refine f_val (y := nI (q)) eq ?_
      refine f_istore (ls1 := [_, _, _, _, _, _]) C dX7_waitOf_41 (by decide) rfl ?_
      refine e_iload C dX7_waitOf_43 rfl ?_
      refine e_if_ne (tgt := 53) C dX7_waitOf_45 (by decide) (fun h_45 => ?_) (fun h_45 => ?_)
      · skip
        have nh_45 := xI_neD (a := q) (b := 0) h_45
        refine e_iload C dX7_waitOf_53 rfl ?_
        refine e_iload C dX7_waitOf_55 rfl ?_
        refine f_iaddn C dX7_waitOf_57 ?_
        refine e_iconst (v := nI 1) C dX7_waitOf_58 (by decide) ?_
        refine f_isubn C (by omega) dX7_waitOf_59 ?_
        refine e_iload C dX7_waitOf_60 rfl ?_
        refine f_idivn C (by omega) (by omega) (by omega) dX7_waitOf_62 ?_
        exact f_ir C hX dX7_waitOf_63 (by rw [waitg, cif_neg h9, cif_pos hR, nt_nI (by omega), tkz, en2, nt_nI (by omega), cif_neg (by omega), cif_neg (fun r => r.elim h_28 (fun r => by rw [eq] at r; exact nh_45 (xI_inj (by omega) (by decide) r))), eq, xI_add, xI_sub (by omega), xI_div (by omega) (by omega)]) rfl
      · skip
        have nh_45 := xI_inj (a := q) (b := 0) (by omega) (by omega) h_45
        refine e_bipush (v := -6) C dX7_waitOf_48 (by decide) ?_
        refine e_goto (tgt := 63) C dX7_waitOf_50 (by decide) ?_
        exact f_ir C hX dX7_waitOf_63 (by rw [waitg, cif_neg h9, cif_pos hR, nt_nI (by omega), tkz, en2, nt_nI (by omega), cif_neg (by omega), cif_pos (Or.inr (by rw [eq, nh_45]; rfl))]) rfl
    · skip
      refine e_iconst (v := nI 0) C dX7_waitOf_31 (by decide) ?_
      refine e_goto (tgt := 41) C dX7_waitOf_32 (by decide) ?_
      refine f_istore (ls1 := [_, _, _, _, _, _]) C dX7_waitOf_41 (by decide) rfl ?_
      refine e_iload C dX7_waitOf_43 rfl ?_
      refine e_if_ne (tgt := 53) C dX7_waitOf_45 (by decide) (fun h_45 => ?_) (fun h_45 => ?_)
      · skip
        exact absurd h_45 (by decide)
      · skip
        have nh_45 := xI_inj (a := 0) (b := 0) (by omega) (by omega) h_45
        refine e_bipush (v := -6) C dX7_waitOf_48 (by decide) ?_
        refine e_goto (tgt := 63) C dX7_waitOf_50 (by decide) ?_
        exact f_ir C hX dX7_waitOf_63 (by rw [waitg, cif_neg h9, cif_pos hR, nt_nI (by omega), tkz, en2, nt_nI (by omega), cif_neg (by omega), cif_pos (Or.inl (show rz z p 3 = 1 from h_28))]) rfl
  · skip
    have hle : nedz z s key ≤ n := Nat.not_lt.mp (fun q => h_16 ((sub_pos (by omega) (by omega)).mpr q))
    refine e_iconst (v := nI 0) C dX7_waitOf_19 (by decide) ?_
    exact f_ir C hX dX7_waitOf_20 (by rw [waitg, cif_neg h9, cif_pos hR, nt_nI (by omega), tkz, en2, nt_nI (by omega), cif_pos hle]) rfl
theorem c_X7_waitOf {E : EV} {l : Launch} {mem : MEM} {z : ZZ} {c : Nat} (hI : Inv z c) {s : Nat} (hs : s < 8) (ho : sz z s 0 = 1) {key : Int32} {p : Nat} (hp : isPn z p) : Ct E l yX7_waitOf (me_ws yX7_waitOf cX7_waitOf 6 (some .int)) 5 [rv (17, 0, 0), iv (nI s), iv key, iv (nI p)] (mz mem z) (Ret (iv (waitg z s key (nI p))) (mz mem z)) := by
  rcases id hp with h | ⟨h1, h2⟩
  · exact c_X7_waitOf_9 hI hs ho hp h
  · exact c_X7_waitOf_r hI hs ho hp h1 h2
