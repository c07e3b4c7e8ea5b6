/-! ===== the law's five arrays and the class's row ===== -/
def LLog (mem : MEM) (z : ZZ) (c : Nat) : Prop := c ≤ 60 ∧ ∀ j, j < c → ∃ k v w, k < 12 ∧ v < 1000 ∧ w < 4 ∧ mem (17, 0, 0) j = nI (k + 12 * v + 12000 * w) ∧ wz z j 0 = nI k ∧ wz z j 1 = nI v ∧ wz z j 2 = nI w
def LR1 (mem : MEM) (z : ZZ) (n : Nat) : Prop := (rz z n 0 = 1 → ∀ w, w < 4 → mem (18, 0, 0) (5 * w + n) = rz z n (w + 1)) ∧ (¬ rz z n 0 = 1 → mem (18, 0, 0) n = -1)
/-- the latest write of a session's number at places b to k - 1 with the key -/
noncomputable def lastb (z : ZZ) (n q b : Nat) : Nat → Nat
  | 0 => 0
  | k + 1 => cif (b ≤ k ∧ wz z k 0 = nI q ∧ wz z k 2 = nI n) (k + 1) (lastb z n q b k)
def LS1 (mem : MEM) (z : ZZ) (c n : Nat) : Prop := (sz z n 0 = 1 → (∀ w, w < 8 → mem (19, 0, 0) (4 * w + n) = sz z n (w + 1)) ∧ ∃ b, b ≤ c ∧ mem (19, 0, 0) (32 + n) = nI b ∧ ∀ q, q < 12 → mem (20, 0, 0) (12 * n + q) = sz z n (21 + q) ∧ sz z n (9 + q) = nI (lastb z n q b c)) ∧ (¬ sz z n 0 = 1 → mem (19, 0, 0) n = -1)
def LTt (mem : MEM) (z : ZZ) (c : Nat) : Prop := mem (21, 0, 0) 0 = nI c ∧ z 0 = nI c ∧ mem (21, 0, 0) 1 = z 4 ∧ mem (21, 0, 0) 2 = z 1 ∧ mem (21, 0, 0) 3 = z 2 ∧ mem (21, 0, 0) 4 = z 3
def LZ (mem : MEM) (z : ZZ) (c : Nat) : Prop := LLog mem z c ∧ (∀ n, n < 5 → LR1 mem z n) ∧ (∀ n, n < 4 → LS1 mem z c n) ∧ (∀ n, 4 ≤ n → n < 8 → sz z n 0 = 0) ∧ LTt mem z c
theorem lastb_le (z : ZZ) (n q b : Nat) : ∀ k, lastb z n q b k ≤ k
  | 0 => Nat.le_refl 0
  | k + 1 => by
    unfold lastb cif
    split
    · exact Nat.le_refl _
    · exact Nat.le_succ_of_le (lastb_le z n q b k)
theorem lastb_0 {z : ZZ} {n q b : Nat} : ∀ k, k ≤ b → lastb z n q b k = 0
  | 0, _ => rfl
  | k + 1, h => by
    rw [lastb, cif_neg (fun e => by omega)]
    exact lastb_0 k (by omega)
theorem lastb_congr {z z' : ZZ} {n q b : Nat} : ∀ k, (∀ j, j < k → wz z' j 0 = wz z j 0 ∧ wz z' j 2 = wz z j 2) → lastb z' n q b k = lastb z n q b k
  | 0, _ => rfl
  | k + 1, h => by
    rw [lastb, lastb, (h k (by omega)).1, (h k (by omega)).2, lastb_congr k (fun j hj => h j (by omega))]
section LZG
variable {mem : MEM} {z : ZZ} {c n : Nat}
theorem LZ.c60 (h : LZ mem z c) : c ≤ 60 := h.1.1
theorem LZ.log (h : LZ mem z c) : LLog mem z c := h.1
theorem LZ.r_pos (h : LZ mem z c) (hn : n < 5) (ho : rz z n 0 = 1) : mem (18, 0, 0) n = rz z n 1 := by
  have := (h.2.1 n hn).1 ho 0 (by decide)
  rwa [Nat.mul_zero, Nat.zero_add] at this
theorem LZ.r_rate (h : LZ mem z c) (hn : n < 5) (ho : rz z n 0 = 1) : mem (18, 0, 0) (5 + n) = rz z n 2 := (h.2.1 n hn).1 ho 1 (by decide)
theorem LZ.r_stop (h : LZ mem z c) (hn : n < 5) (ho : rz z n 0 = 1) : mem (18, 0, 0) (10 + n) = rz z n 3 := (h.2.1 n hn).1 ho 2 (by decide)
theorem LZ.r_ans (h : LZ mem z c) (hn : n < 5) (ho : rz z n 0 = 1) : mem (18, 0, 0) (15 + n) = rz z n 4 := (h.2.1 n hn).1 ho 3 (by decide)
theorem LZ.r_no (h : LZ mem z c) (hn : n < 5) (ho : ¬ rz z n 0 = 1) : mem (18, 0, 0) n = -1 := (h.2.1 n hn).2 ho
theorem LZ.s_home (h : LZ mem z c) (hn : n < 4) (ho : sz z n 0 = 1) : mem (19, 0, 0) n = sz z n 1 := by
  have := ((h.2.2.1 n hn).1 ho).1 0 (by decide)
  rwa [Nat.mul_zero, Nat.zero_add] at this
theorem LZ.s_opt (h : LZ mem z c) (hn : n < 4) (ho : sz z n 0 = 1) : mem (19, 0, 0) (4 + n) = sz z n 2 := ((h.2.2.1 n hn).1 ho).1 1 (by decide)
theorem LZ.s_bnd (h : LZ mem z c) (hn : n < 4) (ho : sz z n 0 = 1) : mem (19, 0, 0) (8 + n) = sz z n 3 := ((h.2.2.1 n hn).1 ho).1 2 (by decide)
theorem LZ.s_own (h : LZ mem z c) (hn : n < 4) (ho : sz z n 0 = 1) : mem (19, 0, 0) (12 + n) = sz z n 4 := ((h.2.2.1 n hn).1 ho).1 3 (by decide)
theorem LZ.s_seen (h : LZ mem z c) (hn : n < 4) (ho : sz z n 0 = 1) : mem (19, 0, 0) (16 + n) = sz z n 5 := ((h.2.2.1 n hn).1 ho).1 4 (by decide)
theorem LZ.s_rds (h : LZ mem z c) (hn : n < 4) (ho : sz z n 0 = 1) : mem (19, 0, 0) (20 + n) = sz z n 6 := ((h.2.2.1 n hn).1 ho).1 5 (by decide)
theorem LZ.s_und (h : LZ mem z c) (hn : n < 4) (ho : sz z n 0 = 1) : mem (19, 0, 0) (24 + n) = sz z n 7 := ((h.2.2.1 n hn).1 ho).1 6 (by decide)
theorem LZ.s_bak (h : LZ mem z c) (hn : n < 4) (ho : sz z n 0 = 1) : mem (19, 0, 0) (28 + n) = sz z n 8 := ((h.2.2.1 n hn).1 ho).1 7 (by decide)
theorem LZ.s_no (h : LZ mem z c) (hn : n < 4) (ho : ¬ sz z n 0 = 1) : mem (19, 0, 0) n = -1 := (h.2.2.1 n hn).2 ho
theorem LZ.s_far (h : LZ mem z c) (hn : 4 ≤ n) (hn8 : n < 8) : ¬ sz z n 0 = 1 := fun q => by rw [h.2.2.2.1 n hn hn8] at q; exact absurd q (by decide)
theorem LZ.s_wr (h : LZ mem z c) (hn : n < 4) (ho : sz z n 0 = 1) : ∃ b, b ≤ c ∧ mem (19, 0, 0) (32 + n) = nI b ∧ ∀ q, q < 12 → sz z n (9 + q) = nI (lastb z n q b c) := by
  obtain ⟨b, h1, h2, h3⟩ := ((h.2.2.1 n hn).1 ho).2
  exact ⟨b, h1, h2, fun q hq => (h3 q hq).2⟩
theorem LZ.s_q (h : LZ mem z c) (hn : n < 4) (ho : sz z n 0 = 1) {q : Nat} (hq : q < 12) : mem (20, 0, 0) (12 * n + q) = sz z n (21 + q) := by
  obtain ⟨b, h1, h2, h3⟩ := ((h.2.2.1 n hn).1 ho).2
  exact (h3 q hq).1
theorem LZ.t0 (h : LZ mem z c) : mem (21, 0, 0) 0 = nI c := h.2.2.2.2.1
theorem LZ.z0 (h : LZ mem z c) : z 0 = nI c := h.2.2.2.2.2.1
theorem LZ.t1 (h : LZ mem z c) : mem (21, 0, 0) 1 = z 4 := h.2.2.2.2.2.2.1
theorem LZ.t2 (h : LZ mem z c) : mem (21, 0, 0) 2 = z 1 := h.2.2.2.2.2.2.2.1
theorem LZ.t3 (h : LZ mem z c) : mem (21, 0, 0) 3 = z 2 := h.2.2.2.2.2.2.2.2.1
theorem LZ.t4 (h : LZ mem z c) : mem (21, 0, 0) 4 = z 3 := h.2.2.2.2.2.2.2.2.2
theorem LZ.r_ge (h : LZ mem z c) (hI : Inv z c) (hn : n < 5) : 0 ≤ mem (18, 0, 0) n ↔ rz z n 0 = 1 := by
  by_cases ho : rz z n 0 = 1
  · refine ⟨fun _ => ho, fun _ => ?_⟩
    obtain ⟨⟨p, hp, e⟩, -⟩ := (hI.2.2.1 n hn).2 ho
    have := hI.1
    rw [h.r_pos hn ho, e]
    exact xI_ge0 p (by omega)
  · rw [h.r_no hn ho]
    exact ⟨fun q => absurd q (by decide), fun q => absurd q ho⟩
theorem LZ.r_lt (h : LZ mem z c) (hI : Inv z c) (hn : n < 5) : mem (18, 0, 0) n < 0 ↔ ¬ rz z n 0 = 1 := by
  rw [← h.r_ge hI hn, Int32.not_le]
theorem isP_ge {z : ZZ} {p : Int32} (h : isP z p) : ∃ q, q ≤ 9 ∧ p = nI q := by
  obtain ⟨q, e, h2⟩ := isP_nat h
  refine ⟨q, ?_, e⟩
  rcases h2 with rfl | ⟨h3, -⟩ <;> omega
theorem LZ.s_ge (h : LZ mem z c) (hI : Inv z c) (hn : n < 4) : 0 ≤ mem (19, 0, 0) n ↔ sz z n 0 = 1 := by
  by_cases ho : sz z n 0 = 1
  · refine ⟨fun _ => ho, fun _ => ?_⟩
    obtain ⟨hh, -⟩ := (hI.2.2.2 n (by omega)).2 ho
    obtain ⟨p, hp, e⟩ := isP_ge hh
    rw [h.s_home hn ho, e]
    exact xI_ge0 p (by omega)
  · rw [h.s_no hn ho]
    exact ⟨fun q => absurd q (by decide), fun q => absurd q ho⟩
theorem LZ.s_lt (h : LZ mem z c) (hI : Inv z c) (hn : n < 4) : mem (19, 0, 0) n < 0 ↔ ¬ sz z n 0 = 1 := by
  rw [← h.s_ge hI hn, Int32.not_le]
theorem LZ.fr {m : MEM} (h : LZ mem z c) (hm : ∀ id : ID, 17 ≤ id.1 → m id = mem id) : LZ m z c := by
  have e : ∀ t, 17 ≤ t → m (t, 0, 0) = mem (t, 0, 0) := fun t ht => hm _ ht
  obtain ⟨⟨h1, h2⟩, h3, h4, h5, h6⟩ := h
  refine ⟨⟨h1, ?_⟩, ?_, ?_, h5, ?_⟩
  · rw [e 17 (by decide)]; exact h2
  · intro n hn; unfold LR1; rw [e 18 (by decide)]; exact h3 n hn
  · intro n hn; unfold LS1; rw [e 19 (by decide), e 20 (by decide)]; exact h4 n hn
  · unfold LTt; rw [e 21 (by decide)]; exact h6
end LZG
theorem up_o {m : MEM} {id a : ID} {j : Nat} {v : Int32} (h : a ≠ id) : up m id j v a = m a := by
  funext b
  simp [up, h]
theorem up_s {m : MEM} {id : ID} {j b : Nat} {v : Int32} : up m id j v id b = if b = j then v else m id b := by
  simp [up]
/-- only the law's own cells moved -/
theorem FrM.law {mem m : MEM} {t j : Nat} {v : Int32} (h : FrM mem m) (ht : 16 < t) : FrM mem (up m (t, 0, 0) j v) := h.set ht
section LZS
variable {mem : MEM} {z : ZZ} {c n w : Nat} {v : Int32}
/-- a number of a replica that is there -/
theorem LZ.rs (h : LZ mem z c) (hn : n < 5) (hw : w < 4) : LZ (up mem (18, 0, 0) (5 * w + n) v) (rs z n (w + 1) v) c ∨ ¬ rz z n 0 = 1 := by
  by_cases ho : rz z n 0 = 1
  · refine Or.inl ?_
    obtain ⟨⟨h1, h2⟩, h3, h4, h5, h6, h7, h8, h9, h10, h11⟩ := h
    have hW : ∀ j w', wz (Jvm.Pilot.@@N@@.rs z n (w + 1) v) j w' = wz z j w' := fun j w' => wz_rs hn (by omega)
    have hSz : ∀ s w', sz (Jvm.Pilot.@@N@@.rs z n (w + 1) v) s w' = sz z s w' := fun s w' => sz_rs hn (by omega)
    have hH : ∀ j, j < 5 → Jvm.Pilot.@@N@@.rs z n (w + 1) v j = z j := fun j hj => hz_rs hj
    refine ⟨⟨h1, fun j hj => ?_⟩, fun n' hn' => ?_, fun s hs => ?_, fun s a b => ?_, ?_⟩
    · rw [up_o (by decide), hW, hW, hW]; exact h2 j hj
    · unfold LR1
      rw [rz_rs (by omega) (by decide), if_neg (by omega), up_s]
      refine ⟨fun q w' hw' => ?_, fun q => ?_⟩
      · rw [up_s, rz_rs (by omega) (by omega)]
        by_cases e : n' = n ∧ w' = w
        · rw [if_pos (by omega), if_pos (by omega)]
        · rw [if_neg (by omega), if_neg (by omega)]; exact (h3 n' hn').1 q w' hw'
      · have hne : n' ≠ n := fun e => q (by rw [e]; exact ho)
        rw [if_neg (by omega)]; exact (h3 n' hn').2 q
    · unfold LS1
      simp only [hSz, up_o (show ((19, 0, 0) : ID) ≠ (18, 0, 0) by decide), up_o (show ((20, 0, 0) : ID) ≠ (18, 0, 0) by decide)]
      refine ⟨fun q => ?_, (h4 s hs).2⟩
      obtain ⟨g1, b, g2, g3, g4⟩ := (h4 s hs).1 q
      exact ⟨g1, b, g2, g3, fun q hq => ⟨(g4 q hq).1, by rw [lastb_congr c (fun j _ => ⟨hW j 0, hW j 2⟩)]; exact (g4 q hq).2⟩⟩
    · rw [hSz]; exact h5 s a b
    · unfold LTt
      rw [up_o (by decide), hH 0 (by decide), hH 4 (by decide), hH 1 (by decide), hH 2 (by decide), hH 3 (by decide)]
      exact ⟨h6, h7, h8, h9, h10, h11⟩
  · exact Or.inr ho
theorem LZ.rs' (h : LZ mem z c) (hn : n < 5) (hw : w < 4) (ho : rz z n 0 = 1) : LZ (up mem (18, 0, 0) (5 * w + n) v) (Jvm.Pilot.@@N@@.rs z n (w + 1) v) c := (h.rs hn hw).resolve_right (fun q => q ho)
theorem LZ.rs0 (h : LZ mem z c) (hn : n < 5) (ho : rz z n 0 = 1) : LZ (up mem (18, 0, 0) n v) (Jvm.Pilot.@@N@@.rs z n 1 v) c := by
  have := h.rs' (w := 0) (v := v) hn (by decide) ho
  rwa [Nat.mul_zero, Nat.zero_add] at this
/-- the row stays, the law's replicas move where nobody looks, or are told as gone -/
theorem LZ.rr (h : LZ mem z c) {m : MEM} (ho : ∀ id, id ≠ (18, 0, 0) → m id = mem id) (hr : ∀ n, n < 5 → LR1 m z n) : LZ m z c := by
  obtain ⟨h2, h3, h4, h5, h6⟩ := h
  refine ⟨?_, hr, fun s hs => ?_, h5, ?_⟩
  · unfold LLog; rw [ho _ (by decide)]; exact h2
  · unfold LS1; rw [ho _ (by decide), ho _ (by decide)]; exact h4 s hs
  · unfold LTt; rw [ho _ (by decide)]; exact h6
theorem LZ.rnone (h : LZ mem z c) (hn : n < 5) (hw : w < 4) (hw0 : 0 < w) (ho : ¬ rz z n 0 = 1) : LZ (up mem (18, 0, 0) (5 * w + n) v) z c := by
  refine h.rr (fun id hid => up_o hid) (fun n' hn' => ⟨fun q w' hw' => ?_, fun q => ?_⟩)
  · have hne : n' ≠ n := fun e => ho (by rw [← e]; exact q)
    rw [up_s, if_neg (by omega)]; exact (h.2.1 n' hn').1 q w' hw'
  · rw [up_s, if_neg (by omega)]; exact (h.2.1 n' hn').2 q
theorem LZ.rgone (h : LZ mem z c) (hn : n < 5) (ho : ¬ rz z n 0 = 1) : LZ (up mem (18, 0, 0) n (-1)) z c := by
  refine h.rr (fun id hid => up_o hid) (fun n' hn' => ⟨fun q w' hw' => ?_, fun q => ?_⟩)
  · have hne : n' ≠ n := fun e => ho (by rw [← e]; exact q)
    rw [up_s, if_neg (by omega)]; exact (h.2.1 n' hn').1 q w' hw'
  · rw [up_s]
    by_cases e : n' = n
    · rw [if_pos e]
    · rw [if_neg e]; exact (h.2.1 n' hn').2 q
/-- another row over the same arrays but the replicas' -/
theorem LZ.rz' (h : LZ mem z c) {m : MEM} {z' : ZZ} (ho : ∀ id, id ≠ (18, 0, 0) → m id = mem id) (hW : ∀ j w, wz z' j w = wz z j w) (hS : ∀ s w, w < 33 → sz z' s w = sz z s w) (hH : ∀ j, j < 5 → z' j = z j) (hr : ∀ n, n < 5 → LR1 m z' n) : LZ m z' c := by
  obtain ⟨h2, h3, h4, h5, h6⟩ := h
  refine ⟨?_, hr, fun s hs => ?_, fun s a b => ?_, ?_⟩
  · unfold LLog; simp only [hW]; rw [ho _ (by decide)]; exact h2
  · obtain ⟨g0, g9⟩ := h4 s hs
    unfold LS1
    rw [ho _ (by decide), ho _ (by decide), hS s 0 (by decide)]
    refine ⟨fun q => ?_, g9⟩
    obtain ⟨g1, b, g2, g3, g4⟩ := g0 q
    exact ⟨fun w hw => by rw [hS s _ (by omega)]; exact g1 w hw, b, g2, g3, fun q hq => by rw [hS s _ (by omega), hS s _ (by omega), lastb_congr c (fun j _ => ⟨hW j 0, hW j 2⟩)]; exact g4 q hq⟩
  · rw [hS s 0 (by decide)]; exact h5 s a b
  · unfold LTt; rw [ho _ (by decide), hH 0 (by decide), hH 4 (by decide), hH 1 (by decide), hH 2 (by decide), hH 3 (by decide)]; exact h6
theorem LZ.rdie (h : LZ mem z c) (hn : n < 5) : LZ (up mem (18, 0, 0) n (-1)) (Jvm.Pilot.@@N@@.rs z n 0 (nI 0)) c := by
  refine h.rz' (fun id hid => up_o hid) (fun j w => wz_rs hn (by decide)) (fun s w _ => sz_rs hn (by decide)) (fun j hj => hz_rs hj) (fun n' hn' => ?_)
  unfold LR1
  rw [rz_rs (by decide) (by decide), up_s]
  by_cases e : n' = n
  · rw [if_pos ⟨e, rfl⟩, if_pos e]
    exact ⟨fun q => absurd q (by decide), fun _ => rfl⟩
  · rw [if_neg (by omega), if_neg (by omega)]
    refine ⟨fun q w' hw' => ?_, (h.2.1 n' hn').2⟩
    rw [up_s, rz_rs (by decide) (by omega), if_neg (by omega), if_neg (by omega)]
    exact (h.2.1 n' hn').1 q w' hw'
theorem bgz_rz {r p q : Int32} {i : Nat} {r' w' : Nat} (hw' : w' < 5) : rz (bgz z i p q) r' w' = if r' = i then (if w' = 0 then nI 1 else if w' = 1 then p else if w' = 2 then q else nI 0) else rz z r' w' := by
  unfold bgz
  rw [rz_rs (by decide) hw', rz_rs (by decide) hw', rz_rs (by decide) hw', rz_rs (by decide) hw', rz_rs (by decide) hw']
  by_cases e : r' = i
  · have hc : w' = 0 ∨ w' = 1 ∨ w' = 2 ∨ w' = 3 ∨ w' = 4 := by omega
    rcases hc with rfl | rfl | rfl | rfl | rfl <;> simp [e]
  · simp [e]
theorem LZ.rborn (h : LZ mem z c) {p q : Int32} (hn : n < 5) : LZ (up (up (up (up mem (18, 0, 0) n p) (18, 0, 0) (5 + n) q) (18, 0, 0) (10 + n) (nI 0)) (18, 0, 0) (15 + n) (nI 0)) (bgz z n p q) c := by
  refine h.rz' (fun id hid => by rw [up_o hid, up_o hid, up_o hid, up_o hid]) (fun j w => ?_) (fun s w _ => ?_) (fun j hj => ?_) (fun n' hn' => ?_)
  · unfold bgz; rw [wz_rs hn (by decide), wz_rs hn (by decide), wz_rs hn (by decide), wz_rs hn (by decide), wz_rs hn (by decide)]
  · unfold bgz; rw [sz_rs hn (by decide), sz_rs hn (by decide), sz_rs hn (by decide), sz_rs hn (by decide), sz_rs hn (by decide)]
  · unfold bgz; rw [hz_rs hj, hz_rs hj, hz_rs hj, hz_rs hj, hz_rs hj]
  · unfold LR1
    rw [bgz_rz (r := 0) (by decide)]
    by_cases e : n' = n
    · subst e
      rw [if_pos rfl, if_pos rfl]
      refine ⟨fun _ w' hw' => ?_, fun q => absurd rfl q⟩
      rw [bgz_rz (r := 0) (by omega), if_pos rfl, up_s, up_s, up_s, up_s]
      have hc : w' = 0 ∨ w' = 1 ∨ w' = 2 ∨ w' = 3 := by omega
      rcases hc with rfl | rfl | rfl | rfl
      · rw [if_neg (by omega), if_neg (by omega), if_neg (by omega), if_pos (by omega)]; rfl
      · rw [if_neg (by omega), if_neg (by omega), if_pos (by omega)]; rfl
      · rw [if_neg (by omega), if_pos (by omega)]; rfl
      · rw [if_pos (by omega)]; rfl
    · rw [if_neg e]
      refine ⟨fun q w' hw' => ?_, fun q => ?_⟩
      · rw [bgz_rz (r := 0) (by omega), if_neg e, up_s, up_s, up_s, up_s, if_neg (by omega), if_neg (by omega), if_neg (by omega), if_neg (by omega)]
        exact (h.2.1 n' hn').1 q w' hw'
      · rw [up_s, up_s, up_s, up_s, if_neg (by omega), if_neg (by omega), if_neg (by omega), if_neg (by omega)]
        exact (h.2.1 n' hn').2 q
/-- another row over the same arrays but the sessions' -/
theorem LZ.sz' (h : LZ mem z c) {m : MEM} {z' : ZZ} (ho : ∀ id, id ≠ (19, 0, 0) → id ≠ (20, 0, 0) → m id = mem id) (hW : ∀ j w, wz z' j w = wz z j w) (hR : ∀ r w, r < 5 → w < 5 → rz z' r w = rz z r w) (hH : ∀ j, j < 5 → z' j = z j) (hf : ∀ n, 4 ≤ n → n < 8 → sz z' n 0 = sz z n 0) (hs : ∀ n, n < 4 → LS1 m z' c n) : LZ m z' c := by
  obtain ⟨h2, h3, h4, h5, h6⟩ := h
  refine ⟨?_, fun n hn => ?_, hs, fun s a b => by rw [hf s a b]; exact h5 s a b, ?_⟩
  · unfold LLog; simp only [hW]; rw [ho _ (by decide) (by decide)]; exact h2
  · obtain ⟨g0, g9⟩ := h3 n hn
    unfold LR1
    rw [ho _ (by decide) (by decide), hR n 0 hn (by decide)]
    exact ⟨fun q w hw => by rw [hR n _ hn (by omega)]; exact g0 q w hw, g9⟩
  · unfold LTt; rw [ho _ (by decide) (by decide), hH 0 (by decide), hH 4 (by decide), hH 1 (by decide), hH 2 (by decide), hH 3 (by decide)]; exact h6
/-- one of the first numbers of a session that is open -/
theorem LZ.ss' (h : LZ mem z c) (hn : n < 4) (hw : w < 8) (ho : sz z n 0 = 1) : LZ (up mem (19, 0, 0) (4 * w + n) v) (ss z n (w + 1) v) c := by
  have hW : ∀ j w', wz (ss z n (w + 1) v) j w' = wz z j w' := fun j w' => wz_ss (by omega) (by omega)
  refine h.sz' (fun id hid _ => up_o hid) hW (fun r w hr hw => rz_ss hr hw) (fun j hj => hz_ss hj) (fun n' a b => by rw [sz_ss (by omega) (by decide), if_neg (by omega)]) (fun n' hn' => ?_)
  obtain ⟨g0, g9⟩ := h.2.2.1 n' hn'
  unfold LS1
  rw [sz_ss (by omega) (by decide), if_neg (by omega), up_o (show ((20, 0, 0) : ID) ≠ (19, 0, 0) by decide), up_s, up_s]
  refine ⟨fun q => ?_, fun q => ?_⟩
  · obtain ⟨g1, b, g2, g3, g4⟩ := g0 q
    refine ⟨fun w' hw' => ?_, b, g2, ?_, fun q hq => ?_⟩
    · rw [up_s, sz_ss (by omega) (by omega)]
      by_cases e : n' = n ∧ w' = w
      · rw [if_pos (by omega), if_pos (by omega)]
      · rw [if_neg (by omega), if_neg (by omega)]; exact g1 w' hw'
    · rw [if_neg (by omega)]; exact g3
    · rw [sz_ss (by omega) (by omega), sz_ss (by omega) (by omega), if_neg (by omega), if_neg (by omega), lastb_congr c (fun j _ => ⟨hW j 0, hW j 2⟩)]; exact g4 q hq
  · have hne : n' ≠ n := fun e => q (by rw [e]; exact ho)
    rw [if_neg (by omega)]; exact g9 q
theorem LZ.ss0 (h : LZ mem z c) (hn : n < 4) (ho : sz z n 0 = 1) : LZ (up mem (19, 0, 0) n v) (ss z n 1 v) c := by
  have := h.ss' (w := 0) (v := v) hn (by decide) ho
  rwa [Nat.mul_zero, Nat.zero_add] at this
theorem LZ.sq (h : LZ mem z c) {q : Nat} (hn : n < 4) (hq : q < 12) : LZ (up mem (20, 0, 0) (12 * n + q) v) (ss z n (21 + q) v) c := by
  have hW : ∀ j w', wz (ss z n (21 + q) v) j w' = wz z j w' := fun j w' => wz_ss (by omega) (by omega)
  refine h.sz' (fun id _ hid => up_o hid) hW (fun r w hr hw => rz_ss hr hw) (fun j hj => hz_ss hj) (fun n' a b => by rw [sz_ss (by omega) (by decide), if_neg (by omega)]) (fun n' hn' => ?_)
  obtain ⟨g0, g9⟩ := h.2.2.1 n' hn'
  unfold LS1
  rw [sz_ss (by omega) (by decide), if_neg (by omega), up_o (show ((19, 0, 0) : ID) ≠ (20, 0, 0) by decide)]
  refine ⟨fun ho => ?_, g9⟩
  obtain ⟨g1, b, g2, g3, g4⟩ := g0 ho
  refine ⟨fun w' hw' => ?_, b, g2, g3, fun q' hq' => ?_⟩
  · rw [sz_ss (by omega) (by omega), if_neg (by omega)]; exact g1 w' hw'
  · rw [up_s, sz_ss (by omega) (by omega), sz_ss (by omega) (by omega), if_neg (by omega : ¬ (n' = n ∧ 9 + q' = 21 + q)), lastb_congr c (fun j _ => ⟨hW j 0, hW j 2⟩)]
    refine ⟨?_, (g4 q' hq').2⟩
    by_cases e : n' = n ∧ q' = q
    · rw [if_pos (by omega), if_pos (by omega)]
    · rw [if_neg (by omega), if_neg (by omega)]; exact (g4 q' hq').1
theorem LZ.sdie (h : LZ mem z c) (hn : n < 4) : LZ (up mem (19, 0, 0) n (-1)) (ss z n 0 (nI 0)) c := by
  have hW : ∀ j w', wz (ss z n 0 (nI 0)) j w' = wz z j w' := fun j w' => wz_ss (by omega) (by decide)
  refine h.sz' (fun id hid _ => up_o hid) hW (fun r w hr hw => rz_ss hr hw) (fun j hj => hz_ss hj) (fun n' a b => by rw [sz_ss (by decide) (by decide), if_neg (by omega)]) (fun n' hn' => ?_)
  obtain ⟨g0, g9⟩ := h.2.2.1 n' hn'
  unfold LS1
  rw [sz_ss (by decide) (by decide), up_o (show ((20, 0, 0) : ID) ≠ (19, 0, 0) by decide), up_s, up_s]
  by_cases e : n' = n
  · rw [if_pos ⟨e, rfl⟩, if_pos e]
    exact ⟨fun q => absurd q (by decide), fun _ => rfl⟩
  · rw [if_neg (by omega), if_neg (by omega : ¬ n' = n), if_neg (by omega)]
    refine ⟨fun q => ?_, g9⟩
    obtain ⟨g1, b, g2, g3, g4⟩ := g0 q
    refine ⟨fun w' hw' => ?_, b, g2, g3, fun q hq => ?_⟩
    · rw [up_s, sz_ss (by decide) (by omega), if_neg (by omega), if_neg (by omega)]; exact g1 w' hw'
    · rw [sz_ss (by decide) (by omega), sz_ss (by decide) (by omega), if_neg (by omega), if_neg (by omega), lastb_congr c (fun j _ => ⟨hW j 0, hW j 2⟩)]; exact g4 q hq
/-- the numbers of the whole -/
theorem LZ.th (h : LZ mem z c) {m : MEM} {z' : ZZ} (ho : ∀ id, id ≠ (21, 0, 0) → m id = mem id) (hW : ∀ j w, wz z' j w = wz z j w) (hR : ∀ r w, r < 5 → w < 5 → rz z' r w = rz z r w) (hS : ∀ s w, w < 33 → sz z' s w = sz z s w) (ht : LTt m z' c) : LZ m z' c := by
  obtain ⟨h2, h3, h4, h5, h6⟩ := h
  refine ⟨?_, fun n hn => ?_, fun s hs => ?_, fun s a b => by rw [hS s 0 (by decide)]; exact h5 s a b, ht⟩
  · unfold LLog; simp only [hW]; rw [ho _ (by decide)]; exact h2
  · obtain ⟨g0, g9⟩ := h3 n hn
    unfold LR1
    rw [ho _ (by decide), hR n 0 hn (by decide)]
    exact ⟨fun q w hw => by rw [hR n _ hn (by omega)]; exact g0 q w hw, g9⟩
  · obtain ⟨g0, g9⟩ := h4 s hs
    unfold LS1
    rw [ho _ (by decide), ho _ (by decide), hS s 0 (by decide)]
    refine ⟨fun q => ?_, g9⟩
    obtain ⟨g1, b, g2, g3, g4⟩ := g0 q
    exact ⟨fun w hw => by rw [hS s _ (by omega)]; exact g1 w hw, b, g2, g3, fun q hq => by rw [hS s _ (by omega), hS s _ (by omega), lastb_congr c (fun j _ => ⟨hW j 0, hW j 2⟩)]; exact g4 q hq⟩
theorem LZ.h4 (h : LZ mem z c) : LZ (up mem (21, 0, 0) 1 v) (upd z 4 v) c := by
  have ht := h.2.2.2.2
  refine h.th (fun id hid => up_o hid) (fun j w => wz_h (by decide)) (fun r w _ _ => rz_h (by decide)) (fun s w _ => sz_h (by decide)) ?_
  obtain ⟨h6, h7, h8, h9, h10, h11⟩ := ht
  exact ⟨by rw [up_s]; exact h6, h7, by rw [up_s]; rfl, by rw [up_s]; exact h9, by rw [up_s]; exact h10, by rw [up_s]; exact h11⟩
theorem LZ.lat (h : LZ mem z c) {a b t : Int32} : LZ (up (up (up mem (21, 0, 0) 2 a) (21, 0, 0) 3 b) (21, 0, 0) 4 t) (upd (upd (upd z 1 a) 2 b) 3 t) c := by
  have ht := h.2.2.2.2
  refine h.th (fun id hid => by rw [up_o hid, up_o hid, up_o hid]) (fun j w => by rw [wz_h (by decide), wz_h (by decide), wz_h (by decide)]) (fun r w _ _ => by rw [rz_h (by decide), rz_h (by decide), rz_h (by decide)]) (fun s w _ => by rw [sz_h (by decide), sz_h (by decide), sz_h (by decide)]) ?_
  obtain ⟨h6, h7, h8, h9, h10, h11⟩ := ht
  exact ⟨by rw [up_s, up_s, up_s]; exact h6, h7, by rw [up_s, up_s, up_s]; exact h8, by rw [up_s, up_s, up_s]; rfl, by rw [up_s, up_s]; rfl, by rw [up_s]; rfl⟩
end LZS
