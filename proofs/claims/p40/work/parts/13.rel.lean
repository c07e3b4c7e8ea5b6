/-! ===== further meanings; a state of the class and its row of numbers ===== -/
noncomputable def behz (z : ZZ) (r : Nat) (t : Int32) : Int32 := minI (rz z r 1 + cif (rz z r 3 = 1) 0 (rz z r 2 * t)) (z 0)
noncomputable def tck (z : ZZ) (t : Int32) : Nat → ZZ
  | 0 => z
  | n + 1 => cif (rz (tck z t n) n 0 = 1) (rs (tck z t n) n 1 (behz (tck z t n) n t)) (tck z t n)
noncomputable def cau (z : ZZ) : Nat → Nat
  | 0 => 0
  | n + 1 => cau z n + cif (rz z n 0 = 1 ∧ rz z n 1 = z 0) 1 0
theorem cau_le (z : ZZ) : ∀ n, cau z n ≤ n
  | 0 => Nat.le_refl 0
  | n + 1 => by
    unfold cau cif
    have := cau_le z n
    split <;> omega
/-- a mask of the ones among n -/
noncomputable def msk (f : Nat → Int32) : Nat → Int32
  | 0 => nI 0
  | n + 1 => cif (f n = 1) (msk f n ||| (nI 1 <<< (nI n &&& 31))) (msk f n)
noncomputable def homz (z : ZZ) (pl : Int32) : Nat → Nat
  | 0 => 0
  | n + 1 => homz z pl n + cif (sz z n 0 = 1 ∧ sz z n 1 = pl) 1 0
theorem homz_le (z : ZZ) (pl : Int32) : ∀ n, homz z pl n ≤ n
  | 0 => Nat.le_refl 0
  | n + 1 => by
    unfold homz cif
    have := homz_le z pl n
    split <;> omega
noncomputable def sndz (z : ZZ) (pl : Int32) : Nat → ZZ
  | 0 => z
  | n + 1 => cif (sz (sndz z pl n) n 0 = 1 ∧ sz (sndz z pl n) n 1 = pl) (ss (sndz z pl n) n 1 (nI 9)) (sndz z pl n)
/-- the first place from i on, of n, where there is no 1 -/
def ffr (f : Nat → Int32) : Nat → Nat → Nat
  | 0, i => i
  | n + 1, i => if f i = 1 then ffr f n (i + 1) else i
theorem upd_same {z : ZZ} {j : Nat} : upd z j (z j) = z := by
  funext i
  unfold upd
  split
  · rename_i h; rw [h]
  · rfl
theorem upd_comm {z : ZZ} {i j : Nat} {a b : Int32} (h : i ≠ j) : upd (upd z i a) j b = upd (upd z j b) i a := by
  funext q
  unfold upd
  by_cases h1 : q = j
  · by_cases h2 : q = i
    · omega
    · simp [h1, Ne.symm h]
  · simp [h1]
theorem upd_upd {z : ZZ} {i : Nat} {a b : Int32} : upd (upd z i a) i b = upd z i b := by
  funext q
  unfold upd
  by_cases h1 : q = i <;> simp [h1]
theorem rs_same {z : ZZ} {r w : Nat} : rs z r w (rz z r w) = z := upd_same
theorem ss_same {z : ZZ} {r w : Nat} : ss z r w (sz z r w) = z := upd_same
/-- the cells of state k -/
def blk (k : Nat) (id : ID) : Prop := id.2.1 = k ∧ 1 ≤ id.1 ∧ id.1 ≤ 11
def FrS (k : Nat) (mem m : MEM) : Prop := ∀ id, ¬ blk k id → m id = mem id
theorem FrS.rfl' {k : Nat} {mem : MEM} : FrS k mem mem := fun _ _ => rfl
theorem FrS.trans {k : Nat} {a b c : MEM} (h1 : FrS k a b) (h2 : FrS k b c) : FrS k a c := fun id h => (h2 id h).trans (h1 id h)
theorem FrS.set {k : Nat} {mem m : MEM} {id : ID} {j : Nat} {v : Int32} (h : FrS k mem m) (hb : blk k id) : FrS k mem (up m id j v) := fun id' h' => by
  have : id' ≠ id := fun e => h' (e ▸ hb)
  funext b
  rw [← h id' h']
  simp [up, this]
def RelS (mem : MEM) (k : Nat) (z : ZZ) : Prop :=
  mem (2, k, 0) 0 = z 0 ∧ mem (1, k, 0) 4 = z 1 ∧ (¬ z 1 = -6 → mem (1, k, 0) 5 = z 2 ∧ mem (1, k, 0) 6 = z 3) ∧ mem (1, k, 0) 3 = z 4 ∧
  (∀ r, r < 5 → ∀ w, w < 5 → mem (8, k, r) w = rz z r w) ∧
  (∀ s, s < 8 → mem (9, k, s) 0 = sz z s 0 ∧ (sz z s 0 = 1 → (∀ w, w < 9 → mem (9, k, s) w = sz z s w) ∧ ∀ q, q < 12 → mem (10, k, s) q = sz z s (9 + q) ∧ mem (11, k, s) q = sz z s (21 + q))) ∧
  (∀ j, j < 200 → mem (3, k, 0) j = wz z j 0 ∧ mem (4, k, 0) j = wz z j 1 ∧ mem (5, k, 0) j = wz z j 2)
section REL
variable {mem m : MEM} {k : Nat} {z : ZZ}
theorem RelS.cnt (h : RelS mem k z) : mem (2, k, 0) 0 = z 0 := h.1
theorem RelS.lp (h : RelS mem k z) : mem (1, k, 0) 4 = z 1 := h.2.1
theorem RelS.lv (h : RelS mem k z) (hn : ¬ z 1 = -6) : mem (1, k, 0) 5 = z 2 := (h.2.2.1 hn).1
theorem RelS.lt (h : RelS mem k z) (hn : ¬ z 1 = -6) : mem (1, k, 0) 6 = z 3 := (h.2.2.1 hn).2
theorem RelS.pa (h : RelS mem k z) : mem (1, k, 0) 3 = z 4 := h.2.2.2.1
theorem RelS.rep (h : RelS mem k z) {r w : Nat} (hr : r < 5) (hw : w < 5) : mem (8, k, r) w = rz z r w := h.2.2.2.2.1 r hr w hw
theorem RelS.se0 (h : RelS mem k z) {s : Nat} (hs : s < 8) : mem (9, k, s) 0 = sz z s 0 := (h.2.2.2.2.2.1 s hs).1
theorem RelS.ses (h : RelS mem k z) {s w : Nat} (hs : s < 8) (ho : sz z s 0 = 1) (hw : w < 9) : mem (9, k, s) w = sz z s w := ((h.2.2.2.2.2.1 s hs).2 ho).1 w hw
theorem RelS.wro (h : RelS mem k z) {s q : Nat} (hs : s < 8) (ho : sz z s 0 = 1) (hq : q < 12) : mem (10, k, s) q = sz z s (9 + q) := (((h.2.2.2.2.2.1 s hs).2 ho).2 q hq).1
theorem RelS.rea (h : RelS mem k z) {s q : Nat} (hs : s < 8) (ho : sz z s 0 = 1) (hq : q < 12) : mem (11, k, s) q = sz z s (21 + q) := (((h.2.2.2.2.2.1 s hs).2 ho).2 q hq).2
theorem RelS.key (h : RelS mem k z) {j : Nat} (hj : j < 200) : mem (3, k, 0) j = wz z j 0 := (h.2.2.2.2.2.2 j hj).1
theorem RelS.val (h : RelS mem k z) {j : Nat} (hj : j < 200) : mem (4, k, 0) j = wz z j 1 := (h.2.2.2.2.2.2 j hj).2.1
theorem RelS.wtr (h : RelS mem k z) {j : Nat} (hj : j < 200) : mem (5, k, 0) j = wz z j 2 := (h.2.2.2.2.2.2 j hj).2.2
theorem RelS.congr (h : RelS mem k z) (hm : ∀ id, blk k id → m id = mem id) : RelS m k z := by
  have b : ∀ t i, 1 ≤ t → t ≤ 11 → m (t, k, i) = mem (t, k, i) := fun t i h1 h2 => hm _ ⟨rfl, h1, h2⟩
  obtain ⟨h1, h2, h3, h4, h5, h6, h7⟩ := h
  refine ⟨?_, ?_, ?_, ?_, ?_, ?_, ?_⟩
  · rw [b 2 0 (by decide) (by decide)]; exact h1
  · rw [b 1 0 (by decide) (by decide)]; exact h2
  · rw [b 1 0 (by decide) (by decide)]; exact h3
  · rw [b 1 0 (by decide) (by decide)]; exact h4
  · intro r hr w hw; rw [b 8 r (by decide) (by decide)]; exact h5 r hr w hw
  · intro s hs
    rw [b 9 s (by decide) (by decide), b 10 s (by decide) (by decide), b 11 s (by decide) (by decide)]
    exact h6 s hs
  · intro j hj
    rw [b 3 0 (by decide) (by decide), b 4 0 (by decide) (by decide), b 5 0 (by decide) (by decide)]
    exact h7 j hj
theorem RelS.frame {k' : Nat} (h : RelS mem k z) (hf : FrS k' mem m) (hn : k ≠ k') : RelS m k z := h.congr fun id hb => hf id fun q => hn (hb.1.symm.trans q.1)
theorem RelS.s_rep (h : RelS mem k z) {r w : Nat} {v : Int32} (hr : r < 5) (hw : w < 5) : RelS (up mem (8, k, r) w v) k (rs z r w v) := by
  obtain ⟨h1, h2, h3, h4, h5, h6, h7⟩ := h
  refine ⟨?_, ?_, ?_, ?_, ?_, ?_, ?_⟩
  · rw [hz_rs (by decide)]; simpa [up] using h1
  · rw [hz_rs (by decide)]; simpa [up] using h2
  · rw [hz_rs (by decide), hz_rs (by decide), hz_rs (by decide)]; simpa [up] using h3
  · rw [hz_rs (by decide)]; simpa [up] using h4
  · intro r' hr' w' hw'
    rw [rz_rs hw hw', ← h5 r' hr' w' hw']
    simp [up]
  · intro s hs
    simp only [sz_rs hr hw]
    simpa [up] using h6 s hs
  · intro j hj
    simp only [wz_rs hr hw]
    simpa [up] using h7 j hj
theorem RelS.s_ses (h : RelS mem k z) {s w : Nat} {v : Int32} (hs : s < 8) (hw : w < 9) (hw0 : 0 < w) : RelS (up mem (9, k, s) w v) k (ss z s w v) := by
  obtain ⟨h1, h2, h3, h4, h5, h6, h7⟩ := h
  refine ⟨?_, ?_, ?_, ?_, ?_, ?_, ?_⟩
  · rw [hz_ss (by decide)]; simpa [up] using h1
  · rw [hz_ss (by decide)]; simpa [up] using h2
  · rw [hz_ss (by decide), hz_ss (by decide), hz_ss (by decide)]; simpa [up] using h3
  · rw [hz_ss (by decide)]; simpa [up] using h4
  · intro r' hr' w' hw'
    rw [rz_ss hr' hw', ← h5 r' hr' w' hw']
    simp [up]
  · intro s' hs'
    have e0 : sz (ss z s w v) s' 0 = sz z s' 0 := by rw [sz_ss (by omega) (by omega), if_neg (by omega)]
    rw [e0]
    refine ⟨by rw [← (h6 s' hs').1]; simp [up]; omega, fun ho => ⟨fun w' hw' => ?_, fun q hq => ?_⟩⟩
    · rw [sz_ss (by omega) (by omega), ← ((h6 s' hs').2 ho).1 w' hw']
      simp [up]
    · rw [sz_ss (by omega) (by omega), sz_ss (by omega) (by omega), if_neg (by omega), if_neg (by omega)]
      simpa [up] using ((h6 s' hs').2 ho).2 q hq
  · intro j hj
    simp only [wz_ss hs (show w < 33 by omega)]
    simpa [up] using h7 j hj
theorem RelS.s_close (h : RelS mem k z) {s : Nat} (hs : s < 8) : RelS (up mem (9, k, s) 0 (nI 0)) k (ss z s 0 (nI 0)) := by
  obtain ⟨h1, h2, h3, h4, h5, h6, h7⟩ := h
  refine ⟨?_, ?_, ?_, ?_, ?_, ?_, ?_⟩
  · rw [hz_ss (by decide)]; simpa [up] using h1
  · rw [hz_ss (by decide)]; simpa [up] using h2
  · rw [hz_ss (by decide), hz_ss (by decide), hz_ss (by decide)]; simpa [up] using h3
  · rw [hz_ss (by decide)]; simpa [up] using h4
  · intro r' hr' w' hw'
    rw [rz_ss hr' hw', ← h5 r' hr' w' hw']
    simp [up]
  · intro s' hs'
    by_cases e : s' = s
    · subst e
      rw [sz_ss (by omega) (by omega), if_pos ⟨rfl, rfl⟩]
      exact ⟨by simp [up], fun q => absurd q (by decide)⟩
    · have e0 : ∀ w, w < 33 → sz (ss z s 0 (nI 0)) s' w = sz z s' w := fun w hw => by rw [sz_ss (by omega) hw, if_neg (by omega)]
      rw [e0 0 (by decide)]
      refine ⟨by rw [← (h6 s' hs').1]; simp [up, e], fun ho => ⟨fun w' hw' => ?_, fun q hq => ?_⟩⟩
      · rw [e0 w' (by omega), ← ((h6 s' hs').2 ho).1 w' hw']
        simp [up, e]
      · rw [e0 _ (by omega), e0 _ (by omega)]
        simpa [up, e] using ((h6 s' hs').2 ho).2 q hq
  · intro j hj
    simp only [wz_ss hs (show 0 < 33 by omega)]
    simpa [up] using h7 j hj
theorem RelS.s_wro (h : RelS mem k z) {s q : Nat} {v : Int32} (hs : s < 8) (hq : q < 12) : RelS (up mem (10, k, s) q v) k (ss z s (9 + q) v) := by
  obtain ⟨h1, h2, h3, h4, h5, h6, h7⟩ := h
  refine ⟨?_, ?_, ?_, ?_, ?_, ?_, ?_⟩
  · rw [hz_ss (by decide)]; simpa [up] using h1
  · rw [hz_ss (by decide)]; simpa [up] using h2
  · rw [hz_ss (by decide), hz_ss (by decide), hz_ss (by decide)]; simpa [up] using h3
  · rw [hz_ss (by decide)]; simpa [up] using h4
  · intro r' hr' w' hw'
    rw [rz_ss hr' hw', ← h5 r' hr' w' hw']
    simp [up]
  · intro s' hs'
    have e0 : ∀ w, w < 9 → sz (ss z s (9 + q) v) s' w = sz z s' w := fun w hw => by rw [sz_ss (by omega) (by omega), if_neg (by omega)]
    rw [e0 0 (by decide)]
    refine ⟨by rw [← (h6 s' hs').1]; simp [up], fun ho => ⟨fun w' hw' => ?_, fun q' hq' => ?_⟩⟩
    · rw [e0 w' hw', ← ((h6 s' hs').2 ho).1 w' hw']
      simp [up]
    · obtain ⟨g1, g2⟩ := ((h6 s' hs').2 ho).2 q' hq'
      rw [sz_ss (by omega) (by omega), sz_ss (by omega) (by omega), if_neg (show ¬ (s' = s ∧ 21 + q' = 9 + q) by omega), ← g1, ← g2]
      have e : (9 + q' = 9 + q) ↔ q' = q := by omega
      simp [up, e]
  · intro j hj
    simp only [wz_ss hs (show 9 + q < 33 by omega)]
    simpa [up] using h7 j hj
theorem RelS.s_rea (h : RelS mem k z) {s q : Nat} {v : Int32} (hs : s < 8) (hq : q < 12) : RelS (up mem (11, k, s) q v) k (ss z s (21 + q) v) := by
  obtain ⟨h1, h2, h3, h4, h5, h6, h7⟩ := h
  refine ⟨?_, ?_, ?_, ?_, ?_, ?_, ?_⟩
  · rw [hz_ss (by decide)]; simpa [up] using h1
  · rw [hz_ss (by decide)]; simpa [up] using h2
  · rw [hz_ss (by decide), hz_ss (by decide), hz_ss (by decide)]; simpa [up] using h3
  · rw [hz_ss (by decide)]; simpa [up] using h4
  · intro r' hr' w' hw'
    rw [rz_ss hr' hw', ← h5 r' hr' w' hw']
    simp [up]
  · intro s' hs'
    have e0 : ∀ w, w < 9 → sz (ss z s (21 + q) v) s' w = sz z s' w := fun w hw => by rw [sz_ss (by omega) (by omega), if_neg (by omega)]
    rw [e0 0 (by decide)]
    refine ⟨by rw [← (h6 s' hs').1]; simp [up], fun ho => ⟨fun w' hw' => ?_, fun q' hq' => ?_⟩⟩
    · rw [e0 w' hw', ← ((h6 s' hs').2 ho).1 w' hw']
      simp [up]
    · obtain ⟨g1, g2⟩ := ((h6 s' hs').2 ho).2 q' hq'
      rw [sz_ss (by omega) (by omega), sz_ss (by omega) (by omega), if_neg (show ¬ (s' = s ∧ 9 + q' = 21 + q) by omega), ← g1, ← g2]
      have e : (21 + q' = 21 + q) ↔ q' = q := by omega
      simp [up, e]
  · intro j hj
    simp only [wz_ss hs (show 21 + q < 33 by omega)]
    simpa [up] using h7 j hj
theorem RelS.s_cnt (h : RelS mem k z) {v : Int32} : RelS (up mem (2, k, 0) 0 v) k (upd z 0 v) := by
  obtain ⟨h1, h2, h3, h4, h5, h6, h7⟩ := h
  refine ⟨?_, ?_, ?_, ?_, ?_, ?_, ?_⟩
  · simp [up, upd]
  · simpa [up, upd] using h2
  · simpa [up, upd] using h3
  · simpa [up, upd] using h4
  · intro r' hr' w' hw'
    rw [rz_h (by decide), ← h5 r' hr' w' hw']
    simp [up]
  · intro s hs
    simp only [sz_h (show 0 < 5 by decide)]
    simpa [up] using h6 s hs
  · intro j hj
    simp only [wz_h (show 0 < 5 by decide)]
    simpa [up] using h7 j hj
theorem RelS.s_pa (h : RelS mem k z) {v : Int32} : RelS (up mem (1, k, 0) 3 v) k (upd z 4 v) := by
  obtain ⟨h1, h2, h3, h4, h5, h6, h7⟩ := h
  refine ⟨?_, ?_, ?_, ?_, ?_, ?_, ?_⟩
  · simpa [up, upd] using h1
  · simpa [up, upd] using h2
  · simpa [up, upd] using h3
  · simp [up, upd]
  · intro r' hr' w' hw'
    rw [rz_h (by decide), ← h5 r' hr' w' hw']
    simp [up]
  · intro s hs
    simp only [sz_h (show 4 < 5 by decide)]
    simpa [up] using h6 s hs
  · intro j hj
    simp only [wz_h (show 4 < 5 by decide)]
    simpa [up] using h7 j hj
theorem RelS.s_lat (h : RelS mem k z) {a b c : Int32} : RelS (up (up (up mem (1, k, 0) 4 a) (1, k, 0) 5 b) (1, k, 0) 6 c) k (upd (upd (upd z 1 a) 2 b) 3 c) := by
  obtain ⟨h1, h2, h3, h4, h5, h6, h7⟩ := h
  refine ⟨?_, ?_, ?_, ?_, ?_, ?_, ?_⟩
  · simpa [up, upd] using h1
  · simp [up, upd]
  · simp [up, upd]
  · simpa [up, upd] using h4
  · intro r' hr' w' hw'
    rw [rz_h (by decide), rz_h (by decide), rz_h (by decide), ← h5 r' hr' w' hw']
    simp [up]
  · intro s hs
    simp only [sz_h (show 1 < 5 by decide), sz_h (show 2 < 5 by decide), sz_h (show 3 < 5 by decide)]
    simpa [up] using h6 s hs
  · intro j hj
    simp only [wz_h (show 1 < 5 by decide), wz_h (show 2 < 5 by decide), wz_h (show 3 < 5 by decide)]
    simpa [up] using h7 j hj
theorem RelS.s_log (h : RelS mem k z) {j : Nat} {a b c : Int32} (hj : j < 200) : RelS (up (up (up mem (3, k, 0) j a) (4, k, 0) j b) (5, k, 0) j c) k (wsx (wsx (wsx z j 0 a) j 1 b) j 2 c) := by
  obtain ⟨h1, h2, h3, h4, h5, h6, h7⟩ := h
  refine ⟨?_, ?_, ?_, ?_, ?_, ?_, ?_⟩
  · simp only [hz_ws (show 0 < 5 by decide)]; simpa [up] using h1
  · simp only [hz_ws (show 1 < 5 by decide)]; simpa [up] using h2
  · simp only [hz_ws (show 1 < 5 by decide), hz_ws (show 2 < 5 by decide), hz_ws (show 3 < 5 by decide)]; simpa [up] using h3
  · simp only [hz_ws (show 4 < 5 by decide)]; simpa [up] using h4
  · intro r' hr' w' hw'
    rw [rz_ws hr' hw', rz_ws hr' hw', rz_ws hr' hw', ← h5 r' hr' w' hw']
    simp [up]
  · intro s hs
    have e : ∀ w, w < 33 → sz (wsx (wsx (wsx z j 0 a) j 1 b) j 2 c) s w = sz z s w := fun w hw => by rw [sz_ws hs hw, sz_ws hs hw, sz_ws hs hw]
    rw [e 0 (by decide)]
    refine ⟨by rw [← (h6 s hs).1]; simp [up], fun ho => ⟨fun w' hw' => ?_, fun q hq => ?_⟩⟩
    · rw [e w' (by omega), ← ((h6 s hs).2 ho).1 w' hw']; simp [up]
    · rw [e _ (by omega), e _ (by omega)]
      simpa [up] using ((h6 s hs).2 ho).2 q hq
  · intro j' hj'
    have e (w : Nat) (hw : w < 3) : wz (wsx (wsx (wsx z j 0 a) j 1 b) j 2 c) j' w = if j' = j then (if w = 0 then a else if w = 1 then b else c) else wz z j' w := by
      rw [wz_ws (by decide) hw, wz_ws (by decide) hw, wz_ws (by decide) hw]
      by_cases hjj : j' = j
      · have : w = 0 ∨ w = 1 ∨ w = 2 := by omega
        rcases this with rfl | rfl | rfl <;> simp [hjj]
      · simp [hjj]
    obtain ⟨g1, g2, g3⟩ := h7 j' hj'
    rw [e 0 (by decide), e 1 (by decide), e 2 (by decide)]
    by_cases hjj : j' = j
    · subst hjj; simp [up]
    · simp [up, hjj, g1, g2, g3]
end REL
/-- a state as another's -/
def cpS (mem : MEM) (k k2 : Nat) : MEM := fun id => if id.2.1 = k ∧ 1 ≤ id.1 ∧ id.1 ≤ 11 then mem (id.1, k2, id.2.2) else mem id
theorem RelS.copy {mem : MEM} {k k2 : Nat} {z : ZZ} (h : RelS mem k2 z) : RelS (cpS mem k k2) k z := by
  obtain ⟨h1, h2, h3, h4, h5, h6, h7⟩ := h
  have e : ∀ t i, 1 ≤ t → t ≤ 11 → cpS mem k k2 (t, k, i) = mem (t, k2, i) := fun t i ht1 ht2 => if_pos ⟨rfl, ht1, ht2⟩
  refine ⟨?_, ?_, ?_, ?_, ?_, ?_, ?_⟩
  · rw [e 2 0 (by decide) (by decide)]; exact h1
  · rw [e 1 0 (by decide) (by decide)]; exact h2
  · rw [e 1 0 (by decide) (by decide)]; exact h3
  · rw [e 1 0 (by decide) (by decide)]; exact h4
  · intro r hr w hw; rw [e 8 r (by decide) (by decide)]; exact h5 r hr w hw
  · intro s hs
    rw [e 9 s (by decide) (by decide), e 10 s (by decide) (by decide), e 11 s (by decide) (by decide)]
    exact h6 s hs
  · intro j hj
    rw [e 3 0 (by decide) (by decide), e 4 0 (by decide) (by decide), e 5 0 (by decide) (by decide)]
    exact h7 j hj
theorem FrS.copy {mem : MEM} {k k2 : Nat} : FrS k mem (cpS mem k k2) := fun id h => if_neg h
/-- what a call that may move state k leaves -/
def PoI (k : Nat) (mem : MEM) (z : ZZ) (x0 : Int32) : Int32 → MEM → Prop := fun x m => x = x0 ∧ RelS m k z ∧ FrS k mem m
def PoU (k : Nat) (mem : MEM) (z : ZZ) : MEM → Prop := fun m => RelS m k z ∧ FrS k mem m
