/-! ===== the law's steps: the row and the arrays move alike ===== -/
theorem up_same {m : MEM} {id : ID} {j : Nat} : up m id j (m id j) = m := by
  funext a b
  unfold up
  split
  · rename_i h; rw [h.1, h.2]
  · rfl
theorem LZ.good {m : MEM} {z : ZZ} {c : Nat} (h : LZ m z c) (hg : Good z) : GoodC z c := by
  obtain ⟨c', h1⟩ := hg
  have e : nI c' = nI c := h1.1.2.1.symm.trans h.z0
  have h2 := h1.1.1
  have h3 := h.c60
  have : c' = c := xI_inj (by omega) (by omega) e
  rw [this] at h1
  exact h1
def pj : Nat → Int32
  | 0 => -1
  | j + 1 => nI j
theorem pj_lt {j : Nat} (hj : j < 2 ^ 31) : pj j < 0 ↔ j = 0 := by
  cases j with
  | zero => exact ⟨fun _ => rfl, fun _ => by decide⟩
  | succ j => exact ⟨fun q => absurd q (xI_nlt0 (by omega)), fun q => absurd q (by omega)⟩
theorem pj_dec : ∀ (i : Nat), nI i + Int32.ofInt (-1) = pj i
  | 0 => by decide
  | i + 1 => by
    show nI (i + 1) + -1 = nI i
    rw [nI_succ, Int32.add_assoc]
    show nI i + 0 = nI i
    exact Int32.add_zero _
section FINC
variable {E : EV} {X : CX} {own : String} {cc : ByteArray} {nL : Nat} {ret : Option FieldType} {dep pc : Nat} {ls st : List VV} {mem : MEM}
theorem f_iincv (C : CK E X own cc nL ret dep) {k : Nat} {n : Int} {x v : Int32} {ls1 : List VV} (hdg : decode cc pc = .ok (.iinc k n, 3)) (hl : ls[k]? = some (iv x)) (hv : x + Int32.ofInt n = v) (hn : k < nL) (hs : ls.set k (iv v) = ls1) (h : G E X nL (pc + 3) ls1 st mem) : G E X nL pc ls st mem := e_iinc C hdg hl hv hn (hs ▸ h)
end FINC
/-- the lowest free number from j on, as the law counts it -/
def frv (f : Nat → Int32) (N j : Nat) : Int32 := if ffr f (N - j) j < N then nI (ffr f (N - j) j) else -1
theorem frv_end {f : Nat → Int32} {N : Nat} : frv f N N = -1 := by
  unfold frv
  rw [Nat.sub_self]
  exact if_neg (Nat.lt_irrefl _)
theorem frv_yes {f : Nat → Int32} {N i : Nat} (h : f i = 1) (hi : i < N) : frv f N i = frv f N (i + 1) := by
  unfold frv
  rw [ffr_yes h hi]
theorem frv_no {f : Nat → Int32} {N i : Nat} (h : ¬ f i = 1) (hi : i < N) : frv f N i = nI i := by
  unfold frv
  rw [ffr_no h hi, if_pos hi]
theorem frv_ge {f : Nat → Int32} {N : Nat} (hN : N < 2 ^ 31) : 0 ≤ frv f N 0 ↔ ffr f N 0 < N := by
  unfold frv
  rw [Nat.sub_zero]
  by_cases h : ffr f N 0 < N
  · rw [if_pos h]; exact ⟨fun _ => h, fun _ => xI_ge0 _ (by omega)⟩
  · rw [if_neg h]; exact ⟨fun q => absurd q (by decide), fun q => absurd q h⟩
theorem frv_at {f : Nat → Int32} {N : Nat} (h : ffr f N 0 < N) : frv f N 0 = nI (ffr f N 0) := by
  unfold frv
  rw [Nat.sub_zero, if_pos h]
theorem ffr_fr2 {f : Nat → Int32} : ∀ n i, ffr f n i < i + n → ¬ f (ffr f n i) = 1
  | 0, i, h => absurd h (by simp [ffr])
  | n + 1, i, h => by
    rw [ffr] at h ⊢
    by_cases e : f i = 1
    · rw [if_pos e] at h ⊢
      exact ffr_fr2 n (i + 1) (by omega)
    · rw [if_neg e]; exact e
theorem ffr_more {f : Nat → Int32} {k : Nat} : ∀ n i, ffr f n i < i + n → ffr f (n + k) i = ffr f n i
  | 0, i, h => absurd h (by simp [ffr])
  | n + 1, i, h => by
    rw [ffr] at h
    rw [show n + 1 + k = (n + k) + 1 by omega, ffr, ffr]
    by_cases e : f i = 1
    · rw [if_pos e] at h ⊢
      rw [if_pos e]
      exact ffr_more n (i + 1) (by omega)
    · rw [if_neg e, if_neg e]
section STEPS
variable {mem : MEM} {z : ZZ} {c : Nat}
theorem fAdd_no {rt : Int32} {lk : Int32} (h : ¬ (lk = -6 ∨ isP z lk)) : fAdd z rt lk = (-1, z) := cif_neg h
theorem fAdd_full {rt : Nat} {lk : Int32} (h : lk = -6 ∨ isP z lk) (hr : rt ≤ 9) (hf : ¬ ffr (fun r => rz z r 0) 5 0 < 5) : fAdd z (nI rt) lk = (-4, z) := by
  unfold fAdd
  rw [cif_pos h, cif_pos ⟨nI_le (Nat.zero_le _) (by omega), nI_le hr (by decide)⟩, cif_neg hf, cif_neg hf]
theorem fAdd_yes {rt : Nat} {lk : Int32} (h : lk = -6 ∨ isP z lk) (hr : rt ≤ 9) (hf : ffr (fun r => rz z r 0) 5 0 < 5) : fAdd z (nI rt) lk = (nI (ffr (fun r => rz z r 0) 5 0), bgz z (ffr (fun r => rz z r 0) 5 0) (cif (lk = -6) (nI 0) (posg z lk)) (nI rt)) := by
  unfold fAdd
  rw [cif_pos h, cif_pos ⟨nI_le (Nat.zero_le _) (by omega), nI_le hr (by decide)⟩, cif_pos hf, cif_pos hf]
theorem fOpen_no {hm o b : Int32} (h : ¬ isP z hm) : fOpen z hm o b = (-1, z) := cif_neg h
theorem fOpen_yes {hm : Int32} {o b : Nat} (h : isP z hm) (ho : o ≤ 15) (hb : b ≤ 20) {f : Nat} (hf : ffr (fun s => sz z s 0) 8 0 = f) (hf8 : f < 8) : fOpen z hm (nI o) (nI b) = (nI f, bsz z f hm (nI o) (nI b)) := by
  subst hf
  unfold fOpen
  rw [cif_pos h, cif_pos ⟨⟨nI_le (Nat.zero_le _) (by omega), nI_le ho (by decide)⟩, nI_le (Nat.zero_le _) (by omega), nI_le hb (by decide)⟩, cif_pos hf8, cif_pos hf8]
theorem fDrop_no {r : Nat} (hr : r < 5) (h : ¬ rz z r 0 = 1) : fDrop z (nI r) = (-1, z) := cif_neg (nisR hr h)
theorem fDrop_yes {r : Nat} (hr : r < 5) (h : rz z r 0 = 1) : fDrop z (nI r) = (nI (homz z (nI r) 8), rs (sndz z (nI r) 8) r 0 (nI 0)) := by
  unfold fDrop
  rw [cif_pos ⟨r, hr, rfl, h⟩, nt_nI (by omega)]
theorem fRate_no {r : Nat} {v : Int32} (hr : r < 5) (h : ¬ rz z r 0 = 1) : fRate z (nI r) v = (-1, z) := cif_neg (nisR hr h)
theorem fRate_yes {r v : Nat} (hr : r < 5) (h : rz z r 0 = 1) (hv : v ≤ 9) : fRate z (nI r) (nI v) = (rz z r 2, rs z r 2 (nI v)) := by
  unfold fRate
  rw [cif_pos ⟨r, hr, rfl, h⟩, cif_pos ⟨nI_le (Nat.zero_le _) (by omega), nI_le hv (by decide)⟩, nt_nI (by omega)]
theorem fStop_no {r : Nat} {v : Int32} (hr : r < 5) (h : ¬ rz z r 0 = 1) : fStop z (nI r) v = (-1, z) := cif_neg (nisR hr h)
theorem fStop_yes {r : Nat} {v : Int32} (hr : r < 5) (h : rz z r 0 = 1) : fStop z (nI r) v = (rz z r 3, rs z r 3 v) := by
  unfold fStop
  rw [cif_pos ⟨r, hr, rfl, h⟩, nt_nI (by omega)]
theorem fJump_no {r : Nat} {v : Int32} (hr : r < 5) (h : ¬ rz z r 0 = 1) : fJump z (nI r) v = (-1, z) := cif_neg (nisR hr h)
theorem fJump_yes {r v p : Nat} (hr : r < 5) (h : rz z r 0 = 1) (hp : rz z r 1 = nI p) (hv : v ≤ p) (hpl : p < 2 ^ 31) : fJump z (nI r) (nI v) = (nI p, rs z r 1 (nI v)) := by
  unfold fJump
  rw [cif_pos ⟨r, hr, rfl, h⟩, nt_nI (by omega), hp, cif_pos ⟨nI_le (Nat.zero_le _) (by omega), nI_le hv hpl⟩]
theorem fTick_yes {t : Nat} (h1 : 1 ≤ t) (h2 : t ≤ 99) : fTick z (nI t) = (nI (cau (tck z (nI t) 5) 5), tck z (nI t) 5) := cif_pos ⟨nI_le h1 (by omega), nI_le h2 (by decide)⟩
theorem fClose_no {s : Nat} (hs : s < 8) (h : ¬ sz z s 0 = 1) : fClose z (nI s) = (-1, z) := cif_neg (fun r => h ((isS_nat (by omega)).mp r).2)
theorem fClose_yes {s : Nat} (hs : s < 8) (h : sz z s 0 = 1) : fClose z (nI s) = (sz z s 5, ss z s 0 (nI 0)) := by
  unfold fClose
  rw [cif_pos ⟨s, hs, rfl, h⟩, nt_nI (by omega)]
theorem fMove_no {s p : Nat} (hp : p < 2 ^ 31) (h : ¬ isPn z p) : fMove z (nI s) (nI p) = (-1, z) := cif_neg (fun r => h ((isP_n hp).mp r.2))
theorem fMove_yes {s p : Nat} (hs : s < 8) (h : sz z s 0 = 1) (hp : isPn z p) : fMove z (nI s) (nI p) = (sz z s 1, ss z s 1 (nI p)) := by
  unfold fMove
  rw [cif_pos ⟨⟨s, hs, rfl, h⟩, isP_of hp⟩, nt_nI (by omega)]
theorem fChange_yes {s o b : Nat} (hs : s < 8) (h : sz z s 0 = 1) (ho : o ≤ 15) (hb : b ≤ 20) : fChange z (nI s) (nI o) (nI b) = (sz z s 2, ss (ss z s 2 (nI o)) s 3 (nI b)) := by
  unfold fChange
  rw [cif_pos ⟨s, hs, rfl, h⟩, cif_pos ⟨⟨nI_le (Nat.zero_le _) (by omega), nI_le ho (by decide)⟩, nI_le (Nat.zero_le _) (by omega), nI_le hb (by decide)⟩, nt_nI (by omega)]
theorem fHand_no {s o : Nat} (ho : o < 8) (h : ¬ sz z o 0 = 1) : fHand z (nI s) (nI o) = (-1, z) := cif_neg (fun r => h ((isS_nat (by omega)).mp r.2).2)
theorem fHand_same {s : Nat} (hs : s < 8) (h : sz z s 0 = 1) : fHand z (nI s) (nI s) = (-2, z) := by
  unfold fHand
  rw [cif_pos ⟨⟨s, hs, rfl, h⟩, s, hs, rfl, h⟩, cif_pos rfl]
theorem fHand_yes {s o : Nat} (hs : s < 8) (h : sz z s 0 = 1) (ho : o < 8) (h2 : sz z o 0 = 1) (hne : s ≠ o) : fHand z (nI s) (nI o) = (hndz z s o, ss z o 5 (hndz z s o)) := by
  unfold fHand
  rw [cif_pos ⟨⟨s, hs, rfl, h⟩, o, ho, rfl, h2⟩, cif_neg (xI_ne (by omega) (by omega) hne), nt_nI (by omega), nt_nI (by omega)]
theorem fWrite_no {s : Nat} {k v : Int32} (hs : s < 8) (h : ¬ sz z s 0 = 1) : fWrite z (nI s) k v = (-1, z) := cif_neg (fun r => h ((isS_nat (by omega)).mp r.1).2)
theorem fWrite_yes {s q v : Nat} (hs : s < 8) (h : sz z s 0 = 1) (hq : q < 12) (hv : v ≤ 999) (hc : z 0 = nI c) (hcl : c < 200) : fWrite z (nI s) (nI q) (nI v) = (nI (c + 1), wrz z s q (nI v) c) := by
  unfold fWrite
  rw [cif_pos ⟨⟨s, hs, rfl, h⟩, isK_n hq⟩, cif_pos ⟨nI_le (Nat.zero_le _) (by omega), nI_le hv (by decide)⟩, hc, cif_neg (xI_ne (by omega) (by decide) (by omega)), nt_nI (by omega), nt_nI (by omega), nt_nI (by omega)]
theorem fRead_no {s : Nat} {k : Int32} (hs : s < 8) (h : ¬ sz z s 0 = 1) : fRead z (nI s) k = (-1, z) := cif_neg (fun r => h ((isS_nat (by omega)).mp r.1).2)
theorem fRead_yes {s q : Nat} (hs : s < 8) (h : sz z s 0 = 1) (hq : q < 12) : fRead z (nI s) (nI q) = rdz z s q := by
  unfold fRead
  rw [cif_pos ⟨⟨s, hs, rfl, h⟩, isK_n hq⟩, nt_nI (by omega), nt_nI (by omega)]
theorem fReadAt_no {s q p : Nat} (hp : p < 2 ^ 31) (h : ¬ isPn z p) : fReadAt z (nI s) (nI q) (nI p) = (-1, z) := cif_neg (fun r => h ((isP_n hp).mp r.2.2))
theorem fReadAt_yes {s q p : Nat} (hs : s < 8) (h : sz z s 0 = 1) (hq : q < 12) (hp : isPn z p) : fReadAt z (nI s) (nI q) (nI p) = cif (waitg z s (nI q) (nI p) = 0) (anp z s q p (nI 0)) (-3, z) := by
  have := isPn_le hp
  unfold fReadAt
  rw [cif_pos ⟨⟨s, hs, rfl, h⟩, isK_n hq, isP_of hp⟩, nt_nI (by omega), nt_nI (by omega), nt_nI (by omega)]
theorem wait0_iff {s q p : Nat} (hI : Inv z c) (hs : s < 8) (h : sz z s 0 = 1) (hp : isPn z p) : waitg z s (nI q) (nI p) = 0 ↔ nedz z s (nI q) ≤ nt (posz z p) := by
  have hw := wg_le (key := nI q) hI hs h hp (T := 0) (by decide)
  rw [itz_0 (posn_le hI hp)] at hw
  rw [← hw]
  constructor
  · intro e; rw [e]; exact ⟨by decide, Int32.le_refl _⟩
  · rintro ⟨h1, h2⟩
    obtain ⟨w, hw2, e⟩ := (wg_b (key := nI q) hI hs h hp).resolve_left h1
    have := hI.1
    rw [e] at h2 ⊢
    have := xI_leD (by omega) (by decide) h2
    rw [show w = 0 by omega]; rfl
/-- what the law lays for a new session -/
def ovl (p o b c k : Nat) : Int32 := if k = 0 then nI p else if k = 1 then nI o else if k = 2 then nI b else if k = 8 then nI c else nI 0
def OP (m0 : MEM) (f p o b c k : Nat) (m : MEM) : Prop := (∀ id, id ≠ (19, 0, 0) → m id = m0 id) ∧ (∀ j, (∀ k', k' < k → j ≠ 4 * k' + f) → m (19, 0, 0) j = m0 (19, 0, 0) j) ∧ ∀ k', k' < k → m (19, 0, 0) (4 * k' + f) = ovl p o b c k'
theorem OP.next {m0 m : MEM} {f p o b k : Nat} {x : Int32} (h : OP m0 f p o b c k m) (hf : f < 4) (hx : x = ovl p o b c k) : OP m0 f p o b c (k + 1) (up m (19, 0, 0) (4 * k + f) x) := by
  obtain ⟨h1, h2, h3⟩ := h
  refine ⟨fun id hid => (up_o hid).trans (h1 id hid), fun j hj => ?_, fun k' hk' => ?_⟩
  · rw [up_s, if_neg (hj k (by omega))]
    exact h2 j (fun k' hk' => hj k' (by omega))
  · rw [up_s]
    by_cases e : k' = k
    · rw [if_pos (by omega), e]; exact hx
    · rw [if_neg (by omega)]; exact h3 k' (by omega)
def OQ (m0 : MEM) (f k : Nat) (m : MEM) : Prop := (∀ id, id ≠ (20, 0, 0) → m id = m0 id) ∧ (∀ j, (j < 12 * f ∨ 12 * f + 12 ≤ j) → m (20, 0, 0) j = m0 (20, 0, 0) j) ∧ ∀ k', k' < k → m (20, 0, 0) (12 * f + k') = nI 0
theorem OQ.next {m0 m : MEM} {f k : Nat} (h : OQ m0 f k m) (hk : k < 12) : OQ m0 f (k + 1) (up m (20, 0, 0) (12 * f + k) (nI 0)) := by
  obtain ⟨h1, h2, h3⟩ := h
  refine ⟨fun id hid => (up_o hid).trans (h1 id hid), fun j hj => ?_, fun k' hk' => ?_⟩
  · rw [up_s, if_neg (by omega)]; exact h2 j hj
  · rw [up_s]
    by_cases e : k' = k
    · rw [if_pos (by omega)]
    · rw [if_neg (by omega)]; exact h3 k' (by omega)
theorem bsz_sz {s : Nat} {h o b : Int32} {s' w : Nat} (hw : w < 33) : sz (bsz z s h o b) s' w = if s' = s then (if w = 3 then b else if w = 2 then o else if w = 1 then h else if w = 0 then nI 1 else nI 0) else sz z s' w := by
  unfold bsz
  rw [sz_ss (by decide) hw, sz_ss (by decide) hw, sz_ss (by decide) hw, sz_ss (by decide) hw, sz_z33 hw]
  by_cases e : s' = s <;> simp [e]
theorem LZ.sborn (h : LZ mem z c) {m1 m2 : MEM} {f p o b : Nat} (hf : f < 4) (h1 : OP mem f p o b c 9 m1) (h2 : OQ m1 f 12 m2) : LZ m2 (bsz z f (nI p) (nI o) (nI b)) c := by
  have hW : ∀ j w, wz (bsz z f (nI p) (nI o) (nI b)) j w = wz z j w := fun j w => by
    unfold bsz
    rw [wz_ss (by omega) (by decide), wz_ss (by omega) (by decide), wz_ss (by omega) (by decide), wz_ss (by omega) (by decide)]
    unfold wz z33
    rw [if_neg (by omega)]
  refine h.sz' (fun id a b => (h2.1 id b).trans (h1.1 id a)) hW (fun r w hr hw => ?_) (fun j hj => ?_) (fun n a b => ?_) (fun n hn => ?_)
  · unfold bsz
    rw [rz_ss hr hw, rz_ss hr hw, rz_ss hr hw, rz_ss hr hw]
    unfold rz z33
    rw [if_neg (by omega)]
  · unfold bsz
    rw [hz_ss hj, hz_ss hj, hz_ss hj, hz_ss hj]
    unfold z33
    rw [if_neg (by omega)]
  · rw [bsz_sz (by decide), if_neg (by omega)]
  · have e19 : m2 (19, 0, 0) = m1 (19, 0, 0) := h2.1 _ (by decide)
    have e20 : m1 (20, 0, 0) = mem (20, 0, 0) := h1.1 _ (by decide)
    unfold LS1
    rw [bsz_sz (by decide), e19]
    by_cases e : n = f
    · subst e
      rw [if_pos rfl]
      refine ⟨fun _ => ⟨fun w hw => ?_, c, Nat.le_refl _, ?_, fun q hq => ⟨?_, ?_⟩⟩, fun q => absurd rfl q⟩
      · rw [h1.2.2 w (by omega), bsz_sz (by omega), if_pos rfl]
        have hc : w = 0 ∨ w = 1 ∨ w = 2 ∨ w = 3 ∨ w = 4 ∨ w = 5 ∨ w = 6 ∨ w = 7 := by omega
        rcases hc with rfl | rfl | rfl | rfl | rfl | rfl | rfl | rfl <;> rfl
      · exact h1.2.2 8 (by decide)
      · rw [h2.2.2 q hq, bsz_sz (by omega), if_pos rfl, if_neg (by omega), if_neg (by omega), if_neg (by omega), if_neg (by omega)]
      · rw [bsz_sz (by omega), if_pos rfl, if_neg (by omega), if_neg (by omega), if_neg (by omega), if_neg (by omega), lastb_0 c (Nat.le_refl _)]
    · rw [if_neg e]
      obtain ⟨g0, g9⟩ := h.2.2.1 n hn
      have eo : ∀ w, w < 9 → m1 (19, 0, 0) (4 * w + n) = mem (19, 0, 0) (4 * w + n) := fun w hw => h1.2.1 _ (fun k' hk' => by omega)
      refine ⟨fun ho => ?_, fun ho => ?_⟩
      · obtain ⟨g1, b', g2, g3, g4⟩ := g0 ho
        refine ⟨fun w hw => ?_, b', g2, (eo 8 (by decide)).trans g3, fun q hq => ?_⟩
        · rw [eo w (by omega), bsz_sz (by omega), if_neg e]; exact g1 w hw
        · rw [h2.2.1 _ (by omega), e20, bsz_sz (by omega), bsz_sz (by omega), if_neg e, if_neg e, lastb_congr c (fun j _ => ⟨hW j 0, hW j 2⟩)]
          exact g4 q hq
      · have := eo 0 (by decide)
        rw [Nat.mul_zero, Nat.zero_add] at this
        rw [this]; exact g9 ho
theorem sndz_8 (hZ : LZ mem z c) (pl : Int32) : sndz z pl 8 = sndz z pl 4 := by
  have e : ∀ n, 4 ≤ n → n < 8 → sndz z pl (n + 1) = sndz z pl n := fun n h1 h2 => by
    rw [sndz, sndz_sz (by decide) n (Nat.le_refl _), cif_neg (fun q => hZ.s_far h1 h2 q.1)]
  rw [e 7 (by decide) (by decide), e 6 (by decide) (by decide), e 5 (by decide) (by decide), e 4 (by decide) (by decide)]
/-- a write at the end of the log -/
theorem LZ.write (h : LZ mem z c) {n q v : Nat} (hn : n < 4) (ho : sz z n 0 = 1) (hq : q < 12) (hv : v < 1000) (hc : c < 60) : LZ (up (up (up mem (17, 0, 0) c (nI (q + 12 * v + 12000 * n))) (21, 0, 0) 0 (nI (c + 1))) (19, 0, 0) (12 + n) (nI (c + 1))) (wrz z n q (nI v) c) (c + 1) := by
  have hWn : ∀ j w, w < 3 → wz (wrz z n q (nI v) c) j w = if j = c then (if w = 0 then nI q else if w = 1 then nI v else nI n) else wz z j w := fun j w hw => by
    unfold wrz
    rw [wz_ss (by omega) (by omega), wz_ss (by omega) (by decide), wz_h (by decide), wz_ws (by decide) hw, wz_ws (by decide) hw, wz_ws (by decide) hw]
    by_cases e : j = c
    · have hw3 : w = 0 ∨ w = 1 ∨ w = 2 := by omega
      rcases hw3 with rfl | rfl | rfl <;> simp [e]
    · simp [e]
  have hSn : ∀ s w, s < 8 → w < 33 → sz (wrz z n q (nI v) c) s w = if s = n ∧ (w = 4 ∨ w = 9 + q) then nI (c + 1) else sz z s w := fun s w hs hw => by
    unfold wrz
    rw [sz_ss (by omega) hw, sz_ss (by decide) hw, sz_h (by decide), sz_ws hs hw, sz_ws hs hw, sz_ws hs hw]
    by_cases e1 : s = n ∧ w = 9 + q
    · rw [if_pos e1, if_pos ⟨e1.1, Or.inr e1.2⟩]
    · rw [if_neg e1]
      by_cases e2 : s = n ∧ w = 4
      · rw [if_pos e2, if_pos ⟨e2.1, Or.inl e2.2⟩]
      · rw [if_neg e2, if_neg (by omega)]
  have hRn : ∀ r w, r < 5 → w < 5 → rz (wrz z n q (nI v) c) r w = rz z r w := fun r w hr hw => by
    unfold wrz
    rw [rz_ss hr hw, rz_ss hr hw, rz_h (by decide), rz_ws hr hw, rz_ws hr hw, rz_ws hr hw]
  have hHn : ∀ j, j < 5 → wrz z n q (nI v) c j = if j = 0 then nI (c + 1) else z j := fun j hj => by
    unfold wrz
    rw [hz_ss hj, hz_ss hj, upd_at, hz_ws hj, hz_ws hj, hz_ws hj]
  have hLb : ∀ n' q' b, n' < 4 → q' < 12 → lastb (wrz z n q (nI v) c) n' q' b (c + 1) = if b ≤ c ∧ q' = q ∧ n' = n then c + 1 else lastb z n' q' b c := fun n' q' b hn' hq' => by
    rw [lastb, hWn c 0 (by decide), hWn c 2 (by decide), if_pos rfl, if_pos rfl, if_pos rfl, if_neg (by decide), if_neg (by decide), lastb_congr (z := z) c (fun j hj => ⟨by rw [hWn j 0 (by decide), if_neg (by omega)], by rw [hWn j 2 (by decide), if_neg (by omega)]⟩)]
    by_cases e : b ≤ c ∧ q' = q ∧ n' = n
    · rw [if_pos e, cif_pos ⟨e.1, by rw [e.2.1], by rw [e.2.2]⟩]
    · rw [if_neg e, cif_neg (fun r => e ⟨r.1, (xI_inj (by omega) (by omega) r.2.1).symm, (xI_inj (by omega) (by omega) r.2.2).symm⟩)]
  obtain ⟨⟨h1, h2⟩, h3, h4, h5, h6, h7, h8, h9, h10, h11⟩ := h
  refine ⟨⟨by omega, fun j hj => ?_⟩, fun n' hn' => ?_, fun s hs => ?_, fun s a b => ?_, ?_⟩
  · rw [up_o (by decide), up_o (by decide), up_s, hWn j 0 (by decide), hWn j 1 (by decide), hWn j 2 (by decide)]
    by_cases e : j = c
    · rw [if_pos e, if_pos e, if_pos e, if_pos e]
      exact ⟨q, v, n, hq, hv, hn, rfl, rfl, rfl, rfl⟩
    · rw [if_neg e, if_neg e, if_neg e, if_neg e]
      exact h2 j (by omega)
  · obtain ⟨g0, g9⟩ := h3 n' hn'
    unfold LR1
    rw [up_o (by decide), up_o (by decide), up_o (by decide), hRn n' 0 hn' (by decide)]
    exact ⟨fun r w hw => by rw [hRn n' _ hn' (by omega)]; exact g0 r w hw, g9⟩
  · obtain ⟨g0, g9⟩ := h4 s hs
    have e20 : up (up (up mem (17, 0, 0) c (nI (q + 12 * v + 12000 * n))) (21, 0, 0) 0 (nI (c + 1))) (19, 0, 0) (12 + n) (nI (c + 1)) (20, 0, 0) = mem (20, 0, 0) := by
      rw [up_o (show ((20, 0, 0) : ID) ≠ (19, 0, 0) by decide), up_o (show ((20, 0, 0) : ID) ≠ (21, 0, 0) by decide), up_o (show ((20, 0, 0) : ID) ≠ (17, 0, 0) by decide)]
    have e19 : ∀ j, up (up (up mem (17, 0, 0) c (nI (q + 12 * v + 12000 * n))) (21, 0, 0) 0 (nI (c + 1))) (19, 0, 0) (12 + n) (nI (c + 1)) (19, 0, 0) j = if j = 12 + n then nI (c + 1) else mem (19, 0, 0) j := fun j => by
      rw [up_s, up_o (show ((19, 0, 0) : ID) ≠ (21, 0, 0) by decide), up_o (show ((19, 0, 0) : ID) ≠ (17, 0, 0) by decide)]
    generalize up (up (up mem (17, 0, 0) c (nI (q + 12 * v + 12000 * n))) (21, 0, 0) 0 (nI (c + 1))) (19, 0, 0) (12 + n) (nI (c + 1)) = M at e20 e19 ⊢
    unfold LS1
    rw [e20, hSn s 0 (by omega) (by decide), if_neg (by omega)]
    refine ⟨fun r => ?_, fun r => ?_⟩
    · obtain ⟨g1, b, g2, g3, g4⟩ := g0 r
      refine ⟨fun w hw => ?_, b, by omega, ?_, fun q' hq' => ⟨?_, ?_⟩⟩
      · rw [e19, hSn s _ (by omega) (by omega)]
        by_cases e : s = n ∧ w = 3
        · rw [if_pos (by omega), if_pos (by omega)]
        · rw [if_neg (by omega), if_neg (by omega)]; exact g1 w hw
      · rw [e19, if_neg (by omega)]; exact g3
      · rw [hSn s _ (by omega) (by omega), if_neg (by omega)]; exact (g4 q' hq').1
      · rw [hSn s _ (by omega) (by omega), hLb s q' b hs hq']
        by_cases e : q' = q ∧ s = n
        · rw [if_pos (by omega), if_pos ⟨by omega, e⟩]
        · rw [if_neg (by omega), if_neg (fun r => e r.2)]; exact (g4 q' hq').2
    · have hne : s ≠ n := fun e => r (by rw [e]; exact ho)
      rw [e19, if_neg (by omega)]; exact g9 r
  · rw [hSn s 0 (by omega) (by decide), if_neg (by omega)]; exact h5 s a b
  · unfold LTt
    rw [up_o (by decide), hHn 0 (by decide), hHn 4 (by decide), hHn 1 (by decide), hHn 2 (by decide), hHn 3 (by decide)]
    refine ⟨by rw [up_s, if_pos rfl], rfl, ?_, ?_, ?_, ?_⟩
    · rw [up_s, if_neg (by decide), up_o (by decide)]; exact h8
    · rw [up_s, if_neg (by decide), up_o (by decide)]; exact h9
    · rw [up_s, if_neg (by decide), up_o (by decide)]; exact h10
    · rw [up_s, if_neg (by decide), up_o (by decide)]; exact h11
end STEPS
