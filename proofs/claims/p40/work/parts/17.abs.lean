/-! ===== the whole object: its state, its past, what is kept, its text; the class's memory and the model's ===== -/
abbrev HP : Type := Nat × (Nat → ZZ)
abbrev TX : Type := Nat × (Nat → Int32)
abbrev AS : Type := ZZ × HP × Option ZZ × TX
def isEr (a : Int32) : Prop := -5 ≤ a ∧ a ≤ -1
theorem isEr_nI {n : Nat} (h : n < 2 ^ 31) : ¬ isEr (nI n) := fun q => by
  have h2 := q.2
  rw [Int32.le_iff_toInt_le, nI_toInt h] at h2
  have : (-1 : Int32).toInt = -1 := rfl
  omega
theorem isEr_6 : ¬ isEr (-6) := by unfold isEr; decide
theorem isEr_1 : isEr (-1) := by unfold isEr; decide
theorem isEr_2 : isEr (-2) := by unfold isEr; decide
theorem isEr_3 : isEr (-3) := by unfold isEr; decide
theorem isEr_4 : isEr (-4) := by unfold isEr; decide
theorem isEr_5 : isEr (-5) := by unfold isEr; decide
def psh (h : HP) (z : ZZ) : HP := if h.1 < 5 then (h.1 + 1, fun i => if i = h.1 then z else h.2 i) else (5, fun i => if i = 4 then z else h.2 (i + 1))
/-- a call that may be undone: its answer and the state behind it, out of what it means on the row -/
noncomputable def und (f : Int32 × ZZ) (a : AS) : AS := (f.2, cif (isEr f.1) a.2.1 (psh a.2.1 a.1), a.2.2)
theorem und_er {f : Int32 × ZZ} {a : AS} (h : isEr f.1) (hz : f.2 = a.1) : und f a = a := by
  unfold und
  rw [cif_pos h, hz]
theorem und_ok {f : Int32 × ZZ} {a : AS} (h : ¬ isEr f.1) : und f a = (f.2, psh a.2.1 a.1, a.2.2) := by
  unfold und
  rw [cif_neg h]
def RHist (mem : MEM) (h : HP) : Prop := h.1 ≤ 5 ∧ ∃ o, o < 6 ∧ mem (12, 0, 0) 1 = nI o ∧ mem (12, 0, 0) 2 = nI h.1 ∧ ∀ i, i < h.1 → RelS mem (2 + (o + i) % 6) (h.2 i)
def RKep (mem : MEM) (k : Option ZZ) : Prop := match k with
  | none => mem (0, 0, 0) 2 = 0
  | some z => mem (0, 0, 0) 2 = 1 ∧ RelS mem 1 z
def RTex (mem : MEM) (t : TX) : Prop := t.1 ≤ 80 ∧ mem (14, 0, 0) 1 = nI t.1 ∧ ∀ j, j < t.1 → mem (15, 0, 0) j = t.2 j
def RC (mem : MEM) (a : AS) : Prop := RelS mem 0 a.1 ∧ RHist mem a.2.1 ∧ RKep mem a.2.2.1 ∧ RTex mem a.2.2.2
def FrC (mem m : MEM) : Prop := ∀ id : ID, 17 ≤ id.1 → m id = mem id
def FrM (mem m : MEM) : Prop := ∀ id : ID, id.1 ≤ 16 → m id = mem id
theorem FrC.rfl' {mem : MEM} : FrC mem mem := fun _ _ => rfl
theorem FrM.rfl' {mem : MEM} : FrM mem mem := fun _ _ => rfl
theorem FrC.trans {a b c : MEM} (h1 : FrC a b) (h2 : FrC b c) : FrC a c := fun id h => (h2 id h).trans (h1 id h)
theorem FrM.trans {a b c : MEM} (h1 : FrM a b) (h2 : FrM b c) : FrM a c := fun id h => (h2 id h).trans (h1 id h)
theorem FrS.C {k : Nat} {a b : MEM} (h : FrS k a b) : FrC a b := fun id hid => h id (fun q => by have := q.2.2; omega)
theorem FrC.set {mem m : MEM} {id : ID} {j : Nat} {v : Int32} (h : FrC mem m) (hb : id.1 < 17) : FrC mem (up m id j v) := fun id' h' => by
  have : id' ≠ id := fun e => by rw [e] at h'; omega
  funext b
  rw [← h id' h']
  simp [up, this]
theorem FrM.set {mem m : MEM} {id : ID} {j : Nat} {v : Int32} (h : FrM mem m) (hb : 16 < id.1) : FrM mem (up m id j v) := fun id' h' => by
  have : id' ≠ id := fun e => by rw [e] at h'; omega
  funext b
  rw [← h id' h']
  simp [up, this]
theorem RelS.same {mem m : MEM} {k : Nat} {z : ZZ} (h : RelS mem k z) (hm : ∀ id : ID, id.1 ≤ 11 → m id = mem id) : RelS m k z := h.congr fun id hb => hm id hb.2.2
theorem RHist.frS {mem m : MEM} {h : HP} {k : Nat} (hh : RHist mem h) (hf : FrS k mem m) (hk : k < 2) : RHist m h := by
  obtain ⟨h1, o, h2, h3, h4, h5⟩ := hh
  have e : m (12, 0, 0) = mem (12, 0, 0) := hf _ (fun q => by have := q.2.2; revert this; decide)
  refine ⟨h1, o, h2, by rw [e]; exact h3, by rw [e]; exact h4, fun i hi => (h5 i hi).frame hf (by omega)⟩
theorem RKep.frS {mem m : MEM} {h : Option ZZ} {k : Nat} (hh : RKep mem h) (hf : FrS k mem m) (hk : k ≠ 1) : RKep m h := by
  have e : m (0, 0, 0) = mem (0, 0, 0) := hf _ (fun q => by have := q.2.1; revert this; decide)
  cases h with
  | none => show m (0, 0, 0) 2 = 0; rw [e]; exact hh
  | some z => exact ⟨by rw [e]; exact hh.1, hh.2.frame hf (Ne.symm hk)⟩
theorem RTex.frS {mem m : MEM} {h : TX} {k : Nat} (hh : RTex mem h) (hf : FrS k mem m) : RTex m h := by
  have e : m (14, 0, 0) = mem (14, 0, 0) := hf _ (fun q => by have := q.2.2; revert this; decide)
  have e2 : m (15, 0, 0) = mem (15, 0, 0) := hf _ (fun q => by have := q.2.2; revert this; decide)
  exact ⟨hh.1, by rw [e]; exact hh.2.1, fun j hj => by rw [e2]; exact hh.2.2 j hj⟩
/-- the class's memory where only the model's cells were moved -/
theorem RC.frM {mem m : MEM} {a : AS} (h : RC mem a) (hf : FrM mem m) : RC m a := by
  have e : ∀ t, t ≤ 16 → m (t, 0, 0) = mem (t, 0, 0) := fun t ht => hf _ ht
  have er : ∀ {k : Nat} {z : ZZ}, RelS mem k z → RelS m k z := fun hr => hr.same fun id hid => hf id (by omega)
  obtain ⟨h1, ⟨a1, o, a2, a3, a4, a5⟩, h3, b1, b2, b3⟩ := h
  refine ⟨er h1, ⟨a1, o, a2, by rw [e 12 (by decide)]; exact a3, by rw [e 12 (by decide)]; exact a4, fun i hi => er (a5 i hi)⟩, ?_, b1, by rw [e 14 (by decide)]; exact b2, fun j hj => by rw [e 15 (by decide)]; exact b3 j hj⟩
  revert h3
  cases a.2.2.1 with
  | none => intro h3; show m (0, 0, 0) 2 = 0; rw [e 0 (by decide)]; exact h3
  | some z => intro h3; exact ⟨by rw [e 0 (by decide)]; exact h3.1, er h3.2⟩
def RMh (mem : MEM) (h : HP) : Prop := h.1 ≤ 5 ∧ mem (17, 0, 0) 2 = nI h.1 ∧ ∀ i, i < h.1 → ∀ j, j < 894 → mem (19, 0, 0) (894 * i + j) = h.2 i j
def RMk (mem : MEM) (k : Option ZZ) : Prop := match k with
  | none => mem (17, 0, 0) 4 = 0
  | some z => mem (17, 0, 0) 4 = 1 ∧ ∀ j, j < 894 → mem (20, 0, 0) j = z j
def RMt (mem : MEM) (t : TX) : Prop := t.1 ≤ 80 ∧ mem (17, 0, 0) 6 = nI t.1 ∧ ∀ j, j < t.1 → mem (21, 0, 0) j = t.2 j
def RMr (mem : MEM) (r : HP × Option ZZ × TX) : Prop := RMh mem r.1 ∧ RMk mem r.2.1 ∧ RMt mem r.2.2
def RM (mem : MEM) (a : AS) : Prop := mem (18, 0, 0) = a.1 ∧ RMr mem a.2
theorem RM.frC {mem m : MEM} {a : AS} (h : RM mem a) (hf : FrC mem m) : RM m a := by
  have e : ∀ t, 17 ≤ t → m (t, 0, 0) = mem (t, 0, 0) := fun t ht => hf _ ht
  obtain ⟨h1, ⟨a1, a2, a3⟩, h3, b1, b2, b3⟩ := h
  refine ⟨by rw [e 18 (by decide)]; exact h1, ⟨a1, by rw [e 17 (by decide)]; exact a2, fun i hi j hj => by rw [e 19 (by decide)]; exact a3 i hi j hj⟩, ?_, b1, by rw [e 17 (by decide)]; exact b2, fun j hj => by rw [e 21 (by decide)]; exact b3 j hj⟩
  revert h3
  cases a.2.2.1 with
  | none => intro h3; show m (17, 0, 0) 4 = 0; rw [e 17 (by decide)]; exact h3
  | some z => intro h3; exact ⟨by rw [e 17 (by decide)]; exact h3.1, fun j hj => by rw [e 20 (by decide)]; exact h3.2 j hj⟩
def PoC (mem : MEM) (a : AS) (x0 : Int32) : Int32 → MEM → Prop := fun x m => x = x0 ∧ RC m a ∧ FrC mem m
def PoM (mem : MEM) (a : AS) (x0 : Int32) : Int32 → MEM → Prop := fun x m => x = x0 ∧ RM m a ∧ FrM mem m
/-- what the class does behind a call that may be undone -/
noncomputable def kpm (m : MEM) (o n : Nat) (x : Int32) : MEM := cif (isEr x) m (if n < 5 then up m (12, 0, 0) 2 (nI (n + 1)) else up m (12, 0, 0) 1 (nI ((o + 1) % 6)))
theorem RHist.kept {m : MEM} {h : HP} {z : ZZ} {o : Nat} (h1 : h.1 ≤ 5) (ho : o < 6) (e1 : m (12, 0, 0) 1 = nI o) (e2 : m (12, 0, 0) 2 = nI h.1) (hr : ∀ i, i < h.1 → RelS m (2 + (o + i) % 6) (h.2 i)) (hn : RelS m (2 + (o + h.1) % 6) z) :
    RHist (if h.1 < 5 then up m (12, 0, 0) 2 (nI (h.1 + 1)) else up m (12, 0, 0) 1 (nI ((o + 1) % 6))) (psh h z) := by
  obtain ⟨n, P⟩ := h
  simp only at h1 e1 e2 hr hn ⊢
  unfold psh
  by_cases hc : n < 5
  · simp only [if_pos hc]
    refine ⟨by show n + 1 ≤ 5; omega, o, ho, by simp [up]; exact e1, by simp [up], fun i hi => ?_⟩
    have hi : i < n + 1 := hi
    have hs : ∀ {k : Nat} {y : ZZ}, RelS m k y → RelS (up m (12, 0, 0) 2 (nI (n + 1))) k y := fun q => q.same fun id hid => by
      have : id ≠ (12, 0, 0) := fun e => by rw [e] at hid; revert hid; decide
      funext b
      simp [up, this]
    by_cases hin : i = n
    · subst hin
      simp only [if_true]
      exact hs hn
    · simp only [if_neg hin]
      exact hs (hr i (by omega))
  · simp only [if_neg hc]
    obtain rfl : n = 5 := by omega
    refine ⟨Nat.le_refl 5, (o + 1) % 6, Nat.mod_lt _ (by decide), by simp [up], by simp [up]; exact e2, fun i hi => ?_⟩
    have hi : i < 5 := hi
    have hs : ∀ {k : Nat} {y : ZZ}, RelS m k y → RelS (up m (12, 0, 0) 1 (nI ((o + 1) % 6))) k y := fun q => q.same fun id hid => by
      have : id ≠ (12, 0, 0) := fun e => by rw [e] at hid; revert hid; decide
      funext b
      simp [up, this]
    by_cases hin : i = 4
    · subst hin
      simp only [if_true]
      rw [show 2 + ((o + 1) % 6 + 4) % 6 = 2 + (o + 5) % 6 by omega]
      exact hs hn
    · simp only [if_neg hin]
      rw [show 2 + ((o + 1) % 6 + i) % 6 = 2 + (o + (i + 1)) % 6 by omega]
      exact hs (hr (i + 1) (by omega))
/-- the whole of a call that may be undone: a copy laid aside, the move, the copy kept -/
theorem RC.keep {mem m2 : MEM} {a : AS} {z' : ZZ} {v x : Int32} {o : Nat} (h : RC mem a) (ho : o < 6) (e1 : mem (12, 0, 0) 1 = nI o) (hr : ∀ i, i < a.2.1.1 → RelS mem (2 + (o + i) % 6) (a.2.1.2 i)) (h2 : PoI 0 (cpS mem (2 + (o + a.2.1.1) % 6) 0) z' v x m2) :
    PoC mem (und (v, z') a) v x (kpm m2 o a.2.1.1 x) := by
  obtain ⟨h1, hh, hk, ht⟩ := h
  obtain ⟨rfl, hz, hf⟩ := h2
  obtain ⟨n5, o', ho', e1', e2, -⟩ := hh
  have hfc : FrS (2 + (o + a.2.1.1) % 6) mem (cpS mem (2 + (o + a.2.1.1) % 6) 0) := FrS.copy
  have hk2 : RKep m2 a.2.2.1 := (hk.frS hfc (by omega)).frS hf (by decide)
  have ht2 : RTex m2 a.2.2.2 := (ht.frS hfc).frS hf
  have q1 : m2 (12, 0, 0) = mem (12, 0, 0) := (hf _ (fun q => by have := q.2.2; revert this; decide)).trans (hfc _ (fun q => by have := q.2.2; revert this; decide))
  have hr2 : ∀ i, i < a.2.1.1 → RelS m2 (2 + (o + i) % 6) (a.2.1.2 i) := fun i hi => ((hr i hi).frame hfc (by omega)).frame hf (by omega)
  have hn2 : RelS m2 (2 + (o + a.2.1.1) % 6) a.1 := (RelS.copy h1).frame hf (by omega)
  unfold kpm und
  by_cases hc : isEr x
  · rw [cif_pos hc, cif_pos hc]
    exact ⟨rfl, ⟨hz, ⟨n5, o, ho, by rw [q1]; exact e1, by rw [q1]; exact e2, hr2⟩, hk2, ht2⟩, hfc.C.trans hf.C⟩
  · rw [cif_neg hc, cif_neg hc]
    have hH := RHist.kept n5 ho (by rw [q1]; exact e1) (by rw [q1]; exact e2) hr2 hn2
    generalize hm3 : (if a.2.1.1 < 5 then up m2 (12, 0, 0) 2 (nI (a.2.1.1 + 1)) else up m2 (12, 0, 0) 1 (nI ((o + 1) % 6))) = m3 at hH ⊢
    have o12 : ∀ id : ID, id ≠ (12, 0, 0) → m3 id = m2 id := fun id hne => by
      rw [← hm3]
      split <;> (funext b; simp [up, hne])
    have on (t : Nat) (ht : t ≠ 12) : m3 (t, 0, 0) = m2 (t, 0, 0) := o12 _ (by simp [ht])
    refine ⟨rfl, ⟨hz.same fun id hid => o12 id (fun e => by rw [e] at hid; revert hid; decide), hH, ?_, ht2.1, by rw [on 14 (by decide)]; exact ht2.2.1, fun j hj => by rw [on 15 (by decide)]; exact ht2.2.2 j hj⟩, (hfc.C.trans hf.C).trans fun id hid => o12 id (fun e => by rw [e] at hid; revert hid; decide)⟩
    revert hk2
    show RKep m2 a.2.2.1 → RKep m3 a.2.2.1
    cases a.2.2.1 with
    | none => intro hk2; show m3 (0, 0, 0) 2 = 0; rw [on 0 (by decide)]; exact hk2
    | some y => intro hk2; exact ⟨by rw [on 0 (by decide)]; exact hk2.1, hk2.2.same fun id hid => o12 id (fun e => by rw [e] at hid; revert hid; decide)⟩
/-- the past without its latest -/
def pop (h : HP) : HP := (h.1 - 1, h.2)
theorem RC.undo {mem : MEM} {a : AS} {o : Nat} (h : RC mem a) (ho : o < 6) (e1 : mem (12, 0, 0) 1 = nI o) (hr : ∀ i, i < a.2.1.1 → RelS mem (2 + (o + i) % 6) (a.2.1.2 i)) (hn : 0 < a.2.1.1) :
    RC (up (cpS mem 0 (2 + (o + (a.2.1.1 - 1)) % 6)) (12, 0, 0) 2 (nI (a.2.1.1 - 1))) (a.2.1.2 (a.2.1.1 - 1), (a.2.1.1 - 1, a.2.1.2), a.2.2) ∧ FrC mem (up (cpS mem 0 (2 + (o + (a.2.1.1 - 1)) % 6)) (12, 0, 0) 2 (nI (a.2.1.1 - 1))) := by
  obtain ⟨h1, hh, hk, ht⟩ := h
  obtain ⟨n5, o', ho', e1', e2, -⟩ := hh
  have hf : FrS 0 mem (cpS mem 0 (2 + (o + (a.2.1.1 - 1)) % 6)) := FrS.copy
  have hz := RelS.copy (k := 0) (hr (a.2.1.1 - 1) (by omega))
  have hr2 : ∀ i, i < a.2.1.1 → RelS (cpS mem 0 (2 + (o + (a.2.1.1 - 1)) % 6)) (2 + (o + i) % 6) (a.2.1.2 i) := fun i hi => (hr i hi).frame hf (by omega)
  have hk2 := hk.frS hf (by decide)
  have ht2 := ht.frS hf
  have q1 : cpS mem 0 (2 + (o + (a.2.1.1 - 1)) % 6) (12, 0, 0) = mem (12, 0, 0) := hf _ (fun q => by have := q.2.2; revert this; decide)
  generalize cpS mem 0 (2 + (o + (a.2.1.1 - 1)) % 6) = m2 at hf hz hr2 hk2 ht2 q1 ⊢
  generalize hm3 : up m2 (12, 0, 0) 2 (nI (a.2.1.1 - 1)) = m3
  have o12 : ∀ id : ID, id ≠ (12, 0, 0) → m3 id = m2 id := fun id hne => by
    rw [← hm3]
    funext b; simp [up, hne]
  have on (t : Nat) (ht : t ≠ 12) : m3 (t, 0, 0) = m2 (t, 0, 0) := o12 _ (by simp [ht])
  have hs : ∀ {k : Nat} {y : ZZ}, RelS m2 k y → RelS m3 k y := fun q => q.same fun id hid => o12 id (fun e => by rw [e] at hid; revert hid; decide)
  refine ⟨⟨hs hz, ⟨by show a.2.1.1 - 1 ≤ 5; omega, o, ho, by rw [← hm3]; simp [up]; rw [q1]; exact e1, by rw [← hm3]; simp [up], fun i hi => hs (hr2 i (by have hi : i < a.2.1.1 - 1 := hi; omega))⟩, ?_, ht2.1, by rw [on 14 (by decide)]; exact ht2.2.1, fun j hj => by rw [on 15 (by decide)]; exact ht2.2.2 j hj⟩, hf.C.trans fun id hid => o12 id (fun e => by rw [e] at hid; revert hid; decide)⟩
  revert hk2
  show RKep m2 a.2.2.1 → RKep m3 a.2.2.1
  cases a.2.2.1 with
  | none => intro hk2; show m3 (0, 0, 0) 2 = 0; rw [on 0 (by decide)]; exact hk2
  | some y => intro hk2; exact ⟨by rw [on 0 (by decide)]; exact hk2.1, hs hk2.2⟩
theorem RC.save {mem : MEM} {a : AS} (h : RC mem a) : RC (up (cpS mem 1 0) (0, 0, 0) 2 (nI 1)) (a.1, a.2.1, some a.1, a.2.2.2) ∧ FrC mem (up (cpS mem 1 0) (0, 0, 0) 2 (nI 1)) := by
  obtain ⟨h1, hh, hk, ht⟩ := h
  have hf : FrS 1 mem (cpS mem 1 0) := FrS.copy
  have hz := RelS.copy (k := 1) h1
  have h1' := h1.frame hf (by decide)
  have hh2 := hh.frS hf (by decide)
  have ht2 := ht.frS hf
  generalize cpS mem 1 0 = m2 at hf hz h1' hh2 ht2 ⊢
  have o12 : ∀ id : ID, id ≠ (0, 0, 0) → up m2 (0, 0, 0) 2 (nI 1) id = m2 id := fun id hne => by
    funext b; simp [up, hne]
  have hs : ∀ {k : Nat} {y : ZZ}, RelS m2 k y → RelS (up m2 (0, 0, 0) 2 (nI 1)) k y := fun q => q.congr fun id hid => o12 id (fun e => by rw [e] at hid; have := hid.2.1; revert this; decide)
  have on (t : Nat) (ht : t ≠ 0) : up m2 (0, 0, 0) 2 (nI 1) (t, 0, 0) = m2 (t, 0, 0) := o12 _ (by simp [ht])
  obtain ⟨n5, o, ho, e1, e2, e3⟩ := hh2
  exact ⟨⟨hs h1', ⟨n5, o, ho, by rw [on 12 (by decide)]; exact e1, by rw [on 12 (by decide)]; exact e2, fun i hi => hs (e3 i hi)⟩, ⟨by simp [up]; rfl, hs hz⟩, ht2.1, by rw [on 14 (by decide)]; exact ht2.2.1, fun j hj => by rw [on 15 (by decide)]; exact ht2.2.2 j hj⟩, hf.C.trans fun id hid => o12 id (fun e => by rw [e] at hid; revert hid; decide)⟩
