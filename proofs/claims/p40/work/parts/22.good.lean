/-! ===== what holds of every state, and stays ===== -/
def InvX (z : ZZ) (c : Nat) : Prop := (∀ j, j < c → ∃ v, v ≤ 999 ∧ wz z j 1 = nI v) ∧ (∀ s, s < 8 → sz z s 0 = 1 → ∃ o, o ≤ 15 ∧ sz z s 2 = nI o) ∧ (z 1 = -6 → z 2 = -6 ∧ z 3 = -6)
def GoodC (z : ZZ) (c : Nat) : Prop := Inv z c ∧ InvX z c
def Good (z : ZZ) : Prop := ∃ c, GoodC z c
theorem GoodC.rep {z : ZZ} {c r w : Nat} {v : Int32} (h : GoodC z c) (hr : r < 5) (hw : w < 5) (h0 : w ≠ 0) (h1 : w = 1 → ∃ p, p ≤ c ∧ v = nI p) (h2 : w = 2 → ∃ q, q ≤ 9 ∧ v = nI q) (h3 : w = 3 → v = 0 ∨ v = 1) : GoodC (rs z r w v) c := by
  obtain ⟨⟨i1, i2, i3, i4⟩, x1, x2, x3⟩ := h
  have e0 : ∀ r', rz (rs z r w v) r' 0 = rz z r' 0 := fun r' => by rw [rz_rs hw (by decide), if_neg (fun q => h0 q.2.symm)]
  refine ⟨⟨i1, by rw [hz_rs (by decide)]; exact i2, fun r' hr' => ?_, fun s hs => ?_⟩, fun j hj => ?_, fun s hs => ?_, ?_⟩
  · rw [e0]
    refine ⟨(i3 r' hr').1, fun ho => ?_⟩
    obtain ⟨a1, a2, a3⟩ := (i3 r' hr').2 ho
    rw [rz_rs hw (by decide), rz_rs hw (by decide), rz_rs hw (by decide)]
    refine ⟨?_, ?_, ?_⟩
    · by_cases e : r' = r ∧ 1 = w
      · rw [if_pos e]; exact h1 e.2.symm
      · rw [if_neg e]; exact a1
    · by_cases e : r' = r ∧ 2 = w
      · rw [if_pos e]; exact h2 e.2.symm
      · rw [if_neg e]; exact a2
    · by_cases e : r' = r ∧ 3 = w
      · rw [if_pos e]; exact h3 e.2.symm
      · rw [if_neg e]; exact a3
  · simp only [sz_rs hr hw]
    refine ⟨(i4 s hs).1, fun ho => ?_⟩
    obtain ⟨b1, b2⟩ := (i4 s hs).2 ho
    exact ⟨(isP_congr fun r' _ => e0 r').mpr b1, b2⟩
  · rw [wz_rs hr hw]; exact x1 j hj
  · simp only [sz_rs hr hw]; exact x2 s hs
  · rw [hz_rs (by decide), hz_rs (by decide), hz_rs (by decide)]; exact x3
theorem GoodC.ses {z : ZZ} {c s w : Nat} {v : Int32} (h : GoodC z c) (hs : s < 8) (hw : w < 33) (h0 : w = 0 → v = 0) (h1 : w = 1 → isP z v) (h2 : w = 2 → ∃ q, q ≤ 15 ∧ v = nI q) (h3 : w = 3 → ∃ q, q ≤ 20 ∧ v = nI q) (h4 : w = 4 → ∃ q, q ≤ c ∧ v = nI q) (h5 : w = 5 → ∃ q, q ≤ c ∧ v = nI q) : GoodC (ss z s w v) c := by
  obtain ⟨⟨i1, i2, i3, i4⟩, x1, x2, x3⟩ := h
  have eR : ∀ r', r' < 5 → ∀ w', w' < 5 → rz (ss z s w v) r' w' = rz z r' w' := fun r' hr' w' hw' => rz_ss hr' hw'
  have eS : ∀ s' w', w' < 33 → sz (ss z s w v) s' w' = if s' = s ∧ w' = w then v else sz z s' w' := fun s' w' hw' => sz_ss hw hw'
  refine ⟨⟨i1, by rw [hz_ss (by decide)]; exact i2, fun r' hr' => ?_, fun s' hs' => ?_⟩, fun j hj => ?_, fun s' hs' => ?_, ?_⟩
  · rw [eR r' hr' 0 (by decide), eR r' hr' 1 (by decide), eR r' hr' 2 (by decide), eR r' hr' 3 (by decide)]
    exact i3 r' hr'
  · rw [eS s' 0 (by decide), eS s' 1 (by decide), eS s' 3 (by decide), eS s' 4 (by decide), eS s' 5 (by decide)]
    by_cases e : s' = s ∧ 0 = w
    · rw [if_pos e, h0 e.2.symm]
      exact ⟨Or.inl rfl, fun q => absurd q (by decide)⟩
    · rw [if_neg e]
      refine ⟨(i4 s' hs').1, fun ho => ?_⟩
      obtain ⟨b1, b2, b3, b4⟩ := (i4 s' hs').2 ho
      refine ⟨?_, ?_, ?_, ?_⟩
      · refine (isP_congr fun r' hr' => eR r' hr' 0 (by decide)).mpr ?_
        by_cases e : s' = s ∧ 1 = w
        · rw [if_pos e]; exact h1 e.2.symm
        · rw [if_neg e]; exact b1
      · by_cases e : s' = s ∧ 3 = w
        · rw [if_pos e]; exact h3 e.2.symm
        · rw [if_neg e]; exact b2
      · by_cases e : s' = s ∧ 4 = w
        · rw [if_pos e]; exact h4 e.2.symm
        · rw [if_neg e]; exact b3
      · by_cases e : s' = s ∧ 5 = w
        · rw [if_pos e]; exact h5 e.2.symm
        · rw [if_neg e]; exact b4
  · rw [wz_ss hs hw]; exact x1 j hj
  · rw [eS s' 0 (by decide), eS s' 2 (by decide)]
    intro ho
    by_cases e : s' = s ∧ 0 = w
    · rw [if_pos e, h0 e.2.symm] at ho; exact absurd ho (by decide)
    · rw [if_neg e] at ho
      by_cases e : s' = s ∧ 2 = w
      · rw [if_pos e]; exact h2 e.2.symm
      · rw [if_neg e]; exact x2 s' hs' ho
  · rw [hz_ss (by decide), hz_ss (by decide), hz_ss (by decide)]; exact x3
/-- a session's number that is bound by nothing -/
theorem GoodC.sesF {z : ZZ} {c s w : Nat} {v : Int32} (h : GoodC z c) (hs : s < 8) (hw : w < 33) (hw5 : 5 < w) : GoodC (ss z s w v) c :=
  h.ses hs hw (fun e => by omega) (fun e => by omega) (fun e => by omega) (fun e => by omega) (fun e => by omega) (fun e => by omega)
theorem Inv.h {z : ZZ} {c j : Nat} {v : Int32} (h : Inv z c) (hj : j < 5) (hj0 : 0 < j) : Inv (upd z j v) c := by
  obtain ⟨i1, i2, i3, i4⟩ := h
  refine ⟨i1, by rw [upd_at, if_neg (by omega)]; exact i2, fun r hr => ?_, fun s hs => ?_⟩
  · simp only [rz_h hj]; exact i3 r hr
  · simp only [sz_h hj]
    refine ⟨(i4 s hs).1, fun ho => ?_⟩
    obtain ⟨b1, b2⟩ := (i4 s hs).2 ho
    exact ⟨(isP_congr fun r' _ => rz_h hj).mpr b1, b2⟩
theorem GoodC.h4 {z : ZZ} {c : Nat} {v : Int32} (h : GoodC z c) : GoodC (upd z 4 v) c := by
  obtain ⟨hi, x1, x2, x3⟩ := h
  refine ⟨hi.h (by decide) (by decide), fun j hj => ?_, fun s hs => ?_, ?_⟩
  · rw [wz_h (by decide)]; exact x1 j hj
  · simp only [sz_h (show 4 < 5 by decide)]; exact x2 s hs
  · exact x3
theorem GoodC.lat {z : ZZ} {c : Nat} {a b t : Int32} (h : GoodC z c) (ha : ¬ a = -6) : GoodC (upd (upd (upd z 1 a) 2 b) 3 t) c := by
  obtain ⟨hi, x1, x2, x3⟩ := h
  refine ⟨((hi.h (by decide) (by decide)).h (by decide) (by decide)).h (by decide) (by decide), fun j hj => ?_, fun s hs => ?_, fun e => absurd e ha⟩
  · rw [wz_h (by decide), wz_h (by decide), wz_h (by decide)]; exact x1 j hj
  · simp only [sz_h (show 1 < 5 by decide), sz_h (show 2 < 5 by decide), sz_h (show 3 < 5 by decide)]; exact x2 s hs
theorem GoodC.tck {z : ZZ} {c t : Nat} (h : GoodC z c) (ht : t ≤ 99) : GoodC (tck z (nI t) 5) c := by
  obtain ⟨hi, x1, x2, x3⟩ := h
  refine ⟨Inv_tck hi ht, fun j hj => ?_, fun s hs => ?_, ?_⟩
  · rw [tck_wz 5 (Nat.le_refl 5)]; exact x1 j hj
  · simp only [tck_sz 5 (Nat.le_refl 5)]; exact x2 s hs
  · rw [tck_h (by decide), tck_h (by decide), tck_h (by decide)]; exact x3
theorem tck_h1 {z : ZZ} {t : Int32} {j : Nat} (hj : j < 5) : tck z t 5 j = z j := tck_h hj 5
theorem GoodC.sndz {z : ZZ} {c : Nat} {pl : Int32} (h : GoodC z c) : ∀ n, n ≤ 8 → GoodC (sndz z pl n) c
  | 0, _ => h
  | n + 1, hn => by
    have ih := GoodC.sndz (pl := pl) h n (by omega)
    unfold Jvm.Pilot.@@N@@.sndz cif
    split
    · exact ih.ses (by omega) (by decide) (fun e => by omega) (fun _ => Or.inl rfl) (fun e => by omega) (fun e => by omega) (fun e => by omega) (fun e => by omega)
    · exact ih
theorem sndz_rz {z : ZZ} {pl : Int32} {r w : Nat} (hr : r < 5) (hw : w < 5) : ∀ n, rz (sndz z pl n) r w = rz z r w
  | 0 => rfl
  | n + 1 => by
    unfold sndz cif
    split
    · rw [rz_ss hr hw]; exact sndz_rz hr hw n
    · exact sndz_rz hr hw n
theorem sndz_s0 {z : ZZ} {pl : Int32} {s w : Nat} (hw : w < 33) (h1 : w ≠ 1) : ∀ n, sz (sndz z pl n) s w = sz z s w
  | 0 => rfl
  | n + 1 => by
    unfold sndz cif
    split
    · rw [sz_ss (by decide) hw, if_neg (by omega)]; exact sndz_s0 hw h1 n
    · exact sndz_s0 hw h1 n
/-- behind it no session is at the place -/
theorem sndz_home {z : ZZ} {pl : Int32} (hp : ¬ nI 9 = pl) {s : Nat} : ∀ n, s < n → sz (sndz z pl n) s 0 = 1 → ¬ sz (sndz z pl n) s 1 = pl
  | 0, h => absurd h (Nat.not_lt_zero _)
  | n + 1, h => by
    unfold sndz
    by_cases hc : sz (sndz z pl n) n 0 = 1 ∧ sz (sndz z pl n) n 1 = pl
    · rw [cif_pos hc, sz_ss (by decide) (by decide), sz_ss (by decide) (by decide), if_neg (by omega)]
      by_cases e : s = n
      · rw [if_pos ⟨e, rfl⟩]; exact fun _ => hp
      · rw [if_neg (by omega)]; exact sndz_home hp n (by omega)
    · rw [cif_neg hc]
      by_cases e : s = n
      · subst e; exact fun h0 h1 => hc ⟨h0, h1⟩
      · exact sndz_home hp n (by omega)
theorem GoodC.drop {z : ZZ} {c r : Nat} (h : GoodC z c) (hr : r < 5) : GoodC (rs (Jvm.Pilot.@@N@@.sndz z (nI r) 8) r 0 (nI 0)) c := by
  have hs := h.sndz (pl := nI r) 8 (Nat.le_refl 8)
  have hh := fun s (hs : s < 8) => sndz_home (z := z) (pl := nI r) (xI_ne (by decide) (by omega) (by omega)) (s := s) 8 hs
  generalize Jvm.Pilot.@@N@@.sndz z (nI r) 8 = y at hs hh ⊢
  obtain ⟨⟨i1, i2, i3, i4⟩, x1, x2, x3⟩ := hs
  refine ⟨⟨i1, by rw [hz_rs (by decide)]; exact i2, fun r' hr' => ?_, fun s hs => ?_⟩, fun j hj => ?_, fun s hs => ?_, ?_⟩
  · rw [rz_rs (by decide) (by decide)]
    by_cases e : r' = r ∧ 0 = 0
    · rw [if_pos e]; exact ⟨Or.inl rfl, fun q => absurd q (by decide)⟩
    · rw [if_neg e]
      refine ⟨(i3 r' hr').1, fun ho => ?_⟩
      rw [rz_rs (by decide) (by decide), rz_rs (by decide) (by decide), rz_rs (by decide) (by decide), if_neg (by omega), if_neg (by omega), if_neg (by omega)]
      exact (i3 r' hr').2 ho
  · simp only [sz_rs hr (show 0 < 5 by decide)]
    refine ⟨(i4 s hs).1, fun ho => ?_⟩
    obtain ⟨b1, b2⟩ := (i4 s hs).2 ho
    refine ⟨?_, b2⟩
    rcases b1 with e | ⟨q, hq, e, h1⟩
    · exact Or.inl e
    · refine Or.inr ⟨q, hq, e, ?_⟩
      rw [rz_rs (by decide) (by decide), if_neg (fun q2 => hh s hs ho (by rw [e, q2.1]))]
      exact h1
  · rw [wz_rs hr (by decide)]; exact x1 j hj
  · simp only [sz_rs hr (show 0 < 5 by decide)]; exact x2 s hs
  · rw [hz_rs (by decide), hz_rs (by decide), hz_rs (by decide)]; exact x3
theorem GoodC.bgz {z : ZZ} {c r p q : Nat} (h : GoodC z c) (hr : r < 5) (hf : ¬ rz z r 0 = 1) (hp : p ≤ c) (hq : q ≤ 9) : GoodC (bgz z r (nI p) (nI q)) c := by
  obtain ⟨⟨i1, i2, i3, i4⟩, x1, x2, x3⟩ := h
  have eR : ∀ r' w', w' < 5 → rz (Jvm.Pilot.@@N@@.bgz z r (nI p) (nI q)) r' w' = if r' = r then (if w' = 0 then nI 1 else if w' = 1 then nI p else if w' = 2 then nI q else nI 0) else rz z r' w' := fun r' w' hw' => by
    unfold Jvm.Pilot.@@N@@.bgz
    rw [rz_rs (by decide) hw', rz_rs (by decide) hw', rz_rs (by decide) hw', rz_rs (by decide) hw', rz_rs (by decide) hw']
    by_cases e : r' = r
    · have hc : w' = 0 ∨ w' = 1 ∨ w' = 2 ∨ w' = 3 ∨ w' = 4 := by omega
      rcases hc with rfl | rfl | rfl | rfl | rfl <;> simp [e]
    · simp [e]
  have eS : ∀ s w, sz (Jvm.Pilot.@@N@@.bgz z r (nI p) (nI q)) s w = sz z s w := fun s w => by
    unfold Jvm.Pilot.@@N@@.bgz
    rw [sz_rs hr (by decide), sz_rs hr (by decide), sz_rs hr (by decide), sz_rs hr (by decide), sz_rs hr (by decide)]
  have eW : ∀ s w, wz (Jvm.Pilot.@@N@@.bgz z r (nI p) (nI q)) s w = wz z s w := fun s w => by
    unfold Jvm.Pilot.@@N@@.bgz
    rw [wz_rs hr (by decide), wz_rs hr (by decide), wz_rs hr (by decide), wz_rs hr (by decide), wz_rs hr (by decide)]
  have eH : ∀ j, j < 5 → Jvm.Pilot.@@N@@.bgz z r (nI p) (nI q) j = z j := fun j hj => by
    unfold Jvm.Pilot.@@N@@.bgz
    rw [hz_rs hj, hz_rs hj, hz_rs hj, hz_rs hj, hz_rs hj]
  refine ⟨⟨i1, by rw [eH 0 (by decide)]; exact i2, fun r' hr' => ?_, fun s hs => ?_⟩, fun j hj => ?_, fun s hs => ?_, ?_⟩
  · rw [eR r' 0 (by decide), eR r' 1 (by decide), eR r' 2 (by decide), eR r' 3 (by decide)]
    by_cases e : r' = r
    · simp only [if_pos e]
      exact ⟨Or.inr rfl, fun _ => ⟨⟨p, hp, rfl⟩, ⟨q, hq, rfl⟩, Or.inl rfl⟩⟩
    · simp only [if_neg e]; exact i3 r' hr'
  · simp only [eS]
    refine ⟨(i4 s hs).1, fun ho => ?_⟩
    obtain ⟨b1, b2⟩ := (i4 s hs).2 ho
    refine ⟨?_, b2⟩
    rcases b1 with e | ⟨i, hi, e, h1⟩
    · exact Or.inl e
    · refine Or.inr ⟨i, hi, e, ?_⟩
      rw [eR i 0 (by decide), if_neg (fun e2 => hf (by rw [← e2]; exact h1))]
      exact h1
  · rw [eW]; exact x1 j hj
  · simp only [eS]; exact x2 s hs
  · rw [eH 1 (by decide), eH 2 (by decide), eH 3 (by decide)]; exact x3
theorem GoodC.bsz {z : ZZ} {c s : Nat} {hm : Int32} {o b : Nat} (h : GoodC z c) (hs : s < 8) (hh : isP z hm) (ho : o ≤ 15) (hb : b ≤ 20) : GoodC (bsz z s hm (nI o) (nI b)) c := by
  obtain ⟨⟨i1, i2, i3, i4⟩, x1, x2, x3⟩ := h
  have eS : ∀ s' w, w < 33 → sz (Jvm.Pilot.@@N@@.bsz z s hm (nI o) (nI b)) s' w = if s' = s then (if w = 3 then nI b else if w = 2 then nI o else if w = 1 then hm else if w = 0 then nI 1 else nI 0) else sz z s' w := fun s' w hw => by
    unfold Jvm.Pilot.@@N@@.bsz
    rw [sz_ss (by decide) hw, sz_ss (by decide) hw, sz_ss (by decide) hw, sz_ss (by decide) hw, sz_z33 hw]
    by_cases e : s' = s <;> simp [e]
  have eR : ∀ r w, r < 5 → w < 5 → rz (Jvm.Pilot.@@N@@.bsz z s hm (nI o) (nI b)) r w = rz z r w := fun r w hr hw => by
    unfold Jvm.Pilot.@@N@@.bsz
    rw [rz_ss hr hw, rz_ss hr hw, rz_ss hr hw, rz_ss hr hw]
    unfold rz z33
    rw [if_neg (by omega)]
  have eW : ∀ j w, wz (Jvm.Pilot.@@N@@.bsz z s hm (nI o) (nI b)) j w = wz z j w := fun j w => by
    unfold Jvm.Pilot.@@N@@.bsz
    rw [wz_ss hs (by decide), wz_ss hs (by decide), wz_ss hs (by decide), wz_ss hs (by decide)]
    unfold wz z33
    rw [if_neg (by omega)]
  have eH : ∀ j, j < 5 → Jvm.Pilot.@@N@@.bsz z s hm (nI o) (nI b) j = z j := fun j hj => by
    unfold Jvm.Pilot.@@N@@.bsz
    rw [hz_ss hj, hz_ss hj, hz_ss hj, hz_ss hj]
    unfold z33
    rw [if_neg (by omega)]
  refine ⟨⟨i1, by rw [eH 0 (by decide)]; exact i2, fun r hr => ?_, fun s' hs' => ?_⟩, fun j hj => ?_, fun s' hs' => ?_, ?_⟩
  · rw [eR r 0 hr (by decide), eR r 1 hr (by decide), eR r 2 hr (by decide), eR r 3 hr (by decide)]; exact i3 r hr
  · rw [eS s' 0 (by decide), eS s' 1 (by decide), eS s' 3 (by decide), eS s' 4 (by decide), eS s' 5 (by decide)]
    by_cases e : s' = s
    · simp only [if_pos e]
      exact ⟨Or.inr rfl, fun _ => ⟨(isP_congr fun r hr => eR r 0 hr (by decide)).mpr hh, ⟨b, hb, rfl⟩, ⟨0, Nat.zero_le _, rfl⟩, ⟨0, Nat.zero_le _, rfl⟩⟩⟩
    · simp only [if_neg e]
      refine ⟨(i4 s' hs').1, fun ho => ?_⟩
      obtain ⟨b1, b2⟩ := (i4 s' hs').2 ho
      exact ⟨(isP_congr fun r hr => eR r 0 hr (by decide)).mpr b1, b2⟩
  · rw [eW]; exact x1 j hj
  · rw [eS s' 0 (by decide), eS s' 2 (by decide)]
    by_cases e : s' = s
    · simp only [if_pos e]; exact fun _ => ⟨o, ho, rfl⟩
    · simp only [if_neg e]; exact x2 s' hs'
  · rw [eH 1 (by decide), eH 2 (by decide), eH 3 (by decide)]; exact x3
/-- a longer log -/
theorem GoodC.log {z : ZZ} {c : Nat} {a b : Int32} {v : Nat} (h : GoodC z c) (hc : c < 200) (hv : v ≤ 999) : GoodC (upd (wsx (wsx (wsx z c 0 a) c 1 (nI v)) c 2 b) 0 (nI (c + 1))) (c + 1) := by
  obtain ⟨⟨i1, i2, i3, i4⟩, x1, x2, x3⟩ := h
  have eR : ∀ r w, r < 5 → w < 5 → rz (upd (wsx (wsx (wsx z c 0 a) c 1 (nI v)) c 2 b) 0 (nI (c + 1))) r w = rz z r w := fun r w hr hw => by
    rw [rz_h (by decide), rz_ws hr hw, rz_ws hr hw, rz_ws hr hw]
  have eS : ∀ s w, s < 8 → w < 33 → sz (upd (wsx (wsx (wsx z c 0 a) c 1 (nI v)) c 2 b) 0 (nI (c + 1))) s w = sz z s w := fun s w hs hw => by
    rw [sz_h (by decide), sz_ws hs hw, sz_ws hs hw, sz_ws hs hw]
  have eH : ∀ j, j < 5 → 0 < j → upd (wsx (wsx (wsx z c 0 a) c 1 (nI v)) c 2 b) 0 (nI (c + 1)) j = z j := fun j hj h0 => by
    rw [upd_at, if_neg (by omega), hz_ws hj, hz_ws hj, hz_ws hj]
  refine ⟨⟨hc, by rw [upd_at, if_pos rfl], fun r hr => ?_, fun s hs => ?_⟩, fun j hj => ?_, fun s hs => ?_, ?_⟩
  · rw [eR r 0 hr (by decide), eR r 1 hr (by decide), eR r 2 hr (by decide), eR r 3 hr (by decide)]
    refine ⟨(i3 r hr).1, fun ho => ?_⟩
    obtain ⟨⟨p, hp, ep⟩, a2⟩ := (i3 r hr).2 ho
    exact ⟨⟨p, by omega, ep⟩, a2⟩
  · rw [eS s 0 hs (by decide), eS s 1 hs (by decide), eS s 3 hs (by decide), eS s 4 hs (by decide), eS s 5 hs (by decide)]
    refine ⟨(i4 s hs).1, fun ho => ?_⟩
    obtain ⟨b1, b2, ⟨p, hp, ep⟩, ⟨q, hq, eq⟩⟩ := (i4 s hs).2 ho
    exact ⟨(isP_congr fun r hr => eR r 0 hr (by decide)).mpr b1, b2, ⟨p, by omega, ep⟩, ⟨q, by omega, eq⟩⟩
  · rw [wz_h (by decide), wz_ws (by decide) (by decide), wz_ws (by decide) (by decide), wz_ws (by decide) (by decide), if_neg (by omega)]
    by_cases e : j = c
    · rw [if_pos ⟨e, rfl⟩]; exact ⟨v, hv, rfl⟩
    · rw [if_neg (by omega), if_neg (by omega)]; exact x1 j (by omega)
  · rw [eS s 0 hs (by decide), eS s 2 hs (by decide)]; exact x2 s hs
  · rw [eH 1 (by decide) (by decide), eH 2 (by decide) (by decide), eH 3 (by decide) (by decide)]; exact x3
/-! ===== each call keeps it; its answer is no error where the model says so ===== -/
theorem ffr_free {f : Nat → Int32} : ∀ n i, ffr f n i < i + n → ¬ f (ffr f n i) = 1
  | 0, i, h => by simp only [ffr] at h; omega
  | n + 1, i, h => by
    rw [ffr] at h ⊢
    by_cases hc : f i = 1
    · rw [if_pos hc] at h ⊢; exact ffr_free n (i + 1) (by omega)
    · rw [if_neg hc]; exact hc
theorem inI {x : Int32} {a b : Nat} (hb : b < 2 ^ 31) (h : nI a ≤ x ∧ x ≤ nI b) (ha : a < 2 ^ 31) : ∃ n, a ≤ n ∧ n ≤ b ∧ x = nI n := by
  obtain ⟨n, hn, rfl⟩ := xI_le_of (x := x) (N := b) (Int32.le_trans (nI_le (Nat.zero_le a) ha) h.1) h.2 hb
  exact ⟨n, xI_leD ha (by omega) h.1, hn, rfl⟩
theorem Good.add {z : ZZ} {rate like : Int32} (h : Good z) : Good (fAdd z rate like).2 := by
  obtain ⟨c, h⟩ := h
  refine ⟨c, ?_⟩
  unfold fAdd
  by_cases h1 : like = -6 ∨ isP z like
  · rw [cif_pos h1]
    by_cases h2 : nI 0 ≤ rate ∧ rate ≤ nI 9
    · rw [cif_pos h2]
      show GoodC (cif _ _ _) c
      by_cases h3 : ffr (fun r => rz z r 0) 5 0 < 5
      · rw [cif_pos h3]
        obtain ⟨q, -, hq, rfl⟩ := inI (by decide) h2 (by decide)
        have hp : ∃ p, p ≤ c ∧ cif (like = -6) (nI 0) (posg z like) = nI p := by
          by_cases e : like = -6
          · rw [cif_pos e]; exact ⟨0, Nat.zero_le _, rfl⟩
          · rw [cif_neg e]; exact posg_lt h.1 (h1.resolve_left e)
        obtain ⟨p, hp, ep⟩ := hp
        rw [ep]
        exact h.bgz h3 (ffr_free 5 0 (by omega)) hp hq
      · rw [cif_neg h3]; exact h
    · rw [cif_neg h2]; exact h
  · rw [cif_neg h1]; exact h
theorem Good.drp {z : ZZ} {r : Int32} (h : Good z) : Good (fDrop z r).2 := by
  obtain ⟨c, h⟩ := h
  refine ⟨c, ?_⟩
  unfold fDrop
  by_cases h1 : isR z r
  · rw [cif_pos h1]
    obtain ⟨i, hi, rfl, -⟩ := h1
    rw [nt_nI (by omega)]
    exact h.drop hi
  · rw [cif_neg h1]; exact h
theorem Good.rat {z : ZZ} {r v : Int32} (h : Good z) : Good (fRate z r v).2 := by
  obtain ⟨c, h⟩ := h
  refine ⟨c, ?_⟩
  unfold fRate
  by_cases h1 : isR z r
  · rw [cif_pos h1]
    by_cases h2 : nI 0 ≤ v ∧ v ≤ nI 9
    · rw [cif_pos h2]
      obtain ⟨i, hi, rfl, -⟩ := h1
      obtain ⟨q, -, hq, rfl⟩ := inI (by decide) h2 (by decide)
      rw [nt_nI (by omega)]
      exact h.rep hi (by decide) (by decide) (fun e => by omega) (fun _ => ⟨q, hq, rfl⟩) (fun e => by omega)
    · rw [cif_neg h2]; exact h
  · rw [cif_neg h1]; exact h
theorem Good.stp {z : ZZ} {r v : Int32} (hv : v = 0 ∨ v = 1) (h : Good z) : Good (fStop z r v).2 := by
  obtain ⟨c, h⟩ := h
  refine ⟨c, ?_⟩
  unfold fStop
  by_cases h1 : isR z r
  · rw [cif_pos h1]
    obtain ⟨i, hi, rfl, -⟩ := h1
    rw [nt_nI (by omega)]
    exact h.rep hi (by decide) (by decide) (fun e => by omega) (fun e => by omega) (fun _ => hv)
  · rw [cif_neg h1]; exact h
theorem Good.jmp {z : ZZ} {r v : Int32} (h : Good z) : Good (fJump z r v).2 := by
  obtain ⟨c, h⟩ := h
  refine ⟨c, ?_⟩
  unfold fJump
  by_cases h1 : isR z r
  · rw [cif_pos h1]
    obtain ⟨i, hi, rfl, ho⟩ := h1
    rw [nt_nI (by omega)]
    by_cases h2 : nI 0 ≤ v ∧ v ≤ rz z i 1
    · rw [cif_pos h2]
      obtain ⟨p, q, hp, -, ep, -⟩ := h.1.reps hi ho
      have hc := h.1.1
      rw [ep] at h2
      obtain ⟨n, -, hn, rfl⟩ := inI (by omega) h2 (by decide)
      exact h.rep hi (by decide) (by decide) (fun _ => ⟨n, by omega, rfl⟩) (fun e => by omega) (fun e => by omega)
    · rw [cif_neg h2]; exact h
  · rw [cif_neg h1]; exact h
theorem Good.tic {z : ZZ} {t : Int32} (h : Good z) : Good (fTick z t).2 := by
  obtain ⟨c, h⟩ := h
  refine ⟨c, ?_⟩
  unfold fTick
  by_cases h2 : nI 1 ≤ t ∧ t ≤ nI 99
  · rw [cif_pos h2]
    obtain ⟨n, -, hn, rfl⟩ := inI (by decide) h2 (by decide)
    exact h.tck hn
  · rw [cif_neg h2]; exact h
theorem Good.opn {z : ZZ} {hm o b : Int32} (h : Good z) : Good (fOpen z hm o b).2 := by
  obtain ⟨c, h⟩ := h
  refine ⟨c, ?_⟩
  unfold fOpen
  by_cases h1 : isP z hm
  · rw [cif_pos h1]
    by_cases h2 : (nI 0 ≤ o ∧ o ≤ nI 15) ∧ (nI 0 ≤ b ∧ b ≤ nI 20)
    · rw [cif_pos h2]
      show GoodC (cif _ _ _) c
      by_cases h3 : ffr (fun s => sz z s 0) 8 0 < 8
      · rw [cif_pos h3]
        obtain ⟨n, -, hn, rfl⟩ := inI (by decide) h2.1 (by decide)
        obtain ⟨n2, -, hn2, rfl⟩ := inI (by decide) h2.2 (by decide)
        exact h.bsz h3 h1 hn hn2
      · rw [cif_neg h3]; exact h
    · rw [cif_neg h2]; exact h
  · rw [cif_neg h1]; exact h
theorem Good.cls {z : ZZ} {s : Int32} (h : Good z) : Good (fClose z s).2 := by
  obtain ⟨c, h⟩ := h
  refine ⟨c, ?_⟩
  unfold fClose
  by_cases h1 : isS z s
  · rw [cif_pos h1]
    obtain ⟨i, hi, rfl, -⟩ := h1
    rw [nt_nI (by omega)]
    exact h.ses hi (by decide) (fun _ => rfl) (fun e => by omega) (fun e => by omega) (fun e => by omega) (fun e => by omega) (fun e => by omega)
  · rw [cif_neg h1]; exact h
theorem Good.mov {z : ZZ} {s hm : Int32} (h : Good z) : Good (fMove z s hm).2 := by
  obtain ⟨c, h⟩ := h
  refine ⟨c, ?_⟩
  unfold fMove
  by_cases h1 : isS z s ∧ isP z hm
  · rw [cif_pos h1]
    obtain ⟨⟨i, hi, rfl, -⟩, hp⟩ := h1
    rw [nt_nI (by omega)]
    exact h.ses hi (by decide) (fun e => by omega) (fun _ => hp) (fun e => by omega) (fun e => by omega) (fun e => by omega) (fun e => by omega)
  · rw [cif_neg h1]; exact h
theorem Good.chg {z : ZZ} {s o b : Int32} (h : Good z) : Good (fChange z s o b).2 := by
  obtain ⟨c, h⟩ := h
  refine ⟨c, ?_⟩
  unfold fChange
  by_cases h1 : isS z s
  · rw [cif_pos h1]
    by_cases h2 : (nI 0 ≤ o ∧ o ≤ nI 15) ∧ (nI 0 ≤ b ∧ b ≤ nI 20)
    · rw [cif_pos h2]
      obtain ⟨i, hi, rfl, -⟩ := h1
      obtain ⟨n, -, hn, rfl⟩ := inI (by decide) h2.1 (by decide)
      obtain ⟨n2, -, hn2, rfl⟩ := inI (by decide) h2.2 (by decide)
      rw [nt_nI (by omega)]
      exact (h.ses hi (by decide) (fun e => by omega) (fun e => by omega) (fun _ => ⟨n, hn, rfl⟩) (fun e => by omega) (fun e => by omega) (fun e => by omega)).ses hi (by decide) (fun e => by omega) (fun e => by omega) (fun e => by omega) (fun _ => ⟨n2, hn2, rfl⟩) (fun e => by omega) (fun e => by omega)
    · rw [cif_neg h2]; exact h
  · rw [cif_neg h1]; exact h
theorem hndz_nat {z : ZZ} {c i j : Nat} (h : GoodC z c) (hi : i < 8) (hj : j < 8) (ho : sz z i 0 = 1) (ho2 : sz z j 0 = 1) : ∃ q, q ≤ c ∧ hndz z i j = nI q := by
  obtain ⟨a, b, ha, hb, ea, eb⟩ := h.1.marks hi ho
  obtain ⟨a2, b2, ha2, hb2, ea2, eb2⟩ := h.1.marks hj ho2
  have hc := h.1.1
  unfold hndz
  rw [ea, eb, eb2, maxI_nI (by omega) (by omega), maxI_nI (by omega) (by omega)]
  exact ⟨_, by omega, rfl⟩
theorem Good.hnd {z : ZZ} {s o : Int32} (h : Good z) : Good (fHand z s o).2 := by
  obtain ⟨c, h⟩ := h
  refine ⟨c, ?_⟩
  unfold fHand
  by_cases h1 : isS z s ∧ isS z o
  · rw [cif_pos h1]
    by_cases h2 : s = o
    · rw [cif_pos h2]; exact h
    · rw [cif_neg h2]
      obtain ⟨⟨i, hi, rfl, hoi⟩, ⟨j, hj, rfl, hoj⟩⟩ := h1
      rw [nt_nI (by omega), nt_nI (by omega)]
      exact h.ses hj (by decide) (fun e => by omega) (fun e => by omega) (fun e => by omega) (fun e => by omega) (fun e => by omega) (fun _ => hndz_nat h hi hj hoi hoj)
  · rw [cif_neg h1]; exact h
theorem Good.wri {z : ZZ} {s k v : Int32} (h : Good z) : Good (fWrite z s k v).2 := by
  obtain ⟨c, h⟩ := h
  unfold fWrite
  by_cases h1 : isS z s ∧ isK k
  · rw [cif_pos h1]
    by_cases h2 : nI 0 ≤ v ∧ v ≤ nI 999
    · rw [cif_pos h2]
      have hc := h.1.1
      have hcn := h.1.2.1
      by_cases h3 : z 0 = nI 200
      · rw [cif_pos h3]; exact ⟨c, h⟩
      · rw [cif_neg h3]
        obtain ⟨⟨i, hi, rfl, -⟩, hk⟩ := h1
        obtain ⟨q, hq, rfl⟩ := isK_nat hk
        obtain ⟨n, -, hn, rfl⟩ := inI (by decide) h2 (by decide)
        rw [hcn, nt_nI (by omega), nt_nI (by omega), nt_nI (by omega)]
        have hc2 : c < 200 := by
          rcases Nat.lt_or_ge c 200 with e | e
          · exact e
          · exact absurd (by rw [hcn]; congr 1; omega) h3
        refine ⟨c + 1, ?_⟩
        unfold wrz
        exact ((h.log hc2 hn).ses hi (by decide) (fun e => by omega) (fun e => by omega) (fun e => by omega) (fun e => by omega) (fun _ => ⟨c + 1, Nat.le_refl _, rfl⟩) (fun e => by omega)).sesF hi (by omega) (by omega)
    · rw [cif_neg h2]; exact ⟨c, h⟩
  · rw [cif_neg h1]; exact ⟨c, h⟩
theorem GoodC.nrz {z : ZZ} {c s q p : Nat} {v : Int32} (h : GoodC z c) (hs : s < 8) (ho : sz z s 0 = 1) (hq : q < 12) (hp : p ≤ c) : GoodC (nrz z s q v (nI p)) c := by
  obtain ⟨a, b, ha, hb, ea, eb⟩ := h.1.marks hs ho
  have hc := h.1.1
  unfold Jvm.Pilot.@@N@@.nrz
  refine ((((h.sesF hs (by decide) (by decide)).sesF hs (by decide) (by decide)).sesF hs (by decide) (by decide)).sesF hs (by omega) (by omega)).ses hs (by decide) (fun e => by omega) (fun e => by omega) (fun e => by omega) (fun e => by omega) (fun e => by omega) (fun _ => ?_)
  rw [eb, maxI_nI (by omega) (by omega)]
  exact ⟨_, by omega, rfl⟩
theorem GoodC.canz {z : ZZ} {c : Nat} {n : Int32} (h : GoodC z c) : GoodC (canz z n) c := by
  unfold Jvm.Pilot.@@N@@.canz
  by_cases e : isR z n
  · rw [cif_pos e]
    exact h.rep (isR_nt e) (by decide) (by decide) (fun e => by omega) (fun e => by omega) (fun e => by omega)
  · rw [cif_neg e]; exact h.h4
theorem GoodC.ans {z : ZZ} {c s q p : Nat} {t : Int32} (h : GoodC z c) (hs : s < 8) (ho : sz z s 0 = 1) (hq : q < 12) (hp : isPn z p) : GoodC (ansz z s q p t) c := by
  obtain ⟨n, hn, en⟩ := posz_nat h.1 hp
  have hpl : p < 10 := by rcases hp with h | h <;> omega
  unfold ansz
  rw [en]
  exact ((h.nrz hs ho hq hn).canz).lat (nI_neN (by omega) (by decide))
theorem valz_ok {z : ZZ} {c v : Nat} (h : GoodC z c) (hv : v ≤ c) : ¬ isEr (valz z v) := by
  unfold valz
  by_cases e : v = 0
  · rw [if_pos e]; exact isEr_6
  · rw [if_neg e]
    obtain ⟨w, hw, ew⟩ := h.2.1 (v - 1) (by omega)
    rw [ew]
    exact isEr_nI (by omega)
theorem anp_ok {z : ZZ} {c s q p : Nat} {t : Int32} (h : GoodC z c) (hp : isPn z p) : ¬ isEr (anp z s q p t).1 := by
  obtain ⟨n, hn, en⟩ := posz_nat h.1 hp
  have hc := h.1.1
  refine valz_ok h ?_
  unfold ansv
  rw [en, nt_nI (by omega)]
  exact Nat.le_trans (lastw_le _ _ _) hn
theorem isPn_tck {z : ZZ} {t : Int32} {p : Nat} (h : isPn z p) : isPn (tck z t 5) p := by
  rcases h with h | ⟨h1, h2⟩
  · exact Or.inl h
  · exact Or.inr ⟨h1, by rw [tck_rz1 (by decide) (by decide)]; exact h2⟩
/-- a read from home: what holds where it is answered -/
theorem rdz_ok {z : ZZ} {c i q : Nat} (h : GoodC z c) (hi : i < 8) (ho : sz z i 0 = 1) (hq : q < 12) : (GoodC (rdz z i q).2 c) ∧ ((¬ waitg z i (nI q) (sz z i 1) = -6 ∧ waitg z i (nI q) (sz z i 1) ≤ sz z i 3) ∨ hasz z i (nI 8) → ¬ isEr (rdz z i q).1) := by
  obtain ⟨p, b, ep, hp, hpl, hb, eb⟩ := h.1.home hi ho
  unfold rdz
  by_cases h1 : ¬ waitg z i (nI q) (sz z i 1) = -6 ∧ waitg z i (nI q) (sz z i 1) ≤ sz z i 3
  · rw [cif_pos h1]
    obtain ⟨w, hw, ew⟩ := (waitg_nat (key := nI q) (n := sz z i 1) h.1 hi ho).resolve_left h1.1
    have hwb : w ≤ b := by
      have h2 := h1.2
      rw [ew, eb] at h2
      exact xI_leD hw (by omega) h2
    rw [ew, ep, nt_nI (by omega)]
    have h2 := h.tck (t := w) (by omega)
    have ho2 : sz (tck z (nI w) 5) i 0 = 1 := by rw [tck_sz 5 (Nat.le_refl 5)]; exact ho
    exact ⟨h2.ans hi ho2 hq (isPn_tck hp), fun _ => anp_ok h2 (isPn_tck hp)⟩
  · rw [cif_neg h1]
    by_cases h2 : hasz z i (nI 8)
    · rw [cif_pos h2]
      exact ⟨h.ans hi ho hq (Or.inl rfl), fun _ => anp_ok h (Or.inl rfl)⟩
    · rw [cif_neg h2]
      exact ⟨h, fun q => (q.elim h1 h2).elim⟩
theorem Good.rea {z : ZZ} {s k : Int32} (h : Good z) : Good (fRead z s k).2 := by
  obtain ⟨c, h⟩ := h
  refine ⟨c, ?_⟩
  unfold fRead
  by_cases h1 : isS z s ∧ isK k
  · rw [cif_pos h1]
    obtain ⟨⟨i, hi, rfl, ho⟩, hk⟩ := h1
    obtain ⟨q, hq, rfl⟩ := isK_nat hk
    rw [nt_nI (by omega), nt_nI (by omega)]
    exact (rdz_ok h hi ho hq).1
  · rw [cif_neg h1]; exact h
theorem Good.rdA {z : ZZ} {s k pl : Int32} (h : Good z) : Good (fReadAt z s k pl).2 := by
  obtain ⟨c, h⟩ := h
  refine ⟨c, ?_⟩
  unfold fReadAt
  by_cases h1 : isS z s ∧ isK k ∧ isP z pl
  · rw [cif_pos h1]
    obtain ⟨⟨i, hi, rfl, ho⟩, hk, hp⟩ := h1
    obtain ⟨q, hq, rfl⟩ := isK_nat hk
    obtain ⟨p, rfl, hp2⟩ := isP_nat hp
    have hpl : p < 10 := by rcases hp2 with h | h <;> omega
    rw [nt_nI (by omega), nt_nI (by omega), nt_nI (by omega)]
    by_cases h2 : waitg z i (nI q) (nI p) = 0
    · rw [cif_pos h2]; exact h.ans hi ho hq hp2
    · rw [cif_neg h2]; exact h
  · rw [cif_neg h1]; exact h
