/-! ===== the law's arms, on ===== -/
set_option maxRecDepth 100000 in
set_option maxHeartbeats 4000000 in
theorem lw_drop {E : EV} {X : CX} {mem : MEM} {z : ZZ} {c : Nat} (hZ : LZ mem z c) (hI : GoodC z c) {zrep : Nat} (hzrep : zrep < 5) {y0 y1 y2 y3 y5 y6 y7 y8 y9 y10 y11 y12 y13 y16 : VV} (ka : ∀ m, LZ m (sndz z (nI zrep) 4) c → FrM mem m → G E X 19 711 [y0, y1, y2, y3, rv (19, 0, 0), y5, y6, y7, y8, y9, y10, y11, y12, y13, iv (nI zrep), iv (nI 1), y16, iv (nI (homz z (nI zrep) 4)), iv (nI 4)] [] m) (C : CK E X RL cL_law 19 (some .boolean) 9) : ∀ (lpn : Nat) (k w : Nat) (m : MEM), 4 - k < lpn → (k ≤ 4) → (w = homz z (nI zrep) k) → (LZ m (sndz z (nI zrep) k) c) → (FrM mem m) → G E X 19 649 [y0, y1, y2, y3, rv (19, 0, 0), y5, y6, y7, y8, y9, y10, y11, y12, y13, iv (nI zrep), iv (nI 1), y16, iv (nI w), iv (nI k)] [] m := by
  intro lpn
  induction lpn with
  | zero => intro k w m hlpn; exact absurd hlpn (Nat.not_lt_zero _)
  | succ lpn ih =>
    intro k w m hlpn hk hw hm hF
    have hwl := homz_le z (nI zrep) k
    have hg : GoodC (sndz z (nI zrep) k) c := hI.sndz k (by omega)
    have hcnd : k < 4 → (m (19, 0, 0) k = nI zrep ↔ (sz z k 0 = 1 ∧ sz z k 1 = nI zrep)) := fun hk4 => by
      have e0 := sndz_sz (z := z) (pl := nI zrep) (w := 0) (s := k) (by decide) k (Nat.le_refl _)
      have e1 := sndz_sz (z := z) (pl := nI zrep) (w := 1) (s := k) (by decide) k (Nat.le_refl _)
      rw [← e0, ← e1]
      constructor
      · intro r
        have h2 := (hm.s_ge hg.1 hk4).mp (by rw [r]; exact xI_ge0 zrep (by omega))
        exact ⟨h2, by rw [← hm.s_home hk4 h2]; exact r⟩
      · rintro ⟨r1, r2⟩
        rw [hm.s_home hk4 r1]; exact r2
    refine e_iload C dL_law_649 rfl ?_
    refine e_iconst (v := nI 4) C dL_law_651 (by decide) ?_
    refine e_icmp_ge (tgt := 711) C dL_law_652 (by decide) (fun h_652 => ?_) (fun h_652 => ?_)
    · skip
      have nh_652 := xI_leD (by omega) (by omega) h_652
      obtain rfl : k = 4 := by omega
      rw [hw]
      exact ka m hm hF
    · skip
      have nh_652 := xI_nleD (by omega) (by omega) h_652
      refine e_iload C dL_law_655 rfl ?_
      refine e_if_eq (tgt := 711) C dL_law_657 (by decide) (fun h_657 => ?_) (fun h_657 => ?_)
      · skip
        exact absurd h_657 (by decide)
      · skip
        have nh_657 := xI_neD (a := 1) (b := 0) h_657
        refine e_iload C dL_law_660 rfl ?_
        refine e_aload C dL_law_662 rfl ?_
        refine e_iload C dL_law_664 rfl ?_
        refine f_iald C rfl v19 (by omega) (by decide) dL_law_666 ?_
        refine e_iload C dL_law_667 rfl ?_
        refine e_cutn2 (tgt := 677) (P := fun x => (x = 1 ∧ (sz z k 0 = 1 ∧ sz z k 1 = nI zrep)) ∨ (x = 0 ∧ ¬ (sz z k 0 = 1 ∧ sz z k 1 = nI zrep))) ?_ ?_
        · intro x_669 hx_669
          refine f_iaddn C dL_law_677 ?_
          refine f_istore (ls1 := [_, _, _, _, _, _, _, _, _, _, _, _, _, _, _, _, _, _, _]) C dL_law_678 (by decide) rfl ?_
          refine e_aload C dL_law_680 rfl ?_
          refine e_iload C dL_law_682 rfl ?_
          refine e_aload C dL_law_684 rfl ?_
          refine e_iload C dL_law_686 rfl ?_
          refine f_iald C rfl v19 (by omega) (by decide) dL_law_688 ?_
          refine e_iload C dL_law_689 rfl ?_
          refine e_cuti2 (tgt := 704) (P := fun x => x = cif (sz z k 0 = 1 ∧ sz z k 1 = nI zrep) (nI 9) (m (19, 0, 0) k)) ?_ ?_
          · intro x_691 hx_691
            refine f_iast C rfl v19 (by omega) (by decide) dL_law_704 ?_
            refine f_iincn (ls1 := [_, _, _, _, _, _, _, _, _, _, _, _, _, _, _, _, _, _, _]) C dL_law_705 rfl (by decide) rfl ?_
            refine e_goto (tgt := 649) C dL_law_708 (by decide) ?_
            refine ih (k + 1) _ _ (by omega) (by omega) ?_ ?_ (hF.law (by decide))
            · rw [homz, hw]
              rcases hx_669 with ⟨r1, r2⟩ | ⟨r1, r2⟩
              · rw [cif_pos r2, r1]
              · rw [cif_neg r2, r1]
            · rw [hx_691, sndz, sndz_sz (by decide) k (Nat.le_refl _), sndz_sz (by decide) k (Nat.le_refl _)]
              by_cases r : (sz z k 0 = 1 ∧ sz z k 1 = nI zrep)
              · rw [cif_pos r, cif_pos r]
                exact hm.ss0 (by omega) (by rw [sndz_sz (by decide) k (Nat.le_refl _)]; exact r.1)
              · rw [cif_neg r, cif_neg r, up_same]
                exact hm
          · intro kc_691
            refine e_icmp_ne (tgt := 699) C dL_law_691 (by decide) (fun h_691 => ?_) (fun h_691 => ?_)
            · skip
              refine e_aload C dL_law_699 rfl ?_
              refine e_iload C dL_law_701 rfl ?_
              refine f_iald C rfl v19 (by omega) (by decide) dL_law_703 ?_
              exact kc_691 _ (cif_neg (fun r => h_691 ((hcnd (by omega)).mpr r))).symm
            · skip
              refine e_bipush (v := nI 9) C dL_law_694 (by decide) ?_
              refine e_goto (tgt := 704) C dL_law_696 (by decide) ?_
              exact kc_691 _ (cif_pos ((hcnd (by omega)).mp h_691)).symm
        · intro kc_669
          refine e_icmp_ne (tgt := 676) C dL_law_669 (by decide) (fun h_669 => ?_) (fun h_669 => ?_)
          · skip
            refine e_iconst (v := nI 0) C dL_law_676 (by decide) ?_
            exact kc_669 _ (Or.inr ⟨rfl, fun r => h_669 ((hcnd (by omega)).mpr r)⟩)
          · skip
            refine e_iconst (v := nI 1) C dL_law_672 (by decide) ?_
            refine e_goto (tgt := 677) C dL_law_673 (by decide) ?_
            exact kc_669 _ (Or.inl ⟨rfl, (hcnd (by omega)).mp h_669⟩)
set_option maxRecDepth 100000 in
set_option maxHeartbeats 4000000 in
theorem la_drop1 {E : EV} {X : CX} (C : CK E X RL cL_law 19 (some .boolean) 9) {e : Nat} {h : Int32} {kd n q p : Nat} (hn : n < 4) (hq : q < 12) (hp : p = 9 ∨ p < 5) {mem : MEM} {a : AS} {c : Nat} (hC : RC mem a) (hZ : LZ mem a.1 c) (hI : GoodC a.1 c) {zrep : Nat} (hzrep : zrep < 5) (hth : rz a.1 zrep 0 = 1) {x16 x17 x18 : VV} (kk : ∀ (m : MEM) (a : AS) (c : Nat) (x14 x15 x16 x17 x18 : VV), RC m a → LZ m a.1 c → Good a.1 → G E X 19 1869 [rv (99, 0, 0), rv (0, 0, 0), rv (17, 0, 0), rv (18, 0, 0), rv (19, 0, 0), rv (20, 0, 0), rv (21, 0, 0), iv (nI e), iv h, iv (nI kd), iv (nI n), iv (nI q), iv (nI p), iv (nI 1), x14, x15, x16, x17, x18] [] m) : G E X 19 643 [rv (99, 0, 0), rv (0, 0, 0), rv (17, 0, 0), rv (18, 0, 0), rv (19, 0, 0), rv (20, 0, 0), rv (21, 0, 0), iv (nI e), iv h, iv (nI kd), iv (nI n), iv (nI q), iv (nI p), iv (nI 1), iv (nI zrep), iv (nI 1), x16, x17, x18] [] mem := by
  have hc60 := hZ.c60
  refine e_iconst (v := nI 0) C dL_law_643 (by decide) ?_
  refine f_istore (ls1 := [_, _, _, _, _, _, _, _, _, _, _, _, _, _, _, _, _, _, _]) C dL_law_644 (by decide) rfl ?_
  refine e_iconst (v := nI 0) C dL_law_646 (by decide) ?_
  refine f_istore (ls1 := [_, _, _, _, _, _, _, _, _, _, _, _, _, _, _, _, _, _, _]) C dL_law_647 (by decide) rfl ?_
  refine lw_drop hZ hI hzrep (fun m1 hm1 hF1m => ?_) C 5 0 0 mem (by omega) (by omega) rfl hZ FrM.rfl'
  refine e_aload_n C dL_law_711 rfl ?_
  refine e_iload C dL_law_712 rfl ?_
  refine f_callVi (As := [_]) (ci := 6) C mi_yX6_drop mv_yX6_drop b_ml_L_112 dL_law_714 rfl (c_X6_drop (hC.frM hF1m) hI.1) (by decide) v0 rfl rfl (Nat.le_of_ble_eq_true rfl) (fun x_714 m_714 hc_714 => ?_)
  obtain ⟨hx_714, hC1, hF1⟩ := hc_714
  have hZ1 := hm1.fr hF1
  rw [hx_714, fDrop_yes hzrep hth, homz_8 hZ]
  refine e_iload C dL_law_717 rfl ?_
  refine e_if_eq (tgt := 727) C dL_law_719 (by decide) (fun h_719 => ?_) (fun h_719 => ?_)
  · skip
    exact absurd h_719 (by decide)
  · skip
    have nh_719 := xI_neD (a := 1) (b := 0) h_719
    refine e_iload C dL_law_722 rfl ?_
    refine e_goto (tgt := 728) C dL_law_724 (by decide) ?_
    refine e_icmp_ne (tgt := 735) C dL_law_728 (by decide) (fun h_728 => ?_) (fun h_728 => ?_)
    · skip
      exact absurd rfl h_728
    · skip
      refine e_iconst (v := nI 1) C dL_law_731 (by decide) ?_
      refine e_goto (tgt := 736) C dL_law_732 (by decide) ?_
      refine f_istore (ls1 := [_, _, _, _, _, _, _, _, _, _, _, _, _, _, _, _, _, _, _]) C dL_law_736 (by decide) rfl ?_
      refine e_aload_n C dL_law_738 rfl ?_
      refine e_iload C dL_law_739 rfl ?_
      refine e_iconst (v := -1) C dL_law_741 (by decide) ?_
      refine f_iast C rfl v18 (by omega) (by decide) dL_law_742 ?_
      refine e_goto (tgt := 870) C dL_law_743 (by decide) ?_
      refine e_goto (tgt := 1869) C dL_law_870 (by decide) ?_
      exact kk _ _ c _ _ _ _ _ (hC1.frM (FrM.rfl'.law (by decide))) (by show LZ _ (fDrop a.1 (nI zrep)).2 c; rw [fDrop_yes hzrep hth]; show LZ _ (rs (sndz a.1 (nI zrep) 8) zrep 0 (nI 0)) c; rw [sndz_8 hZ]; exact hZ1.rdie hzrep) (Good.drp ⟨c, hI⟩)
set_option maxRecDepth 100000 in
set_option maxHeartbeats 4000000 in
theorem la_drop0 {E : EV} {X : CX} (C : CK E X RL cL_law 19 (some .boolean) 9) {e : Nat} {h : Int32} {kd n q p : Nat} (hn : n < 4) (hq : q < 12) (hp : p = 9 ∨ p < 5) {mem : MEM} {a : AS} {c : Nat} (hC : RC mem a) (hZ : LZ mem a.1 c) (hI : GoodC a.1 c) {zrep : Nat} (hzrep : zrep < 5) (hth : ¬ rz a.1 zrep 0 = 1) {x16 x17 x18 : VV} (kk : ∀ (m : MEM) (a : AS) (c : Nat) (x14 x15 x16 x17 x18 : VV), RC m a → LZ m a.1 c → Good a.1 → G E X 19 1869 [rv (99, 0, 0), rv (0, 0, 0), rv (17, 0, 0), rv (18, 0, 0), rv (19, 0, 0), rv (20, 0, 0), rv (21, 0, 0), iv (nI e), iv h, iv (nI kd), iv (nI n), iv (nI q), iv (nI p), iv (nI 1), x14, x15, x16, x17, x18] [] m) : G E X 19 643 [rv (99, 0, 0), rv (0, 0, 0), rv (17, 0, 0), rv (18, 0, 0), rv (19, 0, 0), rv (20, 0, 0), rv (21, 0, 0), iv (nI e), iv h, iv (nI kd), iv (nI n), iv (nI q), iv (nI p), iv (nI 1), iv (nI zrep), iv (nI 0), x16, x17, x18] [] mem := by
  have hc60 := hZ.c60
  refine e_iconst (v := nI 0) C dL_law_643 (by decide) ?_
  refine f_istore (ls1 := [_, _, _, _, _, _, _, _, _, _, _, _, _, _, _, _, _, _, _]) C dL_law_644 (by decide) rfl ?_
  refine e_iconst (v := nI 0) C dL_law_646 (by decide) ?_
  refine f_istore (ls1 := [_, _, _, _, _, _, _, _, _, _, _, _, _, _, _, _, _, _, _]) C dL_law_647 (by decide) rfl ?_
  refine e_iload C dL_law_649 rfl ?_
  refine e_iconst (v := nI 4) C dL_law_651 (by decide) ?_
  refine e_icmp_ge (tgt := 711) C dL_law_652 (by decide) (fun h_652 => ?_) (fun h_652 => ?_)
  · skip
    exact absurd h_652 (by decide)
  · skip
    have nh_652 := xI_nleD (by omega) (by omega) h_652
    refine e_iload C dL_law_655 rfl ?_
    refine e_if_eq (tgt := 711) C dL_law_657 (by decide) (fun h_657 => ?_) (fun h_657 => ?_)
    · skip
      have nh_657 := xI_inj (a := 0) (b := 0) (by omega) (by omega) h_657
      refine e_aload_n C dL_law_711 rfl ?_
      refine e_iload C dL_law_712 rfl ?_
      refine f_callVi (As := [_]) (ci := 6) C mi_yX6_drop mv_yX6_drop b_ml_L_112 dL_law_714 rfl (c_X6_drop hC hI.1) (by decide) v0 rfl rfl (Nat.le_of_ble_eq_true rfl) (fun x_714 m_714 hc_714 => ?_)
      obtain ⟨hx_714, hC1, hF1⟩ := hc_714
      have hZ1 := hZ.fr hF1
      rw [hx_714, fDrop_no hzrep hth]
      refine e_iload C dL_law_717 rfl ?_
      refine e_if_eq (tgt := 727) C dL_law_719 (by decide) (fun h_719 => ?_) (fun h_719 => ?_)
      · skip
        have nh_719 := xI_inj (a := 0) (b := 0) (by omega) (by omega) h_719
        refine e_iconst (v := -1) C dL_law_727 (by decide) ?_
        refine e_icmp_ne (tgt := 735) C dL_law_728 (by decide) (fun h_728 => ?_) (fun h_728 => ?_)
        · skip
          exact absurd rfl h_728
        · skip
          refine e_iconst (v := nI 1) C dL_law_731 (by decide) ?_
          refine e_goto (tgt := 736) C dL_law_732 (by decide) ?_
          refine f_istore (ls1 := [_, _, _, _, _, _, _, _, _, _, _, _, _, _, _, _, _, _, _]) C dL_law_736 (by decide) rfl ?_
          refine e_aload_n C dL_law_738 rfl ?_
          refine e_iload C dL_law_739 rfl ?_
          refine e_iconst (v := -1) C dL_law_741 (by decide) ?_
          refine f_iast C rfl v18 (by omega) (by decide) dL_law_742 ?_
          refine e_goto (tgt := 870) C dL_law_743 (by decide) ?_
          refine e_goto (tgt := 1869) C dL_law_870 (by decide) ?_
          exact kk _ _ c _ _ _ _ _ (hC1.frM (FrM.rfl'.law (by decide))) (by show LZ _ (fDrop a.1 (nI zrep)).2 c; rw [fDrop_no hzrep hth]; exact hZ1.rgone hzrep hth) (Good.drp ⟨c, hI⟩)
      · skip
        exact absurd (by decide) h_719
    · skip
      exact absurd (by decide) h_657
set_option maxRecDepth 100000 in
set_option maxHeartbeats 4000000 in
theorem la_rate {E : EV} {X : CX} (C : CK E X RL cL_law 19 (some .boolean) 9) {e : Nat} {h : Int32} {kd n q p : Nat} (hn : n < 4) (hq : q < 12) (hp : p = 9 ∨ p < 5) {mem : MEM} {a : AS} {c : Nat} (hC : RC mem a) (hZ : LZ mem a.1 c) (hI : GoodC a.1 c) {zrep : Nat} (hzrep : zrep < 5) {t : Nat} (ht : (t = 1 ∧ rz a.1 zrep 0 = 1) ∨ (t = 0 ∧ ¬ rz a.1 zrep 0 = 1)) {x16 x17 x18 : VV} (kk : ∀ (m : MEM) (a : AS) (c : Nat) (x14 x15 x16 x17 x18 : VV), RC m a → LZ m a.1 c → Good a.1 → G E X 19 1869 [rv (99, 0, 0), rv (0, 0, 0), rv (17, 0, 0), rv (18, 0, 0), rv (19, 0, 0), rv (20, 0, 0), rv (21, 0, 0), iv (nI e), iv h, iv (nI kd), iv (nI n), iv (nI q), iv (nI p), iv (nI 1), x14, x15, x16, x17, x18] [] m) : G E X 19 752 [rv (99, 0, 0), rv (0, 0, 0), rv (17, 0, 0), rv (18, 0, 0), rv (19, 0, 0), rv (20, 0, 0), rv (21, 0, 0), iv (nI e), iv h, iv (nI kd), iv (nI n), iv (nI q), iv (nI p), iv (nI 1), iv (nI zrep), iv (nI t), x16, x17, x18] [] mem := by
  have hc60 := hZ.c60
  refine e_iload C dL_law_752 rfl ?_
  refine e_bipush (v := nI 20) C dL_law_754 (by decide) ?_
  refine e_ishr C dL_law_756 ?_
  refine e_iconst (v := nI 4) C dL_law_757 (by decide) ?_
  refine f_callSi (As := [_, _]) C mi_yL_low b_st_yL_low b_ml_L_41 dL_law_758 rfl (c_L_low_n (N := 4) (by omega) (by omega)) (by decide) (Nat.le_of_ble_eq_true rfl) (fun x_758 m_758 hc_758 => ?_)
  obtain ⟨⟨zrt, hzrt, hx_758⟩, hm_758⟩ := hc_758
  rw [hx_758, hm_758]
  refine f_istore (ls1 := [_, _, _, _, _, _, _, _, _, _, _, _, _, _, _, _, _, _, _]) C dL_law_761 (by decide) rfl ?_
  refine e_aload_n C dL_law_763 rfl ?_
  refine e_iload C dL_law_764 rfl ?_
  refine e_iload C dL_law_766 rfl ?_
  refine f_callVi (As := [_, _]) (ci := 6) C mi_yX6_setRate mv_yX6_setRate b_ml_L_115 dL_law_768 rfl (c_X6_setRate hC hI.1) (by decide) v0 rfl rfl (Nat.le_of_ble_eq_true rfl) (fun x_768 m_768 hc_768 => ?_)
  obtain ⟨hx_768, hC1, hF1⟩ := hc_768
  have hZ1 := hZ.fr hF1
  refine e_iload C dL_law_771 rfl ?_
  rw [hx_768]
  refine e_cuti1 (tgt := 786) (P := fun x => x = (fRate a.1 (nI zrep) (nI zrt)).1) ?_ ?_
  · intro x_773 hx_773
    rw [hx_773]
    refine e_icmp_ne (tgt := 793) C dL_law_786 (by decide) (fun h_786 => ?_) (fun h_786 => ?_)
    · skip
      exact absurd rfl h_786
    · skip
      refine e_iconst (v := nI 1) C dL_law_789 (by decide) ?_
      refine e_goto (tgt := 794) C dL_law_790 (by decide) ?_
      refine f_istore (ls1 := [_, _, _, _, _, _, _, _, _, _, _, _, _, _, _, _, _, _, _]) C dL_law_794 (by decide) rfl ?_
      refine e_aload_n C dL_law_796 rfl ?_
      refine e_iconst (v := nI 5) C dL_law_797 (by decide) ?_
      refine e_iload C dL_law_798 rfl ?_
      refine f_iaddn C dL_law_800 ?_
      refine e_iload C dL_law_801 rfl ?_
      refine f_iast C rfl v18 (by omega) (by decide) dL_law_803 ?_
      refine e_goto (tgt := 870) C dL_law_804 (by decide) ?_
      refine e_goto (tgt := 1869) C dL_law_870 (by decide) ?_
      refine kk _ _ c _ _ _ _ _ (hC1.frM (FrM.rfl'.law (by decide))) ?_ (Good.rat ⟨c, hI⟩)
      show LZ _ (fRate a.1 (nI zrep) (nI zrt)).2 c
      rcases ht with ⟨-, hth⟩ | ⟨-, hth⟩
      · rw [fRate_yes hzrep hth (by omega)]; exact hZ1.rs' (w := 1) hzrep (by decide) hth
      · rw [fRate_no hzrep hth]; exact hZ1.rnone (w := 1) hzrep (by decide) (by decide) hth
  · intro kc_773
    refine e_if_eq (tgt := 785) C dL_law_773 (by decide) (fun h_773 => ?_) (fun h_773 => ?_)
    · skip
      have nh_773 := xI_inj (a := t) (b := 0) (by omega) (by omega) h_773
      refine e_iconst (v := -1) C dL_law_785 (by decide) ?_
      exact kc_773 _ (by rw [fRate_no hzrep (ht.resolve_left (by omega)).2])
    · skip
      have nh_773 := xI_neD (a := t) (b := 0) h_773
      refine e_aload_n C dL_law_776 rfl ?_
      refine e_iconst (v := nI 5) C dL_law_777 (by decide) ?_
      refine e_iload C dL_law_778 rfl ?_
      refine f_iaddn C dL_law_780 ?_
      refine f_iald C rfl v18 (by omega) (by decide) dL_law_781 ?_
      refine e_goto (tgt := 786) C dL_law_782 (by decide) ?_
      exact kc_773 _ (by rw [fRate_yes hzrep (ht.resolve_right (by omega)).2 (by omega)]; exact hZ1.r_rate hzrep (ht.resolve_right (by omega)).2)
set_option maxRecDepth 100000 in
set_option maxHeartbeats 4000000 in
theorem la_stop {E : EV} {X : CX} (C : CK E X RL cL_law 19 (some .boolean) 9) {e : Nat} {h : Int32} {kd n q p : Nat} (hn : n < 4) (hq : q < 12) (hp : p = 9 ∨ p < 5) {mem : MEM} {a : AS} {c : Nat} (hC : RC mem a) (hZ : LZ mem a.1 c) (hI : GoodC a.1 c) {zrep : Nat} (hzrep : zrep < 5) {t : Nat} (ht : (t = 1 ∧ rz a.1 zrep 0 = 1) ∨ (t = 0 ∧ ¬ rz a.1 zrep 0 = 1)) {x16 x17 x18 : VV} (kk : ∀ (m : MEM) (a : AS) (c : Nat) (x14 x15 x16 x17 x18 : VV), RC m a → LZ m a.1 c → Good a.1 → G E X 19 1869 [rv (99, 0, 0), rv (0, 0, 0), rv (17, 0, 0), rv (18, 0, 0), rv (19, 0, 0), rv (20, 0, 0), rv (21, 0, 0), iv (nI e), iv h, iv (nI kd), iv (nI n), iv (nI q), iv (nI p), iv (nI 1), x14, x15, x16, x17, x18] [] m) : G E X 19 807 [rv (99, 0, 0), rv (0, 0, 0), rv (17, 0, 0), rv (18, 0, 0), rv (19, 0, 0), rv (20, 0, 0), rv (21, 0, 0), iv (nI e), iv h, iv (nI kd), iv (nI n), iv (nI q), iv (nI p), iv (nI 1), iv (nI zrep), iv (nI t), x16, x17, x18] [] mem := by
  have hc60 := hZ.c60
  refine e_iload C dL_law_807 rfl ?_
  refine e_bipush (v := nI 20) C dL_law_809 (by decide) ?_
  refine e_ishr C dL_law_811 ?_
  refine e_iconst (v := nI 2) C dL_law_812 (by decide) ?_
  refine f_callSi (As := [_, _]) C mi_yL_low b_st_yL_low b_ml_L_41 dL_law_813 rfl (c_L_low_n (N := 2) (by omega) (by omega)) (by decide) (Nat.le_of_ble_eq_true rfl) (fun x_813 m_813 hc_813 => ?_)
  obtain ⟨⟨v, hv, hx_813⟩, hm_813⟩ := hc_813
  rw [hx_813, hm_813]
  refine f_istore (ls1 := [_, _, _, _, _, _, _, _, _, _, _, _, _, _, _, _, _, _, _]) C dL_law_816 (by decide) rfl ?_
  refine e_aload_n C dL_law_818 rfl ?_
  refine e_iload C dL_law_819 rfl ?_
  refine e_iload C dL_law_821 rfl ?_
  refine e_iconst (v := nI 1) C dL_law_823 (by decide) ?_
  refine e_cutn2 (tgt := 832) (P := fun x => v = x) ?_ ?_
  · intro x_824 hx_824
    subst hx_824
    refine f_callVi (As := [_, _]) (ci := 6) C mi_yX6_stop mv_yX6_stop b_ml_L_118 dL_law_832 rfl (c_X6_stop hC hI.1 (by have : v = 0 ∨ v = 1 := (by omega); rcases this with rfl | rfl; exact Or.inl rfl; exact Or.inr rfl)) (by decide) v0 rfl rfl (Nat.le_of_ble_eq_true rfl) (fun x_832 m_832 hc_832 => ?_)
    obtain ⟨hx_832, hC1, hF1⟩ := hc_832
    have hZ1 := hZ.fr hF1
    refine e_iload C dL_law_835 rfl ?_
    rw [hx_832]
    refine e_cuti1 (tgt := 851) (P := fun x => x = (fStop a.1 (nI zrep) (nI v)).1) ?_ ?_
    · intro x_837 hx_837
      rw [hx_837]
      refine e_icmp_ne (tgt := 858) C dL_law_851 (by decide) (fun h_851 => ?_) (fun h_851 => ?_)
      · skip
        exact absurd rfl h_851
      · skip
        refine e_iconst (v := nI 1) C dL_law_854 (by decide) ?_
        refine e_goto (tgt := 859) C dL_law_855 (by decide) ?_
        refine f_istore (ls1 := [_, _, _, _, _, _, _, _, _, _, _, _, _, _, _, _, _, _, _]) C dL_law_859 (by decide) rfl ?_
        refine e_aload_n C dL_law_861 rfl ?_
        refine e_bipush (v := nI 10) C dL_law_862 (by decide) ?_
        refine e_iload C dL_law_864 rfl ?_
        refine f_iaddn C dL_law_866 ?_
        refine e_iload C dL_law_867 rfl ?_
        refine f_iast C rfl v18 (by omega) (by decide) dL_law_869 ?_
        refine e_goto (tgt := 1869) C dL_law_870 (by decide) ?_
        refine kk _ _ c _ _ _ _ _ (hC1.frM (FrM.rfl'.law (by decide))) ?_ (Good.stp (by have : v = 0 ∨ v = 1 := (by omega); rcases this with rfl | rfl; exact Or.inl rfl; exact Or.inr rfl) ⟨c, hI⟩)
        show LZ _ (fStop a.1 (nI zrep) (nI v)).2 c
        rcases ht with ⟨-, hth⟩ | ⟨-, hth⟩
        · rw [fStop_yes hzrep hth]; exact hZ1.rs' (w := 2) hzrep (by decide) hth
        · rw [fStop_no hzrep hth]; exact hZ1.rnone (w := 2) hzrep (by decide) (by decide) hth
    · intro kc_837
      refine e_if_eq (tgt := 850) C dL_law_837 (by decide) (fun h_837 => ?_) (fun h_837 => ?_)
      · skip
        have nh_837 := xI_inj (a := t) (b := 0) (by omega) (by omega) h_837
        refine e_iconst (v := -1) C dL_law_850 (by decide) ?_
        exact kc_837 _ (by rw [fStop_no hzrep (ht.resolve_left (by omega)).2])
      · skip
        have nh_837 := xI_neD (a := t) (b := 0) h_837
        refine e_aload_n C dL_law_840 rfl ?_
        refine e_bipush (v := nI 10) C dL_law_841 (by decide) ?_
        refine e_iload C dL_law_843 rfl ?_
        refine f_iaddn C dL_law_845 ?_
        refine f_iald C rfl v18 (by omega) (by decide) dL_law_846 ?_
        refine e_goto (tgt := 851) C dL_law_847 (by decide) ?_
        exact kc_837 _ (by rw [fStop_yes hzrep (ht.resolve_right (by omega)).2]; exact hZ1.r_stop hzrep (ht.resolve_right (by omega)).2)
  · intro kc_824
    refine e_icmp_ne (tgt := 831) C dL_law_824 (by decide) (fun h_824 => ?_) (fun h_824 => ?_)
    · skip
      have nh_824 := xI_neD h_824
      refine e_iconst (v := nI 0) C dL_law_831 (by decide) ?_
      exact kc_824 _ (by omega)
    · skip
      have nh_824 := xI_inj (by omega) (by omega) h_824
      refine e_iconst (v := nI 1) C dL_law_827 (by decide) ?_
      refine e_goto (tgt := 832) C dL_law_828 (by decide) ?_
      exact kc_824 _ (by omega)
set_option maxRecDepth 100000 in
set_option maxHeartbeats 4000000 in
theorem la_k4 {E : EV} {X : CX} (C : CK E X RL cL_law 19 (some .boolean) 9) {e : Nat} {h : Int32} {kd n q p : Nat} (hn : n < 4) (hq : q < 12) (hp : p = 9 ∨ p < 5) {mem : MEM} {a : AS} {c : Nat} (hC : RC mem a) (hZ : LZ mem a.1 c) (hI : GoodC a.1 c) {x14 x15 x16 x17 x18 : VV} (kk : ∀ (m : MEM) (a : AS) (c : Nat) (x14 x15 x16 x17 x18 : VV), RC m a → LZ m a.1 c → Good a.1 → G E X 19 1869 [rv (99, 0, 0), rv (0, 0, 0), rv (17, 0, 0), rv (18, 0, 0), rv (19, 0, 0), rv (20, 0, 0), rv (21, 0, 0), iv (nI e), iv h, iv (nI kd), iv (nI n), iv (nI q), iv (nI p), iv (nI 1), x14, x15, x16, x17, x18] [] m) : G E X 19 601 [rv (99, 0, 0), rv (0, 0, 0), rv (17, 0, 0), rv (18, 0, 0), rv (19, 0, 0), rv (20, 0, 0), rv (21, 0, 0), iv (nI e), iv h, iv (nI kd), iv (nI n), iv (nI q), iv (nI p), iv (nI 1), x14, x15, x16, x17, x18] [] mem := by
  have hc60 := hZ.c60
  refine e_iload C dL_law_601 rfl ?_
  refine e_bipush (v := nI 11) C dL_law_603 (by decide) ?_
  refine e_ishr C dL_law_605 ?_
  refine e_iconst (v := nI 5) C dL_law_606 (by decide) ?_
  refine f_callSi (As := [_, _]) C mi_yL_low b_st_yL_low b_ml_L_41 dL_law_607 rfl (c_L_low_n (N := 5) (by omega) (by omega)) (by decide) (Nat.le_of_ble_eq_true rfl) (fun x_607 m_607 hc_607 => ?_)
  obtain ⟨⟨zrep, hzrep, hx_607⟩, hm_607⟩ := hc_607
  rw [hx_607, hm_607]
  refine f_istore (ls1 := [_, _, _, _, _, _, _, _, _, _, _, _, _, _, _, _, _, _, _]) C dL_law_610 (by decide) rfl ?_
  refine e_aload_n C dL_law_612 rfl ?_
  refine e_iload C dL_law_613 rfl ?_
  refine f_iald C rfl v18 (by omega) (by decide) dL_law_615 ?_
  refine e_cutn1 (tgt := 624) (P := fun x => (x = 1 ∧ rz a.1 zrep 0 = 1) ∨ (x = 0 ∧ ¬ rz a.1 zrep 0 = 1)) ?_ ?_
  · intro x_616 hx_616
    refine f_istore (ls1 := [_, _, _, _, _, _, _, _, _, _, _, _, _, _, _, _, _, _, _]) C dL_law_624 (by decide) rfl ?_
    refine e_iload C dL_law_626 rfl ?_
    refine e_bipush (v := nI 17) C dL_law_628 (by decide) ?_
    refine e_ishr C dL_law_630 ?_
    refine e_bipush (v := nI 6) C dL_law_631 (by decide) ?_
    refine f_callSi (As := [_, _]) C mi_yL_low b_st_yL_low b_ml_L_41 dL_law_633 rfl (c_L_low_n (N := 6) (by omega) (by omega)) (by decide) (Nat.le_of_ble_eq_true rfl) (fun x_633 m_633 hc_633 => ?_)
    obtain ⟨⟨zwh, hzwh, hx_633⟩, hm_633⟩ := hc_633
    rw [hx_633, hm_633]
    refine f_istore (ls1 := [_, _, _, _, _, _, _, _, _, _, _, _, _, _, _, _, _, _, _]) C dL_law_636 (by decide) rfl ?_
    refine e_iload C dL_law_638 rfl ?_
    refine e_if_ne (tgt := 746) C dL_law_640 (by decide) (fun h_640 => ?_) (fun h_640 => ?_)
    · skip
      have nh_640 := xI_neD (a := zwh) (b := 0) h_640
      refine e_iload C dL_law_746 rfl ?_
      refine e_iconst (v := nI 3) C dL_law_748 (by decide) ?_
      refine e_icmp_ge (tgt := 807) C dL_law_749 (by decide) (fun h_749 => ?_) (fun h_749 => ?_)
      · skip
        have nh_749 := xI_leD (by omega) (by omega) h_749
        exact la_stop C hn hq hp hC hZ hI hzrep hx_616 kk
      · skip
        have nh_749 := xI_nleD (by omega) (by omega) h_749
        exact la_rate C hn hq hp hC hZ hI hzrep hx_616 kk
    · skip
      have nh_640 := xI_inj (a := zwh) (b := 0) (by omega) (by omega) h_640
      rcases hx_616 with ⟨rfl, hth⟩ | ⟨rfl, hth⟩
      · exact la_drop1 C hn hq hp hC hZ hI hzrep hth kk
      · exact la_drop0 C hn hq hp hC hZ hI hzrep hth kk
  · intro kc_616
    refine e_if_lt (tgt := 623) C dL_law_616 (by decide) (fun h_616 => ?_) (fun h_616 => ?_)
    · skip
      refine e_iconst (v := nI 0) C dL_law_623 (by decide) ?_
      exact kc_616 _ (Or.inr ⟨rfl, (hZ.r_lt hI.1 hzrep).mp h_616⟩)
    · skip
      refine e_iconst (v := nI 1) C dL_law_619 (by decide) ?_
      refine e_goto (tgt := 624) C dL_law_620 (by decide) ?_
      exact kc_616 _ (Or.inl ⟨rfl, (hZ.r_ge hI.1 hzrep).mp (Int32.not_lt.mp h_616)⟩)
set_option maxRecDepth 100000 in
set_option maxHeartbeats 4000000 in
theorem la_jump {E : EV} {X : CX} (C : CK E X RL cL_law 19 (some .boolean) 9) {e : Nat} {h : Int32} {kd n q p : Nat} (hn : n < 4) (hq : q < 12) (hp : p = 9 ∨ p < 5) {mem : MEM} {a : AS} {c : Nat} (hC : RC mem a) (hZ : LZ mem a.1 c) (hI : GoodC a.1 c) {x14 x15 x16 x17 x18 : VV} (kk : ∀ (m : MEM) (a : AS) (c : Nat) (x14 x15 x16 x17 x18 : VV), RC m a → LZ m a.1 c → Good a.1 → G E X 19 1869 [rv (99, 0, 0), rv (0, 0, 0), rv (17, 0, 0), rv (18, 0, 0), rv (19, 0, 0), rv (20, 0, 0), rv (21, 0, 0), iv (nI e), iv h, iv (nI kd), iv (nI n), iv (nI q), iv (nI p), iv (nI 1), x14, x15, x16, x17, x18] [] m) : G E X 19 879 [rv (99, 0, 0), rv (0, 0, 0), rv (17, 0, 0), rv (18, 0, 0), rv (19, 0, 0), rv (20, 0, 0), rv (21, 0, 0), iv (nI e), iv h, iv (nI kd), iv (nI n), iv (nI q), iv (nI p), iv (nI 1), x14, x15, x16, x17, x18] [] mem := by
  have hc60 := hZ.c60
  refine e_iload C dL_law_879 rfl ?_
  refine e_bipush (v := nI 11) C dL_law_881 (by decide) ?_
  refine e_ishr C dL_law_883 ?_
  refine e_iconst (v := nI 5) C dL_law_884 (by decide) ?_
  refine f_callSi (As := [_, _]) C mi_yL_low b_st_yL_low b_ml_L_41 dL_law_885 rfl (c_L_low_n (N := 5) (by omega) (by omega)) (by decide) (Nat.le_of_ble_eq_true rfl) (fun x_885 m_885 hc_885 => ?_)
  obtain ⟨⟨zrep, hzrep, hx_885⟩, hm_885⟩ := hc_885
  rw [hx_885, hm_885]
  refine f_istore (ls1 := [_, _, _, _, _, _, _, _, _, _, _, _, _, _, _, _, _, _, _]) C dL_law_888 (by decide) rfl ?_
  refine e_aload_n C dL_law_890 rfl ?_
  refine e_iload C dL_law_891 rfl ?_
  refine f_iald C rfl v18 (by omega) (by decide) dL_law_893 ?_
  refine e_cutn1 (tgt := 915) (P := fun x => (rz a.1 zrep 0 = 1 ∧ x ≤ (nt (rz a.1 zrep 1))) ∨ (¬ rz a.1 zrep 0 = 1 ∧ x = 0)) ?_ ?_
  · intro x_894 hx_894
    refine f_istore (ls1 := [_, _, _, _, _, _, _, _, _, _, _, _, _, _, _, _, _, _, _]) C dL_law_915 (by decide) rfl ?_
    refine e_aload_n C dL_law_917 rfl ?_
    refine e_iload C dL_law_918 rfl ?_
    refine e_iload C dL_law_920 rfl ?_
    refine f_callVi (As := [_, _]) (ci := 6) C mi_yX6_jumpBack mv_yX6_jumpBack b_ml_L_122 dL_law_922 rfl (c_X6_jumpBack hC hI.1) (by decide) v0 rfl rfl (Nat.le_of_ble_eq_true rfl) (fun x_922 m_922 hc_922 => ?_)
    obtain ⟨hx_922, hC1, hF1⟩ := hc_922
    have hZ1 := hZ.fr hF1
    refine e_aload_n C dL_law_925 rfl ?_
    refine e_iload C dL_law_926 rfl ?_
    refine f_iald C rfl v18 (by omega) (by decide) dL_law_928 ?_
    rw [hx_922]
    refine e_cuti1 (tgt := 940) (P := fun x => x = (fJump a.1 (nI zrep) (nI x_894)).1) ?_ ?_
    · intro x_929 hx_929
      rw [hx_929]
      refine e_icmp_ne (tgt := 947) C dL_law_940 (by decide) (fun h_940 => ?_) (fun h_940 => ?_)
      · skip
        exact absurd rfl h_940
      · skip
        refine e_iconst (v := nI 1) C dL_law_943 (by decide) ?_
        refine e_goto (tgt := 948) C dL_law_944 (by decide) ?_
        refine f_istore (ls1 := [_, _, _, _, _, _, _, _, _, _, _, _, _, _, _, _, _, _, _]) C dL_law_948 (by decide) rfl ?_
        refine e_aload_n C dL_law_950 rfl ?_
        refine e_iload C dL_law_951 rfl ?_
        refine e_aload_n C dL_law_953 rfl ?_
        refine e_iload C dL_law_954 rfl ?_
        refine f_iald C rfl v18 (by omega) (by decide) dL_law_956 ?_
        refine e_cuti1 (tgt := 966) (P := fun x => x = cif (rz a.1 zrep 0 = 1) (nI x_894) (-1)) ?_ ?_
        · intro x_957 hx_957
          refine f_iast C rfl v18 (by omega) (by decide) dL_law_966 ?_
          refine e_goto (tgt := 1869) C dL_law_967 (by decide) ?_
          refine kk _ _ c _ _ _ _ _ (hC1.frM (FrM.rfl'.law (by decide))) ?_ (Good.jmp ⟨c, hI⟩)
          show LZ _ (fJump a.1 (nI zrep) (nI x_894)).2 c
          by_cases hth : rz a.1 zrep 0 = 1
          · obtain ⟨zpp, zqq, hzpp, -, epp, -, -⟩ := hI.1.reps hzrep hth
            have hx2 := (hx_894.resolve_right (fun r => r.1 hth)).2
            rw [epp, nt_nI (by omega)] at hx2
            rw [fJump_yes hzrep hth epp hx2 (by omega), hx_957, cif_pos hth]
            exact hZ1.rs0 hzrep hth
          · rw [fJump_no hzrep hth, hx_957, cif_neg hth]
            exact hZ1.rgone hzrep hth
        · intro kc_957
          refine e_if_ge (tgt := 964) C dL_law_957 (by decide) (fun h_957 => ?_) (fun h_957 => ?_)
          · skip
            refine e_iload C dL_law_964 rfl ?_
            exact kc_957 _ (cif_pos ((hZ1.r_ge hI.1 hzrep).mp h_957)).symm
          · skip
            refine e_iconst (v := -1) C dL_law_960 (by decide) ?_
            refine e_goto (tgt := 966) C dL_law_961 (by decide) ?_
            exact kc_957 _ (cif_neg ((hZ1.r_lt hI.1 hzrep).mp (Int32.not_le.mp h_957))).symm
    · intro kc_929
      refine e_if_ge (tgt := 936) C dL_law_929 (by decide) (fun h_929 => ?_) (fun h_929 => ?_)
      · skip
        refine e_aload_n C dL_law_936 rfl ?_
        refine e_iload C dL_law_937 rfl ?_
        refine f_iald C rfl v18 (by omega) (by decide) dL_law_939 ?_
        have hth : rz a.1 zrep 0 = 1 := (hZ1.r_ge hI.1 hzrep).mp h_929
        obtain ⟨zpp, zqq, hzpp, -, epp, -, -⟩ := hI.1.reps hzrep hth
        have hx2 := (hx_894.resolve_right (fun r => r.1 hth)).2
        rw [epp, nt_nI (by omega)] at hx2
        exact kc_929 _ (by rw [fJump_yes hzrep hth epp hx2 (by omega), hZ1.r_pos hzrep hth]; exact epp)
      · skip
        refine e_iconst (v := -1) C dL_law_932 (by decide) ?_
        refine e_goto (tgt := 940) C dL_law_933 (by decide) ?_
        exact kc_929 _ (by rw [fJump_no hzrep ((hZ1.r_lt hI.1 hzrep).mp (Int32.not_le.mp h_929))])
  · intro kc_894
    refine e_if_ge (tgt := 901) C dL_law_894 (by decide) (fun h_894 => ?_) (fun h_894 => ?_)
    · skip
      have hth : rz a.1 zrep 0 = 1 := (hZ.r_ge hI.1 hzrep).mp h_894
      obtain ⟨zpp, zqq, hzpp, -, epp, -, -⟩ := hI.1.reps hzrep hth
      refine e_iload C dL_law_901 rfl ?_
      refine e_bipush (v := nI 17) C dL_law_903 (by decide) ?_
      refine e_ishr C dL_law_905 ?_
      refine e_aload_n C dL_law_906 rfl ?_
      refine e_iload C dL_law_907 rfl ?_
      refine f_iald C rfl v18 (by omega) (by decide) dL_law_909 ?_
      refine f_val (y := nI (zpp)) (by rw [hZ.r_pos hzrep hth]; exact epp) ?_
      refine e_iconst (v := nI 1) C dL_law_910 (by decide) ?_
      refine f_iaddn C dL_law_911 ?_
      refine f_callSi (As := [_, _]) C mi_yL_low b_st_yL_low b_ml_L_41 dL_law_912 rfl (c_L_low_n (N := zpp + 1) (by omega) (by omega)) (by decide) (Nat.le_of_ble_eq_true rfl) (fun x_912 m_912 hc_912 => ?_)
      obtain ⟨⟨to0, hto0, hx_912⟩, hm_912⟩ := hc_912
      rw [hx_912, hm_912]
      exact kc_894 _ (Or.inl ⟨hth, by rw [epp, nt_nI (by omega)]; omega⟩)
    · skip
      refine e_iconst (v := nI 0) C dL_law_897 (by decide) ?_
      refine e_goto (tgt := 915) C dL_law_898 (by decide) ?_
      exact kc_894 _ (Or.inr ⟨(hZ.r_lt hI.1 hzrep).mp (Int32.not_le.mp h_894), rfl⟩)
set_option maxRecDepth 100000 in
set_option maxHeartbeats 4000000 in
theorem lw_tick {E : EV} {X : CX} {mem : MEM} {z : ZZ} {c : Nat} (hZ : LZ mem z c) (hI : GoodC z c) {y0 y1 y2 y4 y5 y7 y8 y9 y10 y11 y12 y13 y14 y17 y18 : VV} (ka : G E X 19 1054 [y0, y1, y2, rv (18, 0, 0), y4, y5, rv (21, 0, 0), y7, y8, y9, y10, y11, y12, y13, y14, iv (nI (cau z 5)), iv (nI 5), y17, y18] [] mem) (C : CK E X RL cL_law 19 (some .boolean) 9) : ∀ (lpn : Nat) (k w : Nat), 5 - k < lpn → (k ≤ 5) → (w = cau z k) → G E X 19 1021 [y0, y1, y2, rv (18, 0, 0), y4, y5, rv (21, 0, 0), y7, y8, y9, y10, y11, y12, y13, y14, iv (nI w), iv (nI k), y17, y18] [] mem := by
  intro lpn
  induction lpn with
  | zero => intro k w hlpn; exact absurd hlpn (Nat.not_lt_zero _)
  | succ lpn ih =>
    intro k w hlpn hk hw
    have hc60 := hZ.c60
    have hwl := cau_le z k
    refine e_iload C dL_law_1021 rfl ?_
    refine e_iconst (v := nI 5) C dL_law_1023 (by decide) ?_
    refine e_icmp_ge (tgt := 1054) C dL_law_1024 (by decide) (fun h_1024 => ?_) (fun h_1024 => ?_)
    · skip
      have nh_1024 := xI_leD (by omega) (by omega) h_1024
      obtain rfl : k = 5 := by omega
      rw [hw]
      exact ka
    · skip
      have nh_1024 := xI_nleD (by omega) (by omega) h_1024
      refine e_iload C dL_law_1027 rfl ?_
      refine e_aload_n C dL_law_1029 rfl ?_
      refine e_iload C dL_law_1030 rfl ?_
      refine f_iald C rfl v18 (by omega) (by decide) dL_law_1032 ?_
      refine e_aload C dL_law_1033 rfl ?_
      refine e_iconst (v := nI 0) C dL_law_1035 (by decide) ?_
      refine f_iald C rfl v21 (by omega) (by decide) dL_law_1036 ?_
      refine f_val (y := nI (c)) hZ.t0 ?_
      refine e_icmp_ne (tgt := 1044) C dL_law_1037 (by decide) (fun h_1037 => ?_) (fun h_1037 => ?_)
      · skip
        refine e_iconst (v := nI 0) C dL_law_1044 (by decide) ?_
        refine f_iaddn C dL_law_1045 ?_
        refine f_istore (ls1 := [_, _, _, _, _, _, _, _, _, _, _, _, _, _, _, _, _, _, _]) C dL_law_1046 (by decide) rfl ?_
        refine f_iincn (ls1 := [_, _, _, _, _, _, _, _, _, _, _, _, _, _, _, _, _, _, _]) C dL_law_1048 rfl (by decide) rfl ?_
        refine e_goto (tgt := 1021) C dL_law_1051 (by decide) ?_
        exact ih (k + 1) (w + 0) (by omega) (by omega) (by rw [cau, cif_neg (fun r => h_1037 (by rw [hZ.r_pos (by omega) r.1, r.2, hZ.z0])), hw])
      · skip
        refine e_iconst (v := nI 1) C dL_law_1040 (by decide) ?_
        refine e_goto (tgt := 1045) C dL_law_1041 (by decide) ?_
        refine f_iaddn C dL_law_1045 ?_
        refine f_istore (ls1 := [_, _, _, _, _, _, _, _, _, _, _, _, _, _, _, _, _, _, _]) C dL_law_1046 (by decide) rfl ?_
        refine f_iincn (ls1 := [_, _, _, _, _, _, _, _, _, _, _, _, _, _, _, _, _, _, _]) C dL_law_1048 rfl (by decide) rfl ?_
        refine e_goto (tgt := 1021) C dL_law_1051 (by decide) ?_
        have hth : rz z k 0 = 1 := (hZ.r_ge hI.1 (by omega)).mp (by rw [h_1037]; exact xI_ge0 c (by omega))
        exact ih (k + 1) (w + 1) (by omega) (by omega) (by rw [cau, cif_pos ⟨hth, by rw [← hZ.r_pos (by omega) hth, h_1037, hZ.z0]⟩, hw])
set_option maxRecDepth 100000 in
set_option maxHeartbeats 4000000 in
theorem la_tick {E : EV} {X : CX} (C : CK E X RL cL_law 19 (some .boolean) 9) {e : Nat} {h : Int32} {kd n q p : Nat} (hn : n < 4) (hq : q < 12) (hp : p = 9 ∨ p < 5) {mem : MEM} {a : AS} {c : Nat} (hC : RC mem a) (hZ : LZ mem a.1 c) (hI : GoodC a.1 c) {x14 x15 x16 x17 x18 : VV} (kk : ∀ (m : MEM) (a : AS) (c : Nat) (x14 x15 x16 x17 x18 : VV), RC m a → LZ m a.1 c → Good a.1 → G E X 19 1869 [rv (99, 0, 0), rv (0, 0, 0), rv (17, 0, 0), rv (18, 0, 0), rv (19, 0, 0), rv (20, 0, 0), rv (21, 0, 0), iv (nI e), iv h, iv (nI kd), iv (nI n), iv (nI q), iv (nI p), iv (nI 1), x14, x15, x16, x17, x18] [] m) : G E X 19 977 [rv (99, 0, 0), rv (0, 0, 0), rv (17, 0, 0), rv (18, 0, 0), rv (19, 0, 0), rv (20, 0, 0), rv (21, 0, 0), iv (nI e), iv h, iv (nI kd), iv (nI n), iv (nI q), iv (nI p), iv (nI 1), x14, x15, x16, x17, x18] [] mem := by
  have hc60 := hZ.c60
  refine e_iconst (v := nI 1) C dL_law_977 (by decide) ?_
  refine e_iload C dL_law_978 rfl ?_
  refine e_bipush (v := nI 17) C dL_law_980 (by decide) ?_
  refine e_ishr C dL_law_982 ?_
  refine e_iload C dL_law_983 rfl ?_
  refine e_bipush (v := nI 25) C dL_law_985 (by decide) ?_
  refine e_ishr C dL_law_987 ?_
  refine e_iconst (v := nI 3) C dL_law_988 (by decide) ?_
  refine f_callSi (As := [_, _]) C mi_yL_low b_st_yL_low b_ml_L_41 dL_law_989 rfl (c_L_low_n (N := 3) (by omega) (by omega)) (by decide) (Nat.le_of_ble_eq_true rfl) (fun x_989 m_989 hc_989 => ?_)
  obtain ⟨⟨w3, hw3, hx_989⟩, hm_989⟩ := hc_989
  rw [hx_989, hm_989]
  refine e_cutn1 (tgt := 1001) (P := fun x => x = 99 ∨ x = 4) ?_ ?_
  · intro x_992 hx_992
    refine f_callSi (As := [_, _]) C mi_yL_low b_st_yL_low b_ml_L_41 dL_law_1001 rfl (c_L_low_n (N := x_992) (by omega) (by omega)) (by decide) (Nat.le_of_ble_eq_true rfl) (fun x_1001 m_1001 hc_1001 => ?_)
    obtain ⟨⟨ztk, hztk, hx_1001⟩, hm_1001⟩ := hc_1001
    rw [hx_1001, hm_1001]
    refine f_iaddn C dL_law_1004 ?_
    refine f_istore (ls1 := [_, _, _, _, _, _, _, _, _, _, _, _, _, _, _, _, _, _, _]) C dL_law_1005 (by decide) rfl ?_
    refine e_iconst (v := nI 0) C dL_law_1007 (by decide) ?_
    refine f_istore (ls1 := [_, _, _, _, _, _, _, _, _, _, _, _, _, _, _, _, _, _, _]) C dL_law_1008 (by decide) rfl ?_
    refine e_aload_n C dL_law_1010 rfl ?_
    refine e_aload C dL_law_1011 rfl ?_
    refine e_iload C dL_law_1013 rfl ?_
    refine f_callSu (As := [_, _, _]) C mi_yL_pass b_st_yL_pass b_ml_L_125 dL_law_1015 rfl (c_L_pass hZ hI (T := 1 + ztk) (by omega)) (by decide) (Nat.le_of_ble_eq_true rfl) (fun m_1015 hc_1015 => ?_)
    obtain ⟨hZ1, hF1⟩ := hc_1015
    have hFM : FrM mem m_1015 := fun id hid => hF1 id (fun e => by rw [e] at hid; revert hid; decide)
    have hG1 : GoodC (tck a.1 (nI (1 + ztk)) 5) c := hI.tck (by omega)
    refine e_iconst (v := nI 0) C dL_law_1018 (by decide) ?_
    refine f_istore (ls1 := [_, _, _, _, _, _, _, _, _, _, _, _, _, _, _, _, _, _, _]) C dL_law_1019 (by decide) rfl ?_
    refine lw_tick hZ1 hG1 (?_) C 6 0 0 (by omega) (by omega) rfl
    refine e_aload_n C dL_law_1054 rfl ?_
    refine e_iload C dL_law_1055 rfl ?_
    refine f_callVi (As := [_]) (ci := 6) C mi_yX6_tick mv_yX6_tick b_ml_L_129 dL_law_1057 rfl (c_X6_tick (hC.frM hFM) hI.1) (by decide) v0 rfl rfl (Nat.le_of_ble_eq_true rfl) (fun x_1057 m_1057 hc_1057 => ?_)
    obtain ⟨hx_1057, hC2, hF2⟩ := hc_1057
    have hZ2 := hZ1.fr hF2
    refine e_iload C dL_law_1060 rfl ?_
    rw [hx_1057, fTick_yes (by omega) (by omega)]
    refine e_icmp_ne (tgt := 1069) C dL_law_1062 (by decide) (fun h_1062 => ?_) (fun h_1062 => ?_)
    · skip
      exact absurd rfl h_1062
    · skip
      refine e_iconst (v := nI 1) C dL_law_1065 (by decide) ?_
      refine e_goto (tgt := 1070) C dL_law_1066 (by decide) ?_
      refine f_istore (ls1 := [_, _, _, _, _, _, _, _, _, _, _, _, _, _, _, _, _, _, _]) C dL_law_1070 (by decide) rfl ?_
      refine e_goto (tgt := 1869) C dL_law_1072 (by decide) ?_
      exact kk _ _ c _ _ _ _ _ hC2 (by show LZ _ (fTick a.1 (nI (1 + ztk))).2 c; rw [fTick_yes (by omega) (by omega)]; exact hZ2) (Good.tic ⟨c, hI⟩)
  · intro kc_992
    refine e_if_ne (tgt := 1000) C dL_law_992 (by decide) (fun h_992 => ?_) (fun h_992 => ?_)
    · skip
      have nh_992 := xI_neD (a := w3) (b := 0) h_992
      refine e_iconst (v := nI 4) C dL_law_1000 (by decide) ?_
      exact kc_992 _ (Or.inr rfl)
    · skip
      have nh_992 := xI_inj (a := w3) (b := 0) (by omega) (by omega) h_992
      refine e_bipush (v := nI 99) C dL_law_995 (by decide) ?_
      refine e_goto (tgt := 1001) C dL_law_997 (by decide) ?_
      exact kc_992 _ (Or.inl rfl)
set_option maxRecDepth 100000 in
set_option maxHeartbeats 4000000 in
theorem la_none {E : EV} {X : CX} (C : CK E X RL cL_law 19 (some .boolean) 9) {e : Nat} {h : Int32} {kd n q p : Nat} (hn : n < 4) (hq : q < 12) (hp : p = 9 ∨ p < 5) {mem : MEM} {a : AS} {c : Nat} (hC : RC mem a) (hZ : LZ mem a.1 c) (hI : GoodC a.1 c) (hno : ¬ sz a.1 n 0 = 1) {x14 x15 x16 x17 x18 : VV} (kk : ∀ (m : MEM) (a : AS) (c : Nat) (x14 x15 x16 x17 x18 : VV), RC m a → LZ m a.1 c → Good a.1 → G E X 19 1869 [rv (99, 0, 0), rv (0, 0, 0), rv (17, 0, 0), rv (18, 0, 0), rv (19, 0, 0), rv (20, 0, 0), rv (21, 0, 0), iv (nI e), iv h, iv (nI kd), iv (nI n), iv (nI q), iv (nI p), iv (nI 1), x14, x15, x16, x17, x18] [] m) : G E X 19 1083 [rv (99, 0, 0), rv (0, 0, 0), rv (17, 0, 0), rv (18, 0, 0), rv (19, 0, 0), rv (20, 0, 0), rv (21, 0, 0), iv (nI e), iv h, iv (nI kd), iv (nI n), iv (nI q), iv (nI p), iv (nI 1), x14, x15, x16, x17, x18] [] mem := by
  have hc60 := hZ.c60
  refine e_aload_n C dL_law_1083 rfl ?_
  refine e_iload C dL_law_1084 rfl ?_
  refine e_iload C dL_law_1086 rfl ?_
  refine f_callVi (As := [_, _]) (ci := 6) C mi_yX6_read mv_yX6_read b_ml_L_132 dL_law_1088 rfl (c_X6_read hC hI.1) (by decide) v0 rfl rfl (Nat.le_of_ble_eq_true rfl) (fun x_1088 m_1088 hc_1088 => ?_)
  obtain ⟨hx_1088, hC1, hF1⟩ := hc_1088
  rw [fRead_no (by omega) hno] at hx_1088
  rw [und_er (by rw [fRead_no (by omega) hno]; exact isEr_1) (by rw [fRead_no (by omega) hno])] at hC1
  have hZ1 := hZ.fr hF1
  rw [hx_1088]
  refine e_iconst (v := -1) C dL_law_1091 (by decide) ?_
  refine e_icmp_ne (tgt := 1122) C dL_law_1092 (by decide) (fun h_1092 => ?_) (fun h_1092 => ?_)
  · skip
    exact absurd rfl h_1092
  · skip
    refine e_aload_n C dL_law_1095 rfl ?_
    refine e_iload C dL_law_1096 rfl ?_
    refine e_iload C dL_law_1098 rfl ?_
    refine e_iconst (v := nI 1) C dL_law_1100 (by decide) ?_
    refine f_callVi (As := [_, _, _]) (ci := 6) C mi_yX6_write mv_yX6_write b_ml_L_135 dL_law_1101 rfl (c_X6_write hC1 hI.1) (by decide) v0 rfl rfl (Nat.le_of_ble_eq_true rfl) (fun x_1101 m_1101 hc_1101 => ?_)
    obtain ⟨hx_1101, hC2, hF2⟩ := hc_1101
    rw [fWrite_no (by omega) hno] at hx_1101
    rw [und_er (by rw [fWrite_no (by omega) hno]; exact isEr_1) (by rw [fWrite_no (by omega) hno])] at hC2
    have hZ2 := hZ1.fr hF2
    rw [hx_1101]
    refine e_iconst (v := -1) C dL_law_1104 (by decide) ?_
    refine e_icmp_ne (tgt := 1122) C dL_law_1105 (by decide) (fun h_1105 => ?_) (fun h_1105 => ?_)
    · skip
      exact absurd rfl h_1105
    · skip
      refine e_aload_n C dL_law_1108 rfl ?_
      refine e_iload C dL_law_1109 rfl ?_
      refine f_callVi (As := [_]) (ci := 6) C mi_yX6_close mv_yX6_close b_ml_L_138 dL_law_1111 rfl (c_X6_close hC2 hI.1) (by decide) v0 rfl rfl (Nat.le_of_ble_eq_true rfl) (fun x_1111 m_1111 hc_1111 => ?_)
      obtain ⟨hx_1111, hC3, hF3⟩ := hc_1111
      rw [fClose_no (by omega) hno] at hx_1111
      rw [und_er (by rw [fClose_no (by omega) hno]; exact isEr_1) (by rw [fClose_no (by omega) hno])] at hC3
      have hZ3 := hZ2.fr hF3
      rw [hx_1111]
      refine e_iconst (v := -1) C dL_law_1114 (by decide) ?_
      refine e_icmp_ne (tgt := 1122) C dL_law_1115 (by decide) (fun h_1115 => ?_) (fun h_1115 => ?_)
      · skip
        exact absurd rfl h_1115
      · skip
        refine e_iconst (v := nI 1) C dL_law_1118 (by decide) ?_
        refine e_goto (tgt := 1123) C dL_law_1119 (by decide) ?_
        refine f_istore (ls1 := [_, _, _, _, _, _, _, _, _, _, _, _, _, _, _, _, _, _, _]) C dL_law_1123 (by decide) rfl ?_
        refine e_goto (tgt := 1869) C dL_law_1125 (by decide) ?_
        exact kk _ a c _ _ _ _ _ hC3 hZ3 ⟨c, hI⟩
