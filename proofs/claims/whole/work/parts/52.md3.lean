set_option maxHeartbeats 4000000 in
set_option maxRecDepth 100000 in
theorem cm_Mo_closeRow (l : Launch) (D : va_G) (q : Nat → ClassId) (ho mb mt mw mc mk m1 m2 ms mu mi mr mn mp mj me mh : Nat) (sz ln wn dp st_ im en : Nat) (lo_ : Int32) (ex ds : Bool) (ct kd on tw : Nat → Nat) (se : Nat → Int32) (NL : List md_N) (b_ : md_B) (un ii rw_ no pc_ : Nat → Nat) (hT : md_T NL b_ kd on tw se) (hdp : dp ≤ 41) (hcap : NL.length + no dp + 3 ≤ 128) (hrw : rw_ dp ≤ NL.length) (hpc : pc_ dp ≤ NL.length) (hii : ii dp < 1000) : kz_Mv (S := (Nat → Nat) × (Nat → Nat) × (Nat → Nat) × (Nat → Int32)) l ky_Mo_closeRow kb_Mo_closeRow 2 2 D q [.ref ho] [(ho, .inr (6, [.ref mb, .int (nI sz), .ref mt, .int (nI ln), .ref mw, .int (nI wn), .ref mc, .ref mk, .ref m1, .ref m2, .ref ms, .int (nI dp), .ref mu, .ref mi, .ref mr, .ref mn, .ref mp, .int (nI st_), .int lo_, .int (nI im), .int (nB ex), .ref mj, .int (nI en), .ref me, .ref mh, .int (nB ds)])), (mc, .inl (q 0, 3, .inl (fun x_ => nI ((va_up ct 2 NL.length) x_)))), (mk, .inl (q 0, 384, .inl (fun x_ => nI (kd x_)))), (m1, .inl (q 0, 384, .inl (fun x_ => nI (on x_)))), (m2, .inl (q 0, 384, .inl (fun x_ => nI (tw x_)))), (ms, .inl (q 0, 1152, .inl se)), (mi, .inl (q 0, 42, .inl (fun x_ => nI (ii x_) + (-1)))), (mr, .inl (q 0, 42, .inl (fun x_ => nI (rw_ x_) + (-1)))), (mn, .inl (q 0, 42, .inl (fun x_ => nI (no x_)))), (mp, .inl (q 0, 42, .inl (fun x_ => nI (pc_ x_) + (-1))))] (fun u => md_T (md_cr NL (ii dp) (rw_ dp) (no dp) (pc_ dp)).1 b_ u.1 u.2.1 u.2.2.1 u.2.2.2) (fun u => [(ho, .inr (6, [.ref mb, .int (nI sz), .ref mt, .int (nI ln), .ref mw, .int (nI wn), .ref mc, .ref mk, .ref m1, .ref m2, .ref ms, .int (nI dp), .ref mu, .ref mi, .ref mr, .ref mn, .ref mp, .int (nI st_), .int lo_, .int (nI im), .int (nB ex), .ref mj, .int (nI en), .ref me, .ref mh, .int (nB ds)])), (mc, .inl (q 0, 3, .inl (fun x_ => nI ((va_up ct 2 ((md_cr NL (ii dp) (rw_ dp) (no dp) (pc_ dp)).1.length)) x_)))), (mk, .inl (q 0, 384, .inl (fun x_ => nI (u.1 x_)))), (m1, .inl (q 0, 384, .inl (fun x_ => nI (u.2.1 x_)))), (m2, .inl (q 0, 384, .inl (fun x_ => nI (u.2.2.1 x_)))), (ms, .inl (q 0, 1152, .inl u.2.2.2)), (mi, .inl (q 0, 42, .inl (fun x_ => nI ((va_up ii dp (md_cr NL (ii dp) (rw_ dp) (no dp) (pc_ dp)).2) x_) + (-1)))), (mr, .inl (q 0, 42, .inl (fun x_ => nI ((va_up rw_ dp 0) x_) + (-1)))), (mn, .inl (q 0, 42, .inl (fun x_ => nI ((va_up no dp (if pc_ dp = 0 then no dp else 0)) x_)))), (mp, .inl (q 0, 42, .inl (fun x_ => nI ((va_up pc_ dp 0) x_) + (-1))))]) := by
  intro sz_
  refine kz_go (by decide +kernel) (Nat.le_of_ble_eq_true rfl) ?_
  intro p e s m below meth c ls args A Q H locs hQ hA X U hl
  have hx := X.1
  have hb := X.2.1
  have hl : lv_has ls 2 [(0, .ref ho)] := hl
  have hcl_ := md_cp_len (nv := no dp) hrw hpc
  have hel_ := md_er_len hcl_.2.2
  have join36 : ∀ (k2 : Nat → Nat) (o2 : Nat → Nat) (t2 : Nat → Nat) (z2 : Nat → Int32) (ls : Array Slot) (H : Heap) (locs : List Loc), (md_T (md_er (md_cp NL (rw_ dp) (no dp) (pc_ dp))).1 b_ k2 o2 t2 z2) → lv_has ls 2 [(1, .int (nI ((md_er (md_cp NL (rw_ dp) (no dp) (pc_ dp))).2))), (0, .ref ho)] → kz_U D q s A [(ho, .inr (6, [.ref mb, .int (nI sz), .ref mt, .int (nI ln), .ref mw, .int (nI wn), .ref mc, .ref mk, .ref m1, .ref m2, .ref ms, .int (nI dp), .ref mu, .ref mi, .ref mr, .ref mn, .ref mp, .int (nI st_), .int lo_, .int (nI im), .int (nB ex), .ref mj, .int (nI en), .ref me, .ref mh, .int (nB ds)])), (mc, .inl (q 0, 3, .inl (fun x_ => nI ((va_up ct 2 ((md_er (md_cp NL (rw_ dp) (no dp) (pc_ dp))).1.length)) x_)))), (mk, .inl (q 0, 384, .inl (fun x_ => nI (k2 x_)))), (m1, .inl (q 0, 384, .inl (fun x_ => nI (o2 x_)))), (m2, .inl (q 0, 384, .inl (fun x_ => nI (t2 x_)))), (ms, .inl (q 0, 1152, .inl z2)), (mi, .inl (q 0, 42, .inl (fun x_ => nI (ii x_) + (-1)))), (mr, .inl (q 0, 42, .inl (fun x_ => nI ((va_up rw_ dp (md_cp NL (rw_ dp) (no dp) (pc_ dp)).2) x_) + (-1)))), (mn, .inl (q 0, 42, .inl (fun x_ => nI ((va_up no dp (if pc_ dp = 0 then no dp else 0)) x_)))), (mp, .inl (q 0, 42, .inl (fun x_ => nI ((va_up pc_ dp 0) x_) + (-1))))] H locs → W p l e (kz_rm 2) s m args below meth c H locs 0 0 Q (F0 m 36 ls []) := by
    intro k2 o2 t2 z2 ls H locs hT3 hl U
    refine lv_aload_n hx hb kd_Mo_closeRow_36 rfl (lv_at hl 1 rfl) ?_
    refine kg_Mo_37 X U 0 rfl rfl kd_Mo_closeRow_37 ?_
    refine lv_aload_n hx hb kd_Mo_closeRow_40 rfl (lv_at hl 1 rfl) ?_
    refine kg_Mo_62 X U 0 rfl rfl kd_Mo_closeRow_41 ?_
    refine lv_aload_n hx hb kd_Mo_closeRow_44 rfl (lv_at hl 1 rfl) ?_
    refine kg_Mo_37 X U 0 rfl rfl kd_Mo_closeRow_45 ?_
    refine lv_aload_n hx hb kd_Mo_closeRow_48 rfl (lv_at hl 1 rfl) ?_
    refine kg_Mo_62 X U 0 rfl rfl kd_Mo_closeRow_49 ?_
    refine kz_iald (k := dp) X U 6 rfl (by omega) (by omega) kd_Mo_closeRow_52 ?_
    refine kz_top (y := nI (ii dp) + (-1)) rfl ?_
    refine kz_mge X (by omega) kd_Mo_closeRow_53 rfl (fun h53 => ?_) (fun h53 => ?_)
    · refine lv_aload_n hx hb kd_Mo_closeRow_60 rfl (lv_at hl 1 rfl) ?_
      refine kz_ic X 3 kd_Mo_closeRow_61 (by decide) ?_
      refine lv_aload_n hx hb kd_Mo_closeRow_62 rfl (lv_at hl 1 rfl) ?_
      refine kg_Mo_37 X U 0 rfl rfl kd_Mo_closeRow_63 ?_
      refine lv_aload_n hx hb kd_Mo_closeRow_66 rfl (lv_at hl 1 rfl) ?_
      refine kg_Mo_62 X U 0 rfl rfl kd_Mo_closeRow_67 ?_
      refine kz_iald (k := dp) X U 6 rfl (by omega) (by omega) kd_Mo_closeRow_70 ?_
      refine kz_top (y := nI (ii dp) + (-1)) rfl ?_
      refine kz_top (y := nI (ii dp - 1)) (sb_m1 h53) ?_
      refine lv_iload_n hx hb kd_Mo_closeRow_71 rfl (lv_at hl 0 rfl) ?_
      refine kz_cVi (av := [.int (nI 3), .int (nI (ii dp - 1)), .int (nI ((md_er (md_cp NL (rw_ dp) (no dp) (pc_ dp))).2))]) (rest := [.int (nI dp), .ref mi]) (wr := [(mi, .inl (q 0, 42, .inl (fun x_ => nI (ii x_) + (-1)))), (mr, .inl (q 0, 42, .inl (fun x_ => nI ((va_up rw_ dp (md_cp NL (rw_ dp) (no dp) (pc_ dp)).2) x_) + (-1)))), (mn, .inl (q 0, 42, .inl (fun x_ => nI ((va_up no dp (if pc_ dp = 0 then no dp else 0)) x_)))), (mp, .inl (q 0, 42, .inl (fun x_ => nI ((va_up pc_ dp 0) x_) + (-1))))]) X U hl.1 (cm_Mo_node l D q ho mb mt mw mc mk m1 m2 ms mu mi mr mn mp mj me mh sz ln wn dp st_ im en lo_ ex ds ct k2 o2 t2 z2 ((md_er (md_cp NL (rw_ dp) (no dp) (pc_ dp))).1) b_ 3 (ii dp - 1) ((md_er (md_cp NL (rw_ dp) (no dp) (pc_ dp))).2) hT3 (by omega)) (by decide) (by decide) ⟨by decide, by decide⟩ tb_551 tb_553 tb_s27 0 rfl rfl tb_11 tb_554 kq_Mo_node [0, 1, 2, 3, 4, 5] [6, 7, 8, 9] (by decide) rfl rfl (by decide) (by decide) rfl (Nat.le_of_ble_eq_true rfl) kd_Mo_closeRow_72 (fun rv y H locs hu_ U => ?_)
      obtain ⟨hy1, hy2⟩ := hu_
      subst hy1
      have U : kz_U D q s A [(ho, .inr (6, [.ref mb, .int (nI sz), .ref mt, .int (nI ln), .ref mw, .int (nI wn), .ref mc, .ref mk, .ref m1, .ref m2, .ref ms, .int (nI dp), .ref mu, .ref mi, .ref mr, .ref mn, .ref mp, .int (nI st_), .int lo_, .int (nI im), .int (nB ex), .ref mj, .int (nI en), .ref me, .ref mh, .int (nB ds)])), (mc, .inl (q 0, 3, .inl (fun x_ => nI ((va_up ct 2 (((md_er (md_cp NL (rw_ dp) (no dp) (pc_ dp))).1).length + 1)) x_)))), (mk, .inl (q 0, 384, .inl (fun x_ => nI (y.1 x_)))), (m1, .inl (q 0, 384, .inl (fun x_ => nI (y.2.1 x_)))), (m2, .inl (q 0, 384, .inl (fun x_ => nI (y.2.2.1 x_)))), (ms, .inl (q 0, 1152, .inl y.2.2.2)), (mi, .inl (q 0, 42, .inl (fun x_ => nI (ii x_) + (-1)))), (mr, .inl (q 0, 42, .inl (fun x_ => nI ((va_up rw_ dp (md_cp NL (rw_ dp) (no dp) (pc_ dp)).2) x_) + (-1)))), (mn, .inl (q 0, 42, .inl (fun x_ => nI ((va_up no dp (if pc_ dp = 0 then no dp else 0)) x_)))), (mp, .inl (q 0, 42, .inl (fun x_ => nI ((va_up pc_ dp 0) x_) + (-1))))] H locs := U.sub [4, 5, 6, 7, 8, 9, 0, 1, 2, 3] (by decide) rfl
      refine kz_top (y := nI ((((md_er (md_cp NL (rw_ dp) (no dp) (pc_ dp))).1).length) + 1) + (-1)) (pk_m1 _).symm ?_
      refine kz_iast (k := dp) X U 6 rfl (by omega) (by omega) kd_Mo_closeRow_75 (fun H locs U => ?_)
      rw [kz_updM] at U
      have U : kz_U D q s A [(ho, .inr (6, [.ref mb, .int (nI sz), .ref mt, .int (nI ln), .ref mw, .int (nI wn), .ref mc, .ref mk, .ref m1, .ref m2, .ref ms, .int (nI dp), .ref mu, .ref mi, .ref mr, .ref mn, .ref mp, .int (nI st_), .int lo_, .int (nI im), .int (nB ex), .ref mj, .int (nI en), .ref me, .ref mh, .int (nB ds)])), (mc, .inl (q 0, 3, .inl (fun x_ => nI ((va_up ct 2 (((md_er (md_cp NL (rw_ dp) (no dp) (pc_ dp))).1).length + 1)) x_)))), (mk, .inl (q 0, 384, .inl (fun x_ => nI (y.1 x_)))), (m1, .inl (q 0, 384, .inl (fun x_ => nI (y.2.1 x_)))), (m2, .inl (q 0, 384, .inl (fun x_ => nI (y.2.2.1 x_)))), (ms, .inl (q 0, 1152, .inl y.2.2.2)), (mi, .inl (q 0, 42, .inl (fun x_ => nI ((va_up ii dp ((((md_er (md_cp NL (rw_ dp) (no dp) (pc_ dp))).1).length) + 1)) x_) + (-1)))), (mr, .inl (q 0, 42, .inl (fun x_ => nI ((va_up rw_ dp (md_cp NL (rw_ dp) (no dp) (pc_ dp)).2) x_) + (-1)))), (mn, .inl (q 0, 42, .inl (fun x_ => nI ((va_up no dp (if pc_ dp = 0 then no dp else 0)) x_)))), (mp, .inl (q 0, 42, .inl (fun x_ => nI ((va_up pc_ dp 0) x_) + (-1))))] H locs := U
      refine lv_aload_n hx hb kd_Mo_closeRow_76 rfl (lv_at hl 1 rfl) ?_
      refine kg_Mo_40 X U 0 rfl rfl kd_Mo_closeRow_77 ?_
      refine lv_aload_n hx hb kd_Mo_closeRow_80 rfl (lv_at hl 1 rfl) ?_
      refine kg_Mo_62 X U 0 rfl rfl kd_Mo_closeRow_81 ?_
      refine lv_iconst (v := (-1)) hx hb kd_Mo_closeRow_84 (by decide) ?_
      refine kz_top (y := nI 0 + (-1)) (by decide) ?_
      refine kz_iast (k := dp) X U 7 rfl (by omega) (by omega) kd_Mo_closeRow_85 (fun H locs U => ?_)
      rw [kz_updM] at U
      have U : kz_U D q s A [(ho, .inr (6, [.ref mb, .int (nI sz), .ref mt, .int (nI ln), .ref mw, .int (nI wn), .ref mc, .ref mk, .ref m1, .ref m2, .ref ms, .int (nI dp), .ref mu, .ref mi, .ref mr, .ref mn, .ref mp, .int (nI st_), .int lo_, .int (nI im), .int (nB ex), .ref mj, .int (nI en), .ref me, .ref mh, .int (nB ds)])), (mc, .inl (q 0, 3, .inl (fun x_ => nI ((va_up ct 2 (((md_er (md_cp NL (rw_ dp) (no dp) (pc_ dp))).1).length + 1)) x_)))), (mk, .inl (q 0, 384, .inl (fun x_ => nI (y.1 x_)))), (m1, .inl (q 0, 384, .inl (fun x_ => nI (y.2.1 x_)))), (m2, .inl (q 0, 384, .inl (fun x_ => nI (y.2.2.1 x_)))), (ms, .inl (q 0, 1152, .inl y.2.2.2)), (mi, .inl (q 0, 42, .inl (fun x_ => nI ((va_up ii dp ((((md_er (md_cp NL (rw_ dp) (no dp) (pc_ dp))).1).length) + 1)) x_) + (-1)))), (mr, .inl (q 0, 42, .inl (fun x_ => nI ((va_up (va_up rw_ dp (md_cp NL (rw_ dp) (no dp) (pc_ dp)).2) dp 0) x_) + (-1)))), (mn, .inl (q 0, 42, .inl (fun x_ => nI ((va_up no dp (if pc_ dp = 0 then no dp else 0)) x_)))), (mp, .inl (q 0, 42, .inl (fun x_ => nI ((va_up pc_ dp 0) x_) + (-1))))] H locs := U
      exact kz_ev hQ hA X U ((y.1, y.2.1, y.2.2.1, y.2.2.2)) (by rw [show md_cr NL (ii dp) (rw_ dp) (no dp) (pc_ dp) = ((md_er (md_cp NL (rw_ dp) (no dp) (pc_ dp))).1 ++ [(3, ii dp - 1, (md_er (md_cp NL (rw_ dp) (no dp) (pc_ dp))).2, fun _ => 0)], (md_er (md_cp NL (rw_ dp) (no dp) (pc_ dp))).1.length + 1) from if_neg (by omega), bx_uu, List.length_append]; rfl) (by rw [show md_cr NL (ii dp) (rw_ dp) (no dp) (pc_ dp) = ((md_er (md_cp NL (rw_ dp) (no dp) (pc_ dp))).1 ++ [(3, ii dp - 1, (md_er (md_cp NL (rw_ dp) (no dp) (pc_ dp))).2, fun _ => 0)], (md_er (md_cp NL (rw_ dp) (no dp) (pc_ dp))).1.length + 1) from if_neg (by omega)]; exact hy2) kd_Mo_closeRow_86
    · refine lv_iload_n hx hb kd_Mo_closeRow_56 rfl (lv_at hl 0 rfl) ?_
      refine lv_goto hx hb kd_Mo_closeRow_57 rfl ?_
      refine kz_top (y := nI (((md_er (md_cp NL (rw_ dp) (no dp) (pc_ dp))).2) + 1) + (-1)) (pk_m1 _).symm ?_
      refine kz_iast (k := dp) X U 6 rfl (by omega) (by omega) kd_Mo_closeRow_75 (fun H locs U => ?_)
      rw [kz_updM] at U
      have U : kz_U D q s A [(ho, .inr (6, [.ref mb, .int (nI sz), .ref mt, .int (nI ln), .ref mw, .int (nI wn), .ref mc, .ref mk, .ref m1, .ref m2, .ref ms, .int (nI dp), .ref mu, .ref mi, .ref mr, .ref mn, .ref mp, .int (nI st_), .int lo_, .int (nI im), .int (nB ex), .ref mj, .int (nI en), .ref me, .ref mh, .int (nB ds)])), (mc, .inl (q 0, 3, .inl (fun x_ => nI ((va_up ct 2 ((md_er (md_cp NL (rw_ dp) (no dp) (pc_ dp))).1.length)) x_)))), (mk, .inl (q 0, 384, .inl (fun x_ => nI (k2 x_)))), (m1, .inl (q 0, 384, .inl (fun x_ => nI (o2 x_)))), (m2, .inl (q 0, 384, .inl (fun x_ => nI (t2 x_)))), (ms, .inl (q 0, 1152, .inl z2)), (mi, .inl (q 0, 42, .inl (fun x_ => nI ((va_up ii dp (((md_er (md_cp NL (rw_ dp) (no dp) (pc_ dp))).2) + 1)) x_) + (-1)))), (mr, .inl (q 0, 42, .inl (fun x_ => nI ((va_up rw_ dp (md_cp NL (rw_ dp) (no dp) (pc_ dp)).2) x_) + (-1)))), (mn, .inl (q 0, 42, .inl (fun x_ => nI ((va_up no dp (if pc_ dp = 0 then no dp else 0)) x_)))), (mp, .inl (q 0, 42, .inl (fun x_ => nI ((va_up pc_ dp 0) x_) + (-1))))] H locs := U
      refine lv_aload_n hx hb kd_Mo_closeRow_76 rfl (lv_at hl 1 rfl) ?_
      refine kg_Mo_40 X U 0 rfl rfl kd_Mo_closeRow_77 ?_
      refine lv_aload_n hx hb kd_Mo_closeRow_80 rfl (lv_at hl 1 rfl) ?_
      refine kg_Mo_62 X U 0 rfl rfl kd_Mo_closeRow_81 ?_
      refine lv_iconst (v := (-1)) hx hb kd_Mo_closeRow_84 (by decide) ?_
      refine kz_top (y := nI 0 + (-1)) (by decide) ?_
      refine kz_iast (k := dp) X U 7 rfl (by omega) (by omega) kd_Mo_closeRow_85 (fun H locs U => ?_)
      rw [kz_updM] at U
      have U : kz_U D q s A [(ho, .inr (6, [.ref mb, .int (nI sz), .ref mt, .int (nI ln), .ref mw, .int (nI wn), .ref mc, .ref mk, .ref m1, .ref m2, .ref ms, .int (nI dp), .ref mu, .ref mi, .ref mr, .ref mn, .ref mp, .int (nI st_), .int lo_, .int (nI im), .int (nB ex), .ref mj, .int (nI en), .ref me, .ref mh, .int (nB ds)])), (mc, .inl (q 0, 3, .inl (fun x_ => nI ((va_up ct 2 ((md_er (md_cp NL (rw_ dp) (no dp) (pc_ dp))).1.length)) x_)))), (mk, .inl (q 0, 384, .inl (fun x_ => nI (k2 x_)))), (m1, .inl (q 0, 384, .inl (fun x_ => nI (o2 x_)))), (m2, .inl (q 0, 384, .inl (fun x_ => nI (t2 x_)))), (ms, .inl (q 0, 1152, .inl z2)), (mi, .inl (q 0, 42, .inl (fun x_ => nI ((va_up ii dp (((md_er (md_cp NL (rw_ dp) (no dp) (pc_ dp))).2) + 1)) x_) + (-1)))), (mr, .inl (q 0, 42, .inl (fun x_ => nI ((va_up (va_up rw_ dp (md_cp NL (rw_ dp) (no dp) (pc_ dp)).2) dp 0) x_) + (-1)))), (mn, .inl (q 0, 42, .inl (fun x_ => nI ((va_up no dp (if pc_ dp = 0 then no dp else 0)) x_)))), (mp, .inl (q 0, 42, .inl (fun x_ => nI ((va_up pc_ dp 0) x_) + (-1))))] H locs := U
      exact kz_ev hQ hA X U ((k2, o2, t2, z2)) (by rw [show md_cr NL (ii dp) (rw_ dp) (no dp) (pc_ dp) = ((md_er (md_cp NL (rw_ dp) (no dp) (pc_ dp))).1, (md_er (md_cp NL (rw_ dp) (no dp) (pc_ dp))).2 + 1) from if_pos h53, bx_uu]) (by rw [show md_cr NL (ii dp) (rw_ dp) (no dp) (pc_ dp) = ((md_er (md_cp NL (rw_ dp) (no dp) (pc_ dp))).1, (md_er (md_cp NL (rw_ dp) (no dp) (pc_ dp))).2 + 1) from if_pos h53]; exact hT3) kd_Mo_closeRow_86
  refine lv_aload_n hx hb kd_Mo_closeRow_0 rfl (lv_at hl 0 rfl) ?_
  refine kz_cVv (av := []) (rest := []) (wr := [(mi, .inl (q 0, 42, .inl (fun x_ => nI (ii x_) + (-1))))]) X U hl.1 (cm_Mo_closePiece l D q ho mb mt mw mc mk m1 m2 ms mu mi mr mn mp mj me mh sz ln wn dp st_ im en lo_ ex ds ct kd on tw se NL b_ un ii rw_ no pc_ hT hdp (by omega) hrw hpc) (by decide) (by decide) ⟨by decide, by decide⟩ tb_547 tb_549 tb_s26 0 rfl rfl tb_11 tb_550 kq_Mo_closePiece [0, 1, 2, 3, 4, 5, 7, 8, 9] [6] (by decide) rfl rfl (by decide) (by decide) rfl (Nat.le_of_ble_eq_true rfl) kd_Mo_closeRow_1 (fun u H locs hu U => ?_)
  have U : kz_U D q s A [(ho, .inr (6, [.ref mb, .int (nI sz), .ref mt, .int (nI ln), .ref mw, .int (nI wn), .ref mc, .ref mk, .ref m1, .ref m2, .ref ms, .int (nI dp), .ref mu, .ref mi, .ref mr, .ref mn, .ref mp, .int (nI st_), .int lo_, .int (nI im), .int (nB ex), .ref mj, .int (nI en), .ref me, .ref mh, .int (nB ds)])), (mc, .inl (q 0, 3, .inl (fun x_ => nI ((va_up ct 2 ((md_cp NL (rw_ dp) (no dp) (pc_ dp)).1.length)) x_)))), (mk, .inl (q 0, 384, .inl (fun x_ => nI (u.1 x_)))), (m1, .inl (q 0, 384, .inl (fun x_ => nI (u.2.1 x_)))), (m2, .inl (q 0, 384, .inl (fun x_ => nI (u.2.2.1 x_)))), (ms, .inl (q 0, 1152, .inl u.2.2.2)), (mi, .inl (q 0, 42, .inl (fun x_ => nI (ii x_) + (-1)))), (mr, .inl (q 0, 42, .inl (fun x_ => nI ((va_up rw_ dp (md_cp NL (rw_ dp) (no dp) (pc_ dp)).2) x_) + (-1)))), (mn, .inl (q 0, 42, .inl (fun x_ => nI ((va_up no dp (if pc_ dp = 0 then no dp else 0)) x_)))), (mp, .inl (q 0, 42, .inl (fun x_ => nI ((va_up pc_ dp 0) x_) + (-1))))] H locs := U.sub [1, 2, 3, 4, 5, 6, 0, 7, 8, 9] (by decide) rfl
  refine lv_aload_n hx hb kd_Mo_closeRow_4 rfl (lv_at hl 0 rfl) ?_
  refine kg_Mo_40 X U 0 rfl rfl kd_Mo_closeRow_5 ?_
  refine lv_aload_n hx hb kd_Mo_closeRow_8 rfl (lv_at hl 0 rfl) ?_
  refine kg_Mo_62 X U 0 rfl rfl kd_Mo_closeRow_9 ?_
  refine kz_iald (k := dp) X U 7 rfl (by omega) (by omega) kd_Mo_closeRow_12 ?_
  refine kz_top (y := nI ((va_up rw_ dp (md_cp NL (rw_ dp) (no dp) (pc_ dp)).2) dp) + (-1)) rfl ?_
  refine kz_top (y := nI ((md_cp NL (rw_ dp) (no dp) (pc_ dp)).2) + (-1)) (by rw [va_up_eq']) ?_
  refine kz_mge X (by omega) kd_Mo_closeRow_13 rfl (fun h13 => ?_) (fun h13 => ?_)
  · refine lv_aload_n hx hb kd_Mo_closeRow_26 rfl (lv_at hl 0 rfl) ?_
    refine kg_Mo_40 X U 0 rfl rfl kd_Mo_closeRow_27 ?_
    refine lv_aload_n hx hb kd_Mo_closeRow_30 rfl (lv_at hl 0 rfl) ?_
    refine kg_Mo_62 X U 0 rfl rfl kd_Mo_closeRow_31 ?_
    refine kz_iald (k := dp) X U 7 rfl (by omega) (by omega) kd_Mo_closeRow_34 ?_
    refine kz_top (y := nI ((va_up rw_ dp (md_cp NL (rw_ dp) (no dp) (pc_ dp)).2) dp) + (-1)) rfl ?_
    refine kz_top (y := nI ((md_cp NL (rw_ dp) (no dp) (pc_ dp)).2 - 1)) (by rw [va_up_eq', sb_m1 h13]) ?_
    refine lv_istore_n hx hb kd_Mo_closeRow_35 rfl hl (by decide) rfl (fun ls hl => ?_)
    have hl : lv_has ls 2 [(1, .int (nI ((md_cp NL (rw_ dp) (no dp) (pc_ dp)).2 - 1))), (0, .ref ho)] := hl
    have U : kz_U D q s A [(ho, .inr (6, [.ref mb, .int (nI sz), .ref mt, .int (nI ln), .ref mw, .int (nI wn), .ref mc, .ref mk, .ref m1, .ref m2, .ref ms, .int (nI dp), .ref mu, .ref mi, .ref mr, .ref mn, .ref mp, .int (nI st_), .int lo_, .int (nI im), .int (nB ex), .ref mj, .int (nI en), .ref me, .ref mh, .int (nB ds)])), (mc, .inl (q 0, 3, .inl (fun x_ => nI ((va_up ct 2 ((md_er (md_cp NL (rw_ dp) (no dp) (pc_ dp))).1.length)) x_)))), (mk, .inl (q 0, 384, .inl (fun x_ => nI (u.1 x_)))), (m1, .inl (q 0, 384, .inl (fun x_ => nI (u.2.1 x_)))), (m2, .inl (q 0, 384, .inl (fun x_ => nI (u.2.2.1 x_)))), (ms, .inl (q 0, 1152, .inl u.2.2.2)), (mi, .inl (q 0, 42, .inl (fun x_ => nI (ii x_) + (-1)))), (mr, .inl (q 0, 42, .inl (fun x_ => nI ((va_up rw_ dp (md_cp NL (rw_ dp) (no dp) (pc_ dp)).2) x_) + (-1)))), (mn, .inl (q 0, 42, .inl (fun x_ => nI ((va_up no dp (if pc_ dp = 0 then no dp else 0)) x_)))), (mp, .inl (q 0, 42, .inl (fun x_ => nI ((va_up pc_ dp 0) x_) + (-1))))] H locs := by rw [show md_er (md_cp NL (rw_ dp) (no dp) (pc_ dp)) = ((md_cp NL (rw_ dp) (no dp) (pc_ dp)).1, (md_cp NL (rw_ dp) (no dp) (pc_ dp)).2 - 1) from if_neg (by omega)]; exact U
    have hl : lv_has ls 2 [(1, .int (nI (md_er (md_cp NL (rw_ dp) (no dp) (pc_ dp))).2)), (0, .ref ho)] := by rw [show md_er (md_cp NL (rw_ dp) (no dp) (pc_ dp)) = ((md_cp NL (rw_ dp) (no dp) (pc_ dp)).1, (md_cp NL (rw_ dp) (no dp) (pc_ dp)).2 - 1) from if_neg (by omega)]; exact hl
    exact join36 u.1 u.2.1 u.2.2.1 u.2.2.2 _ _ _ (by rw [show md_er (md_cp NL (rw_ dp) (no dp) (pc_ dp)) = ((md_cp NL (rw_ dp) (no dp) (pc_ dp)).1, (md_cp NL (rw_ dp) (no dp) (pc_ dp)).2 - 1) from if_neg (by omega)]; exact hu) (lv_sub hl [0, 1] rfl) U
  · refine lv_aload_n hx hb kd_Mo_closeRow_16 rfl (lv_at hl 0 rfl) ?_
    refine kz_ic X 0 kd_Mo_closeRow_17 (by decide) ?_
    refine kz_ic X 0 kd_Mo_closeRow_18 (by decide) ?_
    refine kz_ic X 0 kd_Mo_closeRow_19 (by decide) ?_
    refine kz_cVi (av := [.int (nI 0), .int (nI 0), .int (nI 0)]) (rest := []) (wr := [(mi, .inl (q 0, 42, .inl (fun x_ => nI (ii x_) + (-1)))), (mr, .inl (q 0, 42, .inl (fun x_ => nI ((va_up rw_ dp (md_cp NL (rw_ dp) (no dp) (pc_ dp)).2) x_) + (-1)))), (mn, .inl (q 0, 42, .inl (fun x_ => nI ((va_up no dp (if pc_ dp = 0 then no dp else 0)) x_)))), (mp, .inl (q 0, 42, .inl (fun x_ => nI ((va_up pc_ dp 0) x_) + (-1))))]) X U hl.1 (cm_Mo_node l D q ho mb mt mw mc mk m1 m2 ms mu mi mr mn mp mj me mh sz ln wn dp st_ im en lo_ ex ds ct u.1 u.2.1 u.2.2.1 u.2.2.2 ((md_cp NL (rw_ dp) (no dp) (pc_ dp)).1) b_ 0 0 0 hu (by omega)) (by decide) (by decide) ⟨by decide, by decide⟩ tb_551 tb_553 tb_s27 0 rfl rfl tb_11 tb_554 kq_Mo_node [0, 1, 2, 3, 4, 5] [6, 7, 8, 9] (by decide) rfl rfl (by decide) (by decide) rfl (Nat.le_of_ble_eq_true rfl) kd_Mo_closeRow_20 (fun rv v H locs hu_ U => ?_)
    obtain ⟨hv1, hv2⟩ := hu_
    subst hv1
    have U : kz_U D q s A [(ho, .inr (6, [.ref mb, .int (nI sz), .ref mt, .int (nI ln), .ref mw, .int (nI wn), .ref mc, .ref mk, .ref m1, .ref m2, .ref ms, .int (nI dp), .ref mu, .ref mi, .ref mr, .ref mn, .ref mp, .int (nI st_), .int lo_, .int (nI im), .int (nB ex), .ref mj, .int (nI en), .ref me, .ref mh, .int (nB ds)])), (mc, .inl (q 0, 3, .inl (fun x_ => nI ((va_up ct 2 (((md_cp NL (rw_ dp) (no dp) (pc_ dp)).1).length + 1)) x_)))), (mk, .inl (q 0, 384, .inl (fun x_ => nI (v.1 x_)))), (m1, .inl (q 0, 384, .inl (fun x_ => nI (v.2.1 x_)))), (m2, .inl (q 0, 384, .inl (fun x_ => nI (v.2.2.1 x_)))), (ms, .inl (q 0, 1152, .inl v.2.2.2)), (mi, .inl (q 0, 42, .inl (fun x_ => nI (ii x_) + (-1)))), (mr, .inl (q 0, 42, .inl (fun x_ => nI ((va_up rw_ dp (md_cp NL (rw_ dp) (no dp) (pc_ dp)).2) x_) + (-1)))), (mn, .inl (q 0, 42, .inl (fun x_ => nI ((va_up no dp (if pc_ dp = 0 then no dp else 0)) x_)))), (mp, .inl (q 0, 42, .inl (fun x_ => nI ((va_up pc_ dp 0) x_) + (-1))))] H locs := U.sub [4, 5, 6, 7, 8, 9, 0, 1, 2, 3] (by decide) rfl
    refine lv_goto hx hb kd_Mo_closeRow_23 rfl ?_
    refine lv_istore_n hx hb kd_Mo_closeRow_35 rfl hl (by decide) rfl (fun ls hl => ?_)
    have hl : lv_has ls 2 [(1, .int (nI (((md_cp NL (rw_ dp) (no dp) (pc_ dp)).1).length))), (0, .ref ho)] := hl
    have U : kz_U D q s A [(ho, .inr (6, [.ref mb, .int (nI sz), .ref mt, .int (nI ln), .ref mw, .int (nI wn), .ref mc, .ref mk, .ref m1, .ref m2, .ref ms, .int (nI dp), .ref mu, .ref mi, .ref mr, .ref mn, .ref mp, .int (nI st_), .int lo_, .int (nI im), .int (nB ex), .ref mj, .int (nI en), .ref me, .ref mh, .int (nB ds)])), (mc, .inl (q 0, 3, .inl (fun x_ => nI ((va_up ct 2 ((md_er (md_cp NL (rw_ dp) (no dp) (pc_ dp))).1.length)) x_)))), (mk, .inl (q 0, 384, .inl (fun x_ => nI (v.1 x_)))), (m1, .inl (q 0, 384, .inl (fun x_ => nI (v.2.1 x_)))), (m2, .inl (q 0, 384, .inl (fun x_ => nI (v.2.2.1 x_)))), (ms, .inl (q 0, 1152, .inl v.2.2.2)), (mi, .inl (q 0, 42, .inl (fun x_ => nI (ii x_) + (-1)))), (mr, .inl (q 0, 42, .inl (fun x_ => nI ((va_up rw_ dp (md_cp NL (rw_ dp) (no dp) (pc_ dp)).2) x_) + (-1)))), (mn, .inl (q 0, 42, .inl (fun x_ => nI ((va_up no dp (if pc_ dp = 0 then no dp else 0)) x_)))), (mp, .inl (q 0, 42, .inl (fun x_ => nI ((va_up pc_ dp 0) x_) + (-1))))] H locs := by rw [show md_er (md_cp NL (rw_ dp) (no dp) (pc_ dp)) = ((md_cp NL (rw_ dp) (no dp) (pc_ dp)).1 ++ [(0, 0, 0, fun _ => 0)], (md_cp NL (rw_ dp) (no dp) (pc_ dp)).1.length) from if_pos h13, List.length_append]; exact U
    have hl : lv_has ls 2 [(1, .int (nI (md_er (md_cp NL (rw_ dp) (no dp) (pc_ dp))).2)), (0, .ref ho)] := by rw [show md_er (md_cp NL (rw_ dp) (no dp) (pc_ dp)) = ((md_cp NL (rw_ dp) (no dp) (pc_ dp)).1 ++ [(0, 0, 0, fun _ => 0)], (md_cp NL (rw_ dp) (no dp) (pc_ dp)).1.length) from if_pos h13]; exact hl
    exact join36 v.1 v.2.1 v.2.2.1 v.2.2.2 _ _ _ (by rw [show md_er (md_cp NL (rw_ dp) (no dp) (pc_ dp)) = ((md_cp NL (rw_ dp) (no dp) (pc_ dp)).1 ++ [(0, 0, 0, fun _ => 0)], (md_cp NL (rw_ dp) (no dp) (pc_ dp)).1.length) from if_pos h13]; exact hv2) (lv_sub hl [0, 1] rfl) U

set_option maxHeartbeats 4000000 in
set_option maxRecDepth 100000 in
theorem cm_Mo_closeIntersection (l : Launch) (D : va_G) (q : Nat → ClassId) (ho mb mt mw mc mk m1 m2 ms mu mi mr mn mp mj me mh : Nat) (sz ln wn dp st_ im en : Nat) (lo_ : Int32) (ex ds : Bool) (ct kd on tw : Nat → Nat) (se : Nat → Int32) (NL : List md_N) (b_ : md_B) (un ii rw_ no pc_ : Nat → Nat) (hT : md_T NL b_ kd on tw se) (hdp : dp ≤ 41) (hcap : NL.length + no dp + 4 ≤ 128) (hrw : rw_ dp ≤ NL.length) (hpc : pc_ dp ≤ NL.length) (hii : ii dp < 1000) (hun : un dp < 1000) : kz_Mv (S := (Nat → Nat) × (Nat → Nat) × (Nat → Nat) × (Nat → Int32)) l ky_Mo_closeIntersection kb_Mo_closeIntersection 2 3 D q [.ref ho] [(ho, .inr (6, [.ref mb, .int (nI sz), .ref mt, .int (nI ln), .ref mw, .int (nI wn), .ref mc, .ref mk, .ref m1, .ref m2, .ref ms, .int (nI dp), .ref mu, .ref mi, .ref mr, .ref mn, .ref mp, .int (nI st_), .int lo_, .int (nI im), .int (nB ex), .ref mj, .int (nI en), .ref me, .ref mh, .int (nB ds)])), (mc, .inl (q 0, 3, .inl (fun x_ => nI ((va_up ct 2 NL.length) x_)))), (mk, .inl (q 0, 384, .inl (fun x_ => nI (kd x_)))), (m1, .inl (q 0, 384, .inl (fun x_ => nI (on x_)))), (m2, .inl (q 0, 384, .inl (fun x_ => nI (tw x_)))), (ms, .inl (q 0, 1152, .inl se)), (mu, .inl (q 0, 42, .inl (fun x_ => nI (un x_) + (-1)))), (mi, .inl (q 0, 42, .inl (fun x_ => nI (ii x_) + (-1)))), (mr, .inl (q 0, 42, .inl (fun x_ => nI (rw_ x_) + (-1)))), (mn, .inl (q 0, 42, .inl (fun x_ => nI (no x_)))), (mp, .inl (q 0, 42, .inl (fun x_ => nI (pc_ x_) + (-1))))] (fun u => md_T (md_ci NL (un dp) (ii dp) (rw_ dp) (no dp) (pc_ dp)).1 b_ u.1 u.2.1 u.2.2.1 u.2.2.2) (fun u => [(ho, .inr (6, [.ref mb, .int (nI sz), .ref mt, .int (nI ln), .ref mw, .int (nI wn), .ref mc, .ref mk, .ref m1, .ref m2, .ref ms, .int (nI dp), .ref mu, .ref mi, .ref mr, .ref mn, .ref mp, .int (nI st_), .int lo_, .int (nI im), .int (nB ex), .ref mj, .int (nI en), .ref me, .ref mh, .int (nB ds)])), (mc, .inl (q 0, 3, .inl (fun x_ => nI ((va_up ct 2 ((md_ci NL (un dp) (ii dp) (rw_ dp) (no dp) (pc_ dp)).1.length)) x_)))), (mk, .inl (q 0, 384, .inl (fun x_ => nI (u.1 x_)))), (m1, .inl (q 0, 384, .inl (fun x_ => nI (u.2.1 x_)))), (m2, .inl (q 0, 384, .inl (fun x_ => nI (u.2.2.1 x_)))), (ms, .inl (q 0, 1152, .inl u.2.2.2)), (mu, .inl (q 0, 42, .inl (fun x_ => nI ((va_up un dp (md_ci NL (un dp) (ii dp) (rw_ dp) (no dp) (pc_ dp)).2) x_) + (-1)))), (mi, .inl (q 0, 42, .inl (fun x_ => nI ((va_up ii dp 0) x_) + (-1)))), (mr, .inl (q 0, 42, .inl (fun x_ => nI ((va_up rw_ dp 0) x_) + (-1)))), (mn, .inl (q 0, 42, .inl (fun x_ => nI ((va_up no dp (if pc_ dp = 0 then no dp else 0)) x_)))), (mp, .inl (q 0, 42, .inl (fun x_ => nI ((va_up pc_ dp 0) x_) + (-1))))]) := by
  intro sz_
  refine kz_go (by decide +kernel) (Nat.le_of_ble_eq_true rfl) ?_
  intro p e s m below meth c ls args A Q H locs hQ hA X U hl
  have hx := X.1
  have hb := X.2.1
  have hl : lv_has ls 2 [(0, .ref ho)] := hl
  have hcl_ := md_cr_len (iv := ii dp) (nv := no dp) hrw hpc
  refine lv_aload_n hx hb kd_Mo_closeIntersection_0 rfl (lv_at hl 0 rfl) ?_
  refine kz_cVv (av := []) (rest := []) (wr := [(mu, .inl (q 0, 42, .inl (fun x_ => nI (un x_) + (-1))))]) X U hl.1 (cm_Mo_closeRow l D q ho mb mt mw mc mk m1 m2 ms mu mi mr mn mp mj me mh sz ln wn dp st_ im en lo_ ex ds ct kd on tw se NL b_ un ii rw_ no pc_ hT hdp (by omega) hrw hpc hii) (by decide) (by decide) ⟨by decide, by decide⟩ tb_543 tb_545 tb_s25 0 rfl rfl tb_11 tb_546 kq_Mo_closeRow [0, 1, 2, 3, 4, 5, 7, 8, 9, 10] [6] (by decide) rfl rfl (by decide) (by decide) rfl (Nat.le_of_ble_eq_true rfl) kd_Mo_closeIntersection_1 (fun u H locs hu U => ?_)
  have U : kz_U D q s A [(ho, .inr (6, [.ref mb, .int (nI sz), .ref mt, .int (nI ln), .ref mw, .int (nI wn), .ref mc, .ref mk, .ref m1, .ref m2, .ref ms, .int (nI dp), .ref mu, .ref mi, .ref mr, .ref mn, .ref mp, .int (nI st_), .int lo_, .int (nI im), .int (nB ex), .ref mj, .int (nI en), .ref me, .ref mh, .int (nB ds)])), (mc, .inl (q 0, 3, .inl (fun x_ => nI ((va_up ct 2 ((md_cr NL (ii dp) (rw_ dp) (no dp) (pc_ dp)).1.length)) x_)))), (mk, .inl (q 0, 384, .inl (fun x_ => nI (u.1 x_)))), (m1, .inl (q 0, 384, .inl (fun x_ => nI (u.2.1 x_)))), (m2, .inl (q 0, 384, .inl (fun x_ => nI (u.2.2.1 x_)))), (ms, .inl (q 0, 1152, .inl u.2.2.2)), (mu, .inl (q 0, 42, .inl (fun x_ => nI (un x_) + (-1)))), (mi, .inl (q 0, 42, .inl (fun x_ => nI ((va_up ii dp (md_cr NL (ii dp) (rw_ dp) (no dp) (pc_ dp)).2) x_) + (-1)))), (mr, .inl (q 0, 42, .inl (fun x_ => nI ((va_up rw_ dp 0) x_) + (-1)))), (mn, .inl (q 0, 42, .inl (fun x_ => nI ((va_up no dp (if pc_ dp = 0 then no dp else 0)) x_)))), (mp, .inl (q 0, 42, .inl (fun x_ => nI ((va_up pc_ dp 0) x_) + (-1))))] H locs := U.sub [1, 2, 3, 4, 5, 6, 0, 7, 8, 9, 10] (by decide) rfl
  refine lv_aload_n hx hb kd_Mo_closeIntersection_4 rfl (lv_at hl 0 rfl) ?_
  refine kg_Mo_37 X U 0 rfl rfl kd_Mo_closeIntersection_5 ?_
  refine lv_aload_n hx hb kd_Mo_closeIntersection_8 rfl (lv_at hl 0 rfl) ?_
  refine kg_Mo_62 X U 0 rfl rfl kd_Mo_closeIntersection_9 ?_
  refine kz_iald (k := dp) X U 7 rfl (by omega) (by omega) kd_Mo_closeIntersection_12 ?_
  refine kz_top (y := nI ((va_up ii dp (md_cr NL (ii dp) (rw_ dp) (no dp) (pc_ dp)).2) dp) + (-1)) rfl ?_
  refine kz_top (y := nI ((md_cr NL (ii dp) (rw_ dp) (no dp) (pc_ dp)).2 - 1)) (by rw [va_up_eq', sb_m1 hcl_.2.2.1]) ?_
  refine lv_istore_n hx hb kd_Mo_closeIntersection_13 rfl hl (by decide) rfl (fun ls hl => ?_)
  have hl : lv_has ls 2 [(1, .int (nI ((md_cr NL (ii dp) (rw_ dp) (no dp) (pc_ dp)).2 - 1))), (0, .ref ho)] := hl
  refine lv_aload_n hx hb kd_Mo_closeIntersection_14 rfl (lv_at hl 1 rfl) ?_
  refine kg_Mo_34 X U 0 rfl rfl kd_Mo_closeIntersection_15 ?_
  refine lv_aload_n hx hb kd_Mo_closeIntersection_18 rfl (lv_at hl 1 rfl) ?_
  refine kg_Mo_62 X U 0 rfl rfl kd_Mo_closeIntersection_19 ?_
  refine lv_aload_n hx hb kd_Mo_closeIntersection_22 rfl (lv_at hl 1 rfl) ?_
  refine kg_Mo_34 X U 0 rfl rfl kd_Mo_closeIntersection_23 ?_
  refine lv_aload_n hx hb kd_Mo_closeIntersection_26 rfl (lv_at hl 1 rfl) ?_
  refine kg_Mo_62 X U 0 rfl rfl kd_Mo_closeIntersection_27 ?_
  refine kz_iald (k := dp) X U 6 rfl (by omega) (by omega) kd_Mo_closeIntersection_30 ?_
  refine kz_top (y := nI (un dp) + (-1)) rfl ?_
  refine kz_mge X (by omega) kd_Mo_closeIntersection_31 rfl (fun h31 => ?_) (fun h31 => ?_)
  · refine lv_aload_n hx hb kd_Mo_closeIntersection_38 rfl (lv_at hl 1 rfl) ?_
    refine kz_ic X 4 kd_Mo_closeIntersection_39 (by decide) ?_
    refine lv_aload_n hx hb kd_Mo_closeIntersection_40 rfl (lv_at hl 1 rfl) ?_
    refine kg_Mo_34 X U 0 rfl rfl kd_Mo_closeIntersection_41 ?_
    refine lv_aload_n hx hb kd_Mo_closeIntersection_44 rfl (lv_at hl 1 rfl) ?_
    refine kg_Mo_62 X U 0 rfl rfl kd_Mo_closeIntersection_45 ?_
    refine kz_iald (k := dp) X U 6 rfl (by omega) (by omega) kd_Mo_closeIntersection_48 ?_
    refine kz_top (y := nI (un dp) + (-1)) rfl ?_
    refine kz_top (y := nI (un dp - 1)) (sb_m1 h31) ?_
    refine lv_iload_n hx hb kd_Mo_closeIntersection_49 rfl (lv_at hl 0 rfl) ?_
    refine kz_cVi (av := [.int (nI 4), .int (nI (un dp - 1)), .int (nI ((md_cr NL (ii dp) (rw_ dp) (no dp) (pc_ dp)).2 - 1))]) (rest := [.int (nI dp), .ref mu]) (wr := [(mu, .inl (q 0, 42, .inl (fun x_ => nI (un x_) + (-1)))), (mi, .inl (q 0, 42, .inl (fun x_ => nI ((va_up ii dp (md_cr NL (ii dp) (rw_ dp) (no dp) (pc_ dp)).2) x_) + (-1)))), (mr, .inl (q 0, 42, .inl (fun x_ => nI ((va_up rw_ dp 0) x_) + (-1)))), (mn, .inl (q 0, 42, .inl (fun x_ => nI ((va_up no dp (if pc_ dp = 0 then no dp else 0)) x_)))), (mp, .inl (q 0, 42, .inl (fun x_ => nI ((va_up pc_ dp 0) x_) + (-1))))]) X U hl.1 (cm_Mo_node l D q ho mb mt mw mc mk m1 m2 ms mu mi mr mn mp mj me mh sz ln wn dp st_ im en lo_ ex ds ct u.1 u.2.1 u.2.2.1 u.2.2.2 ((md_cr NL (ii dp) (rw_ dp) (no dp) (pc_ dp)).1) b_ 4 (un dp - 1) ((md_cr NL (ii dp) (rw_ dp) (no dp) (pc_ dp)).2 - 1) hu (by omega)) (by decide) (by decide) ⟨by decide, by decide⟩ tb_551 tb_553 tb_s27 0 rfl rfl tb_11 tb_554 kq_Mo_node [0, 1, 2, 3, 4, 5] [6, 7, 8, 9, 10] (by decide) rfl rfl (by decide) (by decide) rfl (Nat.le_of_ble_eq_true rfl) kd_Mo_closeIntersection_50 (fun rv y H locs hu_ U => ?_)
    obtain ⟨hy1, hy2⟩ := hu_
    subst hy1
    have U : kz_U D q s A [(ho, .inr (6, [.ref mb, .int (nI sz), .ref mt, .int (nI ln), .ref mw, .int (nI wn), .ref mc, .ref mk, .ref m1, .ref m2, .ref ms, .int (nI dp), .ref mu, .ref mi, .ref mr, .ref mn, .ref mp, .int (nI st_), .int lo_, .int (nI im), .int (nB ex), .ref mj, .int (nI en), .ref me, .ref mh, .int (nB ds)])), (mc, .inl (q 0, 3, .inl (fun x_ => nI ((va_up ct 2 (((md_cr NL (ii dp) (rw_ dp) (no dp) (pc_ dp)).1).length + 1)) x_)))), (mk, .inl (q 0, 384, .inl (fun x_ => nI (y.1 x_)))), (m1, .inl (q 0, 384, .inl (fun x_ => nI (y.2.1 x_)))), (m2, .inl (q 0, 384, .inl (fun x_ => nI (y.2.2.1 x_)))), (ms, .inl (q 0, 1152, .inl y.2.2.2)), (mu, .inl (q 0, 42, .inl (fun x_ => nI (un x_) + (-1)))), (mi, .inl (q 0, 42, .inl (fun x_ => nI ((va_up ii dp (md_cr NL (ii dp) (rw_ dp) (no dp) (pc_ dp)).2) x_) + (-1)))), (mr, .inl (q 0, 42, .inl (fun x_ => nI ((va_up rw_ dp 0) x_) + (-1)))), (mn, .inl (q 0, 42, .inl (fun x_ => nI ((va_up no dp (if pc_ dp = 0 then no dp else 0)) x_)))), (mp, .inl (q 0, 42, .inl (fun x_ => nI ((va_up pc_ dp 0) x_) + (-1))))] H locs := U.sub [5, 6, 7, 8, 9, 10, 0, 1, 2, 3, 4] (by decide) rfl
    refine kz_top (y := nI ((((md_cr NL (ii dp) (rw_ dp) (no dp) (pc_ dp)).1).length) + 1) + (-1)) (pk_m1 _).symm ?_
    refine kz_iast (k := dp) X U 6 rfl (by omega) (by omega) kd_Mo_closeIntersection_53 (fun H locs U => ?_)
    rw [kz_updM] at U
    have U : kz_U D q s A [(ho, .inr (6, [.ref mb, .int (nI sz), .ref mt, .int (nI ln), .ref mw, .int (nI wn), .ref mc, .ref mk, .ref m1, .ref m2, .ref ms, .int (nI dp), .ref mu, .ref mi, .ref mr, .ref mn, .ref mp, .int (nI st_), .int lo_, .int (nI im), .int (nB ex), .ref mj, .int (nI en), .ref me, .ref mh, .int (nB ds)])), (mc, .inl (q 0, 3, .inl (fun x_ => nI ((va_up ct 2 (((md_cr NL (ii dp) (rw_ dp) (no dp) (pc_ dp)).1).length + 1)) x_)))), (mk, .inl (q 0, 384, .inl (fun x_ => nI (y.1 x_)))), (m1, .inl (q 0, 384, .inl (fun x_ => nI (y.2.1 x_)))), (m2, .inl (q 0, 384, .inl (fun x_ => nI (y.2.2.1 x_)))), (ms, .inl (q 0, 1152, .inl y.2.2.2)), (mu, .inl (q 0, 42, .inl (fun x_ => nI ((va_up un dp ((((md_cr NL (ii dp) (rw_ dp) (no dp) (pc_ dp)).1).length) + 1)) x_) + (-1)))), (mi, .inl (q 0, 42, .inl (fun x_ => nI ((va_up ii dp (md_cr NL (ii dp) (rw_ dp) (no dp) (pc_ dp)).2) x_) + (-1)))), (mr, .inl (q 0, 42, .inl (fun x_ => nI ((va_up rw_ dp 0) x_) + (-1)))), (mn, .inl (q 0, 42, .inl (fun x_ => nI ((va_up no dp (if pc_ dp = 0 then no dp else 0)) x_)))), (mp, .inl (q 0, 42, .inl (fun x_ => nI ((va_up pc_ dp 0) x_) + (-1))))] H locs := U
    refine lv_aload_n hx hb kd_Mo_closeIntersection_54 rfl (lv_at hl 1 rfl) ?_
    refine kg_Mo_37 X U 0 rfl rfl kd_Mo_closeIntersection_55 ?_
    refine lv_aload_n hx hb kd_Mo_closeIntersection_58 rfl (lv_at hl 1 rfl) ?_
    refine kg_Mo_62 X U 0 rfl rfl kd_Mo_closeIntersection_59 ?_
    refine lv_iconst (v := (-1)) hx hb kd_Mo_closeIntersection_62 (by decide) ?_
    refine kz_top (y := nI 0 + (-1)) (by decide) ?_
    refine kz_iast (k := dp) X U 7 rfl (by omega) (by omega) kd_Mo_closeIntersection_63 (fun H locs U => ?_)
    rw [kz_updM] at U
    have U : kz_U D q s A [(ho, .inr (6, [.ref mb, .int (nI sz), .ref mt, .int (nI ln), .ref mw, .int (nI wn), .ref mc, .ref mk, .ref m1, .ref m2, .ref ms, .int (nI dp), .ref mu, .ref mi, .ref mr, .ref mn, .ref mp, .int (nI st_), .int lo_, .int (nI im), .int (nB ex), .ref mj, .int (nI en), .ref me, .ref mh, .int (nB ds)])), (mc, .inl (q 0, 3, .inl (fun x_ => nI ((va_up ct 2 (((md_cr NL (ii dp) (rw_ dp) (no dp) (pc_ dp)).1).length + 1)) x_)))), (mk, .inl (q 0, 384, .inl (fun x_ => nI (y.1 x_)))), (m1, .inl (q 0, 384, .inl (fun x_ => nI (y.2.1 x_)))), (m2, .inl (q 0, 384, .inl (fun x_ => nI (y.2.2.1 x_)))), (ms, .inl (q 0, 1152, .inl y.2.2.2)), (mu, .inl (q 0, 42, .inl (fun x_ => nI ((va_up un dp ((((md_cr NL (ii dp) (rw_ dp) (no dp) (pc_ dp)).1).length) + 1)) x_) + (-1)))), (mi, .inl (q 0, 42, .inl (fun x_ => nI ((va_up (va_up ii dp (md_cr NL (ii dp) (rw_ dp) (no dp) (pc_ dp)).2) dp 0) x_) + (-1)))), (mr, .inl (q 0, 42, .inl (fun x_ => nI ((va_up rw_ dp 0) x_) + (-1)))), (mn, .inl (q 0, 42, .inl (fun x_ => nI ((va_up no dp (if pc_ dp = 0 then no dp else 0)) x_)))), (mp, .inl (q 0, 42, .inl (fun x_ => nI ((va_up pc_ dp 0) x_) + (-1))))] H locs := U
    exact kz_ev hQ hA X U ((y.1, y.2.1, y.2.2.1, y.2.2.2)) (by rw [show md_ci NL (un dp) (ii dp) (rw_ dp) (no dp) (pc_ dp) = ((md_cr NL (ii dp) (rw_ dp) (no dp) (pc_ dp)).1 ++ [(4, un dp - 1, (md_cr NL (ii dp) (rw_ dp) (no dp) (pc_ dp)).2 - 1, fun _ => 0)], (md_cr NL (ii dp) (rw_ dp) (no dp) (pc_ dp)).1.length + 1) from if_neg (by omega), bx_uu, List.length_append]; rfl) (by rw [show md_ci NL (un dp) (ii dp) (rw_ dp) (no dp) (pc_ dp) = ((md_cr NL (ii dp) (rw_ dp) (no dp) (pc_ dp)).1 ++ [(4, un dp - 1, (md_cr NL (ii dp) (rw_ dp) (no dp) (pc_ dp)).2 - 1, fun _ => 0)], (md_cr NL (ii dp) (rw_ dp) (no dp) (pc_ dp)).1.length + 1) from if_neg (by omega)]; exact hy2) kd_Mo_closeIntersection_64
  · refine lv_iload_n hx hb kd_Mo_closeIntersection_34 rfl (lv_at hl 0 rfl) ?_
    refine lv_goto hx hb kd_Mo_closeIntersection_35 rfl ?_
    refine kz_top (y := nI (((md_cr NL (ii dp) (rw_ dp) (no dp) (pc_ dp)).2 - 1) + 1) + (-1)) (pk_m1 _).symm ?_
    refine kz_iast (k := dp) X U 6 rfl (by omega) (by omega) kd_Mo_closeIntersection_53 (fun H locs U => ?_)
    rw [kz_updM] at U
    have U : kz_U D q s A [(ho, .inr (6, [.ref mb, .int (nI sz), .ref mt, .int (nI ln), .ref mw, .int (nI wn), .ref mc, .ref mk, .ref m1, .ref m2, .ref ms, .int (nI dp), .ref mu, .ref mi, .ref mr, .ref mn, .ref mp, .int (nI st_), .int lo_, .int (nI im), .int (nB ex), .ref mj, .int (nI en), .ref me, .ref mh, .int (nB ds)])), (mc, .inl (q 0, 3, .inl (fun x_ => nI ((va_up ct 2 ((md_cr NL (ii dp) (rw_ dp) (no dp) (pc_ dp)).1.length)) x_)))), (mk, .inl (q 0, 384, .inl (fun x_ => nI (u.1 x_)))), (m1, .inl (q 0, 384, .inl (fun x_ => nI (u.2.1 x_)))), (m2, .inl (q 0, 384, .inl (fun x_ => nI (u.2.2.1 x_)))), (ms, .inl (q 0, 1152, .inl u.2.2.2)), (mu, .inl (q 0, 42, .inl (fun x_ => nI ((va_up un dp (((md_cr NL (ii dp) (rw_ dp) (no dp) (pc_ dp)).2 - 1) + 1)) x_) + (-1)))), (mi, .inl (q 0, 42, .inl (fun x_ => nI ((va_up ii dp (md_cr NL (ii dp) (rw_ dp) (no dp) (pc_ dp)).2) x_) + (-1)))), (mr, .inl (q 0, 42, .inl (fun x_ => nI ((va_up rw_ dp 0) x_) + (-1)))), (mn, .inl (q 0, 42, .inl (fun x_ => nI ((va_up no dp (if pc_ dp = 0 then no dp else 0)) x_)))), (mp, .inl (q 0, 42, .inl (fun x_ => nI ((va_up pc_ dp 0) x_) + (-1))))] H locs := U
    refine lv_aload_n hx hb kd_Mo_closeIntersection_54 rfl (lv_at hl 1 rfl) ?_
    refine kg_Mo_37 X U 0 rfl rfl kd_Mo_closeIntersection_55 ?_
    refine lv_aload_n hx hb kd_Mo_closeIntersection_58 rfl (lv_at hl 1 rfl) ?_
    refine kg_Mo_62 X U 0 rfl rfl kd_Mo_closeIntersection_59 ?_
    refine lv_iconst (v := (-1)) hx hb kd_Mo_closeIntersection_62 (by decide) ?_
    refine kz_top (y := nI 0 + (-1)) (by decide) ?_
    refine kz_iast (k := dp) X U 7 rfl (by omega) (by omega) kd_Mo_closeIntersection_63 (fun H locs U => ?_)
    rw [kz_updM] at U
    have U : kz_U D q s A [(ho, .inr (6, [.ref mb, .int (nI sz), .ref mt, .int (nI ln), .ref mw, .int (nI wn), .ref mc, .ref mk, .ref m1, .ref m2, .ref ms, .int (nI dp), .ref mu, .ref mi, .ref mr, .ref mn, .ref mp, .int (nI st_), .int lo_, .int (nI im), .int (nB ex), .ref mj, .int (nI en), .ref me, .ref mh, .int (nB ds)])), (mc, .inl (q 0, 3, .inl (fun x_ => nI ((va_up ct 2 ((md_cr NL (ii dp) (rw_ dp) (no dp) (pc_ dp)).1.length)) x_)))), (mk, .inl (q 0, 384, .inl (fun x_ => nI (u.1 x_)))), (m1, .inl (q 0, 384, .inl (fun x_ => nI (u.2.1 x_)))), (m2, .inl (q 0, 384, .inl (fun x_ => nI (u.2.2.1 x_)))), (ms, .inl (q 0, 1152, .inl u.2.2.2)), (mu, .inl (q 0, 42, .inl (fun x_ => nI ((va_up un dp (((md_cr NL (ii dp) (rw_ dp) (no dp) (pc_ dp)).2 - 1) + 1)) x_) + (-1)))), (mi, .inl (q 0, 42, .inl (fun x_ => nI ((va_up (va_up ii dp (md_cr NL (ii dp) (rw_ dp) (no dp) (pc_ dp)).2) dp 0) x_) + (-1)))), (mr, .inl (q 0, 42, .inl (fun x_ => nI ((va_up rw_ dp 0) x_) + (-1)))), (mn, .inl (q 0, 42, .inl (fun x_ => nI ((va_up no dp (if pc_ dp = 0 then no dp else 0)) x_)))), (mp, .inl (q 0, 42, .inl (fun x_ => nI ((va_up pc_ dp 0) x_) + (-1))))] H locs := U
    exact kz_ev hQ hA X U ((u.1, u.2.1, u.2.2.1, u.2.2.2)) (by rw [show md_ci NL (un dp) (ii dp) (rw_ dp) (no dp) (pc_ dp) = ((md_cr NL (ii dp) (rw_ dp) (no dp) (pc_ dp)).1, (md_cr NL (ii dp) (rw_ dp) (no dp) (pc_ dp)).2 - 1 + 1) from if_pos h31, bx_uu]) (by rw [show md_ci NL (un dp) (ii dp) (rw_ dp) (no dp) (pc_ dp) = ((md_cr NL (ii dp) (rw_ dp) (no dp) (pc_ dp)).1, (md_cr NL (ii dp) (rw_ dp) (no dp) (pc_ dp)).2 - 1 + 1) from if_pos h31]; exact hu) kd_Mo_closeIntersection_64

set_option maxHeartbeats 4000000 in
set_option maxRecDepth 100000 in
theorem cm_Mo_mark (l : Launch) (D : va_G) (q : Nat → ClassId) (ho mb mt mw mc mk m1 m2 ms mu mi mr mn mp mj me mh : Nat) (sz ln wn dp st_ im en : Nat) (lo_ : Int32) (ex ds : Bool) (ct kd on tw : Nat → Nat) (se : Nat → Int32) (NL : List md_N) (b_ : md_B) (un ii rw_ no pc_ : Nat → Nat) (k x y : Nat) (hT : md_T NL b_ kd on tw se) (hdp : dp ≤ 41) (hcap : NL.length + 1 ≤ 128) (hpc0 : 0 < pc_ dp) (hpc : pc_ dp ≤ NL.length) : kz_Mv (S := (Nat → Nat) × (Nat → Nat) × (Nat → Nat) × (Nat → Int32)) l ky_Mo_mark kb_Mo_mark 5 1 D q [.ref ho, .int (nI k), .int (nI x), .int (nI y)] [(ho, .inr (6, [.ref mb, .int (nI sz), .ref mt, .int (nI ln), .ref mw, .int (nI wn), .ref mc, .ref mk, .ref m1, .ref m2, .ref ms, .int (nI dp), .ref mu, .ref mi, .ref mr, .ref mn, .ref mp, .int (nI st_), .int lo_, .int (nI im), .int (nB ex), .ref mj, .int (nI en), .ref me, .ref mh, .int (nB ds)])), (mc, .inl (q 0, 3, .inl (fun x_ => nI ((va_up ct 2 NL.length) x_)))), (mk, .inl (q 0, 384, .inl (fun x_ => nI (kd x_)))), (m1, .inl (q 0, 384, .inl (fun x_ => nI (on x_)))), (m2, .inl (q 0, 384, .inl (fun x_ => nI (tw x_)))), (ms, .inl (q 0, 1152, .inl se)), (mp, .inl (q 0, 42, .inl (fun x_ => nI (pc_ x_) + (-1))))] (fun u => md_T (md_set (NL ++ [(k, pc_ dp - 1, x, fun _ => 0)]) NL.length 0 (nI y)) b_ u.1 u.2.1 u.2.2.1 u.2.2.2) (fun u => [(ho, .inr (6, [.ref mb, .int (nI sz), .ref mt, .int (nI ln), .ref mw, .int (nI wn), .ref mc, .ref mk, .ref m1, .ref m2, .ref ms, .int (nI dp), .ref mu, .ref mi, .ref mr, .ref mn, .ref mp, .int (nI 0), .int lo_, .int (nI im), .int (nB ex), .ref mj, .int (nI en), .ref me, .ref mh, .int (nB ds)])), (mc, .inl (q 0, 3, .inl (fun x_ => nI ((va_up ct 2 ((md_set (NL ++ [(k, pc_ dp - 1, x, fun _ => 0)]) NL.length 0 (nI y)).length)) x_)))), (mk, .inl (q 0, 384, .inl (fun x_ => nI (u.1 x_)))), (m1, .inl (q 0, 384, .inl (fun x_ => nI (u.2.1 x_)))), (m2, .inl (q 0, 384, .inl (fun x_ => nI (u.2.2.1 x_)))), (ms, .inl (q 0, 1152, .inl u.2.2.2)), (mp, .inl (q 0, 42, .inl (fun x_ => nI ((va_up pc_ dp (NL.length + 1)) x_) + (-1))))]) := by
  intro sz_
  refine kz_go (by decide +kernel) (Nat.le_of_ble_eq_true rfl) ?_
  intro p e s m below meth c ls args A Q H locs hQ hA X U hl
  have hx := X.1
  have hb := X.2.1
  have hl : lv_has ls 5 [(0, .ref ho), (1, .int (nI k)), (2, .int (nI x)), (3, .int (nI y))] := hl
  refine lv_aload_n hx hb kd_Mo_mark_0 rfl (lv_at hl 0 rfl) ?_
  refine lv_iload_n hx hb kd_Mo_mark_1 rfl (lv_at hl 1 rfl) ?_
  refine lv_aload_n hx hb kd_Mo_mark_2 rfl (lv_at hl 0 rfl) ?_
  refine kg_Mo_46 X U 0 rfl rfl kd_Mo_mark_3 ?_
  refine lv_aload_n hx hb kd_Mo_mark_6 rfl (lv_at hl 0 rfl) ?_
  refine kg_Mo_62 X U 0 rfl rfl kd_Mo_mark_7 ?_
  refine kz_iald (k := dp) X U 6 rfl (by omega) (by omega) kd_Mo_mark_10 ?_
  refine kz_top (y := nI (pc_ dp) + (-1)) rfl ?_
  refine kz_top (y := nI (pc_ dp - 1)) (sb_m1 hpc0) ?_
  refine lv_iload_n hx hb kd_Mo_mark_11 rfl (lv_at hl 2 rfl) ?_
  refine kz_cVi (av := [.int (nI k), .int (nI (pc_ dp - 1)), .int (nI x)]) (rest := []) (wr := [(mp, .inl (q 0, 42, .inl (fun x_ => nI (pc_ x_) + (-1))))]) X U hl.1 (cm_Mo_node l D q ho mb mt mw mc mk m1 m2 ms mu mi mr mn mp mj me mh sz ln wn dp st_ im en lo_ ex ds ct kd on tw se NL b_ k (pc_ dp - 1) x hT (by omega)) (by decide) (by decide) ⟨by decide, by decide⟩ tb_551 tb_553 tb_s27 0 rfl rfl tb_11 tb_554 kq_Mo_node [0, 1, 2, 3, 4, 5] [6] (by decide) rfl rfl (by decide) (by decide) rfl (Nat.le_of_ble_eq_true rfl) kd_Mo_mark_12 (fun rv u H locs hu_ U => ?_)
  obtain ⟨hu1, hu2⟩ := hu_
  subst hu1
  have U : kz_U D q s A [(ho, .inr (6, [.ref mb, .int (nI sz), .ref mt, .int (nI ln), .ref mw, .int (nI wn), .ref mc, .ref mk, .ref m1, .ref m2, .ref ms, .int (nI dp), .ref mu, .ref mi, .ref mr, .ref mn, .ref mp, .int (nI st_), .int lo_, .int (nI im), .int (nB ex), .ref mj, .int (nI en), .ref me, .ref mh, .int (nB ds)])), (mc, .inl (q 0, 3, .inl (fun x_ => nI ((va_up ct 2 (NL.length + 1)) x_)))), (mk, .inl (q 0, 384, .inl (fun x_ => nI (u.1 x_)))), (m1, .inl (q 0, 384, .inl (fun x_ => nI (u.2.1 x_)))), (m2, .inl (q 0, 384, .inl (fun x_ => nI (u.2.2.1 x_)))), (ms, .inl (q 0, 1152, .inl u.2.2.2)), (mp, .inl (q 0, 42, .inl (fun x_ => nI (pc_ x_) + (-1))))] H locs := U.sub [1, 2, 3, 4, 5, 6, 0] (by decide) rfl
  refine lv_istore hx hb kd_Mo_mark_15 hl (by decide) rfl (fun ls hl => ?_)
  have hl : lv_has ls 5 [(4, .int (nI NL.length)), (0, .ref ho), (1, .int (nI k)), (2, .int (nI x)), (3, .int (nI y))] := hl
  refine lv_aload_n hx hb kd_Mo_mark_17 rfl (lv_at hl 1 rfl) ?_
  refine kg_Mo_31 X U 0 rfl rfl kd_Mo_mark_18 ?_
  refine kz_ic X 3 kd_Mo_mark_21 (by decide) ?_
  refine kz_sp X 256 kd_Mo_mark_22 (by decide) ?_
  refine lv_iload hx hb kd_Mo_mark_25 (lv_at hl 0 rfl) ?_
  refine kz_iadd X kd_Mo_mark_27 ?_
  refine kz_top (y := nI (256 + NL.length)) rfl ?_
  refine kz_imul X kd_Mo_mark_28 ?_
  refine kz_top (y := nI (3 * (256 + NL.length))) rfl ?_
  refine lv_iload_n hx hb kd_Mo_mark_29 rfl (lv_at hl 4 rfl) ?_
  refine kz_iast (k := 3 * (256 + NL.length)) X U 5 rfl (by omega) (by omega) kd_Mo_mark_30 (fun H locs U => ?_)
  have U : kz_U D q s A [(ho, .inr (6, [.ref mb, .int (nI sz), .ref mt, .int (nI ln), .ref mw, .int (nI wn), .ref mc, .ref mk, .ref m1, .ref m2, .ref ms, .int (nI dp), .ref mu, .ref mi, .ref mr, .ref mn, .ref mp, .int (nI st_), .int lo_, .int (nI im), .int (nB ex), .ref mj, .int (nI en), .ref me, .ref mh, .int (nB ds)])), (mc, .inl (q 0, 3, .inl (fun x_ => nI ((va_up ct 2 (NL.length + 1)) x_)))), (mk, .inl (q 0, 384, .inl (fun x_ => nI (u.1 x_)))), (m1, .inl (q 0, 384, .inl (fun x_ => nI (u.2.1 x_)))), (m2, .inl (q 0, 384, .inl (fun x_ => nI (u.2.2.1 x_)))), (ms, .inl (q 0, 1152, .inl (upd u.2.2.2 (3 * (256 + NL.length)) (nI y)))), (mp, .inl (q 0, 42, .inl (fun x_ => nI (pc_ x_) + (-1))))] H locs := U
  refine lv_aload_n hx hb kd_Mo_mark_31 rfl (lv_at hl 1 rfl) ?_
  refine kg_Mo_46 X U 0 rfl rfl kd_Mo_mark_32 ?_
  refine lv_aload_n hx hb kd_Mo_mark_35 rfl (lv_at hl 1 rfl) ?_
  refine kg_Mo_62 X U 0 rfl rfl kd_Mo_mark_36 ?_
  refine lv_iload hx hb kd_Mo_mark_39 (lv_at hl 0 rfl) ?_
  refine kz_top (y := nI (NL.length + 1) + (-1)) (pk_m1 _).symm ?_
  refine kz_iast (k := dp) X U 6 rfl (by omega) (by omega) kd_Mo_mark_41 (fun H locs U => ?_)
  rw [kz_updM] at U
  have U : kz_U D q s A [(ho, .inr (6, [.ref mb, .int (nI sz), .ref mt, .int (nI ln), .ref mw, .int (nI wn), .ref mc, .ref mk, .ref m1, .ref m2, .ref ms, .int (nI dp), .ref mu, .ref mi, .ref mr, .ref mn, .ref mp, .int (nI st_), .int lo_, .int (nI im), .int (nB ex), .ref mj, .int (nI en), .ref me, .ref mh, .int (nB ds)])), (mc, .inl (q 0, 3, .inl (fun x_ => nI ((va_up ct 2 (NL.length + 1)) x_)))), (mk, .inl (q 0, 384, .inl (fun x_ => nI (u.1 x_)))), (m1, .inl (q 0, 384, .inl (fun x_ => nI (u.2.1 x_)))), (m2, .inl (q 0, 384, .inl (fun x_ => nI (u.2.2.1 x_)))), (ms, .inl (q 0, 1152, .inl (upd u.2.2.2 (3 * (256 + NL.length)) (nI y)))), (mp, .inl (q 0, 42, .inl (fun x_ => nI ((va_up pc_ dp (NL.length + 1)) x_) + (-1))))] H locs := U
  refine lv_aload_n hx hb kd_Mo_mark_42 rfl (lv_at hl 1 rfl) ?_
  refine kz_ic X 0 kd_Mo_mark_43 (by decide) ?_
  refine kp_Mo_75 X U 0 rfl (Nat.le_of_ble_eq_true rfl) kd_Mo_mark_44 (fun H locs U => ?_)
  have U : kz_U D q s A [(ho, .inr (6, [.ref mb, .int (nI sz), .ref mt, .int (nI ln), .ref mw, .int (nI wn), .ref mc, .ref mk, .ref m1, .ref m2, .ref ms, .int (nI dp), .ref mu, .ref mi, .ref mr, .ref mn, .ref mp, .int (nI 0), .int lo_, .int (nI im), .int (nB ex), .ref mj, .int (nI en), .ref me, .ref mh, .int (nB ds)])), (mc, .inl (q 0, 3, .inl (fun x_ => nI ((va_up ct 2 (NL.length + 1)) x_)))), (mk, .inl (q 0, 384, .inl (fun x_ => nI (u.1 x_)))), (m1, .inl (q 0, 384, .inl (fun x_ => nI (u.2.1 x_)))), (m2, .inl (q 0, 384, .inl (fun x_ => nI (u.2.2.1 x_)))), (ms, .inl (q 0, 1152, .inl (upd u.2.2.2 (3 * (256 + NL.length)) (nI y)))), (mp, .inl (q 0, 42, .inl (fun x_ => nI ((va_up pc_ dp (NL.length + 1)) x_) + (-1))))] H locs := U
  exact kz_ev hQ hA X U ((u.1, u.2.1, u.2.2.1, upd u.2.2.2 (3 * (256 + NL.length)) (nI y))) (by rw [md_set_len, List.length_append]; rfl) (by have := md_T_set hu2 (n := NL.length) (w := 0) (by rw [List.length_append]; simp) (by omega) (nI y); exact this) kd_Mo_mark_47

def md_ng (NL : List md_N) (n : Nat) : Nat → List md_N
  | 0 => NL
  | i + 1 => md_set (md_ng NL n i) n i (((md_ng NL n i).getD n (0, 0, 0, fun _ => 0)).2.2.2 i ^^^ (-1))
theorem md_ng_len (NL : List md_N) (n : Nat) : ∀ i, (md_ng NL n i).length = NL.length
  | 0 => rfl
  | i + 1 => by
    show (md_set _ _ _ _).length = _
    rw [md_set_len, md_ng_len NL n i]

set_option maxHeartbeats 4000000 in
set_option maxRecDepth 100000 in
theorem cm_Mo_closeClass (l : Launch) (D : va_G) (q : Nat → ClassId) (ho mb mt mw mc mk m1 m2 ms mu mi mr mn mp mj me mh : Nat) (sz ln wn dp st_ im en : Nat) (lo_ : Int32) (ex ds : Bool) (ct kd on tw : Nat → Nat) (se : Nat → Int32) (NL : List md_N) (b_ : md_B) (un ii rw_ no pc_ : Nat → Nat) (hT : md_T NL b_ kd on tw se) (hdp : dp ≤ 41) (hpc0 : 0 < pc_ dp) (hpc : pc_ dp ≤ NL.length) : kz_Mi (S := Nat → Int32) l ky_Mo_closeClass kb_Mo_closeClass 3 (some .boolean) 0 D q [.ref ho] [(ho, .inr (6, [.ref mb, .int (nI sz), .ref mt, .int (nI ln), .ref mw, .int (nI wn), .ref mc, .ref mk, .ref m1, .ref m2, .ref ms, .int (nI dp), .ref mu, .ref mi, .ref mr, .ref mn, .ref mp, .int (nI st_), .int lo_, .int (nI im), .int (nB ex), .ref mj, .int (nI en), .ref me, .ref mh, .int (nB ds)])), (ms, .inl (q 0, 1152, .inl se)), (mp, .inl (q 0, 42, .inl (fun x_ => nI (pc_ x_) + (-1))))] (fun r u => r = nB true ∧ md_T (if ex = true then md_ng NL (pc_ dp - 1) 3 else NL) b_ kd on tw u) (fun u => [(ho, .inr (6, [.ref mb, .int (nI sz), .ref mt, .int (nI ln), .ref mw, .int (nI wn), .ref mc, .ref mk, .ref m1, .ref m2, .ref ms, .int (nI dp), .ref mu, .ref mi, .ref mr, .ref mn, .ref mp, .int (nI 0), .int lo_, .int (nI im), .int (nB ex), .ref mj, .int (nI en), .ref me, .ref mh, .int (nB ds)])), (ms, .inl (q 0, 1152, .inl u)), (mp, .inl (q 0, 42, .inl (fun x_ => nI (pc_ x_) + (-1))))]) := by
  intro sz_
  refine kz_go (by decide +kernel) (Nat.le_of_ble_eq_true rfl) ?_
  intro p e s m below meth c ls args A Q H locs hQ hA X U hl
  have hx := X.1
  have hb := X.2.1
  have hl : lv_has ls 3 [(0, .ref ho)] := hl
  have hT128 := hT.1
  refine kz_ic X 3 kd_Mo_closeClass_0 (by decide) ?_
  refine kz_sp X 256 kd_Mo_closeClass_1 (by decide) ?_
  refine lv_aload_n hx hb kd_Mo_closeClass_4 rfl (lv_at hl 0 rfl) ?_
  refine kg_Mo_46 X U 0 rfl rfl kd_Mo_closeClass_5 ?_
  refine lv_aload_n hx hb kd_Mo_closeClass_8 rfl (lv_at hl 0 rfl) ?_
  refine kg_Mo_62 X U 0 rfl rfl kd_Mo_closeClass_9 ?_
  refine kz_iald (k := dp) X U 2 rfl (by omega) (by omega) kd_Mo_closeClass_12 ?_
  refine kz_top (y := nI (pc_ dp) + (-1)) rfl ?_
  refine kz_top (y := nI (pc_ dp - 1)) (sb_m1 hpc0) ?_
  refine kz_iadd X kd_Mo_closeClass_13 ?_
  refine kz_top (y := nI (256 + (pc_ dp - 1))) rfl ?_
  refine kz_imul X kd_Mo_closeClass_14 ?_
  refine kz_top (y := nI (3 * (256 + (pc_ dp - 1)))) rfl ?_
  refine lv_istore_n hx hb kd_Mo_closeClass_15 rfl hl (by decide) rfl (fun ls hl => ?_)
  have hl : lv_has ls 3 [(1, .int (nI (3 * (256 + (pc_ dp - 1))))), (0, .ref ho)] := hl
  refine kz_ic X 0 kd_Mo_closeClass_16 (by decide) ?_
  refine lv_istore_n hx hb kd_Mo_closeClass_17 rfl hl (by decide) rfl (fun ls hl => ?_)
  have hl : lv_has ls 3 [(2, .int (nI 0)), (1, .int (nI (3 * (256 + (pc_ dp - 1))))), (0, .ref ho)] := hl
  have loop18 : ∀ (fuel : Nat) (i : Nat) (z2 : Nat → Int32) (ls : Array Slot) (H : Heap) (locs : List Loc), 4 - i < fuel → (i ≤ 3) → (0 < i → ex = true) → (md_T (md_ng NL (pc_ dp - 1) i) b_ kd on tw z2) → lv_has ls 3 [(2, .int (nI i)), (1, .int (nI (3 * (256 + (pc_ dp - 1))))), (0, .ref ho)] → kz_U D q s A [(ho, .inr (6, [.ref mb, .int (nI sz), .ref mt, .int (nI ln), .ref mw, .int (nI wn), .ref mc, .ref mk, .ref m1, .ref m2, .ref ms, .int (nI dp), .ref mu, .ref mi, .ref mr, .ref mn, .ref mp, .int (nI st_), .int lo_, .int (nI im), .int (nB ex), .ref mj, .int (nI en), .ref me, .ref mh, .int (nB ds)])), (ms, .inl (q 0, 1152, .inl z2)), (mp, .inl (q 0, 42, .inl (fun x_ => nI (pc_ x_) + (-1))))] H locs → W p l e (kz_rm 0) s m args below meth c H locs 0 0 Q (F0 m 18 ls []) := by
    intro fuel
    induction fuel with
    | zero => intro i z2 ls H locs hme; exact absurd hme (Nat.not_lt_zero _)
    | succ fuel ih18 =>
      intro i z2 ls H locs hme hi hex hT2 hl U
      refine lv_iload_n hx hb kd_Mo_closeClass_18 rfl (lv_at hl 0 rfl) ?_
      refine kz_ic X 3 kd_Mo_closeClass_19 (by decide) ?_
      refine kz_icge X (by omega) (by omega) kd_Mo_closeClass_20 rfl (fun h20 => ?_) (fun h20 => ?_)
      · refine lv_aload_n hx hb kd_Mo_closeClass_54 rfl (lv_at hl 2 rfl) ?_
        refine kz_ic X 0 kd_Mo_closeClass_55 (by decide) ?_
        refine kp_Mo_75 X U 0 rfl (Nat.le_of_ble_eq_true rfl) kd_Mo_closeClass_56 (fun H locs U => ?_)
        have U : kz_U D q s A [(ho, .inr (6, [.ref mb, .int (nI sz), .ref mt, .int (nI ln), .ref mw, .int (nI wn), .ref mc, .ref mk, .ref m1, .ref m2, .ref ms, .int (nI dp), .ref mu, .ref mi, .ref mr, .ref mn, .ref mp, .int (nI 0), .int lo_, .int (nI im), .int (nB ex), .ref mj, .int (nI en), .ref me, .ref mh, .int (nB ds)])), (ms, .inl (q 0, 1152, .inl z2)), (mp, .inl (q 0, 42, .inl (fun x_ => nI (pc_ x_) + (-1))))] H locs := U
        refine kz_ic X 1 kd_Mo_closeClass_59 (by decide) ?_
        refine kz_top (y := nB true) rfl ?_
        exact kz_ez hQ hA X U z2 rfl (⟨rfl, by first | (rw [if_pos (hex (by omega)), ← show i = 3 by omega]; exact hT2) | (rw [if_neg (by rw [h27]; decide)]; have hi0 : i = 0 := Nat.eq_zero_of_not_pos (fun z => by rw [hex z] at h27; cases h27); rw [hi0] at hT2; exact hT2)⟩) kd_Mo_closeClass_60
      · refine lv_aload_n hx hb kd_Mo_closeClass_23 rfl (lv_at hl 2 rfl) ?_
        refine kg_Mo_96 X U 0 rfl rfl kd_Mo_closeClass_24 ?_
        refine kz_ifeqB X kd_Mo_closeClass_27 rfl (fun h27 => ?_) (fun h27 => ?_)
        · refine lv_aload_n hx hb kd_Mo_closeClass_54 rfl (lv_at hl 2 rfl) ?_
          refine kz_ic X 0 kd_Mo_closeClass_55 (by decide) ?_
          refine kp_Mo_75 X U 0 rfl (Nat.le_of_ble_eq_true rfl) kd_Mo_closeClass_56 (fun H locs U => ?_)
          have U : kz_U D q s A [(ho, .inr (6, [.ref mb, .int (nI sz), .ref mt, .int (nI ln), .ref mw, .int (nI wn), .ref mc, .ref mk, .ref m1, .ref m2, .ref ms, .int (nI dp), .ref mu, .ref mi, .ref mr, .ref mn, .ref mp, .int (nI 0), .int lo_, .int (nI im), .int (nB ex), .ref mj, .int (nI en), .ref me, .ref mh, .int (nB ds)])), (ms, .inl (q 0, 1152, .inl z2)), (mp, .inl (q 0, 42, .inl (fun x_ => nI (pc_ x_) + (-1))))] H locs := U
          refine kz_ic X 1 kd_Mo_closeClass_59 (by decide) ?_
          refine kz_top (y := nB true) rfl ?_
          exact kz_ez hQ hA X U z2 rfl (⟨rfl, by first | (rw [if_pos (hex (by omega)), ← show i = 3 by omega]; exact hT2) | (rw [if_neg (by rw [h27]; decide)]; have hi0 : i = 0 := Nat.eq_zero_of_not_pos (fun z => by rw [hex z] at h27; cases h27); rw [hi0] at hT2; exact hT2)⟩) kd_Mo_closeClass_60
        · refine lv_aload_n hx hb kd_Mo_closeClass_30 rfl (lv_at hl 2 rfl) ?_
          refine kg_Mo_31 X U 0 rfl rfl kd_Mo_closeClass_31 ?_
          refine lv_iload_n hx hb kd_Mo_closeClass_34 rfl (lv_at hl 1 rfl) ?_
          refine lv_iload_n hx hb kd_Mo_closeClass_35 rfl (lv_at hl 0 rfl) ?_
          refine kz_iadd X kd_Mo_closeClass_36 ?_
          refine kz_top (y := nI (3 * (256 + (pc_ dp - 1)) + i)) rfl ?_
          refine lv_aload_n hx hb kd_Mo_closeClass_37 rfl (lv_at hl 2 rfl) ?_
          refine kg_Mo_31 X U 0 rfl rfl kd_Mo_closeClass_38 ?_
          refine lv_iload_n hx hb kd_Mo_closeClass_41 rfl (lv_at hl 1 rfl) ?_
          refine lv_iload_n hx hb kd_Mo_closeClass_42 rfl (lv_at hl 0 rfl) ?_
          refine kz_iadd X kd_Mo_closeClass_43 ?_
          refine kz_top (y := nI (3 * (256 + (pc_ dp - 1)) + i)) rfl ?_
          refine kz_iald (k := 3 * (256 + (pc_ dp - 1)) + i) X U 1 rfl (by omega) (by omega) kd_Mo_closeClass_44 ?_
          refine lv_iconst (v := (-1)) hx hb kd_Mo_closeClass_45 (by decide) ?_
          refine lv_ixor hx hb kd_Mo_closeClass_46 ?_
          refine kz_iast (k := 3 * (256 + (pc_ dp - 1)) + i) X U 1 rfl (by omega) (by omega) kd_Mo_closeClass_47 (fun H locs U => ?_)
          have U : kz_U D q s A [(ho, .inr (6, [.ref mb, .int (nI sz), .ref mt, .int (nI ln), .ref mw, .int (nI wn), .ref mc, .ref mk, .ref m1, .ref m2, .ref ms, .int (nI dp), .ref mu, .ref mi, .ref mr, .ref mn, .ref mp, .int (nI st_), .int lo_, .int (nI im), .int (nB ex), .ref mj, .int (nI en), .ref me, .ref mh, .int (nB ds)])), (ms, .inl (q 0, 1152, .inl (upd z2 (3 * (256 + (pc_ dp - 1)) + i) ((z2 (3 * (256 + (pc_ dp - 1)) + i)) ^^^ ((-1)))))), (mp, .inl (q 0, 42, .inl (fun x_ => nI (pc_ x_) + (-1))))] H locs := U
          refine lv_iinc (k := 0) (v := nI (i + 1)) hx hb kd_Mo_closeClass_48 hl rfl (nI_add i 1) (by decide) rfl (fun ls hl => ?_)
          have hl : lv_has ls 3 [(2, .int (nI (i + 1))), (1, .int (nI (3 * (256 + (pc_ dp - 1))))), (0, .ref ho)] := hl
          refine lv_goto hx hb kd_Mo_closeClass_51 rfl ?_
          exact ih18 (i + 1) _ _ _ _ (by omega) (by omega) (fun _ => h27) (by show md_T (md_set (md_ng NL (pc_ dp - 1) i) (pc_ dp - 1) i (((md_ng NL (pc_ dp - 1) i).getD (pc_ dp - 1) (0, 0, 0, fun _ => 0)).2.2.2 i ^^^ (-1))) b_ kd on tw _; rw [md_gd (by rw [md_ng_len]; omega), ← (hT2.2.1 (pc_ dp - 1) (by rw [md_ng_len]; omega)).2.2.2 i (by omega)]; exact md_T_set hT2 (by rw [md_ng_len]; omega) (by omega) _) (lv_sub hl [0, 1, 2] rfl) U
  exact loop18 _ 0 se _ _ _ (Nat.lt_succ_self _) (by omega) (fun z => absurd z (Nat.lt_irrefl _)) hT (lv_sub hl [0, 1, 2] rfl) U
