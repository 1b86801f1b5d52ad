def md_ud (NL : List md_N) (n : Nat) (ds : Bool) : List md_N := if ds = true then NL else md_set NL n 0 ((NL.getD n (0, 0, 0, fun _ => 0)).2.2.2 0 &&& (-8193))
theorem md_ud_len (NL : List md_N) (n : Nat) (ds : Bool) : (md_ud NL n ds).length = NL.length := by
  unfold md_ud
  split
  · rfl
  · exact md_set_len _ _ _ _

set_option maxHeartbeats 4000000 in
set_option maxRecDepth 100000 in
theorem cm_Mo_braces_1 (l : Launch) (D : va_G) (q : Nat → ClassId) (ho mb mt mw mc mk m1 m2 ms mu mi mr mn mp mj me mh : Nat) (sz ln wn dp st_ im en : Nat) (lo_ : Int32) (ex ds : Bool) (ct kd on tw : Nat → Nat) (se : Nat → Int32) (NL : List md_N) (b_ : md_B) (un ii rw_ no pc_ : Nat → Nat) (x : Int32) (hT : md_T NL b_ kd on tw se) : kz_Mi (S := (Nat → Nat) × (Nat → Nat) × (Nat → Nat) × (Nat → Int32)) l ky_Mo_braces kb_Mo_braces 2 (some .boolean) 3 D q [.ref ho, .int x] [(ho, .inr (6, [.ref mb, .int (nI sz), .ref mt, .int (nI ln), .ref mw, .int (nI wn), .ref mc, .ref mk, .ref m1, .ref m2, .ref ms, .int (nI dp), .ref mu, .ref mi, .ref mr, .ref mn, .ref mp, .int (nI 1), .int lo_, .int (nI im), .int (nB ex), .ref mj, .int (nI en), .ref me, .ref mh, .int (nB ds)])), (mc, .inl (q 0, 3, .inl (fun x_ => nI ((va_up ct 2 NL.length) x_)))), (mk, .inl (q 0, 384, .inl (fun x_ => nI (kd x_)))), (m1, .inl (q 0, 384, .inl (fun x_ => nI (on x_)))), (m2, .inl (q 0, 384, .inl (fun x_ => nI (tw x_)))), (ms, .inl (q 0, 1152, .inl se)), (mu, .inl (q 0, 42, .inl (fun x_ => nI (un x_) + (-1)))), (mi, .inl (q 0, 42, .inl (fun x_ => nI (ii x_) + (-1)))), (mr, .inl (q 0, 42, .inl (fun x_ => nI (rw_ x_) + (-1)))), (mn, .inl (q 0, 42, .inl (fun x_ => nI (no x_)))), (mp, .inl (q 0, 42, .inl (fun x_ => nI (pc_ x_) + (-1))))] (fun r u => r = nB (decide (48 ≤ x ∧ x ≤ 57)) ∧ md_T (NL) b_ u.1 u.2.1 u.2.2.1 u.2.2.2) (fun u => [(ho, .inr (6, [.ref mb, .int (nI sz), .ref mt, .int (nI ln), .ref mw, .int (nI wn), .ref mc, .ref mk, .ref m1, .ref m2, .ref ms, .int (nI dp), .ref mu, .ref mi, .ref mr, .ref mn, .ref mp, .int (nI 2), .int (x - (nI 48)), .int (nI im), .int (nB ex), .ref mj, .int (nI en), .ref me, .ref mh, .int (nB ds)])), (mc, .inl (q 0, 3, .inl (fun x_ => nI ((va_up ct 2 NL.length) x_)))), (mk, .inl (q 0, 384, .inl (fun x_ => nI (u.1 x_)))), (m1, .inl (q 0, 384, .inl (fun x_ => nI (u.2.1 x_)))), (m2, .inl (q 0, 384, .inl (fun x_ => nI (u.2.2.1 x_)))), (ms, .inl (q 0, 1152, .inl u.2.2.2)), (mu, .inl (q 0, 42, .inl (fun x_ => nI (un x_) + (-1)))), (mi, .inl (q 0, 42, .inl (fun x_ => nI (ii x_) + (-1)))), (mr, .inl (q 0, 42, .inl (fun x_ => nI (rw_ x_) + (-1)))), (mn, .inl (q 0, 42, .inl (fun x_ => nI (no x_)))), (mp, .inl (q 0, 42, .inl (fun x_ => nI (pc_ x_) + (-1))))]) := by
  intro sz_
  refine kz_go (by decide +kernel) (Nat.le_of_ble_eq_true rfl) ?_
  intro p e s m below meth c ls args A Q H locs hQ hA X U hl
  have hx := X.1
  have hb := X.2.1
  have hl : lv_has ls 2 [(0, .ref ho), (1, .int x)] := hl
  have hT128 := hT.1
  refine lv_aload_n hx hb kd_Mo_braces_0 rfl (lv_at hl 0 rfl) ?_
  refine kg_Mo_75 X U 0 rfl rfl kd_Mo_braces_1 ?_
  refine kz_ic X 1 kd_Mo_braces_4 (by decide) ?_
  refine kz_icne X (by omega) (by omega) kd_Mo_braces_5 rfl (fun h5 => absurd h5 (by omega)) (fun h5 => ?_)
  refine lv_aload_n hx hb kd_Mo_braces_8 rfl (lv_at hl 0 rfl) ?_
  refine lv_iload_n hx hb kd_Mo_braces_9 rfl (lv_at hl 1 rfl) ?_
  refine kz_bp X 48 kd_Mo_braces_10 (by decide) ?_
  refine lv_isub hx hb kd_Mo_braces_12 ?_
  refine kp_Mo_104 X U 0 rfl (Nat.le_of_ble_eq_true rfl) kd_Mo_braces_13 (fun H locs U => ?_)
  have U : kz_U D q s A [(ho, .inr (6, [.ref mb, .int (nI sz), .ref mt, .int (nI ln), .ref mw, .int (nI wn), .ref mc, .ref mk, .ref m1, .ref m2, .ref ms, .int (nI dp), .ref mu, .ref mi, .ref mr, .ref mn, .ref mp, .int (nI 1), .int (x - (nI 48)), .int (nI im), .int (nB ex), .ref mj, .int (nI en), .ref me, .ref mh, .int (nB ds)])), (mc, .inl (q 0, 3, .inl (fun x_ => nI ((va_up ct 2 NL.length) x_)))), (mk, .inl (q 0, 384, .inl (fun x_ => nI (kd x_)))), (m1, .inl (q 0, 384, .inl (fun x_ => nI (on x_)))), (m2, .inl (q 0, 384, .inl (fun x_ => nI (tw x_)))), (ms, .inl (q 0, 1152, .inl se)), (mu, .inl (q 0, 42, .inl (fun x_ => nI (un x_) + (-1)))), (mi, .inl (q 0, 42, .inl (fun x_ => nI (ii x_) + (-1)))), (mr, .inl (q 0, 42, .inl (fun x_ => nI (rw_ x_) + (-1)))), (mn, .inl (q 0, 42, .inl (fun x_ => nI (no x_)))), (mp, .inl (q 0, 42, .inl (fun x_ => nI (pc_ x_) + (-1))))] H locs := U
  refine lv_aload_n hx hb kd_Mo_braces_16 rfl (lv_at hl 0 rfl) ?_
  refine kz_ic X 2 kd_Mo_braces_17 (by decide) ?_
  refine kp_Mo_75 X U 0 rfl (Nat.le_of_ble_eq_true rfl) kd_Mo_braces_18 (fun H locs U => ?_)
  have U : kz_U D q s A [(ho, .inr (6, [.ref mb, .int (nI sz), .ref mt, .int (nI ln), .ref mw, .int (nI wn), .ref mc, .ref mk, .ref m1, .ref m2, .ref ms, .int (nI dp), .ref mu, .ref mi, .ref mr, .ref mn, .ref mp, .int (nI 2), .int (x - (nI 48)), .int (nI im), .int (nB ex), .ref mj, .int (nI en), .ref me, .ref mh, .int (nB ds)])), (mc, .inl (q 0, 3, .inl (fun x_ => nI ((va_up ct 2 NL.length) x_)))), (mk, .inl (q 0, 384, .inl (fun x_ => nI (kd x_)))), (m1, .inl (q 0, 384, .inl (fun x_ => nI (on x_)))), (m2, .inl (q 0, 384, .inl (fun x_ => nI (tw x_)))), (ms, .inl (q 0, 1152, .inl se)), (mu, .inl (q 0, 42, .inl (fun x_ => nI (un x_) + (-1)))), (mi, .inl (q 0, 42, .inl (fun x_ => nI (ii x_) + (-1)))), (mr, .inl (q 0, 42, .inl (fun x_ => nI (rw_ x_) + (-1)))), (mn, .inl (q 0, 42, .inl (fun x_ => nI (no x_)))), (mp, .inl (q 0, 42, .inl (fun x_ => nI (pc_ x_) + (-1))))] H locs := U
  refine lv_iload_n hx hb kd_Mo_braces_21 rfl (lv_at hl 1 rfl) ?_
  refine kz_cSi (av := [.int x]) (rest := []) (wr := [(ho, .inr (6, [.ref mb, .int (nI sz), .ref mt, .int (nI ln), .ref mw, .int (nI wn), .ref mc, .ref mk, .ref m1, .ref m2, .ref ms, .int (nI dp), .ref mu, .ref mi, .ref mr, .ref mn, .ref mp, .int (nI 2), .int (x - (nI 48)), .int (nI im), .int (nB ex), .ref mj, .int (nI en), .ref me, .ref mh, .int (nB ds)])), (mc, .inl (q 0, 3, .inl (fun x_ => nI ((va_up ct 2 NL.length) x_)))), (mk, .inl (q 0, 384, .inl (fun x_ => nI (kd x_)))), (m1, .inl (q 0, 384, .inl (fun x_ => nI (on x_)))), (m2, .inl (q 0, 384, .inl (fun x_ => nI (tw x_)))), (ms, .inl (q 0, 1152, .inl se)), (mu, .inl (q 0, 42, .inl (fun x_ => nI (un x_) + (-1)))), (mi, .inl (q 0, 42, .inl (fun x_ => nI (ii x_) + (-1)))), (mr, .inl (q 0, 42, .inl (fun x_ => nI (rw_ x_) + (-1)))), (mn, .inl (q 0, 42, .inl (fun x_ => nI (no x_)))), (mp, .inl (q 0, 42, .inl (fun x_ => nI (pc_ x_) + (-1))))]) X U hl.1 (cm_Mo_isDigit l D q x) (by decide) (by decide) ⟨by decide, by decide⟩ tb_571 tb_572 tb_11 tb_573 kq_Mo_isDigit [] [0, 1, 2, 3, 4, 5, 6, 7, 8, 9, 10] (by decide) rfl rfl (by decide) (by decide) rfl (Nat.le_of_ble_eq_true rfl) kd_Mo_braces_22 (fun rv _ H locs hp U => ?_)
  subst hp
  have U : kz_U D q s A [(ho, .inr (6, [.ref mb, .int (nI sz), .ref mt, .int (nI ln), .ref mw, .int (nI wn), .ref mc, .ref mk, .ref m1, .ref m2, .ref ms, .int (nI dp), .ref mu, .ref mi, .ref mr, .ref mn, .ref mp, .int (nI 2), .int (x - (nI 48)), .int (nI im), .int (nB ex), .ref mj, .int (nI en), .ref me, .ref mh, .int (nB ds)])), (mc, .inl (q 0, 3, .inl (fun x_ => nI ((va_up ct 2 NL.length) x_)))), (mk, .inl (q 0, 384, .inl (fun x_ => nI (kd x_)))), (m1, .inl (q 0, 384, .inl (fun x_ => nI (on x_)))), (m2, .inl (q 0, 384, .inl (fun x_ => nI (tw x_)))), (ms, .inl (q 0, 1152, .inl se)), (mu, .inl (q 0, 42, .inl (fun x_ => nI (un x_) + (-1)))), (mi, .inl (q 0, 42, .inl (fun x_ => nI (ii x_) + (-1)))), (mr, .inl (q 0, 42, .inl (fun x_ => nI (rw_ x_) + (-1)))), (mn, .inl (q 0, 42, .inl (fun x_ => nI (no x_)))), (mp, .inl (q 0, 42, .inl (fun x_ => nI (pc_ x_) + (-1))))] H locs := U
  exact kz_ez hQ hA X U ((kd, on, tw, se)) rfl (⟨rfl, hT⟩) kd_Mo_braces_25

set_option maxHeartbeats 4000000 in
set_option maxRecDepth 100000 in
theorem cm_Mo_braces_3d (l : Launch) (D : va_G) (q : Nat → ClassId) (ho mb mt mw mc mk m1 m2 ms mu mi mr mn mp mj me mh : Nat) (sz ln wn dp st_ im en : Nat) (lo_ : Int32) (ex ds : Bool) (ct kd on tw : Nat → Nat) (se : Nat → Int32) (NL : List md_N) (b_ : md_B) (un ii rw_ no pc_ : Nat → Nat) (ch lw : Nat) (hT : md_T NL b_ kd on tw se) (h1_ : 48 ≤ ch) (h2_ : ch ≤ 57) (hlw : lw < 1000) : kz_Mi (S := (Nat → Nat) × (Nat → Nat) × (Nat → Nat) × (Nat → Int32)) l ky_Mo_braces kb_Mo_braces 2 (some .boolean) 3 D q [.ref ho, .int (nI ch)] [(ho, .inr (6, [.ref mb, .int (nI sz), .ref mt, .int (nI ln), .ref mw, .int (nI wn), .ref mc, .ref mk, .ref m1, .ref m2, .ref ms, .int (nI dp), .ref mu, .ref mi, .ref mr, .ref mn, .ref mp, .int (nI 3), .int (nI lw), .int (nI im), .int (nB ex), .ref mj, .int (nI en), .ref me, .ref mh, .int (nB ds)])), (mc, .inl (q 0, 3, .inl (fun x_ => nI ((va_up ct 2 NL.length) x_)))), (mk, .inl (q 0, 384, .inl (fun x_ => nI (kd x_)))), (m1, .inl (q 0, 384, .inl (fun x_ => nI (on x_)))), (m2, .inl (q 0, 384, .inl (fun x_ => nI (tw x_)))), (ms, .inl (q 0, 1152, .inl se)), (mu, .inl (q 0, 42, .inl (fun x_ => nI (un x_) + (-1)))), (mi, .inl (q 0, 42, .inl (fun x_ => nI (ii x_) + (-1)))), (mr, .inl (q 0, 42, .inl (fun x_ => nI (rw_ x_) + (-1)))), (mn, .inl (q 0, 42, .inl (fun x_ => nI (no x_)))), (mp, .inl (q 0, 42, .inl (fun x_ => nI (pc_ x_) + (-1))))] (fun r u => r = nB (decide (lw ≤ ch - 48)) ∧ md_T (NL) b_ u.1 u.2.1 u.2.2.1 u.2.2.2) (fun u => [(ho, .inr (6, [.ref mb, .int (nI sz), .ref mt, .int (nI ln), .ref mw, .int (nI wn), .ref mc, .ref mk, .ref m1, .ref m2, .ref ms, .int (nI dp), .ref mu, .ref mi, .ref mr, .ref mn, .ref mp, .int (nI 4), .int (nI lw), .int (nI (ch - 48)), .int (nB ex), .ref mj, .int (nI en), .ref me, .ref mh, .int (nB ds)])), (mc, .inl (q 0, 3, .inl (fun x_ => nI ((va_up ct 2 NL.length) x_)))), (mk, .inl (q 0, 384, .inl (fun x_ => nI (u.1 x_)))), (m1, .inl (q 0, 384, .inl (fun x_ => nI (u.2.1 x_)))), (m2, .inl (q 0, 384, .inl (fun x_ => nI (u.2.2.1 x_)))), (ms, .inl (q 0, 1152, .inl u.2.2.2)), (mu, .inl (q 0, 42, .inl (fun x_ => nI (un x_) + (-1)))), (mi, .inl (q 0, 42, .inl (fun x_ => nI (ii x_) + (-1)))), (mr, .inl (q 0, 42, .inl (fun x_ => nI (rw_ x_) + (-1)))), (mn, .inl (q 0, 42, .inl (fun x_ => nI (no x_)))), (mp, .inl (q 0, 42, .inl (fun x_ => nI (pc_ x_) + (-1))))]) := by
  intro sz_
  refine kz_go (by decide +kernel) (Nat.le_of_ble_eq_true rfl) ?_
  intro p e s m below meth c ls args A Q H locs hQ hA X U hl
  have hx := X.1
  have hb := X.2.1
  have hl : lv_has ls 2 [(0, .ref ho), (1, .int (nI ch))] := hl
  have hT128 := hT.1
  have hdg : (48 : Int32) ≤ nI ch ∧ nI ch ≤ 57 := ⟨(nI_leI (a := 48) (by omega) (by omega)).mpr h1_, (nI_leI (b := 57) (by omega) (by omega)).mpr h2_⟩
  refine lv_aload_n hx hb kd_Mo_braces_0 rfl (lv_at hl 0 rfl) ?_
  refine kg_Mo_75 X U 0 rfl rfl kd_Mo_braces_1 ?_
  refine kz_ic X 1 kd_Mo_braces_4 (by decide) ?_
  refine kz_icne X (by omega) (by omega) kd_Mo_braces_5 rfl (fun h5 => ?_) (fun h5 => absurd h5 (by omega))
  refine lv_aload_n hx hb kd_Mo_braces_26 rfl (lv_at hl 0 rfl) ?_
  refine kg_Mo_75 X U 0 rfl rfl kd_Mo_braces_27 ?_
  refine kz_ic X 3 kd_Mo_braces_30 (by decide) ?_
  refine kz_icne X (by omega) (by omega) kd_Mo_braces_31 rfl (fun h31 => absurd h31 (by omega)) (fun h31 => ?_)
  refine lv_iload_n hx hb kd_Mo_braces_34 rfl (lv_at hl 1 rfl) ?_
  refine kz_cSi (av := [.int (nI ch)]) (rest := []) (wr := [(ho, .inr (6, [.ref mb, .int (nI sz), .ref mt, .int (nI ln), .ref mw, .int (nI wn), .ref mc, .ref mk, .ref m1, .ref m2, .ref ms, .int (nI dp), .ref mu, .ref mi, .ref mr, .ref mn, .ref mp, .int (nI 3), .int (nI lw), .int (nI im), .int (nB ex), .ref mj, .int (nI en), .ref me, .ref mh, .int (nB ds)])), (mc, .inl (q 0, 3, .inl (fun x_ => nI ((va_up ct 2 NL.length) x_)))), (mk, .inl (q 0, 384, .inl (fun x_ => nI (kd x_)))), (m1, .inl (q 0, 384, .inl (fun x_ => nI (on x_)))), (m2, .inl (q 0, 384, .inl (fun x_ => nI (tw x_)))), (ms, .inl (q 0, 1152, .inl se)), (mu, .inl (q 0, 42, .inl (fun x_ => nI (un x_) + (-1)))), (mi, .inl (q 0, 42, .inl (fun x_ => nI (ii x_) + (-1)))), (mr, .inl (q 0, 42, .inl (fun x_ => nI (rw_ x_) + (-1)))), (mn, .inl (q 0, 42, .inl (fun x_ => nI (no x_)))), (mp, .inl (q 0, 42, .inl (fun x_ => nI (pc_ x_) + (-1))))]) X U hl.1 (cm_Mo_isDigit l D q (nI ch)) (by decide) (by decide) ⟨by decide, by decide⟩ tb_571 tb_572 tb_11 tb_573 kq_Mo_isDigit [] [0, 1, 2, 3, 4, 5, 6, 7, 8, 9, 10] (by decide) rfl rfl (by decide) (by decide) rfl (Nat.le_of_ble_eq_true rfl) kd_Mo_braces_35 (fun rv _ H locs hp U => ?_)
  subst hp
  have U : kz_U D q s A [(ho, .inr (6, [.ref mb, .int (nI sz), .ref mt, .int (nI ln), .ref mw, .int (nI wn), .ref mc, .ref mk, .ref m1, .ref m2, .ref ms, .int (nI dp), .ref mu, .ref mi, .ref mr, .ref mn, .ref mp, .int (nI 3), .int (nI lw), .int (nI im), .int (nB ex), .ref mj, .int (nI en), .ref me, .ref mh, .int (nB ds)])), (mc, .inl (q 0, 3, .inl (fun x_ => nI ((va_up ct 2 NL.length) x_)))), (mk, .inl (q 0, 384, .inl (fun x_ => nI (kd x_)))), (m1, .inl (q 0, 384, .inl (fun x_ => nI (on x_)))), (m2, .inl (q 0, 384, .inl (fun x_ => nI (tw x_)))), (ms, .inl (q 0, 1152, .inl se)), (mu, .inl (q 0, 42, .inl (fun x_ => nI (un x_) + (-1)))), (mi, .inl (q 0, 42, .inl (fun x_ => nI (ii x_) + (-1)))), (mr, .inl (q 0, 42, .inl (fun x_ => nI (rw_ x_) + (-1)))), (mn, .inl (q 0, 42, .inl (fun x_ => nI (no x_)))), (mp, .inl (q 0, 42, .inl (fun x_ => nI (pc_ x_) + (-1))))] H locs := U
  refine kz_ifeqB X kd_Mo_braces_38 rfl (fun h38 => absurd h38 (by rw [decide_eq_true hdg]; decide)) (fun h38 => ?_)
  refine lv_aload_n hx hb kd_Mo_braces_41 rfl (lv_at hl 0 rfl) ?_
  refine lv_iload_n hx hb kd_Mo_braces_42 rfl (lv_at hl 1 rfl) ?_
  refine kz_bp X 48 kd_Mo_braces_43 (by decide) ?_
  refine kz_isub X (by omega) kd_Mo_braces_45 ?_
  refine kp_Mo_110 X U 0 rfl (Nat.le_of_ble_eq_true rfl) kd_Mo_braces_46 (fun H locs U => ?_)
  have U : kz_U D q s A [(ho, .inr (6, [.ref mb, .int (nI sz), .ref mt, .int (nI ln), .ref mw, .int (nI wn), .ref mc, .ref mk, .ref m1, .ref m2, .ref ms, .int (nI dp), .ref mu, .ref mi, .ref mr, .ref mn, .ref mp, .int (nI 3), .int (nI lw), .int (nI (ch - 48)), .int (nB ex), .ref mj, .int (nI en), .ref me, .ref mh, .int (nB ds)])), (mc, .inl (q 0, 3, .inl (fun x_ => nI ((va_up ct 2 NL.length) x_)))), (mk, .inl (q 0, 384, .inl (fun x_ => nI (kd x_)))), (m1, .inl (q 0, 384, .inl (fun x_ => nI (on x_)))), (m2, .inl (q 0, 384, .inl (fun x_ => nI (tw x_)))), (ms, .inl (q 0, 1152, .inl se)), (mu, .inl (q 0, 42, .inl (fun x_ => nI (un x_) + (-1)))), (mi, .inl (q 0, 42, .inl (fun x_ => nI (ii x_) + (-1)))), (mr, .inl (q 0, 42, .inl (fun x_ => nI (rw_ x_) + (-1)))), (mn, .inl (q 0, 42, .inl (fun x_ => nI (no x_)))), (mp, .inl (q 0, 42, .inl (fun x_ => nI (pc_ x_) + (-1))))] H locs := U
  refine lv_aload_n hx hb kd_Mo_braces_49 rfl (lv_at hl 0 rfl) ?_
  refine kz_ic X 4 kd_Mo_braces_50 (by decide) ?_
  refine kp_Mo_75 X U 0 rfl (Nat.le_of_ble_eq_true rfl) kd_Mo_braces_51 (fun H locs U => ?_)
  have U : kz_U D q s A [(ho, .inr (6, [.ref mb, .int (nI sz), .ref mt, .int (nI ln), .ref mw, .int (nI wn), .ref mc, .ref mk, .ref m1, .ref m2, .ref ms, .int (nI dp), .ref mu, .ref mi, .ref mr, .ref mn, .ref mp, .int (nI 4), .int (nI lw), .int (nI (ch - 48)), .int (nB ex), .ref mj, .int (nI en), .ref me, .ref mh, .int (nB ds)])), (mc, .inl (q 0, 3, .inl (fun x_ => nI ((va_up ct 2 NL.length) x_)))), (mk, .inl (q 0, 384, .inl (fun x_ => nI (kd x_)))), (m1, .inl (q 0, 384, .inl (fun x_ => nI (on x_)))), (m2, .inl (q 0, 384, .inl (fun x_ => nI (tw x_)))), (ms, .inl (q 0, 1152, .inl se)), (mu, .inl (q 0, 42, .inl (fun x_ => nI (un x_) + (-1)))), (mi, .inl (q 0, 42, .inl (fun x_ => nI (ii x_) + (-1)))), (mr, .inl (q 0, 42, .inl (fun x_ => nI (rw_ x_) + (-1)))), (mn, .inl (q 0, 42, .inl (fun x_ => nI (no x_)))), (mp, .inl (q 0, 42, .inl (fun x_ => nI (pc_ x_) + (-1))))] H locs := U
  refine lv_aload_n hx hb kd_Mo_braces_54 rfl (lv_at hl 0 rfl) ?_
  refine kg_Mo_110 X U 0 rfl rfl kd_Mo_braces_55 ?_
  refine lv_aload_n hx hb kd_Mo_braces_58 rfl (lv_at hl 0 rfl) ?_
  refine kg_Mo_104 X U 0 rfl rfl kd_Mo_braces_59 ?_
  refine kz_iclt X (by omega) (by omega) kd_Mo_braces_62 rfl (fun h62 => ?_) (fun h62 => ?_)
  · refine kz_ic X 0 kd_Mo_braces_69 (by decide) ?_
    refine kz_top (y := nB false) rfl ?_
    exact kz_ez hQ hA X U ((kd, on, tw, se)) rfl (⟨by first | rw [decide_eq_true (by omega)] | rw [decide_eq_false (by omega)], hT⟩) kd_Mo_braces_70
  · refine kz_ic X 1 kd_Mo_braces_65 (by decide) ?_
    refine lv_goto hx hb kd_Mo_braces_66 rfl ?_
    refine kz_top (y := nB true) rfl ?_
    exact kz_ez hQ hA X U ((kd, on, tw, se)) rfl (⟨by first | rw [decide_eq_true (by omega)] | rw [decide_eq_false (by omega)], hT⟩) kd_Mo_braces_70

set_option maxHeartbeats 4000000 in
set_option maxRecDepth 100000 in
theorem cm_Mo_braces_2c (l : Launch) (D : va_G) (q : Nat → ClassId) (ho mb mt mw mc mk m1 m2 ms mu mi mr mn mp mj me mh : Nat) (sz ln wn dp st_ im en : Nat) (lo_ : Int32) (ex ds : Bool) (ct kd on tw : Nat → Nat) (se : Nat → Int32) (NL : List md_N) (b_ : md_B) (un ii rw_ no pc_ : Nat → Nat) (hT : md_T NL b_ kd on tw se) : kz_Mi (S := (Nat → Nat) × (Nat → Nat) × (Nat → Nat) × (Nat → Int32)) l ky_Mo_braces kb_Mo_braces 2 (some .boolean) 3 D q [.ref ho, .int (nI 44)] [(ho, .inr (6, [.ref mb, .int (nI sz), .ref mt, .int (nI ln), .ref mw, .int (nI wn), .ref mc, .ref mk, .ref m1, .ref m2, .ref ms, .int (nI dp), .ref mu, .ref mi, .ref mr, .ref mn, .ref mp, .int (nI 2), .int lo_, .int (nI im), .int (nB ex), .ref mj, .int (nI en), .ref me, .ref mh, .int (nB ds)])), (mc, .inl (q 0, 3, .inl (fun x_ => nI ((va_up ct 2 NL.length) x_)))), (mk, .inl (q 0, 384, .inl (fun x_ => nI (kd x_)))), (m1, .inl (q 0, 384, .inl (fun x_ => nI (on x_)))), (m2, .inl (q 0, 384, .inl (fun x_ => nI (tw x_)))), (ms, .inl (q 0, 1152, .inl se)), (mu, .inl (q 0, 42, .inl (fun x_ => nI (un x_) + (-1)))), (mi, .inl (q 0, 42, .inl (fun x_ => nI (ii x_) + (-1)))), (mr, .inl (q 0, 42, .inl (fun x_ => nI (rw_ x_) + (-1)))), (mn, .inl (q 0, 42, .inl (fun x_ => nI (no x_)))), (mp, .inl (q 0, 42, .inl (fun x_ => nI (pc_ x_) + (-1))))] (fun r u => r = nB true ∧ md_T (NL) b_ u.1 u.2.1 u.2.2.1 u.2.2.2) (fun u => [(ho, .inr (6, [.ref mb, .int (nI sz), .ref mt, .int (nI ln), .ref mw, .int (nI wn), .ref mc, .ref mk, .ref m1, .ref m2, .ref ms, .int (nI dp), .ref mu, .ref mi, .ref mr, .ref mn, .ref mp, .int (nI 3), .int lo_, .int (nI im), .int (nB ex), .ref mj, .int (nI en), .ref me, .ref mh, .int (nB ds)])), (mc, .inl (q 0, 3, .inl (fun x_ => nI ((va_up ct 2 NL.length) x_)))), (mk, .inl (q 0, 384, .inl (fun x_ => nI (u.1 x_)))), (m1, .inl (q 0, 384, .inl (fun x_ => nI (u.2.1 x_)))), (m2, .inl (q 0, 384, .inl (fun x_ => nI (u.2.2.1 x_)))), (ms, .inl (q 0, 1152, .inl u.2.2.2)), (mu, .inl (q 0, 42, .inl (fun x_ => nI (un x_) + (-1)))), (mi, .inl (q 0, 42, .inl (fun x_ => nI (ii x_) + (-1)))), (mr, .inl (q 0, 42, .inl (fun x_ => nI (rw_ x_) + (-1)))), (mn, .inl (q 0, 42, .inl (fun x_ => nI (no x_)))), (mp, .inl (q 0, 42, .inl (fun x_ => nI (pc_ x_) + (-1))))]) := by
  intro sz_
  refine kz_go (by decide +kernel) (Nat.le_of_ble_eq_true rfl) ?_
  intro p e s m below meth c ls args A Q H locs hQ hA X U hl
  have hx := X.1
  have hb := X.2.1
  have hl : lv_has ls 2 [(0, .ref ho), (1, .int (nI 44))] := hl
  have hT128 := hT.1
  refine lv_aload_n hx hb kd_Mo_braces_0 rfl (lv_at hl 0 rfl) ?_
  refine kg_Mo_75 X U 0 rfl rfl kd_Mo_braces_1 ?_
  refine kz_ic X 1 kd_Mo_braces_4 (by decide) ?_
  refine kz_icne X (by omega) (by omega) kd_Mo_braces_5 rfl (fun h5 => ?_) (fun h5 => absurd h5 (by omega))
  refine lv_aload_n hx hb kd_Mo_braces_26 rfl (lv_at hl 0 rfl) ?_
  refine kg_Mo_75 X U 0 rfl rfl kd_Mo_braces_27 ?_
  refine kz_ic X 3 kd_Mo_braces_30 (by decide) ?_
  refine kz_icne X (by omega) (by omega) kd_Mo_braces_31 rfl (fun h31 => ?_) (fun h31 => absurd h31 (by omega))
  refine lv_aload_n hx hb kd_Mo_braces_71 rfl (lv_at hl 0 rfl) ?_
  refine kg_Mo_75 X U 0 rfl rfl kd_Mo_braces_72 ?_
  refine kz_ic X 2 kd_Mo_braces_75 (by decide) ?_
  refine kz_icne X (by omega) (by omega) kd_Mo_braces_76 rfl (fun h76 => absurd h76 (by omega)) (fun h76 => ?_)
  refine lv_iload_n hx hb kd_Mo_braces_79 rfl (lv_at hl 1 rfl) ?_
  refine kz_bp X 44 kd_Mo_braces_80 (by decide) ?_
  refine kz_icne X (by omega) (by omega) kd_Mo_braces_82 rfl (fun h82 => absurd h82 (by omega)) (fun h82 => ?_)
  refine lv_aload_n hx hb kd_Mo_braces_85 rfl (lv_at hl 0 rfl) ?_
  refine kz_ic X 3 kd_Mo_braces_86 (by decide) ?_
  refine kp_Mo_75 X U 0 rfl (Nat.le_of_ble_eq_true rfl) kd_Mo_braces_87 (fun H locs U => ?_)
  have U : kz_U D q s A [(ho, .inr (6, [.ref mb, .int (nI sz), .ref mt, .int (nI ln), .ref mw, .int (nI wn), .ref mc, .ref mk, .ref m1, .ref m2, .ref ms, .int (nI dp), .ref mu, .ref mi, .ref mr, .ref mn, .ref mp, .int (nI 3), .int lo_, .int (nI im), .int (nB ex), .ref mj, .int (nI en), .ref me, .ref mh, .int (nB ds)])), (mc, .inl (q 0, 3, .inl (fun x_ => nI ((va_up ct 2 NL.length) x_)))), (mk, .inl (q 0, 384, .inl (fun x_ => nI (kd x_)))), (m1, .inl (q 0, 384, .inl (fun x_ => nI (on x_)))), (m2, .inl (q 0, 384, .inl (fun x_ => nI (tw x_)))), (ms, .inl (q 0, 1152, .inl se)), (mu, .inl (q 0, 42, .inl (fun x_ => nI (un x_) + (-1)))), (mi, .inl (q 0, 42, .inl (fun x_ => nI (ii x_) + (-1)))), (mr, .inl (q 0, 42, .inl (fun x_ => nI (rw_ x_) + (-1)))), (mn, .inl (q 0, 42, .inl (fun x_ => nI (no x_)))), (mp, .inl (q 0, 42, .inl (fun x_ => nI (pc_ x_) + (-1))))] H locs := U
  refine kz_ic X 1 kd_Mo_braces_90 (by decide) ?_
  refine kz_top (y := nB true) rfl ?_
  exact kz_ez hQ hA X U ((kd, on, tw, se)) rfl (⟨rfl, hT⟩) kd_Mo_braces_91

set_option maxHeartbeats 4000000 in
set_option maxRecDepth 100000 in
theorem cm_Mo_braces_f2 (l : Launch) (D : va_G) (q : Nat → ClassId) (ho mb mt mw mc mk m1 m2 ms mu mi mr mn mp mj me mh : Nat) (sz ln wn dp st_ im en : Nat) (lo_ : Int32) (ex ds : Bool) (ct kd on tw : Nat → Nat) (se : Nat → Int32) (NL : List md_N) (b_ : md_B) (un ii rw_ no pc_ : Nat → Nat) (x : Int32) (hT : md_T NL b_ kd on tw se) (hx1 : ¬ x = 44) (hx2 : ¬ x = 125) : kz_Mi (S := (Nat → Nat) × (Nat → Nat) × (Nat → Nat) × (Nat → Int32)) l ky_Mo_braces kb_Mo_braces 2 (some .boolean) 3 D q [.ref ho, .int x] [(ho, .inr (6, [.ref mb, .int (nI sz), .ref mt, .int (nI ln), .ref mw, .int (nI wn), .ref mc, .ref mk, .ref m1, .ref m2, .ref ms, .int (nI dp), .ref mu, .ref mi, .ref mr, .ref mn, .ref mp, .int (nI 2), .int lo_, .int (nI im), .int (nB ex), .ref mj, .int (nI en), .ref me, .ref mh, .int (nB ds)])), (mc, .inl (q 0, 3, .inl (fun x_ => nI ((va_up ct 2 NL.length) x_)))), (mk, .inl (q 0, 384, .inl (fun x_ => nI (kd x_)))), (m1, .inl (q 0, 384, .inl (fun x_ => nI (on x_)))), (m2, .inl (q 0, 384, .inl (fun x_ => nI (tw x_)))), (ms, .inl (q 0, 1152, .inl se)), (mu, .inl (q 0, 42, .inl (fun x_ => nI (un x_) + (-1)))), (mi, .inl (q 0, 42, .inl (fun x_ => nI (ii x_) + (-1)))), (mr, .inl (q 0, 42, .inl (fun x_ => nI (rw_ x_) + (-1)))), (mn, .inl (q 0, 42, .inl (fun x_ => nI (no x_)))), (mp, .inl (q 0, 42, .inl (fun x_ => nI (pc_ x_) + (-1))))] (fun r u => r = nB false ∧ md_T (NL) b_ u.1 u.2.1 u.2.2.1 u.2.2.2) (fun u => [(ho, .inr (6, [.ref mb, .int (nI sz), .ref mt, .int (nI ln), .ref mw, .int (nI wn), .ref mc, .ref mk, .ref m1, .ref m2, .ref ms, .int (nI dp), .ref mu, .ref mi, .ref mr, .ref mn, .ref mp, .int (nI 2), .int lo_, .int (nI im), .int (nB ex), .ref mj, .int (nI en), .ref me, .ref mh, .int (nB ds)])), (mc, .inl (q 0, 3, .inl (fun x_ => nI ((va_up ct 2 NL.length) x_)))), (mk, .inl (q 0, 384, .inl (fun x_ => nI (u.1 x_)))), (m1, .inl (q 0, 384, .inl (fun x_ => nI (u.2.1 x_)))), (m2, .inl (q 0, 384, .inl (fun x_ => nI (u.2.2.1 x_)))), (ms, .inl (q 0, 1152, .inl u.2.2.2)), (mu, .inl (q 0, 42, .inl (fun x_ => nI (un x_) + (-1)))), (mi, .inl (q 0, 42, .inl (fun x_ => nI (ii x_) + (-1)))), (mr, .inl (q 0, 42, .inl (fun x_ => nI (rw_ x_) + (-1)))), (mn, .inl (q 0, 42, .inl (fun x_ => nI (no x_)))), (mp, .inl (q 0, 42, .inl (fun x_ => nI (pc_ x_) + (-1))))]) := by
  intro sz_
  refine kz_go (by decide +kernel) (Nat.le_of_ble_eq_true rfl) ?_
  intro p e s m below meth c ls args A Q H locs hQ hA X U hl
  have hx := X.1
  have hb := X.2.1
  have hl : lv_has ls 2 [(0, .ref ho), (1, .int x)] := hl
  have hT128 := hT.1
  refine lv_aload_n hx hb kd_Mo_braces_0 rfl (lv_at hl 0 rfl) ?_
  refine kg_Mo_75 X U 0 rfl rfl kd_Mo_braces_1 ?_
  refine kz_ic X 1 kd_Mo_braces_4 (by decide) ?_
  refine kz_icne X (by omega) (by omega) kd_Mo_braces_5 rfl (fun h5 => ?_) (fun h5 => absurd h5 (by omega))
  refine lv_aload_n hx hb kd_Mo_braces_26 rfl (lv_at hl 0 rfl) ?_
  refine kg_Mo_75 X U 0 rfl rfl kd_Mo_braces_27 ?_
  refine kz_ic X 3 kd_Mo_braces_30 (by decide) ?_
  refine kz_icne X (by omega) (by omega) kd_Mo_braces_31 rfl (fun h31 => ?_) (fun h31 => absurd h31 (by omega))
  refine lv_aload_n hx hb kd_Mo_braces_71 rfl (lv_at hl 0 rfl) ?_
  refine kg_Mo_75 X U 0 rfl rfl kd_Mo_braces_72 ?_
  refine kz_ic X 2 kd_Mo_braces_75 (by decide) ?_
  refine kz_icne X (by omega) (by omega) kd_Mo_braces_76 rfl (fun h76 => absurd h76 (by omega)) (fun h76 => ?_)
  refine lv_iload_n hx hb kd_Mo_braces_79 rfl (lv_at hl 1 rfl) ?_
  refine kz_bp X 44 kd_Mo_braces_80 (by decide) ?_
  refine lv_icmp_ne hx hb kd_Mo_braces_82 rfl (fun h82 => ?_) (fun h82 => absurd h82 (hx1))
  refine lv_iload_n hx hb kd_Mo_braces_92 rfl (lv_at hl 1 rfl) ?_
  refine kz_bp X 125 kd_Mo_braces_93 (by decide) ?_
  refine lv_icmp_eq hx hb kd_Mo_braces_95 rfl (fun h95 => absurd h95 (hx2)) (fun h95 => ?_)
  refine kz_ic X 0 kd_Mo_braces_98 (by decide) ?_
  refine kz_top (y := nB false) rfl ?_
  exact kz_ez hQ hA X U ((kd, on, tw, se)) rfl (⟨rfl, hT⟩) kd_Mo_braces_99

set_option maxHeartbeats 4000000 in
set_option maxRecDepth 100000 in
theorem cm_Mo_braces_f3 (l : Launch) (D : va_G) (q : Nat → ClassId) (ho mb mt mw mc mk m1 m2 ms mu mi mr mn mp mj me mh : Nat) (sz ln wn dp st_ im en : Nat) (lo_ : Int32) (ex ds : Bool) (ct kd on tw : Nat → Nat) (se : Nat → Int32) (NL : List md_N) (b_ : md_B) (un ii rw_ no pc_ : Nat → Nat) (x : Int32) (hT : md_T NL b_ kd on tw se) (hx1 : ¬ (48 ≤ x ∧ x ≤ 57)) (hx2 : ¬ x = 125) : kz_Mi (S := (Nat → Nat) × (Nat → Nat) × (Nat → Nat) × (Nat → Int32)) l ky_Mo_braces kb_Mo_braces 2 (some .boolean) 3 D q [.ref ho, .int x] [(ho, .inr (6, [.ref mb, .int (nI sz), .ref mt, .int (nI ln), .ref mw, .int (nI wn), .ref mc, .ref mk, .ref m1, .ref m2, .ref ms, .int (nI dp), .ref mu, .ref mi, .ref mr, .ref mn, .ref mp, .int (nI 3), .int lo_, .int (nI im), .int (nB ex), .ref mj, .int (nI en), .ref me, .ref mh, .int (nB ds)])), (mc, .inl (q 0, 3, .inl (fun x_ => nI ((va_up ct 2 NL.length) x_)))), (mk, .inl (q 0, 384, .inl (fun x_ => nI (kd x_)))), (m1, .inl (q 0, 384, .inl (fun x_ => nI (on x_)))), (m2, .inl (q 0, 384, .inl (fun x_ => nI (tw x_)))), (ms, .inl (q 0, 1152, .inl se)), (mu, .inl (q 0, 42, .inl (fun x_ => nI (un x_) + (-1)))), (mi, .inl (q 0, 42, .inl (fun x_ => nI (ii x_) + (-1)))), (mr, .inl (q 0, 42, .inl (fun x_ => nI (rw_ x_) + (-1)))), (mn, .inl (q 0, 42, .inl (fun x_ => nI (no x_)))), (mp, .inl (q 0, 42, .inl (fun x_ => nI (pc_ x_) + (-1))))] (fun r u => r = nB false ∧ md_T (NL) b_ u.1 u.2.1 u.2.2.1 u.2.2.2) (fun u => [(ho, .inr (6, [.ref mb, .int (nI sz), .ref mt, .int (nI ln), .ref mw, .int (nI wn), .ref mc, .ref mk, .ref m1, .ref m2, .ref ms, .int (nI dp), .ref mu, .ref mi, .ref mr, .ref mn, .ref mp, .int (nI 3), .int lo_, .int (nI im), .int (nB ex), .ref mj, .int (nI en), .ref me, .ref mh, .int (nB ds)])), (mc, .inl (q 0, 3, .inl (fun x_ => nI ((va_up ct 2 NL.length) x_)))), (mk, .inl (q 0, 384, .inl (fun x_ => nI (u.1 x_)))), (m1, .inl (q 0, 384, .inl (fun x_ => nI (u.2.1 x_)))), (m2, .inl (q 0, 384, .inl (fun x_ => nI (u.2.2.1 x_)))), (ms, .inl (q 0, 1152, .inl u.2.2.2)), (mu, .inl (q 0, 42, .inl (fun x_ => nI (un x_) + (-1)))), (mi, .inl (q 0, 42, .inl (fun x_ => nI (ii x_) + (-1)))), (mr, .inl (q 0, 42, .inl (fun x_ => nI (rw_ x_) + (-1)))), (mn, .inl (q 0, 42, .inl (fun x_ => nI (no x_)))), (mp, .inl (q 0, 42, .inl (fun x_ => nI (pc_ x_) + (-1))))]) := by
  intro sz_
  refine kz_go (by decide +kernel) (Nat.le_of_ble_eq_true rfl) ?_
  intro p e s m below meth c ls args A Q H locs hQ hA X U hl
  have hx := X.1
  have hb := X.2.1
  have hl : lv_has ls 2 [(0, .ref ho), (1, .int x)] := hl
  have hT128 := hT.1
  refine lv_aload_n hx hb kd_Mo_braces_0 rfl (lv_at hl 0 rfl) ?_
  refine kg_Mo_75 X U 0 rfl rfl kd_Mo_braces_1 ?_
  refine kz_ic X 1 kd_Mo_braces_4 (by decide) ?_
  refine kz_icne X (by omega) (by omega) kd_Mo_braces_5 rfl (fun h5 => ?_) (fun h5 => absurd h5 (by omega))
  refine lv_aload_n hx hb kd_Mo_braces_26 rfl (lv_at hl 0 rfl) ?_
  refine kg_Mo_75 X U 0 rfl rfl kd_Mo_braces_27 ?_
  refine kz_ic X 3 kd_Mo_braces_30 (by decide) ?_
  refine kz_icne X (by omega) (by omega) kd_Mo_braces_31 rfl (fun h31 => absurd h31 (by omega)) (fun h31 => ?_)
  refine lv_iload_n hx hb kd_Mo_braces_34 rfl (lv_at hl 1 rfl) ?_
  refine kz_cSi (av := [.int x]) (rest := []) (wr := [(ho, .inr (6, [.ref mb, .int (nI sz), .ref mt, .int (nI ln), .ref mw, .int (nI wn), .ref mc, .ref mk, .ref m1, .ref m2, .ref ms, .int (nI dp), .ref mu, .ref mi, .ref mr, .ref mn, .ref mp, .int (nI 3), .int lo_, .int (nI im), .int (nB ex), .ref mj, .int (nI en), .ref me, .ref mh, .int (nB ds)])), (mc, .inl (q 0, 3, .inl (fun x_ => nI ((va_up ct 2 NL.length) x_)))), (mk, .inl (q 0, 384, .inl (fun x_ => nI (kd x_)))), (m1, .inl (q 0, 384, .inl (fun x_ => nI (on x_)))), (m2, .inl (q 0, 384, .inl (fun x_ => nI (tw x_)))), (ms, .inl (q 0, 1152, .inl se)), (mu, .inl (q 0, 42, .inl (fun x_ => nI (un x_) + (-1)))), (mi, .inl (q 0, 42, .inl (fun x_ => nI (ii x_) + (-1)))), (mr, .inl (q 0, 42, .inl (fun x_ => nI (rw_ x_) + (-1)))), (mn, .inl (q 0, 42, .inl (fun x_ => nI (no x_)))), (mp, .inl (q 0, 42, .inl (fun x_ => nI (pc_ x_) + (-1))))]) X U hl.1 (cm_Mo_isDigit l D q x) (by decide) (by decide) ⟨by decide, by decide⟩ tb_571 tb_572 tb_11 tb_573 kq_Mo_isDigit [] [0, 1, 2, 3, 4, 5, 6, 7, 8, 9, 10] (by decide) rfl rfl (by decide) (by decide) rfl (Nat.le_of_ble_eq_true rfl) kd_Mo_braces_35 (fun rv _ H locs hp U => ?_)
  subst hp
  have U : kz_U D q s A [(ho, .inr (6, [.ref mb, .int (nI sz), .ref mt, .int (nI ln), .ref mw, .int (nI wn), .ref mc, .ref mk, .ref m1, .ref m2, .ref ms, .int (nI dp), .ref mu, .ref mi, .ref mr, .ref mn, .ref mp, .int (nI 3), .int lo_, .int (nI im), .int (nB ex), .ref mj, .int (nI en), .ref me, .ref mh, .int (nB ds)])), (mc, .inl (q 0, 3, .inl (fun x_ => nI ((va_up ct 2 NL.length) x_)))), (mk, .inl (q 0, 384, .inl (fun x_ => nI (kd x_)))), (m1, .inl (q 0, 384, .inl (fun x_ => nI (on x_)))), (m2, .inl (q 0, 384, .inl (fun x_ => nI (tw x_)))), (ms, .inl (q 0, 1152, .inl se)), (mu, .inl (q 0, 42, .inl (fun x_ => nI (un x_) + (-1)))), (mi, .inl (q 0, 42, .inl (fun x_ => nI (ii x_) + (-1)))), (mr, .inl (q 0, 42, .inl (fun x_ => nI (rw_ x_) + (-1)))), (mn, .inl (q 0, 42, .inl (fun x_ => nI (no x_)))), (mp, .inl (q 0, 42, .inl (fun x_ => nI (pc_ x_) + (-1))))] H locs := U
  refine kz_ifeqB X kd_Mo_braces_38 rfl (fun h38 => ?_) (fun h38 => absurd h38 (by rw [decide_eq_false hx1]; decide))
  refine lv_aload_n hx hb kd_Mo_braces_71 rfl (lv_at hl 0 rfl) ?_
  refine kg_Mo_75 X U 0 rfl rfl kd_Mo_braces_72 ?_
  refine kz_ic X 2 kd_Mo_braces_75 (by decide) ?_
  refine kz_icne X (by omega) (by omega) kd_Mo_braces_76 rfl (fun h76 => ?_) (fun h76 => absurd h76 (by omega))
  refine lv_iload_n hx hb kd_Mo_braces_92 rfl (lv_at hl 1 rfl) ?_
  refine kz_bp X 125 kd_Mo_braces_93 (by decide) ?_
  refine lv_icmp_eq hx hb kd_Mo_braces_95 rfl (fun h95 => absurd h95 (hx2)) (fun h95 => ?_)
  refine kz_ic X 0 kd_Mo_braces_98 (by decide) ?_
  refine kz_top (y := nB false) rfl ?_
  exact kz_ez hQ hA X U ((kd, on, tw, se)) rfl (⟨rfl, hT⟩) kd_Mo_braces_99

set_option maxHeartbeats 4000000 in
set_option maxRecDepth 100000 in
theorem cm_Mo_braces_f4 (l : Launch) (D : va_G) (q : Nat → ClassId) (ho mb mt mw mc mk m1 m2 ms mu mi mr mn mp mj me mh : Nat) (sz ln wn dp st_ im en : Nat) (lo_ : Int32) (ex ds : Bool) (ct kd on tw : Nat → Nat) (se : Nat → Int32) (NL : List md_N) (b_ : md_B) (un ii rw_ no pc_ : Nat → Nat) (x : Int32) (hT : md_T NL b_ kd on tw se) (hx2 : ¬ x = 125) : kz_Mi (S := (Nat → Nat) × (Nat → Nat) × (Nat → Nat) × (Nat → Int32)) l ky_Mo_braces kb_Mo_braces 2 (some .boolean) 3 D q [.ref ho, .int x] [(ho, .inr (6, [.ref mb, .int (nI sz), .ref mt, .int (nI ln), .ref mw, .int (nI wn), .ref mc, .ref mk, .ref m1, .ref m2, .ref ms, .int (nI dp), .ref mu, .ref mi, .ref mr, .ref mn, .ref mp, .int (nI 4), .int lo_, .int (nI im), .int (nB ex), .ref mj, .int (nI en), .ref me, .ref mh, .int (nB ds)])), (mc, .inl (q 0, 3, .inl (fun x_ => nI ((va_up ct 2 NL.length) x_)))), (mk, .inl (q 0, 384, .inl (fun x_ => nI (kd x_)))), (m1, .inl (q 0, 384, .inl (fun x_ => nI (on x_)))), (m2, .inl (q 0, 384, .inl (fun x_ => nI (tw x_)))), (ms, .inl (q 0, 1152, .inl se)), (mu, .inl (q 0, 42, .inl (fun x_ => nI (un x_) + (-1)))), (mi, .inl (q 0, 42, .inl (fun x_ => nI (ii x_) + (-1)))), (mr, .inl (q 0, 42, .inl (fun x_ => nI (rw_ x_) + (-1)))), (mn, .inl (q 0, 42, .inl (fun x_ => nI (no x_)))), (mp, .inl (q 0, 42, .inl (fun x_ => nI (pc_ x_) + (-1))))] (fun r u => r = nB false ∧ md_T (NL) b_ u.1 u.2.1 u.2.2.1 u.2.2.2) (fun u => [(ho, .inr (6, [.ref mb, .int (nI sz), .ref mt, .int (nI ln), .ref mw, .int (nI wn), .ref mc, .ref mk, .ref m1, .ref m2, .ref ms, .int (nI dp), .ref mu, .ref mi, .ref mr, .ref mn, .ref mp, .int (nI 4), .int lo_, .int (nI im), .int (nB ex), .ref mj, .int (nI en), .ref me, .ref mh, .int (nB ds)])), (mc, .inl (q 0, 3, .inl (fun x_ => nI ((va_up ct 2 NL.length) x_)))), (mk, .inl (q 0, 384, .inl (fun x_ => nI (u.1 x_)))), (m1, .inl (q 0, 384, .inl (fun x_ => nI (u.2.1 x_)))), (m2, .inl (q 0, 384, .inl (fun x_ => nI (u.2.2.1 x_)))), (ms, .inl (q 0, 1152, .inl u.2.2.2)), (mu, .inl (q 0, 42, .inl (fun x_ => nI (un x_) + (-1)))), (mi, .inl (q 0, 42, .inl (fun x_ => nI (ii x_) + (-1)))), (mr, .inl (q 0, 42, .inl (fun x_ => nI (rw_ x_) + (-1)))), (mn, .inl (q 0, 42, .inl (fun x_ => nI (no x_)))), (mp, .inl (q 0, 42, .inl (fun x_ => nI (pc_ x_) + (-1))))]) := by
  intro sz_
  refine kz_go (by decide +kernel) (Nat.le_of_ble_eq_true rfl) ?_
  intro p e s m below meth c ls args A Q H locs hQ hA X U hl
  have hx := X.1
  have hb := X.2.1
  have hl : lv_has ls 2 [(0, .ref ho), (1, .int x)] := hl
  have hT128 := hT.1
  refine lv_aload_n hx hb kd_Mo_braces_0 rfl (lv_at hl 0 rfl) ?_
  refine kg_Mo_75 X U 0 rfl rfl kd_Mo_braces_1 ?_
  refine kz_ic X 1 kd_Mo_braces_4 (by decide) ?_
  refine kz_icne X (by omega) (by omega) kd_Mo_braces_5 rfl (fun h5 => ?_) (fun h5 => absurd h5 (by omega))
  refine lv_aload_n hx hb kd_Mo_braces_26 rfl (lv_at hl 0 rfl) ?_
  refine kg_Mo_75 X U 0 rfl rfl kd_Mo_braces_27 ?_
  refine kz_ic X 3 kd_Mo_braces_30 (by decide) ?_
  refine kz_icne X (by omega) (by omega) kd_Mo_braces_31 rfl (fun h31 => ?_) (fun h31 => absurd h31 (by omega))
  refine lv_aload_n hx hb kd_Mo_braces_71 rfl (lv_at hl 0 rfl) ?_
  refine kg_Mo_75 X U 0 rfl rfl kd_Mo_braces_72 ?_
  refine kz_ic X 2 kd_Mo_braces_75 (by decide) ?_
  refine kz_icne X (by omega) (by omega) kd_Mo_braces_76 rfl (fun h76 => ?_) (fun h76 => absurd h76 (by omega))
  refine lv_iload_n hx hb kd_Mo_braces_92 rfl (lv_at hl 1 rfl) ?_
  refine kz_bp X 125 kd_Mo_braces_93 (by decide) ?_
  refine lv_icmp_eq hx hb kd_Mo_braces_95 rfl (fun h95 => absurd h95 (hx2)) (fun h95 => ?_)
  refine kz_ic X 0 kd_Mo_braces_98 (by decide) ?_
  refine kz_top (y := nB false) rfl ?_
  exact kz_ez hQ hA X U ((kd, on, tw, se)) rfl (⟨rfl, hT⟩) kd_Mo_braces_99

set_option maxHeartbeats 4000000 in
set_option maxRecDepth 100000 in
theorem cm_Mo_braces_t2 (l : Launch) (D : va_G) (q : Nat → ClassId) (ho mb mt mw mc mk m1 m2 ms mu mi mr mn mp mj me mh : Nat) (sz ln wn dp st_ im en : Nat) (lo_ : Int32) (ex ds : Bool) (ct kd on tw : Nat → Nat) (se : Nat → Int32) (NL : List md_N) (b_ : md_B) (un ii rw_ no pc_ : Nat → Nat) (lw : Nat) (hT : md_T NL b_ kd on tw se) (hdp : dp ≤ 41) (hcap : NL.length + 1 ≤ 128) (hpc0 : 0 < pc_ dp) (hpc : pc_ dp ≤ NL.length) : kz_Mi (S := (Nat → Nat) × (Nat → Nat) × (Nat → Nat) × (Nat → Int32)) l ky_Mo_braces kb_Mo_braces 2 (some .boolean) 3 D q [.ref ho, .int (nI 125)] [(ho, .inr (6, [.ref mb, .int (nI sz), .ref mt, .int (nI ln), .ref mw, .int (nI wn), .ref mc, .ref mk, .ref m1, .ref m2, .ref ms, .int (nI dp), .ref mu, .ref mi, .ref mr, .ref mn, .ref mp, .int (nI 2), .int (nI lw), .int (nI im), .int (nB ex), .ref mj, .int (nI en), .ref me, .ref mh, .int (nB ds)])), (mc, .inl (q 0, 3, .inl (fun x_ => nI ((va_up ct 2 NL.length) x_)))), (mk, .inl (q 0, 384, .inl (fun x_ => nI (kd x_)))), (m1, .inl (q 0, 384, .inl (fun x_ => nI (on x_)))), (m2, .inl (q 0, 384, .inl (fun x_ => nI (tw x_)))), (ms, .inl (q 0, 1152, .inl se)), (mu, .inl (q 0, 42, .inl (fun x_ => nI (un x_) + (-1)))), (mi, .inl (q 0, 42, .inl (fun x_ => nI (ii x_) + (-1)))), (mr, .inl (q 0, 42, .inl (fun x_ => nI (rw_ x_) + (-1)))), (mn, .inl (q 0, 42, .inl (fun x_ => nI (no x_)))), (mp, .inl (q 0, 42, .inl (fun x_ => nI (pc_ x_) + (-1))))] (fun r u => r = nB true ∧ md_T (md_set (NL ++ [(9, pc_ dp - 1, lw, fun _ => 0)]) NL.length 0 (nI lw)) b_ u.1 u.2.1 u.2.2.1 u.2.2.2) (fun u => [(ho, .inr (6, [.ref mb, .int (nI sz), .ref mt, .int (nI ln), .ref mw, .int (nI wn), .ref mc, .ref mk, .ref m1, .ref m2, .ref ms, .int (nI dp), .ref mu, .ref mi, .ref mr, .ref mn, .ref mp, .int (nI 0), .int (nI lw), .int (nI im), .int (nB ex), .ref mj, .int (nI en), .ref me, .ref mh, .int (nB ds)])), (mc, .inl (q 0, 3, .inl (fun x_ => nI ((va_up ct 2 ((md_set (NL ++ [(9, pc_ dp - 1, lw, fun _ => 0)]) NL.length 0 (nI lw)).length)) x_)))), (mk, .inl (q 0, 384, .inl (fun x_ => nI (u.1 x_)))), (m1, .inl (q 0, 384, .inl (fun x_ => nI (u.2.1 x_)))), (m2, .inl (q 0, 384, .inl (fun x_ => nI (u.2.2.1 x_)))), (ms, .inl (q 0, 1152, .inl u.2.2.2)), (mu, .inl (q 0, 42, .inl (fun x_ => nI (un x_) + (-1)))), (mi, .inl (q 0, 42, .inl (fun x_ => nI (ii x_) + (-1)))), (mr, .inl (q 0, 42, .inl (fun x_ => nI (rw_ x_) + (-1)))), (mn, .inl (q 0, 42, .inl (fun x_ => nI (no x_)))), (mp, .inl (q 0, 42, .inl (fun x_ => nI ((va_up pc_ dp (NL.length + 1)) x_) + (-1))))]) := by
  intro sz_
  refine kz_go (by decide +kernel) (Nat.le_of_ble_eq_true rfl) ?_
  intro p e s m below meth c ls args A Q H locs hQ hA X U hl
  have hx := X.1
  have hb := X.2.1
  have hl : lv_has ls 2 [(0, .ref ho), (1, .int (nI 125))] := hl
  have hT128 := hT.1
  refine lv_aload_n hx hb kd_Mo_braces_0 rfl (lv_at hl 0 rfl) ?_
  refine kg_Mo_75 X U 0 rfl rfl kd_Mo_braces_1 ?_
  refine kz_ic X 1 kd_Mo_braces_4 (by decide) ?_
  refine kz_icne X (by omega) (by omega) kd_Mo_braces_5 rfl (fun h5 => ?_) (fun h5 => absurd h5 (by omega))
  refine lv_aload_n hx hb kd_Mo_braces_26 rfl (lv_at hl 0 rfl) ?_
  refine kg_Mo_75 X U 0 rfl rfl kd_Mo_braces_27 ?_
  refine kz_ic X 3 kd_Mo_braces_30 (by decide) ?_
  refine kz_icne X (by omega) (by omega) kd_Mo_braces_31 rfl (fun h31 => ?_) (fun h31 => absurd h31 (by omega))
  refine lv_aload_n hx hb kd_Mo_braces_71 rfl (lv_at hl 0 rfl) ?_
  refine kg_Mo_75 X U 0 rfl rfl kd_Mo_braces_72 ?_
  refine kz_ic X 2 kd_Mo_braces_75 (by decide) ?_
  refine kz_icne X (by omega) (by omega) kd_Mo_braces_76 rfl (fun h76 => absurd h76 (by omega)) (fun h76 => ?_)
  refine lv_iload_n hx hb kd_Mo_braces_79 rfl (lv_at hl 1 rfl) ?_
  refine kz_bp X 44 kd_Mo_braces_80 (by decide) ?_
  refine kz_icne X (by omega) (by omega) kd_Mo_braces_82 rfl (fun h82 => ?_) (fun h82 => absurd h82 (by omega))
  refine lv_iload_n hx hb kd_Mo_braces_92 rfl (lv_at hl 1 rfl) ?_
  refine kz_bp X 125 kd_Mo_braces_93 (by decide) ?_
  refine kz_iceq X (by omega) (by omega) kd_Mo_braces_95 rfl (fun h95 => ?_) (fun h95 => absurd h95 (by omega))
  refine lv_aload_n hx hb kd_Mo_braces_100 rfl (lv_at hl 0 rfl) ?_
  refine kz_bp X 9 kd_Mo_braces_101 (by decide) ?_
  refine lv_aload_n hx hb kd_Mo_braces_103 rfl (lv_at hl 0 rfl) ?_
  refine kg_Mo_104 X U 0 rfl rfl kd_Mo_braces_104 ?_
  refine lv_aload_n hx hb kd_Mo_braces_107 rfl (lv_at hl 0 rfl) ?_
  refine kg_Mo_75 X U 0 rfl rfl kd_Mo_braces_108 ?_
  refine kz_ic X 2 kd_Mo_braces_111 (by decide) ?_
  refine kz_icne X (by omega) (by omega) kd_Mo_braces_112 rfl (fun h112 => absurd h112 (by omega)) (fun h112 => ?_)
  refine lv_aload_n hx hb kd_Mo_braces_115 rfl (lv_at hl 0 rfl) ?_
  refine kg_Mo_104 X U 0 rfl rfl kd_Mo_braces_116 ?_
  refine lv_goto hx hb kd_Mo_braces_119 rfl ?_
  refine kz_cVv (av := [.int (nI 9), .int (nI lw), .int (nI lw)]) (rest := []) (wr := [(mu, .inl (q 0, 42, .inl (fun x_ => nI (un x_) + (-1)))), (mi, .inl (q 0, 42, .inl (fun x_ => nI (ii x_) + (-1)))), (mr, .inl (q 0, 42, .inl (fun x_ => nI (rw_ x_) + (-1)))), (mn, .inl (q 0, 42, .inl (fun x_ => nI (no x_))))]) X U hl.1 (cm_Mo_mark l D q ho mb mt mw mc mk m1 m2 ms mu mi mr mn mp mj me mh sz ln wn dp 2 im en (nI lw) ex ds ct kd on tw se NL b_ un ii rw_ no pc_ 9 lw lw hT hdp hcap hpc0 hpc) (by decide) (by decide) ⟨by decide, by decide⟩ tb_555 tb_557 tb_s28 0 rfl rfl tb_11 tb_558 kq_Mo_mark [0, 1, 2, 3, 4, 5, 10] [6, 7, 8, 9] (by decide) rfl rfl (by decide) (by decide) rfl (Nat.le_of_ble_eq_true rfl) kd_Mo_braces_139 (fun u H locs hu U => ?_)
  have U : kz_U D q s A [(ho, .inr (6, [.ref mb, .int (nI sz), .ref mt, .int (nI ln), .ref mw, .int (nI wn), .ref mc, .ref mk, .ref m1, .ref m2, .ref ms, .int (nI dp), .ref mu, .ref mi, .ref mr, .ref mn, .ref mp, .int (nI 0), .int (nI lw), .int (nI im), .int (nB ex), .ref mj, .int (nI en), .ref me, .ref mh, .int (nB ds)])), (mc, .inl (q 0, 3, .inl (fun x_ => nI ((va_up ct 2 ((md_set (NL ++ [(9, pc_ dp - 1, lw, fun _ => 0)]) NL.length 0 (nI lw)).length)) x_)))), (mk, .inl (q 0, 384, .inl (fun x_ => nI (u.1 x_)))), (m1, .inl (q 0, 384, .inl (fun x_ => nI (u.2.1 x_)))), (m2, .inl (q 0, 384, .inl (fun x_ => nI (u.2.2.1 x_)))), (ms, .inl (q 0, 1152, .inl u.2.2.2)), (mu, .inl (q 0, 42, .inl (fun x_ => nI (un x_) + (-1)))), (mi, .inl (q 0, 42, .inl (fun x_ => nI (ii x_) + (-1)))), (mr, .inl (q 0, 42, .inl (fun x_ => nI (rw_ x_) + (-1)))), (mn, .inl (q 0, 42, .inl (fun x_ => nI (no x_)))), (mp, .inl (q 0, 42, .inl (fun x_ => nI ((va_up pc_ dp (NL.length + 1)) x_) + (-1))))] H locs := U.sub [4, 5, 6, 7, 8, 9, 0, 1, 2, 3, 10] (by decide) rfl
  refine kz_ic X 1 kd_Mo_braces_142 (by decide) ?_
  refine kz_top (y := nB true) rfl ?_
  exact kz_ez hQ hA X U u rfl (⟨rfl, hu⟩) kd_Mo_braces_143

set_option maxHeartbeats 4000000 in
set_option maxRecDepth 100000 in
theorem cm_Mo_braces_t3 (l : Launch) (D : va_G) (q : Nat → ClassId) (ho mb mt mw mc mk m1 m2 ms mu mi mr mn mp mj me mh : Nat) (sz ln wn dp st_ im en : Nat) (lo_ : Int32) (ex ds : Bool) (ct kd on tw : Nat → Nat) (se : Nat → Int32) (NL : List md_N) (b_ : md_B) (un ii rw_ no pc_ : Nat → Nat) (lw : Nat) (hT : md_T NL b_ kd on tw se) (hdp : dp ≤ 41) (hcap : NL.length + 1 ≤ 128) (hpc0 : 0 < pc_ dp) (hpc : pc_ dp ≤ NL.length) : kz_Mi (S := (Nat → Nat) × (Nat → Nat) × (Nat → Nat) × (Nat → Int32)) l ky_Mo_braces kb_Mo_braces 2 (some .boolean) 3 D q [.ref ho, .int (nI 125)] [(ho, .inr (6, [.ref mb, .int (nI sz), .ref mt, .int (nI ln), .ref mw, .int (nI wn), .ref mc, .ref mk, .ref m1, .ref m2, .ref ms, .int (nI dp), .ref mu, .ref mi, .ref mr, .ref mn, .ref mp, .int (nI 3), .int (nI lw), .int (nI im), .int (nB ex), .ref mj, .int (nI en), .ref me, .ref mh, .int (nB ds)])), (mc, .inl (q 0, 3, .inl (fun x_ => nI ((va_up ct 2 NL.length) x_)))), (mk, .inl (q 0, 384, .inl (fun x_ => nI (kd x_)))), (m1, .inl (q 0, 384, .inl (fun x_ => nI (on x_)))), (m2, .inl (q 0, 384, .inl (fun x_ => nI (tw x_)))), (ms, .inl (q 0, 1152, .inl se)), (mu, .inl (q 0, 42, .inl (fun x_ => nI (un x_) + (-1)))), (mi, .inl (q 0, 42, .inl (fun x_ => nI (ii x_) + (-1)))), (mr, .inl (q 0, 42, .inl (fun x_ => nI (rw_ x_) + (-1)))), (mn, .inl (q 0, 42, .inl (fun x_ => nI (no x_)))), (mp, .inl (q 0, 42, .inl (fun x_ => nI (pc_ x_) + (-1))))] (fun r u => r = nB true ∧ md_T (md_set (NL ++ [(9, pc_ dp - 1, lw, fun _ => 0)]) NL.length 0 (nI 10)) b_ u.1 u.2.1 u.2.2.1 u.2.2.2) (fun u => [(ho, .inr (6, [.ref mb, .int (nI sz), .ref mt, .int (nI ln), .ref mw, .int (nI wn), .ref mc, .ref mk, .ref m1, .ref m2, .ref ms, .int (nI dp), .ref mu, .ref mi, .ref mr, .ref mn, .ref mp, .int (nI 0), .int (nI lw), .int (nI im), .int (nB ex), .ref mj, .int (nI en), .ref me, .ref mh, .int (nB ds)])), (mc, .inl (q 0, 3, .inl (fun x_ => nI ((va_up ct 2 ((md_set (NL ++ [(9, pc_ dp - 1, lw, fun _ => 0)]) NL.length 0 (nI 10)).length)) x_)))), (mk, .inl (q 0, 384, .inl (fun x_ => nI (u.1 x_)))), (m1, .inl (q 0, 384, .inl (fun x_ => nI (u.2.1 x_)))), (m2, .inl (q 0, 384, .inl (fun x_ => nI (u.2.2.1 x_)))), (ms, .inl (q 0, 1152, .inl u.2.2.2)), (mu, .inl (q 0, 42, .inl (fun x_ => nI (un x_) + (-1)))), (mi, .inl (q 0, 42, .inl (fun x_ => nI (ii x_) + (-1)))), (mr, .inl (q 0, 42, .inl (fun x_ => nI (rw_ x_) + (-1)))), (mn, .inl (q 0, 42, .inl (fun x_ => nI (no x_)))), (mp, .inl (q 0, 42, .inl (fun x_ => nI ((va_up pc_ dp (NL.length + 1)) x_) + (-1))))]) := by
  intro sz_
  refine kz_go (by decide +kernel) (Nat.le_of_ble_eq_true rfl) ?_
  intro p e s m below meth c ls args A Q H locs hQ hA X U hl
  have hx := X.1
  have hb := X.2.1
  have hl : lv_has ls 2 [(0, .ref ho), (1, .int (nI 125))] := hl
  have hT128 := hT.1
  refine lv_aload_n hx hb kd_Mo_braces_0 rfl (lv_at hl 0 rfl) ?_
  refine kg_Mo_75 X U 0 rfl rfl kd_Mo_braces_1 ?_
  refine kz_ic X 1 kd_Mo_braces_4 (by decide) ?_
  refine kz_icne X (by omega) (by omega) kd_Mo_braces_5 rfl (fun h5 => ?_) (fun h5 => absurd h5 (by omega))
  refine lv_aload_n hx hb kd_Mo_braces_26 rfl (lv_at hl 0 rfl) ?_
  refine kg_Mo_75 X U 0 rfl rfl kd_Mo_braces_27 ?_
  refine kz_ic X 3 kd_Mo_braces_30 (by decide) ?_
  refine kz_icne X (by omega) (by omega) kd_Mo_braces_31 rfl (fun h31 => absurd h31 (by omega)) (fun h31 => ?_)
  refine lv_iload_n hx hb kd_Mo_braces_34 rfl (lv_at hl 1 rfl) ?_
  refine kz_cSi (av := [.int (nI 125)]) (rest := []) (wr := [(ho, .inr (6, [.ref mb, .int (nI sz), .ref mt, .int (nI ln), .ref mw, .int (nI wn), .ref mc, .ref mk, .ref m1, .ref m2, .ref ms, .int (nI dp), .ref mu, .ref mi, .ref mr, .ref mn, .ref mp, .int (nI 3), .int (nI lw), .int (nI im), .int (nB ex), .ref mj, .int (nI en), .ref me, .ref mh, .int (nB ds)])), (mc, .inl (q 0, 3, .inl (fun x_ => nI ((va_up ct 2 NL.length) x_)))), (mk, .inl (q 0, 384, .inl (fun x_ => nI (kd x_)))), (m1, .inl (q 0, 384, .inl (fun x_ => nI (on x_)))), (m2, .inl (q 0, 384, .inl (fun x_ => nI (tw x_)))), (ms, .inl (q 0, 1152, .inl se)), (mu, .inl (q 0, 42, .inl (fun x_ => nI (un x_) + (-1)))), (mi, .inl (q 0, 42, .inl (fun x_ => nI (ii x_) + (-1)))), (mr, .inl (q 0, 42, .inl (fun x_ => nI (rw_ x_) + (-1)))), (mn, .inl (q 0, 42, .inl (fun x_ => nI (no x_)))), (mp, .inl (q 0, 42, .inl (fun x_ => nI (pc_ x_) + (-1))))]) X U hl.1 (cm_Mo_isDigit l D q (nI 125)) (by decide) (by decide) ⟨by decide, by decide⟩ tb_571 tb_572 tb_11 tb_573 kq_Mo_isDigit [] [0, 1, 2, 3, 4, 5, 6, 7, 8, 9, 10] (by decide) rfl rfl (by decide) (by decide) rfl (Nat.le_of_ble_eq_true rfl) kd_Mo_braces_35 (fun rv _ H locs hp U => ?_)
  subst hp
  have U : kz_U D q s A [(ho, .inr (6, [.ref mb, .int (nI sz), .ref mt, .int (nI ln), .ref mw, .int (nI wn), .ref mc, .ref mk, .ref m1, .ref m2, .ref ms, .int (nI dp), .ref mu, .ref mi, .ref mr, .ref mn, .ref mp, .int (nI 3), .int (nI lw), .int (nI im), .int (nB ex), .ref mj, .int (nI en), .ref me, .ref mh, .int (nB ds)])), (mc, .inl (q 0, 3, .inl (fun x_ => nI ((va_up ct 2 NL.length) x_)))), (mk, .inl (q 0, 384, .inl (fun x_ => nI (kd x_)))), (m1, .inl (q 0, 384, .inl (fun x_ => nI (on x_)))), (m2, .inl (q 0, 384, .inl (fun x_ => nI (tw x_)))), (ms, .inl (q 0, 1152, .inl se)), (mu, .inl (q 0, 42, .inl (fun x_ => nI (un x_) + (-1)))), (mi, .inl (q 0, 42, .inl (fun x_ => nI (ii x_) + (-1)))), (mr, .inl (q 0, 42, .inl (fun x_ => nI (rw_ x_) + (-1)))), (mn, .inl (q 0, 42, .inl (fun x_ => nI (no x_)))), (mp, .inl (q 0, 42, .inl (fun x_ => nI (pc_ x_) + (-1))))] H locs := U
  refine kz_ifeqB X kd_Mo_braces_38 rfl (fun h38 => ?_) (fun h38 => absurd h38 (by decide))
  refine lv_aload_n hx hb kd_Mo_braces_71 rfl (lv_at hl 0 rfl) ?_
  refine kg_Mo_75 X U 0 rfl rfl kd_Mo_braces_72 ?_
  refine kz_ic X 2 kd_Mo_braces_75 (by decide) ?_
  refine kz_icne X (by omega) (by omega) kd_Mo_braces_76 rfl (fun h76 => ?_) (fun h76 => absurd h76 (by omega))
  refine lv_iload_n hx hb kd_Mo_braces_92 rfl (lv_at hl 1 rfl) ?_
  refine kz_bp X 125 kd_Mo_braces_93 (by decide) ?_
  refine kz_iceq X (by omega) (by omega) kd_Mo_braces_95 rfl (fun h95 => ?_) (fun h95 => absurd h95 (by omega))
  refine lv_aload_n hx hb kd_Mo_braces_100 rfl (lv_at hl 0 rfl) ?_
  refine kz_bp X 9 kd_Mo_braces_101 (by decide) ?_
  refine lv_aload_n hx hb kd_Mo_braces_103 rfl (lv_at hl 0 rfl) ?_
  refine kg_Mo_104 X U 0 rfl rfl kd_Mo_braces_104 ?_
  refine lv_aload_n hx hb kd_Mo_braces_107 rfl (lv_at hl 0 rfl) ?_
  refine kg_Mo_75 X U 0 rfl rfl kd_Mo_braces_108 ?_
  refine kz_ic X 2 kd_Mo_braces_111 (by decide) ?_
  refine kz_icne X (by omega) (by omega) kd_Mo_braces_112 rfl (fun h112 => ?_) (fun h112 => absurd h112 (by omega))
  refine lv_aload_n hx hb kd_Mo_braces_122 rfl (lv_at hl 0 rfl) ?_
  refine kg_Mo_75 X U 0 rfl rfl kd_Mo_braces_123 ?_
  refine kz_ic X 3 kd_Mo_braces_126 (by decide) ?_
  refine kz_icne X (by omega) (by omega) kd_Mo_braces_127 rfl (fun h127 => absurd h127 (by omega)) (fun h127 => ?_)
  refine kz_bp X 10 kd_Mo_braces_130 (by decide) ?_
  refine lv_goto hx hb kd_Mo_braces_132 rfl ?_
  refine kz_cVv (av := [.int (nI 9), .int (nI lw), .int (nI 10)]) (rest := []) (wr := [(mu, .inl (q 0, 42, .inl (fun x_ => nI (un x_) + (-1)))), (mi, .inl (q 0, 42, .inl (fun x_ => nI (ii x_) + (-1)))), (mr, .inl (q 0, 42, .inl (fun x_ => nI (rw_ x_) + (-1)))), (mn, .inl (q 0, 42, .inl (fun x_ => nI (no x_))))]) X U hl.1 (cm_Mo_mark l D q ho mb mt mw mc mk m1 m2 ms mu mi mr mn mp mj me mh sz ln wn dp 3 im en (nI lw) ex ds ct kd on tw se NL b_ un ii rw_ no pc_ 9 lw 10 hT hdp hcap hpc0 hpc) (by decide) (by decide) ⟨by decide, by decide⟩ tb_555 tb_557 tb_s28 0 rfl rfl tb_11 tb_558 kq_Mo_mark [0, 1, 2, 3, 4, 5, 10] [6, 7, 8, 9] (by decide) rfl rfl (by decide) (by decide) rfl (Nat.le_of_ble_eq_true rfl) kd_Mo_braces_139 (fun u H locs hu U => ?_)
  have U : kz_U D q s A [(ho, .inr (6, [.ref mb, .int (nI sz), .ref mt, .int (nI ln), .ref mw, .int (nI wn), .ref mc, .ref mk, .ref m1, .ref m2, .ref ms, .int (nI dp), .ref mu, .ref mi, .ref mr, .ref mn, .ref mp, .int (nI 0), .int (nI lw), .int (nI im), .int (nB ex), .ref mj, .int (nI en), .ref me, .ref mh, .int (nB ds)])), (mc, .inl (q 0, 3, .inl (fun x_ => nI ((va_up ct 2 ((md_set (NL ++ [(9, pc_ dp - 1, lw, fun _ => 0)]) NL.length 0 (nI 10)).length)) x_)))), (mk, .inl (q 0, 384, .inl (fun x_ => nI (u.1 x_)))), (m1, .inl (q 0, 384, .inl (fun x_ => nI (u.2.1 x_)))), (m2, .inl (q 0, 384, .inl (fun x_ => nI (u.2.2.1 x_)))), (ms, .inl (q 0, 1152, .inl u.2.2.2)), (mu, .inl (q 0, 42, .inl (fun x_ => nI (un x_) + (-1)))), (mi, .inl (q 0, 42, .inl (fun x_ => nI (ii x_) + (-1)))), (mr, .inl (q 0, 42, .inl (fun x_ => nI (rw_ x_) + (-1)))), (mn, .inl (q 0, 42, .inl (fun x_ => nI (no x_)))), (mp, .inl (q 0, 42, .inl (fun x_ => nI ((va_up pc_ dp (NL.length + 1)) x_) + (-1))))] H locs := U.sub [4, 5, 6, 7, 8, 9, 0, 1, 2, 3, 10] (by decide) rfl
  refine kz_ic X 1 kd_Mo_braces_142 (by decide) ?_
  refine kz_top (y := nB true) rfl ?_
  exact kz_ez hQ hA X U u rfl (⟨rfl, hu⟩) kd_Mo_braces_143

set_option maxHeartbeats 4000000 in
set_option maxRecDepth 100000 in
theorem cm_Mo_braces_t4 (l : Launch) (D : va_G) (q : Nat → ClassId) (ho mb mt mw mc mk m1 m2 ms mu mi mr mn mp mj me mh : Nat) (sz ln wn dp st_ im en : Nat) (lo_ : Int32) (ex ds : Bool) (ct kd on tw : Nat → Nat) (se : Nat → Int32) (NL : List md_N) (b_ : md_B) (un ii rw_ no pc_ : Nat → Nat) (lw : Nat) (hT : md_T NL b_ kd on tw se) (hdp : dp ≤ 41) (hcap : NL.length + 1 ≤ 128) (hpc0 : 0 < pc_ dp) (hpc : pc_ dp ≤ NL.length) : kz_Mi (S := (Nat → Nat) × (Nat → Nat) × (Nat → Nat) × (Nat → Int32)) l ky_Mo_braces kb_Mo_braces 2 (some .boolean) 3 D q [.ref ho, .int (nI 125)] [(ho, .inr (6, [.ref mb, .int (nI sz), .ref mt, .int (nI ln), .ref mw, .int (nI wn), .ref mc, .ref mk, .ref m1, .ref m2, .ref ms, .int (nI dp), .ref mu, .ref mi, .ref mr, .ref mn, .ref mp, .int (nI 4), .int (nI lw), .int (nI im), .int (nB ex), .ref mj, .int (nI en), .ref me, .ref mh, .int (nB ds)])), (mc, .inl (q 0, 3, .inl (fun x_ => nI ((va_up ct 2 NL.length) x_)))), (mk, .inl (q 0, 384, .inl (fun x_ => nI (kd x_)))), (m1, .inl (q 0, 384, .inl (fun x_ => nI (on x_)))), (m2, .inl (q 0, 384, .inl (fun x_ => nI (tw x_)))), (ms, .inl (q 0, 1152, .inl se)), (mu, .inl (q 0, 42, .inl (fun x_ => nI (un x_) + (-1)))), (mi, .inl (q 0, 42, .inl (fun x_ => nI (ii x_) + (-1)))), (mr, .inl (q 0, 42, .inl (fun x_ => nI (rw_ x_) + (-1)))), (mn, .inl (q 0, 42, .inl (fun x_ => nI (no x_)))), (mp, .inl (q 0, 42, .inl (fun x_ => nI (pc_ x_) + (-1))))] (fun r u => r = nB true ∧ md_T (md_set (NL ++ [(9, pc_ dp - 1, lw, fun _ => 0)]) NL.length 0 (nI im)) b_ u.1 u.2.1 u.2.2.1 u.2.2.2) (fun u => [(ho, .inr (6, [.ref mb, .int (nI sz), .ref mt, .int (nI ln), .ref mw, .int (nI wn), .ref mc, .ref mk, .ref m1, .ref m2, .ref ms, .int (nI dp), .ref mu, .ref mi, .ref mr, .ref mn, .ref mp, .int (nI 0), .int (nI lw), .int (nI im), .int (nB ex), .ref mj, .int (nI en), .ref me, .ref mh, .int (nB ds)])), (mc, .inl (q 0, 3, .inl (fun x_ => nI ((va_up ct 2 ((md_set (NL ++ [(9, pc_ dp - 1, lw, fun _ => 0)]) NL.length 0 (nI im)).length)) x_)))), (mk, .inl (q 0, 384, .inl (fun x_ => nI (u.1 x_)))), (m1, .inl (q 0, 384, .inl (fun x_ => nI (u.2.1 x_)))), (m2, .inl (q 0, 384, .inl (fun x_ => nI (u.2.2.1 x_)))), (ms, .inl (q 0, 1152, .inl u.2.2.2)), (mu, .inl (q 0, 42, .inl (fun x_ => nI (un x_) + (-1)))), (mi, .inl (q 0, 42, .inl (fun x_ => nI (ii x_) + (-1)))), (mr, .inl (q 0, 42, .inl (fun x_ => nI (rw_ x_) + (-1)))), (mn, .inl (q 0, 42, .inl (fun x_ => nI (no x_)))), (mp, .inl (q 0, 42, .inl (fun x_ => nI ((va_up pc_ dp (NL.length + 1)) x_) + (-1))))]) := by
  intro sz_
  refine kz_go (by decide +kernel) (Nat.le_of_ble_eq_true rfl) ?_
  intro p e s m below meth c ls args A Q H locs hQ hA X U hl
  have hx := X.1
  have hb := X.2.1
  have hl : lv_has ls 2 [(0, .ref ho), (1, .int (nI 125))] := hl
  have hT128 := hT.1
  refine lv_aload_n hx hb kd_Mo_braces_0 rfl (lv_at hl 0 rfl) ?_
  refine kg_Mo_75 X U 0 rfl rfl kd_Mo_braces_1 ?_
  refine kz_ic X 1 kd_Mo_braces_4 (by decide) ?_
  refine kz_icne X (by omega) (by omega) kd_Mo_braces_5 rfl (fun h5 => ?_) (fun h5 => absurd h5 (by omega))
  refine lv_aload_n hx hb kd_Mo_braces_26 rfl (lv_at hl 0 rfl) ?_
  refine kg_Mo_75 X U 0 rfl rfl kd_Mo_braces_27 ?_
  refine kz_ic X 3 kd_Mo_braces_30 (by decide) ?_
  refine kz_icne X (by omega) (by omega) kd_Mo_braces_31 rfl (fun h31 => ?_) (fun h31 => absurd h31 (by omega))
  refine lv_aload_n hx hb kd_Mo_braces_71 rfl (lv_at hl 0 rfl) ?_
  refine kg_Mo_75 X U 0 rfl rfl kd_Mo_braces_72 ?_
  refine kz_ic X 2 kd_Mo_braces_75 (by decide) ?_
  refine kz_icne X (by omega) (by omega) kd_Mo_braces_76 rfl (fun h76 => ?_) (fun h76 => absurd h76 (by omega))
  refine lv_iload_n hx hb kd_Mo_braces_92 rfl (lv_at hl 1 rfl) ?_
  refine kz_bp X 125 kd_Mo_braces_93 (by decide) ?_
  refine kz_iceq X (by omega) (by omega) kd_Mo_braces_95 rfl (fun h95 => ?_) (fun h95 => absurd h95 (by omega))
  refine lv_aload_n hx hb kd_Mo_braces_100 rfl (lv_at hl 0 rfl) ?_
  refine kz_bp X 9 kd_Mo_braces_101 (by decide) ?_
  refine lv_aload_n hx hb kd_Mo_braces_103 rfl (lv_at hl 0 rfl) ?_
  refine kg_Mo_104 X U 0 rfl rfl kd_Mo_braces_104 ?_
  refine lv_aload_n hx hb kd_Mo_braces_107 rfl (lv_at hl 0 rfl) ?_
  refine kg_Mo_75 X U 0 rfl rfl kd_Mo_braces_108 ?_
  refine kz_ic X 2 kd_Mo_braces_111 (by decide) ?_
  refine kz_icne X (by omega) (by omega) kd_Mo_braces_112 rfl (fun h112 => ?_) (fun h112 => absurd h112 (by omega))
  refine lv_aload_n hx hb kd_Mo_braces_122 rfl (lv_at hl 0 rfl) ?_
  refine kg_Mo_75 X U 0 rfl rfl kd_Mo_braces_123 ?_
  refine kz_ic X 3 kd_Mo_braces_126 (by decide) ?_
  refine kz_icne X (by omega) (by omega) kd_Mo_braces_127 rfl (fun h127 => ?_) (fun h127 => absurd h127 (by omega))
  refine lv_aload_n hx hb kd_Mo_braces_135 rfl (lv_at hl 0 rfl) ?_
  refine kg_Mo_110 X U 0 rfl rfl kd_Mo_braces_136 ?_
  refine kz_cVv (av := [.int (nI 9), .int (nI lw), .int (nI im)]) (rest := []) (wr := [(mu, .inl (q 0, 42, .inl (fun x_ => nI (un x_) + (-1)))), (mi, .inl (q 0, 42, .inl (fun x_ => nI (ii x_) + (-1)))), (mr, .inl (q 0, 42, .inl (fun x_ => nI (rw_ x_) + (-1)))), (mn, .inl (q 0, 42, .inl (fun x_ => nI (no x_))))]) X U hl.1 (cm_Mo_mark l D q ho mb mt mw mc mk m1 m2 ms mu mi mr mn mp mj me mh sz ln wn dp 4 im en (nI lw) ex ds ct kd on tw se NL b_ un ii rw_ no pc_ 9 lw im hT hdp hcap hpc0 hpc) (by decide) (by decide) ⟨by decide, by decide⟩ tb_555 tb_557 tb_s28 0 rfl rfl tb_11 tb_558 kq_Mo_mark [0, 1, 2, 3, 4, 5, 10] [6, 7, 8, 9] (by decide) rfl rfl (by decide) (by decide) rfl (Nat.le_of_ble_eq_true rfl) kd_Mo_braces_139 (fun u H locs hu U => ?_)
  have U : kz_U D q s A [(ho, .inr (6, [.ref mb, .int (nI sz), .ref mt, .int (nI ln), .ref mw, .int (nI wn), .ref mc, .ref mk, .ref m1, .ref m2, .ref ms, .int (nI dp), .ref mu, .ref mi, .ref mr, .ref mn, .ref mp, .int (nI 0), .int (nI lw), .int (nI im), .int (nB ex), .ref mj, .int (nI en), .ref me, .ref mh, .int (nB ds)])), (mc, .inl (q 0, 3, .inl (fun x_ => nI ((va_up ct 2 ((md_set (NL ++ [(9, pc_ dp - 1, lw, fun _ => 0)]) NL.length 0 (nI im)).length)) x_)))), (mk, .inl (q 0, 384, .inl (fun x_ => nI (u.1 x_)))), (m1, .inl (q 0, 384, .inl (fun x_ => nI (u.2.1 x_)))), (m2, .inl (q 0, 384, .inl (fun x_ => nI (u.2.2.1 x_)))), (ms, .inl (q 0, 1152, .inl u.2.2.2)), (mu, .inl (q 0, 42, .inl (fun x_ => nI (un x_) + (-1)))), (mi, .inl (q 0, 42, .inl (fun x_ => nI (ii x_) + (-1)))), (mr, .inl (q 0, 42, .inl (fun x_ => nI (rw_ x_) + (-1)))), (mn, .inl (q 0, 42, .inl (fun x_ => nI (no x_)))), (mp, .inl (q 0, 42, .inl (fun x_ => nI ((va_up pc_ dp (NL.length + 1)) x_) + (-1))))] H locs := U.sub [4, 5, 6, 7, 8, 9, 0, 1, 2, 3, 10] (by decide) rfl
  refine kz_ic X 1 kd_Mo_braces_142 (by decide) ?_
  refine kz_top (y := nB true) rfl ?_
  exact kz_ez hQ hA X U u rfl (⟨rfl, hu⟩) kd_Mo_braces_143

set_option maxHeartbeats 4000000 in
set_option maxRecDepth 100000 in
theorem cm_Mo_classes_end (l : Launch) (D : va_G) (q : Nat → ClassId) (ho mb mt mw mc mk m1 m2 ms mu mi mr mn mp mj me mh : Nat) (sz ln wn dp st_ im en : Nat) (lo_ : Int32) (ex ds : Bool) (ct kd on tw : Nat → Nat) (se : Nat → Int32) (NL : List md_N) (b_ : md_B) (un ii rw_ no pc_ : Nat → Nat) (hT : md_T NL b_ kd on tw se) (hdp : dp ≤ 41) (hpc0 : 0 < pc_ dp) (hpc : pc_ dp ≤ NL.length) : kz_Mi (S := (Nat → Nat) × (Nat → Nat) × (Nat → Nat) × (Nat → Int32)) l ky_Mo_classes kb_Mo_classes 4 (some .boolean) 3 D q [.ref ho, .int ((-1))] [(ho, .inr (6, [.ref mb, .int (nI sz), .ref mt, .int (nI ln), .ref mw, .int (nI wn), .ref mc, .ref mk, .ref m1, .ref m2, .ref ms, .int (nI dp), .ref mu, .ref mi, .ref mr, .ref mn, .ref mp, .int (nI st_), .int lo_, .int (nI im), .int (nB ex), .ref mj, .int (nI en), .ref me, .ref mh, .int (nB ds)])), (mc, .inl (q 0, 3, .inl (fun x_ => nI ((va_up ct 2 NL.length) x_)))), (mk, .inl (q 0, 384, .inl (fun x_ => nI (kd x_)))), (m1, .inl (q 0, 384, .inl (fun x_ => nI (on x_)))), (m2, .inl (q 0, 384, .inl (fun x_ => nI (tw x_)))), (ms, .inl (q 0, 1152, .inl se)), (mu, .inl (q 0, 42, .inl (fun x_ => nI (un x_) + (-1)))), (mi, .inl (q 0, 42, .inl (fun x_ => nI (ii x_) + (-1)))), (mr, .inl (q 0, 42, .inl (fun x_ => nI (rw_ x_) + (-1)))), (mn, .inl (q 0, 42, .inl (fun x_ => nI (no x_)))), (mp, .inl (q 0, 42, .inl (fun x_ => nI (pc_ x_) + (-1))))] (fun r u => r = nB false ∧ md_T (NL) b_ u.1 u.2.1 u.2.2.1 u.2.2.2) (fun u => [(ho, .inr (6, [.ref mb, .int (nI sz), .ref mt, .int (nI ln), .ref mw, .int (nI wn), .ref mc, .ref mk, .ref m1, .ref m2, .ref ms, .int (nI dp), .ref mu, .ref mi, .ref mr, .ref mn, .ref mp, .int (nI st_), .int lo_, .int (nI im), .int (nB ex), .ref mj, .int (nI en), .ref me, .ref mh, .int (nB ds)])), (mc, .inl (q 0, 3, .inl (fun x_ => nI ((va_up ct 2 NL.length) x_)))), (mk, .inl (q 0, 384, .inl (fun x_ => nI (u.1 x_)))), (m1, .inl (q 0, 384, .inl (fun x_ => nI (u.2.1 x_)))), (m2, .inl (q 0, 384, .inl (fun x_ => nI (u.2.2.1 x_)))), (ms, .inl (q 0, 1152, .inl u.2.2.2)), (mu, .inl (q 0, 42, .inl (fun x_ => nI (un x_) + (-1)))), (mi, .inl (q 0, 42, .inl (fun x_ => nI (ii x_) + (-1)))), (mr, .inl (q 0, 42, .inl (fun x_ => nI (rw_ x_) + (-1)))), (mn, .inl (q 0, 42, .inl (fun x_ => nI (no x_)))), (mp, .inl (q 0, 42, .inl (fun x_ => nI (pc_ x_) + (-1))))]) := by
  intro sz_
  refine kz_go (by decide +kernel) (Nat.le_of_ble_eq_true rfl) ?_
  intro p e s m below meth c ls args A Q H locs hQ hA X U hl
  have hx := X.1
  have hb := X.2.1
  have hl : lv_has ls 4 [(0, .ref ho), (1, .int ((-1)))] := hl
  have hT128 := hT.1
  refine lv_aload_n hx hb kd_Mo_classes_0 rfl (lv_at hl 0 rfl) ?_
  refine kg_Mo_46 X U 0 rfl rfl kd_Mo_classes_1 ?_
  refine lv_aload_n hx hb kd_Mo_classes_4 rfl (lv_at hl 0 rfl) ?_
  refine kg_Mo_62 X U 0 rfl rfl kd_Mo_classes_5 ?_
  refine kz_iald (k := dp) X U 10 rfl (by omega) (by omega) kd_Mo_classes_8 ?_
  refine kz_top (y := nI (pc_ dp) + (-1)) rfl ?_
  refine kz_top (y := nI (pc_ dp - 1)) (sb_m1 hpc0) ?_
  refine lv_istore_n hx hb kd_Mo_classes_9 rfl hl (by decide) rfl (fun ls hl => ?_)
  have hl : lv_has ls 4 [(2, .int (nI (pc_ dp - 1))), (0, .ref ho), (1, .int ((-1)))] := hl
  refine lv_iload_n hx hb kd_Mo_classes_10 rfl (lv_at hl 2 rfl) ?_
  refine lv_if_ge hx hb kd_Mo_classes_11 rfl (fun h11 => absurd h11 (by decide)) (fun h11 => ?_)
  refine kz_ic X 0 kd_Mo_classes_14 (by decide) ?_
  refine kz_top (y := nB false) rfl ?_
  exact kz_ez hQ hA X U ((kd, on, tw, se)) rfl (⟨rfl, hT⟩) kd_Mo_classes_15

set_option maxHeartbeats 4000000 in
set_option maxRecDepth 100000 in
theorem cm_Mo_classes_neg (l : Launch) (D : va_G) (q : Nat → ClassId) (ho mb mt mw mc mk m1 m2 ms mu mi mr mn mp mj me mh : Nat) (sz ln wn dp st_ im en : Nat) (lo_ : Int32) (ex ds : Bool) (ct kd on tw : Nat → Nat) (se : Nat → Int32) (NL : List md_N) (b_ : md_B) (un ii rw_ no pc_ : Nat → Nat) (hT : md_T NL b_ kd on tw se) (hdp : dp ≤ 41) (hpc0 : 0 < pc_ dp) (hpc : pc_ dp ≤ NL.length) : kz_Mi (S := (Nat → Nat) × (Nat → Nat) × (Nat → Nat) × (Nat → Int32)) l ky_Mo_classes kb_Mo_classes 4 (some .boolean) 3 D q [.ref ho, .int (nI 94)] [(ho, .inr (6, [.ref mb, .int (nI sz), .ref mt, .int (nI ln), .ref mw, .int (nI wn), .ref mc, .ref mk, .ref m1, .ref m2, .ref ms, .int (nI dp), .ref mu, .ref mi, .ref mr, .ref mn, .ref mp, .int (nI 5), .int lo_, .int (nI im), .int (nB ex), .ref mj, .int (nI en), .ref me, .ref mh, .int (nB ds)])), (mc, .inl (q 0, 3, .inl (fun x_ => nI ((va_up ct 2 NL.length) x_)))), (mk, .inl (q 0, 384, .inl (fun x_ => nI (kd x_)))), (m1, .inl (q 0, 384, .inl (fun x_ => nI (on x_)))), (m2, .inl (q 0, 384, .inl (fun x_ => nI (tw x_)))), (ms, .inl (q 0, 1152, .inl se)), (mu, .inl (q 0, 42, .inl (fun x_ => nI (un x_) + (-1)))), (mi, .inl (q 0, 42, .inl (fun x_ => nI (ii x_) + (-1)))), (mr, .inl (q 0, 42, .inl (fun x_ => nI (rw_ x_) + (-1)))), (mn, .inl (q 0, 42, .inl (fun x_ => nI (no x_)))), (mp, .inl (q 0, 42, .inl (fun x_ => nI (pc_ x_) + (-1))))] (fun r u => r = nB true ∧ md_T (NL) b_ u.1 u.2.1 u.2.2.1 u.2.2.2) (fun u => [(ho, .inr (6, [.ref mb, .int (nI sz), .ref mt, .int (nI ln), .ref mw, .int (nI wn), .ref mc, .ref mk, .ref m1, .ref m2, .ref ms, .int (nI dp), .ref mu, .ref mi, .ref mr, .ref mn, .ref mp, .int (nI 6), .int lo_, .int (nI im), .int (nB true), .ref mj, .int (nI en), .ref me, .ref mh, .int (nB ds)])), (mc, .inl (q 0, 3, .inl (fun x_ => nI ((va_up ct 2 NL.length) x_)))), (mk, .inl (q 0, 384, .inl (fun x_ => nI (u.1 x_)))), (m1, .inl (q 0, 384, .inl (fun x_ => nI (u.2.1 x_)))), (m2, .inl (q 0, 384, .inl (fun x_ => nI (u.2.2.1 x_)))), (ms, .inl (q 0, 1152, .inl u.2.2.2)), (mu, .inl (q 0, 42, .inl (fun x_ => nI (un x_) + (-1)))), (mi, .inl (q 0, 42, .inl (fun x_ => nI (ii x_) + (-1)))), (mr, .inl (q 0, 42, .inl (fun x_ => nI (rw_ x_) + (-1)))), (mn, .inl (q 0, 42, .inl (fun x_ => nI (no x_)))), (mp, .inl (q 0, 42, .inl (fun x_ => nI (pc_ x_) + (-1))))]) := by
  intro sz_
  refine kz_go (by decide +kernel) (Nat.le_of_ble_eq_true rfl) ?_
  intro p e s m below meth c ls args A Q H locs hQ hA X U hl
  have hx := X.1
  have hb := X.2.1
  have hl : lv_has ls 4 [(0, .ref ho), (1, .int (nI 94))] := hl
  have hT128 := hT.1
  refine lv_aload_n hx hb kd_Mo_classes_0 rfl (lv_at hl 0 rfl) ?_
  refine kg_Mo_46 X U 0 rfl rfl kd_Mo_classes_1 ?_
  refine lv_aload_n hx hb kd_Mo_classes_4 rfl (lv_at hl 0 rfl) ?_
  refine kg_Mo_62 X U 0 rfl rfl kd_Mo_classes_5 ?_
  refine kz_iald (k := dp) X U 10 rfl (by omega) (by omega) kd_Mo_classes_8 ?_
  refine kz_top (y := nI (pc_ dp) + (-1)) rfl ?_
  refine kz_top (y := nI (pc_ dp - 1)) (sb_m1 hpc0) ?_
  refine lv_istore_n hx hb kd_Mo_classes_9 rfl hl (by decide) rfl (fun ls hl => ?_)
  have hl : lv_has ls 4 [(2, .int (nI (pc_ dp - 1))), (0, .ref ho), (1, .int (nI 94))] := hl
  refine lv_iload_n hx hb kd_Mo_classes_10 rfl (lv_at hl 2 rfl) ?_
  refine kz_nge X (by omega) kd_Mo_classes_11 rfl ?_
  refine lv_aload_n hx hb kd_Mo_classes_16 rfl (lv_at hl 1 rfl) ?_
  refine kg_Mo_75 X U 0 rfl rfl kd_Mo_classes_17 ?_
  refine kz_ic X 5 kd_Mo_classes_20 (by decide) ?_
  refine kz_icne X (by omega) (by omega) kd_Mo_classes_21 rfl (fun h21 => absurd h21 (by omega)) (fun h21 => ?_)
  refine lv_iload_n hx hb kd_Mo_classes_24 rfl (lv_at hl 2 rfl) ?_
  refine kz_bp X 94 kd_Mo_classes_25 (by decide) ?_
  refine kz_icne X (by omega) (by omega) kd_Mo_classes_27 rfl (fun h27 => absurd h27 (by omega)) (fun h27 => ?_)
  refine lv_aload_n hx hb kd_Mo_classes_30 rfl (lv_at hl 1 rfl) ?_
  refine kz_ic X 1 kd_Mo_classes_31 (by decide) ?_
  refine kp_Mo_96 (x := true) X U 0 rfl (Nat.le_of_ble_eq_true rfl) kd_Mo_classes_32 (fun H locs U => ?_)
  have U : kz_U D q s A [(ho, .inr (6, [.ref mb, .int (nI sz), .ref mt, .int (nI ln), .ref mw, .int (nI wn), .ref mc, .ref mk, .ref m1, .ref m2, .ref ms, .int (nI dp), .ref mu, .ref mi, .ref mr, .ref mn, .ref mp, .int (nI 5), .int lo_, .int (nI im), .int (nB true), .ref mj, .int (nI en), .ref me, .ref mh, .int (nB ds)])), (mc, .inl (q 0, 3, .inl (fun x_ => nI ((va_up ct 2 NL.length) x_)))), (mk, .inl (q 0, 384, .inl (fun x_ => nI (kd x_)))), (m1, .inl (q 0, 384, .inl (fun x_ => nI (on x_)))), (m2, .inl (q 0, 384, .inl (fun x_ => nI (tw x_)))), (ms, .inl (q 0, 1152, .inl se)), (mu, .inl (q 0, 42, .inl (fun x_ => nI (un x_) + (-1)))), (mi, .inl (q 0, 42, .inl (fun x_ => nI (ii x_) + (-1)))), (mr, .inl (q 0, 42, .inl (fun x_ => nI (rw_ x_) + (-1)))), (mn, .inl (q 0, 42, .inl (fun x_ => nI (no x_)))), (mp, .inl (q 0, 42, .inl (fun x_ => nI (pc_ x_) + (-1))))] H locs := U
  refine lv_aload_n hx hb kd_Mo_classes_35 rfl (lv_at hl 1 rfl) ?_
  refine kz_bp X 6 kd_Mo_classes_36 (by decide) ?_
  refine kp_Mo_75 X U 0 rfl (Nat.le_of_ble_eq_true rfl) kd_Mo_classes_38 (fun H locs U => ?_)
  have U : kz_U D q s A [(ho, .inr (6, [.ref mb, .int (nI sz), .ref mt, .int (nI ln), .ref mw, .int (nI wn), .ref mc, .ref mk, .ref m1, .ref m2, .ref ms, .int (nI dp), .ref mu, .ref mi, .ref mr, .ref mn, .ref mp, .int (nI 6), .int lo_, .int (nI im), .int (nB true), .ref mj, .int (nI en), .ref me, .ref mh, .int (nB ds)])), (mc, .inl (q 0, 3, .inl (fun x_ => nI ((va_up ct 2 NL.length) x_)))), (mk, .inl (q 0, 384, .inl (fun x_ => nI (kd x_)))), (m1, .inl (q 0, 384, .inl (fun x_ => nI (on x_)))), (m2, .inl (q 0, 384, .inl (fun x_ => nI (tw x_)))), (ms, .inl (q 0, 1152, .inl se)), (mu, .inl (q 0, 42, .inl (fun x_ => nI (un x_) + (-1)))), (mi, .inl (q 0, 42, .inl (fun x_ => nI (ii x_) + (-1)))), (mr, .inl (q 0, 42, .inl (fun x_ => nI (rw_ x_) + (-1)))), (mn, .inl (q 0, 42, .inl (fun x_ => nI (no x_)))), (mp, .inl (q 0, 42, .inl (fun x_ => nI (pc_ x_) + (-1))))] H locs := U
  refine kz_ic X 1 kd_Mo_classes_41 (by decide) ?_
  refine kz_top (y := nB true) rfl ?_
  exact kz_ez hQ hA X U ((kd, on, tw, se)) rfl (⟨rfl, hT⟩) kd_Mo_classes_42

set_option maxHeartbeats 4000000 in
set_option maxRecDepth 100000 in
theorem cm_Mo_classes_cf (l : Launch) (D : va_G) (q : Nat → ClassId) (ho mb mt mw mc mk m1 m2 ms mu mi mr mn mp mj me mh : Nat) (sz ln wn dp st_ im en : Nat) (lo_ : Int32) (ex ds : Bool) (ct kd on tw : Nat → Nat) (se : Nat → Int32) (NL : List md_N) (b_ : md_B) (un ii rw_ no pc_ : Nat → Nat) (hT : md_T NL b_ kd on tw se) (hdp : dp ≤ 41) (hpc0 : 0 < pc_ dp) (hpc : pc_ dp ≤ NL.length) (hst : st_ ≤ 6) : kz_Mi (S := (Nat → Nat) × (Nat → Nat) × (Nat → Nat) × (Nat → Int32)) l ky_Mo_classes kb_Mo_classes 4 (some .boolean) 3 D q [.ref ho, .int (nI 93)] [(ho, .inr (6, [.ref mb, .int (nI sz), .ref mt, .int (nI ln), .ref mw, .int (nI wn), .ref mc, .ref mk, .ref m1, .ref m2, .ref ms, .int (nI dp), .ref mu, .ref mi, .ref mr, .ref mn, .ref mp, .int (nI st_), .int lo_, .int (nI im), .int (nB ex), .ref mj, .int (nI en), .ref me, .ref mh, .int (nB ds)])), (mc, .inl (q 0, 3, .inl (fun x_ => nI ((va_up ct 2 NL.length) x_)))), (mk, .inl (q 0, 384, .inl (fun x_ => nI (kd x_)))), (m1, .inl (q 0, 384, .inl (fun x_ => nI (on x_)))), (m2, .inl (q 0, 384, .inl (fun x_ => nI (tw x_)))), (ms, .inl (q 0, 1152, .inl se)), (mu, .inl (q 0, 42, .inl (fun x_ => nI (un x_) + (-1)))), (mi, .inl (q 0, 42, .inl (fun x_ => nI (ii x_) + (-1)))), (mr, .inl (q 0, 42, .inl (fun x_ => nI (rw_ x_) + (-1)))), (mn, .inl (q 0, 42, .inl (fun x_ => nI (no x_)))), (mp, .inl (q 0, 42, .inl (fun x_ => nI (pc_ x_) + (-1))))] (fun r u => r = nB false ∧ md_T (NL) b_ u.1 u.2.1 u.2.2.1 u.2.2.2) (fun u => [(ho, .inr (6, [.ref mb, .int (nI sz), .ref mt, .int (nI ln), .ref mw, .int (nI wn), .ref mc, .ref mk, .ref m1, .ref m2, .ref ms, .int (nI dp), .ref mu, .ref mi, .ref mr, .ref mn, .ref mp, .int (nI st_), .int lo_, .int (nI im), .int (nB ex), .ref mj, .int (nI en), .ref me, .ref mh, .int (nB ds)])), (mc, .inl (q 0, 3, .inl (fun x_ => nI ((va_up ct 2 NL.length) x_)))), (mk, .inl (q 0, 384, .inl (fun x_ => nI (u.1 x_)))), (m1, .inl (q 0, 384, .inl (fun x_ => nI (u.2.1 x_)))), (m2, .inl (q 0, 384, .inl (fun x_ => nI (u.2.2.1 x_)))), (ms, .inl (q 0, 1152, .inl u.2.2.2)), (mu, .inl (q 0, 42, .inl (fun x_ => nI (un x_) + (-1)))), (mi, .inl (q 0, 42, .inl (fun x_ => nI (ii x_) + (-1)))), (mr, .inl (q 0, 42, .inl (fun x_ => nI (rw_ x_) + (-1)))), (mn, .inl (q 0, 42, .inl (fun x_ => nI (no x_)))), (mp, .inl (q 0, 42, .inl (fun x_ => nI (pc_ x_) + (-1))))]) := by
  intro sz_
  refine kz_go (by decide +kernel) (Nat.le_of_ble_eq_true rfl) ?_
  intro p e s m below meth c ls args A Q H locs hQ hA X U hl
  have hx := X.1
  have hb := X.2.1
  have hl : lv_has ls 4 [(0, .ref ho), (1, .int (nI 93))] := hl
  have hT128 := hT.1
  refine lv_aload_n hx hb kd_Mo_classes_0 rfl (lv_at hl 0 rfl) ?_
  refine kg_Mo_46 X U 0 rfl rfl kd_Mo_classes_1 ?_
  refine lv_aload_n hx hb kd_Mo_classes_4 rfl (lv_at hl 0 rfl) ?_
  refine kg_Mo_62 X U 0 rfl rfl kd_Mo_classes_5 ?_
  refine kz_iald (k := dp) X U 10 rfl (by omega) (by omega) kd_Mo_classes_8 ?_
  refine kz_top (y := nI (pc_ dp) + (-1)) rfl ?_
  refine kz_top (y := nI (pc_ dp - 1)) (sb_m1 hpc0) ?_
  refine lv_istore_n hx hb kd_Mo_classes_9 rfl hl (by decide) rfl (fun ls hl => ?_)
  have hl : lv_has ls 4 [(2, .int (nI (pc_ dp - 1))), (0, .ref ho), (1, .int (nI 93))] := hl
  refine lv_iload_n hx hb kd_Mo_classes_10 rfl (lv_at hl 2 rfl) ?_
  refine kz_nge X (by omega) kd_Mo_classes_11 rfl ?_
  refine lv_aload_n hx hb kd_Mo_classes_16 rfl (lv_at hl 1 rfl) ?_
  refine kg_Mo_75 X U 0 rfl rfl kd_Mo_classes_17 ?_
  refine kz_ic X 5 kd_Mo_classes_20 (by decide) ?_
  refine kz_icne X (by omega) (by omega) kd_Mo_classes_21 rfl (fun h21 => ?_) (fun h21 => ?_)
  · refine lv_iload_n hx hb kd_Mo_classes_43 rfl (lv_at hl 2 rfl) ?_
    refine kz_bp X 93 kd_Mo_classes_44 (by decide) ?_
    refine kz_icne X (by omega) (by omega) kd_Mo_classes_46 rfl (fun h46 => absurd h46 (by omega)) (fun h46 => ?_)
    refine lv_aload_n hx hb kd_Mo_classes_49 rfl (lv_at hl 1 rfl) ?_
    refine kg_Mo_75 X U 0 rfl rfl kd_Mo_classes_50 ?_
    refine kz_bp X 6 kd_Mo_classes_53 (by decide) ?_
    refine kz_icle X (by omega) (by omega) kd_Mo_classes_55 rfl (fun h55 => ?_) (fun h55 => absurd h55 (by omega))
    refine kz_ic X 0 kd_Mo_classes_69 (by decide) ?_
    refine kz_top (y := nB false) rfl ?_
    exact kz_ez hQ hA X U ((kd, on, tw, se)) rfl (⟨rfl, hT⟩) kd_Mo_classes_70
  · refine lv_iload_n hx hb kd_Mo_classes_24 rfl (lv_at hl 2 rfl) ?_
    refine kz_bp X 94 kd_Mo_classes_25 (by decide) ?_
    refine kz_icne X (by omega) (by omega) kd_Mo_classes_27 rfl (fun h27 => ?_) (fun h27 => absurd h27 (by omega))
    refine lv_iload_n hx hb kd_Mo_classes_43 rfl (lv_at hl 2 rfl) ?_
    refine kz_bp X 93 kd_Mo_classes_44 (by decide) ?_
    refine kz_icne X (by omega) (by omega) kd_Mo_classes_46 rfl (fun h46 => absurd h46 (by omega)) (fun h46 => ?_)
    refine lv_aload_n hx hb kd_Mo_classes_49 rfl (lv_at hl 1 rfl) ?_
    refine kg_Mo_75 X U 0 rfl rfl kd_Mo_classes_50 ?_
    refine kz_bp X 6 kd_Mo_classes_53 (by decide) ?_
    refine kz_icle X (by omega) (by omega) kd_Mo_classes_55 rfl (fun h55 => ?_) (fun h55 => absurd h55 (by omega))
    refine kz_ic X 0 kd_Mo_classes_69 (by decide) ?_
    refine kz_top (y := nB false) rfl ?_
    exact kz_ez hQ hA X U ((kd, on, tw, se)) rfl (⟨rfl, hT⟩) kd_Mo_classes_70

set_option maxHeartbeats 4000000 in
set_option maxRecDepth 100000 in
theorem cm_Mo_classes_ct (l : Launch) (D : va_G) (q : Nat → ClassId) (ho mb mt mw mc mk m1 m2 ms mu mi mr mn mp mj me mh : Nat) (sz ln wn dp st_ im en : Nat) (lo_ : Int32) (ex ds : Bool) (ct kd on tw : Nat → Nat) (se : Nat → Int32) (NL : List md_N) (b_ : md_B) (un ii rw_ no pc_ : Nat → Nat) (hT : md_T NL b_ kd on tw se) (hdp : dp ≤ 41) (hpc0 : 0 < pc_ dp) (hpc : pc_ dp ≤ NL.length) (hst : 6 < st_) (hst2 : st_ < 1000) : kz_Mi (S := (Nat → Nat) × (Nat → Nat) × (Nat → Nat) × (Nat → Int32)) l ky_Mo_classes kb_Mo_classes 4 (some .boolean) 3 D q [.ref ho, .int (nI 93)] [(ho, .inr (6, [.ref mb, .int (nI sz), .ref mt, .int (nI ln), .ref mw, .int (nI wn), .ref mc, .ref mk, .ref m1, .ref m2, .ref ms, .int (nI dp), .ref mu, .ref mi, .ref mr, .ref mn, .ref mp, .int (nI st_), .int lo_, .int (nI im), .int (nB ex), .ref mj, .int (nI en), .ref me, .ref mh, .int (nB ds)])), (mc, .inl (q 0, 3, .inl (fun x_ => nI ((va_up ct 2 NL.length) x_)))), (mk, .inl (q 0, 384, .inl (fun x_ => nI (kd x_)))), (m1, .inl (q 0, 384, .inl (fun x_ => nI (on x_)))), (m2, .inl (q 0, 384, .inl (fun x_ => nI (tw x_)))), (ms, .inl (q 0, 1152, .inl se)), (mu, .inl (q 0, 42, .inl (fun x_ => nI (un x_) + (-1)))), (mi, .inl (q 0, 42, .inl (fun x_ => nI (ii x_) + (-1)))), (mr, .inl (q 0, 42, .inl (fun x_ => nI (rw_ x_) + (-1)))), (mn, .inl (q 0, 42, .inl (fun x_ => nI (no x_)))), (mp, .inl (q 0, 42, .inl (fun x_ => nI (pc_ x_) + (-1))))] (fun r u => r = nB true ∧ md_T (if ex = true then md_ng NL (pc_ dp - 1) 3 else NL) b_ u.1 u.2.1 u.2.2.1 u.2.2.2) (fun u => [(ho, .inr (6, [.ref mb, .int (nI sz), .ref mt, .int (nI ln), .ref mw, .int (nI wn), .ref mc, .ref mk, .ref m1, .ref m2, .ref ms, .int (nI dp), .ref mu, .ref mi, .ref mr, .ref mn, .ref mp, .int (nI 0), .int lo_, .int (nI im), .int (nB ex), .ref mj, .int (nI en), .ref me, .ref mh, .int (nB ds)])), (mc, .inl (q 0, 3, .inl (fun x_ => nI ((va_up ct 2 NL.length) x_)))), (mk, .inl (q 0, 384, .inl (fun x_ => nI (u.1 x_)))), (m1, .inl (q 0, 384, .inl (fun x_ => nI (u.2.1 x_)))), (m2, .inl (q 0, 384, .inl (fun x_ => nI (u.2.2.1 x_)))), (ms, .inl (q 0, 1152, .inl u.2.2.2)), (mu, .inl (q 0, 42, .inl (fun x_ => nI (un x_) + (-1)))), (mi, .inl (q 0, 42, .inl (fun x_ => nI (ii x_) + (-1)))), (mr, .inl (q 0, 42, .inl (fun x_ => nI (rw_ x_) + (-1)))), (mn, .inl (q 0, 42, .inl (fun x_ => nI (no x_)))), (mp, .inl (q 0, 42, .inl (fun x_ => nI (pc_ x_) + (-1))))]) := by
  intro sz_
  refine kz_go (by decide +kernel) (Nat.le_of_ble_eq_true rfl) ?_
  intro p e s m below meth c ls args A Q H locs hQ hA X U hl
  have hx := X.1
  have hb := X.2.1
  have hl : lv_has ls 4 [(0, .ref ho), (1, .int (nI 93))] := hl
  have hT128 := hT.1
  refine lv_aload_n hx hb kd_Mo_classes_0 rfl (lv_at hl 0 rfl) ?_
  refine kg_Mo_46 X U 0 rfl rfl kd_Mo_classes_1 ?_
  refine lv_aload_n hx hb kd_Mo_classes_4 rfl (lv_at hl 0 rfl) ?_
  refine kg_Mo_62 X U 0 rfl rfl kd_Mo_classes_5 ?_
  refine kz_iald (k := dp) X U 10 rfl (by omega) (by omega) kd_Mo_classes_8 ?_
  refine kz_top (y := nI (pc_ dp) + (-1)) rfl ?_
  refine kz_top (y := nI (pc_ dp - 1)) (sb_m1 hpc0) ?_
  refine lv_istore_n hx hb kd_Mo_classes_9 rfl hl (by decide) rfl (fun ls hl => ?_)
  have hl : lv_has ls 4 [(2, .int (nI (pc_ dp - 1))), (0, .ref ho), (1, .int (nI 93))] := hl
  refine lv_iload_n hx hb kd_Mo_classes_10 rfl (lv_at hl 2 rfl) ?_
  refine kz_nge X (by omega) kd_Mo_classes_11 rfl ?_
  refine lv_aload_n hx hb kd_Mo_classes_16 rfl (lv_at hl 1 rfl) ?_
  refine kg_Mo_75 X U 0 rfl rfl kd_Mo_classes_17 ?_
  refine kz_ic X 5 kd_Mo_classes_20 (by decide) ?_
  refine kz_icne X (by omega) (by omega) kd_Mo_classes_21 rfl (fun h21 => ?_) (fun h21 => absurd h21 (by omega))
  refine lv_iload_n hx hb kd_Mo_classes_43 rfl (lv_at hl 2 rfl) ?_
  refine kz_bp X 93 kd_Mo_classes_44 (by decide) ?_
  refine kz_icne X (by omega) (by omega) kd_Mo_classes_46 rfl (fun h46 => absurd h46 (by omega)) (fun h46 => ?_)
  refine lv_aload_n hx hb kd_Mo_classes_49 rfl (lv_at hl 1 rfl) ?_
  refine kg_Mo_75 X U 0 rfl rfl kd_Mo_classes_50 ?_
  refine kz_bp X 6 kd_Mo_classes_53 (by decide) ?_
  refine kz_icle X (by omega) (by omega) kd_Mo_classes_55 rfl (fun h55 => absurd h55 (by omega)) (fun h55 => ?_)
  refine lv_aload_n hx hb kd_Mo_classes_58 rfl (lv_at hl 1 rfl) ?_
  refine kz_cVi (av := []) (rest := []) (wr := [(mc, .inl (q 0, 3, .inl (fun x_ => nI ((va_up ct 2 NL.length) x_)))), (mk, .inl (q 0, 384, .inl (fun x_ => nI (kd x_)))), (m1, .inl (q 0, 384, .inl (fun x_ => nI (on x_)))), (m2, .inl (q 0, 384, .inl (fun x_ => nI (tw x_)))), (mu, .inl (q 0, 42, .inl (fun x_ => nI (un x_) + (-1)))), (mi, .inl (q 0, 42, .inl (fun x_ => nI (ii x_) + (-1)))), (mr, .inl (q 0, 42, .inl (fun x_ => nI (rw_ x_) + (-1)))), (mn, .inl (q 0, 42, .inl (fun x_ => nI (no x_))))]) X U hl.1 (cm_Mo_closeClass l D q ho mb mt mw mc mk m1 m2 ms mu mi mr mn mp mj me mh sz ln wn dp st_ im en lo_ ex ds ct kd on tw se NL b_ un ii rw_ no pc_ hT hdp hpc0 hpc) (by decide) (by decide) ⟨by decide, by decide⟩ tb_582 tb_584 tb_s34 0 rfl rfl tb_11 tb_585 kq_Mo_closeClass [0, 5, 10] [1, 2, 3, 4, 6, 7, 8, 9] (by decide) rfl rfl (by decide) (by decide) rfl (Nat.le_of_ble_eq_true rfl) kd_Mo_classes_59 (fun rv z3 H locs hz U => ?_)
  obtain ⟨hz1, hz2⟩ := hz
  subst hz1
  have U : kz_U D q s A [(ho, .inr (6, [.ref mb, .int (nI sz), .ref mt, .int (nI ln), .ref mw, .int (nI wn), .ref mc, .ref mk, .ref m1, .ref m2, .ref ms, .int (nI dp), .ref mu, .ref mi, .ref mr, .ref mn, .ref mp, .int (nI 0), .int lo_, .int (nI im), .int (nB ex), .ref mj, .int (nI en), .ref me, .ref mh, .int (nB ds)])), (mc, .inl (q 0, 3, .inl (fun x_ => nI ((va_up ct 2 NL.length) x_)))), (mk, .inl (q 0, 384, .inl (fun x_ => nI (kd x_)))), (m1, .inl (q 0, 384, .inl (fun x_ => nI (on x_)))), (m2, .inl (q 0, 384, .inl (fun x_ => nI (tw x_)))), (ms, .inl (q 0, 1152, .inl z3)), (mu, .inl (q 0, 42, .inl (fun x_ => nI (un x_) + (-1)))), (mi, .inl (q 0, 42, .inl (fun x_ => nI (ii x_) + (-1)))), (mr, .inl (q 0, 42, .inl (fun x_ => nI (rw_ x_) + (-1)))), (mn, .inl (q 0, 42, .inl (fun x_ => nI (no x_)))), (mp, .inl (q 0, 42, .inl (fun x_ => nI (pc_ x_) + (-1))))] H locs := U.sub [8, 0, 1, 2, 3, 9, 4, 5, 6, 7, 10] (by decide) rfl
  refine kz_ifeqB X kd_Mo_classes_62 rfl (fun h62 => absurd h62 (by decide)) (fun h62 => ?_)
  refine kz_ic X 1 kd_Mo_classes_65 (by decide) ?_
  refine lv_goto hx hb kd_Mo_classes_66 rfl ?_
  refine kz_top (y := nB true) rfl ?_
  exact kz_ez hQ hA X U ((kd, on, tw, z3)) rfl (⟨rfl, hz2⟩) kd_Mo_classes_70

set_option maxHeartbeats 4000000 in
set_option maxRecDepth 100000 in
theorem cm_Mo_classes_dash (l : Launch) (D : va_G) (q : Nat → ClassId) (ho mb mt mw mc mk m1 m2 ms mu mi mr mn mp mj me mh : Nat) (sz ln wn dp st_ im en : Nat) (lo_ : Int32) (ex ds : Bool) (ct kd on tw : Nat → Nat) (se : Nat → Int32) (NL : List md_N) (b_ : md_B) (un ii rw_ no pc_ : Nat → Nat) (hT : md_T NL b_ kd on tw se) (hdp : dp ≤ 41) (hpc0 : 0 < pc_ dp) (hpc : pc_ dp ≤ NL.length) : kz_Mi (S := (Nat → Nat) × (Nat → Nat) × (Nat → Nat) × (Nat → Int32)) l ky_Mo_classes kb_Mo_classes 4 (some .boolean) 3 D q [.ref ho, .int (nI 45)] [(ho, .inr (6, [.ref mb, .int (nI sz), .ref mt, .int (nI ln), .ref mw, .int (nI wn), .ref mc, .ref mk, .ref m1, .ref m2, .ref ms, .int (nI dp), .ref mu, .ref mi, .ref mr, .ref mn, .ref mp, .int (nI 7), .int lo_, .int (nI im), .int (nB ex), .ref mj, .int (nI en), .ref me, .ref mh, .int (nB ds)])), (mc, .inl (q 0, 3, .inl (fun x_ => nI ((va_up ct 2 NL.length) x_)))), (mk, .inl (q 0, 384, .inl (fun x_ => nI (kd x_)))), (m1, .inl (q 0, 384, .inl (fun x_ => nI (on x_)))), (m2, .inl (q 0, 384, .inl (fun x_ => nI (tw x_)))), (ms, .inl (q 0, 1152, .inl se)), (mu, .inl (q 0, 42, .inl (fun x_ => nI (un x_) + (-1)))), (mi, .inl (q 0, 42, .inl (fun x_ => nI (ii x_) + (-1)))), (mr, .inl (q 0, 42, .inl (fun x_ => nI (rw_ x_) + (-1)))), (mn, .inl (q 0, 42, .inl (fun x_ => nI (no x_)))), (mp, .inl (q 0, 42, .inl (fun x_ => nI (pc_ x_) + (-1))))] (fun r u => r = nB true ∧ md_T (md_inc NL (pc_ dp - 1) 45) b_ u.1 u.2.1 u.2.2.1 u.2.2.2) (fun u => [(ho, .inr (6, [.ref mb, .int (nI sz), .ref mt, .int (nI ln), .ref mw, .int (nI wn), .ref mc, .ref mk, .ref m1, .ref m2, .ref ms, .int (nI dp), .ref mu, .ref mi, .ref mr, .ref mn, .ref mp, .int (nI 8), .int lo_, .int (nI im), .int (nB ex), .ref mj, .int (nI en), .ref me, .ref mh, .int (nB ds)])), (mc, .inl (q 0, 3, .inl (fun x_ => nI ((va_up ct 2 NL.length) x_)))), (mk, .inl (q 0, 384, .inl (fun x_ => nI (u.1 x_)))), (m1, .inl (q 0, 384, .inl (fun x_ => nI (u.2.1 x_)))), (m2, .inl (q 0, 384, .inl (fun x_ => nI (u.2.2.1 x_)))), (ms, .inl (q 0, 1152, .inl u.2.2.2)), (mu, .inl (q 0, 42, .inl (fun x_ => nI (un x_) + (-1)))), (mi, .inl (q 0, 42, .inl (fun x_ => nI (ii x_) + (-1)))), (mr, .inl (q 0, 42, .inl (fun x_ => nI (rw_ x_) + (-1)))), (mn, .inl (q 0, 42, .inl (fun x_ => nI (no x_)))), (mp, .inl (q 0, 42, .inl (fun x_ => nI (pc_ x_) + (-1))))]) := by
  intro sz_
  refine kz_go (by decide +kernel) (Nat.le_of_ble_eq_true rfl) ?_
  intro p e s m below meth c ls args A Q H locs hQ hA X U hl
  have hx := X.1
  have hb := X.2.1
  have hl : lv_has ls 4 [(0, .ref ho), (1, .int (nI 45))] := hl
  have hT128 := hT.1
  refine lv_aload_n hx hb kd_Mo_classes_0 rfl (lv_at hl 0 rfl) ?_
  refine kg_Mo_46 X U 0 rfl rfl kd_Mo_classes_1 ?_
  refine lv_aload_n hx hb kd_Mo_classes_4 rfl (lv_at hl 0 rfl) ?_
  refine kg_Mo_62 X U 0 rfl rfl kd_Mo_classes_5 ?_
  refine kz_iald (k := dp) X U 10 rfl (by omega) (by omega) kd_Mo_classes_8 ?_
  refine kz_top (y := nI (pc_ dp) + (-1)) rfl ?_
  refine kz_top (y := nI (pc_ dp - 1)) (sb_m1 hpc0) ?_
  refine lv_istore_n hx hb kd_Mo_classes_9 rfl hl (by decide) rfl (fun ls hl => ?_)
  have hl : lv_has ls 4 [(2, .int (nI (pc_ dp - 1))), (0, .ref ho), (1, .int (nI 45))] := hl
  refine lv_iload_n hx hb kd_Mo_classes_10 rfl (lv_at hl 2 rfl) ?_
  refine kz_nge X (by omega) kd_Mo_classes_11 rfl ?_
  refine lv_aload_n hx hb kd_Mo_classes_16 rfl (lv_at hl 1 rfl) ?_
  refine kg_Mo_75 X U 0 rfl rfl kd_Mo_classes_17 ?_
  refine kz_ic X 5 kd_Mo_classes_20 (by decide) ?_
  refine kz_icne X (by omega) (by omega) kd_Mo_classes_21 rfl (fun h21 => ?_) (fun h21 => absurd h21 (by omega))
  refine lv_iload_n hx hb kd_Mo_classes_43 rfl (lv_at hl 2 rfl) ?_
  refine kz_bp X 93 kd_Mo_classes_44 (by decide) ?_
  refine kz_icne X (by omega) (by omega) kd_Mo_classes_46 rfl (fun h46 => ?_) (fun h46 => absurd h46 (by omega))
  refine lv_aload_n hx hb kd_Mo_classes_71 rfl (lv_at hl 1 rfl) ?_
  refine kg_Mo_75 X U 0 rfl rfl kd_Mo_classes_72 ?_
  refine kz_bp X 7 kd_Mo_classes_75 (by decide) ?_
  refine kz_icne X (by omega) (by omega) kd_Mo_classes_77 rfl (fun h77 => absurd h77 (by omega)) (fun h77 => ?_)
  refine lv_iload_n hx hb kd_Mo_classes_80 rfl (lv_at hl 2 rfl) ?_
  refine kz_bp X 45 kd_Mo_classes_81 (by decide) ?_
  refine kz_icne X (by omega) (by omega) kd_Mo_classes_83 rfl (fun h83 => absurd h83 (by omega)) (fun h83 => ?_)
  refine lv_aload_n hx hb kd_Mo_classes_86 rfl (lv_at hl 1 rfl) ?_
  refine lv_iload_n hx hb kd_Mo_classes_87 rfl (lv_at hl 0 rfl) ?_
  refine lv_iload_n hx hb kd_Mo_classes_88 rfl (lv_at hl 2 rfl) ?_
  refine kz_cVv (av := [.int (nI (pc_ dp - 1)), .int (nI 45)]) (rest := []) (wr := [(mc, .inl (q 0, 3, .inl (fun x_ => nI ((va_up ct 2 NL.length) x_)))), (mk, .inl (q 0, 384, .inl (fun x_ => nI (kd x_)))), (m1, .inl (q 0, 384, .inl (fun x_ => nI (on x_)))), (m2, .inl (q 0, 384, .inl (fun x_ => nI (tw x_)))), (mu, .inl (q 0, 42, .inl (fun x_ => nI (un x_) + (-1)))), (mi, .inl (q 0, 42, .inl (fun x_ => nI (ii x_) + (-1)))), (mr, .inl (q 0, 42, .inl (fun x_ => nI (rw_ x_) + (-1)))), (mn, .inl (q 0, 42, .inl (fun x_ => nI (no x_)))), (mp, .inl (q 0, 42, .inl (fun x_ => nI (pc_ x_) + (-1))))]) X U hl.1 (cm_Mo_include l D q ho mb mt mw mc mk m1 m2 ms mu mi mr mn mp mj me mh sz ln wn dp 7 im en lo_ ex ds ct kd on tw se NL b_ (pc_ dp - 1) 45 hT (by omega) (by omega) (by omega)) (by decide) (by decide) ⟨by decide, by decide⟩ tb_563 tb_565 tb_s30 0 rfl rfl tb_11 tb_566 kq_Mo_include [0, 5] [1, 2, 3, 4, 6, 7, 8, 9, 10] (by decide) rfl rfl (by decide) (by decide) rfl (Nat.le_of_ble_eq_true rfl) kd_Mo_classes_89 (fun y H locs hy U => ?_)
  have U : kz_U D q s A [(ho, .inr (6, [.ref mb, .int (nI sz), .ref mt, .int (nI ln), .ref mw, .int (nI wn), .ref mc, .ref mk, .ref m1, .ref m2, .ref ms, .int (nI dp), .ref mu, .ref mi, .ref mr, .ref mn, .ref mp, .int (nI 7), .int lo_, .int (nI im), .int (nB ex), .ref mj, .int (nI en), .ref me, .ref mh, .int (nB ds)])), (mc, .inl (q 0, 3, .inl (fun x_ => nI ((va_up ct 2 NL.length) x_)))), (mk, .inl (q 0, 384, .inl (fun x_ => nI (kd x_)))), (m1, .inl (q 0, 384, .inl (fun x_ => nI (on x_)))), (m2, .inl (q 0, 384, .inl (fun x_ => nI (tw x_)))), (ms, .inl (q 0, 1152, .inl y)), (mu, .inl (q 0, 42, .inl (fun x_ => nI (un x_) + (-1)))), (mi, .inl (q 0, 42, .inl (fun x_ => nI (ii x_) + (-1)))), (mr, .inl (q 0, 42, .inl (fun x_ => nI (rw_ x_) + (-1)))), (mn, .inl (q 0, 42, .inl (fun x_ => nI (no x_)))), (mp, .inl (q 0, 42, .inl (fun x_ => nI (pc_ x_) + (-1))))] H locs := U.sub [9, 0, 1, 2, 3, 10, 4, 5, 6, 7, 8] (by decide) rfl
  refine lv_aload_n hx hb kd_Mo_classes_92 rfl (lv_at hl 1 rfl) ?_
  refine kz_bp X 8 kd_Mo_classes_93 (by decide) ?_
  refine kp_Mo_75 X U 0 rfl (Nat.le_of_ble_eq_true rfl) kd_Mo_classes_95 (fun H locs U => ?_)
  have U : kz_U D q s A [(ho, .inr (6, [.ref mb, .int (nI sz), .ref mt, .int (nI ln), .ref mw, .int (nI wn), .ref mc, .ref mk, .ref m1, .ref m2, .ref ms, .int (nI dp), .ref mu, .ref mi, .ref mr, .ref mn, .ref mp, .int (nI 8), .int lo_, .int (nI im), .int (nB ex), .ref mj, .int (nI en), .ref me, .ref mh, .int (nB ds)])), (mc, .inl (q 0, 3, .inl (fun x_ => nI ((va_up ct 2 NL.length) x_)))), (mk, .inl (q 0, 384, .inl (fun x_ => nI (kd x_)))), (m1, .inl (q 0, 384, .inl (fun x_ => nI (on x_)))), (m2, .inl (q 0, 384, .inl (fun x_ => nI (tw x_)))), (ms, .inl (q 0, 1152, .inl y)), (mu, .inl (q 0, 42, .inl (fun x_ => nI (un x_) + (-1)))), (mi, .inl (q 0, 42, .inl (fun x_ => nI (ii x_) + (-1)))), (mr, .inl (q 0, 42, .inl (fun x_ => nI (rw_ x_) + (-1)))), (mn, .inl (q 0, 42, .inl (fun x_ => nI (no x_)))), (mp, .inl (q 0, 42, .inl (fun x_ => nI (pc_ x_) + (-1))))] H locs := U
  refine kz_ic X 1 kd_Mo_classes_98 (by decide) ?_
  refine kz_top (y := nB true) rfl ?_
  exact kz_ez hQ hA X U ((kd, on, tw, y)) rfl (⟨rfl, hy⟩) kd_Mo_classes_99

set_option maxHeartbeats 4000000 in
set_option maxRecDepth 100000 in
theorem cm_Mo_classes_item (l : Launch) (D : va_G) (q : Nat → ClassId) (ho mb mt mw mc mk m1 m2 ms mu mi mr mn mp mj me mh : Nat) (sz ln wn dp st_ im en : Nat) (lo_ : Int32) (ex ds : Bool) (ct kd on tw : Nat → Nat) (se : Nat → Int32) (NL : List md_N) (b_ : md_B) (un ii rw_ no pc_ : Nat → Nat) (ch : Nat) (hT : md_T NL b_ kd on tw se) (hdp : dp ≤ 41) (hpc0 : 0 < pc_ dp) (hpc : pc_ dp ≤ NL.length) (hc1 : 32 ≤ ch) (hc2 : ch < 127) (hne : ch ≠ 93) (hst : st_ < 1000) (hs8 : st_ ≠ 8) (hs5 : st_ = 5 → ch ≠ 94) (hs7 : st_ = 7 → ch ≠ 45) : kz_Mi (S := (Nat → Nat) × (Nat → Nat) × (Nat → Nat) × (Nat → Int32)) l ky_Mo_classes kb_Mo_classes 4 (some .boolean) 3 D q [.ref ho, .int (nI ch)] [(ho, .inr (6, [.ref mb, .int (nI sz), .ref mt, .int (nI ln), .ref mw, .int (nI wn), .ref mc, .ref mk, .ref m1, .ref m2, .ref ms, .int (nI dp), .ref mu, .ref mi, .ref mr, .ref mn, .ref mp, .int (nI st_), .int lo_, .int (nI im), .int (nB ex), .ref mj, .int (nI en), .ref me, .ref mh, .int (nB ds)])), (mc, .inl (q 0, 3, .inl (fun x_ => nI ((va_up ct 2 NL.length) x_)))), (mk, .inl (q 0, 384, .inl (fun x_ => nI (kd x_)))), (m1, .inl (q 0, 384, .inl (fun x_ => nI (on x_)))), (m2, .inl (q 0, 384, .inl (fun x_ => nI (tw x_)))), (ms, .inl (q 0, 1152, .inl se)), (mu, .inl (q 0, 42, .inl (fun x_ => nI (un x_) + (-1)))), (mi, .inl (q 0, 42, .inl (fun x_ => nI (ii x_) + (-1)))), (mr, .inl (q 0, 42, .inl (fun x_ => nI (rw_ x_) + (-1)))), (mn, .inl (q 0, 42, .inl (fun x_ => nI (no x_)))), (mp, .inl (q 0, 42, .inl (fun x_ => nI (pc_ x_) + (-1))))] (fun r u => r = nB true ∧ md_T (md_inc NL (pc_ dp - 1) ch) b_ u.1 u.2.1 u.2.2.1 u.2.2.2) (fun u => [(ho, .inr (6, [.ref mb, .int (nI sz), .ref mt, .int (nI ln), .ref mw, .int (nI wn), .ref mc, .ref mk, .ref m1, .ref m2, .ref ms, .int (nI dp), .ref mu, .ref mi, .ref mr, .ref mn, .ref mp, .int (nI 7), .int lo_, .int (nI ch), .int (nB ex), .ref mj, .int (nI en), .ref me, .ref mh, .int (nB ds)])), (mc, .inl (q 0, 3, .inl (fun x_ => nI ((va_up ct 2 NL.length) x_)))), (mk, .inl (q 0, 384, .inl (fun x_ => nI (u.1 x_)))), (m1, .inl (q 0, 384, .inl (fun x_ => nI (u.2.1 x_)))), (m2, .inl (q 0, 384, .inl (fun x_ => nI (u.2.2.1 x_)))), (ms, .inl (q 0, 1152, .inl u.2.2.2)), (mu, .inl (q 0, 42, .inl (fun x_ => nI (un x_) + (-1)))), (mi, .inl (q 0, 42, .inl (fun x_ => nI (ii x_) + (-1)))), (mr, .inl (q 0, 42, .inl (fun x_ => nI (rw_ x_) + (-1)))), (mn, .inl (q 0, 42, .inl (fun x_ => nI (no x_)))), (mp, .inl (q 0, 42, .inl (fun x_ => nI (pc_ x_) + (-1))))]) := by
  intro sz_
  refine kz_go (by decide +kernel) (Nat.le_of_ble_eq_true rfl) ?_
  intro p e s m below meth c ls args A Q H locs hQ hA X U hl
  have hx := X.1
  have hb := X.2.1
  have hl : lv_has ls 4 [(0, .ref ho), (1, .int (nI ch))] := hl
  have hT128 := hT.1
  refine lv_aload_n hx hb kd_Mo_classes_0 rfl (lv_at hl 0 rfl) ?_
  refine kg_Mo_46 X U 0 rfl rfl kd_Mo_classes_1 ?_
  refine lv_aload_n hx hb kd_Mo_classes_4 rfl (lv_at hl 0 rfl) ?_
  refine kg_Mo_62 X U 0 rfl rfl kd_Mo_classes_5 ?_
  refine kz_iald (k := dp) X U 10 rfl (by omega) (by omega) kd_Mo_classes_8 ?_
  refine kz_top (y := nI (pc_ dp) + (-1)) rfl ?_
  refine kz_top (y := nI (pc_ dp - 1)) (sb_m1 hpc0) ?_
  refine lv_istore_n hx hb kd_Mo_classes_9 rfl hl (by decide) rfl (fun ls hl => ?_)
  have hl : lv_has ls 4 [(2, .int (nI (pc_ dp - 1))), (0, .ref ho), (1, .int (nI ch))] := hl
  refine lv_iload_n hx hb kd_Mo_classes_10 rfl (lv_at hl 2 rfl) ?_
  refine kz_nge X (by omega) kd_Mo_classes_11 rfl ?_
  refine lv_aload_n hx hb kd_Mo_classes_16 rfl (lv_at hl 1 rfl) ?_
  refine kg_Mo_75 X U 0 rfl rfl kd_Mo_classes_17 ?_
  refine kz_ic X 5 kd_Mo_classes_20 (by decide) ?_
  refine kz_icne X (by omega) (by omega) kd_Mo_classes_21 rfl (fun h21 => ?_) (fun h21 => ?_)
  · refine lv_iload_n hx hb kd_Mo_classes_43 rfl (lv_at hl 2 rfl) ?_
    refine kz_bp X 93 kd_Mo_classes_44 (by decide) ?_
    refine kz_icne X (by omega) (by omega) kd_Mo_classes_46 rfl (fun h46 => ?_) (fun h46 => absurd h46 (by omega))
    refine lv_aload_n hx hb kd_Mo_classes_71 rfl (lv_at hl 1 rfl) ?_
    refine kg_Mo_75 X U 0 rfl rfl kd_Mo_classes_72 ?_
    refine kz_bp X 7 kd_Mo_classes_75 (by decide) ?_
    refine kz_icne X (by omega) (by omega) kd_Mo_classes_77 rfl (fun h77 => ?_) (fun h77 => ?_)
    · refine lv_aload_n hx hb kd_Mo_classes_100 rfl (lv_at hl 1 rfl) ?_
      refine kg_Mo_75 X U 0 rfl rfl kd_Mo_classes_101 ?_
      refine kz_bp X 8 kd_Mo_classes_104 (by decide) ?_
      refine kz_icne X (by omega) (by omega) kd_Mo_classes_106 rfl (fun h106 => ?_) (fun h106 => absurd h106 (by omega))
      refine lv_aload_n hx hb kd_Mo_classes_156 rfl (lv_at hl 1 rfl) ?_
      refine lv_iload_n hx hb kd_Mo_classes_157 rfl (lv_at hl 0 rfl) ?_
      refine lv_iload_n hx hb kd_Mo_classes_158 rfl (lv_at hl 2 rfl) ?_
      refine kz_cVv (av := [.int (nI (pc_ dp - 1)), .int (nI ch)]) (rest := []) (wr := [(mc, .inl (q 0, 3, .inl (fun x_ => nI ((va_up ct 2 NL.length) x_)))), (mk, .inl (q 0, 384, .inl (fun x_ => nI (kd x_)))), (m1, .inl (q 0, 384, .inl (fun x_ => nI (on x_)))), (m2, .inl (q 0, 384, .inl (fun x_ => nI (tw x_)))), (mu, .inl (q 0, 42, .inl (fun x_ => nI (un x_) + (-1)))), (mi, .inl (q 0, 42, .inl (fun x_ => nI (ii x_) + (-1)))), (mr, .inl (q 0, 42, .inl (fun x_ => nI (rw_ x_) + (-1)))), (mn, .inl (q 0, 42, .inl (fun x_ => nI (no x_)))), (mp, .inl (q 0, 42, .inl (fun x_ => nI (pc_ x_) + (-1))))]) X U hl.1 (cm_Mo_include l D q ho mb mt mw mc mk m1 m2 ms mu mi mr mn mp mj me mh sz ln wn dp st_ im en lo_ ex ds ct kd on tw se NL b_ (pc_ dp - 1) ch hT (by omega) hc1 (by omega)) (by decide) (by decide) ⟨by decide, by decide⟩ tb_563 tb_565 tb_s30 0 rfl rfl tb_11 tb_566 kq_Mo_include [0, 5] [1, 2, 3, 4, 6, 7, 8, 9, 10] (by decide) rfl rfl (by decide) (by decide) rfl (Nat.le_of_ble_eq_true rfl) kd_Mo_classes_159 (fun y H locs hy U => ?_)
      have U : kz_U D q s A [(ho, .inr (6, [.ref mb, .int (nI sz), .ref mt, .int (nI ln), .ref mw, .int (nI wn), .ref mc, .ref mk, .ref m1, .ref m2, .ref ms, .int (nI dp), .ref mu, .ref mi, .ref mr, .ref mn, .ref mp, .int (nI st_), .int lo_, .int (nI im), .int (nB ex), .ref mj, .int (nI en), .ref me, .ref mh, .int (nB ds)])), (mc, .inl (q 0, 3, .inl (fun x_ => nI ((va_up ct 2 NL.length) x_)))), (mk, .inl (q 0, 384, .inl (fun x_ => nI (kd x_)))), (m1, .inl (q 0, 384, .inl (fun x_ => nI (on x_)))), (m2, .inl (q 0, 384, .inl (fun x_ => nI (tw x_)))), (ms, .inl (q 0, 1152, .inl y)), (mu, .inl (q 0, 42, .inl (fun x_ => nI (un x_) + (-1)))), (mi, .inl (q 0, 42, .inl (fun x_ => nI (ii x_) + (-1)))), (mr, .inl (q 0, 42, .inl (fun x_ => nI (rw_ x_) + (-1)))), (mn, .inl (q 0, 42, .inl (fun x_ => nI (no x_)))), (mp, .inl (q 0, 42, .inl (fun x_ => nI (pc_ x_) + (-1))))] H locs := U.sub [9, 0, 1, 2, 3, 10, 4, 5, 6, 7, 8] (by decide) rfl
      refine lv_aload_n hx hb kd_Mo_classes_162 rfl (lv_at hl 1 rfl) ?_
      refine lv_iload_n hx hb kd_Mo_classes_163 rfl (lv_at hl 2 rfl) ?_
      refine kp_Mo_110 X U 0 rfl (Nat.le_of_ble_eq_true rfl) kd_Mo_classes_164 (fun H locs U => ?_)
      have U : kz_U D q s A [(ho, .inr (6, [.ref mb, .int (nI sz), .ref mt, .int (nI ln), .ref mw, .int (nI wn), .ref mc, .ref mk, .ref m1, .ref m2, .ref ms, .int (nI dp), .ref mu, .ref mi, .ref mr, .ref mn, .ref mp, .int (nI st_), .int lo_, .int (nI ch), .int (nB ex), .ref mj, .int (nI en), .ref me, .ref mh, .int (nB ds)])), (mc, .inl (q 0, 3, .inl (fun x_ => nI ((va_up ct 2 NL.length) x_)))), (mk, .inl (q 0, 384, .inl (fun x_ => nI (kd x_)))), (m1, .inl (q 0, 384, .inl (fun x_ => nI (on x_)))), (m2, .inl (q 0, 384, .inl (fun x_ => nI (tw x_)))), (ms, .inl (q 0, 1152, .inl y)), (mu, .inl (q 0, 42, .inl (fun x_ => nI (un x_) + (-1)))), (mi, .inl (q 0, 42, .inl (fun x_ => nI (ii x_) + (-1)))), (mr, .inl (q 0, 42, .inl (fun x_ => nI (rw_ x_) + (-1)))), (mn, .inl (q 0, 42, .inl (fun x_ => nI (no x_)))), (mp, .inl (q 0, 42, .inl (fun x_ => nI (pc_ x_) + (-1))))] H locs := U
      refine lv_aload_n hx hb kd_Mo_classes_167 rfl (lv_at hl 1 rfl) ?_
      refine kz_bp X 7 kd_Mo_classes_168 (by decide) ?_
      refine kp_Mo_75 X U 0 rfl (Nat.le_of_ble_eq_true rfl) kd_Mo_classes_170 (fun H locs U => ?_)
      have U : kz_U D q s A [(ho, .inr (6, [.ref mb, .int (nI sz), .ref mt, .int (nI ln), .ref mw, .int (nI wn), .ref mc, .ref mk, .ref m1, .ref m2, .ref ms, .int (nI dp), .ref mu, .ref mi, .ref mr, .ref mn, .ref mp, .int (nI 7), .int lo_, .int (nI ch), .int (nB ex), .ref mj, .int (nI en), .ref me, .ref mh, .int (nB ds)])), (mc, .inl (q 0, 3, .inl (fun x_ => nI ((va_up ct 2 NL.length) x_)))), (mk, .inl (q 0, 384, .inl (fun x_ => nI (kd x_)))), (m1, .inl (q 0, 384, .inl (fun x_ => nI (on x_)))), (m2, .inl (q 0, 384, .inl (fun x_ => nI (tw x_)))), (ms, .inl (q 0, 1152, .inl y)), (mu, .inl (q 0, 42, .inl (fun x_ => nI (un x_) + (-1)))), (mi, .inl (q 0, 42, .inl (fun x_ => nI (ii x_) + (-1)))), (mr, .inl (q 0, 42, .inl (fun x_ => nI (rw_ x_) + (-1)))), (mn, .inl (q 0, 42, .inl (fun x_ => nI (no x_)))), (mp, .inl (q 0, 42, .inl (fun x_ => nI (pc_ x_) + (-1))))] H locs := U
      refine kz_ic X 1 kd_Mo_classes_173 (by decide) ?_
      refine kz_top (y := nB true) rfl ?_
      exact kz_ez hQ hA X U ((kd, on, tw, y)) rfl (⟨rfl, hy⟩) kd_Mo_classes_174
    · refine lv_iload_n hx hb kd_Mo_classes_80 rfl (lv_at hl 2 rfl) ?_
      refine kz_bp X 45 kd_Mo_classes_81 (by decide) ?_
      refine kz_icne X (by omega) (by omega) kd_Mo_classes_83 rfl (fun h83 => ?_) (fun h83 => absurd h83 (by omega))
      refine lv_aload_n hx hb kd_Mo_classes_100 rfl (lv_at hl 1 rfl) ?_
      refine kg_Mo_75 X U 0 rfl rfl kd_Mo_classes_101 ?_
      refine kz_bp X 8 kd_Mo_classes_104 (by decide) ?_
      refine kz_icne X (by omega) (by omega) kd_Mo_classes_106 rfl (fun h106 => ?_) (fun h106 => absurd h106 (by omega))
      refine lv_aload_n hx hb kd_Mo_classes_156 rfl (lv_at hl 1 rfl) ?_
      refine lv_iload_n hx hb kd_Mo_classes_157 rfl (lv_at hl 0 rfl) ?_
      refine lv_iload_n hx hb kd_Mo_classes_158 rfl (lv_at hl 2 rfl) ?_
      refine kz_cVv (av := [.int (nI (pc_ dp - 1)), .int (nI ch)]) (rest := []) (wr := [(mc, .inl (q 0, 3, .inl (fun x_ => nI ((va_up ct 2 NL.length) x_)))), (mk, .inl (q 0, 384, .inl (fun x_ => nI (kd x_)))), (m1, .inl (q 0, 384, .inl (fun x_ => nI (on x_)))), (m2, .inl (q 0, 384, .inl (fun x_ => nI (tw x_)))), (mu, .inl (q 0, 42, .inl (fun x_ => nI (un x_) + (-1)))), (mi, .inl (q 0, 42, .inl (fun x_ => nI (ii x_) + (-1)))), (mr, .inl (q 0, 42, .inl (fun x_ => nI (rw_ x_) + (-1)))), (mn, .inl (q 0, 42, .inl (fun x_ => nI (no x_)))), (mp, .inl (q 0, 42, .inl (fun x_ => nI (pc_ x_) + (-1))))]) X U hl.1 (cm_Mo_include l D q ho mb mt mw mc mk m1 m2 ms mu mi mr mn mp mj me mh sz ln wn dp st_ im en lo_ ex ds ct kd on tw se NL b_ (pc_ dp - 1) ch hT (by omega) hc1 (by omega)) (by decide) (by decide) ⟨by decide, by decide⟩ tb_563 tb_565 tb_s30 0 rfl rfl tb_11 tb_566 kq_Mo_include [0, 5] [1, 2, 3, 4, 6, 7, 8, 9, 10] (by decide) rfl rfl (by decide) (by decide) rfl (Nat.le_of_ble_eq_true rfl) kd_Mo_classes_159 (fun y H locs hy U => ?_)
      have U : kz_U D q s A [(ho, .inr (6, [.ref mb, .int (nI sz), .ref mt, .int (nI ln), .ref mw, .int (nI wn), .ref mc, .ref mk, .ref m1, .ref m2, .ref ms, .int (nI dp), .ref mu, .ref mi, .ref mr, .ref mn, .ref mp, .int (nI st_), .int lo_, .int (nI im), .int (nB ex), .ref mj, .int (nI en), .ref me, .ref mh, .int (nB ds)])), (mc, .inl (q 0, 3, .inl (fun x_ => nI ((va_up ct 2 NL.length) x_)))), (mk, .inl (q 0, 384, .inl (fun x_ => nI (kd x_)))), (m1, .inl (q 0, 384, .inl (fun x_ => nI (on x_)))), (m2, .inl (q 0, 384, .inl (fun x_ => nI (tw x_)))), (ms, .inl (q 0, 1152, .inl y)), (mu, .inl (q 0, 42, .inl (fun x_ => nI (un x_) + (-1)))), (mi, .inl (q 0, 42, .inl (fun x_ => nI (ii x_) + (-1)))), (mr, .inl (q 0, 42, .inl (fun x_ => nI (rw_ x_) + (-1)))), (mn, .inl (q 0, 42, .inl (fun x_ => nI (no x_)))), (mp, .inl (q 0, 42, .inl (fun x_ => nI (pc_ x_) + (-1))))] H locs := U.sub [9, 0, 1, 2, 3, 10, 4, 5, 6, 7, 8] (by decide) rfl
      refine lv_aload_n hx hb kd_Mo_classes_162 rfl (lv_at hl 1 rfl) ?_
      refine lv_iload_n hx hb kd_Mo_classes_163 rfl (lv_at hl 2 rfl) ?_
      refine kp_Mo_110 X U 0 rfl (Nat.le_of_ble_eq_true rfl) kd_Mo_classes_164 (fun H locs U => ?_)
      have U : kz_U D q s A [(ho, .inr (6, [.ref mb, .int (nI sz), .ref mt, .int (nI ln), .ref mw, .int (nI wn), .ref mc, .ref mk, .ref m1, .ref m2, .ref ms, .int (nI dp), .ref mu, .ref mi, .ref mr, .ref mn, .ref mp, .int (nI st_), .int lo_, .int (nI ch), .int (nB ex), .ref mj, .int (nI en), .ref me, .ref mh, .int (nB ds)])), (mc, .inl (q 0, 3, .inl (fun x_ => nI ((va_up ct 2 NL.length) x_)))), (mk, .inl (q 0, 384, .inl (fun x_ => nI (kd x_)))), (m1, .inl (q 0, 384, .inl (fun x_ => nI (on x_)))), (m2, .inl (q 0, 384, .inl (fun x_ => nI (tw x_)))), (ms, .inl (q 0, 1152, .inl y)), (mu, .inl (q 0, 42, .inl (fun x_ => nI (un x_) + (-1)))), (mi, .inl (q 0, 42, .inl (fun x_ => nI (ii x_) + (-1)))), (mr, .inl (q 0, 42, .inl (fun x_ => nI (rw_ x_) + (-1)))), (mn, .inl (q 0, 42, .inl (fun x_ => nI (no x_)))), (mp, .inl (q 0, 42, .inl (fun x_ => nI (pc_ x_) + (-1))))] H locs := U
      refine lv_aload_n hx hb kd_Mo_classes_167 rfl (lv_at hl 1 rfl) ?_
      refine kz_bp X 7 kd_Mo_classes_168 (by decide) ?_
      refine kp_Mo_75 X U 0 rfl (Nat.le_of_ble_eq_true rfl) kd_Mo_classes_170 (fun H locs U => ?_)
      have U : kz_U D q s A [(ho, .inr (6, [.ref mb, .int (nI sz), .ref mt, .int (nI ln), .ref mw, .int (nI wn), .ref mc, .ref mk, .ref m1, .ref m2, .ref ms, .int (nI dp), .ref mu, .ref mi, .ref mr, .ref mn, .ref mp, .int (nI 7), .int lo_, .int (nI ch), .int (nB ex), .ref mj, .int (nI en), .ref me, .ref mh, .int (nB ds)])), (mc, .inl (q 0, 3, .inl (fun x_ => nI ((va_up ct 2 NL.length) x_)))), (mk, .inl (q 0, 384, .inl (fun x_ => nI (kd x_)))), (m1, .inl (q 0, 384, .inl (fun x_ => nI (on x_)))), (m2, .inl (q 0, 384, .inl (fun x_ => nI (tw x_)))), (ms, .inl (q 0, 1152, .inl y)), (mu, .inl (q 0, 42, .inl (fun x_ => nI (un x_) + (-1)))), (mi, .inl (q 0, 42, .inl (fun x_ => nI (ii x_) + (-1)))), (mr, .inl (q 0, 42, .inl (fun x_ => nI (rw_ x_) + (-1)))), (mn, .inl (q 0, 42, .inl (fun x_ => nI (no x_)))), (mp, .inl (q 0, 42, .inl (fun x_ => nI (pc_ x_) + (-1))))] H locs := U
      refine kz_ic X 1 kd_Mo_classes_173 (by decide) ?_
      refine kz_top (y := nB true) rfl ?_
      exact kz_ez hQ hA X U ((kd, on, tw, y)) rfl (⟨rfl, hy⟩) kd_Mo_classes_174
  · refine lv_iload_n hx hb kd_Mo_classes_24 rfl (lv_at hl 2 rfl) ?_
    refine kz_bp X 94 kd_Mo_classes_25 (by decide) ?_
    refine kz_icne X (by omega) (by omega) kd_Mo_classes_27 rfl (fun h27 => ?_) (fun h27 => absurd h27 (by omega))
    refine lv_iload_n hx hb kd_Mo_classes_43 rfl (lv_at hl 2 rfl) ?_
    refine kz_bp X 93 kd_Mo_classes_44 (by decide) ?_
    refine kz_icne X (by omega) (by omega) kd_Mo_classes_46 rfl (fun h46 => ?_) (fun h46 => absurd h46 (by omega))
    refine lv_aload_n hx hb kd_Mo_classes_71 rfl (lv_at hl 1 rfl) ?_
    refine kg_Mo_75 X U 0 rfl rfl kd_Mo_classes_72 ?_
    refine kz_bp X 7 kd_Mo_classes_75 (by decide) ?_
    refine kz_icne X (by omega) (by omega) kd_Mo_classes_77 rfl (fun h77 => ?_) (fun h77 => ?_)
    · refine lv_aload_n hx hb kd_Mo_classes_100 rfl (lv_at hl 1 rfl) ?_
      refine kg_Mo_75 X U 0 rfl rfl kd_Mo_classes_101 ?_
      refine kz_bp X 8 kd_Mo_classes_104 (by decide) ?_
      refine kz_icne X (by omega) (by omega) kd_Mo_classes_106 rfl (fun h106 => ?_) (fun h106 => absurd h106 (by omega))
      refine lv_aload_n hx hb kd_Mo_classes_156 rfl (lv_at hl 1 rfl) ?_
      refine lv_iload_n hx hb kd_Mo_classes_157 rfl (lv_at hl 0 rfl) ?_
      refine lv_iload_n hx hb kd_Mo_classes_158 rfl (lv_at hl 2 rfl) ?_
      refine kz_cVv (av := [.int (nI (pc_ dp - 1)), .int (nI ch)]) (rest := []) (wr := [(mc, .inl (q 0, 3, .inl (fun x_ => nI ((va_up ct 2 NL.length) x_)))), (mk, .inl (q 0, 384, .inl (fun x_ => nI (kd x_)))), (m1, .inl (q 0, 384, .inl (fun x_ => nI (on x_)))), (m2, .inl (q 0, 384, .inl (fun x_ => nI (tw x_)))), (mu, .inl (q 0, 42, .inl (fun x_ => nI (un x_) + (-1)))), (mi, .inl (q 0, 42, .inl (fun x_ => nI (ii x_) + (-1)))), (mr, .inl (q 0, 42, .inl (fun x_ => nI (rw_ x_) + (-1)))), (mn, .inl (q 0, 42, .inl (fun x_ => nI (no x_)))), (mp, .inl (q 0, 42, .inl (fun x_ => nI (pc_ x_) + (-1))))]) X U hl.1 (cm_Mo_include l D q ho mb mt mw mc mk m1 m2 ms mu mi mr mn mp mj me mh sz ln wn dp st_ im en lo_ ex ds ct kd on tw se NL b_ (pc_ dp - 1) ch hT (by omega) hc1 (by omega)) (by decide) (by decide) ⟨by decide, by decide⟩ tb_563 tb_565 tb_s30 0 rfl rfl tb_11 tb_566 kq_Mo_include [0, 5] [1, 2, 3, 4, 6, 7, 8, 9, 10] (by decide) rfl rfl (by decide) (by decide) rfl (Nat.le_of_ble_eq_true rfl) kd_Mo_classes_159 (fun y H locs hy U => ?_)
      have U : kz_U D q s A [(ho, .inr (6, [.ref mb, .int (nI sz), .ref mt, .int (nI ln), .ref mw, .int (nI wn), .ref mc, .ref mk, .ref m1, .ref m2, .ref ms, .int (nI dp), .ref mu, .ref mi, .ref mr, .ref mn, .ref mp, .int (nI st_), .int lo_, .int (nI im), .int (nB ex), .ref mj, .int (nI en), .ref me, .ref mh, .int (nB ds)])), (mc, .inl (q 0, 3, .inl (fun x_ => nI ((va_up ct 2 NL.length) x_)))), (mk, .inl (q 0, 384, .inl (fun x_ => nI (kd x_)))), (m1, .inl (q 0, 384, .inl (fun x_ => nI (on x_)))), (m2, .inl (q 0, 384, .inl (fun x_ => nI (tw x_)))), (ms, .inl (q 0, 1152, .inl y)), (mu, .inl (q 0, 42, .inl (fun x_ => nI (un x_) + (-1)))), (mi, .inl (q 0, 42, .inl (fun x_ => nI (ii x_) + (-1)))), (mr, .inl (q 0, 42, .inl (fun x_ => nI (rw_ x_) + (-1)))), (mn, .inl (q 0, 42, .inl (fun x_ => nI (no x_)))), (mp, .inl (q 0, 42, .inl (fun x_ => nI (pc_ x_) + (-1))))] H locs := U.sub [9, 0, 1, 2, 3, 10, 4, 5, 6, 7, 8] (by decide) rfl
      refine lv_aload_n hx hb kd_Mo_classes_162 rfl (lv_at hl 1 rfl) ?_
      refine lv_iload_n hx hb kd_Mo_classes_163 rfl (lv_at hl 2 rfl) ?_
      refine kp_Mo_110 X U 0 rfl (Nat.le_of_ble_eq_true rfl) kd_Mo_classes_164 (fun H locs U => ?_)
      have U : kz_U D q s A [(ho, .inr (6, [.ref mb, .int (nI sz), .ref mt, .int (nI ln), .ref mw, .int (nI wn), .ref mc, .ref mk, .ref m1, .ref m2, .ref ms, .int (nI dp), .ref mu, .ref mi, .ref mr, .ref mn, .ref mp, .int (nI st_), .int lo_, .int (nI ch), .int (nB ex), .ref mj, .int (nI en), .ref me, .ref mh, .int (nB ds)])), (mc, .inl (q 0, 3, .inl (fun x_ => nI ((va_up ct 2 NL.length) x_)))), (mk, .inl (q 0, 384, .inl (fun x_ => nI (kd x_)))), (m1, .inl (q 0, 384, .inl (fun x_ => nI (on x_)))), (m2, .inl (q 0, 384, .inl (fun x_ => nI (tw x_)))), (ms, .inl (q 0, 1152, .inl y)), (mu, .inl (q 0, 42, .inl (fun x_ => nI (un x_) + (-1)))), (mi, .inl (q 0, 42, .inl (fun x_ => nI (ii x_) + (-1)))), (mr, .inl (q 0, 42, .inl (fun x_ => nI (rw_ x_) + (-1)))), (mn, .inl (q 0, 42, .inl (fun x_ => nI (no x_)))), (mp, .inl (q 0, 42, .inl (fun x_ => nI (pc_ x_) + (-1))))] H locs := U
      refine lv_aload_n hx hb kd_Mo_classes_167 rfl (lv_at hl 1 rfl) ?_
      refine kz_bp X 7 kd_Mo_classes_168 (by decide) ?_
      refine kp_Mo_75 X U 0 rfl (Nat.le_of_ble_eq_true rfl) kd_Mo_classes_170 (fun H locs U => ?_)
      have U : kz_U D q s A [(ho, .inr (6, [.ref mb, .int (nI sz), .ref mt, .int (nI ln), .ref mw, .int (nI wn), .ref mc, .ref mk, .ref m1, .ref m2, .ref ms, .int (nI dp), .ref mu, .ref mi, .ref mr, .ref mn, .ref mp, .int (nI 7), .int lo_, .int (nI ch), .int (nB ex), .ref mj, .int (nI en), .ref me, .ref mh, .int (nB ds)])), (mc, .inl (q 0, 3, .inl (fun x_ => nI ((va_up ct 2 NL.length) x_)))), (mk, .inl (q 0, 384, .inl (fun x_ => nI (kd x_)))), (m1, .inl (q 0, 384, .inl (fun x_ => nI (on x_)))), (m2, .inl (q 0, 384, .inl (fun x_ => nI (tw x_)))), (ms, .inl (q 0, 1152, .inl y)), (mu, .inl (q 0, 42, .inl (fun x_ => nI (un x_) + (-1)))), (mi, .inl (q 0, 42, .inl (fun x_ => nI (ii x_) + (-1)))), (mr, .inl (q 0, 42, .inl (fun x_ => nI (rw_ x_) + (-1)))), (mn, .inl (q 0, 42, .inl (fun x_ => nI (no x_)))), (mp, .inl (q 0, 42, .inl (fun x_ => nI (pc_ x_) + (-1))))] H locs := U
      refine kz_ic X 1 kd_Mo_classes_173 (by decide) ?_
      refine kz_top (y := nB true) rfl ?_
      exact kz_ez hQ hA X U ((kd, on, tw, y)) rfl (⟨rfl, hy⟩) kd_Mo_classes_174
    · refine lv_iload_n hx hb kd_Mo_classes_80 rfl (lv_at hl 2 rfl) ?_
      refine kz_bp X 45 kd_Mo_classes_81 (by decide) ?_
      refine kz_icne X (by omega) (by omega) kd_Mo_classes_83 rfl (fun h83 => ?_) (fun h83 => absurd h83 (by omega))
      refine lv_aload_n hx hb kd_Mo_classes_100 rfl (lv_at hl 1 rfl) ?_
      refine kg_Mo_75 X U 0 rfl rfl kd_Mo_classes_101 ?_
      refine kz_bp X 8 kd_Mo_classes_104 (by decide) ?_
      refine kz_icne X (by omega) (by omega) kd_Mo_classes_106 rfl (fun h106 => ?_) (fun h106 => absurd h106 (by omega))
      refine lv_aload_n hx hb kd_Mo_classes_156 rfl (lv_at hl 1 rfl) ?_
      refine lv_iload_n hx hb kd_Mo_classes_157 rfl (lv_at hl 0 rfl) ?_
      refine lv_iload_n hx hb kd_Mo_classes_158 rfl (lv_at hl 2 rfl) ?_
      refine kz_cVv (av := [.int (nI (pc_ dp - 1)), .int (nI ch)]) (rest := []) (wr := [(mc, .inl (q 0, 3, .inl (fun x_ => nI ((va_up ct 2 NL.length) x_)))), (mk, .inl (q 0, 384, .inl (fun x_ => nI (kd x_)))), (m1, .inl (q 0, 384, .inl (fun x_ => nI (on x_)))), (m2, .inl (q 0, 384, .inl (fun x_ => nI (tw x_)))), (mu, .inl (q 0, 42, .inl (fun x_ => nI (un x_) + (-1)))), (mi, .inl (q 0, 42, .inl (fun x_ => nI (ii x_) + (-1)))), (mr, .inl (q 0, 42, .inl (fun x_ => nI (rw_ x_) + (-1)))), (mn, .inl (q 0, 42, .inl (fun x_ => nI (no x_)))), (mp, .inl (q 0, 42, .inl (fun x_ => nI (pc_ x_) + (-1))))]) X U hl.1 (cm_Mo_include l D q ho mb mt mw mc mk m1 m2 ms mu mi mr mn mp mj me mh sz ln wn dp st_ im en lo_ ex ds ct kd on tw se NL b_ (pc_ dp - 1) ch hT (by omega) hc1 (by omega)) (by decide) (by decide) ⟨by decide, by decide⟩ tb_563 tb_565 tb_s30 0 rfl rfl tb_11 tb_566 kq_Mo_include [0, 5] [1, 2, 3, 4, 6, 7, 8, 9, 10] (by decide) rfl rfl (by decide) (by decide) rfl (Nat.le_of_ble_eq_true rfl) kd_Mo_classes_159 (fun y H locs hy U => ?_)
      have U : kz_U D q s A [(ho, .inr (6, [.ref mb, .int (nI sz), .ref mt, .int (nI ln), .ref mw, .int (nI wn), .ref mc, .ref mk, .ref m1, .ref m2, .ref ms, .int (nI dp), .ref mu, .ref mi, .ref mr, .ref mn, .ref mp, .int (nI st_), .int lo_, .int (nI im), .int (nB ex), .ref mj, .int (nI en), .ref me, .ref mh, .int (nB ds)])), (mc, .inl (q 0, 3, .inl (fun x_ => nI ((va_up ct 2 NL.length) x_)))), (mk, .inl (q 0, 384, .inl (fun x_ => nI (kd x_)))), (m1, .inl (q 0, 384, .inl (fun x_ => nI (on x_)))), (m2, .inl (q 0, 384, .inl (fun x_ => nI (tw x_)))), (ms, .inl (q 0, 1152, .inl y)), (mu, .inl (q 0, 42, .inl (fun x_ => nI (un x_) + (-1)))), (mi, .inl (q 0, 42, .inl (fun x_ => nI (ii x_) + (-1)))), (mr, .inl (q 0, 42, .inl (fun x_ => nI (rw_ x_) + (-1)))), (mn, .inl (q 0, 42, .inl (fun x_ => nI (no x_)))), (mp, .inl (q 0, 42, .inl (fun x_ => nI (pc_ x_) + (-1))))] H locs := U.sub [9, 0, 1, 2, 3, 10, 4, 5, 6, 7, 8] (by decide) rfl
      refine lv_aload_n hx hb kd_Mo_classes_162 rfl (lv_at hl 1 rfl) ?_
      refine lv_iload_n hx hb kd_Mo_classes_163 rfl (lv_at hl 2 rfl) ?_
      refine kp_Mo_110 X U 0 rfl (Nat.le_of_ble_eq_true rfl) kd_Mo_classes_164 (fun H locs U => ?_)
      have U : kz_U D q s A [(ho, .inr (6, [.ref mb, .int (nI sz), .ref mt, .int (nI ln), .ref mw, .int (nI wn), .ref mc, .ref mk, .ref m1, .ref m2, .ref ms, .int (nI dp), .ref mu, .ref mi, .ref mr, .ref mn, .ref mp, .int (nI st_), .int lo_, .int (nI ch), .int (nB ex), .ref mj, .int (nI en), .ref me, .ref mh, .int (nB ds)])), (mc, .inl (q 0, 3, .inl (fun x_ => nI ((va_up ct 2 NL.length) x_)))), (mk, .inl (q 0, 384, .inl (fun x_ => nI (kd x_)))), (m1, .inl (q 0, 384, .inl (fun x_ => nI (on x_)))), (m2, .inl (q 0, 384, .inl (fun x_ => nI (tw x_)))), (ms, .inl (q 0, 1152, .inl y)), (mu, .inl (q 0, 42, .inl (fun x_ => nI (un x_) + (-1)))), (mi, .inl (q 0, 42, .inl (fun x_ => nI (ii x_) + (-1)))), (mr, .inl (q 0, 42, .inl (fun x_ => nI (rw_ x_) + (-1)))), (mn, .inl (q 0, 42, .inl (fun x_ => nI (no x_)))), (mp, .inl (q 0, 42, .inl (fun x_ => nI (pc_ x_) + (-1))))] H locs := U
      refine lv_aload_n hx hb kd_Mo_classes_167 rfl (lv_at hl 1 rfl) ?_
      refine kz_bp X 7 kd_Mo_classes_168 (by decide) ?_
      refine kp_Mo_75 X U 0 rfl (Nat.le_of_ble_eq_true rfl) kd_Mo_classes_170 (fun H locs U => ?_)
      have U : kz_U D q s A [(ho, .inr (6, [.ref mb, .int (nI sz), .ref mt, .int (nI ln), .ref mw, .int (nI wn), .ref mc, .ref mk, .ref m1, .ref m2, .ref ms, .int (nI dp), .ref mu, .ref mi, .ref mr, .ref mn, .ref mp, .int (nI 7), .int lo_, .int (nI ch), .int (nB ex), .ref mj, .int (nI en), .ref me, .ref mh, .int (nB ds)])), (mc, .inl (q 0, 3, .inl (fun x_ => nI ((va_up ct 2 NL.length) x_)))), (mk, .inl (q 0, 384, .inl (fun x_ => nI (kd x_)))), (m1, .inl (q 0, 384, .inl (fun x_ => nI (on x_)))), (m2, .inl (q 0, 384, .inl (fun x_ => nI (tw x_)))), (ms, .inl (q 0, 1152, .inl y)), (mu, .inl (q 0, 42, .inl (fun x_ => nI (un x_) + (-1)))), (mi, .inl (q 0, 42, .inl (fun x_ => nI (ii x_) + (-1)))), (mr, .inl (q 0, 42, .inl (fun x_ => nI (rw_ x_) + (-1)))), (mn, .inl (q 0, 42, .inl (fun x_ => nI (no x_)))), (mp, .inl (q 0, 42, .inl (fun x_ => nI (pc_ x_) + (-1))))] H locs := U
      refine kz_ic X 1 kd_Mo_classes_173 (by decide) ?_
      refine kz_top (y := nB true) rfl ?_
      exact kz_ez hQ hA X U ((kd, on, tw, y)) rfl (⟨rfl, hy⟩) kd_Mo_classes_174

set_option maxHeartbeats 4000000 in
set_option maxRecDepth 100000 in
theorem cm_Mo_classes_rng (l : Launch) (D : va_G) (q : Nat → ClassId) (ho mb mt mw mc mk m1 m2 ms mu mi mr mn mp mj me mh : Nat) (sz ln wn dp st_ im en : Nat) (lo_ : Int32) (ex ds : Bool) (ct kd on tw : Nat → Nat) (se : Nat → Int32) (NL : List md_N) (b_ : md_B) (un ii rw_ no pc_ : Nat → Nat) (ch : Nat) (hT : md_T NL b_ kd on tw se) (hdp : dp ≤ 41) (hpc0 : 0 < pc_ dp) (hpc : pc_ dp ≤ NL.length) (hc2 : ch < 127) (hne : ch ≠ 93) (him : 32 ≤ im) (him2 : im < 127) : kz_Mi (S := (Nat → Nat) × (Nat → Nat) × (Nat → Nat) × (Nat → Int32)) l ky_Mo_classes kb_Mo_classes 4 (some .boolean) 3 D q [.ref ho, .int (nI ch)] [(ho, .inr (6, [.ref mb, .int (nI sz), .ref mt, .int (nI ln), .ref mw, .int (nI wn), .ref mc, .ref mk, .ref m1, .ref m2, .ref ms, .int (nI dp), .ref mu, .ref mi, .ref mr, .ref mn, .ref mp, .int (nI 8), .int lo_, .int (nI im), .int (nB ex), .ref mj, .int (nI en), .ref me, .ref mh, .int (nB ds)])), (mc, .inl (q 0, 3, .inl (fun x_ => nI ((va_up ct 2 NL.length) x_)))), (mk, .inl (q 0, 384, .inl (fun x_ => nI (kd x_)))), (m1, .inl (q 0, 384, .inl (fun x_ => nI (on x_)))), (m2, .inl (q 0, 384, .inl (fun x_ => nI (tw x_)))), (ms, .inl (q 0, 1152, .inl se)), (mu, .inl (q 0, 42, .inl (fun x_ => nI (un x_) + (-1)))), (mi, .inl (q 0, 42, .inl (fun x_ => nI (ii x_) + (-1)))), (mr, .inl (q 0, 42, .inl (fun x_ => nI (rw_ x_) + (-1)))), (mn, .inl (q 0, 42, .inl (fun x_ => nI (no x_)))), (mp, .inl (q 0, 42, .inl (fun x_ => nI (pc_ x_) + (-1))))] (fun r u => r = nB (decide (im ≤ ch)) ∧ md_T (md_incs (md_ud NL (pc_ dp - 1) ds) (pc_ dp - 1) im (ch + 1 - im)) b_ u.1 u.2.1 u.2.2.1 u.2.2.2) (fun u => [(ho, .inr (6, [.ref mb, .int (nI sz), .ref mt, .int (nI ln), .ref mw, .int (nI wn), .ref mc, .ref mk, .ref m1, .ref m2, .ref ms, .int (nI dp), .ref mu, .ref mi, .ref mr, .ref mn, .ref mp, .int (nI 9), .int lo_, .int (nI im), .int (nB ex), .ref mj, .int (nI en), .ref me, .ref mh, .int (nB ds)])), (mc, .inl (q 0, 3, .inl (fun x_ => nI ((va_up ct 2 NL.length) x_)))), (mk, .inl (q 0, 384, .inl (fun x_ => nI (u.1 x_)))), (m1, .inl (q 0, 384, .inl (fun x_ => nI (u.2.1 x_)))), (m2, .inl (q 0, 384, .inl (fun x_ => nI (u.2.2.1 x_)))), (ms, .inl (q 0, 1152, .inl u.2.2.2)), (mu, .inl (q 0, 42, .inl (fun x_ => nI (un x_) + (-1)))), (mi, .inl (q 0, 42, .inl (fun x_ => nI (ii x_) + (-1)))), (mr, .inl (q 0, 42, .inl (fun x_ => nI (rw_ x_) + (-1)))), (mn, .inl (q 0, 42, .inl (fun x_ => nI (no x_)))), (mp, .inl (q 0, 42, .inl (fun x_ => nI (pc_ x_) + (-1))))]) := by
  intro sz_
  refine kz_go (by decide +kernel) (Nat.le_of_ble_eq_true rfl) ?_
  intro p e s m below meth c ls args A Q H locs hQ hA X U hl
  have hx := X.1
  have hb := X.2.1
  have hl : lv_has ls 4 [(0, .ref ho), (1, .int (nI ch))] := hl
  have hT128 := hT.1
  refine lv_aload_n hx hb kd_Mo_classes_0 rfl (lv_at hl 0 rfl) ?_
  refine kg_Mo_46 X U 0 rfl rfl kd_Mo_classes_1 ?_
  refine lv_aload_n hx hb kd_Mo_classes_4 rfl (lv_at hl 0 rfl) ?_
  refine kg_Mo_62 X U 0 rfl rfl kd_Mo_classes_5 ?_
  refine kz_iald (k := dp) X U 10 rfl (by omega) (by omega) kd_Mo_classes_8 ?_
  refine kz_top (y := nI (pc_ dp) + (-1)) rfl ?_
  refine kz_top (y := nI (pc_ dp - 1)) (sb_m1 hpc0) ?_
  refine lv_istore_n hx hb kd_Mo_classes_9 rfl hl (by decide) rfl (fun ls hl => ?_)
  have hl : lv_has ls 4 [(2, .int (nI (pc_ dp - 1))), (0, .ref ho), (1, .int (nI ch))] := hl
  refine lv_iload_n hx hb kd_Mo_classes_10 rfl (lv_at hl 2 rfl) ?_
  refine kz_nge X (by omega) kd_Mo_classes_11 rfl ?_
  refine lv_aload_n hx hb kd_Mo_classes_16 rfl (lv_at hl 1 rfl) ?_
  refine kg_Mo_75 X U 0 rfl rfl kd_Mo_classes_17 ?_
  refine kz_ic X 5 kd_Mo_classes_20 (by decide) ?_
  refine kz_icne X (by omega) (by omega) kd_Mo_classes_21 rfl (fun h21 => ?_) (fun h21 => absurd h21 (by omega))
  refine lv_iload_n hx hb kd_Mo_classes_43 rfl (lv_at hl 2 rfl) ?_
  refine kz_bp X 93 kd_Mo_classes_44 (by decide) ?_
  refine kz_icne X (by omega) (by omega) kd_Mo_classes_46 rfl (fun h46 => ?_) (fun h46 => absurd h46 (by omega))
  refine lv_aload_n hx hb kd_Mo_classes_71 rfl (lv_at hl 1 rfl) ?_
  refine kg_Mo_75 X U 0 rfl rfl kd_Mo_classes_72 ?_
  refine kz_bp X 7 kd_Mo_classes_75 (by decide) ?_
  refine kz_icne X (by omega) (by omega) kd_Mo_classes_77 rfl (fun h77 => ?_) (fun h77 => absurd h77 (by omega))
  refine lv_aload_n hx hb kd_Mo_classes_100 rfl (lv_at hl 1 rfl) ?_
  refine kg_Mo_75 X U 0 rfl rfl kd_Mo_classes_101 ?_
  refine kz_bp X 8 kd_Mo_classes_104 (by decide) ?_
  refine kz_icne X (by omega) (by omega) kd_Mo_classes_106 rfl (fun h106 => absurd h106 (by omega)) (fun h106 => ?_)
  refine lv_aload_n hx hb kd_Mo_classes_109 rfl (lv_at hl 1 rfl) ?_
  refine lv_iload_n hx hb kd_Mo_classes_110 rfl (lv_at hl 0 rfl) ?_
  refine kz_cVv (av := [.int (nI (pc_ dp - 1))]) (rest := []) (wr := [(mc, .inl (q 0, 3, .inl (fun x_ => nI ((va_up ct 2 NL.length) x_)))), (mk, .inl (q 0, 384, .inl (fun x_ => nI (kd x_)))), (m1, .inl (q 0, 384, .inl (fun x_ => nI (on x_)))), (m2, .inl (q 0, 384, .inl (fun x_ => nI (tw x_)))), (mu, .inl (q 0, 42, .inl (fun x_ => nI (un x_) + (-1)))), (mi, .inl (q 0, 42, .inl (fun x_ => nI (ii x_) + (-1)))), (mr, .inl (q 0, 42, .inl (fun x_ => nI (rw_ x_) + (-1)))), (mn, .inl (q 0, 42, .inl (fun x_ => nI (no x_)))), (mp, .inl (q 0, 42, .inl (fun x_ => nI (pc_ x_) + (-1))))]) X U hl.1 (cm_Mo_undash l D q ho mb mt mw mc mk m1 m2 ms mu mi mr mn mp mj me mh sz ln wn dp 8 im en lo_ ex ds ct kd on tw se NL b_ (pc_ dp - 1) hT (by omega)) (by decide) (by decide) ⟨by decide, by decide⟩ tb_586 tb_588 tb_s35 0 rfl rfl tb_11 tb_589 kq_Mo_undash [0, 5] [1, 2, 3, 4, 6, 7, 8, 9, 10] (by decide) rfl rfl (by decide) (by decide) rfl (Nat.le_of_ble_eq_true rfl) kd_Mo_classes_111 (fun y0 H locs hy0 U => ?_)
  have U : kz_U D q s A [(ho, .inr (6, [.ref mb, .int (nI sz), .ref mt, .int (nI ln), .ref mw, .int (nI wn), .ref mc, .ref mk, .ref m1, .ref m2, .ref ms, .int (nI dp), .ref mu, .ref mi, .ref mr, .ref mn, .ref mp, .int (nI 8), .int lo_, .int (nI im), .int (nB ex), .ref mj, .int (nI en), .ref me, .ref mh, .int (nB ds)])), (mc, .inl (q 0, 3, .inl (fun x_ => nI ((va_up ct 2 NL.length) x_)))), (mk, .inl (q 0, 384, .inl (fun x_ => nI (kd x_)))), (m1, .inl (q 0, 384, .inl (fun x_ => nI (on x_)))), (m2, .inl (q 0, 384, .inl (fun x_ => nI (tw x_)))), (ms, .inl (q 0, 1152, .inl y0)), (mu, .inl (q 0, 42, .inl (fun x_ => nI (un x_) + (-1)))), (mi, .inl (q 0, 42, .inl (fun x_ => nI (ii x_) + (-1)))), (mr, .inl (q 0, 42, .inl (fun x_ => nI (rw_ x_) + (-1)))), (mn, .inl (q 0, 42, .inl (fun x_ => nI (no x_)))), (mp, .inl (q 0, 42, .inl (fun x_ => nI (pc_ x_) + (-1))))] H locs := U.sub [9, 0, 1, 2, 3, 10, 4, 5, 6, 7, 8] (by decide) rfl
  refine lv_aload_n hx hb kd_Mo_classes_114 rfl (lv_at hl 1 rfl) ?_
  refine kg_Mo_110 X U 0 rfl rfl kd_Mo_classes_115 ?_
  refine lv_istore_n hx hb kd_Mo_classes_118 rfl hl (by decide) rfl (fun ls hl => ?_)
  have hl : lv_has ls 4 [(3, .int (nI im)), (2, .int (nI (pc_ dp - 1))), (0, .ref ho), (1, .int (nI ch))] := hl
  have loop119 : ∀ (fuel : Nat) (i : Nat) (z2 : Nat → Int32) (ls : Array Slot) (H : Heap) (locs : List Loc), ch + 2 - im - i < fuel → (i ≤ ch + 1 - im) → (md_T (md_incs (md_ud NL (pc_ dp - 1) ds) (pc_ dp - 1) im i) b_ kd on tw z2) → lv_has ls 4 [(3, .int (nI (im + i))), (2, .int (nI (pc_ dp - 1))), (0, .ref ho), (1, .int (nI ch))] → kz_U D q s A [(ho, .inr (6, [.ref mb, .int (nI sz), .ref mt, .int (nI ln), .ref mw, .int (nI wn), .ref mc, .ref mk, .ref m1, .ref m2, .ref ms, .int (nI dp), .ref mu, .ref mi, .ref mr, .ref mn, .ref mp, .int (nI 8), .int lo_, .int (nI im), .int (nB ex), .ref mj, .int (nI en), .ref me, .ref mh, .int (nB ds)])), (mc, .inl (q 0, 3, .inl (fun x_ => nI ((va_up ct 2 NL.length) x_)))), (mk, .inl (q 0, 384, .inl (fun x_ => nI (kd x_)))), (m1, .inl (q 0, 384, .inl (fun x_ => nI (on x_)))), (m2, .inl (q 0, 384, .inl (fun x_ => nI (tw x_)))), (ms, .inl (q 0, 1152, .inl z2)), (mu, .inl (q 0, 42, .inl (fun x_ => nI (un x_) + (-1)))), (mi, .inl (q 0, 42, .inl (fun x_ => nI (ii x_) + (-1)))), (mr, .inl (q 0, 42, .inl (fun x_ => nI (rw_ x_) + (-1)))), (mn, .inl (q 0, 42, .inl (fun x_ => nI (no x_)))), (mp, .inl (q 0, 42, .inl (fun x_ => nI (pc_ x_) + (-1))))] H locs → W p l e (kz_rm 3) s m args below meth c H locs 0 0 Q (F0 m 119 ls []) := by
    intro fuel
    induction fuel with
    | zero => intro i z2 ls H locs hme; exact absurd hme (Nat.not_lt_zero _)
    | succ fuel ih119 =>
      intro i z2 ls H locs hme hi hTz hl U
      refine lv_iload_n hx hb kd_Mo_classes_119 rfl (lv_at hl 0 rfl) ?_
      refine lv_iload_n hx hb kd_Mo_classes_120 rfl (lv_at hl 3 rfl) ?_
      refine kz_icgt X (by omega) (by omega) kd_Mo_classes_121 rfl (fun h121 => ?_) (fun h121 => ?_)
      · refine lv_aload_n hx hb kd_Mo_classes_136 rfl (lv_at hl 2 rfl) ?_
        refine kz_bp X 9 kd_Mo_classes_137 (by decide) ?_
        refine kp_Mo_75 X U 0 rfl (Nat.le_of_ble_eq_true rfl) kd_Mo_classes_139 (fun H locs U => ?_)
        have U : kz_U D q s A [(ho, .inr (6, [.ref mb, .int (nI sz), .ref mt, .int (nI ln), .ref mw, .int (nI wn), .ref mc, .ref mk, .ref m1, .ref m2, .ref ms, .int (nI dp), .ref mu, .ref mi, .ref mr, .ref mn, .ref mp, .int (nI 9), .int lo_, .int (nI im), .int (nB ex), .ref mj, .int (nI en), .ref me, .ref mh, .int (nB ds)])), (mc, .inl (q 0, 3, .inl (fun x_ => nI ((va_up ct 2 NL.length) x_)))), (mk, .inl (q 0, 384, .inl (fun x_ => nI (kd x_)))), (m1, .inl (q 0, 384, .inl (fun x_ => nI (on x_)))), (m2, .inl (q 0, 384, .inl (fun x_ => nI (tw x_)))), (ms, .inl (q 0, 1152, .inl z2)), (mu, .inl (q 0, 42, .inl (fun x_ => nI (un x_) + (-1)))), (mi, .inl (q 0, 42, .inl (fun x_ => nI (ii x_) + (-1)))), (mr, .inl (q 0, 42, .inl (fun x_ => nI (rw_ x_) + (-1)))), (mn, .inl (q 0, 42, .inl (fun x_ => nI (no x_)))), (mp, .inl (q 0, 42, .inl (fun x_ => nI (pc_ x_) + (-1))))] H locs := U
        refine lv_aload_n hx hb kd_Mo_classes_142 rfl (lv_at hl 2 rfl) ?_
        refine kg_Mo_110 X U 0 rfl rfl kd_Mo_classes_143 ?_
        refine lv_iload_n hx hb kd_Mo_classes_146 rfl (lv_at hl 3 rfl) ?_
        refine kz_icgt X (by omega) (by omega) kd_Mo_classes_147 rfl (fun h147 => ?_) (fun h147 => ?_)
        · refine kz_ic X 0 kd_Mo_classes_154 (by decide) ?_
          refine kz_top (y := nB false) rfl ?_
          exact kz_ez hQ hA X U ((kd, on, tw, z2)) rfl (⟨by first | rw [decide_eq_true (by omega)] | rw [decide_eq_false (by omega)], by rw [← show i = ch + 1 - im by omega]; exact hTz⟩) kd_Mo_classes_155
        · refine kz_ic X 1 kd_Mo_classes_150 (by decide) ?_
          refine lv_goto hx hb kd_Mo_classes_151 rfl ?_
          refine kz_top (y := nB true) rfl ?_
          exact kz_ez hQ hA X U ((kd, on, tw, z2)) rfl (⟨by first | rw [decide_eq_true (by omega)] | rw [decide_eq_false (by omega)], by rw [← show i = ch + 1 - im by omega]; exact hTz⟩) kd_Mo_classes_155
      · refine lv_aload_n hx hb kd_Mo_classes_124 rfl (lv_at hl 2 rfl) ?_
        refine lv_iload_n hx hb kd_Mo_classes_125 rfl (lv_at hl 1 rfl) ?_
        refine lv_iload_n hx hb kd_Mo_classes_126 rfl (lv_at hl 0 rfl) ?_
        refine kz_cVv (av := [.int (nI (pc_ dp - 1)), .int (nI (im + i))]) (rest := []) (wr := [(mc, .inl (q 0, 3, .inl (fun x_ => nI ((va_up ct 2 NL.length) x_)))), (mk, .inl (q 0, 384, .inl (fun x_ => nI (kd x_)))), (m1, .inl (q 0, 384, .inl (fun x_ => nI (on x_)))), (m2, .inl (q 0, 384, .inl (fun x_ => nI (tw x_)))), (mu, .inl (q 0, 42, .inl (fun x_ => nI (un x_) + (-1)))), (mi, .inl (q 0, 42, .inl (fun x_ => nI (ii x_) + (-1)))), (mr, .inl (q 0, 42, .inl (fun x_ => nI (rw_ x_) + (-1)))), (mn, .inl (q 0, 42, .inl (fun x_ => nI (no x_)))), (mp, .inl (q 0, 42, .inl (fun x_ => nI (pc_ x_) + (-1))))]) X U hl.1 (cm_Mo_include l D q ho mb mt mw mc mk m1 m2 ms mu mi mr mn mp mj me mh sz ln wn dp 8 im en lo_ ex ds ct kd on tw z2 (md_incs (md_ud NL (pc_ dp - 1) ds) (pc_ dp - 1) im i) b_ (pc_ dp - 1) (im + i) hTz (by rw [md_incs_len, md_ud_len]; omega) (by omega) (by omega)) (by decide) (by decide) ⟨by decide, by decide⟩ tb_563 tb_565 tb_s30 0 rfl rfl tb_11 tb_566 kq_Mo_include [0, 5] [1, 2, 3, 4, 6, 7, 8, 9, 10] (by decide) rfl rfl (by decide) (by decide) rfl (Nat.le_of_ble_eq_true rfl) kd_Mo_classes_127 (fun y H locs hy U => ?_)
        have U : kz_U D q s A [(ho, .inr (6, [.ref mb, .int (nI sz), .ref mt, .int (nI ln), .ref mw, .int (nI wn), .ref mc, .ref mk, .ref m1, .ref m2, .ref ms, .int (nI dp), .ref mu, .ref mi, .ref mr, .ref mn, .ref mp, .int (nI 8), .int lo_, .int (nI im), .int (nB ex), .ref mj, .int (nI en), .ref me, .ref mh, .int (nB ds)])), (mc, .inl (q 0, 3, .inl (fun x_ => nI ((va_up ct 2 NL.length) x_)))), (mk, .inl (q 0, 384, .inl (fun x_ => nI (kd x_)))), (m1, .inl (q 0, 384, .inl (fun x_ => nI (on x_)))), (m2, .inl (q 0, 384, .inl (fun x_ => nI (tw x_)))), (ms, .inl (q 0, 1152, .inl y)), (mu, .inl (q 0, 42, .inl (fun x_ => nI (un x_) + (-1)))), (mi, .inl (q 0, 42, .inl (fun x_ => nI (ii x_) + (-1)))), (mr, .inl (q 0, 42, .inl (fun x_ => nI (rw_ x_) + (-1)))), (mn, .inl (q 0, 42, .inl (fun x_ => nI (no x_)))), (mp, .inl (q 0, 42, .inl (fun x_ => nI (pc_ x_) + (-1))))] H locs := U.sub [9, 0, 1, 2, 3, 10, 4, 5, 6, 7, 8] (by decide) rfl
        refine lv_iinc (k := 0) (v := nI (im + i + 1)) hx hb kd_Mo_classes_130 hl rfl (nI_add (im + i) 1) (by decide) rfl (fun ls hl => ?_)
        have hl : lv_has ls 4 [(3, .int (nI (im + i + 1))), (2, .int (nI (pc_ dp - 1))), (0, .ref ho), (1, .int (nI ch))] := hl
        refine lv_goto hx hb kd_Mo_classes_133 rfl ?_
        exact ih119 (i + 1) _ _ _ _ (by omega) (by omega) hy (lv_sub hl [0, 1, 2, 3] rfl) U
  exact loop119 _ 0 y0 _ _ _ (Nat.lt_succ_self _) (by omega) hy0 (lv_sub hl [0, 1, 2, 3] rfl) U
