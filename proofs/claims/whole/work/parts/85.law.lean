/-! the law: its loop over the script -/
set_option maxHeartbeats 4000000 in
set_option maxRecDepth 100000 in
theorem lw_loop {p : Program} {e : Env} {s : State} {m : MethodId} {below : List Frame} {meth : Method} {c : Code} (l : Launch) {b L : Nat} {xs : Nat → Int32} (hL : L ≤ 1536) (C0 : lw_At p s m meth c b L xs) {D : va_G} {q : Nat → ClassId} {hd ho : Nat} {A : Nat → Prop} (hA : ∀ x, A x → s.heap.size ≤ x) (X : kz_C p m c kb_Lw_law 4 "DerivativeMatcherLaw" s #[Value.ref b] meth ret) : ∀ (k i : Nat) (Wc Wm : va_W) (H : Heap) (locs : List Loc) (ls : Array Slot), L - i ≤ k → i ≤ L → lv_has ls 4 [(3, .int (nI i)), (2, .ref ho), (1, .ref hd), (0, .ref b)] → lw_R q hd ho Wc Wm → kz_U D q s A (Wc ++ Wm) H locs → W p l e room_1 s m #[Value.ref b] below meth c H locs 91 10770 (lw_Z below #[Value.ref b] s) (F0 m 18 ls []) := by
  have hx := X.1
  have hb := X.2.1
  have hX := C0.2.2.2.2.2.2.1
  have hbl := C0.2.2.2.2.2.2.2.1
  have hbA : ¬ A b := fun z => by have := hA b z; omega
  intro k
  induction k with
  | zero =>
    intro i Wc Wm H locs ls hk hi hl hR U
    refine lv_iload_n hx hb kd_Lw_law_18 rfl (lv_at hl 0 rfl) ?_
    refine lv_aload_n hx hb kd_Lw_law_19 rfl (lv_at hl 3 rfl) ?_
    refine va_slen hx hb hX hbl hbA U.2.2.2.1 kd_Lw_law_20 ?_
    refine kz_ic X 3 kd_Lw_law_21 (by decide) ?_
    refine lv_isub hx hb kd_Lw_law_22 ?_
    refine lv_icmp_gt hx hb kd_Lw_law_23 rfl (fun _ => ?_) (fun h => absurd ((lw_gt hL (by omega)).mpr (by omega)) h)
    refine lv_iconst (v := 1) hx hb kd_Lw_law_336 (by decide) ?_
    exact va_forget (fun x hx => hA _ (U.2.2.2.1.2.2 x hx)) (W.widen (by decide) (by decide) (lw_ret hx hb C0.2.2.1 C0.2.2.2.2.2.2.2.2.1 kd_Lw_law_337))
  | succ k ih =>
    intro i Wc Wm H locs ls hk hi hl hR U
    refine lv_iload_n hx hb kd_Lw_law_18 rfl (lv_at hl 0 rfl) ?_
    refine lv_aload_n hx hb kd_Lw_law_19 rfl (lv_at hl 3 rfl) ?_
    refine va_slen hx hb hX hbl hbA U.2.2.2.1 kd_Lw_law_20 ?_
    refine kz_ic X 3 kd_Lw_law_21 (by decide) ?_
    refine lv_isub hx hb kd_Lw_law_22 ?_
    refine lv_icmp_gt hx hb kd_Lw_law_23 rfl (fun _ => ?_) (fun h => ?_)
    · refine lv_iconst (v := 1) hx hb kd_Lw_law_336 (by decide) ?_
      exact va_forget (fun x hx => hA _ (U.2.2.2.1.2.2 x hx)) (W.widen (by decide) (by decide) (lw_ret hx hb C0.2.2.1 C0.2.2.2.2.2.2.2.2.1 kd_Lw_law_337))
    have h3 : i + 3 ≤ L := Nat.le_of_not_lt (fun z => h ((lw_gt hL (by omega)).mpr z))
    have next : ∀ (Wc Wm : va_W) (H : Heap) (locs : List Loc), lw_R q hd ho Wc Wm → kz_U D q s A (Wc ++ Wm) H locs → W p l e room_1 s m #[Value.ref b] below meth c H locs 91 10770 (lw_Z below #[Value.ref b] s) (F0 m 330 ls []) := by
      intro Wc Wm H locs hR U
      refine lv_iinc (k := 0) (v := nI (i + 3)) hx hb kd_Lw_law_330 hl rfl (nI_add i 3) (by decide) rfl (fun ls hl => ?_)
      refine lv_goto hx hb kd_Lw_law_333 rfl ?_
      exact ih (i + 3) Wc Wm H locs ls (by omega) h3 hl hR U
    refine lv_aload_n hx hb kd_Lw_law_26 rfl (lv_at hl 3 rfl) ?_
    refine lv_iload_n hx hb kd_Lw_law_27 rfl (lv_at hl 0 rfl) ?_
    refine va_sld hx hb hX hbl hbA U.2.2.2.1 (vp_in_nI (by omega) (by omega)) kd_Lw_law_28 ?_
    refine kz_bp X 15 kd_Lw_law_29 (by decide) ?_
    refine lv_iand hx hb kd_Lw_law_31 ?_
    generalize xs (nI i).toNatClampNeg &&& nI 15 = z
    by_cases hz : z.toInt < 0 ∨ 9 < z.toInt
    · exact lv_tableOut hx hb kd_Lw_law_32 hz rfl (next Wc Wm H locs hR U)
    obtain ⟨j, hj, rfl⟩ := nI_of2 (x := z) (M := nI 9) (n := 9) (nI_toInt (by decide)) (fun h => hz (Or.inl (by have := Int32.lt_iff_toInt_lt.mp h; simpa using this))) (Int32.le_iff_toInt_le.mpr (by rw [nI_toInt (by decide)]; omega))
    have hzi : (nI j).toInt = (j : Int) := nI_toInt (by omega)
    have hj10 : j = 0 ∨ j = 1 ∨ j = 2 ∨ j = 3 ∨ j = 4 ∨ j = 5 ∨ j = 6 ∨ j = 7 ∨ j = 8 ∨ j = 9 := by omega
    rcases hj10 with rfl | rfl | rfl | rfl | rfl | rfl | rfl | rfl | rfl | rfl
    · refine lv_tableIn hx hb kd_Lw_law_32 (by decide) (by decide) (off := 56) (by decide) (tgt := 88) rfl ?_
      obtain ⟨ch, hch1, hch2⟩ := lw_i2c (xs (nI (i + 1)).toNatClampNeg)
      obtain ⟨d1, d2, P1, P2, e1, e2, M1, M2, hP⟩ := (show lw_2 l D q hd ho Wc Wm ky_Dm_type kb_Dm_type 2 ky_Mo_type kb_Mo_type 2 (some .boolean) [.int (nI ch)] from lp_type hR hch1)
      refine lv_aload_n hx hb kd_Lw_law_88 rfl (lv_at hl 2 rfl) ?_
      refine lv_aload_n hx hb kd_Lw_law_89 rfl (lv_at hl 3 rfl) ?_
      refine lv_iload_n hx hb kd_Lw_law_90 rfl (lv_at hl 0 rfl) ?_
      refine kz_ic X 1 kd_Lw_law_91 (by decide) ?_
      refine kz_iadd X kd_Lw_law_92 ?_
      refine va_sld hx hb hX hbl hbA U.2.2.2.1 (vp_in_nI (by omega) (by omega)) kd_Lw_law_93 ?_
      refine lv_i2c hx hb kd_Lw_law_94 hch2 ?_
      refine kz_lVi (av := [.int (nI ch)]) (rest := []) (ci := 5) (N := 9) (T := kf_Dm) X U (List.Perm.refl _) hl.1 M1 e1 (by decide) ⟨by decide, by decide⟩ tb_221 tb_222 tb_223 (lw_he1 hR) rfl tb_1 tb_224 kq_Dm_type rfl (Nat.le_of_ble_eq_true rfl) ⟨by decide, by decide⟩ kd_Lw_law_95 (fun ra Wc2 H locs hra U => ?_)
      refine lv_aload_n hx hb kd_Lw_law_98 rfl (lv_at hl 1 rfl) ?_
      refine lv_aload_n hx hb kd_Lw_law_99 rfl (lv_at hl 3 rfl) ?_
      refine lv_iload_n hx hb kd_Lw_law_100 rfl (lv_at hl 0 rfl) ?_
      refine kz_ic X 1 kd_Lw_law_101 (by decide) ?_
      refine kz_iadd X kd_Lw_law_102 ?_
      refine va_sld hx hb hX hbl hbA U.2.2.2.1 (vp_in_nI (by omega) (by omega)) kd_Lw_law_103 ?_
      refine lv_i2c hx hb kd_Lw_law_104 hch2 ?_
      refine kz_lVi (av := [.int (nI ch)]) (rest := [.int ra]) (ci := 6) (N := 26) (T := kf_Mo) X U (List.Perm.refl _) hl.1 M2 e2 (by decide) ⟨by decide, by decide⟩ tb_515 tb_516 tb_517 (lw_he2 hR) rfl tb_11 tb_518 kq_Mo_type rfl (Nat.le_of_ble_eq_true rfl) ⟨by decide, by decide⟩ kd_Lw_law_105 (fun rb Wm2 H locs hrb U => ?_)
      obtain ⟨hab, hR2⟩ := hP ra rb Wc2 Wm2 hra hrb
      exact lv_icmp_eq hx hb kd_Lw_law_108 rfl (fun _ => next Wc2 Wm2 H locs hR2 U) (fun h => absurd hab h)
    · refine lv_tableIn hx hb kd_Lw_law_32 (by decide) (by decide) (off := 81) (by decide) (tgt := 113) rfl ?_
      obtain ⟨d1, d2, P1, P2, e1, e2, M1, M2, hP⟩ := (show lw_2 l D q hd ho Wc Wm ky_Dm_pattern kb_Dm_pattern 3 ky_Mo_pattern kb_Mo_pattern 6 (some .int) [.int (xs (nI (i + 1)).toNatClampNeg)] from lp_pattern hR (xs (nI (i + 1)).toNatClampNeg))
      refine lv_aload_n hx hb kd_Lw_law_113 rfl (lv_at hl 2 rfl) ?_
      refine lv_aload_n hx hb kd_Lw_law_114 rfl (lv_at hl 3 rfl) ?_
      refine lv_iload_n hx hb kd_Lw_law_115 rfl (lv_at hl 0 rfl) ?_
      refine kz_ic X 1 kd_Lw_law_116 (by decide) ?_
      refine kz_iadd X kd_Lw_law_117 ?_
      refine va_sld hx hb hX hbl hbA U.2.2.2.1 (vp_in_nI (by omega) (by omega)) kd_Lw_law_118 ?_
      refine kz_lVi (av := [.int (xs (nI (i + 1)).toNatClampNeg)]) (rest := []) (ci := 5) (N := 9) (T := kf_Dm) X U (List.Perm.refl _) hl.1 M1 e1 (by decide) ⟨by decide, by decide⟩ tb_225 tb_226 tb_227 (lw_he1 hR) rfl tb_1 tb_228 kq_Dm_pattern rfl (Nat.le_of_ble_eq_true rfl) ⟨by decide, by decide⟩ kd_Lw_law_119 (fun ra Wc2 H locs hra U => ?_)
      refine lv_aload_n hx hb kd_Lw_law_122 rfl (lv_at hl 1 rfl) ?_
      refine lv_aload_n hx hb kd_Lw_law_123 rfl (lv_at hl 3 rfl) ?_
      refine lv_iload_n hx hb kd_Lw_law_124 rfl (lv_at hl 0 rfl) ?_
      refine kz_ic X 1 kd_Lw_law_125 (by decide) ?_
      refine kz_iadd X kd_Lw_law_126 ?_
      refine va_sld hx hb hX hbl hbA U.2.2.2.1 (vp_in_nI (by omega) (by omega)) kd_Lw_law_127 ?_
      refine kz_lVi (av := [.int (xs (nI (i + 1)).toNatClampNeg)]) (rest := [.int ra]) (ci := 6) (N := 26) (T := kf_Mo) X U (List.Perm.refl _) hl.1 M2 e2 (by decide) ⟨by decide, by decide⟩ tb_519 tb_520 tb_521 (lw_he2 hR) rfl tb_11 tb_522 kq_Mo_pattern rfl (Nat.le_of_ble_eq_true rfl) ⟨by decide, by decide⟩ kd_Lw_law_128 (fun rb Wm2 H locs hrb U => ?_)
      obtain ⟨hab, hR2⟩ := hP ra rb Wc2 Wm2 hra hrb
      exact lv_icmp_eq hx hb kd_Lw_law_131 rfl (fun _ => next Wc2 Wm2 H locs hR2 U) (fun h => absurd hab h)
    · refine lv_tableIn hx hb kd_Lw_law_32 (by decide) (by decide) (off := 104) (by decide) (tgt := 136) rfl ?_
      obtain ⟨d1, d2, P1, P2, e1, e2, M1, M2, hP⟩ := (show lw_2 l D q hd ho Wc Wm ky_Dm_text kb_Dm_text 1 ky_Mo_text kb_Mo_text 2 (some .int) [] from lp_text hR)
      refine lv_aload_n hx hb kd_Lw_law_136 rfl (lv_at hl 2 rfl) ?_
      refine kz_lVi (av := []) (rest := []) (ci := 5) (N := 9) (T := kf_Dm) X U (List.Perm.refl _) hl.1 M1 e1 (by decide) ⟨by decide, by decide⟩ tb_318 tb_319 tb_320 (lw_he1 hR) rfl tb_1 tb_321 kq_Dm_text rfl (Nat.le_of_ble_eq_true rfl) ⟨by decide, by decide⟩ kd_Lw_law_137 (fun ra Wc2 H locs hra U => ?_)
      refine lv_aload_n hx hb kd_Lw_law_140 rfl (lv_at hl 1 rfl) ?_
      refine kz_lVi (av := []) (rest := [.int ra]) (ci := 6) (N := 26) (T := kf_Mo) X U (List.Perm.refl _) hl.1 M2 e2 (by decide) ⟨by decide, by decide⟩ tb_590 tb_591 tb_592 (lw_he2 hR) rfl tb_11 tb_593 kq_Mo_text rfl (Nat.le_of_ble_eq_true rfl) ⟨by decide, by decide⟩ kd_Lw_law_141 (fun rb Wm2 H locs hrb U => ?_)
      obtain ⟨hab, hR2⟩ := hP ra rb Wc2 Wm2 hra hrb
      exact lv_icmp_eq hx hb kd_Lw_law_144 rfl (fun _ => next Wc2 Wm2 H locs hR2 U) (fun h => absurd hab h)
    · refine lv_tableIn hx hb kd_Lw_law_32 (by decide) (by decide) (off := 117) (by decide) (tgt := 149) rfl ?_
      obtain ⟨d1, d2, P1, P2, e1, e2, M1, M2, hP⟩ := (show lw_2 l D q hd ho Wc Wm ky_Dm_matches kb_Dm_matches 2 ky_Mo_matches kb_Mo_matches 3 (some .boolean) [.int (xs (nI (i + 1)).toNatClampNeg)] from lp_matches hR (xs (nI (i + 1)).toNatClampNeg))
      refine lv_aload_n hx hb kd_Lw_law_149 rfl (lv_at hl 2 rfl) ?_
      refine lv_aload_n hx hb kd_Lw_law_150 rfl (lv_at hl 3 rfl) ?_
      refine lv_iload_n hx hb kd_Lw_law_151 rfl (lv_at hl 0 rfl) ?_
      refine kz_ic X 1 kd_Lw_law_152 (by decide) ?_
      refine kz_iadd X kd_Lw_law_153 ?_
      refine va_sld hx hb hX hbl hbA U.2.2.2.1 (vp_in_nI (by omega) (by omega)) kd_Lw_law_154 ?_
      refine kz_lVi (av := [.int (xs (nI (i + 1)).toNatClampNeg)]) (rest := []) (ci := 5) (N := 9) (T := kf_Dm) X U (List.Perm.refl _) hl.1 M1 e1 (by decide) ⟨by decide, by decide⟩ tb_323 tb_324 tb_325 (lw_he1 hR) rfl tb_1 tb_326 kq_Dm_matches rfl (Nat.le_of_ble_eq_true rfl) ⟨by decide, by decide⟩ kd_Lw_law_155 (fun ra Wc2 H locs hra U => ?_)
      refine lv_aload_n hx hb kd_Lw_law_158 rfl (lv_at hl 1 rfl) ?_
      refine lv_aload_n hx hb kd_Lw_law_159 rfl (lv_at hl 3 rfl) ?_
      refine lv_iload_n hx hb kd_Lw_law_160 rfl (lv_at hl 0 rfl) ?_
      refine kz_ic X 1 kd_Lw_law_161 (by decide) ?_
      refine kz_iadd X kd_Lw_law_162 ?_
      refine va_sld hx hb hX hbl hbA U.2.2.2.1 (vp_in_nI (by omega) (by omega)) kd_Lw_law_163 ?_
      refine kz_lVi (av := [.int (xs (nI (i + 1)).toNatClampNeg)]) (rest := [.int ra]) (ci := 6) (N := 26) (T := kf_Mo) X U (List.Perm.refl _) hl.1 M2 e2 (by decide) ⟨by decide, by decide⟩ tb_594 tb_595 tb_596 (lw_he2 hR) rfl tb_11 tb_597 kq_Mo_matches rfl (Nat.le_of_ble_eq_true rfl) ⟨by decide, by decide⟩ kd_Lw_law_164 (fun rb Wm2 H locs hrb U => ?_)
      obtain ⟨hab, hR2⟩ := hP ra rb Wc2 Wm2 hra hrb
      exact lv_icmp_eq hx hb kd_Lw_law_167 rfl (fun _ => next Wc2 Wm2 H locs hR2 U) (fun h => absurd hab h)
    · refine lv_tableIn hx hb kd_Lw_law_32 (by decide) (by decide) (off := 140) (by decide) (tgt := 172) rfl ?_
      obtain ⟨d1, d2, P1, P2, e1, e2, M1, M2, hP⟩ := (show lw_2 l D q hd ho Wc Wm ky_Dm_find kb_Dm_find 6 ky_Mo_find kb_Mo_find 3 (some .int) [.int (xs (nI (i + 1)).toNatClampNeg), .int (xs (nI (i + 2)).toNatClampNeg)] from lp_find hR (xs (nI (i + 1)).toNatClampNeg) (xs (nI (i + 2)).toNatClampNeg))
      refine lv_aload_n hx hb kd_Lw_law_172 rfl (lv_at hl 2 rfl) ?_
      refine lv_aload_n hx hb kd_Lw_law_173 rfl (lv_at hl 3 rfl) ?_
      refine lv_iload_n hx hb kd_Lw_law_174 rfl (lv_at hl 0 rfl) ?_
      refine kz_ic X 1 kd_Lw_law_175 (by decide) ?_
      refine kz_iadd X kd_Lw_law_176 ?_
      refine va_sld hx hb hX hbl hbA U.2.2.2.1 (vp_in_nI (by omega) (by omega)) kd_Lw_law_177 ?_
      refine lv_aload_n hx hb kd_Lw_law_178 rfl (lv_at hl 3 rfl) ?_
      refine lv_iload_n hx hb kd_Lw_law_179 rfl (lv_at hl 0 rfl) ?_
      refine kz_ic X 2 kd_Lw_law_180 (by decide) ?_
      refine kz_iadd X kd_Lw_law_181 ?_
      refine va_sld hx hb hX hbl hbA U.2.2.2.1 (vp_in_nI (by omega) (by omega)) kd_Lw_law_182 ?_
      refine kz_lVi (av := [.int (xs (nI (i + 1)).toNatClampNeg), .int (xs (nI (i + 2)).toNatClampNeg)]) (rest := []) (ci := 5) (N := 9) (T := kf_Dm) X U (List.Perm.refl _) hl.1 M1 e1 (by decide) ⟨by decide, by decide⟩ tb_384 tb_385 tb_386 (lw_he1 hR) rfl tb_1 tb_387 kq_Dm_find rfl (Nat.le_of_ble_eq_true rfl) ⟨by decide, by decide⟩ kd_Lw_law_183 (fun ra Wc2 H locs hra U => ?_)
      refine lv_aload_n hx hb kd_Lw_law_186 rfl (lv_at hl 1 rfl) ?_
      refine lv_aload_n hx hb kd_Lw_law_187 rfl (lv_at hl 3 rfl) ?_
      refine lv_iload_n hx hb kd_Lw_law_188 rfl (lv_at hl 0 rfl) ?_
      refine kz_ic X 1 kd_Lw_law_189 (by decide) ?_
      refine kz_iadd X kd_Lw_law_190 ?_
      refine va_sld hx hb hX hbl hbA U.2.2.2.1 (vp_in_nI (by omega) (by omega)) kd_Lw_law_191 ?_
      refine lv_aload_n hx hb kd_Lw_law_192 rfl (lv_at hl 3 rfl) ?_
      refine lv_iload_n hx hb kd_Lw_law_193 rfl (lv_at hl 0 rfl) ?_
      refine kz_ic X 2 kd_Lw_law_194 (by decide) ?_
      refine kz_iadd X kd_Lw_law_195 ?_
      refine va_sld hx hb hX hbl hbA U.2.2.2.1 (vp_in_nI (by omega) (by omega)) kd_Lw_law_196 ?_
      refine kz_lVi (av := [.int (xs (nI (i + 1)).toNatClampNeg), .int (xs (nI (i + 2)).toNatClampNeg)]) (rest := [.int ra]) (ci := 6) (N := 26) (T := kf_Mo) X U (List.Perm.refl _) hl.1 M2 e2 (by decide) ⟨by decide, by decide⟩ tb_622 tb_623 tb_624 (lw_he2 hR) rfl tb_11 tb_625 kq_Mo_find rfl (Nat.le_of_ble_eq_true rfl) ⟨by decide, by decide⟩ kd_Lw_law_197 (fun rb Wm2 H locs hrb U => ?_)
      obtain ⟨hab, hR2⟩ := hP ra rb Wc2 Wm2 hra hrb
      exact lv_icmp_eq hx hb kd_Lw_law_200 rfl (fun _ => next Wc2 Wm2 H locs hR2 U) (fun h => absurd hab h)
    · refine lv_tableIn hx hb kd_Lw_law_32 (by decide) (by decide) (off := 173) (by decide) (tgt := 205) rfl ?_
      obtain ⟨d1, d2, P1, P2, e1, e2, M1, M2, hP⟩ := (show lw_2 l D q hd ho Wc Wm ky_Dm_count kb_Dm_count 6 ky_Mo_count kb_Mo_count 6 (some .int) [.int (xs (nI (i + 1)).toNatClampNeg)] from lp_count hR (xs (nI (i + 1)).toNatClampNeg))
      refine lv_aload_n hx hb kd_Lw_law_205 rfl (lv_at hl 2 rfl) ?_
      refine lv_aload_n hx hb kd_Lw_law_206 rfl (lv_at hl 3 rfl) ?_
      refine lv_iload_n hx hb kd_Lw_law_207 rfl (lv_at hl 0 rfl) ?_
      refine kz_ic X 1 kd_Lw_law_208 (by decide) ?_
      refine kz_iadd X kd_Lw_law_209 ?_
      refine va_sld hx hb hX hbl hbA U.2.2.2.1 (vp_in_nI (by omega) (by omega)) kd_Lw_law_210 ?_
      refine kz_lVi (av := [.int (xs (nI (i + 1)).toNatClampNeg)]) (rest := []) (ci := 5) (N := 9) (T := kf_Dm) X U (List.Perm.refl _) hl.1 M1 e1 (by decide) ⟨by decide, by decide⟩ tb_391 tb_392 tb_393 (lw_he1 hR) rfl tb_1 tb_394 kq_Dm_count rfl (Nat.le_of_ble_eq_true rfl) ⟨by decide, by decide⟩ kd_Lw_law_211 (fun ra Wc2 H locs hra U => ?_)
      refine lv_aload_n hx hb kd_Lw_law_214 rfl (lv_at hl 1 rfl) ?_
      refine lv_aload_n hx hb kd_Lw_law_215 rfl (lv_at hl 3 rfl) ?_
      refine lv_iload_n hx hb kd_Lw_law_216 rfl (lv_at hl 0 rfl) ?_
      refine kz_ic X 1 kd_Lw_law_217 (by decide) ?_
      refine kz_iadd X kd_Lw_law_218 ?_
      refine va_sld hx hb hX hbl hbA U.2.2.2.1 (vp_in_nI (by omega) (by omega)) kd_Lw_law_219 ?_
      refine kz_lVi (av := [.int (xs (nI (i + 1)).toNatClampNeg)]) (rest := [.int ra]) (ci := 6) (N := 26) (T := kf_Mo) X U (List.Perm.refl _) hl.1 M2 e2 (by decide) ⟨by decide, by decide⟩ tb_633 tb_634 tb_635 (lw_he2 hR) rfl tb_11 tb_636 kq_Mo_count rfl (Nat.le_of_ble_eq_true rfl) ⟨by decide, by decide⟩ kd_Lw_law_220 (fun rb Wm2 H locs hrb U => ?_)
      obtain ⟨hab, hR2⟩ := hP ra rb Wc2 Wm2 hra hrb
      exact lv_icmp_eq hx hb kd_Lw_law_223 rfl (fun _ => next Wc2 Wm2 H locs hR2 U) (fun h => absurd hab h)
    · refine lv_tableIn hx hb kd_Lw_law_32 (by decide) (by decide) (off := 196) (by decide) (tgt := 228) rfl ?_
      obtain ⟨d1, d2, P1, P2, e1, e2, M1, M2, hP⟩ := (show lw_2 l D q hd ho Wc Wm ky_Dm_earliest kb_Dm_earliest 5 ky_Mo_earliest kb_Mo_earliest 5 (some .int) [.int (xs (nI (i + 1)).toNatClampNeg)] from lp_earliest hR (xs (nI (i + 1)).toNatClampNeg))
      refine lv_aload_n hx hb kd_Lw_law_228 rfl (lv_at hl 2 rfl) ?_
      refine lv_aload_n hx hb kd_Lw_law_229 rfl (lv_at hl 3 rfl) ?_
      refine lv_iload_n hx hb kd_Lw_law_230 rfl (lv_at hl 0 rfl) ?_
      refine kz_ic X 1 kd_Lw_law_231 (by decide) ?_
      refine kz_iadd X kd_Lw_law_232 ?_
      refine va_sld hx hb hX hbl hbA U.2.2.2.1 (vp_in_nI (by omega) (by omega)) kd_Lw_law_233 ?_
      refine kz_lVi (av := [.int (xs (nI (i + 1)).toNatClampNeg)]) (rest := []) (ci := 5) (N := 9) (T := kf_Dm) X U (List.Perm.refl _) hl.1 M1 e1 (by decide) ⟨by decide, by decide⟩ tb_398 tb_399 tb_400 (lw_he1 hR) rfl tb_1 tb_401 kq_Dm_earliest rfl (Nat.le_of_ble_eq_true rfl) ⟨by decide, by decide⟩ kd_Lw_law_234 (fun ra Wc2 H locs hra U => ?_)
      refine lv_aload_n hx hb kd_Lw_law_237 rfl (lv_at hl 1 rfl) ?_
      refine lv_aload_n hx hb kd_Lw_law_238 rfl (lv_at hl 3 rfl) ?_
      refine lv_iload_n hx hb kd_Lw_law_239 rfl (lv_at hl 0 rfl) ?_
      refine kz_ic X 1 kd_Lw_law_240 (by decide) ?_
      refine kz_iadd X kd_Lw_law_241 ?_
      refine va_sld hx hb hX hbl hbA U.2.2.2.1 (vp_in_nI (by omega) (by omega)) kd_Lw_law_242 ?_
      refine kz_lVi (av := [.int (xs (nI (i + 1)).toNatClampNeg)]) (rest := [.int ra]) (ci := 6) (N := 26) (T := kf_Mo) X U (List.Perm.refl _) hl.1 M2 e2 (by decide) ⟨by decide, by decide⟩ tb_637 tb_638 tb_639 (lw_he2 hR) rfl tb_11 tb_640 kq_Mo_earliest rfl (Nat.le_of_ble_eq_true rfl) ⟨by decide, by decide⟩ kd_Lw_law_243 (fun rb Wm2 H locs hrb U => ?_)
      obtain ⟨hab, hR2⟩ := hP ra rb Wc2 Wm2 hra hrb
      exact lv_icmp_eq hx hb kd_Lw_law_246 rfl (fun _ => next Wc2 Wm2 H locs hR2 U) (fun h => absurd hab h)
    · refine lv_tableIn hx hb kd_Lw_law_32 (by decide) (by decide) (off := 219) (by decide) (tgt := 251) rfl ?_
      obtain ⟨d1, d2, P1, P2, e1, e2, M1, M2, hP⟩ := (show lw_2 l D q hd ho Wc Wm ky_Dm_shortest kb_Dm_shortest 6 ky_Mo_shortest kb_Mo_shortest 3 (some .int) [.int (xs (nI (i + 1)).toNatClampNeg), .int (xs (nI (i + 2)).toNatClampNeg)] from lp_shortest hR (xs (nI (i + 1)).toNatClampNeg) (xs (nI (i + 2)).toNatClampNeg))
      refine lv_aload_n hx hb kd_Lw_law_251 rfl (lv_at hl 2 rfl) ?_
      refine lv_aload_n hx hb kd_Lw_law_252 rfl (lv_at hl 3 rfl) ?_
      refine lv_iload_n hx hb kd_Lw_law_253 rfl (lv_at hl 0 rfl) ?_
      refine kz_ic X 1 kd_Lw_law_254 (by decide) ?_
      refine kz_iadd X kd_Lw_law_255 ?_
      refine va_sld hx hb hX hbl hbA U.2.2.2.1 (vp_in_nI (by omega) (by omega)) kd_Lw_law_256 ?_
      refine lv_aload_n hx hb kd_Lw_law_257 rfl (lv_at hl 3 rfl) ?_
      refine lv_iload_n hx hb kd_Lw_law_258 rfl (lv_at hl 0 rfl) ?_
      refine kz_ic X 2 kd_Lw_law_259 (by decide) ?_
      refine kz_iadd X kd_Lw_law_260 ?_
      refine va_sld hx hb hX hbl hbA U.2.2.2.1 (vp_in_nI (by omega) (by omega)) kd_Lw_law_261 ?_
      refine kz_lVi (av := [.int (xs (nI (i + 1)).toNatClampNeg), .int (xs (nI (i + 2)).toNatClampNeg)]) (rest := []) (ci := 5) (N := 9) (T := kf_Dm) X U (List.Perm.refl _) hl.1 M1 e1 (by decide) ⟨by decide, by decide⟩ tb_402 tb_403 tb_404 (lw_he1 hR) rfl tb_1 tb_405 kq_Dm_shortest rfl (Nat.le_of_ble_eq_true rfl) ⟨by decide, by decide⟩ kd_Lw_law_262 (fun ra Wc2 H locs hra U => ?_)
      refine lv_aload_n hx hb kd_Lw_law_265 rfl (lv_at hl 1 rfl) ?_
      refine lv_aload_n hx hb kd_Lw_law_266 rfl (lv_at hl 3 rfl) ?_
      refine lv_iload_n hx hb kd_Lw_law_267 rfl (lv_at hl 0 rfl) ?_
      refine kz_ic X 1 kd_Lw_law_268 (by decide) ?_
      refine kz_iadd X kd_Lw_law_269 ?_
      refine va_sld hx hb hX hbl hbA U.2.2.2.1 (vp_in_nI (by omega) (by omega)) kd_Lw_law_270 ?_
      refine lv_aload_n hx hb kd_Lw_law_271 rfl (lv_at hl 3 rfl) ?_
      refine lv_iload_n hx hb kd_Lw_law_272 rfl (lv_at hl 0 rfl) ?_
      refine kz_ic X 2 kd_Lw_law_273 (by decide) ?_
      refine kz_iadd X kd_Lw_law_274 ?_
      refine va_sld hx hb hX hbl hbA U.2.2.2.1 (vp_in_nI (by omega) (by omega)) kd_Lw_law_275 ?_
      refine kz_lVi (av := [.int (xs (nI (i + 1)).toNatClampNeg), .int (xs (nI (i + 2)).toNatClampNeg)]) (rest := [.int ra]) (ci := 6) (N := 26) (T := kf_Mo) X U (List.Perm.refl _) hl.1 M2 e2 (by decide) ⟨by decide, by decide⟩ tb_641 tb_642 tb_643 (lw_he2 hR) rfl tb_11 tb_644 kq_Mo_shortest rfl (Nat.le_of_ble_eq_true rfl) ⟨by decide, by decide⟩ kd_Lw_law_276 (fun rb Wm2 H locs hrb U => ?_)
      obtain ⟨hab, hR2⟩ := hP ra rb Wc2 Wm2 hra hrb
      exact lv_icmp_eq hx hb kd_Lw_law_279 rfl (fun _ => next Wc2 Wm2 H locs hR2 U) (fun h => absurd hab h)
    · refine lv_tableIn hx hb kd_Lw_law_32 (by decide) (by decide) (off := 252) (by decide) (tgt := 284) rfl ?_
      obtain ⟨d1, d2, P1, P2, e1, e2, M1, M2, hP⟩ := (show lw_2 l D q hd ho Wc Wm ky_Dm_difference kb_Dm_difference 6 ky_Mo_difference kb_Mo_difference 2 (some .int) [.int (xs (nI (i + 1)).toNatClampNeg)] from lp_difference hR (xs (nI (i + 1)).toNatClampNeg))
      refine lv_aload_n hx hb kd_Lw_law_284 rfl (lv_at hl 2 rfl) ?_
      refine lv_aload_n hx hb kd_Lw_law_285 rfl (lv_at hl 3 rfl) ?_
      refine lv_iload_n hx hb kd_Lw_law_286 rfl (lv_at hl 0 rfl) ?_
      refine kz_ic X 1 kd_Lw_law_287 (by decide) ?_
      refine kz_iadd X kd_Lw_law_288 ?_
      refine va_sld hx hb hX hbl hbA U.2.2.2.1 (vp_in_nI (by omega) (by omega)) kd_Lw_law_289 ?_
      refine kz_lVi (av := [.int (xs (nI (i + 1)).toNatClampNeg)]) (rest := []) (ci := 5) (N := 9) (T := kf_Dm) X U (List.Perm.refl _) hl.1 M1 e1 (by decide) ⟨by decide, by decide⟩ tb_422 tb_423 tb_424 (lw_he1 hR) rfl tb_1 tb_425 kq_Dm_difference rfl (Nat.le_of_ble_eq_true rfl) ⟨by decide, by decide⟩ kd_Lw_law_290 (fun ra Wc2 H locs hra U => ?_)
      refine lv_aload_n hx hb kd_Lw_law_293 rfl (lv_at hl 1 rfl) ?_
      refine lv_aload_n hx hb kd_Lw_law_294 rfl (lv_at hl 3 rfl) ?_
      refine lv_iload_n hx hb kd_Lw_law_295 rfl (lv_at hl 0 rfl) ?_
      refine kz_ic X 1 kd_Lw_law_296 (by decide) ?_
      refine kz_iadd X kd_Lw_law_297 ?_
      refine va_sld hx hb hX hbl hbA U.2.2.2.1 (vp_in_nI (by omega) (by omega)) kd_Lw_law_298 ?_
      refine kz_lVi (av := [.int (xs (nI (i + 1)).toNatClampNeg)]) (rest := [.int ra]) (ci := 6) (N := 26) (T := kf_Mo) X U (List.Perm.refl _) hl.1 M2 e2 (by decide) ⟨by decide, by decide⟩ tb_657 tb_658 tb_659 (lw_he2 hR) rfl tb_11 tb_660 kq_Mo_difference rfl (Nat.le_of_ble_eq_true rfl) ⟨by decide, by decide⟩ kd_Lw_law_299 (fun rb Wm2 H locs hrb U => ?_)
      obtain ⟨hab, hR2⟩ := hP ra rb Wc2 Wm2 hra hrb
      exact lv_icmp_eq hx hb kd_Lw_law_302 rfl (fun _ => next Wc2 Wm2 H locs hR2 U) (fun h => absurd hab h)
    · refine lv_tableIn hx hb kd_Lw_law_32 (by decide) (by decide) (off := 275) (by decide) (tgt := 307) rfl ?_
      obtain ⟨d1, d2, P1, P2, e1, e2, M1, M2, hP⟩ := (show lw_2 l D q hd ho Wc Wm ky_Dm_word kb_Dm_word 2 ky_Mo_word kb_Mo_word 2 (some .int) [.int (xs (nI (i + 1)).toNatClampNeg)] from lp_word hR (xs (nI (i + 1)).toNatClampNeg))
      refine lv_aload_n hx hb kd_Lw_law_307 rfl (lv_at hl 2 rfl) ?_
      refine lv_aload_n hx hb kd_Lw_law_308 rfl (lv_at hl 3 rfl) ?_
      refine lv_iload_n hx hb kd_Lw_law_309 rfl (lv_at hl 0 rfl) ?_
      refine kz_ic X 1 kd_Lw_law_310 (by decide) ?_
      refine kz_iadd X kd_Lw_law_311 ?_
      refine va_sld hx hb hX hbl hbA U.2.2.2.1 (vp_in_nI (by omega) (by omega)) kd_Lw_law_312 ?_
      refine kz_lVi (av := [.int (xs (nI (i + 1)).toNatClampNeg)]) (rest := []) (ci := 5) (N := 9) (T := kf_Dm) X U (List.Perm.refl _) hl.1 M1 e1 (by decide) ⟨by decide, by decide⟩ tb_426 tb_427 tb_428 (lw_he1 hR) rfl tb_1 tb_429 kq_Dm_word rfl (Nat.le_of_ble_eq_true rfl) ⟨by decide, by decide⟩ kd_Lw_law_313 (fun ra Wc2 H locs hra U => ?_)
      refine lv_aload_n hx hb kd_Lw_law_316 rfl (lv_at hl 1 rfl) ?_
      refine lv_aload_n hx hb kd_Lw_law_317 rfl (lv_at hl 3 rfl) ?_
      refine lv_iload_n hx hb kd_Lw_law_318 rfl (lv_at hl 0 rfl) ?_
      refine kz_ic X 1 kd_Lw_law_319 (by decide) ?_
      refine kz_iadd X kd_Lw_law_320 ?_
      refine va_sld hx hb hX hbl hbA U.2.2.2.1 (vp_in_nI (by omega) (by omega)) kd_Lw_law_321 ?_
      refine kz_lVi (av := [.int (xs (nI (i + 1)).toNatClampNeg)]) (rest := [.int ra]) (ci := 6) (N := 26) (T := kf_Mo) X U (List.Perm.refl _) hl.1 M2 e2 (by decide) ⟨by decide, by decide⟩ tb_661 tb_662 tb_663 (lw_he2 hR) rfl tb_11 tb_664 kq_Mo_word rfl (Nat.le_of_ble_eq_true rfl) ⟨by decide, by decide⟩ kd_Lw_law_322 (fun rb Wm2 H locs hrb U => ?_)
      obtain ⟨hab, hR2⟩ := hP ra rb Wc2 Wm2 hra hrb
      exact lv_icmp_eq hx hb kd_Lw_law_325 rfl (fun _ => next Wc2 Wm2 H locs hR2 U) (fun h => absurd hab h)
