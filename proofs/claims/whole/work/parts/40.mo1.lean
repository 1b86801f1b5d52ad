section KMM
variable {p : Program} {l : Launch} {e : Env} {R : Room} {s : State} {m : MethodId} {args : Array Value} {below : List Frame} {meth : Method} {c : Code} {H : Heap} {locs : List Loc} {cells slots : Nat} {Q : State → Prop}
variable {cc : ByteArray} {pc nL : Nat} {ls : Array Slot} {rest : List Value} {own : String} {ret : Option FieldType}
theorem kz_mneg {a : Nat} (ha : a < 2 ^ 31) : nI a + (-1) < 0 ↔ a = 0 := by
  rcases a with _ | a
  · exact ⟨fun _ => rfl, fun _ => by decide⟩
  · rw [pk_m1]; exact ⟨fun h => absurd h (nI_pos (by omega)), fun h => by cases h⟩
theorem kz_mlt (X : kz_C p m c cc nL own s args meth ret) {a : Nat} (ha : a < 2 ^ 31) {off : Int} {tgt : Nat} (hdg : decode cc pc = .ok (.ifCond .lt off, 3)) (ht : (pc : Int) + off = (tgt : Int)) (kt : a = 0 → W p l e R s m args below meth c H locs cells slots Q (F0 m tgt ls rest)) (kf : 0 < a → W p l e R s m args below meth c H locs cells slots Q (F0 m (pc + 3) ls rest)) : W p l e R s m args below meth c H locs cells slots Q (F0 m pc ls (.int (nI a + (-1)) :: rest)) := lv_if_lt X.1 X.2.1 hdg ht (fun h => kt ((kz_mneg ha).mp h)) (fun h => kf (Nat.pos_of_ne_zero fun z => h ((kz_mneg ha).mpr z)))
theorem kz_mge (X : kz_C p m c cc nL own s args meth ret) {a : Nat} (ha : a < 2 ^ 31) {off : Int} {tgt : Nat} (hdg : decode cc pc = .ok (.ifCond .ge off, 3)) (ht : (pc : Int) + off = (tgt : Int)) (kt : 0 < a → W p l e R s m args below meth c H locs cells slots Q (F0 m tgt ls rest)) (kf : a = 0 → W p l e R s m args below meth c H locs cells slots Q (F0 m (pc + 3) ls rest)) : W p l e R s m args below meth c H locs cells slots Q (F0 m pc ls (.int (nI a + (-1)) :: rest)) := lv_if_ge X.1 X.2.1 hdg ht (fun h => kt (Nat.pos_of_ne_zero fun z => absurd ((kz_mneg ha).mpr z) (Int32.not_lt.mpr h))) (fun h => kf ((kz_mneg ha).mp (Int32.not_le.mp h)))
end KMM
theorem kz_updM {t : Nat → Nat} {k x : Nat} : upd (fun j => nI (t j) + (-1)) k (nI x + (-1)) = fun j => nI (va_up t k x j) + (-1) := by
  funext j
  by_cases h : j = k
  · simp [upd, va_up, h]
  · simp [upd, va_up, h]
theorem kz_flN {f g : Nat → Nat} {n : Nat} : kz_fl (fun j => nI (f j)) (fun j => nI (g j)) n = fun j => nI (va_cpy f g 0 0 n j) := by
  funext j
  unfold kz_fl va_cpy
  by_cases h : j < n
  · rw [if_pos h, if_pos ⟨by omega, by omega⟩]; simp
  · rw [if_neg h, if_neg (fun z => h (by omega))]

set_option maxHeartbeats 4000000 in
set_option maxRecDepth 100000 in
theorem cm_Mo_type (l : Launch) (D : va_G) (q : Nat → ClassId) (ho mb mt mw mc mk m1 m2 ms mu mi mr mn mp mj me mh : Nat) (sz ln wn dp st_ im en : Nat) (lo_ : Int32) (ex ds : Bool) (ch : Nat) (bu : Nat → Nat) (hch : ch < 65536) (hsz : sz ≤ 40) : kz_Mi (S := Nat × (Nat → Nat)) l ky_Mo_type kb_Mo_type 2 (some .boolean) 0 D q [.ref ho, .int (nI ch)] [(ho, .inr (6, [.ref mb, .int (nI sz), .ref mt, .int (nI ln), .ref mw, .int (nI wn), .ref mc, .ref mk, .ref m1, .ref m2, .ref ms, .int (nI dp), .ref mu, .ref mi, .ref mr, .ref mn, .ref mp, .int (nI st_), .int lo_, .int (nI im), .int (nB ex), .ref mj, .int (nI en), .ref me, .ref mh, .int (nB ds)])), (mb, .inl (q 0, 40, .inl (fun x_ => nI (bu x_))))] (fun r u => r = nB (decide (32 ≤ ch ∧ ch ≤ 126 ∧ sz < 40)) ∧ u = if 32 ≤ ch ∧ ch ≤ 126 ∧ sz < 40 then (sz + 1, va_up bu sz ch) else (sz, bu)) (fun u => [(ho, .inr (6, [.ref mb, .int (nI u.1), .ref mt, .int (nI ln), .ref mw, .int (nI wn), .ref mc, .ref mk, .ref m1, .ref m2, .ref ms, .int (nI dp), .ref mu, .ref mi, .ref mr, .ref mn, .ref mp, .int (nI st_), .int lo_, .int (nI im), .int (nB ex), .ref mj, .int (nI en), .ref me, .ref mh, .int (nB ds)])), (mb, .inl (q 0, 40, .inl (fun x_ => nI (u.2 x_))))]) := by
  intro sz_
  refine kz_go (by decide +kernel) (Nat.le_of_ble_eq_true rfl) ?_
  intro p e s m below meth c ls args A Q H locs hQ hA X U hl
  have hx := X.1
  have hb := X.2.1
  have hl : lv_has ls 2 [(0, .ref ho), (1, .int (nI ch))] := hl
  refine lv_iload_n hx hb kd_Mo_type_0 rfl (lv_at hl 1 rfl) ?_
  refine kz_bp X 32 kd_Mo_type_1 (by decide) ?_
  refine kz_iclt X (by omega) (by omega) kd_Mo_type_3 rfl (fun h3 => ?_) (fun h3 => ?_)
  · refine kz_ic X 0 kd_Mo_type_21 (by decide) ?_
    refine kz_top (y := nB false) rfl ?_
    exact kz_ez hQ hA X U ((sz, bu)) rfl (by rw [if_neg (by omega), decide_eq_false (by omega)]; exact ⟨rfl, rfl⟩) kd_Mo_type_22
  · refine lv_iload_n hx hb kd_Mo_type_6 rfl (lv_at hl 1 rfl) ?_
    refine kz_bp X 126 kd_Mo_type_7 (by decide) ?_
    refine kz_icgt X (by omega) (by omega) kd_Mo_type_9 rfl (fun h9 => ?_) (fun h9 => ?_)
    · refine kz_ic X 0 kd_Mo_type_21 (by decide) ?_
      refine kz_top (y := nB false) rfl ?_
      exact kz_ez hQ hA X U ((sz, bu)) rfl (by rw [if_neg (by omega), decide_eq_false (by omega)]; exact ⟨rfl, rfl⟩) kd_Mo_type_22
    · refine lv_aload_n hx hb kd_Mo_type_12 rfl (lv_at hl 0 rfl) ?_
      refine kg_Mo_58 X U 0 rfl rfl kd_Mo_type_13 ?_
      refine kz_bp X 40 kd_Mo_type_16 (by decide) ?_
      refine kz_icne X (by omega) (by omega) kd_Mo_type_18 rfl (fun h18 => ?_) (fun h18 => ?_)
      · refine lv_aload_n hx hb kd_Mo_type_23 rfl (lv_at hl 0 rfl) ?_
        refine kg_Mo_7 X U 0 rfl rfl kd_Mo_type_24 ?_
        refine lv_aload_n hx hb kd_Mo_type_27 rfl (lv_at hl 0 rfl) ?_
        refine kg_Mo_58 X U 0 rfl rfl kd_Mo_type_28 ?_
        refine lv_iload_n hx hb kd_Mo_type_31 rfl (lv_at hl 1 rfl) ?_
        refine kz_iast (k := sz) X U 1 rfl (by omega) (by omega) kd_Mo_type_32 (fun H locs U => ?_)
        rw [kz_updN] at U
        have U : kz_U D q s A [(ho, .inr (6, [.ref mb, .int (nI sz), .ref mt, .int (nI ln), .ref mw, .int (nI wn), .ref mc, .ref mk, .ref m1, .ref m2, .ref ms, .int (nI dp), .ref mu, .ref mi, .ref mr, .ref mn, .ref mp, .int (nI st_), .int lo_, .int (nI im), .int (nB ex), .ref mj, .int (nI en), .ref me, .ref mh, .int (nB ds)])), (mb, .inl (q 0, 40, .inl (fun x_ => nI ((va_up bu sz ch) x_))))] H locs := U
        refine lv_aload_n hx hb kd_Mo_type_33 rfl (lv_at hl 0 rfl) ?_
        refine lv_dup hx hb kd_Mo_type_34 rfl ?_
        refine kg_Mo_58 X U 0 rfl rfl kd_Mo_type_35 ?_
        refine kz_ic X 1 kd_Mo_type_38 (by decide) ?_
        refine kz_iadd X kd_Mo_type_39 ?_
        refine kz_top (y := nI (sz + 1)) rfl ?_
        refine kp_Mo_58 X U 0 rfl (Nat.le_of_ble_eq_true rfl) kd_Mo_type_40 (fun H locs U => ?_)
        have U : kz_U D q s A [(ho, .inr (6, [.ref mb, .int (nI (sz + 1)), .ref mt, .int (nI ln), .ref mw, .int (nI wn), .ref mc, .ref mk, .ref m1, .ref m2, .ref ms, .int (nI dp), .ref mu, .ref mi, .ref mr, .ref mn, .ref mp, .int (nI st_), .int lo_, .int (nI im), .int (nB ex), .ref mj, .int (nI en), .ref me, .ref mh, .int (nB ds)])), (mb, .inl (q 0, 40, .inl (fun x_ => nI ((va_up bu sz ch) x_))))] H locs := U
        refine kz_ic X 1 kd_Mo_type_43 (by decide) ?_
        refine kz_top (y := nB true) rfl ?_
        exact kz_ez hQ hA X U ((sz + 1, va_up bu sz ch)) rfl (by rw [if_pos (by omega), decide_eq_true (by omega)]; exact ⟨rfl, rfl⟩) kd_Mo_type_44
      · refine kz_ic X 0 kd_Mo_type_21 (by decide) ?_
        refine kz_top (y := nB false) rfl ?_
        exact kz_ez hQ hA X U ((sz, bu)) rfl (by rw [if_neg (by omega), decide_eq_false (by omega)]; exact ⟨rfl, rfl⟩) kd_Mo_type_22

set_option maxHeartbeats 4000000 in
set_option maxRecDepth 100000 in
theorem cm_Mo_text (l : Launch) (D : va_G) (q : Nat → ClassId) (ho mb mt mw mc mk m1 m2 ms mu mi mr mn mp mj me mh : Nat) (sz ln wn dp st_ im en : Nat) (lo_ : Int32) (ex ds : Bool) (bu tx : Nat → Nat) (hsz : sz ≤ 24) : kz_Mi (S := Unit) l ky_Mo_text kb_Mo_text 2 (some .int) 0 D q [.ref ho] [(ho, .inr (6, [.ref mb, .int (nI sz), .ref mt, .int (nI ln), .ref mw, .int (nI wn), .ref mc, .ref mk, .ref m1, .ref m2, .ref ms, .int (nI dp), .ref mu, .ref mi, .ref mr, .ref mn, .ref mp, .int (nI st_), .int lo_, .int (nI im), .int (nB ex), .ref mj, .int (nI en), .ref me, .ref mh, .int (nB ds)])), (mb, .inl (q 0, 40, .inl (fun x_ => nI (bu x_)))), (mt, .inl (q 0, 24, .inl (fun x_ => nI (tx x_))))] (fun r _ => r = nI sz) (fun _ => [(ho, .inr (6, [.ref mb, .int (nI 0), .ref mt, .int (nI sz), .ref mw, .int (nI wn), .ref mc, .ref mk, .ref m1, .ref m2, .ref ms, .int (nI dp), .ref mu, .ref mi, .ref mr, .ref mn, .ref mp, .int (nI st_), .int lo_, .int (nI im), .int (nB ex), .ref mj, .int (nI en), .ref me, .ref mh, .int (nB ds)])), (mb, .inl (q 0, 40, .inl (fun x_ => nI (bu x_)))), (mt, .inl (q 0, 24, .inl (fun x_ => nI ((va_cpy bu tx 0 0 sz) x_))))]) := by
  intro sz_
  refine kz_go (by decide +kernel) (Nat.le_of_ble_eq_true rfl) ?_
  intro p e s m below meth c ls args A Q H locs hQ hA X U hl
  have hx := X.1
  have hb := X.2.1
  have hl : lv_has ls 2 [(0, .ref ho)] := hl
  refine lv_aload_n hx hb kd_Mo_text_0 rfl (lv_at hl 0 rfl) ?_
  refine kg_Mo_58 X U 0 rfl rfl kd_Mo_text_1 ?_
  refine kz_bp X 24 kd_Mo_text_4 (by decide) ?_
  refine kz_icle X (by omega) (by omega) kd_Mo_text_6 rfl (fun h6 => ?_) (fun h6 => absurd h6 (by omega))
  refine kz_ic X 0 kd_Mo_text_11 (by decide) ?_
  refine lv_istore_n hx hb kd_Mo_text_12 rfl hl (by decide) rfl (fun ls hl => ?_)
  have hl : lv_has ls 2 [(1, .int (nI 0)), (0, .ref ho)] := hl
  have loop13 : ∀ (fuel : Nat) (i : Nat) (ls : Array Slot) (H : Heap) (locs : List Loc), sz + 1 - i < fuel → (i ≤ sz) → lv_has ls 2 [(1, .int (nI i)), (0, .ref ho)] → kz_U D q s A [(ho, .inr (6, [.ref mb, .int (nI sz), .ref mt, .int (nI ln), .ref mw, .int (nI wn), .ref mc, .ref mk, .ref m1, .ref m2, .ref ms, .int (nI dp), .ref mu, .ref mi, .ref mr, .ref mn, .ref mp, .int (nI st_), .int lo_, .int (nI im), .int (nB ex), .ref mj, .int (nI en), .ref me, .ref mh, .int (nB ds)])), (mb, .inl (q 0, 40, .inl (fun x_ => nI (bu x_)))), (mt, .inl (q 0, 24, .inl (kz_fl (fun j => nI (bu j)) (fun j => nI (tx j)) i)))] H locs → W p l e (kz_rm 0) s m args below meth c H locs 0 0 Q (F0 m 13 ls []) := by
    intro fuel
    induction fuel with
    | zero => intro i ls H locs hme; exact absurd hme (Nat.not_lt_zero _)
    | succ fuel ih13 =>
      intro i ls H locs hme hi hl U
      refine lv_iload_n hx hb kd_Mo_text_13 rfl (lv_at hl 0 rfl) ?_
      refine lv_aload_n hx hb kd_Mo_text_14 rfl (lv_at hl 1 rfl) ?_
      refine kg_Mo_58 X U 0 rfl rfl kd_Mo_text_15 ?_
      refine kz_icge X (by omega) (by omega) kd_Mo_text_18 rfl (fun h18 => ?_) (fun h18 => ?_)
      · have hin : i = sz := by omega
        rw [hin, kz_flN] at U
        have U : kz_U D q s A [(ho, .inr (6, [.ref mb, .int (nI sz), .ref mt, .int (nI ln), .ref mw, .int (nI wn), .ref mc, .ref mk, .ref m1, .ref m2, .ref ms, .int (nI dp), .ref mu, .ref mi, .ref mr, .ref mn, .ref mp, .int (nI st_), .int lo_, .int (nI im), .int (nB ex), .ref mj, .int (nI en), .ref me, .ref mh, .int (nB ds)])), (mb, .inl (q 0, 40, .inl (fun x_ => nI (bu x_)))), (mt, .inl (q 0, 24, .inl (fun x_ => nI ((va_cpy bu tx 0 0 sz) x_))))] H locs := U
        refine lv_aload_n hx hb kd_Mo_text_39 rfl (lv_at hl 1 rfl) ?_
        refine lv_aload_n hx hb kd_Mo_text_40 rfl (lv_at hl 1 rfl) ?_
        refine kg_Mo_58 X U 0 rfl rfl kd_Mo_text_41 ?_
        refine kp_Mo_139 X U 0 rfl (Nat.le_of_ble_eq_true rfl) kd_Mo_text_44 (fun H locs U => ?_)
        have U : kz_U D q s A [(ho, .inr (6, [.ref mb, .int (nI sz), .ref mt, .int (nI sz), .ref mw, .int (nI wn), .ref mc, .ref mk, .ref m1, .ref m2, .ref ms, .int (nI dp), .ref mu, .ref mi, .ref mr, .ref mn, .ref mp, .int (nI st_), .int lo_, .int (nI im), .int (nB ex), .ref mj, .int (nI en), .ref me, .ref mh, .int (nB ds)])), (mb, .inl (q 0, 40, .inl (fun x_ => nI (bu x_)))), (mt, .inl (q 0, 24, .inl (fun x_ => nI ((va_cpy bu tx 0 0 sz) x_))))] H locs := U
        refine lv_aload_n hx hb kd_Mo_text_47 rfl (lv_at hl 1 rfl) ?_
        refine kz_ic X 0 kd_Mo_text_48 (by decide) ?_
        refine kp_Mo_58 X U 0 rfl (Nat.le_of_ble_eq_true rfl) kd_Mo_text_49 (fun H locs U => ?_)
        have U : kz_U D q s A [(ho, .inr (6, [.ref mb, .int (nI 0), .ref mt, .int (nI sz), .ref mw, .int (nI wn), .ref mc, .ref mk, .ref m1, .ref m2, .ref ms, .int (nI dp), .ref mu, .ref mi, .ref mr, .ref mn, .ref mp, .int (nI st_), .int lo_, .int (nI im), .int (nB ex), .ref mj, .int (nI en), .ref me, .ref mh, .int (nB ds)])), (mb, .inl (q 0, 40, .inl (fun x_ => nI (bu x_)))), (mt, .inl (q 0, 24, .inl (fun x_ => nI ((va_cpy bu tx 0 0 sz) x_))))] H locs := U
        refine lv_aload_n hx hb kd_Mo_text_52 rfl (lv_at hl 1 rfl) ?_
        refine kg_Mo_139 X U 0 rfl rfl kd_Mo_text_53 ?_
        exact kz_ei hQ hA X U (()) rfl (rfl) kd_Mo_text_56
      · refine lv_aload_n hx hb kd_Mo_text_21 rfl (lv_at hl 1 rfl) ?_
        refine kg_Mo_13 X U 0 rfl rfl kd_Mo_text_22 ?_
        refine lv_iload_n hx hb kd_Mo_text_25 rfl (lv_at hl 0 rfl) ?_
        refine lv_aload_n hx hb kd_Mo_text_26 rfl (lv_at hl 1 rfl) ?_
        refine kg_Mo_7 X U 0 rfl rfl kd_Mo_text_27 ?_
        refine lv_iload_n hx hb kd_Mo_text_30 rfl (lv_at hl 0 rfl) ?_
        refine kz_iald (k := i) X U 1 rfl (by omega) (by omega) kd_Mo_text_31 ?_
        refine kz_top (y := nI (bu i)) rfl ?_
        refine kz_iast (k := i) X U 2 rfl (by omega) (by omega) kd_Mo_text_32 (fun H locs U => ?_)
        have U : kz_U D q s A [(ho, .inr (6, [.ref mb, .int (nI sz), .ref mt, .int (nI ln), .ref mw, .int (nI wn), .ref mc, .ref mk, .ref m1, .ref m2, .ref ms, .int (nI dp), .ref mu, .ref mi, .ref mr, .ref mn, .ref mp, .int (nI st_), .int lo_, .int (nI im), .int (nB ex), .ref mj, .int (nI en), .ref me, .ref mh, .int (nB ds)])), (mb, .inl (q 0, 40, .inl (fun x_ => nI (bu x_)))), (mt, .inl (q 0, 24, .inl (upd (kz_fl (fun j => nI (bu j)) (fun j => nI (tx j)) i) i (nI (bu i)))))] H locs := U
        refine lv_iinc (k := 0) (v := nI (i + 1)) hx hb kd_Mo_text_33 hl rfl (nI_add i 1) (by decide) rfl (fun ls hl => ?_)
        have hl : lv_has ls 2 [(1, .int (nI (i + 1))), (0, .ref ho)] := hl
        refine lv_goto hx hb kd_Mo_text_36 rfl ?_
        have U : kz_U D q s A [(ho, .inr (6, [.ref mb, .int (nI sz), .ref mt, .int (nI ln), .ref mw, .int (nI wn), .ref mc, .ref mk, .ref m1, .ref m2, .ref ms, .int (nI dp), .ref mu, .ref mi, .ref mr, .ref mn, .ref mp, .int (nI st_), .int lo_, .int (nI im), .int (nB ex), .ref mj, .int (nI en), .ref me, .ref mh, .int (nB ds)])), (mb, .inl (q 0, 40, .inl (fun x_ => nI (bu x_)))), (mt, .inl (q 0, 24, .inl (kz_fl (fun j => nI (bu j)) (fun j => nI (tx j)) (i + 1))))] H locs := by rw [← kz_fl_s (F := fun j => nI (bu j)) (v := nI (bu i)) rfl]; exact U
        exact ih13 (i + 1) _ _ _ (by omega) (by omega) (lv_sub hl [0, 1] rfl) U
  have U : kz_U D q s A [(ho, .inr (6, [.ref mb, .int (nI sz), .ref mt, .int (nI ln), .ref mw, .int (nI wn), .ref mc, .ref mk, .ref m1, .ref m2, .ref ms, .int (nI dp), .ref mu, .ref mi, .ref mr, .ref mn, .ref mp, .int (nI st_), .int lo_, .int (nI im), .int (nB ex), .ref mj, .int (nI en), .ref me, .ref mh, .int (nB ds)])), (mb, .inl (q 0, 40, .inl (fun x_ => nI (bu x_)))), (mt, .inl (q 0, 24, .inl (kz_fl (fun j => nI (bu j)) (fun j => nI (tx j)) 0)))] H locs := by rw [kz_fl_0]; exact U
  exact loop13 _ 0 _ _ _ (Nat.lt_succ_self _) (by omega) (lv_sub hl [0, 1] rfl) U

set_option maxHeartbeats 4000000 in
set_option maxRecDepth 100000 in
theorem cm_Mo_text_bad (l : Launch) (D : va_G) (q : Nat → ClassId) (ho mb mt mw mc mk m1 m2 ms mu mi mr mn mp mj me mh : Nat) (sz ln wn dp st_ im en : Nat) (lo_ : Int32) (ex ds : Bool) (hsz : 24 < sz) (hsz2 : sz ≤ 40) : kz_Mi (S := Unit) l ky_Mo_text kb_Mo_text 2 (some .int) 0 D q [.ref ho] [(ho, .inr (6, [.ref mb, .int (nI sz), .ref mt, .int (nI ln), .ref mw, .int (nI wn), .ref mc, .ref mk, .ref m1, .ref m2, .ref ms, .int (nI dp), .ref mu, .ref mi, .ref mr, .ref mn, .ref mp, .int (nI st_), .int lo_, .int (nI im), .int (nB ex), .ref mj, .int (nI en), .ref me, .ref mh, .int (nB ds)]))] (fun r _ => r = -1) (fun _ => [(ho, .inr (6, [.ref mb, .int (nI sz), .ref mt, .int (nI ln), .ref mw, .int (nI wn), .ref mc, .ref mk, .ref m1, .ref m2, .ref ms, .int (nI dp), .ref mu, .ref mi, .ref mr, .ref mn, .ref mp, .int (nI st_), .int lo_, .int (nI im), .int (nB ex), .ref mj, .int (nI en), .ref me, .ref mh, .int (nB ds)]))]) := by
  intro sz_
  refine kz_go (by decide +kernel) (Nat.le_of_ble_eq_true rfl) ?_
  intro p e s m below meth c ls args A Q H locs hQ hA X U hl
  have hx := X.1
  have hb := X.2.1
  have hl : lv_has ls 2 [(0, .ref ho)] := hl
  refine lv_aload_n hx hb kd_Mo_text_0 rfl (lv_at hl 0 rfl) ?_
  refine kg_Mo_58 X U 0 rfl rfl kd_Mo_text_1 ?_
  refine kz_bp X 24 kd_Mo_text_4 (by decide) ?_
  refine kz_icle X (by omega) (by omega) kd_Mo_text_6 rfl (fun h6 => absurd h6 (by omega)) (fun h6 => ?_)
  refine lv_iconst (v := (-1)) hx hb kd_Mo_text_9 (by decide) ?_
  exact kz_ei hQ hA X U (()) rfl (rfl) kd_Mo_text_10

set_option maxHeartbeats 4000000 in
set_option maxRecDepth 100000 in
theorem cm_Mo_isDigit (l : Launch) (D : va_G) (q : Nat → ClassId) (x : Int32)  : kz_Mi (S := Unit) l ky_Mo_isDigit kb_Mo_isDigit 1 (some .boolean) 0 D q [.int x] [] (fun r _ => r = nB (decide (48 ≤ x ∧ x ≤ 57))) (fun _ => []) := by
  intro sz_
  refine kz_go (by decide +kernel) (Nat.le_of_ble_eq_true rfl) ?_
  intro p e s m below meth c ls args A Q H locs hQ hA X U hl
  have hx := X.1
  have hb := X.2.1
  have hl : lv_has ls 1 [(0, .int x)] := hl
  refine lv_iload_n hx hb kd_Mo_isDigit_0 rfl (lv_at hl 0 rfl) ?_
  refine kz_bp X 48 kd_Mo_isDigit_1 (by decide) ?_
  refine lv_icmp_lt hx hb kd_Mo_isDigit_3 rfl (fun h3 => ?_) (fun h3 => ?_)
  · refine kz_ic X 0 kd_Mo_isDigit_16 (by decide) ?_
    refine kz_top (y := nB false) rfl ?_
    exact kz_ez hQ hA X U (()) rfl (by first | rw [decide_eq_true (show 48 ≤ x ∧ x ≤ 57 from ⟨Int32.not_lt.mp h3, Int32.not_lt.mp h9⟩)] | rw [decide_eq_false (show ¬ (48 ≤ x ∧ x ≤ 57) from fun z => absurd h9 (Int32.not_lt.mpr z.2))] | rw [decide_eq_false (show ¬ (48 ≤ x ∧ x ≤ 57) from fun z => absurd h3 (Int32.not_lt.mpr z.1))]) kd_Mo_isDigit_17
  · refine lv_iload_n hx hb kd_Mo_isDigit_6 rfl (lv_at hl 0 rfl) ?_
    refine kz_bp X 57 kd_Mo_isDigit_7 (by decide) ?_
    refine lv_icmp_gt hx hb kd_Mo_isDigit_9 rfl (fun h9 => ?_) (fun h9 => ?_)
    · refine kz_ic X 0 kd_Mo_isDigit_16 (by decide) ?_
      refine kz_top (y := nB false) rfl ?_
      exact kz_ez hQ hA X U (()) rfl (by first | rw [decide_eq_true (show 48 ≤ x ∧ x ≤ 57 from ⟨Int32.not_lt.mp h3, Int32.not_lt.mp h9⟩)] | rw [decide_eq_false (show ¬ (48 ≤ x ∧ x ≤ 57) from fun z => absurd h9 (Int32.not_lt.mpr z.2))] | rw [decide_eq_false (show ¬ (48 ≤ x ∧ x ≤ 57) from fun z => absurd h3 (Int32.not_lt.mpr z.1))]) kd_Mo_isDigit_17
    · refine kz_ic X 1 kd_Mo_isDigit_12 (by decide) ?_
      refine lv_goto hx hb kd_Mo_isDigit_13 rfl ?_
      refine kz_top (y := nB true) rfl ?_
      exact kz_ez hQ hA X U (()) rfl (by first | rw [decide_eq_true (show 48 ≤ x ∧ x ≤ 57 from ⟨Int32.not_lt.mp h3, Int32.not_lt.mp h9⟩)] | rw [decide_eq_false (show ¬ (48 ≤ x ∧ x ≤ 57) from fun z => absurd h9 (Int32.not_lt.mpr z.2))] | rw [decide_eq_false (show ¬ (48 ≤ x ∧ x ≤ 57) from fun z => absurd h3 (Int32.not_lt.mpr z.1))]) kd_Mo_isDigit_17
