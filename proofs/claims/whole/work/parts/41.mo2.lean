section KMB
variable {p : Program} {l : Launch} {e : Env} {R : Room} {s : State} {m : MethodId} {args : Array Value} {below : List Frame} {meth : Method} {c : Code} {H : Heap} {locs : List Loc} {cells slots : Nat} {Q : State → Prop}
variable {cc : ByteArray} {pc nL : Nat} {ls : Array Slot} {rest : List Value} {own : String} {ret : Option FieldType}
theorem nB_1 {b : Bool} : nB b = nI 1 ↔ b = true := by cases b <;> decide +kernel
theorem kz_icneB (X : kz_C p m c cc nL own s args meth ret) {b : Bool} {off : Int} {tgt : Nat} (hdg : decode cc pc = .ok (.if_icmp .ne off, 3)) (ht : (pc : Int) + off = (tgt : Int)) (kt : b = false → W p l e R s m args below meth c H locs cells slots Q (F0 m tgt ls rest)) (kf : b = true → W p l e R s m args below meth c H locs cells slots Q (F0 m (pc + 3) ls rest)) : W p l e R s m args below meth c H locs cells slots Q (F0 m pc ls (.int (nI 1) :: .int (nB b) :: rest)) := lv_icmp_ne X.1 X.2.1 hdg ht (fun h => kt (by cases b with | false => rfl | true => exact absurd rfl h)) (fun h => kf (nB_1.mp h))
theorem kz_iceqB (X : kz_C p m c cc nL own s args meth ret) {b : Bool} {off : Int} {tgt : Nat} (hdg : decode cc pc = .ok (.if_icmp .eq off, 3)) (ht : (pc : Int) + off = (tgt : Int)) (kt : b = true → W p l e R s m args below meth c H locs cells slots Q (F0 m tgt ls rest)) (kf : b = false → W p l e R s m args below meth c H locs cells slots Q (F0 m (pc + 3) ls rest)) : W p l e R s m args below meth c H locs cells slots Q (F0 m pc ls (.int (nI 1) :: .int (nB b) :: rest)) := lv_icmp_eq X.1 X.2.1 hdg ht (fun h => kt (nB_1.mp h)) (fun h => kf (by cases b with | false => rfl | true => exact absurd rfl h))
end KMB
def mo_on (fr : Int32) (g : Nat → Int32) : Nat → Int32
  | 0 => 0
  | k + 1 => if bt fr k = true then mo_on fr g k ||| g k else mo_on fr g k
/-- what again gathers for place i from the places behind it -/
def mo_ag (x : Int32) (th : Nat → Int32) (i : Nat) : Nat → Int32
  | 0 => (1 : Int32) <<< (nI i &&& 31)
  | c + 1 => if bt x (i + 1 + c) = true then mo_ag x th i c ||| th (i + 1 + c) else mo_ag x th i c
theorem mo_ag_congr {x : Int32} {th th' : Nat → Int32} {i : Nat} (h : ∀ j, i < j → th j = th' j) : ∀ c, mo_ag x th i c = mo_ag x th' i c
  | 0 => rfl
  | c + 1 => by
    show (if bt x (i + 1 + c) = true then mo_ag x th i c ||| th (i + 1 + c) else mo_ag x th i c) = (if bt x (i + 1 + c) = true then mo_ag x th' i c ||| th' (i + 1 + c) else mo_ag x th' i c)
    rw [mo_ag_congr h c, h (i + 1 + c) (by omega)]
theorem mo_lg_0 {x : Int32} (h : x = 0) (k : Nat) : sp_lg (bt x) k = 0 := by
  subst h
  induction k with
  | zero => rfl
  | succ k ih => show (if bt 0 k = true then k + 1 else _) = 0; rw [if_neg (by rw [b_0]; decide), ih]
theorem mo_lg_f {g : Nat → Bool} : ∀ {k : Nat}, sp_lg g k = 0 → ∀ j, j < k → g j = false
  | 0, _, j, h => absurd h (Nat.not_lt_zero _)
  | k + 1, h0, j, h => by
    by_cases hg : g k = true
    · have : sp_lg g (k + 1) = k + 1 := if_pos hg
      omega
    · have h1 : sp_lg g (k + 1) = sp_lg g k := if_neg hg
      by_cases e : j = k
      · rw [e]; exact Bool.eq_false_iff.mpr hg
      · exact mo_lg_f (by rw [← h1]; exact h0) j (by omega)
theorem mo_lg_pos {x : Int32} (h : ¬ x = 0) : 0 < sp_lg (bt x) 32 := by
  rcases Nat.eq_zero_or_pos (sp_lg (bt x) 32) with z | z
  · exact absurd (b_ext fun i hi => by rw [mo_lg_f z i hi, b_0]) h
  · exact z
def mo_fd (es : Nat → Int32) (at_ : Nat) : Nat → Nat → Int32
  | 0, _ => -2
  | f + 1, i => if es (at_ + i) = 0 then mo_fd es at_ f (i + 1) else nI (100 * i + (sp_lg (bt (es (at_ + i))) 32 - 1))

set_option maxHeartbeats 4000000 in
set_option maxRecDepth 100000 in
theorem cm_Mo_word (l : Launch) (D : va_G) (q : Nat → ClassId) (ho mb mt mw mc mk m1 m2 ms mu mi mr mn mp mj me mh : Nat) (sz ln wn dp st_ im en : Nat) (lo_ : Int32) (ex ds : Bool) (x : Int32) (wo : Nat → Nat) (hwn : wn ≤ 4) : kz_Mi (S := Unit) l ky_Mo_word kb_Mo_word 2 (some .int) 0 D q [.ref ho, .int x] [(ho, .inr (6, [.ref mb, .int (nI sz), .ref mt, .int (nI ln), .ref mw, .int (nI wn), .ref mc, .ref mk, .ref m1, .ref m2, .ref ms, .int (nI dp), .ref mu, .ref mi, .ref mr, .ref mn, .ref mp, .int (nI st_), .int lo_, .int (nI im), .int (nB ex), .ref mj, .int (nI en), .ref me, .ref mh, .int (nB ds)])), (mw, .inl (q 0, 4, .inl (fun x_ => nI (wo x_))))] (fun r _ => r = if 0 ≤ x ∧ x < nI wn then nI (wo x.toNatClampNeg) else -1) (fun _ => [(ho, .inr (6, [.ref mb, .int (nI sz), .ref mt, .int (nI ln), .ref mw, .int (nI wn), .ref mc, .ref mk, .ref m1, .ref m2, .ref ms, .int (nI dp), .ref mu, .ref mi, .ref mr, .ref mn, .ref mp, .int (nI st_), .int lo_, .int (nI im), .int (nB ex), .ref mj, .int (nI en), .ref me, .ref mh, .int (nB ds)])), (mw, .inl (q 0, 4, .inl (fun x_ => nI (wo x_))))]) := by
  intro sz_
  refine kz_go (by decide +kernel) (Nat.le_of_ble_eq_true rfl) ?_
  intro p e s m below meth c ls args A Q H locs hQ hA X U hl
  have hx := X.1
  have hb := X.2.1
  have hl : lv_has ls 2 [(0, .ref ho), (1, .int x)] := hl
  refine lv_iload_n hx hb kd_Mo_word_0 rfl (lv_at hl 1 rfl) ?_
  refine lv_if_lt hx hb kd_Mo_word_1 rfl (fun h1 => ?_) (fun h1 => ?_)
  · refine lv_iconst (v := (-1)) hx hb kd_Mo_word_21 (by decide) ?_
    exact kz_ei hQ hA X U (()) rfl (by rw [if_neg (fun z => by first | exact absurd h1 (Int32.not_lt.mpr z.1) | exact absurd h9 (Int32.not_le.mpr z.2))]) kd_Mo_word_22
  · refine lv_iload_n hx hb kd_Mo_word_4 rfl (lv_at hl 1 rfl) ?_
    refine lv_aload_n hx hb kd_Mo_word_5 rfl (lv_at hl 0 rfl) ?_
    refine kg_Mo_178 X U 0 rfl rfl kd_Mo_word_6 ?_
    refine lv_icmp_ge hx hb kd_Mo_word_9 rfl (fun h9 => ?_) (fun h9 => ?_)
    · refine lv_iconst (v := (-1)) hx hb kd_Mo_word_21 (by decide) ?_
      exact kz_ei hQ hA X U (()) rfl (by rw [if_neg (fun z => by first | exact absurd h1 (Int32.not_lt.mpr z.1) | exact absurd h9 (Int32.not_le.mpr z.2))]) kd_Mo_word_22
    · obtain ⟨j, hj, hxj⟩ : ∃ j : Nat, j < wn ∧ x = nI j := by
        obtain ⟨j, hj, e⟩ := nI_of h1
        refine ⟨j, ?_, e⟩
        rw [e] at h9
        exact Nat.lt_of_not_le fun z => h9 ((nI_leI (by omega) hj).mpr z)
      have hl : lv_has ls 2 [(0, .ref ho), (1, .int (nI j))] := by rw [← hxj]; exact hl
      refine lv_aload_n hx hb kd_Mo_word_12 rfl (lv_at hl 0 rfl) ?_
      refine kg_Mo_16 X U 0 rfl rfl kd_Mo_word_13 ?_
      refine lv_iload_n hx hb kd_Mo_word_16 rfl (lv_at hl 1 rfl) ?_
      refine kz_iald (k := j) X U 1 rfl (by omega) (by omega) kd_Mo_word_17 ?_
      refine kz_top (y := nI (wo j)) rfl ?_
      refine lv_goto hx hb kd_Mo_word_18 rfl ?_
      exact kz_ei hQ hA X U (()) rfl (by rw [hxj]; rw [if_pos ⟨nI_pos' (by omega), by rw [nI_ltI (by omega) (by omega)]; exact hj⟩, nI_clamp (by omega)]) kd_Mo_word_22

set_option maxHeartbeats 4000000 in
set_option maxRecDepth 100000 in
theorem cm_Mo_has (l : Launch) (D : va_G) (q : Nat → ClassId) (ho mb mt mw mc mk m1 m2 ms mu mi mr mn mp mj me mh : Nat) (sz ln wn dp st_ im en : Nat) (lo_ : Int32) (ex ds : Bool) (nd c_ : Nat) (se : Nat → Int32) (hnd : nd < 384) (hc1 : 32 ≤ c_) (hc2 : c_ < 128) : kz_Mi (S := Unit) l ky_Mo_has kb_Mo_has 3 (some .boolean) 0 D q [.ref ho, .int (nI nd), .int (nI c_)] [(ho, .inr (6, [.ref mb, .int (nI sz), .ref mt, .int (nI ln), .ref mw, .int (nI wn), .ref mc, .ref mk, .ref m1, .ref m2, .ref ms, .int (nI dp), .ref mu, .ref mi, .ref mr, .ref mn, .ref mp, .int (nI st_), .int lo_, .int (nI im), .int (nB ex), .ref mj, .int (nI en), .ref me, .ref mh, .int (nB ds)])), (ms, .inl (q 0, 1152, .inl se))] (fun r _ => r = nB (bt (se (3 * nd + ((c_ - 32) / 32))) ((c_ - 32) % 32))) (fun _ => [(ho, .inr (6, [.ref mb, .int (nI sz), .ref mt, .int (nI ln), .ref mw, .int (nI wn), .ref mc, .ref mk, .ref m1, .ref m2, .ref ms, .int (nI dp), .ref mu, .ref mi, .ref mr, .ref mn, .ref mp, .int (nI st_), .int lo_, .int (nI im), .int (nB ex), .ref mj, .int (nI en), .ref me, .ref mh, .int (nB ds)])), (ms, .inl (q 0, 1152, .inl se))]) := by
  intro sz_
  refine kz_go (by decide +kernel) (Nat.le_of_ble_eq_true rfl) ?_
  intro p e s m below meth c ls args A Q H locs hQ hA X U hl
  have hx := X.1
  have hb := X.2.1
  have hl : lv_has ls 3 [(0, .ref ho), (1, .int (nI nd)), (2, .int (nI c_))] := hl
  refine lv_aload_n hx hb kd_Mo_has_0 rfl (lv_at hl 0 rfl) ?_
  refine kg_Mo_31 X U 0 rfl rfl kd_Mo_has_1 ?_
  refine kz_ic X 3 kd_Mo_has_4 (by decide) ?_
  refine lv_iload_n hx hb kd_Mo_has_5 rfl (lv_at hl 1 rfl) ?_
  refine kz_imul X kd_Mo_has_6 ?_
  refine kz_top (y := nI (3 * nd)) rfl ?_
  refine lv_iload_n hx hb kd_Mo_has_7 rfl (lv_at hl 2 rfl) ?_
  refine kz_bp X 32 kd_Mo_has_8 (by decide) ?_
  refine kz_isub X (by omega) kd_Mo_has_10 ?_
  refine kz_bp X 32 kd_Mo_has_11 (by decide) ?_
  refine kz_idiv X (by omega) (by omega) (by omega) kd_Mo_has_13 ?_
  refine kz_iadd X kd_Mo_has_14 ?_
  refine kz_top (y := nI (3 * nd + ((c_ - 32) / 32))) rfl ?_
  refine kz_iald (k := 3 * nd + ((c_ - 32) / 32)) X U 1 rfl (by omega) (by omega) kd_Mo_has_15 ?_
  refine lv_iload_n hx hb kd_Mo_has_16 rfl (lv_at hl 2 rfl) ?_
  refine kz_bp X 32 kd_Mo_has_17 (by decide) ?_
  refine kz_isub X (by omega) kd_Mo_has_19 ?_
  refine kz_bp X 32 kd_Mo_has_20 (by decide) ?_
  refine kz_irem X (by omega) (by omega) (by omega) kd_Mo_has_22 ?_
  refine lv_ishr hx hb kd_Mo_has_23 ?_
  refine kz_ic X 1 kd_Mo_has_24 (by decide) ?_
  refine lv_iand hx hb kd_Mo_has_25 ?_
  refine kz_top (y := nB (bt (se (3 * nd + ((c_ - 32) / 32))) ((c_ - 32) % 32))) (has_v _ (by omega)) ?_
  refine kz_ic X 1 kd_Mo_has_26 (by decide) ?_
  refine kz_icneB X kd_Mo_has_27 rfl (fun h27 => ?_) (fun h27 => ?_)
  · refine kz_ic X 0 kd_Mo_has_34 (by decide) ?_
    refine kz_top (y := nB false) rfl ?_
    exact kz_ez hQ hA X U (()) rfl (by rw [h27]) kd_Mo_has_35
  · refine kz_ic X 1 kd_Mo_has_30 (by decide) ?_
    refine lv_goto hx hb kd_Mo_has_31 rfl ?_
    refine kz_top (y := nB true) rfl ?_
    exact kz_ez hQ hA X U (()) rfl (by rw [h27]) kd_Mo_has_35

set_option maxHeartbeats 4000000 in
set_option maxRecDepth 100000 in
theorem cm_Mo_onward (l : Launch) (D : va_G) (q : Nat → ClassId) (ho mb mt mw mc mk m1 m2 ms mu mi mr mn mp mj me mh : Nat) (sz ln wn dp st_ im en : Nat) (lo_ : Int32) (ex ds : Bool) (fr : Int32) (nd : Nat) (es : Nat → Int32) (hnd : nd < 128) (hen : en ≤ 24) : kz_Mi (S := Unit) l ky_Mo_onward kb_Mo_onward 5 (some .int) 0 D q [.ref ho, .int fr, .int (nI nd)] [(ho, .inr (6, [.ref mb, .int (nI sz), .ref mt, .int (nI ln), .ref mw, .int (nI wn), .ref mc, .ref mk, .ref m1, .ref m2, .ref ms, .int (nI dp), .ref mu, .ref mi, .ref mr, .ref mn, .ref mp, .int (nI st_), .int lo_, .int (nI im), .int (nB ex), .ref mj, .int (nI en), .ref me, .ref mh, .int (nB ds)])), (me, .inl (q 0, 3200, .inl es))] (fun r _ => r = mo_on fr (fun j => es (25 * nd + j)) (en + 1)) (fun _ => [(ho, .inr (6, [.ref mb, .int (nI sz), .ref mt, .int (nI ln), .ref mw, .int (nI wn), .ref mc, .ref mk, .ref m1, .ref m2, .ref ms, .int (nI dp), .ref mu, .ref mi, .ref mr, .ref mn, .ref mp, .int (nI st_), .int lo_, .int (nI im), .int (nB ex), .ref mj, .int (nI en), .ref me, .ref mh, .int (nB ds)])), (me, .inl (q 0, 3200, .inl es))]) := by
  intro sz_
  refine kz_go (by decide +kernel) (Nat.le_of_ble_eq_true rfl) ?_
  intro p e s m below meth c ls args A Q H locs hQ hA X U hl
  have hx := X.1
  have hb := X.2.1
  have hl : lv_has ls 5 [(0, .ref ho), (1, .int fr), (2, .int (nI nd))] := hl
  refine kz_ic X 0 kd_Mo_onward_0 (by decide) ?_
  refine lv_istore_n hx hb kd_Mo_onward_1 rfl hl (by decide) rfl (fun ls hl => ?_)
  have hl : lv_has ls 5 [(3, .int (nI 0)), (0, .ref ho), (1, .int fr), (2, .int (nI nd))] := hl
  refine kz_ic X 0 kd_Mo_onward_2 (by decide) ?_
  refine lv_istore hx hb kd_Mo_onward_3 hl (by decide) rfl (fun ls hl => ?_)
  have hl : lv_has ls 5 [(4, .int (nI 0)), (3, .int (nI 0)), (0, .ref ho), (1, .int fr), (2, .int (nI nd))] := hl
  have loop5 : ∀ (fuel : Nat) (k : Nat) (ls : Array Slot) (H : Heap) (locs : List Loc), en + 2 - k < fuel → (k ≤ en + 1) → lv_has ls 5 [(4, .int (nI k)), (3, .int (mo_on fr (fun j => es (25 * nd + j)) k)), (0, .ref ho), (1, .int fr), (2, .int (nI nd))] → kz_U D q s A [(ho, .inr (6, [.ref mb, .int (nI sz), .ref mt, .int (nI ln), .ref mw, .int (nI wn), .ref mc, .ref mk, .ref m1, .ref m2, .ref ms, .int (nI dp), .ref mu, .ref mi, .ref mr, .ref mn, .ref mp, .int (nI st_), .int lo_, .int (nI im), .int (nB ex), .ref mj, .int (nI en), .ref me, .ref mh, .int (nB ds)])), (me, .inl (q 0, 3200, .inl es))] H locs → W p l e (kz_rm 0) s m args below meth c H locs 0 0 Q (F0 m 5 ls []) := by
    intro fuel
    induction fuel with
    | zero => intro k ls H locs hme; exact absurd hme (Nat.not_lt_zero _)
    | succ fuel ih5 =>
      intro k ls H locs hme hk hl U
      refine lv_iload hx hb kd_Mo_onward_5 (lv_at hl 0 rfl) ?_
      refine lv_aload_n hx hb kd_Mo_onward_7 rfl (lv_at hl 2 rfl) ?_
      refine kg_Mo_142 X U 0 rfl rfl kd_Mo_onward_8 ?_
      refine kz_icgt X (by omega) (by omega) kd_Mo_onward_11 rfl (fun h11 => ?_) (fun h11 => ?_)
      · refine lv_iload_n hx hb kd_Mo_onward_49 rfl (lv_at hl 1 rfl) ?_
        exact kz_ei hQ hA X U (()) rfl (by rw [show k = en + 1 by omega]) kd_Mo_onward_50
      · refine lv_iload_n hx hb kd_Mo_onward_14 rfl (lv_at hl 3 rfl) ?_
        refine lv_iload hx hb kd_Mo_onward_15 (lv_at hl 0 rfl) ?_
        refine lv_ishr hx hb kd_Mo_onward_17 ?_
        refine kz_ic X 1 kd_Mo_onward_18 (by decide) ?_
        refine lv_iand hx hb kd_Mo_onward_19 ?_
        refine kz_top (y := nB (bt fr k)) (has_v _ (by omega)) ?_
        refine kz_ic X 1 kd_Mo_onward_20 (by decide) ?_
        refine kz_icneB X kd_Mo_onward_21 rfl (fun h21 => ?_) (fun h21 => ?_)
        · refine lv_iload_n hx hb kd_Mo_onward_41 rfl (lv_at hl 1 rfl) ?_
          refine lv_istore_n hx hb kd_Mo_onward_42 rfl hl (by decide) rfl (fun ls hl => ?_)
          have hl : lv_has ls 5 [(3, .int (mo_on fr (fun j => es (25 * nd + j)) k)), (4, .int (nI k)), (0, .ref ho), (1, .int fr), (2, .int (nI nd))] := hl
          refine lv_iinc (k := 1) (v := nI (k + 1)) hx hb kd_Mo_onward_43 hl rfl (nI_add k 1) (by decide) rfl (fun ls hl => ?_)
          have hl : lv_has ls 5 [(4, .int (nI (k + 1))), (3, .int (mo_on fr (fun j => es (25 * nd + j)) k)), (0, .ref ho), (1, .int fr), (2, .int (nI nd))] := hl
          refine lv_goto hx hb kd_Mo_onward_46 rfl ?_
          have hl : lv_has ls 5 [(4, .int (nI (k + 1))), (3, .int (mo_on fr (fun j => es (25 * nd + j)) (k + 1))), (0, .ref ho), (1, .int fr), (2, .int (nI nd))] := by rw [show mo_on fr (fun j => es (25 * nd + j)) (k + 1) = _ from if_neg (by rw [h21]; decide)]; exact lv_sub hl [0, 1, 2, 3, 4] rfl
          exact ih5 (k + 1) _ _ _ (by omega) (by omega) hl U
        · refine lv_iload_n hx hb kd_Mo_onward_24 rfl (lv_at hl 1 rfl) ?_
          refine lv_aload_n hx hb kd_Mo_onward_25 rfl (lv_at hl 2 rfl) ?_
          refine kg_Mo_52 X U 0 rfl rfl kd_Mo_onward_26 ?_
          refine kz_bp X 25 kd_Mo_onward_29 (by decide) ?_
          refine lv_iload_n hx hb kd_Mo_onward_31 rfl (lv_at hl 4 rfl) ?_
          refine kz_imul X kd_Mo_onward_32 ?_
          refine kz_top (y := nI (25 * nd)) rfl ?_
          refine lv_iload hx hb kd_Mo_onward_33 (lv_at hl 0 rfl) ?_
          refine kz_iadd X kd_Mo_onward_35 ?_
          refine kz_top (y := nI (25 * nd + k)) rfl ?_
          refine kz_iald (k := 25 * nd + k) X U 1 rfl (by omega) (by omega) kd_Mo_onward_36 ?_
          refine lv_ior hx hb kd_Mo_onward_37 ?_
          refine lv_goto hx hb kd_Mo_onward_38 rfl ?_
          refine lv_istore_n hx hb kd_Mo_onward_42 rfl hl (by decide) rfl (fun ls hl => ?_)
          have hl : lv_has ls 5 [(3, .int ((mo_on fr (fun j => es (25 * nd + j)) k) ||| (es (25 * nd + k)))), (4, .int (nI k)), (0, .ref ho), (1, .int fr), (2, .int (nI nd))] := hl
          refine lv_iinc (k := 1) (v := nI (k + 1)) hx hb kd_Mo_onward_43 hl rfl (nI_add k 1) (by decide) rfl (fun ls hl => ?_)
          have hl : lv_has ls 5 [(4, .int (nI (k + 1))), (3, .int ((mo_on fr (fun j => es (25 * nd + j)) k) ||| (es (25 * nd + k)))), (0, .ref ho), (1, .int fr), (2, .int (nI nd))] := hl
          refine lv_goto hx hb kd_Mo_onward_46 rfl ?_
          have hl : lv_has ls 5 [(4, .int (nI (k + 1))), (3, .int (mo_on fr (fun j => es (25 * nd + j)) (k + 1))), (0, .ref ho), (1, .int fr), (2, .int (nI nd))] := by rw [show mo_on fr (fun j => es (25 * nd + j)) (k + 1) = _ from if_pos h21]; exact lv_sub hl [0, 1, 2, 3, 4] rfl
          exact ih5 (k + 1) _ _ _ (by omega) (by omega) hl U
  exact loop5 _ 0 _ _ _ (Nat.lt_succ_self _) (by omega) (lv_sub hl [0, 1, 2, 3, 4] rfl) U

set_option maxHeartbeats 4000000 in
set_option maxRecDepth 100000 in
theorem cm_Mo_highest (l : Launch) (D : va_G) (q : Nat → ClassId) (x : Int32) (hx0 : 0 < sp_lg (bt x) 32) : kz_Mi (S := Unit) l ky_Mo_highest kb_Mo_highest 2 (some .int) 0 D q [.int x] [] (fun r _ => r = nI (sp_lg (bt x) 32 - 1)) (fun _ => []) := by
  intro sz_
  refine kz_go (by decide +kernel) (Nat.le_of_ble_eq_true rfl) ?_
  intro p e s m below meth c ls args A Q H locs hQ hA X U hl
  have hx := X.1
  have hb := X.2.1
  have hl : lv_has ls 2 [(0, .int x)] := hl
  refine kz_bp X 31 kd_Mo_highest_0 (by decide) ?_
  refine lv_istore_n hx hb kd_Mo_highest_2 rfl hl (by decide) rfl (fun ls hl => ?_)
  have hl : lv_has ls 2 [(1, .int (nI 31)), (0, .int x)] := hl
  have loop3 : ∀ (fuel : Nat) (k : Nat) (ls : Array Slot) (H : Heap) (locs : List Loc), k + 1 < fuel → (k < 32) → (sp_lg (bt x) 32 = sp_lg (bt x) (k + 1)) → lv_has ls 2 [(1, .int (nI k)), (0, .int x)] → kz_U D q s A [] H locs → W p l e (kz_rm 0) s m args below meth c H locs 0 0 Q (F0 m 3 ls []) := by
    intro fuel
    induction fuel with
    | zero => intro k ls H locs hme; exact absurd hme (Nat.not_lt_zero _)
    | succ fuel ih3 =>
      intro k ls H locs hme hk hv hl U
      refine lv_iload_n hx hb kd_Mo_highest_3 rfl (lv_at hl 1 rfl) ?_
      refine lv_iload_n hx hb kd_Mo_highest_4 rfl (lv_at hl 0 rfl) ?_
      refine lv_ishr hx hb kd_Mo_highest_5 ?_
      refine kz_ic X 1 kd_Mo_highest_6 (by decide) ?_
      refine lv_iand hx hb kd_Mo_highest_7 ?_
      refine kz_top (y := nB (bt x k)) (has_v _ hk) ?_
      refine kz_ifneB X kd_Mo_highest_8 rfl (fun h8 => ?_) (fun h8 => ?_)
      · refine lv_iload_n hx hb kd_Mo_highest_17 rfl (lv_at hl 0 rfl) ?_
        exact kz_ei hQ hA X U (()) rfl (by rw [hv, show sp_lg (bt x) (k + 1) = k + 1 from if_pos h8]; rfl) kd_Mo_highest_18
      · refine lv_iinc (k := 0) (v := nI k + (-1)) hx hb kd_Mo_highest_11 hl rfl rfl (by decide) rfl (fun ls hl => ?_)
        have hl : lv_has ls 2 [(1, .int (nI k + (-1))), (0, .int x)] := hl
        refine lv_goto hx hb kd_Mo_highest_14 rfl ?_
        have hk0 : 0 < k := Nat.pos_of_ne_zero fun z => by rw [z] at hv h8; have : sp_lg (bt x) (0 + 1) = 0 := if_neg (by rw [h8]; decide); omega
        rw [show nI k + (-1) = nI (k - 1) from sb_m1 hk0] at hl
        exact ih3 (k - 1) _ _ _ (by omega) (by omega) (by rw [hv, show k - 1 + 1 = k by omega]; exact if_neg (by rw [h8]; decide)) (lv_sub hl [0, 1] rfl) U
  exact loop3 _ 31 _ _ _ (Nat.lt_succ_self _) (by omega) rfl (lv_sub hl [0, 1] rfl) U

set_option maxHeartbeats 4000000 in
set_option maxRecDepth 100000 in
theorem cm_Mo_found (l : Launch) (D : va_G) (q : Nat → ClassId) (ho mb mt mw mc mk m1 m2 ms mu mi mr mn mp mj me mh : Nat) (sz ln wn dp st_ im en : Nat) (lo_ : Int32) (ex ds : Bool) (at_ fr : Nat) (es : Nat → Int32) (hat : at_ ≤ 3175) (hen : en ≤ 24) (hfr : fr ≤ en + 1) : kz_Mi (S := Unit) l ky_Mo_found kb_Mo_found 4 (some .int) 1 D q [.ref ho, .int (nI at_), .int (nI fr)] [(ho, .inr (6, [.ref mb, .int (nI sz), .ref mt, .int (nI ln), .ref mw, .int (nI wn), .ref mc, .ref mk, .ref m1, .ref m2, .ref ms, .int (nI dp), .ref mu, .ref mi, .ref mr, .ref mn, .ref mp, .int (nI st_), .int lo_, .int (nI im), .int (nB ex), .ref mj, .int (nI en), .ref me, .ref mh, .int (nB ds)])), (me, .inl (q 0, 3200, .inl es))] (fun r _ => r = mo_fd es at_ (en + 1 - fr) fr) (fun _ => [(ho, .inr (6, [.ref mb, .int (nI sz), .ref mt, .int (nI ln), .ref mw, .int (nI wn), .ref mc, .ref mk, .ref m1, .ref m2, .ref ms, .int (nI dp), .ref mu, .ref mi, .ref mr, .ref mn, .ref mp, .int (nI st_), .int lo_, .int (nI im), .int (nB ex), .ref mj, .int (nI en), .ref me, .ref mh, .int (nB ds)])), (me, .inl (q 0, 3200, .inl es))]) := by
  intro sz_
  refine kz_go (by decide +kernel) (Nat.le_of_ble_eq_true rfl) ?_
  intro p e s m below meth c ls args A Q H locs hQ hA X U hl
  have hx := X.1
  have hb := X.2.1
  have hl : lv_has ls 4 [(0, .ref ho), (1, .int (nI at_)), (2, .int (nI fr))] := hl
  refine lv_iload_n hx hb kd_Mo_found_0 rfl (lv_at hl 2 rfl) ?_
  refine lv_istore_n hx hb kd_Mo_found_1 rfl hl (by decide) rfl (fun ls hl => ?_)
  have hl : lv_has ls 4 [(3, .int (nI fr)), (0, .ref ho), (1, .int (nI at_)), (2, .int (nI fr))] := hl
  have loop2 : ∀ (fuel : Nat) (i : Nat) (ls : Array Slot) (H : Heap) (locs : List Loc), en + 2 - i < fuel → (i ≤ en + 1) → (mo_fd es at_ (en + 1 - fr) fr = mo_fd es at_ (en + 1 - i) i) → lv_has ls 4 [(3, .int (nI i)), (0, .ref ho), (1, .int (nI at_))] → kz_U D q s A [(ho, .inr (6, [.ref mb, .int (nI sz), .ref mt, .int (nI ln), .ref mw, .int (nI wn), .ref mc, .ref mk, .ref m1, .ref m2, .ref ms, .int (nI dp), .ref mu, .ref mi, .ref mr, .ref mn, .ref mp, .int (nI st_), .int lo_, .int (nI im), .int (nB ex), .ref mj, .int (nI en), .ref me, .ref mh, .int (nB ds)])), (me, .inl (q 0, 3200, .inl es))] H locs → W p l e (kz_rm 1) s m args below meth c H locs 0 0 Q (F0 m 2 ls []) := by
    intro fuel
    induction fuel with
    | zero => intro i ls H locs hme; exact absurd hme (Nat.not_lt_zero _)
    | succ fuel ih2 =>
      intro i ls H locs hme hi hv hl U
      refine lv_iload_n hx hb kd_Mo_found_2 rfl (lv_at hl 0 rfl) ?_
      refine lv_aload_n hx hb kd_Mo_found_3 rfl (lv_at hl 1 rfl) ?_
      refine kg_Mo_142 X U 0 rfl rfl kd_Mo_found_4 ?_
      refine kz_icgt X (by first | omega | (have := sp_lg_le (bt (es (at_ + i))) 32; omega)) (by first | omega | (have := sp_lg_le (bt (es (at_ + i))) 32; omega)) kd_Mo_found_7 rfl (fun h7 => ?_) (fun h7 => ?_)
      · refine lv_bipush (v := (-2)) hx hb kd_Mo_found_44 (by decide) ?_
        exact kz_ei hQ hA X U (()) rfl (by rw [hv, show en + 1 - i = 0 by omega]; rfl) kd_Mo_found_46
      · refine lv_aload_n hx hb kd_Mo_found_10 rfl (lv_at hl 1 rfl) ?_
        refine kg_Mo_52 X U 0 rfl rfl kd_Mo_found_11 ?_
        refine lv_iload_n hx hb kd_Mo_found_14 rfl (lv_at hl 2 rfl) ?_
        refine lv_iload_n hx hb kd_Mo_found_15 rfl (lv_at hl 0 rfl) ?_
        refine kz_iadd X kd_Mo_found_16 ?_
        refine kz_top (y := nI (at_ + i)) rfl ?_
        refine kz_iald (k := at_ + i) X U 1 rfl (by omega) (by omega) kd_Mo_found_17 ?_
        refine lv_if_eq hx hb kd_Mo_found_18 rfl (fun h18 => ?_) (fun h18 => ?_)
        · refine lv_iinc (k := 0) (v := nI (i + 1)) hx hb kd_Mo_found_38 hl rfl (nI_add i 1) (by decide) rfl (fun ls hl => ?_)
          have hl : lv_has ls 4 [(3, .int (nI (i + 1))), (0, .ref ho), (1, .int (nI at_))] := hl
          refine lv_goto hx hb kd_Mo_found_41 rfl ?_
          exact ih2 (i + 1) _ _ _ (by omega) (by omega) (by rw [hv, show en + 1 - i = (en + 1 - (i + 1)) + 1 by omega]; exact if_pos h18) (lv_sub hl [0, 1, 2] rfl) U
        · refine kz_bp X 100 kd_Mo_found_21 (by decide) ?_
          refine lv_iload_n hx hb kd_Mo_found_23 rfl (lv_at hl 0 rfl) ?_
          refine kz_imul X kd_Mo_found_24 ?_
          refine kz_top (y := nI (100 * i)) rfl ?_
          refine lv_aload_n hx hb kd_Mo_found_25 rfl (lv_at hl 1 rfl) ?_
          refine kg_Mo_52 X U 0 rfl rfl kd_Mo_found_26 ?_
          refine lv_iload_n hx hb kd_Mo_found_29 rfl (lv_at hl 2 rfl) ?_
          refine lv_iload_n hx hb kd_Mo_found_30 rfl (lv_at hl 0 rfl) ?_
          refine kz_iadd X kd_Mo_found_31 ?_
          refine kz_top (y := nI (at_ + i)) rfl ?_
          refine kz_iald (k := at_ + i) X U 1 rfl (by omega) (by omega) kd_Mo_found_32 ?_
          refine kz_cSi (av := [.int (es (at_ + i))]) (rest := [.int (nI (100 * i))]) (wr := [(ho, .inr (6, [.ref mb, .int (nI sz), .ref mt, .int (nI ln), .ref mw, .int (nI wn), .ref mc, .ref mk, .ref m1, .ref m2, .ref ms, .int (nI dp), .ref mu, .ref mi, .ref mr, .ref mn, .ref mp, .int (nI st_), .int lo_, .int (nI im), .int (nB ex), .ref mj, .int (nI en), .ref me, .ref mh, .int (nB ds)])), (me, .inl (q 0, 3200, .inl es))]) X U hl.1 (cm_Mo_highest l D q (es (at_ + i)) (mo_lg_pos h18)) (by decide) (by decide) ⟨by decide, by decide⟩ tb_630 tb_631 tb_11 tb_632 kq_Mo_highest [] [0, 1] (by decide) rfl rfl (by decide) (by decide) rfl (Nat.le_of_ble_eq_true rfl) kd_Mo_found_33 (fun rv _ H locs hp U => ?_)
          subst hp
          have U : kz_U D q s A [(ho, .inr (6, [.ref mb, .int (nI sz), .ref mt, .int (nI ln), .ref mw, .int (nI wn), .ref mc, .ref mk, .ref m1, .ref m2, .ref ms, .int (nI dp), .ref mu, .ref mi, .ref mr, .ref mn, .ref mp, .int (nI st_), .int lo_, .int (nI im), .int (nB ex), .ref mj, .int (nI en), .ref me, .ref mh, .int (nB ds)])), (me, .inl (q 0, 3200, .inl es))] H locs := U
          refine kz_iadd X kd_Mo_found_36 ?_
          refine kz_top (y := nI (100 * i + (sp_lg (bt (es (at_ + i))) 32 - 1))) rfl ?_
          exact kz_ei hQ hA X U (()) rfl (by rw [hv, show en + 1 - i = (en - i) + 1 by omega]; exact (if_neg h18).symm) kd_Mo_found_37
  exact loop2 _ fr _ _ _ (Nat.lt_succ_self _) hfr rfl (lv_sub hl [0, 1, 2] rfl) U

theorem mo_ag_s {en nd k : Nat} {es g : Nat → Int32} {v : Int32} (hv : v = mo_ag (es (25 * nd + k)) g k (en - k)) (hg : ∀ i, k + 1 ≤ i → i ≤ en → g i = mo_ag (es (25 * nd + i)) g i (en - i)) : ∀ i, k ≤ i → i ≤ en → upd g k v i = mo_ag (es (25 * nd + i)) (upd g k v) i (en - i) := by
  intro i h1 h2
  rw [mo_ag_congr (th' := g) (fun j hj => pk_un (by omega))]
  by_cases e : i = k
  · subst e; rw [pk_us]; exact hv
  · rw [pk_un e]; exact hg i (by omega) h2

set_option maxHeartbeats 4000000 in
set_option maxRecDepth 100000 in
theorem cm_Mo_again (l : Launch) (D : va_G) (q : Nat → ClassId) (ho mb mt mw mc mk m1 m2 ms mu mi mr mn mp mj me mh : Nat) (sz ln wn dp st_ im en : Nat) (lo_ : Int32) (ex ds : Bool) (nd : Nat) (es th : Nat → Int32) (hnd : nd < 128) (hen : en ≤ 24) : kz_Mv (S := Nat → Int32) l ky_Mo_again kb_Mo_again 5 0 D q [.ref ho, .int (nI nd)] [(ho, .inr (6, [.ref mb, .int (nI sz), .ref mt, .int (nI ln), .ref mw, .int (nI wn), .ref mc, .ref mk, .ref m1, .ref m2, .ref ms, .int (nI dp), .ref mu, .ref mi, .ref mr, .ref mn, .ref mp, .int (nI st_), .int lo_, .int (nI im), .int (nB ex), .ref mj, .int (nI en), .ref me, .ref mh, .int (nB ds)])), (me, .inl (q 0, 3200, .inl es)), (mh, .inl (q 0, 25, .inl th))] (fun u => ∀ i, i ≤ en → u i = mo_ag (es (25 * nd + i)) u i (en - i)) (fun u => [(ho, .inr (6, [.ref mb, .int (nI sz), .ref mt, .int (nI ln), .ref mw, .int (nI wn), .ref mc, .ref mk, .ref m1, .ref m2, .ref ms, .int (nI dp), .ref mu, .ref mi, .ref mr, .ref mn, .ref mp, .int (nI st_), .int lo_, .int (nI im), .int (nB ex), .ref mj, .int (nI en), .ref me, .ref mh, .int (nB ds)])), (me, .inl (q 0, 3200, .inl es)), (mh, .inl (q 0, 25, .inl u))]) := by
  intro sz_
  refine kz_go (by decide +kernel) (Nat.le_of_ble_eq_true rfl) ?_
  intro p e s m below meth c ls args A Q H locs hQ hA X U hl
  have hx := X.1
  have hb := X.2.1
  have hl : lv_has ls 5 [(0, .ref ho), (1, .int (nI nd))] := hl
  refine lv_aload_n hx hb kd_Mo_again_0 rfl (lv_at hl 0 rfl) ?_
  refine kg_Mo_142 X U 0 rfl rfl kd_Mo_again_1 ?_
  refine lv_istore_n hx hb kd_Mo_again_4 rfl hl (by decide) rfl (fun ls hl => ?_)
  have hl : lv_has ls 5 [(2, .int (nI en)), (0, .ref ho), (1, .int (nI nd))] := hl
  have loop5 : ∀ (fuel : Nat) (k : Nat) (g : Nat → Int32) (ls : Array Slot) (H : Heap) (locs : List Loc), k < fuel → (k ≤ en + 1) → (∀ i, k ≤ i → i ≤ en → g i = mo_ag (es (25 * nd + i)) g i (en - i)) → lv_has ls 5 [(2, .int (nI k + (-1))), (0, .ref ho), (1, .int (nI nd))] → kz_U D q s A [(ho, .inr (6, [.ref mb, .int (nI sz), .ref mt, .int (nI ln), .ref mw, .int (nI wn), .ref mc, .ref mk, .ref m1, .ref m2, .ref ms, .int (nI dp), .ref mu, .ref mi, .ref mr, .ref mn, .ref mp, .int (nI st_), .int lo_, .int (nI im), .int (nB ex), .ref mj, .int (nI en), .ref me, .ref mh, .int (nB ds)])), (me, .inl (q 0, 3200, .inl es)), (mh, .inl (q 0, 25, .inl g))] H locs → W p l e (kz_rm 0) s m args below meth c H locs 0 0 Q (F0 m 5 ls []) := by
    intro fuel
    induction fuel with
    | zero => intro k g ls H locs hme; exact absurd hme (Nat.not_lt_zero _)
    | succ fuel ih5 =>
      intro k g ls H locs hme hk hg hl U
      rcases k with _ | k
      · refine lv_iload_n hx hb kd_Mo_again_5 rfl (lv_at hl 0 rfl) ?_
        refine lv_if_lt hx hb kd_Mo_again_6 rfl (fun h6 => ?_) (fun h6 => absurd h6 (fun z => z (by decide)))
        exact kz_ev hQ hA X U g rfl (fun i hi => hg i (Nat.zero_le _) hi) kd_Mo_again_80
      · rw [pk_m1] at hl
        refine lv_iload_n hx hb kd_Mo_again_5 rfl (lv_at hl 0 rfl) ?_
        refine kz_nlt X (by omega) kd_Mo_again_6 ?_
        refine kz_ic X 1 kd_Mo_again_9 (by decide) ?_
        refine lv_iload_n hx hb kd_Mo_again_10 rfl (lv_at hl 0 rfl) ?_
        refine lv_ishl hx hb kd_Mo_again_11 ?_
        refine lv_istore_n hx hb kd_Mo_again_12 rfl hl (by decide) rfl (fun ls hl => ?_)
        have hl : lv_has ls 5 [(3, .int ((nI 1) <<< ((nI k) &&& 31))), (2, .int (nI k)), (0, .ref ho), (1, .int (nI nd))] := hl
        refine lv_iload_n hx hb kd_Mo_again_13 rfl (lv_at hl 1 rfl) ?_
        refine kz_ic X 1 kd_Mo_again_14 (by decide) ?_
        refine kz_iadd X kd_Mo_again_15 ?_
        refine kz_top (y := nI (k + 1)) rfl ?_
        refine lv_istore hx hb kd_Mo_again_16 hl (by decide) rfl (fun ls hl => ?_)
        have hl : lv_has ls 5 [(4, .int (nI (k + 1))), (3, .int ((nI 1) <<< ((nI k) &&& 31))), (2, .int (nI k)), (0, .ref ho), (1, .int (nI nd))] := hl
        have loop18 : ∀ (fuel : Nat) (c_ : Nat) (ls : Array Slot) (H : Heap) (locs : List Loc), en + 1 - c_ < fuel → (c_ ≤ en - k) → lv_has ls 5 [(4, .int (nI (k + 1 + c_))), (3, .int (mo_ag (es (25 * nd + k)) g k c_)), (2, .int (nI k)), (0, .ref ho), (1, .int (nI nd))] → kz_U D q s A [(ho, .inr (6, [.ref mb, .int (nI sz), .ref mt, .int (nI ln), .ref mw, .int (nI wn), .ref mc, .ref mk, .ref m1, .ref m2, .ref ms, .int (nI dp), .ref mu, .ref mi, .ref mr, .ref mn, .ref mp, .int (nI st_), .int lo_, .int (nI im), .int (nB ex), .ref mj, .int (nI en), .ref me, .ref mh, .int (nB ds)])), (me, .inl (q 0, 3200, .inl es)), (mh, .inl (q 0, 25, .inl g))] H locs → W p l e (kz_rm 0) s m args below meth c H locs 0 0 Q (F0 m 18 ls []) := by
          intro fuel
          induction fuel with
          | zero => intro c_ ls H locs hme; exact absurd hme (Nat.not_lt_zero _)
          | succ fuel ih18 =>
            intro c_ ls H locs hme hc hl U
            refine lv_iload hx hb kd_Mo_again_18 (lv_at hl 0 rfl) ?_
            refine lv_aload_n hx hb kd_Mo_again_20 rfl (lv_at hl 3 rfl) ?_
            refine kg_Mo_142 X U 0 rfl rfl kd_Mo_again_21 ?_
            refine kz_icgt X (by omega) (by omega) kd_Mo_again_24 rfl (fun h24 => ?_) (fun h24 => ?_)
            · refine lv_aload_n hx hb kd_Mo_again_67 rfl (lv_at hl 3 rfl) ?_
              refine kg_Mo_55 X U 0 rfl rfl kd_Mo_again_68 ?_
              refine lv_iload_n hx hb kd_Mo_again_71 rfl (lv_at hl 2 rfl) ?_
              refine lv_iload_n hx hb kd_Mo_again_72 rfl (lv_at hl 1 rfl) ?_
              refine kz_iast (k := k) X U 2 rfl (by omega) (by omega) kd_Mo_again_73 (fun H locs U => ?_)
              have U : kz_U D q s A [(ho, .inr (6, [.ref mb, .int (nI sz), .ref mt, .int (nI ln), .ref mw, .int (nI wn), .ref mc, .ref mk, .ref m1, .ref m2, .ref ms, .int (nI dp), .ref mu, .ref mi, .ref mr, .ref mn, .ref mp, .int (nI st_), .int lo_, .int (nI im), .int (nB ex), .ref mj, .int (nI en), .ref me, .ref mh, .int (nB ds)])), (me, .inl (q 0, 3200, .inl es)), (mh, .inl (q 0, 25, .inl (upd g k (mo_ag (es (25 * nd + k)) g k c_))))] H locs := U
              refine lv_iinc (k := 2) (v := nI k + (-1)) hx hb kd_Mo_again_74 hl rfl rfl (by decide) rfl (fun ls hl => ?_)
              have hl : lv_has ls 5 [(2, .int (nI k + (-1))), (4, .int (nI (k + 1 + c_))), (3, .int (mo_ag (es (25 * nd + k)) g k c_)), (0, .ref ho), (1, .int (nI nd))] := hl
              refine lv_goto hx hb kd_Mo_again_77 rfl ?_
              exact ih5 k _ _ _ _ (by omega) (by omega) (mo_ag_s (by rw [show c_ = en - k by omega]) hg) (lv_sub hl [0, 3, 4] rfl) U
            · refine lv_aload_n hx hb kd_Mo_again_27 rfl (lv_at hl 3 rfl) ?_
              refine kg_Mo_52 X U 0 rfl rfl kd_Mo_again_28 ?_
              refine kz_bp X 25 kd_Mo_again_31 (by decide) ?_
              refine lv_iload_n hx hb kd_Mo_again_33 rfl (lv_at hl 4 rfl) ?_
              refine kz_imul X kd_Mo_again_34 ?_
              refine kz_top (y := nI (25 * nd)) rfl ?_
              refine lv_iload_n hx hb kd_Mo_again_35 rfl (lv_at hl 2 rfl) ?_
              refine kz_iadd X kd_Mo_again_36 ?_
              refine kz_top (y := nI (25 * nd + k)) rfl ?_
              refine kz_iald (k := 25 * nd + k) X U 1 rfl (by omega) (by omega) kd_Mo_again_37 ?_
              refine lv_iload hx hb kd_Mo_again_38 (lv_at hl 0 rfl) ?_
              refine lv_ishr hx hb kd_Mo_again_40 ?_
              refine kz_ic X 1 kd_Mo_again_41 (by decide) ?_
              refine lv_iand hx hb kd_Mo_again_42 ?_
              refine kz_top (y := nB (bt (es (25 * nd + k)) (k + 1 + c_))) (has_v _ (by omega)) ?_
              refine kz_ic X 1 kd_Mo_again_43 (by decide) ?_
              refine kz_icneB X kd_Mo_again_44 rfl (fun h44 => ?_) (fun h44 => ?_)
              · refine lv_iload_n hx hb kd_Mo_again_59 rfl (lv_at hl 1 rfl) ?_
                refine lv_istore_n hx hb kd_Mo_again_60 rfl hl (by decide) rfl (fun ls hl => ?_)
                have hl : lv_has ls 5 [(3, .int (mo_ag (es (25 * nd + k)) g k c_)), (4, .int (nI (k + 1 + c_))), (2, .int (nI k)), (0, .ref ho), (1, .int (nI nd))] := hl
                refine lv_iinc (k := 1) (v := nI (k + 1 + c_ + 1)) hx hb kd_Mo_again_61 hl rfl (nI_add (k + 1 + c_) 1) (by decide) rfl (fun ls hl => ?_)
                have hl : lv_has ls 5 [(4, .int (nI (k + 1 + c_ + 1))), (3, .int (mo_ag (es (25 * nd + k)) g k c_)), (2, .int (nI k)), (0, .ref ho), (1, .int (nI nd))] := hl
                refine lv_goto hx hb kd_Mo_again_64 rfl ?_
                have hl : lv_has ls 5 [(4, .int (nI (k + 1 + (c_ + 1)))), (3, .int (mo_ag (es (25 * nd + k)) g k (c_ + 1))), (2, .int (nI k)), (0, .ref ho), (1, .int (nI nd))] := by rw [show mo_ag (es (25 * nd + k)) g k (c_ + 1) = _ from if_neg (by rw [h44]; decide)]; exact lv_sub hl [0, 1, 2, 3, 4] rfl
                exact ih18 (c_ + 1) _ _ _ (by omega) (by omega) hl U
              · refine lv_iload_n hx hb kd_Mo_again_47 rfl (lv_at hl 1 rfl) ?_
                refine lv_aload_n hx hb kd_Mo_again_48 rfl (lv_at hl 3 rfl) ?_
                refine kg_Mo_55 X U 0 rfl rfl kd_Mo_again_49 ?_
                refine lv_iload hx hb kd_Mo_again_52 (lv_at hl 0 rfl) ?_
                refine kz_iald (k := k + 1 + c_) X U 2 rfl (by omega) (by omega) kd_Mo_again_54 ?_
                refine lv_ior hx hb kd_Mo_again_55 ?_
                refine lv_goto hx hb kd_Mo_again_56 rfl ?_
                refine lv_istore_n hx hb kd_Mo_again_60 rfl hl (by decide) rfl (fun ls hl => ?_)
                have hl : lv_has ls 5 [(3, .int ((mo_ag (es (25 * nd + k)) g k c_) ||| (g (k + 1 + c_)))), (4, .int (nI (k + 1 + c_))), (2, .int (nI k)), (0, .ref ho), (1, .int (nI nd))] := hl
                refine lv_iinc (k := 1) (v := nI (k + 1 + c_ + 1)) hx hb kd_Mo_again_61 hl rfl (nI_add (k + 1 + c_) 1) (by decide) rfl (fun ls hl => ?_)
                have hl : lv_has ls 5 [(4, .int (nI (k + 1 + c_ + 1))), (3, .int ((mo_ag (es (25 * nd + k)) g k c_) ||| (g (k + 1 + c_)))), (2, .int (nI k)), (0, .ref ho), (1, .int (nI nd))] := hl
                refine lv_goto hx hb kd_Mo_again_64 rfl ?_
                have hl : lv_has ls 5 [(4, .int (nI (k + 1 + (c_ + 1)))), (3, .int (mo_ag (es (25 * nd + k)) g k (c_ + 1))), (2, .int (nI k)), (0, .ref ho), (1, .int (nI nd))] := by rw [show mo_ag (es (25 * nd + k)) g k (c_ + 1) = _ from if_pos h44]; exact lv_sub hl [0, 1, 2, 3, 4] rfl
                exact ih18 (c_ + 1) _ _ _ (by omega) (by omega) hl U
        exact loop18 _ 0 _ _ _ (Nat.lt_succ_self _) (by omega) (lv_sub hl [0, 1, 2, 3, 4] rfl) U
  rw [← pk_m1 en] at hl
  exact loop5 _ (en + 1) th _ _ _ (Nat.lt_succ_self _) (by omega) (fun i h1 h2 => absurd h1 (by omega)) (lv_sub hl [0, 1, 2] rfl) U
