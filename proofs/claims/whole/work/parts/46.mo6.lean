/-- the reference's table in the form of the answers' -/
def mo_G (es : Nat → Int32) (at_ : Nat) : Nat → Nat → Bool := fun i k => bt (es (at_ + i)) (i + k)
theorem mo_lg_shift {en : Nat} {t : Nat → Nat} {i : Nat} {A : dm_L} {x : Int32} (hen : en ≤ 24) (hi : i ≤ en) (hx : mo_at en t i A x) : (sp_lg (bt x) 32 = 0 ∧ sp_lg (fun k => bt x (i + k)) 25 = 0) ∨ (0 < sp_lg (fun k => bt x (i + k)) 25 ∧ sp_lg (bt x) 32 = i + sp_lg (fun k => bt x (i + k)) 25 ∧ sp_lg (bt x) 32 ≤ en + 1) := by
  have top : ∀ m, en + 1 ≤ m → m ≤ 32 → sp_lg (bt x) m = sp_lg (bt x) (en + 1) := by
    intro m h1
    induction m with
    | zero => omega
    | succ m ih =>
      intro h2
      by_cases e : m = en
      · rw [e]
      · have hb : ¬ bt x m = true := fun z => by have := (hx m).mp z; omega
        have : sp_lg (bt x) (m + 1) = sp_lg (bt x) m := if_neg hb
        rw [this, ih (by omega) (by omega)]
  have low : sp_lg (bt x) i = 0 := by
    have : ∀ m, m ≤ i → sp_lg (bt x) m = 0 := by
      intro m
      induction m with
      | zero => intro _; rfl
      | succ m ih =>
        intro h
        have hb : ¬ bt x m = true := fun z => by have := (hx m).mp z; omega
        have : sp_lg (bt x) (m + 1) = sp_lg (bt x) m := if_neg hb
        rw [this, ih (by omega)]
    exact this i (Nat.le_refl _)
  have mid : ∀ c, (sp_lg (bt x) (i + c) = 0 ∧ sp_lg (fun k => bt x (i + k)) c = 0) ∨ (0 < sp_lg (fun k => bt x (i + k)) c ∧ sp_lg (bt x) (i + c) = i + sp_lg (fun k => bt x (i + k)) c) := by
    intro c
    induction c with
    | zero => exact Or.inl ⟨low, rfl⟩
    | succ c ih =>
      by_cases hb : bt x (i + c) = true
      · have e1 : sp_lg (bt x) (i + (c + 1)) = i + c + 1 := if_pos hb
        have e2 : sp_lg (fun k => bt x (i + k)) (c + 1) = c + 1 := if_pos hb
        exact Or.inr ⟨by omega, by omega⟩
      · have e1 : sp_lg (bt x) (i + (c + 1)) = sp_lg (bt x) (i + c) := if_neg hb
        have e2 : sp_lg (fun k => bt x (i + k)) (c + 1) = sp_lg (fun k => bt x (i + k)) c := if_neg hb
        rw [e1, e2]
        exact ih
  have up : ∀ c, en + 1 - i ≤ c → sp_lg (fun k => bt x (i + k)) c = sp_lg (fun k => bt x (i + k)) (en + 1 - i) := by
    intro c h1
    induction c with
    | zero => omega
    | succ c ih =>
      by_cases e : c + 1 = en + 1 - i
      · rw [e]
      · have hb : ¬ bt x (i + c) = true := fun z => by have := (hx (i + c)).mp z; omega
        have : sp_lg (fun k => bt x (i + k)) (c + 1) = sp_lg (fun k => bt x (i + k)) c := if_neg hb
        rw [this, ih (by omega)]
  have m := mid (en + 1 - i)
  rw [show i + (en + 1 - i) = en + 1 by omega] at m
  rw [top 32 (by omega) (by omega), up 25 (by omega)]
  rcases m with m | m
  · exact Or.inl m
  · refine Or.inr ⟨m.1, m.2, sp_lg_le _ _⟩
theorem mo_x0 {x : Int32} : x = 0 ↔ sp_lg (bt x) 32 = 0 := by
  constructor
  · intro h; exact mo_lg_0 h 32
  · intro h
    exact Decidable.byContradiction fun z => by have := mo_lg_pos z; omega
theorem mo_fd_sp {en at_ : Nat} {t : Nat → Nat} {A : dm_L} {es : Nat → Int32} (hen : en ≤ 24) (h : mo_is en t A (fun j => es (at_ + j))) : ∀ f i, i + f = en + 1 → mo_fd es at_ f i = sp_find (mo_G es at_) f i
  | 0, i, _ => rfl
  | f + 1, i, hf => by
    have hs := mo_lg_shift hen (by omega) (h i (by omega))
    have hs : (sp_lg (bt (es (at_ + i))) 32 = 0 ∧ sp_lg (mo_G es at_ i) 25 = 0) ∨ (0 < sp_lg (mo_G es at_ i) 25 ∧ sp_lg (bt (es (at_ + i))) 32 = i + sp_lg (mo_G es at_ i) 25 ∧ sp_lg (bt (es (at_ + i))) 32 ≤ en + 1) := hs
    show (if es (at_ + i) = 0 then mo_fd es at_ f (i + 1) else _) = (if sp_lg (mo_G es at_ i) 25 = 0 then sp_find (mo_G es at_) f (i + 1) else _)
    rcases hs with ⟨h1, h2⟩ | ⟨h1, h2, h3⟩
    · rw [if_pos (mo_x0.mpr h1), if_pos h2, mo_fd_sp hen h f (i + 1) (by omega)]
    · rw [if_neg (fun z => by have := mo_x0.mp z; omega), if_neg (by omega)]
      congr 1
      omega
/-- what found comes to, and what count makes of it -/
theorem mo_fd_cnt {en at_ : Nat} {t : Nat → Nat} {A : dm_L} {es : Nat → Int32} (hen : en ≤ 24) (h : mo_is en t A (fun j => es (at_ + j))) : ∀ f i, i + f = en + 1 → (mo_fd es at_ f i = -2 ∧ sp_count (mo_G es at_) en (en + 1) i = 0) ∨ ∃ j e, i ≤ j ∧ j ≤ e ∧ e ≤ en ∧ mo_fd es at_ f i = nI (100 * j + e) ∧ sp_count (mo_G es at_) en (en + 1) i = 1 + sp_count (mo_G es at_) en (en + 1) (if j = e then e + 1 else e)
  | 0, i, hf => Or.inl ⟨rfl, sp_count_e (by omega)⟩
  | f + 1, i, hf => by
    have hs := mo_lg_shift hen (by omega) (h i (by omega))
    have hs : (sp_lg (bt (es (at_ + i))) 32 = 0 ∧ sp_lg (mo_G es at_ i) 25 = 0) ∨ (0 < sp_lg (mo_G es at_ i) 25 ∧ sp_lg (bt (es (at_ + i))) 32 = i + sp_lg (mo_G es at_ i) 25 ∧ sp_lg (bt (es (at_ + i))) 32 ≤ en + 1) := hs
    have hc := sp_count_s (G := mo_G es at_) (n := en) (i := i) (by omega)
    rcases hs with ⟨h1, h2⟩ | ⟨h1, h2, h3⟩
    · have e1 : mo_fd es at_ (f + 1) i = mo_fd es at_ f (i + 1) := if_pos (mo_x0.mpr h1)
      rw [h2, if_pos rfl, Nat.zero_add, show i + max (0 - 1) 1 = i + 1 by omega] at hc
      rw [e1, hc]
      rcases mo_fd_cnt hen h f (i + 1) (by omega) with q | ⟨j, e, q1, q2⟩
      · exact Or.inl q
      · exact Or.inr ⟨j, e, by omega, q2⟩
    · have e1 : mo_fd es at_ (f + 1) i = nI (100 * i + (sp_lg (bt (es (at_ + i))) 32 - 1)) := if_neg (fun z => by have := mo_x0.mp z; omega)
      refine Or.inr ⟨i, i + (sp_lg (mo_G es at_ i) 25 - 1), Nat.le_refl _, by omega, by omega, ?_, ?_⟩
      · rw [e1]; congr 1; omega
      · rw [hc, if_neg (by omega)]
        congr 1
        congr 1
        by_cases e : i = i + (sp_lg (mo_G es at_ i) 25 - 1)
        · rw [if_pos e]; omega
        · rw [if_neg e]; omega
def mo_or (es : Nat → Int32) (at_ : Nat) : Nat → Int32
  | 0 => 0
  | i + 1 => mo_or es at_ i ||| es (at_ + i)
theorem mo_or_bt (es : Nat → Int32) (at_ j : Nat) : ∀ n, bt (mo_or es at_ n) j = true ↔ ∃ i, i < n ∧ bt (es (at_ + i)) j = true
  | 0 => by
    show bt 0 j = true ↔ _
    rw [b_0]
    exact ⟨fun h => (by cases h), fun ⟨k, h, _⟩ => absurd h (Nat.not_lt_zero _)⟩
  | n + 1 => by
    show bt (mo_or es at_ n ||| es (at_ + n)) j = true ↔ _
    rw [b_or, Bool.or_eq_true, mo_or_bt es at_ j n]
    constructor
    · rintro (⟨i, h1, h2⟩ | h)
      · exact ⟨i, by omega, h2⟩
      · exact ⟨n, by omega, h⟩
    · rintro ⟨i, h1, h2⟩
      by_cases e : i = n
      · subst e; exact Or.inr h2
      · exact Or.inl ⟨i, by omega, h2⟩
theorem mo_any {en at_ j : Nat} {t : Nat → Nat} {A : dm_L} {es : Nat → Int32} (hj : j ≤ en) (h : mo_is en t A (fun j => es (at_ + j))) : bt (mo_or es at_ (en + 1)) j = sp_any (mo_G es at_) j := by
  rw [Bool.eq_iff_iff, mo_or_bt]
  constructor
  · rintro ⟨i, h1, h2⟩
    have := (h i (by omega) j).mp h2
    exact sp_any_t (b := i) (by omega) (by show bt (es (at_ + i)) (i + (j - i)) = true; rw [show i + (j - i) = j by omega]; exact h2)
  · intro z
    obtain ⟨b, hb, hg⟩ := List.any_eq_true.mp z
    have hb := List.mem_range.mp hb
    refine ⟨b, by omega, ?_⟩
    have hg : bt (es (at_ + b)) (b + (j - b)) = true := hg
    rw [show b + (j - b) = j by omega] at hg
    exact hg

set_option maxHeartbeats 4000000 in
set_option maxRecDepth 100000 in
theorem cm_Mo_matches (l : Launch) (D : va_G) (q : Nat → ClassId) (ho mb mt mw mc mk m1 m2 ms mu mi mr mn mp mj me mh : Nat) (sz ln wn dp st_ im en : Nat) (lo_ : Int32) (ex ds : Bool) (p_ : Nat) (tx sj ct kd on tw : Nat → Nat) (NL : List nd_N) (se es th : Nat → Int32) (hp_ : p_ ≤ 1) (hln : ln ≤ 24) (hct : ct p_ = NL.length) (hN1 : 0 < NL.length) (htab : nd_tab (128 * p_) NL kd on tw se) (htx : ∀ j, j < ln → 32 ≤ tx j ∧ tx j < 128) : kz_Mi (S := (Nat → Int32) × (Nat → Int32)) l ky_Mo_matches kb_Mo_matches 3 (some .boolean) 5 D q [.ref ho, .int (nI p_)] [(ho, .inr (6, [.ref mb, .int (nI sz), .ref mt, .int (nI ln), .ref mw, .int (nI wn), .ref mc, .ref mk, .ref m1, .ref m2, .ref ms, .int (nI dp), .ref mu, .ref mi, .ref mr, .ref mn, .ref mp, .int (nI st_), .int lo_, .int (nI im), .int (nB ex), .ref mj, .int (nI en), .ref me, .ref mh, .int (nB ds)])), (mt, .inl (q 0, 24, .inl (fun x_ => nI (tx x_)))), (mc, .inl (q 0, 3, .inl (fun x_ => nI (ct x_)))), (mk, .inl (q 0, 384, .inl (fun x_ => nI (kd x_)))), (m1, .inl (q 0, 384, .inl (fun x_ => nI (on x_)))), (m2, .inl (q 0, 384, .inl (fun x_ => nI (tw x_)))), (ms, .inl (q 0, 1152, .inl se)), (mj, .inl (q 0, 24, .inl (fun x_ => nI (sj x_)))), (me, .inl (q 0, 3200, .inl es)), (mh, .inl (q 0, 25, .inl th))] (fun r u => mo_is ln (va_cpy tx sj 0 0 ln) ((nd_all NL).getD (NL.length - 1) dm_eps) (fun j => u.1 (25 * (NL.length - 1) + j)) ∧ r = nB (mo_G u.1 (25 * (NL.length - 1)) 0 ln)) (fun u => [(ho, .inr (6, [.ref mb, .int (nI sz), .ref mt, .int (nI ln), .ref mw, .int (nI wn), .ref mc, .ref mk, .ref m1, .ref m2, .ref ms, .int (nI dp), .ref mu, .ref mi, .ref mr, .ref mn, .ref mp, .int (nI st_), .int lo_, .int (nI im), .int (nB ex), .ref mj, .int (nI ln), .ref me, .ref mh, .int (nB ds)])), (mt, .inl (q 0, 24, .inl (fun x_ => nI (tx x_)))), (mc, .inl (q 0, 3, .inl (fun x_ => nI (ct x_)))), (mk, .inl (q 0, 384, .inl (fun x_ => nI (kd x_)))), (m1, .inl (q 0, 384, .inl (fun x_ => nI (on x_)))), (m2, .inl (q 0, 384, .inl (fun x_ => nI (tw x_)))), (ms, .inl (q 0, 1152, .inl se)), (mj, .inl (q 0, 24, .inl (fun x_ => nI ((va_cpy tx sj 0 0 ln) x_)))), (me, .inl (q 0, 3200, .inl u.1)), (mh, .inl (q 0, 25, .inl u.2))]) := by
  intro sz_
  refine kz_go (by decide +kernel) (Nat.le_of_ble_eq_true rfl) ?_
  intro p e s m below meth c ls args A Q H locs hQ hA X U hl
  have hx := X.1
  have hb := X.2.1
  have hl : lv_has ls 3 [(0, .ref ho), (1, .int (nI p_))] := hl
  have hN128 := htab.1
  refine lv_iload_n hx hb kd_Mo_matches_0 rfl (lv_at hl 1 rfl) ?_
  refine kz_nlt X (by omega) kd_Mo_matches_1 ?_
  refine lv_iload_n hx hb kd_Mo_matches_4 rfl (lv_at hl 1 rfl) ?_
  refine kz_ic X 1 kd_Mo_matches_5 (by decide) ?_
  refine kz_icle X (by omega) (by omega) kd_Mo_matches_6 rfl (fun h6 => ?_) (fun h6 => absurd h6 (by omega))
  refine lv_aload_n hx hb kd_Mo_matches_11 rfl (lv_at hl 0 rfl) ?_
  refine lv_iload_n hx hb kd_Mo_matches_12 rfl (lv_at hl 1 rfl) ?_
  refine kz_cVi (av := [.int (nI p_)]) (rest := []) (wr := []) X U hl.1 (cm_Mo_lookAtText l D q ho mb mt mw mc mk m1 m2 ms mu mi mr mn mp mj me mh sz ln wn dp st_ im en lo_ ex ds p_ tx sj ct kd on tw NL se es th hp_ hln hct hN1 htab htx) (by decide) (by decide) ⟨by decide, by decide⟩ tb_598 tb_600 tb_s36 0 rfl rfl tb_11 tb_601 kq_Mo_lookAtText [0, 1, 2, 3, 4, 5, 6, 7, 8, 9] [] (by decide) rfl rfl (by decide) (by decide) rfl (Nat.le_of_ble_eq_true rfl) kd_Mo_matches_13 (fun rv u H locs hu U => ?_)
  obtain ⟨hu1, hu2⟩ := hu
  subst hu1
  have hA_ := hu2 (NL.length - 1) (by omega)
  have U : kz_U D q s A [(ho, .inr (6, [.ref mb, .int (nI sz), .ref mt, .int (nI ln), .ref mw, .int (nI wn), .ref mc, .ref mk, .ref m1, .ref m2, .ref ms, .int (nI dp), .ref mu, .ref mi, .ref mr, .ref mn, .ref mp, .int (nI st_), .int lo_, .int (nI im), .int (nB ex), .ref mj, .int (nI ln), .ref me, .ref mh, .int (nB ds)])), (mt, .inl (q 0, 24, .inl (fun x_ => nI (tx x_)))), (mc, .inl (q 0, 3, .inl (fun x_ => nI (ct x_)))), (mk, .inl (q 0, 384, .inl (fun x_ => nI (kd x_)))), (m1, .inl (q 0, 384, .inl (fun x_ => nI (on x_)))), (m2, .inl (q 0, 384, .inl (fun x_ => nI (tw x_)))), (ms, .inl (q 0, 1152, .inl se)), (mj, .inl (q 0, 24, .inl (fun x_ => nI ((va_cpy tx sj 0 0 ln) x_)))), (me, .inl (q 0, 3200, .inl u.1)), (mh, .inl (q 0, 25, .inl u.2))] H locs := U
  refine lv_istore_n hx hb kd_Mo_matches_16 rfl hl (by decide) rfl (fun ls hl => ?_)
  have hl : lv_has ls 3 [(2, .int (nI (25 * (NL.length - 1)))), (0, .ref ho), (1, .int (nI p_))] := hl
  refine lv_aload_n hx hb kd_Mo_matches_17 rfl (lv_at hl 1 rfl) ?_
  refine kg_Mo_52 X U 0 rfl rfl kd_Mo_matches_18 ?_
  refine lv_iload_n hx hb kd_Mo_matches_21 rfl (lv_at hl 0 rfl) ?_
  refine kz_iald (k := 25 * (NL.length - 1)) X U 8 rfl (by omega) (by omega) kd_Mo_matches_22 ?_
  refine lv_aload_n hx hb kd_Mo_matches_23 rfl (lv_at hl 1 rfl) ?_
  refine kg_Mo_142 X U 0 rfl rfl kd_Mo_matches_24 ?_
  refine lv_ishr hx hb kd_Mo_matches_27 ?_
  refine kz_ic X 1 kd_Mo_matches_28 (by decide) ?_
  refine lv_iand hx hb kd_Mo_matches_29 ?_
  refine kz_top (y := nB (mo_G u.1 (25 * (NL.length - 1)) 0 ln)) (by rw [show mo_G u.1 (25 * (NL.length - 1)) 0 ln = bt (u.1 (25 * (NL.length - 1))) ln from by show bt (u.1 (25 * (NL.length - 1) + 0)) (0 + ln) = _; rw [Nat.add_zero, Nat.zero_add]]; exact has_v _ (by omega)) ?_
  refine kz_ic X 1 kd_Mo_matches_30 (by decide) ?_
  refine kz_icneB X kd_Mo_matches_31 rfl (fun h31 => ?_) (fun h31 => ?_)
  · refine kz_ic X 0 kd_Mo_matches_38 (by decide) ?_
    refine kz_top (y := nB false) rfl ?_
    exact kz_ez hQ hA X U u rfl (⟨hA_, by rw [h31]⟩) kd_Mo_matches_39
  · refine kz_ic X 1 kd_Mo_matches_34 (by decide) ?_
    refine lv_goto hx hb kd_Mo_matches_35 rfl ?_
    refine kz_top (y := nB true) rfl ?_
    exact kz_ez hQ hA X U u rfl (⟨hA_, by rw [h31]⟩) kd_Mo_matches_39

set_option maxHeartbeats 4000000 in
set_option maxRecDepth 100000 in
theorem cm_Mo_find (l : Launch) (D : va_G) (q : Nat → ClassId) (ho mb mt mw mc mk m1 m2 ms mu mi mr mn mp mj me mh : Nat) (sz ln wn dp st_ im en : Nat) (lo_ : Int32) (ex ds : Bool) (p_ : Nat) (tx sj ct kd on tw : Nat → Nat) (NL : List nd_N) (se es th : Nat → Int32) (i0 : Nat) (hp_ : p_ ≤ 1) (hln : ln ≤ 24) (hct : ct p_ = NL.length) (hN1 : 0 < NL.length) (htab : nd_tab (128 * p_) NL kd on tw se) (htx : ∀ j, j < ln → 32 ≤ tx j ∧ tx j < 128) (hi0 : i0 ≤ ln) : kz_Mi (S := (Nat → Int32) × (Nat → Int32)) l ky_Mo_find kb_Mo_find 3 (some .int) 5 D q [.ref ho, .int (nI p_), .int (nI i0)] [(ho, .inr (6, [.ref mb, .int (nI sz), .ref mt, .int (nI ln), .ref mw, .int (nI wn), .ref mc, .ref mk, .ref m1, .ref m2, .ref ms, .int (nI dp), .ref mu, .ref mi, .ref mr, .ref mn, .ref mp, .int (nI st_), .int lo_, .int (nI im), .int (nB ex), .ref mj, .int (nI en), .ref me, .ref mh, .int (nB ds)])), (mt, .inl (q 0, 24, .inl (fun x_ => nI (tx x_)))), (mc, .inl (q 0, 3, .inl (fun x_ => nI (ct x_)))), (mk, .inl (q 0, 384, .inl (fun x_ => nI (kd x_)))), (m1, .inl (q 0, 384, .inl (fun x_ => nI (on x_)))), (m2, .inl (q 0, 384, .inl (fun x_ => nI (tw x_)))), (ms, .inl (q 0, 1152, .inl se)), (mj, .inl (q 0, 24, .inl (fun x_ => nI (sj x_)))), (me, .inl (q 0, 3200, .inl es)), (mh, .inl (q 0, 25, .inl th))] (fun r u => mo_is ln (va_cpy tx sj 0 0 ln) ((nd_all NL).getD (NL.length - 1) dm_eps) (fun j => u.1 (25 * (NL.length - 1) + j)) ∧ r = sp_find (mo_G u.1 (25 * (NL.length - 1))) (ln + 1 - i0) i0) (fun u => [(ho, .inr (6, [.ref mb, .int (nI sz), .ref mt, .int (nI ln), .ref mw, .int (nI wn), .ref mc, .ref mk, .ref m1, .ref m2, .ref ms, .int (nI dp), .ref mu, .ref mi, .ref mr, .ref mn, .ref mp, .int (nI st_), .int lo_, .int (nI im), .int (nB ex), .ref mj, .int (nI ln), .ref me, .ref mh, .int (nB ds)])), (mt, .inl (q 0, 24, .inl (fun x_ => nI (tx x_)))), (mc, .inl (q 0, 3, .inl (fun x_ => nI (ct x_)))), (mk, .inl (q 0, 384, .inl (fun x_ => nI (kd x_)))), (m1, .inl (q 0, 384, .inl (fun x_ => nI (on x_)))), (m2, .inl (q 0, 384, .inl (fun x_ => nI (tw x_)))), (ms, .inl (q 0, 1152, .inl se)), (mj, .inl (q 0, 24, .inl (fun x_ => nI ((va_cpy tx sj 0 0 ln) x_)))), (me, .inl (q 0, 3200, .inl u.1)), (mh, .inl (q 0, 25, .inl u.2))]) := by
  intro sz_
  refine kz_go (by decide +kernel) (Nat.le_of_ble_eq_true rfl) ?_
  intro p e s m below meth c ls args A Q H locs hQ hA X U hl
  have hx := X.1
  have hb := X.2.1
  have hl : lv_has ls 3 [(0, .ref ho), (1, .int (nI p_)), (2, .int (nI i0))] := hl
  have hN128 := htab.1
  refine lv_iload_n hx hb kd_Mo_find_0 rfl (lv_at hl 1 rfl) ?_
  refine kz_nlt X (by omega) kd_Mo_find_1 ?_
  refine lv_iload_n hx hb kd_Mo_find_4 rfl (lv_at hl 1 rfl) ?_
  refine kz_ic X 1 kd_Mo_find_5 (by decide) ?_
  refine kz_icgt X (by omega) (by omega) kd_Mo_find_6 rfl (fun h6 => absurd h6 (by omega)) (fun h6 => ?_)
  refine lv_iload_n hx hb kd_Mo_find_9 rfl (lv_at hl 2 rfl) ?_
  refine kz_nlt X (by omega) kd_Mo_find_10 ?_
  refine lv_iload_n hx hb kd_Mo_find_13 rfl (lv_at hl 2 rfl) ?_
  refine lv_aload_n hx hb kd_Mo_find_14 rfl (lv_at hl 0 rfl) ?_
  refine kg_Mo_139 X U 0 rfl rfl kd_Mo_find_15 ?_
  refine kz_icle X (by omega) (by omega) kd_Mo_find_18 rfl (fun h18 => ?_) (fun h18 => absurd h18 (by omega))
  refine lv_aload_n hx hb kd_Mo_find_23 rfl (lv_at hl 0 rfl) ?_
  refine lv_aload_n hx hb kd_Mo_find_24 rfl (lv_at hl 0 rfl) ?_
  refine lv_iload_n hx hb kd_Mo_find_25 rfl (lv_at hl 1 rfl) ?_
  refine kz_cVi (av := [.int (nI p_)]) (rest := [.ref ho]) (wr := []) X U hl.1 (cm_Mo_lookAtText l D q ho mb mt mw mc mk m1 m2 ms mu mi mr mn mp mj me mh sz ln wn dp st_ im en lo_ ex ds p_ tx sj ct kd on tw NL se es th hp_ hln hct hN1 htab htx) (by decide) (by decide) ⟨by decide, by decide⟩ tb_598 tb_600 tb_s36 0 rfl rfl tb_11 tb_601 kq_Mo_lookAtText [0, 1, 2, 3, 4, 5, 6, 7, 8, 9] [] (by decide) rfl rfl (by decide) (by decide) rfl (Nat.le_of_ble_eq_true rfl) kd_Mo_find_26 (fun rv u H locs hu U => ?_)
  obtain ⟨hu1, hu2⟩ := hu
  subst hu1
  have hA_ := hu2 (NL.length - 1) (by omega)
  have U : kz_U D q s A [(ho, .inr (6, [.ref mb, .int (nI sz), .ref mt, .int (nI ln), .ref mw, .int (nI wn), .ref mc, .ref mk, .ref m1, .ref m2, .ref ms, .int (nI dp), .ref mu, .ref mi, .ref mr, .ref mn, .ref mp, .int (nI st_), .int lo_, .int (nI im), .int (nB ex), .ref mj, .int (nI ln), .ref me, .ref mh, .int (nB ds)])), (mt, .inl (q 0, 24, .inl (fun x_ => nI (tx x_)))), (mc, .inl (q 0, 3, .inl (fun x_ => nI (ct x_)))), (mk, .inl (q 0, 384, .inl (fun x_ => nI (kd x_)))), (m1, .inl (q 0, 384, .inl (fun x_ => nI (on x_)))), (m2, .inl (q 0, 384, .inl (fun x_ => nI (tw x_)))), (ms, .inl (q 0, 1152, .inl se)), (mj, .inl (q 0, 24, .inl (fun x_ => nI ((va_cpy tx sj 0 0 ln) x_)))), (me, .inl (q 0, 3200, .inl u.1)), (mh, .inl (q 0, 25, .inl u.2))] H locs := U
  refine lv_iload_n hx hb kd_Mo_find_29 rfl (lv_at hl 2 rfl) ?_
  refine kz_cVi (av := [.int (nI (25 * (NL.length - 1))), .int (nI i0)]) (rest := []) (wr := [(mt, .inl (q 0, 24, .inl (fun x_ => nI (tx x_)))), (mc, .inl (q 0, 3, .inl (fun x_ => nI (ct x_)))), (mk, .inl (q 0, 384, .inl (fun x_ => nI (kd x_)))), (m1, .inl (q 0, 384, .inl (fun x_ => nI (on x_)))), (m2, .inl (q 0, 384, .inl (fun x_ => nI (tw x_)))), (ms, .inl (q 0, 1152, .inl se)), (mj, .inl (q 0, 24, .inl (fun x_ => nI ((va_cpy tx sj 0 0 ln) x_)))), (mh, .inl (q 0, 25, .inl u.2))]) X U hl.1 (cm_Mo_found l D q ho mb mt mw mc mk m1 m2 ms mu mi mr mn mp mj me mh sz ln wn dp st_ im ln lo_ ex ds (25 * (NL.length - 1)) i0 u.1 (by omega) hln (by omega)) (by decide) (by decide) ⟨by decide, by decide⟩ tb_626 tb_628 tb_s42 0 rfl rfl tb_11 tb_629 kq_Mo_found [0, 8] [1, 2, 3, 4, 5, 6, 7, 9] (by decide) rfl rfl (by decide) (by decide) rfl (Nat.le_of_ble_eq_true rfl) kd_Mo_find_30 (fun rv _ H locs hp U => ?_)
  subst hp
  have U : kz_U D q s A [(ho, .inr (6, [.ref mb, .int (nI sz), .ref mt, .int (nI ln), .ref mw, .int (nI wn), .ref mc, .ref mk, .ref m1, .ref m2, .ref ms, .int (nI dp), .ref mu, .ref mi, .ref mr, .ref mn, .ref mp, .int (nI st_), .int lo_, .int (nI im), .int (nB ex), .ref mj, .int (nI ln), .ref me, .ref mh, .int (nB ds)])), (mt, .inl (q 0, 24, .inl (fun x_ => nI (tx x_)))), (mc, .inl (q 0, 3, .inl (fun x_ => nI (ct x_)))), (mk, .inl (q 0, 384, .inl (fun x_ => nI (kd x_)))), (m1, .inl (q 0, 384, .inl (fun x_ => nI (on x_)))), (m2, .inl (q 0, 384, .inl (fun x_ => nI (tw x_)))), (ms, .inl (q 0, 1152, .inl se)), (mj, .inl (q 0, 24, .inl (fun x_ => nI ((va_cpy tx sj 0 0 ln) x_)))), (me, .inl (q 0, 3200, .inl u.1)), (mh, .inl (q 0, 25, .inl u.2))] H locs := U.sub [8, 0, 1, 2, 3, 4, 5, 6, 9, 7] (by decide) rfl
  exact kz_ei hQ hA X U u rfl (⟨hA_, mo_fd_sp hln hA_ _ _ (by omega)⟩) kd_Mo_find_33

set_option maxHeartbeats 4000000 in
set_option maxRecDepth 100000 in
theorem cm_Mo_earliest (l : Launch) (D : va_G) (q : Nat → ClassId) (ho mb mt mw mc mk m1 m2 ms mu mi mr mn mp mj me mh : Nat) (sz ln wn dp st_ im en : Nat) (lo_ : Int32) (ex ds : Bool) (p_ : Nat) (tx sj ct kd on tw : Nat → Nat) (NL : List nd_N) (se es th : Nat → Int32) (hp_ : p_ ≤ 1) (hln : ln ≤ 24) (hct : ct p_ = NL.length) (hN1 : 0 < NL.length) (htab : nd_tab (128 * p_) NL kd on tw se) (htx : ∀ j, j < ln → 32 ≤ tx j ∧ tx j < 128) : kz_Mi (S := (Nat → Int32) × (Nat → Int32)) l ky_Mo_earliest kb_Mo_earliest 5 (some .int) 5 D q [.ref ho, .int (nI p_)] [(ho, .inr (6, [.ref mb, .int (nI sz), .ref mt, .int (nI ln), .ref mw, .int (nI wn), .ref mc, .ref mk, .ref m1, .ref m2, .ref ms, .int (nI dp), .ref mu, .ref mi, .ref mr, .ref mn, .ref mp, .int (nI st_), .int lo_, .int (nI im), .int (nB ex), .ref mj, .int (nI en), .ref me, .ref mh, .int (nB ds)])), (mt, .inl (q 0, 24, .inl (fun x_ => nI (tx x_)))), (mc, .inl (q 0, 3, .inl (fun x_ => nI (ct x_)))), (mk, .inl (q 0, 384, .inl (fun x_ => nI (kd x_)))), (m1, .inl (q 0, 384, .inl (fun x_ => nI (on x_)))), (m2, .inl (q 0, 384, .inl (fun x_ => nI (tw x_)))), (ms, .inl (q 0, 1152, .inl se)), (mj, .inl (q 0, 24, .inl (fun x_ => nI (sj x_)))), (me, .inl (q 0, 3200, .inl es)), (mh, .inl (q 0, 25, .inl th))] (fun r u => mo_is ln (va_cpy tx sj 0 0 ln) ((nd_all NL).getD (NL.length - 1) dm_eps) (fun j => u.1 (25 * (NL.length - 1) + j)) ∧ r = sp_ear (mo_G u.1 (25 * (NL.length - 1))) (ln + 1) 0) (fun u => [(ho, .inr (6, [.ref mb, .int (nI sz), .ref mt, .int (nI ln), .ref mw, .int (nI wn), .ref mc, .ref mk, .ref m1, .ref m2, .ref ms, .int (nI dp), .ref mu, .ref mi, .ref mr, .ref mn, .ref mp, .int (nI st_), .int lo_, .int (nI im), .int (nB ex), .ref mj, .int (nI ln), .ref me, .ref mh, .int (nB ds)])), (mt, .inl (q 0, 24, .inl (fun x_ => nI (tx x_)))), (mc, .inl (q 0, 3, .inl (fun x_ => nI (ct x_)))), (mk, .inl (q 0, 384, .inl (fun x_ => nI (kd x_)))), (m1, .inl (q 0, 384, .inl (fun x_ => nI (on x_)))), (m2, .inl (q 0, 384, .inl (fun x_ => nI (tw x_)))), (ms, .inl (q 0, 1152, .inl se)), (mj, .inl (q 0, 24, .inl (fun x_ => nI ((va_cpy tx sj 0 0 ln) x_)))), (me, .inl (q 0, 3200, .inl u.1)), (mh, .inl (q 0, 25, .inl u.2))]) := by
  intro sz_
  refine kz_go (by decide +kernel) (Nat.le_of_ble_eq_true rfl) ?_
  intro p e s m below meth c ls args A Q H locs hQ hA X U hl
  have hx := X.1
  have hb := X.2.1
  have hl : lv_has ls 5 [(0, .ref ho), (1, .int (nI p_))] := hl
  have hN128 := htab.1
  refine lv_iload_n hx hb kd_Mo_earliest_0 rfl (lv_at hl 1 rfl) ?_
  refine kz_nlt X (by omega) kd_Mo_earliest_1 ?_
  refine lv_iload_n hx hb kd_Mo_earliest_4 rfl (lv_at hl 1 rfl) ?_
  refine kz_ic X 1 kd_Mo_earliest_5 (by decide) ?_
  refine kz_icle X (by omega) (by omega) kd_Mo_earliest_6 rfl (fun h6 => ?_) (fun h6 => absurd h6 (by omega))
  refine lv_aload_n hx hb kd_Mo_earliest_11 rfl (lv_at hl 0 rfl) ?_
  refine lv_iload_n hx hb kd_Mo_earliest_12 rfl (lv_at hl 1 rfl) ?_
  refine kz_cVi (av := [.int (nI p_)]) (rest := []) (wr := []) X U hl.1 (cm_Mo_lookAtText l D q ho mb mt mw mc mk m1 m2 ms mu mi mr mn mp mj me mh sz ln wn dp st_ im en lo_ ex ds p_ tx sj ct kd on tw NL se es th hp_ hln hct hN1 htab htx) (by decide) (by decide) ⟨by decide, by decide⟩ tb_598 tb_600 tb_s36 0 rfl rfl tb_11 tb_601 kq_Mo_lookAtText [0, 1, 2, 3, 4, 5, 6, 7, 8, 9] [] (by decide) rfl rfl (by decide) (by decide) rfl (Nat.le_of_ble_eq_true rfl) kd_Mo_earliest_13 (fun rv u H locs hu U => ?_)
  obtain ⟨hu1, hu2⟩ := hu
  subst hu1
  have hA_ := hu2 (NL.length - 1) (by omega)
  have U : kz_U D q s A [(ho, .inr (6, [.ref mb, .int (nI sz), .ref mt, .int (nI ln), .ref mw, .int (nI wn), .ref mc, .ref mk, .ref m1, .ref m2, .ref ms, .int (nI dp), .ref mu, .ref mi, .ref mr, .ref mn, .ref mp, .int (nI st_), .int lo_, .int (nI im), .int (nB ex), .ref mj, .int (nI ln), .ref me, .ref mh, .int (nB ds)])), (mt, .inl (q 0, 24, .inl (fun x_ => nI (tx x_)))), (mc, .inl (q 0, 3, .inl (fun x_ => nI (ct x_)))), (mk, .inl (q 0, 384, .inl (fun x_ => nI (kd x_)))), (m1, .inl (q 0, 384, .inl (fun x_ => nI (on x_)))), (m2, .inl (q 0, 384, .inl (fun x_ => nI (tw x_)))), (ms, .inl (q 0, 1152, .inl se)), (mj, .inl (q 0, 24, .inl (fun x_ => nI ((va_cpy tx sj 0 0 ln) x_)))), (me, .inl (q 0, 3200, .inl u.1)), (mh, .inl (q 0, 25, .inl u.2))] H locs := U
  refine lv_istore_n hx hb kd_Mo_earliest_16 rfl hl (by decide) rfl (fun ls hl => ?_)
  have hl : lv_has ls 5 [(2, .int (nI (25 * (NL.length - 1)))), (0, .ref ho), (1, .int (nI p_))] := hl
  refine kz_ic X 0 kd_Mo_earliest_17 (by decide) ?_
  refine lv_istore_n hx hb kd_Mo_earliest_18 rfl hl (by decide) rfl (fun ls hl => ?_)
  have hl : lv_has ls 5 [(3, .int (nI 0)), (2, .int (nI (25 * (NL.length - 1)))), (0, .ref ho), (1, .int (nI p_))] := hl
  refine kz_ic X 0 kd_Mo_earliest_19 (by decide) ?_
  refine lv_istore hx hb kd_Mo_earliest_20 hl (by decide) rfl (fun ls hl => ?_)
  have hl : lv_has ls 5 [(4, .int (nI 0)), (3, .int (nI 0)), (2, .int (nI (25 * (NL.length - 1)))), (0, .ref ho), (1, .int (nI p_))] := hl
  have loop22 : ∀ (fuel : Nat) (i : Nat) (ls : Array Slot) (H : Heap) (locs : List Loc), ln + 2 - i < fuel → (i ≤ ln + 1) → lv_has ls 5 [(4, .int (nI i)), (3, .int (mo_or u.1 (25 * (NL.length - 1)) i)), (2, .int (nI (25 * (NL.length - 1)))), (0, .ref ho)] → kz_U D q s A [(ho, .inr (6, [.ref mb, .int (nI sz), .ref mt, .int (nI ln), .ref mw, .int (nI wn), .ref mc, .ref mk, .ref m1, .ref m2, .ref ms, .int (nI dp), .ref mu, .ref mi, .ref mr, .ref mn, .ref mp, .int (nI st_), .int lo_, .int (nI im), .int (nB ex), .ref mj, .int (nI ln), .ref me, .ref mh, .int (nB ds)])), (mt, .inl (q 0, 24, .inl (fun x_ => nI (tx x_)))), (mc, .inl (q 0, 3, .inl (fun x_ => nI (ct x_)))), (mk, .inl (q 0, 384, .inl (fun x_ => nI (kd x_)))), (m1, .inl (q 0, 384, .inl (fun x_ => nI (on x_)))), (m2, .inl (q 0, 384, .inl (fun x_ => nI (tw x_)))), (ms, .inl (q 0, 1152, .inl se)), (mj, .inl (q 0, 24, .inl (fun x_ => nI ((va_cpy tx sj 0 0 ln) x_)))), (me, .inl (q 0, 3200, .inl u.1)), (mh, .inl (q 0, 25, .inl u.2))] H locs → W p l e (kz_rm 5) s m args below meth c H locs 0 0 Q (F0 m 22 ls []) := by
    intro fuel
    induction fuel with
    | zero => intro i ls H locs hme; exact absurd hme (Nat.not_lt_zero _)
    | succ fuel ih22 =>
      intro i ls H locs hme hi hl U
      refine lv_iload hx hb kd_Mo_earliest_22 (lv_at hl 0 rfl) ?_
      refine lv_aload_n hx hb kd_Mo_earliest_24 rfl (lv_at hl 3 rfl) ?_
      refine kg_Mo_142 X U 0 rfl rfl kd_Mo_earliest_25 ?_
      refine kz_icgt X (by omega) (by omega) kd_Mo_earliest_28 rfl (fun h28 => ?_) (fun h28 => ?_)
      · refine kz_ic X 0 kd_Mo_earliest_49 (by decide) ?_
        refine lv_istore hx hb kd_Mo_earliest_50 hl (by decide) rfl (fun ls hl => ?_)
        have hl : lv_has ls 5 [(4, .int (nI 0)), (3, .int (mo_or u.1 (25 * (NL.length - 1)) i)), (2, .int (nI (25 * (NL.length - 1)))), (0, .ref ho)] := hl
        have loop52 : ∀ (fuel : Nat) (j : Nat) (ls : Array Slot) (H : Heap) (locs : List Loc), ln + 2 - j < fuel → (j ≤ ln + 1) → (sp_ear (mo_G u.1 (25 * (NL.length - 1))) (ln + 1) 0 = sp_ear (mo_G u.1 (25 * (NL.length - 1))) (ln + 1 - j) j) → lv_has ls 5 [(4, .int (nI j)), (3, .int (mo_or u.1 (25 * (NL.length - 1)) i)), (0, .ref ho)] → kz_U D q s A [(ho, .inr (6, [.ref mb, .int (nI sz), .ref mt, .int (nI ln), .ref mw, .int (nI wn), .ref mc, .ref mk, .ref m1, .ref m2, .ref ms, .int (nI dp), .ref mu, .ref mi, .ref mr, .ref mn, .ref mp, .int (nI st_), .int lo_, .int (nI im), .int (nB ex), .ref mj, .int (nI ln), .ref me, .ref mh, .int (nB ds)])), (mt, .inl (q 0, 24, .inl (fun x_ => nI (tx x_)))), (mc, .inl (q 0, 3, .inl (fun x_ => nI (ct x_)))), (mk, .inl (q 0, 384, .inl (fun x_ => nI (kd x_)))), (m1, .inl (q 0, 384, .inl (fun x_ => nI (on x_)))), (m2, .inl (q 0, 384, .inl (fun x_ => nI (tw x_)))), (ms, .inl (q 0, 1152, .inl se)), (mj, .inl (q 0, 24, .inl (fun x_ => nI ((va_cpy tx sj 0 0 ln) x_)))), (me, .inl (q 0, 3200, .inl u.1)), (mh, .inl (q 0, 25, .inl u.2))] H locs → W p l e (kz_rm 5) s m args below meth c H locs 0 0 Q (F0 m 52 ls []) := by
          intro fuel
          induction fuel with
          | zero => intro j ls H locs hme; exact absurd hme (Nat.not_lt_zero _)
          | succ fuel ih52 =>
            intro j ls H locs hme hj hv hl U
            refine lv_iload hx hb kd_Mo_earliest_52 (lv_at hl 0 rfl) ?_
            refine lv_aload_n hx hb kd_Mo_earliest_54 rfl (lv_at hl 2 rfl) ?_
            refine kg_Mo_142 X U 0 rfl rfl kd_Mo_earliest_55 ?_
            refine kz_icgt X (by omega) (by omega) kd_Mo_earliest_58 rfl (fun h58 => ?_) (fun h58 => ?_)
            · refine lv_bipush (v := (-2)) hx hb kd_Mo_earliest_80 (by decide) ?_
              exact kz_ei hQ hA X U u rfl (⟨hA_, by rw [hv, show ln + 1 - j = 0 by omega]; rfl⟩) kd_Mo_earliest_82
            · refine lv_iload_n hx hb kd_Mo_earliest_61 rfl (lv_at hl 1 rfl) ?_
              refine lv_iload hx hb kd_Mo_earliest_62 (lv_at hl 0 rfl) ?_
              refine lv_ishr hx hb kd_Mo_earliest_64 ?_
              refine kz_ic X 1 kd_Mo_earliest_65 (by decide) ?_
              refine lv_iand hx hb kd_Mo_earliest_66 ?_
              refine kz_top (y := nB (sp_any (mo_G u.1 (25 * (NL.length - 1))) j)) (by rw [← mo_any (by omega) hA_, show i = ln + 1 by omega]; exact has_v _ (by omega)) ?_
              refine kz_ic X 1 kd_Mo_earliest_67 (by decide) ?_
              refine kz_icneB X kd_Mo_earliest_68 rfl (fun h68 => ?_) (fun h68 => ?_)
              · refine lv_iinc (k := 0) (v := nI (j + 1)) hx hb kd_Mo_earliest_74 hl rfl (nI_add j 1) (by decide) rfl (fun ls hl => ?_)
                have hl : lv_has ls 5 [(4, .int (nI (j + 1))), (3, .int (mo_or u.1 (25 * (NL.length - 1)) i)), (0, .ref ho)] := hl
                refine lv_goto hx hb kd_Mo_earliest_77 rfl ?_
                exact ih52 (j + 1) _ _ _ (by omega) (by omega) (by rw [hv, show ln + 1 - j = (ln + 1 - (j + 1)) + 1 by omega]; exact if_neg (by rw [h68]; decide)) (lv_sub hl [0, 1, 2] rfl) U
              · refine lv_iload hx hb kd_Mo_earliest_71 (lv_at hl 0 rfl) ?_
                exact kz_ei hQ hA X U u rfl (⟨hA_, by rw [hv, show ln + 1 - j = (ln - j) + 1 by omega]; exact (if_pos h68).symm⟩) kd_Mo_earliest_73
        exact loop52 _ 0 _ _ _ (Nat.lt_succ_self _) (by omega) rfl (lv_sub hl [0, 1, 3] rfl) U
      · refine lv_iload_n hx hb kd_Mo_earliest_31 rfl (lv_at hl 1 rfl) ?_
        refine lv_aload_n hx hb kd_Mo_earliest_32 rfl (lv_at hl 3 rfl) ?_
        refine kg_Mo_52 X U 0 rfl rfl kd_Mo_earliest_33 ?_
        refine lv_iload_n hx hb kd_Mo_earliest_36 rfl (lv_at hl 2 rfl) ?_
        refine lv_iload hx hb kd_Mo_earliest_37 (lv_at hl 0 rfl) ?_
        refine kz_iadd X kd_Mo_earliest_39 ?_
        refine kz_top (y := nI (25 * (NL.length - 1) + i)) rfl ?_
        refine kz_iald (k := 25 * (NL.length - 1) + i) X U 8 rfl (by omega) (by omega) kd_Mo_earliest_40 ?_
        refine lv_ior hx hb kd_Mo_earliest_41 ?_
        refine lv_istore_n hx hb kd_Mo_earliest_42 rfl hl (by decide) rfl (fun ls hl => ?_)
        have hl : lv_has ls 5 [(3, .int ((mo_or u.1 (25 * (NL.length - 1)) i) ||| (u.1 (25 * (NL.length - 1) + i)))), (4, .int (nI i)), (2, .int (nI (25 * (NL.length - 1)))), (0, .ref ho)] := hl
        refine lv_iinc (k := 1) (v := nI (i + 1)) hx hb kd_Mo_earliest_43 hl rfl (nI_add i 1) (by decide) rfl (fun ls hl => ?_)
        have hl : lv_has ls 5 [(4, .int (nI (i + 1))), (3, .int ((mo_or u.1 (25 * (NL.length - 1)) i) ||| (u.1 (25 * (NL.length - 1) + i)))), (2, .int (nI (25 * (NL.length - 1)))), (0, .ref ho)] := hl
        refine lv_goto hx hb kd_Mo_earliest_46 rfl ?_
        exact ih22 (i + 1) _ _ _ (by omega) (by omega) (lv_sub hl [0, 1, 2, 3] rfl) U
  exact loop22 _ 0 _ _ _ (Nat.lt_succ_self _) (by omega) (lv_sub hl [0, 1, 2, 3] rfl) U

set_option maxHeartbeats 4000000 in
set_option maxRecDepth 100000 in
theorem cm_Mo_count (l : Launch) (D : va_G) (q : Nat → ClassId) (ho mb mt mw mc mk m1 m2 ms mu mi mr mn mp mj me mh : Nat) (sz ln wn dp st_ im en : Nat) (lo_ : Int32) (ex ds : Bool) (p_ : Nat) (tx sj ct kd on tw : Nat → Nat) (NL : List nd_N) (se es th : Nat → Int32) (hp_ : p_ ≤ 1) (hln : ln ≤ 24) (hct : ct p_ = NL.length) (hN1 : 0 < NL.length) (htab : nd_tab (128 * p_) NL kd on tw se) (htx : ∀ j, j < ln → 32 ≤ tx j ∧ tx j < 128) : kz_Mi (S := (Nat → Int32) × (Nat → Int32)) l ky_Mo_count kb_Mo_count 6 (some .int) 5 D q [.ref ho, .int (nI p_)] [(ho, .inr (6, [.ref mb, .int (nI sz), .ref mt, .int (nI ln), .ref mw, .int (nI wn), .ref mc, .ref mk, .ref m1, .ref m2, .ref ms, .int (nI dp), .ref mu, .ref mi, .ref mr, .ref mn, .ref mp, .int (nI st_), .int lo_, .int (nI im), .int (nB ex), .ref mj, .int (nI en), .ref me, .ref mh, .int (nB ds)])), (mt, .inl (q 0, 24, .inl (fun x_ => nI (tx x_)))), (mc, .inl (q 0, 3, .inl (fun x_ => nI (ct x_)))), (mk, .inl (q 0, 384, .inl (fun x_ => nI (kd x_)))), (m1, .inl (q 0, 384, .inl (fun x_ => nI (on x_)))), (m2, .inl (q 0, 384, .inl (fun x_ => nI (tw x_)))), (ms, .inl (q 0, 1152, .inl se)), (mj, .inl (q 0, 24, .inl (fun x_ => nI (sj x_)))), (me, .inl (q 0, 3200, .inl es)), (mh, .inl (q 0, 25, .inl th))] (fun r u => mo_is ln (va_cpy tx sj 0 0 ln) ((nd_all NL).getD (NL.length - 1) dm_eps) (fun j => u.1 (25 * (NL.length - 1) + j)) ∧ r = nI (sp_count (mo_G u.1 (25 * (NL.length - 1))) ln (ln + 1) 0)) (fun u => [(ho, .inr (6, [.ref mb, .int (nI sz), .ref mt, .int (nI ln), .ref mw, .int (nI wn), .ref mc, .ref mk, .ref m1, .ref m2, .ref ms, .int (nI dp), .ref mu, .ref mi, .ref mr, .ref mn, .ref mp, .int (nI st_), .int lo_, .int (nI im), .int (nB ex), .ref mj, .int (nI ln), .ref me, .ref mh, .int (nB ds)])), (mt, .inl (q 0, 24, .inl (fun x_ => nI (tx x_)))), (mc, .inl (q 0, 3, .inl (fun x_ => nI (ct x_)))), (mk, .inl (q 0, 384, .inl (fun x_ => nI (kd x_)))), (m1, .inl (q 0, 384, .inl (fun x_ => nI (on x_)))), (m2, .inl (q 0, 384, .inl (fun x_ => nI (tw x_)))), (ms, .inl (q 0, 1152, .inl se)), (mj, .inl (q 0, 24, .inl (fun x_ => nI ((va_cpy tx sj 0 0 ln) x_)))), (me, .inl (q 0, 3200, .inl u.1)), (mh, .inl (q 0, 25, .inl u.2))]) := by
  intro sz_
  refine kz_go (by decide +kernel) (Nat.le_of_ble_eq_true rfl) ?_
  intro p e s m below meth c ls args A Q H locs hQ hA X U hl
  have hx := X.1
  have hb := X.2.1
  have hl : lv_has ls 6 [(0, .ref ho), (1, .int (nI p_))] := hl
  have hN128 := htab.1
  refine lv_iload_n hx hb kd_Mo_count_0 rfl (lv_at hl 1 rfl) ?_
  refine kz_nlt X (by omega) kd_Mo_count_1 ?_
  refine lv_iload_n hx hb kd_Mo_count_4 rfl (lv_at hl 1 rfl) ?_
  refine kz_ic X 1 kd_Mo_count_5 (by decide) ?_
  refine kz_icle X (by omega) (by omega) kd_Mo_count_6 rfl (fun h6 => ?_) (fun h6 => absurd h6 (by omega))
  refine lv_aload_n hx hb kd_Mo_count_11 rfl (lv_at hl 0 rfl) ?_
  refine lv_iload_n hx hb kd_Mo_count_12 rfl (lv_at hl 1 rfl) ?_
  refine kz_cVi (av := [.int (nI p_)]) (rest := []) (wr := []) X U hl.1 (cm_Mo_lookAtText l D q ho mb mt mw mc mk m1 m2 ms mu mi mr mn mp mj me mh sz ln wn dp st_ im en lo_ ex ds p_ tx sj ct kd on tw NL se es th hp_ hln hct hN1 htab htx) (by decide) (by decide) ⟨by decide, by decide⟩ tb_598 tb_600 tb_s36 0 rfl rfl tb_11 tb_601 kq_Mo_lookAtText [0, 1, 2, 3, 4, 5, 6, 7, 8, 9] [] (by decide) rfl rfl (by decide) (by decide) rfl (Nat.le_of_ble_eq_true rfl) kd_Mo_count_13 (fun rv u H locs hu U => ?_)
  obtain ⟨hu1, hu2⟩ := hu
  subst hu1
  have hA_ := hu2 (NL.length - 1) (by omega)
  have U : kz_U D q s A [(ho, .inr (6, [.ref mb, .int (nI sz), .ref mt, .int (nI ln), .ref mw, .int (nI wn), .ref mc, .ref mk, .ref m1, .ref m2, .ref ms, .int (nI dp), .ref mu, .ref mi, .ref mr, .ref mn, .ref mp, .int (nI st_), .int lo_, .int (nI im), .int (nB ex), .ref mj, .int (nI ln), .ref me, .ref mh, .int (nB ds)])), (mt, .inl (q 0, 24, .inl (fun x_ => nI (tx x_)))), (mc, .inl (q 0, 3, .inl (fun x_ => nI (ct x_)))), (mk, .inl (q 0, 384, .inl (fun x_ => nI (kd x_)))), (m1, .inl (q 0, 384, .inl (fun x_ => nI (on x_)))), (m2, .inl (q 0, 384, .inl (fun x_ => nI (tw x_)))), (ms, .inl (q 0, 1152, .inl se)), (mj, .inl (q 0, 24, .inl (fun x_ => nI ((va_cpy tx sj 0 0 ln) x_)))), (me, .inl (q 0, 3200, .inl u.1)), (mh, .inl (q 0, 25, .inl u.2))] H locs := U
  refine lv_istore_n hx hb kd_Mo_count_16 rfl hl (by decide) rfl (fun ls hl => ?_)
  have hl : lv_has ls 6 [(2, .int (nI (25 * (NL.length - 1)))), (0, .ref ho), (1, .int (nI p_))] := hl
  refine kz_ic X 0 kd_Mo_count_17 (by decide) ?_
  refine lv_istore_n hx hb kd_Mo_count_18 rfl hl (by decide) rfl (fun ls hl => ?_)
  have hl : lv_has ls 6 [(3, .int (nI 0)), (2, .int (nI (25 * (NL.length - 1)))), (0, .ref ho), (1, .int (nI p_))] := hl
  refine kz_ic X 0 kd_Mo_count_19 (by decide) ?_
  refine lv_istore hx hb kd_Mo_count_20 hl (by decide) rfl (fun ls hl => ?_)
  have hl : lv_has ls 6 [(4, .int (nI 0)), (3, .int (nI 0)), (2, .int (nI (25 * (NL.length - 1)))), (0, .ref ho), (1, .int (nI p_))] := hl
  have loop22 : ∀ (fuel : Nat) (i : Nat) (c_ : Nat) (ls : Array Slot) (H : Heap) (locs : List Loc), ln + 2 - i < fuel → (i ≤ ln + 1) → (c_ ≤ i + 1) → (sp_count (mo_G u.1 (25 * (NL.length - 1))) ln (ln + 1) 0 = c_ + sp_count (mo_G u.1 (25 * (NL.length - 1))) ln (ln + 1) i) → lv_has ls 6 [(4, .int (nI i)), (3, .int (nI c_)), (2, .int (nI (25 * (NL.length - 1)))), (0, .ref ho)] → kz_U D q s A [(ho, .inr (6, [.ref mb, .int (nI sz), .ref mt, .int (nI ln), .ref mw, .int (nI wn), .ref mc, .ref mk, .ref m1, .ref m2, .ref ms, .int (nI dp), .ref mu, .ref mi, .ref mr, .ref mn, .ref mp, .int (nI st_), .int lo_, .int (nI im), .int (nB ex), .ref mj, .int (nI ln), .ref me, .ref mh, .int (nB ds)])), (mt, .inl (q 0, 24, .inl (fun x_ => nI (tx x_)))), (mc, .inl (q 0, 3, .inl (fun x_ => nI (ct x_)))), (mk, .inl (q 0, 384, .inl (fun x_ => nI (kd x_)))), (m1, .inl (q 0, 384, .inl (fun x_ => nI (on x_)))), (m2, .inl (q 0, 384, .inl (fun x_ => nI (tw x_)))), (ms, .inl (q 0, 1152, .inl se)), (mj, .inl (q 0, 24, .inl (fun x_ => nI ((va_cpy tx sj 0 0 ln) x_)))), (me, .inl (q 0, 3200, .inl u.1)), (mh, .inl (q 0, 25, .inl u.2))] H locs → W p l e (kz_rm 5) s m args below meth c H locs 0 0 Q (F0 m 22 ls []) := by
    intro fuel
    induction fuel with
    | zero => intro i c_ ls H locs hme; exact absurd hme (Nat.not_lt_zero _)
    | succ fuel ih22 =>
      intro i c_ ls H locs hme hi hc hv hl U
      refine lv_iload hx hb kd_Mo_count_22 (lv_at hl 0 rfl) ?_
      refine lv_aload_n hx hb kd_Mo_count_24 rfl (lv_at hl 3 rfl) ?_
      refine kg_Mo_142 X U 0 rfl rfl kd_Mo_count_25 ?_
      refine kz_icgt X (by omega) (by omega) kd_Mo_count_28 rfl (fun h28 => ?_) (fun h28 => ?_)
      · refine lv_iload_n hx hb kd_Mo_count_83 rfl (lv_at hl 1 rfl) ?_
        exact kz_ei hQ hA X U u rfl (⟨hA_, by rw [hv, sp_count_e (by omega)]; rfl⟩) kd_Mo_count_84
      · refine lv_aload_n hx hb kd_Mo_count_31 rfl (lv_at hl 3 rfl) ?_
        refine lv_iload_n hx hb kd_Mo_count_32 rfl (lv_at hl 2 rfl) ?_
        refine lv_iload hx hb kd_Mo_count_33 (lv_at hl 0 rfl) ?_
        refine kz_cVi (av := [.int (nI (25 * (NL.length - 1))), .int (nI i)]) (rest := []) (wr := [(mt, .inl (q 0, 24, .inl (fun x_ => nI (tx x_)))), (mc, .inl (q 0, 3, .inl (fun x_ => nI (ct x_)))), (mk, .inl (q 0, 384, .inl (fun x_ => nI (kd x_)))), (m1, .inl (q 0, 384, .inl (fun x_ => nI (on x_)))), (m2, .inl (q 0, 384, .inl (fun x_ => nI (tw x_)))), (ms, .inl (q 0, 1152, .inl se)), (mj, .inl (q 0, 24, .inl (fun x_ => nI ((va_cpy tx sj 0 0 ln) x_)))), (mh, .inl (q 0, 25, .inl u.2))]) X U hl.1 (cm_Mo_found l D q ho mb mt mw mc mk m1 m2 ms mu mi mr mn mp mj me mh sz ln wn dp st_ im ln lo_ ex ds (25 * (NL.length - 1)) i u.1 (by omega) hln (by omega)) (by decide) (by decide) ⟨by decide, by decide⟩ tb_626 tb_628 tb_s42 0 rfl rfl tb_11 tb_629 kq_Mo_found [0, 8] [1, 2, 3, 4, 5, 6, 7, 9] (by decide) rfl rfl (by decide) (by decide) rfl (Nat.le_of_ble_eq_true rfl) kd_Mo_count_35 (fun rv _ H locs hp U => ?_)
        subst hp
        have U : kz_U D q s A [(ho, .inr (6, [.ref mb, .int (nI sz), .ref mt, .int (nI ln), .ref mw, .int (nI wn), .ref mc, .ref mk, .ref m1, .ref m2, .ref ms, .int (nI dp), .ref mu, .ref mi, .ref mr, .ref mn, .ref mp, .int (nI st_), .int lo_, .int (nI im), .int (nB ex), .ref mj, .int (nI ln), .ref me, .ref mh, .int (nB ds)])), (mt, .inl (q 0, 24, .inl (fun x_ => nI (tx x_)))), (mc, .inl (q 0, 3, .inl (fun x_ => nI (ct x_)))), (mk, .inl (q 0, 384, .inl (fun x_ => nI (kd x_)))), (m1, .inl (q 0, 384, .inl (fun x_ => nI (on x_)))), (m2, .inl (q 0, 384, .inl (fun x_ => nI (tw x_)))), (ms, .inl (q 0, 1152, .inl se)), (mj, .inl (q 0, 24, .inl (fun x_ => nI ((va_cpy tx sj 0 0 ln) x_)))), (me, .inl (q 0, 3200, .inl u.1)), (mh, .inl (q 0, 25, .inl u.2))] H locs := U.sub [8, 0, 1, 2, 3, 4, 5, 6, 9, 7] (by decide) rfl
        refine lv_istore hx hb kd_Mo_count_38 hl (by decide) rfl (fun ls hl => ?_)
        have hl : lv_has ls 6 [(5, .int (mo_fd u.1 (25 * (NL.length - 1)) (ln + 1 - i) i)), (4, .int (nI i)), (3, .int (nI c_)), (2, .int (nI (25 * (NL.length - 1)))), (0, .ref ho)] := hl
        rcases mo_fd_cnt hln hA_ (ln + 1 - i) i (by omega) with ⟨hq1, hq2⟩ | ⟨j, e, hj1, hj2, hj3, hq1, hq2⟩
        · rw [hq1] at hl
          refine lv_iload hx hb kd_Mo_count_40 (lv_at hl 0 rfl) ?_
          refine lv_if_ge hx hb kd_Mo_count_42 rfl (fun h42 => absurd h42 (by decide)) (fun h42 => ?_)
          refine lv_iload_n hx hb kd_Mo_count_45 rfl (lv_at hl 2 rfl) ?_
          exact kz_ei hQ hA X U u rfl (⟨hA_, by rw [hv, hq2]; rfl⟩) kd_Mo_count_46
        · rw [hq1] at hl
          refine lv_iload hx hb kd_Mo_count_40 (lv_at hl 0 rfl) ?_
          refine kz_nge X (by omega) kd_Mo_count_42 rfl ?_
          refine lv_iinc (k := 2) (v := nI (c_ + 1)) hx hb kd_Mo_count_47 hl rfl (nI_add c_ 1) (by decide) rfl (fun ls hl => ?_)
          have hl : lv_has ls 6 [(3, .int (nI (c_ + 1))), (5, .int (nI (100 * j + e))), (4, .int (nI i)), (2, .int (nI (25 * (NL.length - 1)))), (0, .ref ho)] := hl
          refine lv_iload hx hb kd_Mo_count_50 (lv_at hl 1 rfl) ?_
          refine kz_bp X 100 kd_Mo_count_52 (by decide) ?_
          refine kz_idiv X (by omega) (by omega) (by omega) kd_Mo_count_54 ?_
          refine lv_iload hx hb kd_Mo_count_55 (lv_at hl 1 rfl) ?_
          refine kz_bp X 100 kd_Mo_count_57 (by decide) ?_
          refine kz_irem X (by omega) (by omega) (by omega) kd_Mo_count_59 ?_
          refine kz_icne X (by omega) (by omega) kd_Mo_count_60 rfl (fun h60 => ?_) (fun h60 => ?_)
          · refine lv_iload hx hb kd_Mo_count_73 (lv_at hl 1 rfl) ?_
            refine kz_bp X 100 kd_Mo_count_75 (by decide) ?_
            refine kz_irem X (by omega) (by omega) (by omega) kd_Mo_count_77 ?_
            refine lv_istore hx hb kd_Mo_count_78 hl (by decide) rfl (fun ls hl => ?_)
            have hl : lv_has ls 6 [(4, .int (nI ((100 * j + e) % 100))), (3, .int (nI (c_ + 1))), (5, .int (nI (100 * j + e))), (2, .int (nI (25 * (NL.length - 1)))), (0, .ref ho)] := hl
            refine lv_goto hx hb kd_Mo_count_80 rfl ?_
            exact ih22 ((100 * j + e) % 100) (c_ + 1) _ _ _ (by omega) (by omega) (by omega) (by rw [hv, hq2, Nat.add_assoc]; congr 2; first | (rw [if_pos (by omega)]; congr 1; omega) | (rw [if_neg (by omega)]; congr 1; omega)) (lv_sub hl [0, 1, 3, 4] rfl) U
          · refine lv_iload hx hb kd_Mo_count_63 (lv_at hl 1 rfl) ?_
            refine kz_bp X 100 kd_Mo_count_65 (by decide) ?_
            refine kz_irem X (by omega) (by omega) (by omega) kd_Mo_count_67 ?_
            refine kz_ic X 1 kd_Mo_count_68 (by decide) ?_
            refine kz_iadd X kd_Mo_count_69 ?_
            refine kz_top (y := nI ((100 * j + e) % 100 + 1)) rfl ?_
            refine lv_goto hx hb kd_Mo_count_70 rfl ?_
            refine lv_istore hx hb kd_Mo_count_78 hl (by decide) rfl (fun ls hl => ?_)
            have hl : lv_has ls 6 [(4, .int (nI ((100 * j + e) % 100 + 1))), (3, .int (nI (c_ + 1))), (5, .int (nI (100 * j + e))), (2, .int (nI (25 * (NL.length - 1)))), (0, .ref ho)] := hl
            refine lv_goto hx hb kd_Mo_count_80 rfl ?_
            exact ih22 ((100 * j + e) % 100 + 1) (c_ + 1) _ _ _ (by omega) (by omega) (by omega) (by rw [hv, hq2, Nat.add_assoc]; congr 2; first | (rw [if_pos (by omega)]; congr 1; omega) | (rw [if_neg (by omega)]; congr 1; omega)) (lv_sub hl [0, 1, 3, 4] rfl) U
  exact loop22 _ 0 0 _ _ _ (Nat.lt_succ_self _) (by omega) (by omega) (by rw [Nat.zero_add]) (lv_sub hl [0, 1, 2, 3] rfl) U
