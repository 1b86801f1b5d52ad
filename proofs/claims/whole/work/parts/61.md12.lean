def md_tkR (R : md_R) (c : Option Nat) : Bool × md_R := md_tk R.1 R.2.1 R.2.2.1 R.2.2.2.1 R.2.2.2.2.1 R.2.2.2.2.2.1 R.2.2.2.2.2.2.1 R.2.2.2.2.2.2.2.1 R.2.2.2.2.2.2.2.2.1 R.2.2.2.2.2.2.2.2.2.1 R.2.2.2.2.2.2.2.2.2.2.1 R.2.2.2.2.2.2.2.2.2.2.2 c
def md_okR (R : md_R) : Prop := md_ok R.1 R.2.1 R.2.2.1 R.2.2.2.1 R.2.2.2.2.1 R.2.2.2.2.2.1 R.2.2.2.2.2.2.1 R.2.2.2.2.2.2.2.1 R.2.2.2.2.2.2.2.2.1 R.2.2.2.2.2.2.2.2.2.1
def md_at (bf : Nat → Nat) (sz pl : Nat) : Option Nat := if pl < sz then some (bf pl) else none
/-- the reading: the place where it stops, and what it then holds -/
def md_go (bf : Nat → Nat) (sz : Nat) : Nat → Nat → md_R → Nat × md_R
  | 0, pl, R => (pl, R)
  | n + 1, pl, R => if (md_tkR R (md_at bf sz pl)).1 = true then md_go bf sz n (pl + 1) (md_tkR R (md_at bf sz pl)).2 else (pl, (md_tkR R (md_at bf sz pl)).2)
/-- k of the nodes have been copied to the places of pattern p -/
def md_cq (p : Nat) (NL : List md_N) (b : md_B) (kd on tw : Nat → Nat) (se : Nat → Int32) (k : Nat) : Prop := NL.length ≤ 128 ∧ (∀ j (h : j < NL.length), kd (256 + j) = (NL[j]).1 ∧ on (256 + j) = (NL[j]).2.1 ∧ tw (256 + j) = (NL[j]).2.2.1 ∧ ∀ w, w < 3 → se (3 * (256 + j) + w) = (NL[j]).2.2.2 w) ∧ (∀ j (h : j < NL.length), j < k → kd (128 * p + j) = (NL[j]).1 ∧ on (128 * p + j) = (NL[j]).2.1 ∧ tw (128 * p + j) = (NL[j]).2.2.1 ∧ ∀ w, w < 3 → se (3 * (128 * p + j) + w) = (NL[j]).2.2.2 w) ∧ (∀ i, i < 256 → ¬ (128 * p ≤ i ∧ i < 128 * p + 128) → kd i = b.1 i ∧ on i = b.2.1 i ∧ tw i = b.2.2.1 i) ∧ ∀ i, i < 768 → ¬ (384 * p ≤ i ∧ i < 384 * p + 384) → se i = b.2.2.2 i
theorem md_cq_0 {p : Nat} {NL : List md_N} {b : md_B} {kd on tw : Nat → Nat} {se : Nat → Int32} (h : md_T NL b kd on tw se) : md_cq p NL b kd on tw se 0 := ⟨h.1, h.2.1, fun j h1 h2 => absurd h2 (Nat.not_lt_zero _), fun i hi _ => h.2.2.1 i hi, fun i hi _ => h.2.2.2 i hi⟩
theorem md_cq_s {p : Nat} {NL : List md_N} {b : md_B} {kd on tw : Nat → Nat} {se sw : Nat → Int32} {k : Nat} (hp : p ≤ 1) (h : md_cq p NL b kd on tw se k) (hk : k < NL.length) (h1 : ∀ w, w < 3 → sw (3 * (128 * p + k) + w) = se (3 * (256 + k) + w)) (h2 : ∀ i, ¬ (3 * (128 * p + k) ≤ i ∧ i < 3 * (128 * p + k) + 3) → sw i = se i) : md_cq p NL b (va_up kd (128 * p + k) (kd (256 + k))) (va_up on (128 * p + k) (on (256 + k))) (va_up tw (128 * p + k) (tw (256 + k))) sw (k + 1) := by
  obtain ⟨a1, a2, a3, a4, a5⟩ := h
  refine ⟨a1, ?_, ?_, ?_, ?_⟩
  · intro j hj
    have z := a2 j hj
    rw [va_up_ne' (by omega), va_up_ne' (by omega), va_up_ne' (by omega)]
    exact ⟨z.1, z.2.1, z.2.2.1, fun w hw => by rw [h2 _ (by omega)]; exact z.2.2.2 w hw⟩
  · intro j hj hjk
    by_cases e : j = k
    · subst e
      have z := a2 j hj
      rw [va_up_eq', va_up_eq', va_up_eq']
      exact ⟨z.1, z.2.1, z.2.2.1, fun w hw => by rw [h1 w hw]; exact z.2.2.2 w hw⟩
    · have z := a3 j hj (by omega)
      rw [va_up_ne' (by omega), va_up_ne' (by omega), va_up_ne' (by omega)]
      exact ⟨z.1, z.2.1, z.2.2.1, fun w hw => by rw [h2 _ (by omega)]; exact z.2.2.2 w hw⟩
  · intro i hi hn
    rw [va_up_ne' (by omega), va_up_ne' (by omega), va_up_ne' (by omega)]
    exact a4 i hi hn
  · intro i hi hn
    rw [h2 i (by omega)]
    exact a5 i hi hn

theorem md_go_t {bf : Nat → Nat} {sz n pl : Nat} {R R' : md_R} (h : (md_tkR R (md_at bf sz pl)).1 = true) (e : R' = (md_tkR R (md_at bf sz pl)).2) : md_go bf sz (n + 1) pl R = md_go bf sz n (pl + 1) R' := by subst e; exact if_pos h
theorem md_go_f {bf : Nat → Nat} {sz n pl : Nat} {R R' : md_R} (h : (md_tkR R (md_at bf sz pl)).1 = false) (e : R' = (md_tkR R (md_at bf sz pl)).2) : md_go bf sz (n + 1) pl R = (pl, R') := by subst e; exact if_neg (by rw [h]; decide)
theorem md_at_in {bf : Nat → Nat} {sz pl : Nat} (h : ∀ j, j < sz → 32 ≤ bf j ∧ bf j < 127) : ∀ ch, md_at bf sz pl = some ch → 32 ≤ ch ∧ ch < 127 := by
  intro ch e
  unfold md_at at e
  split at e
  · injection e with e
    subst e
    exact h _ (by assumption)
  · cases e

set_option maxHeartbeats 4000000 in
set_option maxRecDepth 100000 in
theorem cm_Mo_pattern (l : Launch) (D : va_G) (q : Nat → ClassId) (ho mb mt mw mc mk m1 m2 ms mu mi mr mn mp mj me mh : Nat) (sz ln wn dp st_ im en : Nat) (lo_ : Int32) (ex ds : Bool) (p_ : Nat) (bf ct kd on tw : Nat → Nat) (se : Nat → Int32) (un ii rw_ no pc_ : Nat → Nat) (I : Nat → md_R → Prop) (hp_ : p_ ≤ 1) (hsz : sz ≤ 40) (hbf : ∀ j, j < sz → 32 ≤ bf j ∧ bf j < 127) (hI0 : I 0 ([], 0, va_up un 0 0, va_up ii 0 0, va_up rw_ 0 0, va_up no 0 0, va_up pc_ 0 0, 0, lo_, im, ex, ds)) (hI : ∀ pl R, I pl R → pl ≤ sz → md_okR R) (hIs : ∀ pl R, I pl R → pl ≤ sz → (md_tkR R (md_at bf sz pl)).1 = true → I (pl + 1) (md_tkR R (md_at bf sz pl)).2) : kz_Mi (S := (Nat → Nat) × md_R × ((Nat → Nat) × (Nat → Nat) × (Nat → Nat) × (Nat → Int32))) l ky_Mo_pattern kb_Mo_pattern 6 (some .int) 6 D q [.ref ho, .int (nI p_)] [(ho, .inr (6, [.ref mb, .int (nI sz), .ref mt, .int (nI ln), .ref mw, .int (nI wn), .ref mc, .ref mk, .ref m1, .ref m2, .ref ms, .int (nI dp), .ref mu, .ref mi, .ref mr, .ref mn, .ref mp, .int (nI st_), .int lo_, .int (nI im), .int (nB ex), .ref mj, .int (nI en), .ref me, .ref mh, .int (nB ds)])), (mc, .inl (q 0, 3, .inl (fun x_ => nI (ct x_)))), (mk, .inl (q 0, 384, .inl (fun x_ => nI (kd x_)))), (m1, .inl (q 0, 384, .inl (fun x_ => nI (on x_)))), (m2, .inl (q 0, 384, .inl (fun x_ => nI (tw x_)))), (ms, .inl (q 0, 1152, .inl se)), (mu, .inl (q 0, 42, .inl (fun x_ => nI (un x_) + (-1)))), (mi, .inl (q 0, 42, .inl (fun x_ => nI (ii x_) + (-1)))), (mr, .inl (q 0, 42, .inl (fun x_ => nI (rw_ x_) + (-1)))), (mn, .inl (q 0, 42, .inl (fun x_ => nI (no x_)))), (mp, .inl (q 0, 42, .inl (fun x_ => nI (pc_ x_) + (-1)))), (mb, .inl (q 0, 40, .inl (fun x_ => nI (bf x_))))] (fun r u => u.2.1 = (md_go bf sz (sz + 1) 0 ([], 0, va_up un 0 0, va_up ii 0 0, va_up rw_ 0 0, va_up no 0 0, va_up pc_ 0 0, 0, lo_, im, ex, ds)).2 ∧ ((sz < (md_go bf sz (sz + 1) 0 ([], 0, va_up un 0 0, va_up ii 0 0, va_up rw_ 0 0, va_up no 0 0, va_up pc_ 0 0, 0, lo_, im, ex, ds)).1 ∧ r = nI 0 ∧ u.1 = va_up (va_up ct 2 (md_go bf sz (sz + 1) 0 ([], 0, va_up un 0 0, va_up ii 0 0, va_up rw_ 0 0, va_up no 0 0, va_up pc_ 0 0, 0, lo_, im, ex, ds)).2.1.length) p_ (md_go bf sz (sz + 1) 0 ([], 0, va_up un 0 0, va_up ii 0 0, va_up rw_ 0 0, va_up no 0 0, va_up pc_ 0 0, 0, lo_, im, ex, ds)).2.1.length ∧ md_cq p_ (md_go bf sz (sz + 1) 0 ([], 0, va_up un 0 0, va_up ii 0 0, va_up rw_ 0 0, va_up no 0 0, va_up pc_ 0 0, 0, lo_, im, ex, ds)).2.1 (kd, on, tw, se) u.2.2.1 u.2.2.2.1 u.2.2.2.2.1 u.2.2.2.2.2 (md_go bf sz (sz + 1) 0 ([], 0, va_up un 0 0, va_up ii 0 0, va_up rw_ 0 0, va_up no 0 0, va_up pc_ 0 0, 0, lo_, im, ex, ds)).2.1.length) ∨ (¬ sz < (md_go bf sz (sz + 1) 0 ([], 0, va_up un 0 0, va_up ii 0 0, va_up rw_ 0 0, va_up no 0 0, va_up pc_ 0 0, 0, lo_, im, ex, ds)).1 ∧ r = (-10) - nI (md_go bf sz (sz + 1) 0 ([], 0, va_up un 0 0, va_up ii 0 0, va_up rw_ 0 0, va_up no 0 0, va_up pc_ 0 0, 0, lo_, im, ex, ds)).1 ∧ u.1 = va_up ct 2 (md_go bf sz (sz + 1) 0 ([], 0, va_up un 0 0, va_up ii 0 0, va_up rw_ 0 0, va_up no 0 0, va_up pc_ 0 0, 0, lo_, im, ex, ds)).2.1.length ∧ md_T (md_go bf sz (sz + 1) 0 ([], 0, va_up un 0 0, va_up ii 0 0, va_up rw_ 0 0, va_up no 0 0, va_up pc_ 0 0, 0, lo_, im, ex, ds)).2.1 (kd, on, tw, se) u.2.2.1 u.2.2.2.1 u.2.2.2.2.1 u.2.2.2.2.2))) (fun u => [(ho, .inr (6, [.ref mb, .int (nI 0), .ref mt, .int (nI ln), .ref mw, .int (nI wn), .ref mc, .ref mk, .ref m1, .ref m2, .ref ms, .int (nI u.2.1.2.1), .ref mu, .ref mi, .ref mr, .ref mn, .ref mp, .int (nI u.2.1.2.2.2.2.2.2.2.1), .int u.2.1.2.2.2.2.2.2.2.2.1, .int (nI u.2.1.2.2.2.2.2.2.2.2.2.1), .int (nB u.2.1.2.2.2.2.2.2.2.2.2.2.1), .ref mj, .int (nI en), .ref me, .ref mh, .int (nB u.2.1.2.2.2.2.2.2.2.2.2.2.2)])), (mc, .inl (q 0, 3, .inl (fun x_ => nI (u.1 x_)))), (mk, .inl (q 0, 384, .inl (fun x_ => nI (u.2.2.1 x_)))), (m1, .inl (q 0, 384, .inl (fun x_ => nI (u.2.2.2.1 x_)))), (m2, .inl (q 0, 384, .inl (fun x_ => nI (u.2.2.2.2.1 x_)))), (ms, .inl (q 0, 1152, .inl u.2.2.2.2.2)), (mu, .inl (q 0, 42, .inl (fun x_ => nI (u.2.1.2.2.1 x_) + (-1)))), (mi, .inl (q 0, 42, .inl (fun x_ => nI (u.2.1.2.2.2.1 x_) + (-1)))), (mr, .inl (q 0, 42, .inl (fun x_ => nI (u.2.1.2.2.2.2.1 x_) + (-1)))), (mn, .inl (q 0, 42, .inl (fun x_ => nI (u.2.1.2.2.2.2.2.1 x_)))), (mp, .inl (q 0, 42, .inl (fun x_ => nI (u.2.1.2.2.2.2.2.2.1 x_) + (-1)))), (mb, .inl (q 0, 40, .inl (fun x_ => nI (bf x_))))]) := by
  intro sz_
  refine kz_go (by decide +kernel) (Nat.le_of_ble_eq_true rfl) ?_
  intro p e s m below meth c ls args A Q H locs hQ hA X U hl
  have hx := X.1
  have hb := X.2.1
  have hl : lv_has ls 6 [(0, .ref ho), (1, .int (nI p_))] := hl
  have hlen_ : ∀ (R : md_R) (a b c : Nat → Nat) (d : Nat → Int32), md_T R.1 (kd, on, tw, se) a b c d → R.1.length ≤ 128 := fun R a b c d h => h.1
  have join73 : ∀ (pl : Nat) (R : md_R) (kd2 : Nat → Nat) (on2 : Nat → Nat) (tw2 : Nat → Nat) (se2 : Nat → Int32) (ls : Array Slot) (H : Heap) (locs : List Loc), (md_go bf sz (sz + 1) 0 ([], 0, va_up un 0 0, va_up ii 0 0, va_up rw_ 0 0, va_up no 0 0, va_up pc_ 0 0, 0, lo_, im, ex, ds) = (pl, R)) → (md_T R.1 (kd, on, tw, se) kd2 on2 tw2 se2) → (pl ≤ sz + 1) → lv_has ls 6 [(2, .int (nI pl)), (0, .ref ho), (1, .int (nI p_))] → kz_U D q s A [(ho, .inr (6, [.ref mb, .int (nI sz), .ref mt, .int (nI ln), .ref mw, .int (nI wn), .ref mc, .ref mk, .ref m1, .ref m2, .ref ms, .int (nI R.2.1), .ref mu, .ref mi, .ref mr, .ref mn, .ref mp, .int (nI R.2.2.2.2.2.2.2.1), .int R.2.2.2.2.2.2.2.2.1, .int (nI R.2.2.2.2.2.2.2.2.2.1), .int (nB R.2.2.2.2.2.2.2.2.2.2.1), .ref mj, .int (nI en), .ref me, .ref mh, .int (nB R.2.2.2.2.2.2.2.2.2.2.2)])), (mc, .inl (q 0, 3, .inl (fun x_ => nI ((va_up ct 2 R.1.length) x_)))), (mk, .inl (q 0, 384, .inl (fun x_ => nI (kd2 x_)))), (m1, .inl (q 0, 384, .inl (fun x_ => nI (on2 x_)))), (m2, .inl (q 0, 384, .inl (fun x_ => nI (tw2 x_)))), (ms, .inl (q 0, 1152, .inl se2)), (mu, .inl (q 0, 42, .inl (fun x_ => nI (R.2.2.1 x_) + (-1)))), (mi, .inl (q 0, 42, .inl (fun x_ => nI (R.2.2.2.1 x_) + (-1)))), (mr, .inl (q 0, 42, .inl (fun x_ => nI (R.2.2.2.2.1 x_) + (-1)))), (mn, .inl (q 0, 42, .inl (fun x_ => nI (R.2.2.2.2.2.1 x_)))), (mp, .inl (q 0, 42, .inl (fun x_ => nI (R.2.2.2.2.2.2.1 x_) + (-1)))), (mb, .inl (q 0, 40, .inl (fun x_ => nI (bf x_))))] H locs → W p l e (kz_rm 6) s m args below meth c H locs 0 0 Q (F0 m 73 ls []) := by
    intro pl R kd2 on2 tw2 se2 ls H locs hg hT hpl hl U
    refine lv_iload_n hx hb kd_Mo_pattern_73 rfl (lv_at hl 0 rfl) ?_
    have hR128 := hT.1
    refine lv_aload_n hx hb kd_Mo_pattern_74 rfl (lv_at hl 1 rfl) ?_
    refine kg_Mo_58 X U 0 rfl rfl kd_Mo_pattern_75 ?_
    refine kz_icle X (by omega) (by omega) kd_Mo_pattern_78 rfl (fun h78 => ?_) (fun h78 => ?_)
    · refine kz_ic X 0 kd_Mo_pattern_85 (by decide) ?_
      refine lv_istore_n hx hb kd_Mo_pattern_86 rfl hl (by decide) rfl (fun ls hl => ?_)
      have hl : lv_has ls 6 [(3, .int (nI 0)), (2, .int (nI pl)), (0, .ref ho), (1, .int (nI p_))] := hl
      refine lv_aload_n hx hb kd_Mo_pattern_87 rfl (lv_at hl 2 rfl) ?_
      refine kz_ic X 0 kd_Mo_pattern_88 (by decide) ?_
      refine kp_Mo_58 X U 0 rfl (Nat.le_of_ble_eq_true rfl) kd_Mo_pattern_89 (fun H locs U => ?_)
      have U : kz_U D q s A [(ho, .inr (6, [.ref mb, .int (nI 0), .ref mt, .int (nI ln), .ref mw, .int (nI wn), .ref mc, .ref mk, .ref m1, .ref m2, .ref ms, .int (nI R.2.1), .ref mu, .ref mi, .ref mr, .ref mn, .ref mp, .int (nI R.2.2.2.2.2.2.2.1), .int R.2.2.2.2.2.2.2.2.1, .int (nI R.2.2.2.2.2.2.2.2.2.1), .int (nB R.2.2.2.2.2.2.2.2.2.2.1), .ref mj, .int (nI en), .ref me, .ref mh, .int (nB R.2.2.2.2.2.2.2.2.2.2.2)])), (mc, .inl (q 0, 3, .inl (fun x_ => nI ((va_up ct 2 R.1.length) x_)))), (mk, .inl (q 0, 384, .inl (fun x_ => nI (kd2 x_)))), (m1, .inl (q 0, 384, .inl (fun x_ => nI (on2 x_)))), (m2, .inl (q 0, 384, .inl (fun x_ => nI (tw2 x_)))), (ms, .inl (q 0, 1152, .inl se2)), (mu, .inl (q 0, 42, .inl (fun x_ => nI (R.2.2.1 x_) + (-1)))), (mi, .inl (q 0, 42, .inl (fun x_ => nI (R.2.2.2.1 x_) + (-1)))), (mr, .inl (q 0, 42, .inl (fun x_ => nI (R.2.2.2.2.1 x_) + (-1)))), (mn, .inl (q 0, 42, .inl (fun x_ => nI (R.2.2.2.2.2.1 x_)))), (mp, .inl (q 0, 42, .inl (fun x_ => nI (R.2.2.2.2.2.2.1 x_) + (-1)))), (mb, .inl (q 0, 40, .inl (fun x_ => nI (bf x_))))] H locs := U
      refine lv_iload_n hx hb kd_Mo_pattern_92 rfl (lv_at hl 0 rfl) ?_
      refine kz_nne X (by omega) kd_Mo_pattern_93 rfl (fun h93 => absurd h93 (by omega)) (fun h93 => ?_)
      refine lv_bipush (v := (-10)) hx hb kd_Mo_pattern_96 (by decide) ?_
      refine lv_iload_n hx hb kd_Mo_pattern_98 rfl (lv_at hl 1 rfl) ?_
      refine lv_isub hx hb kd_Mo_pattern_99 ?_
      exact kz_ei hQ hA X U ((va_up ct 2 R.1.length, (R, (kd2, (on2, (tw2, se2)))))) rfl (by rw [hg]; exact ⟨rfl, Or.inr ⟨by omega, rfl, rfl, hT⟩⟩) kd_Mo_pattern_100
    · refine kz_ic X 1 kd_Mo_pattern_81 (by decide) ?_
      refine lv_goto hx hb kd_Mo_pattern_82 rfl ?_
      refine lv_istore_n hx hb kd_Mo_pattern_86 rfl hl (by decide) rfl (fun ls hl => ?_)
      have hl : lv_has ls 6 [(3, .int (nI 1)), (2, .int (nI pl)), (0, .ref ho), (1, .int (nI p_))] := hl
      refine lv_aload_n hx hb kd_Mo_pattern_87 rfl (lv_at hl 2 rfl) ?_
      refine kz_ic X 0 kd_Mo_pattern_88 (by decide) ?_
      refine kp_Mo_58 X U 0 rfl (Nat.le_of_ble_eq_true rfl) kd_Mo_pattern_89 (fun H locs U => ?_)
      have U : kz_U D q s A [(ho, .inr (6, [.ref mb, .int (nI 0), .ref mt, .int (nI ln), .ref mw, .int (nI wn), .ref mc, .ref mk, .ref m1, .ref m2, .ref ms, .int (nI R.2.1), .ref mu, .ref mi, .ref mr, .ref mn, .ref mp, .int (nI R.2.2.2.2.2.2.2.1), .int R.2.2.2.2.2.2.2.2.1, .int (nI R.2.2.2.2.2.2.2.2.2.1), .int (nB R.2.2.2.2.2.2.2.2.2.2.1), .ref mj, .int (nI en), .ref me, .ref mh, .int (nB R.2.2.2.2.2.2.2.2.2.2.2)])), (mc, .inl (q 0, 3, .inl (fun x_ => nI ((va_up ct 2 R.1.length) x_)))), (mk, .inl (q 0, 384, .inl (fun x_ => nI (kd2 x_)))), (m1, .inl (q 0, 384, .inl (fun x_ => nI (on2 x_)))), (m2, .inl (q 0, 384, .inl (fun x_ => nI (tw2 x_)))), (ms, .inl (q 0, 1152, .inl se2)), (mu, .inl (q 0, 42, .inl (fun x_ => nI (R.2.2.1 x_) + (-1)))), (mi, .inl (q 0, 42, .inl (fun x_ => nI (R.2.2.2.1 x_) + (-1)))), (mr, .inl (q 0, 42, .inl (fun x_ => nI (R.2.2.2.2.1 x_) + (-1)))), (mn, .inl (q 0, 42, .inl (fun x_ => nI (R.2.2.2.2.2.1 x_)))), (mp, .inl (q 0, 42, .inl (fun x_ => nI (R.2.2.2.2.2.2.1 x_) + (-1)))), (mb, .inl (q 0, 40, .inl (fun x_ => nI (bf x_))))] H locs := U
      refine lv_iload_n hx hb kd_Mo_pattern_92 rfl (lv_at hl 0 rfl) ?_
      refine kz_nne X (by omega) kd_Mo_pattern_93 rfl (fun h93 => ?_) (fun h93 => absurd h93 (by omega))
      refine lv_aload_n hx hb kd_Mo_pattern_101 rfl (lv_at hl 2 rfl) ?_
      refine kg_Mo_19 X U 0 rfl rfl kd_Mo_pattern_102 ?_
      refine lv_iload_n hx hb kd_Mo_pattern_105 rfl (lv_at hl 3 rfl) ?_
      refine lv_aload_n hx hb kd_Mo_pattern_106 rfl (lv_at hl 2 rfl) ?_
      refine kg_Mo_19 X U 0 rfl rfl kd_Mo_pattern_107 ?_
      refine kz_ic X 2 kd_Mo_pattern_110 (by decide) ?_
      refine kz_iald (k := 2) X U 1 rfl (by omega) (by omega) kd_Mo_pattern_111 ?_
      refine kz_top (y := nI ((va_up ct 2 R.1.length) 2)) rfl ?_
      refine kz_top (y := nI R.1.length) (by rw [va_up_eq']) ?_
      refine kz_iast (k := p_) X U 1 rfl (by omega) (by omega) kd_Mo_pattern_112 (fun H locs U => ?_)
      rw [kz_updN] at U
      have U : kz_U D q s A [(ho, .inr (6, [.ref mb, .int (nI 0), .ref mt, .int (nI ln), .ref mw, .int (nI wn), .ref mc, .ref mk, .ref m1, .ref m2, .ref ms, .int (nI R.2.1), .ref mu, .ref mi, .ref mr, .ref mn, .ref mp, .int (nI R.2.2.2.2.2.2.2.1), .int R.2.2.2.2.2.2.2.2.1, .int (nI R.2.2.2.2.2.2.2.2.2.1), .int (nB R.2.2.2.2.2.2.2.2.2.2.1), .ref mj, .int (nI en), .ref me, .ref mh, .int (nB R.2.2.2.2.2.2.2.2.2.2.2)])), (mc, .inl (q 0, 3, .inl (fun x_ => nI ((va_up (va_up ct 2 R.1.length) p_ R.1.length) x_)))), (mk, .inl (q 0, 384, .inl (fun x_ => nI (kd2 x_)))), (m1, .inl (q 0, 384, .inl (fun x_ => nI (on2 x_)))), (m2, .inl (q 0, 384, .inl (fun x_ => nI (tw2 x_)))), (ms, .inl (q 0, 1152, .inl se2)), (mu, .inl (q 0, 42, .inl (fun x_ => nI (R.2.2.1 x_) + (-1)))), (mi, .inl (q 0, 42, .inl (fun x_ => nI (R.2.2.2.1 x_) + (-1)))), (mr, .inl (q 0, 42, .inl (fun x_ => nI (R.2.2.2.2.1 x_) + (-1)))), (mn, .inl (q 0, 42, .inl (fun x_ => nI (R.2.2.2.2.2.1 x_)))), (mp, .inl (q 0, 42, .inl (fun x_ => nI (R.2.2.2.2.2.2.1 x_) + (-1)))), (mb, .inl (q 0, 40, .inl (fun x_ => nI (bf x_))))] H locs := U
      refine kz_ic X 0 kd_Mo_pattern_113 (by decide) ?_
      refine lv_istore hx hb kd_Mo_pattern_114 hl (by decide) rfl (fun ls hl => ?_)
      have hl : lv_has ls 6 [(4, .int (nI 0)), (3, .int (nI 1)), (2, .int (nI pl)), (0, .ref ho), (1, .int (nI p_))] := hl
      have loop116 : ∀ (fuel : Nat) (k : Nat) (kd3 : Nat → Nat) (on3 : Nat → Nat) (tw3 : Nat → Nat) (se3 : Nat → Int32) (ls : Array Slot) (H : Heap) (locs : List Loc), R.1.length + 1 - k < fuel → (k ≤ R.1.length) → (md_cq p_ R.1 (kd, on, tw, se) kd3 on3 tw3 se3 k) → lv_has ls 6 [(4, .int (nI k)), (0, .ref ho), (1, .int (nI p_))] → kz_U D q s A [(ho, .inr (6, [.ref mb, .int (nI 0), .ref mt, .int (nI ln), .ref mw, .int (nI wn), .ref mc, .ref mk, .ref m1, .ref m2, .ref ms, .int (nI R.2.1), .ref mu, .ref mi, .ref mr, .ref mn, .ref mp, .int (nI R.2.2.2.2.2.2.2.1), .int R.2.2.2.2.2.2.2.2.1, .int (nI R.2.2.2.2.2.2.2.2.2.1), .int (nB R.2.2.2.2.2.2.2.2.2.2.1), .ref mj, .int (nI en), .ref me, .ref mh, .int (nB R.2.2.2.2.2.2.2.2.2.2.2)])), (mc, .inl (q 0, 3, .inl (fun x_ => nI ((va_up (va_up ct 2 R.1.length) p_ R.1.length) x_)))), (mk, .inl (q 0, 384, .inl (fun x_ => nI (kd3 x_)))), (m1, .inl (q 0, 384, .inl (fun x_ => nI (on3 x_)))), (m2, .inl (q 0, 384, .inl (fun x_ => nI (tw3 x_)))), (ms, .inl (q 0, 1152, .inl se3)), (mu, .inl (q 0, 42, .inl (fun x_ => nI (R.2.2.1 x_) + (-1)))), (mi, .inl (q 0, 42, .inl (fun x_ => nI (R.2.2.2.1 x_) + (-1)))), (mr, .inl (q 0, 42, .inl (fun x_ => nI (R.2.2.2.2.1 x_) + (-1)))), (mn, .inl (q 0, 42, .inl (fun x_ => nI (R.2.2.2.2.2.1 x_)))), (mp, .inl (q 0, 42, .inl (fun x_ => nI (R.2.2.2.2.2.2.1 x_) + (-1)))), (mb, .inl (q 0, 40, .inl (fun x_ => nI (bf x_))))] H locs → W p l e (kz_rm 6) s m args below meth c H locs 0 0 Q (F0 m 116 ls []) := by
        intro fuel
        induction fuel with
        | zero => intro k kd3 on3 tw3 se3 ls H locs hme; exact absurd hme (Nat.not_lt_zero _)
        | succ fuel ih116 =>
          intro k kd3 on3 tw3 se3 ls H locs hme hk hq hl U
          refine lv_iload hx hb kd_Mo_pattern_116 (lv_at hl 0 rfl) ?_
          refine lv_aload_n hx hb kd_Mo_pattern_118 rfl (lv_at hl 1 rfl) ?_
          refine kg_Mo_19 X U 0 rfl rfl kd_Mo_pattern_119 ?_
          refine kz_ic X 2 kd_Mo_pattern_122 (by decide) ?_
          refine kz_iald (k := 2) X U 1 rfl (by omega) (by omega) kd_Mo_pattern_123 ?_
          refine kz_top (y := nI ((va_up (va_up ct 2 R.1.length) p_ R.1.length) 2)) rfl ?_
          refine kz_top (y := nI R.1.length) (by rw [va_up_ne' (by omega), va_up_eq']) ?_
          refine kz_icge X (by omega) (by omega) kd_Mo_pattern_124 rfl (fun h124 => ?_) (fun h124 => ?_)
          · refine kz_ic X 0 kd_Mo_pattern_254 (by decide) ?_
            exact kz_ei hQ hA X U ((va_up (va_up ct 2 R.1.length) p_ R.1.length, (R, (kd3, (on3, (tw3, se3)))))) rfl (by rw [hg]; exact ⟨rfl, Or.inl ⟨by omega, rfl, rfl, by rw [← show k = R.1.length by omega]; exact hq⟩⟩) kd_Mo_pattern_255
          · refine lv_aload_n hx hb kd_Mo_pattern_127 rfl (lv_at hl 1 rfl) ?_
            refine kg_Mo_22 X U 0 rfl rfl kd_Mo_pattern_128 ?_
            refine kz_sp X 128 kd_Mo_pattern_131 (by decide) ?_
            refine lv_iload_n hx hb kd_Mo_pattern_134 rfl (lv_at hl 2 rfl) ?_
            refine kz_imul X kd_Mo_pattern_135 ?_
            refine kz_top (y := nI (128 * p_)) rfl ?_
            refine lv_iload hx hb kd_Mo_pattern_136 (lv_at hl 0 rfl) ?_
            refine kz_iadd X kd_Mo_pattern_138 ?_
            refine kz_top (y := nI (128 * p_ + k)) rfl ?_
            refine lv_aload_n hx hb kd_Mo_pattern_139 rfl (lv_at hl 1 rfl) ?_
            refine kg_Mo_22 X U 0 rfl rfl kd_Mo_pattern_140 ?_
            refine kz_sp X 256 kd_Mo_pattern_143 (by decide) ?_
            refine lv_iload hx hb kd_Mo_pattern_146 (lv_at hl 0 rfl) ?_
            refine kz_iadd X kd_Mo_pattern_148 ?_
            refine kz_top (y := nI (256 + k)) rfl ?_
            refine kz_iald (k := 256 + k) X U 2 rfl (by omega) (by omega) kd_Mo_pattern_149 ?_
            refine kz_top (y := nI (kd3 (256 + k))) rfl ?_
            refine kz_iast (k := 128 * p_ + k) X U 2 rfl (by omega) (by omega) kd_Mo_pattern_150 (fun H locs U => ?_)
            rw [kz_updN] at U
            have U : kz_U D q s A [(ho, .inr (6, [.ref mb, .int (nI 0), .ref mt, .int (nI ln), .ref mw, .int (nI wn), .ref mc, .ref mk, .ref m1, .ref m2, .ref ms, .int (nI R.2.1), .ref mu, .ref mi, .ref mr, .ref mn, .ref mp, .int (nI R.2.2.2.2.2.2.2.1), .int R.2.2.2.2.2.2.2.2.1, .int (nI R.2.2.2.2.2.2.2.2.2.1), .int (nB R.2.2.2.2.2.2.2.2.2.2.1), .ref mj, .int (nI en), .ref me, .ref mh, .int (nB R.2.2.2.2.2.2.2.2.2.2.2)])), (mc, .inl (q 0, 3, .inl (fun x_ => nI ((va_up (va_up ct 2 R.1.length) p_ R.1.length) x_)))), (mk, .inl (q 0, 384, .inl (fun x_ => nI ((va_up kd3 (128 * p_ + k) (kd3 (256 + k))) x_)))), (m1, .inl (q 0, 384, .inl (fun x_ => nI (on3 x_)))), (m2, .inl (q 0, 384, .inl (fun x_ => nI (tw3 x_)))), (ms, .inl (q 0, 1152, .inl se3)), (mu, .inl (q 0, 42, .inl (fun x_ => nI (R.2.2.1 x_) + (-1)))), (mi, .inl (q 0, 42, .inl (fun x_ => nI (R.2.2.2.1 x_) + (-1)))), (mr, .inl (q 0, 42, .inl (fun x_ => nI (R.2.2.2.2.1 x_) + (-1)))), (mn, .inl (q 0, 42, .inl (fun x_ => nI (R.2.2.2.2.2.1 x_)))), (mp, .inl (q 0, 42, .inl (fun x_ => nI (R.2.2.2.2.2.2.1 x_) + (-1)))), (mb, .inl (q 0, 40, .inl (fun x_ => nI (bf x_))))] H locs := U
            refine lv_aload_n hx hb kd_Mo_pattern_151 rfl (lv_at hl 1 rfl) ?_
            refine kg_Mo_25 X U 0 rfl rfl kd_Mo_pattern_152 ?_
            refine kz_sp X 128 kd_Mo_pattern_155 (by decide) ?_
            refine lv_iload_n hx hb kd_Mo_pattern_158 rfl (lv_at hl 2 rfl) ?_
            refine kz_imul X kd_Mo_pattern_159 ?_
            refine kz_top (y := nI (128 * p_)) rfl ?_
            refine lv_iload hx hb kd_Mo_pattern_160 (lv_at hl 0 rfl) ?_
            refine kz_iadd X kd_Mo_pattern_162 ?_
            refine kz_top (y := nI (128 * p_ + k)) rfl ?_
            refine lv_aload_n hx hb kd_Mo_pattern_163 rfl (lv_at hl 1 rfl) ?_
            refine kg_Mo_25 X U 0 rfl rfl kd_Mo_pattern_164 ?_
            refine kz_sp X 256 kd_Mo_pattern_167 (by decide) ?_
            refine lv_iload hx hb kd_Mo_pattern_170 (lv_at hl 0 rfl) ?_
            refine kz_iadd X kd_Mo_pattern_172 ?_
            refine kz_top (y := nI (256 + k)) rfl ?_
            refine kz_iald (k := 256 + k) X U 3 rfl (by omega) (by omega) kd_Mo_pattern_173 ?_
            refine kz_top (y := nI (on3 (256 + k))) rfl ?_
            refine kz_iast (k := 128 * p_ + k) X U 3 rfl (by omega) (by omega) kd_Mo_pattern_174 (fun H locs U => ?_)
            rw [kz_updN] at U
            have U : kz_U D q s A [(ho, .inr (6, [.ref mb, .int (nI 0), .ref mt, .int (nI ln), .ref mw, .int (nI wn), .ref mc, .ref mk, .ref m1, .ref m2, .ref ms, .int (nI R.2.1), .ref mu, .ref mi, .ref mr, .ref mn, .ref mp, .int (nI R.2.2.2.2.2.2.2.1), .int R.2.2.2.2.2.2.2.2.1, .int (nI R.2.2.2.2.2.2.2.2.2.1), .int (nB R.2.2.2.2.2.2.2.2.2.2.1), .ref mj, .int (nI en), .ref me, .ref mh, .int (nB R.2.2.2.2.2.2.2.2.2.2.2)])), (mc, .inl (q 0, 3, .inl (fun x_ => nI ((va_up (va_up ct 2 R.1.length) p_ R.1.length) x_)))), (mk, .inl (q 0, 384, .inl (fun x_ => nI ((va_up kd3 (128 * p_ + k) (kd3 (256 + k))) x_)))), (m1, .inl (q 0, 384, .inl (fun x_ => nI ((va_up on3 (128 * p_ + k) (on3 (256 + k))) x_)))), (m2, .inl (q 0, 384, .inl (fun x_ => nI (tw3 x_)))), (ms, .inl (q 0, 1152, .inl se3)), (mu, .inl (q 0, 42, .inl (fun x_ => nI (R.2.2.1 x_) + (-1)))), (mi, .inl (q 0, 42, .inl (fun x_ => nI (R.2.2.2.1 x_) + (-1)))), (mr, .inl (q 0, 42, .inl (fun x_ => nI (R.2.2.2.2.1 x_) + (-1)))), (mn, .inl (q 0, 42, .inl (fun x_ => nI (R.2.2.2.2.2.1 x_)))), (mp, .inl (q 0, 42, .inl (fun x_ => nI (R.2.2.2.2.2.2.1 x_) + (-1)))), (mb, .inl (q 0, 40, .inl (fun x_ => nI (bf x_))))] H locs := U
            refine lv_aload_n hx hb kd_Mo_pattern_175 rfl (lv_at hl 1 rfl) ?_
            refine kg_Mo_28 X U 0 rfl rfl kd_Mo_pattern_176 ?_
            refine kz_sp X 128 kd_Mo_pattern_179 (by decide) ?_
            refine lv_iload_n hx hb kd_Mo_pattern_182 rfl (lv_at hl 2 rfl) ?_
            refine kz_imul X kd_Mo_pattern_183 ?_
            refine kz_top (y := nI (128 * p_)) rfl ?_
            refine lv_iload hx hb kd_Mo_pattern_184 (lv_at hl 0 rfl) ?_
            refine kz_iadd X kd_Mo_pattern_186 ?_
            refine kz_top (y := nI (128 * p_ + k)) rfl ?_
            refine lv_aload_n hx hb kd_Mo_pattern_187 rfl (lv_at hl 1 rfl) ?_
            refine kg_Mo_28 X U 0 rfl rfl kd_Mo_pattern_188 ?_
            refine kz_sp X 256 kd_Mo_pattern_191 (by decide) ?_
            refine lv_iload hx hb kd_Mo_pattern_194 (lv_at hl 0 rfl) ?_
            refine kz_iadd X kd_Mo_pattern_196 ?_
            refine kz_top (y := nI (256 + k)) rfl ?_
            refine kz_iald (k := 256 + k) X U 4 rfl (by omega) (by omega) kd_Mo_pattern_197 ?_
            refine kz_top (y := nI (tw3 (256 + k))) rfl ?_
            refine kz_iast (k := 128 * p_ + k) X U 4 rfl (by omega) (by omega) kd_Mo_pattern_198 (fun H locs U => ?_)
            rw [kz_updN] at U
            have U : kz_U D q s A [(ho, .inr (6, [.ref mb, .int (nI 0), .ref mt, .int (nI ln), .ref mw, .int (nI wn), .ref mc, .ref mk, .ref m1, .ref m2, .ref ms, .int (nI R.2.1), .ref mu, .ref mi, .ref mr, .ref mn, .ref mp, .int (nI R.2.2.2.2.2.2.2.1), .int R.2.2.2.2.2.2.2.2.1, .int (nI R.2.2.2.2.2.2.2.2.2.1), .int (nB R.2.2.2.2.2.2.2.2.2.2.1), .ref mj, .int (nI en), .ref me, .ref mh, .int (nB R.2.2.2.2.2.2.2.2.2.2.2)])), (mc, .inl (q 0, 3, .inl (fun x_ => nI ((va_up (va_up ct 2 R.1.length) p_ R.1.length) x_)))), (mk, .inl (q 0, 384, .inl (fun x_ => nI ((va_up kd3 (128 * p_ + k) (kd3 (256 + k))) x_)))), (m1, .inl (q 0, 384, .inl (fun x_ => nI ((va_up on3 (128 * p_ + k) (on3 (256 + k))) x_)))), (m2, .inl (q 0, 384, .inl (fun x_ => nI ((va_up tw3 (128 * p_ + k) (tw3 (256 + k))) x_)))), (ms, .inl (q 0, 1152, .inl se3)), (mu, .inl (q 0, 42, .inl (fun x_ => nI (R.2.2.1 x_) + (-1)))), (mi, .inl (q 0, 42, .inl (fun x_ => nI (R.2.2.2.1 x_) + (-1)))), (mr, .inl (q 0, 42, .inl (fun x_ => nI (R.2.2.2.2.1 x_) + (-1)))), (mn, .inl (q 0, 42, .inl (fun x_ => nI (R.2.2.2.2.2.1 x_)))), (mp, .inl (q 0, 42, .inl (fun x_ => nI (R.2.2.2.2.2.2.1 x_) + (-1)))), (mb, .inl (q 0, 40, .inl (fun x_ => nI (bf x_))))] H locs := U
            refine kz_ic X 0 kd_Mo_pattern_199 (by decide) ?_
            refine lv_istore hx hb kd_Mo_pattern_200 hl (by decide) rfl (fun ls hl => ?_)
            have hl : lv_has ls 6 [(5, .int (nI 0)), (4, .int (nI k)), (0, .ref ho), (1, .int (nI p_))] := hl
            have loop202 : ∀ (fuel : Nat) (w : Nat) (sw : Nat → Int32) (ls : Array Slot) (H : Heap) (locs : List Loc), 4 - w < fuel → (w ≤ 3) → (∀ v, v < w → sw (3 * (128 * p_ + k) + v) = se3 (3 * (256 + k) + v)) → (∀ i, ¬ (3 * (128 * p_ + k) ≤ i ∧ i < 3 * (128 * p_ + k) + 3) → sw i = se3 i) → lv_has ls 6 [(5, .int (nI w)), (4, .int (nI k)), (0, .ref ho), (1, .int (nI p_))] → kz_U D q s A [(ho, .inr (6, [.ref mb, .int (nI 0), .ref mt, .int (nI ln), .ref mw, .int (nI wn), .ref mc, .ref mk, .ref m1, .ref m2, .ref ms, .int (nI R.2.1), .ref mu, .ref mi, .ref mr, .ref mn, .ref mp, .int (nI R.2.2.2.2.2.2.2.1), .int R.2.2.2.2.2.2.2.2.1, .int (nI R.2.2.2.2.2.2.2.2.2.1), .int (nB R.2.2.2.2.2.2.2.2.2.2.1), .ref mj, .int (nI en), .ref me, .ref mh, .int (nB R.2.2.2.2.2.2.2.2.2.2.2)])), (mc, .inl (q 0, 3, .inl (fun x_ => nI ((va_up (va_up ct 2 R.1.length) p_ R.1.length) x_)))), (mk, .inl (q 0, 384, .inl (fun x_ => nI ((va_up kd3 (128 * p_ + k) (kd3 (256 + k))) x_)))), (m1, .inl (q 0, 384, .inl (fun x_ => nI ((va_up on3 (128 * p_ + k) (on3 (256 + k))) x_)))), (m2, .inl (q 0, 384, .inl (fun x_ => nI ((va_up tw3 (128 * p_ + k) (tw3 (256 + k))) x_)))), (ms, .inl (q 0, 1152, .inl sw)), (mu, .inl (q 0, 42, .inl (fun x_ => nI (R.2.2.1 x_) + (-1)))), (mi, .inl (q 0, 42, .inl (fun x_ => nI (R.2.2.2.1 x_) + (-1)))), (mr, .inl (q 0, 42, .inl (fun x_ => nI (R.2.2.2.2.1 x_) + (-1)))), (mn, .inl (q 0, 42, .inl (fun x_ => nI (R.2.2.2.2.2.1 x_)))), (mp, .inl (q 0, 42, .inl (fun x_ => nI (R.2.2.2.2.2.2.1 x_) + (-1)))), (mb, .inl (q 0, 40, .inl (fun x_ => nI (bf x_))))] H locs → W p l e (kz_rm 6) s m args below meth c H locs 0 0 Q (F0 m 202 ls []) := by
              intro fuel
              induction fuel with
              | zero => intro w sw ls H locs hme; exact absurd hme (Nat.not_lt_zero _)
              | succ fuel ih202 =>
                intro w sw ls H locs hme hw hs1 hs2 hl U
                refine lv_iload hx hb kd_Mo_pattern_202 (lv_at hl 0 rfl) ?_
                refine kz_ic X 3 kd_Mo_pattern_204 (by decide) ?_
                refine kz_icge X (by omega) (by omega) kd_Mo_pattern_205 rfl (fun h205 => ?_) (fun h205 => ?_)
                · refine lv_iinc (k := 1) (v := nI (k + 1)) hx hb kd_Mo_pattern_248 hl rfl (nI_add k 1) (by decide) rfl (fun ls hl => ?_)
                  have hl : lv_has ls 6 [(4, .int (nI (k + 1))), (5, .int (nI w)), (0, .ref ho), (1, .int (nI p_))] := hl
                  refine lv_goto hx hb kd_Mo_pattern_251 rfl ?_
                  exact ih116 (k + 1) _ _ _ _ _ _ _ (by omega) (by omega) (md_cq_s hp_ hq (by omega) (fun w hw => hs1 w (by omega)) hs2) (lv_sub hl [0, 2, 3] rfl) U
                · refine lv_aload_n hx hb kd_Mo_pattern_208 rfl (lv_at hl 2 rfl) ?_
                  refine kg_Mo_31 X U 0 rfl rfl kd_Mo_pattern_209 ?_
                  refine kz_ic X 3 kd_Mo_pattern_212 (by decide) ?_
                  refine kz_sp X 128 kd_Mo_pattern_213 (by decide) ?_
                  refine lv_iload_n hx hb kd_Mo_pattern_216 rfl (lv_at hl 3 rfl) ?_
                  refine kz_imul X kd_Mo_pattern_217 ?_
                  refine kz_top (y := nI (128 * p_)) rfl ?_
                  refine lv_iload hx hb kd_Mo_pattern_218 (lv_at hl 1 rfl) ?_
                  refine kz_iadd X kd_Mo_pattern_220 ?_
                  refine kz_top (y := nI (128 * p_ + k)) rfl ?_
                  refine kz_imul X kd_Mo_pattern_221 ?_
                  refine kz_top (y := nI (3 * (128 * p_ + k))) rfl ?_
                  refine lv_iload hx hb kd_Mo_pattern_222 (lv_at hl 0 rfl) ?_
                  refine kz_iadd X kd_Mo_pattern_224 ?_
                  refine kz_top (y := nI (3 * (128 * p_ + k) + w)) rfl ?_
                  refine lv_aload_n hx hb kd_Mo_pattern_225 rfl (lv_at hl 2 rfl) ?_
                  refine kg_Mo_31 X U 0 rfl rfl kd_Mo_pattern_226 ?_
                  refine kz_ic X 3 kd_Mo_pattern_229 (by decide) ?_
                  refine kz_sp X 256 kd_Mo_pattern_230 (by decide) ?_
                  refine lv_iload hx hb kd_Mo_pattern_233 (lv_at hl 1 rfl) ?_
                  refine kz_iadd X kd_Mo_pattern_235 ?_
                  refine kz_top (y := nI (256 + k)) rfl ?_
                  refine kz_imul X kd_Mo_pattern_236 ?_
                  refine kz_top (y := nI (3 * (256 + k))) rfl ?_
                  refine lv_iload hx hb kd_Mo_pattern_237 (lv_at hl 0 rfl) ?_
                  refine kz_iadd X kd_Mo_pattern_239 ?_
                  refine kz_top (y := nI (3 * (256 + k) + w)) rfl ?_
                  refine kz_iald (k := 3 * (256 + k) + w) X U 5 rfl (by omega) (by omega) kd_Mo_pattern_240 ?_
                  refine kz_iast (k := 3 * (128 * p_ + k) + w) X U 5 rfl (by omega) (by omega) kd_Mo_pattern_241 (fun H locs U => ?_)
                  have U : kz_U D q s A [(ho, .inr (6, [.ref mb, .int (nI 0), .ref mt, .int (nI ln), .ref mw, .int (nI wn), .ref mc, .ref mk, .ref m1, .ref m2, .ref ms, .int (nI R.2.1), .ref mu, .ref mi, .ref mr, .ref mn, .ref mp, .int (nI R.2.2.2.2.2.2.2.1), .int R.2.2.2.2.2.2.2.2.1, .int (nI R.2.2.2.2.2.2.2.2.2.1), .int (nB R.2.2.2.2.2.2.2.2.2.2.1), .ref mj, .int (nI en), .ref me, .ref mh, .int (nB R.2.2.2.2.2.2.2.2.2.2.2)])), (mc, .inl (q 0, 3, .inl (fun x_ => nI ((va_up (va_up ct 2 R.1.length) p_ R.1.length) x_)))), (mk, .inl (q 0, 384, .inl (fun x_ => nI ((va_up kd3 (128 * p_ + k) (kd3 (256 + k))) x_)))), (m1, .inl (q 0, 384, .inl (fun x_ => nI ((va_up on3 (128 * p_ + k) (on3 (256 + k))) x_)))), (m2, .inl (q 0, 384, .inl (fun x_ => nI ((va_up tw3 (128 * p_ + k) (tw3 (256 + k))) x_)))), (ms, .inl (q 0, 1152, .inl (upd sw (3 * (128 * p_ + k) + w) (sw (3 * (256 + k) + w))))), (mu, .inl (q 0, 42, .inl (fun x_ => nI (R.2.2.1 x_) + (-1)))), (mi, .inl (q 0, 42, .inl (fun x_ => nI (R.2.2.2.1 x_) + (-1)))), (mr, .inl (q 0, 42, .inl (fun x_ => nI (R.2.2.2.2.1 x_) + (-1)))), (mn, .inl (q 0, 42, .inl (fun x_ => nI (R.2.2.2.2.2.1 x_)))), (mp, .inl (q 0, 42, .inl (fun x_ => nI (R.2.2.2.2.2.2.1 x_) + (-1)))), (mb, .inl (q 0, 40, .inl (fun x_ => nI (bf x_))))] H locs := U
                  refine lv_iinc (k := 0) (v := nI (w + 1)) hx hb kd_Mo_pattern_242 hl rfl (nI_add w 1) (by decide) rfl (fun ls hl => ?_)
                  have hl : lv_has ls 6 [(5, .int (nI (w + 1))), (4, .int (nI k)), (0, .ref ho), (1, .int (nI p_))] := hl
                  refine lv_goto hx hb kd_Mo_pattern_245 rfl ?_
                  exact ih202 (w + 1) _ _ _ _ (by omega) (by omega) (fun v hv => if e : v = w then (by rw [e, pk_us]; exact hs2 _ (by omega)) else (by rw [pk_un (by omega)]; exact hs1 v (by omega))) (fun i hi => by rw [pk_un (by omega)]; exact hs2 i hi) (lv_sub hl [0, 1, 2, 3] rfl) U
            exact loop202 _ 0 se3 _ _ _ (Nat.lt_succ_self _) (Nat.zero_le _) (fun v z => absurd z (Nat.not_lt_zero _)) (fun _ _ => rfl) (lv_sub hl [0, 1, 2, 3] rfl) U
      exact loop116 _ 0 kd2 on2 tw2 se2 _ _ _ (Nat.lt_succ_self _) (Nat.zero_le _) (md_cq_0 hT) (lv_sub hl [0, 3, 4] rfl) U
  refine lv_iload_n hx hb kd_Mo_pattern_0 rfl (lv_at hl 1 rfl) ?_
  refine kz_nlt X (by omega) kd_Mo_pattern_1 ?_
  refine lv_iload_n hx hb kd_Mo_pattern_4 rfl (lv_at hl 1 rfl) ?_
  refine kz_ic X 1 kd_Mo_pattern_5 (by decide) ?_
  refine kz_icle X (by omega) (by omega) kd_Mo_pattern_6 rfl (fun h6 => ?_) (fun h6 => absurd h6 (by omega))
  refine lv_aload_n hx hb kd_Mo_pattern_11 rfl (lv_at hl 0 rfl) ?_
  refine kg_Mo_19 X U 0 rfl rfl kd_Mo_pattern_12 ?_
  refine kz_ic X 2 kd_Mo_pattern_15 (by decide) ?_
  refine kz_ic X 0 kd_Mo_pattern_16 (by decide) ?_
  refine kz_iast (k := 2) X U 1 rfl (by omega) (by omega) kd_Mo_pattern_17 (fun H locs U => ?_)
  rw [kz_updN] at U
  have U : kz_U D q s A [(ho, .inr (6, [.ref mb, .int (nI sz), .ref mt, .int (nI ln), .ref mw, .int (nI wn), .ref mc, .ref mk, .ref m1, .ref m2, .ref ms, .int (nI dp), .ref mu, .ref mi, .ref mr, .ref mn, .ref mp, .int (nI st_), .int lo_, .int (nI im), .int (nB ex), .ref mj, .int (nI en), .ref me, .ref mh, .int (nB ds)])), (mc, .inl (q 0, 3, .inl (fun x_ => nI ((va_up ct 2 0) x_)))), (mk, .inl (q 0, 384, .inl (fun x_ => nI (kd x_)))), (m1, .inl (q 0, 384, .inl (fun x_ => nI (on x_)))), (m2, .inl (q 0, 384, .inl (fun x_ => nI (tw x_)))), (ms, .inl (q 0, 1152, .inl se)), (mu, .inl (q 0, 42, .inl (fun x_ => nI (un x_) + (-1)))), (mi, .inl (q 0, 42, .inl (fun x_ => nI (ii x_) + (-1)))), (mr, .inl (q 0, 42, .inl (fun x_ => nI (rw_ x_) + (-1)))), (mn, .inl (q 0, 42, .inl (fun x_ => nI (no x_)))), (mp, .inl (q 0, 42, .inl (fun x_ => nI (pc_ x_) + (-1)))), (mb, .inl (q 0, 40, .inl (fun x_ => nI (bf x_))))] H locs := U
  refine lv_aload_n hx hb kd_Mo_pattern_18 rfl (lv_at hl 0 rfl) ?_
  refine kz_ic X 0 kd_Mo_pattern_19 (by decide) ?_
  refine kp_Mo_62 X U 0 rfl (Nat.le_of_ble_eq_true rfl) kd_Mo_pattern_20 (fun H locs U => ?_)
  have U : kz_U D q s A [(ho, .inr (6, [.ref mb, .int (nI sz), .ref mt, .int (nI ln), .ref mw, .int (nI wn), .ref mc, .ref mk, .ref m1, .ref m2, .ref ms, .int (nI 0), .ref mu, .ref mi, .ref mr, .ref mn, .ref mp, .int (nI st_), .int lo_, .int (nI im), .int (nB ex), .ref mj, .int (nI en), .ref me, .ref mh, .int (nB ds)])), (mc, .inl (q 0, 3, .inl (fun x_ => nI ((va_up ct 2 0) x_)))), (mk, .inl (q 0, 384, .inl (fun x_ => nI (kd x_)))), (m1, .inl (q 0, 384, .inl (fun x_ => nI (on x_)))), (m2, .inl (q 0, 384, .inl (fun x_ => nI (tw x_)))), (ms, .inl (q 0, 1152, .inl se)), (mu, .inl (q 0, 42, .inl (fun x_ => nI (un x_) + (-1)))), (mi, .inl (q 0, 42, .inl (fun x_ => nI (ii x_) + (-1)))), (mr, .inl (q 0, 42, .inl (fun x_ => nI (rw_ x_) + (-1)))), (mn, .inl (q 0, 42, .inl (fun x_ => nI (no x_)))), (mp, .inl (q 0, 42, .inl (fun x_ => nI (pc_ x_) + (-1)))), (mb, .inl (q 0, 40, .inl (fun x_ => nI (bf x_))))] H locs := U
  refine lv_aload_n hx hb kd_Mo_pattern_23 rfl (lv_at hl 0 rfl) ?_
  refine kz_ic X 0 kd_Mo_pattern_24 (by decide) ?_
  refine kp_Mo_75 X U 0 rfl (Nat.le_of_ble_eq_true rfl) kd_Mo_pattern_25 (fun H locs U => ?_)
  have U : kz_U D q s A [(ho, .inr (6, [.ref mb, .int (nI sz), .ref mt, .int (nI ln), .ref mw, .int (nI wn), .ref mc, .ref mk, .ref m1, .ref m2, .ref ms, .int (nI 0), .ref mu, .ref mi, .ref mr, .ref mn, .ref mp, .int (nI 0), .int lo_, .int (nI im), .int (nB ex), .ref mj, .int (nI en), .ref me, .ref mh, .int (nB ds)])), (mc, .inl (q 0, 3, .inl (fun x_ => nI ((va_up ct 2 0) x_)))), (mk, .inl (q 0, 384, .inl (fun x_ => nI (kd x_)))), (m1, .inl (q 0, 384, .inl (fun x_ => nI (on x_)))), (m2, .inl (q 0, 384, .inl (fun x_ => nI (tw x_)))), (ms, .inl (q 0, 1152, .inl se)), (mu, .inl (q 0, 42, .inl (fun x_ => nI (un x_) + (-1)))), (mi, .inl (q 0, 42, .inl (fun x_ => nI (ii x_) + (-1)))), (mr, .inl (q 0, 42, .inl (fun x_ => nI (rw_ x_) + (-1)))), (mn, .inl (q 0, 42, .inl (fun x_ => nI (no x_)))), (mp, .inl (q 0, 42, .inl (fun x_ => nI (pc_ x_) + (-1)))), (mb, .inl (q 0, 40, .inl (fun x_ => nI (bf x_))))] H locs := U
  refine lv_aload_n hx hb kd_Mo_pattern_28 rfl (lv_at hl 0 rfl) ?_
  refine kz_cVv (av := []) (rest := []) (wr := [(mc, .inl (q 0, 3, .inl (fun x_ => nI ((va_up ct 2 0) x_)))), (mk, .inl (q 0, 384, .inl (fun x_ => nI (kd x_)))), (m1, .inl (q 0, 384, .inl (fun x_ => nI (on x_)))), (m2, .inl (q 0, 384, .inl (fun x_ => nI (tw x_)))), (ms, .inl (q 0, 1152, .inl se)), (mb, .inl (q 0, 40, .inl (fun x_ => nI (bf x_))))]) X U hl.1 (cm_Mo_open l D q ho mb mt mw mc mk m1 m2 ms mu mi mr mn mp mj me mh sz ln wn 0 0 im en lo_ ex ds un ii rw_ no pc_ (by omega)) (by decide) (by decide) ⟨by decide, by decide⟩ tb_523 tb_525 tb_s20 0 rfl rfl tb_11 tb_526 kq_Mo_open [0, 6, 7, 8, 9, 10] [1, 2, 3, 4, 5, 11] (by decide) rfl rfl (by decide) (by decide) rfl (Nat.le_of_ble_eq_true rfl) kd_Mo_pattern_29 (fun _ H locs _ U => ?_)
  have U : kz_U D q s A [(ho, .inr (6, [.ref mb, .int (nI sz), .ref mt, .int (nI ln), .ref mw, .int (nI wn), .ref mc, .ref mk, .ref m1, .ref m2, .ref ms, .int (nI 0), .ref mu, .ref mi, .ref mr, .ref mn, .ref mp, .int (nI 0), .int lo_, .int (nI im), .int (nB ex), .ref mj, .int (nI en), .ref me, .ref mh, .int (nB ds)])), (mc, .inl (q 0, 3, .inl (fun x_ => nI ((va_up ct 2 0) x_)))), (mk, .inl (q 0, 384, .inl (fun x_ => nI (kd x_)))), (m1, .inl (q 0, 384, .inl (fun x_ => nI (on x_)))), (m2, .inl (q 0, 384, .inl (fun x_ => nI (tw x_)))), (ms, .inl (q 0, 1152, .inl se)), (mu, .inl (q 0, 42, .inl (fun x_ => nI ((va_up un 0 0) x_) + (-1)))), (mi, .inl (q 0, 42, .inl (fun x_ => nI ((va_up ii 0 0) x_) + (-1)))), (mr, .inl (q 0, 42, .inl (fun x_ => nI ((va_up rw_ 0 0) x_) + (-1)))), (mn, .inl (q 0, 42, .inl (fun x_ => nI ((va_up no 0 0) x_)))), (mp, .inl (q 0, 42, .inl (fun x_ => nI ((va_up pc_ 0 0) x_) + (-1)))), (mb, .inl (q 0, 40, .inl (fun x_ => nI (bf x_))))] H locs := U.sub [6, 0, 1, 2, 3, 4, 7, 8, 9, 10, 11, 5] (by decide) rfl
  refine kz_ic X 0 kd_Mo_pattern_32 (by decide) ?_
  refine lv_istore_n hx hb kd_Mo_pattern_33 rfl hl (by decide) rfl (fun ls hl => ?_)
  have hl : lv_has ls 6 [(2, .int (nI 0)), (0, .ref ho), (1, .int (nI p_))] := hl
  have loop34 : ∀ (fuel : Nat) (pl : Nat) (R : md_R) (kd2 : Nat → Nat) (on2 : Nat → Nat) (tw2 : Nat → Nat) (se2 : Nat → Int32) (ls : Array Slot) (H : Heap) (locs : List Loc), sz + 2 - pl < fuel → (pl ≤ sz + 1) → (I pl R) → (md_T R.1 (kd, on, tw, se) kd2 on2 tw2 se2) → (md_go bf sz (sz + 1) 0 ([], 0, va_up un 0 0, va_up ii 0 0, va_up rw_ 0 0, va_up no 0 0, va_up pc_ 0 0, 0, lo_, im, ex, ds) = md_go bf sz (sz + 1 - pl) pl R) → lv_has ls 6 [(2, .int (nI pl)), (0, .ref ho), (1, .int (nI p_))] → kz_U D q s A [(ho, .inr (6, [.ref mb, .int (nI sz), .ref mt, .int (nI ln), .ref mw, .int (nI wn), .ref mc, .ref mk, .ref m1, .ref m2, .ref ms, .int (nI R.2.1), .ref mu, .ref mi, .ref mr, .ref mn, .ref mp, .int (nI R.2.2.2.2.2.2.2.1), .int R.2.2.2.2.2.2.2.2.1, .int (nI R.2.2.2.2.2.2.2.2.2.1), .int (nB R.2.2.2.2.2.2.2.2.2.2.1), .ref mj, .int (nI en), .ref me, .ref mh, .int (nB R.2.2.2.2.2.2.2.2.2.2.2)])), (mc, .inl (q 0, 3, .inl (fun x_ => nI ((va_up ct 2 R.1.length) x_)))), (mk, .inl (q 0, 384, .inl (fun x_ => nI (kd2 x_)))), (m1, .inl (q 0, 384, .inl (fun x_ => nI (on2 x_)))), (m2, .inl (q 0, 384, .inl (fun x_ => nI (tw2 x_)))), (ms, .inl (q 0, 1152, .inl se2)), (mu, .inl (q 0, 42, .inl (fun x_ => nI (R.2.2.1 x_) + (-1)))), (mi, .inl (q 0, 42, .inl (fun x_ => nI (R.2.2.2.1 x_) + (-1)))), (mr, .inl (q 0, 42, .inl (fun x_ => nI (R.2.2.2.2.1 x_) + (-1)))), (mn, .inl (q 0, 42, .inl (fun x_ => nI (R.2.2.2.2.2.1 x_)))), (mp, .inl (q 0, 42, .inl (fun x_ => nI (R.2.2.2.2.2.2.1 x_) + (-1)))), (mb, .inl (q 0, 40, .inl (fun x_ => nI (bf x_))))] H locs → W p l e (kz_rm 6) s m args below meth c H locs 0 0 Q (F0 m 34 ls []) := by
    intro fuel
    induction fuel with
    | zero => intro pl R kd2 on2 tw2 se2 ls H locs hme; exact absurd hme (Nat.not_lt_zero _)
    | succ fuel ih34 =>
      intro pl R kd2 on2 tw2 se2 ls H locs hme hpl hi hT hg hl U
      refine lv_iload_n hx hb kd_Mo_pattern_34 rfl (lv_at hl 0 rfl) ?_
      refine lv_aload_n hx hb kd_Mo_pattern_35 rfl (lv_at hl 1 rfl) ?_
      refine kg_Mo_58 X U 0 rfl rfl kd_Mo_pattern_36 ?_
      refine kz_icgt X (by omega) (by omega) kd_Mo_pattern_39 rfl (fun h39 => ?_) (fun h39 => ?_)
      · exact join73 pl R kd2 on2 tw2 se2 _ _ _ (by rw [hg, show sz + 1 - pl = 0 by omega]; rfl) hT (by omega) (lv_sub hl [0, 1, 2] rfl) U
      · refine lv_aload_n hx hb kd_Mo_pattern_42 rfl (lv_at hl 1 rfl) ?_
        refine lv_iload_n hx hb kd_Mo_pattern_43 rfl (lv_at hl 0 rfl) ?_
        refine lv_aload_n hx hb kd_Mo_pattern_44 rfl (lv_at hl 1 rfl) ?_
        refine kg_Mo_58 X U 0 rfl rfl kd_Mo_pattern_45 ?_
        refine kz_icge X (by omega) (by omega) kd_Mo_pattern_48 rfl (fun h48 => ?_) (fun h48 => ?_)
        · refine lv_iconst (v := (-1)) hx hb kd_Mo_pattern_60 (by decide) ?_
          refine kz_top (y := md_c (md_at bf sz pl)) (by unfold md_at; rw [if_neg (by omega)]; rfl) ?_
          refine kz_cVi (av := [.int (md_c (md_at bf sz pl))]) (rest := []) (wr := [(mb, .inl (q 0, 40, .inl (fun x_ => nI (bf x_))))]) X U hl.1 (cm_Mo_take l D q ho mb mt mw mc mk m1 m2 ms mu mi mr mn mp mj me mh sz ln wn R.2.1 R.2.2.2.2.2.2.2.1 R.2.2.2.2.2.2.2.2.2.1 en R.2.2.2.2.2.2.2.2.1 R.2.2.2.2.2.2.2.2.2.2.1 R.2.2.2.2.2.2.2.2.2.2.2 ct kd2 on2 tw2 se2 R.1 (kd, on, tw, se) R.2.2.1 R.2.2.2.1 R.2.2.2.2.1 R.2.2.2.2.2.1 R.2.2.2.2.2.2.1 (md_at bf sz pl) hT (hI pl R hi (by omega)) (md_at_in hbf)) (by decide) (by decide) ⟨by decide, by decide⟩ tb_527 tb_529 tb_s21 0 rfl rfl tb_11 tb_530 kq_Mo_take [0, 1, 2, 3, 4, 5, 6, 7, 8, 9, 10] [11] (by decide) rfl rfl (by decide) (by decide) rfl (Nat.le_of_ble_eq_true rfl) kd_Mo_pattern_61 (fun rv u H locs hu U => ?_)
          obtain ⟨hu1, hu2, hu3⟩ := hu
          subst hu1
          have U : kz_U D q s A [(ho, .inr (6, [.ref mb, .int (nI sz), .ref mt, .int (nI ln), .ref mw, .int (nI wn), .ref mc, .ref mk, .ref m1, .ref m2, .ref ms, .int (nI u.1.2.1), .ref mu, .ref mi, .ref mr, .ref mn, .ref mp, .int (nI u.1.2.2.2.2.2.2.2.1), .int u.1.2.2.2.2.2.2.2.2.1, .int (nI u.1.2.2.2.2.2.2.2.2.2.1), .int (nB u.1.2.2.2.2.2.2.2.2.2.2.1), .ref mj, .int (nI en), .ref me, .ref mh, .int (nB u.1.2.2.2.2.2.2.2.2.2.2.2)])), (mc, .inl (q 0, 3, .inl (fun x_ => nI ((va_up ct 2 u.1.1.length) x_)))), (mk, .inl (q 0, 384, .inl (fun x_ => nI (u.2.1 x_)))), (m1, .inl (q 0, 384, .inl (fun x_ => nI (u.2.2.1 x_)))), (m2, .inl (q 0, 384, .inl (fun x_ => nI (u.2.2.2.1 x_)))), (ms, .inl (q 0, 1152, .inl u.2.2.2.2)), (mu, .inl (q 0, 42, .inl (fun x_ => nI (u.1.2.2.1 x_) + (-1)))), (mi, .inl (q 0, 42, .inl (fun x_ => nI (u.1.2.2.2.1 x_) + (-1)))), (mr, .inl (q 0, 42, .inl (fun x_ => nI (u.1.2.2.2.2.1 x_) + (-1)))), (mn, .inl (q 0, 42, .inl (fun x_ => nI (u.1.2.2.2.2.2.1 x_)))), (mp, .inl (q 0, 42, .inl (fun x_ => nI (u.1.2.2.2.2.2.2.1 x_) + (-1)))), (mb, .inl (q 0, 40, .inl (fun x_ => nI (bf x_))))] H locs := U.sub [1, 2, 3, 4, 5, 6, 7, 8, 9, 10, 11, 0] (by decide) rfl
          refine kz_ifeqB X kd_Mo_pattern_64 rfl (fun h64 => ?_) (fun h64 => ?_)
          · exact join73 pl u.1 u.2.1 u.2.2.1 u.2.2.2.1 u.2.2.2.2 _ _ _ (by rw [hg, show sz + 1 - pl = (sz - pl) + 1 by omega]; exact md_go_f h64 hu2) hu3 (by omega) (lv_sub hl [0, 1, 2] rfl) U
          · refine lv_iinc (k := 0) (v := nI (pl + 1)) hx hb kd_Mo_pattern_67 hl rfl (nI_add pl 1) (by decide) rfl (fun ls hl => ?_)
            have hl : lv_has ls 6 [(2, .int (nI (pl + 1))), (0, .ref ho), (1, .int (nI p_))] := hl
            refine lv_goto hx hb kd_Mo_pattern_70 rfl ?_
            exact ih34 (pl + 1) u.1 u.2.1 u.2.2.1 u.2.2.2.1 u.2.2.2.2 _ _ _ (by omega) (by omega) (by rw [hu2]; exact hIs pl R hi (by omega) h64) hu3 (by rw [hg, show sz + 1 - pl = (sz - pl) + 1 by omega, show sz + 1 - (pl + 1) = sz - pl by omega]; exact md_go_t h64 hu2) (lv_sub hl [0, 1, 2] rfl) U
        · refine lv_aload_n hx hb kd_Mo_pattern_51 rfl (lv_at hl 1 rfl) ?_
          refine kg_Mo_7 X U 0 rfl rfl kd_Mo_pattern_52 ?_
          refine lv_iload_n hx hb kd_Mo_pattern_55 rfl (lv_at hl 0 rfl) ?_
          refine kz_iald (k := pl) X U 11 rfl (by omega) (by omega) kd_Mo_pattern_56 ?_
          refine kz_top (y := nI (bf pl)) rfl ?_
          refine lv_goto hx hb kd_Mo_pattern_57 rfl ?_
          refine kz_top (y := md_c (md_at bf sz pl)) (by unfold md_at; rw [if_pos (by omega)]; rfl) ?_
          refine kz_cVi (av := [.int (md_c (md_at bf sz pl))]) (rest := []) (wr := [(mb, .inl (q 0, 40, .inl (fun x_ => nI (bf x_))))]) X U hl.1 (cm_Mo_take l D q ho mb mt mw mc mk m1 m2 ms mu mi mr mn mp mj me mh sz ln wn R.2.1 R.2.2.2.2.2.2.2.1 R.2.2.2.2.2.2.2.2.2.1 en R.2.2.2.2.2.2.2.2.1 R.2.2.2.2.2.2.2.2.2.2.1 R.2.2.2.2.2.2.2.2.2.2.2 ct kd2 on2 tw2 se2 R.1 (kd, on, tw, se) R.2.2.1 R.2.2.2.1 R.2.2.2.2.1 R.2.2.2.2.2.1 R.2.2.2.2.2.2.1 (md_at bf sz pl) hT (hI pl R hi (by omega)) (md_at_in hbf)) (by decide) (by decide) ⟨by decide, by decide⟩ tb_527 tb_529 tb_s21 0 rfl rfl tb_11 tb_530 kq_Mo_take [0, 1, 2, 3, 4, 5, 6, 7, 8, 9, 10] [11] (by decide) rfl rfl (by decide) (by decide) rfl (Nat.le_of_ble_eq_true rfl) kd_Mo_pattern_61 (fun rv u H locs hu U => ?_)
          obtain ⟨hu1, hu2, hu3⟩ := hu
          subst hu1
          have U : kz_U D q s A [(ho, .inr (6, [.ref mb, .int (nI sz), .ref mt, .int (nI ln), .ref mw, .int (nI wn), .ref mc, .ref mk, .ref m1, .ref m2, .ref ms, .int (nI u.1.2.1), .ref mu, .ref mi, .ref mr, .ref mn, .ref mp, .int (nI u.1.2.2.2.2.2.2.2.1), .int u.1.2.2.2.2.2.2.2.2.1, .int (nI u.1.2.2.2.2.2.2.2.2.2.1), .int (nB u.1.2.2.2.2.2.2.2.2.2.2.1), .ref mj, .int (nI en), .ref me, .ref mh, .int (nB u.1.2.2.2.2.2.2.2.2.2.2.2)])), (mc, .inl (q 0, 3, .inl (fun x_ => nI ((va_up ct 2 u.1.1.length) x_)))), (mk, .inl (q 0, 384, .inl (fun x_ => nI (u.2.1 x_)))), (m1, .inl (q 0, 384, .inl (fun x_ => nI (u.2.2.1 x_)))), (m2, .inl (q 0, 384, .inl (fun x_ => nI (u.2.2.2.1 x_)))), (ms, .inl (q 0, 1152, .inl u.2.2.2.2)), (mu, .inl (q 0, 42, .inl (fun x_ => nI (u.1.2.2.1 x_) + (-1)))), (mi, .inl (q 0, 42, .inl (fun x_ => nI (u.1.2.2.2.1 x_) + (-1)))), (mr, .inl (q 0, 42, .inl (fun x_ => nI (u.1.2.2.2.2.1 x_) + (-1)))), (mn, .inl (q 0, 42, .inl (fun x_ => nI (u.1.2.2.2.2.2.1 x_)))), (mp, .inl (q 0, 42, .inl (fun x_ => nI (u.1.2.2.2.2.2.2.1 x_) + (-1)))), (mb, .inl (q 0, 40, .inl (fun x_ => nI (bf x_))))] H locs := U.sub [1, 2, 3, 4, 5, 6, 7, 8, 9, 10, 11, 0] (by decide) rfl
          refine kz_ifeqB X kd_Mo_pattern_64 rfl (fun h64 => ?_) (fun h64 => ?_)
          · exact join73 pl u.1 u.2.1 u.2.2.1 u.2.2.2.1 u.2.2.2.2 _ _ _ (by rw [hg, show sz + 1 - pl = (sz - pl) + 1 by omega]; exact md_go_f h64 hu2) hu3 (by omega) (lv_sub hl [0, 1, 2] rfl) U
          · refine lv_iinc (k := 0) (v := nI (pl + 1)) hx hb kd_Mo_pattern_67 hl rfl (nI_add pl 1) (by decide) rfl (fun ls hl => ?_)
            have hl : lv_has ls 6 [(2, .int (nI (pl + 1))), (0, .ref ho), (1, .int (nI p_))] := hl
            refine lv_goto hx hb kd_Mo_pattern_70 rfl ?_
            exact ih34 (pl + 1) u.1 u.2.1 u.2.2.1 u.2.2.2.1 u.2.2.2.2 _ _ _ (by omega) (by omega) (by rw [hu2]; exact hIs pl R hi (by omega) h64) hu3 (by rw [hg, show sz + 1 - pl = (sz - pl) + 1 by omega, show sz + 1 - (pl + 1) = sz - pl by omega]; exact md_go_t h64 hu2) (lv_sub hl [0, 1, 2] rfl) U
  exact loop34 _ 0 (([], 0, va_up un 0 0, va_up ii 0 0, va_up rw_ 0 0, va_up no 0 0, va_up pc_ 0 0, 0, lo_, im, ex, ds)) kd on tw se _ _ _ (Nat.lt_succ_self _) (Nat.zero_le _) hI0 ⟨Nat.zero_le _, fun j h => absurd h (Nat.not_lt_zero _), fun i _ => ⟨rfl, rfl, rfl⟩, fun i _ => rfl⟩ rfl (lv_sub hl [0, 1, 2] rfl) U

