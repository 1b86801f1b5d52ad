/-! the classes: one item, the items, the sign that turns the set round -/
theorem sm_Q.conv {b : Nat} {P : pg_P} {A B : dm_L} {t : List dm_L} (h : sm_Q b P (A :: t)) (k : dm_sm A B) : sm_Q b P (B :: t) := by
  obtain ⟨h1, h2⟩ := h
  obtain ⟨X, s, e, q1, q2⟩ := sm_eq_cons h1
  refine ⟨?_, h2⟩
  rw [e]
  exact ⟨q1.trans k, q2⟩

theorem sw_or {f g : Nat → Int32} {x y : Nat} (hg : ∀ c, 32 ≤ c → c < 127 → sw_hs g c = (sw_hs f c || decide (x ≤ c ∧ c ≤ y))) : dm_sm (dm_or (sw_L f) (dm_rng x y)) (sw_L g) := by
  intro w hw
  constructor
  · rintro (⟨c, rfl, hc⟩ | ⟨c, h1, h2, rfl⟩)
    · have q := hw c (List.mem_singleton.mpr rfl)
      exact ⟨c, rfl, by rw [hg c q.1 q.2, hc]; rfl⟩
    · have q := hw c (List.mem_singleton.mpr rfl)
      exact ⟨c, rfl, by rw [hg c q.1 q.2, decide_eq_true ⟨h1, h2⟩, Bool.or_true]⟩
  · rintro ⟨c, rfl, hc⟩
    have q := hw c (List.mem_singleton.mpr rfl)
    rw [hg c q.1 q.2, Bool.or_eq_true] at hc
    rcases hc with hc | hc
    · exact Or.inl ⟨c, rfl, hc⟩
    · have z := of_decide_eq_true hc
      exact Or.inr ⟨c, z.1, z.2, rfl⟩

theorem sw_rng {g : Nat → Int32} {x y : Nat} (hg : ∀ c, 32 ≤ c → c < 127 → sw_hs g c = decide (x ≤ c ∧ c ≤ y)) : dm_sm (dm_rng x y) (sw_L g) := by
  intro w hw
  constructor
  · rintro ⟨c, h1, h2, rfl⟩
    have q := hw c (List.mem_singleton.mpr rfl)
    exact ⟨c, rfl, by rw [hg c q.1 q.2, decide_eq_true ⟨h1, h2⟩]⟩
  · rintro ⟨c, rfl, hc⟩
    have q := hw c (List.mem_singleton.mpr rfl)
    rw [hg c q.1 q.2] at hc
    have z := of_decide_eq_true hc
    exact ⟨c, z.1, z.2, rfl⟩

theorem sw_neg {f : Nat → Int32} : dm_sm (dm_and (dm_not (sw_L f)) (dm_rng 32 126)) (sw_L (sw_ng f 3)) := by
  intro w hw
  constructor
  · rintro ⟨h1, c, -, -, rfl⟩
    have q := hw c (List.mem_singleton.mpr rfl)
    refine ⟨c, rfl, ?_⟩
    rw [sw_ng_hs (by omega)]
    cases e : sw_hs f c with
    | false => rfl
    | true => exact absurd ⟨c, rfl, e⟩ h1
  · rintro ⟨c, rfl, hc⟩
    have q := hw c (List.mem_singleton.mpr rfl)
    rw [sw_ng_hs (by omega)] at hc
    refine ⟨?_, c, q.1, by omega, rfl⟩
    rintro ⟨d, hd, e⟩
    have : c = d := by injection hd
    subst this
    rw [e] at hc
    cases hc

theorem sw_0 (c : Nat) : sw_hs (fun _ => 0) c = false := b_0 _

theorem md_tkR_cn {NL : List md_N} {dp : Nat} {un ii rw_ no pc_ : Nat → Nat} {st_ : Nat} {lo_ : Int32} {im : Nat} {ex ds : Bool} {c : Option Nat} (h5 : 5 ≤ st_) (hc : ¬ (st_ = 7 ∧ c = some 45)) : md_tkR (NL, dp, un, ii, rw_, no, pc_, st_, lo_, im, ex, ds) c = md_cl NL dp un ii rw_ no pc_ st_ lo_ im ex ds c := by
  rw [md_tkR_cl h5, if_neg hc]

theorem sm_same {NL : List md_N} (x y : md_N) {un ii rw_ : Nat → Nat} {lv : Nat} (hb : ∀ j, j ≤ lv → un j ≤ NL.length ∧ ii j ≤ NL.length ∧ rw_ j ≤ NL.length) : sm_bel (NL ++ [y]) un ii rw_ lv = sm_bel (NL ++ [x]) un ii rw_ lv ∧ sm_X (NL ++ [y]) un ii rw_ lv = sm_X (NL ++ [x]) un ii rw_ lv ∧ sm_row (NL ++ [y]) (rw_ lv) = sm_row (NL ++ [x]) (rw_ lv) := by
  have a := sm_bel_ext (sm_ext.one NL x) (lv := lv) (un := un) (ii := ii) (rw_ := rw_) (un' := un) (ii' := ii) (rw' := rw_) hb (fun j hj => ⟨rfl, rfl, fun _ => rfl⟩)
  have b := sm_bel_ext (sm_ext.one NL y) (lv := lv) (un := un) (ii := ii) (rw_ := rw_) (un' := un) (ii' := ii) (rw' := rw_) hb (fun j hj => ⟨rfl, rfl, fun _ => rfl⟩)
  have h := (hb lv (Nat.le_refl _)).2.2
  exact ⟨b.1.trans a.1.symm, b.2.trans a.2.symm, ((sm_ext.one NL y).row h).trans ((sm_ext.one NL x).row h).symm⟩

theorem md_w_last {pl : Nat} {NL : List md_N} {x : md_N} {lv : Nat} {un ii rw_ no pc_ : Nat → Nat} (h : md_w pl (NL ++ [x]) lv un ii rw_ no pc_) (hp : 0 < pc_ lv) : pc_ lv = NL.length + 1 ∧ ∀ j, j ≤ lv → un j ≤ NL.length ∧ ii j ≤ NL.length ∧ rw_ j ≤ NL.length := by
  have e : (NL ++ [x]).length = NL.length + 1 := by rw [List.length_append]; rfl
  refine ⟨by rw [h.2.2.2.1 hp, e], fun j hj => ?_⟩
  have := h.2.2.1 j hj
  omega

theorem sm_pr_set {z a : Nat} {lv : Nat} {noc : Nat → Nat} {uo io : Nat → Bool} {P : pg_P} {NL : List md_N} {un ii rw_ no pc_ : Nat → Nat} {f : Nat → Int32} (h : sm_pr z a lv noc uo io P (NL ++ [(1, 0, 0, f)]) un ii rw_ no pc_) (g : Nat → Int32) : sm_pr z a lv noc uo io P (NL ++ [(1, 0, 0, g)]) un ii rw_ no pc_ := by
  obtain ⟨k1, k2, k3, k4, k5, k6⟩ := h
  obtain ⟨l1, l2⟩ := md_w_last k1 k4
  obtain ⟨s1, s2, s3⟩ := sm_same ((1, 0, 0, f) : md_N) (1, 0, 0, g) l2
  refine ⟨md_w_set k1 g, ⟨k2.1, k2.2.1, by rw [s2]; exact k2.2.2⟩, k3, k4, by rw [s1, s3]; exact k5, by rw [s2]; exact k6⟩

theorem sm_pr_push {z a : Nat} {lv : Nat} {noc : Nat → Nat} {uo io : Nat → Bool} {P : pg_P} {NL : List md_N} {un ii rw_ no pc_ : Nat → Nat} (h : sm_pr z a lv noc uo io P NL un ii rw_ no pc_) (ha : a ≤ 40) {x y : Nat} (hx : x < 127) (hy : y < 127) (hB : dm_sm (dm_rng x y) (sm_G NL (pc_ lv - 1))) : sm_pi z a lv noc uo io (pg_add P (1, x, y + 1)) NL un ii rw_ no pc_ := by
  obtain ⟨k1, k2, k3, k4, k5, k6⟩ := h
  have e3 := sm_X_3 NL un ii rw_ lv
  have hr := sm_b_in (a := a) (lv := lv) (x := sm_X NL un ii rw_ lv) k2.2.2 e3.2
  have hl := sm_bel_len NL un ii rw_ lv
  have f1 := k2.1
  refine ⟨k1, k2, k3, k4, k5.rng (by omega) (by rw [List.length_cons]; omega) (by omega) (by omega) hB, ?_⟩
  rw [pg_add_len (by omega)]
  omega

theorem sm_pr.more {z y a b : Nat} {lv : Nat} {noc : Nat → Nat} {uo io : Nat → Bool} {P : pg_P} {NL : List md_N} {un ii rw_ no pc_ : Nat → Nat} (h : sm_pr z a lv noc uo io P NL un ii rw_ no pc_) (hab : a ≤ b) (hy : y + 2 * a ≤ z + 2 * b) : sm_pr y b lv noc uo io P NL un ii rw_ no pc_ := by
  obtain ⟨k1, k2, k3, k4, k5, k6⟩ := h
  exact ⟨k1.mono hab, k2.mono hab, k3, k4, k5.mono (sm_b_le (by omega)), by omega⟩

theorem sm_pi_item {z a b : Nat} {lv : Nat} {noc : Nat → Nat} {uo io : Nat → Bool} {P : pg_P} {NL : List md_N} {un ii rw_ no pc_ : Nat → Nat} {f : Nat → Int32} (h : sm_pi z a lv noc uo io P (NL ++ [(1, 0, 0, f)]) un ii rw_ no pc_) (hab : a < b) (hb : b ≤ 40) {x y : Nat} (hx : x < 127) (hy : y < 127) {g : Nat → Int32} (hg : ∀ c, 32 ≤ c → c < 127 → sw_hs g c = (sw_hs f c || decide (x ≤ c ∧ c ≤ y))) : sm_pi z b lv noc uo io (pg_add (pg_add P (1, x, y + 1)) (3, 0, 1)) (NL ++ [(1, 0, 0, g)]) un ii rw_ no pc_ := by
  obtain ⟨k1, k2, k3, k4, k5, k6⟩ := h.mono (Nat.le_of_lt hab)
  obtain ⟨-, -, -, -, -, j6⟩ := h
  obtain ⟨l1, l2⟩ := md_w_last k1 k4
  obtain ⟨s1, s2, s3⟩ := sm_same ((1, 0, 0, f) : md_N) (1, 0, 0, g) l2
  have e3 := sm_X_3 (NL ++ [(1, 0, 0, f)]) un ii rw_ lv
  have hr := sm_b_in (a := b) (lv := lv) (x := sm_X (NL ++ [(1, 0, 0, f)]) un ii rw_ lv) k2.2.2 e3.2
  have hl := sm_bel_len (NL ++ [(1, 0, 0, f)]) un ii rw_ lv
  have f1 := k2.1
  rw [show pc_ lv - 1 = NL.length by omega, sm_G_one] at k5
  have len1 := pg_add_len (P := P) (i := (1, x, y + 1)) (by omega)
  have Q := ((k5.rng (by omega) (by rw [List.length_cons, List.length_cons]; omega) (by omega) (by omega) (dm_sm_refl (dm_rng x y))).or (by omega) (by rw [List.length_cons]; omega)).conv (sw_or hg)
  refine ⟨md_w_set k1 g, ⟨k2.1, k2.2.1, by rw [s2]; exact k2.2.2⟩, k3, k4, ?_, ?_⟩
  · rw [show pc_ lv - 1 = NL.length by omega, sm_G_one, s1, s3]
    exact Q
  · rw [s2, pg_add_len (by omega), len1]
    omega

theorem sm_pi_neg {z a : Nat} {lv : Nat} {noc : Nat → Nat} {uo io : Nat → Bool} {P : pg_P} {NL : List md_N} {un ii rw_ no pc_ : Nat → Nat} {f : Nat → Int32} {ex : Bool} (h : sm_pi z a lv noc uo io P (NL ++ [(1, 0, 0, f)]) un ii rw_ no pc_) (ha : a + 1 ≤ 40) (hz : ex = true → 2 ≤ z) : sm_pi 0 (a + 1) lv noc uo io (rd_ng ex P) (NL ++ [(1, 0, 0, sw_nx f ex)]) un ii rw_ no pc_ := by
  obtain ⟨k1, k2, k3, k4, k5, k6⟩ := h.mono (show a ≤ a + 1 by omega)
  obtain ⟨-, -, -, -, -, j6⟩ := h
  cases ex with
  | false => exact ⟨k1, k2, k3, k4, k5, by show P.length + 1 + 0 + sm_X (NL ++ [(1, 0, 0, f)]) un ii rw_ lv + noc lv + sm_lo noc lv ≤ _; omega⟩
  | true =>
    have hz := hz rfl
    obtain ⟨l1, l2⟩ := md_w_last k1 k4
    obtain ⟨s1, s2, s3⟩ := sm_same ((1, 0, 0, f) : md_N) (1, 0, 0, sw_nx f true) l2
    have e3 := sm_X_3 (NL ++ [(1, 0, 0, f)]) un ii rw_ lv
    have hr := sm_b_in (a := a + 1) (lv := lv) (x := sm_X (NL ++ [(1, 0, 0, f)]) un ii rw_ lv) k2.2.2 e3.2
    have hl := sm_bel_len (NL ++ [(1, 0, 0, f)]) un ii rw_ lv
    have f1 := k2.1
    rw [show pc_ lv - 1 = NL.length by omega, sm_G_one] at k5
    have len1 := pg_add_len (P := P) (i := (5, 0, 1)) (by omega)
    have len2 := pg_add_len (P := pg_add P (5, 0, 1)) (i := (1, 32, 126 + 1)) (by omega)
    have Q := (((k5.not (by omega) (by rw [List.length_cons]; omega)).rng (x := 32) (y := 126) (by omega) (by rw [List.length_cons, List.length_cons]; omega) (by decide) (by decide) (dm_sm_refl _)).and (by omega) (by rw [List.length_cons]; omega)).conv sw_neg
    refine ⟨md_w_set k1 _, ⟨k2.1, k2.2.1, by rw [s2]; exact k2.2.2⟩, k3, k4, ?_, ?_⟩
    · rw [show pc_ lv - 1 = NL.length by omega, sm_G_one, s1, s3]
      exact Q
    · rw [s2]
      show (pg_add (pg_add (pg_add P (5, 0, 1)) (1, 32, 126 + 1)) (4, 0, 1)).length + 1 + 0 + _ + _ + _ ≤ _
      rw [pg_add_len (by omega), len2, len1]
      omega

def sm_sd (src : Nat → Nat) (len a st : Nat) : Prop := (st = 7 → ¬ (a < len ∧ src a = 45 ∧ a + 1 < len ∧ src (a + 1) ≠ 93)) ∧ (st = 8 → ¬ (a < len ∧ src a ≠ 93))

theorem sm_item {src : Nat → Nat} {len a : Nat} {lv : Nat} {P : pg_P} {NL : List md_N} {un ii rw_ no pc_ : Nat → Nat} {f : Nat → Int32} {st_ : Nat} {lo_ : Int32} {im : Nat} {ex ds : Bool} (hs : ∀ j, j < len → 32 ≤ src j ∧ src j < 127) (hp : pc_ lv = NL.length + 1) (ha : a < len) (h93 : src a ≠ 93) (hst : 5 ≤ st_ ∧ st_ ≤ 9 ∧ st_ ≠ 8) (h5 : ¬ (st_ = 5 ∧ src a = 94)) (h7 : st_ = 7 → ¬ (a < len ∧ src a = 45 ∧ a + 1 < len ∧ src (a + 1) ≠ 93)) : ((rd_it src len a P).1 = false ∧ (rd_it src len a P).2.1 ≤ len ∧ sm_stop src len a (NL ++ [(1, 0, 0, f)], lv, un, ii, rw_, no, pc_, st_, lo_, im, ex, ds) (rd_it src len a P).2.1) ∨ ∃ b g x y st' im' ds', rd_it src len a P = (true, b, pg_add P (1, x, y + 1)) ∧ a < b ∧ b ≤ len ∧ x < 127 ∧ y < 127 ∧ sm_run src len a (NL ++ [(1, 0, 0, f)], lv, un, ii, rw_, no, pc_, st_, lo_, im, ex, ds) b (NL ++ [(1, 0, 0, g)], lv, un, ii, rw_, no, pc_, st', lo_, im', ex, ds') ∧ (∀ c, 32 ≤ c → c < 127 → sw_hs g c = (sw_hs f c || decide (x ≤ c ∧ c ≤ y))) ∧ 7 ≤ st' ∧ st' ≤ 9 ∧ sm_sd src len b st' := by
  have hb := hs a ha
  by_cases rg : a + 1 < len ∧ src (a + 1) = 45 ∧ a + 1 + 1 < len ∧ src (a + 1 + 1) ≠ 93
  · have hd := hs _ rg.2.2.1
    have n7 : ¬ (st_ = 7 ∧ src a = 45) := fun z => h7 z.1 ⟨ha, z.2, rg.1, by rw [rg.2.1]; decide⟩
    have run1 : sm_run src len a (NL ++ [(1, 0, 0, f)], lv, un, ii, rw_, no, pc_, st_, lo_, im, ex, ds) (a + 1) (NL ++ [(1, 0, 0, sw_in f (src a))], lv, un, ii, rw_, no, pc_, 7, lo_, src a, ex, ds) := by
      refine sm_run.one ?_
      rw [md_at_lt ha, md_tkR_cl hst.1, if_neg (fun z => n7 ⟨z.1, Option.some.inj z.2⟩), md_cl_ch hp h93 h5 n7 hst.2.2]
    have run2 : sm_run src len (a + 1) (NL ++ [(1, 0, 0, sw_in f (src a))], lv, un, ii, rw_, no, pc_, 7, lo_, src a, ex, ds) (a + 1 + 1) (NL ++ [(1, 0, 0, sw_in (sw_in f (src a)) 45)], lv, un, ii, rw_, no, pc_, 8, lo_, src a, ex, sw_hs (sw_in f (src a)) 45) := by
      refine sm_run.one ?_
      rw [md_at_lt rg.1, rg.2.1, md_tkR_cl (by decide), if_pos ⟨rfl, rfl⟩, show pc_ lv - 1 = NL.length by omega, md_gd_last, md_cl_45 hp]
      rfl
    have tk3 : md_tkR (NL ++ [(1, 0, 0, sw_in (sw_in f (src a)) 45)], lv, un, ii, rw_, no, pc_, 8, lo_, src a, ex, sw_hs (sw_in f (src a)) 45) (md_at src len (a + 1 + 1)) = (decide (src a ≤ src (a + 1 + 1)), (NL ++ [(1, 0, 0, sw_ins (sw_ud (sw_in (sw_in f (src a)) 45) (sw_hs (sw_in f (src a)) 45)) (src a) (src (a + 1 + 1) + 1 - src a))], lv, un, ii, rw_, no, pc_, 9, lo_, src a, ex, sw_hs (sw_in f (src a)) 45)) := by
      rw [md_at_lt rg.2.2.1, md_tkR_cl (by decide), if_neg (fun z => absurd z.1 (by decide)), md_cl_8 hp rg.2.2.2]
    by_cases le : src a ≤ src (a + 1 + 1)
    · right
      refine ⟨a + 1 + 1 + 1, _, src a, src (a + 1 + 1), 9, src a, _, ?_, by omega, by omega, by omega, by omega, (run1.trans run2).trans (sm_run.one (by rw [tk3, decide_eq_true le])), ?_, by decide, by decide, fun z => absurd z (by decide), fun z => absurd z (by decide)⟩
      · unfold rd_it
        rw [if_pos ha, if_pos rg, if_pos le]
      · intro c hc1 hc2
        rw [sw_ins_hs hc1 hb.1, sw_ud_hs hc1, sw_in_hs hc1 (by decide), sw_in_hs hc1 hb.1, sw_in_hs (c := 45) (by decide) hb.1]
        by_cases hr : src a ≤ c ∧ c ≤ src (a + 1 + 1)
        · rw [decide_eq_true hr, decide_eq_true (show src a ≤ c ∧ c < src a + (src (a + 1 + 1) + 1 - src a) by omega), Bool.or_true, Bool.or_true]
        · have hne : c ≠ src a := by omega
          rw [decide_eq_false hr, decide_eq_false (show ¬ (src a ≤ c ∧ c < src a + (src (a + 1 + 1) + 1 - src a)) by omega), Bool.or_false, Bool.or_false, decide_eq_false hne, Bool.or_false]
          by_cases c45 : c = 45
          · subst c45
            rw [decide_eq_false hne, Bool.or_false]
            cases sw_hs f 45 <;> rfl
          · rw [decide_eq_false c45, decide_eq_true (show c ≠ 45 from c45), Bool.or_false, Bool.or_true, Bool.and_true]
    · left
      have er : rd_it src len a P = (false, a + 1 + 1, P) := by
        unfold rd_it
        rw [if_pos ha, if_pos rg, if_neg le]
      rw [er]
      exact ⟨rfl, by show a + 1 + 1 ≤ len; omega, (run1.trans run2).stop (sm_stop.one (by rw [tk3]; exact decide_eq_false le) (by omega)) (by omega)⟩
  · right
    have er : rd_it src len a P = (true, a + 1, pg_add P (1, src a, src a + 1)) := by
      unfold rd_it
      rw [if_pos ha, if_neg rg]
    have hset : ∀ d, d = src a → ∀ c, 32 ≤ c → c < 127 → sw_hs (sw_in f d) c = (sw_hs f c || decide (src a ≤ c ∧ c ≤ src a)) := by
      intro d hd c hc1 hc2
      subst hd
      rw [sw_in_hs hc1 hb.1]
      congr 1
      by_cases q : c = src a
      · rw [decide_eq_true q, decide_eq_true (by omega)]
      · rw [decide_eq_false q, decide_eq_false (by omega)]
    by_cases e7 : st_ = 7 ∧ src a = 45
    · obtain ⟨e1, e2⟩ := e7
      subst e1
      refine ⟨a + 1, sw_in f 45, src a, src a, 8, im, _, er, by omega, by omega, by omega, by omega, sm_run.one (by rw [md_at_lt ha, e2, md_tkR_cl (by decide), md_cl_45 hp]), hset 45 e2.symm, by decide, by decide, fun z => absurd z (by decide), fun _ z => h7 rfl ⟨ha, e2, z.1, z.2⟩⟩
    · refine ⟨a + 1, sw_in f (src a), src a, src a, 7, src a, _, er, by omega, by omega, by omega, by omega, sm_run.one (by rw [md_at_lt ha, md_tkR_cl hst.1, md_cl_ch hp h93 h5 e7 hst.2.2]), hset _ rfl, by decide, by decide, fun _ z => rg z, fun z => absurd z (by decide)⟩

theorem rd_is_no {src : Nat → Nat} {len a : Nat} {P : pg_P} (h : ¬ (a < len ∧ src a ≠ 93)) : ∀ f, rd_is src len f a P = (true, a, P)
  | 0 => rfl
  | _ + 1 => if_neg h

theorem sm_items {src : Nat → Nat} {len z : Nat} (hlen : len ≤ 40) (hs : ∀ j, j < len → 32 ≤ src j ∧ src j < 127) {lv : Nat} {noc : Nat → Nat} {uo io : Nat → Bool} {NL : List md_N} {un ii rw_ no pc_ : Nat → Nat} {lo_ : Int32} {ex : Bool} : ∀ (fu a : Nat) (P : pg_P) (f : Nat → Int32) (st_ im : Nat) (ds : Bool), len - a ≤ fu → a ≤ len → sm_pi z a lv noc uo io P (NL ++ [(1, 0, 0, f)]) un ii rw_ no pc_ → 7 ≤ st_ → st_ ≤ 9 → sm_sd src len a st_ → ((rd_is src len fu a P).1 = false ∧ (rd_is src len fu a P).2.1 ≤ len ∧ sm_stop src len a (NL ++ [(1, 0, 0, f)], lv, un, ii, rw_, no, pc_, st_, lo_, im, ex, ds) (rd_is src len fu a P).2.1) ∨ ∃ b P' g st' im' ds', rd_is src len fu a P = (true, b, P') ∧ a ≤ b ∧ b ≤ len ∧ ¬ (b < len ∧ src b ≠ 93) ∧ 7 ≤ st' ∧ st' ≤ 9 ∧ sm_run src len a (NL ++ [(1, 0, 0, f)], lv, un, ii, rw_, no, pc_, st_, lo_, im, ex, ds) b (NL ++ [(1, 0, 0, g)], lv, un, ii, rw_, no, pc_, st', lo_, im', ex, ds') ∧ sm_pi z b lv noc uo io P' (NL ++ [(1, 0, 0, g)]) un ii rw_ no pc_
  | 0, a, P, f, st_, im, ds, hf, ha, h, h1, h2, h3 => Or.inr ⟨a, P, f, st_, im, ds, rfl, Nat.le_refl _, ha, by omega, h1, h2, sm_run.refl, h⟩
  | fu + 1, a, P, f, st_, im, ds, hf, ha, h, h1, h2, h3 => by
    by_cases hm : a < len ∧ src a ≠ 93
    · have e : rd_is src len (fu + 1) a P = (if (rd_it src len a P).1 = true then rd_is src len fu (rd_it src len a P).2.1 (pg_add (rd_it src len a P).2.2 (3, 0, 1)) else rd_it src len a P) := if_pos hm
      have n8 : st_ ≠ 8 := fun z => h3.2 z hm
      rcases sm_item (P := P) (st_ := st_) (lo_ := lo_) (im := im) (ex := ex) (ds := ds) (f := f) hs (md_w_last h.1 h.2.2.2.1).1 hm.1 hm.2 ⟨by omega, h2, n8⟩ (fun z => by omega) h3.1 with ⟨q1, q2, q3⟩ | ⟨b, g, x, y, st1, im1, ds1, q1, q2, q3, q4, q5, q6, q7, q8, q9, q10⟩
      · left
        rw [e, if_neg (by rw [q1]; decide)]
        exact ⟨q1, q2, q3⟩
      · rw [q1] at e
        have e : rd_is src len (fu + 1) a P = rd_is src len fu b (pg_add (pg_add P (1, x, y + 1)) (3, 0, 1)) := e
        rcases sm_items hlen hs fu b _ g st1 im1 ds1 (by omega) q3 (sm_pi_item h q2 (by omega) q4 q5 q7) q8 q9 q10 with ⟨r1, r2, r3⟩ | ⟨b2, P2, g2, st2, im2, ds2, r1, r2, r3, r4, r5, r6, r7, r8⟩
        · left
          rw [e]
          exact ⟨r1, r2, q6.stop r3 (by omega)⟩
        · right
          rw [e]
          exact ⟨b2, P2, g2, st2, im2, ds2, r1, by omega, r3, r4, r5, r6, q6.trans r7, r8⟩
    · exact Or.inr ⟨a, P, f, st_, im, ds, rd_is_no hm _, Nat.le_refl _, ha, hm, h1, h2, sm_run.refl, h⟩

theorem sm_c1 {src : Nat → Nat} {len z a : Nat} {lv : Nat} {noc : Nat → Nat} {uo io : Nat → Bool} {P : pg_P} {NL : List md_N} {un ii rw_ no pc_ : Nat → Nat} {f : Nat → Int32} {st_ : Nat} {lo_ : Int32} {im : Nat} {ex ds : Bool} (hlen : len ≤ 40) (hs : ∀ j, j < len → 32 ≤ src j ∧ src j < 127) (h : sm_pr z a lv noc uo io P (NL ++ [(1, 0, 0, f)]) un ii rw_ no pc_) (hf : ∀ c, 32 ≤ c → c < 127 → sw_hs f c = false) (hst : 5 ≤ st_ ∧ st_ ≤ 6) (h5 : ¬ (st_ = 5 ∧ a < len ∧ src a = 94)) (hz : ex = true → 2 ≤ z) (ha : a ≤ len) : ((rd_c1 src len ex a P).1 = false ∧ (rd_c1 src len ex a P).2.1 ≤ len ∧ sm_stop src len a (NL ++ [(1, 0, 0, f)], lv, un, ii, rw_, no, pc_, st_, lo_, im, ex, ds) (rd_c1 src len ex a P).2.1) ∨ ∃ b P' g im' ds', rd_c1 src len ex a P = (true, b, P') ∧ a < b ∧ b ≤ len ∧ sm_run src len a (NL ++ [(1, 0, 0, f)], lv, un, ii, rw_, no, pc_, st_, lo_, im, ex, ds) b (NL ++ [(1, 0, 0, g)], lv, un, ii, rw_, no, pc_, 0, lo_, im', ex, ds') ∧ sm_pi 0 b lv noc uo io P' (NL ++ [(1, 0, 0, g)]) un ii rw_ no pc_ := by
  have hp := (md_w_last h.1 h.2.2.2.1).1
  by_cases c93 : a < len ∧ src a = 93
  · left
    rw [show rd_c1 src len ex a P = (false, a, P) from if_pos c93]
    refine ⟨rfl, ha, sm_stop.one ?_ ha⟩
    rw [md_at_lt c93.1, c93.2, md_tkR_cl hst.1]
    exact md_cl_93f (by omega)
  have e1 : rd_c1 src len ex a P = rd_c2 src len ex (rd_it src len a P) := if_neg c93
  by_cases hal : a < len
  · rcases sm_item (P := P) (st_ := st_) (lo_ := lo_) (im := im) (ex := ex) (ds := ds) (f := f) hs hp hal (fun z => c93 ⟨hal, z⟩) ⟨by omega, by omega, by omega⟩ (fun z => h5 ⟨z.1, hal, z.2⟩) (fun z => by omega) with ⟨q1, q2, q3⟩ | ⟨b, g, x, y, st1, im1, ds1, q1, q2, q3, q4, q5, q6, q7, q8, q9, q10⟩
    · left
      rw [e1, show rd_c2 src len ex (rd_it src len a P) = rd_it src len a P from if_neg (by rw [q1]; decide)]
      exact ⟨q1, q2, q3⟩
    · have e2 : rd_c1 src len ex a P = rd_c3 src len ex (rd_is src len len b (pg_add P (1, x, y + 1))) := by
        rw [e1, q1]
        rfl
      have p1 : sm_pi z a lv noc uo io (pg_add P (1, x, y + 1)) (NL ++ [(1, 0, 0, g)]) un ii rw_ no pc_ := by
        refine sm_pr_push (sm_pr_set h g) (by omega) q4 q5 ?_
        rw [show pc_ lv - 1 = NL.length by omega, sm_G_one]
        exact sw_rng (fun c hc1 hc2 => by rw [q7 c hc1 hc2, hf c hc1 hc2, Bool.false_or])
      rcases sm_items hlen hs (lo_ := lo_) (ex := ex) len b _ g st1 im1 ds1 (by omega) q3 (p1.mono (Nat.le_of_lt q2)) q8 q9 q10 with ⟨r1, r2, r3⟩ | ⟨b2, P2, g2, st2, im2, ds2, r1, r2, r3, r4, r5, r6, r7, r8⟩
      · left
        rw [e2, show rd_c3 src len ex (rd_is src len len b (pg_add P (1, x, y + 1))) = rd_is src len len b (pg_add P (1, x, y + 1)) from if_neg (by rw [r1]; decide)]
        exact ⟨r1, r2, q6.stop r3 (by omega)⟩
      · have e3 : rd_c1 src len ex a P = (if b2 < len ∧ src b2 = 93 then (true, b2 + 1, rd_ng ex P2) else (false, b2, P2)) := by
          rw [e2, r1]
          rfl
        by_cases c3 : b2 < len ∧ src b2 = 93
        · right
          rw [e3, if_pos c3]
          refine ⟨b2 + 1, _, _, im2, ds2, rfl, by omega, by omega, (q6.trans r7).trans (sm_run.one ?_), sm_pi_neg r8 (by omega) hz⟩
          rw [md_at_lt c3.1, c3.2, md_tkR_cl (by omega), if_neg (fun z => absurd (Option.some.inj z.2) (by decide)), md_cl_93 hp (by omega)]
        · left
          rw [e3, if_neg c3]
          refine ⟨rfl, r3, (q6.trans r7).stop (sm_stop.one ?_ r3) (by omega)⟩
          rw [md_at_ge (by omega), md_tkR_cl (by omega)]
          rfl
  · left
    have e2 : rd_c1 src len ex a P = (false, a, P) := by
      rw [e1, show rd_it src len a P = (false, a, P) from if_neg hal]
      rfl
    rw [e2]
    refine ⟨rfl, ha, sm_stop.one ?_ ha⟩
    rw [md_at_ge hal, md_tkR_cl hst.1]
    rfl

theorem sm_cp {src : Nat → Nat} {len a : Nat} {lv : Nat} {noc : Nat → Nat} {uo io : Nat → Bool} {P : pg_P} {NL : List md_N} {un ii rw_ no pc_ : Nat → Nat} (h : sm_bd src len a lv noc uo io P NL un ii rw_ no pc_) (ha : a ≤ 40) : sm_ext NL (md_cp NL (rw_ lv) (no lv) (pc_ lv)).1 ∧ (md_cp NL (rw_ lv) (no lv) (pc_ lv)).2 ≤ (md_cp NL (rw_ lv) (no lv) (pc_ lv)).1.length ∧ sm_row (md_cp NL (rw_ lv) (no lv) (pc_ lv)).1 (md_cp NL (rw_ lv) (no lv) (pc_ lv)).2 = sm_tp NL (rw_ lv) (no lv) (pc_ lv) := by
  obtain ⟨⟨a1, a2, a3, a4, a5, a6⟩, -⟩ := h
  obtain ⟨c1, c2, c3, c4, c5, c6⟩ := md_cp_all (nv := no lv) (a3 lv (Nat.le_refl _)).2.2 a4 (by omega) a6
  exact ⟨c1, c4, c6⟩

theorem sm_pr_of_bd {src : Nat → Nat} {len a : Nat} {lv : Nat} {noc : Nat → Nat} {uo io : Nat → Bool} {P : pg_P} {NL : List md_N} {un ii rw_ no pc_ : Nat → Nat} (h : sm_bd src len a lv noc uo io P NL un ii rw_ no pc_) (ha : a < 40) (f : Nat → Int32) : sm_pr 0 (a + 1) lv noc uo io P ((md_cp NL (rw_ lv) (no lv) (pc_ lv)).1 ++ [(1, 0, 0, f)]) un ii (va_up rw_ lv (md_cp NL (rw_ lv) (no lv) (pc_ lv)).2) (va_up no lv (if pc_ lv = 0 then no lv else 0)) (va_up pc_ lv ((md_cp NL (rw_ lv) (no lv) (pc_ lv)).1.length + 1)) := by
  obtain ⟨c1, c4, c6⟩ := sm_cp h (by omega)
  obtain ⟨k1, k2, k3, k4, k5, k6, k7⟩ := h
  have b3 := k1.2.2.1
  have ext := c1.trans (sm_ext.one (md_cp NL (rw_ lv) (no lv) (pc_ lv)).1 (1, 0, 0, f))
  obtain ⟨q1, q2⟩ := sm_bel_ext ext (lv := lv) (un := un) (ii := ii) (rw_ := rw_) (un' := un) (ii' := ii) (rw' := (va_up rw_ lv (md_cp NL (rw_ lv) (no lv) (pc_ lv)).2)) (fun j hj => by have := b3 j hj; omega) (fun j hj => ⟨rfl, rfl, fun q => va_up_ne' (by omega)⟩)
  refine ⟨md_w_one k1 (by omega) f, ⟨by have := k2.1; omega, k2.2.1, by rw [q2]; have := k2.2.2; omega⟩, fun j hj => ?_, by rw [va_up_eq']; exact Nat.succ_pos _, ?_, ?_⟩
  · by_cases e : j = lv
    · rw [e, va_up_eq']
      exact k4
    · rw [va_up_ne' e]
      exact k3 j (by omega)
  · rw [q1, va_up_eq', (sm_ext.one (md_cp NL (rw_ lv) (no lv) (pc_ lv)).1 (1, 0, 0, f)).row c4, c6]
    exact k5.mono (sm_b_le (by omega))
  · rw [q2]
    omega

theorem sm_cx {src : Nat → Nat} {len a : Nat} {lv : Nat} {noc : Nat → Nat} {uo io : Nat → Bool} {P : pg_P} {NL : List md_N} {un ii rw_ no pc_ : Nat → Nat} {lo_ : Int32} {im : Nat} {ex ds : Bool} (hlen : len ≤ 40) (hs : ∀ j, j < len → 32 ≤ src j ∧ src j < 127) (h : sm_bd src len a lv noc uo io P NL un ii rw_ no pc_) (ha : a < len) (h91 : src a = 91) : ((rd_cx src len a P).1 = false ∧ (rd_cx src len a P).2.1 ≤ len ∧ sm_stop src len a (NL, lv, un, ii, rw_, no, pc_, 0, lo_, im, ex, ds) (rd_cx src len a P).2.1) ∨ ∃ b P' NL' rw' no' pc' lo' im' ex' ds', rd_cx src len a P = (true, b, P') ∧ a < b ∧ b ≤ len ∧ sm_run src len a (NL, lv, un, ii, rw_, no, pc_, 0, lo_, im, ex, ds) b (NL', lv, un, ii, rw', no', pc', 0, lo', im', ex', ds') ∧ sm_pi 0 b lv noc uo io P' NL' un ii rw' no' pc' := by
  have p0 := sm_pr_of_bd h (by omega) (fun _ => 0)
  have hp := (md_w_last p0.1 p0.2.2.2.1).1
  have run1 : sm_run src len a (NL, lv, un, ii, rw_, no, pc_, 0, lo_, im, ex, ds) (a + 1) ((md_cp NL (rw_ lv) (no lv) (pc_ lv)).1 ++ [(1, 0, 0, fun _ => 0)], lv, un, ii, (va_up rw_ lv (md_cp NL (rw_ lv) (no lv) (pc_ lv)).2), (va_up no lv (if pc_ lv = 0 then no lv else 0)), (va_up pc_ lv ((md_cp NL (rw_ lv) (no lv) (pc_ lv)).1.length + 1)), 5, lo_, im, false, ds) := sm_run.one (by rw [md_at_lt ha, h91, md_tkR_0, md_pl_91])
  by_cases c94 : a + 1 < len ∧ src (a + 1) = 94
  · have e : rd_cx src len a P = rd_c1 src len true (a + 1 + 1) P := if_pos c94
    rw [e]
    have run2 : sm_run src len (a + 1) ((md_cp NL (rw_ lv) (no lv) (pc_ lv)).1 ++ [(1, 0, 0, fun _ => 0)], lv, un, ii, (va_up rw_ lv (md_cp NL (rw_ lv) (no lv) (pc_ lv)).2), (va_up no lv (if pc_ lv = 0 then no lv else 0)), (va_up pc_ lv ((md_cp NL (rw_ lv) (no lv) (pc_ lv)).1.length + 1)), 5, lo_, im, false, ds) (a + 1 + 1) ((md_cp NL (rw_ lv) (no lv) (pc_ lv)).1 ++ [(1, 0, 0, fun _ => 0)], lv, un, ii, (va_up rw_ lv (md_cp NL (rw_ lv) (no lv) (pc_ lv)).2), (va_up no lv (if pc_ lv = 0 then no lv else 0)), (va_up pc_ lv ((md_cp NL (rw_ lv) (no lv) (pc_ lv)).1.length + 1)), 6, lo_, im, true, ds) := sm_run.one (by rw [md_at_lt c94.1, c94.2, md_tkR_cn (by decide) (fun z => absurd z.1 (by decide)), md_cl_94])
    rcases sm_c1 (st_ := 6) (lo_ := lo_) (im := im) (ex := true) (ds := ds) hlen hs (p0.more (y := 2) (b := a + 1 + 1) (by omega) (by omega)) (fun c _ _ => sw_0 c) ⟨by decide, by decide⟩ (fun z => absurd z.1 (by decide)) (fun _ => Nat.le_refl _) (by omega) with ⟨q1, q2, q3⟩ | ⟨b, P1, g, im1, ds1, q1, q2, q3, q4, q5⟩
    · exact Or.inl ⟨q1, q2, (run1.trans run2).stop q3 (by omega)⟩
    · exact Or.inr ⟨b, P1, _, _, _, _, _, _, _, _, q1, by omega, q3, (run1.trans run2).trans q4, q5⟩
  · have e : rd_cx src len a P = rd_c1 src len false (a + 1) P := if_neg c94
    rw [e]
    rcases sm_c1 (st_ := 5) (lo_ := lo_) (im := im) (ex := false) (ds := ds) hlen hs p0 (fun c _ _ => sw_0 c) ⟨by decide, by decide⟩ (fun z => c94 z.2) (fun z => by cases z) (by omega) with ⟨q1, q2, q3⟩ | ⟨b, P1, g, im1, ds1, q1, q2, q3, q4, q5⟩
    · exact Or.inl ⟨q1, q2, run1.stop q3 (by omega)⟩
    · exact Or.inr ⟨b, P1, _, _, _, _, _, _, _, _, q1, by omega, q3, run1.trans q4, q5⟩
