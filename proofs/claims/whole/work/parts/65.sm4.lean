/-! the two readings side by side: runs of the reference, what ties the class's program to the reference's nodes, the marks behind a piece -/
def sm_run (src : Nat → Nat) (len a : Nat) (R : md_R) (b : Nat) (R2 : md_R) : Prop := a ≤ b ∧ ∀ n, md_go src len (n + (b - a)) a R = md_go src len n b R2
def sm_stop (src : Nat → Nat) (len a : Nat) (R : md_R) (p : Nat) : Prop := ∀ n, len + 1 ≤ n + a → (md_go src len n a R).1 = p

theorem sm_run.refl {src : Nat → Nat} {len a : Nat} {R : md_R} : sm_run src len a R a R := ⟨Nat.le_refl _, fun n => by rw [Nat.sub_self]; rfl⟩

theorem sm_run.trans {src : Nat → Nat} {len a b c : Nat} {R R2 R3 : md_R} (h : sm_run src len a R b R2) (k : sm_run src len b R2 c R3) : sm_run src len a R c R3 := by
  obtain ⟨h1, h2⟩ := h
  obtain ⟨k1, k2⟩ := k
  refine ⟨by omega, fun n => ?_⟩
  rw [show n + (c - a) = (n + (c - b)) + (b - a) by omega, h2, k2]

theorem sm_run.one {src : Nat → Nat} {len a : Nat} {R R2 : md_R} (h : md_tkR R (md_at src len a) = (true, R2)) : sm_run src len a R (a + 1) R2 := by
  refine ⟨by omega, fun n => ?_⟩
  rw [show n + (a + 1 - a) = n + 1 by omega]
  exact md_go_t (by rw [h]) (by rw [h])

theorem sm_stop.one {src : Nat → Nat} {len a : Nat} {R : md_R} (h : (md_tkR R (md_at src len a)).1 = false) (ha : a ≤ len) : sm_stop src len a R a := by
  intro n hn
  cases n with
  | zero => omega
  | succ n => rw [md_go_f h rfl]

theorem sm_run.stop {src : Nat → Nat} {len a b p : Nat} {R R2 : md_R} (h : sm_run src len a R b R2) (k : sm_stop src len b R2 p) (hb : b ≤ len + 1) : sm_stop src len a R p := by
  intro n hn
  obtain ⟨h1, h2⟩ := h
  rw [show n = (n - (b - a)) + (b - a) by omega, h2]
  exact k _ (by omega)

theorem md_at_lt {src : Nat → Nat} {len a : Nat} (h : a < len) : md_at src len a = some (src a) := if_pos h
theorem md_at_ge {src : Nat → Nat} {len a : Nat} (h : ¬ a < len) : md_at src len a = none := if_neg h

def sm_b (a lv : Nat) : Nat := (3 * (a + lv) + 20) / 4
def sm_X (NL : List md_N) (un ii rw_ : Nat → Nat) (lv : Nat) : Nat := min (ii lv) 1 + min (un lv) 1 + (sm_low NL un ii rw_ lv).length
def sm_bel (NL : List md_N) (un ii rw_ : Nat → Nat) (lv : Nat) : List dm_L := sm_opt NL (ii lv) ++ (sm_opt NL (un lv) ++ sm_low NL un ii rw_ lv)

theorem sm_bel_len (NL : List md_N) (un ii rw_ : Nat → Nat) (lv : Nat) : (sm_bel NL un ii rw_ lv).length = sm_X NL un ii rw_ lv := by
  unfold sm_bel sm_X
  rw [List.length_append, List.length_append, sm_opt_len, sm_opt_len]
  omega

theorem sm_low_ge (NL : List md_N) (un ii rw_ : Nat → Nat) : ∀ k, k ≤ (sm_low NL un ii rw_ k).length
  | 0 => Nat.le_refl _
  | k + 1 => by
    have := sm_low_ge NL un ii rw_ k
    rw [sm_low_s]
    omega

theorem sm_X_3 (NL : List md_N) (un ii rw_ : Nat → Nat) (lv : Nat) : lv ≤ sm_X NL un ii rw_ lv ∧ sm_X NL un ii rw_ lv ≤ 3 * lv + 2 := by
  have := sm_low_len3 NL un ii rw_ lv
  have := sm_low_ge NL un ii rw_ lv
  unfold sm_X
  omega

def sm_fr (a lv : Nat) (uo io : Nat → Bool) (NL : List md_N) (un ii rw_ : Nat → Nat) : Prop := lv ≤ a ∧ (∀ j, j ≤ lv → uo j = decide (0 < un j) ∧ io j = decide (0 < ii j)) ∧ sm_X NL un ii rw_ lv ≤ a
/-- between two pieces -/
def sm_bd (src : Nat → Nat) (len a lv : Nat) (noc : Nat → Nat) (uo io : Nat → Bool) (P : pg_P) (NL : List md_N) (un ii rw_ no pc_ : Nat → Nat) : Prop := md_w a NL lv un ii rw_ no pc_ ∧ sm_fr a lv uo io NL un ii rw_ ∧ (∀ j, j < lv → noc j = no j) ∧ noc lv = (if pc_ lv = 0 then no lv else 0) ∧ sm_Q (sm_b a lv) P (sm_tp NL (rw_ lv) (no lv) (pc_ lv) :: sm_bel NL un ii rw_ lv) ∧ P.length + sm_X NL un ii rw_ lv + noc lv + sm_lo noc lv ≤ 2 * a + 1 + lv ∧ (0 < pc_ lv → ¬ (a < len ∧ rd_mk (src a) = true))
/-- in front of a piece; z: steps that may still be wanted beside -/
def sm_pr (z a lv : Nat) (noc : Nat → Nat) (uo io : Nat → Bool) (P : pg_P) (NL : List md_N) (un ii rw_ no pc_ : Nat → Nat) : Prop := md_w a NL lv un ii rw_ no pc_ ∧ sm_fr a lv uo io NL un ii rw_ ∧ (∀ j, j ≤ lv → noc j = no j) ∧ 0 < pc_ lv ∧ sm_Q (sm_b a lv) P (sm_row NL (rw_ lv) :: sm_bel NL un ii rw_ lv) ∧ P.length + 2 + z + sm_X NL un ii rw_ lv + noc lv + sm_lo noc lv ≤ 2 * a + 1 + lv
/-- behind a piece that the class hasn't joined yet -/
def sm_pi (z a lv : Nat) (noc : Nat → Nat) (uo io : Nat → Bool) (P : pg_P) (NL : List md_N) (un ii rw_ no pc_ : Nat → Nat) : Prop := md_w a NL lv un ii rw_ no pc_ ∧ sm_fr a lv uo io NL un ii rw_ ∧ (∀ j, j ≤ lv → noc j = no j) ∧ 0 < pc_ lv ∧ sm_Q (sm_b a lv) P (sm_G NL (pc_ lv - 1) :: sm_row NL (rw_ lv) :: sm_bel NL un ii rw_ lv) ∧ P.length + 1 + z + sm_X NL un ii rw_ lv + noc lv + sm_lo noc lv ≤ 2 * a + 1 + lv

theorem md_w.mono {a b : Nat} {NL : List md_N} {dp : Nat} {un ii rw_ no pc_ : Nat → Nat} (h : md_w a NL dp un ii rw_ no pc_) (hb : a ≤ b) : md_w b NL dp un ii rw_ no pc_ := ⟨by have := h.1; omega, by have := h.2.1; omega, h.2.2⟩

theorem sm_fr.mono {a b lv : Nat} {uo io : Nat → Bool} {NL : List md_N} {un ii rw_ : Nat → Nat} (h : sm_fr a lv uo io NL un ii rw_) (hb : a ≤ b) : sm_fr b lv uo io NL un ii rw_ := ⟨by have := h.1; omega, h.2.1, by have := h.2.2; omega⟩

theorem sm_b_le {a b lv lw : Nat} (h : a + lv ≤ b + lw) : sm_b a lv ≤ sm_b b lw := by
  unfold sm_b
  omega
/-- the stack has room: x values at the level and below, three more -/
theorem sm_b_in {a lv x : Nat} (h1 : x ≤ a) (h2 : x ≤ 3 * lv + 2) : x + 3 < sm_b a lv := by
  unfold sm_b
  omega

theorem sm_pi.mono {z a b lv : Nat} {noc : Nat → Nat} {uo io : Nat → Bool} {P : pg_P} {NL : List md_N} {un ii rw_ no pc_ : Nat → Nat} (h : sm_pi z a lv noc uo io P NL un ii rw_ no pc_) (hb : a ≤ b) : sm_pi z b lv noc uo io P NL un ii rw_ no pc_ := by
  obtain ⟨h1, h2, h3, h4, h5, h6⟩ := h
  exact ⟨h1.mono hb, h2.mono hb, h3, h4, h5.mono (sm_b_le (by omega)), by omega⟩

theorem sm_bel_ext {A B : List md_N} (h : sm_ext A B) {un ii rw_ un' ii' rw' : Nat → Nat} {lv : Nat} (hb : ∀ j, j ≤ lv → un j ≤ A.length ∧ ii j ≤ A.length ∧ rw_ j ≤ A.length) (he : ∀ j, j ≤ lv → un' j = un j ∧ ii' j = ii j ∧ (j < lv → rw' j = rw_ j)) : sm_bel B un' ii' rw' lv = sm_bel A un ii rw_ lv ∧ sm_X B un' ii' rw' lv = sm_X A un ii rw_ lv := by
  have e := h.low (k := lv) (un := un) (ii := ii) (rw_ := rw_) (un' := un') (ii' := ii') (rw' := rw') (fun j hj => hb j (by omega)) (fun j hj => ⟨(he j (by omega)).1, (he j (by omega)).2.1, (he j (by omega)).2.2 hj⟩)
  have b := hb lv (Nat.le_refl _)
  have q := he lv (Nat.le_refl _)
  unfold sm_bel sm_X
  rw [e, q.1, q.2.1, h.opt b.1, h.opt b.2.1]
  exact ⟨rfl, rfl⟩

theorem sm_pi_rep {z a b lv : Nat} {noc : Nat → Nat} {uo io : Nat → Bool} {P : pg_P} {NL : List md_N} {un ii rw_ no pc_ : Nat → Nat} (h : sm_pi z a lv noc uo io P NL un ii rw_ no pc_) (hab : a < b) (hb : b ≤ 40) {x : md_N} {lo hi : Nat} (hx : md_fn NL.length x) (h1 : lo < 100) (h2 : hi < 100) (h3 : hi = 0 ∨ lo < hi) (hS : nd_S (sm_n x) (sm_G NL) = dm_rep (sm_G NL (pc_ lv - 1)) lo hi) : sm_pi z b lv noc uo io (pg_add P (6, lo, hi)) (NL ++ [x]) un ii rw_ no (va_up pc_ lv (NL.length + 1)) := by
  obtain ⟨k1, k2, k3, k4, k5, k6⟩ := h
  have b3 := k1.2.2.1
  obtain ⟨q1, q2⟩ := sm_bel_ext (sm_ext.one NL x) (lv := lv) (un := un) (ii := ii) (rw_ := rw_) (un' := un) (ii' := ii) (rw' := rw_) (fun j hj => by have := b3 j hj; omega) (fun j hj => ⟨rfl, rfl, fun _ => rfl⟩)
  have e3 := sm_X_3 NL un ii rw_ lv
  have f3 := k2.2.2
  have f1 := k2.1
  have hr := sm_b_in (a := b) (lv := lv) (x := sm_X NL un ii rw_ lv) (by omega) e3.2
  have hl := sm_bel_len NL un ii rw_ lv
  have Q := (k5.mono (sm_b_le (b := b) (lw := lv) (by omega))).rep (by omega) (by rw [List.length_cons]; omega) h1 h2 h3
  refine ⟨(md_w_mk k1 k4 hx).mono (by omega), ⟨by omega, k2.2.1, by rw [q2]; omega⟩, k3, by rw [va_up_eq']; omega, ?_, ?_⟩
  · rw [va_up_eq', q1, (sm_ext.one NL x).row (b3 lv (Nat.le_refl _) |>.2.2 |> fun z => by omega), show NL.length + 1 - 1 = NL.length from rfl, sm_G_new, hS]
    exact Q
  · rw [q2, pg_add_len (by omega)]
    omega

theorem md_tkR_0 {NL : List md_N} {dp : Nat} {un ii rw_ no pc_ : Nat → Nat} {lo_ : Int32} {im : Nat} {ex ds : Bool} {c : Option Nat} : md_tkR (NL, dp, un, ii, rw_, no, pc_, 0, lo_, im, ex, ds) c = md_pl NL dp un ii rw_ no pc_ 0 lo_ im ex ds c := by
  show md_tk NL dp un ii rw_ no pc_ 0 lo_ im ex ds c = _
  exact if_pos rfl

theorem md_tkR_br {NL : List md_N} {dp : Nat} {un ii rw_ no pc_ : Nat → Nat} {st_ : Nat} {lo_ : Int32} {im : Nat} {ex ds : Bool} {c : Option Nat} (h0 : st_ ≠ 0) (h4 : st_ < 5) : md_tkR (NL, dp, un, ii, rw_, no, pc_, st_, lo_, im, ex, ds) c = md_br NL dp un ii rw_ no pc_ st_ lo_ im ex ds c := by
  show md_tk NL dp un ii rw_ no pc_ st_ lo_ im ex ds c = _
  unfold md_tk
  rw [if_neg h0, if_pos h4]

theorem md_tkR_cl {NL : List md_N} {dp : Nat} {un ii rw_ no pc_ : Nat → Nat} {st_ : Nat} {lo_ : Int32} {im : Nat} {ex ds : Bool} {c : Option Nat} (h5 : 5 ≤ st_) : md_tkR (NL, dp, un, ii, rw_, no, pc_, st_, lo_, im, ex, ds) c = md_cl NL dp un ii rw_ no pc_ st_ lo_ im ex (if st_ = 7 ∧ c = some 45 then bt ((NL.getD (pc_ dp - 1) (0, 0, 0, fun _ => 0)).2.2.2 0) 13 else ds) c := by
  show md_tk NL dp un ii rw_ no pc_ st_ lo_ im ex ds c = _
  unfold md_tk
  rw [if_neg (by omega), if_neg (by omega)]

theorem sm_mark9 {src : Nat → Nat} {len z a e : Nat} {lv : Nat} {noc : Nat → Nat} {uo io : Nat → Bool} {P : pg_P} {NL : List md_N} {un ii rw_ no pc_ : Nat → Nat} {im : Nat} {ex ds : Bool} (h : sm_pi z a lv noc uo io P NL un ii rw_ no pc_) (hae : a < e + 1) (he : e < len) (hlen : len ≤ 40) (h125 : src e = 125) {st_ lw m hi : Nat} (hst : 2 ≤ st_ ∧ st_ ≤ 4) (hlw : lw ≤ 9) (hm : m = (if st_ = 2 then lw else if st_ = 3 then 10 else im)) (hmm : m ≤ 10) (hlm : m < 10 → lw ≤ m) (hhi : mo_M m = hi) : sm_run src len e (NL, lv, un, ii, rw_, no, pc_, st_, nI lw, im, ex, ds) (e + 1) (NL ++ [(9, pc_ lv - 1, lw, upd (fun _ => 0) 0 (nI m))], lv, un, ii, rw_, no, va_up pc_ lv (NL.length + 1), 0, nI lw, im, ex, ds) ∧ sm_pi z (e + 1) lv noc uo io (pg_add P (6, lw, hi)) (NL ++ [(9, pc_ lv - 1, lw, upd (fun _ => 0) 0 (nI m))]) un ii rw_ no (va_up pc_ lv (NL.length + 1)) := by
  have lc : (nI lw).toNatClampNeg = lw := nI_clamp (by omega)
  have mc : (nI m).toNatClampNeg = m := nI_clamp (by omega)
  have e4 := h.1.2.2.2.1 h.2.2.2.1
  have b := h.1.2.1
  have hpos := h.2.2.2.1
  have hh : (hi = 0 ∨ lw < hi) ∧ hi < 100 := by
    unfold mo_M at hhi
    by_cases q : m < 10
    · rw [if_pos q] at hhi
      have := hlm q
      omega
    · rw [if_neg q] at hhi
      omega
  constructor
  · refine sm_run.one ?_
    rw [md_at_lt he, h125, md_tkR_br (by omega) (by omega), md_br_125 (by omega), lc, ← hm]
  · refine sm_pi_rep h hae (by omega) ⟨⟨by show 9 ≤ 9; decide, by show pc_ lv - 1 < 128; omega, by show lw < 128; omega, fun _ => by show pc_ lv - 1 < NL.length; omega, (fun z => by have z : 9 = 2 ∨ 9 = 3 ∨ 9 = 4 := z; omega), fun _ => ?_⟩, fun _ => by show upd (fun _ => 0) 0 (nI m) 0 = nI (upd (fun _ => 0) 0 (nI m) 0).toNatClampNeg; rw [pk_us, mc]⟩ (by omega) hh.2 hh.1 ?_
    · show lw < 10 ∧ (upd (fun _ => 0) 0 (nI m) 0).toNatClampNeg ≤ 10 ∧ ((upd (fun _ => 0) 0 (nI m) 0).toNatClampNeg < 10 → lw ≤ (upd (fun _ => 0) 0 (nI m) 0).toNatClampNeg)
      rw [pk_us, mc]
      exact ⟨by omega, hmm, hlm⟩
    · show dm_rep (sm_G NL (pc_ lv - 1)) lw (mo_M (upd (fun _ => 0) 0 (nI m) 0).toNatClampNeg) = _
      rw [pk_us, mc, hhi]

theorem sm_mark {src : Nat → Nat} {len z a : Nat} {lv : Nat} {noc : Nat → Nat} {uo io : Nat → Bool} {P : pg_P} {NL : List md_N} {un ii rw_ no pc_ : Nat → Nat} {lo_ : Int32} {im : Nat} {ex ds : Bool} (hlen : len ≤ 40) (hs : ∀ j, j < len → 32 ≤ src j ∧ src j < 127) (h : sm_pi z a lv noc uo io P NL un ii rw_ no pc_) (ha : a < len) (hm : rd_mk (src a) = true) : ((rd_mr src len a P).1 = false ∧ (rd_mr src len a P).2.1 ≤ len ∧ sm_stop src len a (NL, lv, un, ii, rw_, no, pc_, 0, lo_, im, ex, ds) (rd_mr src len a P).2.1) ∨ ∃ b P' NL' pc' lo' im', rd_mr src len a P = (true, b, P') ∧ a < b ∧ b ≤ len ∧ sm_run src len a (NL, lv, un, ii, rw_, no, pc_, 0, lo_, im, ex, ds) b (NL', lv, un, ii, rw_, no, pc', 0, lo', im', ex, ds) ∧ sm_pi z b lv noc uo io P' NL' un ii rw_ no pc' := by
  have hpc := h.2.2.2.1
  have e4 := h.1.2.2.2.1 hpc
  have bb := h.1.2.1
  by_cases e42 : src a = 42
  · right
    have er : rd_mr src len a P = (true, a + 1, pg_add P (6, 0, 0)) := by
      unfold rd_mr
      rw [e42]
      rfl
    exact ⟨a + 1, _, _, _, lo_, im, er, by omega, by omega, sm_run.one (by rw [md_at_lt ha, e42, md_tkR_0, md_pl_42 hpc]), sm_pi_rep (x := (6, pc_ lv - 1, 0, upd (fun _ => 0) 0 (nI 0))) h (by omega) (by omega) (nd_fine_of (by decide) (by show pc_ lv - 1 < 128; omega) (by decide) (fun _ => by show pc_ lv - 1 < NL.length; omega) (fun z => absurd z (by decide))) (by decide) (by decide) (Or.inl rfl) rfl⟩
  by_cases e43 : src a = 43
  · right
    have er : rd_mr src len a P = (true, a + 1, pg_add P (6, 1, 0)) := by
      unfold rd_mr
      rw [e43]
      rfl
    exact ⟨a + 1, _, _, _, lo_, im, er, by omega, by omega, sm_run.one (by rw [md_at_lt ha, e43, md_tkR_0, md_pl_43 hpc]), sm_pi_rep (x := (7, pc_ lv - 1, 0, upd (fun _ => 0) 0 (nI 0))) h (by omega) (by omega) (nd_fine_of (by decide) (by show pc_ lv - 1 < 128; omega) (by decide) (fun _ => by show pc_ lv - 1 < NL.length; omega) (fun z => absurd z (by decide))) (by decide) (by decide) (Or.inl rfl) rfl⟩
  by_cases e63 : src a = 63
  · right
    have er : rd_mr src len a P = (true, a + 1, pg_add P (6, 0, 2)) := by
      unfold rd_mr
      rw [e63]
      rfl
    exact ⟨a + 1, _, _, _, lo_, im, er, by omega, by omega, sm_run.one (by rw [md_at_lt ha, e63, md_tkR_0, md_pl_63 hpc]), sm_pi_rep (x := (8, pc_ lv - 1, 0, upd (fun _ => 0) 0 (nI 0))) h (by omega) (by omega) (nd_fine_of (by decide) (by show pc_ lv - 1 < 128; omega) (by decide) (fun _ => by show pc_ lv - 1 < NL.length; omega) (fun z => absurd z (by decide))) (by decide) (by decide) (Or.inr (by decide)) (show dm_or (sm_G NL (pc_ lv - 1)) dm_eps = _ from (dm_rep_opt _).symm)⟩
  have e123 : src a = 123 := by
    unfold rd_mk at hm
    have := of_decide_eq_true hm
    omega
  have er : rd_mr src len a P = rd_tm src len (a + 1) P := if_pos e123
  rw [er]
  have run1 : sm_run src len a (NL, lv, un, ii, rw_, no, pc_, 0, lo_, im, ex, ds) (a + 1) (NL, lv, un, ii, rw_, no, pc_, 1, lo_, im, ex, ds) := sm_run.one (by rw [md_at_lt ha, e123, md_tkR_0, md_pl_123 hpc])
  by_cases d1 : a + 1 < len ∧ 48 ≤ src (a + 1) ∧ src (a + 1) ≤ 57
  case neg =>
    left
    rw [show rd_tm src len (a + 1) P = (false, a + 1, P) from if_neg d1]
    refine ⟨rfl, by show a + 1 ≤ len; omega, run1.stop (sm_stop.one ?_ (by omega)) (by omega)⟩
    rw [md_tkR_br (by decide) (by decide), md_br_1]
    refine decide_eq_false ?_
    by_cases q : a + 1 < len
    · rw [md_at_lt q, md_dg_some (by have := hs _ q; omega)]
      omega
    · rw [md_at_ge q]
      exact md_dg_none
  have et : rd_tm src len (a + 1) P = (if (rd_t1 src len (a + 1)).1 < len ∧ src (rd_t1 src len (a + 1)).1 = 125 then (true, (rd_t1 src len (a + 1)).1 + 1, pg_add P (6, src (a + 1) - 48, (rd_t1 src len (a + 1)).2)) else (false, (rd_t1 src len (a + 1)).1, P)) := if_pos d1
  have run2 : sm_run src len a (NL, lv, un, ii, rw_, no, pc_, 0, lo_, im, ex, ds) (a + 1 + 1) (NL, lv, un, ii, rw_, no, pc_, 2, nI (src (a + 1) - 48), im, ex, ds) := run1.trans (sm_run.one (by rw [md_at_lt d1.1, md_tkR_br (by decide) (by decide), md_br_1, decide_eq_true ((md_dg_some (by omega)).mpr d1.2), md_lo_sub d1.2.1]))
  have lc : (nI (src (a + 1) - 48)).toNatClampNeg = src (a + 1) - 48 := nI_clamp (by omega)
  rw [et]
  by_cases c1 : a + 1 + 1 < len ∧ src (a + 1 + 1) = 44
  · have run3 : sm_run src len a (NL, lv, un, ii, rw_, no, pc_, 0, lo_, im, ex, ds) (a + 1 + 1 + 1) (NL, lv, un, ii, rw_, no, pc_, 3, nI (src (a + 1) - 48), im, ex, ds) := run2.trans (sm_run.one (by rw [md_at_lt c1.1, c1.2, md_tkR_br (by decide) (by decide), md_br_2]))
    by_cases c2 : a + 1 + 1 + 1 < len ∧ src (a + 1) ≤ src (a + 1 + 1 + 1) ∧ src (a + 1 + 1 + 1) ≤ 57
    · have e1 : rd_t1 src len (a + 1) = (a + 1 + 1 + 1 + 1, src (a + 1 + 1 + 1) - 48 + 1) := by
        unfold rd_t1
        rw [if_pos c1, if_pos c2]
      rw [e1]
      have dg : 48 ≤ md_c (some (src (a + 1 + 1 + 1))) ∧ md_c (some (src (a + 1 + 1 + 1))) ≤ 57 := (md_dg_some (by omega)).mpr ⟨by omega, c2.2.2⟩
      have run4 : sm_run src len a (NL, lv, un, ii, rw_, no, pc_, 0, lo_, im, ex, ds) (a + 1 + 1 + 1 + 1) (NL, lv, un, ii, rw_, no, pc_, 4, nI (src (a + 1) - 48), src (a + 1 + 1 + 1) - 48, ex, ds) := run3.trans (sm_run.one (by rw [md_at_lt c2.1, md_tkR_br (by decide) (by decide), md_br_3 dg, lc, decide_eq_true (show src (a + 1) - 48 ≤ (some (src (a + 1 + 1 + 1))).getD 0 - 48 by show src (a + 1) - 48 ≤ src (a + 1 + 1 + 1) - 48; omega)]; rfl))
      by_cases c3 : a + 1 + 1 + 1 + 1 < len ∧ src (a + 1 + 1 + 1 + 1) = 125
      · right
        dsimp only
        rw [if_pos c3]
        obtain ⟨r5, p5⟩ := sm_mark9 (im := src (a + 1 + 1 + 1) - 48) (ex := ex) (ds := ds) (st_ := 4) (lw := src (a + 1) - 48) (m := src (a + 1 + 1 + 1) - 48) (hi := src (a + 1 + 1 + 1) - 48 + 1) h (show a < a + 1 + 1 + 1 + 1 + 1 by omega) c3.1 hlen c3.2 ⟨by decide, by decide⟩ (by omega) rfl (by omega) (by omega) (if_pos (by omega))
        exact ⟨_, _, _, _, _, _, rfl, by omega, by omega, run4.trans r5, p5⟩
      · left
        dsimp only
        rw [if_neg c3]
        refine ⟨rfl, by show a + 1 + 1 + 1 + 1 ≤ len; omega, run4.stop (sm_stop.one ?_ (by omega)) (by omega)⟩
        rw [md_tkR_br (by decide) (by decide)]
        refine md_br_f (by decide) (fun z => absurd z.1 (by decide)) (fun z => absurd z.1 (by decide)) (fun z => c3 ?_)
        by_cases q : a + 1 + 1 + 1 + 1 < len
        · rw [md_at_lt q] at z
          exact ⟨q, Option.some.inj z⟩
        · rw [md_at_ge q] at z
          cases z
    · have e1 : rd_t1 src len (a + 1) = (a + 1 + 1 + 1, 0) := by
        unfold rd_t1
        rw [if_pos c1, if_neg c2]
      rw [e1]
      by_cases c3 : a + 1 + 1 + 1 < len ∧ src (a + 1 + 1 + 1) = 125
      · right
        dsimp only
        rw [if_pos c3]
        obtain ⟨r5, p5⟩ := sm_mark9 (im := im) (ex := ex) (ds := ds) (st_ := 3) (lw := src (a + 1) - 48) (m := 10) (hi := 0) h (show a < a + 1 + 1 + 1 + 1 by omega) c3.1 hlen c3.2 ⟨by decide, by decide⟩ (by omega) rfl (by omega) (by omega) rfl
        exact ⟨_, _, _, _, _, _, rfl, by omega, by omega, run3.trans r5, p5⟩
      · left
        dsimp only
        rw [if_neg c3]
        refine ⟨rfl, by show a + 1 + 1 + 1 ≤ len; omega, run3.stop (sm_stop.one ?_ (by omega)) (by omega)⟩
        rw [md_tkR_br (by decide) (by decide)]
        by_cases q : a + 1 + 1 + 1 < len
        · rw [md_at_lt q]
          have hq := hs _ q
          by_cases dg : 48 ≤ md_c (some (src (a + 1 + 1 + 1))) ∧ md_c (some (src (a + 1 + 1 + 1))) ≤ 57
          · have dq := (md_dg_some (by omega)).mp dg
            rw [md_br_3 dg, lc]
            exact decide_eq_false (show ¬ src (a + 1) - 48 ≤ src (a + 1 + 1 + 1) - 48 by omega)
          · exact md_br_f (by decide) (fun z => dg z.2) (fun z => absurd z.1 (by decide)) (fun z => c3 ⟨q, Option.some.inj z⟩)
        · rw [md_at_ge q]
          exact md_br_f (by decide) (fun z => md_dg_none z.2) (fun z => absurd z.1 (by decide)) (fun z => by cases z)
  · have e1 : rd_t1 src len (a + 1) = (a + 1 + 1, src (a + 1) - 48 + 1) := by
      unfold rd_t1
      rw [if_neg c1]
    rw [e1]
    by_cases c3 : a + 1 + 1 < len ∧ src (a + 1 + 1) = 125
    · right
      dsimp only
      rw [if_pos c3]
      obtain ⟨r5, p5⟩ := sm_mark9 (im := im) (ex := ex) (ds := ds) (st_ := 2) (lw := src (a + 1) - 48) (m := src (a + 1) - 48) (hi := src (a + 1) - 48 + 1) h (show a < a + 1 + 1 + 1 by omega) c3.1 hlen c3.2 ⟨by decide, by decide⟩ (by omega) rfl (by omega) (by omega) (if_pos (by omega))
      exact ⟨_, _, _, _, _, _, rfl, by omega, by omega, run2.trans r5, p5⟩
    · left
      dsimp only
      rw [if_neg c3]
      refine ⟨rfl, by show a + 1 + 1 ≤ len; omega, run2.stop (sm_stop.one ?_ (by omega)) (by omega)⟩
      rw [md_tkR_br (by decide) (by decide)]
      refine md_br_f (by decide) (fun z => absurd z.1 (by decide)) (fun z => c1 ?_) (fun z => c3 ?_)
      · have z := z.2
        by_cases q : a + 1 + 1 < len
        · rw [md_at_lt q] at z
          exact ⟨q, Option.some.inj z⟩
        · rw [md_at_ge q] at z
          cases z
      · by_cases q : a + 1 + 1 < len
        · rw [md_at_lt q] at z
          exact ⟨q, Option.some.inj z⟩
        · rw [md_at_ge q] at z
          cases z

theorem rd_ms_no {src : Nat → Nat} {len a : Nat} {P : pg_P} (h : ¬ (a < len ∧ rd_mk (src a) = true)) : ∀ f, rd_ms src len f a P = (true, a, P)
  | 0 => rfl
  | _ + 1 => if_neg h

theorem sm_marks {src : Nat → Nat} {len z : Nat} (hlen : len ≤ 40) (hs : ∀ j, j < len → 32 ≤ src j ∧ src j < 127) {lv : Nat} {noc : Nat → Nat} {uo io : Nat → Bool} {un ii rw_ no : Nat → Nat} {ex ds : Bool} : ∀ (f a : Nat) (P : pg_P) (NL : List md_N) (pc_ : Nat → Nat) (lo_ : Int32) (im : Nat), len - a ≤ f → a ≤ len → sm_pi z a lv noc uo io P NL un ii rw_ no pc_ → ((rd_ms src len f a P).1 = false ∧ (rd_ms src len f a P).2.1 ≤ len ∧ sm_stop src len a (NL, lv, un, ii, rw_, no, pc_, 0, lo_, im, ex, ds) (rd_ms src len f a P).2.1) ∨ ∃ b P' NL' pc' lo' im', rd_ms src len f a P = (true, b, P') ∧ a ≤ b ∧ b ≤ len ∧ ¬ (b < len ∧ rd_mk (src b) = true) ∧ sm_run src len a (NL, lv, un, ii, rw_, no, pc_, 0, lo_, im, ex, ds) b (NL', lv, un, ii, rw_, no, pc', 0, lo', im', ex, ds) ∧ sm_pi z b lv noc uo io P' NL' un ii rw_ no pc'
  | 0, a, P, NL, pc_, lo_, im, hf, ha, h => Or.inr ⟨a, P, NL, pc_, lo_, im, rfl, Nat.le_refl _, ha, by omega, sm_run.refl, h⟩
  | f + 1, a, P, NL, pc_, lo_, im, hf, ha, h => by
    by_cases hm : a < len ∧ rd_mk (src a) = true
    · have e : rd_ms src len (f + 1) a P = (if (rd_mr src len a P).1 = true then rd_ms src len f (rd_mr src len a P).2.1 (rd_mr src len a P).2.2 else rd_mr src len a P) := if_pos hm
      rcases sm_mark hlen hs h hm.1 hm.2 (lo_ := lo_) (im := im) (ex := ex) (ds := ds) with ⟨q1, q2, q3⟩ | ⟨b, P1, NL1, pc1, lo1, im1, q1, q2, q3, q4, q5⟩
      · left
        rw [e, if_neg (by rw [q1]; decide)]
        exact ⟨q1, q2, q3⟩
      · rw [q1] at e
        have e : rd_ms src len (f + 1) a P = rd_ms src len f b P1 := e
        rcases sm_marks hlen hs f b P1 NL1 pc1 lo1 im1 (by omega) q3 q5 with ⟨r1, r2, r3⟩ | ⟨b2, P2, NL2, pc2, lo2, im2, r1, r2, r3, r4, r5, r6⟩
        · left
          rw [e]
          exact ⟨r1, r2, q4.stop r3 (by omega)⟩
        · right
          rw [e]
          exact ⟨b2, P2, NL2, pc2, lo2, im2, r1, by omega, r3, r4, q4.trans r5, r6⟩
    · exact Or.inr ⟨a, P, NL, pc_, lo_, im, rd_ms_no hm _, Nat.le_refl _, ha, hm, sm_run.refl, h⟩

theorem sm_ep {src : Nat → Nat} {len a : Nat} {lv : Nat} {noc : Nat → Nat} {uo io : Nat → Bool} {P : pg_P} {NL : List md_N} {un ii rw_ no pc_ : Nat → Nat} {lo_ : Int32} {im : Nat} {ex ds : Bool} (hlen : len ≤ 40) (hs : ∀ j, j < len → 32 ≤ src j ∧ src j < 127) (ha : a ≤ len) (h : sm_pi 0 a lv noc uo io P NL un ii rw_ no pc_) : ((rd_ep src len a lv noc uo io P).1 = false ∧ (rd_ep src len a lv noc uo io P).2.1 ≤ len ∧ sm_stop src len a (NL, lv, un, ii, rw_, no, pc_, 0, lo_, im, ex, ds) (rd_ep src len a lv noc uo io P).2.1) ∨ ∃ b P' NL' pc' lo' im', rd_ep src len a lv noc uo io P = (true, (b, lv, va_up noc lv 0, uo, io, P')) ∧ a ≤ b ∧ b ≤ len ∧ sm_run src len a (NL, lv, un, ii, rw_, no, pc_, 0, lo_, im, ex, ds) b (NL', lv, un, ii, rw_, no, pc', 0, lo', im', ex, ds) ∧ sm_bd src len b lv (va_up noc lv 0) uo io P' NL' un ii rw_ no pc' := by
  rcases sm_marks hlen hs (ex := ex) (ds := ds) len a P NL pc_ lo_ im (by omega) ha h with ⟨q1, q2, q3⟩ | ⟨b, P1, NL1, pc1, lo1, im1, q1, q2, q3, q4, q5, q6⟩
  · left
    rw [rd_ep_f rfl q1]
    exact ⟨rfl, q2, q3⟩
  · right
    refine ⟨b, _, NL1, pc1, lo1, im1, rd_ep_t q1, q2, q3, q5, ?_⟩
    obtain ⟨k1, k2, k3, k4, k5, k6⟩ := q6
    have e3 := sm_X_3 NL1 un ii rw_ lv
    have hr := sm_b_in (a := b) (lv := lv) (x := sm_X NL1 un ii rw_ lv) k2.2.2 e3.2
    have hl := sm_bel_len NL1 un ii rw_ lv
    have bb := k1.1
    have hlv : noc lv = no lv := k3 lv (Nat.le_refl _)
    obtain ⟨n1, n2⟩ := k5.nots (by rw [List.length_cons]; omega) (noc lv) (by omega)
    have Q := n1.cat (by omega) (by omega)
    have elo : sm_lo (va_up noc lv 0) lv = sm_lo noc lv := sm_lo_congr (fun j hj => va_up_ne' (by omega))
    refine ⟨k1, k2, fun j hj => by rw [va_up_ne' (by omega)]; exact k3 j (by omega), by rw [va_up_eq', if_neg (by omega)], ?_, ?_, fun _ => q4⟩
    · rw [show sm_tp NL1 (rw_ lv) (no lv) (pc1 lv) = dm_cat (sm_row NL1 (rw_ lv)) (sm_nt (sm_G NL1 (pc1 lv - 1)) (noc lv)) by rw [hlv]; exact if_neg (by omega)]
      exact Q
    · rw [va_up_eq', elo, pg_add_len (by omega), n2]
      omega
