/-! the sets of the reference's nodes; what the reference makes of a character; what it holds after each -/
def sw_hs (f : Nat → Int32) (c : Nat) : Bool := bt (f ((c - 32) / 32)) ((c - 32) % 32)
def sw_in (f : Nat → Int32) (c : Nat) : Nat → Int32 := upd f ((c - 32) / 32) (f ((c - 32) / 32) ||| (nI 1 <<< (nI ((c - 32) % 32) &&& 31)))
def sw_ins (f : Nat → Int32) (a : Nat) : Nat → (Nat → Int32)
  | 0 => f
  | i + 1 => sw_in (sw_ins f a i) (a + i)
def sw_ud (f : Nat → Int32) (ds : Bool) : Nat → Int32 := if ds = true then f else upd f 0 (f 0 &&& (-8193))
def sw_ng (f : Nat → Int32) : Nat → (Nat → Int32)
  | 0 => f
  | i + 1 => upd (sw_ng f i) i (sw_ng f i i ^^^ (-1))
def sw_nx (f : Nat → Int32) (ex : Bool) : Nat → Int32 := if ex = true then sw_ng f 3 else f

theorem md_gd_last (NL : List md_N) (x : md_N) : (NL ++ [x]).getD NL.length (0, 0, 0, fun _ => 0) = x := by
  rw [List.getD_eq_getElem?_getD, List.getElem?_append_right (Nat.le_refl _), Nat.sub_self]
  rfl

theorem md_set_last (NL : List md_N) (x : md_N) (w : Nat) (v : Int32) : md_set (NL ++ [x]) NL.length w v = NL ++ [(x.1, x.2.1, x.2.2.1, upd x.2.2.2 w v)] := by
  unfold md_set
  rw [md_gd_last, List.set_append_right _ _ (Nat.le_refl _), Nat.sub_self]
  rfl

theorem md_inc_last (NL : List md_N) (f : Nat → Int32) (c : Nat) : md_inc (NL ++ [(1, 0, 0, f)]) NL.length c = NL ++ [(1, 0, 0, sw_in f c)] := by
  unfold md_inc
  rw [md_gd_last, md_set_last]
  rfl

theorem md_incs_last (NL : List md_N) (f : Nat → Int32) (a : Nat) : ∀ i, md_incs (NL ++ [(1, 0, 0, f)]) NL.length a i = NL ++ [(1, 0, 0, sw_ins f a i)]
  | 0 => rfl
  | i + 1 => by
    show md_inc (md_incs (NL ++ [(1, 0, 0, f)]) NL.length a i) NL.length (a + i) = _
    rw [md_incs_last NL f a i, md_inc_last]
    rfl

theorem md_ud_last (NL : List md_N) (f : Nat → Int32) (ds : Bool) : md_ud (NL ++ [(1, 0, 0, f)]) NL.length ds = NL ++ [(1, 0, 0, sw_ud f ds)] := by
  unfold md_ud sw_ud
  cases ds with
  | true => rfl
  | false =>
    rw [if_neg (by decide), if_neg (by decide), md_gd_last, md_set_last]

theorem md_ng_last (NL : List md_N) (f : Nat → Int32) : ∀ i, md_ng (NL ++ [(1, 0, 0, f)]) NL.length i = NL ++ [(1, 0, 0, sw_ng f i)]
  | 0 => rfl
  | i + 1 => by
    show md_set (md_ng (NL ++ [(1, 0, 0, f)]) NL.length i) NL.length i (((md_ng (NL ++ [(1, 0, 0, f)]) NL.length i).getD NL.length (0, 0, 0, fun _ => 0)).2.2.2 i ^^^ (-1)) = _
    rw [md_ng_last NL f i, md_gd_last, md_set_last]
    rfl

theorem md_nx_last (NL : List md_N) (f : Nat → Int32) (ex : Bool) : md_nx (NL ++ [(1, 0, 0, f)]) NL.length ex = NL ++ [(1, 0, 0, sw_nx f ex)] := by
  unfold md_nx sw_nx
  cases ex with
  | true => exact md_ng_last NL f 3
  | false => rfl

theorem sw_in_hs {f : Nat → Int32} {c d : Nat} (hc : 32 ≤ c) (hd : 32 ≤ d) : sw_hs (sw_in f d) c = (sw_hs f c || decide (c = d)) := by
  unfold sw_hs sw_in
  by_cases e : (c - 32) / 32 = (d - 32) / 32
  · rw [e, pk_us, b_or, show (nI 1 : Int32) = 1 from rfl, mo_one_bt (by omega)]
    congr 1
    by_cases e2 : c = d
    · rw [decide_eq_true e2, decide_eq_true (by rw [e2])]
    · rw [decide_eq_false e2, decide_eq_false (by omega)]
  · rw [pk_un e, decide_eq_false (by intro z; exact e (by rw [z])), Bool.or_false]

theorem sw_ins_hs {f : Nat → Int32} {a c : Nat} (hc : 32 ≤ c) (ha : 32 ≤ a) : ∀ i, sw_hs (sw_ins f a i) c = (sw_hs f c || decide (a ≤ c ∧ c < a + i))
  | 0 => by
    rw [decide_eq_false (by omega), Bool.or_false]
    rfl
  | i + 1 => by
    show sw_hs (sw_in (sw_ins f a i) (a + i)) c = _
    rw [sw_in_hs hc (by omega), sw_ins_hs hc ha i, Bool.or_assoc]
    congr 1
    by_cases h : c = a + i
    · rw [decide_eq_true h, Bool.or_true, decide_eq_true (by omega)]
    · rw [decide_eq_false h, Bool.or_false]
      by_cases h2 : a ≤ c ∧ c < a + i
      · rw [decide_eq_true h2, decide_eq_true (by omega)]
      · rw [decide_eq_false h2, decide_eq_false (by omega)]

theorem sw_m8193 : ∀ k, k < 32 → bt (-8193) k = decide (k ≠ 13) := by decide +kernel

theorem sw_ud_hs {f : Nat → Int32} {ds : Bool} {c : Nat} (hc : 32 ≤ c) : sw_hs (sw_ud f ds) c = (sw_hs f c && (ds || decide (c ≠ 45))) := by
  cases ds with
  | true => rw [Bool.true_or, Bool.and_true]; rfl
  | false =>
    rw [Bool.false_or]
    show bt (upd f 0 (f 0 &&& (-8193)) ((c - 32) / 32)) ((c - 32) % 32) = _
    by_cases e : (c - 32) / 32 = 0
    · unfold sw_hs
      rw [e, pk_us, b_and, sw_m8193 _ (by omega)]
      congr 1
      by_cases e2 : c = 45
      · rw [decide_eq_false (by omega), decide_eq_false (by omega)]
      · rw [decide_eq_true (by omega), decide_eq_true e2]
    · rw [pk_un e, decide_eq_true (by omega), Bool.and_true]
      rfl

theorem sw_ng_at (f : Nat → Int32) : ∀ i j, sw_ng f i j = if j < i then f j ^^^ (-1) else f j
  | 0, j => (if_neg (by omega)).symm
  | i + 1, j => by
    show upd (sw_ng f i) i (sw_ng f i i ^^^ (-1)) j = _
    by_cases e : j = i
    · subst e
      rw [pk_us, sw_ng_at f j j, if_neg (by omega), if_pos (by omega)]
    · rw [pk_un e, sw_ng_at f i j]
      by_cases h : j < i
      · rw [if_pos h, if_pos (by omega)]
      · rw [if_neg h, if_neg (by omega)]

theorem sw_ng_hs {f : Nat → Int32} {c : Nat} (hc : c < 128) : sw_hs (sw_ng f 3) c = !sw_hs f c := by
  unfold sw_hs
  rw [sw_ng_at, if_pos (by omega), b_xor, b_m1 _ (by omega)]
  cases bt (f ((c - 32) / 32)) ((c - 32) % 32) <;> rfl

def sw_L (f : Nat → Int32) : dm_L := fun w => ∃ c, w = [c] ∧ sw_hs f c = true

theorem sm_G_one (NL : List md_N) (f : Nat → Int32) : sm_G (NL ++ [(1, 0, 0, f)]) NL.length = sw_L f := by
  rw [sm_G_new]
  rfl

theorem md_pl_none {NL : List md_N} {dp : Nat} {un ii rw_ no pc_ : Nat → Nat} {st_ : Nat} {lo_ : Int32} {im : Nat} {ex ds : Bool} (h : dp = 0 ∧ (no dp = 0 ∨ 0 < pc_ dp)) : md_pl NL dp un ii rw_ no pc_ st_ lo_ im ex ds none = (true, ((md_ci NL (un dp) (ii dp) (rw_ dp) (no dp) (pc_ dp)).1, dp, va_up un dp (md_ci NL (un dp) (ii dp) (rw_ dp) (no dp) (pc_ dp)).2, va_up ii dp 0, va_up rw_ dp 0, va_up no dp (if pc_ dp = 0 then no dp else 0), va_up pc_ dp 0, st_, lo_, im, ex, ds)) := if_neg (by omega)

theorem md_pl_nonef {NL : List md_N} {dp : Nat} {un ii rw_ no pc_ : Nat → Nat} {st_ : Nat} {lo_ : Int32} {im : Nat} {ex ds : Bool} (h : ¬ (dp = 0 ∧ (no dp = 0 ∨ 0 < pc_ dp))) : (md_pl NL dp un ii rw_ no pc_ st_ lo_ im ex ds none).1 = false := by
  unfold md_pl
  dsimp only
  rw [if_pos (by omega)]

theorem md_pl_124 {NL : List md_N} {dp : Nat} {un ii rw_ no pc_ : Nat → Nat} {st_ : Nat} {lo_ : Int32} {im : Nat} {ex ds : Bool} (h : no dp = 0 ∨ 0 < pc_ dp) : md_pl NL dp un ii rw_ no pc_ st_ lo_ im ex ds (some 124) = (true, ((md_ci NL (un dp) (ii dp) (rw_ dp) (no dp) (pc_ dp)).1, dp, va_up un dp (md_ci NL (un dp) (ii dp) (rw_ dp) (no dp) (pc_ dp)).2, va_up ii dp 0, va_up rw_ dp 0, va_up no dp (if pc_ dp = 0 then no dp else 0), va_up pc_ dp 0, st_, lo_, im, ex, ds)) := by
  unfold md_pl
  dsimp only
  rw [if_pos rfl, if_pos h]

theorem md_pl_38 {NL : List md_N} {dp : Nat} {un ii rw_ no pc_ : Nat → Nat} {st_ : Nat} {lo_ : Int32} {im : Nat} {ex ds : Bool} (h : no dp = 0 ∨ 0 < pc_ dp) : md_pl NL dp un ii rw_ no pc_ st_ lo_ im ex ds (some 38) = (true, ((md_cr NL (ii dp) (rw_ dp) (no dp) (pc_ dp)).1, dp, un, va_up ii dp (md_cr NL (ii dp) (rw_ dp) (no dp) (pc_ dp)).2, va_up rw_ dp 0, va_up no dp (if pc_ dp = 0 then no dp else 0), va_up pc_ dp 0, st_, lo_, im, ex, ds)) := by
  unfold md_pl
  dsimp only
  rw [if_neg (by decide), if_pos rfl, if_pos h]

theorem md_pl_41 {NL : List md_N} {dp : Nat} {un ii rw_ no pc_ : Nat → Nat} {st_ : Nat} {lo_ : Int32} {im : Nat} {ex ds : Bool} (h : dp ≠ 0 ∧ (no dp = 0 ∨ 0 < pc_ dp)) : md_pl NL dp un ii rw_ no pc_ st_ lo_ im ex ds (some 41) = (true, ((md_ci NL (un dp) (ii dp) (rw_ dp) (no dp) (pc_ dp)).1, dp - 1, va_up un dp (md_ci NL (un dp) (ii dp) (rw_ dp) (no dp) (pc_ dp)).2, va_up ii dp 0, va_up rw_ dp 0, va_up no dp (if pc_ dp = 0 then no dp else 0), va_up (va_up pc_ dp 0) (dp - 1) (md_ci NL (un dp) (ii dp) (rw_ dp) (no dp) (pc_ dp)).2, st_, lo_, im, ex, ds)) := by
  unfold md_pl
  dsimp only
  rw [if_neg (by decide), if_neg (by decide), if_pos rfl, if_pos h]

theorem md_pl_42 {NL : List md_N} {dp : Nat} {un ii rw_ no pc_ : Nat → Nat} {st_ : Nat} {lo_ : Int32} {im : Nat} {ex ds : Bool} (h : 0 < pc_ dp) : md_pl NL dp un ii rw_ no pc_ st_ lo_ im ex ds (some 42) = (true, (NL ++ [(6, pc_ dp - 1, 0, upd (fun _ => 0) 0 (nI 0))], dp, un, ii, rw_, no, va_up pc_ dp (NL.length + 1), 0, lo_, im, ex, ds)) := by
  unfold md_pl
  dsimp only
  rw [if_neg (by decide), if_neg (by decide), if_neg (by decide), if_pos rfl, if_pos h, md_set_last]

theorem md_pl_43 {NL : List md_N} {dp : Nat} {un ii rw_ no pc_ : Nat → Nat} {st_ : Nat} {lo_ : Int32} {im : Nat} {ex ds : Bool} (h : 0 < pc_ dp) : md_pl NL dp un ii rw_ no pc_ st_ lo_ im ex ds (some 43) = (true, (NL ++ [(7, pc_ dp - 1, 0, upd (fun _ => 0) 0 (nI 0))], dp, un, ii, rw_, no, va_up pc_ dp (NL.length + 1), 0, lo_, im, ex, ds)) := by
  unfold md_pl
  dsimp only
  rw [if_neg (by decide), if_neg (by decide), if_neg (by decide), if_neg (by decide), if_pos rfl, if_pos h, md_set_last]

theorem md_pl_63 {NL : List md_N} {dp : Nat} {un ii rw_ no pc_ : Nat → Nat} {st_ : Nat} {lo_ : Int32} {im : Nat} {ex ds : Bool} (h : 0 < pc_ dp) : md_pl NL dp un ii rw_ no pc_ st_ lo_ im ex ds (some 63) = (true, (NL ++ [(8, pc_ dp - 1, 0, upd (fun _ => 0) 0 (nI 0))], dp, un, ii, rw_, no, va_up pc_ dp (NL.length + 1), 0, lo_, im, ex, ds)) := by
  unfold md_pl
  dsimp only
  rw [if_neg (by decide), if_neg (by decide), if_neg (by decide), if_neg (by decide), if_neg (by decide), if_pos rfl, if_pos h, md_set_last]

theorem md_pl_123 {NL : List md_N} {dp : Nat} {un ii rw_ no pc_ : Nat → Nat} {st_ : Nat} {lo_ : Int32} {im : Nat} {ex ds : Bool} (h : 0 < pc_ dp) : md_pl NL dp un ii rw_ no pc_ st_ lo_ im ex ds (some 123) = (true, (NL, dp, un, ii, rw_, no, pc_, 1, lo_, im, ex, ds)) := by
  unfold md_pl
  dsimp only
  rw [if_neg (by decide), if_neg (by decide), if_neg (by decide), if_neg (by decide), if_neg (by decide), if_neg (by decide), if_pos rfl, if_pos h]

theorem md_pl_126 {NL : List md_N} {dp : Nat} {un ii rw_ no pc_ : Nat → Nat} {st_ : Nat} {lo_ : Int32} {im : Nat} {ex ds : Bool} : md_pl NL dp un ii rw_ no pc_ st_ lo_ im ex ds (some 126) = (true, ((md_cp NL (rw_ dp) (no dp) (pc_ dp)).1, dp, un, ii, va_up rw_ dp (md_cp NL (rw_ dp) (no dp) (pc_ dp)).2, va_up no dp ((if pc_ dp = 0 then no dp else 0) + 1), va_up pc_ dp 0, st_, lo_, im, ex, ds)) := by
  unfold md_pl
  dsimp only
  rw [if_neg (by decide), if_neg (by decide), if_neg (by decide), if_neg (by decide), if_neg (by decide), if_neg (by decide), if_neg (by decide), if_neg (by decide), if_neg (by decide), if_pos rfl]

theorem md_pl_40 {NL : List md_N} {dp : Nat} {un ii rw_ no pc_ : Nat → Nat} {st_ : Nat} {lo_ : Int32} {im : Nat} {ex ds : Bool} : md_pl NL dp un ii rw_ no pc_ st_ lo_ im ex ds (some 40) = (true, ((md_cp NL (rw_ dp) (no dp) (pc_ dp)).1, dp + 1, va_up un (dp + 1) 0, va_up ii (dp + 1) 0, va_up (va_up rw_ dp (md_cp NL (rw_ dp) (no dp) (pc_ dp)).2) (dp + 1) 0, va_up (va_up no dp (if pc_ dp = 0 then no dp else 0)) (dp + 1) 0, va_up (va_up pc_ dp 0) (dp + 1) 0, st_, lo_, im, ex, ds)) := by
  unfold md_pl
  dsimp only
  rw [if_neg (by decide), if_neg (by decide), if_neg (by decide), if_neg (by decide), if_neg (by decide), if_neg (by decide), if_neg (by decide), if_neg (by decide), if_neg (by decide), if_neg (by decide), if_pos rfl]

theorem md_pl_46 {NL : List md_N} {dp : Nat} {un ii rw_ no pc_ : Nat → Nat} {st_ : Nat} {lo_ : Int32} {im : Nat} {ex ds : Bool} : md_pl NL dp un ii rw_ no pc_ st_ lo_ im ex ds (some 46) = (true, ((md_cp NL (rw_ dp) (no dp) (pc_ dp)).1 ++ [(1, 0, 0, sw_ins (fun _ => 0) 32 95)], dp, un, ii, va_up rw_ dp (md_cp NL (rw_ dp) (no dp) (pc_ dp)).2, va_up no dp (if pc_ dp = 0 then no dp else 0), va_up pc_ dp ((md_cp NL (rw_ dp) (no dp) (pc_ dp)).1.length + 1), st_, lo_, im, false, ds)) := by
  unfold md_pl
  dsimp only
  rw [if_neg (by decide), if_neg (by decide), if_neg (by decide), if_neg (by decide), if_neg (by decide), if_neg (by decide), if_neg (by decide), if_neg (by decide), if_neg (by decide), if_neg (by decide), if_neg (by decide), if_pos rfl]
  unfold md_dot md_one
  rw [md_incs_last]

theorem md_pl_91 {NL : List md_N} {dp : Nat} {un ii rw_ no pc_ : Nat → Nat} {st_ : Nat} {lo_ : Int32} {im : Nat} {ex ds : Bool} : md_pl NL dp un ii rw_ no pc_ st_ lo_ im ex ds (some 91) = (true, ((md_cp NL (rw_ dp) (no dp) (pc_ dp)).1 ++ [(1, 0, 0, fun _ => 0)], dp, un, ii, va_up rw_ dp (md_cp NL (rw_ dp) (no dp) (pc_ dp)).2, va_up no dp (if pc_ dp = 0 then no dp else 0), va_up pc_ dp ((md_cp NL (rw_ dp) (no dp) (pc_ dp)).1.length + 1), 5, lo_, im, false, ds)) := by
  unfold md_pl
  dsimp only
  rw [if_neg (by decide), if_neg (by decide), if_neg (by decide), if_neg (by decide), if_neg (by decide), if_neg (by decide), if_neg (by decide), if_neg (by decide), if_neg (by decide), if_neg (by decide), if_neg (by decide), if_neg (by decide), if_pos rfl]
  rfl

def md_pn (ch : Nat) : Prop := ch ≠ 124 ∧ ch ≠ 38 ∧ ch ≠ 41 ∧ ch ≠ 42 ∧ ch ≠ 43 ∧ ch ≠ 63 ∧ ch ≠ 123 ∧ ch ≠ 125 ∧ ch ≠ 93 ∧ ch ≠ 126 ∧ ch ≠ 40 ∧ ch ≠ 46 ∧ ch ≠ 91

theorem md_pl_ch {NL : List md_N} {dp : Nat} {un ii rw_ no pc_ : Nat → Nat} {st_ : Nat} {lo_ : Int32} {im : Nat} {ex ds : Bool} {ch : Nat} (h : md_pn ch) : md_pl NL dp un ii rw_ no pc_ st_ lo_ im ex ds (some ch) = (true, ((md_cp NL (rw_ dp) (no dp) (pc_ dp)).1 ++ [(1, 0, 0, sw_in (fun _ => 0) ch)], dp, un, ii, va_up rw_ dp (md_cp NL (rw_ dp) (no dp) (pc_ dp)).2, va_up no dp (if pc_ dp = 0 then no dp else 0), va_up pc_ dp ((md_cp NL (rw_ dp) (no dp) (pc_ dp)).1.length + 1), st_, lo_, im, false, ds)) := by
  obtain ⟨h0, h1, h2, h3, h4, h5, h6, h7, h8, h9, h10, h11, h12⟩ := h
  unfold md_pl
  dsimp only
  rw [if_neg h0, if_neg h1, if_neg h2, if_neg h3, if_neg h4, if_neg h5, if_neg h6, if_neg h7, if_neg h8, if_neg h9, if_neg h10, if_neg h11, if_neg h12]
  unfold md_one
  rw [md_inc_last]

theorem md_pl_124f {NL : List md_N} {dp : Nat} {un ii rw_ no pc_ : Nat → Nat} {st_ : Nat} {lo_ : Int32} {im : Nat} {ex ds : Bool} (h : ¬ (no dp = 0 ∨ 0 < pc_ dp)) : (md_pl NL dp un ii rw_ no pc_ st_ lo_ im ex ds (some 124)).1 = false := by
  unfold md_pl
  dsimp only
  rw [if_pos rfl, if_neg h]

theorem md_pl_38f {NL : List md_N} {dp : Nat} {un ii rw_ no pc_ : Nat → Nat} {st_ : Nat} {lo_ : Int32} {im : Nat} {ex ds : Bool} (h : ¬ (no dp = 0 ∨ 0 < pc_ dp)) : (md_pl NL dp un ii rw_ no pc_ st_ lo_ im ex ds (some 38)).1 = false := by
  unfold md_pl
  dsimp only
  rw [if_neg (by decide), if_pos rfl, if_neg h]

theorem md_pl_41f {NL : List md_N} {dp : Nat} {un ii rw_ no pc_ : Nat → Nat} {st_ : Nat} {lo_ : Int32} {im : Nat} {ex ds : Bool} (h : ¬ (dp ≠ 0 ∧ (no dp = 0 ∨ 0 < pc_ dp))) : (md_pl NL dp un ii rw_ no pc_ st_ lo_ im ex ds (some 41)).1 = false := by
  unfold md_pl
  dsimp only
  rw [if_neg (by decide), if_neg (by decide), if_pos rfl, if_neg h]

theorem md_pl_42f {NL : List md_N} {dp : Nat} {un ii rw_ no pc_ : Nat → Nat} {st_ : Nat} {lo_ : Int32} {im : Nat} {ex ds : Bool} (h : ¬ 0 < pc_ dp) : (md_pl NL dp un ii rw_ no pc_ st_ lo_ im ex ds (some 42)).1 = false := by
  unfold md_pl
  dsimp only
  rw [if_neg (by decide), if_neg (by decide), if_neg (by decide), if_pos rfl, if_neg h]

theorem md_pl_43f {NL : List md_N} {dp : Nat} {un ii rw_ no pc_ : Nat → Nat} {st_ : Nat} {lo_ : Int32} {im : Nat} {ex ds : Bool} (h : ¬ 0 < pc_ dp) : (md_pl NL dp un ii rw_ no pc_ st_ lo_ im ex ds (some 43)).1 = false := by
  unfold md_pl
  dsimp only
  rw [if_neg (by decide), if_neg (by decide), if_neg (by decide), if_neg (by decide), if_pos rfl, if_neg h]

theorem md_pl_63f {NL : List md_N} {dp : Nat} {un ii rw_ no pc_ : Nat → Nat} {st_ : Nat} {lo_ : Int32} {im : Nat} {ex ds : Bool} (h : ¬ 0 < pc_ dp) : (md_pl NL dp un ii rw_ no pc_ st_ lo_ im ex ds (some 63)).1 = false := by
  unfold md_pl
  dsimp only
  rw [if_neg (by decide), if_neg (by decide), if_neg (by decide), if_neg (by decide), if_neg (by decide), if_pos rfl, if_neg h]

theorem md_pl_123f {NL : List md_N} {dp : Nat} {un ii rw_ no pc_ : Nat → Nat} {st_ : Nat} {lo_ : Int32} {im : Nat} {ex ds : Bool} (h : ¬ 0 < pc_ dp) : (md_pl NL dp un ii rw_ no pc_ st_ lo_ im ex ds (some 123)).1 = false := by
  unfold md_pl
  dsimp only
  rw [if_neg (by decide), if_neg (by decide), if_neg (by decide), if_neg (by decide), if_neg (by decide), if_neg (by decide), if_pos rfl, if_neg h]

theorem md_pl_125f {NL : List md_N} {dp : Nat} {un ii rw_ no pc_ : Nat → Nat} {st_ : Nat} {lo_ : Int32} {im : Nat} {ex ds : Bool} : (md_pl NL dp un ii rw_ no pc_ st_ lo_ im ex ds (some 125)).1 = false := by
  unfold md_pl
  dsimp only
  rw [if_neg (by decide), if_neg (by decide), if_neg (by decide), if_neg (by decide), if_neg (by decide), if_neg (by decide), if_neg (by decide), if_pos rfl]

theorem md_pl_93f {NL : List md_N} {dp : Nat} {un ii rw_ no pc_ : Nat → Nat} {st_ : Nat} {lo_ : Int32} {im : Nat} {ex ds : Bool} : (md_pl NL dp un ii rw_ no pc_ st_ lo_ im ex ds (some 93)).1 = false := by
  unfold md_pl
  dsimp only
  rw [if_neg (by decide), if_neg (by decide), if_neg (by decide), if_neg (by decide), if_neg (by decide), if_neg (by decide), if_neg (by decide), if_neg (by decide), if_pos rfl]

def md_vR (pl : Nat) (R : md_R) : Prop := md_w pl R.1 R.2.1 R.2.2.1 R.2.2.2.1 R.2.2.2.2.1 R.2.2.2.2.2.1 R.2.2.2.2.2.2.1 ∧ md_vs R.1 (R.2.2.2.2.2.2.1 R.2.1) R.2.2.2.2.2.2.2.1 R.2.2.2.2.2.2.2.2.1 R.2.2.2.2.2.2.2.2.2.1

theorem md_vR_ok {pl : Nat} {R : md_R} (h : md_vR pl R) (hpl : pl ≤ 40) : md_okR R := by
  obtain ⟨⟨a1, a2, a3, a4, a5, a6⟩, hs⟩ := h
  have q := a3 R.2.1 (Nat.le_refl _)
  have k1 : R.2.1 ≤ 40 := by omega
  have k2 : R.1.length + R.2.2.2.2.2.1 R.2.1 + 4 ≤ 128 := by omega
  have k3 : R.2.2.2.2.1 R.2.1 ≤ R.1.length := by omega
  have k4 : R.2.2.2.2.2.2.1 R.2.1 ≤ R.1.length := by
    by_cases e : R.2.2.2.2.2.2.1 R.2.1 = 0
    · omega
    · have := a4 (by omega); omega
  have k5 : R.2.2.2.1 R.2.1 < 1000 := by omega
  have k6 : R.2.2.1 R.2.1 < 1000 := by omega
  obtain ⟨b1, b2, b3, b4, b5⟩ := hs
  refine ⟨k1, k2, k3, k4, k5, k6, b1, b2, fun z => ?_, fun z => b5 ⟨by rw [z]; decide, by rw [z]; decide⟩⟩
  obtain ⟨lw, h1, h2, -⟩ := b4 z
  exact ⟨lw, by omega, h2⟩

theorem md_v_pl {pl : Nat} {NL : List md_N} {dp : Nat} {un ii rw_ no pc_ : Nat → Nat} {lo_ : Int32} {im : Nat} {ex ds : Bool} (h : md_vR pl (NL, dp, un, ii, rw_, no, pc_, 0, lo_, im, ex, ds)) (hpl : pl ≤ 40) {c : Option Nat} (ht : (md_pl NL dp un ii rw_ no pc_ 0 lo_ im ex ds c).1 = true) : md_vR (pl + 1) (md_pl NL dp un ii rw_ no pc_ 0 lo_ im ex ds c).2 := by
  have hw : md_w pl NL dp un ii rw_ no pc_ := h.1
  cases c with
  | none =>
    by_cases k : dp = 0 ∧ (no dp = 0 ∨ 0 < pc_ dp)
    · rw [md_pl_none k]
      exact ⟨md_w_ci hw hpl k.2, md_vs_0⟩
    · rw [md_pl_nonef k] at ht
      cases ht
  | some ch =>
    by_cases e124 : ch = 124
    · subst e124
      by_cases k : no dp = 0 ∨ 0 < pc_ dp
      · rw [md_pl_124 k]
        exact ⟨md_w_ci hw hpl k, md_vs_0⟩
      · rw [md_pl_124f k] at ht
        cases ht
    by_cases e38 : ch = 38
    · subst e38
      by_cases k : no dp = 0 ∨ 0 < pc_ dp
      · rw [md_pl_38 k]
        exact ⟨md_w_cr hw hpl k, md_vs_0⟩
      · rw [md_pl_38f k] at ht
        cases ht
    by_cases e41 : ch = 41
    · subst e41
      by_cases k : dp ≠ 0 ∧ (no dp = 0 ∨ 0 < pc_ dp)
      · rw [md_pl_41 k]
        cases dp with
        | zero => exact absurd rfl k.1
        | succ d => exact ⟨md_w_cl hw hpl k.2, md_vs_0⟩
      · rw [md_pl_41f k] at ht
        cases ht
    by_cases e42 : ch = 42
    · subst e42
      by_cases k : 0 < pc_ dp
      · rw [md_pl_42 k]
        have e := hw.2.2.2.1 k
        have b := hw.2.1
        exact ⟨md_w_mk hw k (nd_fine_of (by decide) (by show pc_ dp - 1 < 128; omega) (by decide) (fun _ => by show pc_ dp - 1 < NL.length; omega) (fun z => absurd z (by decide))), md_vs_0⟩
      · rw [md_pl_42f k] at ht
        cases ht
    by_cases e43 : ch = 43
    · subst e43
      by_cases k : 0 < pc_ dp
      · rw [md_pl_43 k]
        have e := hw.2.2.2.1 k
        have b := hw.2.1
        exact ⟨md_w_mk hw k (nd_fine_of (by decide) (by show pc_ dp - 1 < 128; omega) (by decide) (fun _ => by show pc_ dp - 1 < NL.length; omega) (fun z => absurd z (by decide))), md_vs_0⟩
      · rw [md_pl_43f k] at ht
        cases ht
    by_cases e63 : ch = 63
    · subst e63
      by_cases k : 0 < pc_ dp
      · rw [md_pl_63 k]
        have e := hw.2.2.2.1 k
        have b := hw.2.1
        exact ⟨md_w_mk hw k (nd_fine_of (by decide) (by show pc_ dp - 1 < 128; omega) (by decide) (fun _ => by show pc_ dp - 1 < NL.length; omega) (fun z => absurd z (by decide))), md_vs_0⟩
      · rw [md_pl_63f k] at ht
        cases ht
    by_cases e123 : ch = 123
    · subst e123
      by_cases k : 0 < pc_ dp
      · rw [md_pl_123 k]
        exact ⟨md_w_same hw, by show 1 ≤ 9; decide, fun _ => k, fun z => absurd z (by show ¬ 5 ≤ 1; decide), fun z => absurd z.1 (by show ¬ 2 ≤ 1; decide), fun z => absurd z.1 (by show ¬ 7 ≤ 1; decide)⟩
      · rw [md_pl_123f k] at ht
        cases ht
    by_cases e125 : ch = 125
    · subst e125
      rw [md_pl_125f] at ht
      cases ht
    by_cases e93 : ch = 93
    · subst e93
      rw [md_pl_93f] at ht
      cases ht
    by_cases e126 : ch = 126
    · subst e126
      rw [md_pl_126]
      exact ⟨md_w_ti hw hpl, md_vs_0⟩
    by_cases e40 : ch = 40
    · subst e40
      rw [md_pl_40]
      exact ⟨md_w_op hw hpl, md_vs_0⟩
    by_cases e46 : ch = 46
    · subst e46
      rw [md_pl_46]
      exact ⟨md_w_one hw hpl _, md_vs_0⟩
    by_cases e91 : ch = 91
    · subst e91
      rw [md_pl_91]
      exact ⟨md_w_one hw hpl _, by show 5 ≤ 9; decide, fun _ => by show 0 < va_up pc_ dp _ dp; rw [va_up_eq']; exact Nat.succ_pos _, fun _ => ⟨_, _, rfl⟩, fun z => absurd z.2 (by show ¬ 5 ≤ 4; decide), fun z => absurd z.1 (by show ¬ 7 ≤ 5; decide)⟩
    rw [md_pl_ch ⟨e124, e38, e41, e42, e43, e63, e123, e125, e93, e126, e40, e46, e91⟩]
    exact ⟨md_w_one hw hpl _, md_vs_0⟩

theorem md_br_1 {NL : List md_N} {dp : Nat} {un ii rw_ no pc_ : Nat → Nat} {lo_ : Int32} {im : Nat} {ex ds : Bool} {c : Option Nat} : md_br NL dp un ii rw_ no pc_ 1 lo_ im ex ds c = (decide (48 ≤ md_c c ∧ md_c c ≤ 57), (NL, dp, un, ii, rw_, no, pc_, 2, md_c c - nI 48, im, ex, ds)) := if_pos rfl

theorem md_br_3 {NL : List md_N} {dp : Nat} {un ii rw_ no pc_ : Nat → Nat} {lo_ : Int32} {im : Nat} {ex ds : Bool} {c : Option Nat} (h : (48 ≤ md_c c ∧ md_c c ≤ 57)) : md_br NL dp un ii rw_ no pc_ 3 lo_ im ex ds c = (decide (lo_.toNatClampNeg ≤ c.getD 0 - 48), (NL, dp, un, ii, rw_, no, pc_, 4, lo_, c.getD 0 - 48, ex, ds)) := by
  unfold md_br
  rw [if_neg (by decide), if_pos ⟨rfl, h⟩]

theorem md_br_2 {NL : List md_N} {dp : Nat} {un ii rw_ no pc_ : Nat → Nat} {lo_ : Int32} {im : Nat} {ex ds : Bool} : md_br NL dp un ii rw_ no pc_ 2 lo_ im ex ds (some 44) = (true, (NL, dp, un, ii, rw_, no, pc_, 3, lo_, im, ex, ds)) := by
  unfold md_br
  rw [if_neg (by decide), if_neg (fun z => absurd z.1 (by decide)), if_pos ⟨rfl, rfl⟩]

theorem md_br_125 {NL : List md_N} {dp : Nat} {un ii rw_ no pc_ : Nat → Nat} {st_ : Nat} {lo_ : Int32} {im : Nat} {ex ds : Bool} (h1 : st_ ≠ 1) : md_br NL dp un ii rw_ no pc_ st_ lo_ im ex ds (some 125) = (true, (NL ++ [(9, pc_ dp - 1, lo_.toNatClampNeg, upd (fun _ => 0) 0 (nI (if st_ = 2 then lo_.toNatClampNeg else if st_ = 3 then 10 else im)))], dp, un, ii, rw_, no, va_up pc_ dp (NL.length + 1), 0, lo_, im, ex, ds)) := by
  unfold md_br
  rw [if_neg h1, if_neg (fun z => absurd z.2 (by decide)), if_neg (fun z => absurd z.2 (by decide)), if_pos rfl, md_set_last]

theorem md_br_f {NL : List md_N} {dp : Nat} {un ii rw_ no pc_ : Nat → Nat} {st_ : Nat} {lo_ : Int32} {im : Nat} {ex ds : Bool} {c : Option Nat} (h1 : st_ ≠ 1) (h3 : ¬ (st_ = 3 ∧ (48 ≤ md_c c ∧ md_c c ≤ 57))) (h2 : ¬ (st_ = 2 ∧ c = some 44)) (h5 : ¬ c = some 125) : (md_br NL dp un ii rw_ no pc_ st_ lo_ im ex ds c).1 = false := by
  unfold md_br
  rw [if_neg h1, if_neg h3, if_neg h2, if_neg h5]

theorem md_dg_some {ch : Nat} (h : ch < 1000) : (48 ≤ md_c (some ch) ∧ md_c (some ch) ≤ 57) ↔ (48 ≤ ch ∧ ch ≤ 57) :=
  ⟨fun z => ⟨(nI_leI (a := 48) (b := ch) (by omega) (by omega)).mp z.1, (nI_leI (a := ch) (b := 57) (by omega) (by omega)).mp z.2⟩, fun z => ⟨(nI_leI (a := 48) (b := ch) (by omega) (by omega)).mpr z.1, (nI_leI (a := ch) (b := 57) (by omega) (by omega)).mpr z.2⟩⟩

theorem md_dg_none : ¬ (48 ≤ md_c none ∧ md_c none ≤ 57) := by decide

theorem md_lo_sub {ch : Nat} (h : 48 ≤ ch) : md_c (some ch) - nI 48 = nI (ch - 48) := by
  have e : nI ch = nI (ch - 48) + nI 48 := by
    rw [nI_add _ _, Nat.sub_add_cancel h]
  show nI ch - nI 48 = _
  rw [e]
  exact Int32.add_sub_cancel _ _

theorem md_v_br {pl : Nat} {NL : List md_N} {dp : Nat} {un ii rw_ no pc_ : Nat → Nat} {st_ : Nat} {lo_ : Int32} {im : Nat} {ex ds : Bool} {c : Option Nat} (h : md_vR pl (NL, dp, un, ii, rw_, no, pc_, st_, lo_, im, ex, ds)) (h0 : st_ ≠ 0) (h4 : st_ < 5) (hpl : pl ≤ 40) (hc : ∀ ch, c = some ch → ch < 1000) (ht : (md_br NL dp un ii rw_ no pc_ st_ lo_ im ex ds c).1 = true) : md_vR (pl + 1) (md_br NL dp un ii rw_ no pc_ st_ lo_ im ex ds c).2 := by
  have hw : md_w pl NL dp un ii rw_ no pc_ := h.1
  have hs : md_vs NL (pc_ dp) st_ lo_ im := h.2
  obtain ⟨b1, b2, b3, b4, b5⟩ := hs
  have hpc := b2 h0
  clear b3
  by_cases e1 : st_ = 1
  · subst e1
    rw [md_br_1] at ht ⊢
    have ht : decide (48 ≤ md_c c ∧ md_c c ≤ 57) = true := ht
    obtain ⟨ch, rfl, d1, d2⟩ := md_c_dg hc (of_decide_eq_true ht)
    exact ⟨md_w_same hw, by show 2 ≤ 9; decide, fun _ => hpc, fun z => absurd z (by show ¬ 5 ≤ 2; decide), fun _ => ⟨ch - 48, by omega, md_lo_sub d1, fun z => absurd z (by show ¬ 2 = 4; decide)⟩, fun z => absurd z.1 (by show ¬ 7 ≤ 2; decide)⟩
  have b24 : 2 ≤ st_ ∧ st_ ≤ 4 := by
    clear b4
    omega
  obtain ⟨lw, l1, l2, l3⟩ := b4 b24
  clear b4
  have lc : lo_.toNatClampNeg = lw := by rw [l2]; exact nI_clamp (by omega)
  by_cases e3 : st_ = 3 ∧ (48 ≤ md_c c ∧ md_c c ≤ 57)
  · obtain ⟨e3, dg⟩ := e3
    subst e3
    rw [md_br_3 dg] at ht ⊢
    have ht := of_decide_eq_true (show decide (lo_.toNatClampNeg ≤ c.getD 0 - 48) = true from ht)
    obtain ⟨ch, rfl, d1, d2⟩ := md_c_dg hc dg
    have ht : lo_.toNatClampNeg ≤ ch - 48 := ht
    exact ⟨md_w_same hw, by show 4 ≤ 9; decide, fun _ => hpc, fun z => absurd z (by show ¬ 5 ≤ 4; decide), fun _ => ⟨lw, l1, l2, fun _ => ⟨by show lw ≤ ch - 48; omega, by show ch - 48 ≤ 9; omega⟩⟩, fun z => absurd z.1 (by show ¬ 7 ≤ 4; decide)⟩
  by_cases e2 : st_ = 2 ∧ c = some 44
  · obtain ⟨e2, ec⟩ := e2
    subst e2
    subst ec
    rw [md_br_2]
    exact ⟨md_w_same hw, by show 3 ≤ 9; decide, fun _ => hpc, fun z => absurd z (by show ¬ 5 ≤ 3; decide), fun _ => ⟨lw, l1, l2, fun z => absurd z (by show ¬ 3 = 4; decide)⟩, fun z => absurd z.1 (by show ¬ 7 ≤ 3; decide)⟩
  by_cases e5 : c = some 125
  · subst e5
    rw [md_br_125 e1, lc]
    have e := hw.2.2.2.1 hpc
    have b := hw.2.1
    have hm : (nI (if st_ = 2 then lw else if st_ = 3 then 10 else im)).toNatClampNeg = (if st_ = 2 then lw else if st_ = 3 then 10 else im) := nI_clamp (by
      by_cases z2 : st_ = 2
      · rw [if_pos z2]; omega
      · rw [if_neg z2]
        by_cases z3 : st_ = 3
        · rw [if_pos z3]; decide
        · rw [if_neg z3]; have := (l3 (by omega)).2; omega)
    refine ⟨md_w_mk hw hpc ⟨⟨by show 9 ≤ 9; decide, by show pc_ dp - 1 < 128; omega, by show lw < 128; omega, fun _ => by show pc_ dp - 1 < NL.length; omega, (fun z => by have z : 9 = 2 ∨ 9 = 3 ∨ 9 = 4 := z; omega), fun _ => ?_⟩, fun _ => by show upd (fun _ => 0) 0 (nI (if st_ = 2 then lw else if st_ = 3 then 10 else im)) 0 = nI (upd (fun _ => 0) 0 (nI (if st_ = 2 then lw else if st_ = 3 then 10 else im)) 0).toNatClampNeg; rw [pk_us, hm]⟩, md_vs_0⟩
    show lw < 10 ∧ (upd (fun _ => 0) 0 (nI (if st_ = 2 then lw else if st_ = 3 then 10 else im)) 0).toNatClampNeg ≤ 10 ∧ ((upd (fun _ => 0) 0 (nI (if st_ = 2 then lw else if st_ = 3 then 10 else im)) 0).toNatClampNeg < 10 → lw ≤ (upd (fun _ => 0) 0 (nI (if st_ = 2 then lw else if st_ = 3 then 10 else im)) 0).toNatClampNeg)
    rw [pk_us, hm]
    by_cases z2 : st_ = 2
    · rw [if_pos z2]; omega
    · rw [if_neg z2]
      by_cases z3 : st_ = 3
      · rw [if_pos z3]; omega
      · rw [if_neg z3]; have := l3 (by omega); omega
  · rw [md_br_f e1 e3 e2 e5] at ht
    cases ht

theorem md_cl_none {NL : List md_N} {f : Nat → Int32} {dp : Nat} {un ii rw_ no pc_ : Nat → Nat} {st_ : Nat} {lo_ : Int32} {im : Nat} {ex ds : Bool} : (md_cl (NL ++ [(1, 0, 0, f)]) dp un ii rw_ no pc_ st_ lo_ im ex ds none).1 = false := rfl

theorem md_cl_94 {NL : List md_N} {f : Nat → Int32} {dp : Nat} {un ii rw_ no pc_ : Nat → Nat} {lo_ : Int32} {im : Nat} {ex ds : Bool} : md_cl (NL ++ [(1, 0, 0, f)]) dp un ii rw_ no pc_ 5 lo_ im ex ds (some 94) = (true, (NL ++ [(1, 0, 0, f)], dp, un, ii, rw_, no, pc_, 6, lo_, im, true, ds)) := by
  unfold md_cl
  dsimp only
  rw [if_pos ⟨rfl, rfl⟩]

theorem md_cl_93 {NL : List md_N} {f : Nat → Int32} {dp : Nat} {un ii rw_ no pc_ : Nat → Nat} {st_ : Nat} {lo_ : Int32} {im : Nat} {ex ds : Bool} (hp : pc_ dp = NL.length + 1) (h : 6 < st_) : md_cl (NL ++ [(1, 0, 0, f)]) dp un ii rw_ no pc_ st_ lo_ im ex ds (some 93) = (true, (NL ++ [(1, 0, 0, sw_nx f ex)], dp, un, ii, rw_, no, pc_, 0, lo_, im, ex, ds)) := by
  unfold md_cl
  dsimp only
  rw [if_neg (fun z => absurd z.2 (by decide)), if_pos rfl, if_pos h, show pc_ dp - 1 = NL.length by omega, md_nx_last]

theorem md_cl_93f {NL : List md_N} {f : Nat → Int32} {dp : Nat} {un ii rw_ no pc_ : Nat → Nat} {st_ : Nat} {lo_ : Int32} {im : Nat} {ex ds : Bool} (h : ¬ 6 < st_) : (md_cl (NL ++ [(1, 0, 0, f)]) dp un ii rw_ no pc_ st_ lo_ im ex ds (some 93)).1 = false := by
  unfold md_cl
  dsimp only
  rw [if_neg (fun z => absurd z.2 (by decide)), if_pos rfl, if_neg h]

theorem md_cl_45 {NL : List md_N} {f : Nat → Int32} {dp : Nat} {un ii rw_ no pc_ : Nat → Nat} {lo_ : Int32} {im : Nat} {ex ds : Bool} (hp : pc_ dp = NL.length + 1) : md_cl (NL ++ [(1, 0, 0, f)]) dp un ii rw_ no pc_ 7 lo_ im ex ds (some 45) = (true, (NL ++ [(1, 0, 0, sw_in f 45)], dp, un, ii, rw_, no, pc_, 8, lo_, im, ex, ds)) := by
  unfold md_cl
  dsimp only
  rw [if_neg (fun z => absurd z.2 (by decide)), if_neg (by decide), if_pos ⟨rfl, rfl⟩, show pc_ dp - 1 = NL.length by omega, md_inc_last]

theorem md_cl_8 {NL : List md_N} {f : Nat → Int32} {dp : Nat} {un ii rw_ no pc_ : Nat → Nat} {lo_ : Int32} {im : Nat} {ex ds : Bool} {ch : Nat} (hp : pc_ dp = NL.length + 1) (h : ch ≠ 93) : md_cl (NL ++ [(1, 0, 0, f)]) dp un ii rw_ no pc_ 8 lo_ im ex ds (some ch) = (decide (im ≤ ch), (NL ++ [(1, 0, 0, sw_ins (sw_ud f ds) im (ch + 1 - im))], dp, un, ii, rw_, no, pc_, 9, lo_, im, ex, ds)) := by
  unfold md_cl
  dsimp only
  rw [if_neg (fun z => absurd z.1 (by decide)), if_neg h, if_neg (fun z => absurd z.1 (by decide)), if_pos rfl, show pc_ dp - 1 = NL.length by omega, md_ud_last, md_incs_last]

theorem md_cl_ch {NL : List md_N} {f : Nat → Int32} {dp : Nat} {un ii rw_ no pc_ : Nat → Nat} {st_ : Nat} {lo_ : Int32} {im : Nat} {ex ds : Bool} {ch : Nat} (hp : pc_ dp = NL.length + 1) (h : ch ≠ 93) (h5 : ¬ (st_ = 5 ∧ ch = 94)) (h7 : ¬ (st_ = 7 ∧ ch = 45)) (h8 : st_ ≠ 8) : md_cl (NL ++ [(1, 0, 0, f)]) dp un ii rw_ no pc_ st_ lo_ im ex ds (some ch) = (true, (NL ++ [(1, 0, 0, sw_in f ch)], dp, un, ii, rw_, no, pc_, 7, lo_, ch, ex, ds)) := by
  unfold md_cl
  dsimp only
  rw [if_neg h5, if_neg h, if_neg h7, if_neg h8, show pc_ dp - 1 = NL.length by omega, md_inc_last]

theorem md_v_cl {pl : Nat} {NL : List md_N} {dp : Nat} {un ii rw_ no pc_ : Nat → Nat} {st_ : Nat} {lo_ : Int32} {im : Nat} {ex ds ds' : Bool} {c : Option Nat} (h : md_vR pl (NL, dp, un, ii, rw_, no, pc_, st_, lo_, im, ex, ds)) (h5 : 5 ≤ st_) (hc : ∀ ch, c = some ch → 32 ≤ ch ∧ ch < 127) (ht : (md_cl NL dp un ii rw_ no pc_ st_ lo_ im ex ds' c).1 = true) : md_vR (pl + 1) (md_cl NL dp un ii rw_ no pc_ st_ lo_ im ex ds' c).2 := by
  have hw : md_w pl NL dp un ii rw_ no pc_ := h.1
  have hs : md_vs NL (pc_ dp) st_ lo_ im := h.2
  obtain ⟨b1, b2, b3, b4, b5⟩ := hs
  obtain ⟨NL0, f, rfl⟩ := b3 h5
  clear b3 b4
  have hpc := b2 (by omega)
  have hp : pc_ dp = NL0.length + 1 := by rw [hw.2.2.2.1 hpc, List.length_append]; rfl
  cases c with
  | none => cases ht
  | some ch =>
    have hch := hc ch rfl
    by_cases e94 : st_ = 5 ∧ ch = 94
    · obtain ⟨e1, e2⟩ := e94
      subst e1
      subst e2
      rw [md_cl_94]
      exact ⟨md_w_same hw, by show 6 ≤ 9; decide, fun _ => hpc, fun _ => ⟨_, _, rfl⟩, fun z => absurd z.2 (by show ¬ 6 ≤ 4; decide), fun z => absurd z.1 (by show ¬ 7 ≤ 6; decide)⟩
    by_cases e93 : ch = 93
    · subst e93
      by_cases k : 6 < st_
      · rw [md_cl_93 hp k]
        exact ⟨md_w_same (md_w_set hw _), md_vs_0⟩
      · rw [md_cl_93f k] at ht
        cases ht
    by_cases e45 : st_ = 7 ∧ ch = 45
    · obtain ⟨e1, e2⟩ := e45
      subst e1
      subst e2
      rw [md_cl_45 hp]
      exact ⟨md_w_same (md_w_set hw _), by show 8 ≤ 9; decide, fun _ => hpc, fun _ => ⟨_, _, rfl⟩, fun z => absurd z.2 (by show ¬ 8 ≤ 4; decide), fun _ => b5 ⟨by decide, by decide⟩⟩
    by_cases e8 : st_ = 8
    · subst e8
      rw [md_cl_8 hp e93]
      exact ⟨md_w_same (md_w_set hw _), by show 9 ≤ 9; decide, fun _ => hpc, fun _ => ⟨_, _, rfl⟩, fun z => absurd z.2 (by show ¬ 9 ≤ 4; decide), fun z => absurd z.2 (by show ¬ 9 ≤ 8; decide)⟩
    rw [md_cl_ch hp e93 e94 e45 e8]
    exact ⟨md_w_same (md_w_set hw _), by show 7 ≤ 9; decide, fun _ => hpc, fun _ => ⟨_, _, rfl⟩, fun z => absurd z.2 (by show ¬ 7 ≤ 4; decide), fun _ => hch⟩

theorem md_v_step {pl : Nat} {R : md_R} {c : Option Nat} (h : md_vR pl R) (hpl : pl ≤ 40) (hc : ∀ ch, c = some ch → 32 ≤ ch ∧ ch < 127) (ht : (md_tkR R c).1 = true) : md_vR (pl + 1) (md_tkR R c).2 := by
  obtain ⟨NL, dp, un, ii, rw_, no, pc_, st_, lo_, im, ex, ds⟩ := R
  have ht : (md_tk NL dp un ii rw_ no pc_ st_ lo_ im ex ds c).1 = true := ht
  show md_vR (pl + 1) (md_tk NL dp un ii rw_ no pc_ st_ lo_ im ex ds c).2
  by_cases e0 : st_ = 0
  · subst e0
    rw [show md_tk NL dp un ii rw_ no pc_ 0 lo_ im ex ds c = md_pl NL dp un ii rw_ no pc_ 0 lo_ im ex ds c from if_pos rfl] at ht ⊢
    exact md_v_pl h hpl ht
  by_cases e4 : st_ < 5
  · rw [show md_tk NL dp un ii rw_ no pc_ st_ lo_ im ex ds c = md_br NL dp un ii rw_ no pc_ st_ lo_ im ex ds c by unfold md_tk; rw [if_neg e0, if_pos e4]] at ht ⊢
    exact md_v_br h e0 e4 hpl (fun ch e => by have := hc ch e; omega) ht
  · have e : md_tk NL dp un ii rw_ no pc_ st_ lo_ im ex ds c = md_cl NL dp un ii rw_ no pc_ st_ lo_ im ex ((if st_ = 7 ∧ c = some 45 then bt ((NL.getD (pc_ dp - 1) (0, 0, 0, fun _ => 0)).2.2.2 0) 13 else ds)) c := by
      unfold md_tk
      rw [if_neg e0, if_neg e4]
    rw [e] at ht ⊢
    exact md_v_cl h (by omega) hc ht

theorem md_v_0 {un ii rw_ no pc_ : Nat → Nat} {lo_ : Int32} {im : Nat} {ex ds : Bool} : md_vR 0 ([], 0, va_up un 0 0, va_up ii 0 0, va_up rw_ 0 0, va_up no 0 0, va_up pc_ 0 0, 0, lo_, im, ex, ds) := by
  refine ⟨⟨Nat.le_refl _, ?_, fun j hj => ?_, fun z => ?_, fun _ _ => (show va_up rw_ 0 0 0 = 0 from va_up_eq'), fun j hj => absurd hj (Nat.not_lt_zero _)⟩, md_vs_0⟩
  · show 0 + 0 + va_up no 0 0 0 + min (va_up un 0 0 0) 1 + min (va_up ii 0 0 0) 1 + min (va_up pc_ 0 0 0) 1 ≤ 2 * 0
    rw [va_up_eq', va_up_eq', va_up_eq', va_up_eq']
    decide
  · have hj : j ≤ 0 := hj
    have e : j = 0 := by omega
    subst e
    show va_up un 0 0 0 + min (va_up pc_ 0 0 0) 1 ≤ 0 ∧ va_up ii 0 0 0 + min (va_up pc_ 0 0 0) 1 ≤ 0 ∧ va_up rw_ 0 0 0 + min (va_up pc_ 0 0 0) 1 ≤ 0
    rw [va_up_eq', va_up_eq', va_up_eq', va_up_eq']
    decide
  · have z : 0 < va_up pc_ 0 0 0 := z
    rw [va_up_eq'] at z
    omega
