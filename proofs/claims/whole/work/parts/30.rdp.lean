/-! the reader's larger methods as the code does them, and where they leave at_ -/
abbrev pg_P : Type := List (Nat × Nat × Nat)
def rd_ms (src : Nat → Nat) (len : Nat) : Nat → Nat → pg_P → Bool × Nat × pg_P
  | 0, at_, P => (true, at_, P)
  | f + 1, at_, P => if at_ < len ∧ rd_mk (src at_) = true then (if (rd_mr src len at_ P).1 = true then rd_ms src len f (rd_mr src len at_ P).2.1 (rd_mr src len at_ P).2.2 else rd_mr src len at_ P) else (true, at_, P)
def rd_nt : Nat → pg_P → pg_P
  | 0, P => P
  | k + 1, P => pg_add (rd_nt k P) (5, 0, 1)
def rd_e2 (lv : Nat) (no : Nat → Nat) (uo io : Nat → Bool) (m : Bool × Nat × pg_P) : Bool × rd_S := if m.1 = true then (true, (m.2.1, lv, va_up no lv 0, uo, io, pg_add (rd_nt (no lv) m.2.2) (2, 0, 1))) else (false, (m.2.1, lv, no, uo, io, m.2.2))
def rd_ep (src : Nat → Nat) (len at_ lv : Nat) (no : Nat → Nat) (uo io : Nat → Bool) (P : pg_P) : Bool × rd_S := rd_e2 lv no uo io (rd_ms src len len at_ P)
def rd_is (src : Nat → Nat) (len : Nat) : Nat → Nat → pg_P → Bool × Nat × pg_P
  | 0, at_, P => (true, at_, P)
  | f + 1, at_, P => if at_ < len ∧ src at_ ≠ 93 then (if (rd_it src len at_ P).1 = true then rd_is src len f (rd_it src len at_ P).2.1 (pg_add (rd_it src len at_ P).2.2 (3, 0, 1)) else rd_it src len at_ P) else (true, at_, P)
def rd_ng (neg : Bool) (P : pg_P) : pg_P := if neg = true then pg_add (pg_add (pg_add P (5, 0, 1)) (1, 32, 127)) (4, 0, 1) else P
def rd_c3 (src : Nat → Nat) (len : Nat) (neg : Bool) (s : Bool × Nat × pg_P) : Bool × Nat × pg_P := if s.1 = true then (if s.2.1 < len ∧ src s.2.1 = 93 then (true, s.2.1 + 1, rd_ng neg s.2.2) else (false, s.2.1, s.2.2)) else s
def rd_c2 (src : Nat → Nat) (len : Nat) (neg : Bool) (r : Bool × Nat × pg_P) : Bool × Nat × pg_P := if r.1 = true then rd_c3 src len neg (rd_is src len len r.2.1 r.2.2) else r
def rd_c1 (src : Nat → Nat) (len : Nat) (neg : Bool) (a2 : Nat) (P : pg_P) : Bool × Nat × pg_P := if a2 < len ∧ src a2 = 93 then (false, a2, P) else rd_c2 src len neg (rd_it src len a2 P)
def rd_cx (src : Nat → Nat) (len at_ : Nat) (P : pg_P) : Bool × Nat × pg_P := if at_ + 1 < len ∧ src (at_ + 1) = 94 then rd_c1 src len true (at_ + 1 + 1) P else rd_c1 src len false (at_ + 1) P
def rd_2 (src : Nat → Nat) (len : Nat) (r : Bool × rd_S) : Bool × rd_S := if r.1 = true then rd_ep src len r.2.1 r.2.2.1 r.2.2.2.1 r.2.2.2.2.1 r.2.2.2.2.2.1 r.2.2.2.2.2.2 else r
def rd_x2 (src : Nat → Nat) (len lv : Nat) (no : Nat → Nat) (uo io : Nat → Bool) (x : Bool × Nat × pg_P) : Bool × rd_S := if x.1 = true then rd_ep src len x.2.1 lv no uo io x.2.2 else (false, (x.2.1, lv, no, uo, io, x.2.2))
def rd_bad (c : Nat) : Prop := c = 42 ∨ c = 43 ∨ c = 63 ∨ c = 93 ∨ c = 123 ∨ c = 125
def rd_on (src : Nat → Nat) (len at_ lv : Nat) (no : Nat → Nat) (uo io : Nat → Bool) (P : pg_P) : Bool × rd_S :=
  if src at_ = 124 then rd_un at_ lv no uo io P else if src at_ = 38 then rd_in at_ lv no uo io P else if src at_ = 126 then (true, (at_ + 1, lv, va_up no lv (no lv + 1), uo, io, P)) else if src at_ = 40 then rd_op at_ lv no uo io P else if src at_ = 41 then rd_2 src len (rd_cl at_ lv no uo io P) else if src at_ = 91 then rd_x2 src len lv no uo io (rd_cx src len at_ P) else if src at_ = 46 then rd_ep src len (at_ + 1) lv no uo io (pg_add P (1, 32, 127)) else if src at_ = 42 ∨ src at_ = 43 ∨ src at_ = 63 ∨ src at_ = 93 ∨ src at_ = 123 ∨ src at_ = 125 then (false, (at_, lv, no, uo, io, P)) else rd_ep src len (at_ + 1) lv no uo io (pg_add P (1, src at_, src at_ + 1))
def rd_lp (src : Nat → Nat) (len : Nat) : Nat → rd_S → Bool × rd_S
  | 0, s => (true, s)
  | f + 1, s => if s.1 < len then (if (rd_on src len s.1 s.2.1 s.2.2.1 s.2.2.2.1 s.2.2.2.2.1 s.2.2.2.2.2).1 = true then rd_lp src len f (rd_on src len s.1 s.2.1 s.2.2.1 s.2.2.2.1 s.2.2.2.2.1 s.2.2.2.2.2).2 else rd_on src len s.1 s.2.1 s.2.2.1 s.2.2.2.1 s.2.2.2.2.1 s.2.2.2.2.2) else (true, s)
def rd_fin (r : Bool × rd_S) : Bool × rd_S := if r.1 = true then (if 0 < r.2.2.1 ∨ 0 < r.2.2.2.1 r.2.2.1 then (false, r.2) else (true, (r.2.1, r.2.2.1, r.2.2.2.1, r.2.2.2.2.1, r.2.2.2.2.2.1, rd_eU r.2.2.2.2.1 r.2.2.2.2.2.1 r.2.2.1 r.2.2.2.2.2.2))) else r
def rd_s0 (no : Nat → Nat) (uo io : Nat → Bool) : rd_S := (0, 0, va_up no 0 0, va_up uo 0 false, va_up io 0 false, pg_add [] (0, 0, 1))
def rd_rd (src : Nat → Nat) (len : Nat) (no : Nat → Nat) (uo io : Nat → Bool) : Bool × rd_S := rd_fin (rd_lp src len len (rd_s0 no uo io))
def rd_ok (len : Nat) (s : rd_S) : Prop := s.2.1 ≤ 40 ∧ s.1 ≤ len ∧ ∀ j, j ≤ s.2.1 → s.2.2.1 j ≤ s.1
theorem rd_it_le {src : Nat → Nat} {len at_ : Nat} {P : pg_P} (h : at_ ≤ len) : (rd_it src len at_ P).2.1 ≤ len ∧ at_ ≤ (rd_it src len at_ P).2.1 := by
  unfold rd_it
  split
  · split
    · split <;> (dsimp only; omega)
    · dsimp only; omega
  · dsimp only; omega
theorem rd_t1_le {src : Nat → Nat} {len at_ : Nat} (h : at_ < len) : (rd_t1 src len at_).1 ≤ len ∧ at_ ≤ (rd_t1 src len at_).1 := by
  unfold rd_t1
  split
  · split <;> (dsimp only; omega)
  · dsimp only; omega
theorem rd_tm_le {src : Nat → Nat} {len at_ : Nat} {P : pg_P} (h : at_ ≤ len) : (rd_tm src len at_ P).2.1 ≤ len ∧ at_ ≤ (rd_tm src len at_ P).2.1 := by
  unfold rd_tm
  split
  · have := rd_t1_le (src := src) (len := len) (at_ := at_) (by omega)
    split <;> (dsimp only; omega)
  · dsimp only; omega
theorem rd_mr_le {src : Nat → Nat} {len at_ : Nat} {P : pg_P} (h : at_ < len) : (rd_mr src len at_ P).2.1 ≤ len ∧ at_ ≤ (rd_mr src len at_ P).2.1 := by
  unfold rd_mr
  split
  · have := rd_tm_le (src := src) (len := len) (at_ := at_ + 1) (P := P) (by omega)
    omega
  · dsimp only; omega
theorem rd_ms_le {src : Nat → Nat} {len : Nat} : ∀ {f at_ : Nat} {P : pg_P}, at_ ≤ len → (rd_ms src len f at_ P).2.1 ≤ len ∧ at_ ≤ (rd_ms src len f at_ P).2.1
  | 0, at_, P, h => by show at_ ≤ len ∧ at_ ≤ at_; omega
  | f + 1, at_, P, h => by
    unfold rd_ms
    split
    · next hc =>
      have h1 := rd_mr_le (src := src) (P := P) hc.1
      split
      · have := rd_ms_le (src := src) (len := len) (f := f) (at_ := (rd_mr src len at_ P).2.1) (P := (rd_mr src len at_ P).2.2) h1.1
        omega
      · exact h1
    · dsimp only; omega
theorem rd_is_le {src : Nat → Nat} {len : Nat} : ∀ {f at_ : Nat} {P : pg_P}, at_ ≤ len → (rd_is src len f at_ P).2.1 ≤ len ∧ at_ ≤ (rd_is src len f at_ P).2.1
  | 0, at_, P, h => by show at_ ≤ len ∧ at_ ≤ at_; omega
  | f + 1, at_, P, h => by
    unfold rd_is
    have h1 := rd_it_le (src := src) (P := P) h
    split
    · split
      · have := rd_is_le (src := src) (len := len) (f := f) (at_ := (rd_it src len at_ P).2.1) (P := pg_add (rd_it src len at_ P).2.2 (3, 0, 1)) h1.1
        omega
      · exact h1
    · dsimp only; omega
theorem rd_cx_le {src : Nat → Nat} {len at_ : Nat} {P : pg_P} (h : at_ < len) : (rd_cx src len at_ P).2.1 ≤ len ∧ at_ ≤ (rd_cx src len at_ P).2.1 := by
  have h1 : ∀ neg a2, at_ ≤ a2 → a2 ≤ len → (rd_c1 src len neg a2 P).2.1 ≤ len ∧ at_ ≤ (rd_c1 src len neg a2 P).2.1 := by
    intro neg a2 ha hb
    unfold rd_c1
    split
    · dsimp only; omega
    · unfold rd_c2
      have e := rd_it_le (src := src) (P := P) hb
      split
      · unfold rd_c3
        have e2 := rd_is_le (src := src) (len := len) (f := len) (at_ := (rd_it src len a2 P).2.1) (P := (rd_it src len a2 P).2.2) e.1
        split
        · split <;> (dsimp only; omega)
        · omega
      · omega
  unfold rd_cx
  split
  · exact h1 _ _ (by omega) (by omega)
  · exact h1 _ _ (by omega) (by omega)
theorem rd_ep_ok {src : Nat → Nat} {len at_ lv : Nat} {no : Nat → Nat} {uo io : Nat → Bool} {P : pg_P} (h : rd_ok len (at_, lv, no, uo, io, P)) : rd_ok len (rd_ep src len at_ lv no uo io P).2 ∧ at_ ≤ (rd_ep src len at_ lv no uo io P).2.1 := by
  obtain ⟨h1, h2, h3⟩ := h
  have e := rd_ms_le (src := src) (len := len) (f := len) (at_ := at_) (P := P) h2
  unfold rd_ep rd_e2
  split
  · refine ⟨⟨h1, e.1, fun j hjl => ?_⟩, e.2⟩
    show va_up no lv 0 j ≤ (rd_ms src len len at_ P).2.1
    have := h3 j hjl
    dsimp only at this
    by_cases hj : j = lv
    · rw [hj, va_up_eq']; omega
    · rw [va_up_ne' hj]; omega
  · refine ⟨⟨h1, e.1, fun j hjl => ?_⟩, e.2⟩
    have := h3 j hjl
    dsimp only at this ⊢
    omega
theorem rd_on_ok {src : Nat → Nat} {len at_ lv : Nat} {no : Nat → Nat} {uo io : Nat → Bool} {P : pg_P} (h : rd_ok len (at_, lv, no, uo, io, P)) (hl : at_ < len) : rd_ok len (rd_on src len at_ lv no uo io P).2 := by
  have h0 := h
  obtain ⟨h1, h2, h3⟩ := h
  dsimp only at h1 h2 h3
  have k1 : ∀ j, j ≤ lv → no j ≤ at_ + 1 := fun j hj => Nat.le_succ_of_le (h3 j hj)
  unfold rd_on
  split
  · unfold rd_un; split
    · exact ⟨h1, hl, k1⟩
    · exact h0
  split
  · unfold rd_in; split
    · exact ⟨h1, hl, k1⟩
    · exact h0
  split
  · refine ⟨h1, hl, fun j hjl => ?_⟩
    show va_up no lv (no lv + 1) j ≤ at_ + 1
    by_cases hj : j = lv
    · rw [hj, va_up_eq']; have := h3 lv (Nat.le_refl _); omega
    · rw [va_up_ne' hj]; exact k1 j hjl
  split
  · unfold rd_op; split
    · refine ⟨by dsimp only; omega, hl, fun j hjl => ?_⟩
      show va_up no (lv + 1) 0 j ≤ at_ + 1
      have hjl : j ≤ lv + 1 := hjl
      by_cases hj : j = lv + 1
      · rw [hj, va_up_eq']; omega
      · rw [va_up_ne' hj]; exact k1 j (by omega)
    · exact h0
  split
  · by_cases hc : lv ≠ 0 ∧ no lv = 0
    · rw [show rd_cl at_ lv no uo io P = (true, (at_ + 1, lv - 1, no, uo, io, rd_eU uo io lv P)) from if_pos hc]
      exact (rd_ep_ok ⟨by dsimp only; omega, hl, fun j hj => k1 j (by dsimp only at hj; omega)⟩).1
    · rw [show rd_cl at_ lv no uo io P = (false, (at_, lv, no, uo, io, P)) from if_neg hc]
      exact h0
  split
  · unfold rd_x2
    have e := rd_cx_le (src := src) (P := P) hl
    have k2 : ∀ j, j ≤ lv → no j ≤ (rd_cx src len at_ P).2.1 := fun j hj => Nat.le_trans (h3 j hj) e.2
    split
    · exact (rd_ep_ok ⟨h1, e.1, k2⟩).1
    · exact ⟨h1, e.1, k2⟩
  split
  · exact (rd_ep_ok ⟨h1, hl, k1⟩).1
  split
  · exact h0
  · exact (rd_ep_ok ⟨h1, hl, k1⟩).1
theorem rd_ep_f {src : Nat → Nat} {len at_ lv : Nat} {no : Nat → Nat} {uo io : Nat → Bool} {P : pg_P} {m : Bool × Nat × pg_P} (h : rd_ms src len len at_ P = m) (hm : m.1 = false) : rd_ep src len at_ lv no uo io P = (false, (m.2.1, lv, no, uo, io, m.2.2)) := by
  unfold rd_ep
  rw [h]
  exact if_neg (by rw [hm]; decide)
theorem rd_ep_t {src : Nat → Nat} {len at_ lv at1 : Nat} {no : Nat → Nat} {uo io : Nat → Bool} {P P1 : pg_P} (h : rd_ms src len len at_ P = (true, at1, P1)) : rd_ep src len at_ lv no uo io P = (true, (at1, lv, va_up no lv 0, uo, io, pg_add (rd_nt (no lv) P1) (2, 0, 1))) := by
  unfold rd_ep
  rw [h]
  rfl
