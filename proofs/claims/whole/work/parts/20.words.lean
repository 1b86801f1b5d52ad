section KN
variable {p : Program} {l : Launch} {e : Env} {R : Room} {s : State} {m : MethodId} {args : Array Value} {below : List Frame} {meth : Method} {c : Code} {H : Heap} {locs : List Loc} {cells slots : Nat} {Q : State → Prop}
variable {cc : ByteArray} {pc nL : Nat} {ls : Array Slot} {rest : List Value} {own : String} {ret : Option FieldType}
theorem kz_nle (X : kz_C p m c cc nL own s args meth ret) {a : Nat} (ha : a < 2 ^ 31) {off : Int} {tgt : Nat} (hdg : decode cc pc = .ok (.ifCond .le off, 3)) (ht : (pc : Int) + off = (tgt : Int)) (kt : a = 0 → W p l e R s m args below meth c H locs cells slots Q (F0 m tgt ls rest)) (kf : 0 < a → W p l e R s m args below meth c H locs cells slots Q (F0 m (pc + 3) ls rest)) : W p l e R s m args below meth c H locs cells slots Q (F0 m pc ls (.int (nI a) :: rest)) := lv_if_le X.1 X.2.1 hdg ht (fun h => kt (Nat.eq_zero_of_not_pos fun z => nI_nle z ha h)) (fun h => kf (Nat.pos_of_ne_zero fun z => h (by rw [z]; decide)))
theorem kz_ngt (X : kz_C p m c cc nL own s args meth ret) {a : Nat} (ha : a < 2 ^ 31) {off : Int} {tgt : Nat} (hdg : decode cc pc = .ok (.ifCond .gt off, 3)) (ht : (pc : Int) + off = (tgt : Int)) (kt : 0 < a → W p l e R s m args below meth c H locs cells slots Q (F0 m tgt ls rest)) (kf : a = 0 → W p l e R s m args below meth c H locs cells slots Q (F0 m (pc + 3) ls rest)) : W p l e R s m args below meth c H locs cells slots Q (F0 m pc ls (.int (nI a) :: rest)) := lv_if_gt X.1 X.2.1 hdg ht (fun h => kt (Nat.pos_of_ne_zero fun z => by rw [z] at h; exact absurd h (by decide))) (fun h => kf (Nat.eq_zero_of_not_pos fun z => h (by rw [show (0 : Int32) = nI 0 from rfl, nI_ltI (by omega) ha]; exact z)))
theorem kz_neq (X : kz_C p m c cc nL own s args meth ret) {a : Nat} (ha : a < 2 ^ 31) {off : Int} {tgt : Nat} (hdg : decode cc pc = .ok (.ifCond .eq off, 3)) (ht : (pc : Int) + off = (tgt : Int)) (kt : a = 0 → W p l e R s m args below meth c H locs cells slots Q (F0 m tgt ls rest)) (kf : a ≠ 0 → W p l e R s m args below meth c H locs cells slots Q (F0 m (pc + 3) ls rest)) : W p l e R s m args below meth c H locs cells slots Q (F0 m pc ls (.int (nI a) :: rest)) := lv_if_eq X.1 X.2.1 hdg ht (fun h => kt (Nat.eq_zero_of_not_pos fun z => nI_ne0 z ha h)) (fun h => kf fun z => h (by rw [z]; rfl))
theorem kz_nne (X : kz_C p m c cc nL own s args meth ret) {a : Nat} (ha : a < 2 ^ 31) {off : Int} {tgt : Nat} (hdg : decode cc pc = .ok (.ifCond .ne off, 3)) (ht : (pc : Int) + off = (tgt : Int)) (kt : a ≠ 0 → W p l e R s m args below meth c H locs cells slots Q (F0 m tgt ls rest)) (kf : a = 0 → W p l e R s m args below meth c H locs cells slots Q (F0 m (pc + 3) ls rest)) : W p l e R s m args below meth c H locs cells slots Q (F0 m pc ls (.int (nI a) :: rest)) := lv_if_ne X.1 X.2.1 hdg ht (fun h => kt fun z => h (by rw [z]; rfl)) (fun h => kf (Nat.eq_zero_of_not_pos fun z => nI_ne0 z ha h))
theorem kz_nlt (X : kz_C p m c cc nL own s args meth ret) {a : Nat} (ha : a < 2 ^ 31) {off : Int} (hdg : decode cc pc = .ok (.ifCond .lt off, 3)) {tgt : Nat} (kf : W p l e R s m args below meth c H locs cells slots Q (F0 m (pc + 3) ls rest)) (ht : (pc : Int) + off = (tgt : Int) := by rfl) : W p l e R s m args below meth c H locs cells slots Q (F0 m pc ls (.int (nI a) :: rest)) := lv_if_lt X.1 X.2.1 hdg ht (fun h => absurd h (nI_pos ha)) (fun _ => kf)
theorem kz_nge (X : kz_C p m c cc nL own s args meth ret) {a : Nat} (ha : a < 2 ^ 31) {off : Int} {tgt : Nat} (hdg : decode cc pc = .ok (.ifCond .ge off, 3)) (ht : (pc : Int) + off = (tgt : Int)) (kt : W p l e R s m args below meth c H locs cells slots Q (F0 m tgt ls rest)) : W p l e R s m args below meth c H locs cells slots Q (F0 m pc ls (.int (nI a) :: rest)) := lv_if_ge X.1 X.2.1 hdg ht (fun _ => kt) (fun h => absurd (nI_pos' ha) h)
end KN
/-! the words of at most four letters a, b, c, and their numbers -/
def wd_no (w : List Nat) : Nat := w.foldl (fun k c => 3 * k + 1 + (c - 97)) 0
def wd_w (w : List Nat) : Prop := w.length ≤ 4 ∧ ∀ c ∈ w, 97 ≤ c ∧ c ≤ 99
theorem wd_no_snoc (w : List Nat) (c : Nat) : wd_no (w ++ [c]) = 3 * wd_no w + 1 + (c - 97) := by simp [wd_no]
theorem wd_inj : ∀ (n : Nat) (u v : List Nat), u.length = n → (∀ c ∈ u, 97 ≤ c ∧ c ≤ 99) → (∀ c ∈ v, 97 ≤ c ∧ c ≤ 99) → wd_no u = wd_no v → u = v := by
  intro n
  induction n with
  | zero =>
    intro u v hu _ _ h
    have hu : u = [] := List.length_eq_zero_iff.mp hu
    subst hu
    rcases List.eq_nil_or_concat v with rfl | ⟨v', d, rfl⟩
    · rfl
    · rw [List.concat_eq_append, wd_no_snoc] at h
      have : wd_no [] = 0 := rfl
      omega
  | succ n ih =>
    intro u v hu h1 h2 h
    rcases List.eq_nil_or_concat u with rfl | ⟨u', c, rfl⟩
    · cases hu
    rcases List.eq_nil_or_concat v with rfl | ⟨v', d, rfl⟩
    · rw [List.concat_eq_append, wd_no_snoc] at h
      have : wd_no [] = 0 := rfl
      omega
    · simp only [List.concat_eq_append] at *
      rw [wd_no_snoc, wd_no_snoc] at h
      have hc := h1 c (by simp)
      have hd := h2 d (by simp)
      have e1 : wd_no u' = wd_no v' := by omega
      have e2 : c = d := by omega
      have hl : u'.length = n := by simpa using hu
      rw [ih u' v' hl (fun x hx => h1 x (by simp [hx])) (fun x hx => h2 x (by simp [hx])) e1, e2]
theorem wd_no_lt {w : List Nat} (h : wd_w w) : wd_no w < 121 := by
  obtain ⟨h1, h2⟩ := h
  rcases w with _ | ⟨a, _ | ⟨b, _ | ⟨c, _ | ⟨d, _ | ⟨e, w⟩⟩⟩⟩⟩
  · decide
  · have := h2 a (by simp)
    simp only [wd_no, List.foldl]; omega
  · have := h2 a (by simp)
    have := h2 b (by simp)
    simp only [wd_no, List.foldl]; omega
  · have := h2 a (by simp)
    have := h2 b (by simp)
    have := h2 c (by simp)
    simp only [wd_no, List.foldl]; omega
  · have := h2 a (by simp)
    have := h2 b (by simp)
    have := h2 c (by simp)
    have := h2 d (by simp)
    simp only [wd_no, List.foldl]; omega
  · simp at h1
theorem wd_w_take {w : List Nat} (h : wd_w w) (j : Nat) : wd_w (w.take j) := ⟨by rw [List.length_take]; have := h.1; omega, fun c hc => h.2 c (List.mem_of_mem_take hc)⟩
theorem wd_last {w : List Nat} {j : Nat} (hj : j < w.length) : wd_no (w.take (j + 1)) = 3 * wd_no (w.take j) + 1 + (w[j] - 97) := by
  rw [List.take_succ_eq_append_getElem hj, wd_no_snoc]
theorem wd_at {w : List Nat} (h : wd_w w) {j : Nat} (hj : j < w.length) : 97 ≤ w[j] ∧ w[j] ≤ 99 := h.2 _ (List.getElem_mem hj)
theorem wd_pos {w : List Nat} (h : w ≠ []) : 0 < wd_no w := by
  rcases List.eq_nil_or_concat w with rfl | ⟨v, d, rfl⟩
  · exact absurd rfl h
  · rw [List.concat_eq_append, wd_no_snoc]; omega
def aw_l : List Nat := [97, 97, 97, 97, 98, 97, 97, 97, 99, 97, 97, 98, 98, 97, 97, 98, 99, 97, 97, 99, 98, 97, 97, 99, 99, 97, 98, 97, 98, 97, 99, 97, 98, 98, 98, 97, 98, 98, 99, 97, 98, 99, 98, 97, 98, 99, 99, 97, 99, 97, 99, 98, 98, 97, 99, 98, 99, 97, 99, 99, 98, 97, 99, 99, 99, 98, 98, 98, 98, 99, 98, 98, 99, 99, 98, 99, 98, 99, 99, 99, 99, 97, 97, 97]
def aw_ (j : Nat) : Nat := aw_l.getD j 97
theorem aw_in (j : Nat) : 97 ≤ aw_ j ∧ aw_ j ≤ 99 := by
  unfold aw_
  rw [List.getD_eq_getElem?_getD]
  cases h : aw_l[j]? with
  | none => exact ⟨by decide, by decide⟩
  | some x => exact (by decide : ∀ x ∈ aw_l, 97 ≤ x ∧ x ≤ 99) x (List.mem_of_getElem? h)
theorem aw_w {b l : Nat} (hl : l ≤ 4) : wd_w (dm_cut aw_ b l) := by
  refine ⟨by rw [dm_cut_len]; exact hl, fun c hc => ?_⟩
  obtain ⟨j, -, rfl⟩ := List.mem_map.mp hc
  exact aw_in _
theorem dm_cut_s (t : Nat → Nat) (b r : Nat) : dm_cut t b (r + 1) = dm_cut t b r ++ [t (b + r)] := by rw [dm_cut_add, dm_cut_1]
theorem aw_no (b r : Nat) : 3 * wd_no (dm_cut aw_ b r) + 1 + aw_ (b + (r + 1) - 1) - 97 = wd_no (dm_cut aw_ b (r + 1)) := by
  rw [dm_cut_s, wd_no_snoc, show b + (r + 1) - 1 = b + r by omega]
  have := aw_in (b + r)
  omega
def wd_wit : List (Nat × Nat) := [(0, 0), (0, 1), (4, 1), (8, 1), (0, 2), (3, 2), (7, 2), (4, 2), (11, 2), (15, 2), (8, 2), (19, 2), (23, 2), (0, 3), (2, 3), (6, 3), (3, 3), (10, 3), (14, 3), (7, 3), (18, 3), (22, 3), (4, 3), (26, 3), (28, 3), (11, 3), (32, 3), (36, 3), (15, 3), (40, 3), (44, 3), (8, 3), (24, 3), (46, 3), (19, 3), (50, 3), (54, 3), (23, 3), (58, 3), (62, 3), (0, 4), (1, 4), (5, 4), (2, 4), (9, 4), (13, 4), (6, 4), (17, 4), (21, 4), (3, 4), (25, 4), (27, 4), (10, 4), (31, 4), (35, 4), (14, 4), (39, 4), (43, 4), (7, 4), (29, 4), (47, 4), (18, 4), (49, 4), (53, 4), (22, 4), (57, 4), (61, 4), (4, 4), (12, 4), (20, 4), (26, 4), (34, 4), (42, 4), (28, 4), (52, 4), (60, 4), (11, 4), (33, 4), (51, 4), (32, 4), (65, 4), (66, 4), (36, 4), (67, 4), (70, 4), (15, 4), (37, 4), (55, 4), (40, 4), (68, 4), (74, 4), (44, 4), (71, 4), (76, 4), (80, 4), (8, 4), (16, 4), (24, 4), (30, 4), (38, 4), (46, 4), (48, 4), (56, 4), (19, 4), (41, 4), (59, 4), (50, 4), (64, 4), (69, 4), (54, 4), (73, 4), (75, 4), (79, 4), (23, 4), (45, 4), (58, 4), (63, 4), (72, 4), (78, 4), (62, 4), (77, 4)]
theorem wd_wit_ok : ∀ k, k < 121 → wd_no (dm_cut aw_ (wd_wit.getD k (0, 0)).1 (wd_wit.getD k (0, 0)).2) = k ∧ (wd_wit.getD k (0, 0)).1 ≤ 84 ∧ (wd_wit.getD k (0, 0)).2 ≤ min 4 (84 - (wd_wit.getD k (0, 0)).1) := by decide +kernel
theorem wd_cover {w : List Nat} (h : wd_w w) : ∃ b l, b ≤ 84 ∧ l ≤ min 4 (84 - b) ∧ dm_cut aw_ b l = w := by
  have hk := wd_wit_ok (wd_no w) (wd_no_lt h)
  refine ⟨_, _, hk.2.1, hk.2.2, ?_⟩
  exact wd_inj _ _ _ rfl (aw_w (by omega)).2 h.2 hk.1
/-- the truth values of the words of row value x at place b, for the lengths up to r -/
def wd_put (x : Int32) (b : Nat) (f : Nat → Bool) : Nat → (Nat → Bool)
  | 0 => va_up f 0 (bt x 0)
  | r + 1 => va_up (wd_put x b f r) (wd_no (dm_cut aw_ b (r + 1))) (bt x (r + 1))
theorem wd_put_keep {x : Int32} {b : Nat} {f : Nat → Bool} {A : dm_L} {w : List Nat} (hw : wd_w w) (hf : f (wd_no w) = true ↔ A w) : ∀ r, r ≤ 4 → (∀ k, k ≤ r → (bt x k = true ↔ A (dm_cut aw_ b k))) → (wd_put x b f r (wd_no w) = true ↔ A w)
  | 0, _, hx => by
    show va_up f 0 (bt x 0) (wd_no w) = true ↔ A w
    by_cases e : wd_no w = 0
    · have : w = [] := by
        rcases w with _ | ⟨c, w⟩
        · rfl
        · have := wd_pos (w := c :: w) (by simp); omega
      subst this
      rw [e, va_up_eq']
      exact hx 0 (by omega)
    · rw [va_up_ne' e]; exact hf
  | r + 1, hr, hx => by
    show va_up (wd_put x b f r) (wd_no (dm_cut aw_ b (r + 1))) (bt x (r + 1)) (wd_no w) = true ↔ A w
    by_cases e : wd_no w = wd_no (dm_cut aw_ b (r + 1))
    · have e2 : w = dm_cut aw_ b (r + 1) := wd_inj _ _ _ rfl hw.2 (aw_w hr).2 e
      rw [e, va_up_eq', e2]
      exact hx (r + 1) (by omega)
    · rw [va_up_ne' e]
      exact wd_put_keep hw hf r (by omega) (fun k hk => hx k (by omega))
theorem wd_put_new {x : Int32} {b : Nat} {f : Nat → Bool} {A : dm_L} : ∀ r, r ≤ 4 → (∀ k, k ≤ r → (bt x k = true ↔ A (dm_cut aw_ b k))) → ∀ k, k ≤ r → (wd_put x b f r (wd_no (dm_cut aw_ b k)) = true ↔ A (dm_cut aw_ b k))
  | 0, _, hx, k, hk => by
    have : k = 0 := by omega
    subst this
    show va_up f 0 (bt x 0) 0 = true ↔ _
    rw [va_up_eq']
    exact hx 0 (by omega)
  | r + 1, hr, hx, k, hk => by
    show va_up (wd_put x b f r) (wd_no (dm_cut aw_ b (r + 1))) (bt x (r + 1)) (wd_no (dm_cut aw_ b k)) = true ↔ _
    by_cases e : wd_no (dm_cut aw_ b k) = wd_no (dm_cut aw_ b (r + 1))
    · have e2 : dm_cut aw_ b k = dm_cut aw_ b (r + 1) := wd_inj _ _ _ rfl (aw_w (by omega)).2 (aw_w hr).2 e
      rw [e, va_up_eq', e2]
      exact hx (r + 1) (by omega)
    · rw [va_up_ne' e]
      have hk2 : k ≤ r := by
        rcases Nat.lt_or_ge k (r + 1) with z | z
        · omega
        · have : k = r + 1 := by omega
          subst this
          exact absurd rfl e
      exact wd_put_new r (by omega) (fun k hk => hx k (by omega)) k hk2
