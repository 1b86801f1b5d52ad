/-! worlds with a tail, rows of the stack, calls over such worlds -/
theorem kz_nd_of : ∀ {l : List Nat}, l.Nodup → va_nd l = true := by
  intro l
  induction l with
  | nil => intro _; rfl
  | cons a l ih =>
    intro h
    have h2 := List.nodup_cons.mp h
    simp [va_nd, ih h2.2, h2.1]
theorem kz_D_iff {A : Nat → Prop} {ws : va_W} : va_D A ws ↔ (ws.map (fun x => x.1)).Nodup ∧ ∀ x ∈ ws, A x.1 := by
  constructor
  · intro h
    refine ⟨?_, ?_⟩
    · rw [List.nodup_iff_pairwise_ne, List.pairwise_iff_getElem]
      intro i j hi hj hij e
      rw [List.getElem_map, List.getElem_map] at e
      have hi' : i < ws.length := by simpa using hi
      have hj' : j < ws.length := by simpa using hj
      have := h.1 i j _ _ (List.getElem?_eq_getElem hi') (List.getElem?_eq_getElem hj') e
      omega
    · intro x hx
      obtain ⟨k, hk⟩ := List.getElem?_of_mem hx
      exact h.2 k x hk
  · rintro ⟨h1, h2⟩
    refine ⟨?_, fun k x hk => h2 x (List.mem_of_getElem? hk)⟩
    intro i j x y hi hj e
    obtain ⟨hi', ei⟩ := List.getElem?_eq_some_iff.mp hi
    obtain ⟨hj', ej⟩ := List.getElem?_eq_some_iff.mp hj
    rw [List.nodup_iff_pairwise_ne, List.pairwise_iff_getElem] at h1
    rcases Nat.lt_trichotomy i j with q | q | q
    · exact absurd (by rw [List.getElem_map, List.getElem_map, ei, ej]; exact e) (h1 i j (by simpa using hi') (by simpa using hj') q)
    · exact q
    · exact absurd (by rw [List.getElem_map, List.getElem_map, ei, ej]; exact e.symm) (h1 j i (by simpa using hj') (by simpa using hi') q)
theorem kz_P_iff {D : va_G} {ws : va_W} {H : Heap} : va_P D kz_cl ws H ↔ ∀ x ∈ ws, va_at D kz_cl x H := by
  constructor
  · intro h x hx
    obtain ⟨k, hk⟩ := List.getElem?_of_mem hx
    exact h k x hk
  · intro h k x hk
    exact h x (List.mem_of_getElem? hk)
theorem kz_U.perm {D : va_G} {q : Nat → ClassId} {s : State} {A : Nat → Prop} {ws ws' : va_W} {H : Heap} {locs : List Loc} (U : kz_U D q s A ws H locs) (h : ws.Perm ws') : kz_U D q s A ws' H locs := by
  refine ⟨U.1, kz_P_iff.mpr fun x hx => kz_P_iff.mp U.2.1 x (h.mem_iff.mpr hx), kz_D_iff.mpr ⟨?_, fun x hx => (kz_D_iff.mp U.2.2.1).2 x (h.mem_iff.mpr hx)⟩, U.2.2.2⟩
  exact (h.map _).nodup_iff.mp (kz_D_iff.mp U.2.2.1).1
theorem kz_rg (X : va_W) : (List.range X.length).map (fun i => X[i]?) = X.map some := by
  apply List.ext_getElem
  · simp
  · intro i h1 h2
    have : i < X.length := by simpa using h1
    simp [this]
theorem kz_pm {X Y : va_W} (is : List Nat) (hp : is.Perm (List.range X.length)) (h : is.map (fun i => X[i]?) = Y.map some) : X.Perm Y := by
  have h1 : (is.map (fun i => X[i]?)).Perm ((List.range X.length).map (fun i => X[i]?)) := hp.map _
  rw [h, kz_rg] at h1
  have h2 := h1.filterMap id
  rw [List.filterMap_map, List.filterMap_map] at h2
  simpa using h2.symm
/-- callee's cells ahead, the rest and the tail behind -/
theorem kz_pmT {X wc wr tl : va_W} (is : List Nat) {n : Nat} (hp : is.Perm (List.range n)) (hn : X.length = n) (h : is.map (fun i => X[i]?) = (wc ++ wr).map some) : (X ++ tl).Perm (wc ++ (wr ++ tl)) := by
  subst hn
  rw [← List.append_assoc]
  exact (kz_pm is hp h).append_right _
/-- callee's cells and the tail ahead, the rest behind -/
theorem kz_pmP {X wc wr tl : va_W} (is : List Nat) {n : Nat} (hp : is.Perm (List.range n)) (hn : X.length = n) (h : is.map (fun i => X[i]?) = (wc ++ wr).map some) : (X ++ tl).Perm ((wc ++ tl) ++ wr) := by
  subst hn
  refine (kz_pmT is hp rfl h).trans ?_
  rw [List.append_assoc]
  exact List.perm_append_comm.append_left wc
/-- back in order -/
theorem kz_pmB {Y w1 wr tl : va_W} (is : List Nat) {n : Nat} (hp : is.Perm (List.range n)) (hn : (wr ++ w1).length = n) (h : is.map (fun i => (wr ++ w1)[i]?) = Y.map some) : ((wr ++ tl) ++ w1).Perm (Y ++ tl) := by
  subst hn
  have h1 : ((wr ++ tl) ++ w1).Perm ((wr ++ w1) ++ tl) := by
    rw [List.append_assoc, List.append_assoc]
    exact List.perm_append_comm.append_left wr
  exact h1.trans ((kz_pm is hp h).append_right _)
theorem kz_pmC {Y w1 wr tl : va_W} (is : List Nat) {n : Nat} (hp : is.Perm (List.range n)) (hn : (wr ++ w1).length = n) (h : is.map (fun i => (wr ++ w1)[i]?) = Y.map some) : (wr ++ (w1 ++ tl)).Perm (Y ++ tl) := by
  subst hn
  rw [← List.append_assoc]
  exact (kz_pm is hp h).append_right _
abbrev kz_st (q : Nat → ClassId) (r : Nat → Nat) (F : Nat → Nat → Int32) (is : List Nat) : va_W := is.map (fun i => (r i, .inl (q 0, 85, .inl (F i))))
theorem kz_tk1 {D : va_G} {q : Nat → ClassId} {s : State} {A : Nat → Prop} {X : va_W} {H : Heap} {locs : List Loc} {r : Nat → Nat} {F : Nat → Nat → Int32} {is : List Nat} {h : Nat} (U : kz_U D q s A (X ++ kz_st q r F is) H locs) (hm : h ∈ is) : kz_U D q s A ((X ++ [(r h, .inl (q 0, 85, .inl (F h)))]) ++ kz_st q r F (is.erase h)) H locs := by
  refine U.perm ?_
  rw [List.append_assoc]
  exact (((List.perm_cons_erase hm).map _).append_left X)
theorem kz_st_congr {q : Nat → ClassId} {r : Nat → Nat} {F G : Nat → Nat → Int32} {is : List Nat} (h : ∀ i ∈ is, F i = G i) : kz_st q r F is = kz_st q r G is := List.map_congr_left fun i hi => by rw [h i hi]
theorem kz_bk1 {D : va_G} {q : Nat → ClassId} {s : State} {A : Nat → Prop} {X : va_W} {H : Heap} {locs : List Loc} {r : Nat → Nat} {F : Nat → Nat → Int32} {is : List Nat} {h : Nat} {g : Nat → Int32} (U : kz_U D q s A ((X ++ [(r h, .inl (q 0, 85, .inl g))]) ++ kz_st q r F (is.erase h)) H locs) (hm : h ∈ is) (hnd : is.Nodup) : kz_U D q s A (X ++ kz_st q r (va_up F h g) is) H locs := by
  refine U.perm ?_
  rw [List.append_assoc]
  have e : kz_st q r F (is.erase h) = kz_st q r (va_up F h g) (is.erase h) := kz_st_congr fun i hi => by
    have : i ≠ h := ((hnd.mem_erase_iff).mp hi).1
    simp [va_up, this]
  rw [e]
  have h2 := ((List.perm_cons_erase hm).map (fun i => ((r i, .inl (q 0, 85, .inl (va_up F h g i))) : Nat × va_E))).symm.append_left X
  rw [List.map_cons] at h2
  have e3 : va_up F h g h = g := if_pos rfl
  rw [e3] at h2
  exact h2
