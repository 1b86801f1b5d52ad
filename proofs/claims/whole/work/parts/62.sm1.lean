/-! one reading of a pattern: languages that agree on the words over the characters of a pattern; programs that grow by a step; the nodes' languages -/
def dm_sg (w : List Nat) : Prop := ∀ c ∈ w, 32 ≤ c ∧ c < 127
def dm_sm (A B : dm_L) : Prop := ∀ w, dm_sg w → (A w ↔ B w)

theorem dm_sm_refl (A : dm_L) : dm_sm A A := fun _ _ => Iff.rfl
theorem dm_sm.trans {A B C : dm_L} (h : dm_sm A B) (k : dm_sm B C) : dm_sm A C := fun w hw => (h w hw).trans (k w hw)

theorem dm_sg_l {u v : List Nat} (h : dm_sg (u ++ v)) : dm_sg u := fun c hc => h c (List.mem_append_left _ hc)
theorem dm_sg_r {u v : List Nat} (h : dm_sg (u ++ v)) : dm_sg v := fun c hc => h c (List.mem_append_right _ hc)

theorem dm_sm_cat {A A' B B' : dm_L} (h : dm_sm A A') (k : dm_sm B B') : dm_sm (dm_cat A B) (dm_cat A' B') := by
  intro w hw
  constructor
  · rintro ⟨u, v, rfl, hu, hv⟩
    exact ⟨u, v, rfl, (h u (dm_sg_l hw)).mp hu, (k v (dm_sg_r hw)).mp hv⟩
  · rintro ⟨u, v, rfl, hu, hv⟩
    exact ⟨u, v, rfl, (h u (dm_sg_l hw)).mpr hu, (k v (dm_sg_r hw)).mpr hv⟩

theorem dm_sm_or {A A' B B' : dm_L} (h : dm_sm A A') (k : dm_sm B B') : dm_sm (dm_or A B) (dm_or A' B') := fun w hw => or_congr (h w hw) (k w hw)

theorem dm_sm_and {A A' B B' : dm_L} (h : dm_sm A A') (k : dm_sm B B') : dm_sm (dm_and A B) (dm_and A' B') := fun w hw => and_congr (h w hw) (k w hw)

theorem dm_sm_not {A A' : dm_L} (h : dm_sm A A') : dm_sm (dm_not A) (dm_not A') := fun w hw => not_congr (h w hw)

theorem dm_sm_pow {A A' : dm_L} (h : dm_sm A A') : ∀ n, dm_sm (dm_pow A n) (dm_pow A' n)
  | 0 => dm_sm_refl _
  | n + 1 => dm_sm_cat (dm_sm_pow h n) h

theorem dm_sm_rep {A A' : dm_L} (h : dm_sm A A') (lo hi : Nat) : dm_sm (dm_rep A lo hi) (dm_rep A' lo hi) := by
  intro w hw
  constructor
  · rintro ⟨n, h1, h2, h3⟩; exact ⟨n, h1, h2, (dm_sm_pow h n w hw).mp h3⟩
  · rintro ⟨n, h1, h2, h3⟩; exact ⟨n, h1, h2, (dm_sm_pow h n w hw).mpr h3⟩

theorem dm_rep_opt (A : dm_L) : dm_rep A 0 2 = dm_or A dm_eps := by
  apply dm_ext
  intro w
  constructor
  · rintro ⟨n, -, h2, h3⟩
    have hn : n = 0 ∨ n = 1 := by omega
    rcases hn with rfl | rfl
    · exact Or.inr h3
    · rw [dm_pow_1] at h3; exact Or.inl h3
  · rintro (h | h)
    · exact ⟨1, by omega, Or.inr (by omega), by rw [dm_pow_1]; exact h⟩
    · exact ⟨0, by omega, Or.inr (by omega), h⟩

def sm_eq : List dm_L → List dm_L → Prop
  | [], [] => True
  | A :: s, B :: t => dm_sm A B ∧ sm_eq s t
  | [], _ :: _ => False
  | _ :: _, [] => False

theorem sm_eq_cons {s : List dm_L} {B : dm_L} {t : List dm_L} (h : sm_eq s (B :: t)) : ∃ A s', s = A :: s' ∧ dm_sm A B ∧ sm_eq s' t := by
  cases s with
  | nil => exact h.elim
  | cons A s' => exact ⟨A, s', rfl, h.1, h.2⟩

theorem sm_eq_nil {s : List dm_L} (h : sm_eq s []) : s = [] := by
  cases s with
  | nil => rfl
  | cons A s' => exact h.elim

def dm_pre (b : Nat) : List (Nat × Nat × Nat) → Nat → Nat → Prop
  | [], h, h' => h = h'
  | i :: P, h, h' => dm_fine i ∧ kn_tk i.1 ≤ h ∧ h < b ∧ dm_pre b P (dm_h i.1 h) h'

theorem dm_pre_snoc {b : Nat} {i : Nat × Nat × Nat} : ∀ {P : List (Nat × Nat × Nat)} {h h1 : Nat}, dm_pre b P h h1 → dm_fine i → kn_tk i.1 ≤ h1 → h1 < b → dm_pre b (P ++ [i]) h (dm_h i.1 h1)
  | [], h, h1, e, h2, h3, h4 => by cases e; exact ⟨h2, h3, h4, rfl⟩
  | j :: P, h, h1, e, h2, h3, h4 => ⟨e.1, e.2.1, e.2.2.1, dm_pre_snoc e.2.2.2 h2 h3 h4⟩

theorem dm_pre_mono {b b' : Nat} (hb : b ≤ b') : ∀ {P : List (Nat × Nat × Nat)} {h h1 : Nat}, dm_pre b P h h1 → dm_pre b' P h h1
  | [], _, _, e => e
  | _ :: _, _, _, e => ⟨e.1, e.2.1, Nat.lt_of_lt_of_le e.2.2.1 hb, dm_pre_mono hb e.2.2.2⟩

theorem dm_pre_ok {b : Nat} (hb : b ≤ 41) : ∀ {P : List (Nat × Nat × Nat)} {h : Nat}, dm_pre b P h 1 → dm_ok P h
  | [], _, e => e
  | _ :: _, _, e => ⟨e.1, e.2.1, Nat.lt_of_lt_of_le e.2.2.1 hb, dm_pre_ok hb e.2.2.2⟩
/-- the program P leaves a stack like t, and its stack never holds b values before a step -/
def sm_Q (b : Nat) (P : pg_P) (t : List dm_L) : Prop := sm_eq (dm_den P []) t ∧ dm_pre b P 0 t.length

theorem sm_Q.mono {b b' : Nat} {P : pg_P} {t : List dm_L} (h : sm_Q b P t) (hb : b ≤ b') : sm_Q b' P t := ⟨h.1, dm_pre_mono hb h.2⟩

theorem pg_add_lt {P : pg_P} {i : Nat × Nat × Nat} (h : P.length < 81) : pg_add P i = P ++ [i] := if_pos h

theorem pg_add_len {P : pg_P} {i : Nat × Nat × Nat} (h : P.length < 81) : (pg_add P i).length = P.length + 1 := by rw [pg_add_lt h, List.length_append]; rfl

theorem dm_den_snoc (P : pg_P) (i : Nat × Nat × Nat) (st : List dm_L) : dm_den (P ++ [i]) st = dm_st1 i (dm_den P st) := by
  unfold dm_den
  rw [List.foldl_append]
  rfl

theorem sm_Q.push {b : Nat} {P : pg_P} {t : List dm_L} (h : sm_Q b P t) (hP : P.length < 81) (ht : t.length < b) {i : Nat × Nat × Nat} {A B : dm_L} (hf : dm_fine i) (hi : i.1 ≤ 1) (hA : ∀ st, dm_st1 i st = A :: st) (hAB : dm_sm A B) : sm_Q b (pg_add P i) (B :: t) := by
  rw [pg_add_lt hP]
  refine ⟨?_, ?_⟩
  · rw [dm_den_snoc, hA]
    exact ⟨hAB, h.1⟩
  · have z := dm_pre_snoc h.2 hf (by unfold kn_tk; rw [if_pos hi]; exact Nat.zero_le _) ht
    rw [show dm_h i.1 t.length = (B :: t).length by unfold dm_h; rw [if_pos hi]; rfl] at z
    exact z

theorem sm_Q.eps {b : Nat} {P : pg_P} {t : List dm_L} (h : sm_Q b P t) (hP : P.length < 81) (ht : t.length < b) : sm_Q b (pg_add P (0, 0, 1)) (dm_eps :: t) := h.push hP ht ⟨by decide, by decide, by decide, (fun z => absurd z (by decide)), (fun z => absurd z (by decide))⟩ (by decide) (fun _ => rfl) (dm_sm_refl _)

theorem sm_Q.rng {b : Nat} {P : pg_P} {t : List dm_L} (h : sm_Q b P t) (hP : P.length < 81) (ht : t.length < b) {x y : Nat} (hx : x < 65536) (hy : y < 65536) {B : dm_L} (hB : dm_sm (dm_rng x y) B) : sm_Q b (pg_add P (1, x, y + 1)) (B :: t) := h.push (A := dm_rng x y) hP ht ⟨(by show 1 ≤ 6; decide), hx, hy, (fun z => absurd (show (1 : Nat) = 6 from z) (by decide)), (fun _ => Nat.succ_pos _)⟩ (by show 1 ≤ 1; decide) (fun _ => rfl) hB

theorem sm_Q.bin {b : Nat} {P : pg_P} {t : List dm_L} {x y : dm_L} (h : sm_Q b P (y :: x :: t)) (hP : P.length < 81) (ht : t.length + 2 < b) {k : Nat} {f : dm_L → dm_L → dm_L} (hk : 2 ≤ k ∧ k ≤ 4) (hA : ∀ x y st, dm_st1 (k, 0, 1) (y :: x :: st) = f x y :: st) (hf : ∀ x x' y y', dm_sm x x' → dm_sm y y' → dm_sm (f x y) (f x' y')) : sm_Q b (pg_add P (k, 0, 1)) (f x y :: t) := by
  rw [pg_add_lt hP]
  refine ⟨?_, ?_⟩
  · obtain ⟨Y, s1, e1, q1, h1⟩ := sm_eq_cons h.1
    obtain ⟨X, s2, e2, q2, h2⟩ := sm_eq_cons h1
    rw [dm_den_snoc, e1, e2, hA]
    exact ⟨hf _ _ _ _ q2 q1, h2⟩
  · have z := dm_pre_snoc (i := (k, 0, 1)) h.2 ⟨(by show k ≤ 6; omega), (by show 0 < 65536; decide), (by show 1 ≤ 65536; decide), (fun z => by have z : k = 6 := z; omega), (fun z => by have z : k = 1 := z; omega)⟩ (by show kn_tk k ≤ t.length + 2; unfold kn_tk; rw [if_neg (by omega), if_neg (by omega)]; omega) ht
    rw [show dm_h (k, 0, 1).1 (y :: x :: t).length = (f x y :: t).length by show dm_h k (t.length + 2) = t.length + 1; unfold dm_h; rw [if_neg (by omega), if_pos (by omega)]; rfl] at z
    exact z

theorem sm_Q.cat {b : Nat} {P : pg_P} {t : List dm_L} {x y : dm_L} (h : sm_Q b P (y :: x :: t)) (hP : P.length < 81) (ht : t.length + 2 < b) : sm_Q b (pg_add P (2, 0, 1)) (dm_cat x y :: t) := h.bin hP ht (f := dm_cat) ⟨by decide, by decide⟩ (fun _ _ _ => rfl) (fun _ _ _ _ => dm_sm_cat)

theorem sm_Q.or {b : Nat} {P : pg_P} {t : List dm_L} {x y : dm_L} (h : sm_Q b P (y :: x :: t)) (hP : P.length < 81) (ht : t.length + 2 < b) : sm_Q b (pg_add P (3, 0, 1)) (dm_or x y :: t) := h.bin hP ht (f := dm_or) ⟨by decide, by decide⟩ (fun _ _ _ => rfl) (fun _ _ _ _ => dm_sm_or)

theorem sm_Q.and {b : Nat} {P : pg_P} {t : List dm_L} {x y : dm_L} (h : sm_Q b P (y :: x :: t)) (hP : P.length < 81) (ht : t.length + 2 < b) : sm_Q b (pg_add P (4, 0, 1)) (dm_and x y :: t) := h.bin hP ht (f := dm_and) ⟨by decide, by decide⟩ (fun _ _ _ => rfl) (fun _ _ _ _ => dm_sm_and)

theorem sm_Q.un {b : Nat} {P : pg_P} {t : List dm_L} {y : dm_L} (h : sm_Q b P (y :: t)) (hP : P.length < 81) (ht : t.length + 1 < b) {i : Nat × Nat × Nat} {f : dm_L → dm_L} (hk : i.1 = 5 ∨ i.1 = 6) (hfi : dm_fine i) (hA : ∀ y st, dm_st1 i (y :: st) = f y :: st) (hf : ∀ y y', dm_sm y y' → dm_sm (f y) (f y')) : sm_Q b (pg_add P i) (f y :: t) := by
  rw [pg_add_lt hP]
  refine ⟨?_, ?_⟩
  · obtain ⟨Y, s1, e1, q1, h1⟩ := sm_eq_cons h.1
    rw [dm_den_snoc, e1, hA]
    exact ⟨hf _ _ q1, h1⟩
  · have z := dm_pre_snoc (i := i) h.2 hfi (by show kn_tk i.1 ≤ t.length + 1; unfold kn_tk; rw [if_neg (by omega), if_pos hk]; omega) ht
    rw [show dm_h i.1 (y :: t).length = (f y :: t).length by show dm_h i.1 (t.length + 1) = t.length + 1; unfold dm_h; rw [if_neg (by omega), if_neg (by omega)]] at z
    exact z

theorem sm_Q.not {b : Nat} {P : pg_P} {t : List dm_L} {y : dm_L} (h : sm_Q b P (y :: t)) (hP : P.length < 81) (ht : t.length + 1 < b) : sm_Q b (pg_add P (5, 0, 1)) (dm_not y :: t) := h.un hP ht (f := dm_not) (Or.inl rfl) ⟨by decide, by decide, by decide, (fun z => absurd z (by decide)), (fun z => absurd z (by decide))⟩ (fun _ _ => rfl) (fun _ _ => dm_sm_not)

theorem sm_Q.rep {b : Nat} {P : pg_P} {t : List dm_L} {y : dm_L} (h : sm_Q b P (y :: t)) (hP : P.length < 81) (ht : t.length + 1 < b) {lo hi : Nat} (h1 : lo < 100) (h2 : hi < 100) (h3 : hi = 0 ∨ lo < hi) : sm_Q b (pg_add P (6, lo, hi)) (dm_rep y lo hi :: t) := h.un hP ht (f := fun A => dm_rep A lo hi) (Or.inr rfl) ⟨(by show 6 ≤ 6; decide), (by show lo < 65536; omega), (by show hi ≤ 65536; omega), (fun _ => ⟨h1, h2, h3⟩), (fun z => absurd (show (6 : Nat) = 1 from z) (by decide))⟩ (fun _ _ => rfl) (fun _ _ z => dm_sm_rep z lo hi)

def sm_nt (A : dm_L) : Nat → dm_L
  | 0 => A
  | k + 1 => dm_not (sm_nt A k)

theorem sm_Q.nots {b : Nat} {P : pg_P} {t : List dm_L} {y : dm_L} (h : sm_Q b P (y :: t)) (ht : t.length + 1 < b) : ∀ k, P.length + k ≤ 81 → sm_Q b (rd_nt k P) (sm_nt y k :: t) ∧ (rd_nt k P).length = P.length + k
  | 0, _ => ⟨h, rfl⟩
  | k + 1, hk => by
    obtain ⟨h1, h2⟩ := sm_Q.nots h ht k (by omega)
    refine ⟨h1.not (by omega) ht, ?_⟩
    show (pg_add _ _).length = _
    rw [pg_add_len (by omega), h2]
    omega
/-- a node of the reading as a node of the matching -/
def sm_n (x : md_N) : nd_N := (x.1, x.2.1, x.2.2.1, (x.2.2.2 0).toNatClampNeg, fun c => bt (x.2.2.2 ((c - 32) / 32)) ((c - 32) % 32))
def sm_G (NL : List md_N) (i : Nat) : dm_L := (nd_all (NL.map sm_n)).getD i dm_eps

theorem sm_G_app (NL L : List md_N) {i : Nat} (h : i < NL.length) : sm_G (NL ++ L) i = sm_G NL i := by
  have e := nd_all_len (NL.map sm_n)
  rw [List.length_map] at e
  unfold sm_G
  rw [List.map_append]
  unfold nd_all
  rw [nd_go_app]
  exact nd_go_pre _ _ i (by unfold nd_all at e; omega)

theorem sm_G_new (NL : List md_N) (x : md_N) : sm_G (NL ++ [x]) NL.length = nd_S (sm_n x) (sm_G NL) := by
  have e := nd_all_len (NL.map sm_n)
  rw [List.length_map] at e
  unfold sm_G
  rw [List.map_append, show List.map sm_n [x] = [sm_n x] from rfl, nd_all_snoc, List.getD_eq_getElem?_getD, List.getElem?_append_right (by omega), e, Nat.sub_self]
  rfl

def sm_row (NL : List md_N) (v : Nat) : dm_L := if v = 0 then dm_eps else sm_G NL (v - 1)
def sm_opt (NL : List md_N) (v : Nat) : List dm_L := if v = 0 then [] else [sm_G NL (v - 1)]
/-- what lies on the stack below level k -/
def sm_low (NL : List md_N) (un ii rw_ : Nat → Nat) : Nat → List dm_L
  | 0 => []
  | k + 1 => sm_row NL (rw_ k) :: (sm_opt NL (ii k) ++ (sm_opt NL (un k) ++ sm_low NL un ii rw_ k))

def sm_ext (NL NL' : List md_N) : Prop := ∃ L, NL' = NL ++ L
theorem sm_ext.refl (NL : List md_N) : sm_ext NL NL := ⟨[], (List.append_nil _).symm⟩
theorem sm_ext.one (NL : List md_N) (x : md_N) : sm_ext NL (NL ++ [x]) := ⟨[x], rfl⟩
theorem sm_ext.trans {A B C : List md_N} (h : sm_ext A B) (k : sm_ext B C) : sm_ext A C := by
  obtain ⟨L, rfl⟩ := h
  obtain ⟨M, rfl⟩ := k
  exact ⟨L ++ M, List.append_assoc _ _ _⟩
theorem sm_ext.len {A B : List md_N} (h : sm_ext A B) : A.length ≤ B.length := by
  obtain ⟨L, rfl⟩ := h
  rw [List.length_append]
  omega
theorem sm_ext.G {A B : List md_N} (h : sm_ext A B) {i : Nat} (hi : i < A.length) : sm_G B i = sm_G A i := by
  obtain ⟨L, rfl⟩ := h
  exact sm_G_app _ _ hi
theorem sm_ext.row {A B : List md_N} (h : sm_ext A B) {v : Nat} (hv : v ≤ A.length) : sm_row B v = sm_row A v := by
  unfold sm_row
  split
  · rfl
  · exact h.G (by omega)
theorem sm_ext.opt {A B : List md_N} (h : sm_ext A B) {v : Nat} (hv : v ≤ A.length) : sm_opt B v = sm_opt A v := by
  unfold sm_opt
  split
  · rfl
  · rw [h.G (by omega)]

theorem sm_opt_len (NL : List md_N) (v : Nat) : (sm_opt NL v).length = min v 1 := by
  unfold sm_opt
  split
  · next h => rw [h]; rfl
  · show 1 = _; omega

theorem sm_low_len3 (NL : List md_N) (un ii rw_ : Nat → Nat) : ∀ k, (sm_low NL un ii rw_ k).length ≤ 3 * k
  | 0 => Nat.le_refl _
  | k + 1 => by
    have := sm_low_len3 NL un ii rw_ k
    show (sm_row NL (rw_ k) :: (sm_opt NL (ii k) ++ (sm_opt NL (un k) ++ sm_low NL un ii rw_ k))).length ≤ _
    rw [List.length_cons, List.length_append, List.length_append, sm_opt_len, sm_opt_len]
    omega

theorem sm_low_s (NL : List md_N) (un ii rw_ : Nat → Nat) (k : Nat) : (sm_low NL un ii rw_ (k + 1)).length = 1 + min (ii k) 1 + min (un k) 1 + (sm_low NL un ii rw_ k).length := by
  show (sm_row NL (rw_ k) :: (sm_opt NL (ii k) ++ (sm_opt NL (un k) ++ sm_low NL un ii rw_ k))).length = _
  rw [List.length_cons, List.length_append, List.length_append, sm_opt_len, sm_opt_len]
  omega

theorem sm_low_congr {A B : List md_N} {un ii rw_ un' ii' rw' : Nat → Nat} : ∀ {k : Nat}, (∀ j, j < k → sm_row B (rw' j) = sm_row A (rw_ j) ∧ sm_opt B (ii' j) = sm_opt A (ii j) ∧ sm_opt B (un' j) = sm_opt A (un j)) → sm_low B un' ii' rw' k = sm_low A un ii rw_ k
  | 0, _ => rfl
  | k + 1, h => by
    have z := sm_low_congr (k := k) (fun j hj => h j (by omega))
    have y := h k (by omega)
    show sm_row B (rw' k) :: (sm_opt B (ii' k) ++ (sm_opt B (un' k) ++ sm_low B un' ii' rw' k)) = sm_row A (rw_ k) :: (sm_opt A (ii k) ++ (sm_opt A (un k) ++ sm_low A un ii rw_ k))
    rw [z, y.1, y.2.1, y.2.2]

theorem sm_ext.low {A B : List md_N} (h : sm_ext A B) {un ii rw_ un' ii' rw' : Nat → Nat} {k : Nat} (hb : ∀ j, j < k → un j ≤ A.length ∧ ii j ≤ A.length ∧ rw_ j ≤ A.length) (he : ∀ j, j < k → un' j = un j ∧ ii' j = ii j ∧ rw' j = rw_ j) : sm_low B un' ii' rw' k = sm_low A un ii rw_ k :=
  sm_low_congr (fun j hj => by
    have b := hb j hj
    have e := he j hj
    rw [e.1, e.2.1, e.2.2]
    exact ⟨h.row b.2.2, h.opt b.2.1, h.opt b.1⟩)
