def md_nt (NL : List md_N) (p : Nat) : Nat → List md_N × Nat
  | 0 => (NL, p)
  | c + 1 => ((md_nt NL p c).1 ++ [(5, (md_nt NL p c).2, 0, fun _ => 0)], (md_nt NL p c).1.length)
/-- joined to what stands there (its number and one more, 0: nothing), by a node of kind k -/
def md_j (k : Nat) (NL : List md_N) (v p : Nat) : List md_N × Nat := if v = 0 then (NL, p + 1) else (NL ++ [(k, v - 1, p, fun _ => 0)], NL.length + 1)
def md_cp (NL : List md_N) (rv nv pv : Nat) : List md_N × Nat := if pv = 0 then (NL, rv) else md_j 2 (md_nt NL (pv - 1) nv).1 rv (md_nt NL (pv - 1) nv).2
def md_er (s : List md_N × Nat) : List md_N × Nat := if s.2 = 0 then (s.1 ++ [(0, 0, 0, fun _ => 0)], s.1.length) else (s.1, s.2 - 1)
def md_cr (NL : List md_N) (iv rv nv pv : Nat) : List md_N × Nat := md_j 3 (md_er (md_cp NL rv nv pv)).1 iv (md_er (md_cp NL rv nv pv)).2
def md_ci (NL : List md_N) (uv iv rv nv pv : Nat) : List md_N × Nat := md_j 4 (md_cr NL iv rv nv pv).1 uv ((md_cr NL iv rv nv pv).2 - 1)
theorem md_nt_len (NL : List md_N) (p : Nat) : ∀ c, (md_nt NL p c).1.length = NL.length + c
  | 0 => rfl
  | c + 1 => by
    show ((md_nt NL p c).1 ++ [_]).length = _
    rw [List.length_append, md_nt_len NL p c]
    rfl
theorem md_nt_p {NL : List md_N} {p : Nat} (h : p < NL.length) : ∀ c, (md_nt NL p c).2 < NL.length + c
  | 0 => h
  | c + 1 => by
    show (md_nt NL p c).1.length < _
    rw [md_nt_len]
    omega
theorem md_j_len {k : Nat} {NL : List md_N} {v p : Nat} (hp : p < NL.length) : NL.length ≤ (md_j k NL v p).1.length ∧ (md_j k NL v p).1.length ≤ NL.length + 1 ∧ 0 < (md_j k NL v p).2 ∧ (md_j k NL v p).2 ≤ (md_j k NL v p).1.length := by
  unfold md_j
  split
  · dsimp only; omega
  · dsimp only; rw [List.length_append]; simp
theorem md_cp_len {NL : List md_N} {rv nv pv : Nat} (hr : rv ≤ NL.length) (hp : pv ≤ NL.length) : NL.length ≤ (md_cp NL rv nv pv).1.length ∧ (md_cp NL rv nv pv).1.length ≤ NL.length + nv + 1 ∧ (md_cp NL rv nv pv).2 ≤ (md_cp NL rv nv pv).1.length := by
  unfold md_cp
  split
  · dsimp only; omega
  · have h1 := md_nt_len NL (pv - 1) nv
    have h2 := md_nt_p (NL := NL) (p := pv - 1) (by omega) nv
    have h3 := md_j_len (k := 2) (NL := (md_nt NL (pv - 1) nv).1) (v := rv) (p := (md_nt NL (pv - 1) nv).2) (by omega)
    omega
theorem md_er_len {s : List md_N × Nat} (h : s.2 ≤ s.1.length) : s.1.length ≤ (md_er s).1.length ∧ (md_er s).1.length ≤ s.1.length + 1 ∧ (md_er s).2 < (md_er s).1.length := by
  unfold md_er
  split
  · dsimp only; rw [List.length_append]; simp
  · dsimp only; omega
theorem md_cr_len {NL : List md_N} {iv rv nv pv : Nat} (hr : rv ≤ NL.length) (hp : pv ≤ NL.length) : NL.length ≤ (md_cr NL iv rv nv pv).1.length ∧ (md_cr NL iv rv nv pv).1.length ≤ NL.length + nv + 3 ∧ 0 < (md_cr NL iv rv nv pv).2 ∧ (md_cr NL iv rv nv pv).2 ≤ (md_cr NL iv rv nv pv).1.length := by
  have h1 := md_cp_len (nv := nv) hr hp
  have h2 := md_er_len h1.2.2
  have h3 := md_j_len (k := 3) (v := iv) h2.2.2
  unfold md_cr
  omega
theorem va_up_id {α : Type} (f : Nat → α) (k : Nat) : va_up f k (f k) = f := by
  funext j
  unfold va_up
  split
  · next h => rw [h]
  · rfl

set_option maxHeartbeats 4000000 in
set_option maxRecDepth 100000 in
theorem cm_Mo_closePiece (l : Launch) (D : va_G) (q : Nat → ClassId) (ho mb mt mw mc mk m1 m2 ms mu mi mr mn mp mj me mh : Nat) (sz ln wn dp st_ im en : Nat) (lo_ : Int32) (ex ds : Bool) (ct kd on tw : Nat → Nat) (se : Nat → Int32) (NL : List md_N) (b_ : md_B) (un ii rw_ no pc_ : Nat → Nat) (hT : md_T NL b_ kd on tw se) (hdp : dp ≤ 41) (hcap : NL.length + no dp + 1 ≤ 128) (hrw : rw_ dp ≤ NL.length) (hpc : pc_ dp ≤ NL.length) : kz_Mv (S := (Nat → Nat) × (Nat → Nat) × (Nat → Nat) × (Nat → Int32)) l ky_Mo_closePiece kb_Mo_closePiece 3 1 D q [.ref ho] [(ho, .inr (6, [.ref mb, .int (nI sz), .ref mt, .int (nI ln), .ref mw, .int (nI wn), .ref mc, .ref mk, .ref m1, .ref m2, .ref ms, .int (nI dp), .ref mu, .ref mi, .ref mr, .ref mn, .ref mp, .int (nI st_), .int lo_, .int (nI im), .int (nB ex), .ref mj, .int (nI en), .ref me, .ref mh, .int (nB ds)])), (mc, .inl (q 0, 3, .inl (fun x_ => nI ((va_up ct 2 NL.length) x_)))), (mk, .inl (q 0, 384, .inl (fun x_ => nI (kd x_)))), (m1, .inl (q 0, 384, .inl (fun x_ => nI (on x_)))), (m2, .inl (q 0, 384, .inl (fun x_ => nI (tw x_)))), (ms, .inl (q 0, 1152, .inl se)), (mr, .inl (q 0, 42, .inl (fun x_ => nI (rw_ x_) + (-1)))), (mn, .inl (q 0, 42, .inl (fun x_ => nI (no x_)))), (mp, .inl (q 0, 42, .inl (fun x_ => nI (pc_ x_) + (-1))))] (fun u => md_T (md_cp NL (rw_ dp) (no dp) (pc_ dp)).1 b_ u.1 u.2.1 u.2.2.1 u.2.2.2) (fun u => [(ho, .inr (6, [.ref mb, .int (nI sz), .ref mt, .int (nI ln), .ref mw, .int (nI wn), .ref mc, .ref mk, .ref m1, .ref m2, .ref ms, .int (nI dp), .ref mu, .ref mi, .ref mr, .ref mn, .ref mp, .int (nI st_), .int lo_, .int (nI im), .int (nB ex), .ref mj, .int (nI en), .ref me, .ref mh, .int (nB ds)])), (mc, .inl (q 0, 3, .inl (fun x_ => nI ((va_up ct 2 ((md_cp NL (rw_ dp) (no dp) (pc_ dp)).1.length)) x_)))), (mk, .inl (q 0, 384, .inl (fun x_ => nI (u.1 x_)))), (m1, .inl (q 0, 384, .inl (fun x_ => nI (u.2.1 x_)))), (m2, .inl (q 0, 384, .inl (fun x_ => nI (u.2.2.1 x_)))), (ms, .inl (q 0, 1152, .inl u.2.2.2)), (mr, .inl (q 0, 42, .inl (fun x_ => nI ((va_up rw_ dp (md_cp NL (rw_ dp) (no dp) (pc_ dp)).2) x_) + (-1)))), (mn, .inl (q 0, 42, .inl (fun x_ => nI ((va_up no dp (if pc_ dp = 0 then no dp else 0)) x_)))), (mp, .inl (q 0, 42, .inl (fun x_ => nI ((va_up pc_ dp 0) x_) + (-1))))]) := by
  intro sz_
  refine kz_go (by decide +kernel) (Nat.le_of_ble_eq_true rfl) ?_
  intro p e s m below meth c ls args A Q H locs hQ hA X U hl
  have hx := X.1
  have hb := X.2.1
  have hl : lv_has ls 3 [(0, .ref ho)] := hl
  refine lv_aload_n hx hb kd_Mo_closePiece_0 rfl (lv_at hl 0 rfl) ?_
  refine kg_Mo_46 X U 0 rfl rfl kd_Mo_closePiece_1 ?_
  refine lv_aload_n hx hb kd_Mo_closePiece_4 rfl (lv_at hl 0 rfl) ?_
  refine kg_Mo_62 X U 0 rfl rfl kd_Mo_closePiece_5 ?_
  refine kz_iald (k := dp) X U 8 rfl (by omega) (by omega) kd_Mo_closePiece_8 ?_
  refine kz_top (y := nI (pc_ dp) + (-1)) rfl ?_
  refine lv_istore_n hx hb kd_Mo_closePiece_9 rfl hl (by decide) rfl (fun ls hl => ?_)
  have hl : lv_has ls 3 [(1, .int (nI (pc_ dp) + (-1))), (0, .ref ho)] := hl
  refine lv_iload_n hx hb kd_Mo_closePiece_10 rfl (lv_at hl 0 rfl) ?_
  refine kz_mge X (by omega) kd_Mo_closePiece_11 rfl (fun h11 => ?_) (fun h11 => ?_)
  · rw [sb_m1 h11] at hl
    have hl : lv_has ls 3 [(1, .int (nI (pc_ dp - 1))), (0, .ref ho)] := hl
    refine kz_ic X 0 kd_Mo_closePiece_15 (by decide) ?_
    refine lv_istore_n hx hb kd_Mo_closePiece_16 rfl hl (by decide) rfl (fun ls hl => ?_)
    have hl : lv_has ls 3 [(2, .int (nI 0)), (1, .int (nI (pc_ dp - 1))), (0, .ref ho)] := hl
    have loop17 : ∀ (fuel : Nat) (c_ : Nat) (k2 : Nat → Nat) (o2 : Nat → Nat) (t2 : Nat → Nat) (z2 : Nat → Int32) (ls : Array Slot) (H : Heap) (locs : List Loc), no dp + 1 - c_ < fuel → (c_ ≤ no dp) → (md_T (md_nt NL (pc_ dp - 1) c_).1 b_ k2 o2 t2 z2) → lv_has ls 3 [(2, .int (nI c_)), (1, .int (nI ((md_nt NL (pc_ dp - 1) c_).2))), (0, .ref ho)] → kz_U D q s A [(ho, .inr (6, [.ref mb, .int (nI sz), .ref mt, .int (nI ln), .ref mw, .int (nI wn), .ref mc, .ref mk, .ref m1, .ref m2, .ref ms, .int (nI dp), .ref mu, .ref mi, .ref mr, .ref mn, .ref mp, .int (nI st_), .int lo_, .int (nI im), .int (nB ex), .ref mj, .int (nI en), .ref me, .ref mh, .int (nB ds)])), (mc, .inl (q 0, 3, .inl (fun x_ => nI ((va_up ct 2 ((md_nt NL (pc_ dp - 1) c_).1.length)) x_)))), (mk, .inl (q 0, 384, .inl (fun x_ => nI (k2 x_)))), (m1, .inl (q 0, 384, .inl (fun x_ => nI (o2 x_)))), (m2, .inl (q 0, 384, .inl (fun x_ => nI (t2 x_)))), (ms, .inl (q 0, 1152, .inl z2)), (mr, .inl (q 0, 42, .inl (fun x_ => nI (rw_ x_) + (-1)))), (mn, .inl (q 0, 42, .inl (fun x_ => nI (no x_)))), (mp, .inl (q 0, 42, .inl (fun x_ => nI (pc_ x_) + (-1))))] H locs → W p l e (kz_rm 1) s m args below meth c H locs 0 0 Q (F0 m 17 ls []) := by
      intro fuel
      induction fuel with
      | zero => intro c_ k2 o2 t2 z2 ls H locs hme; exact absurd hme (Nat.not_lt_zero _)
      | succ fuel ih17 =>
        intro c_ k2 o2 t2 z2 ls H locs hme hc hT2 hl U
        refine lv_iload_n hx hb kd_Mo_closePiece_17 rfl (lv_at hl 0 rfl) ?_
        refine lv_aload_n hx hb kd_Mo_closePiece_18 rfl (lv_at hl 2 rfl) ?_
        refine kg_Mo_43 X U 0 rfl rfl kd_Mo_closePiece_19 ?_
        refine lv_aload_n hx hb kd_Mo_closePiece_22 rfl (lv_at hl 2 rfl) ?_
        refine kg_Mo_62 X U 0 rfl rfl kd_Mo_closePiece_23 ?_
        refine kz_iald (k := dp) X U 7 rfl (by omega) (by omega) kd_Mo_closePiece_26 ?_
        refine kz_top (y := nI (no dp)) rfl ?_
        refine kz_icge X (by omega) (by omega) kd_Mo_closePiece_27 rfl (fun h27 => ?_) (fun h27 => ?_)
        · obtain rfl : no dp = c_ := by omega
          have hlen_ := md_nt_len NL (pc_ dp - 1) (no dp)
          have hpl_ := md_nt_p (NL := NL) (p := pc_ dp - 1) (by omega) (no dp)
          refine lv_aload_n hx hb kd_Mo_closePiece_44 rfl (lv_at hl 2 rfl) ?_
          refine kg_Mo_40 X U 0 rfl rfl kd_Mo_closePiece_45 ?_
          refine lv_aload_n hx hb kd_Mo_closePiece_48 rfl (lv_at hl 2 rfl) ?_
          refine kg_Mo_62 X U 0 rfl rfl kd_Mo_closePiece_49 ?_
          refine lv_aload_n hx hb kd_Mo_closePiece_52 rfl (lv_at hl 2 rfl) ?_
          refine kg_Mo_40 X U 0 rfl rfl kd_Mo_closePiece_53 ?_
          refine lv_aload_n hx hb kd_Mo_closePiece_56 rfl (lv_at hl 2 rfl) ?_
          refine kg_Mo_62 X U 0 rfl rfl kd_Mo_closePiece_57 ?_
          refine kz_iald (k := dp) X U 6 rfl (by omega) (by omega) kd_Mo_closePiece_60 ?_
          refine kz_top (y := nI (rw_ dp) + (-1)) rfl ?_
          refine kz_mge X (by omega) kd_Mo_closePiece_61 rfl (fun h61 => ?_) (fun h61 => ?_)
          · refine lv_aload_n hx hb kd_Mo_closePiece_68 rfl (lv_at hl 2 rfl) ?_
            refine kz_ic X 2 kd_Mo_closePiece_69 (by decide) ?_
            refine lv_aload_n hx hb kd_Mo_closePiece_70 rfl (lv_at hl 2 rfl) ?_
            refine kg_Mo_40 X U 0 rfl rfl kd_Mo_closePiece_71 ?_
            refine lv_aload_n hx hb kd_Mo_closePiece_74 rfl (lv_at hl 2 rfl) ?_
            refine kg_Mo_62 X U 0 rfl rfl kd_Mo_closePiece_75 ?_
            refine kz_iald (k := dp) X U 6 rfl (by omega) (by omega) kd_Mo_closePiece_78 ?_
            refine kz_top (y := nI (rw_ dp) + (-1)) rfl ?_
            refine kz_top (y := nI (rw_ dp - 1)) (sb_m1 h61) ?_
            refine lv_iload_n hx hb kd_Mo_closePiece_79 rfl (lv_at hl 1 rfl) ?_
            refine kz_cVi (av := [.int (nI 2), .int (nI (rw_ dp - 1)), .int (nI ((md_nt NL (pc_ dp - 1) (no dp)).2))]) (rest := [.int (nI dp), .ref mr]) (wr := [(mr, .inl (q 0, 42, .inl (fun x_ => nI (rw_ x_) + (-1)))), (mn, .inl (q 0, 42, .inl (fun x_ => nI (no x_)))), (mp, .inl (q 0, 42, .inl (fun x_ => nI (pc_ x_) + (-1))))]) X U hl.1 (cm_Mo_node l D q ho mb mt mw mc mk m1 m2 ms mu mi mr mn mp mj me mh sz ln wn dp st_ im en lo_ ex ds ct k2 o2 t2 z2 ((md_nt NL (pc_ dp - 1) (no dp)).1) b_ 2 (rw_ dp - 1) ((md_nt NL (pc_ dp - 1) (no dp)).2) hT2 (by rw [md_nt_len]; omega)) (by decide) (by decide) ⟨by decide, by decide⟩ tb_551 tb_553 tb_s27 0 rfl rfl tb_11 tb_554 kq_Mo_node [0, 1, 2, 3, 4, 5] [6, 7, 8] (by decide) rfl rfl (by decide) (by decide) rfl (Nat.le_of_ble_eq_true rfl) kd_Mo_closePiece_80 (fun rv u H locs hu_ U => ?_)
            obtain ⟨hu1, hu2⟩ := hu_
            subst hu1
            have U : kz_U D q s A [(ho, .inr (6, [.ref mb, .int (nI sz), .ref mt, .int (nI ln), .ref mw, .int (nI wn), .ref mc, .ref mk, .ref m1, .ref m2, .ref ms, .int (nI dp), .ref mu, .ref mi, .ref mr, .ref mn, .ref mp, .int (nI st_), .int lo_, .int (nI im), .int (nB ex), .ref mj, .int (nI en), .ref me, .ref mh, .int (nB ds)])), (mc, .inl (q 0, 3, .inl (fun x_ => nI ((va_up ct 2 (((md_nt NL (pc_ dp - 1) (no dp)).1).length + 1)) x_)))), (mk, .inl (q 0, 384, .inl (fun x_ => nI (u.1 x_)))), (m1, .inl (q 0, 384, .inl (fun x_ => nI (u.2.1 x_)))), (m2, .inl (q 0, 384, .inl (fun x_ => nI (u.2.2.1 x_)))), (ms, .inl (q 0, 1152, .inl u.2.2.2)), (mr, .inl (q 0, 42, .inl (fun x_ => nI (rw_ x_) + (-1)))), (mn, .inl (q 0, 42, .inl (fun x_ => nI (no x_)))), (mp, .inl (q 0, 42, .inl (fun x_ => nI (pc_ x_) + (-1))))] H locs := U.sub [3, 4, 5, 6, 7, 8, 0, 1, 2] (by decide) rfl
            refine kz_top (y := nI ((((md_nt NL (pc_ dp - 1) (no dp)).1).length) + 1) + (-1)) (pk_m1 _).symm ?_
            refine kz_iast (k := dp) X U 6 rfl (by omega) (by omega) kd_Mo_closePiece_83 (fun H locs U => ?_)
            rw [kz_updM] at U
            have U : kz_U D q s A [(ho, .inr (6, [.ref mb, .int (nI sz), .ref mt, .int (nI ln), .ref mw, .int (nI wn), .ref mc, .ref mk, .ref m1, .ref m2, .ref ms, .int (nI dp), .ref mu, .ref mi, .ref mr, .ref mn, .ref mp, .int (nI st_), .int lo_, .int (nI im), .int (nB ex), .ref mj, .int (nI en), .ref me, .ref mh, .int (nB ds)])), (mc, .inl (q 0, 3, .inl (fun x_ => nI ((va_up ct 2 (((md_nt NL (pc_ dp - 1) (no dp)).1).length + 1)) x_)))), (mk, .inl (q 0, 384, .inl (fun x_ => nI (u.1 x_)))), (m1, .inl (q 0, 384, .inl (fun x_ => nI (u.2.1 x_)))), (m2, .inl (q 0, 384, .inl (fun x_ => nI (u.2.2.1 x_)))), (ms, .inl (q 0, 1152, .inl u.2.2.2)), (mr, .inl (q 0, 42, .inl (fun x_ => nI ((va_up rw_ dp ((((md_nt NL (pc_ dp - 1) (no dp)).1).length) + 1)) x_) + (-1)))), (mn, .inl (q 0, 42, .inl (fun x_ => nI (no x_)))), (mp, .inl (q 0, 42, .inl (fun x_ => nI (pc_ x_) + (-1))))] H locs := U
            refine lv_aload_n hx hb kd_Mo_closePiece_84 rfl (lv_at hl 2 rfl) ?_
            refine kg_Mo_43 X U 0 rfl rfl kd_Mo_closePiece_85 ?_
            refine lv_aload_n hx hb kd_Mo_closePiece_88 rfl (lv_at hl 2 rfl) ?_
            refine kg_Mo_62 X U 0 rfl rfl kd_Mo_closePiece_89 ?_
            refine kz_ic X 0 kd_Mo_closePiece_92 (by decide) ?_
            refine kz_iast (k := dp) X U 7 rfl (by omega) (by omega) kd_Mo_closePiece_93 (fun H locs U => ?_)
            rw [kz_updN] at U
            have U : kz_U D q s A [(ho, .inr (6, [.ref mb, .int (nI sz), .ref mt, .int (nI ln), .ref mw, .int (nI wn), .ref mc, .ref mk, .ref m1, .ref m2, .ref ms, .int (nI dp), .ref mu, .ref mi, .ref mr, .ref mn, .ref mp, .int (nI st_), .int lo_, .int (nI im), .int (nB ex), .ref mj, .int (nI en), .ref me, .ref mh, .int (nB ds)])), (mc, .inl (q 0, 3, .inl (fun x_ => nI ((va_up ct 2 (((md_nt NL (pc_ dp - 1) (no dp)).1).length + 1)) x_)))), (mk, .inl (q 0, 384, .inl (fun x_ => nI (u.1 x_)))), (m1, .inl (q 0, 384, .inl (fun x_ => nI (u.2.1 x_)))), (m2, .inl (q 0, 384, .inl (fun x_ => nI (u.2.2.1 x_)))), (ms, .inl (q 0, 1152, .inl u.2.2.2)), (mr, .inl (q 0, 42, .inl (fun x_ => nI ((va_up rw_ dp ((((md_nt NL (pc_ dp - 1) (no dp)).1).length) + 1)) x_) + (-1)))), (mn, .inl (q 0, 42, .inl (fun x_ => nI ((va_up no dp 0) x_)))), (mp, .inl (q 0, 42, .inl (fun x_ => nI (pc_ x_) + (-1))))] H locs := U
            refine lv_aload_n hx hb kd_Mo_closePiece_94 rfl (lv_at hl 2 rfl) ?_
            refine kg_Mo_46 X U 0 rfl rfl kd_Mo_closePiece_95 ?_
            refine lv_aload_n hx hb kd_Mo_closePiece_98 rfl (lv_at hl 2 rfl) ?_
            refine kg_Mo_62 X U 0 rfl rfl kd_Mo_closePiece_99 ?_
            refine lv_iconst (v := (-1)) hx hb kd_Mo_closePiece_102 (by decide) ?_
            refine kz_top (y := nI 0 + (-1)) (by decide) ?_
            refine kz_iast (k := dp) X U 8 rfl (by omega) (by omega) kd_Mo_closePiece_103 (fun H locs U => ?_)
            rw [kz_updM] at U
            have U : kz_U D q s A [(ho, .inr (6, [.ref mb, .int (nI sz), .ref mt, .int (nI ln), .ref mw, .int (nI wn), .ref mc, .ref mk, .ref m1, .ref m2, .ref ms, .int (nI dp), .ref mu, .ref mi, .ref mr, .ref mn, .ref mp, .int (nI st_), .int lo_, .int (nI im), .int (nB ex), .ref mj, .int (nI en), .ref me, .ref mh, .int (nB ds)])), (mc, .inl (q 0, 3, .inl (fun x_ => nI ((va_up ct 2 (((md_nt NL (pc_ dp - 1) (no dp)).1).length + 1)) x_)))), (mk, .inl (q 0, 384, .inl (fun x_ => nI (u.1 x_)))), (m1, .inl (q 0, 384, .inl (fun x_ => nI (u.2.1 x_)))), (m2, .inl (q 0, 384, .inl (fun x_ => nI (u.2.2.1 x_)))), (ms, .inl (q 0, 1152, .inl u.2.2.2)), (mr, .inl (q 0, 42, .inl (fun x_ => nI ((va_up rw_ dp ((((md_nt NL (pc_ dp - 1) (no dp)).1).length) + 1)) x_) + (-1)))), (mn, .inl (q 0, 42, .inl (fun x_ => nI ((va_up no dp 0) x_)))), (mp, .inl (q 0, 42, .inl (fun x_ => nI ((va_up pc_ dp 0) x_) + (-1))))] H locs := U
            exact kz_ev hQ hA X U ((u.1, u.2.1, u.2.2.1, u.2.2.2)) (by rw [show md_cp NL (rw_ dp) (no dp) (pc_ dp) = ((md_nt NL (pc_ dp - 1) (no dp)).1 ++ [(2, rw_ dp - 1, (md_nt NL (pc_ dp - 1) (no dp)).2, fun _ => 0)], (md_nt NL (pc_ dp - 1) (no dp)).1.length + 1) from (if_neg (by omega)).trans (if_neg (by omega)), if_neg (show ¬ pc_ dp = 0 by omega), List.length_append]; rfl) (by rw [show md_cp NL (rw_ dp) (no dp) (pc_ dp) = ((md_nt NL (pc_ dp - 1) (no dp)).1 ++ [(2, rw_ dp - 1, (md_nt NL (pc_ dp - 1) (no dp)).2, fun _ => 0)], (md_nt NL (pc_ dp - 1) (no dp)).1.length + 1) from (if_neg (by omega)).trans (if_neg (by omega))]; exact hu2) kd_Mo_closePiece_104
          · refine lv_iload_n hx hb kd_Mo_closePiece_64 rfl (lv_at hl 1 rfl) ?_
            refine lv_goto hx hb kd_Mo_closePiece_65 rfl ?_
            refine kz_top (y := nI (((md_nt NL (pc_ dp - 1) (no dp)).2) + 1) + (-1)) (pk_m1 _).symm ?_
            refine kz_iast (k := dp) X U 6 rfl (by omega) (by omega) kd_Mo_closePiece_83 (fun H locs U => ?_)
            rw [kz_updM] at U
            have U : kz_U D q s A [(ho, .inr (6, [.ref mb, .int (nI sz), .ref mt, .int (nI ln), .ref mw, .int (nI wn), .ref mc, .ref mk, .ref m1, .ref m2, .ref ms, .int (nI dp), .ref mu, .ref mi, .ref mr, .ref mn, .ref mp, .int (nI st_), .int lo_, .int (nI im), .int (nB ex), .ref mj, .int (nI en), .ref me, .ref mh, .int (nB ds)])), (mc, .inl (q 0, 3, .inl (fun x_ => nI ((va_up ct 2 ((md_nt NL (pc_ dp - 1) (no dp)).1.length)) x_)))), (mk, .inl (q 0, 384, .inl (fun x_ => nI (k2 x_)))), (m1, .inl (q 0, 384, .inl (fun x_ => nI (o2 x_)))), (m2, .inl (q 0, 384, .inl (fun x_ => nI (t2 x_)))), (ms, .inl (q 0, 1152, .inl z2)), (mr, .inl (q 0, 42, .inl (fun x_ => nI ((va_up rw_ dp (((md_nt NL (pc_ dp - 1) (no dp)).2) + 1)) x_) + (-1)))), (mn, .inl (q 0, 42, .inl (fun x_ => nI (no x_)))), (mp, .inl (q 0, 42, .inl (fun x_ => nI (pc_ x_) + (-1))))] H locs := U
            refine lv_aload_n hx hb kd_Mo_closePiece_84 rfl (lv_at hl 2 rfl) ?_
            refine kg_Mo_43 X U 0 rfl rfl kd_Mo_closePiece_85 ?_
            refine lv_aload_n hx hb kd_Mo_closePiece_88 rfl (lv_at hl 2 rfl) ?_
            refine kg_Mo_62 X U 0 rfl rfl kd_Mo_closePiece_89 ?_
            refine kz_ic X 0 kd_Mo_closePiece_92 (by decide) ?_
            refine kz_iast (k := dp) X U 7 rfl (by omega) (by omega) kd_Mo_closePiece_93 (fun H locs U => ?_)
            rw [kz_updN] at U
            have U : kz_U D q s A [(ho, .inr (6, [.ref mb, .int (nI sz), .ref mt, .int (nI ln), .ref mw, .int (nI wn), .ref mc, .ref mk, .ref m1, .ref m2, .ref ms, .int (nI dp), .ref mu, .ref mi, .ref mr, .ref mn, .ref mp, .int (nI st_), .int lo_, .int (nI im), .int (nB ex), .ref mj, .int (nI en), .ref me, .ref mh, .int (nB ds)])), (mc, .inl (q 0, 3, .inl (fun x_ => nI ((va_up ct 2 ((md_nt NL (pc_ dp - 1) (no dp)).1.length)) x_)))), (mk, .inl (q 0, 384, .inl (fun x_ => nI (k2 x_)))), (m1, .inl (q 0, 384, .inl (fun x_ => nI (o2 x_)))), (m2, .inl (q 0, 384, .inl (fun x_ => nI (t2 x_)))), (ms, .inl (q 0, 1152, .inl z2)), (mr, .inl (q 0, 42, .inl (fun x_ => nI ((va_up rw_ dp (((md_nt NL (pc_ dp - 1) (no dp)).2) + 1)) x_) + (-1)))), (mn, .inl (q 0, 42, .inl (fun x_ => nI ((va_up no dp 0) x_)))), (mp, .inl (q 0, 42, .inl (fun x_ => nI (pc_ x_) + (-1))))] H locs := U
            refine lv_aload_n hx hb kd_Mo_closePiece_94 rfl (lv_at hl 2 rfl) ?_
            refine kg_Mo_46 X U 0 rfl rfl kd_Mo_closePiece_95 ?_
            refine lv_aload_n hx hb kd_Mo_closePiece_98 rfl (lv_at hl 2 rfl) ?_
            refine kg_Mo_62 X U 0 rfl rfl kd_Mo_closePiece_99 ?_
            refine lv_iconst (v := (-1)) hx hb kd_Mo_closePiece_102 (by decide) ?_
            refine kz_top (y := nI 0 + (-1)) (by decide) ?_
            refine kz_iast (k := dp) X U 8 rfl (by omega) (by omega) kd_Mo_closePiece_103 (fun H locs U => ?_)
            rw [kz_updM] at U
            have U : kz_U D q s A [(ho, .inr (6, [.ref mb, .int (nI sz), .ref mt, .int (nI ln), .ref mw, .int (nI wn), .ref mc, .ref mk, .ref m1, .ref m2, .ref ms, .int (nI dp), .ref mu, .ref mi, .ref mr, .ref mn, .ref mp, .int (nI st_), .int lo_, .int (nI im), .int (nB ex), .ref mj, .int (nI en), .ref me, .ref mh, .int (nB ds)])), (mc, .inl (q 0, 3, .inl (fun x_ => nI ((va_up ct 2 ((md_nt NL (pc_ dp - 1) (no dp)).1.length)) x_)))), (mk, .inl (q 0, 384, .inl (fun x_ => nI (k2 x_)))), (m1, .inl (q 0, 384, .inl (fun x_ => nI (o2 x_)))), (m2, .inl (q 0, 384, .inl (fun x_ => nI (t2 x_)))), (ms, .inl (q 0, 1152, .inl z2)), (mr, .inl (q 0, 42, .inl (fun x_ => nI ((va_up rw_ dp (((md_nt NL (pc_ dp - 1) (no dp)).2) + 1)) x_) + (-1)))), (mn, .inl (q 0, 42, .inl (fun x_ => nI ((va_up no dp 0) x_)))), (mp, .inl (q 0, 42, .inl (fun x_ => nI ((va_up pc_ dp 0) x_) + (-1))))] H locs := U
            exact kz_ev hQ hA X U ((k2, o2, t2, z2)) (by rw [show md_cp NL (rw_ dp) (no dp) (pc_ dp) = ((md_nt NL (pc_ dp - 1) (no dp)).1, (md_nt NL (pc_ dp - 1) (no dp)).2 + 1) from (if_neg (by omega)).trans (if_pos h61), if_neg (show ¬ pc_ dp = 0 by omega)]) (by rw [show md_cp NL (rw_ dp) (no dp) (pc_ dp) = ((md_nt NL (pc_ dp - 1) (no dp)).1, (md_nt NL (pc_ dp - 1) (no dp)).2 + 1) from (if_neg (by omega)).trans (if_pos h61)]; exact hT2) kd_Mo_closePiece_104
        · refine lv_aload_n hx hb kd_Mo_closePiece_30 rfl (lv_at hl 2 rfl) ?_
          refine kz_ic X 5 kd_Mo_closePiece_31 (by decide) ?_
          refine lv_iload_n hx hb kd_Mo_closePiece_32 rfl (lv_at hl 1 rfl) ?_
          refine kz_ic X 0 kd_Mo_closePiece_33 (by decide) ?_
          refine kz_cVi (av := [.int (nI 5), .int (nI ((md_nt NL (pc_ dp - 1) c_).2)), .int (nI 0)]) (rest := []) (wr := [(mr, .inl (q 0, 42, .inl (fun x_ => nI (rw_ x_) + (-1)))), (mn, .inl (q 0, 42, .inl (fun x_ => nI (no x_)))), (mp, .inl (q 0, 42, .inl (fun x_ => nI (pc_ x_) + (-1))))]) X U hl.1 (cm_Mo_node l D q ho mb mt mw mc mk m1 m2 ms mu mi mr mn mp mj me mh sz ln wn dp st_ im en lo_ ex ds ct k2 o2 t2 z2 ((md_nt NL (pc_ dp - 1) c_).1) b_ 5 ((md_nt NL (pc_ dp - 1) c_).2) 0 hT2 (by rw [md_nt_len]; omega)) (by decide) (by decide) ⟨by decide, by decide⟩ tb_551 tb_553 tb_s27 0 rfl rfl tb_11 tb_554 kq_Mo_node [0, 1, 2, 3, 4, 5] [6, 7, 8] (by decide) rfl rfl (by decide) (by decide) rfl (Nat.le_of_ble_eq_true rfl) kd_Mo_closePiece_34 (fun rv u H locs hu_ U => ?_)
          obtain ⟨hu1, hu2⟩ := hu_
          subst hu1
          have U : kz_U D q s A [(ho, .inr (6, [.ref mb, .int (nI sz), .ref mt, .int (nI ln), .ref mw, .int (nI wn), .ref mc, .ref mk, .ref m1, .ref m2, .ref ms, .int (nI dp), .ref mu, .ref mi, .ref mr, .ref mn, .ref mp, .int (nI st_), .int lo_, .int (nI im), .int (nB ex), .ref mj, .int (nI en), .ref me, .ref mh, .int (nB ds)])), (mc, .inl (q 0, 3, .inl (fun x_ => nI ((va_up ct 2 (((md_nt NL (pc_ dp - 1) c_).1).length + 1)) x_)))), (mk, .inl (q 0, 384, .inl (fun x_ => nI (u.1 x_)))), (m1, .inl (q 0, 384, .inl (fun x_ => nI (u.2.1 x_)))), (m2, .inl (q 0, 384, .inl (fun x_ => nI (u.2.2.1 x_)))), (ms, .inl (q 0, 1152, .inl u.2.2.2)), (mr, .inl (q 0, 42, .inl (fun x_ => nI (rw_ x_) + (-1)))), (mn, .inl (q 0, 42, .inl (fun x_ => nI (no x_)))), (mp, .inl (q 0, 42, .inl (fun x_ => nI (pc_ x_) + (-1))))] H locs := U.sub [3, 4, 5, 6, 7, 8, 0, 1, 2] (by decide) rfl
          refine lv_istore_n hx hb kd_Mo_closePiece_37 rfl hl (by decide) rfl (fun ls hl => ?_)
          have hl : lv_has ls 3 [(1, .int (nI (((md_nt NL (pc_ dp - 1) c_).1).length))), (2, .int (nI c_)), (0, .ref ho)] := hl
          refine lv_iinc (k := 1) (v := nI (c_ + 1)) hx hb kd_Mo_closePiece_38 hl rfl (nI_add c_ 1) (by decide) rfl (fun ls hl => ?_)
          have hl : lv_has ls 3 [(2, .int (nI (c_ + 1))), (1, .int (nI (((md_nt NL (pc_ dp - 1) c_).1).length))), (0, .ref ho)] := hl
          refine lv_goto hx hb kd_Mo_closePiece_41 rfl ?_
          have U : kz_U D q s A [(ho, .inr (6, [.ref mb, .int (nI sz), .ref mt, .int (nI ln), .ref mw, .int (nI wn), .ref mc, .ref mk, .ref m1, .ref m2, .ref ms, .int (nI dp), .ref mu, .ref mi, .ref mr, .ref mn, .ref mp, .int (nI st_), .int lo_, .int (nI im), .int (nB ex), .ref mj, .int (nI en), .ref me, .ref mh, .int (nB ds)])), (mc, .inl (q 0, 3, .inl (fun x_ => nI ((va_up ct 2 ((md_nt NL (pc_ dp - 1) (c_ + 1)).1.length)) x_)))), (mk, .inl (q 0, 384, .inl (fun x_ => nI (u.1 x_)))), (m1, .inl (q 0, 384, .inl (fun x_ => nI (u.2.1 x_)))), (m2, .inl (q 0, 384, .inl (fun x_ => nI (u.2.2.1 x_)))), (ms, .inl (q 0, 1152, .inl u.2.2.2)), (mr, .inl (q 0, 42, .inl (fun x_ => nI (rw_ x_) + (-1)))), (mn, .inl (q 0, 42, .inl (fun x_ => nI (no x_)))), (mp, .inl (q 0, 42, .inl (fun x_ => nI (pc_ x_) + (-1))))] H locs := by rw [show (md_nt NL (pc_ dp - 1) (c_ + 1)).1.length = (md_nt NL (pc_ dp - 1) c_).1.length + 1 from by rw [md_nt_len, md_nt_len]; omega]; exact U
          exact ih17 (c_ + 1) _ _ _ _ _ _ _ (by omega) (by omega) hu2 (lv_sub hl [0, 1, 2] rfl) U
    exact loop17 _ 0 kd on tw se _ _ _ (Nat.lt_succ_self _) (by omega) hT (lv_sub hl [0, 1, 2] rfl) U
  · exact kz_ev hQ hA X U ((kd, on, tw, se)) (by rw [show md_cp NL (rw_ dp) (no dp) (pc_ dp) = (NL, rw_ dp) from if_pos h11, if_pos h11, va_up_id, va_up_id, show va_up pc_ dp 0 = pc_ from by have := va_up_id pc_ dp; rw [h11] at this; exact this]) (by rw [show md_cp NL (rw_ dp) (no dp) (pc_ dp) = (NL, rw_ dp) from if_pos h11]; exact hT) kd_Mo_closePiece_14
