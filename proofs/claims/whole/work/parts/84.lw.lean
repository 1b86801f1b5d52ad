/-! THE CLAIM OUT OF ONE WALK OF THE LAW'S BODY. Your part is whole_start (and what it stands on); all else here is the same for every law, but numbers. -/
def R_law : String := "DerivativeMatcherLaw"
def lw_P (b : Addr) (xs : List Int32) (args : Array Value) (s : State) : Prop := args = #[.ref b] ∧ s.IntsAt b xs ∧ xs.length ≤ 1536 ∧ (Jvm.Cond.and given_1 narrow_1).before args s = true
def lw_Q (_ : Array Value) (s : State) (o : Outcome) (t : State) : Prop := o = .returned (some (.int 1)) ∧ Framed s o t [] 600000 7302250
def lw_Z (below : List Frame) (a : Array Value) (s : State) : State → Prop := fun t => ∃ o, t.status = .running ∧ Ended t below o ∧ lw_Q a s o t
/-- the law's own end, with 1 on the stack, nothing written that was there before, its room as the claim has it -/
theorem lw_ret {p : Program} {l : Launch} {e : Env} {s : State} {m : MethodId} {below : List Frame} {meth : Method} {c : Code} {b : Nat} (hx : p.tables.exec = Jvm.exec) (hb : c.code = code) (hr : meth.sig.returnType = ret) (hlocks : meth.locks = false) {pc : Nat} {H : Heap} {ls : Array Slot} (hdg : decode code pc = .ok (.ireturn, 1)) : W p l e room_1 s m #[Value.ref b] below meth c H [] 600000 7302250 (lw_Z below #[Value.ref b] s) (F0 m pc ls [.int 1]) := by
  intro T hT X
  obtain ⟨fs, hret, hrun, hended, hW, hframe⟩ := X.leave (v := some (.int 1)) (hlocks := hlocks) (fun h => by rw [hr] at h; cases h)
  have hmeth' : T.vm.method? m = some meth := X.method'
  refine ⟨T.setFrames fs, ?_, .returned (some (.int 1)), hrun, hended, rfl, ⟨_, rfl⟩, hW, hframe⟩
  jvm_step X.here [X.here.top, hx, hb, hdg, hmeth', hr, ret, narrow_b1]
  (try refine ⟨rfl, ?_⟩); (try refine ⟨rfl, ?_⟩)
  first | (intro acts; rw [hret _ acts rfl rfl rfl]) | rw [hret _ _ rfl rfl rfl]
  exact Steps.refl _
/-- what holds at the law's entry: the machine, the code, the tables' words (any of lw_tbl by 'hts w (by decide +kernel)'), the script of L ints xs at the cell b, what the Statement gives of the start (any of its parts by flat_of_before) -/
def lw_At (p : Program) (s : State) (m : MethodId) (meth : Method) (c : Code) (b L : Nat) (xs : Nat → Int32) : Prop :=
  p.tables.exec = Jvm.exec ∧ c.code = code ∧ meth.sig.returnType = ret ∧ c.maxLocals = 4 ∧ s.vm.findClass R_law = some m.cls ∧ (∀ w ∈ lw_tbl, w.before #[Value.ref b] s = true) ∧ va_X b L xs s s.heap ∧ b < s.heap.size ∧ meth.locks = false ∧ (Jvm.Cond.and given_1 narrow_1).before #[Value.ref b] s = true

theorem lw_K {s : State} {b : Nat} (hts : ∀ w ∈ lw_tbl, w.before #[Value.ref b] s = true) : ∃ (D : va_G) (q : Nat → ClassId), kz_K D q s := by
  have hk : ∀ w ∈ kw_T, w.before #[Value.ref b] s = true := fun w h => hts w (List.mem_filter.mp h).1
  obtain ⟨c0, i0, k0⟩ := u_known hk ki_Ln (hk _ tb_23)
  obtain ⟨c1, i1, k1⟩ := u_known hk ki_Mc (hk _ tb_182)
  obtain ⟨c2, i2, k2⟩ := u_known hk ki_Pa (hk _ tb_91)
  obtain ⟨c3, i3, k3⟩ := u_known hk ki_Pg (hk _ tb_97)
  obtain ⟨c4, i4, k4⟩ := u_known hk ki_Rd (hk _ tb_149)
  obtain ⟨c5, i5, k5⟩ := u_known hk ki_Dm (hk _ tb_15)
  obtain ⟨c6, i6, k6⟩ := u_known hk ki_Mo (hk _ tb_431)
  obtain ⟨qI, kI, cI, f1, f2, f3⟩ := Cond.arrayClass_spec (hk _ tb_121)
  obtain ⟨qC, kC, cC, g1, g2, g3⟩ := Cond.arrayClass_spec (hk _ tb_42)
  obtain ⟨qZ, kZ, cZ, h1, h2, h3⟩ := Cond.arrayClass_spec (hk _ tb_147)
  obtain ⟨cp, qP, kP, p1, p2, p3, p4, p5⟩ := Cond.arrayOver_spec (hts _ tb_90)
  obtain ⟨ca, qJ, kJ, j1, j2, j3, j4, j5⟩ := arrayOverA_spec (hts _ tb_188)
  refine ⟨(fun c => match c with | 0 => c0 | 1 => c1 | 2 => c2 | 3 => c3 | 4 => c4 | 5 => c5 | _ => c6, fun c => match c with | 0 => i0 | 1 => i1 | 2 => i2 | 3 => i3 | 4 => i4 | 5 => i5 | _ => i6), fun c => match c with | 0 => qI | 1 => qC | 2 => qZ | 3 => qP | _ => qJ, ⟨fun c r hr => ?_, fun k r hr => ?_⟩, ?_⟩
  · match c, hr with
    | 0, hr => cases hr; exact k0
    | 1, hr => cases hr; exact k1
    | 2, hr => cases hr; exact k2
    | 3, hr => cases hr; exact k3
    | 4, hr => cases hr; exact k4
    | 5, hr => cases hr; exact k5
    | 6, hr => cases hr; exact k6
    | c + 7, hr => cases hr
  · match k, hr with
    | 0, hr => cases hr; exact ⟨fun n z => ⟨fun k h => (by cases h), kI, f2, cI, f3⟩, f1⟩
    | 1, hr => cases hr; exact ⟨fun n z => ⟨fun k h => (by cases h), kC, g2, cC, g3⟩, g1⟩
    | 2, hr => cases hr; exact ⟨fun n z => ⟨fun k h => (by cases h), kZ, h2, cZ, h3⟩, h1⟩
    | 3, hr => cases hr; exact ⟨fun n z => ⟨fun k h => (by cases h), kP, p3, cp, p4⟩, kP, cp, p3, p4, p1, p5⟩
    | 4, hr => cases hr; exact ⟨fun n z => ⟨fun k h => (by cases h), kJ, j3, ca, j4⟩, j5⟩
    | k + 5, hr => cases hr
  · exact List.forall_mem_cons.mpr ⟨va_Nw.of rfl (hts _ tb_358), List.forall_mem_cons.mpr ⟨va_Nw.of rfl (hts _ tb_361), List.forall_mem_cons.mpr ⟨va_Nw.of rfl (hts _ tb_98), List.forall_mem_cons.mpr ⟨va_Nw.of rfl (hts _ tb_150), List.forall_mem_cons.mpr ⟨va_Nw.of rfl (hts _ tb_155), List.forall_mem_cons.mpr ⟨va_Nw.of rfl (hts _ tb_183), fun _ h => absurd h List.not_mem_nil⟩⟩⟩⟩⟩⟩

def lw_bytes : List Int32 := aw_l.map nI
theorem lw_bytes_at : ∀ j, j < 84 → lw_bytes.getD j 0 = nI (aw_ j) := by decide +kernel
set_option maxRecDepth 100000 in
theorem lw_bytes_in : ∀ j, j < 84 → Cond.eq (.elem (.field (.string "DerivativeMatcher" 26) "java/lang/String" "value" "[B") (.int (Int32.ofNat j))) (.int (lw_bytes.getD j 0)) ∈ flatC (Jvm.Cond.and given_1 narrow_1) := by decide +kernel
abbrev lw_txt : String := "aaaabaaacaabbaabcaacbaaccababacabbbabbcabcbabccacacbbacbcaccbacccbbbbcbbccbcbccccaaa"
set_option maxRecDepth 100000 in
theorem lw_SX {s : State} {b : Nat} (hts : ∀ w ∈ lw_tbl, w.before #[Value.ref b] s = true) (hg : (Jvm.Cond.and given_1 narrow_1).before #[Value.ref b] s = true) : ∃ tS tV, kz_SX s.heap.size tS tV s s.heap ∧ vk_R "DerivativeMatcher" 26 "aaaabaaacaabbaabcaacbaaccababacabbbabbcabcbabccacacbbacbcaccbacccbbbbcbbccbcbccccaaa" tS s := by
  have hs := flat_of_before _ hg
  have hA : ∀ a : Nat, a < s.heap.size → ¬ (s.heap.size ≤ a) := fun a h => by omega
  obtain ⟨adK, adV, hS, hE⟩ := vk_Sof (args := #[Value.ref b]) (s := s) (N := 1) (tm := fun _ => Term.string "DerivativeMatcher" 26) (len := [84]) (byt := [lw_bytes]) (A := fun x => s.heap.size ≤ x)
    (fun i hi => by have e : i = 0 := by omega
                    subst e; decide)
    (fun i hi => by show (Cond.exactly (Term.string "DerivativeMatcher" 26) "java/lang/String").before _ s = true; exact hs _ (by decide +kernel))
    (fun i hi => by show (Cond.eq (.field (Term.string "DerivativeMatcher" 26) "java/lang/String" "coder" "B") (.int 0)).before _ s = true; exact hs _ (by decide +kernel))
    (fun i hi => by show (Cond.arrayOf (.field (Term.string "DerivativeMatcher" 26) "java/lang/String" "value" "[B") .byte).before _ s = true; exact hs _ (by decide +kernel))
    (fun i hi => by have e : i = 0 := by omega
                    subst e; show (Cond.eq (.length (.field (Term.string "DerivativeMatcher" 26) "java/lang/String" "value" "[B")) (.int 84)).before _ s = true; exact hs _ (by decide +kernel))
    (fun i hi j hj => by have e : i = 0 := by omega
                         subst e; exact hs _ (lw_bytes_in j hj))
    (fun i j hi hj hij => absurd (show i = j by omega) hij) hA
  obtain ⟨h1, h2, h3, h4⟩ := hS.1 0 (by decide)
  obtain ⟨cell, t1, t2, t3, t4, t5, t6, t7⟩ := h4
  refine ⟨adK 0, adV 0, ⟨h1, h2, h3, ⟨cell, t1, t2, t3, t4, t5, fun j hj => ?_, t7⟩, va_Zof (hts _ tb_53) (hts _ (List.mem_filter.mp tb_3).1) (va_eqt (hs _ (by decide +kernel))) hA⟩, vk_R.of (A := #[Value.ref b]) (hts _ tb_43) (hE 0 (by decide))⟩
  rw [t6 j hj]
  exact congrArg some (congrArg Value.int (lw_bytes_at j hj))

theorem kz_U.arrq {D : va_G} {q : Nat → ClassId} {s : State} {A : Nat → Prop} {ws : va_W} {H : Heap} {locs : List Loc} (U : kz_U D q s A ws H locs) (k : Nat) {a n : Nat} {cA : ClassId} {f g : Nat → Option Nat} (hk : ws[k]? = some (a, .inl (cA, n, .inr (.inr (.inr (.inr f)))))) (h : ∀ j, j < n → f j = g j) : kz_U D q s A (ws.set k (a, .inl (cA, n, .inr (.inr (.inr (.inr g)))))) H locs := by
  have e : vp_cell cA (n, .inr (.inr (.inr (.inr f)))) = vp_cell cA (n, .inr (.inr (.inr (.inr g)))) := by
    rw [vp_cell_q, vp_cell_q]
    unfold arrV
    congr 2
    funext j
    show va_rf (f j.val) = va_rf (g j.val)
    rw [h j.val j.isLt]
  refine ⟨U.1, U.2.1.set U.2.2.1 hk ?_ (fun q _ => rfl), U.2.2.1.set hk, U.2.2.2⟩
  show H[a]? = some (vp_cell cA (n, .inr (.inr (.inr (.inr g)))))
  rw [← e]
  exact U.2.1 k _ hk

section KLI
variable {p : Program} {l : Launch} {e : Env} {s : State} {m : MethodId} {args : Array Value} {below : List Frame} {meth : Method} {c : Code} {H : Heap} {locs : List Loc} {cells slots mc ms : Nat} {Q : State → Prop}
variable {cc : ByteArray} {pc nL index d' maxL : Nat} {ls : Array Slot} {rest st0 : List Value} {own : String} {ret : Option FieldType} {D : va_G} {q : Nat → ClassId} {A : Nat → Prop} {ws wc wr : va_W} {y : MethodName} {bytes : ByteArray} {av : List Value} {b : Nat}
theorem kz_lI {S : Type} {Z : Nat → State → Prop} {post : S → Prop} {w1 : S → va_W} (X : kz_C p m c cc nL own s args meth ret) (U : kz_U D q s A ws H locs) (hpm : ws.Perm (wc ++ wr)) (hls : ls.size = nL) (hM : kz_Mn l y bytes maxL d' mc ms D q Z (.ref b :: av) wc post w1) (hZs : kz_Zs (Z H.size)) (hZ : ∀ T : State, T.heap = H → s.WarmedH T.vm → Z H.size T) (hd : d' ≤ 7) (hm : maxL ≤ 13) (mh : y.cls ≠ "java/lang/invoke/MethodHandle" ∧ y.cls ≠ "java/lang/invoke/VarHandle") (hnm : y.name = "<init>") (hlink : Cond.methodLink own index y ∈ kw_T) (hst : Cond.instanceMethod y ∈ kw_T) (hini : Cond.initialized y.cls ∈ kw_T) (hcode : Cond.code y bytes maxL none ∈ kw_T) (hdesc : (parseMethodDescriptor y.desc).map (fun d => d.parameters.length) = some av.length) (hst0 : st0 = av.reverse ++ .ref b :: rest) (hrest : (rest.map fun v => v.category).sum ≤ 8) (hf : cells + mc ≤ 600000 ∧ slots + ms ≤ 7302250) (hdg : decode cc pc = .ok (.invokespecial index, 3)) (kk : ∀ (u : S) (H1 : Heap) (locs1 : List Loc), post u → kz_U D q s A (wr ++ w1 u) H1 locs1 → W p l e room_1 s m args below meth c H1 locs1 (cells + mc) (slots + ms) Q (F0 m (pc + 3) ls rest)) : W p l e room_1 s m args below meth c H locs cells slots Q (F0 m pc ls st0) := by
  subst hst0
  have U := U.perm hpm
  exact va_callv (va_runI (As := av) (rest := rest) ⟨X.1, X.2.1, X.2.2.1, X.2.2.2.1, X.2.2.2.2.1⟩ (hM H.size) ⟨callB_of av.length X.2.2.2.2.1 (kz_gi hcode) rfl rfl rfl (X.2.2.2.2.1 _ hini) (X.2.2.2.2.1 _ hlink) ⟨mh.1, mh.2, hdesc⟩ ⟨by show d' + 1 ≤ 10; omega, by show 8 + (maxL + 11) + 32 * d' ≤ 390; omega⟩, hnm, X.2.2.2.2.1 _ hst⟩ ⟨kz_blindZ hZs, kz_cPZ U hZ (List.range wc.length) (kz_nd_of List.nodup_range) (kz_rgL wc wr)⟩ rfl rfl hls rfl (lv_room hrest) hdg hf) U.2.2.2.1 (fun x _ h => va_free U.2.2.1 U.2.2.2.1 U.2.2.2.2 (List.range wc.length) (kz_rgL wc wr) x h) (va_free U.2.2.1 U.2.2.2.1 U.2.2.2.2 (List.range wc.length) (kz_rgL wc wr)) (fun u t H1 locs1 ht hvm hp hB hz hk hS => kk u H1 locs1 hp (kz_cJ U (List.range wc.length) ((List.range wr.length).map (fun i => wc.length + i)) (kz_rgL wc wr) (kz_rgR wc wr) (kz_nd_of (kz_ndR wc.length wr.length)) (kz_disR wc.length wr.length) ht hB hk hS))
end KLI

theorem lw_he1 {q : Nat → ClassId} {hd ho : Nat} {Wc Wm : va_W} (h : lw_R q hd ho Wc Wm) : ∃ fs, (hd, .inr (5, fs)) ∈ Wc := by
  obtain ⟨nb, bu, bf, n, tx, ty, B0, B1, L0, L1, nl, le, wo, ⟨v, hW, -⟩, -⟩ := h
  exact ⟨_, hW.mem_iff.mpr (List.mem_append_left _ List.mem_cons_self)⟩
theorem lw_he2 {q : Nat → ClassId} {hd ho : Nat} {Wc Wm : va_W} (h : lw_R q hd ho Wc Wm) : ∃ fs, (ho, .inr (6, fs)) ∈ Wm := by
  obtain ⟨nb, bu, bf, n, tx, ty, B0, B1, L0, L1, nl, le, wo, -, ⟨v, hW, -⟩, -⟩ := h
  exact ⟨_, hW.mem_iff.mpr List.mem_cons_self⟩

theorem lw_gt {L i : Nat} (hL : L ≤ 1536) (hi : i ≤ 1536) : nI L - nI 3 < nI i ↔ L < i + 3 := by
  by_cases h : 3 ≤ L
  · rw [pk_sub h, nI_ltI (by omega) (by omega)]
    omega
  · constructor
    · intro _; omega
    · intro _
      have h0 : nI L - nI 3 < 0 := by
        have e : L = 0 ∨ L = 1 ∨ L = 2 := by omega
        rcases e with rfl | rfl | rfl <;> decide
      exact Int32.lt_of_lt_of_le h0 (Int32.not_lt.mp (nI_pos (by omega)))

theorem lw_i2c (x : Int32) : ∃ ch, ch < 65536 ∧ (x.toUInt32 % 65536).toInt32 = nI ch := by
  refine ⟨(x.toUInt32 % 65536).toNat, ?_, ?_⟩
  · rw [UInt32.toNat_mod]
    exact Nat.mod_lt _ (by decide)
  · apply Int32.toBitVec_inj.mp
    show (x.toUInt32 % 65536).toBitVec = BitVec.ofNat 32 (x.toUInt32 % 65536).toNat
    rw [show (x.toUInt32 % 65536).toNat = (x.toUInt32 % 65536).toBitVec.toNat from rfl, BitVec.ofNat_toNat, BitVec.setWidth_eq]
