/-! a walk's begin and end, with arguments, frame and aim as names -/
theorem kz_go {l : Launch} {y : MethodName} {cc : ByteArray} {n : Nat} {ret : Option FieldType} {d : Nat} {D : va_G} {q : Nat → ClassId} {av : List Value} {wc : va_W} {sz : Nat} {Qc : Array Value → State → Outcome → State → Prop} (hy : plainName y.cls = true) (hlen : (lg_sl av).length ≤ n)
    (body : ∀ (p : Program) (e : Env) (s : State) (m : MethodId) (below : List Frame) (meth : Method) (c : Code) (ls : Array Slot) (args : Array Value) (A : Nat → Prop) (Q : State → Prop) (H : Heap) (locs : List Loc), Q = MQ below Qc args s 0 0 A → A = va_A wc sz → kz_C p m c cc n y.cls s args meth ret → kz_U D q s A wc H locs → lv_has ls n (lv_args 0 av) → W p l e (kz_rm d) s m args below meth c H locs 0 0 Q (F0 m 0 ls [])) :
    Met l y (.code y cc n ret :: kw_T) (kz_rm d) (kz_Pre D q av sz wc) Qc 0 0 (va_A wc sz) :=
  kz_beg hy hlen (fun p e s m below meth c ls X U hl => body p e s m below meth c ls _ _ _ _ _ rfl rfl X U hl)
section KB
variable {p : Program} {l : Launch} {e : Env} {R : Room} {s : State} {m : MethodId} {args : Array Value} {below : List Frame} {meth : Method} {c : Code} {H : Heap} {locs : List Loc} {cells slots : Nat} {Q : State → Prop}
variable {cc : ByteArray} {pc nL : Nat} {ls : Array Slot} {rest : List Value} {own : String} {ret : Option FieldType} {D : va_G} {q : Nat → ClassId} {A : Nat → Prop} {ws wc : va_W} {sz : Nat}
theorem kz_ei {S : Type} {post : Int32 → S → Prop} {w1 : S → va_W} {v : Int32} (hQ : Q = MQ below (va_Qi post (kz_B D wc sz w1) (va_A wc sz)) args s 0 0 A) (hA : A = va_A wc sz) (X : kz_C p m c cc nL own s args meth (some .int)) (U : kz_U D q s A ws H locs) (u : S) (hw : ws = w1 u) (hp : post v u) (hdg : decode cc pc = .ok (.ireturn, 1)) : W p l e R s m args below meth c H locs 0 0 Q (F0 m pc ls [.int v]) := by
  subst hQ
  subst hA
  exact kz_ri X U u hw hp hdg
theorem kz_ez {S : Type} {post : Int32 → S → Prop} {w1 : S → va_W} {b : Bool} (hQ : Q = MQ below (va_Qi post (kz_B D wc sz w1) (va_A wc sz)) args s 0 0 A) (hA : A = va_A wc sz) (X : kz_C p m c cc nL own s args meth (some .boolean)) (U : kz_U D q s A ws H locs) (u : S) (hw : ws = w1 u) (hp : post (nB b) u) (hdg : decode cc pc = .ok (.ireturn, 1)) : W p l e R s m args below meth c H locs 0 0 Q (F0 m pc ls [.int (nB b)]) := by
  subst hQ
  subst hA
  exact kz_rz X U u hw hp (nB_z b) hdg
theorem kz_ev {S : Type} {post : S → Prop} {w1 : S → va_W} (hQ : Q = MQ below (va_Qv post (kz_B D wc sz w1) (va_A wc sz)) args s 0 0 A) (hA : A = va_A wc sz) (X : kz_C p m c cc nL own s args meth none) (U : kz_U D q s A ws H locs) (u : S) (hw : ws = w1 u) (hp : post u) (hdg : decode cc pc = .ok (.return_, 1)) : W p l e R s m args below meth c H locs 0 0 Q (F0 m pc ls []) := by
  subst hQ
  subst hA
  exact kz_rv X U u hw hp hdg
theorem kz_er {S : Type} {post : S → Prop} {w1 : S → va_W} {ad : Nat} {rt : FieldType} (hQ : Q = MQ below (va_Qr post (fun u a t => a = ad ∧ kz_B D wc sz w1 u t) (va_A wc sz)) args s 0 0 A) (hA : A = va_A wc sz) (X : kz_C p m c cc nL own s args meth (some rt)) (hrt : (∃ n, rt = .object n) ∨ ∃ t, rt = .array t) (U : kz_U D q s A ws H locs) (u : S) (hw : ws = w1 u) (hp : post u) (hdg : decode cc pc = .ok (.areturn, 1)) : W p l e R s m args below meth c H locs 0 0 Q (F0 m pc ls [.ref ad]) := by
  subst hQ
  subst hA
  exact kz_rr X hrt U u hw hp hdg
/-- a small constant, as a Nat -/
theorem kz_ic (X : kz_C p m c cc nL own s args meth ret) {n : Int} (k : Nat) (hdg : decode cc pc = .ok (.iconst n, 1)) (hv : Int32.ofInt n = nI k) (kk : W p l e R s m args below meth c H locs cells slots Q (F0 m (pc + 1) ls (.int (nI k) :: rest))) : W p l e R s m args below meth c H locs cells slots Q (F0 m pc ls rest) := lv_iconst X.1 X.2.1 hdg hv kk
theorem kz_bp (X : kz_C p m c cc nL own s args meth ret) {n : Int} (k : Nat) (hdg : decode cc pc = .ok (.bipush n, 2)) (hv : (Int8.ofInt n).toInt32 = nI k) (kk : W p l e R s m args below meth c H locs cells slots Q (F0 m (pc + 2) ls (.int (nI k) :: rest))) : W p l e R s m args below meth c H locs cells slots Q (F0 m pc ls rest) := lv_bipush X.1 X.2.1 hdg hv kk
theorem kz_sp (X : kz_C p m c cc nL own s args meth ret) {n : Int} (k : Nat) (hdg : decode cc pc = .ok (.sipush n, 3)) (hv : (Int16.ofInt n).toInt32 = nI k) (kk : W p l e R s m args below meth c H locs cells slots Q (F0 m (pc + 3) ls (.int (nI k) :: rest))) : W p l e R s m args below meth c H locs cells slots Q (F0 m pc ls rest) := lv_sipush X.1 X.2.1 hdg hv kk
/-- the top of the stack by another name -/
theorem kz_top {x y : Int32} (h : x = y) (k : W p l e R s m args below meth c H locs cells slots Q (F0 m pc ls (.int y :: rest))) : W p l e R s m args below meth c H locs cells slots Q (F0 m pc ls (.int x :: rest)) := by rw [h]; exact k
theorem kz_top2 {x y : Int32} {v : Value} (h : x = y) (k : W p l e R s m args below meth c H locs cells slots Q (F0 m pc ls (v :: .int y :: rest))) : W p l e R s m args below meth c H locs cells slots Q (F0 m pc ls (v :: .int x :: rest)) := by rw [h]; exact k
theorem kz_min (X : kz_C p m c cc nL own s args meth ret) (hls : ls.size = nL) (hf : 1 ≤ R.frames) (hlo : (rest.map fun v => v.category).sum + 13 ≤ R.locals) (hc : cells ≤ R.cells) (hs : slots ≤ R.slots) {index : Nat} (hlink : Cond.methodLink own index ⟨"java/lang/Math", "min", "(II)I"⟩ ∈ kw_T) (hst : Cond.static ⟨"java/lang/Math", "min", "(II)I"⟩ ∈ kw_T) (hini : Cond.initialized "java/lang/Math" ∈ kw_T) (hcode : Cond.code Lib.Math.min.name Lib.Math.min.code 2 (some .int) ∈ kw_T) {a b : Nat} (ha : a < 2 ^ 31) (hb : b < 2 ^ 31) (hdg : decode cc pc = .ok (.invokestatic index, 3)) (kk : W p l e R s m args below meth c H locs cells slots Q (F0 m (pc + 3) ls (.int (nI (min a b)) :: rest))) : W p l e R s m args below meth c H locs cells slots Q (F0 m pc ls (.int (nI b) :: .int (nI a) :: rest)) :=
  va_mmin X.1 X.2.1 (X.2.2.1.trans hls.symm) X.2.2.2.1 (X.2.2.2.2.1 _ hlink) (X.2.2.2.2.1 _ hst) (X.2.2.2.2.1 _ hini) (X.2.2.2.2.1 _ hcode) hf hlo hc hs hdg (kz_top (by
    by_cases h : b < a
    · rw [if_pos ((nI_ltI hb ha).mpr h), Nat.min_eq_right (by omega)]
    · rw [if_neg (fun z => h ((nI_ltI hb ha).mp z)), Nat.min_eq_left (by omega)]) kk)
theorem kz_copy (X : kz_C p m c cc nL own s args meth ret) (U : kz_U D q s A ws H locs) (hls : ls.size = nL) (hf : 1 ≤ R.frames) (hlo : (rest.map fun v => v.category).sum + (nativeFrameWords "java/lang/System" "arraycopy" 5 + 11) ≤ R.locals) {index : Nat} (hlink : Cond.methodLink own index arraycopyName ∈ kw_T) (hnat : Cond.native arraycopyName ∈ kw_T) (hst : Cond.static arraycopyName ∈ kw_T) (hini : Cond.initialized "java/lang/System" ∈ kw_T) (q0 q1 t0 : Nat) {a0 a1 n0 n1 n : Nat} {c0 : ClassId} {f g : Nat → Int32} {ty : FieldType} (ha0 : ws[q0]? = some (a0, .inl (c0, n0, .inl f))) (ha1 : ws[q1]? = some (a1, .inl (c0, n1, .inl g))) (ht0 : (kz_tys q)[t0]? = some (c0, ty)) (hprim : refKind ty = false) (hn0 : n ≤ n0) (hn1 : n ≤ n1) (hb : n < 2 ^ 31) (hfit : ∀ i, i < n → fits ty (.int (f i)) = true) (hdg : decode cc pc = .ok (.invokestatic index, 3))
    (kk : ∀ (H1 : Heap) (locs1 : List Loc), kz_U D q s A (ws.set q1 (a1, .inl (c0, n1, .inl (va_cpy f g 0 0 n)))) H1 locs1 → W p l e R s m args below meth c H1 locs1 cells slots Q (F0 m (pc + 3) ls rest)) : W p l e R s m args below meth c H locs cells slots Q (F0 m pc ls (.int (nI n) :: .int (nI 0) :: .ref a1 :: .int (nI 0) :: .ref a0 :: rest)) := by
  have e0 : (nI 0).toNatClampNeg = 0 := nI_clamp (by omega)
  have en : (nI n).toNatClampNeg = n := nI_clamp hb
  refine va_copyi X.1 X.2.1 (X.2.2.1.trans hls.symm) X.2.2.2.1 (X.2.2.2.2.1 _ hlink) (X.2.2.2.2.1 _ hnat) (X.2.2.2.2.1 _ hst) (X.2.2.2.2.1 _ hini) U.1.1 U.2.1 U.2.2.1 U.2.2.2.1 q0 q1 t0 t0 ha0 ha1 ht0 ht0 hprim (nI_pos (by omega)) (nI_pos (by omega)) (nI_pos hb) (by rw [e0, en]; omega) (by rw [e0, en]; omega) (by rw [e0, en]; intro i hi; rw [Nat.zero_add]; exact hfit i hi) hf hlo hdg (fun H1 locs1 hP hD hS => ?_)
  rw [e0, en] at hP hD
  exact kk H1 locs1 ⟨U.1, hP, hD, hS, U.2.2.2.2⟩
end KB
theorem kq_Dm_init : (parseMethodDescriptor ky_Dm_init.desc).map (fun d => d.parameters.length) = some 0 := by decide +kernel
theorem kq_Dm_type : (parseMethodDescriptor ky_Dm_type.desc).map (fun d => d.parameters.length) = some 1 := by decide +kernel
theorem kq_Dm_pattern : (parseMethodDescriptor ky_Dm_pattern.desc).map (fun d => d.parameters.length) = some 1 := by decide +kernel
theorem kq_Dm_text : (parseMethodDescriptor ky_Dm_text.desc).map (fun d => d.parameters.length) = some 0 := by decide +kernel
theorem kq_Dm_matches : (parseMethodDescriptor ky_Dm_matches.desc).map (fun d => d.parameters.length) = some 1 := by decide +kernel
theorem kq_Dm_find : (parseMethodDescriptor ky_Dm_find.desc).map (fun d => d.parameters.length) = some 2 := by decide +kernel
theorem kq_Dm_count : (parseMethodDescriptor ky_Dm_count.desc).map (fun d => d.parameters.length) = some 1 := by decide +kernel
theorem kq_Dm_earliest : (parseMethodDescriptor ky_Dm_earliest.desc).map (fun d => d.parameters.length) = some 1 := by decide +kernel
theorem kq_Dm_shortest : (parseMethodDescriptor ky_Dm_shortest.desc).map (fun d => d.parameters.length) = some 2 := by decide +kernel
theorem kq_Dm_difference : (parseMethodDescriptor ky_Dm_difference.desc).map (fun d => d.parameters.length) = some 1 := by decide +kernel
theorem kq_Dm_word : (parseMethodDescriptor ky_Dm_word.desc).map (fun d => d.parameters.length) = some 1 := by decide +kernel
theorem kq_Dm_isPattern : (parseMethodDescriptor ky_Dm_isPattern.desc).map (fun d => d.parameters.length) = some 1 := by decide +kernel
theorem kq_Dm_has : (parseMethodDescriptor ky_Dm_has.desc).map (fun d => d.parameters.length) = some 2 := by decide +kernel
theorem kq_Dm_lengthsUpTo : (parseMethodDescriptor ky_Dm_lengthsUpTo.desc).map (fun d => d.parameters.length) = some 1 := by decide +kernel
theorem kq_Dm_longestOf : (parseMethodDescriptor ky_Dm_longestOf.desc).map (fun d => d.parameters.length) = some 1 := by decide +kernel
theorem kq_Dm_partsOf : (parseMethodDescriptor ky_Dm_partsOf.desc).map (fun d => d.parameters.length) = some 1 := by decide +kernel
theorem kq_Dm_wordsOf : (parseMethodDescriptor ky_Dm_wordsOf.desc).map (fun d => d.parameters.length) = some 1 := by decide +kernel
theorem kq_Dm_noteWords : (parseMethodDescriptor ky_Dm_noteWords.desc).map (fun d => d.parameters.length) = some 3 := by decide +kernel
theorem kq_Dm_wordsUpTo : (parseMethodDescriptor ky_Dm_wordsUpTo.desc).map (fun d => d.parameters.length) = some 1 := by decide +kernel
theorem kq_Dm_keepWord : (parseMethodDescriptor ky_Dm_keepWord.desc).map (fun d => d.parameters.length) = some 1 := by decide +kernel
theorem kq_Mo_init : (parseMethodDescriptor ky_Mo_init.desc).map (fun d => d.parameters.length) = some 0 := by decide +kernel
theorem kq_Mo_type : (parseMethodDescriptor ky_Mo_type.desc).map (fun d => d.parameters.length) = some 1 := by decide +kernel
theorem kq_Mo_node : (parseMethodDescriptor ky_Mo_node.desc).map (fun d => d.parameters.length) = some 3 := by decide +kernel
theorem kq_Mo_include : (parseMethodDescriptor ky_Mo_include.desc).map (fun d => d.parameters.length) = some 2 := by decide +kernel
theorem kq_Mo_open : (parseMethodDescriptor ky_Mo_open.desc).map (fun d => d.parameters.length) = some 0 := by decide +kernel
theorem kq_Mo_closePiece : (parseMethodDescriptor ky_Mo_closePiece.desc).map (fun d => d.parameters.length) = some 0 := by decide +kernel
theorem kq_Mo_closeRow : (parseMethodDescriptor ky_Mo_closeRow.desc).map (fun d => d.parameters.length) = some 0 := by decide +kernel
theorem kq_Mo_closeIntersection : (parseMethodDescriptor ky_Mo_closeIntersection.desc).map (fun d => d.parameters.length) = some 0 := by decide +kernel
theorem kq_Mo_mark : (parseMethodDescriptor ky_Mo_mark.desc).map (fun d => d.parameters.length) = some 3 := by decide +kernel
theorem kq_Mo_isDone : (parseMethodDescriptor ky_Mo_isDone.desc).map (fun d => d.parameters.length) = some 0 := by decide +kernel
theorem kq_Mo_plain : (parseMethodDescriptor ky_Mo_plain.desc).map (fun d => d.parameters.length) = some 1 := by decide +kernel
theorem kq_Mo_begin : (parseMethodDescriptor ky_Mo_begin.desc).map (fun d => d.parameters.length) = some 1 := by decide +kernel
theorem kq_Mo_isDigit : (parseMethodDescriptor ky_Mo_isDigit.desc).map (fun d => d.parameters.length) = some 1 := by decide +kernel
theorem kq_Mo_braces : (parseMethodDescriptor ky_Mo_braces.desc).map (fun d => d.parameters.length) = some 1 := by decide +kernel
theorem kq_Mo_closeClass : (parseMethodDescriptor ky_Mo_closeClass.desc).map (fun d => d.parameters.length) = some 0 := by decide +kernel
theorem kq_Mo_classes : (parseMethodDescriptor ky_Mo_classes.desc).map (fun d => d.parameters.length) = some 1 := by decide +kernel
theorem kq_Mo_undash : (parseMethodDescriptor ky_Mo_undash.desc).map (fun d => d.parameters.length) = some 1 := by decide +kernel
theorem kq_Mo_take : (parseMethodDescriptor ky_Mo_take.desc).map (fun d => d.parameters.length) = some 1 := by decide +kernel
theorem kq_Mo_pattern : (parseMethodDescriptor ky_Mo_pattern.desc).map (fun d => d.parameters.length) = some 1 := by decide +kernel
theorem kq_Mo_text : (parseMethodDescriptor ky_Mo_text.desc).map (fun d => d.parameters.length) = some 0 := by decide +kernel
theorem kq_Mo_has : (parseMethodDescriptor ky_Mo_has.desc).map (fun d => d.parameters.length) = some 2 := by decide +kernel
theorem kq_Mo_onward : (parseMethodDescriptor ky_Mo_onward.desc).map (fun d => d.parameters.length) = some 2 := by decide +kernel
theorem kq_Mo_again : (parseMethodDescriptor ky_Mo_again.desc).map (fun d => d.parameters.length) = some 1 := by decide +kernel
theorem kq_Mo_times : (parseMethodDescriptor ky_Mo_times.desc).map (fun d => d.parameters.length) = some 4 := by decide +kernel
theorem kq_Mo_work : (parseMethodDescriptor ky_Mo_work.desc).map (fun d => d.parameters.length) = some 2 := by decide +kernel
theorem kq_Mo_look : (parseMethodDescriptor ky_Mo_look.desc).map (fun d => d.parameters.length) = some 1 := by decide +kernel
theorem kq_Mo_lookAtText : (parseMethodDescriptor ky_Mo_lookAtText.desc).map (fun d => d.parameters.length) = some 1 := by decide +kernel
theorem kq_Mo_matches : (parseMethodDescriptor ky_Mo_matches.desc).map (fun d => d.parameters.length) = some 1 := by decide +kernel
theorem kq_Mo_highest : (parseMethodDescriptor ky_Mo_highest.desc).map (fun d => d.parameters.length) = some 1 := by decide +kernel
theorem kq_Mo_found : (parseMethodDescriptor ky_Mo_found.desc).map (fun d => d.parameters.length) = some 2 := by decide +kernel
theorem kq_Mo_find : (parseMethodDescriptor ky_Mo_find.desc).map (fun d => d.parameters.length) = some 2 := by decide +kernel
theorem kq_Mo_count : (parseMethodDescriptor ky_Mo_count.desc).map (fun d => d.parameters.length) = some 1 := by decide +kernel
theorem kq_Mo_earliest : (parseMethodDescriptor ky_Mo_earliest.desc).map (fun d => d.parameters.length) = some 1 := by decide +kernel
theorem kq_Mo_fits : (parseMethodDescriptor ky_Mo_fits.desc).map (fun d => d.parameters.length) = some 1 := by decide +kernel
theorem kq_Mo_first : (parseMethodDescriptor ky_Mo_first.desc).map (fun d => d.parameters.length) = some 2 := by decide +kernel
theorem kq_Mo_wordOf : (parseMethodDescriptor ky_Mo_wordOf.desc).map (fun d => d.parameters.length) = some 2 := by decide +kernel
theorem kq_Mo_shortest : (parseMethodDescriptor ky_Mo_shortest.desc).map (fun d => d.parameters.length) = some 2 := by decide +kernel
theorem kq_Mo_difference : (parseMethodDescriptor ky_Mo_difference.desc).map (fun d => d.parameters.length) = some 1 := by decide +kernel
theorem kq_Mo_word : (parseMethodDescriptor ky_Mo_word.desc).map (fun d => d.parameters.length) = some 1 := by decide +kernel
theorem kq_Ln_init : (parseMethodDescriptor ky_Ln_init.desc).map (fun d => d.parameters.length) = some 3 := by decide +kernel
theorem kq_Ln_reach : (parseMethodDescriptor ky_Ln_reach.desc).map (fun d => d.parameters.length) = some 1 := by decide +kernel
theorem kq_Mc_init : (parseMethodDescriptor ky_Mc_init.desc).map (fun d => d.parameters.length) = some 0 := by decide +kernel
theorem kq_Mc_run : (parseMethodDescriptor ky_Mc_run.desc).map (fun d => d.parameters.length) = some 2 := by decide +kernel
theorem kq_Mc_hasRowsFor : (parseMethodDescriptor ky_Mc_hasRowsFor.desc).map (fun d => d.parameters.length) = some 2 := by decide +kernel
theorem kq_Mc_valuesTakenBy : (parseMethodDescriptor ky_Mc_valuesTakenBy.desc).map (fun d => d.parameters.length) = some 1 := by decide +kernel
theorem kq_Mc_putEmpty : (parseMethodDescriptor ky_Mc_putEmpty.desc).map (fun d => d.parameters.length) = some 2 := by decide +kernel
theorem kq_Mc_putRange : (parseMethodDescriptor ky_Mc_putRange.desc).map (fun d => d.parameters.length) = some 4 := by decide +kernel
theorem kq_Mc_unite : (parseMethodDescriptor ky_Mc_unite.desc).map (fun d => d.parameters.length) = some 3 := by decide +kernel
theorem kq_Mc_intersect : (parseMethodDescriptor ky_Mc_intersect.desc).map (fun d => d.parameters.length) = some 3 := by decide +kernel
theorem kq_Mc_complement : (parseMethodDescriptor ky_Mc_complement.desc).map (fun d => d.parameters.length) = some 2 := by decide +kernel
theorem kq_Mc_join : (parseMethodDescriptor ky_Mc_join.desc).map (fun d => d.parameters.length) = some 3 := by decide +kernel
theorem kq_Mc_lengthsThrough : (parseMethodDescriptor ky_Mc_lengthsThrough.desc).map (fun d => d.parameters.length) = some 4 := by decide +kernel
theorem kq_Mc_repeat : (parseMethodDescriptor ky_Mc_repeat.desc).map (fun d => d.parameters.length) = some 5 := by decide +kernel
theorem kq_Mc_addEmpty : (parseMethodDescriptor ky_Mc_addEmpty.desc).map (fun d => d.parameters.length) = some 2 := by decide +kernel
theorem kq_Mc_loop : (parseMethodDescriptor ky_Mc_loop.desc).map (fun d => d.parameters.length) = some 2 := by decide +kernel
theorem kq_Pa_init : (parseMethodDescriptor ky_Pa_init.desc).map (fun d => d.parameters.length) = some 0 := by decide +kernel
theorem kq_Pg_init : (parseMethodDescriptor ky_Pg_init.desc).map (fun d => d.parameters.length) = some 0 := by decide +kernel
theorem kq_Pg_add : (parseMethodDescriptor ky_Pg_add.desc).map (fun d => d.parameters.length) = some 3 := by decide +kernel
theorem kq_Rd_init : (parseMethodDescriptor ky_Rd_init.desc).map (fun d => d.parameters.length) = some 0 := by decide +kernel
theorem kq_Rd_read : (parseMethodDescriptor ky_Rd_read.desc).map (fun d => d.parameters.length) = some 2 := by decide +kernel
theorem kq_Rd_place : (parseMethodDescriptor ky_Rd_place.desc).map (fun d => d.parameters.length) = some 0 := by decide +kernel
theorem kq_Rd_giveFor : (parseMethodDescriptor ky_Rd_giveFor.desc).map (fun d => d.parameters.length) = some 1 := by decide +kernel
theorem kq_Rd_beginLevel : (parseMethodDescriptor ky_Rd_beginLevel.desc).map (fun d => d.parameters.length) = some 0 := by decide +kernel
theorem kq_Rd_beginRow : (parseMethodDescriptor ky_Rd_beginRow.desc).map (fun d => d.parameters.length) = some 0 := by decide +kernel
theorem kq_Rd_readOn : (parseMethodDescriptor ky_Rd_readOn.desc).map (fun d => d.parameters.length) = some 0 := by decide +kernel
theorem kq_Rd_readUnionSign : (parseMethodDescriptor ky_Rd_readUnionSign.desc).map (fun d => d.parameters.length) = some 0 := by decide +kernel
theorem kq_Rd_readIntersectionSign : (parseMethodDescriptor ky_Rd_readIntersectionSign.desc).map (fun d => d.parameters.length) = some 0 := by decide +kernel
theorem kq_Rd_endIntersection : (parseMethodDescriptor ky_Rd_endIntersection.desc).map (fun d => d.parameters.length) = some 0 := by decide +kernel
theorem kq_Rd_endUnion : (parseMethodDescriptor ky_Rd_endUnion.desc).map (fun d => d.parameters.length) = some 0 := by decide +kernel
theorem kq_Rd_readOpening : (parseMethodDescriptor ky_Rd_readOpening.desc).map (fun d => d.parameters.length) = some 0 := by decide +kernel
theorem kq_Rd_readClosing : (parseMethodDescriptor ky_Rd_readClosing.desc).map (fun d => d.parameters.length) = some 0 := by decide +kernel
theorem kq_Rd_endPiece : (parseMethodDescriptor ky_Rd_endPiece.desc).map (fun d => d.parameters.length) = some 0 := by decide +kernel
theorem kq_Rd_isMark : (parseMethodDescriptor ky_Rd_isMark.desc).map (fun d => d.parameters.length) = some 1 := by decide +kernel
theorem kq_Rd_readMark : (parseMethodDescriptor ky_Rd_readMark.desc).map (fun d => d.parameters.length) = some 0 := by decide +kernel
theorem kq_Rd_readTimes : (parseMethodDescriptor ky_Rd_readTimes.desc).map (fun d => d.parameters.length) = some 0 := by decide +kernel
theorem kq_Rd_isNext : (parseMethodDescriptor ky_Rd_isNext.desc).map (fun d => d.parameters.length) = some 1 := by decide +kernel
theorem kq_Rd_isDigitFrom : (parseMethodDescriptor ky_Rd_isDigitFrom.desc).map (fun d => d.parameters.length) = some 1 := by decide +kernel
theorem kq_Rd_readClass : (parseMethodDescriptor ky_Rd_readClass.desc).map (fun d => d.parameters.length) = some 0 := by decide +kernel
theorem kq_Rd_readItem : (parseMethodDescriptor ky_Rd_readItem.desc).map (fun d => d.parameters.length) = some 0 := by decide +kernel
theorem kq_Lw_law : (parseMethodDescriptor ky_Lw_law.desc).map (fun d => d.parameters.length) = some 1 := by decide +kernel
