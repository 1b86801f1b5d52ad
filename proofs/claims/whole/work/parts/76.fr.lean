/-! a contract over more cells than it touches; a call out of the law -/
theorem kz_A_mono {wc wr W : va_W} {sz x : Nat} (hp : W.Perm (wc ++ wr)) (h : va_A wc sz x) : va_A W sz x := by
  rcases h with ⟨k, e, hk⟩ | h
  · have h1 : (x, e) ∈ W := hp.mem_iff.mpr (List.mem_append_left _ (List.mem_of_getElem? hk))
    obtain ⟨j, hj⟩ := List.getElem?_of_mem h1
    exact Or.inl ⟨j, e, hj⟩
  · exact Or.inr h

theorem kz_Mi.frame {S : Type} {l : Launch} {y : MethodName} {cc : ByteArray} {n : Nat} {ret : Option FieldType} {d : Nat} {D : va_G} {q : Nat → ClassId} {av : List Value} {wc W wr : va_W} {post : Int32 → S → Prop} {w1 : S → va_W} (hM : kz_Mi l y cc n ret d D q av wc post w1) (hp : W.Perm (wc ++ wr)) : kz_Mi l y cc n ret d D q av W post (fun u => wr ++ w1 u) := by
  intro sz
  have mk : ∀ {a : Array Value} {st : State}, kz_Pre D q av sz W a st → st.heap.size = sz ∧ kz_U D q st (va_A W sz) (wc ++ wr) st.heap [] := by
    intro a st h
    obtain ⟨h0, h1, h2, h3, h4⟩ := h
    have U0 : kz_U D q st (va_A W sz) W st.heap [] := ⟨h3, h2, h4.self, va_S.rf, fun x hx => Or.inr (by omega)⟩
    exact ⟨h1, U0.perm hp⟩
  refine MetFree.mono (hM sz) (fun a st hP => ?_) (fun _ _ _ _ _ _ => trivial) ?_
  · obtain ⟨h1, U⟩ := mk hP
    exact ⟨hP.1, h1, U.2.1.sub (List.range wc.length) (kz_fm (kz_rgL wc wr)), U.1, (U.2.2.1.sub (List.range wc.length) (kz_nd_of List.nodup_range) (kz_rgL wc wr)).weaken (fun _ _ _ _ => trivial)⟩
  · intro a st o t hP hq
    obtain ⟨h1, U⟩ := mk hP
    obtain ⟨⟨⟨r, u, e1, e2, e3⟩, hF⟩, L, hL1, hL2⟩ := hq
    subst h1
    have J := kz_cJ (wr := wr) (locs1 := []) U (List.range wc.length) ((List.range wr.length).map (fun i => wc.length + i)) (kz_rgL wc wr) (kz_rgR wc wr) (kz_nd_of (kz_ndR wc.length wr.length)) (kz_disR wc.length wr.length) rfl e3 hF.2 ⟨hF.1, fun x h2 h3 => hF.2 x h2 (fun z => h3 (kz_A_mono hp z)), fun _ h => absurd h List.not_mem_nil⟩
    exact ⟨⟨⟨r, u, e1, e2, J.2.1, J.2.2.1⟩, hF.1, fun x h2 h3 => hF.2 x h2 (fun z => h3 (kz_A_mono hp z))⟩, L, hL1, fun x hx => kz_A_mono hp (hL2 x hx)⟩

section KL
variable {p : Program} {l : Launch} {e : Env} {s : State} {m : MethodId} {args : Array Value} {below : List Frame} {meth : Method} {c : Code} {H : Heap} {locs : List Loc} {cells slots : Nat} {Q : State → Prop}
variable {cc : ByteArray} {pc nL index d d' maxL : Nat} {ls : Array Slot} {rest st0 : List Value} {own : String} {ret ret' : Option FieldType} {D : va_G} {q : Nat → ClassId} {A : Nat → Prop} {ws wc wr : va_W} {y : MethodName} {bytes : ByteArray} {av : List Value} {b : Nat}
theorem kz_lVi {S : Type} {post : Int32 → S → Prop} {w1 : S → va_W} (X : kz_C p m c cc nL own s args meth ret) (U : kz_U D q s A ws H locs) (hpm : ws.Perm (wc ++ wr)) (hls : ls.size = nL) (hM : kz_Mi l y bytes maxL ret' d' D q (.ref b :: av) wc post w1) (hd : d' ≤ 7) (hm : maxL ≤ 13) (mh : y.cls ≠ "java/lang/invoke/MethodHandle" ∧ y.cls ≠ "java/lang/invoke/VarHandle") (hlink : Cond.methodLink own index y ∈ kw_T) (hst : Cond.instanceMethod y ∈ kw_T) (hsel : Cond.selects y.cls y y ∈ kw_T) {ci N : Nat} {T : u_T} (he : ∃ fs, (b, .inr (ci, fs)) ∈ wc) (hc : kz_cl[ci]? = some (y.cls, T, N)) (hini : Cond.initialized y.cls ∈ kw_T) (hcode : Cond.code y bytes maxL ret' ∈ kw_T) (hdesc : (parseMethodDescriptor y.desc).map (fun d => d.parameters.length) = some av.length) (hst0 : st0 = av.reverse ++ .ref b :: rest) (hrest : (rest.map fun v => v.category).sum ≤ 8) (hf : cells ≤ 600000 ∧ slots ≤ 7302250) (hdg : decode cc pc = .ok (.invokevirtual index, 3)) (kk : ∀ (r : Int32) (u : S) (H1 : Heap) (locs1 : List Loc), post r u → kz_U D q s A (wr ++ w1 u) H1 locs1 → W p l e room_1 s m args below meth c H1 locs1 cells slots Q (F0 m (pc + 3) ls (.int r :: rest))) : W p l e room_1 s m args below meth c H locs cells slots Q (F0 m pc ls st0) := by
  subst hst0
  have U := U.perm hpm
  obtain ⟨fs, he⟩ := he
  obtain ⟨k, hk⟩ := List.getElem?_of_mem (List.mem_append_left wr he)
  exact va_calli (va_runV (As := av) (rest := rest) (C := y.cls) ⟨X.1, X.2.1, X.2.2.1, X.2.2.2.1, X.2.2.2.2.1⟩ (hM H.size) ⟨callB_of av.length X.2.2.2.2.1 (kz_gi hcode) rfl rfl rfl (X.2.2.2.2.1 _ hini) (X.2.2.2.2.1 _ hlink) ⟨mh.1, mh.2, hdesc⟩ ⟨by show d' + 1 ≤ 10; omega, by show 8 + (maxL + 11) + 32 * d' ≤ 390; omega⟩, X.2.2.2.2.1 _ hst, X.2.2.2.2.1 _ hsel⟩ ⟨kz_blind, va_recv U.1.1 U.2.1 hc hk, kz_cP U (List.range wc.length) (kz_nd_of List.nodup_range) (kz_rgL wc wr)⟩ rfl rfl hls rfl (lv_room hrest) hdg hf) U.2.2.2.1 (fun x _ h => va_free U.2.2.1 U.2.2.2.1 U.2.2.2.2 (List.range wc.length) (kz_rgL wc wr) x h) (va_free U.2.2.1 U.2.2.2.1 U.2.2.2.2 (List.range wc.length) (kz_rgL wc wr)) (fun r u t H1 locs1 ht hvm hp hB hz hk hS => kk r u H1 locs1 hp (kz_cJ U (List.range wc.length) ((List.range wr.length).map (fun i => wc.length + i)) (kz_rgL wc wr) (kz_rgR wc wr) (kz_nd_of (kz_ndR wc.length wr.length)) (kz_disR wc.length wr.length) ht hB hk hS))
end KL
