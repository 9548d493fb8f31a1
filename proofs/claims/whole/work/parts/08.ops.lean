/-! single instructions: what holds behind one holds ahead of it -/
theorem bg_i_w (x : Int) : Int32.ofInt (bg_w x) = Int32.ofInt x := Int32.ofInt_toInt _
theorem bg_vk2 {n : Nat} {v0 : bg_V} {l : List bg_V} (h0 : bg_vk n v0) (h : ∀ v ∈ l, bg_vk n v) : ∀ v ∈ v0 :: l, bg_vk n v := List.forall_mem_cons.mpr ⟨h0, h⟩
theorem bg_tl {n : Nat} {v0 : bg_V} {l : List bg_V} (h : ∀ v ∈ v0 :: l, bg_vk n v) : ∀ v ∈ l, bg_vk n v := fun v hv => h v (List.mem_cons_of_mem _ hv)
theorem bg_lc (n : Fin 2) : Int64.ofNat (n : Nat) = Int64.ofInt ((n : Nat) : Int) := by revert n; decide
section Bg
variable {p : Program} {l : Launch} {e : Env} {R : Room} {s : State} {m : MethodId} {args : Array Value} {below : List Frame} {meth : Method} {c : Code} {Q : State → Prop} {D : va_G} {cy : Nat → ClassId} {A : Nat → Prop} {M : bg_M} {E0 : (Nat → Nat) × bg_H}
variable {pc nx : Nat} {L : bg_L} {st r : List bg_V} {Hh : bg_H} {cn : Nat × Nat}
theorem bg_Re.stk {nL : Nat} {st2 : List bg_V} {ad : Nat → Nat} {H : Heap} {locs : List Loc} {ls : Array Slot} (h : bg_Re s D cy A E0 nL L st Hh ad H locs ls) (h2 : ∀ v ∈ st2, bg_vk Hh.1.length v) : bg_Re s D cy A E0 nL L st2 Hh ad H locs ls :=
  ⟨h.1, h.2.1, h.2.2.1, h.2.2.2.1, h.2.2.2.2.1, h.2.2.2.2.2.1, h2, h.2.2.2.2.2.2.2.1, h.2.2.2.2.2.2.2.2⟩
theorem bg_Re.vk {nL : Nat} {ad : Nat → Nat} {H : Heap} {locs : List Loc} {ls : Array Slot} (h : bg_Re s D cy A E0 nL L st Hh ad H locs ls) : ∀ v ∈ st, bg_vk Hh.1.length v := h.2.2.2.2.2.2.1
theorem bg_Re.sto {nL i : Nat} {x : bg_V} {ad : Nat → Nat} {H : Heap} {locs : List Loc} {ls ls' : Array Slot} (h : bg_Re s D cy A E0 nL L (x :: r) Hh ad H locs ls) (h' : lv_has ls' nL ((i, bg_cv ad x) :: ((List.range L.length).filterMap (fun j => match bg_nth L j with | some (some v) => some (j, bg_cv ad v) | _ => none)).filter (fun q => !(q.1 == i) && !(q.1 + 1 == i && q.2.category == 2)))) : bg_Re s D cy A E0 nL (bg_sto L i x) r Hh ad H locs ls' :=
  ⟨h.1, h.2.1, h.2.2.1, bg_rl_sto h.2.2.2.1 h', h.2.2.2.2.1, h.2.2.2.2.2.1, fun v hv => h.2.2.2.2.2.2.1 v (List.mem_cons_of_mem _ hv), bg_sto_vk (h.2.2.2.2.2.2.1 x List.mem_cons_self) h.2.2.2.2.2.2.2.1, h.2.2.2.2.2.2.2.2⟩
theorem bg_Re.sto2 {nL i : Nat} {x : bg_V} {ad : Nat → Nat} {H : Heap} {locs : List Loc} {ls ls' : Array Slot} (h : bg_Re s D cy A E0 nL L (x :: r) Hh ad H locs ls) (h' : lv_has ls' nL ((i, bg_cv ad x) :: ((List.range L.length).filterMap (fun j => match bg_nth L j with | some (some v) => some (j, bg_cv ad v) | _ => none)).filter (fun q => !(q.1 == i) && (!(q.1 == i + 1) && !(q.1 + 1 == i && q.2.category == 2))))) : bg_Re s D cy A E0 nL (bg_sto2 L i x) r Hh ad H locs ls' :=
  ⟨h.1, h.2.1, h.2.2.1, bg_rl_sto2 h.2.2.2.1 h', h.2.2.2.2.1, h.2.2.2.2.2.1, fun v hv => h.2.2.2.2.2.2.1 v (List.mem_cons_of_mem _ hv), bg_sto2_vk (h.2.2.2.2.2.2.1 x List.mem_cons_self) h.2.2.2.2.2.2.2.1, h.2.2.2.2.2.2.2.2⟩
theorem sm_iconst (hC : bg_Cx p s m args meth c D cy A M) {d : Int} (hd : decode M.2.1 pc = .ok (.iconst d, 1))  (hk : bg_Sim p l e R s m args below meth c Q D cy A E0 M.2.2.1 (pc + 1, L, .inl d :: st, Hh, cn)) : bg_Sim p l e R s m args below meth c Q D cy A E0 M.2.2.1 (pc, L, st, Hh, cn) := by
  intro ad H locs ls h
  exact lv_iconst hC.1 hC.2.1 hd rfl (hk ad H locs ls (h.stk (bg_vk2 trivial h.vk)))
theorem bg_i8 {d : Int} (h1 : -128 ≤ d) (h2 : d ≤ 127) : (Int8.ofInt d).toInt32 = Int32.ofInt d := by
  rw [← Int32.toInt_inj, Int8.toInt_toInt32, Int8.toInt_ofInt, Int32.toInt_ofInt, Int.bmod_eq_of_le (by simp; omega) (by simp; omega), Int.bmod_eq_of_le (by simp; omega) (by simp; omega)]
theorem bg_i16 {d : Int} (h1 : -32768 ≤ d) (h2 : d ≤ 32767) : (Int16.ofInt d).toInt32 = Int32.ofInt d := by
  rw [← Int32.toInt_inj, Int16.toInt_toInt32, Int16.toInt_ofInt, Int32.toInt_ofInt, Int.bmod_eq_of_le (by simp; omega) (by simp; omega), Int.bmod_eq_of_le (by simp; omega) (by simp; omega)]
theorem sm_bipush (hC : bg_Cx p s m args meth c D cy A M) {d : Int} (hd : decode M.2.1 pc = .ok (.bipush d, 2)) (hr : -128 ≤ d ∧ d ≤ 127) (hk : bg_Sim p l e R s m args below meth c Q D cy A E0 M.2.2.1 (pc + 2, L, .inl d :: st, Hh, cn)) : bg_Sim p l e R s m args below meth c Q D cy A E0 M.2.2.1 (pc, L, st, Hh, cn) := by
  intro ad H locs ls h
  exact lv_bipush hC.1 hC.2.1 hd (bg_i8 hr.1 hr.2) (hk ad H locs ls (h.stk (bg_vk2 trivial h.vk)))
theorem sm_sipush (hC : bg_Cx p s m args meth c D cy A M) {d : Int} (hd : decode M.2.1 pc = .ok (.sipush d, 3)) (hr : -32768 ≤ d ∧ d ≤ 32767) (hk : bg_Sim p l e R s m args below meth c Q D cy A E0 M.2.2.1 (pc + 3, L, .inl d :: st, Hh, cn)) : bg_Sim p l e R s m args below meth c Q D cy A E0 M.2.2.1 (pc, L, st, Hh, cn) := by
  intro ad H locs ls h
  exact lv_sipush hC.1 hC.2.1 hd (bg_i16 hr.1 hr.2) (hk ad H locs ls (h.stk (bg_vk2 trivial h.vk)))
theorem sm_ldc (hC : bg_Cx p s m args meth c D cy A M) {d : Int} {i : Nat} (hd : decode M.2.1 pc = .ok (.ldc i, 2)) (hw : Cond.constant M.1.cls i (Int32.ofInt d) ∈ bg_tbl) (hk : bg_Sim p l e R s m args below meth c Q D cy A E0 M.2.2.1 (pc + 2, L, .inl d :: st, Hh, cn)) : bg_Sim p l e R s m args below meth c Q D cy A E0 M.2.2.1 (pc, L, st, Hh, cn) := by
  intro ad H locs ls h
  exact lv_ldc hC.1 hC.2.1 hC.2.2.2.1 (hC.2.2.2.2.1 _ hw) hd (hk ad H locs ls (h.stk (bg_vk2 trivial h.vk)))
theorem sm_ldc_w (hC : bg_Cx p s m args meth c D cy A M) {d : Int} {i : Nat} (hd : decode M.2.1 pc = .ok (.ldc_w i, 3)) (hw : Cond.constant M.1.cls i (Int32.ofInt d) ∈ bg_tbl) (hk : bg_Sim p l e R s m args below meth c Q D cy A E0 M.2.2.1 (pc + 3, L, .inl d :: st, Hh, cn)) : bg_Sim p l e R s m args below meth c Q D cy A E0 M.2.2.1 (pc, L, st, Hh, cn) := by
  intro ad H locs ls h
  exact lv_ldcw hC.1 hC.2.1 hC.2.2.2.1 (hC.2.2.2.2.1 _ hw) hd (hk ad H locs ls (h.stk (bg_vk2 trivial h.vk)))
theorem sm_lconst (hC : bg_Cx p s m args meth c D cy A M) {d : Int} {n : Fin 2} (hd : decode M.2.1 pc = .ok (.lconst n, 1)) (hn : d = ((n : Nat) : Int)) (hk : bg_Sim p l e R s m args below meth c Q D cy A E0 M.2.2.1 (pc + 1, L, .inr (.inl d) :: st, Hh, cn)) : bg_Sim p l e R s m args below meth c Q D cy A E0 M.2.2.1 (pc, L, st, Hh, cn) := by
  intro ad H locs ls h
  subst hn
  exact lv_lconst hC.1 hC.2.1 hd (bg_lc n) (hk ad H locs ls (h.stk (bg_vk2 trivial h.vk)))
theorem sm_ldc2 (hC : bg_Cx p s m args meth c D cy A M) {d : Int} {i : Nat} (hd : decode M.2.1 pc = .ok (.ldc2_w i, 3)) (hw : Cond.constantLong M.1.cls i (Int64.ofInt d) ∈ bg_tbl) (hk : bg_Sim p l e R s m args below meth c Q D cy A E0 M.2.2.1 (pc + 3, L, .inr (.inl d) :: st, Hh, cn)) : bg_Sim p l e R s m args below meth c Q D cy A E0 M.2.2.1 (pc, L, st, Hh, cn) := by
  intro ad H locs ls h
  exact lv_ldc2 hC.1 hC.2.1 hC.2.2.2.1 (hC.2.2.2.2.1 _ hw) hd (hk ad H locs ls (h.stk (bg_vk2 trivial h.vk)))
theorem sm_iload (hC : bg_Cx p s m args meth c D cy A M) {x : Int} {i : Nat} (hd : decode M.2.1 pc = .ok (.iload i, 2)) (hx : bg_nth L i = some (some (.inl x))) (hk : bg_Sim p l e R s m args below meth c Q D cy A E0 M.2.2.1 (pc + 2, L, .inl x :: st, Hh, cn)) : bg_Sim p l e R s m args below meth c Q D cy A E0 M.2.2.1 (pc, L, st, Hh, cn) := by
  intro ad H locs ls h
  exact lv_iload hC.1 hC.2.1 hd (h.2.2.2.1.2.2 _ _ hx) (hk ad H locs ls (h.stk (bg_vk2 trivial h.vk)))
theorem sm_iload_n (hC : bg_Cx p s m args meth c D cy A M) {x : Int} {i : Nat} {k : Fin 4} (hd : decode M.2.1 pc = .ok (.iload_n k, 1)) (hi : i = (k : Nat)) (hx : bg_nth L i = some (some (.inl x))) (hk : bg_Sim p l e R s m args below meth c Q D cy A E0 M.2.2.1 (pc + 1, L, .inl x :: st, Hh, cn)) : bg_Sim p l e R s m args below meth c Q D cy A E0 M.2.2.1 (pc, L, st, Hh, cn) := by
  intro ad H locs ls h
  exact lv_iload_n hC.1 hC.2.1 hd hi.symm (h.2.2.2.1.2.2 _ _ hx) (hk ad H locs ls (h.stk (bg_vk2 trivial h.vk)))
theorem sm_lload (hC : bg_Cx p s m args meth c D cy A M) {x : Int} {i : Nat} (hd : decode M.2.1 pc = .ok (.lload i, 2)) (hx : bg_nth L i = some (some (.inr (.inl x)))) (hk : bg_Sim p l e R s m args below meth c Q D cy A E0 M.2.2.1 (pc + 2, L, .inr (.inl x) :: st, Hh, cn)) : bg_Sim p l e R s m args below meth c Q D cy A E0 M.2.2.1 (pc, L, st, Hh, cn) := by
  intro ad H locs ls h
  exact lv_lload hC.1 hC.2.1 hd (h.2.2.2.1.2.2 _ _ hx) (hk ad H locs ls (h.stk (bg_vk2 trivial h.vk)))
theorem sm_lload_n (hC : bg_Cx p s m args meth c D cy A M) {x : Int} {i : Nat} {k : Fin 4} (hd : decode M.2.1 pc = .ok (.lload_n k, 1)) (hi : i = (k : Nat)) (hx : bg_nth L i = some (some (.inr (.inl x)))) (hk : bg_Sim p l e R s m args below meth c Q D cy A E0 M.2.2.1 (pc + 1, L, .inr (.inl x) :: st, Hh, cn)) : bg_Sim p l e R s m args below meth c Q D cy A E0 M.2.2.1 (pc, L, st, Hh, cn) := by
  intro ad H locs ls h
  exact lv_lload_n hC.1 hC.2.1 hd hi.symm (h.2.2.2.1.2.2 _ _ hx) (hk ad H locs ls (h.stk (bg_vk2 trivial h.vk)))
theorem sm_aload (hC : bg_Cx p s m args meth c D cy A M) {x : Option Nat} {i : Nat} (hd : decode M.2.1 pc = .ok (.aload i, 2)) (hx : bg_nth L i = some (some (.inr (.inr x)))) (hk : bg_Sim p l e R s m args below meth c Q D cy A E0 M.2.2.1 (pc + 2, L, .inr (.inr x) :: st, Hh, cn)) : bg_Sim p l e R s m args below meth c Q D cy A E0 M.2.2.1 (pc, L, st, Hh, cn) := by
  intro ad H locs ls h
  have hl := h.2.2.2.1.2.2 _ _ hx
  have hz := hk ad H locs ls (h.stk (bg_vk2 (h.2.2.2.2.2.2.2.1 _ _ hx) h.vk))
  cases x with
  | none => exact lv_aloadN hC.1 hC.2.1 hd hl hz
  | some k => exact lv_aload hC.1 hC.2.1 hd hl hz
theorem sm_aload_n (hC : bg_Cx p s m args meth c D cy A M) {x : Option Nat} {i : Nat} {k : Fin 4} (hd : decode M.2.1 pc = .ok (.aload_n k, 1)) (hi : i = (k : Nat)) (hx : bg_nth L i = some (some (.inr (.inr x)))) (hk : bg_Sim p l e R s m args below meth c Q D cy A E0 M.2.2.1 (pc + 1, L, .inr (.inr x) :: st, Hh, cn)) : bg_Sim p l e R s m args below meth c Q D cy A E0 M.2.2.1 (pc, L, st, Hh, cn) := by
  intro ad H locs ls h
  have hl := h.2.2.2.1.2.2 _ _ hx
  have hz := hk ad H locs ls (h.stk (bg_vk2 (h.2.2.2.2.2.2.2.1 _ _ hx) h.vk))
  cases x with
  | none => exact lv_aload_nN hC.1 hC.2.1 hd hi.symm hl hz
  | some k => exact lv_aload_n hC.1 hC.2.1 hd hi.symm hl hz
theorem sm_istore (hC : bg_Cx p s m args meth c D cy A M) {x : Int} {i : Nat} (hd : decode M.2.1 pc = .ok (.istore i, 2)) (hi : i < M.2.2.1) (hk : bg_Sim p l e R s m args below meth c Q D cy A E0 M.2.2.1 (pc + 2, bg_sto L i (.inl x), r, Hh, cn)) : bg_Sim p l e R s m args below meth c Q D cy A E0 M.2.2.1 (pc, L, .inl x :: r, Hh, cn) := by
  intro ad H locs ls h
  exact lv_istore hC.1 hC.2.1 hd (bg_rl_has h.2.2.2.1) hi rfl (fun ls2 hl2 => hk ad H locs ls2 (h.sto hl2))
theorem sm_istore_n (hC : bg_Cx p s m args meth c D cy A M) {x : Int} {i : Nat} {k : Fin 4} (hd : decode M.2.1 pc = .ok (.istore_n k, 1)) (hk2 : i = (k : Nat)) (hi : i < M.2.2.1) (hk : bg_Sim p l e R s m args below meth c Q D cy A E0 M.2.2.1 (pc + 1, bg_sto L i (.inl x), r, Hh, cn)) : bg_Sim p l e R s m args below meth c Q D cy A E0 M.2.2.1 (pc, L, .inl x :: r, Hh, cn) := by
  intro ad H locs ls h
  exact lv_istore_n hC.1 hC.2.1 hd hk2.symm (bg_rl_has h.2.2.2.1) hi rfl (fun ls2 hl2 => hk ad H locs ls2 (h.sto hl2))
theorem sm_lstore (hC : bg_Cx p s m args meth c D cy A M) {x : Int} {i : Nat} (hd : decode M.2.1 pc = .ok (.lstore i, 2)) (hi : i + 1 < M.2.2.1) (hk : bg_Sim p l e R s m args below meth c Q D cy A E0 M.2.2.1 (pc + 2, bg_sto2 L i (.inr (.inl x)), r, Hh, cn)) : bg_Sim p l e R s m args below meth c Q D cy A E0 M.2.2.1 (pc, L, .inr (.inl x) :: r, Hh, cn) := by
  intro ad H locs ls h
  exact lv_lstore hC.1 hC.2.1 hd (bg_rl_has h.2.2.2.1) hi rfl (fun ls2 hl2 => hk ad H locs ls2 (h.sto2 hl2))
theorem sm_lstore_n (hC : bg_Cx p s m args meth c D cy A M) {x : Int} {i : Nat} {k : Fin 4} (hd : decode M.2.1 pc = .ok (.lstore_n k, 1)) (hk2 : i = (k : Nat)) (hi : i + 1 < M.2.2.1) (hk : bg_Sim p l e R s m args below meth c Q D cy A E0 M.2.2.1 (pc + 1, bg_sto2 L i (.inr (.inl x)), r, Hh, cn)) : bg_Sim p l e R s m args below meth c Q D cy A E0 M.2.2.1 (pc, L, .inr (.inl x) :: r, Hh, cn) := by
  intro ad H locs ls h
  exact lv_lstore_n hC.1 hC.2.1 hd hk2.symm (bg_rl_has h.2.2.2.1) hi rfl (fun ls2 hl2 => hk ad H locs ls2 (h.sto2 hl2))
theorem sm_astore_n (hC : bg_Cx p s m args meth c D cy A M) {x : Nat} {i : Nat} {k : Fin 4} (hd : decode M.2.1 pc = .ok (.astore_n k, 1)) (hk2 : i = (k : Nat)) (hi : i < M.2.2.1) (hk : bg_Sim p l e R s m args below meth c Q D cy A E0 M.2.2.1 (pc + 1, bg_sto L i (.inr (.inr (some x))), r, Hh, cn)) : bg_Sim p l e R s m args below meth c Q D cy A E0 M.2.2.1 (pc, L, .inr (.inr (some x)) :: r, Hh, cn) := by
  intro ad H locs ls h
  exact lv_astore_n hC.1 hC.2.1 hd hk2.symm (bg_rl_has h.2.2.2.1) hi rfl (fun ls2 hl2 => hk ad H locs ls2 (h.sto hl2))
theorem sm_iinc (hC : bg_Cx p s m args meth c D cy A M) {x d : Int} {i : Nat} (hd : decode M.2.1 pc = .ok (.iinc i d, 3)) (hi : i < M.2.2.1) (hx : bg_nth L i = some (some (.inl x))) (hk : bg_Sim p l e R s m args below meth c Q D cy A E0 M.2.2.1 (pc + 3, bg_sto L i (.inl (x + d)), st, Hh, cn)) : bg_Sim p l e R s m args below meth c Q D cy A E0 M.2.2.1 (pc, L, st, Hh, cn) := by
  intro ad H locs ls h
  obtain ⟨k, hk2⟩ := List.getElem?_of_mem (bg_rl_mem (ad := ad) hx)
  refine lv_iinc (v := Int32.ofInt (x + d)) hC.1 hC.2.1 hd (bg_rl_has h.2.2.2.1) hk2 (Int32.ofInt_add ..).symm hi rfl (fun ls2 hl2 => hk ad H locs ls2 ?_)
  exact bg_Re.sto (x := .inl (x + d)) (h.stk (st2 := .inl (x + d) :: st) (bg_vk2 trivial h.vk)) hl2
theorem sm_iadd (hC : bg_Cx p s m args meth c D cy A M) {x y : Int} (hd : decode M.2.1 pc = .ok (.iadd, 1)) (hk : bg_Sim p l e R s m args below meth c Q D cy A E0 M.2.2.1 (pc + 1, L, .inl (x + y) :: r, Hh, cn)) : bg_Sim p l e R s m args below meth c Q D cy A E0 M.2.2.1 (pc, L, .inl y :: .inl x :: r, Hh, cn) := by
  intro ad H locs ls h
  refine lv_iadd hC.1 hC.2.1 hd ?_
  have hz := hk ad H locs ls (h.stk (bg_vk2 trivial (bg_tl (bg_tl h.vk))))
  simp only [List.map_cons, bg_cv] at hz ⊢
  rw [show Int32.ofInt (x + y) = _ from Int32.ofInt_add ..] at hz
  exact hz
theorem sm_isub (hC : bg_Cx p s m args meth c D cy A M) {x y : Int} (hd : decode M.2.1 pc = .ok (.isub, 1)) (hk : bg_Sim p l e R s m args below meth c Q D cy A E0 M.2.2.1 (pc + 1, L, .inl (x - y) :: r, Hh, cn)) : bg_Sim p l e R s m args below meth c Q D cy A E0 M.2.2.1 (pc, L, .inl y :: .inl x :: r, Hh, cn) := by
  intro ad H locs ls h
  refine lv_isub hC.1 hC.2.1 hd ?_
  have hz := hk ad H locs ls (h.stk (bg_vk2 trivial (bg_tl (bg_tl h.vk))))
  simp only [List.map_cons, bg_cv] at hz ⊢
  rw [show Int32.ofInt (x - y) = _ from Int32.ofInt_sub ..] at hz
  exact hz
theorem sm_imul (hC : bg_Cx p s m args meth c D cy A M) {x y : Int} (hd : decode M.2.1 pc = .ok (.imul, 1)) (hk : bg_Sim p l e R s m args below meth c Q D cy A E0 M.2.2.1 (pc + 1, L, .inl (x * y) :: r, Hh, cn)) : bg_Sim p l e R s m args below meth c Q D cy A E0 M.2.2.1 (pc, L, .inl y :: .inl x :: r, Hh, cn) := by
  intro ad H locs ls h
  refine lv_imul hC.1 hC.2.1 hd ?_
  have hz := hk ad H locs ls (h.stk (bg_vk2 trivial (bg_tl (bg_tl h.vk))))
  simp only [List.map_cons, bg_cv] at hz ⊢
  rw [show Int32.ofInt (x * y) = _ from Int32.ofInt_mul ..] at hz
  exact hz
theorem sm_iand (hC : bg_Cx p s m args meth c D cy A M) {x y : Int} (hd : decode M.2.1 pc = .ok (.iand, 1)) (hk : bg_Sim p l e R s m args below meth c Q D cy A E0 M.2.2.1 (pc + 1, L, .inl (bg_and x y) :: r, Hh, cn)) : bg_Sim p l e R s m args below meth c Q D cy A E0 M.2.2.1 (pc, L, .inl y :: .inl x :: r, Hh, cn) := by
  intro ad H locs ls h
  refine lv_iand hC.1 hC.2.1 hd ?_
  have hz := hk ad H locs ls (h.stk (bg_vk2 trivial (bg_tl (bg_tl h.vk))))
  simp only [List.map_cons, bg_cv] at hz ⊢
  rw [show Int32.ofInt (bg_and x y) = _ from Int32.ofInt_toInt _] at hz
  exact hz
theorem sm_ior (hC : bg_Cx p s m args meth c D cy A M) {x y : Int} (hd : decode M.2.1 pc = .ok (.ior, 1)) (hk : bg_Sim p l e R s m args below meth c Q D cy A E0 M.2.2.1 (pc + 1, L, .inl (bg_or x y) :: r, Hh, cn)) : bg_Sim p l e R s m args below meth c Q D cy A E0 M.2.2.1 (pc, L, .inl y :: .inl x :: r, Hh, cn) := by
  intro ad H locs ls h
  refine lv_ior hC.1 hC.2.1 hd ?_
  have hz := hk ad H locs ls (h.stk (bg_vk2 trivial (bg_tl (bg_tl h.vk))))
  simp only [List.map_cons, bg_cv] at hz ⊢
  rw [show Int32.ofInt (bg_or x y) = _ from Int32.ofInt_toInt _] at hz
  exact hz
theorem sm_ixor (hC : bg_Cx p s m args meth c D cy A M) {x y : Int} (hd : decode M.2.1 pc = .ok (.ixor, 1)) (hk : bg_Sim p l e R s m args below meth c Q D cy A E0 M.2.2.1 (pc + 1, L, .inl (bg_xor x y) :: r, Hh, cn)) : bg_Sim p l e R s m args below meth c Q D cy A E0 M.2.2.1 (pc, L, .inl y :: .inl x :: r, Hh, cn) := by
  intro ad H locs ls h
  refine lv_ixor hC.1 hC.2.1 hd ?_
  have hz := hk ad H locs ls (h.stk (bg_vk2 trivial (bg_tl (bg_tl h.vk))))
  simp only [List.map_cons, bg_cv] at hz ⊢
  rw [show Int32.ofInt (bg_xor x y) = _ from Int32.ofInt_toInt _] at hz
  exact hz
theorem sm_ishl (hC : bg_Cx p s m args meth c D cy A M) {x y : Int} (hd : decode M.2.1 pc = .ok (.ishl, 1)) (hk : bg_Sim p l e R s m args below meth c Q D cy A E0 M.2.2.1 (pc + 1, L, .inl (bg_shl x y) :: r, Hh, cn)) : bg_Sim p l e R s m args below meth c Q D cy A E0 M.2.2.1 (pc, L, .inl y :: .inl x :: r, Hh, cn) := by
  intro ad H locs ls h
  refine lv_ishl hC.1 hC.2.1 hd ?_
  have hz := hk ad H locs ls (h.stk (bg_vk2 trivial (bg_tl (bg_tl h.vk))))
  simp only [List.map_cons, bg_cv] at hz ⊢
  rw [show Int32.ofInt (bg_shl x y) = _ from Int32.ofInt_toInt _] at hz
  exact hz
theorem sm_ishr (hC : bg_Cx p s m args meth c D cy A M) {x y : Int} (hd : decode M.2.1 pc = .ok (.ishr, 1)) (hk : bg_Sim p l e R s m args below meth c Q D cy A E0 M.2.2.1 (pc + 1, L, .inl (bg_shr x y) :: r, Hh, cn)) : bg_Sim p l e R s m args below meth c Q D cy A E0 M.2.2.1 (pc, L, .inl y :: .inl x :: r, Hh, cn) := by
  intro ad H locs ls h
  refine lv_ishr hC.1 hC.2.1 hd ?_
  have hz := hk ad H locs ls (h.stk (bg_vk2 trivial (bg_tl (bg_tl h.vk))))
  simp only [List.map_cons, bg_cv] at hz ⊢
  rw [show Int32.ofInt (bg_shr x y) = _ from Int32.ofInt_toInt _] at hz
  exact hz
theorem sm_idiv (hC : bg_Cx p s m args meth c D cy A M) {x y : Int} (hd : decode M.2.1 pc = .ok (.idiv, 1)) (hy : bg_w y ≠ 0) (hk : bg_Sim p l e R s m args below meth c Q D cy A E0 M.2.2.1 (pc + 1, L, .inl (bg_div x y) :: r, Hh, cn)) : bg_Sim p l e R s m args below meth c Q D cy A E0 M.2.2.1 (pc, L, .inl y :: .inl x :: r, Hh, cn) := by
  intro ad H locs ls h
  refine lv_idiv hC.1 hC.2.1 hd (fun q => hy (by unfold bg_w; rw [q]; rfl)) ?_
  have hz := hk ad H locs ls (h.stk (bg_vk2 trivial (bg_tl (bg_tl h.vk))))
  simp only [List.map_cons, bg_cv] at hz ⊢
  rw [show Int32.ofInt (bg_div x y) = _ from Int32.ofInt_toInt _] at hz
  exact hz
theorem sm_irem (hC : bg_Cx p s m args meth c D cy A M) {x y : Int} (hd : decode M.2.1 pc = .ok (.irem, 1)) (hy : bg_w y ≠ 0) (hk : bg_Sim p l e R s m args below meth c Q D cy A E0 M.2.2.1 (pc + 1, L, .inl (bg_rem x y) :: r, Hh, cn)) : bg_Sim p l e R s m args below meth c Q D cy A E0 M.2.2.1 (pc, L, .inl y :: .inl x :: r, Hh, cn) := by
  intro ad H locs ls h
  refine lv_irem hC.1 hC.2.1 hd (fun q => hy (by unfold bg_w; rw [q]; rfl)) ?_
  have hz := hk ad H locs ls (h.stk (bg_vk2 trivial (bg_tl (bg_tl h.vk))))
  simp only [List.map_cons, bg_cv] at hz ⊢
  rw [show Int32.ofInt (bg_rem x y) = _ from Int32.ofInt_toInt _] at hz
  exact hz
theorem sm_ineg (hC : bg_Cx p s m args meth c D cy A M) {x : Int} (hd : decode M.2.1 pc = .ok (.ineg, 1)) (hk : bg_Sim p l e R s m args below meth c Q D cy A E0 M.2.2.1 (pc + 1, L, .inl (-x) :: r, Hh, cn)) : bg_Sim p l e R s m args below meth c Q D cy A E0 M.2.2.1 (pc, L, .inl x :: r, Hh, cn) := by
  intro ad H locs ls h
  refine lv_ineg hC.1 hC.2.1 hd ?_
  have hz := hk ad H locs ls (h.stk (bg_vk2 trivial (bg_tl h.vk)))
  simp only [List.map_cons, bg_cv] at hz ⊢
  rw [show Int32.ofInt (-x) = _ from Int32.ofInt_neg ..] at hz
  exact hz
theorem sm_iushr (hC : bg_Cx p s m args meth c D cy A M) {x y : Int} (hd : decode M.2.1 pc = .ok (.iushr, 1)) (hk : bg_Sim p l e R s m args below meth c Q D cy A E0 M.2.2.1 (pc + 1, L, .inl (bg_ushr x y) :: r, Hh, cn)) : bg_Sim p l e R s m args below meth c Q D cy A E0 M.2.2.1 (pc, L, .inl y :: .inl x :: r, Hh, cn) := by
  intro ad H locs ls h
  exact lv_iushr hC.1 hC.2.1 hd (Int32.ofInt_toInt _).symm (hk ad H locs ls (h.stk (bg_vk2 trivial (bg_tl (bg_tl h.vk)))))
theorem sm_ladd (hC : bg_Cx p s m args meth c D cy A M) {x y : Int} (hd : decode M.2.1 pc = .ok (.ladd, 1)) (hk : bg_Sim p l e R s m args below meth c Q D cy A E0 M.2.2.1 (pc + 1, L, .inr (.inl (x + y)) :: r, Hh, cn)) : bg_Sim p l e R s m args below meth c Q D cy A E0 M.2.2.1 (pc, L, .inr (.inl y) :: .inr (.inl x) :: r, Hh, cn) := by
  intro ad H locs ls h
  refine lv_ladd hC.1 hC.2.1 hd ?_
  have hz := hk ad H locs ls (h.stk (bg_vk2 trivial (bg_tl (bg_tl h.vk))))
  simp only [List.map_cons, bg_cv] at hz ⊢
  rw [show Int64.ofInt (x + y) = _ from Int64.ofInt_add ..] at hz
  exact hz
theorem sm_lsub (hC : bg_Cx p s m args meth c D cy A M) {x y : Int} (hd : decode M.2.1 pc = .ok (.lsub, 1)) (hk : bg_Sim p l e R s m args below meth c Q D cy A E0 M.2.2.1 (pc + 1, L, .inr (.inl (x - y)) :: r, Hh, cn)) : bg_Sim p l e R s m args below meth c Q D cy A E0 M.2.2.1 (pc, L, .inr (.inl y) :: .inr (.inl x) :: r, Hh, cn) := by
  intro ad H locs ls h
  refine lv_lsub hC.1 hC.2.1 hd ?_
  have hz := hk ad H locs ls (h.stk (bg_vk2 trivial (bg_tl (bg_tl h.vk))))
  simp only [List.map_cons, bg_cv] at hz ⊢
  rw [show Int64.ofInt (x - y) = _ from Int64.ofInt_sub ..] at hz
  exact hz
theorem sm_lmul (hC : bg_Cx p s m args meth c D cy A M) {x y : Int} (hd : decode M.2.1 pc = .ok (.lmul, 1)) (hk : bg_Sim p l e R s m args below meth c Q D cy A E0 M.2.2.1 (pc + 1, L, .inr (.inl (x * y)) :: r, Hh, cn)) : bg_Sim p l e R s m args below meth c Q D cy A E0 M.2.2.1 (pc, L, .inr (.inl y) :: .inr (.inl x) :: r, Hh, cn) := by
  intro ad H locs ls h
  refine lv_lmul hC.1 hC.2.1 hd ?_
  have hz := hk ad H locs ls (h.stk (bg_vk2 trivial (bg_tl (bg_tl h.vk))))
  simp only [List.map_cons, bg_cv] at hz ⊢
  rw [show Int64.ofInt (x * y) = _ from Int64.ofInt_mul ..] at hz
  exact hz
theorem sm_land (hC : bg_Cx p s m args meth c D cy A M) {x y : Int} (hd : decode M.2.1 pc = .ok (.land, 1)) (hk : bg_Sim p l e R s m args below meth c Q D cy A E0 M.2.2.1 (pc + 1, L, .inr (.inl (bg_And x y)) :: r, Hh, cn)) : bg_Sim p l e R s m args below meth c Q D cy A E0 M.2.2.1 (pc, L, .inr (.inl y) :: .inr (.inl x) :: r, Hh, cn) := by
  intro ad H locs ls h
  refine lv_land hC.1 hC.2.1 hd ?_
  have hz := hk ad H locs ls (h.stk (bg_vk2 trivial (bg_tl (bg_tl h.vk))))
  simp only [List.map_cons, bg_cv] at hz ⊢
  rw [show Int64.ofInt (bg_And x y) = _ from Int64.ofInt_toInt _] at hz
  exact hz
theorem sm_lor (hC : bg_Cx p s m args meth c D cy A M) {x y : Int} (hd : decode M.2.1 pc = .ok (.lor, 1)) (hk : bg_Sim p l e R s m args below meth c Q D cy A E0 M.2.2.1 (pc + 1, L, .inr (.inl (bg_Or x y)) :: r, Hh, cn)) : bg_Sim p l e R s m args below meth c Q D cy A E0 M.2.2.1 (pc, L, .inr (.inl y) :: .inr (.inl x) :: r, Hh, cn) := by
  intro ad H locs ls h
  refine lv_lor hC.1 hC.2.1 hd ?_
  have hz := hk ad H locs ls (h.stk (bg_vk2 trivial (bg_tl (bg_tl h.vk))))
  simp only [List.map_cons, bg_cv] at hz ⊢
  rw [show Int64.ofInt (bg_Or x y) = _ from Int64.ofInt_toInt _] at hz
  exact hz
theorem sm_ldiv (hC : bg_Cx p s m args meth c D cy A M) {x y : Int} (hd : decode M.2.1 pc = .ok (.ldiv, 1)) (hy : bg_W y ≠ 0) (hk : bg_Sim p l e R s m args below meth c Q D cy A E0 M.2.2.1 (pc + 1, L, .inr (.inl (bg_Div x y)) :: r, Hh, cn)) : bg_Sim p l e R s m args below meth c Q D cy A E0 M.2.2.1 (pc, L, .inr (.inl y) :: .inr (.inl x) :: r, Hh, cn) := by
  intro ad H locs ls h
  refine lv_ldiv hC.1 hC.2.1 hd (fun q => hy (by unfold bg_W; rw [q]; rfl)) ?_
  have hz := hk ad H locs ls (h.stk (bg_vk2 trivial (bg_tl (bg_tl h.vk))))
  simp only [List.map_cons, bg_cv] at hz ⊢
  rw [show Int64.ofInt (bg_Div x y) = _ from Int64.ofInt_toInt _] at hz
  exact hz
theorem sm_lrem (hC : bg_Cx p s m args meth c D cy A M) {x y : Int} (hd : decode M.2.1 pc = .ok (.lrem, 1)) (hy : bg_W y ≠ 0) (hk : bg_Sim p l e R s m args below meth c Q D cy A E0 M.2.2.1 (pc + 1, L, .inr (.inl (bg_Rem x y)) :: r, Hh, cn)) : bg_Sim p l e R s m args below meth c Q D cy A E0 M.2.2.1 (pc, L, .inr (.inl y) :: .inr (.inl x) :: r, Hh, cn) := by
  intro ad H locs ls h
  refine lv_lrem hC.1 hC.2.1 hd (fun q => hy (by unfold bg_W; rw [q]; rfl)) ?_
  have hz := hk ad H locs ls (h.stk (bg_vk2 trivial (bg_tl (bg_tl h.vk))))
  simp only [List.map_cons, bg_cv] at hz ⊢
  rw [show Int64.ofInt (bg_Rem x y) = _ from Int64.ofInt_toInt _] at hz
  exact hz
theorem sm_lneg (hC : bg_Cx p s m args meth c D cy A M) {x : Int} (hd : decode M.2.1 pc = .ok (.lneg, 1)) (hk : bg_Sim p l e R s m args below meth c Q D cy A E0 M.2.2.1 (pc + 1, L, .inr (.inl (-x)) :: r, Hh, cn)) : bg_Sim p l e R s m args below meth c Q D cy A E0 M.2.2.1 (pc, L, .inr (.inl x) :: r, Hh, cn) := by
  intro ad H locs ls h
  refine lv_lneg hC.1 hC.2.1 hd ?_
  have hz := hk ad H locs ls (h.stk (bg_vk2 trivial (bg_tl h.vk)))
  simp only [List.map_cons, bg_cv] at hz ⊢
  rw [show Int64.ofInt (-x) = _ from Int64.ofInt_neg ..] at hz
  exact hz
theorem sm_lshl (hC : bg_Cx p s m args meth c D cy A M) {x y : Int} (hd : decode M.2.1 pc = .ok (.lshl, 1)) (hk : bg_Sim p l e R s m args below meth c Q D cy A E0 M.2.2.1 (pc + 1, L, .inr (.inl (bg_Shl x y)) :: r, Hh, cn)) : bg_Sim p l e R s m args below meth c Q D cy A E0 M.2.2.1 (pc, L, .inl y :: .inr (.inl x) :: r, Hh, cn) := by
  intro ad H locs ls h
  exact lv_lshl hC.1 hC.2.1 hd (Int64.ofInt_toInt _).symm (hk ad H locs ls (h.stk (bg_vk2 trivial (bg_tl (bg_tl h.vk)))))
theorem sm_lshr (hC : bg_Cx p s m args meth c D cy A M) {x y : Int} (hd : decode M.2.1 pc = .ok (.lshr, 1)) (hk : bg_Sim p l e R s m args below meth c Q D cy A E0 M.2.2.1 (pc + 1, L, .inr (.inl (bg_Shr x y)) :: r, Hh, cn)) : bg_Sim p l e R s m args below meth c Q D cy A E0 M.2.2.1 (pc, L, .inl y :: .inr (.inl x) :: r, Hh, cn) := by
  intro ad H locs ls h
  exact lv_lshr hC.1 hC.2.1 hd (Int64.ofInt_toInt _).symm (hk ad H locs ls (h.stk (bg_vk2 trivial (bg_tl (bg_tl h.vk)))))
theorem sm_lushr (hC : bg_Cx p s m args meth c D cy A M) {x y : Int} (hd : decode M.2.1 pc = .ok (.lushr, 1)) (hk : bg_Sim p l e R s m args below meth c Q D cy A E0 M.2.2.1 (pc + 1, L, .inr (.inl (bg_Ushr x y)) :: r, Hh, cn)) : bg_Sim p l e R s m args below meth c Q D cy A E0 M.2.2.1 (pc, L, .inl y :: .inr (.inl x) :: r, Hh, cn) := by
  intro ad H locs ls h
  exact lv_lushr hC.1 hC.2.1 hd (Int64.ofInt_toInt _).symm (hk ad H locs ls (h.stk (bg_vk2 trivial (bg_tl (bg_tl h.vk)))))
theorem bg_cmp_eq (x y : Int) : Int32.ofInt (bg_Cmp x y) = lg_cmp (Int64.ofInt x) (Int64.ofInt y) := by
  unfold bg_Cmp lg_cmp bg_W
  simp only [gt_iff_lt, Int64.lt_iff_toInt_lt, ← Int64.toInt_inj]
  split
  · rfl
  · split <;> rfl
theorem sm_lcmp (hC : bg_Cx p s m args meth c D cy A M) {x y : Int} (hd : decode M.2.1 pc = .ok (.lcmp, 1)) (hk : bg_Sim p l e R s m args below meth c Q D cy A E0 M.2.2.1 (pc + 1, L, .inl (bg_Cmp x y) :: r, Hh, cn)) : bg_Sim p l e R s m args below meth c Q D cy A E0 M.2.2.1 (pc, L, .inr (.inl y) :: .inr (.inl x) :: r, Hh, cn) := by
  intro ad H locs ls h
  refine W.lcmp hC.1 hC.2.1 hd ?_
  have hz := hk ad H locs ls (h.stk (bg_vk2 trivial (bg_tl (bg_tl h.vk))))
  simp only [List.map_cons, bg_cv] at hz ⊢
  rw [bg_cmp_eq] at hz
  exact hz
theorem bg_w_lo (x : Int) : -2147483648 ≤ bg_w x := by have := Int32.le_toInt (Int32.ofInt x); unfold bg_w; simpa using this
theorem bg_w_hi (x : Int) : bg_w x ≤ 2147483647 := by have := Int32.toInt_lt (Int32.ofInt x); unfold bg_w; have h2 : (2:Int) ^ 31 = 2147483648 := by decide
                                                      omega
theorem bg_i2l_val (x : Int) : (Int64.ofInt (bg_w x)).toInt = (Int32.ofInt x).toInt := by
  have h1 := bg_w_lo x
  have h2 := bg_w_hi x
  rw [Int64.toInt_ofInt, Int.bmod_eq_of_le (by simp; omega) (by simp; omega)]
  rfl
theorem sm_i2l (hC : bg_Cx p s m args meth c D cy A M) {x : Int} (hd : decode M.2.1 pc = .ok (.i2l, 1)) (hk : bg_Sim p l e R s m args below meth c Q D cy A E0 M.2.2.1 (pc + 1, L, .inr (.inl (bg_w x)) :: r, Hh, cn)) : bg_Sim p l e R s m args below meth c Q D cy A E0 M.2.2.1 (pc, L, .inl x :: r, Hh, cn) := by
  intro ad H locs ls h
  exact lv_i2l hC.1 hC.2.1 hd (by rw [← Int64.toInt_inj, Int32.toInt_toInt64]; exact (bg_i2l_val x).symm) (hk ad H locs ls (h.stk (bg_vk2 trivial (bg_tl h.vk))))
theorem sm_l2i (hC : bg_Cx p s m args meth c D cy A M) {x : Int} (hd : decode M.2.1 pc = .ok (.l2i, 1)) (hk : bg_Sim p l e R s m args below meth c Q D cy A E0 M.2.2.1 (pc + 1, L, .inl x :: r, Hh, cn)) : bg_Sim p l e R s m args below meth c Q D cy A E0 M.2.2.1 (pc, L, .inr (.inl x) :: r, Hh, cn) := by
  intro ad H locs ls h
  exact lv_l2i hC.1 hC.2.1 hd (by simp) (hk ad H locs ls (h.stk (bg_vk2 trivial (bg_tl h.vk))))
theorem sm_dup_i (hC : bg_Cx p s m args meth c D cy A M) {x : Int} (hd : decode M.2.1 pc = .ok (.dup, 1)) (hk : bg_Sim p l e R s m args below meth c Q D cy A E0 M.2.2.1 (pc + 1, L, .inl x :: .inl x :: r, Hh, cn)) : bg_Sim p l e R s m args below meth c Q D cy A E0 M.2.2.1 (pc, L, .inl x :: r, Hh, cn) := by
  intro ad H locs ls h
  exact lv_dup hC.1 hC.2.1 hd rfl (hk ad H locs ls (h.stk (bg_vk2 trivial h.vk)))
theorem sm_dup_r (hC : bg_Cx p s m args meth c D cy A M) {x : Option Nat} (hd : decode M.2.1 pc = .ok (.dup, 1)) (hk : bg_Sim p l e R s m args below meth c Q D cy A E0 M.2.2.1 (pc + 1, L, .inr (.inr x) :: .inr (.inr x) :: r, Hh, cn)) : bg_Sim p l e R s m args below meth c Q D cy A E0 M.2.2.1 (pc, L, .inr (.inr x) :: r, Hh, cn) := by
  intro ad H locs ls h
  exact lv_dup hC.1 hC.2.1 hd (by cases x <;> rfl) (hk ad H locs ls (h.stk (bg_vk2 (h.vk _ List.mem_cons_self) h.vk)))
theorem sm_dup2_ir (hC : bg_Cx p s m args meth c D cy A M) {i : Int} {x : Option Nat} (hd : decode M.2.1 pc = .ok (.dup2, 1)) (hk : bg_Sim p l e R s m args below meth c Q D cy A E0 M.2.2.1 (pc + 1, L, .inl i :: .inr (.inr x) :: .inl i :: .inr (.inr x) :: r, Hh, cn)) : bg_Sim p l e R s m args below meth c Q D cy A E0 M.2.2.1 (pc, L, .inl i :: .inr (.inr x) :: r, Hh, cn) := by
  intro ad H locs ls h
  refine lv_dup2_11 hC.1 hC.2.1 hd rfl (by cases x <;> rfl) (hk ad H locs ls (h.stk (fun v hv => ?_)))
  rcases List.mem_cons.mp hv with rfl | hv
  · trivial
  · rcases List.mem_cons.mp hv with rfl | hv
    · exact h.vk _ (List.mem_cons_of_mem _ List.mem_cons_self)
    · exact h.vk v hv
theorem sm_dup2_l (hC : bg_Cx p s m args meth c D cy A M) {x : Int} (hd : decode M.2.1 pc = .ok (.dup2, 1)) (hk : bg_Sim p l e R s m args below meth c Q D cy A E0 M.2.2.1 (pc + 1, L, .inr (.inl x) :: .inr (.inl x) :: r, Hh, cn)) : bg_Sim p l e R s m args below meth c Q D cy A E0 M.2.2.1 (pc, L, .inr (.inl x) :: r, Hh, cn) := by
  intro ad H locs ls h
  exact lv_dup2_2 hC.1 hC.2.1 hd rfl (hk ad H locs ls (h.stk (bg_vk2 trivial h.vk)))
theorem sm_goto (hC : bg_Cx p s m args meth c D cy A M) {a : Nat} {off : Int} (hd : decode M.2.1 pc = .ok (.goto off, 3)) (ha : (pc : Int) + off = a) (hk : bg_Sim p l e R s m args below meth c Q D cy A E0 M.2.2.1 (a, L, st, Hh, cn)) : bg_Sim p l e R s m args below meth c Q D cy A E0 M.2.2.1 (pc, L, st, Hh, cn) := by
  intro ad H locs ls h
  exact lv_goto hC.1 hC.2.1 hd ha (hk ad H locs ls h)
theorem sm_if_eq (hC : bg_Cx p s m args meth c D cy A M) {x off : Int} {a : Nat} (hd : decode M.2.1 pc = .ok (.ifCond .eq off, 3)) (ha : (pc : Int) + off = a) (ht : bg_w x = 0 → bg_Sim p l e R s m args below meth c Q D cy A E0 M.2.2.1 (a, L, r, Hh, cn)) (hf : ¬ bg_w x = 0 → bg_Sim p l e R s m args below meth c Q D cy A E0 M.2.2.1 (pc + 3, L, r, Hh, cn)) : bg_Sim p l e R s m args below meth c Q D cy A E0 M.2.2.1 (pc, L, .inl x :: r, Hh, cn) := by
  intro ad H locs ls h
  refine lv_if_eq hC.1 hC.2.1 hd ha (fun q => ht ?_ ad H locs ls (h.stk (fun v hv => h.vk v (List.mem_cons_of_mem _ (hv))))) (fun q => hf ?_ ad H locs ls (h.stk (fun v hv => h.vk v (List.mem_cons_of_mem _ (hv))))) <;> (unfold bg_w; simp only [Int32.lt_iff_toInt_lt, Int32.le_iff_toInt_le, ← Int32.toInt_inj, Int32.toInt_zero, ne_eq, Int.not_lt, Int.not_le, not_false_eq_true, Classical.not_not] at q ⊢; first | exact q | omega)
theorem sm_icmp_eq (hC : bg_Cx p s m args meth c D cy A M) {x y off : Int} {a : Nat} (hd : decode M.2.1 pc = .ok (.if_icmp .eq off, 3)) (ha : (pc : Int) + off = a) (ht : bg_w x = bg_w y → bg_Sim p l e R s m args below meth c Q D cy A E0 M.2.2.1 (a, L, r, Hh, cn)) (hf : ¬ bg_w x = bg_w y → bg_Sim p l e R s m args below meth c Q D cy A E0 M.2.2.1 (pc + 3, L, r, Hh, cn)) : bg_Sim p l e R s m args below meth c Q D cy A E0 M.2.2.1 (pc, L, .inl y :: .inl x :: r, Hh, cn) := by
  intro ad H locs ls h
  refine lv_icmp_eq hC.1 hC.2.1 hd ha (fun q => ht ?_ ad H locs ls (h.stk (fun v hv => h.vk v (List.mem_cons_of_mem _ (List.mem_cons_of_mem _ (hv)))))) (fun q => hf ?_ ad H locs ls (h.stk (fun v hv => h.vk v (List.mem_cons_of_mem _ (List.mem_cons_of_mem _ (hv)))))) <;> (unfold bg_w; simp only [Int32.lt_iff_toInt_lt, Int32.le_iff_toInt_le, ← Int32.toInt_inj, Int32.toInt_zero, ne_eq, Int.not_lt, Int.not_le, not_false_eq_true, Classical.not_not] at q ⊢; first | exact q | omega)
theorem sm_if_ne (hC : bg_Cx p s m args meth c D cy A M) {x off : Int} {a : Nat} (hd : decode M.2.1 pc = .ok (.ifCond .ne off, 3)) (ha : (pc : Int) + off = a) (ht : ¬ bg_w x = 0 → bg_Sim p l e R s m args below meth c Q D cy A E0 M.2.2.1 (a, L, r, Hh, cn)) (hf : bg_w x = 0 → bg_Sim p l e R s m args below meth c Q D cy A E0 M.2.2.1 (pc + 3, L, r, Hh, cn)) : bg_Sim p l e R s m args below meth c Q D cy A E0 M.2.2.1 (pc, L, .inl x :: r, Hh, cn) := by
  intro ad H locs ls h
  refine lv_if_ne hC.1 hC.2.1 hd ha (fun q => ht ?_ ad H locs ls (h.stk (fun v hv => h.vk v (List.mem_cons_of_mem _ (hv))))) (fun q => hf ?_ ad H locs ls (h.stk (fun v hv => h.vk v (List.mem_cons_of_mem _ (hv))))) <;> (unfold bg_w; simp only [Int32.lt_iff_toInt_lt, Int32.le_iff_toInt_le, ← Int32.toInt_inj, Int32.toInt_zero, ne_eq, Int.not_lt, Int.not_le, not_false_eq_true, Classical.not_not] at q ⊢; first | exact q | omega)
theorem sm_icmp_ne (hC : bg_Cx p s m args meth c D cy A M) {x y off : Int} {a : Nat} (hd : decode M.2.1 pc = .ok (.if_icmp .ne off, 3)) (ha : (pc : Int) + off = a) (ht : ¬ bg_w x = bg_w y → bg_Sim p l e R s m args below meth c Q D cy A E0 M.2.2.1 (a, L, r, Hh, cn)) (hf : bg_w x = bg_w y → bg_Sim p l e R s m args below meth c Q D cy A E0 M.2.2.1 (pc + 3, L, r, Hh, cn)) : bg_Sim p l e R s m args below meth c Q D cy A E0 M.2.2.1 (pc, L, .inl y :: .inl x :: r, Hh, cn) := by
  intro ad H locs ls h
  refine lv_icmp_ne hC.1 hC.2.1 hd ha (fun q => ht ?_ ad H locs ls (h.stk (fun v hv => h.vk v (List.mem_cons_of_mem _ (List.mem_cons_of_mem _ (hv)))))) (fun q => hf ?_ ad H locs ls (h.stk (fun v hv => h.vk v (List.mem_cons_of_mem _ (List.mem_cons_of_mem _ (hv)))))) <;> (unfold bg_w; simp only [Int32.lt_iff_toInt_lt, Int32.le_iff_toInt_le, ← Int32.toInt_inj, Int32.toInt_zero, ne_eq, Int.not_lt, Int.not_le, not_false_eq_true, Classical.not_not] at q ⊢; first | exact q | omega)
theorem sm_if_lt (hC : bg_Cx p s m args meth c D cy A M) {x off : Int} {a : Nat} (hd : decode M.2.1 pc = .ok (.ifCond .lt off, 3)) (ha : (pc : Int) + off = a) (ht : bg_w x < 0 → bg_Sim p l e R s m args below meth c Q D cy A E0 M.2.2.1 (a, L, r, Hh, cn)) (hf : ¬ bg_w x < 0 → bg_Sim p l e R s m args below meth c Q D cy A E0 M.2.2.1 (pc + 3, L, r, Hh, cn)) : bg_Sim p l e R s m args below meth c Q D cy A E0 M.2.2.1 (pc, L, .inl x :: r, Hh, cn) := by
  intro ad H locs ls h
  refine lv_if_lt hC.1 hC.2.1 hd ha (fun q => ht ?_ ad H locs ls (h.stk (fun v hv => h.vk v (List.mem_cons_of_mem _ (hv))))) (fun q => hf ?_ ad H locs ls (h.stk (fun v hv => h.vk v (List.mem_cons_of_mem _ (hv))))) <;> (unfold bg_w; simp only [Int32.lt_iff_toInt_lt, Int32.le_iff_toInt_le, ← Int32.toInt_inj, Int32.toInt_zero, ne_eq, Int.not_lt, Int.not_le, not_false_eq_true, Classical.not_not] at q ⊢; first | exact q | omega)
theorem sm_icmp_lt (hC : bg_Cx p s m args meth c D cy A M) {x y off : Int} {a : Nat} (hd : decode M.2.1 pc = .ok (.if_icmp .lt off, 3)) (ha : (pc : Int) + off = a) (ht : bg_w x < bg_w y → bg_Sim p l e R s m args below meth c Q D cy A E0 M.2.2.1 (a, L, r, Hh, cn)) (hf : ¬ bg_w x < bg_w y → bg_Sim p l e R s m args below meth c Q D cy A E0 M.2.2.1 (pc + 3, L, r, Hh, cn)) : bg_Sim p l e R s m args below meth c Q D cy A E0 M.2.2.1 (pc, L, .inl y :: .inl x :: r, Hh, cn) := by
  intro ad H locs ls h
  refine lv_icmp_lt hC.1 hC.2.1 hd ha (fun q => ht ?_ ad H locs ls (h.stk (fun v hv => h.vk v (List.mem_cons_of_mem _ (List.mem_cons_of_mem _ (hv)))))) (fun q => hf ?_ ad H locs ls (h.stk (fun v hv => h.vk v (List.mem_cons_of_mem _ (List.mem_cons_of_mem _ (hv)))))) <;> (unfold bg_w; simp only [Int32.lt_iff_toInt_lt, Int32.le_iff_toInt_le, ← Int32.toInt_inj, Int32.toInt_zero, ne_eq, Int.not_lt, Int.not_le, not_false_eq_true, Classical.not_not] at q ⊢; first | exact q | omega)
theorem sm_if_ge (hC : bg_Cx p s m args meth c D cy A M) {x off : Int} {a : Nat} (hd : decode M.2.1 pc = .ok (.ifCond .ge off, 3)) (ha : (pc : Int) + off = a) (ht : ¬ bg_w x < 0 → bg_Sim p l e R s m args below meth c Q D cy A E0 M.2.2.1 (a, L, r, Hh, cn)) (hf : bg_w x < 0 → bg_Sim p l e R s m args below meth c Q D cy A E0 M.2.2.1 (pc + 3, L, r, Hh, cn)) : bg_Sim p l e R s m args below meth c Q D cy A E0 M.2.2.1 (pc, L, .inl x :: r, Hh, cn) := by
  intro ad H locs ls h
  refine lv_if_ge hC.1 hC.2.1 hd ha (fun q => ht ?_ ad H locs ls (h.stk (fun v hv => h.vk v (List.mem_cons_of_mem _ (hv))))) (fun q => hf ?_ ad H locs ls (h.stk (fun v hv => h.vk v (List.mem_cons_of_mem _ (hv))))) <;> (unfold bg_w; simp only [Int32.lt_iff_toInt_lt, Int32.le_iff_toInt_le, ← Int32.toInt_inj, Int32.toInt_zero, ne_eq, Int.not_lt, Int.not_le, not_false_eq_true, Classical.not_not] at q ⊢; first | exact q | omega)
theorem sm_icmp_ge (hC : bg_Cx p s m args meth c D cy A M) {x y off : Int} {a : Nat} (hd : decode M.2.1 pc = .ok (.if_icmp .ge off, 3)) (ha : (pc : Int) + off = a) (ht : ¬ bg_w x < bg_w y → bg_Sim p l e R s m args below meth c Q D cy A E0 M.2.2.1 (a, L, r, Hh, cn)) (hf : bg_w x < bg_w y → bg_Sim p l e R s m args below meth c Q D cy A E0 M.2.2.1 (pc + 3, L, r, Hh, cn)) : bg_Sim p l e R s m args below meth c Q D cy A E0 M.2.2.1 (pc, L, .inl y :: .inl x :: r, Hh, cn) := by
  intro ad H locs ls h
  refine lv_icmp_ge hC.1 hC.2.1 hd ha (fun q => ht ?_ ad H locs ls (h.stk (fun v hv => h.vk v (List.mem_cons_of_mem _ (List.mem_cons_of_mem _ (hv)))))) (fun q => hf ?_ ad H locs ls (h.stk (fun v hv => h.vk v (List.mem_cons_of_mem _ (List.mem_cons_of_mem _ (hv)))))) <;> (unfold bg_w; simp only [Int32.lt_iff_toInt_lt, Int32.le_iff_toInt_le, ← Int32.toInt_inj, Int32.toInt_zero, ne_eq, Int.not_lt, Int.not_le, not_false_eq_true, Classical.not_not] at q ⊢; first | exact q | omega)
theorem sm_if_gt (hC : bg_Cx p s m args meth c D cy A M) {x off : Int} {a : Nat} (hd : decode M.2.1 pc = .ok (.ifCond .gt off, 3)) (ha : (pc : Int) + off = a) (ht : 0 < bg_w x → bg_Sim p l e R s m args below meth c Q D cy A E0 M.2.2.1 (a, L, r, Hh, cn)) (hf : ¬ 0 < bg_w x → bg_Sim p l e R s m args below meth c Q D cy A E0 M.2.2.1 (pc + 3, L, r, Hh, cn)) : bg_Sim p l e R s m args below meth c Q D cy A E0 M.2.2.1 (pc, L, .inl x :: r, Hh, cn) := by
  intro ad H locs ls h
  refine lv_if_gt hC.1 hC.2.1 hd ha (fun q => ht ?_ ad H locs ls (h.stk (fun v hv => h.vk v (List.mem_cons_of_mem _ (hv))))) (fun q => hf ?_ ad H locs ls (h.stk (fun v hv => h.vk v (List.mem_cons_of_mem _ (hv))))) <;> (unfold bg_w; simp only [Int32.lt_iff_toInt_lt, Int32.le_iff_toInt_le, ← Int32.toInt_inj, Int32.toInt_zero, ne_eq, Int.not_lt, Int.not_le, not_false_eq_true, Classical.not_not] at q ⊢; first | exact q | omega)
theorem sm_icmp_gt (hC : bg_Cx p s m args meth c D cy A M) {x y off : Int} {a : Nat} (hd : decode M.2.1 pc = .ok (.if_icmp .gt off, 3)) (ha : (pc : Int) + off = a) (ht : bg_w y < bg_w x → bg_Sim p l e R s m args below meth c Q D cy A E0 M.2.2.1 (a, L, r, Hh, cn)) (hf : ¬ bg_w y < bg_w x → bg_Sim p l e R s m args below meth c Q D cy A E0 M.2.2.1 (pc + 3, L, r, Hh, cn)) : bg_Sim p l e R s m args below meth c Q D cy A E0 M.2.2.1 (pc, L, .inl y :: .inl x :: r, Hh, cn) := by
  intro ad H locs ls h
  refine lv_icmp_gt hC.1 hC.2.1 hd ha (fun q => ht ?_ ad H locs ls (h.stk (fun v hv => h.vk v (List.mem_cons_of_mem _ (List.mem_cons_of_mem _ (hv)))))) (fun q => hf ?_ ad H locs ls (h.stk (fun v hv => h.vk v (List.mem_cons_of_mem _ (List.mem_cons_of_mem _ (hv)))))) <;> (unfold bg_w; simp only [Int32.lt_iff_toInt_lt, Int32.le_iff_toInt_le, ← Int32.toInt_inj, Int32.toInt_zero, ne_eq, Int.not_lt, Int.not_le, not_false_eq_true, Classical.not_not] at q ⊢; first | exact q | omega)
theorem sm_if_le (hC : bg_Cx p s m args meth c D cy A M) {x off : Int} {a : Nat} (hd : decode M.2.1 pc = .ok (.ifCond .le off, 3)) (ha : (pc : Int) + off = a) (ht : ¬ 0 < bg_w x → bg_Sim p l e R s m args below meth c Q D cy A E0 M.2.2.1 (a, L, r, Hh, cn)) (hf : 0 < bg_w x → bg_Sim p l e R s m args below meth c Q D cy A E0 M.2.2.1 (pc + 3, L, r, Hh, cn)) : bg_Sim p l e R s m args below meth c Q D cy A E0 M.2.2.1 (pc, L, .inl x :: r, Hh, cn) := by
  intro ad H locs ls h
  refine lv_if_le hC.1 hC.2.1 hd ha (fun q => ht ?_ ad H locs ls (h.stk (fun v hv => h.vk v (List.mem_cons_of_mem _ (hv))))) (fun q => hf ?_ ad H locs ls (h.stk (fun v hv => h.vk v (List.mem_cons_of_mem _ (hv))))) <;> (unfold bg_w; simp only [Int32.lt_iff_toInt_lt, Int32.le_iff_toInt_le, ← Int32.toInt_inj, Int32.toInt_zero, ne_eq, Int.not_lt, Int.not_le, not_false_eq_true, Classical.not_not] at q ⊢; first | exact q | omega)
theorem sm_icmp_le (hC : bg_Cx p s m args meth c D cy A M) {x y off : Int} {a : Nat} (hd : decode M.2.1 pc = .ok (.if_icmp .le off, 3)) (ha : (pc : Int) + off = a) (ht : ¬ bg_w y < bg_w x → bg_Sim p l e R s m args below meth c Q D cy A E0 M.2.2.1 (a, L, r, Hh, cn)) (hf : bg_w y < bg_w x → bg_Sim p l e R s m args below meth c Q D cy A E0 M.2.2.1 (pc + 3, L, r, Hh, cn)) : bg_Sim p l e R s m args below meth c Q D cy A E0 M.2.2.1 (pc, L, .inl y :: .inl x :: r, Hh, cn) := by
  intro ad H locs ls h
  refine lv_icmp_le hC.1 hC.2.1 hd ha (fun q => ht ?_ ad H locs ls (h.stk (fun v hv => h.vk v (List.mem_cons_of_mem _ (List.mem_cons_of_mem _ (hv)))))) (fun q => hf ?_ ad H locs ls (h.stk (fun v hv => h.vk v (List.mem_cons_of_mem _ (List.mem_cons_of_mem _ (hv)))))) <;> (unfold bg_w; simp only [Int32.lt_iff_toInt_lt, Int32.le_iff_toInt_le, ← Int32.toInt_inj, Int32.toInt_zero, ne_eq, Int.not_lt, Int.not_le, not_false_eq_true, Classical.not_not] at q ⊢; first | exact q | omega)
end Bg
