/-! constructors: the world grows behind the object that is made -/
theorem va_AOA_spec {ty : FieldType} {U : State} (h : va_AOA ty U) : ∃ (comp c : ClassId) (k : Class), U.vm.findClass (FieldType.array ty).toString = some comp ∧ (U.vm.classes.findIdx? fun (x : Class) => match x.kind with | .array component _ => component == comp | _ => false) = some c ∧ U.vm.classes[c]? = some k ∧ k.kind = .array comp (.array ty) ∧ U.vm.findClass ("[" ++ (FieldType.array ty).toString) = some c := by
  unfold va_AOA Cond.before at h
  simp only [Cond.holds, Cond.value, beq_iff_eq] at h
  cases hc : U.vm.findClass (FieldType.array ty).toString with
  | none => simp [hc] at h
  | some comp =>
    simp only [hc, Option.bind_some, Option.bind_eq_some_iff, Option.map_eq_some_iff] at h
    obtain ⟨c, hi, k, hk, hb⟩ := h
    obtain ⟨hlt, hp, -⟩ := Array.findIdx?_eq_some_iff_getElem.mp hi
    have hkk : U.vm.classes[c] = k := (Array.getElem?_eq_some_iff.mp hk).2
    rw [hkk] at hp
    cases hkind : k.kind with
    | array component ty2 =>
      rw [hkind] at hb hp
      simp at hb hp
      exact ⟨comp, c, k, rfl, hi, hk, by rw [hkind, hp, hb.1], hb.2⟩
    | _ => rw [hkind] at hb; simp at hb
theorem va_AOA.moved {ty : FieldType} {u U : State} (hvm : u.vm.Alike U.vm) (h : va_AOA ty u) : va_AOA ty U := by
  obtain ⟨comp, c, k, h1, h2, h3, h4, h5⟩ := va_AOA_spec h
  obtain ⟨k', hk', he⟩ := hvm.2.2 _ _ h3
  have hi : (U.vm.classes.findIdx? fun (x : Class) => match x.kind with | .array component _ => component == comp | _ => false) = some c := by
    have e1 := va_idx_bare U.vm comp
    have e2 := va_idx_bare u.vm comp
    have e3 : U.vm.bare = u.vm.bare := by first | exact hvm.bare_eq | exact hvm.bare_eq.symm
    rw [e3] at e1
    exact (e1.symm.trans e2).trans h2
  have hkind : k'.kind = .array comp (.array ty) := by rw [he]; exact h4
  have f1 : U.vm.findClass (FieldType.array ty).toString = some comp := by rw [hvm.findClass]; exact h1
  have f2 : U.vm.findClass ("[" ++ (FieldType.array ty).toString) = some c := by rw [hvm.findClass]; exact h5
  unfold va_AOA Cond.before Cond.holds
  simp only [Cond.value]
  rw [f1, Option.bind_some]
  refine (congrArg (fun o : Option Nat => (o.bind (fun c => (U.vm.classes[c]?).map fun (k : Class) => match k.kind with | .array _ t => decide (t = FieldType.array ty) && decide (U.vm.findClass ("[" ++ (FieldType.array ty).toString) = some c) | _ => false) == some true)) hi).trans ?_
  simp [hk', hkind, f2]
def kW (w0 : va_W) (k h0 ci : Nat) (fs : List Value) (L : va_W) : va_W := w0.set k (h0, .inr (ci, fs)) ++ L
theorem gws' {args : Array Value} {s : State} {y : MethodName} {cd : ByteArray} {maxL : Nat} {ret1 : Option FieldType} (_ : ∀ w ∈ ws0, w.before args s = true) (hcw : Cond.code y cd maxL ret1 ∈ ws0) : GoodIn ws0 (Cond.code y cd maxL ret1 :: ws0) := by
  intro w hw
  rcases List.mem_cons.mp hw with rfl | hw
  · exact ⟨hcw, ws0_good hcw⟩
  · exact ⟨hw, ws0_good hw⟩
theorem kW_at {w0 : va_W} {k h0 ci : Nat} {fs : List Value} {L : va_W} (hk : k < w0.length) : (kW w0 k h0 ci fs L)[k]? = some (h0, .inr (ci, fs)) := by
  unfold kW
  rw [List.getElem?_append_left (by simpa using hk), List.getElem?_set_self hk]
theorem kW_set {w0 : va_W} {k h0 ci : Nat} {fs fs' : List Value} {L : va_W} (hk : k < w0.length) : (kW w0 k h0 ci fs L).set k (h0, .inr (ci, fs')) = kW w0 k h0 ci fs' L := by
  unfold kW
  rw [List.set_append_left _ _ (by simpa using hk), List.set_set]
theorem kW_push {w0 : va_W} {k h0 ci : Nat} {fs : List Value} {L L1 : va_W} : kW w0 k h0 ci fs L ++ L1 = kW w0 k h0 ci fs (L ++ L1) := by
  unfold kW
  rw [List.append_assoc]
theorem kW_in {w0 : va_W} {k h0 ci j : Nat} {fs : List Value} {L : va_W} {e : Nat × va_E} (h : L[j]? = some e) : (kW w0 k h0 ci fs L)[w0.length + j]? = some e := by
  unfold kW
  rw [List.getElem?_append_right (by simp)]
  simpa using h
theorem kW_call {w0 : va_W} {k h0 ci j : Nat} {fs : List Value} {L L1 : va_W} {e : Nat × va_E} : (kW w0 k h0 ci fs L).set (w0.length + j) e ++ L1 = kW w0 k h0 ci fs (L.set j e ++ L1) := by
  unfold kW
  rw [List.set_append_right _ _ (by simp), List.append_assoc]
  simp
/-- what is fixed while a constructor is under way -/
def kC (X : gX) (cc : ByteArray) (own : String) (nL : Nat) (fr lo mc ms : Nat) : Prop :=
  (xp X).tables.exec = Jvm.exec ∧ (xc X).code = cc ∧ (xc X).maxLocals = nL ∧ (xmeth X).sig.returnType = none ∧ (xmeth X).locks = false ∧ (xs X).vm.findClass own = some (xm X).cls ∧ (∀ w ∈ ws0, w.before (xargs X) (xs X) = true) ∧ gNst (xs X) ∧ va_K (xD X) vwCl (gtys (xcs X)) (xs X) ∧ va_AOA .int (xs X) ∧ (∀ q, (xs X).heap.size ≤ q → xA X q) ∧ (fr ≤ (xR X).frames ∧ lo ≤ (xR X).locals) ∧ (mc ≤ (xR X).cells ∧ ms ≤ (xR X).slots) ∧ (xmeth X).name = "<init>"
section KC
variable {X : gX} {cc : ByteArray} {own : String} {nL : Nat} {fr lo mc ms : Nat}
theorem kC.x (C : kC X cc own nL fr lo mc ms) : (xp X).tables.exec = Jvm.exec := C.1
theorem kC.b (C : kC X cc own nL fr lo mc ms) : (xc X).code = cc := C.2.1
theorem kC.ml (C : kC X cc own nL fr lo mc ms) : (xc X).maxLocals = nL := C.2.2.1
theorem kC.r (C : kC X cc own nL fr lo mc ms) : (xmeth X).sig.returnType = none := C.2.2.2.1
theorem kC.lk (C : kC X cc own nL fr lo mc ms) : (xmeth X).locks = false := C.2.2.2.2.1
theorem kC.ow (C : kC X cc own nL fr lo mc ms) : (xs X).vm.findClass own = some (xm X).cls := C.2.2.2.2.2.1
theorem kC.ts (C : kC X cc own nL fr lo mc ms) : ∀ w ∈ ws0, w.before (xargs X) (xs X) = true := C.2.2.2.2.2.2.1
theorem kC.nst (C : kC X cc own nL fr lo mc ms) : gNst (xs X) := C.2.2.2.2.2.2.2.1
theorem kC.K (C : kC X cc own nL fr lo mc ms) : va_K (xD X) vwCl (gtys (xcs X)) (xs X) := C.2.2.2.2.2.2.2.2.1
theorem kC.AO (C : kC X cc own nL fr lo mc ms) : va_AOA .int (xs X) := C.2.2.2.2.2.2.2.2.2.1
theorem kC.A (C : kC X cc own nL fr lo mc ms) : ∀ q, (xs X).heap.size ≤ q → xA X q := C.2.2.2.2.2.2.2.2.2.2.1
theorem kC.frm (C : kC X cc own nL fr lo mc ms) : fr ≤ (xR X).frames := C.2.2.2.2.2.2.2.2.2.2.2.1.1
theorem kC.loc (C : kC X cc own nL fr lo mc ms) : lo ≤ (xR X).locals := C.2.2.2.2.2.2.2.2.2.2.2.1.2
theorem kC.cel (C : kC X cc own nL fr lo mc ms) : mc ≤ (xR X).cells := C.2.2.2.2.2.2.2.2.2.2.2.2.1.1
theorem kC.slo (C : kC X cc own nL fr lo mc ms) : ms ≤ (xR X).slots := C.2.2.2.2.2.2.2.2.2.2.2.2.1.2
theorem kC.ini (C : kC X cc own nL fr lo mc ms) : (xmeth X).name = "<init>" := C.2.2.2.2.2.2.2.2.2.2.2.2.2
end KC
abbrev kGW (X : gX) (H : Heap) (locs : List Loc) (ce sl : Nat) (Q : State → Prop) (g : JFrame) : Prop := W (xp X) (xl X) (xe X) (xR X) (xs X) (xm X) (xargs X) (xbelow X) (xmeth X) (xc X) H locs ce sl Q g
/-- from pc, over the world Wd, with ce cells of sl slots made, the machine comes to a state of Q -/
def kG (X : gX) (Q : State → Prop) (nL : Nat) (Wd : va_W) (ce sl : Nat) (lv : List (Nat × Value)) (stk : List Value) (pc : Nat) : Prop :=
  ∀ (H : Heap) (locs : List Loc) (ls : Array Slot), va_P (xD X) vwCl Wd H → va_D (xA X) Wd → va_S (xA X) (xs X).heap H locs → lv_has ls nL lv → kGW X H locs ce sl Q (F0 (xm X) pc ls stk)
section KR
variable {X : gX} {Q : State → Prop} {nL : Nat} {Wd : va_W} {ce sl : Nat} {lv : List (Nat × Value)} {stk : List Value} {pc : Nat} {cc : ByteArray} {own : String} {fr lo mc ms : Nat} {w0 : va_W} {k h0 ci : Nat} {fs fs' : List Value} {L L' : va_W}
theorem k_aload_n (C : kC X cc own nL fr lo mc ms) {k : Fin 4} {i x : Nat} (hd : decode cc pc = .ok (.aload_n k, 1)) (hi : (k : Nat) = i) (j : Nat) (hj : lv[j]? = some (i, .ref x)) (k : kG X Q nL Wd ce sl lv (.ref x :: stk) (pc + 1)) : kG X Q nL Wd ce sl lv stk pc :=
  fun H locs ls hP hD hS hl => lv_aload_n C.x C.b hd hi (lv_at hl j hj) (k H locs ls hP hD hS hl)
theorem k_dup (C : kC X cc own nL fr lo mc ms) {v : Value} (hd : decode cc pc = .ok (.dup, 1)) (hv : v.category = 1) (k : kG X Q nL Wd ce sl lv (v :: v :: stk) (pc + 1)) : kG X Q nL Wd ce sl lv (v :: stk) pc :=
  fun H locs ls hP hD hS hl => lv_dup C.x C.b hd hv (k H locs ls hP hD hS hl)
theorem k_iconst (C : kC X cc own nL fr lo mc ms) {n : Int} {v : Int32} (hd : decode cc pc = .ok (.iconst n, 1)) (hv : Int32.ofInt n = v) (k : kG X Q nL Wd ce sl lv (.int v :: stk) (pc + 1)) : kG X Q nL Wd ce sl lv stk pc :=
  fun H locs ls hP hD hS hl => lv_iconst C.x C.b hd hv (k H locs ls hP hD hS hl)
theorem k_bipush (C : kC X cc own nL fr lo mc ms) {n : Int} {v : Int32} (hd : decode cc pc = .ok (.bipush n, 2)) (hv : (Int8.ofInt n).toInt32 = v) (k : kG X Q nL Wd ce sl lv (.int v :: stk) (pc + 2)) : kG X Q nL Wd ce sl lv stk pc :=
  fun H locs ls hP hD hS hl => lv_bipush C.x C.b hd hv (k H locs ls hP hD hS hl)
theorem k_sipush (C : kC X cc own nL fr lo mc ms) {n : Int} {v : Int32} (hd : decode cc pc = .ok (.sipush n, 3)) (hv : (Int16.ofInt n).toInt32 = v) (k : kG X Q nL Wd ce sl lv (.int v :: stk) (pc + 3)) : kG X Q nL Wd ce sl lv stk pc :=
  fun H locs ls hP hD hS hl => lv_sipush C.x C.b hd hv (k H locs ls hP hD hS hl)
theorem k_obj (C : kC X cc own nL fr lo mc ms) {ix x : Nat} (h1 : 1 ≤ fr) (h2 : (stk.map fun v => v.category).sum + 12 ≤ lo) (hw : Cond.methodLink own ix objectInit ∈ ws0) (hd : decode cc pc = .ok (.invokespecial ix, 3)) (k : kG X Q nL Wd ce sl lv stk (pc + 3)) : kG X Q nL Wd ce sl lv (.ref x :: stk) pc := by
  intro H locs ls hP hD hS hl
  refine W.objInit C.x C.b C.ow (C.ts _ hw) (C.ts _ wI_objectInit) (C.ts _ wC_objectInit) rfl (by rw [C.ml]; exact hl.1) rfl hd (Nat.le_trans h1 C.frm) ?_ ?_
  · show 2 * 0 + _ + 12 ≤ _
    have := C.loc
    omega
  · exact k H locs ls hP hD hS hl
theorem gcsI {X : gX} {cA : ClassId} (hK : va_K (xD X) vwCl (gtys (xcs X)) (xs X)) (h : va_K (xD X) vwCl (gtys (xcs X) ++ [(cA, .int)]) (xs X)) : cA = (xcs X).1 := by
  have h1 : (xs X).vm.findClass ("[" ++ (FieldType.int).toString) = some (xcs X).1 := (hK.2 0 ((xcs X).1, .int) rfl).2
  have h2 : (xs X).vm.findClass ("[" ++ (FieldType.int).toString) = some cA := (h.2 3 (cA, .int) rfl).2
  exact Option.some.inj (h2.symm.trans h1)
theorem gcsZ {X : gX} {cA : ClassId} (hK : va_K (xD X) vwCl (gtys (xcs X)) (xs X)) (h : va_K (xD X) vwCl (gtys (xcs X) ++ [(cA, .boolean)]) (xs X)) : cA = (xcs X).2.1 := by
  have h1 : (xs X).vm.findClass ("[" ++ (FieldType.boolean).toString) = some (xcs X).2.1 := (hK.2 1 ((xcs X).2.1, .boolean) rfl).2
  have h2 : (xs X).vm.findClass ("[" ++ (FieldType.boolean).toString) = some cA := (h.2 3 (cA, .boolean) rfl).2
  exact Option.some.inj (h2.symm.trans h1)
theorem gcsR {X : gX} {cA : ClassId} (hK : va_K (xD X) vwCl (gtys (xcs X)) (xs X)) (h : va_K (xD X) vwCl (gtys (xcs X) ++ [(cA, .array .int)]) (xs X)) : cA = (xcs X).2.2 := by
  have h1 : (xs X).vm.findClass ("[" ++ (FieldType.array .int).toString) = some (xcs X).2.2 := (hK.2 2 ((xcs X).2.2, .array .int) rfl).2
  have h2 : (xs X).vm.findClass ("[" ++ (FieldType.array .int).toString) = some cA := (h.2 3 (cA, .array .int) rfl).2
  exact Option.some.inj (h2.symm.trans h1)
theorem k_newI (C : kC X cc own nL fr lo mc ms) {n : Int32} {N : Nat} (hn : ¬ n < 0) (hN : n.toNatClampNeg = N) (hby : N * 4 ≤ 536870912) (hc : ce + 1 ≤ mc) (hs : sl + N ≤ ms) (hd : decode cc pc = .ok (.newarray .int, 2)) (kk : ∀ q : Nat, kG X Q nL (kW w0 k h0 ci fs (L ++ [(q, .inl ((xcs X).1, N, .inl fun _ => 0))])) (ce + 1) (sl + N) lv (.ref q :: stk) (pc + 2)) : kG X Q nL (kW w0 k h0 ci fs L) ce sl lv (.int n :: stk) pc := by
  intro H locs ls hP hD hS hl
  refine va_newa (atype := .int) (ty := .int) (a0 := (N, .inl fun _ => 0)) C.x C.b (C.ts _ wa_int) rfl C.K hP hD hS C.A (fun _ => rfl) hn hN hby (Nat.le_trans hc C.cel) (Nat.le_trans hs C.slo) hd (fun q cA H1 hK1 hP1 hD1 hS1 => ?_)
  have e := gcsI C.K hK1
  subst e
  rw [kW_push] at hP1 hD1
  exact kk q H1 locs ls hP1 hD1 hS1 hl
theorem k_newZ (C : kC X cc own nL fr lo mc ms) {n : Int32} {N : Nat} (hn : ¬ n < 0) (hN : n.toNatClampNeg = N) (hby : N * 1 ≤ 536870912) (hc : ce + 1 ≤ mc) (hs : sl + N ≤ ms) (hd : decode cc pc = .ok (.newarray .boolean, 2)) (kk : ∀ q : Nat, kG X Q nL (kW w0 k h0 ci fs (L ++ [(q, .inl ((xcs X).2.1, N, .inl fun _ => 0))])) (ce + 1) (sl + N) lv (.ref q :: stk) (pc + 2)) : kG X Q nL (kW w0 k h0 ci fs L) ce sl lv (.int n :: stk) pc := by
  intro H locs ls hP hD hS hl
  refine va_newa (atype := .boolean) (ty := .boolean) (a0 := (N, .inl fun _ => 0)) C.x C.b (C.ts _ wa_boolean) rfl C.K hP hD hS C.A (fun _ => rfl) hn hN hby (Nat.le_trans hc C.cel) (Nat.le_trans hs C.slo) hd (fun q cA H1 hK1 hP1 hD1 hS1 => ?_)
  have e := gcsZ C.K hK1
  subst e
  rw [kW_push] at hP1 hD1
  exact kk q H1 locs ls hP1 hD1 hS1 hl
theorem k_mna (C : kC X cc own nL fr lo mc ms) {ix : Nat} {n m : Int32} {N P : Nat} (hn : ¬ n < 0) (hm : ¬ m < 0) (hN : n.toNatClampNeg = N) (hP2 : m.toNatClampNeg = P) (hb1 : N * 4 ≤ 536870912) (hb2 : P * 4 ≤ 536870912) (hb3 : P ≤ 536870912) (hc : ce + (1 + N) ≤ mc) (hs : sl + (N + N * P) ≤ ms) (hw : Cond.classLink own ix "[[I" ∈ ws0) (hd : decode cc pc = .ok (.multianewarray ix 2, 4)) (kk : ∀ (q : Nat) (r : Nat → Nat), kG X Q nL (kW w0 k h0 ci fs (L ++ ([(q, .inl ((xcs X).2.2, N, .inr (.inr (.inr (.inr (fun i => if i < N then some (r i) else none))))))] ++ (List.range N).map (fun i => (r i, .inl ((xcs X).1, P, .inl fun _ => 0)))))) (ce + 1 + N) (sl + N + N * P) lv (.ref q :: stk) (pc + 4)) : kG X Q nL (kW w0 k h0 ci fs L) ce sl lv (.int m :: .int n :: stk) pc := by
  intro H locs ls hP hD hS hl
  have hcy : (xs X).vm.findClass (FieldType.array .int).toString = some (xcs X).1 := (C.K.2 0 ((xcs X).1, .int) rfl).2
  have e0 : ∀ f : Nat → va_E, va_pl [] f = [] := fun _ => rfl
  refine va_mna (X := kW w0 k h0 ci fs L) (L := []) (f := fun _ => .inr (0, [])) (ty := .int) (cy := (xcs X).1) (z := (P, .inl fun _ => 0)) C.x C.b C.ow (C.ts _ hw) C.AO (C.ts _ wa_int) hcy C.K (by rw [e0, List.append_nil]; exact hP) (by rw [e0, List.append_nil]; exact hD) hS C.A hn hm hN hP2 hb1 hb2 hb3 rfl rfl (Nat.le_trans hc C.cel) (Nat.le_trans hs C.slo) (fun c => arrV_new c P (.int 0)) hd (fun q r cA H1 _ _ hK1 hP1 hD1 hS1 => ?_)
  have e := gcsR C.K hK1
  subst e
  have e2 : va_pl ([] ++ (List.range N).map r) (vr_up (fun _ => (.inr (0, []) : va_E)) ((List.range N).map r) (.inl ((xcs X).1, P, .inl fun _ => 0))) = (List.range N).map (fun i => (r i, .inl ((xcs X).1, P, .inl fun _ => 0))) := by
    unfold va_pl
    rw [List.nil_append, List.map_map]
    apply List.map_congr_left
    intro i hi
    show (r i, vr_up _ _ _ (r i)) = _
    rw [vr_up_in (List.mem_map.mpr ⟨i, hi, rfl⟩)]
  rw [e2, List.append_assoc, kW_push] at hP1 hD1
  exact kk q r H1 locs ls hP1 hD1 hS1 hl
theorem k_putR (C : kC X cc own nL fr lo mc ms) (hk : k < w0.length) {Cn : String} {T : u_T} {N ix i q : Nat} {ft : FieldType} (ty : Nat → FieldType) (hty : ∀ k, k < N → parseFieldDescriptor (T k).2.2.1 = some (ty k)) (hnm : ∀ a, a < N → ∀ b, b < N → a ≠ b → (T a).2.1 ≠ (T b).2.1) (hin : ∀ w ∈ u_ws Cn T N, w ∈ ws0) (hc : vwCl[ci]? = some (Cn, T, N)) (hi : i < N) (hw : Cond.fieldLink own ix (T i).1 (T i).2.1 (T i).2.2.1 ∈ ws0) (hfin : (T i).2.2.2 = true) (hdecl : (T i).1 = own) (hpd : parseFieldDescriptor (T i).2.2.1 = some ft) (hn : narrow ft (.ref q) = .ref q) (hf : fits ft (.ref q) = true) (hfs : i < fs.length) (he : fs.set i (.ref q) = fs') (hd : decode cc pc = .ok (.putfield ix, 3)) (kk : kG X Q nL (kW w0 k h0 ci fs' L) ce sl lv stk (pc + 3)) : kG X Q nL (kW w0 k h0 ci fs L) ce sl lv (.ref q :: .ref h0 :: stk) pc := by
  intro H locs ls hP hD hS hl
  subst he
  refine va_putF C.x C.b C.ts hin ty hty hnm C.ow C.K hP hD hS k (kW_at hk) hc i hi (C.ts _ hw) (fun _ h => h) hfin C.ini hdecl hpd hn hf hfs hd (fun H1 locs1 hP1 hD1 hS1 => ?_)
  rw [kW_set hk] at hP1 hD1
  exact kk H1 locs1 ls hP1 hD1 hS1 hl
theorem k_putI (C : kC X cc own nL fr lo mc ms) (hk : k < w0.length) {Cn : String} {T : u_T} {N ix i : Nat} {x : Int32} (ty : Nat → FieldType) (hty : ∀ k, k < N → parseFieldDescriptor (T k).2.2.1 = some (ty k)) (hnm : ∀ a, a < N → ∀ b, b < N → a ≠ b → (T a).2.1 ≠ (T b).2.1) (hin : ∀ w ∈ u_ws Cn T N, w ∈ ws0) (hc : vwCl[ci]? = some (Cn, T, N)) (hi : i < N) (hw : Cond.fieldLink own ix (T i).1 (T i).2.1 (T i).2.2.1 ∈ ws0) (hfin : (T i).2.2.2 = false) (hpd : parseFieldDescriptor (T i).2.2.1 = some .int) (hfs : i < fs.length) (he : fs.set i (.int x) = fs') (hd : decode cc pc = .ok (.putfield ix, 3)) (kk : kG X Q nL (kW w0 k h0 ci fs' L) ce sl lv stk (pc + 3)) : kG X Q nL (kW w0 k h0 ci fs L) ce sl lv (.int x :: .ref h0 :: stk) pc := by
  intro H locs ls hP hD hS hl
  subst he
  refine va_put C.x C.b C.ts hin ty hty hnm C.ow C.K hP hD hS k (kW_at hk) hc i hi (C.ts _ hw) (fun _ h => h) hfin hpd rfl rfl hfs hd (fun H1 locs1 hP1 hD1 hS1 => ?_)
  rw [kW_set hk] at hP1 hD1
  exact kk H1 locs1 ls hP1 hD1 hS1 hl
theorem k_getR (C : kC X cc own nL fr lo mc ms) (hk : k < w0.length) {Cn : String} {T : u_T} {N ix i : Nat} {v : Value} (hin : ∀ w ∈ u_ws Cn T N, w ∈ ws0) (hc : vwCl[ci]? = some (Cn, T, N)) (hi : i < N) (hw : Cond.fieldLink own ix (T i).1 (T i).2.1 (T i).2.2.1 ∈ ws0) (hv : fs[i]? = some v) (hd : decode cc pc = .ok (.getfield ix, 3)) (kk : kG X Q nL (kW w0 k h0 ci fs L) ce sl lv (v :: stk) (pc + 3)) : kG X Q nL (kW w0 k h0 ci fs L) ce sl lv (.ref h0 :: stk) pc :=
  fun H locs ls hP hD hS hl => va_get C.x C.b C.ts hin C.ow C.K hP k (kW_at hk) hc i hi (C.ts _ hw) (fun _ h => h) hv hd (kk H locs ls hP hD hS hl)
theorem k_new (C : kC X cc own nL fr lo mc ms) {Cn : String} {T : u_T} {N ix cj : Nat} {ds : List Value} (ty : Nat → FieldType) (hty : ∀ k, k < N → parseFieldDescriptor (T k).2.2.1 = some (ty k)) (hin : ∀ w ∈ u_ws Cn T N, w ∈ ws0) (hc : vwCl[cj]? = some (Cn, T, N)) (hds : ∀ j, j < N → defaultValue (ty j) = vp_V ds j) (hcl : Cond.classLink own ix Cn ∈ ws0) (hins : Cond.instantiable Cn N ∈ ws0) (hini : Cond.initialized Cn ∈ ws0) (h1 : ce + 1 ≤ mc) (h2 : sl + N ≤ ms) (hd : decode cc pc = .ok (.new ix, 3)) (kk : ∀ q : Nat, kG X Q nL (kW w0 k h0 ci fs (L ++ [(q, .inr (cj, ds))])) (ce + 1) (sl + N) lv (.ref q :: stk) (pc + 3)) : kG X Q nL (kW w0 k h0 ci fs L) ce sl lv stk pc := by
  intro H locs ls hP hD hS hl
  refine va_new C.x C.b C.ts hin ty hty C.ow (C.ts _ hcl) (C.ts _ hins) (C.ts _ hini) C.K hP hD hS C.A hc hds (Nat.le_trans h1 C.cel) (Nat.le_trans h2 C.slo) hd (fun q H1 hP1 hD1 hS1 => ?_)
  rw [kW_push] at hP1 hD1
  exact kk q H1 locs ls hP1 hD1 hS1 hl
end KR
/-- a constructor's contract: over the world w0, whose place k holds the new object, it fills the object and makes the cells of L1, at addresses u -/
def kCt {σ : Type} (y : MethodName) (cd : ByteArray) (maxL fr lo mc ms : Nat) (av : List Value) (w0 : va_W) (k h0 ci : Nat) (fs1 : σ → List Value) (L1 : ClassId × ClassId × ClassId → σ → va_W) : Prop :=
  ∀ (l : Launch) (D : va_G) (cs : ClassId × ClassId × ClassId) (sz : Nat), Met l y (Cond.code y cd maxL none :: ws0) { frames := fr, cells := mc, slots := ms, locals := lo } (va_Pc av (fun U => U.heap.size = sz ∧ va_P D vwCl w0 U.heap ∧ va_K D vwCl (gtys cs) U ∧ va_D (fun _ => True) w0 ∧ gNst U ∧ va_AOA .int U)) (fun _ st oc t => oc = .returned none ∧ (∃ u : σ, va_P D vwCl (kW w0 k h0 ci (fs1 u) (L1 cs u)) t.heap ∧ va_D (va_A w0 sz) (kW w0 k h0 ci (fs1 u) (L1 cs u))) ∧ va_F (va_A w0 sz) st t) mc ms (va_A w0 sz)
def kQ {σ : Type} (X : gX) (w0 : va_W) (k h0 ci mc ms : Nat) (fs1 : σ → List Value) (L1 : ClassId × ClassId × ClassId → σ → va_W) : State → Prop := MQ (xbelow X) (fun _ st oc t => oc = .returned none ∧ (∃ u : σ, va_P (xD X) vwCl (kW w0 k h0 ci (fs1 u) (L1 (xcs X) u)) t.heap ∧ va_D (xA X) (kW w0 k h0 ci (fs1 u) (L1 (xcs X) u))) ∧ va_F (xA X) st t) (xargs X) (xs X) mc ms (xA X)
theorem k_met {σ : Type} {y : MethodName} {cd : ByteArray} {maxL fr lo mc ms : Nat} {av : List Value} {w0 : va_W} {k h0 ci : Nat} {fs0 : List Value} {fs1 : σ → List Value} {L1 : ClassId × ClassId × ClassId → σ → va_W} (hy : plainName y.cls = true) (hyn : y.name = "<init>") (hlen : (lg_sl av).length ≤ maxL) (hw : w0[k]? = some (h0, .inr (ci, fs0)))
    (body : ∀ X : gX, kC X cd y.cls maxL fr lo mc ms → kG X (kQ X w0 k h0 ci mc ms fs1 L1) maxL (kW w0 k h0 ci fs0 []) 0 0 (lv_args 0 av) [] 0) : kCt y cd maxL fr lo mc ms av w0 k h0 ci fs1 L1 := by
  intro l D cs sz
  refine Met.ofW (cc := cd) (maxL := maxL) (ret := none) hy rfl ?_
  intro p e s m args below meth c s₁ B hml hv
  obtain ⟨rfl, hsz, hP, hK, hD0, hN, hAO⟩ := hv
  have hts := atoms_spec (ws := Cond.code y cd maxL none :: ws0) B.pre
  have C : kC (p, l, e, { frames := fr, cells := mc, slots := ms, locals := lo }, s, m, av.toArray, below, meth, c, D, fun _ => 0, cs, va_A w0 sz, 0, 0, fun _ => 0, fun _ => 0) cd y.cls maxL fr lo mc ms :=
    ⟨B.exec, B.bytes, hml, B.returns, B.notSynchronized, findClass_of_methodNamed B.named, fun w h => hts w (List.mem_cons_of_mem _ h), hN, hK, hAO, fun q hq => Or.inr (by rw [← hsz]; exact hq), ⟨Nat.le_refl _, Nat.le_refl _⟩, ⟨Nat.le_refl _, Nat.le_refl _⟩, by rw [← hyn]; exact (name_of_methodNamed B.named B.method).1⟩
  have hl := lv_entry av (n := maxL) hlen
  rw [lg_entry_eq]
  have e0 : kW w0 k h0 ci fs0 [] = w0 := by
    unfold kW
    rw [List.append_nil]
    apply List.ext_getElem?
    intro j
    rw [List.getElem?_set]
    by_cases hj : k = j
    · subst hj
      rw [if_pos rfl, hw]
      exact if_pos (List.getElem?_eq_some_iff.mp hw).1
    · rw [if_neg hj]
  have hb := body _ C
  rw [e0] at hb
  exact hb s.heap [] _ hP (hD0.self) va_S.rf hl
section KC2
variable {X : gX} {nL : Nat} {ce sl : Nat} {lv : List (Nat × Value)} {stk stk0 : List Value} {pc : Nat} {cc : ByteArray} {own : String} {fr lo mc ms : Nat} {w0 : va_W} {k h0 ci : Nat} {fs : List Value} {L : va_W}
theorem k_vret {σ : Type} {fs1 : σ → List Value} {L1 : ClassId × ClassId × ClassId → σ → va_W} (C : kC X cc own nL fr lo mc ms) (u : σ) (h1 : fs1 u = fs) (h2 : L1 (xcs X) u = L) (hd : decode cc pc = .ok (.return_, 1)) : kG X (kQ X w0 k h0 ci ce sl fs1 L1) nL (kW w0 k h0 ci fs L) ce sl lv [] pc := by
  intro H locs ls hP hD hS hl
  subst h1
  subst h2
  exact W.vret C.x C.b C.r (fun t ht _ => ⟨rfl, ⟨u, by rw [ht]; exact hP, hD⟩, hS.F ht⟩) hS.2.2 hd (hlocks := C.lk)
/-- invokespecial of a nest mate's constructor on the object at place j of what was made -/
theorem k_call {σ : Type} {Q : State → Prop} {y : MethodName} {cd : ByteArray} {maxL fr1 lo1 mc1 ms1 ix n j h cj : Nat} {host : String} {As : List Value} {fs1 : σ → List Value} {L1 : ClassId × ClassId × ClassId → σ → va_W} (C : kC X cc own nL fr lo mc ms)
    (hct : kCt y cd maxL fr1 lo1 mc1 ms1 (.ref h :: As) (kW w0 k h0 ci fs L) (w0.length + j) h cj fs1 L1) (hst : stk0 = As.reverse ++ .ref h :: stk) (hn : As.length = n) (hyn : y.name = "<init>") (hcw : Cond.code y cd maxL none ∈ ws0) (hwi : Cond.instanceMethod y ∈ ws0) (hw0 : Cond.initialized y.cls ∈ ws0) (hwm : (own, ix, y, host) ∈ nstM) (hy : y.cls ≠ "java/lang/invoke/MethodHandle" ∧ y.cls ≠ "java/lang/invoke/VarHandle" ∧ (parseMethodDescriptor y.desc).map (fun d => d.parameters.length) = some n) (hR : fr1 + 1 ≤ fr ∧ 8 + (maxL + 11) + lo1 ≤ lo) (hr8 : (stk.map fun v => v.category).sum ≤ 8) (hc1 : ce + mc1 ≤ mc) (hc2 : sl + ms1 ≤ ms) (hd : decode cc pc = .ok (.invokespecial ix, 3))
    (kk : ∀ u : σ, kG X Q nL (kW w0 k h0 ci fs (L.set j (h, .inr (cj, fs1 u)) ++ L1 (xcs X) u)) (ce + mc1) (sl + ms1) lv stk (pc + 3)) : kG X Q nL (kW w0 k h0 ci fs L) ce sl lv stk0 pc := by
  intro H locs ls hP hD hS hl T hT XS
  subst hst
  have hm := hct (xl X) (xD X) (xcs X) H.size
  have hrun := va_runIN (e := xe X) (below := xbelow X) (meth := xmeth X) (locs := locs) (cells := ce) (slots := sl) (g := F0 (xm X) pc ls (As.reverse ++ .ref h :: stk)) (rest := stk) ⟨C.x, C.b, C.ml, C.ow, C.ts⟩ hm ⟨va_cnB n C.ts (gws' C.ts hcw) rfl rfl rfl (C.nst.2 _ hwm) (C.ts _ hw0) hy ⟨Nat.le_trans hR.1 C.frm, Nat.le_trans hR.2 C.loc⟩, hyn, C.ts _ hwi⟩ ⟨by
      intro a U g mk hq
      obtain ⟨q0, q1, q2, q3, q4, q5, q6⟩ := hq
      exact ⟨q0, q1, q2, va_K.moved (u := U) (U := U.calling g mk a) (Vm.Alike.refl U.vm) q3, q4, gNst.same (s := U) (U := U.calling g mk a) rfl q5, va_AOA.moved (u := U) (U := U.calling g mk a) (Vm.Alike.refl U.vm) q6⟩, fun U hU hW => ⟨rfl, by rw [hU], by rw [hU]; exact hP, va_K.moved hW.alike C.K, hD.weaken (fun _ _ _ _ => trivial), C.nst.warm hW, C.AO.moved hW.alike⟩⟩ rfl hn hl.1 rfl (lv_room hr8) hd ⟨Nat.le_trans hc1 C.cel, Nat.le_trans hc2 C.slo⟩
  obtain ⟨v, st₀, t, T', Lx, e0, X', hLx, e1, e2, ⟨hv, ⟨u, hP1, hD1⟩, hF1⟩, st⟩ := hrun T hT XS
  cases hv
  have hA : ∀ q, va_A (kW w0 k h0 ci fs L) H.size q → xA X q := by
    intro q hq
    rcases hq with ⟨i, e, hi⟩ | hq
    · exact hD.2 i _ hi
    · exact C.A q (Nat.le_trans hS.1 hq)
  have hS1 : va_S (xA X) (xs X).heap t.heap (locs ++ Lx) := by
    refine ⟨Nat.le_trans hS.1 (by rw [← e0]; exact hF1.1), fun q h1 h2 => ?_, fun q hq => ?_⟩
    · rw [hF1.2 q (by rw [e0]; exact Nat.lt_of_lt_of_le h1 hS.1) (fun z => h2 (hA q z)), e0]
      exact hS.2.1 q h1 h2
    · rcases List.mem_append.mp hq with h | h
      · exact hS.2.2 q h
      · exact hA _ (hLx q h)
  unfold kW at hP1 hD1
  change va_P _ _ ((kW w0 k h0 ci fs L).set (w0.length + j) _ ++ _) _ at hP1
  change va_D _ ((kW w0 k h0 ci fs L).set (w0.length + j) _ ++ _) at hD1
  rw [kW_call] at hP1 hD1
  obtain ⟨t2, a1, b1⟩ := kk u t.heap (locs ++ Lx) ls hP1 (hD1.weaken (fun _ q _ hq => hA q.1 hq)) hS1 hl T' e1 X'
  exact ⟨t2, st t2 a1, b1⟩
theorem gl_last {α : Type} {L : List α} {x : α} : (L ++ [x])[L.length]? = some x := by simp
theorem gl_set {α : Type} {L L1 : List α} {x e : α} : (L ++ [x]).set L.length e ++ L1 = L ++ (e :: L1) := by
  rw [List.set_append_right _ _ (Nat.le_refl _)]
  simp
theorem k_callE {σ : Type} {Q : State → Prop} {y : MethodName} {cd : ByteArray} {maxL fr1 lo1 mc1 ms1 ix n h cj : Nat} {host : String} {As : List Value} {fs1 : σ → List Value} {L1 : ClassId × ClassId × ClassId → σ → va_W} {ds : List Value} (C : kC X cc own nL fr lo mc ms)
    (hct : kCt y cd maxL fr1 lo1 mc1 ms1 (.ref h :: As) (kW w0 k h0 ci fs (L ++ [(h, .inr (cj, ds))])) (w0.length + L.length) h cj fs1 L1) (hst : stk0 = As.reverse ++ .ref h :: stk) (hn : As.length = n) (hyn : y.name = "<init>") (hcw : Cond.code y cd maxL none ∈ ws0) (hwi : Cond.instanceMethod y ∈ ws0) (hw0 : Cond.initialized y.cls ∈ ws0) (hwm : (own, ix, y, host) ∈ nstM) (hy : y.cls ≠ "java/lang/invoke/MethodHandle" ∧ y.cls ≠ "java/lang/invoke/VarHandle" ∧ (parseMethodDescriptor y.desc).map (fun d => d.parameters.length) = some n) (hR : fr1 + 1 ≤ fr ∧ 8 + (maxL + 11) + lo1 ≤ lo) (hr8 : (stk.map fun v => v.category).sum ≤ 8) (hc1 : ce + mc1 ≤ mc) (hc2 : sl + ms1 ≤ ms) (hd : decode cc pc = .ok (.invokespecial ix, 3))
    (kk : ∀ u : σ, kG X Q nL (kW w0 k h0 ci fs (L ++ ((h, .inr (cj, fs1 u)) :: L1 (xcs X) u))) (ce + mc1) (sl + ms1) lv stk (pc + 3)) : kG X Q nL (kW w0 k h0 ci fs (L ++ [(h, .inr (cj, ds))])) ce sl lv stk0 pc :=
  k_call (j := L.length) C hct hst hn hyn hcw hwi hw0 hwm hy hR hr8 hc1 hc2 hd (fun u => by rw [gl_set]; exact kk u)
end KC2
