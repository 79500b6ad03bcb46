/-! the memory of the two systems as numbers: M k i is slot i of object k; kinds and references are fixed tables (part tabs) -/
abbrev gX : Type := Program × Launch × Env × Room × State × MethodId × Array Value × List Frame × Method × Code × va_G × (Nat → Nat) × (ClassId × ClassId × ClassId) × (Nat → Prop) × Nat × Nat × (Nat → Nat) × (Nat → Nat)
abbrev xp (X : gX) : Program := X.1
abbrev xl (X : gX) : Launch := X.2.1
abbrev xe (X : gX) : Env := X.2.2.1
abbrev xR (X : gX) : Room := X.2.2.2.1
abbrev xs (X : gX) : State := X.2.2.2.2.1
abbrev xm (X : gX) : MethodId := X.2.2.2.2.2.1
abbrev xargs (X : gX) : Array Value := X.2.2.2.2.2.2.1
abbrev xbelow (X : gX) : List Frame := X.2.2.2.2.2.2.2.1
abbrev xmeth (X : gX) : Method := X.2.2.2.2.2.2.2.2.1
abbrev xc (X : gX) : Code := X.2.2.2.2.2.2.2.2.2.1
abbrev xD (X : gX) : va_G := X.2.2.2.2.2.2.2.2.2.2.1
abbrev xad (X : gX) : Nat → Nat := X.2.2.2.2.2.2.2.2.2.2.2.1
abbrev xcs (X : gX) : ClassId × ClassId × ClassId := X.2.2.2.2.2.2.2.2.2.2.2.2.1
abbrev xA (X : gX) : Nat → Prop := X.2.2.2.2.2.2.2.2.2.2.2.2.2.1
abbrev xce (X : gX) : Nat := X.2.2.2.2.2.2.2.2.2.2.2.2.2.2.1
abbrev xsl (X : gX) : Nat := X.2.2.2.2.2.2.2.2.2.2.2.2.2.2.2.1
abbrev xK (X : gX) : Nat → Nat := X.2.2.2.2.2.2.2.2.2.2.2.2.2.2.2.2.1
abbrev xV (X : gX) : Nat → Nat := X.2.2.2.2.2.2.2.2.2.2.2.2.2.2.2.2.2
def gst (M : gM) (a i : Nat) (v : Int32) : gM := fun k => if k = a then upd (M a) i v else M k
theorem gst_at (M : gM) (a i : Nat) (v : Int32) : gst M a i v a = upd (M a) i v := by simp [gst]
theorem gst_ne (M : gM) (a i : Nat) (v : Int32) {k : Nat} (h : k ≠ a) : gst M a i v k = M k := by simp [gst, h]
def gflds (ad r : Nat → Nat) (f : Nat → Int32) : List Bool → Nat → List Value
  | [], _ => []
  | b :: bs, i => (if b then Value.int (f i) else Value.ref (ad (r i))) :: gflds ad r f bs (i + 1)
def gcell (ad : Nat → Nat) (cs : ClassId × ClassId × ClassId) : gK → (Nat → Nat) → (Nat → Int32) → va_E
  | .inl c, r, f => .inr (c, gflds ad r f (gfsh c) 0)
  | .inr (.inl n), _, f => .inl (cs.1, n, .inl f)
  | .inr (.inr (.inl n)), _, f => .inl (cs.2.1, n, .inl f)
  | .inr (.inr (.inr n)), r, _ => .inl (cs.2.2, n, .inr (.inr (.inr (.inr (fun j => some (ad (r j)))))))
def gwl (ad : Nat → Nat) (cs : ClassId × ClassId × ClassId) (M : gM) : va_W := (List.range gN).map (fun k => (ad k, gcell ad cs (kd k) (rf k) (M k)))
theorem gwl_get {ad : Nat → Nat} {cs : ClassId × ClassId × ClassId} {M : gM} {k : Nat} (hk : k < gN) : (gwl ad cs M)[k]? = some (ad k, gcell ad cs (kd k) (rf k) (M k)) := by
  simp [gwl, List.getElem?_range hk]
theorem gwl_set {ad : Nat → Nat} {cs : ClassId × ClassId × ClassId} {M M' : gM} {k : Nat} {E : va_E} (h1 : E = gcell ad cs (kd k) (rf k) (M' k)) (h2 : ∀ j, j ≠ k → M' j = M j) : (gwl ad cs M).set k (ad k, E) = gwl ad cs M' := by
  apply List.ext_getElem?
  intro j
  rw [List.getElem?_set]
  have hl : (gwl ad cs M).length = gN := by simp [gwl]
  by_cases hj : k = j
  · subst hj
    rw [if_pos rfl, hl]
    by_cases hn : k < gN
    · rw [if_pos hn, gwl_get hn, h1]
    · rw [if_neg hn]
      exact (List.getElem?_eq_none (by simp [gwl]; omega)).symm
  · rw [if_neg hj]
    by_cases hn : j < gN
    · rw [gwl_get hn, gwl_get hn, h2 j (fun q => hj q.symm)]
    · rw [List.getElem?_eq_none (by simp [gwl]; omega), List.getElem?_eq_none (by simp [gwl]; omega)]
theorem gflds_int {ad r : Nat → Nat} {f : Nat → Int32} : ∀ (bs : List Bool) (i j : Nat), bs[j]? = some true → (gflds ad r f bs i)[j]? = some (Value.int (f (i + j))) := by
  intro bs
  induction bs with
  | nil => intro i j h; simp at h
  | cons b bs ih =>
    intro i j h
    cases j with
    | zero =>
      simp at h
      subst h
      simp [gflds]
    | succ j =>
      have := ih (i + 1) j (by simpa using h)
      simp [gflds, this]
      congr 1
      omega
theorem gflds_ref {ad r : Nat → Nat} {f : Nat → Int32} : ∀ (bs : List Bool) (i j : Nat), bs[j]? = some false → (gflds ad r f bs i)[j]? = some (Value.ref (ad (r (i + j)))) := by
  intro bs
  induction bs with
  | nil => intro i j h; simp at h
  | cons b bs ih =>
    intro i j h
    cases j with
    | zero =>
      simp at h
      subst h
      simp [gflds]
    | succ j =>
      have := ih (i + 1) j (by simpa using h)
      simp [gflds, this]
      congr 2
      omega
theorem gflds_len {ad r : Nat → Nat} {f : Nat → Int32} : ∀ (bs : List Bool) (i : Nat), (gflds ad r f bs i).length = bs.length := by
  intro bs
  induction bs with
  | nil => intro i; rfl
  | cons b bs ih => intro i; simp [gflds, ih (i + 1)]
theorem gflds_congr {ad r : Nat → Nat} {f f' : Nat → Int32} : ∀ (bs : List Bool) (i : Nat), (∀ k, i ≤ k → f k = f' k) → gflds ad r f bs i = gflds ad r f' bs i := by
  intro bs
  induction bs with
  | nil => intro i _; rfl
  | cons b bs ih =>
    intro i h
    simp only [gflds]
    rw [ih (i + 1) (fun k hk => h k (by omega)), h i (Nat.le_refl i)]
theorem gflds_set {ad r : Nat → Nat} {f : Nat → Int32} {v : Int32} : ∀ (bs : List Bool) (i j : Nat), bs[j]? = some true → (gflds ad r f bs i).set j (Value.int v) = gflds ad r (upd f (i + j) v) bs i := by
  intro bs
  induction bs with
  | nil => intro i j h; simp at h
  | cons b bs ih =>
    intro i j h
    cases j with
    | zero =>
      simp at h
      subst h
      simp only [gflds, List.set_cons_zero, if_true]
      rw [gflds_congr (f := f) (f' := upd f (i + 0) v) bs (i + 1) (fun k hk => by simp only [upd]; rw [if_neg (by omega)])]
      simp [upd]
    | succ j =>
      have := ih (i + 1) j (by simpa using h)
      simp only [gflds, List.set_cons_succ]
      rw [this]
      have e1 : i + 1 + j = i + (j + 1) := by omega
      rw [e1]
      have e2 : upd f (i + (j + 1)) v i = f i := by simp only [upd]; rw [if_neg (by omega)]
      rw [e2]
def gtys (cs : ClassId × ClassId × ClassId) : List (ClassId × FieldType) := [(cs.1, .int), (cs.2.1, .boolean), (cs.2.2, .array .int)]
def gInj (ad : Nat → Nat) : Prop := ∀ i j, i < gN → j < gN → ad i = ad j → i = j
def gNst (s : State) : Prop := (∀ q ∈ nstF, va_Nw (.fieldLinkNest q.1 q.2.1 q.2.2.1 q.2.2.2.1 q.2.2.2.2.1 q.2.2.2.2.2) s) ∧ ∀ q ∈ nstM, va_Nw (.methodLinkNest q.1 q.2.1 q.2.2.1 q.2.2.2) s
theorem gNst.warm {s U : State} (hW : s.WarmedH U.vm) (h : gNst s) : gNst U := ⟨fun q hq => va_Nw.warmF hW (h.1 q hq), fun q hq => va_Nw.warmM hW (h.2 q hq)⟩
theorem gNst.same {s U : State} (hv : s.vm = U.vm) (h : gNst s) : gNst U := ⟨fun q hq => va_Nw.same rfl hv (h.1 q hq), fun q hq => va_Nw.same rfl hv (h.2 q hq)⟩
theorem gwl_D {ad : Nat → Nat} {cs : ClassId × ClassId × ClassId} {M : gM} {A : Nat → Prop} (h : gInj ad) (hA : ∀ k, k < gN → A (ad k)) : va_D A (gwl ad cs M) := by
  have key : ∀ (k : Nat) (q : Nat × va_E), (gwl ad cs M)[k]? = some q → k < gN ∧ q.1 = ad k := by
    intro k q hq
    by_cases hn : k < gN
    · rw [gwl_get hn] at hq
      cases hq
      exact ⟨hn, rfl⟩
    · rw [List.getElem?_eq_none (by simp [gwl]; omega)] at hq
      cases hq
  refine ⟨fun i j p q hp hq e => ?_, fun k q hq => ?_⟩
  · obtain ⟨h1, e1⟩ := key i p hp
    obtain ⟨h2, e2⟩ := key j q hq
    exact h i j h1 h2 (by rw [← e1, ← e2, e])
  · obtain ⟨h1, e1⟩ := key k q hq
    rw [e1]
    exact hA k h1
/-- what is held of the JDK's own: the six words of the texts (by their places), two statics -/
def gJ (K V : Nat → Nat) (A : Nat → Prop) (U : State) (H : Heap) : Prop := vk_S 6 gLen gByt K V A U H ∧ (∀ i, i < 6 → vk_R RX3 (gSix.getD i 0) (gStx.getD i "") (K i) U) ∧ va_Z "java/lang/String" "COMPACT_STRINGS" "Z" (.int 1) A U H ∧ va_Zq "jdk/internal/util/Preconditions" "SIOOBE_FORMATTER" "Ljava/util/function/BiFunction;" A U H
theorem gJ.warm {K V : Nat → Nat} {A B : Nat → Prop} {s U : State} {H : Heap} (hW : s.WarmedH U.vm) (hq : ∀ a : Nat, a < s.heap.size → ¬ A a → H[a]? = s.heap[a]?) (hAB : ∀ q, B q → A q) (h : gJ K V A s s.heap) : gJ K V B U H :=
  ⟨((h.1.kept hq).narrow hAB).moved hW.alike, fun i hi => (h.2.1 i hi).warm hW, ((h.2.2.1.kept hq).narrow hAB).moved hW.alike, ((h.2.2.2.kept hq).narrow hAB).moved hW.alike⟩
theorem gJ.same {K V : Nat → Nat} {A : Nat → Prop} {s U : State} {H : Heap} (hv : U.vm = s.vm) (h : gJ K V A s H) : gJ K V A U H := by
  have ha : s.vm.Alike U.vm := by rw [hv]; exact Vm.Alike.refl _
  exact ⟨h.1.moved ha, fun i hi => (h.2.1 i hi).same hv, h.2.2.1.moved ha, h.2.2.2.moved ha⟩
/-- what is fixed while a method of class own, of code cc, is under way -/
def gC (X : gX) (cc : ByteArray) (own : String) (nL : Nat) (ret : Option FieldType) (fr lo : Nat) : Prop :=
  (xp X).tables.exec = Jvm.exec ∧ (xc X).code = cc ∧ (xc X).maxLocals = nL ∧ (xmeth X).sig.returnType = ret ∧ (xmeth X).locks = false ∧ (xs X).vm.findClass own = some (xm X).cls ∧ (∀ w ∈ ws0, w.before (xargs X) (xs X) = true) ∧ gNst (xs X) ∧ va_K (xD X) vwCl (gtys (xcs X)) (xs X) ∧ gInj (xad X) ∧ (∀ k, k < gN → xA X (xad X k)) ∧ (fr ≤ (xR X).frames ∧ lo ≤ (xR X).locals) ∧ (xce X ≤ (xR X).cells ∧ xsl X ≤ (xR X).slots) ∧ gJ (xK X) (xV X) (xA X) (xs X) (xs X).heap
section GC
variable {X : gX} {cc : ByteArray} {own : String} {nL : Nat} {ret : Option FieldType} {fr lo : Nat}
theorem gC.x (C : gC X cc own nL ret fr lo) : (xp X).tables.exec = Jvm.exec := C.1
theorem gC.b (C : gC X cc own nL ret fr lo) : (xc X).code = cc := C.2.1
theorem gC.ml (C : gC X cc own nL ret fr lo) : (xc X).maxLocals = nL := C.2.2.1
theorem gC.r (C : gC X cc own nL ret fr lo) : (xmeth X).sig.returnType = ret := C.2.2.2.1
theorem gC.lk (C : gC X cc own nL ret fr lo) : (xmeth X).locks = false := C.2.2.2.2.1
theorem gC.ow (C : gC X cc own nL ret fr lo) : (xs X).vm.findClass own = some (xm X).cls := C.2.2.2.2.2.1
theorem gC.ts (C : gC X cc own nL ret fr lo) : ∀ w ∈ ws0, w.before (xargs X) (xs X) = true := C.2.2.2.2.2.2.1
theorem gC.nst (C : gC X cc own nL ret fr lo) : gNst (xs X) := C.2.2.2.2.2.2.2.1
theorem gC.K (C : gC X cc own nL ret fr lo) : va_K (xD X) vwCl (gtys (xcs X)) (xs X) := C.2.2.2.2.2.2.2.2.1
theorem gC.inj (C : gC X cc own nL ret fr lo) : gInj (xad X) := C.2.2.2.2.2.2.2.2.2.1
theorem gC.A (C : gC X cc own nL ret fr lo) : ∀ k, k < gN → xA X (xad X k) := C.2.2.2.2.2.2.2.2.2.2.1
theorem gC.frm (C : gC X cc own nL ret fr lo) : fr ≤ (xR X).frames := C.2.2.2.2.2.2.2.2.2.2.2.1.1
theorem gC.loc (C : gC X cc own nL ret fr lo) : lo ≤ (xR X).locals := C.2.2.2.2.2.2.2.2.2.2.2.1.2
theorem gC.ce (C : gC X cc own nL ret fr lo) : xce X ≤ (xR X).cells := C.2.2.2.2.2.2.2.2.2.2.2.2.1.1
theorem gC.sl (C : gC X cc own nL ret fr lo) : xsl X ≤ (xR X).slots := C.2.2.2.2.2.2.2.2.2.2.2.2.1.2
theorem gC.J (C : gC X cc own nL ret fr lo) : gJ (xK X) (xV X) (xA X) (xs X) (xs X).heap := C.2.2.2.2.2.2.2.2.2.2.2.2.2
end GC
abbrev gW (X : gX) (H : Heap) (locs : List Loc) (Q : State → Prop) (g : JFrame) : Prop := W (xp X) (xl X) (xe X) (xR X) (xs X) (xm X) (xargs X) (xbelow X) (xmeth X) (xc X) H locs (xce X) (xsl X) Q g
/-- from pc, with these locals and this stack, over the memory M, the machine does what o tells: if o is some r, it comes to a state of Q r -/
def G {ρ : Type} (X : gX) (Q : ρ → State → Prop) (nL : Nat) (M : gM) (lv : List (Nat × Value)) (stk : List Value) (pc : Nat) (o : Option ρ) : Prop :=
  ∀ r, o = some r → ∀ (H : Heap) (locs : List Loc) (ls : Array Slot), va_P (xD X) vwCl (gwl (xad X) (xcs X) M) H → va_S (xA X) (xs X).heap H locs → lv_has ls nL lv → gW X H locs (Q r) (F0 (xm X) pc ls stk)
/-- a test that the machine makes: where it fails nothing is said -/
def ck {ρ : Type} (b : Bool) (o : Option ρ) : Option ρ := if b = true then o else none
def lt_ {α β : Type} (e : α) (f : α → β) : β := f e
/-- i is a place of an array of n -/
def ib (i : Int32) (n : Nat) : Bool := decide (0 ≤ i.toInt ∧ i.toInt < (n : Int))
theorem ib_in {i : Int32} {n : Nat} (h : ib i n = true) : vp_in i n := vp_in_iff.mpr (of_decide_eq_true h)
/-- a boolean's number -/
def gb (v : Int32) : Bool := decide (v = 0 ∨ v = 1)
theorem gb_nar {v : Int32} (h : gb v = true) : narrow .boolean (.int v) = .int v := by
  rcases of_decide_eq_true h with rfl | rfl <;> decide
section GR
variable {ρ : Type} {X : gX} {Q : ρ → State → Prop} {nL : Nat} {M : gM} {lv lv' : List (Nat × Value)} {stk : List Value} {pc : Nat} {o A B : Option ρ} {cc : ByteArray} {own : String} {ret : Option FieldType} {fr lo : Nat}
theorem g_iconst (C : gC X cc own nL ret fr lo) {n : Int} {v : Int32} (hd : decode cc pc = .ok (.iconst n, 1)) (hv : Int32.ofInt n = v) (k : G X Q nL M lv (.int v :: stk) (pc + 1) o) : G X Q nL M lv stk pc o :=
  fun r hr H locs ls hP hS hl => lv_iconst C.x C.b hd hv (k r hr H locs ls hP hS hl)
theorem g_bipush (C : gC X cc own nL ret fr lo) {n : Int} {v : Int32} (hd : decode cc pc = .ok (.bipush n, 2)) (hv : (Int8.ofInt n).toInt32 = v) (k : G X Q nL M lv (.int v :: stk) (pc + 2) o) : G X Q nL M lv stk pc o :=
  fun r hr H locs ls hP hS hl => lv_bipush C.x C.b hd hv (k r hr H locs ls hP hS hl)
theorem g_sipush (C : gC X cc own nL ret fr lo) {n : Int} {v : Int32} (hd : decode cc pc = .ok (.sipush n, 3)) (hv : (Int16.ofInt n).toInt32 = v) (k : G X Q nL M lv (.int v :: stk) (pc + 3) o) : G X Q nL M lv stk pc o :=
  fun r hr H locs ls hP hS hl => lv_sipush C.x C.b hd hv (k r hr H locs ls hP hS hl)
theorem g_lconst (C : gC X cc own nL ret fr lo) {n : Fin 2} {v : Int64} (hd : decode cc pc = .ok (.lconst n, 1)) (hv : Int64.ofNat (n : Nat) = v) (k : G X Q nL M lv (.long v :: stk) (pc + 1) o) : G X Q nL M lv stk pc o :=
  fun r hr H locs ls hP hS hl => lv_lconst C.x C.b hd hv (k r hr H locs ls hP hS hl)
theorem g_ldc (C : gC X cc own nL ret fr lo) {ix : Nat} {v : Int32} (hw : Cond.constant own ix v ∈ ws0) (hd : decode cc pc = .ok (.ldc ix, 2)) (k : G X Q nL M lv (.int v :: stk) (pc + 2) o) : G X Q nL M lv stk pc o :=
  fun r hr H locs ls hP hS hl => lv_ldc C.x C.b C.ow (C.ts _ hw) hd (k r hr H locs ls hP hS hl)
theorem g_ldcw (C : gC X cc own nL ret fr lo) {ix : Nat} {v : Int32} (hw : Cond.constant own ix v ∈ ws0) (hd : decode cc pc = .ok (.ldc_w ix, 3)) (k : G X Q nL M lv (.int v :: stk) (pc + 3) o) : G X Q nL M lv stk pc o :=
  fun r hr H locs ls hP hS hl => lv_ldcw C.x C.b C.ow (C.ts _ hw) hd (k r hr H locs ls hP hS hl)
theorem g_ldc2 (C : gC X cc own nL ret fr lo) {ix : Nat} {v : Int64} (hw : Cond.constantLong own ix v ∈ ws0) (hd : decode cc pc = .ok (.ldc2_w ix, 3)) (k : G X Q nL M lv (.long v :: stk) (pc + 3) o) : G X Q nL M lv stk pc o :=
  fun r hr H locs ls hP hS hl => lv_ldc2 C.x C.b C.ow (C.ts _ hw) hd (k r hr H locs ls hP hS hl)
theorem g_iload_n (C : gC X cc own nL ret fr lo) {k : Fin 4} {i : Nat} {x : Int32} (hd : decode cc pc = .ok (.iload_n k, 1)) (hi : (k : Nat) = i) (j : Nat) (hj : lv[j]? = some (i, .int x)) (k : G X Q nL M lv (.int x :: stk) (pc + 1) o) : G X Q nL M lv stk pc o :=
  fun r hr H locs ls hP hS hl => lv_iload_n C.x C.b hd hi (lv_at hl j hj) (k r hr H locs ls hP hS hl)
theorem g_iload (C : gC X cc own nL ret fr lo) {i : Nat} {x : Int32} (hd : decode cc pc = .ok (.iload i, 2)) (j : Nat) (hj : lv[j]? = some (i, .int x)) (k : G X Q nL M lv (.int x :: stk) (pc + 2) o) : G X Q nL M lv stk pc o :=
  fun r hr H locs ls hP hS hl => lv_iload C.x C.b hd (lv_at hl j hj) (k r hr H locs ls hP hS hl)
theorem g_lload_n (C : gC X cc own nL ret fr lo) {k : Fin 4} {i : Nat} {x : Int64} (hd : decode cc pc = .ok (.lload_n k, 1)) (hi : (k : Nat) = i) (j : Nat) (hj : lv[j]? = some (i, .long x)) (k : G X Q nL M lv (.long x :: stk) (pc + 1) o) : G X Q nL M lv stk pc o :=
  fun r hr H locs ls hP hS hl => lv_lload_n C.x C.b hd hi (lv_at hl j hj) (k r hr H locs ls hP hS hl)
theorem g_lload (C : gC X cc own nL ret fr lo) {i : Nat} {x : Int64} (hd : decode cc pc = .ok (.lload i, 2)) (j : Nat) (hj : lv[j]? = some (i, .long x)) (k : G X Q nL M lv (.long x :: stk) (pc + 2) o) : G X Q nL M lv stk pc o :=
  fun r hr H locs ls hP hS hl => lv_lload C.x C.b hd (lv_at hl j hj) (k r hr H locs ls hP hS hl)
theorem g_aload_n (C : gC X cc own nL ret fr lo) {k : Fin 4} {i x : Nat} (hd : decode cc pc = .ok (.aload_n k, 1)) (hi : (k : Nat) = i) (j : Nat) (hj : lv[j]? = some (i, .ref x)) (k : G X Q nL M lv (.ref x :: stk) (pc + 1) o) : G X Q nL M lv stk pc o :=
  fun r hr H locs ls hP hS hl => lv_aload_n C.x C.b hd hi (lv_at hl j hj) (k r hr H locs ls hP hS hl)
theorem g_aload (C : gC X cc own nL ret fr lo) {i x : Nat} (hd : decode cc pc = .ok (.aload i, 2)) (j : Nat) (hj : lv[j]? = some (i, .ref x)) (k : G X Q nL M lv (.ref x :: stk) (pc + 2) o) : G X Q nL M lv stk pc o :=
  fun r hr H locs ls hP hS hl => lv_aload C.x C.b hd (lv_at hl j hj) (k r hr H locs ls hP hS hl)
theorem g_istore_n (C : gC X cc own nL ret fr lo) {k : Fin 4} {i : Nat} {x : Int32} (hd : decode cc pc = .ok (.istore_n k, 1)) (hi : (k : Nat) = i) (hn : i < nL) (hl : (i, Value.int x) :: lv.filter (fun q => !(q.1 == i) && !(q.1 + 1 == i && q.2.category == 2)) = lv') (k : G X Q nL M lv' stk (pc + 1) o) : G X Q nL M lv (.int x :: stk) pc o :=
  fun r hr H locs _ hP hS hls => lv_istore_n C.x C.b hd hi hls hn hl (fun ls' hl' => k r hr H locs ls' hP hS hl')
theorem g_istore (C : gC X cc own nL ret fr lo) {i : Nat} {x : Int32} (hd : decode cc pc = .ok (.istore i, 2)) (hn : i < nL) (hl : (i, Value.int x) :: lv.filter (fun q => !(q.1 == i) && !(q.1 + 1 == i && q.2.category == 2)) = lv') (k : G X Q nL M lv' stk (pc + 2) o) : G X Q nL M lv (.int x :: stk) pc o :=
  fun r hr H locs _ hP hS hls => lv_istore C.x C.b hd hls hn hl (fun ls' hl' => k r hr H locs ls' hP hS hl')
theorem g_astore_n (C : gC X cc own nL ret fr lo) {k : Fin 4} {i x : Nat} (hd : decode cc pc = .ok (.astore_n k, 1)) (hi : (k : Nat) = i) (hn : i < nL) (hl : (i, Value.ref x) :: lv.filter (fun q => !(q.1 == i) && !(q.1 + 1 == i && q.2.category == 2)) = lv') (k : G X Q nL M lv' stk (pc + 1) o) : G X Q nL M lv (.ref x :: stk) pc o :=
  fun r hr H locs _ hP hS hls => lv_astore_n C.x C.b hd hi hls hn hl (fun ls' hl' => k r hr H locs ls' hP hS hl')
theorem g_astore (C : gC X cc own nL ret fr lo) {i x : Nat} (hd : decode cc pc = .ok (.astore i, 2)) (hn : i < nL) (hl : (i, Value.ref x) :: lv.filter (fun q => !(q.1 == i) && !(q.1 + 1 == i && q.2.category == 2)) = lv') (k : G X Q nL M lv' stk (pc + 2) o) : G X Q nL M lv (.ref x :: stk) pc o :=
  fun r hr H locs _ hP hS hls => lv_astore C.x C.b hd hls hn hl (fun ls' hl' => k r hr H locs ls' hP hS hl')
theorem g_iinc (C : gC X cc own nL ret fr lo) {i j : Nat} {n : Int} {x v : Int32} (hd : decode cc pc = .ok (.iinc i n, 3)) (hj : lv[j]? = some (i, .int x)) (hv : x + Int32.ofInt n = v) (hn : i < nL) (hl : (i, Value.int v) :: lv.filter (fun q => !(q.1 == i) && !(q.1 + 1 == i && q.2.category == 2)) = lv') (k : G X Q nL M lv' stk (pc + 3) o) : G X Q nL M lv stk pc o :=
  fun r hr H locs _ hP hS hls => lv_iinc C.x C.b hd hls hj hv hn hl (fun ls' hl' => k r hr H locs ls' hP hS hl')
theorem g_sub (ks : List Nat) (hl : lv_pick lv ks = lv') (k : G X Q nL M lv' stk pc o) : G X Q nL M lv stk pc o :=
  fun r hr H locs ls hP hS hls => k r hr H locs ls hP hS (lv_sub hls ks hl)
theorem g_iadd (C : gC X cc own nL ret fr lo) {x y : Int32} (hd : decode cc pc = .ok (.iadd, 1)) (k : G X Q nL M lv (.int (x + y) :: stk) (pc + 1) o) : G X Q nL M lv (.int y :: .int x :: stk) pc o :=
  fun r hr H locs ls hP hS hl => lv_iadd C.x C.b hd (k r hr H locs ls hP hS hl)
theorem g_isub (C : gC X cc own nL ret fr lo) {x y : Int32} (hd : decode cc pc = .ok (.isub, 1)) (k : G X Q nL M lv (.int (x - y) :: stk) (pc + 1) o) : G X Q nL M lv (.int y :: .int x :: stk) pc o :=
  fun r hr H locs ls hP hS hl => lv_isub C.x C.b hd (k r hr H locs ls hP hS hl)
theorem g_imul (C : gC X cc own nL ret fr lo) {x y : Int32} (hd : decode cc pc = .ok (.imul, 1)) (k : G X Q nL M lv (.int (x * y) :: stk) (pc + 1) o) : G X Q nL M lv (.int y :: .int x :: stk) pc o :=
  fun r hr H locs ls hP hS hl => lv_imul C.x C.b hd (k r hr H locs ls hP hS hl)
theorem g_iand (C : gC X cc own nL ret fr lo) {x y : Int32} (hd : decode cc pc = .ok (.iand, 1)) (k : G X Q nL M lv (.int (x &&& y) :: stk) (pc + 1) o) : G X Q nL M lv (.int y :: .int x :: stk) pc o :=
  fun r hr H locs ls hP hS hl => lv_iand C.x C.b hd (k r hr H locs ls hP hS hl)
theorem g_ior (C : gC X cc own nL ret fr lo) {x y : Int32} (hd : decode cc pc = .ok (.ior, 1)) (k : G X Q nL M lv (.int (x ||| y) :: stk) (pc + 1) o) : G X Q nL M lv (.int y :: .int x :: stk) pc o :=
  fun r hr H locs ls hP hS hl => lv_ior C.x C.b hd (k r hr H locs ls hP hS hl)
theorem g_ixor (C : gC X cc own nL ret fr lo) {x y : Int32} (hd : decode cc pc = .ok (.ixor, 1)) (k : G X Q nL M lv (.int (x ^^^ y) :: stk) (pc + 1) o) : G X Q nL M lv (.int y :: .int x :: stk) pc o :=
  fun r hr H locs ls hP hS hl => lv_ixor C.x C.b hd (k r hr H locs ls hP hS hl)
theorem g_idiv (C : gC X cc own nL ret fr lo) {x y : Int32} (hd : decode cc pc = .ok (.idiv, 1)) (k : G X Q nL M lv (.int (x / y) :: stk) (pc + 1) o) : G X Q nL M lv (.int y :: .int x :: stk) pc (ck (decide (¬ y = 0)) o) := by
  intro r hr H locs ls hP hS hl
  by_cases hy : y = 0
  · simp [ck, hy] at hr
  · have hr : o = some r := by simpa [ck, hy] using hr
    exact lv_idiv C.x C.b hd hy (k r hr H locs ls hP hS hl)
theorem g_irem (C : gC X cc own nL ret fr lo) {x y : Int32} (hd : decode cc pc = .ok (.irem, 1)) (k : G X Q nL M lv (.int (x - x / y * y) :: stk) (pc + 1) o) : G X Q nL M lv (.int y :: .int x :: stk) pc (ck (decide (¬ y = 0)) o) := by
  intro r hr H locs ls hP hS hl
  by_cases hy : y = 0
  · simp [ck, hy] at hr
  · have hr : o = some r := by simpa [ck, hy] using hr
    exact lv_irem C.x C.b hd hy (k r hr H locs ls hP hS hl)
theorem g_idivk (C : gC X cc own nL ret fr lo) {x y : Int32} (hd : decode cc pc = .ok (.idiv, 1)) (hy : ¬ y = 0) (k : G X Q nL M lv (.int (x / y) :: stk) (pc + 1) o) : G X Q nL M lv (.int y :: .int x :: stk) pc o :=
  fun r hr H locs ls hP hS hl => lv_idiv C.x C.b hd hy (k r hr H locs ls hP hS hl)
theorem g_iremk (C : gC X cc own nL ret fr lo) {x y : Int32} (hd : decode cc pc = .ok (.irem, 1)) (hy : ¬ y = 0) (k : G X Q nL M lv (.int (x - x / y * y) :: stk) (pc + 1) o) : G X Q nL M lv (.int y :: .int x :: stk) pc o :=
  fun r hr H locs ls hP hS hl => lv_irem C.x C.b hd hy (k r hr H locs ls hP hS hl)
theorem g_lremk (C : gC X cc own nL ret fr lo) {x y : Int64} (hd : decode cc pc = .ok (.lrem, 1)) (hy : ¬ y = 0) (k : G X Q nL M lv (.long (x - x / y * y) :: stk) (pc + 1) o) : G X Q nL M lv (.long y :: .long x :: stk) pc o :=
  fun r hr H locs ls hP hS hl => lv_lrem C.x C.b hd hy (k r hr H locs ls hP hS hl)
theorem g_ladd (C : gC X cc own nL ret fr lo) {x y : Int64} (hd : decode cc pc = .ok (.ladd, 1)) (k : G X Q nL M lv (.long (x + y) :: stk) (pc + 1) o) : G X Q nL M lv (.long y :: .long x :: stk) pc o :=
  fun r hr H locs ls hP hS hl => lv_ladd C.x C.b hd (k r hr H locs ls hP hS hl)
theorem g_lmul (C : gC X cc own nL ret fr lo) {x y : Int64} (hd : decode cc pc = .ok (.lmul, 1)) (k : G X Q nL M lv (.long (x * y) :: stk) (pc + 1) o) : G X Q nL M lv (.long y :: .long x :: stk) pc o :=
  fun r hr H locs ls hP hS hl => lv_lmul C.x C.b hd (k r hr H locs ls hP hS hl)
theorem g_land (C : gC X cc own nL ret fr lo) {x y : Int64} (hd : decode cc pc = .ok (.land, 1)) (k : G X Q nL M lv (.long (x &&& y) :: stk) (pc + 1) o) : G X Q nL M lv (.long y :: .long x :: stk) pc o :=
  fun r hr H locs ls hP hS hl => lv_land C.x C.b hd (k r hr H locs ls hP hS hl)
theorem g_lor (C : gC X cc own nL ret fr lo) {x y : Int64} (hd : decode cc pc = .ok (.lor, 1)) (k : G X Q nL M lv (.long (x ||| y) :: stk) (pc + 1) o) : G X Q nL M lv (.long y :: .long x :: stk) pc o :=
  fun r hr H locs ls hP hS hl => lv_lor C.x C.b hd (k r hr H locs ls hP hS hl)
theorem g_ishl (C : gC X cc own nL ret fr lo) {x y : Int32} (hd : decode cc pc = .ok (.ishl, 1)) (k : G X Q nL M lv (.int (x <<< (y &&& 31)) :: stk) (pc + 1) o) : G X Q nL M lv (.int y :: .int x :: stk) pc o :=
  fun r hr H locs ls hP hS hl => lv_ishl C.x C.b hd (k r hr H locs ls hP hS hl)
theorem g_ishr (C : gC X cc own nL ret fr lo) {x y : Int32} (hd : decode cc pc = .ok (.ishr, 1)) (k : G X Q nL M lv (.int (x >>> (y &&& 31)) :: stk) (pc + 1) o) : G X Q nL M lv (.int y :: .int x :: stk) pc o :=
  fun r hr H locs ls hP hS hl => lv_ishr C.x C.b hd (k r hr H locs ls hP hS hl)
theorem g_iushr (C : gC X cc own nL ret fr lo) {x y : Int32} (hd : decode cc pc = .ok (.iushr, 1)) (k : G X Q nL M lv (.int ((x.toUInt32 >>> (y.toUInt32 &&& Int32.toUInt32 31)).toInt32) :: stk) (pc + 1) o) : G X Q nL M lv (.int y :: .int x :: stk) pc o :=
  fun r hr H locs ls hP hS hl => lv_iushr C.x C.b hd rfl (k r hr H locs ls hP hS hl)
theorem g_lushr (C : gC X cc own nL ret fr lo) {x : Int64} {y : Int32} (hd : decode cc pc = .ok (.lushr, 1)) (k : G X Q nL M lv (.long ((x.toUInt64 >>> (y.toInt64.toUInt64 &&& Int64.toUInt64 63)).toInt64) :: stk) (pc + 1) o) : G X Q nL M lv (.int y :: .long x :: stk) pc o :=
  fun r hr H locs ls hP hS hl => lv_lushr C.x C.b hd rfl (k r hr H locs ls hP hS hl)
theorem g_lshr (C : gC X cc own nL ret fr lo) {x : Int64} {y : Int32} (hd : decode cc pc = .ok (.lshr, 1)) (k : G X Q nL M lv (.long (x >>> (y.toInt64 &&& 63)) :: stk) (pc + 1) o) : G X Q nL M lv (.int y :: .long x :: stk) pc o :=
  fun r hr H locs ls hP hS hl => lv_lshr C.x C.b hd rfl (k r hr H locs ls hP hS hl)
theorem g_lshl (C : gC X cc own nL ret fr lo) {x : Int64} {y : Int32} (hd : decode cc pc = .ok (.lshl, 1)) (k : G X Q nL M lv (.long (x <<< (y.toInt64 &&& 63)) :: stk) (pc + 1) o) : G X Q nL M lv (.int y :: .long x :: stk) pc o :=
  fun r hr H locs ls hP hS hl => lv_lshl C.x C.b hd rfl (k r hr H locs ls hP hS hl)
theorem g_i2l (C : gC X cc own nL ret fr lo) {x : Int32} (hd : decode cc pc = .ok (.i2l, 1)) (k : G X Q nL M lv (.long x.toInt64 :: stk) (pc + 1) o) : G X Q nL M lv (.int x :: stk) pc o :=
  fun r hr H locs ls hP hS hl => lv_i2l C.x C.b hd rfl (k r hr H locs ls hP hS hl)
theorem g_l2i (C : gC X cc own nL ret fr lo) {x : Int64} (hd : decode cc pc = .ok (.l2i, 1)) (k : G X Q nL M lv (.int x.toInt32 :: stk) (pc + 1) o) : G X Q nL M lv (.long x :: stk) pc o :=
  fun r hr H locs ls hP hS hl => lv_l2i C.x C.b hd rfl (k r hr H locs ls hP hS hl)
theorem g_lcmp (C : gC X cc own nL ret fr lo) {x y : Int64} (hd : decode cc pc = .ok (.lcmp, 1)) (k : G X Q nL M lv (.int (lg_cmp x y) :: stk) (pc + 1) o) : G X Q nL M lv (.long y :: .long x :: stk) pc o :=
  fun r hr H locs ls hP hS hl => W.lcmp C.x C.b hd (k r hr H locs ls hP hS hl)
theorem g_dup (C : gC X cc own nL ret fr lo) {v : Value} (hd : decode cc pc = .ok (.dup, 1)) (hv : v.category = 1) (k : G X Q nL M lv (v :: v :: stk) (pc + 1) o) : G X Q nL M lv (v :: stk) pc o :=
  fun r hr H locs ls hP hS hl => lv_dup C.x C.b hd hv (k r hr H locs ls hP hS hl)
theorem g_dup2 (C : gC X cc own nL ret fr lo) {v w : Value} (hd : decode cc pc = .ok (.dup2, 1)) (hv : v.category = 1) (hw : w.category = 1) (k : G X Q nL M lv (v :: w :: v :: w :: stk) (pc + 1) o) : G X Q nL M lv (v :: w :: stk) pc o :=
  fun r hr H locs ls hP hS hl => lv_dup2_11 C.x C.b hd hv hw (k r hr H locs ls hP hS hl)
theorem g_pop (C : gC X cc own nL ret fr lo) {v : Value} (hd : decode cc pc = .ok (.pop, 1)) (hv : v.category = 1) (k : G X Q nL M lv stk (pc + 1) o) : G X Q nL M lv (v :: stk) pc o :=
  fun r hr H locs ls hP hS hl => lv_pop C.x C.b hd hv (k r hr H locs ls hP hS hl)
theorem g_goto (C : gC X cc own nL ret fr lo) {off : Int} {tgt : Nat} (hd : decode cc pc = .ok (.goto off, 3)) (ht : (pc : Int) + off = (tgt : Int)) (k : G X Q nL M lv stk tgt o) : G X Q nL M lv stk pc o :=
  fun r hr H locs ls hP hS hl => lv_goto C.x C.b hd ht (k r hr H locs ls hP hS hl)
theorem some_t {c : Prop} [Decidable c] {r : ρ} (h : (if c then A else B) = some r) (hc : c) : A = some r := by rw [if_pos hc] at h; exact h
theorem some_f {c : Prop} [Decidable c] {r : ρ} (h : (if c then A else B) = some r) (hc : ¬ c) : B = some r := by rw [if_neg hc] at h; exact h
theorem g_icmp_eq (C : gC X cc own nL ret fr lo) {x y : Int32} {off : Int} {tgt : Nat} (hd : decode cc pc = .ok (.if_icmp .eq off, 3)) (ht : (pc : Int) + off = (tgt : Int)) (kt : G X Q nL M lv stk tgt A) (kf : G X Q nL M lv stk (pc + 3) B) : G X Q nL M lv (.int y :: .int x :: stk) pc (if x = y then A else B) :=
  fun r hr H locs ls hP hS hl => lv_icmp_eq C.x C.b hd ht (fun h => kt r (some_t hr h) H locs ls hP hS hl) (fun h => kf r (some_f hr h) H locs ls hP hS hl)
theorem g_if_eq (C : gC X cc own nL ret fr lo) {x : Int32} {off : Int} {tgt : Nat} (hd : decode cc pc = .ok (.ifCond .eq off, 3)) (ht : (pc : Int) + off = (tgt : Int)) (kt : G X Q nL M lv stk tgt A) (kf : G X Q nL M lv stk (pc + 3) B) : G X Q nL M lv (.int x :: stk) pc (if x = 0 then A else B) :=
  fun r hr H locs ls hP hS hl => lv_if_eq C.x C.b hd ht (fun h => kt r (some_t hr h) H locs ls hP hS hl) (fun h => kf r (some_f hr h) H locs ls hP hS hl)
theorem g_icmp_ne (C : gC X cc own nL ret fr lo) {x y : Int32} {off : Int} {tgt : Nat} (hd : decode cc pc = .ok (.if_icmp .ne off, 3)) (ht : (pc : Int) + off = (tgt : Int)) (kt : G X Q nL M lv stk tgt B) (kf : G X Q nL M lv stk (pc + 3) A) : G X Q nL M lv (.int y :: .int x :: stk) pc (if x = y then A else B) :=
  fun r hr H locs ls hP hS hl => lv_icmp_ne C.x C.b hd ht (fun h => kt r (some_f hr h) H locs ls hP hS hl) (fun h => kf r (some_t hr h) H locs ls hP hS hl)
theorem g_if_ne (C : gC X cc own nL ret fr lo) {x : Int32} {off : Int} {tgt : Nat} (hd : decode cc pc = .ok (.ifCond .ne off, 3)) (ht : (pc : Int) + off = (tgt : Int)) (kt : G X Q nL M lv stk tgt B) (kf : G X Q nL M lv stk (pc + 3) A) : G X Q nL M lv (.int x :: stk) pc (if x = 0 then A else B) :=
  fun r hr H locs ls hP hS hl => lv_if_ne C.x C.b hd ht (fun h => kt r (some_f hr h) H locs ls hP hS hl) (fun h => kf r (some_t hr h) H locs ls hP hS hl)
theorem g_icmp_lt (C : gC X cc own nL ret fr lo) {x y : Int32} {off : Int} {tgt : Nat} (hd : decode cc pc = .ok (.if_icmp .lt off, 3)) (ht : (pc : Int) + off = (tgt : Int)) (kt : G X Q nL M lv stk tgt A) (kf : G X Q nL M lv stk (pc + 3) B) : G X Q nL M lv (.int y :: .int x :: stk) pc (if x < y then A else B) :=
  fun r hr H locs ls hP hS hl => lv_icmp_lt C.x C.b hd ht (fun h => kt r (some_t hr h) H locs ls hP hS hl) (fun h => kf r (some_f hr h) H locs ls hP hS hl)
theorem g_if_lt (C : gC X cc own nL ret fr lo) {x : Int32} {off : Int} {tgt : Nat} (hd : decode cc pc = .ok (.ifCond .lt off, 3)) (ht : (pc : Int) + off = (tgt : Int)) (kt : G X Q nL M lv stk tgt A) (kf : G X Q nL M lv stk (pc + 3) B) : G X Q nL M lv (.int x :: stk) pc (if x < 0 then A else B) :=
  fun r hr H locs ls hP hS hl => lv_if_lt C.x C.b hd ht (fun h => kt r (some_t hr h) H locs ls hP hS hl) (fun h => kf r (some_f hr h) H locs ls hP hS hl)
theorem g_icmp_ge (C : gC X cc own nL ret fr lo) {x y : Int32} {off : Int} {tgt : Nat} (hd : decode cc pc = .ok (.if_icmp .ge off, 3)) (ht : (pc : Int) + off = (tgt : Int)) (kt : G X Q nL M lv stk tgt A) (kf : G X Q nL M lv stk (pc + 3) B) : G X Q nL M lv (.int y :: .int x :: stk) pc (if y ≤ x then A else B) :=
  fun r hr H locs ls hP hS hl => lv_icmp_ge C.x C.b hd ht (fun h => kt r (some_t hr h) H locs ls hP hS hl) (fun h => kf r (some_f hr h) H locs ls hP hS hl)
theorem g_if_ge (C : gC X cc own nL ret fr lo) {x : Int32} {off : Int} {tgt : Nat} (hd : decode cc pc = .ok (.ifCond .ge off, 3)) (ht : (pc : Int) + off = (tgt : Int)) (kt : G X Q nL M lv stk tgt A) (kf : G X Q nL M lv stk (pc + 3) B) : G X Q nL M lv (.int x :: stk) pc (if 0 ≤ x then A else B) :=
  fun r hr H locs ls hP hS hl => lv_if_ge C.x C.b hd ht (fun h => kt r (some_t hr h) H locs ls hP hS hl) (fun h => kf r (some_f hr h) H locs ls hP hS hl)
theorem g_icmp_gt (C : gC X cc own nL ret fr lo) {x y : Int32} {off : Int} {tgt : Nat} (hd : decode cc pc = .ok (.if_icmp .gt off, 3)) (ht : (pc : Int) + off = (tgt : Int)) (kt : G X Q nL M lv stk tgt A) (kf : G X Q nL M lv stk (pc + 3) B) : G X Q nL M lv (.int y :: .int x :: stk) pc (if y < x then A else B) :=
  fun r hr H locs ls hP hS hl => lv_icmp_gt C.x C.b hd ht (fun h => kt r (some_t hr h) H locs ls hP hS hl) (fun h => kf r (some_f hr h) H locs ls hP hS hl)
theorem g_if_gt (C : gC X cc own nL ret fr lo) {x : Int32} {off : Int} {tgt : Nat} (hd : decode cc pc = .ok (.ifCond .gt off, 3)) (ht : (pc : Int) + off = (tgt : Int)) (kt : G X Q nL M lv stk tgt A) (kf : G X Q nL M lv stk (pc + 3) B) : G X Q nL M lv (.int x :: stk) pc (if 0 < x then A else B) :=
  fun r hr H locs ls hP hS hl => lv_if_gt C.x C.b hd ht (fun h => kt r (some_t hr h) H locs ls hP hS hl) (fun h => kf r (some_f hr h) H locs ls hP hS hl)
theorem g_icmp_le (C : gC X cc own nL ret fr lo) {x y : Int32} {off : Int} {tgt : Nat} (hd : decode cc pc = .ok (.if_icmp .le off, 3)) (ht : (pc : Int) + off = (tgt : Int)) (kt : G X Q nL M lv stk tgt A) (kf : G X Q nL M lv stk (pc + 3) B) : G X Q nL M lv (.int y :: .int x :: stk) pc (if x ≤ y then A else B) :=
  fun r hr H locs ls hP hS hl => lv_icmp_le C.x C.b hd ht (fun h => kt r (some_t hr h) H locs ls hP hS hl) (fun h => kf r (some_f hr h) H locs ls hP hS hl)
theorem g_if_le (C : gC X cc own nL ret fr lo) {x : Int32} {off : Int} {tgt : Nat} (hd : decode cc pc = .ok (.ifCond .le off, 3)) (ht : (pc : Int) + off = (tgt : Int)) (kt : G X Q nL M lv stk tgt A) (kf : G X Q nL M lv stk (pc + 3) B) : G X Q nL M lv (.int x :: stk) pc (if x ≤ 0 then A else B) :=
  fun r hr H locs ls hP hS hl => lv_if_le C.x C.b hd ht (fun h => kt r (some_t hr h) H locs ls hP hS hl) (fun h => kf r (some_f hr h) H locs ls hP hS hl)
theorem gCl_ne {ci : Nat} {q : vw_C} (h : vwCl[ci]? = some q) : (gKo ci : gK) ≠ gKo 77 := by
  intro e
  have e1 : ci = 77 := Sum.inl.inj e
  subst e1
  have h2 : (none : Option vw_C) = some q := h
  cases h2
theorem gI_ne {n : Nat} : (gKi n : gK) ≠ gKo 77 := by intro e; cases e
theorem gZ_ne {n : Nat} : (gKz n : gK) ≠ gKo 77 := by intro e; cases e
theorem gR_ne {n : Nat} : (gKr n : gK) ≠ gKo 77 := by intro e; cases e
theorem gwl_at {ad : Nat → Nat} {cs : ClassId × ClassId × ClassId} {M : gM} {k : Nat} {K : gK} (h : kd k = K) (hK : K ≠ gKo 77) : (gwl ad cs M)[k]? = some (ad k, gcell ad cs K (rf k) (M k)) := by
  rw [gwl_get (gkd_lt h hK), h]
theorem g_getI (C : gC X cc own nL ret fr lo) {Cn : String} {T : u_T} {N ci ix i t : Nat} (hk : kd t = gKo ci) (hin : ∀ w ∈ u_ws Cn T N, w ∈ ws0) (hc : vwCl[ci]? = some (Cn, T, N)) (hi : i < N) (hb : (gfsh ci)[i]? = some true) (hw : Cond.fieldLink own ix (T i).1 (T i).2.1 (T i).2.2.1 ∈ ws0) (hd : decode cc pc = .ok (.getfield ix, 3)) (k : G X Q nL M lv (.int (M t i) :: stk) (pc + 3) o) : G X Q nL M lv (.ref (xad X t) :: stk) pc o := by
  intro r hr H locs ls hP hS hl
  have he := gwl_at (ad := xad X) (cs := xcs X) (M := M) hk (gCl_ne hc)
  have hv : (gflds (xad X) (rf t) (M t) (gfsh ci) 0)[i]? = some (Value.int (M t i)) := by rw [gflds_int _ 0 i hb, Nat.zero_add]
  exact va_get C.x C.b C.ts hin C.ow C.K hP t he hc i hi (C.ts _ hw) (fun _ h => h) hv hd (k r hr H locs ls hP hS hl)
theorem g_getR (C : gC X cc own nL ret fr lo) {Cn : String} {T : u_T} {N ci ix i t u : Nat} (hk : kd t = gKo ci) (hin : ∀ w ∈ u_ws Cn T N, w ∈ ws0) (hc : vwCl[ci]? = some (Cn, T, N)) (hi : i < N) (hb : (gfsh ci)[i]? = some false) (hw : Cond.fieldLink own ix (T i).1 (T i).2.1 (T i).2.2.1 ∈ ws0) (hu : rf t i = u) (hd : decode cc pc = .ok (.getfield ix, 3)) (k : G X Q nL M lv (.ref (xad X u) :: stk) (pc + 3) o) : G X Q nL M lv (.ref (xad X t) :: stk) pc o := by
  intro r hr H locs ls hP hS hl
  have he := gwl_at (ad := xad X) (cs := xcs X) (M := M) hk (gCl_ne hc)
  have hv : (gflds (xad X) (rf t) (M t) (gfsh ci) 0)[i]? = some (Value.ref (xad X u)) := by rw [gflds_ref _ 0 i hb, Nat.zero_add, hu]
  exact va_get C.x C.b C.ts hin C.ow C.K hP t he hc i hi (C.ts _ hw) (fun _ h => h) hv hd (k r hr H locs ls hP hS hl)
theorem g_getNI (C : gC X cc own nL ret fr lo) {Cn host : String} {T : u_T} {N ci ix i t : Nat} (hk : kd t = gKo ci) (hin : ∀ w ∈ u_ws Cn T N, w ∈ ws0) (hc : vwCl[ci]? = some (Cn, T, N)) (hi : i < N) (hb : (gfsh ci)[i]? = some true) (hw : (own, ix, (T i).1, (T i).2.1, (T i).2.2.1, host) ∈ nstF) (hd : decode cc pc = .ok (.getfield ix, 3)) (k : G X Q nL M lv (.int (M t i) :: stk) (pc + 3) o) : G X Q nL M lv (.ref (xad X t) :: stk) pc o := by
  intro r hr H locs ls hP hS hl
  have he := gwl_at (ad := xad X) (cs := xcs X) (M := M) hk (gCl_ne hc)
  have hv : (gflds (xad X) (rf t) (M t) (gfsh ci) 0)[i]? = some (Value.int (M t i)) := by rw [gflds_int _ 0 i hb, Nat.zero_add]
  exact va_getN C.x C.b C.ts hin C.ow C.K hP t he hc i hi (va_Nw.use rfl (C.nst.1 _ hw)) (fun _ h => h) hv hd (k r hr H locs ls hP hS hl)
theorem g_getNR (C : gC X cc own nL ret fr lo) {Cn host : String} {T : u_T} {N ci ix i t u : Nat} (hk : kd t = gKo ci) (hin : ∀ w ∈ u_ws Cn T N, w ∈ ws0) (hc : vwCl[ci]? = some (Cn, T, N)) (hi : i < N) (hb : (gfsh ci)[i]? = some false) (hw : (own, ix, (T i).1, (T i).2.1, (T i).2.2.1, host) ∈ nstF) (hu : rf t i = u) (hd : decode cc pc = .ok (.getfield ix, 3)) (k : G X Q nL M lv (.ref (xad X u) :: stk) (pc + 3) o) : G X Q nL M lv (.ref (xad X t) :: stk) pc o := by
  intro r hr H locs ls hP hS hl
  have he := gwl_at (ad := xad X) (cs := xcs X) (M := M) hk (gCl_ne hc)
  have hv : (gflds (xad X) (rf t) (M t) (gfsh ci) 0)[i]? = some (Value.ref (xad X u)) := by rw [gflds_ref _ 0 i hb, Nat.zero_add, hu]
  exact va_getN C.x C.b C.ts hin C.ow C.K hP t he hc i hi (va_Nw.use rfl (C.nst.1 _ hw)) (fun _ h => h) hv hd (k r hr H locs ls hP hS hl)
theorem gwl_putI {ad : Nat → Nat} {cs : ClassId × ClassId × ClassId} {t ci i : Nat} {x : Int32} (hk : kd t = gKo ci) (hb : (gfsh ci)[i]? = some true) : (gwl ad cs M).set t (ad t, .inr (ci, (gflds ad (rf t) (M t) (gfsh ci) 0).set i (Value.int x))) = gwl ad cs (gst M t i x) := by
  refine gwl_set ?_ (fun j hj => gst_ne M t i x hj)
  rw [hk, gst_at]
  show _ = (Sum.inr (ci, gflds ad (rf t) (upd (M t) i x) (gfsh ci) 0) : va_E)
  rw [gflds_set _ 0 i hb, Nat.zero_add]
theorem g_putI (C : gC X cc own nL ret fr lo) {Cn : String} {T : u_T} {N ci ix i t : Nat} {x : Int32} (ty : Nat → FieldType) (hty : ∀ k, k < N → parseFieldDescriptor (T k).2.2.1 = some (ty k)) (hnm : ∀ a, a < N → ∀ b, b < N → a ≠ b → (T a).2.1 ≠ (T b).2.1) (hk : kd t = gKo ci) (hin : ∀ w ∈ u_ws Cn T N, w ∈ ws0) (hc : vwCl[ci]? = some (Cn, T, N)) (hi : i < N) (hb : (gfsh ci)[i]? = some true) (hw : Cond.fieldLink own ix (T i).1 (T i).2.1 (T i).2.2.1 ∈ ws0) (hfin : (T i).2.2.2 = false) (hpd : parseFieldDescriptor (T i).2.2.1 = some .int) (hd : decode cc pc = .ok (.putfield ix, 3)) (k : G X Q nL (gst M t i x) lv stk (pc + 3) o) : G X Q nL M lv (.int x :: .ref (xad X t) :: stk) pc o := by
  intro r hr H locs ls hP hS hl
  have he := gwl_at (ad := xad X) (cs := xcs X) (M := M) hk (gCl_ne hc)
  have hlt : i < (gfsh ci).length := (List.getElem?_eq_some_iff.mp hb).1
  refine va_put C.x C.b C.ts hin ty hty hnm C.ow C.K hP (gwl_D C.inj C.A) hS t he hc i hi (C.ts _ hw) (fun _ h => h) hfin hpd rfl rfl (by rw [gflds_len]; exact hlt) hd (fun H1 locs1 hP1 _ hS1 => ?_)
  rw [gwl_putI hk hb] at hP1
  exact k r hr H1 locs1 ls hP1 hS1 hl
theorem g_putNI (C : gC X cc own nL ret fr lo) {Cn host : String} {T : u_T} {N ci ix i t : Nat} {x : Int32} (ty : Nat → FieldType) (hty : ∀ k, k < N → parseFieldDescriptor (T k).2.2.1 = some (ty k)) (hnm : ∀ a, a < N → ∀ b, b < N → a ≠ b → (T a).2.1 ≠ (T b).2.1) (hk : kd t = gKo ci) (hin : ∀ w ∈ u_ws Cn T N, w ∈ ws0) (hc : vwCl[ci]? = some (Cn, T, N)) (hi : i < N) (hb : (gfsh ci)[i]? = some true) (hw : (own, ix, (T i).1, (T i).2.1, (T i).2.2.1, host) ∈ nstF) (hfin : (T i).2.2.2 = false) (hpd : parseFieldDescriptor (T i).2.2.1 = some .int) (hd : decode cc pc = .ok (.putfield ix, 3)) (k : G X Q nL (gst M t i x) lv stk (pc + 3) o) : G X Q nL M lv (.int x :: .ref (xad X t) :: stk) pc o := by
  intro r hr H locs ls hP hS hl
  have he := gwl_at (ad := xad X) (cs := xcs X) (M := M) hk (gCl_ne hc)
  have hlt : i < (gfsh ci).length := (List.getElem?_eq_some_iff.mp hb).1
  refine va_putN C.x C.b C.ts hin ty hty hnm C.ow C.K hP (gwl_D C.inj C.A) hS t he hc i hi (va_Nw.use rfl (C.nst.1 _ hw)) (fun _ h => h) hfin hpd rfl rfl (by rw [gflds_len]; exact hlt) hd (fun H1 locs1 hP1 _ hS1 => ?_)
  rw [gwl_putI hk hb] at hP1
  exact k r hr H1 locs1 ls hP1 hS1 hl
theorem ck_some {b : Bool} {r : ρ} (h : ck b o = some r) : b = true ∧ o = some r := by
  unfold ck at h
  by_cases hb : b = true
  · rw [if_pos hb] at h
    exact ⟨hb, h⟩
  · rw [if_neg hb] at h
    cases h
theorem g_iald (C : gC X cc own nL ret fr lo) {a n : Nat} {j : Int32} (hk : kd a = gKi n) (hd : decode cc pc = .ok (.iaload, 1)) (k : G X Q nL M lv (.int (M a j.toNatClampNeg) :: stk) (pc + 1) o) : G X Q nL M lv (.int j :: .ref (xad X a) :: stk) pc (ck (ib j n) o) := by
  intro r hr H locs ls hP hS hl
  obtain ⟨h1, h2⟩ := ck_some hr
  exact va_iald C.x C.b C.K hP a 0 (gwl_at hk gI_ne) rfl (ib_in h1) hd (k r h2 H locs ls hP hS hl)
theorem g_zald (C : gC X cc own nL ret fr lo) {a n : Nat} {j : Int32} (hk : kd a = gKz n) (hd : decode cc pc = .ok (.baload, 1)) (k : G X Q nL M lv (.int (M a j.toNatClampNeg) :: stk) (pc + 1) o) : G X Q nL M lv (.int j :: .ref (xad X a) :: stk) pc (ck (ib j n) o) := by
  intro r hr H locs ls hP hS hl
  obtain ⟨h1, h2⟩ := ck_some hr
  exact va_zald C.x C.b C.K hP a 1 (gwl_at hk gZ_ne) rfl (ib_in h1) hd (k r h2 H locs ls hP hS hl)
theorem g_aald (C : gC X cc own nL ret fr lo) {a n : Nat} {j : Int32} (hk : kd a = gKr n) (hd : decode cc pc = .ok (.aaload, 1)) (k : G X Q nL M lv (.ref (xad X (rf a j.toNatClampNeg)) :: stk) (pc + 1) o) : G X Q nL M lv (.int j :: .ref (xad X a) :: stk) pc (ck (ib j n) o) := by
  intro r hr H locs ls hP hS hl
  obtain ⟨h1, h2⟩ := ck_some hr
  have hin := ib_in h1
  have hlt : j.toNatClampNeg < n := Nat.not_le.mp fun q => hin (Or.inr q)
  exact W.aald (v := Value.ref (xad X (rf a j.toNatClampNeg))) (ty := .array .int) C.x C.b (hP a _ (gwl_at hk gR_ne)) ((C.K.2 2 _ rfl).1 n (fun q => va_rf (some (xad X (rf a q))))) rfl (fun q => by cases q) (by show ¬ (j < 0 ∨ (arrV _ _ _).slots.size ≤ _); rw [arrV_size]; exact hin) (by show (arrV _ _ _).slots[_]? = _; rw [arrV_read _ _ hlt]; rfl) rfl rfl hd (k r h2 H locs ls hP hS hl)
theorem g_alen (C : gC X cc own nL ret fr lo) {a n : Nat} {v : Int32} (hk : kd a = gKi n) (hv : Int32.ofNat n = v) (hd : decode cc pc = .ok (.arraylength, 1)) (k : G X Q nL M lv (.int v :: stk) (pc + 1) o) : G X Q nL M lv (.ref (xad X a) :: stk) pc o :=
  fun r hr H locs ls hP hS hl => va_alen C.x C.b C.K hP a 0 (gwl_at hk gI_ne) rfl hv hd (k r hr H locs ls hP hS hl)
theorem gwl_putA {ad : Nat → Nat} {cs : ClassId × ClassId × ClassId} {a n i : Nat} {x : Int32} (hk : kd a = gKi n) : (gwl ad cs M).set a (ad a, .inl (cs.1, n, .inl (upd (M a) i x))) = gwl ad cs (gst M a i x) := by
  refine gwl_set ?_ (fun j hj => gst_ne M a i x hj)
  rw [hk, gst_at]
  rfl
theorem gwl_putZ {ad : Nat → Nat} {cs : ClassId × ClassId × ClassId} {a n i : Nat} {x : Int32} (hk : kd a = gKz n) : (gwl ad cs M).set a (ad a, .inl (cs.2.1, n, .inl (upd (M a) i x))) = gwl ad cs (gst M a i x) := by
  refine gwl_set ?_ (fun j hj => gst_ne M a i x hj)
  rw [hk, gst_at]
  rfl
theorem g_iast (C : gC X cc own nL ret fr lo) {a n : Nat} {j x : Int32} (hk : kd a = gKi n) (hd : decode cc pc = .ok (.iastore, 1)) (k : G X Q nL (gst M a j.toNatClampNeg x) lv stk (pc + 1) o) : G X Q nL M lv (.int x :: .int j :: .ref (xad X a) :: stk) pc (ck (ib j n) o) := by
  intro r hr H locs ls hP hS hl
  obtain ⟨h1, h2⟩ := ck_some hr
  refine va_iast C.x C.b C.K hP (gwl_D C.inj C.A) hS a 0 (gwl_at hk gI_ne) rfl (ib_in h1) hd (fun H1 locs1 hP1 _ hS1 => ?_)
  rw [gwl_putA hk] at hP1
  exact k r h2 H1 locs1 ls hP1 hS1 hl
theorem gz_nar (x : Int32) : vp_nar .boolean x = x &&& 1 := rfl
theorem g_zast (C : gC X cc own nL ret fr lo) {a n : Nat} {j x : Int32} (hk : kd a = gKz n) (hd : decode cc pc = .ok (.bastore, 1)) (k : G X Q nL (gst M a j.toNatClampNeg (x &&& 1)) lv stk (pc + 1) o) : G X Q nL M lv (.int x :: .int j :: .ref (xad X a) :: stk) pc (ck (ib j n) o) := by
  intro r hr H locs ls hP hS hl
  obtain ⟨h1, h2⟩ := ck_some hr
  refine va_zast C.x C.b C.K hP (gwl_D C.inj C.A) hS a 1 (gwl_at hk gZ_ne) rfl (ib_in h1) hd (fun H1 locs1 hP1 _ hS1 => ?_)
  rw [gwl_putZ hk, gz_nar] at hP1
  exact k r h2 H1 locs1 ls hP1 hS1 hl
/-- a computed number gets a name -/
theorem g_lt {e : Int32} {f : Int32 → Option ρ} (k : ∀ y, G X Q nL M lv (.int y :: stk) pc (f y)) : G X Q nL M lv (.int e :: stk) pc (lt_ e f) := k e
theorem g_case (C : gC X cc own nL ret fr lo) {dflt lo' hi : Int} {offs : Array Int} {len : Nat} {x a : Int32} {ai : Int} {off : Int} {tgt : Nat} (hd : decode cc pc = .ok (.tableswitch dflt lo' hi offs, len)) (ha : a.toInt = ai) (h1 : lo' ≤ ai) (h2 : ai ≤ hi) (ho : offs[(ai - lo').toNat]? = some off) (ht : (pc : Int) + off = (tgt : Int)) (k : G X Q nL M lv stk tgt A) (k2 : ¬ x.toInt = ai → G X Q nL M lv (.int x :: stk) pc B) : G X Q nL M lv (.int x :: stk) pc (if x = a then A else B) := by
  intro r hr H locs ls hP hS hl
  by_cases h : x = a
  · rw [if_pos h] at hr
    subst h
    exact lv_tableIn C.x C.b hd (by omega) (by omega) (by rw [ha]; exact ho) ht (k r hr H locs ls hP hS hl)
  · rw [if_neg h] at hr
    exact k2 (fun q => h (Int32.toInt_inj.mp (by rw [ha]; exact q))) r hr H locs ls hP hS hl
theorem g_dflt (C : gC X cc own nL ret fr lo) {dflt lo' hi : Int} {offs : Array Int} {len : Nat} {x : Int32} {tgt : Nat} (hd : decode cc pc = .ok (.tableswitch dflt lo' hi offs, len)) (h : x.toInt < lo' ∨ hi < x.toInt) (ht : (pc : Int) + dflt = (tgt : Int)) (k : G X Q nL M lv stk tgt o) : G X Q nL M lv (.int x :: stk) pc o :=
  fun r hr H locs ls hP hS hl => lv_tableOut C.x C.b hd h ht (k r hr H locs ls hP hS hl)
theorem g_mmin (C : gC X cc own nL ret fr lo) {ix : Nat} {x y : Int32} (h1 : 1 ≤ fr) (h2 : (stk.map fun v => v.category).sum + 13 ≤ lo) (hw : Cond.methodLink own ix Lib.Math.min.name ∈ ws0) (hst : Cond.static Lib.Math.min.name ∈ ws0) (hi : Cond.initialized "java/lang/Math" ∈ ws0) (hco : Cond.code Lib.Math.min.name Lib.Math.min.code 2 (some .int) ∈ ws0) (hd : decode cc pc = .ok (.invokestatic ix, 3)) (k : G X Q nL M lv (.int (if y < x then y else x) :: stk) (pc + 3) o) : G X Q nL M lv (.int y :: .int x :: stk) pc o :=
  fun r hr H locs ls hP hS hl => va_mmin C.x C.b (C.ml.trans hl.1.symm) C.ow (C.ts _ hw) (C.ts _ hst) (C.ts _ hi) (C.ts _ hco) (Nat.le_trans h1 C.frm) (Nat.le_trans h2 C.loc) C.ce C.sl hd (k r hr H locs ls hP hS hl)
theorem g_mmax (C : gC X cc own nL ret fr lo) {ix : Nat} {x y : Int32} (h1 : 1 ≤ fr) (h2 : (stk.map fun v => v.category).sum + 13 ≤ lo) (hw : Cond.methodLink own ix Lib.Math.max.name ∈ ws0) (hst : Cond.static Lib.Math.max.name ∈ ws0) (hi : Cond.initialized "java/lang/Math" ∈ ws0) (hco : Cond.code Lib.Math.max.name Lib.Math.max.code 2 (some .int) ∈ ws0) (hd : decode cc pc = .ok (.invokestatic ix, 3)) (k : G X Q nL M lv (.int (if x < y then y else x) :: stk) (pc + 3) o) : G X Q nL M lv (.int y :: .int x :: stk) pc o :=
  fun r hr H locs ls hP hS hl => va_mmax C.x C.b (C.ml.trans hl.1.symm) C.ow (C.ts _ hw) (C.ts _ hst) (C.ts _ hi) (C.ts _ hco) (Nat.le_trans h1 C.frm) (Nat.le_trans h2 C.loc) C.ce C.sl hd (k r hr H locs ls hP hS hl)
theorem g_mabs (C : gC X cc own nL ret fr lo) {ix : Nat} {x : Int32} (h1 : 1 ≤ fr) (h2 : (stk.map fun v => v.category).sum + 13 ≤ lo) (hw : Cond.methodLink own ix Lib.Math.abs.name ∈ ws0) (hst : Cond.static Lib.Math.abs.name ∈ ws0) (hi : Cond.initialized "java/lang/Math" ∈ ws0) (hco : Cond.code Lib.Math.abs.name Lib.Math.abs.code 1 (some .int) ∈ ws0) (hd : decode cc pc = .ok (.invokestatic ix, 3)) (k : G X Q nL M lv (.int (if 0 ≤ x then x else 0 - x) :: stk) (pc + 3) o) : G X Q nL M lv (.int x :: stk) pc o :=
  fun r hr H locs ls hP hS hl => va_mabs C.x C.b (C.ml.trans hl.1.symm) C.ow (C.ts _ hw) (C.ts _ hst) (C.ts _ hi) (C.ts _ hco) (Nat.le_trans h1 C.frm) (Nat.le_trans h2 C.loc) C.ce C.sl hd (k r hr H locs ls hP hS hl)
end GR
/-! contracts -/
def gGood (D : va_G) (ad : Nat → Nat) (cs : ClassId × ClassId × ClassId) (K V : Nat → Nat) (A : Nat → Prop) (M : gM) (U : State) : Prop := va_P D vwCl (gwl ad cs M) U.heap ∧ va_K D vwCl (gtys cs) U ∧ gNst U ∧ gInj ad ∧ gJ K V A U U.heap
def gA (ad : Nat → Nat) : Nat → Prop := fun q => ∃ k, k < gN ∧ q = ad k
def gQ (D : va_G) (ad : Nat → Nat) (cs : ClassId × ClassId × ClassId) (A : Nat → Prop) (v : Option Value) (M : gM) : Array Value → State → Outcome → State → Prop := fun _ st oc t => oc = .returned v ∧ va_P D vwCl (gwl ad cs M) t.heap ∧ va_F A st t
def gQm {ρ : Type} (X : gX) (rv : (Nat → Nat) → ρ → Option Value) (rM : ρ → gM) : ρ → State → Prop := fun r => MQ (xbelow X) (gQ (xD X) (xad X) (xcs X) (xA X) (rv (xad X) r) (rM r)) (xargs X) (xs X) (xce X) (xsl X) (xA X)
/-- y's contract: over the memory M with these arguments it returns what o tells, if o tells something -/
def gCt {ρ : Type} (y : MethodName) (cd : ByteArray) (maxL : Nat) (ret : Option FieldType) (fr lo : Nat) (av : (Nat → Nat) → (Nat → Nat) → (Nat → Nat) → List Value) (rv : (Nat → Nat) → ρ → Option Value) (rM : ρ → gM) (M : gM) (o : Option ρ) : Prop :=
  ∀ (l : Launch) (D : va_G) (ad : Nat → Nat) (cs : ClassId × ClassId × ClassId) (K V : Nat → Nat) (r : ρ), o = some r → Met l y (Cond.code y cd maxL ret :: ws0) { frames := fr, cells := 0, slots := 0, locals := lo } (va_Pc (av ad K V) (gGood D ad cs K V (gA ad) M)) (gQ D ad cs (gA ad) (rv ad r) (rM r)) 0 0 (gA ad)
theorem g_met {ρ : Type} {y : MethodName} {cd : ByteArray} {maxL : Nat} {ret : Option FieldType} {fr lo : Nat} {av : (Nat → Nat) → (Nat → Nat) → (Nat → Nat) → List Value} {rv : (Nat → Nat) → ρ → Option Value} {rM : ρ → gM} {M : gM} {o : Option ρ} (hy : plainName y.cls = true) (hlen : ∀ ad K V, (lg_sl (av ad K V)).length ≤ maxL)
    (body : ∀ X : gX, gC X cd y.cls maxL ret fr lo → G X (gQm X rv rM) maxL M (lv_args 0 (av (xad X) (xK X) (xV X))) [] 0 o) : gCt y cd maxL ret fr lo av rv rM M o := by
  intro l D ad cs K V r hr
  refine Met.ofW (cc := cd) (maxL := maxL) (ret := ret) hy rfl ?_
  intro p e s m args below meth c s₁ B hml hv
  obtain ⟨rfl, hP, hK, hN, hI, hJ⟩ := hv
  have hts := atoms_spec (ws := Cond.code y cd maxL ret :: ws0) B.pre
  have C : gC (p, l, e, { frames := fr, cells := 0, slots := 0, locals := lo }, s, m, (av ad K V).toArray, below, meth, c, D, ad, cs, gA ad, 0, 0, K, V) cd y.cls maxL ret fr lo :=
    ⟨B.exec, B.bytes, hml, B.returns, B.notSynchronized, findClass_of_methodNamed B.named, fun w h => hts w (List.mem_cons_of_mem _ h), hN, hK, hI, fun k hk => ⟨k, hk, rfl⟩, ⟨Nat.le_refl _, Nat.le_refl _⟩, ⟨Nat.le_refl _, Nat.le_refl _⟩, hJ⟩
  have hl := lv_entry (av ad K V) (n := maxL) (hlen ad K V)
  rw [lg_entry_eq]
  exact body _ C r hr s.heap [] _ hP va_S.rf hl
section GRet
variable {ρ : Type} {X : gX} {rv : (Nat → Nat) → ρ → Option Value} {rM : ρ → gM} {nL : Nat} {M : gM} {lv : List (Nat × Value)} {pc : Nat} {cc : ByteArray} {own : String} {fr lo : Nat}
theorem g_iret (C : gC X cc own nL (some .int) fr lo) {v : Int32} {r : ρ} (hd : decode cc pc = .ok (.ireturn, 1)) (h1 : rv (xad X) r = some (.int v)) (h2 : rM r = M) : G X (gQm X rv rM) nL M lv [.int v] pc (some r) := by
  intro r' hr H locs ls hP hS hl
  cases hr
  exact W.iret C.x C.b C.r (fun t ht _ => ⟨by rw [h1], by rw [ht, h2]; exact hP, hS.F ht⟩) hS.2.2 hd (hlocks := C.lk)
theorem g_zret (C : gC X cc own nL (some .boolean) fr lo) {v : Int32} {r : ρ} (hd : decode cc pc = .ok (.ireturn, 1)) (h1 : rv (xad X) r = some (.int v)) (h2 : rM r = M) : G X (gQm X rv rM) nL M lv [.int v] pc (ck (gb v) (some r)) := by
  intro r' hr H locs ls hP hS hl
  obtain ⟨hb, hr⟩ := ck_some hr
  cases hr
  exact W.zret C.x C.b C.r (gb_nar hb) (fun t ht _ => ⟨by rw [h1], by rw [ht, h2]; exact hP, hS.F ht⟩) hS.2.2 hd (hlocks := C.lk)
theorem g_zretk (C : gC X cc own nL (some .boolean) fr lo) {v : Int32} {r : ρ} (hv : narrow .boolean (.int v) = .int v) (hd : decode cc pc = .ok (.ireturn, 1)) (h1 : rv (xad X) r = some (.int v)) (h2 : rM r = M) : G X (gQm X rv rM) nL M lv [.int v] pc (some r) := by
  intro r' hr H locs ls hP hS hl
  cases hr
  exact W.zret C.x C.b C.r hv (fun t ht _ => ⟨by rw [h1], by rw [ht, h2]; exact hP, hS.F ht⟩) hS.2.2 hd (hlocks := C.lk)
theorem g_nret {ty : FieldType} (C : gC X cc own nL (some ty) fr lo) {v : Int32} {r : ρ} (hv : narrow ty (.int v) = .int v) (hd : decode cc pc = .ok (.ireturn, 1)) (h1 : rv (xad X) r = some (.int v)) (h2 : rM r = M) : G X (gQm X rv rM) nL M lv [.int v] pc (some r) := by
  intro r' hr H locs ls hP hS hl
  cases hr
  exact W.zret C.x C.b C.r hv (fun t ht _ => ⟨by rw [h1], by rw [ht, h2]; exact hP, hS.F ht⟩) hS.2.2 hd (hlocks := C.lk)
theorem g_vret (C : gC X cc own nL none fr lo) {r : ρ} (hd : decode cc pc = .ok (.return_, 1)) (h1 : rv (xad X) r = none) (h2 : rM r = M) : G X (gQm X rv rM) nL M lv [] pc (some r) := by
  intro r' hr H locs ls hP hS hl
  cases hr
  exact W.vret C.x C.b C.r (fun t ht _ => ⟨by rw [h1], by rw [ht, h2]; exact hP, hS.F ht⟩) hS.2.2 hd (hlocks := C.lk)
theorem g_aret {rt : FieldType} (C : gC X cc own nL (some rt) fr lo) (hrt : (∃ n, rt = .object n) ∨ ∃ t, rt = .array t) {t : Nat} {r : ρ} (hd : decode cc pc = .ok (.areturn, 1)) (h1 : rv (xad X) r = some (.ref (xad X t))) (h2 : rM r = M) : G X (gQm X rv rM) nL M lv [.ref (xad X t)] pc (some r) := by
  intro r' hr H locs ls hP hS hl
  cases hr
  exact W.aret C.x C.b C.r hrt (Or.inr ⟨_, rfl⟩) (fun t ht _ => ⟨by rw [h1], by rw [ht, h2]; exact hP, hS.F ht⟩) hS.2.2 hd (hlocks := C.lk)
end GRet
section GCall
variable {ρ σ : Type} {X : gX} {Q : ρ → State → Prop} {nL : Nat} {M : gM} {lv : List (Nat × Value)} {stk stk0 : List Value} {pc : Nat} {cc : ByteArray} {own : String} {ret : Option FieldType} {fr lo : Nat}
variable {y : MethodName} {cd : ByteArray} {maxL : Nat} {ret1 : Option FieldType} {fr1 lo1 : Nat} {rv : (Nat → Nat) → σ → Option Value} {rM : σ → gM} {o1 : Option σ} {As : List Value} {ix n t ci : Nat}
/-- a call that stands at pc: what it leaves -/
def gRun (X : gX) (nL : Nat) (M : gM) (stk0 stk : List Value) (pc : Nat) (rv : (Nat → Nat) → σ → Option Value) (rM : σ → gM) (o1 : Option σ) : Prop :=
  ∀ r, o1 = some r → ∀ (H : Heap) (locs : List Loc) (ls : Array Slot), va_P (xD X) vwCl (gwl (xad X) (xcs X) M) H → va_S (xA X) (xs X).heap H locs → ls.size = nL → ∃ a : Array Value, va_Run (xp X) (xl X) (xe X) (xR X) (xs X) (xm X) (xargs X) (xbelow X) (xmeth X) (xc X) H locs (xce X) (xsl X) 0 0 (F0 (xm X) pc ls stk0) stk (gQ (xD X) (xad X) (xcs X) (gA (xad X)) (rv (xad X) r) (rM r) a) (gA (xad X))
theorem gGood.blind {D : va_G} {ad : Nat → Nat} {cs : ClassId × ClassId × ClassId} {K V : Nat → Nat} {A : Nat → Prop} {M : gM} {av : List Value} : FrameBlind (va_Pc av (gGood D ad cs K V A M)) := by
  intro a U g mk h
  obtain ⟨h0, h1, h2, h3, h4, h5⟩ := h
  exact ⟨h0, h1, va_K.moved (u := U) (U := U.calling g mk a) (Vm.Alike.refl U.vm) h2, gNst.same (s := U) (U := U.calling g mk a) rfl h3, h4, gJ.same (s := U) (U := U.calling g mk a) rfl h5⟩
theorem gGood.at (C : gC X cc own nL ret fr lo) {H : Heap} {locs : List Loc} (hP : va_P (xD X) vwCl (gwl (xad X) (xcs X) M) H) (hS : va_S (xA X) (xs X).heap H locs) {U : State} (hU : U.heap = H) (hW : (xs X).WarmedH U.vm) : gGood (xD X) (xad X) (xcs X) (xK X) (xV X) (gA (xad X)) M U :=
  ⟨by rw [hU]; exact hP, va_K.moved hW.alike C.K, C.nst.warm hW, C.inj, by rw [hU]; exact C.J.warm hW hS.2.1 (fun q hq => by obtain ⟨k, hk, rfl⟩ := hq; exact C.A k hk)⟩
theorem gws (C : gC X cc own nL ret fr lo) (hcw : Cond.code y cd maxL ret1 ∈ ws0) : GoodIn ws0 (Cond.code y cd maxL ret1 :: ws0) := by
  intro w hw
  rcases List.mem_cons.mp hw with rfl | hw
  · exact ⟨hcw, ws0_good hcw⟩
  · exact ⟨hw, ws0_good hw⟩
/-- invokevirtual of a method of the object t, by an entry of the own class -/
theorem g_runV (C : gC X cc own nL ret fr lo) {av : (Nat → Nat) → (Nat → Nat) → (Nat → Nat) → List Value} (hct : gCt y cd maxL ret1 fr1 lo1 av rv rM M o1) {Cn : String} {T : u_T} {N : Nat} (hav : av (xad X) (xK X) (xV X) = .ref (xad X t) :: As) (hst : stk0 = As.reverse ++ .ref (xad X t) :: stk) (hn : As.length = n) (hk : kd t = gKo ci) (hc : vwCl[ci]? = some (Cn, T, N)) (hcw : Cond.code y cd maxL ret1 ∈ ws0) (hwi : Cond.instanceMethod y ∈ ws0) (hwv : Cond.selects Cn y y ∈ ws0) (hw0 : Cond.initialized y.cls ∈ ws0) (hwm : Cond.methodLink own ix y ∈ ws0) (hy : y.cls ≠ "java/lang/invoke/MethodHandle" ∧ y.cls ≠ "java/lang/invoke/VarHandle" ∧ (parseMethodDescriptor y.desc).map (fun d => d.parameters.length) = some n) (hR : fr1 + 1 ≤ fr ∧ 8 + (maxL + 11) + lo1 ≤ lo) (hr8 : (stk.map fun v => v.category).sum ≤ 8) (hd : decode cc pc = .ok (.invokevirtual ix, 3)) : gRun X nL M stk0 stk pc rv rM o1 := by
  intro r hr H locs ls hP hS hl
  subst hst
  have hm := hct (xl X) (xD X) (xad X) (xcs X) (xK X) (xV X) r hr
  rw [hav] at hm
  have cb : CallB (xR X) (xs X) (xargs X) own ix y cd maxL ret1 (Cond.code y cd maxL ret1 :: ws0) { frames := fr1, cells := 0, slots := 0, locals := lo1 } 0 0 n := callB_of n C.ts (gws C hcw) rfl rfl rfl (C.ts _ hw0) (C.ts _ hwm) hy ⟨Nat.le_trans hR.1 C.frm, Nat.le_trans hR.2 C.loc⟩
  exact ⟨_, va_runV ⟨C.x, C.b, C.ml, C.ow, C.ts⟩ hm ⟨cb, C.ts _ hwi, C.ts _ hwv⟩ ⟨gGood.blind, va_recv C.K hP hc (gwl_at hk (gCl_ne hc)), fun U hU hW => ⟨rfl, gGood.at C hP hS hU hW⟩⟩ rfl hn hl rfl (lv_room hr8) hd ⟨C.ce, C.sl⟩⟩
/-- the same, by an entry that names a private method of a nest mate -/
theorem g_runVN (C : gC X cc own nL ret fr lo) {av : (Nat → Nat) → (Nat → Nat) → (Nat → Nat) → List Value} (hct : gCt y cd maxL ret1 fr1 lo1 av rv rM M o1) {Cn host : String} {T : u_T} {N : Nat} (hav : av (xad X) (xK X) (xV X) = .ref (xad X t) :: As) (hst : stk0 = As.reverse ++ .ref (xad X t) :: stk) (hn : As.length = n) (hk : kd t = gKo ci) (hc : vwCl[ci]? = some (Cn, T, N)) (hcw : Cond.code y cd maxL ret1 ∈ ws0) (hwi : Cond.instanceMethod y ∈ ws0) (hwv : Cond.selects Cn y y ∈ ws0) (hw0 : Cond.initialized y.cls ∈ ws0) (hwm : (own, ix, y, host) ∈ nstM) (hy : y.cls ≠ "java/lang/invoke/MethodHandle" ∧ y.cls ≠ "java/lang/invoke/VarHandle" ∧ (parseMethodDescriptor y.desc).map (fun d => d.parameters.length) = some n) (hR : fr1 + 1 ≤ fr ∧ 8 + (maxL + 11) + lo1 ≤ lo) (hr8 : (stk.map fun v => v.category).sum ≤ 8) (hd : decode cc pc = .ok (.invokevirtual ix, 3)) : gRun X nL M stk0 stk pc rv rM o1 := by
  intro r hr H locs ls hP hS hl
  subst hst
  have hm := hct (xl X) (xD X) (xad X) (xcs X) (xK X) (xV X) r hr
  rw [hav] at hm
  exact ⟨_, va_runVN ⟨C.x, C.b, C.ml, C.ow, C.ts⟩ hm ⟨va_cnB n C.ts (gws C hcw) rfl rfl rfl (C.nst.2 _ hwm) (C.ts _ hw0) hy ⟨Nat.le_trans hR.1 C.frm, Nat.le_trans hR.2 C.loc⟩, C.ts _ hwi, C.ts _ hwv⟩ ⟨gGood.blind, va_recv C.K hP hc (gwl_at hk (gCl_ne hc)), fun U hU hW => ⟨rfl, gGood.at C hP hS hU hW⟩⟩ rfl hn hl rfl (lv_room hr8) hd ⟨C.ce, C.sl⟩⟩
theorem g_runS (C : gC X cc own nL ret fr lo) {av : (Nat → Nat) → (Nat → Nat) → (Nat → Nat) → List Value} (hct : gCt y cd maxL ret1 fr1 lo1 av rv rM M o1) (hav : av (xad X) (xK X) (xV X) = As) (hst : stk0 = As.reverse ++ stk) (hn : As.length = n) (hcw : Cond.code y cd maxL ret1 ∈ ws0) (hws : Cond.static y ∈ ws0) (hw0 : Cond.initialized y.cls ∈ ws0) (hwm : Cond.methodLink own ix y ∈ ws0) (hy : y.cls ≠ "java/lang/invoke/MethodHandle" ∧ y.cls ≠ "java/lang/invoke/VarHandle" ∧ (parseMethodDescriptor y.desc).map (fun d => d.parameters.length) = some n) (hR : fr1 + 1 ≤ fr ∧ 8 + (maxL + 11) + lo1 ≤ lo) (hr8 : (stk.map fun v => v.category).sum ≤ 8) (hd : decode cc pc = .ok (.invokestatic ix, 3)) : gRun X nL M stk0 stk pc rv rM o1 := by
  intro r hr H locs ls hP hS hl
  subst hst
  have hm := hct (xl X) (xD X) (xad X) (xcs X) (xK X) (xV X) r hr
  rw [hav] at hm
  have cb : CallB (xR X) (xs X) (xargs X) own ix y cd maxL ret1 (Cond.code y cd maxL ret1 :: ws0) { frames := fr1, cells := 0, slots := 0, locals := lo1 } 0 0 n := callB_of n C.ts (gws C hcw) rfl rfl rfl (C.ts _ hw0) (C.ts _ hwm) hy ⟨Nat.le_trans hR.1 C.frm, Nat.le_trans hR.2 C.loc⟩
  exact ⟨_, va_runS ⟨C.x, C.b, C.ml, C.ow, C.ts⟩ hm ⟨cb, C.ts _ hws⟩ ⟨gGood.blind, fun U hU hW => ⟨rfl, gGood.at C hP hS hU hW⟩⟩ rfl hn hl rfl (lv_room hr8) hd ⟨C.ce, C.sl⟩⟩
theorem g_runSN (C : gC X cc own nL ret fr lo) {av : (Nat → Nat) → (Nat → Nat) → (Nat → Nat) → List Value} (hct : gCt y cd maxL ret1 fr1 lo1 av rv rM M o1) {host : String} (hav : av (xad X) (xK X) (xV X) = As) (hst : stk0 = As.reverse ++ stk) (hn : As.length = n) (hcw : Cond.code y cd maxL ret1 ∈ ws0) (hws : Cond.static y ∈ ws0) (hw0 : Cond.initialized y.cls ∈ ws0) (hwm : (own, ix, y, host) ∈ nstM) (hy : y.cls ≠ "java/lang/invoke/MethodHandle" ∧ y.cls ≠ "java/lang/invoke/VarHandle" ∧ (parseMethodDescriptor y.desc).map (fun d => d.parameters.length) = some n) (hR : fr1 + 1 ≤ fr ∧ 8 + (maxL + 11) + lo1 ≤ lo) (hr8 : (stk.map fun v => v.category).sum ≤ 8) (hd : decode cc pc = .ok (.invokestatic ix, 3)) : gRun X nL M stk0 stk pc rv rM o1 := by
  intro r hr H locs ls hP hS hl
  subst hst
  have hm := hct (xl X) (xD X) (xad X) (xcs X) (xK X) (xV X) r hr
  rw [hav] at hm
  exact ⟨_, va_runSN ⟨C.x, C.b, C.ml, C.ow, C.ts⟩ hm ⟨va_cnB n C.ts (gws C hcw) rfl rfl rfl (C.nst.2 _ hwm) (C.ts _ hw0) hy ⟨Nat.le_trans hR.1 C.frm, Nat.le_trans hR.2 C.loc⟩, C.ts _ hws, trivial⟩ ⟨gGood.blind, fun U hU hW => ⟨rfl, gGood.at C hP hS hU hW⟩⟩ rfl hn hl rfl (lv_room hr8) hd ⟨C.ce, C.sl⟩⟩
/-- behind a call -/
theorem g_call (C : gC X cc own nL ret fr lo) {f : σ → Option ρ} (hr : gRun X nL M stk0 stk pc rv rM o1) (k : ∀ r, G X Q nL (rM r) lv ((rv (xad X) r).toList ++ stk) (pc + 3) (f r)) : G X Q nL M lv stk0 pc (o1.bind f) := by
  intro r0 hr0 H locs ls hP hS hl
  cases ho : o1 with
  | none =>
    rw [ho] at hr0
    cases hr0
  | some r =>
    rw [ho] at hr0
    have hfr : f r = some r0 := hr0
    intro T hT XS
    obtain ⟨a, hrun⟩ := hr r ho H locs ls hP hS hl.1
    obtain ⟨v, st₀, t, T', L, h0, X', hL, e1, e2, ⟨hv, hP1, hF1⟩, st⟩ := hrun T hT XS
    cases hv
    have hA : ∀ q, gA (xad X) q → xA X q := fun q hq => by obtain ⟨k, hk, rfl⟩ := hq; exact C.A k hk
    have hS1 : va_S (xA X) (xs X).heap t.heap (locs ++ L) := by
      refine ⟨Nat.le_trans hS.1 (by rw [← h0]; exact hF1.1), fun q h1 h2 => ?_, fun q hq => ?_⟩
      · rw [hF1.2 q (by rw [h0]; exact Nat.lt_of_lt_of_le h1 hS.1) (fun z => h2 (hA q z)), h0]
        exact hS.2.1 q h1 h2
      · rcases List.mem_append.mp hq with h | h
        · exact hS.2.2 q h
        · exact hA _ (hL q h)
    obtain ⟨t2, a1, b1⟩ := k r r0 hfr t.heap (locs ++ L) ls hP1 hS1 hl T' e1 X'
    exact ⟨t2, st t2 a1, b1⟩
theorem g_callR (C : gC X cc own nL ret fr lo) {o1 : Option Int32} {f : Int32 → Option ρ} (hr : gRun X nL M stk0 stk pc (fun _ r => some (.int r)) (fun _ => M) o1) (k : ∀ r, G X Q nL M lv (.int r :: stk) (pc + 3) (f r)) : G X Q nL M lv stk0 pc (o1.bind f) := g_call C hr k
theorem g_callW (C : gC X cc own nL ret fr lo) {o1 : Option (Int32 × gM)} {f : Int32 × gM → Option ρ} (hr : gRun X nL M stk0 stk pc (fun _ r => some (.int r.1)) (fun r => r.2) o1) (k : ∀ r : Int32 × gM, G X Q nL r.2 lv (.int r.1 :: stk) (pc + 3) (f r)) : G X Q nL M lv stk0 pc (o1.bind f) := g_call C hr k
theorem g_callV (C : gC X cc own nL ret fr lo) {o1 : Option gM} {f : gM → Option ρ} (hr : gRun X nL M stk0 stk pc (fun _ _ => none) (fun r => r) o1) (k : ∀ r : gM, G X Q nL r lv stk (pc + 3) (f r)) : G X Q nL M lv stk0 pc (o1.bind f) := g_call C hr k
theorem g_callA (C : gC X cc own nL ret fr lo) {o1 : Option Nat} {f : Nat → Option ρ} (hr : gRun X nL M stk0 stk pc (fun ad r => some (.ref (ad r))) (fun _ => M) o1) (k : ∀ r : Nat, G X Q nL M lv (.ref (xad X r) :: stk) (pc + 3) (f r)) : G X Q nL M lv stk0 pc (o1.bind f) := g_call C hr k
end GCall
