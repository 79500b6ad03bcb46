def va_AOA (ty : FieldType) (U : State) : Prop := (Cond.arrayOver (.array ty)).before #[] U = true
theorem va_AOA.use {ty : FieldType} {A : Array Value} {U : State} (h : va_AOA ty U) : (Cond.arrayOver (.array ty)).before A U = true := h
theorem va_AOA.of {ty : FieldType} {A : Array Value} {U : State} (h : (Cond.arrayOver (.array ty)).before A U = true) : va_AOA ty U := h
/-! ===== BEGIN words of one list among another's, by their places ===== -/
theorem goodIn_r {big : List Cond} (ws : List Cond) (ps : List Nat) (hp : ws = ps.filterMap (fun i => big[i]?)) (h : ws.all goodWord = true) : GoodIn big ws := by
  intro w hw
  have h1 := List.all_eq_true.mp h w hw
  rw [hp] at hw
  obtain ⟨i, -, hi⟩ := List.mem_filterMap.mp hw
  have hm : w ∈ big := by first | exact List.mem_of_getElem? hi | exact List.getElem?_mem hi
  exact ⟨hm, good_of_word h1⟩
theorem goodIn_app {big a b : List Cond} (ha : GoodIn big a) (hb : GoodIn big b) : GoodIn big (a ++ b) := fun w h => (List.mem_append.mp h).elim (ha w) (hb w)
theorem goodIn_ca {big a b : List Cond} {c : Cond} (ha : GoodIn big (c :: a)) (hb : GoodIn big b) : GoodIn big (c :: (a ++ b)) := fun w h => (List.mem_cons.mp h).elim (fun e => ha w (List.mem_cons.mpr (Or.inl e))) (fun h => (List.mem_append.mp h).elim (fun h => ha w (List.mem_cons.mpr (Or.inr h))) (hb w))
theorem goodIn_sub {big ws : List Cond} (hm : ∀ w ∈ ws, w ∈ big) (h : ws.all goodWord = true) : GoodIn big ws := fun w hw => ⟨hm w hw, good_of_word (List.all_eq_true.mp h w hw)⟩
/-! ===== END ===== -/

/-! ===== BEGIN new T[n][m]: the outer array a place, the inner ones among the pooled ===== -/
/-- f, but v at every address of l -/
def vr_up {α : Type} (f : Nat → α) (l : List Nat) (v : α) : Nat → α := fun a => if a ∈ l then v else f a
theorem vr_up_in {α : Type} {f : Nat → α} {l : List Nat} {v : α} {a : Nat} (h : a ∈ l) : vr_up f l v a = v := if_pos h
theorem vr_up_ne {α : Type} {f : Nat → α} {l : List Nat} {v : α} {a : Nat} (h : a ∉ l) : vr_up f l v a = f a := if_neg h
theorem vr_rows {L l : List Nat} {f : Nat → va_E} {e : va_E} (h : ∀ a, a ∈ l → a ∉ L) : va_pl L f ++ l.map (fun a => (a, e)) = va_pl (L ++ l) (vr_up f l e) := by
  unfold va_pl
  rw [List.map_append]
  congr 1
  · apply List.map_congr_left
    intro a ha
    rw [vr_up_ne (fun q => h a q ha)]
  · apply List.map_congr_left
    intro a ha
    rw [vr_up_in ha]
theorem vr_lay {X rows : va_W} {x : Nat × va_E} {pl : va_W} {D : va_G} {cl : List vw_C} {H : Heap} (hP : va_P D cl (((X ++ pl) ++ [x]) ++ rows) H) : va_P D cl ((X ++ [x]) ++ (pl ++ rows)) H := by
  rw [List.append_assoc (X ++ pl)] at hP
  have h := va_P.swap hP
  rw [← List.append_assoc X] at h
  have h2 := va_P.swap h
  rw [List.append_assoc (X ++ [x])] at h2
  exact h2
theorem vr_layD {X rows : va_W} {x : Nat × va_E} {pl : va_W} {A : Nat → Prop} (hD : va_D A (((X ++ pl) ++ [x]) ++ rows)) : va_D A ((X ++ [x]) ++ (pl ++ rows)) := by
  rw [List.append_assoc (X ++ pl)] at hD
  have h := va_D.swap hD
  rw [← List.append_assoc X] at h
  have h2 := va_D.swap h
  rw [List.append_assoc (X ++ [x])] at h2
  exact h2
theorem vr_outer (c : ClassId) (N h0 : Nat) : ∀ i : Nat, Jvm.Free.Multi.outerC c N h0 i = arrV c N (fun j => va_rf (if j < i then some (h0 + 1 + j) else none))
  | 0 => by
    show ({ cls := c, slots := Array.replicate N .null, vm := .none } : Cell) = _
    rw [arrV_new]
    refine congrArg (arrV c N) (funext fun j => ?_)
    simp [va_rf]
  | i + 1 => by
    show (Jvm.Free.Multi.outerC c N h0 i).setSlot i (.ref (h0 + 1 + i)) = _
    rw [vr_outer c N h0 i, arrV_store]
    refine congrArg (arrV c N) (funext fun j => ?_)
    by_cases e : j = i
    · subst e
      simp [updV, va_rf]
    · by_cases h : j < i
      · simp [updV, e, h, Nat.lt_succ_of_lt h]
      · simp [updV, e, h, show ¬ j < i + 1 by omega]
section VGM
variable {p : Program} {l : Launch} {e : Env} {R : Room} {s : State} {m : MethodId} {args : Array Value} {below : List Frame} {meth : Method} {c : Code} {H : Heap} {locs : List Loc} {cells slots : Nat} {Q : State → Prop}
variable {cc : ByteArray} {pc : Nat} {ls : Array Slot} {rest : List Value} {D : va_G} {cl : List vw_C} {A : Nat → Prop} {a : Nat} {tys : List (ClassId × FieldType)} {ws : va_W} {H0 : Heap}
theorem va_mna {X : va_W} {L : List Nat} {f : Nat → va_E} {cc : ByteArray} (hexec : p.tables.exec = Jvm.exec) (hb : c.code = cc) {own : String} {index : Nat} {ty : FieldType} {cy : ClassId} (hown : s.vm.findClass own = some m.cls) (hclink : (Cond.classLink own index ("[" ++ (FieldType.array ty).toString)).before args s = true) (hover : va_AOA ty s) (harr : (Cond.arrayClass ty).before args s = true) (hcy : s.vm.findClass (FieldType.array ty).toString = some cy)
    (hK : va_K D cl tys s) (hP : va_P D cl (X ++ va_pl L f) H) (hD : va_D A (X ++ va_pl L f)) (hS : va_S A H0 H locs) (hA : ∀ q, H0.size ≤ q → A q) {n k : Int32} {N' K' : Nat} {z : vp_A} (hn : ¬ n < 0) (hk : ¬ k < 0) (hN : n.toNatClampNeg = N') (hM : k.toNatClampNeg = K')
    (hb1 : N' * 4 ≤ 536870912) (hb2 : K' * componentBytes ty ≤ 536870912) (hb3 : K' ≤ 536870912) (hdf : fits ty (defaultValue ty) = true) (hdd : (defaultValue ty).isDefault = true) (hcells : cells + (1 + N') ≤ R.cells) (hslots : slots + (N' + N' * K') ≤ R.slots) (hz : ∀ c : ClassId, Jvm.Free.Multi.innerC c K' (defaultValue ty) = vp_cell c z) (hdg : decode cc pc = .ok (.multianewarray index 2, 4))
    (kk : ∀ (q : Nat) (r : Nat → Nat) (cA : ClassId) (H1 : Heap), (∀ i j : Nat, i < N' → j < N' → r i = r j → i = j) → (∀ i : Nat, i < N' → r i ∉ L) → va_K D cl (tys ++ [(cA, .array ty)]) s →
      va_P D cl ((X ++ [(q, .inl (cA, N', .inr (.inr (.inr (.inr (fun i => if i < N' then some (r i) else none))))))]) ++ va_pl (L ++ (List.range N').map r) (vr_up f ((List.range N').map r) (.inl (cy, z)))) H1 → va_D A ((X ++ [(q, .inl (cA, N', .inr (.inr (.inr (.inr (fun i => if i < N' then some (r i) else none))))))]) ++ va_pl (L ++ (List.range N').map r) (vr_up f ((List.range N').map r) (.inl (cy, z)))) → va_S A H0 H1 locs →
      W p l e R s m args below meth c H1 locs (cells + 1 + N') (slots + N' + N' * K') Q (F0 m (pc + 4) ls (.ref q :: rest))) : W p l e R s m args below meth c H locs cells slots Q (F0 m pc ls (.int k :: .int n :: rest)) := by
  subst hN
  subst hM
  intro T hT Xs
  obtain ⟨vm₁, cA, comp, -, fA, fC, hO, -, X', step⟩ := Xs.multianewarray2F hexec hown hclink (va_AOA.use hover) harr (g := F0 m pc ls (.int k :: .int n :: rest)) rfl (by rw [hb]; exact hdg) rfl hn hk hb1 hb2 hb3 hdf hdd hcells hslots
  have ec : some cy = some comp := hcy.symm.trans fC
  cases ec
  generalize hF : Jvm.Free.Multi.fill (T.setVm vm₁) cA cy n.toNatClampNeg k.toNatClampNeg (defaultValue ty) n.toNatClampNeg = F at X' step
  have hTh : (T.setVm vm₁).heap = H := hT
  obtain ⟨f1, f2, -, -⟩ := Jvm.Free.Multi.fill_facts (T.setVm vm₁) cA cy n.toNatClampNeg k.toNatClampNeg (defaultValue ty) n.toNatClampNeg
  rw [hF, hTh] at f1 f2
  have hold : ∀ x : Nat, x < H.size → F.heap[x]? = H[x]? := fun x hx => by
    have := Jvm.Free.Multi.fill_old (T.setVm vm₁) cA cy n.toNatClampNeg k.toNatClampNeg (defaultValue ty) (a := x) (by rw [hTh]; exact hx) n.toNatClampNeg
    rw [hF, hTh] at this
    exact this
  have hrow : ∀ j : Nat, j < n.toNatClampNeg → F.heap[H.size + 1 + j]? = some (vp_cell cy z) := fun j hj => by
    have := Jvm.Free.Multi.fill_inner (T.setVm vm₁) cA cy n.toNatClampNeg k.toNatClampNeg (defaultValue ty) n.toNatClampNeg j hj
    rw [hF, hTh, hz] at this
    exact this
  have hout : Jvm.Free.Multi.outerC cA n.toNatClampNeg H.size n.toNatClampNeg = vp_cell cA (n.toNatClampNeg, .inr (.inr (.inr (.inr (fun i => if i < n.toNatClampNeg then some (H.size + 1 + i) else none))))) := by
    rw [vp_cell_q]
    exact vr_outer cA n.toNatClampNeg H.size n.toNatClampNeg
  rw [hout] at f2
  have hlt : ∀ a, a ∈ L → a < H.size := fun a ha => by
    obtain ⟨k9, hk9⟩ := va_pl_get (X := X) (f := f) ha
    exact (hP k9 _ hk9).lt
  have hnl : ∀ i : Nat, i < n.toNatClampNeg → H.size + 1 + i ∉ L := fun i _ h => by
    have := hlt _ h
    omega
  have hnm : ∀ a, a ∈ (List.range n.toNatClampNeg).map (fun i => H.size + 1 + i) → a ∉ L := fun a ha h => by
    obtain ⟨i, -, rfl⟩ := List.mem_map.mp ha
    have := hlt _ h
    omega
  have hP0 : va_P D cl (X ++ va_pl L f) F.heap := hP.kept (fun k9 x hx => hold x.1 ((hP k9 x hx).lt))
  have hP1 : va_P D cl ((X ++ va_pl L f) ++ [(H.size, .inl (cA, n.toNatClampNeg, .inr (.inr (.inr (.inr (fun i => if i < n.toNatClampNeg then some (H.size + 1 + i) else none))))))]) F.heap := hP0.app (fun k9 x hx => by
    have h0 : k9 < 1 := (List.getElem?_eq_some_iff.mp hx).1
    rw [show k9 = 0 by omega] at hx
    cases hx
    exact f2)
  have hP2 : va_P D cl (((X ++ va_pl L f) ++ [(H.size, .inl (cA, n.toNatClampNeg, .inr (.inr (.inr (.inr (fun i => if i < n.toNatClampNeg then some (H.size + 1 + i) else none))))))]) ++ ((List.range n.toNatClampNeg).map (fun i => H.size + 1 + i)).map (fun a => (a, .inl (cy, z)))) F.heap := hP1.app (fun k9 x hx => by
    obtain ⟨a, ha, rfl⟩ := List.mem_map.mp (List.mem_of_getElem? hx)
    obtain ⟨i, hi, rfl⟩ := List.mem_map.mp ha
    exact hrow i (List.mem_range.mp hi))
  have hD2 : va_D A (((X ++ va_pl L f) ++ [(H.size, .inl (cA, n.toNatClampNeg, .inr (.inr (.inr (.inr (fun i => if i < n.toNatClampNeg then some (H.size + 1 + i) else none))))))]) ++ ((List.range n.toNatClampNeg).map (fun i => H.size + 1 + i)).map (fun a => (a, .inl (cy, z)))) := by
    have hD1 := hD.push (e := .inl (cA, n.toNatClampNeg, .inr (.inr (.inr (.inr (fun i => if i < n.toNatClampNeg then some (H.size + 1 + i) else none)))))) hP rfl (hA _ hS.1)
    generalize hW1 : (X ++ va_pl L f) ++ [(H.size, .inl (cA, n.toNatClampNeg, .inr (.inr (.inr (.inr (fun i => if i < n.toNatClampNeg then some (H.size + 1 + i) else none))))))] = W1 at hD1 hP1 ⊢
    have hle : ∀ (k9 : Nat) (x : Nat × va_E), W1[k9]? = some x → x.1 ≤ H.size := fun k9 x hx => by
      rw [← hW1] at hx
      by_cases hl : k9 < (X ++ va_pl L f).length
      · rw [List.getElem?_append_left hl] at hx
        exact Nat.le_of_lt ((hP k9 x hx).lt)
      · rw [List.getElem?_append_right (by omega)] at hx
        have h0 : k9 - (X ++ va_pl L f).length < 1 := (List.getElem?_eq_some_iff.mp hx).1
        rw [show k9 - (X ++ va_pl L f).length = 0 by omega] at hx
        cases hx
        exact Nat.le_refl _
    have hr : ∀ (k9 : Nat) (x : Nat × va_E), (((List.range n.toNatClampNeg).map (fun i => H.size + 1 + i)).map (fun a => ((a, .inl (cy, z)) : Nat × va_E)))[k9]? = some x → x.1 = H.size + 1 + k9 := fun k9 x hx => by
      rw [List.getElem?_map, List.getElem?_map] at hx
      by_cases h9 : k9 < n.toNatClampNeg
      · rw [List.getElem?_range h9] at hx
        cases hx
        rfl
      · have hn0 : (List.range n.toNatClampNeg)[k9]? = none := List.getElem?_eq_none (by rw [List.length_range]; omega)
        rw [hn0] at hx
        cases hx
    refine ⟨fun i j x y hi hj hxy => ?_, fun k9 x hx => ?_⟩
    · by_cases h1 : i < W1.length <;> by_cases h2 : j < W1.length
      · rw [List.getElem?_append_left h1] at hi
        rw [List.getElem?_append_left h2] at hj
        exact hD1.1 i j x y hi hj hxy
      · rw [List.getElem?_append_left h1] at hi
        rw [List.getElem?_append_right (by omega)] at hj
        have := hle _ _ hi
        have := hr _ _ hj
        omega
      · rw [List.getElem?_append_right (by omega)] at hi
        rw [List.getElem?_append_left h2] at hj
        have := hle _ _ hj
        have := hr _ _ hi
        omega
      · rw [List.getElem?_append_right (by omega)] at hi hj
        have := hr _ _ hi
        have := hr _ _ hj
        omega
    · by_cases h1 : k9 < W1.length
      · rw [List.getElem?_append_left h1] at hx
        exact hD1.2 k9 x hx
      · rw [List.getElem?_append_right (by omega)] at hx
        have := hr _ _ hx
        exact hA _ (by have := hS.1; omega)
  have hAr : ArrOfT s cA (.array ty) := fun N9 z9 => by
    obtain ⟨-, k9, hk9, cm9, hkk9⟩ := (hO 0 0 0).1
    exact ⟨(fun q hq => by cases hq), k9, hk9, cm9, hkk9⟩
  have hK2 : va_K D cl (tys ++ [(cA, .array ty)]) s := ⟨hK.1, fun k9 x hx => by
    by_cases hl : k9 < tys.length
    · rw [List.getElem?_append_left hl] at hx
      exact hK.2 k9 x hx
    · rw [List.getElem?_append_right (by omega)] at hx
      have h0 : k9 - tys.length < 1 := (List.getElem?_eq_some_iff.mp hx).1
      rw [show k9 - tys.length = 0 by omega] at hx
      cases hx
      exact ⟨hAr, fA⟩⟩
  obtain ⟨t, a1, b1⟩ := kk H.size (fun i => H.size + 1 + i) cA F.heap (fun i j _ _ h => by have h9 : H.size + 1 + i = H.size + 1 + j := h; omega) hnl hK2 (by rw [← vr_rows hnm]; exact vr_lay hP2) (by rw [← vr_rows hnm]; exact vr_layD hD2) ⟨by rw [f1]; have := hS.1; omega, fun x h1 h2 => (hold x (Nat.lt_of_lt_of_le h1 hS.1)).trans (hS.2.1 x h1 h2), hS.2.2⟩ F rfl X'
  refine ⟨t, step t ?_, b1⟩
  have e : T.heap.size = H.size := by rw [hT]
  rw [e]
  exact a1
end VGM
/-! ===== END ===== -/

def RX0 : String := "RentedLooks$Book"
def TX0 : u_T := fun k => match k with
  | 0 => ("RentedLooks$Book", "town", "LRentedLooks$Town;", true)
  | 1 => ("RentedLooks$Book", "hours", "[I", true)
  | 2 => ("RentedLooks$Book", "parts", "[I", true)
  | _ => ("RentedLooks$Book", "count", "I", false)
def tyX0 : Nat → FieldType := fun k => match k with
  | 0 => .object "RentedLooks$Town"
  | 1 => .array .int
  | 2 => .array .int
  | _ => .int
abbrev wsX00 : List Cond := u_ws RX0 TX0 4
theorem nmX0 : ∀ a, a < 4 → ∀ b, b < 4 → a ≠ b → (TX0 a).2.1 ≠ (TX0 b).2.1 := by decide +kernel
theorem tyX0_ok : ∀ k, k < 4 → parseFieldDescriptor (TX0 k).2.2.1 = some (tyX0 k) := by decide +kernel
abbrev cX0_init : ByteArray := prog_2_method_1_code
def yX0_init : MethodName := ⟨RX0, "<init>", "(LRentedLooks$Town;)V"⟩
abbrev cX0_add : ByteArray := prog_2_method_2_code
def yX0_add : MethodName := ⟨RX0, "add", "(II)Z"⟩
abbrev cX0_firstWrong : ByteArray := prog_2_method_3_code
def yX0_firstWrong : MethodName := ⟨RX0, "firstWrong", "(I)I"⟩
abbrev cX0_wasToldAhead : ByteArray := prog_2_method_4_code
def yX0_wasToldAhead : MethodName := ⟨RX0, "wasToldAhead", "(II)Z"⟩
def RX1 : String := "RentedLooks$Dresser"
def TX1 : u_T := fun k => match k with
  | 0 => ("RentedLooks$Dresser", "town", "LRentedLooks$Town;", true)
  | 1 => ("RentedLooks$Dresser", "looks", "LRentedLooks$Looks;", true)
  | 2 => ("RentedLooks$Dresser", "setCount", "[I", true)
  | 3 => ("RentedLooks$Dresser", "sets", "[[I", true)
  | 4 => ("RentedLooks$Dresser", "codes", "[[I", true)
  | 5 => ("RentedLooks$Dresser", "costs", "[[I", true)
  | 6 => ("RentedLooks$Dresser", "worn", "[I", true)
  | 7 => ("RentedLooks$Dresser", "lookOf", "[I", true)
  | _ => ("RentedLooks$Dresser", "total", "I", false)
def tyX1 : Nat → FieldType := fun k => match k with
  | 0 => .object "RentedLooks$Town"
  | 1 => .object "RentedLooks$Looks"
  | 2 => .array .int
  | 3 => .array (.array .int)
  | 4 => .array (.array .int)
  | 5 => .array (.array .int)
  | 6 => .array .int
  | 7 => .array .int
  | _ => .int
abbrev wsX10 : List Cond := u_ws RX1 TX1 9
theorem nmX1 : ∀ a, a < 9 → ∀ b, b < 9 → a ≠ b → (TX1 a).2.1 ≠ (TX1 b).2.1 := by decide +kernel
theorem tyX1_ok : ∀ k, k < 9 → parseFieldDescriptor (TX1 k).2.2.1 = some (tyX1 k) := by decide +kernel
abbrev cX1_init : ByteArray := prog_3_method_1_code
def yX1_init : MethodName := ⟨RX1, "<init>", "(LRentedLooks$Town;LRentedLooks$Looks;)V"⟩
abbrev cX1_gather : ByteArray := prog_3_method_2_code
def yX1_gather : MethodName := ⟨RX1, "gather", "(I)V"⟩
abbrev cX1_dressOneMore : ByteArray := prog_3_method_3_code
def yX1_dressOneMore : MethodName := ⟨RX1, "dressOneMore", "(III)V"⟩
abbrev cX1_addSet : ByteArray := prog_3_method_4_code
def yX1_addSet : MethodName := ⟨RX1, "addSet", "(III)V"⟩
abbrev cX1_choose : ByteArray := prog_3_method_5_code
def yX1_choose : MethodName := ⟨RX1, "choose", "([II)V"⟩
abbrev cX1_cheapestAfter : ByteArray := prog_3_method_6_code
def yX1_cheapestAfter : MethodName := ⟨RX1, "cheapestAfter", "(III)I"⟩
abbrev cX1_firstCheapest : ByteArray := prog_3_method_7_code
def yX1_firstCheapest : MethodName := ⟨RX1, "firstCheapest", "(III)I"⟩
abbrev cX1_giveLooks : ByteArray := prog_3_method_8_code
def yX1_giveLooks : MethodName := ⟨RX1, "giveLooks", "(II)V"⟩
abbrev cX1_priceOfWorn : ByteArray := prog_3_method_9_code
def yX1_priceOfWorn : MethodName := ⟨RX1, "priceOfWorn", "(I[I)I"⟩
def RX2 : String := "RentedLooks$Looks"
def TX2 : u_T := fun k => match k with
  | 0 => ("RentedLooks$Looks", "town", "LRentedLooks$Town;", true)
  | 1 => ("RentedLooks$Looks", "state", "LRentedLooks$State;", true)
  | 2 => ("RentedLooks$Looks", "brows", "[I", true)
  | 3 => ("RentedLooks$Looks", "eyes", "[I", true)
  | 4 => ("RentedLooks$Looks", "mouths", "[I", true)
  | _ => ("RentedLooks$Looks", "count", "I", false)
def tyX2 : Nat → FieldType := fun k => match k with
  | 0 => .object "RentedLooks$Town"
  | 1 => .object "RentedLooks$State"
  | 2 => .array .int
  | 3 => .array .int
  | 4 => .array .int
  | _ => .int
abbrev wsX20 : List Cond := u_ws RX2 TX2 6
theorem nmX2 : ∀ a, a < 6 → ∀ b, b < 6 → a ≠ b → (TX2 a).2.1 ≠ (TX2 b).2.1 := by decide +kernel
theorem tyX2_ok : ∀ k, k < 6 → parseFieldDescriptor (TX2 k).2.2.1 = some (tyX2 k) := by decide +kernel
abbrev cX2_init : ByteArray := prog_4_method_1_code
def yX2_init : MethodName := ⟨RX2, "<init>", "(LRentedLooks$Town;LRentedLooks$State;)V"⟩
abbrev cX2_build : ByteArray := prog_4_method_2_code
def yX2_build : MethodName := ⟨RX2, "build", "()V"⟩
abbrev cX2_isLook : ByteArray := prog_4_method_3_code
def yX2_isLook : MethodName := ⟨RX2, "isLook", "(III)Z"⟩
abbrev cX2_partsOf : ByteArray := prog_4_method_4_code
def yX2_partsOf : MethodName := ⟨RX2, "partsOf", "(I)I"⟩
abbrev cX2_widthOf : ByteArray := prog_4_method_5_code
def yX2_widthOf : MethodName := ⟨RX2, "widthOf", "(I)I"⟩
abbrev cX2_priceOf : ByteArray := prog_4_method_6_code
def yX2_priceOf : MethodName := ⟨RX2, "priceOf", "(I)I"⟩
abbrev cX2_sumOf : ByteArray := prog_4_method_7_code
def yX2_sumOf : MethodName := ⟨RX2, "sumOf", "(I[I)I"⟩
abbrev cX2_widthsIf : ByteArray := prog_4_method_8_code
def yX2_widthsIf : MethodName := ⟨RX2, "widthsIf", "(II)I"⟩
abbrev cX2_isFor : ByteArray := prog_4_method_9_code
def yX2_isFor : MethodName := ⟨RX2, "isFor", "(III)Z"⟩
abbrev cX2_cheapestFor : ByteArray := prog_4_method_10_code
def yX2_cheapestFor : MethodName := ⟨RX2, "cheapestFor", "(I)I"⟩
abbrev cX2_mayMarry : ByteArray := prog_4_method_11_code
def yX2_mayMarry : MethodName := ⟨RX2, "mayMarry", "(III)Z"⟩
def RX3 : String := "RentedLooks$Reader"
def TX3 : u_T := fun k => match k with
  | 0 => ("RentedLooks$Reader", "text", "LRentedLooks$Text;", true)
  | 1 => ("RentedLooks$Reader", "town", "LRentedLooks$Town;", true)
  | 2 => ("RentedLooks$Reader", "at", "I", false)
  | 3 => ("RentedLooks$Reader", "start", "I", false)
  | 4 => ("RentedLooks$Reader", "faultNumber", "I", false)
  | _ => ("RentedLooks$Reader", "place", "I", false)
def tyX3 : Nat → FieldType := fun k => match k with
  | 0 => .object "RentedLooks$Text"
  | 1 => .object "RentedLooks$Town"
  | 2 => .int
  | 3 => .int
  | 4 => .int
  | _ => .int
abbrev wsX30 : List Cond := u_ws RX3 TX3 6
theorem nmX3 : ∀ a, a < 6 → ∀ b, b < 6 → a ≠ b → (TX3 a).2.1 ≠ (TX3 b).2.1 := by decide +kernel
theorem tyX3_ok : ∀ k, k < 6 → parseFieldDescriptor (TX3 k).2.2.1 = some (tyX3 k) := by decide +kernel
abbrev cX3_init : ByteArray := prog_5_method_1_code
def yX3_init : MethodName := ⟨RX3, "<init>", "(LRentedLooks$Text;LRentedLooks$Town;)V"⟩
abbrev cX3_readTown : ByteArray := prog_5_method_2_code
def yX3_readTown : MethodName := ⟨RX3, "readTown", "()I"⟩
abbrev cX3_readPart : ByteArray := prog_5_method_3_code
def yX3_readPart : MethodName := ⟨RX3, "readPart", "()V"⟩
abbrev cX3_readClash : ByteArray := prog_5_method_4_code
def yX3_readClash : MethodName := ⟨RX3, "readClash", "()V"⟩
abbrev cX3_readScene : ByteArray := prog_5_method_5_code
def yX3_readScene : MethodName := ⟨RX3, "readScene", "()V"⟩
abbrev cX3_readWord : ByteArray := prog_5_method_6_code
def yX3_readWord : MethodName := ⟨RX3, "readWord", "()V"⟩
abbrev cX3_readKind : ByteArray := prog_5_method_7_code
def yX3_readKind : MethodName := ⟨RX3, "readKind", "()I"⟩
abbrev cX3_readNumber : ByteArray := prog_5_method_8_code
def yX3_readNumber : MethodName := ⟨RX3, "readNumber", "(I)I"⟩
abbrev cX3_readEnd : ByteArray := prog_5_method_9_code
def yX3_readEnd : MethodName := ⟨RX3, "readEnd", "()V"⟩
abbrev cX3_skipBlanks : ByteArray := prog_5_method_10_code
def yX3_skipBlanks : MethodName := ⟨RX3, "skipBlanks", "()V"⟩
abbrev cX3_fail : ByteArray := prog_5_method_11_code
def yX3_fail : MethodName := ⟨RX3, "fail", "(II)V"⟩
def RX4 : String := "RentedLooks$Sightings"
def TX4 : u_T := fun k => match k with
  | 0 => ("RentedLooks$Sightings", "town", "LRentedLooks$Town;", true)
  | 1 => ("RentedLooks$Sightings", "looks", "LRentedLooks$Looks;", true)
  | 2 => ("RentedLooks$Sightings", "hours", "[I", true)
  | 3 => ("RentedLooks$Sightings", "widths", "[I", true)
  | _ => ("RentedLooks$Sightings", "count", "I", false)
def tyX4 : Nat → FieldType := fun k => match k with
  | 0 => .object "RentedLooks$Town"
  | 1 => .object "RentedLooks$Looks"
  | 2 => .array .int
  | 3 => .array .int
  | _ => .int
abbrev wsX40 : List Cond := u_ws RX4 TX4 5
theorem nmX4 : ∀ a, a < 5 → ∀ b, b < 5 → a ≠ b → (TX4 a).2.1 ≠ (TX4 b).2.1 := by decide +kernel
theorem tyX4_ok : ∀ k, k < 5 → parseFieldDescriptor (TX4 k).2.2.1 = some (tyX4 k) := by decide +kernel
abbrev cX4_init : ByteArray := prog_6_method_1_code
def yX4_init : MethodName := ⟨RX4, "<init>", "(LRentedLooks$Town;LRentedLooks$Looks;)V"⟩
abbrev cX4_add : ByteArray := prog_6_method_2_code
def yX4_add : MethodName := ⟨RX4, "add", "(II)Z"⟩
abbrev cX4_mayBe : ByteArray := prog_6_method_3_code
def yX4_mayBe : MethodName := ⟨RX4, "mayBe", "(III)Z"⟩
abbrev cX4_mayBeWorn : ByteArray := prog_6_method_4_code
def yX4_mayBeWorn : MethodName := ⟨RX4, "mayBeWorn", "(I)I"⟩
abbrev cX4_surelyWorn : ByteArray := prog_6_method_5_code
def yX4_surelyWorn : MethodName := ⟨RX4, "surelyWorn", "(I)I"⟩
abbrev cX4_firstStrange : ByteArray := prog_6_method_6_code
def yX4_firstStrange : MethodName := ⟨RX4, "firstStrange", "()I"⟩
def RX5 : String := "RentedLooks$State"
def TX5 : u_T := fun k => match k with
  | 0 => ("RentedLooks$State", "widths", "[I", true)
  | 1 => ("RentedLooks$State", "prices", "[I", true)
  | 2 => ("RentedLooks$State", "worn", "[I", true)
  | 3 => ("RentedLooks$State", "spent", "I", false)
  | 4 => ("RentedLooks$State", "days", "I", false)
  | 5 => ("RentedLooks$State", "lawNow", "I", false)
  | _ => ("RentedLooks$State", "seedNow", "I", false)
def tyX5 : Nat → FieldType := fun k => match k with
  | 0 => .array .int
  | 1 => .array .int
  | 2 => .array .int
  | 3 => .int
  | 4 => .int
  | 5 => .int
  | _ => .int
abbrev wsX50 : List Cond := u_ws RX5 TX5 7
theorem nmX5 : ∀ a, a < 7 → ∀ b, b < 7 → a ≠ b → (TX5 a).2.1 ≠ (TX5 b).2.1 := by decide +kernel
theorem tyX5_ok : ∀ k, k < 7 → parseFieldDescriptor (TX5 k).2.2.1 = some (tyX5 k) := by decide +kernel
abbrev cX5_init : ByteArray := prog_7_method_1_code
def yX5_init : MethodName := ⟨RX5, "<init>", "()V"⟩
abbrev cX5_beginIn : ByteArray := prog_7_method_2_code
def yX5_beginIn : MethodName := ⟨RX5, "beginIn", "(LRentedLooks$Town;)V"⟩
abbrev cX5_copyFrom : ByteArray := prog_7_method_3_code
def yX5_copyFrom : MethodName := ⟨RX5, "copyFrom", "(LRentedLooks$State;)V"⟩
abbrev cX5_raisePrices : ByteArray := prog_7_method_4_code
def yX5_raisePrices : MethodName := ⟨RX5, "raisePrices", "(II[I)V"⟩
abbrev cX5_drawOfFour : ByteArray := prog_7_method_5_code
def yX5_drawOfFour : MethodName := ⟨RX5, "drawOfFour", "()I"⟩
abbrev cX5_drawPrices : ByteArray := prog_7_method_6_code
def yX5_drawPrices : MethodName := ⟨RX5, "drawPrices", "(I)V"⟩
abbrev cX5_wearHour : ByteArray := prog_7_method_7_code
def yX5_wearHour : MethodName := ⟨RX5, "wearHour", "(I)V"⟩
abbrev cX5_wearOut : ByteArray := prog_7_method_8_code
def yX5_wearOut : MethodName := ⟨RX5, "wearOut", "()V"⟩
def RX6 : String := "RentedLooks$Text"
def TX6 : u_T := fun k => match k with
  | 0 => ("RentedLooks$Text", "bytes", "[I", true)
  | _ => ("RentedLooks$Text", "length", "I", false)
def tyX6 : Nat → FieldType := fun k => match k with
  | 0 => .array .int
  | _ => .int
abbrev wsX60 : List Cond := u_ws RX6 TX6 2
theorem nmX6 : ∀ a, a < 2 → ∀ b, b < 2 → a ≠ b → (TX6 a).2.1 ≠ (TX6 b).2.1 := by decide +kernel
theorem tyX6_ok : ∀ k, k < 2 → parseFieldDescriptor (TX6 k).2.2.1 = some (tyX6 k) := by decide +kernel
abbrev cX6_init : ByteArray := prog_8_method_1_code
def yX6_init : MethodName := ⟨RX6, "<init>", "()V"⟩
abbrev cX6_add : ByteArray := prog_8_method_2_code
def yX6_add : MethodName := ⟨RX6, "add", "(I)V"⟩
abbrev cX6_byteAt : ByteArray := prog_8_method_3_code
def yX6_byteAt : MethodName := ⟨RX6, "byteAt", "(I)I"⟩
abbrev cX6_isLetter : ByteArray := prog_8_method_4_code
def yX6_isLetter : MethodName := ⟨RX6, "isLetter", "(I)Z"⟩
abbrev cX6_isFigure : ByteArray := prog_8_method_5_code
def yX6_isFigure : MethodName := ⟨RX6, "isFigure", "(I)Z"⟩
abbrev cX6_stands : ByteArray := prog_8_method_6_code
def yX6_stands : MethodName := ⟨RX6, "stands", "(Ljava/lang/String;II)Z"⟩
def RX7 : String := "RentedLooks$Town"
def TX7 : u_T := fun k => match k with
  | 0 => ("RentedLooks$Town", "kind", "[I", true)
  | 1 => ("RentedLooks$Town", "landlord", "[I", true)
  | 2 => ("RentedLooks$Town", "toldWidth", "[I", true)
  | 3 => ("RentedLooks$Town", "toldPrice", "[I", true)
  | 4 => ("RentedLooks$Town", "from", "[I", true)
  | 5 => ("RentedLooks$Town", "to", "[I", true)
  | 6 => ("RentedLooks$Town", "clashing", "[I", true)
  | 7 => ("RentedLooks$Town", "hour", "[I", true)
  | 8 => ("RentedLooks$Town", "low", "[I", true)
  | 9 => ("RentedLooks$Town", "high", "[I", true)
  | 10 => ("RentedLooks$Town", "parts", "I", false)
  | 11 => ("RentedLooks$Town", "clashes", "I", false)
  | _ => ("RentedLooks$Town", "scenes", "I", false)
def tyX7 : Nat → FieldType := fun k => match k with
  | 0 => .array .int
  | 1 => .array .int
  | 2 => .array .int
  | 3 => .array .int
  | 4 => .array .int
  | 5 => .array .int
  | 6 => .array .int
  | 7 => .array .int
  | 8 => .array .int
  | 9 => .array .int
  | 10 => .int
  | 11 => .int
  | _ => .int
abbrev wsX70 : List Cond := u_ws RX7 TX7 13
theorem nmX7 : ∀ a, a < 13 → ∀ b, b < 13 → a ≠ b → (TX7 a).2.1 ≠ (TX7 b).2.1 := by decide +kernel
theorem tyX7_ok : ∀ k, k < 13 → parseFieldDescriptor (TX7 k).2.2.1 = some (tyX7 k) := by decide +kernel
abbrev cX7_init : ByteArray := prog_9_method_1_code
def yX7_init : MethodName := ⟨RX7, "<init>", "()V"⟩
abbrev cX7_hasPart : ByteArray := prog_9_method_2_code
def yX7_hasPart : MethodName := ⟨RX7, "hasPart", "(I)Z"⟩
abbrev cX7_isOfKind : ByteArray := prog_9_method_3_code
def yX7_isOfKind : MethodName := ⟨RX7, "isOfKind", "(II)Z"⟩
abbrev cX7_hasScene : ByteArray := prog_9_method_4_code
def yX7_hasScene : MethodName := ⟨RX7, "hasScene", "(I)Z"⟩
abbrev cX7_clear : ByteArray := prog_9_method_5_code
def yX7_clear : MethodName := ⟨RX7, "clear", "()V"⟩
abbrev cX7_addPart : ByteArray := prog_9_method_6_code
def yX7_addPart : MethodName := ⟨RX7, "addPart", "(IIII)V"⟩
abbrev cX7_setHoursOfLatest : ByteArray := prog_9_method_7_code
def yX7_setHoursOfLatest : MethodName := ⟨RX7, "setHoursOfLatest", "(II)V"⟩
abbrev cX7_isClash : ByteArray := prog_9_method_8_code
def yX7_isClash : MethodName := ⟨RX7, "isClash", "(II)Z"⟩
abbrev cX7_addClash : ByteArray := prog_9_method_9_code
def yX7_addClash : MethodName := ⟨RX7, "addClash", "(II)V"⟩
abbrev cX7_addScene : ByteArray := prog_9_method_10_code
def yX7_addScene : MethodName := ⟨RX7, "addScene", "(III)V"⟩
abbrev cX7_copyFrom : ByteArray := prog_9_method_11_code
def yX7_copyFrom : MethodName := ⟨RX7, "copyFrom", "(LRentedLooks$Town;)V"⟩
abbrev cX7_isFree : ByteArray := prog_9_method_12_code
def yX7_isFree : MethodName := ⟨RX7, "isFree", "(II)Z"⟩
abbrev cX7_freeIn : ByteArray := prog_9_method_13_code
def yX7_freeIn : MethodName := ⟨RX7, "freeIn", "(I)I"⟩
abbrev cX7_ownedBy : ByteArray := prog_9_method_14_code
def yX7_ownedBy : MethodName := ⟨RX7, "ownedBy", "(I)I"⟩
def RX8 : String := "RentedLooks"
def TX8 : u_T := fun k => match k with
  | 0 => ("RentedLooks", "theText", "LRentedLooks$Text;", true)
  | 1 => ("RentedLooks", "reader", "LRentedLooks$Reader;", true)
  | 2 => ("RentedLooks", "theTown", "LRentedLooks$Town;", true)
  | 3 => ("RentedLooks", "toldTown", "LRentedLooks$Town;", true)
  | 4 => ("RentedLooks", "state", "LRentedLooks$State;", true)
  | 5 => ("RentedLooks", "firstImage", "LRentedLooks$State;", true)
  | 6 => ("RentedLooks", "secondImage", "LRentedLooks$State;", true)
  | 7 => ("RentedLooks", "isKept", "[Z", true)
  | 8 => ("RentedLooks", "looks", "LRentedLooks$Looks;", true)
  | 9 => ("RentedLooks", "dresser", "LRentedLooks$Dresser;", true)
  | 10 => ("RentedLooks", "sightings", "LRentedLooks$Sightings;", true)
  | 11 => ("RentedLooks", "theBook", "LRentedLooks$Book;", true)
  | 12 => ("RentedLooks", "raisedPrices", "[I", true)
  | _ => ("RentedLooks", "faultPlace", "I", false)
def tyX8 : Nat → FieldType := fun k => match k with
  | 0 => .object "RentedLooks$Text"
  | 1 => .object "RentedLooks$Reader"
  | 2 => .object "RentedLooks$Town"
  | 3 => .object "RentedLooks$Town"
  | 4 => .object "RentedLooks$State"
  | 5 => .object "RentedLooks$State"
  | 6 => .object "RentedLooks$State"
  | 7 => .array .boolean
  | 8 => .object "RentedLooks$Looks"
  | 9 => .object "RentedLooks$Dresser"
  | 10 => .object "RentedLooks$Sightings"
  | 11 => .object "RentedLooks$Book"
  | 12 => .array .int
  | _ => .int
abbrev wsX80 : List Cond := u_ws RX8 TX8 14
theorem nmX8 : ∀ a, a < 14 → ∀ b, b < 14 → a ≠ b → (TX8 a).2.1 ≠ (TX8 b).2.1 := by decide +kernel
theorem tyX8_ok : ∀ k, k < 14 → parseFieldDescriptor (TX8 k).2.2.1 = some (tyX8 k) := by decide +kernel
abbrev cX8_init : ByteArray := prog_1_method_1_code
def yX8_init : MethodName := ⟨RX8, "<init>", "()V"⟩
abbrev cX8_feed : ByteArray := prog_1_method_2_code
def yX8_feed : MethodName := ⟨RX8, "feed", "(IJ)I"⟩
abbrev cX8_town : ByteArray := prog_1_method_3_code
def yX8_town : MethodName := ⟨RX8, "town", "()I"⟩
abbrev cX8_fault : ByteArray := prog_1_method_4_code
def yX8_fault : MethodName := ⟨RX8, "fault", "()I"⟩
abbrev cX8_told : ByteArray := prog_1_method_5_code
def yX8_told : MethodName := ⟨RX8, "told", "(I)I"⟩
abbrev cX8_part : ByteArray := prog_1_method_6_code
def yX8_part : MethodName := ⟨RX8, "part", "(II)I"⟩
abbrev cX8_scene : ByteArray := prog_1_method_7_code
def yX8_scene : MethodName := ⟨RX8, "scene", "(II)I"⟩
abbrev cX8_look : ByteArray := prog_1_method_8_code
def yX8_look : MethodName := ⟨RX8, "look", "(II)I"⟩
abbrev cX8_law : ByteArray := prog_1_method_9_code
def yX8_law : MethodName := ⟨RX8, "law", "(I)I"⟩
abbrev cX8_price : ByteArray := prog_1_method_10_code
def yX8_price : MethodName := ⟨RX8, "price", "(II)I"⟩
abbrev cX8_width : ByteArray := prog_1_method_11_code
def yX8_width : MethodName := ⟨RX8, "width", "(II)I"⟩
abbrev cX8_cheapest : ByteArray := prog_1_method_12_code
def yX8_cheapest : MethodName := ⟨RX8, "cheapest", "(II)I"⟩
abbrev cX8_dressing : ByteArray := prog_1_method_13_code
def yX8_dressing : MethodName := ⟨RX8, "dressing", "(I)I"⟩
abbrev cX8_rent : ByteArray := prog_1_method_14_code
def yX8_rent : MethodName := ⟨RX8, "rent", "(I)I"⟩
abbrev cX8_without : ByteArray := prog_1_method_15_code
def yX8_without : MethodName := ⟨RX8, "without", "(I)I"⟩
abbrev cX8_raise : ByteArray := prog_1_method_16_code
def yX8_raise : MethodName := ⟨RX8, "raise", "(II)I"⟩
abbrev cX8_dressBest : ByteArray := prog_1_method_17_code
def yX8_dressBest : MethodName := ⟨RX8, "dressBest", "(I)V"⟩
abbrev cX8_grow : ByteArray := prog_1_method_18_code
def yX8_grow : MethodName := ⟨RX8, "grow", "(I)I"⟩
abbrev cX8_wedding : ByteArray := prog_1_method_19_code
def yX8_wedding : MethodName := ⟨RX8, "wedding", "(II)I"⟩
abbrev cX8_see : ByteArray := prog_1_method_20_code
def yX8_see : MethodName := ⟨RX8, "see", "(II)I"⟩
abbrev cX8_seen : ByteArray := prog_1_method_21_code
def yX8_seen : MethodName := ⟨RX8, "seen", "(II)I"⟩
abbrev cX8_strange : ByteArray := prog_1_method_22_code
def yX8_strange : MethodName := ⟨RX8, "strange", "()I"⟩
abbrev cX8_day : ByteArray := prog_1_method_23_code
def yX8_day : MethodName := ⟨RX8, "day", "(I)I"⟩
abbrev cX8_drift : ByteArray := prog_1_method_24_code
def yX8_drift : MethodName := ⟨RX8, "drift", "(I)I"⟩
abbrev cX8_passDay : ByteArray := prog_1_method_25_code
def yX8_passDay : MethodName := ⟨RX8, "passDay", "()I"⟩
abbrev cX8_write : ByteArray := prog_1_method_26_code
def yX8_write : MethodName := ⟨RX8, "write", "(II)I"⟩
abbrev cX8_tear : ByteArray := prog_1_method_27_code
def yX8_tear : MethodName := ⟨RX8, "tear", "()I"⟩
abbrev cX8_judge : ByteArray := prog_1_method_28_code
def yX8_judge : MethodName := ⟨RX8, "judge", "()I"⟩
abbrev cX8_seed : ByteArray := prog_1_method_29_code
def yX8_seed : MethodName := ⟨RX8, "seed", "(I)I"⟩
abbrev cX8_keep : ByteArray := prog_1_method_30_code
def yX8_keep : MethodName := ⟨RX8, "keep", "(I)I"⟩
abbrev cX8_goBack : ByteArray := prog_1_method_31_code
def yX8_goBack : MethodName := ⟨RX8, "goBack", "(I)I"⟩
abbrev cX8_imageAt : ByteArray := prog_1_method_32_code
def yX8_imageAt : MethodName := ⟨RX8, "imageAt", "(I)LRentedLooks$State;"⟩
abbrev cX8_isLandlord : ByteArray := prog_1_method_33_code
def yX8_isLandlord : MethodName := ⟨RX8, "isLandlord", "(I)Z"⟩
abbrev cX8_isHour : ByteArray := prog_1_method_34_code
def yX8_isHour : MethodName := ⟨RX8, "isHour", "(I)Z"⟩
abbrev cX8_has : ByteArray := prog_1_method_35_code
def yX8_has : MethodName := ⟨RX8, "has", "(II)Z"⟩
abbrev cX8_sumOver : ByteArray := prog_1_method_36_code
def yX8_sumOver : MethodName := ⟨RX8, "sumOver", "(I[I)I"⟩
abbrev cX8_copyRow : ByteArray := prog_1_method_37_code
def yX8_copyRow : MethodName := ⟨RX8, "copyRow", "([I[I)V"⟩
def RX9 : String := "RentedLooksModel"
def TX9 : u_T := fun k => match k with
  | 0 => ("RentedLooksModel", "w", "[I", true)
  | 1 => ("RentedLooksModel", "isKept", "[Z", true)
  | 2 => ("RentedLooksModel", "kind", "[I", true)
  | 3 => ("RentedLooksModel", "lord", "[I", true)
  | 4 => ("RentedLooksModel", "wide", "[I", true)
  | 5 => ("RentedLooksModel", "cost", "[I", true)
  | 6 => ("RentedLooksModel", "from", "[I", true)
  | 7 => ("RentedLooksModel", "until", "[I", true)
  | 8 => ("RentedLooksModel", "clash", "[I", true)
  | 9 => ("RentedLooksModel", "when", "[I", true)
  | 10 => ("RentedLooksModel", "least", "[I", true)
  | 11 => ("RentedLooksModel", "most", "[I", true)
  | 12 => ("RentedLooksModel", "many", "[I", true)
  | 13 => ("RentedLooksModel", "text", "[I", true)
  | 14 => ("RentedLooksModel", "textSize", "I", false)
  | 15 => ("RentedLooksModel", "at", "I", false)
  | 16 => ("RentedLooksModel", "first", "I", false)
  | 17 => ("RentedLooksModel", "length", "I", false)
  | 18 => ("RentedLooksModel", "faultOf", "I", false)
  | 19 => ("RentedLooksModel", "fault", "I", false)
  | 20 => ("RentedLooksModel", "looks", "[I", true)
  | 21 => ("RentedLooksModel", "lookMany", "I", false)
  | 22 => ("RentedLooksModel", "banned", "I", false)
  | 23 => ("RentedLooksModel", "canBe", "[Z", true)
  | 24 => ("RentedLooksModel", "leastFrom", "[I", true)
  | 25 => ("RentedLooksModel", "before", "[Z", true)
  | 26 => ("RentedLooksModel", "then", "[Z", true)
  | 27 => ("RentedLooksModel", "worn", "[I", true)
  | 28 => ("RentedLooksModel", "seenHour", "[I", true)
  | 29 => ("RentedLooksModel", "seenWide", "[I", true)
  | 30 => ("RentedLooksModel", "seenMany", "I", false)
  | 31 => ("RentedLooksModel", "bookHour", "[I", true)
  | 32 => ("RentedLooksModel", "bookPart", "[I", true)
  | _ => ("RentedLooksModel", "written", "I", false)
def tyX9 : Nat → FieldType := fun k => match k with
  | 0 => .array .int
  | 1 => .array .boolean
  | 2 => .array .int
  | 3 => .array .int
  | 4 => .array .int
  | 5 => .array .int
  | 6 => .array .int
  | 7 => .array .int
  | 8 => .array .int
  | 9 => .array .int
  | 10 => .array .int
  | 11 => .array .int
  | 12 => .array .int
  | 13 => .array .int
  | 14 => .int
  | 15 => .int
  | 16 => .int
  | 17 => .int
  | 18 => .int
  | 19 => .int
  | 20 => .array .int
  | 21 => .int
  | 22 => .int
  | 23 => .array .boolean
  | 24 => .array .int
  | 25 => .array .boolean
  | 26 => .array .boolean
  | 27 => .array .int
  | 28 => .array .int
  | 29 => .array .int
  | 30 => .int
  | 31 => .array .int
  | 32 => .array .int
  | _ => .int
abbrev wsX90 : List Cond := u_ws RX9 TX9 34
theorem nmX9 : ∀ a, a < 34 → ∀ b, b < 34 → a ≠ b → (TX9 a).2.1 ≠ (TX9 b).2.1 := by decide +kernel
theorem tyX9_ok : ∀ k, k < 34 → parseFieldDescriptor (TX9 k).2.2.1 = some (tyX9 k) := by decide +kernel
abbrev cX9_init : ByteArray := prog_11_method_1_code
def yX9_init : MethodName := ⟨RX9, "<init>", "()V"⟩
abbrev cX9_in : ByteArray := prog_11_method_3_code
def yX9_in : MethodName := ⟨RX9, "in", "(JJJ)Z"⟩
abbrev cX9_one : ByteArray := prog_11_method_4_code
def yX9_one : MethodName := ⟨RX9, "one", "(Z)I"⟩
abbrev cX9_has : ByteArray := prog_11_method_5_code
def yX9_has : MethodName := ⟨RX9, "has", "(II)Z"⟩
abbrev cX9_ones : ByteArray := prog_11_method_6_code
def yX9_ones : MethodName := ⟨RX9, "ones", "(I)I"⟩
abbrev cX9_feed : ByteArray := prog_11_method_7_code
def yX9_feed : MethodName := ⟨RX9, "feed", "(IJ)I"⟩
abbrev cX9_here : ByteArray := prog_11_method_8_code
def yX9_here : MethodName := ⟨RX9, "here", "()I"⟩
abbrev cX9_want : ByteArray := prog_11_method_9_code
def yX9_want : MethodName := ⟨RX9, "want", "(ZII)Z"⟩
abbrev cX9_takeWord : ByteArray := prog_11_method_10_code
def yX9_takeWord : MethodName := ⟨RX9, "takeWord", "()V"⟩
abbrev cX9_isWord : ByteArray := prog_11_method_11_code
def yX9_isWord : MethodName := ⟨RX9, "isWord", "(IIIIII)Z"⟩
abbrev cX9_takeNumber : ByteArray := prog_11_method_12_code
def yX9_takeNumber : MethodName := ⟨RX9, "takeNumber", "(II)I"⟩
abbrev cX9_takePart : ByteArray := prog_11_method_13_code
def yX9_takePart : MethodName := ⟨RX9, "takePart", "()V"⟩
abbrev cX9_takeClash : ByteArray := prog_11_method_14_code
def yX9_takeClash : MethodName := ⟨RX9, "takeClash", "()V"⟩
abbrev cX9_takeScene : ByteArray := prog_11_method_15_code
def yX9_takeScene : MethodName := ⟨RX9, "takeScene", "()V"⟩
abbrev cX9_takeClause : ByteArray := prog_11_method_16_code
def yX9_takeClause : MethodName := ⟨RX9, "takeClause", "()V"⟩
abbrev cX9_town : ByteArray := prog_11_method_17_code
def yX9_town : MethodName := ⟨RX9, "town", "()I"⟩
abbrev cX9_fault : ByteArray := prog_11_method_18_code
def yX9_fault : MethodName := ⟨RX9, "fault", "()I"⟩
abbrev cX9_findLooks : ByteArray := prog_11_method_19_code
def yX9_findLooks : MethodName := ⟨RX9, "findLooks", "()V"⟩
abbrev cX9_isPart : ByteArray := prog_11_method_20_code
def yX9_isPart : MethodName := ⟨RX9, "isPart", "(I)Z"⟩
abbrev cX9_isScene : ByteArray := prog_11_method_21_code
def yX9_isScene : MethodName := ⟨RX9, "isScene", "(I)Z"⟩
abbrev cX9_sumOf : ByteArray := prog_11_method_22_code
def yX9_sumOf : MethodName := ⟨RX9, "sumOf", "(II)I"⟩
abbrev cX9_isFree : ByteArray := prog_11_method_23_code
def yX9_isFree : MethodName := ⟨RX9, "isFree", "(II)Z"⟩
abbrev cX9_widthsIn : ByteArray := prog_11_method_24_code
def yX9_widthsIn : MethodName := ⟨RX9, "widthsIn", "(I)I"⟩
abbrev cX9_told : ByteArray := prog_11_method_25_code
def yX9_told : MethodName := ⟨RX9, "told", "(I)I"⟩
abbrev cX9_clashMany : ByteArray := prog_11_method_26_code
def yX9_clashMany : MethodName := ⟨RX9, "clashMany", "()I"⟩
abbrev cX9_part : ByteArray := prog_11_method_27_code
def yX9_part : MethodName := ⟨RX9, "part", "(II)I"⟩
abbrev cX9_scene : ByteArray := prog_11_method_28_code
def yX9_scene : MethodName := ⟨RX9, "scene", "(II)I"⟩
abbrev cX9_look : ByteArray := prog_11_method_29_code
def yX9_look : MethodName := ⟨RX9, "look", "(II)I"⟩
abbrev cX9_law : ByteArray := prog_11_method_30_code
def yX9_law : MethodName := ⟨RX9, "law", "(I)I"⟩
abbrev cX9_price : ByteArray := prog_11_method_31_code
def yX9_price : MethodName := ⟨RX9, "price", "(II)I"⟩
abbrev cX9_width : ByteArray := prog_11_method_32_code
def yX9_width : MethodName := ⟨RX9, "width", "(II)I"⟩
abbrev cX9_isFor : ByteArray := prog_11_method_33_code
def yX9_isFor : MethodName := ⟨RX9, "isFor", "(III)Z"⟩
abbrev cX9_cheapest : ByteArray := prog_11_method_34_code
def yX9_cheapest : MethodName := ⟨RX9, "cheapest", "(II)I"⟩
abbrev cX9_findSets : ByteArray := prog_11_method_35_code
def yX9_findSets : MethodName := ⟨RX9, "findSets", "(II)V"⟩
abbrev cX9_addScene : ByteArray := prog_11_method_36_code
def yX9_addScene : MethodName := ⟨RX9, "addScene", "(II)V"⟩
abbrev cX9_best : ByteArray := prog_11_method_37_code
def yX9_best : MethodName := ⟨RX9, "best", "(III)I"⟩
abbrev cX9_findAllSets : ByteArray := prog_11_method_38_code
def yX9_findAllSets : MethodName := ⟨RX9, "findAllSets", "(I)V"⟩
abbrev cX9_findLeast : ByteArray := prog_11_method_39_code
def yX9_findLeast : MethodName := ⟨RX9, "findLeast", "(I)V"⟩
abbrev cX9_leastIn : ByteArray := prog_11_method_40_code
def yX9_leastIn : MethodName := ⟨RX9, "leastIn", "(I)I"⟩
abbrev cX9_findWorn : ByteArray := prog_11_method_41_code
def yX9_findWorn : MethodName := ⟨RX9, "findWorn", "(I)V"⟩
abbrev cX9_lookOf : ByteArray := prog_11_method_42_code
def yX9_lookOf : MethodName := ⟨RX9, "lookOf", "(I)I"⟩
abbrev cX9_firstLook : ByteArray := prog_11_method_43_code
def yX9_firstLook : MethodName := ⟨RX9, "firstLook", "(II)I"⟩
abbrev cX9_canRest : ByteArray := prog_11_method_44_code
def yX9_canRest : MethodName := ⟨RX9, "canRest", "(III)Z"⟩
abbrev cX9_dressing : ByteArray := prog_11_method_45_code
def yX9_dressing : MethodName := ⟨RX9, "dressing", "(I)I"⟩
abbrev cX9_rentIn : ByteArray := prog_11_method_46_code
def yX9_rentIn : MethodName := ⟨RX9, "rentIn", "(II)I"⟩
abbrev cX9_rent : ByteArray := prog_11_method_47_code
def yX9_rent : MethodName := ⟨RX9, "rent", "(I)I"⟩
abbrev cX9_without : ByteArray := prog_11_method_48_code
def yX9_without : MethodName := ⟨RX9, "without", "(I)I"⟩
abbrev cX9_copy : ByteArray := prog_11_method_49_code
def yX9_copy : MethodName := ⟨RX9, "copy", "(II)V"⟩
abbrev cX9_raise : ByteArray := prog_11_method_50_code
def yX9_raise : MethodName := ⟨RX9, "raise", "(II)I"⟩
abbrev cX9_grow : ByteArray := prog_11_method_51_code
def yX9_grow : MethodName := ⟨RX9, "grow", "(I)I"⟩
abbrev cX9_wedding : ByteArray := prog_11_method_52_code
def yX9_wedding : MethodName := ⟨RX9, "wedding", "(II)I"⟩
abbrev cX9_see : ByteArray := prog_11_method_53_code
def yX9_see : MethodName := ⟨RX9, "see", "(II)I"⟩
abbrev cX9_seenBy : ByteArray := prog_11_method_54_code
def yX9_seenBy : MethodName := ⟨RX9, "seenBy", "(II)I"⟩
abbrev cX9_seen : ByteArray := prog_11_method_55_code
def yX9_seen : MethodName := ⟨RX9, "seen", "(II)I"⟩
abbrev cX9_strange : ByteArray := prog_11_method_56_code
def yX9_strange : MethodName := ⟨RX9, "strange", "()I"⟩
abbrev cX9_pass : ByteArray := prog_11_method_57_code
def yX9_pass : MethodName := ⟨RX9, "pass", "()I"⟩
abbrev cX9_day : ByteArray := prog_11_method_58_code
def yX9_day : MethodName := ⟨RX9, "day", "(I)I"⟩
abbrev cX9_draw : ByteArray := prog_11_method_59_code
def yX9_draw : MethodName := ⟨RX9, "draw", "(I)I"⟩
abbrev cX9_drift : ByteArray := prog_11_method_60_code
def yX9_drift : MethodName := ⟨RX9, "drift", "(I)I"⟩
abbrev cX9_write : ByteArray := prog_11_method_61_code
def yX9_write : MethodName := ⟨RX9, "write", "(II)I"⟩
abbrev cX9_tear : ByteArray := prog_11_method_62_code
def yX9_tear : MethodName := ⟨RX9, "tear", "()I"⟩
abbrev cX9_judge : ByteArray := prog_11_method_63_code
def yX9_judge : MethodName := ⟨RX9, "judge", "()I"⟩
abbrev cX9_seed : ByteArray := prog_11_method_64_code
def yX9_seed : MethodName := ⟨RX9, "seed", "(I)I"⟩
abbrev cX9_keep : ByteArray := prog_11_method_65_code
def yX9_keep : MethodName := ⟨RX9, "keep", "(I)I"⟩
abbrev cX9_goBack : ByteArray := prog_11_method_66_code
def yX9_goBack : MethodName := ⟨RX9, "goBack", "(I)I"⟩
def RJ6 : String := "java/lang/Integer"
def TJ6 : u_T := fun k => match k with
  | _ => ("", "", "", false)
def tyJ6 : Nat → FieldType := fun k => match k with
  | _ => .int
abbrev wsJ60 : List Cond := u_ws RJ6 TJ6 0
theorem nmJ6 : ∀ a, a < 0 → ∀ b, b < 0 → a ≠ b → (TJ6 a).2.1 ≠ (TJ6 b).2.1 := by decide +kernel
theorem tyJ6_ok : ∀ k, k < 0 → parseFieldDescriptor (TJ6 k).2.2.1 = some (tyJ6 k) := by decide +kernel
abbrev cJ6_bitCount_0f7a4 : ByteArray := prog_12_method_49_code
def yJ6_bitCount_0f7a4 : MethodName := ⟨RJ6, "bitCount", "(I)I"⟩
def RJ9 : String := "java/lang/Math"
def TJ9 : u_T := fun k => match k with
  | _ => ("", "", "", false)
def tyJ9 : Nat → FieldType := fun k => match k with
  | _ => .int
abbrev wsJ90 : List Cond := u_ws RJ9 TJ9 0
theorem nmJ9 : ∀ a, a < 0 → ∀ b, b < 0 → a ≠ b → (TJ9 a).2.1 ≠ (TJ9 b).2.1 := by decide +kernel
theorem tyJ9_ok : ∀ k, k < 0 → parseFieldDescriptor (TJ9 k).2.2.1 = some (tyJ9 k) := by decide +kernel
abbrev cJ9_abs_0f7a4 : ByteArray := prog_13_method_59_code
def yJ9_abs_0f7a4 : MethodName := ⟨RJ9, "abs", "(I)I"⟩
abbrev cJ9_max_7cf53 : ByteArray := prog_13_method_65_code
def yJ9_max_7cf53 : MethodName := ⟨RJ9, "max", "(II)I"⟩
abbrev cJ9_min_7cf53 : ByteArray := prog_13_method_69_code
def yJ9_min_7cf53 : MethodName := ⟨RJ9, "min", "(II)I"⟩
def RJ0 : String := "java/lang/String"
def TJ0 : u_T := fun k => match k with
  | _ => ("", "", "", false)
def tyJ0 : Nat → FieldType := fun k => match k with
  | _ => .int
abbrev wsJ00 : List Cond := u_ws RJ0 TJ0 0
theorem nmJ0 : ∀ a, a < 0 → ∀ b, b < 0 → a ≠ b → (TJ0 a).2.1 ≠ (TJ0 b).2.1 := by decide +kernel
theorem tyJ0_ok : ∀ k, k < 0 → parseFieldDescriptor (TJ0 k).2.2.1 = some (tyJ0 k) := by decide +kernel
abbrev cJ0_length_8abf5 : ByteArray := prog_14_method_54_code
def yJ0_length_8abf5 : MethodName := ⟨RJ0, "length", "()I"⟩
abbrev cJ0_charAt_5068e : ByteArray := prog_14_method_56_code
def yJ0_charAt_5068e : MethodName := ⟨RJ0, "charAt", "(I)C"⟩
abbrev cJ0_coder_7d493 : ByteArray := prog_14_method_152_code
def yJ0_coder_7d493 : MethodName := ⟨RJ0, "coder", "()B"⟩
abbrev cJ0_isLatin1_aae02 : ByteArray := prog_14_method_154_code
def yJ0_isLatin1_aae02 : MethodName := ⟨RJ0, "isLatin1", "()Z"⟩
abbrev cJ0_checkIndex_df160 : ByteArray := prog_14_method_155_code
def yJ0_checkIndex_df160 : MethodName := ⟨RJ0, "checkIndex", "(II)V"⟩
def RJ1 : String := "java/lang/StringLatin1"
def TJ1 : u_T := fun k => match k with
  | _ => ("", "", "", false)
def tyJ1 : Nat → FieldType := fun k => match k with
  | _ => .int
abbrev wsJ10 : List Cond := u_ws RJ1 TJ1 0
theorem nmJ1 : ∀ a, a < 0 → ∀ b, b < 0 → a ≠ b → (TJ1 a).2.1 ≠ (TJ1 b).2.1 := by decide +kernel
theorem tyJ1_ok : ∀ k, k < 0 → parseFieldDescriptor (TJ1 k).2.2.1 = some (tyJ1 k) := by decide +kernel
abbrev cJ1_charAt_3b067 : ByteArray := prog_15_method_2_code
def yJ1_charAt_3b067 : MethodName := ⟨RJ1, "charAt", "([BI)C"⟩
def RJ2 : String := "java/lang/StringUTF16"
def TJ2 : u_T := fun k => match k with
  | _ => ("", "", "", false)
def tyJ2 : Nat → FieldType := fun k => match k with
  | _ => .int
abbrev wsJ20 : List Cond := u_ws RJ2 TJ2 0
theorem nmJ2 : ∀ a, a < 0 → ∀ b, b < 0 → a ≠ b → (TJ2 a).2.1 ≠ (TJ2 b).2.1 := by decide +kernel
theorem tyJ2_ok : ∀ k, k < 0 → parseFieldDescriptor (TJ2 k).2.2.1 = some (tyJ2 k) := by decide +kernel
abbrev cJ2_getChar_3b067 : ByteArray := prog_16_method_5_code
def yJ2_getChar_3b067 : MethodName := ⟨RJ2, "getChar", "([BI)C"⟩
abbrev cJ2_length_9d52b : ByteArray := prog_16_method_6_code
def yJ2_length_9d52b : MethodName := ⟨RJ2, "length", "([B)I"⟩
abbrev cJ2_charAt_3b067 : ByteArray := prog_16_method_83_code
def yJ2_charAt_3b067 : MethodName := ⟨RJ2, "charAt", "([BI)C"⟩
abbrev cJ2_checkIndex_2214a : ByteArray := prog_16_method_91_code
def yJ2_checkIndex_2214a : MethodName := ⟨RJ2, "checkIndex", "(I[B)V"⟩
def RJ3 : String := "jdk/internal/util/Preconditions"
def TJ3 : u_T := fun k => match k with
  | _ => ("", "", "", false)
def tyJ3 : Nat → FieldType := fun k => match k with
  | _ => .int
abbrev wsJ30 : List Cond := u_ws RJ3 TJ3 0
theorem nmJ3 : ∀ a, a < 0 → ∀ b, b < 0 → a ≠ b → (TJ3 a).2.1 ≠ (TJ3 b).2.1 := by decide +kernel
theorem tyJ3_ok : ∀ k, k < 0 → parseFieldDescriptor (TJ3 k).2.2.1 = some (tyJ3 k) := by decide +kernel
abbrev cJ3_checkIndex_8e157 : ByteArray := prog_17_method_11_code
def yJ3_checkIndex_8e157 : MethodName := ⟨RJ3, "checkIndex", "(IILjava/util/function/BiFunction;)I"⟩
def RL : String := "RentedLooksLaw"
abbrev cL_law : ByteArray := code
def yL_law : MethodName := ⟨RL, "law", "([I)Z"⟩
abbrev vwCl : List vw_C := [(RX0, TX0, 4), (RX1, TX1, 9), (RX2, TX2, 6), (RX3, TX3, 6), (RX4, TX4, 5), (RX5, TX5, 7), (RX6, TX6, 2), (RX7, TX7, 13), (RX8, TX8, 14), (RX9, TX9, 34)]
