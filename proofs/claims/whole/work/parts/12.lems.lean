abbrev rvR : (Nat → Nat) → Int32 → Option Value := fun _ r => some (.int r)
abbrev rvA : (Nat → Nat) → Nat → Option Value := fun ad r => some (.ref (ad r))
abbrev rvW : (Nat → Nat) → Int32 × gM → Option Value := fun _ r => some (.int r.1)
abbrev rvV : (Nat → Nat) → gM → Option Value := fun _ _ => none
abbrev rMR {σ : Type} (M : gM) : σ → gM := fun _ => M
abbrev rMW : Int32 × gM → gM := fun r => r.2
abbrev rMV : gM → gM := fun r => r
def ltM {β : Type} (e : gM) (f : gM → β) : β := f e
/-- a test whose truth is used behind it -/
def ckh {ρ : Type} (b : Bool) (o : Option ρ) : Option ρ := ck b o
section GLM
variable {ρ : Type} {X : gX} {Q : ρ → State → Prop} {nL : Nat} {M : gM} {lv : List (Nat × Value)} {stk : List Value} {pc : Nat} {o : Option ρ} {cc : ByteArray} {own : String} {ret : Option FieldType} {fr lo : Nat}
theorem g_ltM {f : gM → Option ρ} (k : ∀ N, G X Q nL N lv stk pc (f N)) : G X Q nL M lv stk pc (ltM M f) := k M
theorem g_ckh {b : Bool} (k : b = true → G X Q nL M lv stk pc o) : G X Q nL M lv stk pc (ckh b o) := by
  intro r hr
  obtain ⟨h1, h2⟩ := ck_some (show ck b o = some r from hr)
  exact k h1 r h2
theorem g_aaldh (C : gC X cc own nL ret fr lo) {a n : Nat} {j : Int32} (hk : kd a = gKr n) (hd : decode cc pc = .ok (.aaload, 1)) (k : ib j n = true → G X Q nL M lv (.ref (xad X (rf a j.toNatClampNeg)) :: stk) (pc + 1) o) : G X Q nL M lv (.int j :: .ref (xad X a) :: stk) pc (ckh (ib j n) o) := by
  intro r hr
  obtain ⟨h1, h2⟩ := ck_some (show ck (ib j n) o = some r from hr)
  exact g_aald C hk hd (k h1) r hr
end GLM
theorem kd_0 : kd 0 = gKo 8 := rfl
theorem kd_1 : kd 1 = gKo 6 := rfl
theorem kd_2 : kd 2 = gKi 400 := rfl
theorem kd_3 : kd 3 = gKo 7 := rfl
theorem kd_4 : kd 4 = gKi 10 := rfl
theorem kd_5 : kd 5 = gKi 10 := rfl
theorem kd_6 : kd 6 = gKi 10 := rfl
theorem kd_7 : kd 7 = gKi 10 := rfl
theorem kd_8 : kd 8 = gKi 10 := rfl
theorem kd_9 : kd 9 = gKi 10 := rfl
theorem kd_10 : kd 10 = gKi 10 := rfl
theorem kd_11 : kd 11 = gKi 8 := rfl
theorem kd_12 : kd 12 = gKi 8 := rfl
theorem kd_13 : kd 13 = gKi 8 := rfl
theorem kd_14 : kd 14 = gKo 7 := rfl
theorem kd_15 : kd 15 = gKi 10 := rfl
theorem kd_16 : kd 16 = gKi 10 := rfl
theorem kd_17 : kd 17 = gKi 10 := rfl
theorem kd_18 : kd 18 = gKi 10 := rfl
theorem kd_19 : kd 19 = gKi 10 := rfl
theorem kd_20 : kd 20 = gKi 10 := rfl
theorem kd_21 : kd 21 = gKi 10 := rfl
theorem kd_22 : kd 22 = gKi 8 := rfl
theorem kd_23 : kd 23 = gKi 8 := rfl
theorem kd_24 : kd 24 = gKi 8 := rfl
theorem kd_25 : kd 25 = gKo 3 := rfl
theorem kd_26 : kd 26 = gKo 5 := rfl
theorem kd_27 : kd 27 = gKi 10 := rfl
theorem kd_28 : kd 28 = gKi 10 := rfl
theorem kd_29 : kd 29 = gKi 10 := rfl
theorem kd_30 : kd 30 = gKo 5 := rfl
theorem kd_31 : kd 31 = gKi 10 := rfl
theorem kd_32 : kd 32 = gKi 10 := rfl
theorem kd_33 : kd 33 = gKi 10 := rfl
theorem kd_34 : kd 34 = gKo 5 := rfl
theorem kd_35 : kd 35 = gKi 10 := rfl
theorem kd_36 : kd 36 = gKi 10 := rfl
theorem kd_37 : kd 37 = gKi 10 := rfl
theorem kd_38 : kd 38 = gKz 2 := rfl
theorem kd_39 : kd 39 = gKo 2 := rfl
theorem kd_40 : kd 40 = gKi 36 := rfl
theorem kd_41 : kd 41 = gKi 36 := rfl
theorem kd_42 : kd 42 = gKi 36 := rfl
theorem kd_43 : kd 43 = gKo 1 := rfl
theorem kd_44 : kd 44 = gKi 13 := rfl
theorem kd_45 : kd 45 = gKr 13 := rfl
theorem kd_46 : kd 46 = gKi 64 := rfl
theorem kd_47 : kd 47 = gKi 64 := rfl
theorem kd_48 : kd 48 = gKi 64 := rfl
theorem kd_49 : kd 49 = gKi 64 := rfl
theorem kd_50 : kd 50 = gKi 64 := rfl
theorem kd_51 : kd 51 = gKi 64 := rfl
theorem kd_52 : kd 52 = gKi 64 := rfl
theorem kd_53 : kd 53 = gKi 64 := rfl
theorem kd_54 : kd 54 = gKi 64 := rfl
theorem kd_55 : kd 55 = gKi 64 := rfl
theorem kd_56 : kd 56 = gKi 64 := rfl
theorem kd_57 : kd 57 = gKi 64 := rfl
theorem kd_58 : kd 58 = gKi 64 := rfl
theorem kd_59 : kd 59 = gKr 13 := rfl
theorem kd_60 : kd 60 = gKi 64 := rfl
theorem kd_61 : kd 61 = gKi 64 := rfl
theorem kd_62 : kd 62 = gKi 64 := rfl
theorem kd_63 : kd 63 = gKi 64 := rfl
theorem kd_64 : kd 64 = gKi 64 := rfl
theorem kd_65 : kd 65 = gKi 64 := rfl
theorem kd_66 : kd 66 = gKi 64 := rfl
theorem kd_67 : kd 67 = gKi 64 := rfl
theorem kd_68 : kd 68 = gKi 64 := rfl
theorem kd_69 : kd 69 = gKi 64 := rfl
theorem kd_70 : kd 70 = gKi 64 := rfl
theorem kd_71 : kd 71 = gKi 64 := rfl
theorem kd_72 : kd 72 = gKi 64 := rfl
theorem kd_73 : kd 73 = gKr 12 := rfl
theorem kd_74 : kd 74 = gKi 64 := rfl
theorem kd_75 : kd 75 = gKi 64 := rfl
theorem kd_76 : kd 76 = gKi 64 := rfl
theorem kd_77 : kd 77 = gKi 64 := rfl
theorem kd_78 : kd 78 = gKi 64 := rfl
theorem kd_79 : kd 79 = gKi 64 := rfl
theorem kd_80 : kd 80 = gKi 64 := rfl
theorem kd_81 : kd 81 = gKi 64 := rfl
theorem kd_82 : kd 82 = gKi 64 := rfl
theorem kd_83 : kd 83 = gKi 64 := rfl
theorem kd_84 : kd 84 = gKi 64 := rfl
theorem kd_85 : kd 85 = gKi 64 := rfl
theorem kd_86 : kd 86 = gKi 12 := rfl
theorem kd_87 : kd 87 = gKi 8 := rfl
theorem kd_88 : kd 88 = gKo 4 := rfl
theorem kd_89 : kd 89 = gKi 20 := rfl
theorem kd_90 : kd 90 = gKi 20 := rfl
theorem kd_91 : kd 91 = gKo 0 := rfl
theorem kd_92 : kd 92 = gKi 40 := rfl
theorem kd_93 : kd 93 = gKi 40 := rfl
theorem kd_94 : kd 94 = gKi 10 := rfl
theorem kd_95 : kd 95 = gKo 9 := rfl
theorem kd_96 : kd 96 = gKi 160 := rfl
theorem kd_97 : kd 97 = gKz 2 := rfl
theorem kd_98 : kd 98 = gKi 20 := rfl
theorem kd_99 : kd 99 = gKi 20 := rfl
theorem kd_100 : kd 100 = gKi 20 := rfl
theorem kd_101 : kd 101 = gKi 20 := rfl
theorem kd_102 : kd 102 = gKi 20 := rfl
theorem kd_103 : kd 103 = gKi 20 := rfl
theorem kd_104 : kd 104 = gKi 20 := rfl
theorem kd_105 : kd 105 = gKi 16 := rfl
theorem kd_106 : kd 106 = gKi 16 := rfl
theorem kd_107 : kd 107 = gKi 16 := rfl
theorem kd_108 : kd 108 = gKi 8 := rfl
theorem kd_109 : kd 109 = gKi 400 := rfl
theorem kd_110 : kd 110 = gKi 64 := rfl
theorem kd_111 : kd 111 = gKz 12288 := rfl
theorem kd_112 : kd 112 = gKi 13312 := rfl
theorem kd_113 : kd 113 = gKz 1024 := rfl
theorem kd_114 : kd 114 = gKz 1024 := rfl
theorem kd_115 : kd 115 = gKi 12 := rfl
theorem kd_116 : kd 116 = gKi 20 := rfl
theorem kd_117 : kd 117 = gKi 20 := rfl
theorem kd_118 : kd 118 = gKi 40 := rfl
theorem kd_119 : kd 119 = gKi 40 := rfl
theorem ic_bipush_m10 : (Int8.ofInt (-10)).toInt32 = (-10 : Int32) := by decide
theorem ic_bipush_6 : (Int8.ofInt (6)).toInt32 = (6 : Int32) := by decide
theorem ic_bipush_8 : (Int8.ofInt (8)).toInt32 = (8 : Int32) := by decide
theorem ic_bipush_9 : (Int8.ofInt (9)).toInt32 = (9 : Int32) := by decide
theorem ic_bipush_10 : (Int8.ofInt (10)).toInt32 = (10 : Int32) := by decide
theorem ic_bipush_11 : (Int8.ofInt (11)).toInt32 = (11 : Int32) := by decide
theorem ic_bipush_12 : (Int8.ofInt (12)).toInt32 = (12 : Int32) := by decide
theorem ic_bipush_15 : (Int8.ofInt (15)).toInt32 = (15 : Int32) := by decide
theorem ic_bipush_16 : (Int8.ofInt (16)).toInt32 = (16 : Int32) := by decide
theorem ic_bipush_20 : (Int8.ofInt (20)).toInt32 = (20 : Int32) := by decide
theorem ic_bipush_27 : (Int8.ofInt (27)).toInt32 = (27 : Int32) := by decide
theorem ic_bipush_28 : (Int8.ofInt (28)).toInt32 = (28 : Int32) := by decide
theorem ic_bipush_30 : (Int8.ofInt (30)).toInt32 = (30 : Int32) := by decide
theorem ic_bipush_31 : (Int8.ofInt (31)).toInt32 = (31 : Int32) := by decide
theorem ic_bipush_32 : (Int8.ofInt (32)).toInt32 = (32 : Int32) := by decide
theorem ic_bipush_33 : (Int8.ofInt (33)).toInt32 = (33 : Int32) := by decide
theorem ic_bipush_36 : (Int8.ofInt (36)).toInt32 = (36 : Int32) := by decide
theorem ic_bipush_40 : (Int8.ofInt (40)).toInt32 = (40 : Int32) := by decide
theorem ic_bipush_48 : (Int8.ofInt (48)).toInt32 = (48 : Int32) := by decide
theorem ic_bipush_50 : (Int8.ofInt (50)).toInt32 = (50 : Int32) := by decide
theorem ic_bipush_57 : (Int8.ofInt (57)).toInt32 = (57 : Int32) := by decide
theorem ic_bipush_59 : (Int8.ofInt (59)).toInt32 = (59 : Int32) := by decide
theorem ic_bipush_63 : (Int8.ofInt (63)).toInt32 = (63 : Int32) := by decide
theorem ic_bipush_64 : (Int8.ofInt (64)).toInt32 = (64 : Int32) := by decide
theorem ic_bipush_80 : (Int8.ofInt (80)).toInt32 = (80 : Int32) := by decide
theorem ic_bipush_97 : (Int8.ofInt (97)).toInt32 = (97 : Int32) := by decide
theorem ic_bipush_98 : (Int8.ofInt (98)).toInt32 = (98 : Int32) := by decide
theorem ic_bipush_99 : (Int8.ofInt (99)).toInt32 = (99 : Int32) := by decide
theorem ic_bipush_101 : (Int8.ofInt (101)).toInt32 = (101 : Int32) := by decide
theorem ic_bipush_104 : (Int8.ofInt (104)).toInt32 = (104 : Int32) := by decide
theorem ic_bipush_108 : (Int8.ofInt (108)).toInt32 = (108 : Int32) := by decide
theorem ic_bipush_109 : (Int8.ofInt (109)).toInt32 = (109 : Int32) := by decide
theorem ic_bipush_110 : (Int8.ofInt (110)).toInt32 = (110 : Int32) := by decide
theorem ic_bipush_111 : (Int8.ofInt (111)).toInt32 = (111 : Int32) := by decide
theorem ic_bipush_112 : (Int8.ofInt (112)).toInt32 = (112 : Int32) := by decide
theorem ic_bipush_114 : (Int8.ofInt (114)).toInt32 = (114 : Int32) := by decide
theorem ic_bipush_115 : (Int8.ofInt (115)).toInt32 = (115 : Int32) := by decide
theorem ic_bipush_116 : (Int8.ofInt (116)).toInt32 = (116 : Int32) := by decide
theorem ic_bipush_117 : (Int8.ofInt (117)).toInt32 = (117 : Int32) := by decide
theorem ic_bipush_119 : (Int8.ofInt (119)).toInt32 = (119 : Int32) := by decide
theorem ic_bipush_121 : (Int8.ofInt (121)).toInt32 = (121 : Int32) := by decide
theorem ic_bipush_122 : (Int8.ofInt (122)).toInt32 = (122 : Int32) := by decide
theorem ic_iconst_m1 : Int32.ofInt (-1) = (-1 : Int32) := by decide
theorem ic_iconst_0 : Int32.ofInt (0) = (0 : Int32) := by decide
theorem ic_iconst_1 : Int32.ofInt (1) = (1 : Int32) := by decide
theorem ic_iconst_2 : Int32.ofInt (2) = (2 : Int32) := by decide
theorem ic_iconst_3 : Int32.ofInt (3) = (3 : Int32) := by decide
theorem ic_iconst_4 : Int32.ofInt (4) = (4 : Int32) := by decide
theorem ic_iconst_5 : Int32.ofInt (5) = (5 : Int32) := by decide
theorem ii_m1 (x : Int32) : x + Int32.ofInt (-1) = x + (-1 : Int32) := rfl
theorem ii_1 (x : Int32) : x + Int32.ofInt (1) = x + (1 : Int32) := rfl
theorem ic_sipush_255 : (Int16.ofInt (255)).toInt32 = (255 : Int32) := by decide
theorem ic_sipush_400 : (Int16.ofInt (400)).toInt32 = (400 : Int32) := by decide
theorem ic_sipush_1024 : (Int16.ofInt (1024)).toInt32 = (1024 : Int32) := by decide
theorem ic_sipush_12288 : (Int16.ofInt (12288)).toInt32 = (12288 : Int32) := by decide
theorem hy_J6_bitCount_0f7a4 : yJ6_bitCount_0f7a4.cls ≠ "java/lang/invoke/MethodHandle" ∧ yJ6_bitCount_0f7a4.cls ≠ "java/lang/invoke/VarHandle" ∧ (parseMethodDescriptor yJ6_bitCount_0f7a4.desc).map (fun d => d.parameters.length) = some 1 := by decide +kernel
theorem hy_X0_add : yX0_add.cls ≠ "java/lang/invoke/MethodHandle" ∧ yX0_add.cls ≠ "java/lang/invoke/VarHandle" ∧ (parseMethodDescriptor yX0_add.desc).map (fun d => d.parameters.length) = some 2 := by decide +kernel
theorem hy_X7_hasPart : yX7_hasPart.cls ≠ "java/lang/invoke/MethodHandle" ∧ yX7_hasPart.cls ≠ "java/lang/invoke/VarHandle" ∧ (parseMethodDescriptor yX7_hasPart.desc).map (fun d => d.parameters.length) = some 1 := by decide +kernel
theorem hy_X7_isFree : yX7_isFree.cls ≠ "java/lang/invoke/MethodHandle" ∧ yX7_isFree.cls ≠ "java/lang/invoke/VarHandle" ∧ (parseMethodDescriptor yX7_isFree.desc).map (fun d => d.parameters.length) = some 2 := by decide +kernel
theorem hy_X0_wasToldAhead : yX0_wasToldAhead.cls ≠ "java/lang/invoke/MethodHandle" ∧ yX0_wasToldAhead.cls ≠ "java/lang/invoke/VarHandle" ∧ (parseMethodDescriptor yX0_wasToldAhead.desc).map (fun d => d.parameters.length) = some 2 := by decide +kernel
theorem hy_X0_firstWrong : yX0_firstWrong.cls ≠ "java/lang/invoke/MethodHandle" ∧ yX0_firstWrong.cls ≠ "java/lang/invoke/VarHandle" ∧ (parseMethodDescriptor yX0_firstWrong.desc).map (fun d => d.parameters.length) = some 1 := by decide +kernel
theorem hy_X1_addSet : yX1_addSet.cls ≠ "java/lang/invoke/MethodHandle" ∧ yX1_addSet.cls ≠ "java/lang/invoke/VarHandle" ∧ (parseMethodDescriptor yX1_addSet.desc).map (fun d => d.parameters.length) = some 3 := by decide +kernel
theorem hy_X1_firstCheapest : yX1_firstCheapest.cls ≠ "java/lang/invoke/MethodHandle" ∧ yX1_firstCheapest.cls ≠ "java/lang/invoke/VarHandle" ∧ (parseMethodDescriptor yX1_firstCheapest.desc).map (fun d => d.parameters.length) = some 3 := by decide +kernel
theorem hy_X1_cheapestAfter : yX1_cheapestAfter.cls ≠ "java/lang/invoke/MethodHandle" ∧ yX1_cheapestAfter.cls ≠ "java/lang/invoke/VarHandle" ∧ (parseMethodDescriptor yX1_cheapestAfter.desc).map (fun d => d.parameters.length) = some 3 := by decide +kernel
theorem hy_X8_has : yX8_has.cls ≠ "java/lang/invoke/MethodHandle" ∧ yX8_has.cls ≠ "java/lang/invoke/VarHandle" ∧ (parseMethodDescriptor yX8_has.desc).map (fun d => d.parameters.length) = some 2 := by decide +kernel
theorem hy_X8_sumOver : yX8_sumOver.cls ≠ "java/lang/invoke/MethodHandle" ∧ yX8_sumOver.cls ≠ "java/lang/invoke/VarHandle" ∧ (parseMethodDescriptor yX8_sumOver.desc).map (fun d => d.parameters.length) = some 2 := by decide +kernel
theorem hy_X1_giveLooks : yX1_giveLooks.cls ≠ "java/lang/invoke/MethodHandle" ∧ yX1_giveLooks.cls ≠ "java/lang/invoke/VarHandle" ∧ (parseMethodDescriptor yX1_giveLooks.desc).map (fun d => d.parameters.length) = some 2 := by decide +kernel
theorem hy_X1_choose : yX1_choose.cls ≠ "java/lang/invoke/MethodHandle" ∧ yX1_choose.cls ≠ "java/lang/invoke/VarHandle" ∧ (parseMethodDescriptor yX1_choose.desc).map (fun d => d.parameters.length) = some 2 := by decide +kernel
theorem hy_X8_copyRow : yX8_copyRow.cls ≠ "java/lang/invoke/MethodHandle" ∧ yX8_copyRow.cls ≠ "java/lang/invoke/VarHandle" ∧ (parseMethodDescriptor yX8_copyRow.desc).map (fun d => d.parameters.length) = some 2 := by decide +kernel
theorem hy_X7_hasScene : yX7_hasScene.cls ≠ "java/lang/invoke/MethodHandle" ∧ yX7_hasScene.cls ≠ "java/lang/invoke/VarHandle" ∧ (parseMethodDescriptor yX7_hasScene.desc).map (fun d => d.parameters.length) = some 1 := by decide +kernel
theorem hy_X2_partsOf : yX2_partsOf.cls ≠ "java/lang/invoke/MethodHandle" ∧ yX2_partsOf.cls ≠ "java/lang/invoke/VarHandle" ∧ (parseMethodDescriptor yX2_partsOf.desc).map (fun d => d.parameters.length) = some 1 := by decide +kernel
theorem hy_X2_sumOf : yX2_sumOf.cls ≠ "java/lang/invoke/MethodHandle" ∧ yX2_sumOf.cls ≠ "java/lang/invoke/VarHandle" ∧ (parseMethodDescriptor yX2_sumOf.desc).map (fun d => d.parameters.length) = some 2 := by decide +kernel
theorem hy_X2_isFor : yX2_isFor.cls ≠ "java/lang/invoke/MethodHandle" ∧ yX2_isFor.cls ≠ "java/lang/invoke/VarHandle" ∧ (parseMethodDescriptor yX2_isFor.desc).map (fun d => d.parameters.length) = some 3 := by decide +kernel
theorem hy_X1_dressOneMore : yX1_dressOneMore.cls ≠ "java/lang/invoke/MethodHandle" ∧ yX1_dressOneMore.cls ≠ "java/lang/invoke/VarHandle" ∧ (parseMethodDescriptor yX1_dressOneMore.desc).map (fun d => d.parameters.length) = some 3 := by decide +kernel
theorem hy_X7_freeIn : yX7_freeIn.cls ≠ "java/lang/invoke/MethodHandle" ∧ yX7_freeIn.cls ≠ "java/lang/invoke/VarHandle" ∧ (parseMethodDescriptor yX7_freeIn.desc).map (fun d => d.parameters.length) = some 1 := by decide +kernel
theorem hy_X1_gather : yX1_gather.cls ≠ "java/lang/invoke/MethodHandle" ∧ yX1_gather.cls ≠ "java/lang/invoke/VarHandle" ∧ (parseMethodDescriptor yX1_gather.desc).map (fun d => d.parameters.length) = some 1 := by decide +kernel
theorem hy_X1_priceOfWorn : yX1_priceOfWorn.cls ≠ "java/lang/invoke/MethodHandle" ∧ yX1_priceOfWorn.cls ≠ "java/lang/invoke/VarHandle" ∧ (parseMethodDescriptor yX1_priceOfWorn.desc).map (fun d => d.parameters.length) = some 2 := by decide +kernel
theorem hy_X7_isOfKind : yX7_isOfKind.cls ≠ "java/lang/invoke/MethodHandle" ∧ yX7_isOfKind.cls ≠ "java/lang/invoke/VarHandle" ∧ (parseMethodDescriptor yX7_isOfKind.desc).map (fun d => d.parameters.length) = some 2 := by decide +kernel
theorem hy_X7_isClash : yX7_isClash.cls ≠ "java/lang/invoke/MethodHandle" ∧ yX7_isClash.cls ≠ "java/lang/invoke/VarHandle" ∧ (parseMethodDescriptor yX7_isClash.desc).map (fun d => d.parameters.length) = some 2 := by decide +kernel
theorem hy_X2_isLook : yX2_isLook.cls ≠ "java/lang/invoke/MethodHandle" ∧ yX2_isLook.cls ≠ "java/lang/invoke/VarHandle" ∧ (parseMethodDescriptor yX2_isLook.desc).map (fun d => d.parameters.length) = some 3 := by decide +kernel
theorem hy_X2_build : yX2_build.cls ≠ "java/lang/invoke/MethodHandle" ∧ yX2_build.cls ≠ "java/lang/invoke/VarHandle" ∧ (parseMethodDescriptor yX2_build.desc).map (fun d => d.parameters.length) = some 0 := by decide +kernel
theorem hy_X2_priceOf : yX2_priceOf.cls ≠ "java/lang/invoke/MethodHandle" ∧ yX2_priceOf.cls ≠ "java/lang/invoke/VarHandle" ∧ (parseMethodDescriptor yX2_priceOf.desc).map (fun d => d.parameters.length) = some 1 := by decide +kernel
theorem hy_X2_cheapestFor : yX2_cheapestFor.cls ≠ "java/lang/invoke/MethodHandle" ∧ yX2_cheapestFor.cls ≠ "java/lang/invoke/VarHandle" ∧ (parseMethodDescriptor yX2_cheapestFor.desc).map (fun d => d.parameters.length) = some 1 := by decide +kernel
theorem hy_X2_widthOf : yX2_widthOf.cls ≠ "java/lang/invoke/MethodHandle" ∧ yX2_widthOf.cls ≠ "java/lang/invoke/VarHandle" ∧ (parseMethodDescriptor yX2_widthOf.desc).map (fun d => d.parameters.length) = some 1 := by decide +kernel
theorem hy_X2_mayMarry : yX2_mayMarry.cls ≠ "java/lang/invoke/MethodHandle" ∧ yX2_mayMarry.cls ≠ "java/lang/invoke/VarHandle" ∧ (parseMethodDescriptor yX2_mayMarry.desc).map (fun d => d.parameters.length) = some 3 := by decide +kernel
theorem hy_X2_widthsIf : yX2_widthsIf.cls ≠ "java/lang/invoke/MethodHandle" ∧ yX2_widthsIf.cls ≠ "java/lang/invoke/VarHandle" ∧ (parseMethodDescriptor yX2_widthsIf.desc).map (fun d => d.parameters.length) = some 2 := by decide +kernel
theorem hy_X3_fail : yX3_fail.cls ≠ "java/lang/invoke/MethodHandle" ∧ yX3_fail.cls ≠ "java/lang/invoke/VarHandle" ∧ (parseMethodDescriptor yX3_fail.desc).map (fun d => d.parameters.length) = some 2 := by decide +kernel
theorem hy_X6_byteAt : yX6_byteAt.cls ≠ "java/lang/invoke/MethodHandle" ∧ yX6_byteAt.cls ≠ "java/lang/invoke/VarHandle" ∧ (parseMethodDescriptor yX6_byteAt.desc).map (fun d => d.parameters.length) = some 1 := by decide +kernel
theorem hy_X3_skipBlanks : yX3_skipBlanks.cls ≠ "java/lang/invoke/MethodHandle" ∧ yX3_skipBlanks.cls ≠ "java/lang/invoke/VarHandle" ∧ (parseMethodDescriptor yX3_skipBlanks.desc).map (fun d => d.parameters.length) = some 0 := by decide +kernel
theorem hy_X6_isFigure : yX6_isFigure.cls ≠ "java/lang/invoke/MethodHandle" ∧ yX6_isFigure.cls ≠ "java/lang/invoke/VarHandle" ∧ (parseMethodDescriptor yX6_isFigure.desc).map (fun d => d.parameters.length) = some 1 := by decide +kernel
theorem hy_X3_readNumber : yX3_readNumber.cls ≠ "java/lang/invoke/MethodHandle" ∧ yX3_readNumber.cls ≠ "java/lang/invoke/VarHandle" ∧ (parseMethodDescriptor yX3_readNumber.desc).map (fun d => d.parameters.length) = some 1 := by decide +kernel
theorem hy_X3_readEnd : yX3_readEnd.cls ≠ "java/lang/invoke/MethodHandle" ∧ yX3_readEnd.cls ≠ "java/lang/invoke/VarHandle" ∧ (parseMethodDescriptor yX3_readEnd.desc).map (fun d => d.parameters.length) = some 0 := by decide +kernel
theorem hy_X7_addClash : yX7_addClash.cls ≠ "java/lang/invoke/MethodHandle" ∧ yX7_addClash.cls ≠ "java/lang/invoke/VarHandle" ∧ (parseMethodDescriptor yX7_addClash.desc).map (fun d => d.parameters.length) = some 2 := by decide +kernel
theorem hy_X3_readClash : yX3_readClash.cls ≠ "java/lang/invoke/MethodHandle" ∧ yX3_readClash.cls ≠ "java/lang/invoke/VarHandle" ∧ (parseMethodDescriptor yX3_readClash.desc).map (fun d => d.parameters.length) = some 0 := by decide +kernel
theorem hy_X6_isLetter : yX6_isLetter.cls ≠ "java/lang/invoke/MethodHandle" ∧ yX6_isLetter.cls ≠ "java/lang/invoke/VarHandle" ∧ (parseMethodDescriptor yX6_isLetter.desc).map (fun d => d.parameters.length) = some 1 := by decide +kernel
theorem hy_X3_readWord : yX3_readWord.cls ≠ "java/lang/invoke/MethodHandle" ∧ yX3_readWord.cls ≠ "java/lang/invoke/VarHandle" ∧ (parseMethodDescriptor yX3_readWord.desc).map (fun d => d.parameters.length) = some 0 := by decide +kernel
theorem hy_X6_stands : yX6_stands.cls ≠ "java/lang/invoke/MethodHandle" ∧ yX6_stands.cls ≠ "java/lang/invoke/VarHandle" ∧ (parseMethodDescriptor yX6_stands.desc).map (fun d => d.parameters.length) = some 3 := by decide +kernel
theorem hy_X3_readKind : yX3_readKind.cls ≠ "java/lang/invoke/MethodHandle" ∧ yX3_readKind.cls ≠ "java/lang/invoke/VarHandle" ∧ (parseMethodDescriptor yX3_readKind.desc).map (fun d => d.parameters.length) = some 0 := by decide +kernel
theorem hy_X7_addPart : yX7_addPart.cls ≠ "java/lang/invoke/MethodHandle" ∧ yX7_addPart.cls ≠ "java/lang/invoke/VarHandle" ∧ (parseMethodDescriptor yX7_addPart.desc).map (fun d => d.parameters.length) = some 4 := by decide +kernel
theorem hy_X7_setHoursOfLatest : yX7_setHoursOfLatest.cls ≠ "java/lang/invoke/MethodHandle" ∧ yX7_setHoursOfLatest.cls ≠ "java/lang/invoke/VarHandle" ∧ (parseMethodDescriptor yX7_setHoursOfLatest.desc).map (fun d => d.parameters.length) = some 2 := by decide +kernel
theorem hy_X3_readPart : yX3_readPart.cls ≠ "java/lang/invoke/MethodHandle" ∧ yX3_readPart.cls ≠ "java/lang/invoke/VarHandle" ∧ (parseMethodDescriptor yX3_readPart.desc).map (fun d => d.parameters.length) = some 0 := by decide +kernel
theorem hy_X7_addScene : yX7_addScene.cls ≠ "java/lang/invoke/MethodHandle" ∧ yX7_addScene.cls ≠ "java/lang/invoke/VarHandle" ∧ (parseMethodDescriptor yX7_addScene.desc).map (fun d => d.parameters.length) = some 3 := by decide +kernel
theorem hy_X3_readScene : yX3_readScene.cls ≠ "java/lang/invoke/MethodHandle" ∧ yX3_readScene.cls ≠ "java/lang/invoke/VarHandle" ∧ (parseMethodDescriptor yX3_readScene.desc).map (fun d => d.parameters.length) = some 0 := by decide +kernel
theorem hy_X7_clear : yX7_clear.cls ≠ "java/lang/invoke/MethodHandle" ∧ yX7_clear.cls ≠ "java/lang/invoke/VarHandle" ∧ (parseMethodDescriptor yX7_clear.desc).map (fun d => d.parameters.length) = some 0 := by decide +kernel
theorem hy_X3_readTown : yX3_readTown.cls ≠ "java/lang/invoke/MethodHandle" ∧ yX3_readTown.cls ≠ "java/lang/invoke/VarHandle" ∧ (parseMethodDescriptor yX3_readTown.desc).map (fun d => d.parameters.length) = some 0 := by decide +kernel
theorem hy_X4_add : yX4_add.cls ≠ "java/lang/invoke/MethodHandle" ∧ yX4_add.cls ≠ "java/lang/invoke/VarHandle" ∧ (parseMethodDescriptor yX4_add.desc).map (fun d => d.parameters.length) = some 2 := by decide +kernel
theorem hy_X4_mayBe : yX4_mayBe.cls ≠ "java/lang/invoke/MethodHandle" ∧ yX4_mayBe.cls ≠ "java/lang/invoke/VarHandle" ∧ (parseMethodDescriptor yX4_mayBe.desc).map (fun d => d.parameters.length) = some 3 := by decide +kernel
theorem hy_X4_mayBeWorn : yX4_mayBeWorn.cls ≠ "java/lang/invoke/MethodHandle" ∧ yX4_mayBeWorn.cls ≠ "java/lang/invoke/VarHandle" ∧ (parseMethodDescriptor yX4_mayBeWorn.desc).map (fun d => d.parameters.length) = some 1 := by decide +kernel
theorem hy_X4_firstStrange : yX4_firstStrange.cls ≠ "java/lang/invoke/MethodHandle" ∧ yX4_firstStrange.cls ≠ "java/lang/invoke/VarHandle" ∧ (parseMethodDescriptor yX4_firstStrange.desc).map (fun d => d.parameters.length) = some 0 := by decide +kernel
theorem hy_X4_surelyWorn : yX4_surelyWorn.cls ≠ "java/lang/invoke/MethodHandle" ∧ yX4_surelyWorn.cls ≠ "java/lang/invoke/VarHandle" ∧ (parseMethodDescriptor yX4_surelyWorn.desc).map (fun d => d.parameters.length) = some 1 := by decide +kernel
theorem hy_X5_beginIn : yX5_beginIn.cls ≠ "java/lang/invoke/MethodHandle" ∧ yX5_beginIn.cls ≠ "java/lang/invoke/VarHandle" ∧ (parseMethodDescriptor yX5_beginIn.desc).map (fun d => d.parameters.length) = some 1 := by decide +kernel
theorem hy_X5_copyFrom : yX5_copyFrom.cls ≠ "java/lang/invoke/MethodHandle" ∧ yX5_copyFrom.cls ≠ "java/lang/invoke/VarHandle" ∧ (parseMethodDescriptor yX5_copyFrom.desc).map (fun d => d.parameters.length) = some 1 := by decide +kernel
theorem hy_X5_drawOfFour : yX5_drawOfFour.cls ≠ "java/lang/invoke/MethodHandle" ∧ yX5_drawOfFour.cls ≠ "java/lang/invoke/VarHandle" ∧ (parseMethodDescriptor yX5_drawOfFour.desc).map (fun d => d.parameters.length) = some 0 := by decide +kernel
theorem hy_X5_drawPrices : yX5_drawPrices.cls ≠ "java/lang/invoke/MethodHandle" ∧ yX5_drawPrices.cls ≠ "java/lang/invoke/VarHandle" ∧ (parseMethodDescriptor yX5_drawPrices.desc).map (fun d => d.parameters.length) = some 1 := by decide +kernel
theorem hy_X5_raisePrices : yX5_raisePrices.cls ≠ "java/lang/invoke/MethodHandle" ∧ yX5_raisePrices.cls ≠ "java/lang/invoke/VarHandle" ∧ (parseMethodDescriptor yX5_raisePrices.desc).map (fun d => d.parameters.length) = some 3 := by decide +kernel
theorem hy_X5_wearHour : yX5_wearHour.cls ≠ "java/lang/invoke/MethodHandle" ∧ yX5_wearHour.cls ≠ "java/lang/invoke/VarHandle" ∧ (parseMethodDescriptor yX5_wearHour.desc).map (fun d => d.parameters.length) = some 1 := by decide +kernel
theorem hy_X5_wearOut : yX5_wearOut.cls ≠ "java/lang/invoke/MethodHandle" ∧ yX5_wearOut.cls ≠ "java/lang/invoke/VarHandle" ∧ (parseMethodDescriptor yX5_wearOut.desc).map (fun d => d.parameters.length) = some 0 := by decide +kernel
theorem hy_X6_add : yX6_add.cls ≠ "java/lang/invoke/MethodHandle" ∧ yX6_add.cls ≠ "java/lang/invoke/VarHandle" ∧ (parseMethodDescriptor yX6_add.desc).map (fun d => d.parameters.length) = some 1 := by decide +kernel
theorem hy_X7_copyFrom : yX7_copyFrom.cls ≠ "java/lang/invoke/MethodHandle" ∧ yX7_copyFrom.cls ≠ "java/lang/invoke/VarHandle" ∧ (parseMethodDescriptor yX7_copyFrom.desc).map (fun d => d.parameters.length) = some 1 := by decide +kernel
theorem hy_X7_ownedBy : yX7_ownedBy.cls ≠ "java/lang/invoke/MethodHandle" ∧ yX7_ownedBy.cls ≠ "java/lang/invoke/VarHandle" ∧ (parseMethodDescriptor yX7_ownedBy.desc).map (fun d => d.parameters.length) = some 1 := by decide +kernel
theorem hy_X8_cheapest : yX8_cheapest.cls ≠ "java/lang/invoke/MethodHandle" ∧ yX8_cheapest.cls ≠ "java/lang/invoke/VarHandle" ∧ (parseMethodDescriptor yX8_cheapest.desc).map (fun d => d.parameters.length) = some 2 := by decide +kernel
theorem hy_X8_dressBest : yX8_dressBest.cls ≠ "java/lang/invoke/MethodHandle" ∧ yX8_dressBest.cls ≠ "java/lang/invoke/VarHandle" ∧ (parseMethodDescriptor yX8_dressBest.desc).map (fun d => d.parameters.length) = some 1 := by decide +kernel
theorem hy_X8_passDay : yX8_passDay.cls ≠ "java/lang/invoke/MethodHandle" ∧ yX8_passDay.cls ≠ "java/lang/invoke/VarHandle" ∧ (parseMethodDescriptor yX8_passDay.desc).map (fun d => d.parameters.length) = some 0 := by decide +kernel
theorem hy_X8_day : yX8_day.cls ≠ "java/lang/invoke/MethodHandle" ∧ yX8_day.cls ≠ "java/lang/invoke/VarHandle" ∧ (parseMethodDescriptor yX8_day.desc).map (fun d => d.parameters.length) = some 1 := by decide +kernel
theorem hy_X8_dressing : yX8_dressing.cls ≠ "java/lang/invoke/MethodHandle" ∧ yX8_dressing.cls ≠ "java/lang/invoke/VarHandle" ∧ (parseMethodDescriptor yX8_dressing.desc).map (fun d => d.parameters.length) = some 1 := by decide +kernel
theorem hy_X8_drift : yX8_drift.cls ≠ "java/lang/invoke/MethodHandle" ∧ yX8_drift.cls ≠ "java/lang/invoke/VarHandle" ∧ (parseMethodDescriptor yX8_drift.desc).map (fun d => d.parameters.length) = some 1 := by decide +kernel
theorem hy_X8_fault : yX8_fault.cls ≠ "java/lang/invoke/MethodHandle" ∧ yX8_fault.cls ≠ "java/lang/invoke/VarHandle" ∧ (parseMethodDescriptor yX8_fault.desc).map (fun d => d.parameters.length) = some 0 := by decide +kernel
theorem hy_X8_feed : yX8_feed.cls ≠ "java/lang/invoke/MethodHandle" ∧ yX8_feed.cls ≠ "java/lang/invoke/VarHandle" ∧ (parseMethodDescriptor yX8_feed.desc).map (fun d => d.parameters.length) = some 2 := by decide +kernel
theorem hy_X8_imageAt : yX8_imageAt.cls ≠ "java/lang/invoke/MethodHandle" ∧ yX8_imageAt.cls ≠ "java/lang/invoke/VarHandle" ∧ (parseMethodDescriptor yX8_imageAt.desc).map (fun d => d.parameters.length) = some 1 := by decide +kernel
theorem hy_X8_goBack : yX8_goBack.cls ≠ "java/lang/invoke/MethodHandle" ∧ yX8_goBack.cls ≠ "java/lang/invoke/VarHandle" ∧ (parseMethodDescriptor yX8_goBack.desc).map (fun d => d.parameters.length) = some 1 := by decide +kernel
theorem hy_X8_grow : yX8_grow.cls ≠ "java/lang/invoke/MethodHandle" ∧ yX8_grow.cls ≠ "java/lang/invoke/VarHandle" ∧ (parseMethodDescriptor yX8_grow.desc).map (fun d => d.parameters.length) = some 1 := by decide +kernel
theorem hy_X8_isHour : yX8_isHour.cls ≠ "java/lang/invoke/MethodHandle" ∧ yX8_isHour.cls ≠ "java/lang/invoke/VarHandle" ∧ (parseMethodDescriptor yX8_isHour.desc).map (fun d => d.parameters.length) = some 1 := by decide +kernel
theorem hy_X8_isLandlord : yX8_isLandlord.cls ≠ "java/lang/invoke/MethodHandle" ∧ yX8_isLandlord.cls ≠ "java/lang/invoke/VarHandle" ∧ (parseMethodDescriptor yX8_isLandlord.desc).map (fun d => d.parameters.length) = some 1 := by decide +kernel
theorem hy_X8_judge : yX8_judge.cls ≠ "java/lang/invoke/MethodHandle" ∧ yX8_judge.cls ≠ "java/lang/invoke/VarHandle" ∧ (parseMethodDescriptor yX8_judge.desc).map (fun d => d.parameters.length) = some 0 := by decide +kernel
theorem hy_X8_keep : yX8_keep.cls ≠ "java/lang/invoke/MethodHandle" ∧ yX8_keep.cls ≠ "java/lang/invoke/VarHandle" ∧ (parseMethodDescriptor yX8_keep.desc).map (fun d => d.parameters.length) = some 1 := by decide +kernel
theorem hy_X8_law : yX8_law.cls ≠ "java/lang/invoke/MethodHandle" ∧ yX8_law.cls ≠ "java/lang/invoke/VarHandle" ∧ (parseMethodDescriptor yX8_law.desc).map (fun d => d.parameters.length) = some 1 := by decide +kernel
theorem hy_X8_look : yX8_look.cls ≠ "java/lang/invoke/MethodHandle" ∧ yX8_look.cls ≠ "java/lang/invoke/VarHandle" ∧ (parseMethodDescriptor yX8_look.desc).map (fun d => d.parameters.length) = some 2 := by decide +kernel
theorem hy_X8_part : yX8_part.cls ≠ "java/lang/invoke/MethodHandle" ∧ yX8_part.cls ≠ "java/lang/invoke/VarHandle" ∧ (parseMethodDescriptor yX8_part.desc).map (fun d => d.parameters.length) = some 2 := by decide +kernel
theorem hy_X8_price : yX8_price.cls ≠ "java/lang/invoke/MethodHandle" ∧ yX8_price.cls ≠ "java/lang/invoke/VarHandle" ∧ (parseMethodDescriptor yX8_price.desc).map (fun d => d.parameters.length) = some 2 := by decide +kernel
theorem hy_X8_raise : yX8_raise.cls ≠ "java/lang/invoke/MethodHandle" ∧ yX8_raise.cls ≠ "java/lang/invoke/VarHandle" ∧ (parseMethodDescriptor yX8_raise.desc).map (fun d => d.parameters.length) = some 2 := by decide +kernel
theorem hy_X8_rent : yX8_rent.cls ≠ "java/lang/invoke/MethodHandle" ∧ yX8_rent.cls ≠ "java/lang/invoke/VarHandle" ∧ (parseMethodDescriptor yX8_rent.desc).map (fun d => d.parameters.length) = some 1 := by decide +kernel
theorem hy_X8_scene : yX8_scene.cls ≠ "java/lang/invoke/MethodHandle" ∧ yX8_scene.cls ≠ "java/lang/invoke/VarHandle" ∧ (parseMethodDescriptor yX8_scene.desc).map (fun d => d.parameters.length) = some 2 := by decide +kernel
theorem hy_X8_see : yX8_see.cls ≠ "java/lang/invoke/MethodHandle" ∧ yX8_see.cls ≠ "java/lang/invoke/VarHandle" ∧ (parseMethodDescriptor yX8_see.desc).map (fun d => d.parameters.length) = some 2 := by decide +kernel
theorem hy_X8_seed : yX8_seed.cls ≠ "java/lang/invoke/MethodHandle" ∧ yX8_seed.cls ≠ "java/lang/invoke/VarHandle" ∧ (parseMethodDescriptor yX8_seed.desc).map (fun d => d.parameters.length) = some 1 := by decide +kernel
theorem hy_X8_seen : yX8_seen.cls ≠ "java/lang/invoke/MethodHandle" ∧ yX8_seen.cls ≠ "java/lang/invoke/VarHandle" ∧ (parseMethodDescriptor yX8_seen.desc).map (fun d => d.parameters.length) = some 2 := by decide +kernel
theorem hy_X8_strange : yX8_strange.cls ≠ "java/lang/invoke/MethodHandle" ∧ yX8_strange.cls ≠ "java/lang/invoke/VarHandle" ∧ (parseMethodDescriptor yX8_strange.desc).map (fun d => d.parameters.length) = some 0 := by decide +kernel
theorem hy_X8_tear : yX8_tear.cls ≠ "java/lang/invoke/MethodHandle" ∧ yX8_tear.cls ≠ "java/lang/invoke/VarHandle" ∧ (parseMethodDescriptor yX8_tear.desc).map (fun d => d.parameters.length) = some 0 := by decide +kernel
theorem hy_X8_told : yX8_told.cls ≠ "java/lang/invoke/MethodHandle" ∧ yX8_told.cls ≠ "java/lang/invoke/VarHandle" ∧ (parseMethodDescriptor yX8_told.desc).map (fun d => d.parameters.length) = some 1 := by decide +kernel
theorem hy_X8_town : yX8_town.cls ≠ "java/lang/invoke/MethodHandle" ∧ yX8_town.cls ≠ "java/lang/invoke/VarHandle" ∧ (parseMethodDescriptor yX8_town.desc).map (fun d => d.parameters.length) = some 0 := by decide +kernel
theorem hy_X8_wedding : yX8_wedding.cls ≠ "java/lang/invoke/MethodHandle" ∧ yX8_wedding.cls ≠ "java/lang/invoke/VarHandle" ∧ (parseMethodDescriptor yX8_wedding.desc).map (fun d => d.parameters.length) = some 2 := by decide +kernel
theorem hy_X8_width : yX8_width.cls ≠ "java/lang/invoke/MethodHandle" ∧ yX8_width.cls ≠ "java/lang/invoke/VarHandle" ∧ (parseMethodDescriptor yX8_width.desc).map (fun d => d.parameters.length) = some 2 := by decide +kernel
theorem hy_X8_without : yX8_without.cls ≠ "java/lang/invoke/MethodHandle" ∧ yX8_without.cls ≠ "java/lang/invoke/VarHandle" ∧ (parseMethodDescriptor yX8_without.desc).map (fun d => d.parameters.length) = some 1 := by decide +kernel
theorem hy_X8_write : yX8_write.cls ≠ "java/lang/invoke/MethodHandle" ∧ yX8_write.cls ≠ "java/lang/invoke/VarHandle" ∧ (parseMethodDescriptor yX8_write.desc).map (fun d => d.parameters.length) = some 2 := by decide +kernel
theorem hy_X9_has : yX9_has.cls ≠ "java/lang/invoke/MethodHandle" ∧ yX9_has.cls ≠ "java/lang/invoke/VarHandle" ∧ (parseMethodDescriptor yX9_has.desc).map (fun d => d.parameters.length) = some 2 := by decide +kernel
theorem hy_X9_in : yX9_in.cls ≠ "java/lang/invoke/MethodHandle" ∧ yX9_in.cls ≠ "java/lang/invoke/VarHandle" ∧ (parseMethodDescriptor yX9_in.desc).map (fun d => d.parameters.length) = some 3 := by decide +kernel
theorem hy_X9_isFree : yX9_isFree.cls ≠ "java/lang/invoke/MethodHandle" ∧ yX9_isFree.cls ≠ "java/lang/invoke/VarHandle" ∧ (parseMethodDescriptor yX9_isFree.desc).map (fun d => d.parameters.length) = some 2 := by decide +kernel
theorem hy_X9_sumOf : yX9_sumOf.cls ≠ "java/lang/invoke/MethodHandle" ∧ yX9_sumOf.cls ≠ "java/lang/invoke/VarHandle" ∧ (parseMethodDescriptor yX9_sumOf.desc).map (fun d => d.parameters.length) = some 2 := by decide +kernel
theorem hy_X9_isFor : yX9_isFor.cls ≠ "java/lang/invoke/MethodHandle" ∧ yX9_isFor.cls ≠ "java/lang/invoke/VarHandle" ∧ (parseMethodDescriptor yX9_isFor.desc).map (fun d => d.parameters.length) = some 3 := by decide +kernel
theorem hy_X9_addScene : yX9_addScene.cls ≠ "java/lang/invoke/MethodHandle" ∧ yX9_addScene.cls ≠ "java/lang/invoke/VarHandle" ∧ (parseMethodDescriptor yX9_addScene.desc).map (fun d => d.parameters.length) = some 2 := by decide +kernel
theorem hy_X9_best : yX9_best.cls ≠ "java/lang/invoke/MethodHandle" ∧ yX9_best.cls ≠ "java/lang/invoke/VarHandle" ∧ (parseMethodDescriptor yX9_best.desc).map (fun d => d.parameters.length) = some 3 := by decide +kernel
theorem hy_X9_canRest : yX9_canRest.cls ≠ "java/lang/invoke/MethodHandle" ∧ yX9_canRest.cls ≠ "java/lang/invoke/VarHandle" ∧ (parseMethodDescriptor yX9_canRest.desc).map (fun d => d.parameters.length) = some 3 := by decide +kernel
theorem hy_X9_isScene : yX9_isScene.cls ≠ "java/lang/invoke/MethodHandle" ∧ yX9_isScene.cls ≠ "java/lang/invoke/VarHandle" ∧ (parseMethodDescriptor yX9_isScene.desc).map (fun d => d.parameters.length) = some 1 := by decide +kernel
theorem hy_X9_cheapest : yX9_cheapest.cls ≠ "java/lang/invoke/MethodHandle" ∧ yX9_cheapest.cls ≠ "java/lang/invoke/VarHandle" ∧ (parseMethodDescriptor yX9_cheapest.desc).map (fun d => d.parameters.length) = some 2 := by decide +kernel
theorem hy_X9_ones : yX9_ones.cls ≠ "java/lang/invoke/MethodHandle" ∧ yX9_ones.cls ≠ "java/lang/invoke/VarHandle" ∧ (parseMethodDescriptor yX9_ones.desc).map (fun d => d.parameters.length) = some 1 := by decide +kernel
theorem hy_X9_clashMany : yX9_clashMany.cls ≠ "java/lang/invoke/MethodHandle" ∧ yX9_clashMany.cls ≠ "java/lang/invoke/VarHandle" ∧ (parseMethodDescriptor yX9_clashMany.desc).map (fun d => d.parameters.length) = some 0 := by decide +kernel
theorem hy_X9_copy : yX9_copy.cls ≠ "java/lang/invoke/MethodHandle" ∧ yX9_copy.cls ≠ "java/lang/invoke/VarHandle" ∧ (parseMethodDescriptor yX9_copy.desc).map (fun d => d.parameters.length) = some 2 := by decide +kernel
theorem hy_X9_findSets : yX9_findSets.cls ≠ "java/lang/invoke/MethodHandle" ∧ yX9_findSets.cls ≠ "java/lang/invoke/VarHandle" ∧ (parseMethodDescriptor yX9_findSets.desc).map (fun d => d.parameters.length) = some 2 := by decide +kernel
theorem hy_X9_findAllSets : yX9_findAllSets.cls ≠ "java/lang/invoke/MethodHandle" ∧ yX9_findAllSets.cls ≠ "java/lang/invoke/VarHandle" ∧ (parseMethodDescriptor yX9_findAllSets.desc).map (fun d => d.parameters.length) = some 1 := by decide +kernel
theorem hy_X9_findLeast : yX9_findLeast.cls ≠ "java/lang/invoke/MethodHandle" ∧ yX9_findLeast.cls ≠ "java/lang/invoke/VarHandle" ∧ (parseMethodDescriptor yX9_findLeast.desc).map (fun d => d.parameters.length) = some 1 := by decide +kernel
theorem hy_X9_leastIn : yX9_leastIn.cls ≠ "java/lang/invoke/MethodHandle" ∧ yX9_leastIn.cls ≠ "java/lang/invoke/VarHandle" ∧ (parseMethodDescriptor yX9_leastIn.desc).map (fun d => d.parameters.length) = some 1 := by decide +kernel
theorem hy_X9_one : yX9_one.cls ≠ "java/lang/invoke/MethodHandle" ∧ yX9_one.cls ≠ "java/lang/invoke/VarHandle" ∧ (parseMethodDescriptor yX9_one.desc).map (fun d => d.parameters.length) = some 1 := by decide +kernel
theorem hy_X9_findWorn : yX9_findWorn.cls ≠ "java/lang/invoke/MethodHandle" ∧ yX9_findWorn.cls ≠ "java/lang/invoke/VarHandle" ∧ (parseMethodDescriptor yX9_findWorn.desc).map (fun d => d.parameters.length) = some 1 := by decide +kernel
theorem hy_X9_pass : yX9_pass.cls ≠ "java/lang/invoke/MethodHandle" ∧ yX9_pass.cls ≠ "java/lang/invoke/VarHandle" ∧ (parseMethodDescriptor yX9_pass.desc).map (fun d => d.parameters.length) = some 0 := by decide +kernel
theorem hy_X9_day : yX9_day.cls ≠ "java/lang/invoke/MethodHandle" ∧ yX9_day.cls ≠ "java/lang/invoke/VarHandle" ∧ (parseMethodDescriptor yX9_day.desc).map (fun d => d.parameters.length) = some 1 := by decide +kernel
theorem hy_X9_draw : yX9_draw.cls ≠ "java/lang/invoke/MethodHandle" ∧ yX9_draw.cls ≠ "java/lang/invoke/VarHandle" ∧ (parseMethodDescriptor yX9_draw.desc).map (fun d => d.parameters.length) = some 1 := by decide +kernel
theorem hy_X9_firstLook : yX9_firstLook.cls ≠ "java/lang/invoke/MethodHandle" ∧ yX9_firstLook.cls ≠ "java/lang/invoke/VarHandle" ∧ (parseMethodDescriptor yX9_firstLook.desc).map (fun d => d.parameters.length) = some 2 := by decide +kernel
theorem hy_X9_lookOf : yX9_lookOf.cls ≠ "java/lang/invoke/MethodHandle" ∧ yX9_lookOf.cls ≠ "java/lang/invoke/VarHandle" ∧ (parseMethodDescriptor yX9_lookOf.desc).map (fun d => d.parameters.length) = some 1 := by decide +kernel
theorem hy_X9_dressing : yX9_dressing.cls ≠ "java/lang/invoke/MethodHandle" ∧ yX9_dressing.cls ≠ "java/lang/invoke/VarHandle" ∧ (parseMethodDescriptor yX9_dressing.desc).map (fun d => d.parameters.length) = some 1 := by decide +kernel
theorem hy_X9_drift : yX9_drift.cls ≠ "java/lang/invoke/MethodHandle" ∧ yX9_drift.cls ≠ "java/lang/invoke/VarHandle" ∧ (parseMethodDescriptor yX9_drift.desc).map (fun d => d.parameters.length) = some 1 := by decide +kernel
theorem hy_X9_fault : yX9_fault.cls ≠ "java/lang/invoke/MethodHandle" ∧ yX9_fault.cls ≠ "java/lang/invoke/VarHandle" ∧ (parseMethodDescriptor yX9_fault.desc).map (fun d => d.parameters.length) = some 0 := by decide +kernel
theorem hy_X9_feed : yX9_feed.cls ≠ "java/lang/invoke/MethodHandle" ∧ yX9_feed.cls ≠ "java/lang/invoke/VarHandle" ∧ (parseMethodDescriptor yX9_feed.desc).map (fun d => d.parameters.length) = some 2 := by decide +kernel
theorem hy_X9_findLooks : yX9_findLooks.cls ≠ "java/lang/invoke/MethodHandle" ∧ yX9_findLooks.cls ≠ "java/lang/invoke/VarHandle" ∧ (parseMethodDescriptor yX9_findLooks.desc).map (fun d => d.parameters.length) = some 0 := by decide +kernel
theorem hy_X9_goBack : yX9_goBack.cls ≠ "java/lang/invoke/MethodHandle" ∧ yX9_goBack.cls ≠ "java/lang/invoke/VarHandle" ∧ (parseMethodDescriptor yX9_goBack.desc).map (fun d => d.parameters.length) = some 1 := by decide +kernel
theorem hy_X9_widthsIn : yX9_widthsIn.cls ≠ "java/lang/invoke/MethodHandle" ∧ yX9_widthsIn.cls ≠ "java/lang/invoke/VarHandle" ∧ (parseMethodDescriptor yX9_widthsIn.desc).map (fun d => d.parameters.length) = some 1 := by decide +kernel
theorem hy_X9_grow : yX9_grow.cls ≠ "java/lang/invoke/MethodHandle" ∧ yX9_grow.cls ≠ "java/lang/invoke/VarHandle" ∧ (parseMethodDescriptor yX9_grow.desc).map (fun d => d.parameters.length) = some 1 := by decide +kernel
theorem hy_X9_here : yX9_here.cls ≠ "java/lang/invoke/MethodHandle" ∧ yX9_here.cls ≠ "java/lang/invoke/VarHandle" ∧ (parseMethodDescriptor yX9_here.desc).map (fun d => d.parameters.length) = some 0 := by decide +kernel
theorem hy_X9_isPart : yX9_isPart.cls ≠ "java/lang/invoke/MethodHandle" ∧ yX9_isPart.cls ≠ "java/lang/invoke/VarHandle" ∧ (parseMethodDescriptor yX9_isPart.desc).map (fun d => d.parameters.length) = some 1 := by decide +kernel
theorem hy_X9_isWord : yX9_isWord.cls ≠ "java/lang/invoke/MethodHandle" ∧ yX9_isWord.cls ≠ "java/lang/invoke/VarHandle" ∧ (parseMethodDescriptor yX9_isWord.desc).map (fun d => d.parameters.length) = some 6 := by decide +kernel
theorem hy_X9_judge : yX9_judge.cls ≠ "java/lang/invoke/MethodHandle" ∧ yX9_judge.cls ≠ "java/lang/invoke/VarHandle" ∧ (parseMethodDescriptor yX9_judge.desc).map (fun d => d.parameters.length) = some 0 := by decide +kernel
theorem hy_X9_keep : yX9_keep.cls ≠ "java/lang/invoke/MethodHandle" ∧ yX9_keep.cls ≠ "java/lang/invoke/VarHandle" ∧ (parseMethodDescriptor yX9_keep.desc).map (fun d => d.parameters.length) = some 1 := by decide +kernel
theorem hy_X9_law : yX9_law.cls ≠ "java/lang/invoke/MethodHandle" ∧ yX9_law.cls ≠ "java/lang/invoke/VarHandle" ∧ (parseMethodDescriptor yX9_law.desc).map (fun d => d.parameters.length) = some 1 := by decide +kernel
theorem hy_X9_look : yX9_look.cls ≠ "java/lang/invoke/MethodHandle" ∧ yX9_look.cls ≠ "java/lang/invoke/VarHandle" ∧ (parseMethodDescriptor yX9_look.desc).map (fun d => d.parameters.length) = some 2 := by decide +kernel
theorem hy_X9_part : yX9_part.cls ≠ "java/lang/invoke/MethodHandle" ∧ yX9_part.cls ≠ "java/lang/invoke/VarHandle" ∧ (parseMethodDescriptor yX9_part.desc).map (fun d => d.parameters.length) = some 2 := by decide +kernel
theorem hy_X9_price : yX9_price.cls ≠ "java/lang/invoke/MethodHandle" ∧ yX9_price.cls ≠ "java/lang/invoke/VarHandle" ∧ (parseMethodDescriptor yX9_price.desc).map (fun d => d.parameters.length) = some 2 := by decide +kernel
theorem hy_X9_rentIn : yX9_rentIn.cls ≠ "java/lang/invoke/MethodHandle" ∧ yX9_rentIn.cls ≠ "java/lang/invoke/VarHandle" ∧ (parseMethodDescriptor yX9_rentIn.desc).map (fun d => d.parameters.length) = some 2 := by decide +kernel
theorem hy_X9_raise : yX9_raise.cls ≠ "java/lang/invoke/MethodHandle" ∧ yX9_raise.cls ≠ "java/lang/invoke/VarHandle" ∧ (parseMethodDescriptor yX9_raise.desc).map (fun d => d.parameters.length) = some 2 := by decide +kernel
theorem hy_X9_rent : yX9_rent.cls ≠ "java/lang/invoke/MethodHandle" ∧ yX9_rent.cls ≠ "java/lang/invoke/VarHandle" ∧ (parseMethodDescriptor yX9_rent.desc).map (fun d => d.parameters.length) = some 1 := by decide +kernel
theorem hy_X9_scene : yX9_scene.cls ≠ "java/lang/invoke/MethodHandle" ∧ yX9_scene.cls ≠ "java/lang/invoke/VarHandle" ∧ (parseMethodDescriptor yX9_scene.desc).map (fun d => d.parameters.length) = some 2 := by decide +kernel
theorem hy_X9_see : yX9_see.cls ≠ "java/lang/invoke/MethodHandle" ∧ yX9_see.cls ≠ "java/lang/invoke/VarHandle" ∧ (parseMethodDescriptor yX9_see.desc).map (fun d => d.parameters.length) = some 2 := by decide +kernel
theorem hy_X9_seed : yX9_seed.cls ≠ "java/lang/invoke/MethodHandle" ∧ yX9_seed.cls ≠ "java/lang/invoke/VarHandle" ∧ (parseMethodDescriptor yX9_seed.desc).map (fun d => d.parameters.length) = some 1 := by decide +kernel
theorem hy_X9_seenBy : yX9_seenBy.cls ≠ "java/lang/invoke/MethodHandle" ∧ yX9_seenBy.cls ≠ "java/lang/invoke/VarHandle" ∧ (parseMethodDescriptor yX9_seenBy.desc).map (fun d => d.parameters.length) = some 2 := by decide +kernel
theorem hy_X9_seen : yX9_seen.cls ≠ "java/lang/invoke/MethodHandle" ∧ yX9_seen.cls ≠ "java/lang/invoke/VarHandle" ∧ (parseMethodDescriptor yX9_seen.desc).map (fun d => d.parameters.length) = some 2 := by decide +kernel
theorem hy_X9_strange : yX9_strange.cls ≠ "java/lang/invoke/MethodHandle" ∧ yX9_strange.cls ≠ "java/lang/invoke/VarHandle" ∧ (parseMethodDescriptor yX9_strange.desc).map (fun d => d.parameters.length) = some 0 := by decide +kernel
theorem hy_X9_want : yX9_want.cls ≠ "java/lang/invoke/MethodHandle" ∧ yX9_want.cls ≠ "java/lang/invoke/VarHandle" ∧ (parseMethodDescriptor yX9_want.desc).map (fun d => d.parameters.length) = some 3 := by decide +kernel
theorem hy_X9_takeNumber : yX9_takeNumber.cls ≠ "java/lang/invoke/MethodHandle" ∧ yX9_takeNumber.cls ≠ "java/lang/invoke/VarHandle" ∧ (parseMethodDescriptor yX9_takeNumber.desc).map (fun d => d.parameters.length) = some 2 := by decide +kernel
theorem hy_X9_takeClash : yX9_takeClash.cls ≠ "java/lang/invoke/MethodHandle" ∧ yX9_takeClash.cls ≠ "java/lang/invoke/VarHandle" ∧ (parseMethodDescriptor yX9_takeClash.desc).map (fun d => d.parameters.length) = some 0 := by decide +kernel
theorem hy_X9_takeWord : yX9_takeWord.cls ≠ "java/lang/invoke/MethodHandle" ∧ yX9_takeWord.cls ≠ "java/lang/invoke/VarHandle" ∧ (parseMethodDescriptor yX9_takeWord.desc).map (fun d => d.parameters.length) = some 0 := by decide +kernel
theorem hy_X9_takePart : yX9_takePart.cls ≠ "java/lang/invoke/MethodHandle" ∧ yX9_takePart.cls ≠ "java/lang/invoke/VarHandle" ∧ (parseMethodDescriptor yX9_takePart.desc).map (fun d => d.parameters.length) = some 0 := by decide +kernel
theorem hy_X9_takeScene : yX9_takeScene.cls ≠ "java/lang/invoke/MethodHandle" ∧ yX9_takeScene.cls ≠ "java/lang/invoke/VarHandle" ∧ (parseMethodDescriptor yX9_takeScene.desc).map (fun d => d.parameters.length) = some 0 := by decide +kernel
theorem hy_X9_takeClause : yX9_takeClause.cls ≠ "java/lang/invoke/MethodHandle" ∧ yX9_takeClause.cls ≠ "java/lang/invoke/VarHandle" ∧ (parseMethodDescriptor yX9_takeClause.desc).map (fun d => d.parameters.length) = some 0 := by decide +kernel
theorem hy_X9_tear : yX9_tear.cls ≠ "java/lang/invoke/MethodHandle" ∧ yX9_tear.cls ≠ "java/lang/invoke/VarHandle" ∧ (parseMethodDescriptor yX9_tear.desc).map (fun d => d.parameters.length) = some 0 := by decide +kernel
theorem hy_X9_told : yX9_told.cls ≠ "java/lang/invoke/MethodHandle" ∧ yX9_told.cls ≠ "java/lang/invoke/VarHandle" ∧ (parseMethodDescriptor yX9_told.desc).map (fun d => d.parameters.length) = some 1 := by decide +kernel
theorem hy_X9_town : yX9_town.cls ≠ "java/lang/invoke/MethodHandle" ∧ yX9_town.cls ≠ "java/lang/invoke/VarHandle" ∧ (parseMethodDescriptor yX9_town.desc).map (fun d => d.parameters.length) = some 0 := by decide +kernel
theorem hy_X9_wedding : yX9_wedding.cls ≠ "java/lang/invoke/MethodHandle" ∧ yX9_wedding.cls ≠ "java/lang/invoke/VarHandle" ∧ (parseMethodDescriptor yX9_wedding.desc).map (fun d => d.parameters.length) = some 2 := by decide +kernel
theorem hy_X9_width : yX9_width.cls ≠ "java/lang/invoke/MethodHandle" ∧ yX9_width.cls ≠ "java/lang/invoke/VarHandle" ∧ (parseMethodDescriptor yX9_width.desc).map (fun d => d.parameters.length) = some 2 := by decide +kernel
theorem hy_X9_without : yX9_without.cls ≠ "java/lang/invoke/MethodHandle" ∧ yX9_without.cls ≠ "java/lang/invoke/VarHandle" ∧ (parseMethodDescriptor yX9_without.desc).map (fun d => d.parameters.length) = some 1 := by decide +kernel
theorem hy_X9_write : yX9_write.cls ≠ "java/lang/invoke/MethodHandle" ∧ yX9_write.cls ≠ "java/lang/invoke/VarHandle" ∧ (parseMethodDescriptor yX9_write.desc).map (fun d => d.parameters.length) = some 2 := by decide +kernel
theorem gf_X0_22 {ρ : Type} {X : gX} {Q : ρ → State → Prop} {nL : Nat} {M : gM} {lv : List (Nat × Value)} {stk : List Value} {pc : Nat} {o : Option ρ} {cc : ByteArray} {ret : Option FieldType} {fr lo : Nat} (C : gC X cc RX0 nL ret fr lo) {t : Nat} (hk : kd t = gKo 0) (hd : decode cc pc = .ok (.getfield 22, 3)) (k : G X Q nL M lv (.int (M t 3) :: stk) (pc + 3) o) : G X Q nL M lv (.ref (xad X t) :: stk) pc o :=
  g_getI (T := TX0) (i := 3) C hk inX0 rfl (by decide) rfl wf_X0_22 hd k
theorem gf_X0_9 {ρ : Type} {X : gX} {Q : ρ → State → Prop} {nL : Nat} {M : gM} {lv : List (Nat × Value)} {stk : List Value} {pc : Nat} {o : Option ρ} {cc : ByteArray} {ret : Option FieldType} {fr lo : Nat} (C : gC X cc RX0 nL ret fr lo) {t u : Nat} (hk : kd t = gKo 0) (hu : rf t 1 = u) (hd : decode cc pc = .ok (.getfield 9, 3)) (k : G X Q nL M lv (.ref (xad X u) :: stk) (pc + 3) o) : G X Q nL M lv (.ref (xad X t) :: stk) pc o :=
  g_getR (T := TX0) (i := 1) C hk inX0 rfl (by decide) rfl wf_X0_9 hu hd k
theorem gf_X0_15 {ρ : Type} {X : gX} {Q : ρ → State → Prop} {nL : Nat} {M : gM} {lv : List (Nat × Value)} {stk : List Value} {pc : Nat} {o : Option ρ} {cc : ByteArray} {ret : Option FieldType} {fr lo : Nat} (C : gC X cc RX0 nL ret fr lo) {t u : Nat} (hk : kd t = gKo 0) (hu : rf t 2 = u) (hd : decode cc pc = .ok (.getfield 15, 3)) (k : G X Q nL M lv (.ref (xad X u) :: stk) (pc + 3) o) : G X Q nL M lv (.ref (xad X t) :: stk) pc o :=
  g_getR (T := TX0) (i := 2) C hk inX0 rfl (by decide) rfl wf_X0_15 hu hd k
theorem gp_X0_22 {ρ : Type} {X : gX} {Q : ρ → State → Prop} {nL : Nat} {M : gM} {lv : List (Nat × Value)} {stk : List Value} {pc : Nat} {o : Option ρ} {cc : ByteArray} {ret : Option FieldType} {fr lo : Nat} (C : gC X cc RX0 nL ret fr lo) {t : Nat} {x : Int32} (hk : kd t = gKo 0) (hd : decode cc pc = .ok (.putfield 22, 3)) (k : G X Q nL (gst M t 3 x) lv stk (pc + 3) o) : G X Q nL M lv (.int x :: .ref (xad X t) :: stk) pc o :=
  g_putI (T := TX0) (i := 3) C tyX0 tyX0_ok nmX0 hk inX0 rfl (by decide) rfl wf_X0_22 rfl (by decide +kernel) hd k
theorem gf_X7_42 {ρ : Type} {X : gX} {Q : ρ → State → Prop} {nL : Nat} {M : gM} {lv : List (Nat × Value)} {stk : List Value} {pc : Nat} {o : Option ρ} {cc : ByteArray} {ret : Option FieldType} {fr lo : Nat} (C : gC X cc RX7 nL ret fr lo) {t : Nat} (hk : kd t = gKo 7) (hd : decode cc pc = .ok (.getfield 42, 3)) (k : G X Q nL M lv (.int (M t 10) :: stk) (pc + 3) o) : G X Q nL M lv (.ref (xad X t) :: stk) pc o :=
  g_getI (T := TX7) (i := 10) C hk inX7 rfl (by decide) rfl wf_X7_42 hd k
theorem gf_X7_24 {ρ : Type} {X : gX} {Q : ρ → State → Prop} {nL : Nat} {M : gM} {lv : List (Nat × Value)} {stk : List Value} {pc : Nat} {o : Option ρ} {cc : ByteArray} {ret : Option FieldType} {fr lo : Nat} (C : gC X cc RX7 nL ret fr lo) {t u : Nat} (hk : kd t = gKo 7) (hu : rf t 4 = u) (hd : decode cc pc = .ok (.getfield 24, 3)) (k : G X Q nL M lv (.ref (xad X u) :: stk) (pc + 3) o) : G X Q nL M lv (.ref (xad X t) :: stk) pc o :=
  g_getR (T := TX7) (i := 4) C hk inX7 rfl (by decide) rfl wf_X7_24 hu hd k
theorem gf_X7_27 {ρ : Type} {X : gX} {Q : ρ → State → Prop} {nL : Nat} {M : gM} {lv : List (Nat × Value)} {stk : List Value} {pc : Nat} {o : Option ρ} {cc : ByteArray} {ret : Option FieldType} {fr lo : Nat} (C : gC X cc RX7 nL ret fr lo) {t u : Nat} (hk : kd t = gKo 7) (hu : rf t 5 = u) (hd : decode cc pc = .ok (.getfield 27, 3)) (k : G X Q nL M lv (.ref (xad X u) :: stk) (pc + 3) o) : G X Q nL M lv (.ref (xad X t) :: stk) pc o :=
  g_getR (T := TX7) (i := 5) C hk inX7 rfl (by decide) rfl wf_X7_27 hu hd k
theorem gf_X0_18 {ρ : Type} {X : gX} {Q : ρ → State → Prop} {nL : Nat} {M : gM} {lv : List (Nat × Value)} {stk : List Value} {pc : Nat} {o : Option ρ} {cc : ByteArray} {ret : Option FieldType} {fr lo : Nat} (C : gC X cc RX0 nL ret fr lo) {t u : Nat} (hk : kd t = gKo 0) (hu : rf t 0 = u) (hd : decode cc pc = .ok (.getfield 18, 3)) (k : G X Q nL M lv (.ref (xad X u) :: stk) (pc + 3) o) : G X Q nL M lv (.ref (xad X t) :: stk) pc o :=
  g_getR (T := TX0) (i := 0) C hk inX0 rfl (by decide) rfl wf_X0_18 hu hd k
theorem gf_X1_17 {ρ : Type} {X : gX} {Q : ρ → State → Prop} {nL : Nat} {M : gM} {lv : List (Nat × Value)} {stk : List Value} {pc : Nat} {o : Option ρ} {cc : ByteArray} {ret : Option FieldType} {fr lo : Nat} (C : gC X cc RX1 nL ret fr lo) {t u : Nat} (hk : kd t = gKo 1) (hu : rf t 3 = u) (hd : decode cc pc = .ok (.getfield 17, 3)) (k : G X Q nL M lv (.ref (xad X u) :: stk) (pc + 3) o) : G X Q nL M lv (.ref (xad X t) :: stk) pc o :=
  g_getR (T := TX1) (i := 3) C hk inX1 rfl (by decide) rfl wf_X1_17 hu hd k
theorem gf_X1_9 {ρ : Type} {X : gX} {Q : ρ → State → Prop} {nL : Nat} {M : gM} {lv : List (Nat × Value)} {stk : List Value} {pc : Nat} {o : Option ρ} {cc : ByteArray} {ret : Option FieldType} {fr lo : Nat} (C : gC X cc RX1 nL ret fr lo) {t u : Nat} (hk : kd t = gKo 1) (hu : rf t 2 = u) (hd : decode cc pc = .ok (.getfield 9, 3)) (k : G X Q nL M lv (.ref (xad X u) :: stk) (pc + 3) o) : G X Q nL M lv (.ref (xad X t) :: stk) pc o :=
  g_getR (T := TX1) (i := 2) C hk inX1 rfl (by decide) rfl wf_X1_9 hu hd k
theorem gf_X1_20 {ρ : Type} {X : gX} {Q : ρ → State → Prop} {nL : Nat} {M : gM} {lv : List (Nat × Value)} {stk : List Value} {pc : Nat} {o : Option ρ} {cc : ByteArray} {ret : Option FieldType} {fr lo : Nat} (C : gC X cc RX1 nL ret fr lo) {t u : Nat} (hk : kd t = gKo 1) (hu : rf t 4 = u) (hd : decode cc pc = .ok (.getfield 20, 3)) (k : G X Q nL M lv (.ref (xad X u) :: stk) (pc + 3) o) : G X Q nL M lv (.ref (xad X t) :: stk) pc o :=
  g_getR (T := TX1) (i := 4) C hk inX1 rfl (by decide) rfl wf_X1_20 hu hd k
theorem gf_X1_23 {ρ : Type} {X : gX} {Q : ρ → State → Prop} {nL : Nat} {M : gM} {lv : List (Nat × Value)} {stk : List Value} {pc : Nat} {o : Option ρ} {cc : ByteArray} {ret : Option FieldType} {fr lo : Nat} (C : gC X cc RX1 nL ret fr lo) {t u : Nat} (hk : kd t = gKo 1) (hu : rf t 5 = u) (hd : decode cc pc = .ok (.getfield 23, 3)) (k : G X Q nL M lv (.ref (xad X u) :: stk) (pc + 3) o) : G X Q nL M lv (.ref (xad X t) :: stk) pc o :=
  g_getR (T := TX1) (i := 5) C hk inX1 rfl (by decide) rfl wf_X1_23 hu hd k
theorem gf_X1_32 {ρ : Type} {X : gX} {Q : ρ → State → Prop} {nL : Nat} {M : gM} {lv : List (Nat × Value)} {stk : List Value} {pc : Nat} {o : Option ρ} {cc : ByteArray} {ret : Option FieldType} {fr lo : Nat} (C : gC X cc RX1 nL ret fr lo) {t u : Nat} (hk : kd t = gKo 1) (hu : rf t 0 = u) (hd : decode cc pc = .ok (.getfield 32, 3)) (k : G X Q nL M lv (.ref (xad X u) :: stk) (pc + 3) o) : G X Q nL M lv (.ref (xad X t) :: stk) pc o :=
  g_getR (T := TX1) (i := 0) C hk inX1 rfl (by decide) rfl wf_X1_32 hu hd k
theorem gf_X1_44 {ρ : Type} {X : gX} {Q : ρ → State → Prop} {nL : Nat} {M : gM} {lv : List (Nat × Value)} {stk : List Value} {pc : Nat} {o : Option ρ} {cc : ByteArray} {ret : Option FieldType} {fr lo : Nat} (C : gC X cc RX1 nL ret fr lo) {t : Nat} (hk : kd t = gKo 7) (hd : decode cc pc = .ok (.getfield 44, 3)) (k : G X Q nL M lv (.int (M t 12) :: stk) (pc + 3) o) : G X Q nL M lv (.ref (xad X t) :: stk) pc o :=
  g_getNI (T := TX7) (i := 12) C hk inX7 rfl (by decide) rfl wnf_X1_44 hd k
theorem gf_X1_50 {ρ : Type} {X : gX} {Q : ρ → State → Prop} {nL : Nat} {M : gM} {lv : List (Nat × Value)} {stk : List Value} {pc : Nat} {o : Option ρ} {cc : ByteArray} {ret : Option FieldType} {fr lo : Nat} (C : gC X cc RX1 nL ret fr lo) {t u : Nat} (hk : kd t = gKo 7) (hu : rf t 7 = u) (hd : decode cc pc = .ok (.getfield 50, 3)) (k : G X Q nL M lv (.ref (xad X u) :: stk) (pc + 3) o) : G X Q nL M lv (.ref (xad X t) :: stk) pc o :=
  g_getNR (T := TX7) (i := 7) C hk inX7 rfl (by decide) rfl wnf_X1_50 hu hd k
theorem gf_X1_29 {ρ : Type} {X : gX} {Q : ρ → State → Prop} {nL : Nat} {M : gM} {lv : List (Nat × Value)} {stk : List Value} {pc : Nat} {o : Option ρ} {cc : ByteArray} {ret : Option FieldType} {fr lo : Nat} (C : gC X cc RX1 nL ret fr lo) {t u : Nat} (hk : kd t = gKo 1) (hu : rf t 7 = u) (hd : decode cc pc = .ok (.getfield 29, 3)) (k : G X Q nL M lv (.ref (xad X u) :: stk) (pc + 3) o) : G X Q nL M lv (.ref (xad X t) :: stk) pc o :=
  g_getR (T := TX1) (i := 7) C hk inX1 rfl (by decide) rfl wf_X1_29 hu hd k
theorem gp_X1_91 {ρ : Type} {X : gX} {Q : ρ → State → Prop} {nL : Nat} {M : gM} {lv : List (Nat × Value)} {stk : List Value} {pc : Nat} {o : Option ρ} {cc : ByteArray} {ret : Option FieldType} {fr lo : Nat} (C : gC X cc RX1 nL ret fr lo) {t : Nat} {x : Int32} (hk : kd t = gKo 1) (hd : decode cc pc = .ok (.putfield 91, 3)) (k : G X Q nL (gst M t 8 x) lv stk (pc + 3) o) : G X Q nL M lv (.int x :: .ref (xad X t) :: stk) pc o :=
  g_putI (T := TX1) (i := 8) C tyX1 tyX1_ok nmX1 hk inX1 rfl (by decide) rfl wf_X1_91 rfl (by decide +kernel) hd k
theorem gf_X1_91 {ρ : Type} {X : gX} {Q : ρ → State → Prop} {nL : Nat} {M : gM} {lv : List (Nat × Value)} {stk : List Value} {pc : Nat} {o : Option ρ} {cc : ByteArray} {ret : Option FieldType} {fr lo : Nat} (C : gC X cc RX1 nL ret fr lo) {t : Nat} (hk : kd t = gKo 1) (hd : decode cc pc = .ok (.getfield 91, 3)) (k : G X Q nL M lv (.int (M t 8) :: stk) (pc + 3) o) : G X Q nL M lv (.ref (xad X t) :: stk) pc o :=
  g_getI (T := TX1) (i := 8) C hk inX1 rfl (by decide) rfl wf_X1_91 hd k
theorem gf_X1_26 {ρ : Type} {X : gX} {Q : ρ → State → Prop} {nL : Nat} {M : gM} {lv : List (Nat × Value)} {stk : List Value} {pc : Nat} {o : Option ρ} {cc : ByteArray} {ret : Option FieldType} {fr lo : Nat} (C : gC X cc RX1 nL ret fr lo) {t u : Nat} (hk : kd t = gKo 1) (hu : rf t 6 = u) (hd : decode cc pc = .ok (.getfield 26, 3)) (k : G X Q nL M lv (.ref (xad X u) :: stk) (pc + 3) o) : G X Q nL M lv (.ref (xad X t) :: stk) pc o :=
  g_getR (T := TX1) (i := 6) C hk inX1 rfl (by decide) rfl wf_X1_26 hu hd k
theorem gf_X7_50 {ρ : Type} {X : gX} {Q : ρ → State → Prop} {nL : Nat} {M : gM} {lv : List (Nat × Value)} {stk : List Value} {pc : Nat} {o : Option ρ} {cc : ByteArray} {ret : Option FieldType} {fr lo : Nat} (C : gC X cc RX7 nL ret fr lo) {t : Nat} (hk : kd t = gKo 7) (hd : decode cc pc = .ok (.getfield 50, 3)) (k : G X Q nL M lv (.int (M t 12) :: stk) (pc + 3) o) : G X Q nL M lv (.ref (xad X t) :: stk) pc o :=
  g_getI (T := TX7) (i := 12) C hk inX7 rfl (by decide) rfl wf_X7_50 hd k
theorem gf_X2_29 {ρ : Type} {X : gX} {Q : ρ → State → Prop} {nL : Nat} {M : gM} {lv : List (Nat × Value)} {stk : List Value} {pc : Nat} {o : Option ρ} {cc : ByteArray} {ret : Option FieldType} {fr lo : Nat} (C : gC X cc RX2 nL ret fr lo) {t : Nat} (hk : kd t = gKo 2) (hd : decode cc pc = .ok (.getfield 29, 3)) (k : G X Q nL M lv (.int (M t 5) :: stk) (pc + 3) o) : G X Q nL M lv (.ref (xad X t) :: stk) pc o :=
  g_getI (T := TX2) (i := 5) C hk inX2 rfl (by decide) rfl wf_X2_29 hd k
theorem gf_X2_11 {ρ : Type} {X : gX} {Q : ρ → State → Prop} {nL : Nat} {M : gM} {lv : List (Nat × Value)} {stk : List Value} {pc : Nat} {o : Option ρ} {cc : ByteArray} {ret : Option FieldType} {fr lo : Nat} (C : gC X cc RX2 nL ret fr lo) {t u : Nat} (hk : kd t = gKo 2) (hu : rf t 2 = u) (hd : decode cc pc = .ok (.getfield 11, 3)) (k : G X Q nL M lv (.ref (xad X u) :: stk) (pc + 3) o) : G X Q nL M lv (.ref (xad X t) :: stk) pc o :=
  g_getR (T := TX2) (i := 2) C hk inX2 rfl (by decide) rfl wf_X2_11 hu hd k
theorem gf_X2_15 {ρ : Type} {X : gX} {Q : ρ → State → Prop} {nL : Nat} {M : gM} {lv : List (Nat × Value)} {stk : List Value} {pc : Nat} {o : Option ρ} {cc : ByteArray} {ret : Option FieldType} {fr lo : Nat} (C : gC X cc RX2 nL ret fr lo) {t u : Nat} (hk : kd t = gKo 2) (hu : rf t 3 = u) (hd : decode cc pc = .ok (.getfield 15, 3)) (k : G X Q nL M lv (.ref (xad X u) :: stk) (pc + 3) o) : G X Q nL M lv (.ref (xad X t) :: stk) pc o :=
  g_getR (T := TX2) (i := 3) C hk inX2 rfl (by decide) rfl wf_X2_15 hu hd k
theorem gf_X2_18 {ρ : Type} {X : gX} {Q : ρ → State → Prop} {nL : Nat} {M : gM} {lv : List (Nat × Value)} {stk : List Value} {pc : Nat} {o : Option ρ} {cc : ByteArray} {ret : Option FieldType} {fr lo : Nat} (C : gC X cc RX2 nL ret fr lo) {t u : Nat} (hk : kd t = gKo 2) (hu : rf t 4 = u) (hd : decode cc pc = .ok (.getfield 18, 3)) (k : G X Q nL M lv (.ref (xad X u) :: stk) (pc + 3) o) : G X Q nL M lv (.ref (xad X t) :: stk) pc o :=
  g_getR (T := TX2) (i := 4) C hk inX2 rfl (by decide) rfl wf_X2_18 hu hd k
theorem gf_X2_21 {ρ : Type} {X : gX} {Q : ρ → State → Prop} {nL : Nat} {M : gM} {lv : List (Nat × Value)} {stk : List Value} {pc : Nat} {o : Option ρ} {cc : ByteArray} {ret : Option FieldType} {fr lo : Nat} (C : gC X cc RX2 nL ret fr lo) {t u : Nat} (hk : kd t = gKo 2) (hu : rf t 0 = u) (hd : decode cc pc = .ok (.getfield 21, 3)) (k : G X Q nL M lv (.ref (xad X u) :: stk) (pc + 3) o) : G X Q nL M lv (.ref (xad X t) :: stk) pc o :=
  g_getR (T := TX2) (i := 0) C hk inX2 rfl (by decide) rfl wf_X2_21 hu hd k
theorem gf_X2_25 {ρ : Type} {X : gX} {Q : ρ → State → Prop} {nL : Nat} {M : gM} {lv : List (Nat × Value)} {stk : List Value} {pc : Nat} {o : Option ρ} {cc : ByteArray} {ret : Option FieldType} {fr lo : Nat} (C : gC X cc RX2 nL ret fr lo) {t u : Nat} (hk : kd t = gKo 2) (hu : rf t 1 = u) (hd : decode cc pc = .ok (.getfield 25, 3)) (k : G X Q nL M lv (.ref (xad X u) :: stk) (pc + 3) o) : G X Q nL M lv (.ref (xad X t) :: stk) pc o :=
  g_getR (T := TX2) (i := 1) C hk inX2 rfl (by decide) rfl wf_X2_25 hu hd k
theorem gf_X2_49 {ρ : Type} {X : gX} {Q : ρ → State → Prop} {nL : Nat} {M : gM} {lv : List (Nat × Value)} {stk : List Value} {pc : Nat} {o : Option ρ} {cc : ByteArray} {ret : Option FieldType} {fr lo : Nat} (C : gC X cc RX2 nL ret fr lo) {t u : Nat} (hk : kd t = gKo 5) (hu : rf t 0 = u) (hd : decode cc pc = .ok (.getfield 49, 3)) (k : G X Q nL M lv (.ref (xad X u) :: stk) (pc + 3) o) : G X Q nL M lv (.ref (xad X t) :: stk) pc o :=
  g_getNR (T := TX5) (i := 0) C hk inX5 rfl (by decide) rfl wnf_X2_49 hu hd k
theorem gf_X2_78 {ρ : Type} {X : gX} {Q : ρ → State → Prop} {nL : Nat} {M : gM} {lv : List (Nat × Value)} {stk : List Value} {pc : Nat} {o : Option ρ} {cc : ByteArray} {ret : Option FieldType} {fr lo : Nat} (C : gC X cc RX2 nL ret fr lo) {t u : Nat} (hk : kd t = gKo 7) (hu : rf t 8 = u) (hd : decode cc pc = .ok (.getfield 78, 3)) (k : G X Q nL M lv (.ref (xad X u) :: stk) (pc + 3) o) : G X Q nL M lv (.ref (xad X t) :: stk) pc o :=
  g_getNR (T := TX7) (i := 8) C hk inX7 rfl (by decide) rfl wnf_X2_78 hu hd k
theorem gf_X2_81 {ρ : Type} {X : gX} {Q : ρ → State → Prop} {nL : Nat} {M : gM} {lv : List (Nat × Value)} {stk : List Value} {pc : Nat} {o : Option ρ} {cc : ByteArray} {ret : Option FieldType} {fr lo : Nat} (C : gC X cc RX2 nL ret fr lo) {t u : Nat} (hk : kd t = gKo 7) (hu : rf t 9 = u) (hd : decode cc pc = .ok (.getfield 81, 3)) (k : G X Q nL M lv (.ref (xad X u) :: stk) (pc + 3) o) : G X Q nL M lv (.ref (xad X t) :: stk) pc o :=
  g_getNR (T := TX7) (i := 9) C hk inX7 rfl (by decide) rfl wnf_X2_81 hu hd k
theorem gf_X1_36 {ρ : Type} {X : gX} {Q : ρ → State → Prop} {nL : Nat} {M : gM} {lv : List (Nat × Value)} {stk : List Value} {pc : Nat} {o : Option ρ} {cc : ByteArray} {ret : Option FieldType} {fr lo : Nat} (C : gC X cc RX1 nL ret fr lo) {t u : Nat} (hk : kd t = gKo 1) (hu : rf t 1 = u) (hd : decode cc pc = .ok (.getfield 36, 3)) (k : G X Q nL M lv (.ref (xad X u) :: stk) (pc + 3) o) : G X Q nL M lv (.ref (xad X t) :: stk) pc o :=
  g_getR (T := TX1) (i := 1) C hk inX1 rfl (by decide) rfl wf_X1_36 hu hd k
theorem gf_X1_64 {ρ : Type} {X : gX} {Q : ρ → State → Prop} {nL : Nat} {M : gM} {lv : List (Nat × Value)} {stk : List Value} {pc : Nat} {o : Option ρ} {cc : ByteArray} {ret : Option FieldType} {fr lo : Nat} (C : gC X cc RX1 nL ret fr lo) {t : Nat} (hk : kd t = gKo 2) (hd : decode cc pc = .ok (.getfield 64, 3)) (k : G X Q nL M lv (.int (M t 5) :: stk) (pc + 3) o) : G X Q nL M lv (.ref (xad X t) :: stk) pc o :=
  g_getNI (T := TX2) (i := 5) C hk inX2 rfl (by decide) rfl wnf_X1_64 hd k
theorem gf_X7_9 {ρ : Type} {X : gX} {Q : ρ → State → Prop} {nL : Nat} {M : gM} {lv : List (Nat × Value)} {stk : List Value} {pc : Nat} {o : Option ρ} {cc : ByteArray} {ret : Option FieldType} {fr lo : Nat} (C : gC X cc RX7 nL ret fr lo) {t u : Nat} (hk : kd t = gKo 7) (hu : rf t 0 = u) (hd : decode cc pc = .ok (.getfield 9, 3)) (k : G X Q nL M lv (.ref (xad X u) :: stk) (pc + 3) o) : G X Q nL M lv (.ref (xad X t) :: stk) pc o :=
  g_getR (T := TX7) (i := 0) C hk inX7 rfl (by decide) rfl wf_X7_9 hu hd k
theorem gf_X7_30 {ρ : Type} {X : gX} {Q : ρ → State → Prop} {nL : Nat} {M : gM} {lv : List (Nat × Value)} {stk : List Value} {pc : Nat} {o : Option ρ} {cc : ByteArray} {ret : Option FieldType} {fr lo : Nat} (C : gC X cc RX7 nL ret fr lo) {t u : Nat} (hk : kd t = gKo 7) (hu : rf t 6 = u) (hd : decode cc pc = .ok (.getfield 30, 3)) (k : G X Q nL M lv (.ref (xad X u) :: stk) (pc + 3) o) : G X Q nL M lv (.ref (xad X t) :: stk) pc o :=
  g_getR (T := TX7) (i := 6) C hk inX7 rfl (by decide) rfl wf_X7_30 hu hd k
theorem gp_X2_29 {ρ : Type} {X : gX} {Q : ρ → State → Prop} {nL : Nat} {M : gM} {lv : List (Nat × Value)} {stk : List Value} {pc : Nat} {o : Option ρ} {cc : ByteArray} {ret : Option FieldType} {fr lo : Nat} (C : gC X cc RX2 nL ret fr lo) {t : Nat} {x : Int32} (hk : kd t = gKo 2) (hd : decode cc pc = .ok (.putfield 29, 3)) (k : G X Q nL (gst M t 5 x) lv stk (pc + 3) o) : G X Q nL M lv (.int x :: .ref (xad X t) :: stk) pc o :=
  g_putI (T := TX2) (i := 5) C tyX2 tyX2_ok nmX2 hk inX2 rfl (by decide) rfl wf_X2_29 rfl (by decide +kernel) hd k
theorem gf_X2_33 {ρ : Type} {X : gX} {Q : ρ → State → Prop} {nL : Nat} {M : gM} {lv : List (Nat × Value)} {stk : List Value} {pc : Nat} {o : Option ρ} {cc : ByteArray} {ret : Option FieldType} {fr lo : Nat} (C : gC X cc RX2 nL ret fr lo) {t : Nat} (hk : kd t = gKo 7) (hd : decode cc pc = .ok (.getfield 33, 3)) (k : G X Q nL M lv (.int (M t 10) :: stk) (pc + 3) o) : G X Q nL M lv (.ref (xad X t) :: stk) pc o :=
  g_getNI (T := TX7) (i := 10) C hk inX7 rfl (by decide) rfl wnf_X2_33 hd k
theorem gf_X2_58 {ρ : Type} {X : gX} {Q : ρ → State → Prop} {nL : Nat} {M : gM} {lv : List (Nat × Value)} {stk : List Value} {pc : Nat} {o : Option ρ} {cc : ByteArray} {ret : Option FieldType} {fr lo : Nat} (C : gC X cc RX2 nL ret fr lo) {t u : Nat} (hk : kd t = gKo 5) (hu : rf t 1 = u) (hd : decode cc pc = .ok (.getfield 58, 3)) (k : G X Q nL M lv (.ref (xad X u) :: stk) (pc + 3) o) : G X Q nL M lv (.ref (xad X t) :: stk) pc o :=
  g_getNR (T := TX5) (i := 1) C hk inX5 rfl (by decide) rfl wnf_X2_58 hu hd k
theorem gf_X2_84 {ρ : Type} {X : gX} {Q : ρ → State → Prop} {nL : Nat} {M : gM} {lv : List (Nat × Value)} {stk : List Value} {pc : Nat} {o : Option ρ} {cc : ByteArray} {ret : Option FieldType} {fr lo : Nat} (C : gC X cc RX2 nL ret fr lo) {t u : Nat} (hk : kd t = gKo 7) (hu : rf t 7 = u) (hd : decode cc pc = .ok (.getfield 84, 3)) (k : G X Q nL M lv (.ref (xad X u) :: stk) (pc + 3) o) : G X Q nL M lv (.ref (xad X t) :: stk) pc o :=
  g_getNR (T := TX7) (i := 7) C hk inX7 rfl (by decide) rfl wnf_X2_84 hu hd k
theorem gf_X3_31 {ρ : Type} {X : gX} {Q : ρ → State → Prop} {nL : Nat} {M : gM} {lv : List (Nat × Value)} {stk : List Value} {pc : Nat} {o : Option ρ} {cc : ByteArray} {ret : Option FieldType} {fr lo : Nat} (C : gC X cc RX3 nL ret fr lo) {t : Nat} (hk : kd t = gKo 3) (hd : decode cc pc = .ok (.getfield 31, 3)) (k : G X Q nL M lv (.int (M t 4) :: stk) (pc + 3) o) : G X Q nL M lv (.ref (xad X t) :: stk) pc o :=
  g_getI (T := TX3) (i := 4) C hk inX3 rfl (by decide) rfl wf_X3_31 hd k
theorem gp_X3_31 {ρ : Type} {X : gX} {Q : ρ → State → Prop} {nL : Nat} {M : gM} {lv : List (Nat × Value)} {stk : List Value} {pc : Nat} {o : Option ρ} {cc : ByteArray} {ret : Option FieldType} {fr lo : Nat} (C : gC X cc RX3 nL ret fr lo) {t : Nat} {x : Int32} (hk : kd t = gKo 3) (hd : decode cc pc = .ok (.putfield 31, 3)) (k : G X Q nL (gst M t 4 x) lv stk (pc + 3) o) : G X Q nL M lv (.int x :: .ref (xad X t) :: stk) pc o :=
  g_putI (T := TX3) (i := 4) C tyX3 tyX3_ok nmX3 hk inX3 rfl (by decide) rfl wf_X3_31 rfl (by decide +kernel) hd k
theorem gp_X3_19 {ρ : Type} {X : gX} {Q : ρ → State → Prop} {nL : Nat} {M : gM} {lv : List (Nat × Value)} {stk : List Value} {pc : Nat} {o : Option ρ} {cc : ByteArray} {ret : Option FieldType} {fr lo : Nat} (C : gC X cc RX3 nL ret fr lo) {t : Nat} {x : Int32} (hk : kd t = gKo 3) (hd : decode cc pc = .ok (.putfield 19, 3)) (k : G X Q nL (gst M t 5 x) lv stk (pc + 3) o) : G X Q nL M lv (.int x :: .ref (xad X t) :: stk) pc o :=
  g_putI (T := TX3) (i := 5) C tyX3 tyX3_ok nmX3 hk inX3 rfl (by decide) rfl wf_X3_19 rfl (by decide +kernel) hd k
theorem gf_X6_15 {ρ : Type} {X : gX} {Q : ρ → State → Prop} {nL : Nat} {M : gM} {lv : List (Nat × Value)} {stk : List Value} {pc : Nat} {o : Option ρ} {cc : ByteArray} {ret : Option FieldType} {fr lo : Nat} (C : gC X cc RX6 nL ret fr lo) {t : Nat} (hk : kd t = gKo 6) (hd : decode cc pc = .ok (.getfield 15, 3)) (k : G X Q nL M lv (.int (M t 1) :: stk) (pc + 3) o) : G X Q nL M lv (.ref (xad X t) :: stk) pc o :=
  g_getI (T := TX6) (i := 1) C hk inX6 rfl (by decide) rfl wf_X6_15 hd k
theorem gf_X6_9 {ρ : Type} {X : gX} {Q : ρ → State → Prop} {nL : Nat} {M : gM} {lv : List (Nat × Value)} {stk : List Value} {pc : Nat} {o : Option ρ} {cc : ByteArray} {ret : Option FieldType} {fr lo : Nat} (C : gC X cc RX6 nL ret fr lo) {t u : Nat} (hk : kd t = gKo 6) (hu : rf t 0 = u) (hd : decode cc pc = .ok (.getfield 9, 3)) (k : G X Q nL M lv (.ref (xad X u) :: stk) (pc + 3) o) : G X Q nL M lv (.ref (xad X t) :: stk) pc o :=
  g_getR (T := TX6) (i := 0) C hk inX6 rfl (by decide) rfl wf_X6_9 hu hd k
theorem gf_X3_28 {ρ : Type} {X : gX} {Q : ρ → State → Prop} {nL : Nat} {M : gM} {lv : List (Nat × Value)} {stk : List Value} {pc : Nat} {o : Option ρ} {cc : ByteArray} {ret : Option FieldType} {fr lo : Nat} (C : gC X cc RX3 nL ret fr lo) {t : Nat} (hk : kd t = gKo 3) (hd : decode cc pc = .ok (.getfield 28, 3)) (k : G X Q nL M lv (.int (M t 2) :: stk) (pc + 3) o) : G X Q nL M lv (.ref (xad X t) :: stk) pc o :=
  g_getI (T := TX3) (i := 2) C hk inX3 rfl (by decide) rfl wf_X3_28 hd k
theorem gf_X3_9 {ρ : Type} {X : gX} {Q : ρ → State → Prop} {nL : Nat} {M : gM} {lv : List (Nat × Value)} {stk : List Value} {pc : Nat} {o : Option ρ} {cc : ByteArray} {ret : Option FieldType} {fr lo : Nat} (C : gC X cc RX3 nL ret fr lo) {t u : Nat} (hk : kd t = gKo 3) (hu : rf t 0 = u) (hd : decode cc pc = .ok (.getfield 9, 3)) (k : G X Q nL M lv (.ref (xad X u) :: stk) (pc + 3) o) : G X Q nL M lv (.ref (xad X t) :: stk) pc o :=
  g_getR (T := TX3) (i := 0) C hk inX3 rfl (by decide) rfl wf_X3_9 hu hd k
theorem gf_X3_37 {ρ : Type} {X : gX} {Q : ρ → State → Prop} {nL : Nat} {M : gM} {lv : List (Nat × Value)} {stk : List Value} {pc : Nat} {o : Option ρ} {cc : ByteArray} {ret : Option FieldType} {fr lo : Nat} (C : gC X cc RX3 nL ret fr lo) {t : Nat} (hk : kd t = gKo 6) (hd : decode cc pc = .ok (.getfield 37, 3)) (k : G X Q nL M lv (.int (M t 1) :: stk) (pc + 3) o) : G X Q nL M lv (.ref (xad X t) :: stk) pc o :=
  g_getNI (T := TX6) (i := 1) C hk inX6 rfl (by decide) rfl wnf_X3_37 hd k
theorem gp_X3_28 {ρ : Type} {X : gX} {Q : ρ → State → Prop} {nL : Nat} {M : gM} {lv : List (Nat × Value)} {stk : List Value} {pc : Nat} {o : Option ρ} {cc : ByteArray} {ret : Option FieldType} {fr lo : Nat} (C : gC X cc RX3 nL ret fr lo) {t : Nat} {x : Int32} (hk : kd t = gKo 3) (hd : decode cc pc = .ok (.putfield 28, 3)) (k : G X Q nL (gst M t 2 x) lv stk (pc + 3) o) : G X Q nL M lv (.int x :: .ref (xad X t) :: stk) pc o :=
  g_putI (T := TX3) (i := 2) C tyX3 tyX3_ok nmX3 hk inX3 rfl (by decide) rfl wf_X3_28 rfl (by decide +kernel) hd k
theorem gp_X3_47 {ρ : Type} {X : gX} {Q : ρ → State → Prop} {nL : Nat} {M : gM} {lv : List (Nat × Value)} {stk : List Value} {pc : Nat} {o : Option ρ} {cc : ByteArray} {ret : Option FieldType} {fr lo : Nat} (C : gC X cc RX3 nL ret fr lo) {t : Nat} {x : Int32} (hk : kd t = gKo 3) (hd : decode cc pc = .ok (.putfield 47, 3)) (k : G X Q nL (gst M t 3 x) lv stk (pc + 3) o) : G X Q nL M lv (.int x :: .ref (xad X t) :: stk) pc o :=
  g_putI (T := TX3) (i := 3) C tyX3 tyX3_ok nmX3 hk inX3 rfl (by decide) rfl wf_X3_47 rfl (by decide +kernel) hd k
theorem gf_X3_47 {ρ : Type} {X : gX} {Q : ρ → State → Prop} {nL : Nat} {M : gM} {lv : List (Nat × Value)} {stk : List Value} {pc : Nat} {o : Option ρ} {cc : ByteArray} {ret : Option FieldType} {fr lo : Nat} (C : gC X cc RX3 nL ret fr lo) {t : Nat} (hk : kd t = gKo 3) (hd : decode cc pc = .ok (.getfield 47, 3)) (k : G X Q nL M lv (.int (M t 3) :: stk) (pc + 3) o) : G X Q nL M lv (.ref (xad X t) :: stk) pc o :=
  g_getI (T := TX3) (i := 3) C hk inX3 rfl (by decide) rfl wf_X3_47 hd k
theorem gf_X7_53 {ρ : Type} {X : gX} {Q : ρ → State → Prop} {nL : Nat} {M : gM} {lv : List (Nat × Value)} {stk : List Value} {pc : Nat} {o : Option ρ} {cc : ByteArray} {ret : Option FieldType} {fr lo : Nat} (C : gC X cc RX7 nL ret fr lo) {t : Nat} (hk : kd t = gKo 7) (hd : decode cc pc = .ok (.getfield 53, 3)) (k : G X Q nL M lv (.int (M t 11) :: stk) (pc + 3) o) : G X Q nL M lv (.ref (xad X t) :: stk) pc o :=
  g_getI (T := TX7) (i := 11) C hk inX7 rfl (by decide) rfl wf_X7_53 hd k
theorem gp_X7_53 {ρ : Type} {X : gX} {Q : ρ → State → Prop} {nL : Nat} {M : gM} {lv : List (Nat × Value)} {stk : List Value} {pc : Nat} {o : Option ρ} {cc : ByteArray} {ret : Option FieldType} {fr lo : Nat} (C : gC X cc RX7 nL ret fr lo) {t : Nat} {x : Int32} (hk : kd t = gKo 7) (hd : decode cc pc = .ok (.putfield 53, 3)) (k : G X Q nL (gst M t 11 x) lv stk (pc + 3) o) : G X Q nL M lv (.int x :: .ref (xad X t) :: stk) pc o :=
  g_putI (T := TX7) (i := 11) C tyX7 tyX7_ok nmX7 hk inX7 rfl (by decide) rfl wf_X7_53 rfl (by decide +kernel) hd k
theorem gf_X3_15 {ρ : Type} {X : gX} {Q : ρ → State → Prop} {nL : Nat} {M : gM} {lv : List (Nat × Value)} {stk : List Value} {pc : Nat} {o : Option ρ} {cc : ByteArray} {ret : Option FieldType} {fr lo : Nat} (C : gC X cc RX3 nL ret fr lo) {t u : Nat} (hk : kd t = gKo 3) (hu : rf t 1 = u) (hd : decode cc pc = .ok (.getfield 15, 3)) (k : G X Q nL M lv (.ref (xad X u) :: stk) (pc + 3) o) : G X Q nL M lv (.ref (xad X t) :: stk) pc o :=
  g_getR (T := TX3) (i := 1) C hk inX3 rfl (by decide) rfl wf_X3_15 hu hd k
theorem gf_X3_92 {ρ : Type} {X : gX} {Q : ρ → State → Prop} {nL : Nat} {M : gM} {lv : List (Nat × Value)} {stk : List Value} {pc : Nat} {o : Option ρ} {cc : ByteArray} {ret : Option FieldType} {fr lo : Nat} (C : gC X cc RX3 nL ret fr lo) {t : Nat} (hk : kd t = gKo 7) (hd : decode cc pc = .ok (.getfield 92, 3)) (k : G X Q nL M lv (.int (M t 11) :: stk) (pc + 3) o) : G X Q nL M lv (.ref (xad X t) :: stk) pc o :=
  g_getNI (T := TX7) (i := 11) C hk inX7 rfl (by decide) rfl wnf_X3_92 hd k
theorem gf_X3_71 {ρ : Type} {X : gX} {Q : ρ → State → Prop} {nL : Nat} {M : gM} {lv : List (Nat × Value)} {stk : List Value} {pc : Nat} {o : Option ρ} {cc : ByteArray} {ret : Option FieldType} {fr lo : Nat} (C : gC X cc RX3 nL ret fr lo) {t : Nat} (hk : kd t = gKo 7) (hd : decode cc pc = .ok (.getfield 71, 3)) (k : G X Q nL M lv (.int (M t 10) :: stk) (pc + 3) o) : G X Q nL M lv (.ref (xad X t) :: stk) pc o :=
  g_getNI (T := TX7) (i := 10) C hk inX7 rfl (by decide) rfl wnf_X3_71 hd k
theorem gf_X7_15 {ρ : Type} {X : gX} {Q : ρ → State → Prop} {nL : Nat} {M : gM} {lv : List (Nat × Value)} {stk : List Value} {pc : Nat} {o : Option ρ} {cc : ByteArray} {ret : Option FieldType} {fr lo : Nat} (C : gC X cc RX7 nL ret fr lo) {t u : Nat} (hk : kd t = gKo 7) (hu : rf t 1 = u) (hd : decode cc pc = .ok (.getfield 15, 3)) (k : G X Q nL M lv (.ref (xad X u) :: stk) (pc + 3) o) : G X Q nL M lv (.ref (xad X t) :: stk) pc o :=
  g_getR (T := TX7) (i := 1) C hk inX7 rfl (by decide) rfl wf_X7_15 hu hd k
theorem gf_X7_18 {ρ : Type} {X : gX} {Q : ρ → State → Prop} {nL : Nat} {M : gM} {lv : List (Nat × Value)} {stk : List Value} {pc : Nat} {o : Option ρ} {cc : ByteArray} {ret : Option FieldType} {fr lo : Nat} (C : gC X cc RX7 nL ret fr lo) {t u : Nat} (hk : kd t = gKo 7) (hu : rf t 2 = u) (hd : decode cc pc = .ok (.getfield 18, 3)) (k : G X Q nL M lv (.ref (xad X u) :: stk) (pc + 3) o) : G X Q nL M lv (.ref (xad X t) :: stk) pc o :=
  g_getR (T := TX7) (i := 2) C hk inX7 rfl (by decide) rfl wf_X7_18 hu hd k
theorem gf_X7_21 {ρ : Type} {X : gX} {Q : ρ → State → Prop} {nL : Nat} {M : gM} {lv : List (Nat × Value)} {stk : List Value} {pc : Nat} {o : Option ρ} {cc : ByteArray} {ret : Option FieldType} {fr lo : Nat} (C : gC X cc RX7 nL ret fr lo) {t u : Nat} (hk : kd t = gKo 7) (hu : rf t 3 = u) (hd : decode cc pc = .ok (.getfield 21, 3)) (k : G X Q nL M lv (.ref (xad X u) :: stk) (pc + 3) o) : G X Q nL M lv (.ref (xad X t) :: stk) pc o :=
  g_getR (T := TX7) (i := 3) C hk inX7 rfl (by decide) rfl wf_X7_21 hu hd k
theorem gp_X7_42 {ρ : Type} {X : gX} {Q : ρ → State → Prop} {nL : Nat} {M : gM} {lv : List (Nat × Value)} {stk : List Value} {pc : Nat} {o : Option ρ} {cc : ByteArray} {ret : Option FieldType} {fr lo : Nat} (C : gC X cc RX7 nL ret fr lo) {t : Nat} {x : Int32} (hk : kd t = gKo 7) (hd : decode cc pc = .ok (.putfield 42, 3)) (k : G X Q nL (gst M t 10 x) lv stk (pc + 3) o) : G X Q nL M lv (.int x :: .ref (xad X t) :: stk) pc o :=
  g_putI (T := TX7) (i := 10) C tyX7 tyX7_ok nmX7 hk inX7 rfl (by decide) rfl wf_X7_42 rfl (by decide +kernel) hd k
theorem gf_X7_33 {ρ : Type} {X : gX} {Q : ρ → State → Prop} {nL : Nat} {M : gM} {lv : List (Nat × Value)} {stk : List Value} {pc : Nat} {o : Option ρ} {cc : ByteArray} {ret : Option FieldType} {fr lo : Nat} (C : gC X cc RX7 nL ret fr lo) {t u : Nat} (hk : kd t = gKo 7) (hu : rf t 7 = u) (hd : decode cc pc = .ok (.getfield 33, 3)) (k : G X Q nL M lv (.ref (xad X u) :: stk) (pc + 3) o) : G X Q nL M lv (.ref (xad X t) :: stk) pc o :=
  g_getR (T := TX7) (i := 7) C hk inX7 rfl (by decide) rfl wf_X7_33 hu hd k
theorem gf_X7_36 {ρ : Type} {X : gX} {Q : ρ → State → Prop} {nL : Nat} {M : gM} {lv : List (Nat × Value)} {stk : List Value} {pc : Nat} {o : Option ρ} {cc : ByteArray} {ret : Option FieldType} {fr lo : Nat} (C : gC X cc RX7 nL ret fr lo) {t u : Nat} (hk : kd t = gKo 7) (hu : rf t 8 = u) (hd : decode cc pc = .ok (.getfield 36, 3)) (k : G X Q nL M lv (.ref (xad X u) :: stk) (pc + 3) o) : G X Q nL M lv (.ref (xad X t) :: stk) pc o :=
  g_getR (T := TX7) (i := 8) C hk inX7 rfl (by decide) rfl wf_X7_36 hu hd k
theorem gf_X7_39 {ρ : Type} {X : gX} {Q : ρ → State → Prop} {nL : Nat} {M : gM} {lv : List (Nat × Value)} {stk : List Value} {pc : Nat} {o : Option ρ} {cc : ByteArray} {ret : Option FieldType} {fr lo : Nat} (C : gC X cc RX7 nL ret fr lo) {t u : Nat} (hk : kd t = gKo 7) (hu : rf t 9 = u) (hd : decode cc pc = .ok (.getfield 39, 3)) (k : G X Q nL M lv (.ref (xad X u) :: stk) (pc + 3) o) : G X Q nL M lv (.ref (xad X t) :: stk) pc o :=
  g_getR (T := TX7) (i := 9) C hk inX7 rfl (by decide) rfl wf_X7_39 hu hd k
theorem gp_X7_50 {ρ : Type} {X : gX} {Q : ρ → State → Prop} {nL : Nat} {M : gM} {lv : List (Nat × Value)} {stk : List Value} {pc : Nat} {o : Option ρ} {cc : ByteArray} {ret : Option FieldType} {fr lo : Nat} (C : gC X cc RX7 nL ret fr lo) {t : Nat} {x : Int32} (hk : kd t = gKo 7) (hd : decode cc pc = .ok (.putfield 50, 3)) (k : G X Q nL (gst M t 12 x) lv stk (pc + 3) o) : G X Q nL M lv (.int x :: .ref (xad X t) :: stk) pc o :=
  g_putI (T := TX7) (i := 12) C tyX7 tyX7_ok nmX7 hk inX7 rfl (by decide) rfl wf_X7_50 rfl (by decide +kernel) hd k
theorem gf_X3_102 {ρ : Type} {X : gX} {Q : ρ → State → Prop} {nL : Nat} {M : gM} {lv : List (Nat × Value)} {stk : List Value} {pc : Nat} {o : Option ρ} {cc : ByteArray} {ret : Option FieldType} {fr lo : Nat} (C : gC X cc RX3 nL ret fr lo) {t : Nat} (hk : kd t = gKo 7) (hd : decode cc pc = .ok (.getfield 102, 3)) (k : G X Q nL M lv (.int (M t 12) :: stk) (pc + 3) o) : G X Q nL M lv (.ref (xad X t) :: stk) pc o :=
  g_getNI (T := TX7) (i := 12) C hk inX7 rfl (by decide) rfl wnf_X3_102 hd k
theorem gf_X4_26 {ρ : Type} {X : gX} {Q : ρ → State → Prop} {nL : Nat} {M : gM} {lv : List (Nat × Value)} {stk : List Value} {pc : Nat} {o : Option ρ} {cc : ByteArray} {ret : Option FieldType} {fr lo : Nat} (C : gC X cc RX4 nL ret fr lo) {t : Nat} (hk : kd t = gKo 4) (hd : decode cc pc = .ok (.getfield 26, 3)) (k : G X Q nL M lv (.int (M t 4) :: stk) (pc + 3) o) : G X Q nL M lv (.ref (xad X t) :: stk) pc o :=
  g_getI (T := TX4) (i := 4) C hk inX4 rfl (by decide) rfl wf_X4_26 hd k
theorem gf_X4_9 {ρ : Type} {X : gX} {Q : ρ → State → Prop} {nL : Nat} {M : gM} {lv : List (Nat × Value)} {stk : List Value} {pc : Nat} {o : Option ρ} {cc : ByteArray} {ret : Option FieldType} {fr lo : Nat} (C : gC X cc RX4 nL ret fr lo) {t u : Nat} (hk : kd t = gKo 4) (hu : rf t 2 = u) (hd : decode cc pc = .ok (.getfield 9, 3)) (k : G X Q nL M lv (.ref (xad X u) :: stk) (pc + 3) o) : G X Q nL M lv (.ref (xad X t) :: stk) pc o :=
  g_getR (T := TX4) (i := 2) C hk inX4 rfl (by decide) rfl wf_X4_9 hu hd k
theorem gf_X4_15 {ρ : Type} {X : gX} {Q : ρ → State → Prop} {nL : Nat} {M : gM} {lv : List (Nat × Value)} {stk : List Value} {pc : Nat} {o : Option ρ} {cc : ByteArray} {ret : Option FieldType} {fr lo : Nat} (C : gC X cc RX4 nL ret fr lo) {t u : Nat} (hk : kd t = gKo 4) (hu : rf t 3 = u) (hd : decode cc pc = .ok (.getfield 15, 3)) (k : G X Q nL M lv (.ref (xad X u) :: stk) (pc + 3) o) : G X Q nL M lv (.ref (xad X t) :: stk) pc o :=
  g_getR (T := TX4) (i := 3) C hk inX4 rfl (by decide) rfl wf_X4_15 hu hd k
theorem gp_X4_26 {ρ : Type} {X : gX} {Q : ρ → State → Prop} {nL : Nat} {M : gM} {lv : List (Nat × Value)} {stk : List Value} {pc : Nat} {o : Option ρ} {cc : ByteArray} {ret : Option FieldType} {fr lo : Nat} (C : gC X cc RX4 nL ret fr lo) {t : Nat} {x : Int32} (hk : kd t = gKo 4) (hd : decode cc pc = .ok (.putfield 26, 3)) (k : G X Q nL (gst M t 4 x) lv stk (pc + 3) o) : G X Q nL M lv (.int x :: .ref (xad X t) :: stk) pc o :=
  g_putI (T := TX4) (i := 4) C tyX4 tyX4_ok nmX4 hk inX4 rfl (by decide) rfl wf_X4_26 rfl (by decide +kernel) hd k
theorem gf_X4_22 {ρ : Type} {X : gX} {Q : ρ → State → Prop} {nL : Nat} {M : gM} {lv : List (Nat × Value)} {stk : List Value} {pc : Nat} {o : Option ρ} {cc : ByteArray} {ret : Option FieldType} {fr lo : Nat} (C : gC X cc RX4 nL ret fr lo) {t u : Nat} (hk : kd t = gKo 4) (hu : rf t 1 = u) (hd : decode cc pc = .ok (.getfield 22, 3)) (k : G X Q nL M lv (.ref (xad X u) :: stk) (pc + 3) o) : G X Q nL M lv (.ref (xad X t) :: stk) pc o :=
  g_getR (T := TX4) (i := 1) C hk inX4 rfl (by decide) rfl wf_X4_22 hu hd k
theorem gf_X4_18 {ρ : Type} {X : gX} {Q : ρ → State → Prop} {nL : Nat} {M : gM} {lv : List (Nat × Value)} {stk : List Value} {pc : Nat} {o : Option ρ} {cc : ByteArray} {ret : Option FieldType} {fr lo : Nat} (C : gC X cc RX4 nL ret fr lo) {t u : Nat} (hk : kd t = gKo 4) (hu : rf t 0 = u) (hd : decode cc pc = .ok (.getfield 18, 3)) (k : G X Q nL M lv (.ref (xad X u) :: stk) (pc + 3) o) : G X Q nL M lv (.ref (xad X t) :: stk) pc o :=
  g_getR (T := TX4) (i := 0) C hk inX4 rfl (by decide) rfl wf_X4_18 hu hd k
theorem gf_X4_44 {ρ : Type} {X : gX} {Q : ρ → State → Prop} {nL : Nat} {M : gM} {lv : List (Nat × Value)} {stk : List Value} {pc : Nat} {o : Option ρ} {cc : ByteArray} {ret : Option FieldType} {fr lo : Nat} (C : gC X cc RX4 nL ret fr lo) {t : Nat} (hk : kd t = gKo 2) (hd : decode cc pc = .ok (.getfield 44, 3)) (k : G X Q nL M lv (.int (M t 5) :: stk) (pc + 3) o) : G X Q nL M lv (.ref (xad X t) :: stk) pc o :=
  g_getNI (T := TX2) (i := 5) C hk inX2 rfl (by decide) rfl wnf_X4_44 hd k
theorem gf_X5_21 {ρ : Type} {X : gX} {Q : ρ → State → Prop} {nL : Nat} {M : gM} {lv : List (Nat × Value)} {stk : List Value} {pc : Nat} {o : Option ρ} {cc : ByteArray} {ret : Option FieldType} {fr lo : Nat} (C : gC X cc RX5 nL ret fr lo) {t u : Nat} (hk : kd t = gKo 7) (hu : rf t 2 = u) (hd : decode cc pc = .ok (.getfield 21, 3)) (k : G X Q nL M lv (.ref (xad X u) :: stk) (pc + 3) o) : G X Q nL M lv (.ref (xad X t) :: stk) pc o :=
  g_getNR (T := TX7) (i := 2) C hk inX7 rfl (by decide) rfl wnf_X5_21 hu hd k
theorem gf_X5_9 {ρ : Type} {X : gX} {Q : ρ → State → Prop} {nL : Nat} {M : gM} {lv : List (Nat × Value)} {stk : List Value} {pc : Nat} {o : Option ρ} {cc : ByteArray} {ret : Option FieldType} {fr lo : Nat} (C : gC X cc RX5 nL ret fr lo) {t u : Nat} (hk : kd t = gKo 5) (hu : rf t 0 = u) (hd : decode cc pc = .ok (.getfield 9, 3)) (k : G X Q nL M lv (.ref (xad X u) :: stk) (pc + 3) o) : G X Q nL M lv (.ref (xad X t) :: stk) pc o :=
  g_getR (T := TX5) (i := 0) C hk inX5 rfl (by decide) rfl wf_X5_9 hu hd k
theorem gf_X5_30 {ρ : Type} {X : gX} {Q : ρ → State → Prop} {nL : Nat} {M : gM} {lv : List (Nat × Value)} {stk : List Value} {pc : Nat} {o : Option ρ} {cc : ByteArray} {ret : Option FieldType} {fr lo : Nat} (C : gC X cc RX5 nL ret fr lo) {t u : Nat} (hk : kd t = gKo 7) (hu : rf t 3 = u) (hd : decode cc pc = .ok (.getfield 30, 3)) (k : G X Q nL M lv (.ref (xad X u) :: stk) (pc + 3) o) : G X Q nL M lv (.ref (xad X t) :: stk) pc o :=
  g_getNR (T := TX7) (i := 3) C hk inX7 rfl (by decide) rfl wnf_X5_30 hu hd k
theorem gf_X5_15 {ρ : Type} {X : gX} {Q : ρ → State → Prop} {nL : Nat} {M : gM} {lv : List (Nat × Value)} {stk : List Value} {pc : Nat} {o : Option ρ} {cc : ByteArray} {ret : Option FieldType} {fr lo : Nat} (C : gC X cc RX5 nL ret fr lo) {t u : Nat} (hk : kd t = gKo 5) (hu : rf t 1 = u) (hd : decode cc pc = .ok (.getfield 15, 3)) (k : G X Q nL M lv (.ref (xad X u) :: stk) (pc + 3) o) : G X Q nL M lv (.ref (xad X t) :: stk) pc o :=
  g_getR (T := TX5) (i := 1) C hk inX5 rfl (by decide) rfl wf_X5_15 hu hd k
theorem gp_X5_33 {ρ : Type} {X : gX} {Q : ρ → State → Prop} {nL : Nat} {M : gM} {lv : List (Nat × Value)} {stk : List Value} {pc : Nat} {o : Option ρ} {cc : ByteArray} {ret : Option FieldType} {fr lo : Nat} (C : gC X cc RX5 nL ret fr lo) {t : Nat} {x : Int32} (hk : kd t = gKo 5) (hd : decode cc pc = .ok (.putfield 33, 3)) (k : G X Q nL (gst M t 3 x) lv stk (pc + 3) o) : G X Q nL M lv (.int x :: .ref (xad X t) :: stk) pc o :=
  g_putI (T := TX5) (i := 3) C tyX5 tyX5_ok nmX5 hk inX5 rfl (by decide) rfl wf_X5_33 rfl (by decide +kernel) hd k
theorem gp_X5_37 {ρ : Type} {X : gX} {Q : ρ → State → Prop} {nL : Nat} {M : gM} {lv : List (Nat × Value)} {stk : List Value} {pc : Nat} {o : Option ρ} {cc : ByteArray} {ret : Option FieldType} {fr lo : Nat} (C : gC X cc RX5 nL ret fr lo) {t : Nat} {x : Int32} (hk : kd t = gKo 5) (hd : decode cc pc = .ok (.putfield 37, 3)) (k : G X Q nL (gst M t 4 x) lv stk (pc + 3) o) : G X Q nL M lv (.int x :: .ref (xad X t) :: stk) pc o :=
  g_putI (T := TX5) (i := 4) C tyX5 tyX5_ok nmX5 hk inX5 rfl (by decide) rfl wf_X5_37 rfl (by decide +kernel) hd k
theorem gf_X5_18 {ρ : Type} {X : gX} {Q : ρ → State → Prop} {nL : Nat} {M : gM} {lv : List (Nat × Value)} {stk : List Value} {pc : Nat} {o : Option ρ} {cc : ByteArray} {ret : Option FieldType} {fr lo : Nat} (C : gC X cc RX5 nL ret fr lo) {t u : Nat} (hk : kd t = gKo 5) (hu : rf t 2 = u) (hd : decode cc pc = .ok (.getfield 18, 3)) (k : G X Q nL M lv (.ref (xad X u) :: stk) (pc + 3) o) : G X Q nL M lv (.ref (xad X t) :: stk) pc o :=
  g_getR (T := TX5) (i := 2) C hk inX5 rfl (by decide) rfl wf_X5_18 hu hd k
theorem gf_X5_33 {ρ : Type} {X : gX} {Q : ρ → State → Prop} {nL : Nat} {M : gM} {lv : List (Nat × Value)} {stk : List Value} {pc : Nat} {o : Option ρ} {cc : ByteArray} {ret : Option FieldType} {fr lo : Nat} (C : gC X cc RX5 nL ret fr lo) {t : Nat} (hk : kd t = gKo 5) (hd : decode cc pc = .ok (.getfield 33, 3)) (k : G X Q nL M lv (.int (M t 3) :: stk) (pc + 3) o) : G X Q nL M lv (.ref (xad X t) :: stk) pc o :=
  g_getI (T := TX5) (i := 3) C hk inX5 rfl (by decide) rfl wf_X5_33 hd k
theorem gf_X5_37 {ρ : Type} {X : gX} {Q : ρ → State → Prop} {nL : Nat} {M : gM} {lv : List (Nat × Value)} {stk : List Value} {pc : Nat} {o : Option ρ} {cc : ByteArray} {ret : Option FieldType} {fr lo : Nat} (C : gC X cc RX5 nL ret fr lo) {t : Nat} (hk : kd t = gKo 5) (hd : decode cc pc = .ok (.getfield 37, 3)) (k : G X Q nL M lv (.int (M t 4) :: stk) (pc + 3) o) : G X Q nL M lv (.ref (xad X t) :: stk) pc o :=
  g_getI (T := TX5) (i := 4) C hk inX5 rfl (by decide) rfl wf_X5_37 hd k
theorem gf_X5_40 {ρ : Type} {X : gX} {Q : ρ → State → Prop} {nL : Nat} {M : gM} {lv : List (Nat × Value)} {stk : List Value} {pc : Nat} {o : Option ρ} {cc : ByteArray} {ret : Option FieldType} {fr lo : Nat} (C : gC X cc RX5 nL ret fr lo) {t : Nat} (hk : kd t = gKo 5) (hd : decode cc pc = .ok (.getfield 40, 3)) (k : G X Q nL M lv (.int (M t 5) :: stk) (pc + 3) o) : G X Q nL M lv (.ref (xad X t) :: stk) pc o :=
  g_getI (T := TX5) (i := 5) C hk inX5 rfl (by decide) rfl wf_X5_40 hd k
theorem gp_X5_40 {ρ : Type} {X : gX} {Q : ρ → State → Prop} {nL : Nat} {M : gM} {lv : List (Nat × Value)} {stk : List Value} {pc : Nat} {o : Option ρ} {cc : ByteArray} {ret : Option FieldType} {fr lo : Nat} (C : gC X cc RX5 nL ret fr lo) {t : Nat} {x : Int32} (hk : kd t = gKo 5) (hd : decode cc pc = .ok (.putfield 40, 3)) (k : G X Q nL (gst M t 5 x) lv stk (pc + 3) o) : G X Q nL M lv (.int x :: .ref (xad X t) :: stk) pc o :=
  g_putI (T := TX5) (i := 5) C tyX5 tyX5_ok nmX5 hk inX5 rfl (by decide) rfl wf_X5_40 rfl (by decide +kernel) hd k
theorem gf_X5_43 {ρ : Type} {X : gX} {Q : ρ → State → Prop} {nL : Nat} {M : gM} {lv : List (Nat × Value)} {stk : List Value} {pc : Nat} {o : Option ρ} {cc : ByteArray} {ret : Option FieldType} {fr lo : Nat} (C : gC X cc RX5 nL ret fr lo) {t : Nat} (hk : kd t = gKo 5) (hd : decode cc pc = .ok (.getfield 43, 3)) (k : G X Q nL M lv (.int (M t 6) :: stk) (pc + 3) o) : G X Q nL M lv (.ref (xad X t) :: stk) pc o :=
  g_getI (T := TX5) (i := 6) C hk inX5 rfl (by decide) rfl wf_X5_43 hd k
theorem gp_X5_43 {ρ : Type} {X : gX} {Q : ρ → State → Prop} {nL : Nat} {M : gM} {lv : List (Nat × Value)} {stk : List Value} {pc : Nat} {o : Option ρ} {cc : ByteArray} {ret : Option FieldType} {fr lo : Nat} (C : gC X cc RX5 nL ret fr lo) {t : Nat} {x : Int32} (hk : kd t = gKo 5) (hd : decode cc pc = .ok (.putfield 43, 3)) (k : G X Q nL (gst M t 6 x) lv stk (pc + 3) o) : G X Q nL M lv (.int x :: .ref (xad X t) :: stk) pc o :=
  g_putI (T := TX5) (i := 6) C tyX5 tyX5_ok nmX5 hk inX5 rfl (by decide) rfl wf_X5_43 rfl (by decide +kernel) hd k
theorem gp_X6_15 {ρ : Type} {X : gX} {Q : ρ → State → Prop} {nL : Nat} {M : gM} {lv : List (Nat × Value)} {stk : List Value} {pc : Nat} {o : Option ρ} {cc : ByteArray} {ret : Option FieldType} {fr lo : Nat} (C : gC X cc RX6 nL ret fr lo) {t : Nat} {x : Int32} (hk : kd t = gKo 6) (hd : decode cc pc = .ok (.putfield 15, 3)) (k : G X Q nL (gst M t 1 x) lv stk (pc + 3) o) : G X Q nL M lv (.int x :: .ref (xad X t) :: stk) pc o :=
  g_putI (T := TX6) (i := 1) C tyX6 tyX6_ok nmX6 hk inX6 rfl (by decide) rfl wf_X6_15 rfl (by decide +kernel) hd k
theorem gf_X8_19 {ρ : Type} {X : gX} {Q : ρ → State → Prop} {nL : Nat} {M : gM} {lv : List (Nat × Value)} {stk : List Value} {pc : Nat} {o : Option ρ} {cc : ByteArray} {ret : Option FieldType} {fr lo : Nat} (C : gC X cc RX8 nL ret fr lo) {t u : Nat} (hk : kd t = gKo 8) (hu : rf t 2 = u) (hd : decode cc pc = .ok (.getfield 19, 3)) (k : G X Q nL M lv (.ref (xad X u) :: stk) (pc + 3) o) : G X Q nL M lv (.ref (xad X t) :: stk) pc o :=
  g_getR (T := TX8) (i := 2) C hk inX8 rfl (by decide) rfl wf_X8_19 hu hd k
theorem gf_X8_57 {ρ : Type} {X : gX} {Q : ρ → State → Prop} {nL : Nat} {M : gM} {lv : List (Nat × Value)} {stk : List Value} {pc : Nat} {o : Option ρ} {cc : ByteArray} {ret : Option FieldType} {fr lo : Nat} (C : gC X cc RX8 nL ret fr lo) {t u : Nat} (hk : kd t = gKo 8) (hu : rf t 8 = u) (hd : decode cc pc = .ok (.getfield 57, 3)) (k : G X Q nL M lv (.ref (xad X u) :: stk) (pc + 3) o) : G X Q nL M lv (.ref (xad X t) :: stk) pc o :=
  g_getR (T := TX8) (i := 8) C hk inX8 rfl (by decide) rfl wf_X8_57 hu hd k
theorem gf_X8_66 {ρ : Type} {X : gX} {Q : ρ → State → Prop} {nL : Nat} {M : gM} {lv : List (Nat × Value)} {stk : List Value} {pc : Nat} {o : Option ρ} {cc : ByteArray} {ret : Option FieldType} {fr lo : Nat} (C : gC X cc RX8 nL ret fr lo) {t u : Nat} (hk : kd t = gKo 8) (hu : rf t 9 = u) (hd : decode cc pc = .ok (.getfield 66, 3)) (k : G X Q nL M lv (.ref (xad X u) :: stk) (pc + 3) o) : G X Q nL M lv (.ref (xad X t) :: stk) pc o :=
  g_getR (T := TX8) (i := 9) C hk inX8 rfl (by decide) rfl wf_X8_66 hu hd k
theorem gf_X8_38 {ρ : Type} {X : gX} {Q : ρ → State → Prop} {nL : Nat} {M : gM} {lv : List (Nat × Value)} {stk : List Value} {pc : Nat} {o : Option ρ} {cc : ByteArray} {ret : Option FieldType} {fr lo : Nat} (C : gC X cc RX8 nL ret fr lo) {t u : Nat} (hk : kd t = gKo 8) (hu : rf t 4 = u) (hd : decode cc pc = .ok (.getfield 38, 3)) (k : G X Q nL M lv (.ref (xad X u) :: stk) (pc + 3) o) : G X Q nL M lv (.ref (xad X t) :: stk) pc o :=
  g_getR (T := TX8) (i := 4) C hk inX8 rfl (by decide) rfl wf_X8_38 hu hd k
theorem gf_X8_160 {ρ : Type} {X : gX} {Q : ρ → State → Prop} {nL : Nat} {M : gM} {lv : List (Nat × Value)} {stk : List Value} {pc : Nat} {o : Option ρ} {cc : ByteArray} {ret : Option FieldType} {fr lo : Nat} (C : gC X cc RX8 nL ret fr lo) {t u : Nat} (hk : kd t = gKo 5) (hu : rf t 1 = u) (hd : decode cc pc = .ok (.getfield 160, 3)) (k : G X Q nL M lv (.ref (xad X u) :: stk) (pc + 3) o) : G X Q nL M lv (.ref (xad X t) :: stk) pc o :=
  g_getNR (T := TX5) (i := 1) C hk inX5 rfl (by decide) rfl wnf_X8_160 hu hd k
theorem gf_X8_132 {ρ : Type} {X : gX} {Q : ρ → State → Prop} {nL : Nat} {M : gM} {lv : List (Nat × Value)} {stk : List Value} {pc : Nat} {o : Option ρ} {cc : ByteArray} {ret : Option FieldType} {fr lo : Nat} (C : gC X cc RX8 nL ret fr lo) {t : Nat} (hk : kd t = gKo 5) (hd : decode cc pc = .ok (.getfield 132, 3)) (k : G X Q nL M lv (.int (M t 5) :: stk) (pc + 3) o) : G X Q nL M lv (.ref (xad X t) :: stk) pc o :=
  g_getNI (T := TX5) (i := 5) C hk inX5 rfl (by decide) rfl wnf_X8_132 hd k
theorem gf_X8_138 {ρ : Type} {X : gX} {Q : ρ → State → Prop} {nL : Nat} {M : gM} {lv : List (Nat × Value)} {stk : List Value} {pc : Nat} {o : Option ρ} {cc : ByteArray} {ret : Option FieldType} {fr lo : Nat} (C : gC X cc RX8 nL ret fr lo) {t : Nat} (hk : kd t = gKo 5) (hd : decode cc pc = .ok (.getfield 138, 3)) (k : G X Q nL M lv (.int (M t 4) :: stk) (pc + 3) o) : G X Q nL M lv (.ref (xad X t) :: stk) pc o :=
  g_getNI (T := TX5) (i := 4) C hk inX5 rfl (by decide) rfl wnf_X8_138 hd k
theorem gp_X8_138 {ρ : Type} {X : gX} {Q : ρ → State → Prop} {nL : Nat} {M : gM} {lv : List (Nat × Value)} {stk : List Value} {pc : Nat} {o : Option ρ} {cc : ByteArray} {ret : Option FieldType} {fr lo : Nat} (C : gC X cc RX8 nL ret fr lo) {t : Nat} {x : Int32} (hk : kd t = gKo 5) (hd : decode cc pc = .ok (.putfield 138, 3)) (k : G X Q nL (gst M t 4 x) lv stk (pc + 3) o) : G X Q nL M lv (.int x :: .ref (xad X t) :: stk) pc o :=
  g_putNI (T := TX5) (i := 4) C tyX5 tyX5_ok nmX5 hk inX5 rfl (by decide) rfl wnf_X8_138 rfl (by decide +kernel) hd k
theorem gf_X8_203 {ρ : Type} {X : gX} {Q : ρ → State → Prop} {nL : Nat} {M : gM} {lv : List (Nat × Value)} {stk : List Value} {pc : Nat} {o : Option ρ} {cc : ByteArray} {ret : Option FieldType} {fr lo : Nat} (C : gC X cc RX8 nL ret fr lo) {t : Nat} (hk : kd t = gKo 1) (hd : decode cc pc = .ok (.getfield 203, 3)) (k : G X Q nL M lv (.int (M t 8) :: stk) (pc + 3) o) : G X Q nL M lv (.ref (xad X t) :: stk) pc o :=
  g_getNI (T := TX1) (i := 8) C hk inX1 rfl (by decide) rfl wnf_X8_203 hd k
theorem gf_X8_135 {ρ : Type} {X : gX} {Q : ρ → State → Prop} {nL : Nat} {M : gM} {lv : List (Nat × Value)} {stk : List Value} {pc : Nat} {o : Option ρ} {cc : ByteArray} {ret : Option FieldType} {fr lo : Nat} (C : gC X cc RX8 nL ret fr lo) {t : Nat} (hk : kd t = gKo 5) (hd : decode cc pc = .ok (.getfield 135, 3)) (k : G X Q nL M lv (.int (M t 3) :: stk) (pc + 3) o) : G X Q nL M lv (.ref (xad X t) :: stk) pc o :=
  g_getNI (T := TX5) (i := 3) C hk inX5 rfl (by decide) rfl wnf_X8_135 hd k
theorem gp_X8_135 {ρ : Type} {X : gX} {Q : ρ → State → Prop} {nL : Nat} {M : gM} {lv : List (Nat × Value)} {stk : List Value} {pc : Nat} {o : Option ρ} {cc : ByteArray} {ret : Option FieldType} {fr lo : Nat} (C : gC X cc RX8 nL ret fr lo) {t : Nat} {x : Int32} (hk : kd t = gKo 5) (hd : decode cc pc = .ok (.putfield 135, 3)) (k : G X Q nL (gst M t 3 x) lv stk (pc + 3) o) : G X Q nL M lv (.int x :: .ref (xad X t) :: stk) pc o :=
  g_putNI (T := TX5) (i := 3) C tyX5 tyX5_ok nmX5 hk inX5 rfl (by decide) rfl wnf_X8_135 rfl (by decide +kernel) hd k
theorem gf_X8_263 {ρ : Type} {X : gX} {Q : ρ → State → Prop} {nL : Nat} {M : gM} {lv : List (Nat × Value)} {stk : List Value} {pc : Nat} {o : Option ρ} {cc : ByteArray} {ret : Option FieldType} {fr lo : Nat} (C : gC X cc RX8 nL ret fr lo) {t u : Nat} (hk : kd t = gKo 1) (hu : rf t 6 = u) (hd : decode cc pc = .ok (.getfield 263, 3)) (k : G X Q nL M lv (.ref (xad X u) :: stk) (pc + 3) o) : G X Q nL M lv (.ref (xad X t) :: stk) pc o :=
  g_getNR (T := TX1) (i := 6) C hk inX1 rfl (by decide) rfl wnf_X8_263 hu hd k
theorem gf_X8_206 {ρ : Type} {X : gX} {Q : ρ → State → Prop} {nL : Nat} {M : gM} {lv : List (Nat × Value)} {stk : List Value} {pc : Nat} {o : Option ρ} {cc : ByteArray} {ret : Option FieldType} {fr lo : Nat} (C : gC X cc RX8 nL ret fr lo) {t u : Nat} (hk : kd t = gKo 1) (hu : rf t 7 = u) (hd : decode cc pc = .ok (.getfield 206, 3)) (k : G X Q nL M lv (.ref (xad X u) :: stk) (pc + 3) o) : G X Q nL M lv (.ref (xad X t) :: stk) pc o :=
  g_getNR (T := TX1) (i := 7) C hk inX1 rfl (by decide) rfl wnf_X8_206 hu hd k
theorem gf_X8_123 {ρ : Type} {X : gX} {Q : ρ → State → Prop} {nL : Nat} {M : gM} {lv : List (Nat × Value)} {stk : List Value} {pc : Nat} {o : Option ρ} {cc : ByteArray} {ret : Option FieldType} {fr lo : Nat} (C : gC X cc RX8 nL ret fr lo) {t : Nat} (hk : kd t = gKo 7) (hd : decode cc pc = .ok (.getfield 123, 3)) (k : G X Q nL M lv (.int (M t 10) :: stk) (pc + 3) o) : G X Q nL M lv (.ref (xad X t) :: stk) pc o :=
  g_getNI (T := TX7) (i := 10) C hk inX7 rfl (by decide) rfl wnf_X8_123 hd k
theorem gf_X8_90 {ρ : Type} {X : gX} {Q : ρ → State → Prop} {nL : Nat} {M : gM} {lv : List (Nat × Value)} {stk : List Value} {pc : Nat} {o : Option ρ} {cc : ByteArray} {ret : Option FieldType} {fr lo : Nat} (C : gC X cc RX8 nL ret fr lo) {t : Nat} (hk : kd t = gKo 8) (hd : decode cc pc = .ok (.getfield 90, 3)) (k : G X Q nL M lv (.int (M t 13) :: stk) (pc + 3) o) : G X Q nL M lv (.ref (xad X t) :: stk) pc o :=
  g_getI (T := TX8) (i := 13) C hk inX8 rfl (by decide) rfl wf_X8_90 hd k
theorem gf_X8_10 {ρ : Type} {X : gX} {Q : ρ → State → Prop} {nL : Nat} {M : gM} {lv : List (Nat × Value)} {stk : List Value} {pc : Nat} {o : Option ρ} {cc : ByteArray} {ret : Option FieldType} {fr lo : Nat} (C : gC X cc RX8 nL ret fr lo) {t u : Nat} (hk : kd t = gKo 8) (hu : rf t 0 = u) (hd : decode cc pc = .ok (.getfield 10, 3)) (k : G X Q nL M lv (.ref (xad X u) :: stk) (pc + 3) o) : G X Q nL M lv (.ref (xad X t) :: stk) pc o :=
  g_getR (T := TX8) (i := 0) C hk inX8 rfl (by decide) rfl wf_X8_10 hu hd k
theorem gf_X8_95 {ρ : Type} {X : gX} {Q : ρ → State → Prop} {nL : Nat} {M : gM} {lv : List (Nat × Value)} {stk : List Value} {pc : Nat} {o : Option ρ} {cc : ByteArray} {ret : Option FieldType} {fr lo : Nat} (C : gC X cc RX8 nL ret fr lo) {t : Nat} (hk : kd t = gKo 6) (hd : decode cc pc = .ok (.getfield 95, 3)) (k : G X Q nL M lv (.int (M t 1) :: stk) (pc + 3) o) : G X Q nL M lv (.ref (xad X t) :: stk) pc o :=
  g_getNI (T := TX6) (i := 1) C hk inX6 rfl (by decide) rfl wnf_X8_95 hd k
theorem gf_X8_45 {ρ : Type} {X : gX} {Q : ρ → State → Prop} {nL : Nat} {M : gM} {lv : List (Nat × Value)} {stk : List Value} {pc : Nat} {o : Option ρ} {cc : ByteArray} {ret : Option FieldType} {fr lo : Nat} (C : gC X cc RX8 nL ret fr lo) {t u : Nat} (hk : kd t = gKo 8) (hu : rf t 6 = u) (hd : decode cc pc = .ok (.getfield 45, 3)) (k : G X Q nL M lv (.ref (xad X u) :: stk) (pc + 3) o) : G X Q nL M lv (.ref (xad X t) :: stk) pc o :=
  g_getR (T := TX8) (i := 6) C hk inX8 rfl (by decide) rfl wf_X8_45 hu hd k
theorem gf_X8_42 {ρ : Type} {X : gX} {Q : ρ → State → Prop} {nL : Nat} {M : gM} {lv : List (Nat × Value)} {stk : List Value} {pc : Nat} {o : Option ρ} {cc : ByteArray} {ret : Option FieldType} {fr lo : Nat} (C : gC X cc RX8 nL ret fr lo) {t u : Nat} (hk : kd t = gKo 8) (hu : rf t 5 = u) (hd : decode cc pc = .ok (.getfield 42, 3)) (k : G X Q nL M lv (.ref (xad X u) :: stk) (pc + 3) o) : G X Q nL M lv (.ref (xad X t) :: stk) pc o :=
  g_getR (T := TX8) (i := 5) C hk inX8 rfl (by decide) rfl wf_X8_42 hu hd k
theorem gf_X8_48 {ρ : Type} {X : gX} {Q : ρ → State → Prop} {nL : Nat} {M : gM} {lv : List (Nat × Value)} {stk : List Value} {pc : Nat} {o : Option ρ} {cc : ByteArray} {ret : Option FieldType} {fr lo : Nat} (C : gC X cc RX8 nL ret fr lo) {t u : Nat} (hk : kd t = gKo 8) (hu : rf t 7 = u) (hd : decode cc pc = .ok (.getfield 48, 3)) (k : G X Q nL M lv (.ref (xad X u) :: stk) (pc + 3) o) : G X Q nL M lv (.ref (xad X t) :: stk) pc o :=
  g_getR (T := TX8) (i := 7) C hk inX8 rfl (by decide) rfl wf_X8_48 hu hd k
theorem gf_X8_82 {ρ : Type} {X : gX} {Q : ρ → State → Prop} {nL : Nat} {M : gM} {lv : List (Nat × Value)} {stk : List Value} {pc : Nat} {o : Option ρ} {cc : ByteArray} {ret : Option FieldType} {fr lo : Nat} (C : gC X cc RX8 nL ret fr lo) {t u : Nat} (hk : kd t = gKo 8) (hu : rf t 11 = u) (hd : decode cc pc = .ok (.getfield 82, 3)) (k : G X Q nL M lv (.ref (xad X u) :: stk) (pc + 3) o) : G X Q nL M lv (.ref (xad X t) :: stk) pc o :=
  g_getR (T := TX8) (i := 11) C hk inX8 rfl (by decide) rfl wf_X8_82 hu hd k
theorem gp_X8_132 {ρ : Type} {X : gX} {Q : ρ → State → Prop} {nL : Nat} {M : gM} {lv : List (Nat × Value)} {stk : List Value} {pc : Nat} {o : Option ρ} {cc : ByteArray} {ret : Option FieldType} {fr lo : Nat} (C : gC X cc RX8 nL ret fr lo) {t : Nat} {x : Int32} (hk : kd t = gKo 5) (hd : decode cc pc = .ok (.putfield 132, 3)) (k : G X Q nL (gst M t 5 x) lv stk (pc + 3) o) : G X Q nL M lv (.int x :: .ref (xad X t) :: stk) pc o :=
  g_putNI (T := TX5) (i := 5) C tyX5 tyX5_ok nmX5 hk inX5 rfl (by decide) rfl wnf_X8_132 rfl (by decide +kernel) hd k
theorem gf_X8_141 {ρ : Type} {X : gX} {Q : ρ → State → Prop} {nL : Nat} {M : gM} {lv : List (Nat × Value)} {stk : List Value} {pc : Nat} {o : Option ρ} {cc : ByteArray} {ret : Option FieldType} {fr lo : Nat} (C : gC X cc RX8 nL ret fr lo) {t : Nat} (hk : kd t = gKo 2) (hd : decode cc pc = .ok (.getfield 141, 3)) (k : G X Q nL M lv (.int (M t 5) :: stk) (pc + 3) o) : G X Q nL M lv (.ref (xad X t) :: stk) pc o :=
  g_getNI (T := TX2) (i := 5) C hk inX2 rfl (by decide) rfl wnf_X8_141 hd k
theorem gf_X8_151 {ρ : Type} {X : gX} {Q : ρ → State → Prop} {nL : Nat} {M : gM} {lv : List (Nat × Value)} {stk : List Value} {pc : Nat} {o : Option ρ} {cc : ByteArray} {ret : Option FieldType} {fr lo : Nat} (C : gC X cc RX8 nL ret fr lo) {t u : Nat} (hk : kd t = gKo 7) (hu : rf t 0 = u) (hd : decode cc pc = .ok (.getfield 151, 3)) (k : G X Q nL M lv (.ref (xad X u) :: stk) (pc + 3) o) : G X Q nL M lv (.ref (xad X t) :: stk) pc o :=
  g_getNR (T := TX7) (i := 0) C hk inX7 rfl (by decide) rfl wnf_X8_151 hu hd k
theorem gf_X8_154 {ρ : Type} {X : gX} {Q : ρ → State → Prop} {nL : Nat} {M : gM} {lv : List (Nat × Value)} {stk : List Value} {pc : Nat} {o : Option ρ} {cc : ByteArray} {ret : Option FieldType} {fr lo : Nat} (C : gC X cc RX8 nL ret fr lo) {t u : Nat} (hk : kd t = gKo 7) (hu : rf t 1 = u) (hd : decode cc pc = .ok (.getfield 154, 3)) (k : G X Q nL M lv (.ref (xad X u) :: stk) (pc + 3) o) : G X Q nL M lv (.ref (xad X t) :: stk) pc o :=
  g_getNR (T := TX7) (i := 1) C hk inX7 rfl (by decide) rfl wnf_X8_154 hu hd k
theorem gf_X8_157 {ρ : Type} {X : gX} {Q : ρ → State → Prop} {nL : Nat} {M : gM} {lv : List (Nat × Value)} {stk : List Value} {pc : Nat} {o : Option ρ} {cc : ByteArray} {ret : Option FieldType} {fr lo : Nat} (C : gC X cc RX8 nL ret fr lo) {t u : Nat} (hk : kd t = gKo 5) (hu : rf t 0 = u) (hd : decode cc pc = .ok (.getfield 157, 3)) (k : G X Q nL M lv (.ref (xad X u) :: stk) (pc + 3) o) : G X Q nL M lv (.ref (xad X t) :: stk) pc o :=
  g_getNR (T := TX5) (i := 0) C hk inX5 rfl (by decide) rfl wnf_X8_157 hu hd k
theorem gf_X8_163 {ρ : Type} {X : gX} {Q : ρ → State → Prop} {nL : Nat} {M : gM} {lv : List (Nat × Value)} {stk : List Value} {pc : Nat} {o : Option ρ} {cc : ByteArray} {ret : Option FieldType} {fr lo : Nat} (C : gC X cc RX8 nL ret fr lo) {t u : Nat} (hk : kd t = gKo 7) (hu : rf t 4 = u) (hd : decode cc pc = .ok (.getfield 163, 3)) (k : G X Q nL M lv (.ref (xad X u) :: stk) (pc + 3) o) : G X Q nL M lv (.ref (xad X t) :: stk) pc o :=
  g_getNR (T := TX7) (i := 4) C hk inX7 rfl (by decide) rfl wnf_X8_163 hu hd k
theorem gf_X8_166 {ρ : Type} {X : gX} {Q : ρ → State → Prop} {nL : Nat} {M : gM} {lv : List (Nat × Value)} {stk : List Value} {pc : Nat} {o : Option ρ} {cc : ByteArray} {ret : Option FieldType} {fr lo : Nat} (C : gC X cc RX8 nL ret fr lo) {t u : Nat} (hk : kd t = gKo 7) (hu : rf t 5 = u) (hd : decode cc pc = .ok (.getfield 166, 3)) (k : G X Q nL M lv (.ref (xad X u) :: stk) (pc + 3) o) : G X Q nL M lv (.ref (xad X t) :: stk) pc o :=
  g_getNR (T := TX7) (i := 5) C hk inX7 rfl (by decide) rfl wnf_X8_166 hu hd k
theorem gf_X8_169 {ρ : Type} {X : gX} {Q : ρ → State → Prop} {nL : Nat} {M : gM} {lv : List (Nat × Value)} {stk : List Value} {pc : Nat} {o : Option ρ} {cc : ByteArray} {ret : Option FieldType} {fr lo : Nat} (C : gC X cc RX8 nL ret fr lo) {t u : Nat} (hk : kd t = gKo 7) (hu : rf t 6 = u) (hd : decode cc pc = .ok (.getfield 169, 3)) (k : G X Q nL M lv (.ref (xad X u) :: stk) (pc + 3) o) : G X Q nL M lv (.ref (xad X t) :: stk) pc o :=
  g_getNR (T := TX7) (i := 6) C hk inX7 rfl (by decide) rfl wnf_X8_169 hu hd k
theorem gf_X8_172 {ρ : Type} {X : gX} {Q : ρ → State → Prop} {nL : Nat} {M : gM} {lv : List (Nat × Value)} {stk : List Value} {pc : Nat} {o : Option ρ} {cc : ByteArray} {ret : Option FieldType} {fr lo : Nat} (C : gC X cc RX8 nL ret fr lo) {t u : Nat} (hk : kd t = gKo 5) (hu : rf t 2 = u) (hd : decode cc pc = .ok (.getfield 172, 3)) (k : G X Q nL M lv (.ref (xad X u) :: stk) (pc + 3) o) : G X Q nL M lv (.ref (xad X t) :: stk) pc o :=
  g_getNR (T := TX5) (i := 2) C hk inX5 rfl (by decide) rfl wnf_X8_172 hu hd k
theorem gf_X8_86 {ρ : Type} {X : gX} {Q : ρ → State → Prop} {nL : Nat} {M : gM} {lv : List (Nat × Value)} {stk : List Value} {pc : Nat} {o : Option ρ} {cc : ByteArray} {ret : Option FieldType} {fr lo : Nat} (C : gC X cc RX8 nL ret fr lo) {t u : Nat} (hk : kd t = gKo 8) (hu : rf t 12 = u) (hd : decode cc pc = .ok (.getfield 86, 3)) (k : G X Q nL M lv (.ref (xad X u) :: stk) (pc + 3) o) : G X Q nL M lv (.ref (xad X t) :: stk) pc o :=
  g_getR (T := TX8) (i := 12) C hk inX8 rfl (by decide) rfl wf_X8_86 hu hd k
theorem gf_X8_178 {ρ : Type} {X : gX} {Q : ρ → State → Prop} {nL : Nat} {M : gM} {lv : List (Nat × Value)} {stk : List Value} {pc : Nat} {o : Option ρ} {cc : ByteArray} {ret : Option FieldType} {fr lo : Nat} (C : gC X cc RX8 nL ret fr lo) {t u : Nat} (hk : kd t = gKo 7) (hu : rf t 7 = u) (hd : decode cc pc = .ok (.getfield 178, 3)) (k : G X Q nL M lv (.ref (xad X u) :: stk) (pc + 3) o) : G X Q nL M lv (.ref (xad X t) :: stk) pc o :=
  g_getNR (T := TX7) (i := 7) C hk inX7 rfl (by decide) rfl wnf_X8_178 hu hd k
theorem gf_X8_181 {ρ : Type} {X : gX} {Q : ρ → State → Prop} {nL : Nat} {M : gM} {lv : List (Nat × Value)} {stk : List Value} {pc : Nat} {o : Option ρ} {cc : ByteArray} {ret : Option FieldType} {fr lo : Nat} (C : gC X cc RX8 nL ret fr lo) {t u : Nat} (hk : kd t = gKo 7) (hu : rf t 8 = u) (hd : decode cc pc = .ok (.getfield 181, 3)) (k : G X Q nL M lv (.ref (xad X u) :: stk) (pc + 3) o) : G X Q nL M lv (.ref (xad X t) :: stk) pc o :=
  g_getNR (T := TX7) (i := 8) C hk inX7 rfl (by decide) rfl wnf_X8_181 hu hd k
theorem gf_X8_184 {ρ : Type} {X : gX} {Q : ρ → State → Prop} {nL : Nat} {M : gM} {lv : List (Nat × Value)} {stk : List Value} {pc : Nat} {o : Option ρ} {cc : ByteArray} {ret : Option FieldType} {fr lo : Nat} (C : gC X cc RX8 nL ret fr lo) {t u : Nat} (hk : kd t = gKo 7) (hu : rf t 9 = u) (hd : decode cc pc = .ok (.getfield 184, 3)) (k : G X Q nL M lv (.ref (xad X u) :: stk) (pc + 3) o) : G X Q nL M lv (.ref (xad X t) :: stk) pc o :=
  g_getNR (T := TX7) (i := 9) C hk inX7 rfl (by decide) rfl wnf_X8_184 hu hd k
theorem gf_X8_73 {ρ : Type} {X : gX} {Q : ρ → State → Prop} {nL : Nat} {M : gM} {lv : List (Nat × Value)} {stk : List Value} {pc : Nat} {o : Option ρ} {cc : ByteArray} {ret : Option FieldType} {fr lo : Nat} (C : gC X cc RX8 nL ret fr lo) {t u : Nat} (hk : kd t = gKo 8) (hu : rf t 10 = u) (hd : decode cc pc = .ok (.getfield 73, 3)) (k : G X Q nL M lv (.ref (xad X u) :: stk) (pc + 3) o) : G X Q nL M lv (.ref (xad X t) :: stk) pc o :=
  g_getR (T := TX8) (i := 10) C hk inX8 rfl (by decide) rfl wf_X8_73 hu hd k
theorem gf_X8_119 {ρ : Type} {X : gX} {Q : ρ → State → Prop} {nL : Nat} {M : gM} {lv : List (Nat × Value)} {stk : List Value} {pc : Nat} {o : Option ρ} {cc : ByteArray} {ret : Option FieldType} {fr lo : Nat} (C : gC X cc RX8 nL ret fr lo) {t : Nat} (hk : kd t = gKo 4) (hd : decode cc pc = .ok (.getfield 119, 3)) (k : G X Q nL M lv (.int (M t 4) :: stk) (pc + 3) o) : G X Q nL M lv (.ref (xad X t) :: stk) pc o :=
  g_getNI (T := TX4) (i := 4) C hk inX4 rfl (by decide) rfl wnf_X8_119 hd k
theorem gf_X8_280 {ρ : Type} {X : gX} {Q : ρ → State → Prop} {nL : Nat} {M : gM} {lv : List (Nat × Value)} {stk : List Value} {pc : Nat} {o : Option ρ} {cc : ByteArray} {ret : Option FieldType} {fr lo : Nat} (C : gC X cc RX8 nL ret fr lo) {t : Nat} (hk : kd t = gKo 5) (hd : decode cc pc = .ok (.getfield 280, 3)) (k : G X Q nL M lv (.int (M t 6) :: stk) (pc + 3) o) : G X Q nL M lv (.ref (xad X t) :: stk) pc o :=
  g_getNI (T := TX5) (i := 6) C hk inX5 rfl (by decide) rfl wnf_X8_280 hd k
theorem gp_X8_280 {ρ : Type} {X : gX} {Q : ρ → State → Prop} {nL : Nat} {M : gM} {lv : List (Nat × Value)} {stk : List Value} {pc : Nat} {o : Option ρ} {cc : ByteArray} {ret : Option FieldType} {fr lo : Nat} (C : gC X cc RX8 nL ret fr lo) {t : Nat} {x : Int32} (hk : kd t = gKo 5) (hd : decode cc pc = .ok (.putfield 280, 3)) (k : G X Q nL (gst M t 6 x) lv stk (pc + 3) o) : G X Q nL M lv (.int x :: .ref (xad X t) :: stk) pc o :=
  g_putNI (T := TX5) (i := 6) C tyX5 tyX5_ok nmX5 hk inX5 rfl (by decide) rfl wnf_X8_280 rfl (by decide +kernel) hd k
theorem gf_X8_122 {ρ : Type} {X : gX} {Q : ρ → State → Prop} {nL : Nat} {M : gM} {lv : List (Nat × Value)} {stk : List Value} {pc : Nat} {o : Option ρ} {cc : ByteArray} {ret : Option FieldType} {fr lo : Nat} (C : gC X cc RX8 nL ret fr lo) {t : Nat} (hk : kd t = gKo 0) (hd : decode cc pc = .ok (.getfield 122, 3)) (k : G X Q nL M lv (.int (M t 3) :: stk) (pc + 3) o) : G X Q nL M lv (.ref (xad X t) :: stk) pc o :=
  g_getNI (T := TX0) (i := 3) C hk inX0 rfl (by decide) rfl wnf_X8_122 hd k
theorem gp_X8_122 {ρ : Type} {X : gX} {Q : ρ → State → Prop} {nL : Nat} {M : gM} {lv : List (Nat × Value)} {stk : List Value} {pc : Nat} {o : Option ρ} {cc : ByteArray} {ret : Option FieldType} {fr lo : Nat} (C : gC X cc RX8 nL ret fr lo) {t : Nat} {x : Int32} (hk : kd t = gKo 0) (hd : decode cc pc = .ok (.putfield 122, 3)) (k : G X Q nL (gst M t 3 x) lv stk (pc + 3) o) : G X Q nL M lv (.int x :: .ref (xad X t) :: stk) pc o :=
  g_putNI (T := TX0) (i := 3) C tyX0 tyX0_ok nmX0 hk inX0 rfl (by decide) rfl wnf_X8_122 rfl (by decide +kernel) hd k
theorem gp_X8_119 {ρ : Type} {X : gX} {Q : ρ → State → Prop} {nL : Nat} {M : gM} {lv : List (Nat × Value)} {stk : List Value} {pc : Nat} {o : Option ρ} {cc : ByteArray} {ret : Option FieldType} {fr lo : Nat} (C : gC X cc RX8 nL ret fr lo) {t : Nat} {x : Int32} (hk : kd t = gKo 4) (hd : decode cc pc = .ok (.putfield 119, 3)) (k : G X Q nL (gst M t 4 x) lv stk (pc + 3) o) : G X Q nL M lv (.int x :: .ref (xad X t) :: stk) pc o :=
  g_putNI (T := TX4) (i := 4) C tyX4 tyX4_ok nmX4 hk inX4 rfl (by decide) rfl wnf_X8_119 rfl (by decide +kernel) hd k
theorem gf_X8_126 {ρ : Type} {X : gX} {Q : ρ → State → Prop} {nL : Nat} {M : gM} {lv : List (Nat × Value)} {stk : List Value} {pc : Nat} {o : Option ρ} {cc : ByteArray} {ret : Option FieldType} {fr lo : Nat} (C : gC X cc RX8 nL ret fr lo) {t : Nat} (hk : kd t = gKo 7) (hd : decode cc pc = .ok (.getfield 126, 3)) (k : G X Q nL M lv (.int (M t 12) :: stk) (pc + 3) o) : G X Q nL M lv (.ref (xad X t) :: stk) pc o :=
  g_getNI (T := TX7) (i := 12) C hk inX7 rfl (by decide) rfl wnf_X8_126 hd k
theorem gf_X8_129 {ρ : Type} {X : gX} {Q : ρ → State → Prop} {nL : Nat} {M : gM} {lv : List (Nat × Value)} {stk : List Value} {pc : Nat} {o : Option ρ} {cc : ByteArray} {ret : Option FieldType} {fr lo : Nat} (C : gC X cc RX8 nL ret fr lo) {t : Nat} (hk : kd t = gKo 7) (hd : decode cc pc = .ok (.getfield 129, 3)) (k : G X Q nL M lv (.int (M t 11) :: stk) (pc + 3) o) : G X Q nL M lv (.ref (xad X t) :: stk) pc o :=
  g_getNI (T := TX7) (i := 11) C hk inX7 rfl (by decide) rfl wnf_X8_129 hd k
theorem gf_X8_31 {ρ : Type} {X : gX} {Q : ρ → State → Prop} {nL : Nat} {M : gM} {lv : List (Nat × Value)} {stk : List Value} {pc : Nat} {o : Option ρ} {cc : ByteArray} {ret : Option FieldType} {fr lo : Nat} (C : gC X cc RX8 nL ret fr lo) {t u : Nat} (hk : kd t = gKo 8) (hu : rf t 1 = u) (hd : decode cc pc = .ok (.getfield 31, 3)) (k : G X Q nL M lv (.ref (xad X u) :: stk) (pc + 3) o) : G X Q nL M lv (.ref (xad X t) :: stk) pc o :=
  g_getR (T := TX8) (i := 1) C hk inX8 rfl (by decide) rfl wf_X8_31 hu hd k
theorem gf_X8_107 {ρ : Type} {X : gX} {Q : ρ → State → Prop} {nL : Nat} {M : gM} {lv : List (Nat × Value)} {stk : List Value} {pc : Nat} {o : Option ρ} {cc : ByteArray} {ret : Option FieldType} {fr lo : Nat} (C : gC X cc RX8 nL ret fr lo) {t : Nat} (hk : kd t = gKo 3) (hd : decode cc pc = .ok (.getfield 107, 3)) (k : G X Q nL M lv (.int (M t 5) :: stk) (pc + 3) o) : G X Q nL M lv (.ref (xad X t) :: stk) pc o :=
  g_getNI (T := TX3) (i := 5) C hk inX3 rfl (by decide) rfl wnf_X8_107 hd k
theorem gp_X8_90 {ρ : Type} {X : gX} {Q : ρ → State → Prop} {nL : Nat} {M : gM} {lv : List (Nat × Value)} {stk : List Value} {pc : Nat} {o : Option ρ} {cc : ByteArray} {ret : Option FieldType} {fr lo : Nat} (C : gC X cc RX8 nL ret fr lo) {t : Nat} {x : Int32} (hk : kd t = gKo 8) (hd : decode cc pc = .ok (.putfield 90, 3)) (k : G X Q nL (gst M t 13 x) lv stk (pc + 3) o) : G X Q nL M lv (.int x :: .ref (xad X t) :: stk) pc o :=
  g_putI (T := TX8) (i := 13) C tyX8 tyX8_ok nmX8 hk inX8 rfl (by decide) rfl wf_X8_90 rfl (by decide +kernel) hd k
theorem gp_X8_95 {ρ : Type} {X : gX} {Q : ρ → State → Prop} {nL : Nat} {M : gM} {lv : List (Nat × Value)} {stk : List Value} {pc : Nat} {o : Option ρ} {cc : ByteArray} {ret : Option FieldType} {fr lo : Nat} (C : gC X cc RX8 nL ret fr lo) {t : Nat} {x : Int32} (hk : kd t = gKo 6) (hd : decode cc pc = .ok (.putfield 95, 3)) (k : G X Q nL (gst M t 1 x) lv stk (pc + 3) o) : G X Q nL M lv (.int x :: .ref (xad X t) :: stk) pc o :=
  g_putNI (T := TX6) (i := 1) C tyX6 tyX6_ok nmX6 hk inX6 rfl (by decide) rfl wnf_X8_95 rfl (by decide +kernel) hd k
theorem gf_X8_23 {ρ : Type} {X : gX} {Q : ρ → State → Prop} {nL : Nat} {M : gM} {lv : List (Nat × Value)} {stk : List Value} {pc : Nat} {o : Option ρ} {cc : ByteArray} {ret : Option FieldType} {fr lo : Nat} (C : gC X cc RX8 nL ret fr lo) {t u : Nat} (hk : kd t = gKo 8) (hu : rf t 3 = u) (hd : decode cc pc = .ok (.getfield 23, 3)) (k : G X Q nL M lv (.ref (xad X u) :: stk) (pc + 3) o) : G X Q nL M lv (.ref (xad X t) :: stk) pc o :=
  g_getR (T := TX8) (i := 3) C hk inX8 rfl (by decide) rfl wf_X8_23 hu hd k
theorem gf_X9_47 {ρ : Type} {X : gX} {Q : ρ → State → Prop} {nL : Nat} {M : gM} {lv : List (Nat × Value)} {stk : List Value} {pc : Nat} {o : Option ρ} {cc : ByteArray} {ret : Option FieldType} {fr lo : Nat} (C : gC X cc RX9 nL ret fr lo) {t u : Nat} (hk : kd t = gKo 9) (hu : rf t 12 = u) (hd : decode cc pc = .ok (.getfield 47, 3)) (k : G X Q nL M lv (.ref (xad X u) :: stk) (pc + 3) o) : G X Q nL M lv (.ref (xad X t) :: stk) pc o :=
  g_getR (T := TX9) (i := 12) C hk inX9 rfl (by decide) rfl wf_X9_47 hu hd k
theorem gf_X9_29 {ρ : Type} {X : gX} {Q : ρ → State → Prop} {nL : Nat} {M : gM} {lv : List (Nat × Value)} {stk : List Value} {pc : Nat} {o : Option ρ} {cc : ByteArray} {ret : Option FieldType} {fr lo : Nat} (C : gC X cc RX9 nL ret fr lo) {t u : Nat} (hk : kd t = gKo 9) (hu : rf t 6 = u) (hd : decode cc pc = .ok (.getfield 29, 3)) (k : G X Q nL M lv (.ref (xad X u) :: stk) (pc + 3) o) : G X Q nL M lv (.ref (xad X t) :: stk) pc o :=
  g_getR (T := TX9) (i := 6) C hk inX9 rfl (by decide) rfl wf_X9_29 hu hd k
theorem gf_X9_32 {ρ : Type} {X : gX} {Q : ρ → State → Prop} {nL : Nat} {M : gM} {lv : List (Nat × Value)} {stk : List Value} {pc : Nat} {o : Option ρ} {cc : ByteArray} {ret : Option FieldType} {fr lo : Nat} (C : gC X cc RX9 nL ret fr lo) {t u : Nat} (hk : kd t = gKo 9) (hu : rf t 7 = u) (hd : decode cc pc = .ok (.getfield 32, 3)) (k : G X Q nL M lv (.ref (xad X u) :: stk) (pc + 3) o) : G X Q nL M lv (.ref (xad X t) :: stk) pc o :=
  g_getR (T := TX9) (i := 7) C hk inX9 rfl (by decide) rfl wf_X9_32 hu hd k
theorem gf_X9_168 {ρ : Type} {X : gX} {Q : ρ → State → Prop} {nL : Nat} {M : gM} {lv : List (Nat × Value)} {stk : List Value} {pc : Nat} {o : Option ρ} {cc : ByteArray} {ret : Option FieldType} {fr lo : Nat} (C : gC X cc RX9 nL ret fr lo) {t : Nat} (hk : kd t = gKo 9) (hd : decode cc pc = .ok (.getfield 168, 3)) (k : G X Q nL M lv (.int (M t 22) :: stk) (pc + 3) o) : G X Q nL M lv (.ref (xad X t) :: stk) pc o :=
  g_getI (T := TX9) (i := 22) C hk inX9 rfl (by decide) rfl wf_X9_168 hd k
theorem gf_X9_7 {ρ : Type} {X : gX} {Q : ρ → State → Prop} {nL : Nat} {M : gM} {lv : List (Nat × Value)} {stk : List Value} {pc : Nat} {o : Option ρ} {cc : ByteArray} {ret : Option FieldType} {fr lo : Nat} (C : gC X cc RX9 nL ret fr lo) {t u : Nat} (hk : kd t = gKo 9) (hu : rf t 0 = u) (hd : decode cc pc = .ok (.getfield 7, 3)) (k : G X Q nL M lv (.ref (xad X u) :: stk) (pc + 3) o) : G X Q nL M lv (.ref (xad X t) :: stk) pc o :=
  g_getR (T := TX9) (i := 0) C hk inX9 rfl (by decide) rfl wf_X9_7 hu hd k
theorem gf_X9_38 {ρ : Type} {X : gX} {Q : ρ → State → Prop} {nL : Nat} {M : gM} {lv : List (Nat × Value)} {stk : List Value} {pc : Nat} {o : Option ρ} {cc : ByteArray} {ret : Option FieldType} {fr lo : Nat} (C : gC X cc RX9 nL ret fr lo) {t u : Nat} (hk : kd t = gKo 9) (hu : rf t 9 = u) (hd : decode cc pc = .ok (.getfield 38, 3)) (k : G X Q nL M lv (.ref (xad X u) :: stk) (pc + 3) o) : G X Q nL M lv (.ref (xad X t) :: stk) pc o :=
  g_getR (T := TX9) (i := 9) C hk inX9 rfl (by decide) rfl wf_X9_38 hu hd k
theorem gf_X9_41 {ρ : Type} {X : gX} {Q : ρ → State → Prop} {nL : Nat} {M : gM} {lv : List (Nat × Value)} {stk : List Value} {pc : Nat} {o : Option ρ} {cc : ByteArray} {ret : Option FieldType} {fr lo : Nat} (C : gC X cc RX9 nL ret fr lo) {t u : Nat} (hk : kd t = gKo 9) (hu : rf t 10 = u) (hd : decode cc pc = .ok (.getfield 41, 3)) (k : G X Q nL M lv (.ref (xad X u) :: stk) (pc + 3) o) : G X Q nL M lv (.ref (xad X t) :: stk) pc o :=
  g_getR (T := TX9) (i := 10) C hk inX9 rfl (by decide) rfl wf_X9_41 hu hd k
theorem gf_X9_44 {ρ : Type} {X : gX} {Q : ρ → State → Prop} {nL : Nat} {M : gM} {lv : List (Nat × Value)} {stk : List Value} {pc : Nat} {o : Option ρ} {cc : ByteArray} {ret : Option FieldType} {fr lo : Nat} (C : gC X cc RX9 nL ret fr lo) {t u : Nat} (hk : kd t = gKo 9) (hu : rf t 11 = u) (hd : decode cc pc = .ok (.getfield 44, 3)) (k : G X Q nL M lv (.ref (xad X u) :: stk) (pc + 3) o) : G X Q nL M lv (.ref (xad X t) :: stk) pc o :=
  g_getR (T := TX9) (i := 11) C hk inX9 rfl (by decide) rfl wf_X9_44 hu hd k
theorem gf_X9_165 {ρ : Type} {X : gX} {Q : ρ → State → Prop} {nL : Nat} {M : gM} {lv : List (Nat × Value)} {stk : List Value} {pc : Nat} {o : Option ρ} {cc : ByteArray} {ret : Option FieldType} {fr lo : Nat} (C : gC X cc RX9 nL ret fr lo) {t : Nat} (hk : kd t = gKo 9) (hd : decode cc pc = .ok (.getfield 165, 3)) (k : G X Q nL M lv (.int (M t 21) :: stk) (pc + 3) o) : G X Q nL M lv (.ref (xad X t) :: stk) pc o :=
  g_getI (T := TX9) (i := 21) C hk inX9 rfl (by decide) rfl wf_X9_165 hd k
theorem gf_X9_57 {ρ : Type} {X : gX} {Q : ρ → State → Prop} {nL : Nat} {M : gM} {lv : List (Nat × Value)} {stk : List Value} {pc : Nat} {o : Option ρ} {cc : ByteArray} {ret : Option FieldType} {fr lo : Nat} (C : gC X cc RX9 nL ret fr lo) {t u : Nat} (hk : kd t = gKo 9) (hu : rf t 20 = u) (hd : decode cc pc = .ok (.getfield 57, 3)) (k : G X Q nL M lv (.ref (xad X u) :: stk) (pc + 3) o) : G X Q nL M lv (.ref (xad X t) :: stk) pc o :=
  g_getR (T := TX9) (i := 20) C hk inX9 rfl (by decide) rfl wf_X9_57 hu hd k
theorem gf_X9_66 {ρ : Type} {X : gX} {Q : ρ → State → Prop} {nL : Nat} {M : gM} {lv : List (Nat × Value)} {stk : List Value} {pc : Nat} {o : Option ρ} {cc : ByteArray} {ret : Option FieldType} {fr lo : Nat} (C : gC X cc RX9 nL ret fr lo) {t u : Nat} (hk : kd t = gKo 9) (hu : rf t 25 = u) (hd : decode cc pc = .ok (.getfield 66, 3)) (k : G X Q nL M lv (.ref (xad X u) :: stk) (pc + 3) o) : G X Q nL M lv (.ref (xad X t) :: stk) pc o :=
  g_getR (T := TX9) (i := 25) C hk inX9 rfl (by decide) rfl wf_X9_66 hu hd k
theorem gf_X9_69 {ρ : Type} {X : gX} {Q : ρ → State → Prop} {nL : Nat} {M : gM} {lv : List (Nat × Value)} {stk : List Value} {pc : Nat} {o : Option ρ} {cc : ByteArray} {ret : Option FieldType} {fr lo : Nat} (C : gC X cc RX9 nL ret fr lo) {t u : Nat} (hk : kd t = gKo 9) (hu : rf t 26 = u) (hd : decode cc pc = .ok (.getfield 69, 3)) (k : G X Q nL M lv (.ref (xad X u) :: stk) (pc + 3) o) : G X Q nL M lv (.ref (xad X t) :: stk) pc o :=
  g_getR (T := TX9) (i := 26) C hk inX9 rfl (by decide) rfl wf_X9_69 hu hd k
theorem gf_X9_60 {ρ : Type} {X : gX} {Q : ρ → State → Prop} {nL : Nat} {M : gM} {lv : List (Nat × Value)} {stk : List Value} {pc : Nat} {o : Option ρ} {cc : ByteArray} {ret : Option FieldType} {fr lo : Nat} (C : gC X cc RX9 nL ret fr lo) {t u : Nat} (hk : kd t = gKo 9) (hu : rf t 23 = u) (hd : decode cc pc = .ok (.getfield 60, 3)) (k : G X Q nL M lv (.ref (xad X u) :: stk) (pc + 3) o) : G X Q nL M lv (.ref (xad X t) :: stk) pc o :=
  g_getR (T := TX9) (i := 23) C hk inX9 rfl (by decide) rfl wf_X9_60 hu hd k
theorem gf_X9_63 {ρ : Type} {X : gX} {Q : ρ → State → Prop} {nL : Nat} {M : gM} {lv : List (Nat × Value)} {stk : List Value} {pc : Nat} {o : Option ρ} {cc : ByteArray} {ret : Option FieldType} {fr lo : Nat} (C : gC X cc RX9 nL ret fr lo) {t u : Nat} (hk : kd t = gKo 9) (hu : rf t 24 = u) (hd : decode cc pc = .ok (.getfield 63, 3)) (k : G X Q nL M lv (.ref (xad X u) :: stk) (pc + 3) o) : G X Q nL M lv (.ref (xad X t) :: stk) pc o :=
  g_getR (T := TX9) (i := 24) C hk inX9 rfl (by decide) rfl wf_X9_63 hu hd k
theorem gf_X9_35 {ρ : Type} {X : gX} {Q : ρ → State → Prop} {nL : Nat} {M : gM} {lv : List (Nat × Value)} {stk : List Value} {pc : Nat} {o : Option ρ} {cc : ByteArray} {ret : Option FieldType} {fr lo : Nat} (C : gC X cc RX9 nL ret fr lo) {t u : Nat} (hk : kd t = gKo 9) (hu : rf t 8 = u) (hd : decode cc pc = .ok (.getfield 35, 3)) (k : G X Q nL M lv (.ref (xad X u) :: stk) (pc + 3) o) : G X Q nL M lv (.ref (xad X t) :: stk) pc o :=
  g_getR (T := TX9) (i := 8) C hk inX9 rfl (by decide) rfl wf_X9_35 hu hd k
theorem gf_X9_72 {ρ : Type} {X : gX} {Q : ρ → State → Prop} {nL : Nat} {M : gM} {lv : List (Nat × Value)} {stk : List Value} {pc : Nat} {o : Option ρ} {cc : ByteArray} {ret : Option FieldType} {fr lo : Nat} (C : gC X cc RX9 nL ret fr lo) {t u : Nat} (hk : kd t = gKo 9) (hu : rf t 27 = u) (hd : decode cc pc = .ok (.getfield 72, 3)) (k : G X Q nL M lv (.ref (xad X u) :: stk) (pc + 3) o) : G X Q nL M lv (.ref (xad X t) :: stk) pc o :=
  g_getR (T := TX9) (i := 27) C hk inX9 rfl (by decide) rfl wf_X9_72 hu hd k
theorem gf_X9_53 {ρ : Type} {X : gX} {Q : ρ → State → Prop} {nL : Nat} {M : gM} {lv : List (Nat × Value)} {stk : List Value} {pc : Nat} {o : Option ρ} {cc : ByteArray} {ret : Option FieldType} {fr lo : Nat} (C : gC X cc RX9 nL ret fr lo) {t : Nat} (hk : kd t = gKo 9) (hd : decode cc pc = .ok (.getfield 53, 3)) (k : G X Q nL M lv (.int (M t 19) :: stk) (pc + 3) o) : G X Q nL M lv (.ref (xad X t) :: stk) pc o :=
  g_getI (T := TX9) (i := 19) C hk inX9 rfl (by decide) rfl wf_X9_53 hd k
theorem gf_X9_94 {ρ : Type} {X : gX} {Q : ρ → State → Prop} {nL : Nat} {M : gM} {lv : List (Nat × Value)} {stk : List Value} {pc : Nat} {o : Option ρ} {cc : ByteArray} {ret : Option FieldType} {fr lo : Nat} (C : gC X cc RX9 nL ret fr lo) {t : Nat} (hk : kd t = gKo 9) (hd : decode cc pc = .ok (.getfield 94, 3)) (k : G X Q nL M lv (.int (M t 14) :: stk) (pc + 3) o) : G X Q nL M lv (.ref (xad X t) :: stk) pc o :=
  g_getI (T := TX9) (i := 14) C hk inX9 rfl (by decide) rfl wf_X9_94 hd k
theorem gf_X9_50 {ρ : Type} {X : gX} {Q : ρ → State → Prop} {nL : Nat} {M : gM} {lv : List (Nat × Value)} {stk : List Value} {pc : Nat} {o : Option ρ} {cc : ByteArray} {ret : Option FieldType} {fr lo : Nat} (C : gC X cc RX9 nL ret fr lo) {t u : Nat} (hk : kd t = gKo 9) (hu : rf t 13 = u) (hd : decode cc pc = .ok (.getfield 50, 3)) (k : G X Q nL M lv (.ref (xad X u) :: stk) (pc + 3) o) : G X Q nL M lv (.ref (xad X t) :: stk) pc o :=
  g_getR (T := TX9) (i := 13) C hk inX9 rfl (by decide) rfl wf_X9_50 hu hd k
theorem gp_X9_94 {ρ : Type} {X : gX} {Q : ρ → State → Prop} {nL : Nat} {M : gM} {lv : List (Nat × Value)} {stk : List Value} {pc : Nat} {o : Option ρ} {cc : ByteArray} {ret : Option FieldType} {fr lo : Nat} (C : gC X cc RX9 nL ret fr lo) {t : Nat} {x : Int32} (hk : kd t = gKo 9) (hd : decode cc pc = .ok (.putfield 94, 3)) (k : G X Q nL (gst M t 14 x) lv stk (pc + 3) o) : G X Q nL M lv (.int x :: .ref (xad X t) :: stk) pc o :=
  g_putI (T := TX9) (i := 14) C tyX9 tyX9_ok nmX9 hk inX9 rfl (by decide) rfl wf_X9_94 rfl (by decide +kernel) hd k
theorem gp_X9_165 {ρ : Type} {X : gX} {Q : ρ → State → Prop} {nL : Nat} {M : gM} {lv : List (Nat × Value)} {stk : List Value} {pc : Nat} {o : Option ρ} {cc : ByteArray} {ret : Option FieldType} {fr lo : Nat} (C : gC X cc RX9 nL ret fr lo) {t : Nat} {x : Int32} (hk : kd t = gKo 9) (hd : decode cc pc = .ok (.putfield 165, 3)) (k : G X Q nL (gst M t 21 x) lv stk (pc + 3) o) : G X Q nL M lv (.int x :: .ref (xad X t) :: stk) pc o :=
  g_putI (T := TX9) (i := 21) C tyX9 tyX9_ok nmX9 hk inX9 rfl (by decide) rfl wf_X9_165 rfl (by decide +kernel) hd k
theorem gf_X9_17 {ρ : Type} {X : gX} {Q : ρ → State → Prop} {nL : Nat} {M : gM} {lv : List (Nat × Value)} {stk : List Value} {pc : Nat} {o : Option ρ} {cc : ByteArray} {ret : Option FieldType} {fr lo : Nat} (C : gC X cc RX9 nL ret fr lo) {t u : Nat} (hk : kd t = gKo 9) (hu : rf t 2 = u) (hd : decode cc pc = .ok (.getfield 17, 3)) (k : G X Q nL M lv (.ref (xad X u) :: stk) (pc + 3) o) : G X Q nL M lv (.ref (xad X t) :: stk) pc o :=
  g_getR (T := TX9) (i := 2) C hk inX9 rfl (by decide) rfl wf_X9_17 hu hd k
theorem gf_X9_13 {ρ : Type} {X : gX} {Q : ρ → State → Prop} {nL : Nat} {M : gM} {lv : List (Nat × Value)} {stk : List Value} {pc : Nat} {o : Option ρ} {cc : ByteArray} {ret : Option FieldType} {fr lo : Nat} (C : gC X cc RX9 nL ret fr lo) {t u : Nat} (hk : kd t = gKo 9) (hu : rf t 1 = u) (hd : decode cc pc = .ok (.getfield 13, 3)) (k : G X Q nL M lv (.ref (xad X u) :: stk) (pc + 3) o) : G X Q nL M lv (.ref (xad X t) :: stk) pc o :=
  g_getR (T := TX9) (i := 1) C hk inX9 rfl (by decide) rfl wf_X9_13 hu hd k
theorem gf_X9_100 {ρ : Type} {X : gX} {Q : ρ → State → Prop} {nL : Nat} {M : gM} {lv : List (Nat × Value)} {stk : List Value} {pc : Nat} {o : Option ρ} {cc : ByteArray} {ret : Option FieldType} {fr lo : Nat} (C : gC X cc RX9 nL ret fr lo) {t : Nat} (hk : kd t = gKo 9) (hd : decode cc pc = .ok (.getfield 100, 3)) (k : G X Q nL M lv (.int (M t 15) :: stk) (pc + 3) o) : G X Q nL M lv (.ref (xad X t) :: stk) pc o :=
  g_getI (T := TX9) (i := 15) C hk inX9 rfl (by decide) rfl wf_X9_100 hd k
theorem gp_X9_100 {ρ : Type} {X : gX} {Q : ρ → State → Prop} {nL : Nat} {M : gM} {lv : List (Nat × Value)} {stk : List Value} {pc : Nat} {o : Option ρ} {cc : ByteArray} {ret : Option FieldType} {fr lo : Nat} (C : gC X cc RX9 nL ret fr lo) {t : Nat} {x : Int32} (hk : kd t = gKo 9) (hd : decode cc pc = .ok (.putfield 100, 3)) (k : G X Q nL (gst M t 15 x) lv stk (pc + 3) o) : G X Q nL M lv (.int x :: .ref (xad X t) :: stk) pc o :=
  g_putI (T := TX9) (i := 15) C tyX9 tyX9_ok nmX9 hk inX9 rfl (by decide) rfl wf_X9_100 rfl (by decide +kernel) hd k
theorem gf_X9_117 {ρ : Type} {X : gX} {Q : ρ → State → Prop} {nL : Nat} {M : gM} {lv : List (Nat × Value)} {stk : List Value} {pc : Nat} {o : Option ρ} {cc : ByteArray} {ret : Option FieldType} {fr lo : Nat} (C : gC X cc RX9 nL ret fr lo) {t : Nat} (hk : kd t = gKo 9) (hd : decode cc pc = .ok (.getfield 117, 3)) (k : G X Q nL M lv (.int (M t 17) :: stk) (pc + 3) o) : G X Q nL M lv (.ref (xad X t) :: stk) pc o :=
  g_getI (T := TX9) (i := 17) C hk inX9 rfl (by decide) rfl wf_X9_117 hd k
theorem gf_X9_110 {ρ : Type} {X : gX} {Q : ρ → State → Prop} {nL : Nat} {M : gM} {lv : List (Nat × Value)} {stk : List Value} {pc : Nat} {o : Option ρ} {cc : ByteArray} {ret : Option FieldType} {fr lo : Nat} (C : gC X cc RX9 nL ret fr lo) {t : Nat} (hk : kd t = gKo 9) (hd : decode cc pc = .ok (.getfield 110, 3)) (k : G X Q nL M lv (.int (M t 16) :: stk) (pc + 3) o) : G X Q nL M lv (.ref (xad X t) :: stk) pc o :=
  g_getI (T := TX9) (i := 16) C hk inX9 rfl (by decide) rfl wf_X9_110 hd k
theorem gf_X9_159 {ρ : Type} {X : gX} {Q : ρ → State → Prop} {nL : Nat} {M : gM} {lv : List (Nat × Value)} {stk : List Value} {pc : Nat} {o : Option ρ} {cc : ByteArray} {ret : Option FieldType} {fr lo : Nat} (C : gC X cc RX9 nL ret fr lo) {t : Nat} (hk : kd t = gKo 9) (hd : decode cc pc = .ok (.getfield 159, 3)) (k : G X Q nL M lv (.int (M t 33) :: stk) (pc + 3) o) : G X Q nL M lv (.ref (xad X t) :: stk) pc o :=
  g_getI (T := TX9) (i := 33) C hk inX9 rfl (by decide) rfl wf_X9_159 hd k
theorem gf_X9_81 {ρ : Type} {X : gX} {Q : ρ → State → Prop} {nL : Nat} {M : gM} {lv : List (Nat × Value)} {stk : List Value} {pc : Nat} {o : Option ρ} {cc : ByteArray} {ret : Option FieldType} {fr lo : Nat} (C : gC X cc RX9 nL ret fr lo) {t u : Nat} (hk : kd t = gKo 9) (hu : rf t 31 = u) (hd : decode cc pc = .ok (.getfield 81, 3)) (k : G X Q nL M lv (.ref (xad X u) :: stk) (pc + 3) o) : G X Q nL M lv (.ref (xad X t) :: stk) pc o :=
  g_getR (T := TX9) (i := 31) C hk inX9 rfl (by decide) rfl wf_X9_81 hu hd k
theorem gf_X9_84 {ρ : Type} {X : gX} {Q : ρ → State → Prop} {nL : Nat} {M : gM} {lv : List (Nat × Value)} {stk : List Value} {pc : Nat} {o : Option ρ} {cc : ByteArray} {ret : Option FieldType} {fr lo : Nat} (C : gC X cc RX9 nL ret fr lo) {t u : Nat} (hk : kd t = gKo 9) (hu : rf t 32 = u) (hd : decode cc pc = .ok (.getfield 84, 3)) (k : G X Q nL M lv (.ref (xad X u) :: stk) (pc + 3) o) : G X Q nL M lv (.ref (xad X t) :: stk) pc o :=
  g_getR (T := TX9) (i := 32) C hk inX9 rfl (by decide) rfl wf_X9_84 hu hd k
theorem gf_X9_20 {ρ : Type} {X : gX} {Q : ρ → State → Prop} {nL : Nat} {M : gM} {lv : List (Nat × Value)} {stk : List Value} {pc : Nat} {o : Option ρ} {cc : ByteArray} {ret : Option FieldType} {fr lo : Nat} (C : gC X cc RX9 nL ret fr lo) {t u : Nat} (hk : kd t = gKo 9) (hu : rf t 3 = u) (hd : decode cc pc = .ok (.getfield 20, 3)) (k : G X Q nL M lv (.ref (xad X u) :: stk) (pc + 3) o) : G X Q nL M lv (.ref (xad X t) :: stk) pc o :=
  g_getR (T := TX9) (i := 3) C hk inX9 rfl (by decide) rfl wf_X9_20 hu hd k
theorem gf_X9_156 {ρ : Type} {X : gX} {Q : ρ → State → Prop} {nL : Nat} {M : gM} {lv : List (Nat × Value)} {stk : List Value} {pc : Nat} {o : Option ρ} {cc : ByteArray} {ret : Option FieldType} {fr lo : Nat} (C : gC X cc RX9 nL ret fr lo) {t : Nat} (hk : kd t = gKo 9) (hd : decode cc pc = .ok (.getfield 156, 3)) (k : G X Q nL M lv (.int (M t 30) :: stk) (pc + 3) o) : G X Q nL M lv (.ref (xad X t) :: stk) pc o :=
  g_getI (T := TX9) (i := 30) C hk inX9 rfl (by decide) rfl wf_X9_156 hd k
theorem gf_X9_75 {ρ : Type} {X : gX} {Q : ρ → State → Prop} {nL : Nat} {M : gM} {lv : List (Nat × Value)} {stk : List Value} {pc : Nat} {o : Option ρ} {cc : ByteArray} {ret : Option FieldType} {fr lo : Nat} (C : gC X cc RX9 nL ret fr lo) {t u : Nat} (hk : kd t = gKo 9) (hu : rf t 28 = u) (hd : decode cc pc = .ok (.getfield 75, 3)) (k : G X Q nL M lv (.ref (xad X u) :: stk) (pc + 3) o) : G X Q nL M lv (.ref (xad X t) :: stk) pc o :=
  g_getR (T := TX9) (i := 28) C hk inX9 rfl (by decide) rfl wf_X9_75 hu hd k
theorem gf_X9_78 {ρ : Type} {X : gX} {Q : ρ → State → Prop} {nL : Nat} {M : gM} {lv : List (Nat × Value)} {stk : List Value} {pc : Nat} {o : Option ρ} {cc : ByteArray} {ret : Option FieldType} {fr lo : Nat} (C : gC X cc RX9 nL ret fr lo) {t u : Nat} (hk : kd t = gKo 9) (hu : rf t 29 = u) (hd : decode cc pc = .ok (.getfield 78, 3)) (k : G X Q nL M lv (.ref (xad X u) :: stk) (pc + 3) o) : G X Q nL M lv (.ref (xad X t) :: stk) pc o :=
  g_getR (T := TX9) (i := 29) C hk inX9 rfl (by decide) rfl wf_X9_78 hu hd k
theorem gp_X9_156 {ρ : Type} {X : gX} {Q : ρ → State → Prop} {nL : Nat} {M : gM} {lv : List (Nat × Value)} {stk : List Value} {pc : Nat} {o : Option ρ} {cc : ByteArray} {ret : Option FieldType} {fr lo : Nat} (C : gC X cc RX9 nL ret fr lo) {t : Nat} {x : Int32} (hk : kd t = gKo 9) (hd : decode cc pc = .ok (.putfield 156, 3)) (k : G X Q nL (gst M t 30 x) lv stk (pc + 3) o) : G X Q nL M lv (.int x :: .ref (xad X t) :: stk) pc o :=
  g_putI (T := TX9) (i := 30) C tyX9 tyX9_ok nmX9 hk inX9 rfl (by decide) rfl wf_X9_156 rfl (by decide +kernel) hd k
theorem gf_X9_103 {ρ : Type} {X : gX} {Q : ρ → State → Prop} {nL : Nat} {M : gM} {lv : List (Nat × Value)} {stk : List Value} {pc : Nat} {o : Option ρ} {cc : ByteArray} {ret : Option FieldType} {fr lo : Nat} (C : gC X cc RX9 nL ret fr lo) {t : Nat} (hk : kd t = gKo 9) (hd : decode cc pc = .ok (.getfield 103, 3)) (k : G X Q nL M lv (.int (M t 18) :: stk) (pc + 3) o) : G X Q nL M lv (.ref (xad X t) :: stk) pc o :=
  g_getI (T := TX9) (i := 18) C hk inX9 rfl (by decide) rfl wf_X9_103 hd k
theorem gp_X9_103 {ρ : Type} {X : gX} {Q : ρ → State → Prop} {nL : Nat} {M : gM} {lv : List (Nat × Value)} {stk : List Value} {pc : Nat} {o : Option ρ} {cc : ByteArray} {ret : Option FieldType} {fr lo : Nat} (C : gC X cc RX9 nL ret fr lo) {t : Nat} {x : Int32} (hk : kd t = gKo 9) (hd : decode cc pc = .ok (.putfield 103, 3)) (k : G X Q nL (gst M t 18 x) lv stk (pc + 3) o) : G X Q nL M lv (.int x :: .ref (xad X t) :: stk) pc o :=
  g_putI (T := TX9) (i := 18) C tyX9 tyX9_ok nmX9 hk inX9 rfl (by decide) rfl wf_X9_103 rfl (by decide +kernel) hd k
theorem gp_X9_53 {ρ : Type} {X : gX} {Q : ρ → State → Prop} {nL : Nat} {M : gM} {lv : List (Nat × Value)} {stk : List Value} {pc : Nat} {o : Option ρ} {cc : ByteArray} {ret : Option FieldType} {fr lo : Nat} (C : gC X cc RX9 nL ret fr lo) {t : Nat} {x : Int32} (hk : kd t = gKo 9) (hd : decode cc pc = .ok (.putfield 53, 3)) (k : G X Q nL (gst M t 19 x) lv stk (pc + 3) o) : G X Q nL M lv (.int x :: .ref (xad X t) :: stk) pc o :=
  g_putI (T := TX9) (i := 19) C tyX9 tyX9_ok nmX9 hk inX9 rfl (by decide) rfl wf_X9_53 rfl (by decide +kernel) hd k
theorem gp_X9_110 {ρ : Type} {X : gX} {Q : ρ → State → Prop} {nL : Nat} {M : gM} {lv : List (Nat × Value)} {stk : List Value} {pc : Nat} {o : Option ρ} {cc : ByteArray} {ret : Option FieldType} {fr lo : Nat} (C : gC X cc RX9 nL ret fr lo) {t : Nat} {x : Int32} (hk : kd t = gKo 9) (hd : decode cc pc = .ok (.putfield 110, 3)) (k : G X Q nL (gst M t 16 x) lv stk (pc + 3) o) : G X Q nL M lv (.int x :: .ref (xad X t) :: stk) pc o :=
  g_putI (T := TX9) (i := 16) C tyX9 tyX9_ok nmX9 hk inX9 rfl (by decide) rfl wf_X9_110 rfl (by decide +kernel) hd k
theorem gp_X9_117 {ρ : Type} {X : gX} {Q : ρ → State → Prop} {nL : Nat} {M : gM} {lv : List (Nat × Value)} {stk : List Value} {pc : Nat} {o : Option ρ} {cc : ByteArray} {ret : Option FieldType} {fr lo : Nat} (C : gC X cc RX9 nL ret fr lo) {t : Nat} {x : Int32} (hk : kd t = gKo 9) (hd : decode cc pc = .ok (.putfield 117, 3)) (k : G X Q nL (gst M t 17 x) lv stk (pc + 3) o) : G X Q nL M lv (.int x :: .ref (xad X t) :: stk) pc o :=
  g_putI (T := TX9) (i := 17) C tyX9 tyX9_ok nmX9 hk inX9 rfl (by decide) rfl wf_X9_117 rfl (by decide +kernel) hd k
theorem gf_X9_23 {ρ : Type} {X : gX} {Q : ρ → State → Prop} {nL : Nat} {M : gM} {lv : List (Nat × Value)} {stk : List Value} {pc : Nat} {o : Option ρ} {cc : ByteArray} {ret : Option FieldType} {fr lo : Nat} (C : gC X cc RX9 nL ret fr lo) {t u : Nat} (hk : kd t = gKo 9) (hu : rf t 4 = u) (hd : decode cc pc = .ok (.getfield 23, 3)) (k : G X Q nL M lv (.ref (xad X u) :: stk) (pc + 3) o) : G X Q nL M lv (.ref (xad X t) :: stk) pc o :=
  g_getR (T := TX9) (i := 4) C hk inX9 rfl (by decide) rfl wf_X9_23 hu hd k
theorem gf_X9_26 {ρ : Type} {X : gX} {Q : ρ → State → Prop} {nL : Nat} {M : gM} {lv : List (Nat × Value)} {stk : List Value} {pc : Nat} {o : Option ρ} {cc : ByteArray} {ret : Option FieldType} {fr lo : Nat} (C : gC X cc RX9 nL ret fr lo) {t u : Nat} (hk : kd t = gKo 9) (hu : rf t 5 = u) (hd : decode cc pc = .ok (.getfield 26, 3)) (k : G X Q nL M lv (.ref (xad X u) :: stk) (pc + 3) o) : G X Q nL M lv (.ref (xad X t) :: stk) pc o :=
  g_getR (T := TX9) (i := 5) C hk inX9 rfl (by decide) rfl wf_X9_26 hu hd k
theorem gp_X9_159 {ρ : Type} {X : gX} {Q : ρ → State → Prop} {nL : Nat} {M : gM} {lv : List (Nat × Value)} {stk : List Value} {pc : Nat} {o : Option ρ} {cc : ByteArray} {ret : Option FieldType} {fr lo : Nat} (C : gC X cc RX9 nL ret fr lo) {t : Nat} {x : Int32} (hk : kd t = gKo 9) (hd : decode cc pc = .ok (.putfield 159, 3)) (k : G X Q nL (gst M t 33 x) lv stk (pc + 3) o) : G X Q nL M lv (.int x :: .ref (xad X t) :: stk) pc o :=
  g_putI (T := TX9) (i := 33) C tyX9 tyX9_ok nmX9 hk inX9 rfl (by decide) rfl wf_X9_159 rfl (by decide +kernel) hd k
theorem gp_X9_168 {ρ : Type} {X : gX} {Q : ρ → State → Prop} {nL : Nat} {M : gM} {lv : List (Nat × Value)} {stk : List Value} {pc : Nat} {o : Option ρ} {cc : ByteArray} {ret : Option FieldType} {fr lo : Nat} (C : gC X cc RX9 nL ret fr lo) {t : Nat} {x : Int32} (hk : kd t = gKo 9) (hd : decode cc pc = .ok (.putfield 168, 3)) (k : G X Q nL (gst M t 22 x) lv stk (pc + 3) o) : G X Q nL M lv (.int x :: .ref (xad X t) :: stk) pc o :=
  g_putI (T := TX9) (i := 22) C tyX9 tyX9_ok nmX9 hk inX9 rfl (by decide) rfl wf_X9_168 rfl (by decide +kernel) hd k
