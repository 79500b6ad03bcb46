theorem dX2_isLook_37 : decode cX2_isLook 37 = .ok (.getfield 21, 3) := by decide +kernel
theorem dX2_isLook_40 : decode cX2_isLook 40 = .ok (.iload_n 1, 1) := by decide +kernel
theorem dX2_isLook_41 : decode cX2_isLook 41 = .ok (.iload_n 2, 1) := by decide +kernel
theorem dX2_isLook_42 : decode cX2_isLook 42 = .ok (.invokevirtual 46, 3) := by decide +kernel
theorem dX2_isLook_45 : decode cX2_isLook 45 = .ok (.ifCond .ne 31, 3) := by decide +kernel
theorem dX2_isLook_48 : decode cX2_isLook 48 = .ok (.aload_n 0, 1) := by decide +kernel
theorem dX2_isLook_49 : decode cX2_isLook 49 = .ok (.getfield 21, 3) := by decide +kernel
theorem dX2_isLook_52 : decode cX2_isLook 52 = .ok (.iload_n 1, 1) := by decide +kernel
theorem dX2_isLook_53 : decode cX2_isLook 53 = .ok (.iload_n 3, 1) := by decide +kernel
theorem dX2_isLook_54 : decode cX2_isLook 54 = .ok (.invokevirtual 46, 3) := by decide +kernel
theorem dX2_isLook_57 : decode cX2_isLook 57 = .ok (.ifCond .ne 19, 3) := by decide +kernel
theorem dX2_isLook_60 : decode cX2_isLook 60 = .ok (.aload_n 0, 1) := by decide +kernel
theorem dX2_isLook_61 : decode cX2_isLook 61 = .ok (.getfield 21, 3) := by decide +kernel
theorem dX2_isLook_64 : decode cX2_isLook 64 = .ok (.iload_n 2, 1) := by decide +kernel
theorem dX2_isLook_65 : decode cX2_isLook 65 = .ok (.iload_n 3, 1) := by decide +kernel
theorem dX2_isLook_66 : decode cX2_isLook 66 = .ok (.invokevirtual 46, 3) := by decide +kernel
theorem dX2_isLook_69 : decode cX2_isLook 69 = .ok (.ifCond .ne 7, 3) := by decide +kernel
theorem dX2_isLook_72 : decode cX2_isLook 72 = .ok (.iconst 1, 1) := by decide +kernel
theorem dX2_isLook_73 : decode cX2_isLook 73 = .ok (.goto 4, 3) := by decide +kernel
theorem dX2_isLook_76 : decode cX2_isLook 76 = .ok (.iconst 0, 1) := by decide +kernel
theorem dX2_isLook_77 : decode cX2_isLook 77 = .ok (.ireturn, 1) := by decide +kernel
theorem dX2_partsOf_0 : decode cX2_partsOf 0 = .ok (.iload_n 1, 1) := by decide +kernel
theorem dX2_partsOf_1 : decode cX2_partsOf 1 = .ok (.ifCond .lt 40, 3) := by decide +kernel
theorem dX2_partsOf_4 : decode cX2_partsOf 4 = .ok (.iload_n 1, 1) := by decide +kernel
theorem dX2_partsOf_5 : decode cX2_partsOf 5 = .ok (.aload_n 0, 1) := by decide +kernel
theorem dX2_partsOf_6 : decode cX2_partsOf 6 = .ok (.getfield 29, 3) := by decide +kernel
theorem dX2_partsOf_9 : decode cX2_partsOf 9 = .ok (.if_icmp .ge 32, 3) := by decide +kernel
theorem dX2_partsOf_12 : decode cX2_partsOf 12 = .ok (.iconst 1, 1) := by decide +kernel
theorem dX2_partsOf_13 : decode cX2_partsOf 13 = .ok (.aload_n 0, 1) := by decide +kernel
theorem dX2_partsOf_14 : decode cX2_partsOf 14 = .ok (.getfield 11, 3) := by decide +kernel
theorem dX2_partsOf_17 : decode cX2_partsOf 17 = .ok (.iload_n 1, 1) := by decide +kernel
theorem dX2_partsOf_18 : decode cX2_partsOf 18 = .ok (.iaload, 1) := by decide +kernel
theorem dX2_partsOf_19 : decode cX2_partsOf 19 = .ok (.ishl, 1) := by decide +kernel
theorem dX2_partsOf_20 : decode cX2_partsOf 20 = .ok (.iconst 1, 1) := by decide +kernel
theorem dX2_partsOf_21 : decode cX2_partsOf 21 = .ok (.aload_n 0, 1) := by decide +kernel
theorem dX2_partsOf_22 : decode cX2_partsOf 22 = .ok (.getfield 15, 3) := by decide +kernel
theorem dX2_partsOf_25 : decode cX2_partsOf 25 = .ok (.iload_n 1, 1) := by decide +kernel
theorem dX2_partsOf_26 : decode cX2_partsOf 26 = .ok (.iaload, 1) := by decide +kernel
theorem dX2_partsOf_27 : decode cX2_partsOf 27 = .ok (.ishl, 1) := by decide +kernel
theorem dX2_partsOf_28 : decode cX2_partsOf 28 = .ok (.ior, 1) := by decide +kernel
theorem dX2_partsOf_29 : decode cX2_partsOf 29 = .ok (.iconst 1, 1) := by decide +kernel
theorem dX2_partsOf_30 : decode cX2_partsOf 30 = .ok (.aload_n 0, 1) := by decide +kernel
theorem dX2_partsOf_31 : decode cX2_partsOf 31 = .ok (.getfield 18, 3) := by decide +kernel
theorem dX2_partsOf_34 : decode cX2_partsOf 34 = .ok (.iload_n 1, 1) := by decide +kernel
theorem dX2_partsOf_35 : decode cX2_partsOf 35 = .ok (.iaload, 1) := by decide +kernel
theorem dX2_partsOf_36 : decode cX2_partsOf 36 = .ok (.ishl, 1) := by decide +kernel
theorem dX2_partsOf_37 : decode cX2_partsOf 37 = .ok (.ior, 1) := by decide +kernel
theorem dX2_partsOf_38 : decode cX2_partsOf 38 = .ok (.goto 4, 3) := by decide +kernel
theorem dX2_partsOf_41 : decode cX2_partsOf 41 = .ok (.iconst 0, 1) := by decide +kernel
theorem dX2_partsOf_42 : decode cX2_partsOf 42 = .ok (.ireturn, 1) := by decide +kernel
theorem dX2_widthOf_0 : decode cX2_widthOf 0 = .ok (.aload_n 0, 1) := by decide +kernel
theorem dX2_widthOf_1 : decode cX2_widthOf 1 = .ok (.iload_n 1, 1) := by decide +kernel
theorem dX2_widthOf_2 : decode cX2_widthOf 2 = .ok (.aload_n 0, 1) := by decide +kernel
theorem dX2_widthOf_3 : decode cX2_widthOf 3 = .ok (.getfield 25, 3) := by decide +kernel
theorem dX2_widthOf_6 : decode cX2_widthOf 6 = .ok (.getfield 49, 3) := by decide +kernel
theorem dX2_widthOf_9 : decode cX2_widthOf 9 = .ok (.invokevirtual 54, 3) := by decide +kernel
theorem dX2_widthOf_12 : decode cX2_widthOf 12 = .ok (.ireturn, 1) := by decide +kernel
theorem dX2_priceOf_0 : decode cX2_priceOf 0 = .ok (.aload_n 0, 1) := by decide +kernel
theorem dX2_priceOf_1 : decode cX2_priceOf 1 = .ok (.iload_n 1, 1) := by decide +kernel
theorem dX2_priceOf_2 : decode cX2_priceOf 2 = .ok (.aload_n 0, 1) := by decide +kernel
theorem dX2_priceOf_3 : decode cX2_priceOf 3 = .ok (.getfield 25, 3) := by decide +kernel
theorem dX2_priceOf_6 : decode cX2_priceOf 6 = .ok (.getfield 58, 3) := by decide +kernel
theorem dX2_priceOf_9 : decode cX2_priceOf 9 = .ok (.invokevirtual 54, 3) := by decide +kernel
theorem dX2_priceOf_12 : decode cX2_priceOf 12 = .ok (.ireturn, 1) := by decide +kernel
theorem dX2_sumOf_0 : decode cX2_sumOf 0 = .ok (.iload_n 1, 1) := by decide +kernel
theorem dX2_sumOf_1 : decode cX2_sumOf 1 = .ok (.ifCond .lt 18, 3) := by decide +kernel
theorem dX2_sumOf_4 : decode cX2_sumOf 4 = .ok (.iload_n 1, 1) := by decide +kernel
theorem dX2_sumOf_5 : decode cX2_sumOf 5 = .ok (.aload_n 0, 1) := by decide +kernel
theorem dX2_sumOf_6 : decode cX2_sumOf 6 = .ok (.getfield 29, 3) := by decide +kernel
theorem dX2_sumOf_9 : decode cX2_sumOf 9 = .ok (.if_icmp .ge 10, 3) := by decide +kernel
theorem dX2_sumOf_12 : decode cX2_sumOf 12 = .ok (.aload_n 2, 1) := by decide +kernel
theorem dX2_sumOf_13 : decode cX2_sumOf 13 = .ok (.arraylength, 1) := by decide +kernel
theorem dX2_sumOf_14 : decode cX2_sumOf 14 = .ok (.bipush 10, 2) := by decide +kernel
theorem dX2_sumOf_16 : decode cX2_sumOf 16 = .ok (.if_icmp .ge 5, 3) := by decide +kernel
theorem dX2_sumOf_19 : decode cX2_sumOf 19 = .ok (.iconst 0, 1) := by decide +kernel
theorem dX2_sumOf_20 : decode cX2_sumOf 20 = .ok (.ireturn, 1) := by decide +kernel
theorem dX2_sumOf_21 : decode cX2_sumOf 21 = .ok (.aload_n 2, 1) := by decide +kernel
theorem dX2_sumOf_22 : decode cX2_sumOf 22 = .ok (.aload_n 0, 1) := by decide +kernel
theorem dX2_sumOf_23 : decode cX2_sumOf 23 = .ok (.getfield 11, 3) := by decide +kernel
theorem dX2_sumOf_26 : decode cX2_sumOf 26 = .ok (.iload_n 1, 1) := by decide +kernel
theorem dX2_sumOf_27 : decode cX2_sumOf 27 = .ok (.iaload, 1) := by decide +kernel
theorem dX2_sumOf_28 : decode cX2_sumOf 28 = .ok (.iaload, 1) := by decide +kernel
theorem dX2_sumOf_29 : decode cX2_sumOf 29 = .ok (.aload_n 2, 1) := by decide +kernel
theorem dX2_sumOf_30 : decode cX2_sumOf 30 = .ok (.aload_n 0, 1) := by decide +kernel
theorem dX2_sumOf_31 : decode cX2_sumOf 31 = .ok (.getfield 15, 3) := by decide +kernel
theorem dX2_sumOf_34 : decode cX2_sumOf 34 = .ok (.iload_n 1, 1) := by decide +kernel
theorem dX2_sumOf_35 : decode cX2_sumOf 35 = .ok (.iaload, 1) := by decide +kernel
theorem dX2_sumOf_36 : decode cX2_sumOf 36 = .ok (.iaload, 1) := by decide +kernel
theorem dX2_sumOf_37 : decode cX2_sumOf 37 = .ok (.iadd, 1) := by decide +kernel
theorem dX2_sumOf_38 : decode cX2_sumOf 38 = .ok (.aload_n 2, 1) := by decide +kernel
theorem dX2_sumOf_39 : decode cX2_sumOf 39 = .ok (.aload_n 0, 1) := by decide +kernel
theorem dX2_sumOf_40 : decode cX2_sumOf 40 = .ok (.getfield 18, 3) := by decide +kernel
theorem dX2_sumOf_43 : decode cX2_sumOf 43 = .ok (.iload_n 1, 1) := by decide +kernel
theorem dX2_sumOf_44 : decode cX2_sumOf 44 = .ok (.iaload, 1) := by decide +kernel
theorem dX2_sumOf_45 : decode cX2_sumOf 45 = .ok (.iaload, 1) := by decide +kernel
theorem dX2_sumOf_46 : decode cX2_sumOf 46 = .ok (.iadd, 1) := by decide +kernel
theorem dX2_sumOf_47 : decode cX2_sumOf 47 = .ok (.ireturn, 1) := by decide +kernel
theorem dX2_widthsIf_0 : decode cX2_widthsIf 0 = .ok (.iconst 0, 1) := by decide +kernel
theorem dX2_widthsIf_1 : decode cX2_widthsIf 1 = .ok (.istore_n 3, 1) := by decide +kernel
theorem dX2_widthsIf_2 : decode cX2_widthsIf 2 = .ok (.iconst 0, 1) := by decide +kernel
theorem dX2_widthsIf_3 : decode cX2_widthsIf 3 = .ok (.istore 4, 2) := by decide +kernel
theorem dX2_widthsIf_5 : decode cX2_widthsIf 5 = .ok (.iload 4, 2) := by decide +kernel
theorem dX2_widthsIf_7 : decode cX2_widthsIf 7 = .ok (.aload_n 0, 1) := by decide +kernel
theorem dX2_widthsIf_8 : decode cX2_widthsIf 8 = .ok (.getfield 29, 3) := by decide +kernel
theorem dX2_widthsIf_11 : decode cX2_widthsIf 11 = .ok (.if_icmp .ge 64, 3) := by decide +kernel
theorem dX2_widthsIf_14 : decode cX2_widthsIf 14 = .ok (.aload_n 0, 1) := by decide +kernel
theorem dX2_widthsIf_15 : decode cX2_widthsIf 15 = .ok (.iload 4, 2) := by decide +kernel
theorem dX2_widthsIf_17 : decode cX2_widthsIf 17 = .ok (.invokevirtual 61, 3) := by decide +kernel
theorem dX2_widthsIf_20 : decode cX2_widthsIf 20 = .ok (.istore 5, 2) := by decide +kernel
theorem dX2_widthsIf_22 : decode cX2_widthsIf 22 = .ok (.aload_n 0, 1) := by decide +kernel
theorem dX2_widthsIf_23 : decode cX2_widthsIf 23 = .ok (.getfield 21, 3) := by decide +kernel
theorem dX2_widthsIf_26 : decode cX2_widthsIf 26 = .ok (.iload_n 1, 1) := by decide +kernel
theorem dX2_widthsIf_27 : decode cX2_widthsIf 27 = .ok (.invokevirtual 65, 3) := by decide +kernel
theorem dX2_widthsIf_30 : decode cX2_widthsIf 30 = .ok (.ifCond .eq 32, 3) := by decide +kernel
theorem dX2_widthsIf_33 : decode cX2_widthsIf 33 = .ok (.aload_n 0, 1) := by decide +kernel
theorem dX2_widthsIf_34 : decode cX2_widthsIf 34 = .ok (.iload 4, 2) := by decide +kernel
theorem dX2_widthsIf_36 : decode cX2_widthsIf 36 = .ok (.invokevirtual 69, 3) := by decide +kernel
theorem dX2_widthsIf_39 : decode cX2_widthsIf 39 = .ok (.iload_n 1, 1) := by decide +kernel
theorem dX2_widthsIf_40 : decode cX2_widthsIf 40 = .ok (.invokestatic 72, 3) := by decide +kernel
theorem dX2_widthsIf_43 : decode cX2_widthsIf 43 = .ok (.ifCond .eq 19, 3) := by decide +kernel
theorem dX2_widthsIf_46 : decode cX2_widthsIf 46 = .ok (.iload 5, 2) := by decide +kernel
theorem dX2_widthsIf_48 : decode cX2_widthsIf 48 = .ok (.iload_n 2, 1) := by decide +kernel
theorem dX2_widthsIf_49 : decode cX2_widthsIf 49 = .ok (.aload_n 0, 1) := by decide +kernel
theorem dX2_widthsIf_50 : decode cX2_widthsIf 50 = .ok (.getfield 25, 3) := by decide +kernel
theorem dX2_widthsIf_53 : decode cX2_widthsIf 53 = .ok (.getfield 49, 3) := by decide +kernel
theorem dX2_widthsIf_56 : decode cX2_widthsIf 56 = .ok (.iload_n 1, 1) := by decide +kernel
theorem dX2_widthsIf_57 : decode cX2_widthsIf 57 = .ok (.iaload, 1) := by decide +kernel
theorem dX2_widthsIf_58 : decode cX2_widthsIf 58 = .ok (.isub, 1) := by decide +kernel
theorem dX2_widthsIf_59 : decode cX2_widthsIf 59 = .ok (.iadd, 1) := by decide +kernel
theorem dX2_widthsIf_60 : decode cX2_widthsIf 60 = .ok (.istore 5, 2) := by decide +kernel
theorem dX2_widthsIf_62 : decode cX2_widthsIf 62 = .ok (.iload_n 3, 1) := by decide +kernel
theorem dX2_widthsIf_63 : decode cX2_widthsIf 63 = .ok (.iconst 1, 1) := by decide +kernel
theorem dX2_widthsIf_64 : decode cX2_widthsIf 64 = .ok (.iload 5, 2) := by decide +kernel
theorem dX2_widthsIf_66 : decode cX2_widthsIf 66 = .ok (.ishl, 1) := by decide +kernel
theorem dX2_widthsIf_67 : decode cX2_widthsIf 67 = .ok (.ior, 1) := by decide +kernel
theorem dX2_widthsIf_68 : decode cX2_widthsIf 68 = .ok (.istore_n 3, 1) := by decide +kernel
theorem dX2_widthsIf_69 : decode cX2_widthsIf 69 = .ok (.iinc 4 1, 3) := by decide +kernel
theorem dX2_widthsIf_72 : decode cX2_widthsIf 72 = .ok (.goto (-67), 3) := by decide +kernel
theorem dX2_widthsIf_75 : decode cX2_widthsIf 75 = .ok (.iload_n 3, 1) := by decide +kernel
theorem dX2_widthsIf_76 : decode cX2_widthsIf 76 = .ok (.ireturn, 1) := by decide +kernel
theorem dX2_isFor_0 : decode cX2_isFor 0 = .ok (.aload_n 0, 1) := by decide +kernel
theorem dX2_isFor_1 : decode cX2_isFor 1 = .ok (.getfield 21, 3) := by decide +kernel
theorem dX2_isFor_4 : decode cX2_isFor 4 = .ok (.iload_n 2, 1) := by decide +kernel
theorem dX2_isFor_5 : decode cX2_isFor 5 = .ok (.invokevirtual 75, 3) := by decide +kernel
theorem dX2_isFor_8 : decode cX2_isFor 8 = .ok (.ifCond .eq 15, 3) := by decide +kernel
theorem dX2_isFor_11 : decode cX2_isFor 11 = .ok (.aload_n 0, 1) := by decide +kernel
theorem dX2_isFor_12 : decode cX2_isFor 12 = .ok (.iload_n 1, 1) := by decide +kernel
theorem dX2_isFor_13 : decode cX2_isFor 13 = .ok (.invokevirtual 69, 3) := by decide +kernel
theorem dX2_isFor_16 : decode cX2_isFor 16 = .ok (.iload_n 3, 1) := by decide +kernel
theorem dX2_isFor_17 : decode cX2_isFor 17 = .ok (.iconst (-1), 1) := by decide +kernel
theorem dX2_isFor_18 : decode cX2_isFor 18 = .ok (.ixor, 1) := by decide +kernel
theorem dX2_isFor_19 : decode cX2_isFor 19 = .ok (.iand, 1) := by decide +kernel
theorem dX2_isFor_20 : decode cX2_isFor 20 = .ok (.ifCond .eq 5, 3) := by decide +kernel
theorem dX2_isFor_23 : decode cX2_isFor 23 = .ok (.iconst 0, 1) := by decide +kernel
theorem dX2_isFor_24 : decode cX2_isFor 24 = .ok (.ireturn, 1) := by decide +kernel
theorem dX2_isFor_25 : decode cX2_isFor 25 = .ok (.aload_n 0, 1) := by decide +kernel
theorem dX2_isFor_26 : decode cX2_isFor 26 = .ok (.iload_n 1, 1) := by decide +kernel
theorem dX2_isFor_27 : decode cX2_isFor 27 = .ok (.aload_n 0, 1) := by decide +kernel
theorem dX2_isFor_28 : decode cX2_isFor 28 = .ok (.getfield 25, 3) := by decide +kernel
theorem dX2_isFor_31 : decode cX2_isFor 31 = .ok (.getfield 49, 3) := by decide +kernel
theorem dX2_isFor_34 : decode cX2_isFor 34 = .ok (.invokevirtual 54, 3) := by decide +kernel
theorem dX2_isFor_37 : decode cX2_isFor 37 = .ok (.istore 4, 2) := by decide +kernel
theorem dX2_isFor_39 : decode cX2_isFor 39 = .ok (.aload_n 0, 1) := by decide +kernel
theorem dX2_isFor_40 : decode cX2_isFor 40 = .ok (.getfield 21, 3) := by decide +kernel
theorem dX2_isFor_43 : decode cX2_isFor 43 = .ok (.getfield 78, 3) := by decide +kernel
theorem dX2_isFor_46 : decode cX2_isFor 46 = .ok (.iload_n 2, 1) := by decide +kernel
theorem dX2_isFor_47 : decode cX2_isFor 47 = .ok (.iaload, 1) := by decide +kernel
theorem dX2_isFor_48 : decode cX2_isFor 48 = .ok (.iload 4, 2) := by decide +kernel
theorem dX2_isFor_50 : decode cX2_isFor 50 = .ok (.if_icmp .gt 21, 3) := by decide +kernel
theorem dX2_isFor_53 : decode cX2_isFor 53 = .ok (.iload 4, 2) := by decide +kernel
theorem dX2_isFor_55 : decode cX2_isFor 55 = .ok (.aload_n 0, 1) := by decide +kernel
theorem dX2_isFor_56 : decode cX2_isFor 56 = .ok (.getfield 21, 3) := by decide +kernel
theorem dX2_isFor_59 : decode cX2_isFor 59 = .ok (.getfield 81, 3) := by decide +kernel
theorem dX2_isFor_62 : decode cX2_isFor 62 = .ok (.iload_n 2, 1) := by decide +kernel
theorem dX2_isFor_63 : decode cX2_isFor 63 = .ok (.iaload, 1) := by decide +kernel
theorem dX2_isFor_64 : decode cX2_isFor 64 = .ok (.if_icmp .gt 7, 3) := by decide +kernel
theorem dX2_isFor_67 : decode cX2_isFor 67 = .ok (.iconst 1, 1) := by decide +kernel
theorem dX2_isFor_68 : decode cX2_isFor 68 = .ok (.goto 4, 3) := by decide +kernel
theorem dX2_isFor_71 : decode cX2_isFor 71 = .ok (.iconst 0, 1) := by decide +kernel
theorem dX2_isFor_72 : decode cX2_isFor 72 = .ok (.ireturn, 1) := by decide +kernel
theorem dX2_cheapestFor_0 : decode cX2_cheapestFor 0 = .ok (.aload_n 0, 1) := by decide +kernel
theorem dX2_cheapestFor_1 : decode cX2_cheapestFor 1 = .ok (.getfield 21, 3) := by decide +kernel
theorem dX2_cheapestFor_4 : decode cX2_cheapestFor 4 = .ok (.iload_n 1, 1) := by decide +kernel
theorem dX2_cheapestFor_5 : decode cX2_cheapestFor 5 = .ok (.invokevirtual 75, 3) := by decide +kernel
theorem dX2_cheapestFor_8 : decode cX2_cheapestFor 8 = .ok (.ifCond .ne 5, 3) := by decide +kernel
theorem dX2_cheapestFor_11 : decode cX2_cheapestFor 11 = .ok (.iconst (-1), 1) := by decide +kernel
theorem dX2_cheapestFor_12 : decode cX2_cheapestFor 12 = .ok (.ireturn, 1) := by decide +kernel
theorem dX2_cheapestFor_13 : decode cX2_cheapestFor 13 = .ok (.aload_n 0, 1) := by decide +kernel
theorem dX2_cheapestFor_14 : decode cX2_cheapestFor 14 = .ok (.getfield 21, 3) := by decide +kernel
theorem dX2_cheapestFor_17 : decode cX2_cheapestFor 17 = .ok (.aload_n 0, 1) := by decide +kernel
theorem dX2_cheapestFor_18 : decode cX2_cheapestFor 18 = .ok (.getfield 21, 3) := by decide +kernel
theorem dX2_cheapestFor_21 : decode cX2_cheapestFor 21 = .ok (.getfield 84, 3) := by decide +kernel
theorem dX2_cheapestFor_24 : decode cX2_cheapestFor 24 = .ok (.iload_n 1, 1) := by decide +kernel
theorem dX2_cheapestFor_25 : decode cX2_cheapestFor 25 = .ok (.iaload, 1) := by decide +kernel
theorem dX2_cheapestFor_26 : decode cX2_cheapestFor 26 = .ok (.invokevirtual 87, 3) := by decide +kernel
theorem dX2_cheapestFor_29 : decode cX2_cheapestFor 29 = .ok (.istore_n 2, 1) := by decide +kernel
theorem dX2_cheapestFor_30 : decode cX2_cheapestFor 30 = .ok (.iconst (-1), 1) := by decide +kernel
theorem dX2_cheapestFor_31 : decode cX2_cheapestFor 31 = .ok (.istore_n 3, 1) := by decide +kernel
theorem dX2_cheapestFor_32 : decode cX2_cheapestFor 32 = .ok (.iconst 0, 1) := by decide +kernel
theorem dX2_cheapestFor_33 : decode cX2_cheapestFor 33 = .ok (.istore 4, 2) := by decide +kernel
theorem dX2_cheapestFor_35 : decode cX2_cheapestFor 35 = .ok (.iload 4, 2) := by decide +kernel
theorem dX2_cheapestFor_37 : decode cX2_cheapestFor 37 = .ok (.aload_n 0, 1) := by decide +kernel
theorem dX2_cheapestFor_38 : decode cX2_cheapestFor 38 = .ok (.getfield 29, 3) := by decide +kernel
theorem dX2_cheapestFor_41 : decode cX2_cheapestFor 41 = .ok (.if_icmp .ge 42, 3) := by decide +kernel
theorem dX2_cheapestFor_44 : decode cX2_cheapestFor 44 = .ok (.aload_n 0, 1) := by decide +kernel
theorem dX2_cheapestFor_45 : decode cX2_cheapestFor 45 = .ok (.iload 4, 2) := by decide +kernel
theorem dX2_cheapestFor_47 : decode cX2_cheapestFor 47 = .ok (.iload_n 1, 1) := by decide +kernel
theorem dX2_cheapestFor_48 : decode cX2_cheapestFor 48 = .ok (.iload_n 2, 1) := by decide +kernel
theorem dX2_cheapestFor_49 : decode cX2_cheapestFor 49 = .ok (.invokevirtual 90, 3) := by decide +kernel
theorem dX2_cheapestFor_52 : decode cX2_cheapestFor 52 = .ok (.ifCond .eq 25, 3) := by decide +kernel
theorem dX2_cheapestFor_55 : decode cX2_cheapestFor 55 = .ok (.iload_n 3, 1) := by decide +kernel
theorem dX2_cheapestFor_56 : decode cX2_cheapestFor 56 = .ok (.iconst (-1), 1) := by decide +kernel
theorem dX2_cheapestFor_57 : decode cX2_cheapestFor 57 = .ok (.if_icmp .eq 17, 3) := by decide +kernel
theorem dX2_cheapestFor_60 : decode cX2_cheapestFor 60 = .ok (.aload_n 0, 1) := by decide +kernel
theorem dX2_cheapestFor_61 : decode cX2_cheapestFor 61 = .ok (.iload 4, 2) := by decide +kernel
theorem dX2_cheapestFor_63 : decode cX2_cheapestFor 63 = .ok (.invokevirtual 93, 3) := by decide +kernel
theorem dX2_cheapestFor_66 : decode cX2_cheapestFor 66 = .ok (.aload_n 0, 1) := by decide +kernel
theorem dX2_cheapestFor_67 : decode cX2_cheapestFor 67 = .ok (.iload_n 3, 1) := by decide +kernel
theorem dX2_cheapestFor_68 : decode cX2_cheapestFor 68 = .ok (.invokevirtual 93, 3) := by decide +kernel
theorem dX2_cheapestFor_71 : decode cX2_cheapestFor 71 = .ok (.if_icmp .ge 6, 3) := by decide +kernel
theorem dX2_cheapestFor_74 : decode cX2_cheapestFor 74 = .ok (.iload 4, 2) := by decide +kernel
theorem dX2_cheapestFor_76 : decode cX2_cheapestFor 76 = .ok (.istore_n 3, 1) := by decide +kernel
theorem dX2_cheapestFor_77 : decode cX2_cheapestFor 77 = .ok (.iinc 4 1, 3) := by decide +kernel
theorem dX2_cheapestFor_80 : decode cX2_cheapestFor 80 = .ok (.goto (-45), 3) := by decide +kernel
theorem dX2_cheapestFor_83 : decode cX2_cheapestFor 83 = .ok (.iload_n 3, 1) := by decide +kernel
theorem dX2_cheapestFor_84 : decode cX2_cheapestFor 84 = .ok (.ireturn, 1) := by decide +kernel
theorem dX2_mayMarry_0 : decode cX2_mayMarry 0 = .ok (.aload_n 0, 1) := by decide +kernel
theorem dX2_mayMarry_1 : decode cX2_mayMarry 1 = .ok (.iload_n 1, 1) := by decide +kernel
theorem dX2_mayMarry_2 : decode cX2_mayMarry 2 = .ok (.invokevirtual 69, 3) := by decide +kernel
theorem dX2_mayMarry_5 : decode cX2_mayMarry 5 = .ok (.istore 4, 2) := by decide +kernel
theorem dX2_mayMarry_7 : decode cX2_mayMarry 7 = .ok (.aload_n 0, 1) := by decide +kernel
theorem dX2_mayMarry_8 : decode cX2_mayMarry 8 = .ok (.iload_n 2, 1) := by decide +kernel
theorem dX2_mayMarry_9 : decode cX2_mayMarry 9 = .ok (.invokevirtual 69, 3) := by decide +kernel
theorem dX2_mayMarry_12 : decode cX2_mayMarry 12 = .ok (.istore 5, 2) := by decide +kernel
theorem dX2_mayMarry_14 : decode cX2_mayMarry 14 = .ok (.iload 4, 2) := by decide +kernel
theorem dX2_mayMarry_16 : decode cX2_mayMarry 16 = .ok (.iload 5, 2) := by decide +kernel
theorem dX2_mayMarry_18 : decode cX2_mayMarry 18 = .ok (.ior, 1) := by decide +kernel
theorem dX2_mayMarry_19 : decode cX2_mayMarry 19 = .ok (.iload_n 3, 1) := by decide +kernel
theorem dX2_mayMarry_20 : decode cX2_mayMarry 20 = .ok (.iconst (-1), 1) := by decide +kernel
theorem dX2_mayMarry_21 : decode cX2_mayMarry 21 = .ok (.ixor, 1) := by decide +kernel
theorem dX2_mayMarry_22 : decode cX2_mayMarry 22 = .ok (.iand, 1) := by decide +kernel
theorem dX2_mayMarry_23 : decode cX2_mayMarry 23 = .ok (.ifCond .ne 28, 3) := by decide +kernel
theorem dX2_mayMarry_26 : decode cX2_mayMarry 26 = .ok (.iload 4, 2) := by decide +kernel
theorem dX2_mayMarry_28 : decode cX2_mayMarry 28 = .ok (.iload 5, 2) := by decide +kernel
theorem dX2_mayMarry_30 : decode cX2_mayMarry 30 = .ok (.iand, 1) := by decide +kernel
theorem dX2_mayMarry_31 : decode cX2_mayMarry 31 = .ok (.ifCond .ne 20, 3) := by decide +kernel
theorem dX2_mayMarry_34 : decode cX2_mayMarry 34 = .ok (.aload_n 0, 1) := by decide +kernel
theorem dX2_mayMarry_35 : decode cX2_mayMarry 35 = .ok (.iload_n 1, 1) := by decide +kernel
theorem dX2_mayMarry_36 : decode cX2_mayMarry 36 = .ok (.invokevirtual 61, 3) := by decide +kernel
theorem dX2_mayMarry_39 : decode cX2_mayMarry 39 = .ok (.aload_n 0, 1) := by decide +kernel
theorem dX2_mayMarry_40 : decode cX2_mayMarry 40 = .ok (.iload_n 2, 1) := by decide +kernel
theorem dX2_mayMarry_41 : decode cX2_mayMarry 41 = .ok (.invokevirtual 61, 3) := by decide +kernel
theorem dX2_mayMarry_44 : decode cX2_mayMarry 44 = .ok (.if_icmp .ne 7, 3) := by decide +kernel
theorem dX2_mayMarry_47 : decode cX2_mayMarry 47 = .ok (.iconst 1, 1) := by decide +kernel
theorem dX2_mayMarry_48 : decode cX2_mayMarry 48 = .ok (.goto 4, 3) := by decide +kernel
theorem dX2_mayMarry_51 : decode cX2_mayMarry 51 = .ok (.iconst 0, 1) := by decide +kernel
theorem dX2_mayMarry_52 : decode cX2_mayMarry 52 = .ok (.ireturn, 1) := by decide +kernel
theorem dX3_init_0 : decode cX3_init 0 = .ok (.aload_n 0, 1) := by decide +kernel
theorem dX3_init_1 : decode cX3_init 1 = .ok (.invokespecial 3, 3) := by decide +kernel
theorem dX3_init_4 : decode cX3_init 4 = .ok (.aload_n 0, 1) := by decide +kernel
theorem dX3_init_5 : decode cX3_init 5 = .ok (.aload_n 1, 1) := by decide +kernel
theorem dX3_init_6 : decode cX3_init 6 = .ok (.putfield 9, 3) := by decide +kernel
theorem dX3_init_9 : decode cX3_init 9 = .ok (.aload_n 0, 1) := by decide +kernel
theorem dX3_init_10 : decode cX3_init 10 = .ok (.aload_n 2, 1) := by decide +kernel
theorem dX3_init_11 : decode cX3_init 11 = .ok (.putfield 15, 3) := by decide +kernel
theorem dX3_init_14 : decode cX3_init 14 = .ok (.aload_n 0, 1) := by decide +kernel
theorem dX3_init_15 : decode cX3_init 15 = .ok (.iconst (-1), 1) := by decide +kernel
theorem dX3_init_16 : decode cX3_init 16 = .ok (.putfield 19, 3) := by decide +kernel
theorem dX3_init_19 : decode cX3_init 19 = .ok (.return_, 1) := by decide +kernel
theorem dX3_readTown_0 : decode cX3_readTown 0 = .ok (.aload_n 0, 1) := by decide +kernel
theorem dX3_readTown_1 : decode cX3_readTown 1 = .ok (.getfield 15, 3) := by decide +kernel
theorem dX3_readTown_4 : decode cX3_readTown 4 = .ok (.invokevirtual 23, 3) := by decide +kernel
theorem dX3_readTown_7 : decode cX3_readTown 7 = .ok (.aload_n 0, 1) := by decide +kernel
theorem dX3_readTown_8 : decode cX3_readTown 8 = .ok (.iconst 0, 1) := by decide +kernel
theorem dX3_readTown_9 : decode cX3_readTown 9 = .ok (.putfield 28, 3) := by decide +kernel
theorem dX3_readTown_12 : decode cX3_readTown 12 = .ok (.aload_n 0, 1) := by decide +kernel
theorem dX3_readTown_13 : decode cX3_readTown 13 = .ok (.iconst 0, 1) := by decide +kernel
theorem dX3_readTown_14 : decode cX3_readTown 14 = .ok (.putfield 31, 3) := by decide +kernel
theorem dX3_readTown_17 : decode cX3_readTown 17 = .ok (.aload_n 0, 1) := by decide +kernel
theorem dX3_readTown_18 : decode cX3_readTown 18 = .ok (.iconst (-1), 1) := by decide +kernel
theorem dX3_readTown_19 : decode cX3_readTown 19 = .ok (.putfield 19, 3) := by decide +kernel
theorem dX3_readTown_22 : decode cX3_readTown 22 = .ok (.aload_n 0, 1) := by decide +kernel
theorem dX3_readTown_23 : decode cX3_readTown 23 = .ok (.invokevirtual 34, 3) := by decide +kernel
theorem dX3_readTown_26 : decode cX3_readTown 26 = .ok (.iconst 0, 1) := by decide +kernel
theorem dX3_readTown_27 : decode cX3_readTown 27 = .ok (.istore_n 1, 1) := by decide +kernel
theorem dX3_readTown_28 : decode cX3_readTown 28 = .ok (.iload_n 1, 1) := by decide +kernel
theorem dX3_readTown_29 : decode cX3_readTown 29 = .ok (.sipush 400, 3) := by decide +kernel
theorem dX3_readTown_32 : decode cX3_readTown 32 = .ok (.if_icmp .ge 128, 3) := by decide +kernel
theorem dX3_readTown_35 : decode cX3_readTown 35 = .ok (.aload_n 0, 1) := by decide +kernel
theorem dX3_readTown_36 : decode cX3_readTown 36 = .ok (.getfield 28, 3) := by decide +kernel
theorem dX3_readTown_39 : decode cX3_readTown 39 = .ok (.aload_n 0, 1) := by decide +kernel
theorem dX3_readTown_40 : decode cX3_readTown 40 = .ok (.getfield 9, 3) := by decide +kernel
theorem dX3_readTown_43 : decode cX3_readTown 43 = .ok (.getfield 37, 3) := by decide +kernel
theorem dX3_readTown_46 : decode cX3_readTown 46 = .ok (.if_icmp .ge 114, 3) := by decide +kernel
theorem dX3_readTown_49 : decode cX3_readTown 49 = .ok (.aload_n 0, 1) := by decide +kernel
theorem dX3_readTown_50 : decode cX3_readTown 50 = .ok (.getfield 31, 3) := by decide +kernel
theorem dX3_readTown_53 : decode cX3_readTown 53 = .ok (.ifCond .ne 107, 3) := by decide +kernel
theorem dX3_readTown_56 : decode cX3_readTown 56 = .ok (.aload_n 0, 1) := by decide +kernel
theorem dX3_readTown_57 : decode cX3_readTown 57 = .ok (.invokevirtual 42, 3) := by decide +kernel
theorem dX3_readTown_60 : decode cX3_readTown 60 = .ok (.aload_n 0, 1) := by decide +kernel
theorem dX3_readTown_61 : decode cX3_readTown 61 = .ok (.getfield 9, 3) := by decide +kernel
theorem dX3_readTown_64 : decode cX3_readTown 64 = .ok (.ldc 45, 2) := by decide +kernel
theorem dX3_readTown_66 : decode cX3_readTown 66 = .ok (.aload_n 0, 1) := by decide +kernel
theorem dX3_readTown_67 : decode cX3_readTown 67 = .ok (.getfield 47, 3) := by decide +kernel
theorem dX3_readTown_70 : decode cX3_readTown 70 = .ok (.aload_n 0, 1) := by decide +kernel
theorem dX3_readTown_71 : decode cX3_readTown 71 = .ok (.getfield 28, 3) := by decide +kernel
theorem dX3_readTown_74 : decode cX3_readTown 74 = .ok (.invokevirtual 50, 3) := by decide +kernel
theorem dX3_readTown_77 : decode cX3_readTown 77 = .ok (.ifCond .eq 10, 3) := by decide +kernel
theorem dX3_readTown_80 : decode cX3_readTown 80 = .ok (.aload_n 0, 1) := by decide +kernel
theorem dX3_readTown_81 : decode cX3_readTown 81 = .ok (.invokevirtual 54, 3) := by decide +kernel
theorem dX3_readTown_84 : decode cX3_readTown 84 = .ok (.goto 66, 3) := by decide +kernel
theorem dX3_readTown_87 : decode cX3_readTown 87 = .ok (.aload_n 0, 1) := by decide +kernel
theorem dX3_readTown_88 : decode cX3_readTown 88 = .ok (.getfield 9, 3) := by decide +kernel
theorem dX3_readTown_91 : decode cX3_readTown 91 = .ok (.ldc 57, 2) := by decide +kernel
theorem dX3_readTown_93 : decode cX3_readTown 93 = .ok (.aload_n 0, 1) := by decide +kernel
theorem dX3_readTown_94 : decode cX3_readTown 94 = .ok (.getfield 47, 3) := by decide +kernel
theorem dX3_readTown_97 : decode cX3_readTown 97 = .ok (.aload_n 0, 1) := by decide +kernel
theorem dX3_readTown_98 : decode cX3_readTown 98 = .ok (.getfield 28, 3) := by decide +kernel
theorem dX3_readTown_101 : decode cX3_readTown 101 = .ok (.invokevirtual 50, 3) := by decide +kernel
theorem dX3_readTown_104 : decode cX3_readTown 104 = .ok (.ifCond .eq 10, 3) := by decide +kernel
theorem dX3_readTown_107 : decode cX3_readTown 107 = .ok (.aload_n 0, 1) := by decide +kernel
theorem dX3_readTown_108 : decode cX3_readTown 108 = .ok (.invokevirtual 59, 3) := by decide +kernel
theorem dX3_readTown_111 : decode cX3_readTown 111 = .ok (.goto 39, 3) := by decide +kernel
theorem dX3_readTown_114 : decode cX3_readTown 114 = .ok (.aload_n 0, 1) := by decide +kernel
theorem dX3_readTown_115 : decode cX3_readTown 115 = .ok (.getfield 9, 3) := by decide +kernel
theorem dX3_readTown_118 : decode cX3_readTown 118 = .ok (.ldc 62, 2) := by decide +kernel
theorem dX3_readTown_120 : decode cX3_readTown 120 = .ok (.aload_n 0, 1) := by decide +kernel
theorem dX3_readTown_121 : decode cX3_readTown 121 = .ok (.getfield 47, 3) := by decide +kernel
theorem dX3_readTown_124 : decode cX3_readTown 124 = .ok (.aload_n 0, 1) := by decide +kernel
theorem dX3_readTown_125 : decode cX3_readTown 125 = .ok (.getfield 28, 3) := by decide +kernel
theorem dX3_readTown_128 : decode cX3_readTown 128 = .ok (.invokevirtual 50, 3) := by decide +kernel
theorem dX3_readTown_131 : decode cX3_readTown 131 = .ok (.ifCond .eq 10, 3) := by decide +kernel
theorem dX3_readTown_134 : decode cX3_readTown 134 = .ok (.aload_n 0, 1) := by decide +kernel
theorem dX3_readTown_135 : decode cX3_readTown 135 = .ok (.invokevirtual 64, 3) := by decide +kernel
theorem dX3_readTown_138 : decode cX3_readTown 138 = .ok (.goto 12, 3) := by decide +kernel
theorem dX3_readTown_141 : decode cX3_readTown 141 = .ok (.aload_n 0, 1) := by decide +kernel
theorem dX3_readTown_142 : decode cX3_readTown 142 = .ok (.iconst 1, 1) := by decide +kernel
theorem dX3_readTown_143 : decode cX3_readTown 143 = .ok (.aload_n 0, 1) := by decide +kernel
theorem dX3_readTown_144 : decode cX3_readTown 144 = .ok (.getfield 47, 3) := by decide +kernel
theorem dX3_readTown_147 : decode cX3_readTown 147 = .ok (.invokevirtual 67, 3) := by decide +kernel
theorem dX3_readTown_150 : decode cX3_readTown 150 = .ok (.aload_n 0, 1) := by decide +kernel
theorem dX3_readTown_151 : decode cX3_readTown 151 = .ok (.invokevirtual 34, 3) := by decide +kernel
theorem dX3_readTown_154 : decode cX3_readTown 154 = .ok (.iinc 1 1, 3) := by decide +kernel
theorem dX3_readTown_157 : decode cX3_readTown 157 = .ok (.goto (-129), 3) := by decide +kernel
theorem dX3_readTown_160 : decode cX3_readTown 160 = .ok (.aload_n 0, 1) := by decide +kernel
theorem dX3_readTown_161 : decode cX3_readTown 161 = .ok (.getfield 31, 3) := by decide +kernel
theorem dX3_readTown_164 : decode cX3_readTown 164 = .ok (.ireturn, 1) := by decide +kernel
theorem dX3_readPart_0 : decode cX3_readPart 0 = .ok (.aload_n 0, 1) := by decide +kernel
theorem dX3_readPart_1 : decode cX3_readPart 1 = .ok (.getfield 15, 3) := by decide +kernel
theorem dX3_readPart_4 : decode cX3_readPart 4 = .ok (.getfield 71, 3) := by decide +kernel
theorem dX3_readPart_7 : decode cX3_readPart 7 = .ok (.bipush 10, 2) := by decide +kernel
theorem dX3_readPart_9 : decode cX3_readPart 9 = .ok (.if_icmp .lt 12, 3) := by decide +kernel
theorem dX3_readPart_12 : decode cX3_readPart 12 = .ok (.aload_n 0, 1) := by decide +kernel
theorem dX3_readPart_13 : decode cX3_readPart 13 = .ok (.iconst 3, 1) := by decide +kernel
theorem dX3_readPart_14 : decode cX3_readPart 14 = .ok (.aload_n 0, 1) := by decide +kernel
theorem dX3_readPart_15 : decode cX3_readPart 15 = .ok (.getfield 47, 3) := by decide +kernel
theorem dX3_readPart_18 : decode cX3_readPart 18 = .ok (.invokevirtual 67, 3) := by decide +kernel
theorem dX3_readPart_21 : decode cX3_readPart 21 = .ok (.aload_n 0, 1) := by decide +kernel
theorem dX3_readPart_22 : decode cX3_readPart 22 = .ok (.invokevirtual 74, 3) := by decide +kernel
theorem dX3_readPart_25 : decode cX3_readPart 25 = .ok (.istore_n 1, 1) := by decide +kernel
theorem dX3_readPart_26 : decode cX3_readPart 26 = .ok (.aload_n 0, 1) := by decide +kernel
theorem dX3_readPart_27 : decode cX3_readPart 27 = .ok (.iconst 3, 1) := by decide +kernel
theorem dX3_readPart_28 : decode cX3_readPart 28 = .ok (.invokevirtual 78, 3) := by decide +kernel
theorem dX3_readPart_31 : decode cX3_readPart 31 = .ok (.istore_n 2, 1) := by decide +kernel
theorem dX3_readPart_32 : decode cX3_readPart 32 = .ok (.aload_n 0, 1) := by decide +kernel
theorem dX3_readPart_33 : decode cX3_readPart 33 = .ok (.bipush 9, 2) := by decide +kernel
theorem dX3_readPart_35 : decode cX3_readPart 35 = .ok (.invokevirtual 78, 3) := by decide +kernel
theorem dX3_readPart_38 : decode cX3_readPart 38 = .ok (.istore_n 3, 1) := by decide +kernel
theorem dX3_readPart_39 : decode cX3_readPart 39 = .ok (.aload_n 0, 1) := by decide +kernel
theorem dX3_readPart_40 : decode cX3_readPart 40 = .ok (.bipush 99, 2) := by decide +kernel
theorem dX3_readPart_42 : decode cX3_readPart 42 = .ok (.invokevirtual 78, 3) := by decide +kernel
theorem dX3_readPart_45 : decode cX3_readPart 45 = .ok (.istore 4, 2) := by decide +kernel
theorem dX3_readPart_47 : decode cX3_readPart 47 = .ok (.aload_n 0, 1) := by decide +kernel
theorem dX3_readPart_48 : decode cX3_readPart 48 = .ok (.bipush 11, 2) := by decide +kernel
theorem dX3_readPart_50 : decode cX3_readPart 50 = .ok (.invokevirtual 78, 3) := by decide +kernel
theorem dX3_readPart_53 : decode cX3_readPart 53 = .ok (.istore 5, 2) := by decide +kernel
theorem dX3_readPart_55 : decode cX3_readPart 55 = .ok (.aload_n 0, 1) := by decide +kernel
theorem dX3_readPart_56 : decode cX3_readPart 56 = .ok (.bipush 11, 2) := by decide +kernel
theorem dX3_readPart_58 : decode cX3_readPart 58 = .ok (.invokevirtual 78, 3) := by decide +kernel
theorem dX3_readPart_61 : decode cX3_readPart 61 = .ok (.istore 6, 2) := by decide +kernel
theorem dX3_readPart_63 : decode cX3_readPart 63 = .ok (.iload 6, 2) := by decide +kernel
theorem dX3_readPart_65 : decode cX3_readPart 65 = .ok (.iload 5, 2) := by decide +kernel
theorem dX3_readPart_67 : decode cX3_readPart 67 = .ok (.if_icmp .ge 12, 3) := by decide +kernel
theorem dX3_readPart_70 : decode cX3_readPart 70 = .ok (.aload_n 0, 1) := by decide +kernel
theorem dX3_readPart_71 : decode cX3_readPart 71 = .ok (.iconst 4, 1) := by decide +kernel
theorem dX3_readPart_72 : decode cX3_readPart 72 = .ok (.aload_n 0, 1) := by decide +kernel
theorem dX3_readPart_73 : decode cX3_readPart 73 = .ok (.getfield 47, 3) := by decide +kernel
theorem dX3_readPart_76 : decode cX3_readPart 76 = .ok (.invokevirtual 67, 3) := by decide +kernel
theorem dX3_readPart_79 : decode cX3_readPart 79 = .ok (.aload_n 0, 1) := by decide +kernel
theorem dX3_readPart_80 : decode cX3_readPart 80 = .ok (.invokevirtual 82, 3) := by decide +kernel
theorem dX3_readPart_83 : decode cX3_readPart 83 = .ok (.aload_n 0, 1) := by decide +kernel
theorem dX3_readPart_84 : decode cX3_readPart 84 = .ok (.getfield 31, 3) := by decide +kernel
theorem dX3_readPart_87 : decode cX3_readPart 87 = .ok (.ifCond .ne 26, 3) := by decide +kernel
theorem dX3_readPart_90 : decode cX3_readPart 90 = .ok (.aload_n 0, 1) := by decide +kernel
theorem dX3_readPart_91 : decode cX3_readPart 91 = .ok (.getfield 15, 3) := by decide +kernel
theorem dX3_readPart_94 : decode cX3_readPart 94 = .ok (.iload_n 1, 1) := by decide +kernel
theorem dX3_readPart_95 : decode cX3_readPart 95 = .ok (.iload_n 2, 1) := by decide +kernel
theorem dX3_readPart_96 : decode cX3_readPart 96 = .ok (.iload_n 3, 1) := by decide +kernel
theorem dX3_readPart_97 : decode cX3_readPart 97 = .ok (.iload 4, 2) := by decide +kernel
theorem dX3_readPart_99 : decode cX3_readPart 99 = .ok (.invokevirtual 85, 3) := by decide +kernel
theorem dX3_readPart_102 : decode cX3_readPart 102 = .ok (.aload_n 0, 1) := by decide +kernel
theorem dX3_readPart_103 : decode cX3_readPart 103 = .ok (.getfield 15, 3) := by decide +kernel
theorem dX3_readPart_106 : decode cX3_readPart 106 = .ok (.iload 5, 2) := by decide +kernel
theorem dX3_readPart_108 : decode cX3_readPart 108 = .ok (.iload 6, 2) := by decide +kernel
theorem dX3_readPart_110 : decode cX3_readPart 110 = .ok (.invokevirtual 89, 3) := by decide +kernel
theorem dX3_readPart_113 : decode cX3_readPart 113 = .ok (.return_, 1) := by decide +kernel
theorem dX3_readClash_0 : decode cX3_readClash 0 = .ok (.aload_n 0, 1) := by decide +kernel
theorem dX3_readClash_1 : decode cX3_readClash 1 = .ok (.getfield 15, 3) := by decide +kernel
theorem dX3_readClash_4 : decode cX3_readClash 4 = .ok (.getfield 92, 3) := by decide +kernel
theorem dX3_readClash_7 : decode cX3_readClash 7 = .ok (.bipush 15, 2) := by decide +kernel
theorem dX3_readClash_9 : decode cX3_readClash 9 = .ok (.if_icmp .lt 12, 3) := by decide +kernel
theorem dX3_readClash_12 : decode cX3_readClash 12 = .ok (.aload_n 0, 1) := by decide +kernel
theorem dX3_readClash_13 : decode cX3_readClash 13 = .ok (.iconst 3, 1) := by decide +kernel
theorem dX3_readClash_14 : decode cX3_readClash 14 = .ok (.aload_n 0, 1) := by decide +kernel
theorem dX3_readClash_15 : decode cX3_readClash 15 = .ok (.getfield 47, 3) := by decide +kernel
theorem dX3_readClash_18 : decode cX3_readClash 18 = .ok (.invokevirtual 67, 3) := by decide +kernel
theorem dX3_readClash_21 : decode cX3_readClash 21 = .ok (.aload_n 0, 1) := by decide +kernel
theorem dX3_readClash_22 : decode cX3_readClash 22 = .ok (.aload_n 0, 1) := by decide +kernel
theorem dX3_readClash_23 : decode cX3_readClash 23 = .ok (.getfield 15, 3) := by decide +kernel
theorem dX3_readClash_26 : decode cX3_readClash 26 = .ok (.getfield 71, 3) := by decide +kernel
theorem dX3_readClash_29 : decode cX3_readClash 29 = .ok (.iconst 1, 1) := by decide +kernel
theorem dX3_readClash_30 : decode cX3_readClash 30 = .ok (.isub, 1) := by decide +kernel
theorem dX3_readClash_31 : decode cX3_readClash 31 = .ok (.invokevirtual 78, 3) := by decide +kernel
theorem dX3_readClash_34 : decode cX3_readClash 34 = .ok (.istore_n 1, 1) := by decide +kernel
theorem dX3_readClash_35 : decode cX3_readClash 35 = .ok (.aload_n 0, 1) := by decide +kernel
theorem dX3_readClash_36 : decode cX3_readClash 36 = .ok (.aload_n 0, 1) := by decide +kernel
theorem dX3_readClash_37 : decode cX3_readClash 37 = .ok (.getfield 15, 3) := by decide +kernel
theorem dX3_readClash_40 : decode cX3_readClash 40 = .ok (.getfield 71, 3) := by decide +kernel
theorem dX3_readClash_43 : decode cX3_readClash 43 = .ok (.iconst 1, 1) := by decide +kernel
theorem dX3_readClash_44 : decode cX3_readClash 44 = .ok (.isub, 1) := by decide +kernel
theorem dX3_readClash_45 : decode cX3_readClash 45 = .ok (.invokevirtual 78, 3) := by decide +kernel
theorem dX3_readClash_48 : decode cX3_readClash 48 = .ok (.istore_n 2, 1) := by decide +kernel
theorem dX3_readClash_49 : decode cX3_readClash 49 = .ok (.iload_n 1, 1) := by decide +kernel
theorem dX3_readClash_50 : decode cX3_readClash 50 = .ok (.iload_n 2, 1) := by decide +kernel
theorem dX3_readClash_51 : decode cX3_readClash 51 = .ok (.if_icmp .eq 15, 3) := by decide +kernel
theorem dX3_readClash_54 : decode cX3_readClash 54 = .ok (.aload_n 0, 1) := by decide +kernel
theorem dX3_readClash_55 : decode cX3_readClash 55 = .ok (.getfield 15, 3) := by decide +kernel
theorem dX3_readClash_58 : decode cX3_readClash 58 = .ok (.iload_n 1, 1) := by decide +kernel
theorem dX3_readClash_59 : decode cX3_readClash 59 = .ok (.iload_n 2, 1) := by decide +kernel
theorem dX3_readClash_60 : decode cX3_readClash 60 = .ok (.invokevirtual 95, 3) := by decide +kernel
theorem dX3_readClash_63 : decode cX3_readClash 63 = .ok (.ifCond .eq 12, 3) := by decide +kernel
theorem dX3_readClash_66 : decode cX3_readClash 66 = .ok (.aload_n 0, 1) := by decide +kernel
theorem dX3_readClash_67 : decode cX3_readClash 67 = .ok (.iconst 4, 1) := by decide +kernel
theorem dX3_readClash_68 : decode cX3_readClash 68 = .ok (.aload_n 0, 1) := by decide +kernel
theorem dX3_readClash_69 : decode cX3_readClash 69 = .ok (.getfield 47, 3) := by decide +kernel
theorem dX3_readClash_72 : decode cX3_readClash 72 = .ok (.invokevirtual 67, 3) := by decide +kernel
theorem dX3_readClash_75 : decode cX3_readClash 75 = .ok (.aload_n 0, 1) := by decide +kernel
theorem dX3_readClash_76 : decode cX3_readClash 76 = .ok (.invokevirtual 82, 3) := by decide +kernel
theorem dX3_readClash_79 : decode cX3_readClash 79 = .ok (.aload_n 0, 1) := by decide +kernel
theorem dX3_readClash_80 : decode cX3_readClash 80 = .ok (.getfield 31, 3) := by decide +kernel
theorem dX3_readClash_83 : decode cX3_readClash 83 = .ok (.ifCond .ne 12, 3) := by decide +kernel
theorem dX3_readClash_86 : decode cX3_readClash 86 = .ok (.aload_n 0, 1) := by decide +kernel
theorem dX3_readClash_87 : decode cX3_readClash 87 = .ok (.getfield 15, 3) := by decide +kernel
theorem dX3_readClash_90 : decode cX3_readClash 90 = .ok (.iload_n 1, 1) := by decide +kernel
theorem dX3_readClash_91 : decode cX3_readClash 91 = .ok (.iload_n 2, 1) := by decide +kernel
theorem dX3_readClash_92 : decode cX3_readClash 92 = .ok (.invokevirtual 99, 3) := by decide +kernel
theorem dX3_readClash_95 : decode cX3_readClash 95 = .ok (.return_, 1) := by decide +kernel
theorem dX3_readScene_0 : decode cX3_readScene 0 = .ok (.aload_n 0, 1) := by decide +kernel
theorem dX3_readScene_1 : decode cX3_readScene 1 = .ok (.getfield 15, 3) := by decide +kernel
theorem dX3_readScene_4 : decode cX3_readScene 4 = .ok (.getfield 102, 3) := by decide +kernel
theorem dX3_readScene_7 : decode cX3_readScene 7 = .ok (.bipush 8, 2) := by decide +kernel
theorem dX3_readScene_9 : decode cX3_readScene 9 = .ok (.if_icmp .lt 12, 3) := by decide +kernel
theorem dX3_readScene_12 : decode cX3_readScene 12 = .ok (.aload_n 0, 1) := by decide +kernel
theorem dX3_readScene_13 : decode cX3_readScene 13 = .ok (.iconst 3, 1) := by decide +kernel
theorem dX3_readScene_14 : decode cX3_readScene 14 = .ok (.aload_n 0, 1) := by decide +kernel
theorem dX3_readScene_15 : decode cX3_readScene 15 = .ok (.getfield 47, 3) := by decide +kernel
theorem dX3_readScene_18 : decode cX3_readScene 18 = .ok (.invokevirtual 67, 3) := by decide +kernel
theorem dX3_readScene_21 : decode cX3_readScene 21 = .ok (.aload_n 0, 1) := by decide +kernel
theorem dX3_readScene_22 : decode cX3_readScene 22 = .ok (.bipush 11, 2) := by decide +kernel
theorem dX3_readScene_24 : decode cX3_readScene 24 = .ok (.invokevirtual 78, 3) := by decide +kernel
theorem dX3_readScene_27 : decode cX3_readScene 27 = .ok (.istore_n 1, 1) := by decide +kernel
theorem dX3_readScene_28 : decode cX3_readScene 28 = .ok (.aload_n 0, 1) := by decide +kernel
theorem dX3_readScene_29 : decode cX3_readScene 29 = .ok (.bipush 27, 2) := by decide +kernel
theorem dX3_readScene_31 : decode cX3_readScene 31 = .ok (.invokevirtual 78, 3) := by decide +kernel
theorem dX3_readScene_34 : decode cX3_readScene 34 = .ok (.istore_n 2, 1) := by decide +kernel
theorem dX3_readScene_35 : decode cX3_readScene 35 = .ok (.aload_n 0, 1) := by decide +kernel
theorem dX3_readScene_36 : decode cX3_readScene 36 = .ok (.bipush 27, 2) := by decide +kernel
theorem dX3_readScene_38 : decode cX3_readScene 38 = .ok (.invokevirtual 78, 3) := by decide +kernel
theorem dX3_readScene_41 : decode cX3_readScene 41 = .ok (.istore_n 3, 1) := by decide +kernel
theorem dX3_readScene_42 : decode cX3_readScene 42 = .ok (.iload_n 3, 1) := by decide +kernel
theorem dX3_readScene_43 : decode cX3_readScene 43 = .ok (.iload_n 2, 1) := by decide +kernel
theorem dX3_readScene_44 : decode cX3_readScene 44 = .ok (.if_icmp .ge 12, 3) := by decide +kernel
theorem dX3_readScene_47 : decode cX3_readScene 47 = .ok (.aload_n 0, 1) := by decide +kernel
theorem dX3_readScene_48 : decode cX3_readScene 48 = .ok (.iconst 4, 1) := by decide +kernel
theorem dX3_readScene_49 : decode cX3_readScene 49 = .ok (.aload_n 0, 1) := by decide +kernel
theorem dX3_readScene_50 : decode cX3_readScene 50 = .ok (.getfield 47, 3) := by decide +kernel
theorem dX3_readScene_53 : decode cX3_readScene 53 = .ok (.invokevirtual 67, 3) := by decide +kernel
theorem dX3_readScene_56 : decode cX3_readScene 56 = .ok (.aload_n 0, 1) := by decide +kernel
theorem dX3_readScene_57 : decode cX3_readScene 57 = .ok (.invokevirtual 82, 3) := by decide +kernel
theorem dX3_readScene_60 : decode cX3_readScene 60 = .ok (.aload_n 0, 1) := by decide +kernel
theorem dX3_readScene_61 : decode cX3_readScene 61 = .ok (.getfield 31, 3) := by decide +kernel
theorem dX3_readScene_64 : decode cX3_readScene 64 = .ok (.ifCond .ne 13, 3) := by decide +kernel
theorem dX3_readScene_67 : decode cX3_readScene 67 = .ok (.aload_n 0, 1) := by decide +kernel
theorem dX3_readScene_68 : decode cX3_readScene 68 = .ok (.getfield 15, 3) := by decide +kernel
theorem dX3_readScene_71 : decode cX3_readScene 71 = .ok (.iload_n 1, 1) := by decide +kernel
theorem dX3_readScene_72 : decode cX3_readScene 72 = .ok (.iload_n 2, 1) := by decide +kernel
theorem dX3_readScene_73 : decode cX3_readScene 73 = .ok (.iload_n 3, 1) := by decide +kernel
theorem dX3_readScene_74 : decode cX3_readScene 74 = .ok (.invokevirtual 105, 3) := by decide +kernel
theorem dX3_readScene_77 : decode cX3_readScene 77 = .ok (.return_, 1) := by decide +kernel
theorem dX3_readWord_0 : decode cX3_readWord 0 = .ok (.aload_n 0, 1) := by decide +kernel
theorem dX3_readWord_1 : decode cX3_readWord 1 = .ok (.invokevirtual 34, 3) := by decide +kernel
theorem dX3_readWord_4 : decode cX3_readWord 4 = .ok (.aload_n 0, 1) := by decide +kernel
theorem dX3_readWord_5 : decode cX3_readWord 5 = .ok (.aload_n 0, 1) := by decide +kernel
theorem dX3_readWord_6 : decode cX3_readWord 6 = .ok (.getfield 28, 3) := by decide +kernel
theorem dX3_readWord_9 : decode cX3_readWord 9 = .ok (.putfield 47, 3) := by decide +kernel
theorem dX3_readWord_12 : decode cX3_readWord 12 = .ok (.aload_n 0, 1) := by decide +kernel
theorem dX3_readWord_13 : decode cX3_readWord 13 = .ok (.getfield 28, 3) := by decide +kernel
theorem dX3_readWord_16 : decode cX3_readWord 16 = .ok (.aload_n 0, 1) := by decide +kernel
theorem dX3_readWord_17 : decode cX3_readWord 17 = .ok (.getfield 9, 3) := by decide +kernel
theorem dX3_readWord_20 : decode cX3_readWord 20 = .ok (.getfield 37, 3) := by decide +kernel
theorem dX3_readWord_23 : decode cX3_readWord 23 = .ok (.if_icmp .ge 30, 3) := by decide +kernel
theorem dX3_readWord_26 : decode cX3_readWord 26 = .ok (.aload_n 0, 1) := by decide +kernel
theorem dX3_readWord_27 : decode cX3_readWord 27 = .ok (.getfield 9, 3) := by decide +kernel
theorem dX3_readWord_30 : decode cX3_readWord 30 = .ok (.aload_n 0, 1) := by decide +kernel
theorem dX3_readWord_31 : decode cX3_readWord 31 = .ok (.getfield 28, 3) := by decide +kernel
theorem dX3_readWord_34 : decode cX3_readWord 34 = .ok (.invokevirtual 109, 3) := by decide +kernel
theorem dX3_readWord_37 : decode cX3_readWord 37 = .ok (.ifCond .eq 16, 3) := by decide +kernel
theorem dX3_readWord_40 : decode cX3_readWord 40 = .ok (.aload_n 0, 1) := by decide +kernel
theorem dX3_readWord_41 : decode cX3_readWord 41 = .ok (.dup, 1) := by decide +kernel
theorem dX3_readWord_42 : decode cX3_readWord 42 = .ok (.getfield 28, 3) := by decide +kernel
theorem dX3_readWord_45 : decode cX3_readWord 45 = .ok (.iconst 1, 1) := by decide +kernel
theorem dX3_readWord_46 : decode cX3_readWord 46 = .ok (.iadd, 1) := by decide +kernel
theorem dX3_readWord_47 : decode cX3_readWord 47 = .ok (.putfield 28, 3) := by decide +kernel
theorem dX3_readWord_50 : decode cX3_readWord 50 = .ok (.goto (-38), 3) := by decide +kernel
theorem dX3_readWord_53 : decode cX3_readWord 53 = .ok (.return_, 1) := by decide +kernel
theorem dX3_readKind_0 : decode cX3_readKind 0 = .ok (.aload_n 0, 1) := by decide +kernel
theorem dX3_readKind_1 : decode cX3_readKind 1 = .ok (.getfield 31, 3) := by decide +kernel
theorem dX3_readKind_4 : decode cX3_readKind 4 = .ok (.ifCond .eq 5, 3) := by decide +kernel
theorem dX3_readKind_7 : decode cX3_readKind 7 = .ok (.iconst 0, 1) := by decide +kernel
theorem dX3_readKind_8 : decode cX3_readKind 8 = .ok (.ireturn, 1) := by decide +kernel
theorem dX3_readKind_9 : decode cX3_readKind 9 = .ok (.aload_n 0, 1) := by decide +kernel
theorem dX3_readKind_10 : decode cX3_readKind 10 = .ok (.invokevirtual 42, 3) := by decide +kernel
theorem dX3_readKind_13 : decode cX3_readKind 13 = .ok (.aload_n 0, 1) := by decide +kernel
theorem dX3_readKind_14 : decode cX3_readKind 14 = .ok (.getfield 9, 3) := by decide +kernel
theorem dX3_readKind_17 : decode cX3_readKind 17 = .ok (.ldc 113, 2) := by decide +kernel
theorem dX3_readKind_19 : decode cX3_readKind 19 = .ok (.aload_n 0, 1) := by decide +kernel
theorem dX3_readKind_20 : decode cX3_readKind 20 = .ok (.getfield 47, 3) := by decide +kernel
theorem dX3_readKind_23 : decode cX3_readKind 23 = .ok (.aload_n 0, 1) := by decide +kernel
theorem dX3_readKind_24 : decode cX3_readKind 24 = .ok (.getfield 28, 3) := by decide +kernel
theorem dX3_readKind_27 : decode cX3_readKind 27 = .ok (.invokevirtual 50, 3) := by decide +kernel
theorem dX3_readKind_30 : decode cX3_readKind 30 = .ok (.ifCond .eq 5, 3) := by decide +kernel
theorem dX3_readKind_33 : decode cX3_readKind 33 = .ok (.iconst 0, 1) := by decide +kernel
theorem dX3_readKind_34 : decode cX3_readKind 34 = .ok (.ireturn, 1) := by decide +kernel
theorem dX3_readKind_35 : decode cX3_readKind 35 = .ok (.aload_n 0, 1) := by decide +kernel
theorem dX3_readKind_36 : decode cX3_readKind 36 = .ok (.getfield 9, 3) := by decide +kernel
theorem dX3_readKind_39 : decode cX3_readKind 39 = .ok (.ldc 115, 2) := by decide +kernel
theorem dX3_readKind_41 : decode cX3_readKind 41 = .ok (.aload_n 0, 1) := by decide +kernel
theorem dX3_readKind_42 : decode cX3_readKind 42 = .ok (.getfield 47, 3) := by decide +kernel
theorem dX3_readKind_45 : decode cX3_readKind 45 = .ok (.aload_n 0, 1) := by decide +kernel
theorem dX3_readKind_46 : decode cX3_readKind 46 = .ok (.getfield 28, 3) := by decide +kernel
theorem dX3_readKind_49 : decode cX3_readKind 49 = .ok (.invokevirtual 50, 3) := by decide +kernel
theorem dX3_readKind_52 : decode cX3_readKind 52 = .ok (.ifCond .eq 5, 3) := by decide +kernel
theorem dX3_readKind_55 : decode cX3_readKind 55 = .ok (.iconst 1, 1) := by decide +kernel
theorem dX3_readKind_56 : decode cX3_readKind 56 = .ok (.ireturn, 1) := by decide +kernel
theorem dX3_readKind_57 : decode cX3_readKind 57 = .ok (.aload_n 0, 1) := by decide +kernel
theorem dX3_readKind_58 : decode cX3_readKind 58 = .ok (.getfield 9, 3) := by decide +kernel
theorem dX3_readKind_61 : decode cX3_readKind 61 = .ok (.ldc 117, 2) := by decide +kernel
theorem dX3_readKind_63 : decode cX3_readKind 63 = .ok (.aload_n 0, 1) := by decide +kernel
theorem dX3_readKind_64 : decode cX3_readKind 64 = .ok (.getfield 47, 3) := by decide +kernel
theorem dX3_readKind_67 : decode cX3_readKind 67 = .ok (.aload_n 0, 1) := by decide +kernel
theorem dX3_readKind_68 : decode cX3_readKind 68 = .ok (.getfield 28, 3) := by decide +kernel
theorem dX3_readKind_71 : decode cX3_readKind 71 = .ok (.invokevirtual 50, 3) := by decide +kernel
theorem dX3_readKind_74 : decode cX3_readKind 74 = .ok (.ifCond .eq 5, 3) := by decide +kernel
theorem dX3_readKind_77 : decode cX3_readKind 77 = .ok (.iconst 2, 1) := by decide +kernel
theorem dX3_readKind_78 : decode cX3_readKind 78 = .ok (.ireturn, 1) := by decide +kernel
theorem dX3_readKind_79 : decode cX3_readKind 79 = .ok (.aload_n 0, 1) := by decide +kernel
theorem dX3_readKind_80 : decode cX3_readKind 80 = .ok (.iconst 1, 1) := by decide +kernel
theorem dX3_readKind_81 : decode cX3_readKind 81 = .ok (.aload_n 0, 1) := by decide +kernel
theorem dX3_readKind_82 : decode cX3_readKind 82 = .ok (.getfield 47, 3) := by decide +kernel
theorem dX3_readKind_85 : decode cX3_readKind 85 = .ok (.invokevirtual 67, 3) := by decide +kernel
theorem dX3_readKind_88 : decode cX3_readKind 88 = .ok (.iconst 0, 1) := by decide +kernel
theorem dX3_readKind_89 : decode cX3_readKind 89 = .ok (.ireturn, 1) := by decide +kernel
theorem dX3_readNumber_0 : decode cX3_readNumber 0 = .ok (.aload_n 0, 1) := by decide +kernel
theorem dX3_readNumber_1 : decode cX3_readNumber 1 = .ok (.getfield 31, 3) := by decide +kernel
theorem dX3_readNumber_4 : decode cX3_readNumber 4 = .ok (.ifCond .eq 5, 3) := by decide +kernel
theorem dX3_readNumber_7 : decode cX3_readNumber 7 = .ok (.iconst 0, 1) := by decide +kernel
theorem dX3_readNumber_8 : decode cX3_readNumber 8 = .ok (.ireturn, 1) := by decide +kernel
theorem dX3_readNumber_9 : decode cX3_readNumber 9 = .ok (.aload_n 0, 1) := by decide +kernel
theorem dX3_readNumber_10 : decode cX3_readNumber 10 = .ok (.invokevirtual 34, 3) := by decide +kernel
theorem dX3_readNumber_13 : decode cX3_readNumber 13 = .ok (.aload_n 0, 1) := by decide +kernel
theorem dX3_readNumber_14 : decode cX3_readNumber 14 = .ok (.aload_n 0, 1) := by decide +kernel
theorem dX3_readNumber_15 : decode cX3_readNumber 15 = .ok (.getfield 28, 3) := by decide +kernel
theorem dX3_readNumber_18 : decode cX3_readNumber 18 = .ok (.putfield 47, 3) := by decide +kernel
theorem dX3_readNumber_21 : decode cX3_readNumber 21 = .ok (.iconst 0, 1) := by decide +kernel
theorem dX3_readNumber_22 : decode cX3_readNumber 22 = .ok (.istore_n 2, 1) := by decide +kernel
theorem dX3_readNumber_23 : decode cX3_readNumber 23 = .ok (.aload_n 0, 1) := by decide +kernel
theorem dX3_readNumber_24 : decode cX3_readNumber 24 = .ok (.getfield 28, 3) := by decide +kernel
theorem dX3_readNumber_27 : decode cX3_readNumber 27 = .ok (.aload_n 0, 1) := by decide +kernel
theorem dX3_readNumber_28 : decode cX3_readNumber 28 = .ok (.getfield 9, 3) := by decide +kernel
theorem dX3_readNumber_31 : decode cX3_readNumber 31 = .ok (.getfield 37, 3) := by decide +kernel
theorem dX3_readNumber_34 : decode cX3_readNumber 34 = .ok (.if_icmp .ge 63, 3) := by decide +kernel
theorem dX3_readNumber_37 : decode cX3_readNumber 37 = .ok (.aload_n 0, 1) := by decide +kernel
theorem dX3_readNumber_38 : decode cX3_readNumber 38 = .ok (.getfield 9, 3) := by decide +kernel
theorem dX3_readNumber_41 : decode cX3_readNumber 41 = .ok (.aload_n 0, 1) := by decide +kernel
theorem dX3_readNumber_42 : decode cX3_readNumber 42 = .ok (.getfield 28, 3) := by decide +kernel
theorem dX3_readNumber_45 : decode cX3_readNumber 45 = .ok (.invokevirtual 119, 3) := by decide +kernel
theorem dX3_readNumber_48 : decode cX3_readNumber 48 = .ok (.ifCond .eq 49, 3) := by decide +kernel
theorem dX3_readNumber_51 : decode cX3_readNumber 51 = .ok (.aload_n 0, 1) := by decide +kernel
theorem dX3_readNumber_52 : decode cX3_readNumber 52 = .ok (.getfield 28, 3) := by decide +kernel
theorem dX3_readNumber_55 : decode cX3_readNumber 55 = .ok (.aload_n 0, 1) := by decide +kernel
theorem dX3_readNumber_56 : decode cX3_readNumber 56 = .ok (.getfield 47, 3) := by decide +kernel
theorem dX3_readNumber_59 : decode cX3_readNumber 59 = .ok (.isub, 1) := by decide +kernel
theorem dX3_readNumber_60 : decode cX3_readNumber 60 = .ok (.iconst 3, 1) := by decide +kernel
theorem dX3_readNumber_61 : decode cX3_readNumber 61 = .ok (.if_icmp .ge 23, 3) := by decide +kernel
theorem dX3_readNumber_64 : decode cX3_readNumber 64 = .ok (.iload_n 2, 1) := by decide +kernel
theorem dX3_readNumber_65 : decode cX3_readNumber 65 = .ok (.bipush 10, 2) := by decide +kernel
theorem dX3_readNumber_67 : decode cX3_readNumber 67 = .ok (.imul, 1) := by decide +kernel
theorem dX3_readNumber_68 : decode cX3_readNumber 68 = .ok (.aload_n 0, 1) := by decide +kernel
theorem dX3_readNumber_69 : decode cX3_readNumber 69 = .ok (.getfield 9, 3) := by decide +kernel
theorem dX3_readNumber_72 : decode cX3_readNumber 72 = .ok (.aload_n 0, 1) := by decide +kernel
theorem dX3_readNumber_73 : decode cX3_readNumber 73 = .ok (.getfield 28, 3) := by decide +kernel
theorem dX3_readNumber_76 : decode cX3_readNumber 76 = .ok (.invokevirtual 122, 3) := by decide +kernel
theorem dX3_readNumber_79 : decode cX3_readNumber 79 = .ok (.iadd, 1) := by decide +kernel
theorem dX3_readNumber_80 : decode cX3_readNumber 80 = .ok (.bipush 48, 2) := by decide +kernel
theorem dX3_readNumber_82 : decode cX3_readNumber 82 = .ok (.isub, 1) := by decide +kernel
theorem dX3_readNumber_83 : decode cX3_readNumber 83 = .ok (.istore_n 2, 1) := by decide +kernel
theorem dX3_readNumber_84 : decode cX3_readNumber 84 = .ok (.aload_n 0, 1) := by decide +kernel
theorem dX3_readNumber_85 : decode cX3_readNumber 85 = .ok (.dup, 1) := by decide +kernel
theorem dX3_readNumber_86 : decode cX3_readNumber 86 = .ok (.getfield 28, 3) := by decide +kernel
theorem dX3_readNumber_89 : decode cX3_readNumber 89 = .ok (.iconst 1, 1) := by decide +kernel
theorem dX3_readNumber_90 : decode cX3_readNumber 90 = .ok (.iadd, 1) := by decide +kernel
theorem dX3_readNumber_91 : decode cX3_readNumber 91 = .ok (.putfield 28, 3) := by decide +kernel
theorem dX3_readNumber_94 : decode cX3_readNumber 94 = .ok (.goto (-71), 3) := by decide +kernel
theorem dX3_readNumber_97 : decode cX3_readNumber 97 = .ok (.aload_n 0, 1) := by decide +kernel
theorem dX3_readNumber_98 : decode cX3_readNumber 98 = .ok (.getfield 28, 3) := by decide +kernel
theorem dX3_readNumber_101 : decode cX3_readNumber 101 = .ok (.aload_n 0, 1) := by decide +kernel
theorem dX3_readNumber_102 : decode cX3_readNumber 102 = .ok (.getfield 47, 3) := by decide +kernel
theorem dX3_readNumber_105 : decode cX3_readNumber 105 = .ok (.if_icmp .ne 15, 3) := by decide +kernel
theorem dX3_readNumber_108 : decode cX3_readNumber 108 = .ok (.aload_n 0, 1) := by decide +kernel
theorem dX3_readNumber_109 : decode cX3_readNumber 109 = .ok (.iconst 1, 1) := by decide +kernel
theorem dX3_readNumber_110 : decode cX3_readNumber 110 = .ok (.aload_n 0, 1) := by decide +kernel
theorem dX3_readNumber_111 : decode cX3_readNumber 111 = .ok (.getfield 47, 3) := by decide +kernel
theorem dX3_readNumber_114 : decode cX3_readNumber 114 = .ok (.invokevirtual 67, 3) := by decide +kernel
theorem dX3_readNumber_117 : decode cX3_readNumber 117 = .ok (.goto 30, 3) := by decide +kernel
theorem dX3_readNumber_120 : decode cX3_readNumber 120 = .ok (.aload_n 0, 1) := by decide +kernel
theorem dX3_readNumber_121 : decode cX3_readNumber 121 = .ok (.getfield 28, 3) := by decide +kernel
theorem dX3_readNumber_124 : decode cX3_readNumber 124 = .ok (.aload_n 0, 1) := by decide +kernel
theorem dX3_readNumber_125 : decode cX3_readNumber 125 = .ok (.getfield 47, 3) := by decide +kernel
theorem dX3_readNumber_128 : decode cX3_readNumber 128 = .ok (.isub, 1) := by decide +kernel
theorem dX3_readNumber_129 : decode cX3_readNumber 129 = .ok (.iconst 3, 1) := by decide +kernel
theorem dX3_readNumber_130 : decode cX3_readNumber 130 = .ok (.if_icmp .gt 8, 3) := by decide +kernel
theorem dX3_readNumber_133 : decode cX3_readNumber 133 = .ok (.iload_n 2, 1) := by decide +kernel
theorem dX3_readNumber_134 : decode cX3_readNumber 134 = .ok (.iload_n 1, 1) := by decide +kernel
theorem dX3_readNumber_135 : decode cX3_readNumber 135 = .ok (.if_icmp .le 12, 3) := by decide +kernel
theorem dX3_readNumber_138 : decode cX3_readNumber 138 = .ok (.aload_n 0, 1) := by decide +kernel
theorem dX3_readNumber_139 : decode cX3_readNumber 139 = .ok (.iconst 2, 1) := by decide +kernel
theorem dX3_readNumber_140 : decode cX3_readNumber 140 = .ok (.aload_n 0, 1) := by decide +kernel
theorem dX3_readNumber_141 : decode cX3_readNumber 141 = .ok (.getfield 47, 3) := by decide +kernel
theorem dX3_readNumber_144 : decode cX3_readNumber 144 = .ok (.invokevirtual 67, 3) := by decide +kernel
theorem dX3_readNumber_147 : decode cX3_readNumber 147 = .ok (.iload_n 2, 1) := by decide +kernel
theorem dX3_readNumber_148 : decode cX3_readNumber 148 = .ok (.ireturn, 1) := by decide +kernel
theorem dX3_readEnd_0 : decode cX3_readEnd 0 = .ok (.aload_n 0, 1) := by decide +kernel
theorem dX3_readEnd_1 : decode cX3_readEnd 1 = .ok (.getfield 31, 3) := by decide +kernel
theorem dX3_readEnd_4 : decode cX3_readEnd 4 = .ok (.ifCond .eq 4, 3) := by decide +kernel
theorem dX3_readEnd_7 : decode cX3_readEnd 7 = .ok (.return_, 1) := by decide +kernel
theorem dX3_readEnd_8 : decode cX3_readEnd 8 = .ok (.aload_n 0, 1) := by decide +kernel
theorem dX3_readEnd_9 : decode cX3_readEnd 9 = .ok (.invokevirtual 34, 3) := by decide +kernel
theorem dX3_readEnd_12 : decode cX3_readEnd 12 = .ok (.aload_n 0, 1) := by decide +kernel
theorem dX3_readEnd_13 : decode cX3_readEnd 13 = .ok (.getfield 9, 3) := by decide +kernel
theorem dX3_readEnd_16 : decode cX3_readEnd 16 = .ok (.aload_n 0, 1) := by decide +kernel
theorem dX3_readEnd_17 : decode cX3_readEnd 17 = .ok (.getfield 28, 3) := by decide +kernel
theorem dX3_readEnd_20 : decode cX3_readEnd 20 = .ok (.invokevirtual 122, 3) := by decide +kernel
theorem dX3_readEnd_23 : decode cX3_readEnd 23 = .ok (.bipush 59, 2) := by decide +kernel
theorem dX3_readEnd_25 : decode cX3_readEnd 25 = .ok (.if_icmp .ne 16, 3) := by decide +kernel
theorem dX3_readEnd_28 : decode cX3_readEnd 28 = .ok (.aload_n 0, 1) := by decide +kernel
theorem dX3_readEnd_29 : decode cX3_readEnd 29 = .ok (.dup, 1) := by decide +kernel
theorem dX3_readEnd_30 : decode cX3_readEnd 30 = .ok (.getfield 28, 3) := by decide +kernel
theorem dX3_readEnd_33 : decode cX3_readEnd 33 = .ok (.iconst 1, 1) := by decide +kernel
theorem dX3_readEnd_34 : decode cX3_readEnd 34 = .ok (.iadd, 1) := by decide +kernel
theorem dX3_readEnd_35 : decode cX3_readEnd 35 = .ok (.putfield 28, 3) := by decide +kernel
theorem dX3_readEnd_38 : decode cX3_readEnd 38 = .ok (.goto 12, 3) := by decide +kernel
theorem dX3_readEnd_41 : decode cX3_readEnd 41 = .ok (.aload_n 0, 1) := by decide +kernel
theorem dX3_readEnd_42 : decode cX3_readEnd 42 = .ok (.iconst 1, 1) := by decide +kernel
theorem dX3_readEnd_43 : decode cX3_readEnd 43 = .ok (.aload_n 0, 1) := by decide +kernel
theorem dX3_readEnd_44 : decode cX3_readEnd 44 = .ok (.getfield 28, 3) := by decide +kernel
theorem dX3_readEnd_47 : decode cX3_readEnd 47 = .ok (.invokevirtual 67, 3) := by decide +kernel
theorem dX3_readEnd_50 : decode cX3_readEnd 50 = .ok (.return_, 1) := by decide +kernel
theorem dX3_skipBlanks_0 : decode cX3_skipBlanks 0 = .ok (.aload_n 0, 1) := by decide +kernel
theorem dX3_skipBlanks_1 : decode cX3_skipBlanks 1 = .ok (.getfield 28, 3) := by decide +kernel
theorem dX3_skipBlanks_4 : decode cX3_skipBlanks 4 = .ok (.aload_n 0, 1) := by decide +kernel
theorem dX3_skipBlanks_5 : decode cX3_skipBlanks 5 = .ok (.getfield 9, 3) := by decide +kernel
theorem dX3_skipBlanks_8 : decode cX3_skipBlanks 8 = .ok (.getfield 37, 3) := by decide +kernel
theorem dX3_skipBlanks_11 : decode cX3_skipBlanks 11 = .ok (.if_icmp .ge 32, 3) := by decide +kernel
theorem dX3_skipBlanks_14 : decode cX3_skipBlanks 14 = .ok (.aload_n 0, 1) := by decide +kernel
theorem dX3_skipBlanks_15 : decode cX3_skipBlanks 15 = .ok (.getfield 9, 3) := by decide +kernel
theorem dX3_skipBlanks_18 : decode cX3_skipBlanks 18 = .ok (.aload_n 0, 1) := by decide +kernel
theorem dX3_skipBlanks_19 : decode cX3_skipBlanks 19 = .ok (.getfield 28, 3) := by decide +kernel
theorem dX3_skipBlanks_22 : decode cX3_skipBlanks 22 = .ok (.invokevirtual 122, 3) := by decide +kernel
theorem dX3_skipBlanks_25 : decode cX3_skipBlanks 25 = .ok (.bipush 32, 2) := by decide +kernel
theorem dX3_skipBlanks_27 : decode cX3_skipBlanks 27 = .ok (.if_icmp .ne 16, 3) := by decide +kernel
theorem dX3_skipBlanks_30 : decode cX3_skipBlanks 30 = .ok (.aload_n 0, 1) := by decide +kernel
theorem dX3_skipBlanks_31 : decode cX3_skipBlanks 31 = .ok (.dup, 1) := by decide +kernel
theorem dX3_skipBlanks_32 : decode cX3_skipBlanks 32 = .ok (.getfield 28, 3) := by decide +kernel
theorem dX3_skipBlanks_35 : decode cX3_skipBlanks 35 = .ok (.iconst 1, 1) := by decide +kernel
theorem dX3_skipBlanks_36 : decode cX3_skipBlanks 36 = .ok (.iadd, 1) := by decide +kernel
theorem dX3_skipBlanks_37 : decode cX3_skipBlanks 37 = .ok (.putfield 28, 3) := by decide +kernel
theorem dX3_skipBlanks_40 : decode cX3_skipBlanks 40 = .ok (.goto (-40), 3) := by decide +kernel
theorem dX3_skipBlanks_43 : decode cX3_skipBlanks 43 = .ok (.return_, 1) := by decide +kernel
theorem dX3_fail_0 : decode cX3_fail 0 = .ok (.aload_n 0, 1) := by decide +kernel
theorem dX3_fail_1 : decode cX3_fail 1 = .ok (.getfield 31, 3) := by decide +kernel
theorem dX3_fail_4 : decode cX3_fail 4 = .ok (.ifCond .ne 13, 3) := by decide +kernel
theorem dX3_fail_7 : decode cX3_fail 7 = .ok (.aload_n 0, 1) := by decide +kernel
theorem dX3_fail_8 : decode cX3_fail 8 = .ok (.iload_n 1, 1) := by decide +kernel
theorem dX3_fail_9 : decode cX3_fail 9 = .ok (.putfield 31, 3) := by decide +kernel
theorem dX3_fail_12 : decode cX3_fail 12 = .ok (.aload_n 0, 1) := by decide +kernel
theorem dX3_fail_13 : decode cX3_fail 13 = .ok (.iload_n 2, 1) := by decide +kernel
theorem dX3_fail_14 : decode cX3_fail 14 = .ok (.putfield 19, 3) := by decide +kernel
theorem dX3_fail_17 : decode cX3_fail 17 = .ok (.return_, 1) := by decide +kernel
theorem dX4_init_0 : decode cX4_init 0 = .ok (.aload_n 0, 1) := by decide +kernel
theorem dX4_init_1 : decode cX4_init 1 = .ok (.invokespecial 3, 3) := by decide +kernel
theorem dX4_init_4 : decode cX4_init 4 = .ok (.aload_n 0, 1) := by decide +kernel
theorem dX4_init_5 : decode cX4_init 5 = .ok (.bipush 20, 2) := by decide +kernel
theorem dX4_init_7 : decode cX4_init 7 = .ok (.newarray .int, 2) := by decide +kernel
theorem dX4_init_9 : decode cX4_init 9 = .ok (.putfield 9, 3) := by decide +kernel
theorem dX4_init_12 : decode cX4_init 12 = .ok (.aload_n 0, 1) := by decide +kernel
theorem dX4_init_13 : decode cX4_init 13 = .ok (.bipush 20, 2) := by decide +kernel
theorem dX4_init_15 : decode cX4_init 15 = .ok (.newarray .int, 2) := by decide +kernel
theorem dX4_init_17 : decode cX4_init 17 = .ok (.putfield 15, 3) := by decide +kernel
theorem dX4_init_20 : decode cX4_init 20 = .ok (.aload_n 0, 1) := by decide +kernel
theorem dX4_init_21 : decode cX4_init 21 = .ok (.aload_n 1, 1) := by decide +kernel
theorem dX4_init_22 : decode cX4_init 22 = .ok (.putfield 18, 3) := by decide +kernel
theorem dX4_init_25 : decode cX4_init 25 = .ok (.aload_n 0, 1) := by decide +kernel
theorem dX4_init_26 : decode cX4_init 26 = .ok (.aload_n 2, 1) := by decide +kernel
theorem dX4_init_27 : decode cX4_init 27 = .ok (.putfield 22, 3) := by decide +kernel
theorem dX4_init_30 : decode cX4_init 30 = .ok (.return_, 1) := by decide +kernel
theorem dX4_add_0 : decode cX4_add 0 = .ok (.aload_n 0, 1) := by decide +kernel
theorem dX4_add_1 : decode cX4_add 1 = .ok (.getfield 26, 3) := by decide +kernel
theorem dX4_add_4 : decode cX4_add 4 = .ok (.bipush 20, 2) := by decide +kernel
theorem dX4_add_6 : decode cX4_add 6 = .ok (.if_icmp .lt 5, 3) := by decide +kernel
theorem dX4_add_9 : decode cX4_add 9 = .ok (.iconst 0, 1) := by decide +kernel
theorem dX4_add_10 : decode cX4_add 10 = .ok (.ireturn, 1) := by decide +kernel
theorem dX4_add_11 : decode cX4_add 11 = .ok (.aload_n 0, 1) := by decide +kernel
theorem dX4_add_12 : decode cX4_add 12 = .ok (.getfield 9, 3) := by decide +kernel
theorem dX4_add_15 : decode cX4_add 15 = .ok (.aload_n 0, 1) := by decide +kernel
theorem dX4_add_16 : decode cX4_add 16 = .ok (.getfield 26, 3) := by decide +kernel
theorem dX4_add_19 : decode cX4_add 19 = .ok (.iload_n 1, 1) := by decide +kernel
theorem dX4_add_20 : decode cX4_add 20 = .ok (.iastore, 1) := by decide +kernel
theorem dX4_add_21 : decode cX4_add 21 = .ok (.aload_n 0, 1) := by decide +kernel
theorem dX4_add_22 : decode cX4_add 22 = .ok (.getfield 15, 3) := by decide +kernel
theorem dX4_add_25 : decode cX4_add 25 = .ok (.aload_n 0, 1) := by decide +kernel
theorem dX4_add_26 : decode cX4_add 26 = .ok (.getfield 26, 3) := by decide +kernel
theorem dX4_add_29 : decode cX4_add 29 = .ok (.iload_n 2, 1) := by decide +kernel
theorem dX4_add_30 : decode cX4_add 30 = .ok (.iastore, 1) := by decide +kernel
theorem dX4_add_31 : decode cX4_add 31 = .ok (.aload_n 0, 1) := by decide +kernel
theorem dX4_add_32 : decode cX4_add 32 = .ok (.dup, 1) := by decide +kernel
theorem dX4_add_33 : decode cX4_add 33 = .ok (.getfield 26, 3) := by decide +kernel
theorem dX4_add_36 : decode cX4_add 36 = .ok (.iconst 1, 1) := by decide +kernel
theorem dX4_add_37 : decode cX4_add 37 = .ok (.iadd, 1) := by decide +kernel
theorem dX4_add_38 : decode cX4_add 38 = .ok (.putfield 26, 3) := by decide +kernel
theorem dX4_add_41 : decode cX4_add 41 = .ok (.iconst 1, 1) := by decide +kernel
theorem dX4_add_42 : decode cX4_add 42 = .ok (.ireturn, 1) := by decide +kernel
theorem dX4_mayBe_0 : decode cX4_mayBe 0 = .ok (.aload_n 0, 1) := by decide +kernel
theorem dX4_mayBe_1 : decode cX4_mayBe 1 = .ok (.getfield 22, 3) := by decide +kernel
theorem dX4_mayBe_4 : decode cX4_mayBe 4 = .ok (.iload_n 1, 1) := by decide +kernel
theorem dX4_mayBe_5 : decode cX4_mayBe 5 = .ok (.invokevirtual 30, 3) := by decide +kernel
theorem dX4_mayBe_8 : decode cX4_mayBe 8 = .ok (.iload_n 3, 1) := by decide +kernel
theorem dX4_mayBe_9 : decode cX4_mayBe 9 = .ok (.iconst (-1), 1) := by decide +kernel
theorem dX4_mayBe_10 : decode cX4_mayBe 10 = .ok (.ixor, 1) := by decide +kernel
theorem dX4_mayBe_11 : decode cX4_mayBe 11 = .ok (.iand, 1) := by decide +kernel
theorem dX4_mayBe_12 : decode cX4_mayBe 12 = .ok (.ifCond .ne 24, 3) := by decide +kernel
theorem dX4_mayBe_15 : decode cX4_mayBe 15 = .ok (.aload_n 0, 1) := by decide +kernel
theorem dX4_mayBe_16 : decode cX4_mayBe 16 = .ok (.getfield 22, 3) := by decide +kernel
theorem dX4_mayBe_19 : decode cX4_mayBe 19 = .ok (.iload_n 1, 1) := by decide +kernel
theorem dX4_mayBe_20 : decode cX4_mayBe 20 = .ok (.invokevirtual 36, 3) := by decide +kernel
theorem dX4_mayBe_23 : decode cX4_mayBe 23 = .ok (.aload_n 0, 1) := by decide +kernel
theorem dX4_mayBe_24 : decode cX4_mayBe 24 = .ok (.getfield 15, 3) := by decide +kernel
theorem dX4_mayBe_27 : decode cX4_mayBe 27 = .ok (.iload_n 2, 1) := by decide +kernel
theorem dX4_mayBe_28 : decode cX4_mayBe 28 = .ok (.iaload, 1) := by decide +kernel
theorem dX4_mayBe_29 : decode cX4_mayBe 29 = .ok (.if_icmp .ne 7, 3) := by decide +kernel
theorem dX4_mayBe_32 : decode cX4_mayBe 32 = .ok (.iconst 1, 1) := by decide +kernel
theorem dX4_mayBe_33 : decode cX4_mayBe 33 = .ok (.goto 4, 3) := by decide +kernel
theorem dX4_mayBe_36 : decode cX4_mayBe 36 = .ok (.iconst 0, 1) := by decide +kernel
theorem dX4_mayBe_37 : decode cX4_mayBe 37 = .ok (.ireturn, 1) := by decide +kernel
theorem dX4_mayBeWorn_0 : decode cX4_mayBeWorn 0 = .ok (.aload_n 0, 1) := by decide +kernel
theorem dX4_mayBeWorn_1 : decode cX4_mayBeWorn 1 = .ok (.getfield 18, 3) := by decide +kernel
theorem dX4_mayBeWorn_4 : decode cX4_mayBeWorn 4 = .ok (.aload_n 0, 1) := by decide +kernel
theorem dX4_mayBeWorn_5 : decode cX4_mayBeWorn 5 = .ok (.getfield 9, 3) := by decide +kernel
theorem dX4_mayBeWorn_8 : decode cX4_mayBeWorn 8 = .ok (.iload_n 1, 1) := by decide +kernel
theorem dX4_mayBeWorn_9 : decode cX4_mayBeWorn 9 = .ok (.iaload, 1) := by decide +kernel
theorem dX4_mayBeWorn_10 : decode cX4_mayBeWorn 10 = .ok (.invokevirtual 39, 3) := by decide +kernel
theorem dX4_mayBeWorn_13 : decode cX4_mayBeWorn 13 = .ok (.istore_n 2, 1) := by decide +kernel
theorem dX4_mayBeWorn_14 : decode cX4_mayBeWorn 14 = .ok (.iconst 0, 1) := by decide +kernel
theorem dX4_mayBeWorn_15 : decode cX4_mayBeWorn 15 = .ok (.istore_n 3, 1) := by decide +kernel
theorem dX4_mayBeWorn_16 : decode cX4_mayBeWorn 16 = .ok (.iconst 0, 1) := by decide +kernel
theorem dX4_mayBeWorn_17 : decode cX4_mayBeWorn 17 = .ok (.istore 4, 2) := by decide +kernel
theorem dX4_mayBeWorn_19 : decode cX4_mayBeWorn 19 = .ok (.iload 4, 2) := by decide +kernel
theorem dX4_mayBeWorn_21 : decode cX4_mayBeWorn 21 = .ok (.aload_n 0, 1) := by decide +kernel
theorem dX4_mayBeWorn_22 : decode cX4_mayBeWorn 22 = .ok (.getfield 22, 3) := by decide +kernel
theorem dX4_mayBeWorn_25 : decode cX4_mayBeWorn 25 = .ok (.getfield 44, 3) := by decide +kernel
theorem dX4_mayBeWorn_28 : decode cX4_mayBeWorn 28 = .ok (.if_icmp .ge 32, 3) := by decide +kernel
theorem dX4_mayBeWorn_31 : decode cX4_mayBeWorn 31 = .ok (.aload_n 0, 1) := by decide +kernel
theorem dX4_mayBeWorn_32 : decode cX4_mayBeWorn 32 = .ok (.iload 4, 2) := by decide +kernel
theorem dX4_mayBeWorn_34 : decode cX4_mayBeWorn 34 = .ok (.iload_n 1, 1) := by decide +kernel
theorem dX4_mayBeWorn_35 : decode cX4_mayBeWorn 35 = .ok (.iload_n 2, 1) := by decide +kernel
theorem dX4_mayBeWorn_36 : decode cX4_mayBeWorn 36 = .ok (.invokevirtual 45, 3) := by decide +kernel
theorem dX4_mayBeWorn_39 : decode cX4_mayBeWorn 39 = .ok (.ifCond .eq 15, 3) := by decide +kernel
theorem dX4_mayBeWorn_42 : decode cX4_mayBeWorn 42 = .ok (.iload_n 3, 1) := by decide +kernel
theorem dX4_mayBeWorn_43 : decode cX4_mayBeWorn 43 = .ok (.aload_n 0, 1) := by decide +kernel
theorem dX4_mayBeWorn_44 : decode cX4_mayBeWorn 44 = .ok (.getfield 22, 3) := by decide +kernel
theorem dX4_mayBeWorn_47 : decode cX4_mayBeWorn 47 = .ok (.iload 4, 2) := by decide +kernel
theorem dX4_mayBeWorn_49 : decode cX4_mayBeWorn 49 = .ok (.invokevirtual 30, 3) := by decide +kernel
theorem dX4_mayBeWorn_52 : decode cX4_mayBeWorn 52 = .ok (.ior, 1) := by decide +kernel
theorem dX4_mayBeWorn_53 : decode cX4_mayBeWorn 53 = .ok (.istore_n 3, 1) := by decide +kernel
theorem dX4_mayBeWorn_54 : decode cX4_mayBeWorn 54 = .ok (.iinc 4 1, 3) := by decide +kernel
theorem dX4_mayBeWorn_57 : decode cX4_mayBeWorn 57 = .ok (.goto (-38), 3) := by decide +kernel
theorem dX4_mayBeWorn_60 : decode cX4_mayBeWorn 60 = .ok (.iload_n 3, 1) := by decide +kernel
theorem dX4_mayBeWorn_61 : decode cX4_mayBeWorn 61 = .ok (.ireturn, 1) := by decide +kernel
theorem dX4_surelyWorn_0 : decode cX4_surelyWorn 0 = .ok (.aload_n 0, 1) := by decide +kernel
theorem dX4_surelyWorn_1 : decode cX4_surelyWorn 1 = .ok (.getfield 18, 3) := by decide +kernel
theorem dX4_surelyWorn_4 : decode cX4_surelyWorn 4 = .ok (.aload_n 0, 1) := by decide +kernel
theorem dX4_surelyWorn_5 : decode cX4_surelyWorn 5 = .ok (.getfield 9, 3) := by decide +kernel
theorem dX4_surelyWorn_8 : decode cX4_surelyWorn 8 = .ok (.iload_n 1, 1) := by decide +kernel
theorem dX4_surelyWorn_9 : decode cX4_surelyWorn 9 = .ok (.iaload, 1) := by decide +kernel
theorem dX4_surelyWorn_10 : decode cX4_surelyWorn 10 = .ok (.invokevirtual 39, 3) := by decide +kernel
theorem dX4_surelyWorn_13 : decode cX4_surelyWorn 13 = .ok (.istore_n 2, 1) := by decide +kernel
theorem dX4_surelyWorn_14 : decode cX4_surelyWorn 14 = .ok (.aload_n 0, 1) := by decide +kernel
theorem dX4_surelyWorn_15 : decode cX4_surelyWorn 15 = .ok (.iload_n 1, 1) := by decide +kernel
theorem dX4_surelyWorn_16 : decode cX4_surelyWorn 16 = .ok (.invokevirtual 49, 3) := by decide +kernel
theorem dX4_surelyWorn_19 : decode cX4_surelyWorn 19 = .ok (.istore_n 3, 1) := by decide +kernel
theorem dX4_surelyWorn_20 : decode cX4_surelyWorn 20 = .ok (.iconst 0, 1) := by decide +kernel
theorem dX4_surelyWorn_21 : decode cX4_surelyWorn 21 = .ok (.istore 4, 2) := by decide +kernel
theorem dX4_surelyWorn_23 : decode cX4_surelyWorn 23 = .ok (.iload 4, 2) := by decide +kernel
theorem dX4_surelyWorn_25 : decode cX4_surelyWorn 25 = .ok (.aload_n 0, 1) := by decide +kernel
theorem dX4_surelyWorn_26 : decode cX4_surelyWorn 26 = .ok (.getfield 22, 3) := by decide +kernel
theorem dX4_surelyWorn_29 : decode cX4_surelyWorn 29 = .ok (.getfield 44, 3) := by decide +kernel
theorem dX4_surelyWorn_32 : decode cX4_surelyWorn 32 = .ok (.if_icmp .ge 32, 3) := by decide +kernel
theorem dX4_surelyWorn_35 : decode cX4_surelyWorn 35 = .ok (.aload_n 0, 1) := by decide +kernel
theorem dX4_surelyWorn_36 : decode cX4_surelyWorn 36 = .ok (.iload 4, 2) := by decide +kernel
theorem dX4_surelyWorn_38 : decode cX4_surelyWorn 38 = .ok (.iload_n 1, 1) := by decide +kernel
theorem dX4_surelyWorn_39 : decode cX4_surelyWorn 39 = .ok (.iload_n 2, 1) := by decide +kernel
theorem dX4_surelyWorn_40 : decode cX4_surelyWorn 40 = .ok (.invokevirtual 45, 3) := by decide +kernel
theorem dX4_surelyWorn_43 : decode cX4_surelyWorn 43 = .ok (.ifCond .eq 15, 3) := by decide +kernel
theorem dX4_surelyWorn_46 : decode cX4_surelyWorn 46 = .ok (.iload_n 3, 1) := by decide +kernel
theorem dX4_surelyWorn_47 : decode cX4_surelyWorn 47 = .ok (.aload_n 0, 1) := by decide +kernel
theorem dX4_surelyWorn_48 : decode cX4_surelyWorn 48 = .ok (.getfield 22, 3) := by decide +kernel
theorem dX4_surelyWorn_51 : decode cX4_surelyWorn 51 = .ok (.iload 4, 2) := by decide +kernel
theorem dX4_surelyWorn_53 : decode cX4_surelyWorn 53 = .ok (.invokevirtual 30, 3) := by decide +kernel
theorem dX4_surelyWorn_56 : decode cX4_surelyWorn 56 = .ok (.iand, 1) := by decide +kernel
theorem dX4_surelyWorn_57 : decode cX4_surelyWorn 57 = .ok (.istore_n 3, 1) := by decide +kernel
theorem dX4_surelyWorn_58 : decode cX4_surelyWorn 58 = .ok (.iinc 4 1, 3) := by decide +kernel
theorem dX4_surelyWorn_61 : decode cX4_surelyWorn 61 = .ok (.goto (-38), 3) := by decide +kernel
theorem dX4_surelyWorn_64 : decode cX4_surelyWorn 64 = .ok (.iload_n 3, 1) := by decide +kernel
theorem dX4_surelyWorn_65 : decode cX4_surelyWorn 65 = .ok (.ireturn, 1) := by decide +kernel
theorem dX4_firstStrange_0 : decode cX4_firstStrange 0 = .ok (.iconst 0, 1) := by decide +kernel
theorem dX4_firstStrange_1 : decode cX4_firstStrange 1 = .ok (.istore_n 1, 1) := by decide +kernel
theorem dX4_firstStrange_2 : decode cX4_firstStrange 2 = .ok (.iload_n 1, 1) := by decide +kernel
theorem dX4_firstStrange_3 : decode cX4_firstStrange 3 = .ok (.aload_n 0, 1) := by decide +kernel
theorem dX4_firstStrange_4 : decode cX4_firstStrange 4 = .ok (.getfield 26, 3) := by decide +kernel
theorem dX4_firstStrange_7 : decode cX4_firstStrange 7 = .ok (.if_icmp .ge 19, 3) := by decide +kernel
theorem dX4_firstStrange_10 : decode cX4_firstStrange 10 = .ok (.aload_n 0, 1) := by decide +kernel
theorem dX4_firstStrange_11 : decode cX4_firstStrange 11 = .ok (.iload_n 1, 1) := by decide +kernel
theorem dX4_firstStrange_12 : decode cX4_firstStrange 12 = .ok (.invokevirtual 49, 3) := by decide +kernel
theorem dX4_firstStrange_15 : decode cX4_firstStrange 15 = .ok (.ifCond .ne 5, 3) := by decide +kernel
theorem dX4_firstStrange_18 : decode cX4_firstStrange 18 = .ok (.iload_n 1, 1) := by decide +kernel
theorem dX4_firstStrange_19 : decode cX4_firstStrange 19 = .ok (.ireturn, 1) := by decide +kernel
theorem dX4_firstStrange_20 : decode cX4_firstStrange 20 = .ok (.iinc 1 1, 3) := by decide +kernel
theorem dX4_firstStrange_23 : decode cX4_firstStrange 23 = .ok (.goto (-21), 3) := by decide +kernel
theorem dX4_firstStrange_26 : decode cX4_firstStrange 26 = .ok (.iconst (-1), 1) := by decide +kernel
theorem dX4_firstStrange_27 : decode cX4_firstStrange 27 = .ok (.ireturn, 1) := by decide +kernel
theorem dX5_init_0 : decode cX5_init 0 = .ok (.aload_n 0, 1) := by decide +kernel
theorem dX5_init_1 : decode cX5_init 1 = .ok (.invokespecial 3, 3) := by decide +kernel
theorem dX5_init_4 : decode cX5_init 4 = .ok (.aload_n 0, 1) := by decide +kernel
theorem dX5_init_5 : decode cX5_init 5 = .ok (.bipush 10, 2) := by decide +kernel
theorem dX5_init_7 : decode cX5_init 7 = .ok (.newarray .int, 2) := by decide +kernel
theorem dX5_init_9 : decode cX5_init 9 = .ok (.putfield 9, 3) := by decide +kernel
theorem dX5_init_12 : decode cX5_init 12 = .ok (.aload_n 0, 1) := by decide +kernel
theorem dX5_init_13 : decode cX5_init 13 = .ok (.bipush 10, 2) := by decide +kernel
theorem dX5_init_15 : decode cX5_init 15 = .ok (.newarray .int, 2) := by decide +kernel
theorem dX5_init_17 : decode cX5_init 17 = .ok (.putfield 15, 3) := by decide +kernel
theorem dX5_init_20 : decode cX5_init 20 = .ok (.aload_n 0, 1) := by decide +kernel
theorem dX5_init_21 : decode cX5_init 21 = .ok (.bipush 10, 2) := by decide +kernel
theorem dX5_init_23 : decode cX5_init 23 = .ok (.newarray .int, 2) := by decide +kernel
theorem dX5_init_25 : decode cX5_init 25 = .ok (.putfield 18, 3) := by decide +kernel
theorem dX5_init_28 : decode cX5_init 28 = .ok (.return_, 1) := by decide +kernel
theorem dX5_beginIn_0 : decode cX5_beginIn 0 = .ok (.aload_n 1, 1) := by decide +kernel
theorem dX5_beginIn_1 : decode cX5_beginIn 1 = .ok (.getfield 21, 3) := by decide +kernel
theorem dX5_beginIn_4 : decode cX5_beginIn 4 = .ok (.aload_n 0, 1) := by decide +kernel
theorem dX5_beginIn_5 : decode cX5_beginIn 5 = .ok (.getfield 9, 3) := by decide +kernel
theorem dX5_beginIn_8 : decode cX5_beginIn 8 = .ok (.invokestatic 26, 3) := by decide +kernel
theorem dX5_beginIn_11 : decode cX5_beginIn 11 = .ok (.aload_n 1, 1) := by decide +kernel
theorem dX5_beginIn_12 : decode cX5_beginIn 12 = .ok (.getfield 30, 3) := by decide +kernel
theorem dX5_beginIn_15 : decode cX5_beginIn 15 = .ok (.aload_n 0, 1) := by decide +kernel
theorem dX5_beginIn_16 : decode cX5_beginIn 16 = .ok (.getfield 15, 3) := by decide +kernel
theorem dX5_beginIn_19 : decode cX5_beginIn 19 = .ok (.invokestatic 26, 3) := by decide +kernel
theorem dX5_beginIn_22 : decode cX5_beginIn 22 = .ok (.iconst 0, 1) := by decide +kernel
theorem dX5_beginIn_23 : decode cX5_beginIn 23 = .ok (.istore_n 2, 1) := by decide +kernel
theorem dX5_beginIn_24 : decode cX5_beginIn 24 = .ok (.iload_n 2, 1) := by decide +kernel
theorem dX5_beginIn_25 : decode cX5_beginIn 25 = .ok (.bipush 10, 2) := by decide +kernel
theorem dX5_beginIn_27 : decode cX5_beginIn 27 = .ok (.if_icmp .ge 16, 3) := by decide +kernel
theorem dX5_beginIn_30 : decode cX5_beginIn 30 = .ok (.aload_n 0, 1) := by decide +kernel
theorem dX5_beginIn_31 : decode cX5_beginIn 31 = .ok (.getfield 18, 3) := by decide +kernel
theorem dX5_beginIn_34 : decode cX5_beginIn 34 = .ok (.iload_n 2, 1) := by decide +kernel
theorem dX5_beginIn_35 : decode cX5_beginIn 35 = .ok (.iconst 0, 1) := by decide +kernel
theorem dX5_beginIn_36 : decode cX5_beginIn 36 = .ok (.iastore, 1) := by decide +kernel
theorem dX5_beginIn_37 : decode cX5_beginIn 37 = .ok (.iinc 2 1, 3) := by decide +kernel
theorem dX5_beginIn_40 : decode cX5_beginIn 40 = .ok (.goto (-16), 3) := by decide +kernel
theorem dX5_beginIn_43 : decode cX5_beginIn 43 = .ok (.aload_n 0, 1) := by decide +kernel
theorem dX5_beginIn_44 : decode cX5_beginIn 44 = .ok (.iconst 0, 1) := by decide +kernel
theorem dX5_beginIn_45 : decode cX5_beginIn 45 = .ok (.putfield 33, 3) := by decide +kernel
theorem dX5_beginIn_48 : decode cX5_beginIn 48 = .ok (.aload_n 0, 1) := by decide +kernel
theorem dX5_beginIn_49 : decode cX5_beginIn 49 = .ok (.iconst 0, 1) := by decide +kernel
theorem dX5_beginIn_50 : decode cX5_beginIn 50 = .ok (.putfield 37, 3) := by decide +kernel
theorem dX5_beginIn_53 : decode cX5_beginIn 53 = .ok (.return_, 1) := by decide +kernel
theorem dX5_copyFrom_0 : decode cX5_copyFrom 0 = .ok (.aload_n 1, 1) := by decide +kernel
theorem dX5_copyFrom_1 : decode cX5_copyFrom 1 = .ok (.getfield 9, 3) := by decide +kernel
theorem dX5_copyFrom_4 : decode cX5_copyFrom 4 = .ok (.aload_n 0, 1) := by decide +kernel
theorem dX5_copyFrom_5 : decode cX5_copyFrom 5 = .ok (.getfield 9, 3) := by decide +kernel
theorem dX5_copyFrom_8 : decode cX5_copyFrom 8 = .ok (.invokestatic 26, 3) := by decide +kernel
theorem dX5_copyFrom_11 : decode cX5_copyFrom 11 = .ok (.aload_n 1, 1) := by decide +kernel
theorem dX5_copyFrom_12 : decode cX5_copyFrom 12 = .ok (.getfield 15, 3) := by decide +kernel
theorem dX5_copyFrom_15 : decode cX5_copyFrom 15 = .ok (.aload_n 0, 1) := by decide +kernel
theorem dX5_copyFrom_16 : decode cX5_copyFrom 16 = .ok (.getfield 15, 3) := by decide +kernel
theorem dX5_copyFrom_19 : decode cX5_copyFrom 19 = .ok (.invokestatic 26, 3) := by decide +kernel
theorem dX5_copyFrom_22 : decode cX5_copyFrom 22 = .ok (.aload_n 1, 1) := by decide +kernel
theorem dX5_copyFrom_23 : decode cX5_copyFrom 23 = .ok (.getfield 18, 3) := by decide +kernel
theorem dX5_copyFrom_26 : decode cX5_copyFrom 26 = .ok (.aload_n 0, 1) := by decide +kernel
theorem dX5_copyFrom_27 : decode cX5_copyFrom 27 = .ok (.getfield 18, 3) := by decide +kernel
theorem dX5_copyFrom_30 : decode cX5_copyFrom 30 = .ok (.invokestatic 26, 3) := by decide +kernel
theorem dX5_copyFrom_33 : decode cX5_copyFrom 33 = .ok (.aload_n 0, 1) := by decide +kernel
theorem dX5_copyFrom_34 : decode cX5_copyFrom 34 = .ok (.aload_n 1, 1) := by decide +kernel
theorem dX5_copyFrom_35 : decode cX5_copyFrom 35 = .ok (.getfield 33, 3) := by decide +kernel
theorem dX5_copyFrom_38 : decode cX5_copyFrom 38 = .ok (.putfield 33, 3) := by decide +kernel
theorem dX5_copyFrom_41 : decode cX5_copyFrom 41 = .ok (.aload_n 0, 1) := by decide +kernel
theorem dX5_copyFrom_42 : decode cX5_copyFrom 42 = .ok (.aload_n 1, 1) := by decide +kernel
theorem dX5_copyFrom_43 : decode cX5_copyFrom 43 = .ok (.getfield 37, 3) := by decide +kernel
theorem dX5_copyFrom_46 : decode cX5_copyFrom 46 = .ok (.putfield 37, 3) := by decide +kernel
theorem dX5_copyFrom_49 : decode cX5_copyFrom 49 = .ok (.aload_n 0, 1) := by decide +kernel
theorem dX5_copyFrom_50 : decode cX5_copyFrom 50 = .ok (.aload_n 1, 1) := by decide +kernel
theorem dX5_copyFrom_51 : decode cX5_copyFrom 51 = .ok (.getfield 40, 3) := by decide +kernel
theorem dX5_copyFrom_54 : decode cX5_copyFrom 54 = .ok (.putfield 40, 3) := by decide +kernel
theorem dX5_copyFrom_57 : decode cX5_copyFrom 57 = .ok (.aload_n 0, 1) := by decide +kernel
theorem dX5_copyFrom_58 : decode cX5_copyFrom 58 = .ok (.aload_n 1, 1) := by decide +kernel
theorem dX5_copyFrom_59 : decode cX5_copyFrom 59 = .ok (.getfield 43, 3) := by decide +kernel
theorem dX5_copyFrom_62 : decode cX5_copyFrom 62 = .ok (.putfield 43, 3) := by decide +kernel
theorem dX5_copyFrom_65 : decode cX5_copyFrom 65 = .ok (.return_, 1) := by decide +kernel
theorem dX5_raisePrices_0 : decode cX5_raisePrices 0 = .ok (.aload_n 3, 1) := by decide +kernel
theorem dX5_raisePrices_1 : decode cX5_raisePrices 1 = .ok (.arraylength, 1) := by decide +kernel
theorem dX5_raisePrices_2 : decode cX5_raisePrices 2 = .ok (.bipush 10, 2) := by decide +kernel
theorem dX5_raisePrices_4 : decode cX5_raisePrices 4 = .ok (.invokestatic 46, 3) := by decide +kernel
theorem dX5_raisePrices_7 : decode cX5_raisePrices 7 = .ok (.istore 4, 2) := by decide +kernel
theorem dX5_raisePrices_9 : decode cX5_raisePrices 9 = .ok (.iconst 0, 1) := by decide +kernel
theorem dX5_raisePrices_10 : decode cX5_raisePrices 10 = .ok (.istore 5, 2) := by decide +kernel
theorem dX5_raisePrices_12 : decode cX5_raisePrices 12 = .ok (.iload 5, 2) := by decide +kernel
theorem dX5_raisePrices_14 : decode cX5_raisePrices 14 = .ok (.iload 4, 2) := by decide +kernel
theorem dX5_raisePrices_16 : decode cX5_raisePrices 16 = .ok (.if_icmp .ge 46, 3) := by decide +kernel
theorem dX5_raisePrices_19 : decode cX5_raisePrices 19 = .ok (.aload_n 3, 1) := by decide +kernel
theorem dX5_raisePrices_20 : decode cX5_raisePrices 20 = .ok (.iload 5, 2) := by decide +kernel
theorem dX5_raisePrices_22 : decode cX5_raisePrices 22 = .ok (.iload_n 1, 1) := by decide +kernel
theorem dX5_raisePrices_23 : decode cX5_raisePrices 23 = .ok (.iload 5, 2) := by decide +kernel
theorem dX5_raisePrices_25 : decode cX5_raisePrices 25 = .ok (.invokestatic 52, 3) := by decide +kernel
theorem dX5_raisePrices_28 : decode cX5_raisePrices 28 = .ok (.ifCond .eq 20, 3) := by decide +kernel
theorem dX5_raisePrices_31 : decode cX5_raisePrices 31 = .ok (.bipush 99, 2) := by decide +kernel
theorem dX5_raisePrices_33 : decode cX5_raisePrices 33 = .ok (.aload_n 0, 1) := by decide +kernel
theorem dX5_raisePrices_34 : decode cX5_raisePrices 34 = .ok (.getfield 15, 3) := by decide +kernel
theorem dX5_raisePrices_37 : decode cX5_raisePrices 37 = .ok (.iload 5, 2) := by decide +kernel
theorem dX5_raisePrices_39 : decode cX5_raisePrices 39 = .ok (.iaload, 1) := by decide +kernel
theorem dX5_raisePrices_40 : decode cX5_raisePrices 40 = .ok (.iload_n 2, 1) := by decide +kernel
theorem dX5_raisePrices_41 : decode cX5_raisePrices 41 = .ok (.iadd, 1) := by decide +kernel
theorem dX5_raisePrices_42 : decode cX5_raisePrices 42 = .ok (.invokestatic 46, 3) := by decide +kernel
theorem dX5_raisePrices_45 : decode cX5_raisePrices 45 = .ok (.goto 10, 3) := by decide +kernel
theorem dX5_raisePrices_48 : decode cX5_raisePrices 48 = .ok (.aload_n 0, 1) := by decide +kernel
theorem dX5_raisePrices_49 : decode cX5_raisePrices 49 = .ok (.getfield 15, 3) := by decide +kernel
theorem dX5_raisePrices_52 : decode cX5_raisePrices 52 = .ok (.iload 5, 2) := by decide +kernel
theorem dX5_raisePrices_54 : decode cX5_raisePrices 54 = .ok (.iaload, 1) := by decide +kernel
theorem dX5_raisePrices_55 : decode cX5_raisePrices 55 = .ok (.iastore, 1) := by decide +kernel
theorem dX5_raisePrices_56 : decode cX5_raisePrices 56 = .ok (.iinc 5 1, 3) := by decide +kernel
theorem dX5_raisePrices_59 : decode cX5_raisePrices 59 = .ok (.goto (-47), 3) := by decide +kernel
theorem dX5_raisePrices_62 : decode cX5_raisePrices 62 = .ok (.return_, 1) := by decide +kernel
theorem dX5_drawOfFour_0 : decode cX5_drawOfFour 0 = .ok (.aload_n 0, 1) := by decide +kernel
theorem dX5_drawOfFour_1 : decode cX5_drawOfFour 1 = .ok (.aload_n 0, 1) := by decide +kernel
theorem dX5_drawOfFour_2 : decode cX5_drawOfFour 2 = .ok (.getfield 43, 3) := by decide +kernel
theorem dX5_drawOfFour_5 : decode cX5_drawOfFour 5 = .ok (.i2l, 1) := by decide +kernel
theorem dX5_drawOfFour_6 : decode cX5_drawOfFour 6 = .ok (.ldc2_w 56, 3) := by decide +kernel
theorem dX5_drawOfFour_9 : decode cX5_drawOfFour 9 = .ok (.lmul, 1) := by decide +kernel
theorem dX5_drawOfFour_10 : decode cX5_drawOfFour 10 = .ok (.ldc2_w 58, 3) := by decide +kernel
theorem dX5_drawOfFour_13 : decode cX5_drawOfFour 13 = .ok (.ladd, 1) := by decide +kernel
theorem dX5_drawOfFour_14 : decode cX5_drawOfFour 14 = .ok (.ldc2_w 60, 3) := by decide +kernel
theorem dX5_drawOfFour_17 : decode cX5_drawOfFour 17 = .ok (.land, 1) := by decide +kernel
theorem dX5_drawOfFour_18 : decode cX5_drawOfFour 18 = .ok (.l2i, 1) := by decide +kernel
theorem dX5_drawOfFour_19 : decode cX5_drawOfFour 19 = .ok (.putfield 43, 3) := by decide +kernel
theorem dX5_drawOfFour_22 : decode cX5_drawOfFour 22 = .ok (.aload_n 0, 1) := by decide +kernel
theorem dX5_drawOfFour_23 : decode cX5_drawOfFour 23 = .ok (.getfield 43, 3) := by decide +kernel
theorem dX5_drawOfFour_26 : decode cX5_drawOfFour 26 = .ok (.ldc 62, 2) := by decide +kernel
theorem dX5_drawOfFour_28 : decode cX5_drawOfFour 28 = .ok (.idiv, 1) := by decide +kernel
theorem dX5_drawOfFour_29 : decode cX5_drawOfFour 29 = .ok (.iconst 4, 1) := by decide +kernel
theorem dX5_drawOfFour_30 : decode cX5_drawOfFour 30 = .ok (.irem, 1) := by decide +kernel
theorem dX5_drawOfFour_31 : decode cX5_drawOfFour 31 = .ok (.ireturn, 1) := by decide +kernel
theorem dX5_drawPrices_0 : decode cX5_drawPrices 0 = .ok (.iload_n 1, 1) := by decide +kernel
theorem dX5_drawPrices_1 : decode cX5_drawPrices 1 = .ok (.bipush 10, 2) := by decide +kernel
theorem dX5_drawPrices_3 : decode cX5_drawPrices 3 = .ok (.invokestatic 46, 3) := by decide +kernel
theorem dX5_drawPrices_6 : decode cX5_drawPrices 6 = .ok (.istore_n 2, 1) := by decide +kernel
theorem dX5_drawPrices_7 : decode cX5_drawPrices 7 = .ok (.iconst 0, 1) := by decide +kernel
theorem dX5_drawPrices_8 : decode cX5_drawPrices 8 = .ok (.istore_n 3, 1) := by decide +kernel
theorem dX5_drawPrices_9 : decode cX5_drawPrices 9 = .ok (.iload_n 3, 1) := by decide +kernel
theorem dX5_drawPrices_10 : decode cX5_drawPrices 10 = .ok (.iload_n 2, 1) := by decide +kernel
theorem dX5_drawPrices_11 : decode cX5_drawPrices 11 = .ok (.if_icmp .ge 66, 3) := by decide +kernel
theorem dX5_drawPrices_14 : decode cX5_drawPrices 14 = .ok (.aload_n 0, 1) := by decide +kernel
theorem dX5_drawPrices_15 : decode cX5_drawPrices 15 = .ok (.invokevirtual 63, 3) := by decide +kernel
theorem dX5_drawPrices_18 : decode cX5_drawPrices 18 = .ok (.istore 4, 2) := by decide +kernel
theorem dX5_drawPrices_20 : decode cX5_drawPrices 20 = .ok (.iload 4, 2) := by decide +kernel
theorem dX5_drawPrices_22 : decode cX5_drawPrices 22 = .ok (.ifCond .ne 25, 3) := by decide +kernel
theorem dX5_drawPrices_25 : decode cX5_drawPrices 25 = .ok (.aload_n 0, 1) := by decide +kernel
theorem dX5_drawPrices_26 : decode cX5_drawPrices 26 = .ok (.getfield 15, 3) := by decide +kernel
theorem dX5_drawPrices_29 : decode cX5_drawPrices 29 = .ok (.iload_n 3, 1) := by decide +kernel
theorem dX5_drawPrices_30 : decode cX5_drawPrices 30 = .ok (.bipush 99, 2) := by decide +kernel
theorem dX5_drawPrices_32 : decode cX5_drawPrices 32 = .ok (.aload_n 0, 1) := by decide +kernel
theorem dX5_drawPrices_33 : decode cX5_drawPrices 33 = .ok (.getfield 15, 3) := by decide +kernel
theorem dX5_drawPrices_36 : decode cX5_drawPrices 36 = .ok (.iload_n 3, 1) := by decide +kernel
theorem dX5_drawPrices_37 : decode cX5_drawPrices 37 = .ok (.iaload, 1) := by decide +kernel
theorem dX5_drawPrices_38 : decode cX5_drawPrices 38 = .ok (.iconst 1, 1) := by decide +kernel
theorem dX5_drawPrices_39 : decode cX5_drawPrices 39 = .ok (.iadd, 1) := by decide +kernel
theorem dX5_drawPrices_40 : decode cX5_drawPrices 40 = .ok (.invokestatic 46, 3) := by decide +kernel
theorem dX5_drawPrices_43 : decode cX5_drawPrices 43 = .ok (.iastore, 1) := by decide +kernel
theorem dX5_drawPrices_44 : decode cX5_drawPrices 44 = .ok (.goto 27, 3) := by decide +kernel
theorem dX5_drawPrices_47 : decode cX5_drawPrices 47 = .ok (.iload 4, 2) := by decide +kernel
theorem dX5_drawPrices_49 : decode cX5_drawPrices 49 = .ok (.iconst 1, 1) := by decide +kernel
theorem dX5_drawPrices_50 : decode cX5_drawPrices 50 = .ok (.if_icmp .ne 21, 3) := by decide +kernel
theorem dX5_drawPrices_53 : decode cX5_drawPrices 53 = .ok (.aload_n 0, 1) := by decide +kernel
theorem dX5_drawPrices_54 : decode cX5_drawPrices 54 = .ok (.getfield 15, 3) := by decide +kernel
theorem dX5_drawPrices_57 : decode cX5_drawPrices 57 = .ok (.iload_n 3, 1) := by decide +kernel
theorem dX5_drawPrices_58 : decode cX5_drawPrices 58 = .ok (.iconst 0, 1) := by decide +kernel
theorem dX5_drawPrices_59 : decode cX5_drawPrices 59 = .ok (.aload_n 0, 1) := by decide +kernel
theorem dX5_drawPrices_60 : decode cX5_drawPrices 60 = .ok (.getfield 15, 3) := by decide +kernel
theorem dX5_drawPrices_63 : decode cX5_drawPrices 63 = .ok (.iload_n 3, 1) := by decide +kernel
theorem dX5_drawPrices_64 : decode cX5_drawPrices 64 = .ok (.iaload, 1) := by decide +kernel
theorem dX5_drawPrices_65 : decode cX5_drawPrices 65 = .ok (.iconst 1, 1) := by decide +kernel
theorem dX5_drawPrices_66 : decode cX5_drawPrices 66 = .ok (.isub, 1) := by decide +kernel
theorem dX5_drawPrices_67 : decode cX5_drawPrices 67 = .ok (.invokestatic 67, 3) := by decide +kernel
theorem dX5_drawPrices_70 : decode cX5_drawPrices 70 = .ok (.iastore, 1) := by decide +kernel
theorem dX5_drawPrices_71 : decode cX5_drawPrices 71 = .ok (.iinc 3 1, 3) := by decide +kernel
theorem dX5_drawPrices_74 : decode cX5_drawPrices 74 = .ok (.goto (-65), 3) := by decide +kernel
theorem dX5_drawPrices_77 : decode cX5_drawPrices 77 = .ok (.return_, 1) := by decide +kernel
theorem dX5_wearHour_0 : decode cX5_wearHour 0 = .ok (.iconst 0, 1) := by decide +kernel
theorem dX5_wearHour_1 : decode cX5_wearHour 1 = .ok (.istore_n 2, 1) := by decide +kernel
theorem dX5_wearHour_2 : decode cX5_wearHour 2 = .ok (.iload_n 2, 1) := by decide +kernel
theorem dX5_wearHour_3 : decode cX5_wearHour 3 = .ok (.bipush 10, 2) := by decide +kernel
theorem dX5_wearHour_5 : decode cX5_wearHour 5 = .ok (.if_icmp .ge 27, 3) := by decide +kernel
theorem dX5_wearHour_8 : decode cX5_wearHour 8 = .ok (.iload_n 1, 1) := by decide +kernel
theorem dX5_wearHour_9 : decode cX5_wearHour 9 = .ok (.iload_n 2, 1) := by decide +kernel
theorem dX5_wearHour_10 : decode cX5_wearHour 10 = .ok (.invokestatic 52, 3) := by decide +kernel
theorem dX5_wearHour_13 : decode cX5_wearHour 13 = .ok (.ifCond .eq 13, 3) := by decide +kernel
theorem dX5_wearHour_16 : decode cX5_wearHour 16 = .ok (.aload_n 0, 1) := by decide +kernel
theorem dX5_wearHour_17 : decode cX5_wearHour 17 = .ok (.getfield 18, 3) := by decide +kernel
theorem dX5_wearHour_20 : decode cX5_wearHour 20 = .ok (.iload_n 2, 1) := by decide +kernel
theorem dX5_wearHour_21 : decode cX5_wearHour 21 = .ok (.dup2, 1) := by decide +kernel
theorem dX5_wearHour_22 : decode cX5_wearHour 22 = .ok (.iaload, 1) := by decide +kernel
theorem dX5_wearHour_23 : decode cX5_wearHour 23 = .ok (.iconst 1, 1) := by decide +kernel
theorem dX5_wearHour_24 : decode cX5_wearHour 24 = .ok (.iadd, 1) := by decide +kernel
theorem dX5_wearHour_25 : decode cX5_wearHour 25 = .ok (.iastore, 1) := by decide +kernel
theorem dX5_wearHour_26 : decode cX5_wearHour 26 = .ok (.iinc 2 1, 3) := by decide +kernel
theorem dX5_wearHour_29 : decode cX5_wearHour 29 = .ok (.goto (-27), 3) := by decide +kernel
theorem dX5_wearHour_32 : decode cX5_wearHour 32 = .ok (.return_, 1) := by decide +kernel
theorem dX5_wearOut_0 : decode cX5_wearOut 0 = .ok (.iconst 0, 1) := by decide +kernel
theorem dX5_wearOut_1 : decode cX5_wearOut 1 = .ok (.istore_n 1, 1) := by decide +kernel
theorem dX5_wearOut_2 : decode cX5_wearOut 2 = .ok (.iload_n 1, 1) := by decide +kernel
theorem dX5_wearOut_3 : decode cX5_wearOut 3 = .ok (.bipush 10, 2) := by decide +kernel
theorem dX5_wearOut_5 : decode cX5_wearOut 5 = .ok (.if_icmp .ge 52, 3) := by decide +kernel
theorem dX5_wearOut_8 : decode cX5_wearOut 8 = .ok (.aload_n 0, 1) := by decide +kernel
theorem dX5_wearOut_9 : decode cX5_wearOut 9 = .ok (.getfield 18, 3) := by decide +kernel
theorem dX5_wearOut_12 : decode cX5_wearOut 12 = .ok (.iload_n 1, 1) := by decide +kernel
theorem dX5_wearOut_13 : decode cX5_wearOut 13 = .ok (.iaload, 1) := by decide +kernel
theorem dX5_wearOut_14 : decode cX5_wearOut 14 = .ok (.bipush 10, 2) := by decide +kernel
theorem dX5_wearOut_16 : decode cX5_wearOut 16 = .ok (.if_icmp .lt 35, 3) := by decide +kernel
theorem dX5_wearOut_19 : decode cX5_wearOut 19 = .ok (.aload_n 0, 1) := by decide +kernel
theorem dX5_wearOut_20 : decode cX5_wearOut 20 = .ok (.getfield 18, 3) := by decide +kernel
theorem dX5_wearOut_23 : decode cX5_wearOut 23 = .ok (.iload_n 1, 1) := by decide +kernel
theorem dX5_wearOut_24 : decode cX5_wearOut 24 = .ok (.dup2, 1) := by decide +kernel
theorem dX5_wearOut_25 : decode cX5_wearOut 25 = .ok (.iaload, 1) := by decide +kernel
theorem dX5_wearOut_26 : decode cX5_wearOut 26 = .ok (.bipush 10, 2) := by decide +kernel
theorem dX5_wearOut_28 : decode cX5_wearOut 28 = .ok (.isub, 1) := by decide +kernel
theorem dX5_wearOut_29 : decode cX5_wearOut 29 = .ok (.iastore, 1) := by decide +kernel
theorem dX5_wearOut_30 : decode cX5_wearOut 30 = .ok (.aload_n 0, 1) := by decide +kernel
theorem dX5_wearOut_31 : decode cX5_wearOut 31 = .ok (.getfield 9, 3) := by decide +kernel
theorem dX5_wearOut_34 : decode cX5_wearOut 34 = .ok (.iload_n 1, 1) := by decide +kernel
theorem dX5_wearOut_35 : decode cX5_wearOut 35 = .ok (.iconst 0, 1) := by decide +kernel
theorem dX5_wearOut_36 : decode cX5_wearOut 36 = .ok (.aload_n 0, 1) := by decide +kernel
theorem dX5_wearOut_37 : decode cX5_wearOut 37 = .ok (.getfield 9, 3) := by decide +kernel
theorem dX5_wearOut_40 : decode cX5_wearOut 40 = .ok (.iload_n 1, 1) := by decide +kernel
theorem dX5_wearOut_41 : decode cX5_wearOut 41 = .ok (.iaload, 1) := by decide +kernel
theorem dX5_wearOut_42 : decode cX5_wearOut 42 = .ok (.iconst 1, 1) := by decide +kernel
theorem dX5_wearOut_43 : decode cX5_wearOut 43 = .ok (.isub, 1) := by decide +kernel
theorem dX5_wearOut_44 : decode cX5_wearOut 44 = .ok (.invokestatic 67, 3) := by decide +kernel
theorem dX5_wearOut_47 : decode cX5_wearOut 47 = .ok (.iastore, 1) := by decide +kernel
theorem dX5_wearOut_48 : decode cX5_wearOut 48 = .ok (.goto (-40), 3) := by decide +kernel
theorem dX5_wearOut_51 : decode cX5_wearOut 51 = .ok (.iinc 1 1, 3) := by decide +kernel
theorem dX5_wearOut_54 : decode cX5_wearOut 54 = .ok (.goto (-52), 3) := by decide +kernel
theorem dX5_wearOut_57 : decode cX5_wearOut 57 = .ok (.return_, 1) := by decide +kernel
theorem dX6_init_0 : decode cX6_init 0 = .ok (.aload_n 0, 1) := by decide +kernel
theorem dX6_init_1 : decode cX6_init 1 = .ok (.invokespecial 3, 3) := by decide +kernel
theorem dX6_init_4 : decode cX6_init 4 = .ok (.aload_n 0, 1) := by decide +kernel
theorem dX6_init_5 : decode cX6_init 5 = .ok (.sipush 400, 3) := by decide +kernel
theorem dX6_init_8 : decode cX6_init 8 = .ok (.newarray .int, 2) := by decide +kernel
theorem dX6_init_10 : decode cX6_init 10 = .ok (.putfield 9, 3) := by decide +kernel
theorem dX6_init_13 : decode cX6_init 13 = .ok (.return_, 1) := by decide +kernel
theorem dX6_add_0 : decode cX6_add 0 = .ok (.aload_n 0, 1) := by decide +kernel
theorem dX6_add_1 : decode cX6_add 1 = .ok (.getfield 15, 3) := by decide +kernel
theorem dX6_add_4 : decode cX6_add 4 = .ok (.sipush 400, 3) := by decide +kernel
theorem dX6_add_7 : decode cX6_add 7 = .ok (.if_icmp .ge 23, 3) := by decide +kernel
theorem dX6_add_10 : decode cX6_add 10 = .ok (.aload_n 0, 1) := by decide +kernel
theorem dX6_add_11 : decode cX6_add 11 = .ok (.getfield 9, 3) := by decide +kernel
theorem dX6_add_14 : decode cX6_add 14 = .ok (.aload_n 0, 1) := by decide +kernel
theorem dX6_add_15 : decode cX6_add 15 = .ok (.getfield 15, 3) := by decide +kernel
theorem dX6_add_18 : decode cX6_add 18 = .ok (.iload_n 1, 1) := by decide +kernel
theorem dX6_add_19 : decode cX6_add 19 = .ok (.iastore, 1) := by decide +kernel
theorem dX6_add_20 : decode cX6_add 20 = .ok (.aload_n 0, 1) := by decide +kernel
theorem dX6_add_21 : decode cX6_add 21 = .ok (.dup, 1) := by decide +kernel
theorem dX6_add_22 : decode cX6_add 22 = .ok (.getfield 15, 3) := by decide +kernel
theorem dX6_add_25 : decode cX6_add 25 = .ok (.iconst 1, 1) := by decide +kernel
theorem dX6_add_26 : decode cX6_add 26 = .ok (.iadd, 1) := by decide +kernel
theorem dX6_add_27 : decode cX6_add 27 = .ok (.putfield 15, 3) := by decide +kernel
theorem dX6_add_30 : decode cX6_add 30 = .ok (.return_, 1) := by decide +kernel
theorem dX6_byteAt_0 : decode cX6_byteAt 0 = .ok (.iload_n 1, 1) := by decide +kernel
theorem dX6_byteAt_1 : decode cX6_byteAt 1 = .ok (.ifCond .lt 20, 3) := by decide +kernel
theorem dX6_byteAt_4 : decode cX6_byteAt 4 = .ok (.iload_n 1, 1) := by decide +kernel
theorem dX6_byteAt_5 : decode cX6_byteAt 5 = .ok (.aload_n 0, 1) := by decide +kernel
theorem dX6_byteAt_6 : decode cX6_byteAt 6 = .ok (.getfield 15, 3) := by decide +kernel
theorem dX6_byteAt_9 : decode cX6_byteAt 9 = .ok (.if_icmp .ge 12, 3) := by decide +kernel
theorem dX6_byteAt_12 : decode cX6_byteAt 12 = .ok (.aload_n 0, 1) := by decide +kernel
theorem dX6_byteAt_13 : decode cX6_byteAt 13 = .ok (.getfield 9, 3) := by decide +kernel
theorem dX6_byteAt_16 : decode cX6_byteAt 16 = .ok (.iload_n 1, 1) := by decide +kernel
theorem dX6_byteAt_17 : decode cX6_byteAt 17 = .ok (.iaload, 1) := by decide +kernel
theorem dX6_byteAt_18 : decode cX6_byteAt 18 = .ok (.goto 4, 3) := by decide +kernel
theorem dX6_byteAt_21 : decode cX6_byteAt 21 = .ok (.iconst (-1), 1) := by decide +kernel
theorem dX6_byteAt_22 : decode cX6_byteAt 22 = .ok (.ireturn, 1) := by decide +kernel
theorem dX6_isLetter_0 : decode cX6_isLetter 0 = .ok (.aload_n 0, 1) := by decide +kernel
theorem dX6_isLetter_1 : decode cX6_isLetter 1 = .ok (.iload_n 1, 1) := by decide +kernel
theorem dX6_isLetter_2 : decode cX6_isLetter 2 = .ok (.invokevirtual 19, 3) := by decide +kernel
theorem dX6_isLetter_5 : decode cX6_isLetter 5 = .ok (.istore_n 2, 1) := by decide +kernel
theorem dX6_isLetter_6 : decode cX6_isLetter 6 = .ok (.iload_n 2, 1) := by decide +kernel
theorem dX6_isLetter_7 : decode cX6_isLetter 7 = .ok (.bipush 97, 2) := by decide +kernel
theorem dX6_isLetter_9 : decode cX6_isLetter 9 = .ok (.if_icmp .lt 13, 3) := by decide +kernel
theorem dX6_isLetter_12 : decode cX6_isLetter 12 = .ok (.iload_n 2, 1) := by decide +kernel
theorem dX6_isLetter_13 : decode cX6_isLetter 13 = .ok (.bipush 122, 2) := by decide +kernel
theorem dX6_isLetter_15 : decode cX6_isLetter 15 = .ok (.if_icmp .gt 7, 3) := by decide +kernel
theorem dX6_isLetter_18 : decode cX6_isLetter 18 = .ok (.iconst 1, 1) := by decide +kernel
theorem dX6_isLetter_19 : decode cX6_isLetter 19 = .ok (.goto 4, 3) := by decide +kernel
theorem dX6_isLetter_22 : decode cX6_isLetter 22 = .ok (.iconst 0, 1) := by decide +kernel
theorem dX6_isLetter_23 : decode cX6_isLetter 23 = .ok (.ireturn, 1) := by decide +kernel
theorem dX6_isFigure_0 : decode cX6_isFigure 0 = .ok (.aload_n 0, 1) := by decide +kernel
theorem dX6_isFigure_1 : decode cX6_isFigure 1 = .ok (.iload_n 1, 1) := by decide +kernel
theorem dX6_isFigure_2 : decode cX6_isFigure 2 = .ok (.invokevirtual 19, 3) := by decide +kernel
theorem dX6_isFigure_5 : decode cX6_isFigure 5 = .ok (.istore_n 2, 1) := by decide +kernel
theorem dX6_isFigure_6 : decode cX6_isFigure 6 = .ok (.iload_n 2, 1) := by decide +kernel
theorem dX6_isFigure_7 : decode cX6_isFigure 7 = .ok (.bipush 48, 2) := by decide +kernel
theorem dX6_isFigure_9 : decode cX6_isFigure 9 = .ok (.if_icmp .lt 13, 3) := by decide +kernel
theorem dX6_isFigure_12 : decode cX6_isFigure 12 = .ok (.iload_n 2, 1) := by decide +kernel
theorem dX6_isFigure_13 : decode cX6_isFigure 13 = .ok (.bipush 57, 2) := by decide +kernel
theorem dX6_isFigure_15 : decode cX6_isFigure 15 = .ok (.if_icmp .gt 7, 3) := by decide +kernel
theorem dX6_isFigure_18 : decode cX6_isFigure 18 = .ok (.iconst 1, 1) := by decide +kernel
theorem dX6_isFigure_19 : decode cX6_isFigure 19 = .ok (.goto 4, 3) := by decide +kernel
theorem dX6_isFigure_22 : decode cX6_isFigure 22 = .ok (.iconst 0, 1) := by decide +kernel
theorem dX6_isFigure_23 : decode cX6_isFigure 23 = .ok (.ireturn, 1) := by decide +kernel
theorem dX6_stands_0 : decode cX6_stands 0 = .ok (.aload_n 1, 1) := by decide +kernel
theorem dX6_stands_1 : decode cX6_stands 1 = .ok (.invokevirtual 23, 3) := by decide +kernel
theorem dX6_stands_4 : decode cX6_stands 4 = .ok (.iload_n 3, 1) := by decide +kernel
theorem dX6_stands_5 : decode cX6_stands 5 = .ok (.iload_n 2, 1) := by decide +kernel
theorem dX6_stands_6 : decode cX6_stands 6 = .ok (.isub, 1) := by decide +kernel
theorem dX6_stands_7 : decode cX6_stands 7 = .ok (.if_icmp .eq 5, 3) := by decide +kernel
theorem dX6_stands_10 : decode cX6_stands 10 = .ok (.iconst 0, 1) := by decide +kernel
theorem dX6_stands_11 : decode cX6_stands 11 = .ok (.ireturn, 1) := by decide +kernel
theorem dX6_stands_12 : decode cX6_stands 12 = .ok (.iconst 0, 1) := by decide +kernel
theorem dX6_stands_13 : decode cX6_stands 13 = .ok (.istore 4, 2) := by decide +kernel
theorem dX6_stands_15 : decode cX6_stands 15 = .ok (.iload 4, 2) := by decide +kernel
theorem dX6_stands_17 : decode cX6_stands 17 = .ok (.aload_n 1, 1) := by decide +kernel
theorem dX6_stands_18 : decode cX6_stands 18 = .ok (.invokevirtual 23, 3) := by decide +kernel
theorem dX6_stands_21 : decode cX6_stands 21 = .ok (.if_icmp .ge 28, 3) := by decide +kernel
theorem dX6_stands_24 : decode cX6_stands 24 = .ok (.aload_n 0, 1) := by decide +kernel
theorem dX6_stands_25 : decode cX6_stands 25 = .ok (.iload_n 2, 1) := by decide +kernel
theorem dX6_stands_26 : decode cX6_stands 26 = .ok (.iload 4, 2) := by decide +kernel
theorem dX6_stands_28 : decode cX6_stands 28 = .ok (.iadd, 1) := by decide +kernel
theorem dX6_stands_29 : decode cX6_stands 29 = .ok (.invokevirtual 19, 3) := by decide +kernel
theorem dX6_stands_32 : decode cX6_stands 32 = .ok (.aload_n 1, 1) := by decide +kernel
theorem dX6_stands_33 : decode cX6_stands 33 = .ok (.iload 4, 2) := by decide +kernel
theorem dX6_stands_35 : decode cX6_stands 35 = .ok (.invokevirtual 28, 3) := by decide +kernel
theorem dX6_stands_38 : decode cX6_stands 38 = .ok (.if_icmp .eq 5, 3) := by decide +kernel
theorem dX6_stands_41 : decode cX6_stands 41 = .ok (.iconst 0, 1) := by decide +kernel
theorem dX6_stands_42 : decode cX6_stands 42 = .ok (.ireturn, 1) := by decide +kernel
theorem dX6_stands_43 : decode cX6_stands 43 = .ok (.iinc 4 1, 3) := by decide +kernel
theorem dX6_stands_46 : decode cX6_stands 46 = .ok (.goto (-31), 3) := by decide +kernel
theorem dX6_stands_49 : decode cX6_stands 49 = .ok (.iconst 1, 1) := by decide +kernel
theorem dX6_stands_50 : decode cX6_stands 50 = .ok (.ireturn, 1) := by decide +kernel
theorem dX7_init_0 : decode cX7_init 0 = .ok (.aload_n 0, 1) := by decide +kernel
theorem dX7_init_1 : decode cX7_init 1 = .ok (.invokespecial 3, 3) := by decide +kernel
theorem dX7_init_4 : decode cX7_init 4 = .ok (.aload_n 0, 1) := by decide +kernel
theorem dX7_init_5 : decode cX7_init 5 = .ok (.bipush 10, 2) := by decide +kernel
theorem dX7_init_7 : decode cX7_init 7 = .ok (.newarray .int, 2) := by decide +kernel
theorem dX7_init_9 : decode cX7_init 9 = .ok (.putfield 9, 3) := by decide +kernel
theorem dX7_init_12 : decode cX7_init 12 = .ok (.aload_n 0, 1) := by decide +kernel
theorem dX7_init_13 : decode cX7_init 13 = .ok (.bipush 10, 2) := by decide +kernel
theorem dX7_init_15 : decode cX7_init 15 = .ok (.newarray .int, 2) := by decide +kernel
theorem dX7_init_17 : decode cX7_init 17 = .ok (.putfield 15, 3) := by decide +kernel
theorem dX7_init_20 : decode cX7_init 20 = .ok (.aload_n 0, 1) := by decide +kernel
theorem dX7_init_21 : decode cX7_init 21 = .ok (.bipush 10, 2) := by decide +kernel
theorem dX7_init_23 : decode cX7_init 23 = .ok (.newarray .int, 2) := by decide +kernel
theorem dX7_init_25 : decode cX7_init 25 = .ok (.putfield 18, 3) := by decide +kernel
theorem dX7_init_28 : decode cX7_init 28 = .ok (.aload_n 0, 1) := by decide +kernel
theorem dX7_init_29 : decode cX7_init 29 = .ok (.bipush 10, 2) := by decide +kernel
theorem dX7_init_31 : decode cX7_init 31 = .ok (.newarray .int, 2) := by decide +kernel
theorem dX7_init_33 : decode cX7_init 33 = .ok (.putfield 21, 3) := by decide +kernel
theorem dX7_init_36 : decode cX7_init 36 = .ok (.aload_n 0, 1) := by decide +kernel
theorem dX7_init_37 : decode cX7_init 37 = .ok (.bipush 10, 2) := by decide +kernel
theorem dX7_init_39 : decode cX7_init 39 = .ok (.newarray .int, 2) := by decide +kernel
theorem dX7_init_41 : decode cX7_init 41 = .ok (.putfield 24, 3) := by decide +kernel
theorem dX7_init_44 : decode cX7_init 44 = .ok (.aload_n 0, 1) := by decide +kernel
theorem dX7_init_45 : decode cX7_init 45 = .ok (.bipush 10, 2) := by decide +kernel
theorem dX7_init_47 : decode cX7_init 47 = .ok (.newarray .int, 2) := by decide +kernel
theorem dX7_init_49 : decode cX7_init 49 = .ok (.putfield 27, 3) := by decide +kernel
theorem dX7_init_52 : decode cX7_init 52 = .ok (.aload_n 0, 1) := by decide +kernel
theorem dX7_init_53 : decode cX7_init 53 = .ok (.bipush 10, 2) := by decide +kernel
theorem dX7_init_55 : decode cX7_init 55 = .ok (.newarray .int, 2) := by decide +kernel
theorem dX7_init_57 : decode cX7_init 57 = .ok (.putfield 30, 3) := by decide +kernel
theorem dX7_init_60 : decode cX7_init 60 = .ok (.aload_n 0, 1) := by decide +kernel
theorem dX7_init_61 : decode cX7_init 61 = .ok (.bipush 8, 2) := by decide +kernel
theorem dX7_init_63 : decode cX7_init 63 = .ok (.newarray .int, 2) := by decide +kernel
theorem dX7_init_65 : decode cX7_init 65 = .ok (.putfield 33, 3) := by decide +kernel
theorem dX7_init_68 : decode cX7_init 68 = .ok (.aload_n 0, 1) := by decide +kernel
theorem dX7_init_69 : decode cX7_init 69 = .ok (.bipush 8, 2) := by decide +kernel
theorem dX7_init_71 : decode cX7_init 71 = .ok (.newarray .int, 2) := by decide +kernel
theorem dX7_init_73 : decode cX7_init 73 = .ok (.putfield 36, 3) := by decide +kernel
theorem dX7_init_76 : decode cX7_init 76 = .ok (.aload_n 0, 1) := by decide +kernel
theorem dX7_init_77 : decode cX7_init 77 = .ok (.bipush 8, 2) := by decide +kernel
theorem dX7_init_79 : decode cX7_init 79 = .ok (.newarray .int, 2) := by decide +kernel
theorem dX7_init_81 : decode cX7_init 81 = .ok (.putfield 39, 3) := by decide +kernel
theorem dX7_init_84 : decode cX7_init 84 = .ok (.return_, 1) := by decide +kernel
theorem dX7_hasPart_0 : decode cX7_hasPart 0 = .ok (.iload_n 1, 1) := by decide +kernel
theorem dX7_hasPart_1 : decode cX7_hasPart 1 = .ok (.ifCond .lt 15, 3) := by decide +kernel
theorem dX7_hasPart_4 : decode cX7_hasPart 4 = .ok (.iload_n 1, 1) := by decide +kernel
theorem dX7_hasPart_5 : decode cX7_hasPart 5 = .ok (.aload_n 0, 1) := by decide +kernel
theorem dX7_hasPart_6 : decode cX7_hasPart 6 = .ok (.getfield 42, 3) := by decide +kernel
theorem dX7_hasPart_9 : decode cX7_hasPart 9 = .ok (.if_icmp .ge 7, 3) := by decide +kernel
theorem dX7_hasPart_12 : decode cX7_hasPart 12 = .ok (.iconst 1, 1) := by decide +kernel
theorem dX7_hasPart_13 : decode cX7_hasPart 13 = .ok (.goto 4, 3) := by decide +kernel
theorem dX7_hasPart_16 : decode cX7_hasPart 16 = .ok (.iconst 0, 1) := by decide +kernel
theorem dX7_hasPart_17 : decode cX7_hasPart 17 = .ok (.ireturn, 1) := by decide +kernel
theorem dX7_isOfKind_0 : decode cX7_isOfKind 0 = .ok (.aload_n 0, 1) := by decide +kernel
theorem dX7_isOfKind_1 : decode cX7_isOfKind 1 = .ok (.iload_n 1, 1) := by decide +kernel
theorem dX7_isOfKind_2 : decode cX7_isOfKind 2 = .ok (.invokevirtual 46, 3) := by decide +kernel
theorem dX7_isOfKind_5 : decode cX7_isOfKind 5 = .ok (.ifCond .eq 17, 3) := by decide +kernel
theorem dX7_isOfKind_8 : decode cX7_isOfKind 8 = .ok (.aload_n 0, 1) := by decide +kernel
theorem dX7_isOfKind_9 : decode cX7_isOfKind 9 = .ok (.getfield 9, 3) := by decide +kernel
theorem dX7_isOfKind_12 : decode cX7_isOfKind 12 = .ok (.iload_n 1, 1) := by decide +kernel
theorem dX7_isOfKind_13 : decode cX7_isOfKind 13 = .ok (.iaload, 1) := by decide +kernel
theorem dX7_isOfKind_14 : decode cX7_isOfKind 14 = .ok (.iload_n 2, 1) := by decide +kernel
theorem dX7_isOfKind_15 : decode cX7_isOfKind 15 = .ok (.if_icmp .ne 7, 3) := by decide +kernel
theorem dX7_isOfKind_18 : decode cX7_isOfKind 18 = .ok (.iconst 1, 1) := by decide +kernel
theorem dX7_isOfKind_19 : decode cX7_isOfKind 19 = .ok (.goto 4, 3) := by decide +kernel
theorem dX7_isOfKind_22 : decode cX7_isOfKind 22 = .ok (.iconst 0, 1) := by decide +kernel
theorem dX7_isOfKind_23 : decode cX7_isOfKind 23 = .ok (.ireturn, 1) := by decide +kernel
theorem dX7_hasScene_0 : decode cX7_hasScene 0 = .ok (.iload_n 1, 1) := by decide +kernel
theorem dX7_hasScene_1 : decode cX7_hasScene 1 = .ok (.ifCond .lt 15, 3) := by decide +kernel
theorem dX7_hasScene_4 : decode cX7_hasScene 4 = .ok (.iload_n 1, 1) := by decide +kernel
theorem dX7_hasScene_5 : decode cX7_hasScene 5 = .ok (.aload_n 0, 1) := by decide +kernel
theorem dX7_hasScene_6 : decode cX7_hasScene 6 = .ok (.getfield 50, 3) := by decide +kernel
theorem dX7_hasScene_9 : decode cX7_hasScene 9 = .ok (.if_icmp .ge 7, 3) := by decide +kernel
theorem dX7_hasScene_12 : decode cX7_hasScene 12 = .ok (.iconst 1, 1) := by decide +kernel
theorem dX7_hasScene_13 : decode cX7_hasScene 13 = .ok (.goto 4, 3) := by decide +kernel
theorem dX7_hasScene_16 : decode cX7_hasScene 16 = .ok (.iconst 0, 1) := by decide +kernel
theorem dX7_hasScene_17 : decode cX7_hasScene 17 = .ok (.ireturn, 1) := by decide +kernel
theorem dX7_clear_0 : decode cX7_clear 0 = .ok (.aload_n 0, 1) := by decide +kernel
theorem dX7_clear_1 : decode cX7_clear 1 = .ok (.iconst 0, 1) := by decide +kernel
theorem dX7_clear_2 : decode cX7_clear 2 = .ok (.putfield 42, 3) := by decide +kernel
theorem dX7_clear_5 : decode cX7_clear 5 = .ok (.aload_n 0, 1) := by decide +kernel
theorem dX7_clear_6 : decode cX7_clear 6 = .ok (.iconst 0, 1) := by decide +kernel
theorem dX7_clear_7 : decode cX7_clear 7 = .ok (.putfield 53, 3) := by decide +kernel
theorem dX7_clear_10 : decode cX7_clear 10 = .ok (.aload_n 0, 1) := by decide +kernel
theorem dX7_clear_11 : decode cX7_clear 11 = .ok (.iconst 0, 1) := by decide +kernel
theorem dX7_clear_12 : decode cX7_clear 12 = .ok (.putfield 50, 3) := by decide +kernel
theorem dX7_clear_15 : decode cX7_clear 15 = .ok (.return_, 1) := by decide +kernel
theorem dX7_addPart_0 : decode cX7_addPart 0 = .ok (.aload_n 0, 1) := by decide +kernel
theorem dX7_addPart_1 : decode cX7_addPart 1 = .ok (.getfield 42, 3) := by decide +kernel
theorem dX7_addPart_4 : decode cX7_addPart 4 = .ok (.bipush 10, 2) := by decide +kernel
theorem dX7_addPart_6 : decode cX7_addPart 6 = .ok (.if_icmp .ge 64, 3) := by decide +kernel
theorem dX7_addPart_9 : decode cX7_addPart 9 = .ok (.aload_n 0, 1) := by decide +kernel
theorem dX7_addPart_10 : decode cX7_addPart 10 = .ok (.getfield 9, 3) := by decide +kernel
theorem dX7_addPart_13 : decode cX7_addPart 13 = .ok (.aload_n 0, 1) := by decide +kernel
theorem dX7_addPart_14 : decode cX7_addPart 14 = .ok (.getfield 42, 3) := by decide +kernel
theorem dX7_addPart_17 : decode cX7_addPart 17 = .ok (.iload_n 1, 1) := by decide +kernel
theorem dX7_addPart_18 : decode cX7_addPart 18 = .ok (.iastore, 1) := by decide +kernel
theorem dX7_addPart_19 : decode cX7_addPart 19 = .ok (.aload_n 0, 1) := by decide +kernel
theorem dX7_addPart_20 : decode cX7_addPart 20 = .ok (.getfield 15, 3) := by decide +kernel
theorem dX7_addPart_23 : decode cX7_addPart 23 = .ok (.aload_n 0, 1) := by decide +kernel
theorem dX7_addPart_24 : decode cX7_addPart 24 = .ok (.getfield 42, 3) := by decide +kernel
theorem dX7_addPart_27 : decode cX7_addPart 27 = .ok (.iload_n 2, 1) := by decide +kernel
theorem dX7_addPart_28 : decode cX7_addPart 28 = .ok (.iastore, 1) := by decide +kernel
theorem dX7_addPart_29 : decode cX7_addPart 29 = .ok (.aload_n 0, 1) := by decide +kernel
theorem dX7_addPart_30 : decode cX7_addPart 30 = .ok (.getfield 18, 3) := by decide +kernel
theorem dX7_addPart_33 : decode cX7_addPart 33 = .ok (.aload_n 0, 1) := by decide +kernel
theorem dX7_addPart_34 : decode cX7_addPart 34 = .ok (.getfield 42, 3) := by decide +kernel
theorem dX7_addPart_37 : decode cX7_addPart 37 = .ok (.iload_n 3, 1) := by decide +kernel
theorem dX7_addPart_38 : decode cX7_addPart 38 = .ok (.iastore, 1) := by decide +kernel
theorem dX7_addPart_39 : decode cX7_addPart 39 = .ok (.aload_n 0, 1) := by decide +kernel
theorem dX7_addPart_40 : decode cX7_addPart 40 = .ok (.getfield 21, 3) := by decide +kernel
theorem dX7_addPart_43 : decode cX7_addPart 43 = .ok (.aload_n 0, 1) := by decide +kernel
theorem dX7_addPart_44 : decode cX7_addPart 44 = .ok (.getfield 42, 3) := by decide +kernel
theorem dX7_addPart_47 : decode cX7_addPart 47 = .ok (.iload 4, 2) := by decide +kernel
theorem dX7_addPart_49 : decode cX7_addPart 49 = .ok (.iastore, 1) := by decide +kernel
theorem dX7_addPart_50 : decode cX7_addPart 50 = .ok (.aload_n 0, 1) := by decide +kernel
theorem dX7_addPart_51 : decode cX7_addPart 51 = .ok (.getfield 30, 3) := by decide +kernel
theorem dX7_addPart_54 : decode cX7_addPart 54 = .ok (.aload_n 0, 1) := by decide +kernel
theorem dX7_addPart_55 : decode cX7_addPart 55 = .ok (.getfield 42, 3) := by decide +kernel
theorem dX7_addPart_58 : decode cX7_addPart 58 = .ok (.iconst 0, 1) := by decide +kernel
theorem dX7_addPart_59 : decode cX7_addPart 59 = .ok (.iastore, 1) := by decide +kernel
theorem dX7_addPart_60 : decode cX7_addPart 60 = .ok (.aload_n 0, 1) := by decide +kernel
theorem dX7_addPart_61 : decode cX7_addPart 61 = .ok (.dup, 1) := by decide +kernel
theorem dX7_addPart_62 : decode cX7_addPart 62 = .ok (.getfield 42, 3) := by decide +kernel
theorem dX7_addPart_65 : decode cX7_addPart 65 = .ok (.iconst 1, 1) := by decide +kernel
theorem dX7_addPart_66 : decode cX7_addPart 66 = .ok (.iadd, 1) := by decide +kernel
theorem dX7_addPart_67 : decode cX7_addPart 67 = .ok (.putfield 42, 3) := by decide +kernel
theorem dX7_addPart_70 : decode cX7_addPart 70 = .ok (.return_, 1) := by decide +kernel
theorem dX7_setHoursOfLatest_0 : decode cX7_setHoursOfLatest 0 = .ok (.aload_n 0, 1) := by decide +kernel
theorem dX7_setHoursOfLatest_1 : decode cX7_setHoursOfLatest 1 = .ok (.aload_n 0, 1) := by decide +kernel
theorem dX7_setHoursOfLatest_2 : decode cX7_setHoursOfLatest 2 = .ok (.getfield 42, 3) := by decide +kernel
theorem dX7_setHoursOfLatest_5 : decode cX7_setHoursOfLatest 5 = .ok (.iconst 1, 1) := by decide +kernel
theorem dX7_setHoursOfLatest_6 : decode cX7_setHoursOfLatest 6 = .ok (.isub, 1) := by decide +kernel
theorem dX7_setHoursOfLatest_7 : decode cX7_setHoursOfLatest 7 = .ok (.invokevirtual 46, 3) := by decide +kernel
theorem dX7_setHoursOfLatest_10 : decode cX7_setHoursOfLatest 10 = .ok (.ifCond .eq 27, 3) := by decide +kernel
theorem dX7_setHoursOfLatest_13 : decode cX7_setHoursOfLatest 13 = .ok (.aload_n 0, 1) := by decide +kernel
theorem dX7_setHoursOfLatest_14 : decode cX7_setHoursOfLatest 14 = .ok (.getfield 24, 3) := by decide +kernel
theorem dX7_setHoursOfLatest_17 : decode cX7_setHoursOfLatest 17 = .ok (.aload_n 0, 1) := by decide +kernel
theorem dX7_setHoursOfLatest_18 : decode cX7_setHoursOfLatest 18 = .ok (.getfield 42, 3) := by decide +kernel
theorem dX7_setHoursOfLatest_21 : decode cX7_setHoursOfLatest 21 = .ok (.iconst 1, 1) := by decide +kernel
theorem dX7_setHoursOfLatest_22 : decode cX7_setHoursOfLatest 22 = .ok (.isub, 1) := by decide +kernel
theorem dX7_setHoursOfLatest_23 : decode cX7_setHoursOfLatest 23 = .ok (.iload_n 1, 1) := by decide +kernel
theorem dX7_setHoursOfLatest_24 : decode cX7_setHoursOfLatest 24 = .ok (.iastore, 1) := by decide +kernel
theorem dX7_setHoursOfLatest_25 : decode cX7_setHoursOfLatest 25 = .ok (.aload_n 0, 1) := by decide +kernel
theorem dX7_setHoursOfLatest_26 : decode cX7_setHoursOfLatest 26 = .ok (.getfield 27, 3) := by decide +kernel
theorem dX7_setHoursOfLatest_29 : decode cX7_setHoursOfLatest 29 = .ok (.aload_n 0, 1) := by decide +kernel
theorem dX7_setHoursOfLatest_30 : decode cX7_setHoursOfLatest 30 = .ok (.getfield 42, 3) := by decide +kernel
theorem dX7_setHoursOfLatest_33 : decode cX7_setHoursOfLatest 33 = .ok (.iconst 1, 1) := by decide +kernel
theorem dX7_setHoursOfLatest_34 : decode cX7_setHoursOfLatest 34 = .ok (.isub, 1) := by decide +kernel
theorem dX7_setHoursOfLatest_35 : decode cX7_setHoursOfLatest 35 = .ok (.iload_n 2, 1) := by decide +kernel
theorem dX7_setHoursOfLatest_36 : decode cX7_setHoursOfLatest 36 = .ok (.iastore, 1) := by decide +kernel
theorem dX7_setHoursOfLatest_37 : decode cX7_setHoursOfLatest 37 = .ok (.return_, 1) := by decide +kernel
theorem dX7_isClash_0 : decode cX7_isClash 0 = .ok (.aload_n 0, 1) := by decide +kernel
theorem dX7_isClash_1 : decode cX7_isClash 1 = .ok (.iload_n 1, 1) := by decide +kernel
theorem dX7_isClash_2 : decode cX7_isClash 2 = .ok (.invokevirtual 46, 3) := by decide +kernel
theorem dX7_isClash_5 : decode cX7_isClash 5 = .ok (.ifCond .eq 20, 3) := by decide +kernel
theorem dX7_isClash_8 : decode cX7_isClash 8 = .ok (.aload_n 0, 1) := by decide +kernel
theorem dX7_isClash_9 : decode cX7_isClash 9 = .ok (.getfield 30, 3) := by decide +kernel
theorem dX7_isClash_12 : decode cX7_isClash 12 = .ok (.iload_n 1, 1) := by decide +kernel
theorem dX7_isClash_13 : decode cX7_isClash 13 = .ok (.iaload, 1) := by decide +kernel
theorem dX7_isClash_14 : decode cX7_isClash 14 = .ok (.iload_n 2, 1) := by decide +kernel
theorem dX7_isClash_15 : decode cX7_isClash 15 = .ok (.invokestatic 56, 3) := by decide +kernel
theorem dX7_isClash_18 : decode cX7_isClash 18 = .ok (.ifCond .eq 7, 3) := by decide +kernel
theorem dX7_isClash_21 : decode cX7_isClash 21 = .ok (.iconst 1, 1) := by decide +kernel
theorem dX7_isClash_22 : decode cX7_isClash 22 = .ok (.goto 4, 3) := by decide +kernel
theorem dX7_isClash_25 : decode cX7_isClash 25 = .ok (.iconst 0, 1) := by decide +kernel
theorem dX7_isClash_26 : decode cX7_isClash 26 = .ok (.ireturn, 1) := by decide +kernel
theorem dX7_addClash_0 : decode cX7_addClash 0 = .ok (.aload_n 0, 1) := by decide +kernel
theorem dX7_addClash_1 : decode cX7_addClash 1 = .ok (.iload_n 1, 1) := by decide +kernel
theorem dX7_addClash_2 : decode cX7_addClash 2 = .ok (.invokevirtual 46, 3) := by decide +kernel
theorem dX7_addClash_5 : decode cX7_addClash 5 = .ok (.ifCond .eq 45, 3) := by decide +kernel
theorem dX7_addClash_8 : decode cX7_addClash 8 = .ok (.aload_n 0, 1) := by decide +kernel
theorem dX7_addClash_9 : decode cX7_addClash 9 = .ok (.iload_n 2, 1) := by decide +kernel
theorem dX7_addClash_10 : decode cX7_addClash 10 = .ok (.invokevirtual 46, 3) := by decide +kernel
theorem dX7_addClash_13 : decode cX7_addClash 13 = .ok (.ifCond .eq 37, 3) := by decide +kernel
theorem dX7_addClash_16 : decode cX7_addClash 16 = .ok (.aload_n 0, 1) := by decide +kernel
theorem dX7_addClash_17 : decode cX7_addClash 17 = .ok (.getfield 30, 3) := by decide +kernel
theorem dX7_addClash_20 : decode cX7_addClash 20 = .ok (.iload_n 1, 1) := by decide +kernel
theorem dX7_addClash_21 : decode cX7_addClash 21 = .ok (.dup2, 1) := by decide +kernel
theorem dX7_addClash_22 : decode cX7_addClash 22 = .ok (.iaload, 1) := by decide +kernel
theorem dX7_addClash_23 : decode cX7_addClash 23 = .ok (.iconst 1, 1) := by decide +kernel
theorem dX7_addClash_24 : decode cX7_addClash 24 = .ok (.iload_n 2, 1) := by decide +kernel
theorem dX7_addClash_25 : decode cX7_addClash 25 = .ok (.ishl, 1) := by decide +kernel
theorem dX7_addClash_26 : decode cX7_addClash 26 = .ok (.ior, 1) := by decide +kernel
theorem dX7_addClash_27 : decode cX7_addClash 27 = .ok (.iastore, 1) := by decide +kernel
theorem dX7_addClash_28 : decode cX7_addClash 28 = .ok (.aload_n 0, 1) := by decide +kernel
theorem dX7_addClash_29 : decode cX7_addClash 29 = .ok (.getfield 30, 3) := by decide +kernel
theorem dX7_addClash_32 : decode cX7_addClash 32 = .ok (.iload_n 2, 1) := by decide +kernel
theorem dX7_addClash_33 : decode cX7_addClash 33 = .ok (.dup2, 1) := by decide +kernel
theorem dX7_addClash_34 : decode cX7_addClash 34 = .ok (.iaload, 1) := by decide +kernel
theorem dX7_addClash_35 : decode cX7_addClash 35 = .ok (.iconst 1, 1) := by decide +kernel
theorem dX7_addClash_36 : decode cX7_addClash 36 = .ok (.iload_n 1, 1) := by decide +kernel
theorem dX7_addClash_37 : decode cX7_addClash 37 = .ok (.ishl, 1) := by decide +kernel
theorem dX7_addClash_38 : decode cX7_addClash 38 = .ok (.ior, 1) := by decide +kernel
theorem dX7_addClash_39 : decode cX7_addClash 39 = .ok (.iastore, 1) := by decide +kernel
theorem dX7_addClash_40 : decode cX7_addClash 40 = .ok (.aload_n 0, 1) := by decide +kernel
theorem dX7_addClash_41 : decode cX7_addClash 41 = .ok (.dup, 1) := by decide +kernel
theorem dX7_addClash_42 : decode cX7_addClash 42 = .ok (.getfield 53, 3) := by decide +kernel
theorem dX7_addClash_45 : decode cX7_addClash 45 = .ok (.iconst 1, 1) := by decide +kernel
theorem dX7_addClash_46 : decode cX7_addClash 46 = .ok (.iadd, 1) := by decide +kernel
theorem dX7_addClash_47 : decode cX7_addClash 47 = .ok (.putfield 53, 3) := by decide +kernel
theorem dX7_addClash_50 : decode cX7_addClash 50 = .ok (.return_, 1) := by decide +kernel
theorem dX7_addScene_0 : decode cX7_addScene 0 = .ok (.aload_n 0, 1) := by decide +kernel
theorem dX7_addScene_1 : decode cX7_addScene 1 = .ok (.getfield 50, 3) := by decide +kernel
theorem dX7_addScene_4 : decode cX7_addScene 4 = .ok (.bipush 8, 2) := by decide +kernel
theorem dX7_addScene_6 : decode cX7_addScene 6 = .ok (.if_icmp .ge 43, 3) := by decide +kernel
theorem dX7_addScene_9 : decode cX7_addScene 9 = .ok (.aload_n 0, 1) := by decide +kernel
theorem dX7_addScene_10 : decode cX7_addScene 10 = .ok (.getfield 33, 3) := by decide +kernel
theorem dX7_addScene_13 : decode cX7_addScene 13 = .ok (.aload_n 0, 1) := by decide +kernel
theorem dX7_addScene_14 : decode cX7_addScene 14 = .ok (.getfield 50, 3) := by decide +kernel
theorem dX7_addScene_17 : decode cX7_addScene 17 = .ok (.iload_n 1, 1) := by decide +kernel
theorem dX7_addScene_18 : decode cX7_addScene 18 = .ok (.iastore, 1) := by decide +kernel
theorem dX7_addScene_19 : decode cX7_addScene 19 = .ok (.aload_n 0, 1) := by decide +kernel
theorem dX7_addScene_20 : decode cX7_addScene 20 = .ok (.getfield 36, 3) := by decide +kernel
theorem dX7_addScene_23 : decode cX7_addScene 23 = .ok (.aload_n 0, 1) := by decide +kernel
theorem dX7_addScene_24 : decode cX7_addScene 24 = .ok (.getfield 50, 3) := by decide +kernel
theorem dX7_addScene_27 : decode cX7_addScene 27 = .ok (.iload_n 2, 1) := by decide +kernel
theorem dX7_addScene_28 : decode cX7_addScene 28 = .ok (.iastore, 1) := by decide +kernel
theorem dX7_addScene_29 : decode cX7_addScene 29 = .ok (.aload_n 0, 1) := by decide +kernel
theorem dX7_addScene_30 : decode cX7_addScene 30 = .ok (.getfield 39, 3) := by decide +kernel
theorem dX7_addScene_33 : decode cX7_addScene 33 = .ok (.aload_n 0, 1) := by decide +kernel
theorem dX7_addScene_34 : decode cX7_addScene 34 = .ok (.getfield 50, 3) := by decide +kernel
theorem dX7_addScene_37 : decode cX7_addScene 37 = .ok (.iload_n 3, 1) := by decide +kernel
theorem dX7_addScene_38 : decode cX7_addScene 38 = .ok (.iastore, 1) := by decide +kernel
theorem dX7_addScene_39 : decode cX7_addScene 39 = .ok (.aload_n 0, 1) := by decide +kernel
theorem dX7_addScene_40 : decode cX7_addScene 40 = .ok (.dup, 1) := by decide +kernel
theorem dX7_addScene_41 : decode cX7_addScene 41 = .ok (.getfield 50, 3) := by decide +kernel
theorem dX7_addScene_44 : decode cX7_addScene 44 = .ok (.iconst 1, 1) := by decide +kernel
theorem dX7_addScene_45 : decode cX7_addScene 45 = .ok (.iadd, 1) := by decide +kernel
theorem dX7_addScene_46 : decode cX7_addScene 46 = .ok (.putfield 50, 3) := by decide +kernel
theorem dX7_addScene_49 : decode cX7_addScene 49 = .ok (.return_, 1) := by decide +kernel
theorem dX7_copyFrom_0 : decode cX7_copyFrom 0 = .ok (.aload_n 1, 1) := by decide +kernel
theorem dX7_copyFrom_1 : decode cX7_copyFrom 1 = .ok (.getfield 9, 3) := by decide +kernel
theorem dX7_copyFrom_4 : decode cX7_copyFrom 4 = .ok (.aload_n 0, 1) := by decide +kernel
theorem dX7_copyFrom_5 : decode cX7_copyFrom 5 = .ok (.getfield 9, 3) := by decide +kernel
theorem dX7_copyFrom_8 : decode cX7_copyFrom 8 = .ok (.invokestatic 60, 3) := by decide +kernel
theorem dX7_copyFrom_11 : decode cX7_copyFrom 11 = .ok (.aload_n 1, 1) := by decide +kernel
theorem dX7_copyFrom_12 : decode cX7_copyFrom 12 = .ok (.getfield 15, 3) := by decide +kernel
theorem dX7_copyFrom_15 : decode cX7_copyFrom 15 = .ok (.aload_n 0, 1) := by decide +kernel
theorem dX7_copyFrom_16 : decode cX7_copyFrom 16 = .ok (.getfield 15, 3) := by decide +kernel
theorem dX7_copyFrom_19 : decode cX7_copyFrom 19 = .ok (.invokestatic 60, 3) := by decide +kernel
theorem dX7_copyFrom_22 : decode cX7_copyFrom 22 = .ok (.aload_n 1, 1) := by decide +kernel
theorem dX7_copyFrom_23 : decode cX7_copyFrom 23 = .ok (.getfield 18, 3) := by decide +kernel
theorem dX7_copyFrom_26 : decode cX7_copyFrom 26 = .ok (.aload_n 0, 1) := by decide +kernel
theorem dX7_copyFrom_27 : decode cX7_copyFrom 27 = .ok (.getfield 18, 3) := by decide +kernel
theorem dX7_copyFrom_30 : decode cX7_copyFrom 30 = .ok (.invokestatic 60, 3) := by decide +kernel
theorem dX7_copyFrom_33 : decode cX7_copyFrom 33 = .ok (.aload_n 1, 1) := by decide +kernel
theorem dX7_copyFrom_34 : decode cX7_copyFrom 34 = .ok (.getfield 21, 3) := by decide +kernel
theorem dX7_copyFrom_37 : decode cX7_copyFrom 37 = .ok (.aload_n 0, 1) := by decide +kernel
theorem dX7_copyFrom_38 : decode cX7_copyFrom 38 = .ok (.getfield 21, 3) := by decide +kernel
theorem dX7_copyFrom_41 : decode cX7_copyFrom 41 = .ok (.invokestatic 60, 3) := by decide +kernel
theorem dX7_copyFrom_44 : decode cX7_copyFrom 44 = .ok (.aload_n 1, 1) := by decide +kernel
theorem dX7_copyFrom_45 : decode cX7_copyFrom 45 = .ok (.getfield 24, 3) := by decide +kernel
theorem dX7_copyFrom_48 : decode cX7_copyFrom 48 = .ok (.aload_n 0, 1) := by decide +kernel
theorem dX7_copyFrom_49 : decode cX7_copyFrom 49 = .ok (.getfield 24, 3) := by decide +kernel
theorem dX7_copyFrom_52 : decode cX7_copyFrom 52 = .ok (.invokestatic 60, 3) := by decide +kernel
theorem dX7_copyFrom_55 : decode cX7_copyFrom 55 = .ok (.aload_n 1, 1) := by decide +kernel
theorem dX7_copyFrom_56 : decode cX7_copyFrom 56 = .ok (.getfield 27, 3) := by decide +kernel
theorem dX7_copyFrom_59 : decode cX7_copyFrom 59 = .ok (.aload_n 0, 1) := by decide +kernel
theorem dX7_copyFrom_60 : decode cX7_copyFrom 60 = .ok (.getfield 27, 3) := by decide +kernel
theorem dX7_copyFrom_63 : decode cX7_copyFrom 63 = .ok (.invokestatic 60, 3) := by decide +kernel
theorem dX7_copyFrom_66 : decode cX7_copyFrom 66 = .ok (.aload_n 1, 1) := by decide +kernel
theorem dX7_copyFrom_67 : decode cX7_copyFrom 67 = .ok (.getfield 30, 3) := by decide +kernel
theorem dX7_copyFrom_70 : decode cX7_copyFrom 70 = .ok (.aload_n 0, 1) := by decide +kernel
theorem dX7_copyFrom_71 : decode cX7_copyFrom 71 = .ok (.getfield 30, 3) := by decide +kernel
theorem dX7_copyFrom_74 : decode cX7_copyFrom 74 = .ok (.invokestatic 60, 3) := by decide +kernel
theorem dX7_copyFrom_77 : decode cX7_copyFrom 77 = .ok (.aload_n 1, 1) := by decide +kernel
theorem dX7_copyFrom_78 : decode cX7_copyFrom 78 = .ok (.getfield 33, 3) := by decide +kernel
theorem dX7_copyFrom_81 : decode cX7_copyFrom 81 = .ok (.aload_n 0, 1) := by decide +kernel
theorem dX7_copyFrom_82 : decode cX7_copyFrom 82 = .ok (.getfield 33, 3) := by decide +kernel
theorem dX7_copyFrom_85 : decode cX7_copyFrom 85 = .ok (.invokestatic 60, 3) := by decide +kernel
theorem dX7_copyFrom_88 : decode cX7_copyFrom 88 = .ok (.aload_n 1, 1) := by decide +kernel
theorem dX7_copyFrom_89 : decode cX7_copyFrom 89 = .ok (.getfield 36, 3) := by decide +kernel
theorem dX7_copyFrom_92 : decode cX7_copyFrom 92 = .ok (.aload_n 0, 1) := by decide +kernel
theorem dX7_copyFrom_93 : decode cX7_copyFrom 93 = .ok (.getfield 36, 3) := by decide +kernel
theorem dX7_copyFrom_96 : decode cX7_copyFrom 96 = .ok (.invokestatic 60, 3) := by decide +kernel
theorem dX7_copyFrom_99 : decode cX7_copyFrom 99 = .ok (.aload_n 1, 1) := by decide +kernel
theorem dX7_copyFrom_100 : decode cX7_copyFrom 100 = .ok (.getfield 39, 3) := by decide +kernel
theorem dX7_copyFrom_103 : decode cX7_copyFrom 103 = .ok (.aload_n 0, 1) := by decide +kernel
theorem dX7_copyFrom_104 : decode cX7_copyFrom 104 = .ok (.getfield 39, 3) := by decide +kernel
theorem dX7_copyFrom_107 : decode cX7_copyFrom 107 = .ok (.invokestatic 60, 3) := by decide +kernel
theorem dX7_copyFrom_110 : decode cX7_copyFrom 110 = .ok (.aload_n 0, 1) := by decide +kernel
theorem dX7_copyFrom_111 : decode cX7_copyFrom 111 = .ok (.aload_n 1, 1) := by decide +kernel
theorem dX7_copyFrom_112 : decode cX7_copyFrom 112 = .ok (.getfield 42, 3) := by decide +kernel
theorem dX7_copyFrom_115 : decode cX7_copyFrom 115 = .ok (.putfield 42, 3) := by decide +kernel
theorem dX7_copyFrom_118 : decode cX7_copyFrom 118 = .ok (.aload_n 0, 1) := by decide +kernel
theorem dX7_copyFrom_119 : decode cX7_copyFrom 119 = .ok (.aload_n 1, 1) := by decide +kernel
theorem dX7_copyFrom_120 : decode cX7_copyFrom 120 = .ok (.getfield 53, 3) := by decide +kernel
theorem dX7_copyFrom_123 : decode cX7_copyFrom 123 = .ok (.putfield 53, 3) := by decide +kernel
theorem dX7_copyFrom_126 : decode cX7_copyFrom 126 = .ok (.aload_n 0, 1) := by decide +kernel
theorem dX7_copyFrom_127 : decode cX7_copyFrom 127 = .ok (.aload_n 1, 1) := by decide +kernel
theorem dX7_copyFrom_128 : decode cX7_copyFrom 128 = .ok (.getfield 50, 3) := by decide +kernel
theorem dX7_copyFrom_131 : decode cX7_copyFrom 131 = .ok (.putfield 50, 3) := by decide +kernel
theorem dX7_copyFrom_134 : decode cX7_copyFrom 134 = .ok (.return_, 1) := by decide +kernel
theorem dX7_isFree_0 : decode cX7_isFree 0 = .ok (.aload_n 0, 1) := by decide +kernel
theorem dX7_isFree_1 : decode cX7_isFree 1 = .ok (.iload_n 1, 1) := by decide +kernel
theorem dX7_isFree_2 : decode cX7_isFree 2 = .ok (.invokevirtual 46, 3) := by decide +kernel
theorem dX7_isFree_5 : decode cX7_isFree 5 = .ok (.ifCond .eq 27, 3) := by decide +kernel
theorem dX7_isFree_8 : decode cX7_isFree 8 = .ok (.aload_n 0, 1) := by decide +kernel
theorem dX7_isFree_9 : decode cX7_isFree 9 = .ok (.getfield 24, 3) := by decide +kernel
theorem dX7_isFree_12 : decode cX7_isFree 12 = .ok (.iload_n 1, 1) := by decide +kernel
theorem dX7_isFree_13 : decode cX7_isFree 13 = .ok (.iaload, 1) := by decide +kernel
theorem dX7_isFree_14 : decode cX7_isFree 14 = .ok (.iload_n 2, 1) := by decide +kernel
theorem dX7_isFree_15 : decode cX7_isFree 15 = .ok (.if_icmp .gt 17, 3) := by decide +kernel
theorem dX7_isFree_18 : decode cX7_isFree 18 = .ok (.iload_n 2, 1) := by decide +kernel
theorem dX7_isFree_19 : decode cX7_isFree 19 = .ok (.aload_n 0, 1) := by decide +kernel
theorem dX7_isFree_20 : decode cX7_isFree 20 = .ok (.getfield 27, 3) := by decide +kernel
theorem dX7_isFree_23 : decode cX7_isFree 23 = .ok (.iload_n 1, 1) := by decide +kernel
theorem dX7_isFree_24 : decode cX7_isFree 24 = .ok (.iaload, 1) := by decide +kernel
theorem dX7_isFree_25 : decode cX7_isFree 25 = .ok (.if_icmp .gt 7, 3) := by decide +kernel
theorem dX7_isFree_28 : decode cX7_isFree 28 = .ok (.iconst 1, 1) := by decide +kernel
theorem dX7_isFree_29 : decode cX7_isFree 29 = .ok (.goto 4, 3) := by decide +kernel
theorem dX7_isFree_32 : decode cX7_isFree 32 = .ok (.iconst 0, 1) := by decide +kernel
theorem dX7_isFree_33 : decode cX7_isFree 33 = .ok (.ireturn, 1) := by decide +kernel
theorem dX7_freeIn_0 : decode cX7_freeIn 0 = .ok (.iconst 0, 1) := by decide +kernel
theorem dX7_freeIn_1 : decode cX7_freeIn 1 = .ok (.istore_n 2, 1) := by decide +kernel
theorem dX7_freeIn_2 : decode cX7_freeIn 2 = .ok (.iconst 0, 1) := by decide +kernel
theorem dX7_freeIn_3 : decode cX7_freeIn 3 = .ok (.istore_n 3, 1) := by decide +kernel
theorem dX7_freeIn_4 : decode cX7_freeIn 4 = .ok (.iload_n 3, 1) := by decide +kernel
