/-! 73: build, byte by byte -/
theorem dL_build_0 : decode cL_build 0 = .ok (.new 16, 3) := by decide +kernel
theorem dL_build_3 : decode cL_build 3 = .ok (.dup, 1) := by decide +kernel
theorem dL_build_4 : decode cL_build 4 = .ok (.invokespecial 84, 3) := by decide +kernel
theorem dL_build_7 : decode cL_build 7 = .ok (.astore_n 2, 1) := by decide +kernel
theorem dL_build_8 : decode cL_build 8 = .ok (.iconst 3, 1) := by decide +kernel
theorem dL_build_9 : decode cL_build 9 = .ok (.aload_n 1, 1) := by decide +kernel
theorem dL_build_10 : decode cL_build 10 = .ok (.iconst 0, 1) := by decide +kernel
theorem dL_build_11 : decode cL_build 11 = .ok (.invokestatic 85, 3) := by decide +kernel
theorem dL_build_14 : decode cL_build 14 = .ok (.iconst 3, 1) := by decide +kernel
theorem dL_build_15 : decode cL_build 15 = .ok (.ishr, 1) := by decide +kernel
theorem dL_build_16 : decode cL_build 16 = .ok (.iconst 4, 1) := by decide +kernel
theorem dL_build_17 : decode cL_build 17 = .ok (.invokestatic 9, 3) := by decide +kernel
theorem dL_build_20 : decode cL_build 20 = .ok (.iadd, 1) := by decide +kernel
theorem dL_build_21 : decode cL_build 21 = .ok (.istore_n 3, 1) := by decide +kernel
theorem dL_build_22 : decode cL_build 22 = .ok (.aload_n 0, 1) := by decide +kernel
theorem dL_build_23 : decode cL_build 23 = .ok (.iload_n 3, 1) := by decide +kernel
theorem dL_build_24 : decode cL_build 24 = .ok (.invokevirtual 89, 3) := by decide +kernel
theorem dL_build_27 : decode cL_build 27 = .ok (.iconst 3, 1) := by decide +kernel
theorem dL_build_28 : decode cL_build 28 = .ok (.if_icmp .eq 5, 3) := by decide +kernel
theorem dL_build_31 : decode cL_build 31 = .ok (.aconst_null, 1) := by decide +kernel
theorem dL_build_32 : decode cL_build 32 = .ok (.areturn, 1) := by decide +kernel
theorem dL_build_33 : decode cL_build 33 = .ok (.aload_n 2, 1) := by decide +kernel
theorem dL_build_34 : decode cL_build 34 = .ok (.iload_n 3, 1) := by decide +kernel
theorem dL_build_35 : decode cL_build 35 = .ok (.putfield 21, 3) := by decide +kernel
theorem dL_build_38 : decode cL_build 38 = .ok (.iconst 0, 1) := by decide +kernel
theorem dL_build_39 : decode cL_build 39 = .ok (.istore 4, 2) := by decide +kernel
theorem dL_build_41 : decode cL_build 41 = .ok (.iload 4, 2) := by decide +kernel
theorem dL_build_43 : decode cL_build 43 = .ok (.bipush 30, 2) := by decide +kernel
theorem dL_build_45 : decode cL_build 45 = .ok (.if_icmp .ge 66, 3) := by decide +kernel
theorem dL_build_48 : decode cL_build 48 = .ok (.aload_n 1, 1) := by decide +kernel
theorem dL_build_49 : decode cL_build 49 = .ok (.iload 4, 2) := by decide +kernel
theorem dL_build_51 : decode cL_build 51 = .ok (.bipush 16, 2) := by decide +kernel
theorem dL_build_53 : decode cL_build 53 = .ok (.irem, 1) := by decide +kernel
theorem dL_build_54 : decode cL_build 54 = .ok (.invokestatic 85, 3) := by decide +kernel
theorem dL_build_57 : decode cL_build 57 = .ok (.iload 4, 2) := by decide +kernel
theorem dL_build_59 : decode cL_build 59 = .ok (.bipush 16, 2) := by decide +kernel
theorem dL_build_61 : decode cL_build 61 = .ok (.idiv, 1) := by decide +kernel
theorem dL_build_62 : decode cL_build 62 = .ok (.iconst 5, 1) := by decide +kernel
theorem dL_build_63 : decode cL_build 63 = .ok (.imul, 1) := by decide +kernel
theorem dL_build_64 : decode cL_build 64 = .ok (.ishr, 1) := by decide +kernel
theorem dL_build_65 : decode cL_build 65 = .ok (.sipush 263, 3) := by decide +kernel
theorem dL_build_68 : decode cL_build 68 = .ok (.iload 4, 2) := by decide +kernel
theorem dL_build_70 : decode cL_build 70 = .ok (.imul, 1) := by decide +kernel
theorem dL_build_71 : decode cL_build 71 = .ok (.iadd, 1) := by decide +kernel
theorem dL_build_72 : decode cL_build 72 = .ok (.istore 5, 2) := by decide +kernel
theorem dL_build_74 : decode cL_build 74 = .ok (.iload 4, 2) := by decide +kernel
theorem dL_build_76 : decode cL_build 76 = .ok (.bipush 14, 2) := by decide +kernel
theorem dL_build_78 : decode cL_build 78 = .ok (.if_icmp .ge 15, 3) := by decide +kernel
theorem dL_build_81 : decode cL_build 81 = .ok (.bipush 16, 2) := by decide +kernel
theorem dL_build_83 : decode cL_build 83 = .ok (.iload 5, 2) := by decide +kernel
theorem dL_build_85 : decode cL_build 85 = .ok (.ldc 92, 2) := by decide +kernel
theorem dL_build_87 : decode cL_build 87 = .ok (.invokestatic 9, 3) := by decide +kernel
theorem dL_build_90 : decode cL_build 90 = .ok (.imul, 1) := by decide +kernel
theorem dL_build_91 : decode cL_build 91 = .ok (.istore 5, 2) := by decide +kernel
theorem dL_build_93 : decode cL_build 93 = .ok (.aload_n 0, 1) := by decide +kernel
theorem dL_build_94 : decode cL_build 94 = .ok (.aload_n 2, 1) := by decide +kernel
theorem dL_build_95 : decode cL_build 95 = .ok (.iload 5, 2) := by decide +kernel
theorem dL_build_97 : decode cL_build 97 = .ok (.invokestatic 93, 3) := by decide +kernel
theorem dL_build_100 : decode cL_build 100 = .ok (.ifCond .ne 5, 3) := by decide +kernel
theorem dL_build_103 : decode cL_build 103 = .ok (.aconst_null, 1) := by decide +kernel
theorem dL_build_104 : decode cL_build 104 = .ok (.areturn, 1) := by decide +kernel
theorem dL_build_105 : decode cL_build 105 = .ok (.iinc 4 1, 3) := by decide +kernel
theorem dL_build_108 : decode cL_build 108 = .ok (.goto (-67), 3) := by decide +kernel
theorem dL_build_111 : decode cL_build 111 = .ok (.aload_n 2, 1) := by decide +kernel
theorem dL_build_112 : decode cL_build 112 = .ok (.areturn, 1) := by decide +kernel
