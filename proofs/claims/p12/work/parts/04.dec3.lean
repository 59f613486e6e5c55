theorem zfMod_plus_66 : decode cMod_plus 66 = .ok (.istore 6, 2) ∧ decode cMod_plus 68 = .ok (.iload 6, 2) ∧ decode cMod_plus 70 = .ok (.aload 5, 2) ∧ decode cMod_plus 72 = .ok (.arraylength, 1) ∧ decode cMod_plus 73 = .ok (.if_icmp .ge 48, 3) ∧ decode cMod_plus 76 = .ok (.aload 5, 2) ∧ decode cMod_plus 78 = .ok (.iload 6, 2) ∧ decode cMod_plus 80 = .ok (.iload 6, 2) ∧ decode cMod_plus 82 = .ok (.aload_n 3, 1) ∧ decode cMod_plus 83 = .ok (.arraylength, 1) ∧ decode cMod_plus 84 = .ok (.if_icmp .ge 10, 3) ∧ decode cMod_plus 87 = .ok (.aload_n 3, 1) ∧ decode cMod_plus 88 = .ok (.iload 6, 2) ∧ decode cMod_plus 90 = .ok (.iaload, 1) ∧ decode cMod_plus 91 = .ok (.goto 4, 3) ∧ decode cMod_plus 94 = .ok (.iconst 0, 1) ∧ decode cMod_plus 95 = .ok (.iload 6, 2) ∧ decode cMod_plus 97 = .ok (.aload 4, 2) ∧ decode cMod_plus 99 = .ok (.arraylength, 1) ∧ decode cMod_plus 100 = .ok (.if_icmp .ge 11, 3) ∧ decode cMod_plus 103 = .ok (.aload 4, 2) ∧ decode cMod_plus 105 = .ok (.iload 6, 2) ∧ decode cMod_plus 107 = .ok (.iaload, 1) ∧ decode cMod_plus 108 = .ok (.goto 4, 3) ∧ decode cMod_plus 111 = .ok (.iconst 0, 1) ∧ decode cMod_plus 112 = .ok (.iadd, 1) ∧ decode cMod_plus 113 = .ok (.i2l, 1) ∧ decode cMod_plus 114 = .ok (.lastore, 1) ∧ decode cMod_plus 115 = .ok (.iinc 6 1, 3) ∧ decode cMod_plus 118 = .ok (.goto (-50), 3) ∧ decode cMod_plus 121 = .ok (.aload_n 0, 1) ∧ decode cMod_plus 122 = .ok (.iload_n 1, 1) ∧ True := Jvm.Free.DS.facts (code := cMod_plus) 66 [(.istore 6, 2), (.iload 6, 2), (.aload 5, 2), (.arraylength, 1), (.if_icmp .ge 48, 3), (.aload 5, 2), (.iload 6, 2), (.iload 6, 2), (.aload_n 3, 1), (.arraylength, 1), (.if_icmp .ge 10, 3), (.aload_n 3, 1), (.iload 6, 2), (.iaload, 1), (.goto 4, 3), (.iconst 0, 1), (.iload 6, 2), (.aload 4, 2), (.arraylength, 1), (.if_icmp .ge 11, 3), (.aload 4, 2), (.iload 6, 2), (.iaload, 1), (.goto 4, 3), (.iconst 0, 1), (.iadd, 1), (.i2l, 1), (.lastore, 1), (.iinc 6 1, 3), (.goto (-50), 3), (.aload_n 0, 1), (.iload_n 1, 1)] (by decide +kernel) (by decide +kernel)
theorem dMod_plus_66 : decode cMod_plus 66 = .ok (.istore 6, 2) := zfMod_plus_66.1
theorem dMod_plus_68 : decode cMod_plus 68 = .ok (.iload 6, 2) := zfMod_plus_66.2.1
theorem dMod_plus_70 : decode cMod_plus 70 = .ok (.aload 5, 2) := zfMod_plus_66.2.2.1
theorem dMod_plus_72 : decode cMod_plus 72 = .ok (.arraylength, 1) := zfMod_plus_66.2.2.2.1
theorem dMod_plus_73 : decode cMod_plus 73 = .ok (.if_icmp .ge 48, 3) := zfMod_plus_66.2.2.2.2.1
theorem dMod_plus_76 : decode cMod_plus 76 = .ok (.aload 5, 2) := zfMod_plus_66.2.2.2.2.2.1
theorem dMod_plus_78 : decode cMod_plus 78 = .ok (.iload 6, 2) := zfMod_plus_66.2.2.2.2.2.2.1
theorem dMod_plus_80 : decode cMod_plus 80 = .ok (.iload 6, 2) := zfMod_plus_66.2.2.2.2.2.2.2.1
theorem dMod_plus_82 : decode cMod_plus 82 = .ok (.aload_n 3, 1) := zfMod_plus_66.2.2.2.2.2.2.2.2.1
theorem dMod_plus_83 : decode cMod_plus 83 = .ok (.arraylength, 1) := zfMod_plus_66.2.2.2.2.2.2.2.2.2.1
theorem dMod_plus_84 : decode cMod_plus 84 = .ok (.if_icmp .ge 10, 3) := zfMod_plus_66.2.2.2.2.2.2.2.2.2.2.1
theorem dMod_plus_87 : decode cMod_plus 87 = .ok (.aload_n 3, 1) := zfMod_plus_66.2.2.2.2.2.2.2.2.2.2.2.1
theorem dMod_plus_88 : decode cMod_plus 88 = .ok (.iload 6, 2) := zfMod_plus_66.2.2.2.2.2.2.2.2.2.2.2.2.1
theorem dMod_plus_90 : decode cMod_plus 90 = .ok (.iaload, 1) := zfMod_plus_66.2.2.2.2.2.2.2.2.2.2.2.2.2.1
theorem dMod_plus_91 : decode cMod_plus 91 = .ok (.goto 4, 3) := zfMod_plus_66.2.2.2.2.2.2.2.2.2.2.2.2.2.2.1
theorem dMod_plus_94 : decode cMod_plus 94 = .ok (.iconst 0, 1) := zfMod_plus_66.2.2.2.2.2.2.2.2.2.2.2.2.2.2.2.1
theorem dMod_plus_95 : decode cMod_plus 95 = .ok (.iload 6, 2) := zfMod_plus_66.2.2.2.2.2.2.2.2.2.2.2.2.2.2.2.2.1
theorem dMod_plus_97 : decode cMod_plus 97 = .ok (.aload 4, 2) := zfMod_plus_66.2.2.2.2.2.2.2.2.2.2.2.2.2.2.2.2.2.1
theorem dMod_plus_99 : decode cMod_plus 99 = .ok (.arraylength, 1) := zfMod_plus_66.2.2.2.2.2.2.2.2.2.2.2.2.2.2.2.2.2.2.1
theorem dMod_plus_100 : decode cMod_plus 100 = .ok (.if_icmp .ge 11, 3) := zfMod_plus_66.2.2.2.2.2.2.2.2.2.2.2.2.2.2.2.2.2.2.2.1
theorem dMod_plus_103 : decode cMod_plus 103 = .ok (.aload 4, 2) := zfMod_plus_66.2.2.2.2.2.2.2.2.2.2.2.2.2.2.2.2.2.2.2.2.1
theorem dMod_plus_105 : decode cMod_plus 105 = .ok (.iload 6, 2) := zfMod_plus_66.2.2.2.2.2.2.2.2.2.2.2.2.2.2.2.2.2.2.2.2.2.1
theorem dMod_plus_107 : decode cMod_plus 107 = .ok (.iaload, 1) := zfMod_plus_66.2.2.2.2.2.2.2.2.2.2.2.2.2.2.2.2.2.2.2.2.2.2.1
theorem dMod_plus_108 : decode cMod_plus 108 = .ok (.goto 4, 3) := zfMod_plus_66.2.2.2.2.2.2.2.2.2.2.2.2.2.2.2.2.2.2.2.2.2.2.2.1
theorem dMod_plus_111 : decode cMod_plus 111 = .ok (.iconst 0, 1) := zfMod_plus_66.2.2.2.2.2.2.2.2.2.2.2.2.2.2.2.2.2.2.2.2.2.2.2.2.1
theorem dMod_plus_112 : decode cMod_plus 112 = .ok (.iadd, 1) := zfMod_plus_66.2.2.2.2.2.2.2.2.2.2.2.2.2.2.2.2.2.2.2.2.2.2.2.2.2.1
theorem dMod_plus_113 : decode cMod_plus 113 = .ok (.i2l, 1) := zfMod_plus_66.2.2.2.2.2.2.2.2.2.2.2.2.2.2.2.2.2.2.2.2.2.2.2.2.2.2.1
theorem dMod_plus_114 : decode cMod_plus 114 = .ok (.lastore, 1) := zfMod_plus_66.2.2.2.2.2.2.2.2.2.2.2.2.2.2.2.2.2.2.2.2.2.2.2.2.2.2.2.1
theorem dMod_plus_115 : decode cMod_plus 115 = .ok (.iinc 6 1, 3) := zfMod_plus_66.2.2.2.2.2.2.2.2.2.2.2.2.2.2.2.2.2.2.2.2.2.2.2.2.2.2.2.2.1
theorem dMod_plus_118 : decode cMod_plus 118 = .ok (.goto (-50), 3) := zfMod_plus_66.2.2.2.2.2.2.2.2.2.2.2.2.2.2.2.2.2.2.2.2.2.2.2.2.2.2.2.2.2.1
theorem dMod_plus_121 : decode cMod_plus 121 = .ok (.aload_n 0, 1) := zfMod_plus_66.2.2.2.2.2.2.2.2.2.2.2.2.2.2.2.2.2.2.2.2.2.2.2.2.2.2.2.2.2.2.1
theorem dMod_plus_122 : decode cMod_plus 122 = .ok (.iload_n 1, 1) := zfMod_plus_66.2.2.2.2.2.2.2.2.2.2.2.2.2.2.2.2.2.2.2.2.2.2.2.2.2.2.2.2.2.2.2.1
theorem zfMod_plus_123 : decode cMod_plus 123 = .ok (.aload 5, 2) ∧ decode cMod_plus 125 = .ok (.invokevirtual 166, 3) ∧ decode cMod_plus 128 = .ok (.ireturn, 1) ∧ True := Jvm.Free.DS.facts (code := cMod_plus) 123 [(.aload 5, 2), (.invokevirtual 166, 3), (.ireturn, 1)] (by decide +kernel) (by decide +kernel)
theorem dMod_plus_123 : decode cMod_plus 123 = .ok (.aload 5, 2) := zfMod_plus_123.1
theorem dMod_plus_125 : decode cMod_plus 125 = .ok (.invokevirtual 166, 3) := zfMod_plus_123.2.1
theorem dMod_plus_128 : decode cMod_plus 128 = .ok (.ireturn, 1) := zfMod_plus_123.2.2.1
theorem zfMod_times_0 : decode cMod_times 0 = .ok (.aload_n 0, 1) ∧ decode cMod_times 1 = .ok (.iload_n 1, 1) ∧ decode cMod_times 2 = .ok (.invokestatic 81, 3) ∧ decode cMod_times 5 = .ok (.ifCond .ne 10, 3) ∧ decode cMod_times 8 = .ok (.iload_n 2, 1) ∧ decode cMod_times 9 = .ok (.invokestatic 81, 3) ∧ decode cMod_times 12 = .ok (.ifCond .eq 7, 3) ∧ decode cMod_times 15 = .ok (.iconst 1, 1) ∧ decode cMod_times 16 = .ok (.goto 4, 3) ∧ decode cMod_times 19 = .ok (.iconst 0, 1) ∧ decode cMod_times 20 = .ok (.iconst 0, 1) ∧ decode cMod_times 21 = .ok (.iconst 0, 1) ∧ decode cMod_times 22 = .ok (.invokevirtual 88, 3) ∧ decode cMod_times 25 = .ok (.ifCond .eq 5, 3) ∧ decode cMod_times 28 = .ok (.iconst 0, 1) ∧ decode cMod_times 29 = .ok (.ireturn, 1) ∧ decode cMod_times 30 = .ok (.aload_n 0, 1) ∧ decode cMod_times 31 = .ok (.getfield 11, 3) ∧ decode cMod_times 34 = .ok (.iload_n 1, 1) ∧ decode cMod_times 35 = .ok (.aaload, 1) ∧ decode cMod_times 36 = .ok (.astore_n 3, 1) ∧ decode cMod_times 37 = .ok (.aload_n 0, 1) ∧ decode cMod_times 38 = .ok (.getfield 11, 3) ∧ decode cMod_times 41 = .ok (.iload_n 2, 1) ∧ decode cMod_times 42 = .ok (.aaload, 1) ∧ decode cMod_times 43 = .ok (.astore 4, 2) ∧ decode cMod_times 45 = .ok (.aload_n 3, 1) ∧ decode cMod_times 46 = .ok (.arraylength, 1) ∧ decode cMod_times 47 = .ok (.ifCond .eq 9, 3) ∧ decode cMod_times 50 = .ok (.aload 4, 2) ∧ decode cMod_times 52 = .ok (.arraylength, 1) ∧ decode cMod_times 53 = .ok (.ifCond .ne 7, 3) ∧ True := Jvm.Free.DS.facts (code := cMod_times) 0 [(.aload_n 0, 1), (.iload_n 1, 1), (.invokestatic 81, 3), (.ifCond .ne 10, 3), (.iload_n 2, 1), (.invokestatic 81, 3), (.ifCond .eq 7, 3), (.iconst 1, 1), (.goto 4, 3), (.iconst 0, 1), (.iconst 0, 1), (.iconst 0, 1), (.invokevirtual 88, 3), (.ifCond .eq 5, 3), (.iconst 0, 1), (.ireturn, 1), (.aload_n 0, 1), (.getfield 11, 3), (.iload_n 1, 1), (.aaload, 1), (.astore_n 3, 1), (.aload_n 0, 1), (.getfield 11, 3), (.iload_n 2, 1), (.aaload, 1), (.astore 4, 2), (.aload_n 3, 1), (.arraylength, 1), (.ifCond .eq 9, 3), (.aload 4, 2), (.arraylength, 1), (.ifCond .ne 7, 3)] (by decide +kernel) (by decide +kernel)
theorem dMod_times_0 : decode cMod_times 0 = .ok (.aload_n 0, 1) := zfMod_times_0.1
theorem dMod_times_1 : decode cMod_times 1 = .ok (.iload_n 1, 1) := zfMod_times_0.2.1
theorem dMod_times_2 : decode cMod_times 2 = .ok (.invokestatic 81, 3) := zfMod_times_0.2.2.1
theorem dMod_times_5 : decode cMod_times 5 = .ok (.ifCond .ne 10, 3) := zfMod_times_0.2.2.2.1
theorem dMod_times_8 : decode cMod_times 8 = .ok (.iload_n 2, 1) := zfMod_times_0.2.2.2.2.1
theorem dMod_times_9 : decode cMod_times 9 = .ok (.invokestatic 81, 3) := zfMod_times_0.2.2.2.2.2.1
theorem dMod_times_12 : decode cMod_times 12 = .ok (.ifCond .eq 7, 3) := zfMod_times_0.2.2.2.2.2.2.1
theorem dMod_times_15 : decode cMod_times 15 = .ok (.iconst 1, 1) := zfMod_times_0.2.2.2.2.2.2.2.1
theorem dMod_times_16 : decode cMod_times 16 = .ok (.goto 4, 3) := zfMod_times_0.2.2.2.2.2.2.2.2.1
theorem dMod_times_19 : decode cMod_times 19 = .ok (.iconst 0, 1) := zfMod_times_0.2.2.2.2.2.2.2.2.2.1
theorem dMod_times_20 : decode cMod_times 20 = .ok (.iconst 0, 1) := zfMod_times_0.2.2.2.2.2.2.2.2.2.2.1
theorem dMod_times_21 : decode cMod_times 21 = .ok (.iconst 0, 1) := zfMod_times_0.2.2.2.2.2.2.2.2.2.2.2.1
theorem dMod_times_22 : decode cMod_times 22 = .ok (.invokevirtual 88, 3) := zfMod_times_0.2.2.2.2.2.2.2.2.2.2.2.2.1
theorem dMod_times_25 : decode cMod_times 25 = .ok (.ifCond .eq 5, 3) := zfMod_times_0.2.2.2.2.2.2.2.2.2.2.2.2.2.1
theorem dMod_times_28 : decode cMod_times 28 = .ok (.iconst 0, 1) := zfMod_times_0.2.2.2.2.2.2.2.2.2.2.2.2.2.2.1
theorem dMod_times_29 : decode cMod_times 29 = .ok (.ireturn, 1) := zfMod_times_0.2.2.2.2.2.2.2.2.2.2.2.2.2.2.2.1
theorem dMod_times_30 : decode cMod_times 30 = .ok (.aload_n 0, 1) := zfMod_times_0.2.2.2.2.2.2.2.2.2.2.2.2.2.2.2.2.1
theorem dMod_times_31 : decode cMod_times 31 = .ok (.getfield 11, 3) := zfMod_times_0.2.2.2.2.2.2.2.2.2.2.2.2.2.2.2.2.2.1
theorem dMod_times_34 : decode cMod_times 34 = .ok (.iload_n 1, 1) := zfMod_times_0.2.2.2.2.2.2.2.2.2.2.2.2.2.2.2.2.2.2.1
theorem dMod_times_35 : decode cMod_times 35 = .ok (.aaload, 1) := zfMod_times_0.2.2.2.2.2.2.2.2.2.2.2.2.2.2.2.2.2.2.2.1
theorem dMod_times_36 : decode cMod_times 36 = .ok (.astore_n 3, 1) := zfMod_times_0.2.2.2.2.2.2.2.2.2.2.2.2.2.2.2.2.2.2.2.2.1
theorem dMod_times_37 : decode cMod_times 37 = .ok (.aload_n 0, 1) := zfMod_times_0.2.2.2.2.2.2.2.2.2.2.2.2.2.2.2.2.2.2.2.2.2.1
theorem dMod_times_38 : decode cMod_times 38 = .ok (.getfield 11, 3) := zfMod_times_0.2.2.2.2.2.2.2.2.2.2.2.2.2.2.2.2.2.2.2.2.2.2.1
theorem dMod_times_41 : decode cMod_times 41 = .ok (.iload_n 2, 1) := zfMod_times_0.2.2.2.2.2.2.2.2.2.2.2.2.2.2.2.2.2.2.2.2.2.2.2.1
theorem dMod_times_42 : decode cMod_times 42 = .ok (.aaload, 1) := zfMod_times_0.2.2.2.2.2.2.2.2.2.2.2.2.2.2.2.2.2.2.2.2.2.2.2.2.1
theorem dMod_times_43 : decode cMod_times 43 = .ok (.astore 4, 2) := zfMod_times_0.2.2.2.2.2.2.2.2.2.2.2.2.2.2.2.2.2.2.2.2.2.2.2.2.2.1
theorem dMod_times_45 : decode cMod_times 45 = .ok (.aload_n 3, 1) := zfMod_times_0.2.2.2.2.2.2.2.2.2.2.2.2.2.2.2.2.2.2.2.2.2.2.2.2.2.2.1
theorem dMod_times_46 : decode cMod_times 46 = .ok (.arraylength, 1) := zfMod_times_0.2.2.2.2.2.2.2.2.2.2.2.2.2.2.2.2.2.2.2.2.2.2.2.2.2.2.2.1
theorem dMod_times_47 : decode cMod_times 47 = .ok (.ifCond .eq 9, 3) := zfMod_times_0.2.2.2.2.2.2.2.2.2.2.2.2.2.2.2.2.2.2.2.2.2.2.2.2.2.2.2.2.1
theorem dMod_times_50 : decode cMod_times 50 = .ok (.aload 4, 2) := zfMod_times_0.2.2.2.2.2.2.2.2.2.2.2.2.2.2.2.2.2.2.2.2.2.2.2.2.2.2.2.2.2.1
theorem dMod_times_52 : decode cMod_times 52 = .ok (.arraylength, 1) := zfMod_times_0.2.2.2.2.2.2.2.2.2.2.2.2.2.2.2.2.2.2.2.2.2.2.2.2.2.2.2.2.2.2.1
theorem dMod_times_53 : decode cMod_times 53 = .ok (.ifCond .ne 7, 3) := zfMod_times_0.2.2.2.2.2.2.2.2.2.2.2.2.2.2.2.2.2.2.2.2.2.2.2.2.2.2.2.2.2.2.2.1
theorem zfMod_times_56 : decode cMod_times 56 = .ok (.iconst 0, 1) ∧ decode cMod_times 57 = .ok (.goto 11, 3) ∧ decode cMod_times 60 = .ok (.aload_n 3, 1) ∧ decode cMod_times 61 = .ok (.arraylength, 1) ∧ decode cMod_times 62 = .ok (.aload 4, 2) ∧ decode cMod_times 64 = .ok (.arraylength, 1) ∧ decode cMod_times 65 = .ok (.iadd, 1) ∧ decode cMod_times 66 = .ok (.iconst 1, 1) ∧ decode cMod_times 67 = .ok (.isub, 1) ∧ decode cMod_times 68 = .ok (.newarray .long, 2) ∧ decode cMod_times 70 = .ok (.astore 5, 2) ∧ decode cMod_times 72 = .ok (.iconst 0, 1) ∧ decode cMod_times 73 = .ok (.istore 6, 2) ∧ decode cMod_times 75 = .ok (.iload 6, 2) ∧ decode cMod_times 77 = .ok (.aload 5, 2) ∧ decode cMod_times 79 = .ok (.arraylength, 1) ∧ decode cMod_times 80 = .ok (.if_icmp .ge 67, 3) ∧ decode cMod_times 83 = .ok (.iconst 0, 1) ∧ decode cMod_times 84 = .ok (.istore 7, 2) ∧ decode cMod_times 86 = .ok (.iload 7, 2) ∧ decode cMod_times 88 = .ok (.aload_n 3, 1) ∧ decode cMod_times 89 = .ok (.arraylength, 1) ∧ decode cMod_times 90 = .ok (.if_icmp .ge 51, 3) ∧ decode cMod_times 93 = .ok (.iload 6, 2) ∧ decode cMod_times 95 = .ok (.iload 7, 2) ∧ decode cMod_times 97 = .ok (.isub, 1) ∧ decode cMod_times 98 = .ok (.ifCond .lt 37, 3) ∧ decode cMod_times 101 = .ok (.iload 6, 2) ∧ decode cMod_times 103 = .ok (.iload 7, 2) ∧ decode cMod_times 105 = .ok (.isub, 1) ∧ decode cMod_times 106 = .ok (.aload 4, 2) ∧ decode cMod_times 108 = .ok (.arraylength, 1) ∧ True := Jvm.Free.DS.facts (code := cMod_times) 56 [(.iconst 0, 1), (.goto 11, 3), (.aload_n 3, 1), (.arraylength, 1), (.aload 4, 2), (.arraylength, 1), (.iadd, 1), (.iconst 1, 1), (.isub, 1), (.newarray .long, 2), (.astore 5, 2), (.iconst 0, 1), (.istore 6, 2), (.iload 6, 2), (.aload 5, 2), (.arraylength, 1), (.if_icmp .ge 67, 3), (.iconst 0, 1), (.istore 7, 2), (.iload 7, 2), (.aload_n 3, 1), (.arraylength, 1), (.if_icmp .ge 51, 3), (.iload 6, 2), (.iload 7, 2), (.isub, 1), (.ifCond .lt 37, 3), (.iload 6, 2), (.iload 7, 2), (.isub, 1), (.aload 4, 2), (.arraylength, 1)] (by decide +kernel) (by decide +kernel)
theorem dMod_times_56 : decode cMod_times 56 = .ok (.iconst 0, 1) := zfMod_times_56.1
theorem dMod_times_57 : decode cMod_times 57 = .ok (.goto 11, 3) := zfMod_times_56.2.1
theorem dMod_times_60 : decode cMod_times 60 = .ok (.aload_n 3, 1) := zfMod_times_56.2.2.1
theorem dMod_times_61 : decode cMod_times 61 = .ok (.arraylength, 1) := zfMod_times_56.2.2.2.1
theorem dMod_times_62 : decode cMod_times 62 = .ok (.aload 4, 2) := zfMod_times_56.2.2.2.2.1
theorem dMod_times_64 : decode cMod_times 64 = .ok (.arraylength, 1) := zfMod_times_56.2.2.2.2.2.1
theorem dMod_times_65 : decode cMod_times 65 = .ok (.iadd, 1) := zfMod_times_56.2.2.2.2.2.2.1
theorem dMod_times_66 : decode cMod_times 66 = .ok (.iconst 1, 1) := zfMod_times_56.2.2.2.2.2.2.2.1
theorem dMod_times_67 : decode cMod_times 67 = .ok (.isub, 1) := zfMod_times_56.2.2.2.2.2.2.2.2.1
theorem dMod_times_68 : decode cMod_times 68 = .ok (.newarray .long, 2) := zfMod_times_56.2.2.2.2.2.2.2.2.2.1
theorem dMod_times_70 : decode cMod_times 70 = .ok (.astore 5, 2) := zfMod_times_56.2.2.2.2.2.2.2.2.2.2.1
theorem dMod_times_72 : decode cMod_times 72 = .ok (.iconst 0, 1) := zfMod_times_56.2.2.2.2.2.2.2.2.2.2.2.1
theorem dMod_times_73 : decode cMod_times 73 = .ok (.istore 6, 2) := zfMod_times_56.2.2.2.2.2.2.2.2.2.2.2.2.1
theorem dMod_times_75 : decode cMod_times 75 = .ok (.iload 6, 2) := zfMod_times_56.2.2.2.2.2.2.2.2.2.2.2.2.2.1
theorem dMod_times_77 : decode cMod_times 77 = .ok (.aload 5, 2) := zfMod_times_56.2.2.2.2.2.2.2.2.2.2.2.2.2.2.1
theorem dMod_times_79 : decode cMod_times 79 = .ok (.arraylength, 1) := zfMod_times_56.2.2.2.2.2.2.2.2.2.2.2.2.2.2.2.1
theorem dMod_times_80 : decode cMod_times 80 = .ok (.if_icmp .ge 67, 3) := zfMod_times_56.2.2.2.2.2.2.2.2.2.2.2.2.2.2.2.2.1
theorem dMod_times_83 : decode cMod_times 83 = .ok (.iconst 0, 1) := zfMod_times_56.2.2.2.2.2.2.2.2.2.2.2.2.2.2.2.2.2.1
theorem dMod_times_84 : decode cMod_times 84 = .ok (.istore 7, 2) := zfMod_times_56.2.2.2.2.2.2.2.2.2.2.2.2.2.2.2.2.2.2.1
theorem dMod_times_86 : decode cMod_times 86 = .ok (.iload 7, 2) := zfMod_times_56.2.2.2.2.2.2.2.2.2.2.2.2.2.2.2.2.2.2.2.1
theorem dMod_times_88 : decode cMod_times 88 = .ok (.aload_n 3, 1) := zfMod_times_56.2.2.2.2.2.2.2.2.2.2.2.2.2.2.2.2.2.2.2.2.1
theorem dMod_times_89 : decode cMod_times 89 = .ok (.arraylength, 1) := zfMod_times_56.2.2.2.2.2.2.2.2.2.2.2.2.2.2.2.2.2.2.2.2.2.1
theorem dMod_times_90 : decode cMod_times 90 = .ok (.if_icmp .ge 51, 3) := zfMod_times_56.2.2.2.2.2.2.2.2.2.2.2.2.2.2.2.2.2.2.2.2.2.2.1
theorem dMod_times_93 : decode cMod_times 93 = .ok (.iload 6, 2) := zfMod_times_56.2.2.2.2.2.2.2.2.2.2.2.2.2.2.2.2.2.2.2.2.2.2.2.1
theorem dMod_times_95 : decode cMod_times 95 = .ok (.iload 7, 2) := zfMod_times_56.2.2.2.2.2.2.2.2.2.2.2.2.2.2.2.2.2.2.2.2.2.2.2.2.1
theorem dMod_times_97 : decode cMod_times 97 = .ok (.isub, 1) := zfMod_times_56.2.2.2.2.2.2.2.2.2.2.2.2.2.2.2.2.2.2.2.2.2.2.2.2.2.1
theorem dMod_times_98 : decode cMod_times 98 = .ok (.ifCond .lt 37, 3) := zfMod_times_56.2.2.2.2.2.2.2.2.2.2.2.2.2.2.2.2.2.2.2.2.2.2.2.2.2.2.1
theorem dMod_times_101 : decode cMod_times 101 = .ok (.iload 6, 2) := zfMod_times_56.2.2.2.2.2.2.2.2.2.2.2.2.2.2.2.2.2.2.2.2.2.2.2.2.2.2.2.1
theorem dMod_times_103 : decode cMod_times 103 = .ok (.iload 7, 2) := zfMod_times_56.2.2.2.2.2.2.2.2.2.2.2.2.2.2.2.2.2.2.2.2.2.2.2.2.2.2.2.2.1
theorem dMod_times_105 : decode cMod_times 105 = .ok (.isub, 1) := zfMod_times_56.2.2.2.2.2.2.2.2.2.2.2.2.2.2.2.2.2.2.2.2.2.2.2.2.2.2.2.2.2.1
theorem dMod_times_106 : decode cMod_times 106 = .ok (.aload 4, 2) := zfMod_times_56.2.2.2.2.2.2.2.2.2.2.2.2.2.2.2.2.2.2.2.2.2.2.2.2.2.2.2.2.2.2.1
theorem dMod_times_108 : decode cMod_times 108 = .ok (.arraylength, 1) := zfMod_times_56.2.2.2.2.2.2.2.2.2.2.2.2.2.2.2.2.2.2.2.2.2.2.2.2.2.2.2.2.2.2.2.1
theorem zfMod_times_109 : decode cMod_times 109 = .ok (.if_icmp .ge 26, 3) ∧ decode cMod_times 112 = .ok (.aload 5, 2) ∧ decode cMod_times 114 = .ok (.iload 6, 2) ∧ decode cMod_times 116 = .ok (.dup2, 1) ∧ decode cMod_times 117 = .ok (.laload, 1) ∧ decode cMod_times 118 = .ok (.aload_n 3, 1) ∧ decode cMod_times 119 = .ok (.iload 7, 2) ∧ decode cMod_times 121 = .ok (.iaload, 1) ∧ decode cMod_times 122 = .ok (.i2l, 1) ∧ decode cMod_times 123 = .ok (.aload 4, 2) ∧ decode cMod_times 125 = .ok (.iload 6, 2) ∧ decode cMod_times 127 = .ok (.iload 7, 2) ∧ decode cMod_times 129 = .ok (.isub, 1) ∧ decode cMod_times 130 = .ok (.iaload, 1) ∧ decode cMod_times 131 = .ok (.i2l, 1) ∧ decode cMod_times 132 = .ok (.lmul, 1) ∧ decode cMod_times 133 = .ok (.ladd, 1) ∧ decode cMod_times 134 = .ok (.lastore, 1) ∧ decode cMod_times 135 = .ok (.iinc 7 1, 3) ∧ decode cMod_times 138 = .ok (.goto (-52), 3) ∧ decode cMod_times 141 = .ok (.iinc 6 1, 3) ∧ decode cMod_times 144 = .ok (.goto (-69), 3) ∧ decode cMod_times 147 = .ok (.aload_n 0, 1) ∧ decode cMod_times 148 = .ok (.iload_n 1, 1) ∧ decode cMod_times 149 = .ok (.aload 5, 2) ∧ decode cMod_times 151 = .ok (.invokevirtual 166, 3) ∧ decode cMod_times 154 = .ok (.ireturn, 1) ∧ True := Jvm.Free.DS.facts (code := cMod_times) 109 [(.if_icmp .ge 26, 3), (.aload 5, 2), (.iload 6, 2), (.dup2, 1), (.laload, 1), (.aload_n 3, 1), (.iload 7, 2), (.iaload, 1), (.i2l, 1), (.aload 4, 2), (.iload 6, 2), (.iload 7, 2), (.isub, 1), (.iaload, 1), (.i2l, 1), (.lmul, 1), (.ladd, 1), (.lastore, 1), (.iinc 7 1, 3), (.goto (-52), 3), (.iinc 6 1, 3), (.goto (-69), 3), (.aload_n 0, 1), (.iload_n 1, 1), (.aload 5, 2), (.invokevirtual 166, 3), (.ireturn, 1)] (by decide +kernel) (by decide +kernel)
theorem dMod_times_109 : decode cMod_times 109 = .ok (.if_icmp .ge 26, 3) := zfMod_times_109.1
theorem dMod_times_112 : decode cMod_times 112 = .ok (.aload 5, 2) := zfMod_times_109.2.1
theorem dMod_times_114 : decode cMod_times 114 = .ok (.iload 6, 2) := zfMod_times_109.2.2.1
theorem dMod_times_116 : decode cMod_times 116 = .ok (.dup2, 1) := zfMod_times_109.2.2.2.1
theorem dMod_times_117 : decode cMod_times 117 = .ok (.laload, 1) := zfMod_times_109.2.2.2.2.1
theorem dMod_times_118 : decode cMod_times 118 = .ok (.aload_n 3, 1) := zfMod_times_109.2.2.2.2.2.1
theorem dMod_times_119 : decode cMod_times 119 = .ok (.iload 7, 2) := zfMod_times_109.2.2.2.2.2.2.1
theorem dMod_times_121 : decode cMod_times 121 = .ok (.iaload, 1) := zfMod_times_109.2.2.2.2.2.2.2.1
theorem dMod_times_122 : decode cMod_times 122 = .ok (.i2l, 1) := zfMod_times_109.2.2.2.2.2.2.2.2.1
theorem dMod_times_123 : decode cMod_times 123 = .ok (.aload 4, 2) := zfMod_times_109.2.2.2.2.2.2.2.2.2.1
theorem dMod_times_125 : decode cMod_times 125 = .ok (.iload 6, 2) := zfMod_times_109.2.2.2.2.2.2.2.2.2.2.1
theorem dMod_times_127 : decode cMod_times 127 = .ok (.iload 7, 2) := zfMod_times_109.2.2.2.2.2.2.2.2.2.2.2.1
theorem dMod_times_129 : decode cMod_times 129 = .ok (.isub, 1) := zfMod_times_109.2.2.2.2.2.2.2.2.2.2.2.2.1
theorem dMod_times_130 : decode cMod_times 130 = .ok (.iaload, 1) := zfMod_times_109.2.2.2.2.2.2.2.2.2.2.2.2.2.1
theorem dMod_times_131 : decode cMod_times 131 = .ok (.i2l, 1) := zfMod_times_109.2.2.2.2.2.2.2.2.2.2.2.2.2.2.1
theorem dMod_times_132 : decode cMod_times 132 = .ok (.lmul, 1) := zfMod_times_109.2.2.2.2.2.2.2.2.2.2.2.2.2.2.2.1
theorem dMod_times_133 : decode cMod_times 133 = .ok (.ladd, 1) := zfMod_times_109.2.2.2.2.2.2.2.2.2.2.2.2.2.2.2.2.1
theorem dMod_times_134 : decode cMod_times 134 = .ok (.lastore, 1) := zfMod_times_109.2.2.2.2.2.2.2.2.2.2.2.2.2.2.2.2.2.1
theorem dMod_times_135 : decode cMod_times 135 = .ok (.iinc 7 1, 3) := zfMod_times_109.2.2.2.2.2.2.2.2.2.2.2.2.2.2.2.2.2.2.1
theorem dMod_times_138 : decode cMod_times 138 = .ok (.goto (-52), 3) := zfMod_times_109.2.2.2.2.2.2.2.2.2.2.2.2.2.2.2.2.2.2.2.1
theorem dMod_times_141 : decode cMod_times 141 = .ok (.iinc 6 1, 3) := zfMod_times_109.2.2.2.2.2.2.2.2.2.2.2.2.2.2.2.2.2.2.2.2.1
theorem dMod_times_144 : decode cMod_times 144 = .ok (.goto (-69), 3) := zfMod_times_109.2.2.2.2.2.2.2.2.2.2.2.2.2.2.2.2.2.2.2.2.2.1
theorem dMod_times_147 : decode cMod_times 147 = .ok (.aload_n 0, 1) := zfMod_times_109.2.2.2.2.2.2.2.2.2.2.2.2.2.2.2.2.2.2.2.2.2.2.1
theorem dMod_times_148 : decode cMod_times 148 = .ok (.iload_n 1, 1) := zfMod_times_109.2.2.2.2.2.2.2.2.2.2.2.2.2.2.2.2.2.2.2.2.2.2.2.1
theorem dMod_times_149 : decode cMod_times 149 = .ok (.aload 5, 2) := zfMod_times_109.2.2.2.2.2.2.2.2.2.2.2.2.2.2.2.2.2.2.2.2.2.2.2.2.1
theorem dMod_times_151 : decode cMod_times 151 = .ok (.invokevirtual 166, 3) := zfMod_times_109.2.2.2.2.2.2.2.2.2.2.2.2.2.2.2.2.2.2.2.2.2.2.2.2.2.1
theorem dMod_times_154 : decode cMod_times 154 = .ok (.ireturn, 1) := zfMod_times_109.2.2.2.2.2.2.2.2.2.2.2.2.2.2.2.2.2.2.2.2.2.2.2.2.2.2.1
theorem zfMod_shift_0 : decode cMod_shift 0 = .ok (.aload_n 0, 1) ∧ decode cMod_shift 1 = .ok (.iload_n 1, 1) ∧ decode cMod_shift 2 = .ok (.invokestatic 81, 3) ∧ decode cMod_shift 5 = .ok (.iconst 0, 1) ∧ decode cMod_shift 6 = .ok (.iconst 0, 1) ∧ decode cMod_shift 7 = .ok (.invokevirtual 88, 3) ∧ decode cMod_shift 10 = .ok (.ifCond .eq 5, 3) ∧ decode cMod_shift 13 = .ok (.iconst 0, 1) ∧ decode cMod_shift 14 = .ok (.ireturn, 1) ∧ decode cMod_shift 15 = .ok (.aload_n 0, 1) ∧ decode cMod_shift 16 = .ok (.getfield 11, 3) ∧ decode cMod_shift 19 = .ok (.iload_n 1, 1) ∧ decode cMod_shift 20 = .ok (.aaload, 1) ∧ decode cMod_shift 21 = .ok (.arraylength, 1) ∧ decode cMod_shift 22 = .ok (.bipush 16, 2) ∧ decode cMod_shift 24 = .ok (.if_icmp .ne 8, 3) ∧ decode cMod_shift 27 = .ok (.aload_n 0, 1) ∧ decode cMod_shift 28 = .ok (.invokevirtual 92, 3) ∧ decode cMod_shift 31 = .ok (.ireturn, 1) ∧ decode cMod_shift 32 = .ok (.aload_n 0, 1) ∧ decode cMod_shift 33 = .ok (.iload_n 1, 1) ∧ decode cMod_shift 34 = .ok (.aload_n 0, 1) ∧ decode cMod_shift 35 = .ok (.getfield 11, 3) ∧ decode cMod_shift 38 = .ok (.iload_n 1, 1) ∧ decode cMod_shift 39 = .ok (.aaload, 1) ∧ decode cMod_shift 40 = .ok (.arraylength, 1) ∧ decode cMod_shift 41 = .ok (.ifCond .ne 12, 3) ∧ decode cMod_shift 44 = .ok (.aload_n 0, 1) ∧ decode cMod_shift 45 = .ok (.getfield 11, 3) ∧ decode cMod_shift 48 = .ok (.iload_n 1, 1) ∧ decode cMod_shift 49 = .ok (.aaload, 1) ∧ decode cMod_shift 50 = .ok (.goto 14, 3) ∧ True := Jvm.Free.DS.facts (code := cMod_shift) 0 [(.aload_n 0, 1), (.iload_n 1, 1), (.invokestatic 81, 3), (.iconst 0, 1), (.iconst 0, 1), (.invokevirtual 88, 3), (.ifCond .eq 5, 3), (.iconst 0, 1), (.ireturn, 1), (.aload_n 0, 1), (.getfield 11, 3), (.iload_n 1, 1), (.aaload, 1), (.arraylength, 1), (.bipush 16, 2), (.if_icmp .ne 8, 3), (.aload_n 0, 1), (.invokevirtual 92, 3), (.ireturn, 1), (.aload_n 0, 1), (.iload_n 1, 1), (.aload_n 0, 1), (.getfield 11, 3), (.iload_n 1, 1), (.aaload, 1), (.arraylength, 1), (.ifCond .ne 12, 3), (.aload_n 0, 1), (.getfield 11, 3), (.iload_n 1, 1), (.aaload, 1), (.goto 14, 3)] (by decide +kernel) (by decide +kernel)
theorem dMod_shift_0 : decode cMod_shift 0 = .ok (.aload_n 0, 1) := zfMod_shift_0.1
theorem dMod_shift_1 : decode cMod_shift 1 = .ok (.iload_n 1, 1) := zfMod_shift_0.2.1
theorem dMod_shift_2 : decode cMod_shift 2 = .ok (.invokestatic 81, 3) := zfMod_shift_0.2.2.1
theorem dMod_shift_5 : decode cMod_shift 5 = .ok (.iconst 0, 1) := zfMod_shift_0.2.2.2.1
theorem dMod_shift_6 : decode cMod_shift 6 = .ok (.iconst 0, 1) := zfMod_shift_0.2.2.2.2.1
theorem dMod_shift_7 : decode cMod_shift 7 = .ok (.invokevirtual 88, 3) := zfMod_shift_0.2.2.2.2.2.1
theorem dMod_shift_10 : decode cMod_shift 10 = .ok (.ifCond .eq 5, 3) := zfMod_shift_0.2.2.2.2.2.2.1
theorem dMod_shift_13 : decode cMod_shift 13 = .ok (.iconst 0, 1) := zfMod_shift_0.2.2.2.2.2.2.2.1
theorem dMod_shift_14 : decode cMod_shift 14 = .ok (.ireturn, 1) := zfMod_shift_0.2.2.2.2.2.2.2.2.1
theorem dMod_shift_15 : decode cMod_shift 15 = .ok (.aload_n 0, 1) := zfMod_shift_0.2.2.2.2.2.2.2.2.2.1
theorem dMod_shift_16 : decode cMod_shift 16 = .ok (.getfield 11, 3) := zfMod_shift_0.2.2.2.2.2.2.2.2.2.2.1
theorem dMod_shift_19 : decode cMod_shift 19 = .ok (.iload_n 1, 1) := zfMod_shift_0.2.2.2.2.2.2.2.2.2.2.2.1
theorem dMod_shift_20 : decode cMod_shift 20 = .ok (.aaload, 1) := zfMod_shift_0.2.2.2.2.2.2.2.2.2.2.2.2.1
theorem dMod_shift_21 : decode cMod_shift 21 = .ok (.arraylength, 1) := zfMod_shift_0.2.2.2.2.2.2.2.2.2.2.2.2.2.1
theorem dMod_shift_22 : decode cMod_shift 22 = .ok (.bipush 16, 2) := zfMod_shift_0.2.2.2.2.2.2.2.2.2.2.2.2.2.2.1
theorem dMod_shift_24 : decode cMod_shift 24 = .ok (.if_icmp .ne 8, 3) := zfMod_shift_0.2.2.2.2.2.2.2.2.2.2.2.2.2.2.2.1
theorem dMod_shift_27 : decode cMod_shift 27 = .ok (.aload_n 0, 1) := zfMod_shift_0.2.2.2.2.2.2.2.2.2.2.2.2.2.2.2.2.1
theorem dMod_shift_28 : decode cMod_shift 28 = .ok (.invokevirtual 92, 3) := zfMod_shift_0.2.2.2.2.2.2.2.2.2.2.2.2.2.2.2.2.2.1
theorem dMod_shift_31 : decode cMod_shift 31 = .ok (.ireturn, 1) := zfMod_shift_0.2.2.2.2.2.2.2.2.2.2.2.2.2.2.2.2.2.2.1
theorem dMod_shift_32 : decode cMod_shift 32 = .ok (.aload_n 0, 1) := zfMod_shift_0.2.2.2.2.2.2.2.2.2.2.2.2.2.2.2.2.2.2.2.1
theorem dMod_shift_33 : decode cMod_shift 33 = .ok (.iload_n 1, 1) := zfMod_shift_0.2.2.2.2.2.2.2.2.2.2.2.2.2.2.2.2.2.2.2.2.1
theorem dMod_shift_34 : decode cMod_shift 34 = .ok (.aload_n 0, 1) := zfMod_shift_0.2.2.2.2.2.2.2.2.2.2.2.2.2.2.2.2.2.2.2.2.2.1
theorem dMod_shift_35 : decode cMod_shift 35 = .ok (.getfield 11, 3) := zfMod_shift_0.2.2.2.2.2.2.2.2.2.2.2.2.2.2.2.2.2.2.2.2.2.2.1
theorem dMod_shift_38 : decode cMod_shift 38 = .ok (.iload_n 1, 1) := zfMod_shift_0.2.2.2.2.2.2.2.2.2.2.2.2.2.2.2.2.2.2.2.2.2.2.2.1
theorem dMod_shift_39 : decode cMod_shift 39 = .ok (.aaload, 1) := zfMod_shift_0.2.2.2.2.2.2.2.2.2.2.2.2.2.2.2.2.2.2.2.2.2.2.2.2.1
theorem dMod_shift_40 : decode cMod_shift 40 = .ok (.arraylength, 1) := zfMod_shift_0.2.2.2.2.2.2.2.2.2.2.2.2.2.2.2.2.2.2.2.2.2.2.2.2.2.1
theorem dMod_shift_41 : decode cMod_shift 41 = .ok (.ifCond .ne 12, 3) := zfMod_shift_0.2.2.2.2.2.2.2.2.2.2.2.2.2.2.2.2.2.2.2.2.2.2.2.2.2.2.1
theorem dMod_shift_44 : decode cMod_shift 44 = .ok (.aload_n 0, 1) := zfMod_shift_0.2.2.2.2.2.2.2.2.2.2.2.2.2.2.2.2.2.2.2.2.2.2.2.2.2.2.2.1
theorem dMod_shift_45 : decode cMod_shift 45 = .ok (.getfield 11, 3) := zfMod_shift_0.2.2.2.2.2.2.2.2.2.2.2.2.2.2.2.2.2.2.2.2.2.2.2.2.2.2.2.2.1
theorem dMod_shift_48 : decode cMod_shift 48 = .ok (.iload_n 1, 1) := zfMod_shift_0.2.2.2.2.2.2.2.2.2.2.2.2.2.2.2.2.2.2.2.2.2.2.2.2.2.2.2.2.2.1
theorem dMod_shift_49 : decode cMod_shift 49 = .ok (.aaload, 1) := zfMod_shift_0.2.2.2.2.2.2.2.2.2.2.2.2.2.2.2.2.2.2.2.2.2.2.2.2.2.2.2.2.2.2.1
theorem dMod_shift_50 : decode cMod_shift 50 = .ok (.goto 14, 3) := zfMod_shift_0.2.2.2.2.2.2.2.2.2.2.2.2.2.2.2.2.2.2.2.2.2.2.2.2.2.2.2.2.2.2.2.1
theorem zfMod_shift_53 : decode cMod_shift 53 = .ok (.aload_n 0, 1) ∧ decode cMod_shift 54 = .ok (.getfield 11, 3) ∧ decode cMod_shift 57 = .ok (.iload_n 1, 1) ∧ decode cMod_shift 58 = .ok (.aaload, 1) ∧ decode cMod_shift 59 = .ok (.iconst 0, 1) ∧ decode cMod_shift 60 = .ok (.iconst 0, 1) ∧ decode cMod_shift 61 = .ok (.invokestatic 49, 3) ∧ decode cMod_shift 64 = .ok (.invokevirtual 95, 3) ∧ decode cMod_shift 67 = .ok (.ireturn, 1) ∧ True := Jvm.Free.DS.facts (code := cMod_shift) 53 [(.aload_n 0, 1), (.getfield 11, 3), (.iload_n 1, 1), (.aaload, 1), (.iconst 0, 1), (.iconst 0, 1), (.invokestatic 49, 3), (.invokevirtual 95, 3), (.ireturn, 1)] (by decide +kernel) (by decide +kernel)
theorem dMod_shift_53 : decode cMod_shift 53 = .ok (.aload_n 0, 1) := zfMod_shift_53.1
theorem dMod_shift_54 : decode cMod_shift 54 = .ok (.getfield 11, 3) := zfMod_shift_53.2.1
theorem dMod_shift_57 : decode cMod_shift 57 = .ok (.iload_n 1, 1) := zfMod_shift_53.2.2.1
theorem dMod_shift_58 : decode cMod_shift 58 = .ok (.aaload, 1) := zfMod_shift_53.2.2.2.1
theorem dMod_shift_59 : decode cMod_shift 59 = .ok (.iconst 0, 1) := zfMod_shift_53.2.2.2.2.1
theorem dMod_shift_60 : decode cMod_shift 60 = .ok (.iconst 0, 1) := zfMod_shift_53.2.2.2.2.2.1
theorem dMod_shift_61 : decode cMod_shift 61 = .ok (.invokestatic 49, 3) := zfMod_shift_53.2.2.2.2.2.2.1
theorem dMod_shift_64 : decode cMod_shift 64 = .ok (.invokevirtual 95, 3) := zfMod_shift_53.2.2.2.2.2.2.2.1
theorem dMod_shift_67 : decode cMod_shift 67 = .ok (.ireturn, 1) := zfMod_shift_53.2.2.2.2.2.2.2.2.1
theorem zfMod_trim_0 : decode cMod_trim 0 = .ok (.aload_n 0, 1) ∧ decode cMod_trim 1 = .ok (.iload_n 1, 1) ∧ decode cMod_trim 2 = .ok (.invokestatic 81, 3) ∧ decode cMod_trim 5 = .ok (.iconst 0, 1) ∧ decode cMod_trim 6 = .ok (.iconst 0, 1) ∧ decode cMod_trim 7 = .ok (.invokevirtual 88, 3) ∧ decode cMod_trim 10 = .ok (.ifCond .eq 5, 3) ∧ decode cMod_trim 13 = .ok (.iconst 0, 1) ∧ decode cMod_trim 14 = .ok (.ireturn, 1) ∧ decode cMod_trim 15 = .ok (.aload_n 0, 1) ∧ decode cMod_trim 16 = .ok (.getfield 11, 3) ∧ decode cMod_trim 19 = .ok (.iload_n 1, 1) ∧ decode cMod_trim 20 = .ok (.aaload, 1) ∧ decode cMod_trim 21 = .ok (.astore_n 2, 1) ∧ decode cMod_trim 22 = .ok (.aload_n 2, 1) ∧ decode cMod_trim 23 = .ok (.arraylength, 1) ∧ decode cMod_trim 24 = .ok (.ifCond .le 24, 3) ∧ decode cMod_trim 27 = .ok (.aload_n 2, 1) ∧ decode cMod_trim 28 = .ok (.aload_n 2, 1) ∧ decode cMod_trim 29 = .ok (.arraylength, 1) ∧ decode cMod_trim 30 = .ok (.iconst 1, 1) ∧ decode cMod_trim 31 = .ok (.isub, 1) ∧ decode cMod_trim 32 = .ok (.iaload, 1) ∧ decode cMod_trim 33 = .ok (.ifCond .ne 15, 3) ∧ decode cMod_trim 36 = .ok (.aload_n 2, 1) ∧ decode cMod_trim 37 = .ok (.aload_n 2, 1) ∧ decode cMod_trim 38 = .ok (.arraylength, 1) ∧ decode cMod_trim 39 = .ok (.iconst 1, 1) ∧ decode cMod_trim 40 = .ok (.isub, 1) ∧ decode cMod_trim 41 = .ok (.invokestatic 102, 3) ∧ decode cMod_trim 44 = .ok (.astore_n 2, 1) ∧ decode cMod_trim 45 = .ok (.goto (-23), 3) ∧ True := Jvm.Free.DS.facts (code := cMod_trim) 0 [(.aload_n 0, 1), (.iload_n 1, 1), (.invokestatic 81, 3), (.iconst 0, 1), (.iconst 0, 1), (.invokevirtual 88, 3), (.ifCond .eq 5, 3), (.iconst 0, 1), (.ireturn, 1), (.aload_n 0, 1), (.getfield 11, 3), (.iload_n 1, 1), (.aaload, 1), (.astore_n 2, 1), (.aload_n 2, 1), (.arraylength, 1), (.ifCond .le 24, 3), (.aload_n 2, 1), (.aload_n 2, 1), (.arraylength, 1), (.iconst 1, 1), (.isub, 1), (.iaload, 1), (.ifCond .ne 15, 3), (.aload_n 2, 1), (.aload_n 2, 1), (.arraylength, 1), (.iconst 1, 1), (.isub, 1), (.invokestatic 102, 3), (.astore_n 2, 1), (.goto (-23), 3)] (by decide +kernel) (by decide +kernel)
theorem dMod_trim_0 : decode cMod_trim 0 = .ok (.aload_n 0, 1) := zfMod_trim_0.1
theorem dMod_trim_1 : decode cMod_trim 1 = .ok (.iload_n 1, 1) := zfMod_trim_0.2.1
theorem dMod_trim_2 : decode cMod_trim 2 = .ok (.invokestatic 81, 3) := zfMod_trim_0.2.2.1
theorem dMod_trim_5 : decode cMod_trim 5 = .ok (.iconst 0, 1) := zfMod_trim_0.2.2.2.1
theorem dMod_trim_6 : decode cMod_trim 6 = .ok (.iconst 0, 1) := zfMod_trim_0.2.2.2.2.1
theorem dMod_trim_7 : decode cMod_trim 7 = .ok (.invokevirtual 88, 3) := zfMod_trim_0.2.2.2.2.2.1
theorem dMod_trim_10 : decode cMod_trim 10 = .ok (.ifCond .eq 5, 3) := zfMod_trim_0.2.2.2.2.2.2.1
theorem dMod_trim_13 : decode cMod_trim 13 = .ok (.iconst 0, 1) := zfMod_trim_0.2.2.2.2.2.2.2.1
theorem dMod_trim_14 : decode cMod_trim 14 = .ok (.ireturn, 1) := zfMod_trim_0.2.2.2.2.2.2.2.2.1
theorem dMod_trim_15 : decode cMod_trim 15 = .ok (.aload_n 0, 1) := zfMod_trim_0.2.2.2.2.2.2.2.2.2.1
theorem dMod_trim_16 : decode cMod_trim 16 = .ok (.getfield 11, 3) := zfMod_trim_0.2.2.2.2.2.2.2.2.2.2.1
theorem dMod_trim_19 : decode cMod_trim 19 = .ok (.iload_n 1, 1) := zfMod_trim_0.2.2.2.2.2.2.2.2.2.2.2.1
theorem dMod_trim_20 : decode cMod_trim 20 = .ok (.aaload, 1) := zfMod_trim_0.2.2.2.2.2.2.2.2.2.2.2.2.1
theorem dMod_trim_21 : decode cMod_trim 21 = .ok (.astore_n 2, 1) := zfMod_trim_0.2.2.2.2.2.2.2.2.2.2.2.2.2.1
theorem dMod_trim_22 : decode cMod_trim 22 = .ok (.aload_n 2, 1) := zfMod_trim_0.2.2.2.2.2.2.2.2.2.2.2.2.2.2.1
theorem dMod_trim_23 : decode cMod_trim 23 = .ok (.arraylength, 1) := zfMod_trim_0.2.2.2.2.2.2.2.2.2.2.2.2.2.2.2.1
theorem dMod_trim_24 : decode cMod_trim 24 = .ok (.ifCond .le 24, 3) := zfMod_trim_0.2.2.2.2.2.2.2.2.2.2.2.2.2.2.2.2.1
theorem dMod_trim_27 : decode cMod_trim 27 = .ok (.aload_n 2, 1) := zfMod_trim_0.2.2.2.2.2.2.2.2.2.2.2.2.2.2.2.2.2.1
theorem dMod_trim_28 : decode cMod_trim 28 = .ok (.aload_n 2, 1) := zfMod_trim_0.2.2.2.2.2.2.2.2.2.2.2.2.2.2.2.2.2.2.1
theorem dMod_trim_29 : decode cMod_trim 29 = .ok (.arraylength, 1) := zfMod_trim_0.2.2.2.2.2.2.2.2.2.2.2.2.2.2.2.2.2.2.2.1
theorem dMod_trim_30 : decode cMod_trim 30 = .ok (.iconst 1, 1) := zfMod_trim_0.2.2.2.2.2.2.2.2.2.2.2.2.2.2.2.2.2.2.2.2.1
theorem dMod_trim_31 : decode cMod_trim 31 = .ok (.isub, 1) := zfMod_trim_0.2.2.2.2.2.2.2.2.2.2.2.2.2.2.2.2.2.2.2.2.2.1
theorem dMod_trim_32 : decode cMod_trim 32 = .ok (.iaload, 1) := zfMod_trim_0.2.2.2.2.2.2.2.2.2.2.2.2.2.2.2.2.2.2.2.2.2.2.1
theorem dMod_trim_33 : decode cMod_trim 33 = .ok (.ifCond .ne 15, 3) := zfMod_trim_0.2.2.2.2.2.2.2.2.2.2.2.2.2.2.2.2.2.2.2.2.2.2.2.1
theorem dMod_trim_36 : decode cMod_trim 36 = .ok (.aload_n 2, 1) := zfMod_trim_0.2.2.2.2.2.2.2.2.2.2.2.2.2.2.2.2.2.2.2.2.2.2.2.2.1
theorem dMod_trim_37 : decode cMod_trim 37 = .ok (.aload_n 2, 1) := zfMod_trim_0.2.2.2.2.2.2.2.2.2.2.2.2.2.2.2.2.2.2.2.2.2.2.2.2.2.1
theorem dMod_trim_38 : decode cMod_trim 38 = .ok (.arraylength, 1) := zfMod_trim_0.2.2.2.2.2.2.2.2.2.2.2.2.2.2.2.2.2.2.2.2.2.2.2.2.2.2.1
theorem dMod_trim_39 : decode cMod_trim 39 = .ok (.iconst 1, 1) := zfMod_trim_0.2.2.2.2.2.2.2.2.2.2.2.2.2.2.2.2.2.2.2.2.2.2.2.2.2.2.2.1
theorem dMod_trim_40 : decode cMod_trim 40 = .ok (.isub, 1) := zfMod_trim_0.2.2.2.2.2.2.2.2.2.2.2.2.2.2.2.2.2.2.2.2.2.2.2.2.2.2.2.2.1
theorem dMod_trim_41 : decode cMod_trim 41 = .ok (.invokestatic 102, 3) := zfMod_trim_0.2.2.2.2.2.2.2.2.2.2.2.2.2.2.2.2.2.2.2.2.2.2.2.2.2.2.2.2.2.1
theorem dMod_trim_44 : decode cMod_trim 44 = .ok (.astore_n 2, 1) := zfMod_trim_0.2.2.2.2.2.2.2.2.2.2.2.2.2.2.2.2.2.2.2.2.2.2.2.2.2.2.2.2.2.2.1
theorem dMod_trim_45 : decode cMod_trim 45 = .ok (.goto (-23), 3) := zfMod_trim_0.2.2.2.2.2.2.2.2.2.2.2.2.2.2.2.2.2.2.2.2.2.2.2.2.2.2.2.2.2.2.2.1
theorem zfMod_trim_48 : decode cMod_trim 48 = .ok (.aload_n 0, 1) ∧ decode cMod_trim 49 = .ok (.getfield 11, 3) ∧ decode cMod_trim 52 = .ok (.iload_n 1, 1) ∧ decode cMod_trim 53 = .ok (.aaload, 1) ∧ decode cMod_trim 54 = .ok (.arraylength, 1) ∧ decode cMod_trim 55 = .ok (.aload_n 0, 1) ∧ decode cMod_trim 56 = .ok (.iload_n 1, 1) ∧ decode cMod_trim 57 = .ok (.aload_n 2, 1) ∧ decode cMod_trim 58 = .ok (.invokevirtual 95, 3) ∧ decode cMod_trim 61 = .ok (.isub, 1) ∧ decode cMod_trim 62 = .ok (.ireturn, 1) ∧ True := Jvm.Free.DS.facts (code := cMod_trim) 48 [(.aload_n 0, 1), (.getfield 11, 3), (.iload_n 1, 1), (.aaload, 1), (.arraylength, 1), (.aload_n 0, 1), (.iload_n 1, 1), (.aload_n 2, 1), (.invokevirtual 95, 3), (.isub, 1), (.ireturn, 1)] (by decide +kernel) (by decide +kernel)
theorem dMod_trim_48 : decode cMod_trim 48 = .ok (.aload_n 0, 1) := zfMod_trim_48.1
theorem dMod_trim_49 : decode cMod_trim 49 = .ok (.getfield 11, 3) := zfMod_trim_48.2.1
theorem dMod_trim_52 : decode cMod_trim 52 = .ok (.iload_n 1, 1) := zfMod_trim_48.2.2.1
theorem dMod_trim_53 : decode cMod_trim 53 = .ok (.aaload, 1) := zfMod_trim_48.2.2.2.1
theorem dMod_trim_54 : decode cMod_trim 54 = .ok (.arraylength, 1) := zfMod_trim_48.2.2.2.2.1
theorem dMod_trim_55 : decode cMod_trim 55 = .ok (.aload_n 0, 1) := zfMod_trim_48.2.2.2.2.2.1
theorem dMod_trim_56 : decode cMod_trim 56 = .ok (.iload_n 1, 1) := zfMod_trim_48.2.2.2.2.2.2.1
theorem dMod_trim_57 : decode cMod_trim 57 = .ok (.aload_n 2, 1) := zfMod_trim_48.2.2.2.2.2.2.2.1
theorem dMod_trim_58 : decode cMod_trim 58 = .ok (.invokevirtual 95, 3) := zfMod_trim_48.2.2.2.2.2.2.2.2.1
theorem dMod_trim_61 : decode cMod_trim 61 = .ok (.isub, 1) := zfMod_trim_48.2.2.2.2.2.2.2.2.2.1
theorem dMod_trim_62 : decode cMod_trim 62 = .ok (.ireturn, 1) := zfMod_trim_48.2.2.2.2.2.2.2.2.2.2.1
theorem zfMod_derive_0 : decode cMod_derive 0 = .ok (.aload_n 0, 1) ∧ decode cMod_derive 1 = .ok (.iload_n 1, 1) ∧ decode cMod_derive 2 = .ok (.invokestatic 81, 3) ∧ decode cMod_derive 5 = .ok (.iconst 0, 1) ∧ decode cMod_derive 6 = .ok (.iconst 0, 1) ∧ decode cMod_derive 7 = .ok (.invokevirtual 88, 3) ∧ decode cMod_derive 10 = .ok (.ifCond .eq 5, 3) ∧ decode cMod_derive 13 = .ok (.iconst 0, 1) ∧ decode cMod_derive 14 = .ok (.ireturn, 1) ∧ decode cMod_derive 15 = .ok (.aload_n 0, 1) ∧ decode cMod_derive 16 = .ok (.getfield 11, 3) ∧ decode cMod_derive 19 = .ok (.iload_n 1, 1) ∧ decode cMod_derive 20 = .ok (.aaload, 1) ∧ decode cMod_derive 21 = .ok (.arraylength, 1) ∧ decode cMod_derive 22 = .ok (.ifCond .ne 7, 3) ∧ decode cMod_derive 25 = .ok (.iconst 0, 1) ∧ decode cMod_derive 26 = .ok (.goto 12, 3) ∧ decode cMod_derive 29 = .ok (.aload_n 0, 1) ∧ decode cMod_derive 30 = .ok (.getfield 11, 3) ∧ decode cMod_derive 33 = .ok (.iload_n 1, 1) ∧ decode cMod_derive 34 = .ok (.aaload, 1) ∧ decode cMod_derive 35 = .ok (.arraylength, 1) ∧ decode cMod_derive 36 = .ok (.iconst 1, 1) ∧ decode cMod_derive 37 = .ok (.isub, 1) ∧ decode cMod_derive 38 = .ok (.newarray .long, 2) ∧ decode cMod_derive 40 = .ok (.astore_n 2, 1) ∧ decode cMod_derive 41 = .ok (.iconst 0, 1) ∧ decode cMod_derive 42 = .ok (.istore_n 3, 1) ∧ decode cMod_derive 43 = .ok (.iload_n 3, 1) ∧ decode cMod_derive 44 = .ok (.aload_n 2, 1) ∧ decode cMod_derive 45 = .ok (.arraylength, 1) ∧ decode cMod_derive 46 = .ok (.if_icmp .ge 28, 3) ∧ True := Jvm.Free.DS.facts (code := cMod_derive) 0 [(.aload_n 0, 1), (.iload_n 1, 1), (.invokestatic 81, 3), (.iconst 0, 1), (.iconst 0, 1), (.invokevirtual 88, 3), (.ifCond .eq 5, 3), (.iconst 0, 1), (.ireturn, 1), (.aload_n 0, 1), (.getfield 11, 3), (.iload_n 1, 1), (.aaload, 1), (.arraylength, 1), (.ifCond .ne 7, 3), (.iconst 0, 1), (.goto 12, 3), (.aload_n 0, 1), (.getfield 11, 3), (.iload_n 1, 1), (.aaload, 1), (.arraylength, 1), (.iconst 1, 1), (.isub, 1), (.newarray .long, 2), (.astore_n 2, 1), (.iconst 0, 1), (.istore_n 3, 1), (.iload_n 3, 1), (.aload_n 2, 1), (.arraylength, 1), (.if_icmp .ge 28, 3)] (by decide +kernel) (by decide +kernel)
theorem dMod_derive_0 : decode cMod_derive 0 = .ok (.aload_n 0, 1) := zfMod_derive_0.1
theorem dMod_derive_1 : decode cMod_derive 1 = .ok (.iload_n 1, 1) := zfMod_derive_0.2.1
theorem dMod_derive_2 : decode cMod_derive 2 = .ok (.invokestatic 81, 3) := zfMod_derive_0.2.2.1
theorem dMod_derive_5 : decode cMod_derive 5 = .ok (.iconst 0, 1) := zfMod_derive_0.2.2.2.1
theorem dMod_derive_6 : decode cMod_derive 6 = .ok (.iconst 0, 1) := zfMod_derive_0.2.2.2.2.1
theorem dMod_derive_7 : decode cMod_derive 7 = .ok (.invokevirtual 88, 3) := zfMod_derive_0.2.2.2.2.2.1
theorem dMod_derive_10 : decode cMod_derive 10 = .ok (.ifCond .eq 5, 3) := zfMod_derive_0.2.2.2.2.2.2.1
theorem dMod_derive_13 : decode cMod_derive 13 = .ok (.iconst 0, 1) := zfMod_derive_0.2.2.2.2.2.2.2.1
theorem dMod_derive_14 : decode cMod_derive 14 = .ok (.ireturn, 1) := zfMod_derive_0.2.2.2.2.2.2.2.2.1
theorem dMod_derive_15 : decode cMod_derive 15 = .ok (.aload_n 0, 1) := zfMod_derive_0.2.2.2.2.2.2.2.2.2.1
theorem dMod_derive_16 : decode cMod_derive 16 = .ok (.getfield 11, 3) := zfMod_derive_0.2.2.2.2.2.2.2.2.2.2.1
theorem dMod_derive_19 : decode cMod_derive 19 = .ok (.iload_n 1, 1) := zfMod_derive_0.2.2.2.2.2.2.2.2.2.2.2.1
theorem dMod_derive_20 : decode cMod_derive 20 = .ok (.aaload, 1) := zfMod_derive_0.2.2.2.2.2.2.2.2.2.2.2.2.1
theorem dMod_derive_21 : decode cMod_derive 21 = .ok (.arraylength, 1) := zfMod_derive_0.2.2.2.2.2.2.2.2.2.2.2.2.2.1
theorem dMod_derive_22 : decode cMod_derive 22 = .ok (.ifCond .ne 7, 3) := zfMod_derive_0.2.2.2.2.2.2.2.2.2.2.2.2.2.2.1
theorem dMod_derive_25 : decode cMod_derive 25 = .ok (.iconst 0, 1) := zfMod_derive_0.2.2.2.2.2.2.2.2.2.2.2.2.2.2.2.1
theorem dMod_derive_26 : decode cMod_derive 26 = .ok (.goto 12, 3) := zfMod_derive_0.2.2.2.2.2.2.2.2.2.2.2.2.2.2.2.2.1
theorem dMod_derive_29 : decode cMod_derive 29 = .ok (.aload_n 0, 1) := zfMod_derive_0.2.2.2.2.2.2.2.2.2.2.2.2.2.2.2.2.2.1
theorem dMod_derive_30 : decode cMod_derive 30 = .ok (.getfield 11, 3) := zfMod_derive_0.2.2.2.2.2.2.2.2.2.2.2.2.2.2.2.2.2.2.1
theorem dMod_derive_33 : decode cMod_derive 33 = .ok (.iload_n 1, 1) := zfMod_derive_0.2.2.2.2.2.2.2.2.2.2.2.2.2.2.2.2.2.2.2.1
theorem dMod_derive_34 : decode cMod_derive 34 = .ok (.aaload, 1) := zfMod_derive_0.2.2.2.2.2.2.2.2.2.2.2.2.2.2.2.2.2.2.2.2.1
theorem dMod_derive_35 : decode cMod_derive 35 = .ok (.arraylength, 1) := zfMod_derive_0.2.2.2.2.2.2.2.2.2.2.2.2.2.2.2.2.2.2.2.2.2.1
theorem dMod_derive_36 : decode cMod_derive 36 = .ok (.iconst 1, 1) := zfMod_derive_0.2.2.2.2.2.2.2.2.2.2.2.2.2.2.2.2.2.2.2.2.2.2.1
theorem dMod_derive_37 : decode cMod_derive 37 = .ok (.isub, 1) := zfMod_derive_0.2.2.2.2.2.2.2.2.2.2.2.2.2.2.2.2.2.2.2.2.2.2.2.1
theorem dMod_derive_38 : decode cMod_derive 38 = .ok (.newarray .long, 2) := zfMod_derive_0.2.2.2.2.2.2.2.2.2.2.2.2.2.2.2.2.2.2.2.2.2.2.2.2.1
theorem dMod_derive_40 : decode cMod_derive 40 = .ok (.astore_n 2, 1) := zfMod_derive_0.2.2.2.2.2.2.2.2.2.2.2.2.2.2.2.2.2.2.2.2.2.2.2.2.2.1
theorem dMod_derive_41 : decode cMod_derive 41 = .ok (.iconst 0, 1) := zfMod_derive_0.2.2.2.2.2.2.2.2.2.2.2.2.2.2.2.2.2.2.2.2.2.2.2.2.2.2.1
theorem dMod_derive_42 : decode cMod_derive 42 = .ok (.istore_n 3, 1) := zfMod_derive_0.2.2.2.2.2.2.2.2.2.2.2.2.2.2.2.2.2.2.2.2.2.2.2.2.2.2.2.1
theorem dMod_derive_43 : decode cMod_derive 43 = .ok (.iload_n 3, 1) := zfMod_derive_0.2.2.2.2.2.2.2.2.2.2.2.2.2.2.2.2.2.2.2.2.2.2.2.2.2.2.2.2.1
theorem dMod_derive_44 : decode cMod_derive 44 = .ok (.aload_n 2, 1) := zfMod_derive_0.2.2.2.2.2.2.2.2.2.2.2.2.2.2.2.2.2.2.2.2.2.2.2.2.2.2.2.2.2.1
theorem dMod_derive_45 : decode cMod_derive 45 = .ok (.arraylength, 1) := zfMod_derive_0.2.2.2.2.2.2.2.2.2.2.2.2.2.2.2.2.2.2.2.2.2.2.2.2.2.2.2.2.2.2.1
theorem dMod_derive_46 : decode cMod_derive 46 = .ok (.if_icmp .ge 28, 3) := zfMod_derive_0.2.2.2.2.2.2.2.2.2.2.2.2.2.2.2.2.2.2.2.2.2.2.2.2.2.2.2.2.2.2.2.1
theorem zfMod_derive_49 : decode cMod_derive 49 = .ok (.aload_n 2, 1) ∧ decode cMod_derive 50 = .ok (.iload_n 3, 1) ∧ decode cMod_derive 51 = .ok (.aload_n 0, 1) ∧ decode cMod_derive 52 = .ok (.getfield 11, 3) ∧ decode cMod_derive 55 = .ok (.iload_n 1, 1) ∧ decode cMod_derive 56 = .ok (.aaload, 1) ∧ decode cMod_derive 57 = .ok (.iload_n 3, 1) ∧ decode cMod_derive 58 = .ok (.iconst 1, 1) ∧ decode cMod_derive 59 = .ok (.iadd, 1) ∧ decode cMod_derive 60 = .ok (.iaload, 1) ∧ decode cMod_derive 61 = .ok (.i2l, 1) ∧ decode cMod_derive 62 = .ok (.iload_n 3, 1) ∧ decode cMod_derive 63 = .ok (.iconst 1, 1) ∧ decode cMod_derive 64 = .ok (.iadd, 1) ∧ decode cMod_derive 65 = .ok (.i2l, 1) ∧ decode cMod_derive 66 = .ok (.lmul, 1) ∧ decode cMod_derive 67 = .ok (.lastore, 1) ∧ decode cMod_derive 68 = .ok (.iinc 3 1, 3) ∧ decode cMod_derive 71 = .ok (.goto (-28), 3) ∧ decode cMod_derive 74 = .ok (.aload_n 0, 1) ∧ decode cMod_derive 75 = .ok (.iload_n 1, 1) ∧ decode cMod_derive 76 = .ok (.aload_n 2, 1) ∧ decode cMod_derive 77 = .ok (.invokevirtual 166, 3) ∧ decode cMod_derive 80 = .ok (.ireturn, 1) ∧ True := Jvm.Free.DS.facts (code := cMod_derive) 49 [(.aload_n 2, 1), (.iload_n 3, 1), (.aload_n 0, 1), (.getfield 11, 3), (.iload_n 1, 1), (.aaload, 1), (.iload_n 3, 1), (.iconst 1, 1), (.iadd, 1), (.iaload, 1), (.i2l, 1), (.iload_n 3, 1), (.iconst 1, 1), (.iadd, 1), (.i2l, 1), (.lmul, 1), (.lastore, 1), (.iinc 3 1, 3), (.goto (-28), 3), (.aload_n 0, 1), (.iload_n 1, 1), (.aload_n 2, 1), (.invokevirtual 166, 3), (.ireturn, 1)] (by decide +kernel) (by decide +kernel)
theorem dMod_derive_49 : decode cMod_derive 49 = .ok (.aload_n 2, 1) := zfMod_derive_49.1
theorem dMod_derive_50 : decode cMod_derive 50 = .ok (.iload_n 3, 1) := zfMod_derive_49.2.1
theorem dMod_derive_51 : decode cMod_derive 51 = .ok (.aload_n 0, 1) := zfMod_derive_49.2.2.1
theorem dMod_derive_52 : decode cMod_derive 52 = .ok (.getfield 11, 3) := zfMod_derive_49.2.2.2.1
theorem dMod_derive_55 : decode cMod_derive 55 = .ok (.iload_n 1, 1) := zfMod_derive_49.2.2.2.2.1
theorem dMod_derive_56 : decode cMod_derive 56 = .ok (.aaload, 1) := zfMod_derive_49.2.2.2.2.2.1
theorem dMod_derive_57 : decode cMod_derive 57 = .ok (.iload_n 3, 1) := zfMod_derive_49.2.2.2.2.2.2.1
theorem dMod_derive_58 : decode cMod_derive 58 = .ok (.iconst 1, 1) := zfMod_derive_49.2.2.2.2.2.2.2.1
theorem dMod_derive_59 : decode cMod_derive 59 = .ok (.iadd, 1) := zfMod_derive_49.2.2.2.2.2.2.2.2.1
theorem dMod_derive_60 : decode cMod_derive 60 = .ok (.iaload, 1) := zfMod_derive_49.2.2.2.2.2.2.2.2.2.1
theorem dMod_derive_61 : decode cMod_derive 61 = .ok (.i2l, 1) := zfMod_derive_49.2.2.2.2.2.2.2.2.2.2.1
theorem dMod_derive_62 : decode cMod_derive 62 = .ok (.iload_n 3, 1) := zfMod_derive_49.2.2.2.2.2.2.2.2.2.2.2.1
theorem dMod_derive_63 : decode cMod_derive 63 = .ok (.iconst 1, 1) := zfMod_derive_49.2.2.2.2.2.2.2.2.2.2.2.2.1
theorem dMod_derive_64 : decode cMod_derive 64 = .ok (.iadd, 1) := zfMod_derive_49.2.2.2.2.2.2.2.2.2.2.2.2.2.1
theorem dMod_derive_65 : decode cMod_derive 65 = .ok (.i2l, 1) := zfMod_derive_49.2.2.2.2.2.2.2.2.2.2.2.2.2.2.1
theorem dMod_derive_66 : decode cMod_derive 66 = .ok (.lmul, 1) := zfMod_derive_49.2.2.2.2.2.2.2.2.2.2.2.2.2.2.2.1
theorem dMod_derive_67 : decode cMod_derive 67 = .ok (.lastore, 1) := zfMod_derive_49.2.2.2.2.2.2.2.2.2.2.2.2.2.2.2.2.1
theorem dMod_derive_68 : decode cMod_derive 68 = .ok (.iinc 3 1, 3) := zfMod_derive_49.2.2.2.2.2.2.2.2.2.2.2.2.2.2.2.2.2.1
theorem dMod_derive_71 : decode cMod_derive 71 = .ok (.goto (-28), 3) := zfMod_derive_49.2.2.2.2.2.2.2.2.2.2.2.2.2.2.2.2.2.2.1
theorem dMod_derive_74 : decode cMod_derive 74 = .ok (.aload_n 0, 1) := zfMod_derive_49.2.2.2.2.2.2.2.2.2.2.2.2.2.2.2.2.2.2.2.1
theorem dMod_derive_75 : decode cMod_derive 75 = .ok (.iload_n 1, 1) := zfMod_derive_49.2.2.2.2.2.2.2.2.2.2.2.2.2.2.2.2.2.2.2.2.1
theorem dMod_derive_76 : decode cMod_derive 76 = .ok (.aload_n 2, 1) := zfMod_derive_49.2.2.2.2.2.2.2.2.2.2.2.2.2.2.2.2.2.2.2.2.2.1
theorem dMod_derive_77 : decode cMod_derive 77 = .ok (.invokevirtual 166, 3) := zfMod_derive_49.2.2.2.2.2.2.2.2.2.2.2.2.2.2.2.2.2.2.2.2.2.2.1
theorem dMod_derive_80 : decode cMod_derive 80 = .ok (.ireturn, 1) := zfMod_derive_49.2.2.2.2.2.2.2.2.2.2.2.2.2.2.2.2.2.2.2.2.2.2.2.1
theorem zfMod_rest_0 : decode cMod_rest 0 = .ok (.lload_n 0, 1) ∧ decode cMod_rest 1 = .ok (.ldc2_w 170, 3) ∧ decode cMod_rest 4 = .ok (.lrem, 1) ∧ decode cMod_rest 5 = .ok (.ldc2_w 170, 3) ∧ decode cMod_rest 8 = .ok (.ladd, 1) ∧ decode cMod_rest 9 = .ok (.ldc2_w 170, 3) ∧ decode cMod_rest 12 = .ok (.lrem, 1) ∧ decode cMod_rest 13 = .ok (.l2i, 1) ∧ decode cMod_rest 14 = .ok (.ireturn, 1) ∧ True := Jvm.Free.DS.facts (code := cMod_rest) 0 [(.lload_n 0, 1), (.ldc2_w 170, 3), (.lrem, 1), (.ldc2_w 170, 3), (.ladd, 1), (.ldc2_w 170, 3), (.lrem, 1), (.l2i, 1), (.ireturn, 1)] (by decide +kernel) (by decide +kernel)
theorem dMod_rest_0 : decode cMod_rest 0 = .ok (.lload_n 0, 1) := zfMod_rest_0.1
theorem dMod_rest_1 : decode cMod_rest 1 = .ok (.ldc2_w 170, 3) := zfMod_rest_0.2.1
theorem dMod_rest_4 : decode cMod_rest 4 = .ok (.lrem, 1) := zfMod_rest_0.2.2.1
theorem dMod_rest_5 : decode cMod_rest 5 = .ok (.ldc2_w 170, 3) := zfMod_rest_0.2.2.2.1
theorem dMod_rest_8 : decode cMod_rest 8 = .ok (.ladd, 1) := zfMod_rest_0.2.2.2.2.1
theorem dMod_rest_9 : decode cMod_rest 9 = .ok (.ldc2_w 170, 3) := zfMod_rest_0.2.2.2.2.2.1
theorem dMod_rest_12 : decode cMod_rest 12 = .ok (.lrem, 1) := zfMod_rest_0.2.2.2.2.2.2.1
theorem dMod_rest_13 : decode cMod_rest 13 = .ok (.l2i, 1) := zfMod_rest_0.2.2.2.2.2.2.2.1
theorem dMod_rest_14 : decode cMod_rest 14 = .ok (.ireturn, 1) := zfMod_rest_0.2.2.2.2.2.2.2.2.1
theorem zfMod_valueOf_0 : decode cMod_valueOf 0 = .ok (.lconst 1, 1) ∧ decode cMod_valueOf 1 = .ok (.lstore_n 2, 1) ∧ decode cMod_valueOf 2 = .ok (.lconst 0, 1) ∧ decode cMod_valueOf 3 = .ok (.lstore 4, 2) ∧ decode cMod_valueOf 5 = .ok (.aload_n 0, 1) ∧ decode cMod_valueOf 6 = .ok (.astore 6, 2) ∧ decode cMod_valueOf 8 = .ok (.aload 6, 2) ∧ decode cMod_valueOf 10 = .ok (.arraylength, 1) ∧ decode cMod_valueOf 11 = .ok (.istore 7, 2) ∧ decode cMod_valueOf 13 = .ok (.iconst 0, 1) ∧ decode cMod_valueOf 14 = .ok (.istore 8, 2) ∧ decode cMod_valueOf 16 = .ok (.iload 8, 2) ∧ decode cMod_valueOf 18 = .ok (.iload 7, 2) ∧ decode cMod_valueOf 20 = .ok (.if_icmp .ge 39, 3) ∧ decode cMod_valueOf 23 = .ok (.aload 6, 2) ∧ decode cMod_valueOf 25 = .ok (.iload 8, 2) ∧ decode cMod_valueOf 27 = .ok (.iaload, 1) ∧ decode cMod_valueOf 28 = .ok (.istore 9, 2) ∧ decode cMod_valueOf 30 = .ok (.lload 4, 2) ∧ decode cMod_valueOf 32 = .ok (.iload 9, 2) ∧ decode cMod_valueOf 34 = .ok (.i2l, 1) ∧ decode cMod_valueOf 35 = .ok (.lload_n 2, 1) ∧ decode cMod_valueOf 36 = .ok (.lmul, 1) ∧ decode cMod_valueOf 37 = .ok (.ladd, 1) ∧ decode cMod_valueOf 38 = .ok (.invokestatic 172, 3) ∧ decode cMod_valueOf 41 = .ok (.i2l, 1) ∧ decode cMod_valueOf 42 = .ok (.lstore 4, 2) ∧ decode cMod_valueOf 44 = .ok (.lload_n 2, 1) ∧ decode cMod_valueOf 45 = .ok (.iload_n 1, 1) ∧ decode cMod_valueOf 46 = .ok (.i2l, 1) ∧ decode cMod_valueOf 47 = .ok (.lmul, 1) ∧ decode cMod_valueOf 48 = .ok (.invokestatic 172, 3) ∧ True := Jvm.Free.DS.facts (code := cMod_valueOf) 0 [(.lconst 1, 1), (.lstore_n 2, 1), (.lconst 0, 1), (.lstore 4, 2), (.aload_n 0, 1), (.astore 6, 2), (.aload 6, 2), (.arraylength, 1), (.istore 7, 2), (.iconst 0, 1), (.istore 8, 2), (.iload 8, 2), (.iload 7, 2), (.if_icmp .ge 39, 3), (.aload 6, 2), (.iload 8, 2), (.iaload, 1), (.istore 9, 2), (.lload 4, 2), (.iload 9, 2), (.i2l, 1), (.lload_n 2, 1), (.lmul, 1), (.ladd, 1), (.invokestatic 172, 3), (.i2l, 1), (.lstore 4, 2), (.lload_n 2, 1), (.iload_n 1, 1), (.i2l, 1), (.lmul, 1), (.invokestatic 172, 3)] (by decide +kernel) (by decide +kernel)
theorem dMod_valueOf_0 : decode cMod_valueOf 0 = .ok (.lconst 1, 1) := zfMod_valueOf_0.1
theorem dMod_valueOf_1 : decode cMod_valueOf 1 = .ok (.lstore_n 2, 1) := zfMod_valueOf_0.2.1
theorem dMod_valueOf_2 : decode cMod_valueOf 2 = .ok (.lconst 0, 1) := zfMod_valueOf_0.2.2.1
theorem dMod_valueOf_3 : decode cMod_valueOf 3 = .ok (.lstore 4, 2) := zfMod_valueOf_0.2.2.2.1
theorem dMod_valueOf_5 : decode cMod_valueOf 5 = .ok (.aload_n 0, 1) := zfMod_valueOf_0.2.2.2.2.1
theorem dMod_valueOf_6 : decode cMod_valueOf 6 = .ok (.astore 6, 2) := zfMod_valueOf_0.2.2.2.2.2.1
theorem dMod_valueOf_8 : decode cMod_valueOf 8 = .ok (.aload 6, 2) := zfMod_valueOf_0.2.2.2.2.2.2.1
theorem dMod_valueOf_10 : decode cMod_valueOf 10 = .ok (.arraylength, 1) := zfMod_valueOf_0.2.2.2.2.2.2.2.1
theorem dMod_valueOf_11 : decode cMod_valueOf 11 = .ok (.istore 7, 2) := zfMod_valueOf_0.2.2.2.2.2.2.2.2.1
theorem dMod_valueOf_13 : decode cMod_valueOf 13 = .ok (.iconst 0, 1) := zfMod_valueOf_0.2.2.2.2.2.2.2.2.2.1
theorem dMod_valueOf_14 : decode cMod_valueOf 14 = .ok (.istore 8, 2) := zfMod_valueOf_0.2.2.2.2.2.2.2.2.2.2.1
theorem dMod_valueOf_16 : decode cMod_valueOf 16 = .ok (.iload 8, 2) := zfMod_valueOf_0.2.2.2.2.2.2.2.2.2.2.2.1
theorem dMod_valueOf_18 : decode cMod_valueOf 18 = .ok (.iload 7, 2) := zfMod_valueOf_0.2.2.2.2.2.2.2.2.2.2.2.2.1
theorem dMod_valueOf_20 : decode cMod_valueOf 20 = .ok (.if_icmp .ge 39, 3) := zfMod_valueOf_0.2.2.2.2.2.2.2.2.2.2.2.2.2.1
theorem dMod_valueOf_23 : decode cMod_valueOf 23 = .ok (.aload 6, 2) := zfMod_valueOf_0.2.2.2.2.2.2.2.2.2.2.2.2.2.2.1
theorem dMod_valueOf_25 : decode cMod_valueOf 25 = .ok (.iload 8, 2) := zfMod_valueOf_0.2.2.2.2.2.2.2.2.2.2.2.2.2.2.2.1
theorem dMod_valueOf_27 : decode cMod_valueOf 27 = .ok (.iaload, 1) := zfMod_valueOf_0.2.2.2.2.2.2.2.2.2.2.2.2.2.2.2.2.1
theorem dMod_valueOf_28 : decode cMod_valueOf 28 = .ok (.istore 9, 2) := zfMod_valueOf_0.2.2.2.2.2.2.2.2.2.2.2.2.2.2.2.2.2.1
theorem dMod_valueOf_30 : decode cMod_valueOf 30 = .ok (.lload 4, 2) := zfMod_valueOf_0.2.2.2.2.2.2.2.2.2.2.2.2.2.2.2.2.2.2.1
theorem dMod_valueOf_32 : decode cMod_valueOf 32 = .ok (.iload 9, 2) := zfMod_valueOf_0.2.2.2.2.2.2.2.2.2.2.2.2.2.2.2.2.2.2.2.1
theorem dMod_valueOf_34 : decode cMod_valueOf 34 = .ok (.i2l, 1) := zfMod_valueOf_0.2.2.2.2.2.2.2.2.2.2.2.2.2.2.2.2.2.2.2.2.1
theorem dMod_valueOf_35 : decode cMod_valueOf 35 = .ok (.lload_n 2, 1) := zfMod_valueOf_0.2.2.2.2.2.2.2.2.2.2.2.2.2.2.2.2.2.2.2.2.2.1
theorem dMod_valueOf_36 : decode cMod_valueOf 36 = .ok (.lmul, 1) := zfMod_valueOf_0.2.2.2.2.2.2.2.2.2.2.2.2.2.2.2.2.2.2.2.2.2.2.1
theorem dMod_valueOf_37 : decode cMod_valueOf 37 = .ok (.ladd, 1) := zfMod_valueOf_0.2.2.2.2.2.2.2.2.2.2.2.2.2.2.2.2.2.2.2.2.2.2.2.1
theorem dMod_valueOf_38 : decode cMod_valueOf 38 = .ok (.invokestatic 172, 3) := zfMod_valueOf_0.2.2.2.2.2.2.2.2.2.2.2.2.2.2.2.2.2.2.2.2.2.2.2.2.1
theorem dMod_valueOf_41 : decode cMod_valueOf 41 = .ok (.i2l, 1) := zfMod_valueOf_0.2.2.2.2.2.2.2.2.2.2.2.2.2.2.2.2.2.2.2.2.2.2.2.2.2.1
theorem dMod_valueOf_42 : decode cMod_valueOf 42 = .ok (.lstore 4, 2) := zfMod_valueOf_0.2.2.2.2.2.2.2.2.2.2.2.2.2.2.2.2.2.2.2.2.2.2.2.2.2.2.1
theorem dMod_valueOf_44 : decode cMod_valueOf 44 = .ok (.lload_n 2, 1) := zfMod_valueOf_0.2.2.2.2.2.2.2.2.2.2.2.2.2.2.2.2.2.2.2.2.2.2.2.2.2.2.2.1
theorem dMod_valueOf_45 : decode cMod_valueOf 45 = .ok (.iload_n 1, 1) := zfMod_valueOf_0.2.2.2.2.2.2.2.2.2.2.2.2.2.2.2.2.2.2.2.2.2.2.2.2.2.2.2.2.1
theorem dMod_valueOf_46 : decode cMod_valueOf 46 = .ok (.i2l, 1) := zfMod_valueOf_0.2.2.2.2.2.2.2.2.2.2.2.2.2.2.2.2.2.2.2.2.2.2.2.2.2.2.2.2.2.1
theorem dMod_valueOf_47 : decode cMod_valueOf 47 = .ok (.lmul, 1) := zfMod_valueOf_0.2.2.2.2.2.2.2.2.2.2.2.2.2.2.2.2.2.2.2.2.2.2.2.2.2.2.2.2.2.2.1
theorem dMod_valueOf_48 : decode cMod_valueOf 48 = .ok (.invokestatic 172, 3) := zfMod_valueOf_0.2.2.2.2.2.2.2.2.2.2.2.2.2.2.2.2.2.2.2.2.2.2.2.2.2.2.2.2.2.2.2.1
theorem zfMod_valueOf_51 : decode cMod_valueOf 51 = .ok (.i2l, 1) ∧ decode cMod_valueOf 52 = .ok (.lstore_n 2, 1) ∧ decode cMod_valueOf 53 = .ok (.iinc 8 1, 3) ∧ decode cMod_valueOf 56 = .ok (.goto (-40), 3) ∧ decode cMod_valueOf 59 = .ok (.lload 4, 2) ∧ decode cMod_valueOf 61 = .ok (.l2i, 1) ∧ decode cMod_valueOf 62 = .ok (.ireturn, 1) ∧ True := Jvm.Free.DS.facts (code := cMod_valueOf) 51 [(.i2l, 1), (.lstore_n 2, 1), (.iinc 8 1, 3), (.goto (-40), 3), (.lload 4, 2), (.l2i, 1), (.ireturn, 1)] (by decide +kernel) (by decide +kernel)
theorem dMod_valueOf_51 : decode cMod_valueOf 51 = .ok (.i2l, 1) := zfMod_valueOf_51.1
theorem dMod_valueOf_52 : decode cMod_valueOf 52 = .ok (.lstore_n 2, 1) := zfMod_valueOf_51.2.1
theorem dMod_valueOf_53 : decode cMod_valueOf 53 = .ok (.iinc 8 1, 3) := zfMod_valueOf_51.2.2.1
theorem dMod_valueOf_56 : decode cMod_valueOf 56 = .ok (.goto (-40), 3) := zfMod_valueOf_51.2.2.2.1
theorem dMod_valueOf_59 : decode cMod_valueOf 59 = .ok (.lload 4, 2) := zfMod_valueOf_51.2.2.2.2.1
theorem dMod_valueOf_61 : decode cMod_valueOf 61 = .ok (.l2i, 1) := zfMod_valueOf_51.2.2.2.2.2.1
theorem dMod_valueOf_62 : decode cMod_valueOf 62 = .ok (.ireturn, 1) := zfMod_valueOf_51.2.2.2.2.2.2.1
theorem zfMod_value_0 : decode cMod_value 0 = .ok (.aload_n 0, 1) ∧ decode cMod_value 1 = .ok (.iload_n 1, 1) ∧ decode cMod_value 2 = .ok (.invokestatic 81, 3) ∧ decode cMod_value 5 = .ok (.iload_n 2, 1) ∧ decode cMod_value 6 = .ok (.bipush (-99), 2) ∧ decode cMod_value 8 = .ok (.bipush 99, 2) ∧ decode cMod_value 10 = .ok (.invokestatic 41, 3) ∧ decode cMod_value 13 = .ok (.iconst 0, 1) ∧ decode cMod_value 14 = .ok (.invokevirtual 88, 3) ∧ decode cMod_value 17 = .ok (.ifCond .eq 7, 3) ∧ decode cMod_value 20 = .ok (.iconst 0, 1) ∧ decode cMod_value 21 = .ok (.goto 13, 3) ∧ decode cMod_value 24 = .ok (.aload_n 0, 1) ∧ decode cMod_value 25 = .ok (.getfield 11, 3) ∧ decode cMod_value 28 = .ok (.iload_n 1, 1) ∧ decode cMod_value 29 = .ok (.aaload, 1) ∧ decode cMod_value 30 = .ok (.iload_n 2, 1) ∧ decode cMod_value 31 = .ok (.invokestatic 176, 3) ∧ decode cMod_value 34 = .ok (.ireturn, 1) ∧ True := Jvm.Free.DS.facts (code := cMod_value) 0 [(.aload_n 0, 1), (.iload_n 1, 1), (.invokestatic 81, 3), (.iload_n 2, 1), (.bipush (-99), 2), (.bipush 99, 2), (.invokestatic 41, 3), (.iconst 0, 1), (.invokevirtual 88, 3), (.ifCond .eq 7, 3), (.iconst 0, 1), (.goto 13, 3), (.aload_n 0, 1), (.getfield 11, 3), (.iload_n 1, 1), (.aaload, 1), (.iload_n 2, 1), (.invokestatic 176, 3), (.ireturn, 1)] (by decide +kernel) (by decide +kernel)
theorem dMod_value_0 : decode cMod_value 0 = .ok (.aload_n 0, 1) := zfMod_value_0.1
theorem dMod_value_1 : decode cMod_value 1 = .ok (.iload_n 1, 1) := zfMod_value_0.2.1
theorem dMod_value_2 : decode cMod_value 2 = .ok (.invokestatic 81, 3) := zfMod_value_0.2.2.1
theorem dMod_value_5 : decode cMod_value 5 = .ok (.iload_n 2, 1) := zfMod_value_0.2.2.2.1
theorem dMod_value_6 : decode cMod_value 6 = .ok (.bipush (-99), 2) := zfMod_value_0.2.2.2.2.1
theorem dMod_value_8 : decode cMod_value 8 = .ok (.bipush 99, 2) := zfMod_value_0.2.2.2.2.2.1
theorem dMod_value_10 : decode cMod_value 10 = .ok (.invokestatic 41, 3) := zfMod_value_0.2.2.2.2.2.2.1
theorem dMod_value_13 : decode cMod_value 13 = .ok (.iconst 0, 1) := zfMod_value_0.2.2.2.2.2.2.2.1
theorem dMod_value_14 : decode cMod_value 14 = .ok (.invokevirtual 88, 3) := zfMod_value_0.2.2.2.2.2.2.2.2.1
theorem dMod_value_17 : decode cMod_value 17 = .ok (.ifCond .eq 7, 3) := zfMod_value_0.2.2.2.2.2.2.2.2.2.1
theorem dMod_value_20 : decode cMod_value 20 = .ok (.iconst 0, 1) := zfMod_value_0.2.2.2.2.2.2.2.2.2.2.1
theorem dMod_value_21 : decode cMod_value 21 = .ok (.goto 13, 3) := zfMod_value_0.2.2.2.2.2.2.2.2.2.2.2.1
theorem dMod_value_24 : decode cMod_value 24 = .ok (.aload_n 0, 1) := zfMod_value_0.2.2.2.2.2.2.2.2.2.2.2.2.1
theorem dMod_value_25 : decode cMod_value 25 = .ok (.getfield 11, 3) := zfMod_value_0.2.2.2.2.2.2.2.2.2.2.2.2.2.1
theorem dMod_value_28 : decode cMod_value 28 = .ok (.iload_n 1, 1) := zfMod_value_0.2.2.2.2.2.2.2.2.2.2.2.2.2.2.1
theorem dMod_value_29 : decode cMod_value 29 = .ok (.aaload, 1) := zfMod_value_0.2.2.2.2.2.2.2.2.2.2.2.2.2.2.2.1
theorem dMod_value_30 : decode cMod_value 30 = .ok (.iload_n 2, 1) := zfMod_value_0.2.2.2.2.2.2.2.2.2.2.2.2.2.2.2.2.1
theorem dMod_value_31 : decode cMod_value 31 = .ok (.invokestatic 176, 3) := zfMod_value_0.2.2.2.2.2.2.2.2.2.2.2.2.2.2.2.2.2.1
theorem dMod_value_34 : decode cMod_value 34 = .ok (.ireturn, 1) := zfMod_value_0.2.2.2.2.2.2.2.2.2.2.2.2.2.2.2.2.2.2.1
theorem zfMod_degreeOf_0 : decode cMod_degreeOf 0 = .ok (.iconst (-1), 1) ∧ decode cMod_degreeOf 1 = .ok (.istore_n 1, 1) ∧ decode cMod_degreeOf 2 = .ok (.iconst 0, 1) ∧ decode cMod_degreeOf 3 = .ok (.istore_n 2, 1) ∧ decode cMod_degreeOf 4 = .ok (.iload_n 2, 1) ∧ decode cMod_degreeOf 5 = .ok (.aload_n 0, 1) ∧ decode cMod_degreeOf 6 = .ok (.arraylength, 1) ∧ decode cMod_degreeOf 7 = .ok (.if_icmp .ge 21, 3) ∧ decode cMod_degreeOf 10 = .ok (.aload_n 0, 1) ∧ decode cMod_degreeOf 11 = .ok (.iload_n 2, 1) ∧ decode cMod_degreeOf 12 = .ok (.iaload, 1) ∧ decode cMod_degreeOf 13 = .ok (.ifCond .eq 7, 3) ∧ decode cMod_degreeOf 16 = .ok (.iload_n 2, 1) ∧ decode cMod_degreeOf 17 = .ok (.goto 4, 3) ∧ decode cMod_degreeOf 20 = .ok (.iload_n 1, 1) ∧ decode cMod_degreeOf 21 = .ok (.istore_n 1, 1) ∧ decode cMod_degreeOf 22 = .ok (.iinc 2 1, 3) ∧ decode cMod_degreeOf 25 = .ok (.goto (-21), 3) ∧ decode cMod_degreeOf 28 = .ok (.iload_n 1, 1) ∧ decode cMod_degreeOf 29 = .ok (.ireturn, 1) ∧ True := Jvm.Free.DS.facts (code := cMod_degreeOf) 0 [(.iconst (-1), 1), (.istore_n 1, 1), (.iconst 0, 1), (.istore_n 2, 1), (.iload_n 2, 1), (.aload_n 0, 1), (.arraylength, 1), (.if_icmp .ge 21, 3), (.aload_n 0, 1), (.iload_n 2, 1), (.iaload, 1), (.ifCond .eq 7, 3), (.iload_n 2, 1), (.goto 4, 3), (.iload_n 1, 1), (.istore_n 1, 1), (.iinc 2 1, 3), (.goto (-21), 3), (.iload_n 1, 1), (.ireturn, 1)] (by decide +kernel) (by decide +kernel)
theorem dMod_degreeOf_0 : decode cMod_degreeOf 0 = .ok (.iconst (-1), 1) := zfMod_degreeOf_0.1
theorem dMod_degreeOf_1 : decode cMod_degreeOf 1 = .ok (.istore_n 1, 1) := zfMod_degreeOf_0.2.1
theorem dMod_degreeOf_2 : decode cMod_degreeOf 2 = .ok (.iconst 0, 1) := zfMod_degreeOf_0.2.2.1
theorem dMod_degreeOf_3 : decode cMod_degreeOf 3 = .ok (.istore_n 2, 1) := zfMod_degreeOf_0.2.2.2.1
theorem dMod_degreeOf_4 : decode cMod_degreeOf 4 = .ok (.iload_n 2, 1) := zfMod_degreeOf_0.2.2.2.2.1
theorem dMod_degreeOf_5 : decode cMod_degreeOf 5 = .ok (.aload_n 0, 1) := zfMod_degreeOf_0.2.2.2.2.2.1
theorem dMod_degreeOf_6 : decode cMod_degreeOf 6 = .ok (.arraylength, 1) := zfMod_degreeOf_0.2.2.2.2.2.2.1
theorem dMod_degreeOf_7 : decode cMod_degreeOf 7 = .ok (.if_icmp .ge 21, 3) := zfMod_degreeOf_0.2.2.2.2.2.2.2.1
theorem dMod_degreeOf_10 : decode cMod_degreeOf 10 = .ok (.aload_n 0, 1) := zfMod_degreeOf_0.2.2.2.2.2.2.2.2.1
theorem dMod_degreeOf_11 : decode cMod_degreeOf 11 = .ok (.iload_n 2, 1) := zfMod_degreeOf_0.2.2.2.2.2.2.2.2.2.1
theorem dMod_degreeOf_12 : decode cMod_degreeOf 12 = .ok (.iaload, 1) := zfMod_degreeOf_0.2.2.2.2.2.2.2.2.2.2.1
theorem dMod_degreeOf_13 : decode cMod_degreeOf 13 = .ok (.ifCond .eq 7, 3) := zfMod_degreeOf_0.2.2.2.2.2.2.2.2.2.2.2.1
theorem dMod_degreeOf_16 : decode cMod_degreeOf 16 = .ok (.iload_n 2, 1) := zfMod_degreeOf_0.2.2.2.2.2.2.2.2.2.2.2.2.1
theorem dMod_degreeOf_17 : decode cMod_degreeOf 17 = .ok (.goto 4, 3) := zfMod_degreeOf_0.2.2.2.2.2.2.2.2.2.2.2.2.2.1
theorem dMod_degreeOf_20 : decode cMod_degreeOf 20 = .ok (.iload_n 1, 1) := zfMod_degreeOf_0.2.2.2.2.2.2.2.2.2.2.2.2.2.2.1
theorem dMod_degreeOf_21 : decode cMod_degreeOf 21 = .ok (.istore_n 1, 1) := zfMod_degreeOf_0.2.2.2.2.2.2.2.2.2.2.2.2.2.2.2.1
theorem dMod_degreeOf_22 : decode cMod_degreeOf 22 = .ok (.iinc 2 1, 3) := zfMod_degreeOf_0.2.2.2.2.2.2.2.2.2.2.2.2.2.2.2.2.1
theorem dMod_degreeOf_25 : decode cMod_degreeOf 25 = .ok (.goto (-21), 3) := zfMod_degreeOf_0.2.2.2.2.2.2.2.2.2.2.2.2.2.2.2.2.2.1
theorem dMod_degreeOf_28 : decode cMod_degreeOf 28 = .ok (.iload_n 1, 1) := zfMod_degreeOf_0.2.2.2.2.2.2.2.2.2.2.2.2.2.2.2.2.2.2.1
theorem dMod_degreeOf_29 : decode cMod_degreeOf 29 = .ok (.ireturn, 1) := zfMod_degreeOf_0.2.2.2.2.2.2.2.2.2.2.2.2.2.2.2.2.2.2.2.1
theorem zfMod_degree_0 : decode cMod_degree 0 = .ok (.aload_n 0, 1) ∧ decode cMod_degree 1 = .ok (.iload_n 1, 1) ∧ decode cMod_degree 2 = .ok (.invokestatic 81, 3) ∧ decode cMod_degree 5 = .ok (.iconst 0, 1) ∧ decode cMod_degree 6 = .ok (.iconst 0, 1) ∧ decode cMod_degree 7 = .ok (.invokevirtual 88, 3) ∧ decode cMod_degree 10 = .ok (.ifCond .eq 7, 3) ∧ decode cMod_degree 13 = .ok (.iconst 0, 1) ∧ decode cMod_degree 14 = .ok (.goto 12, 3) ∧ decode cMod_degree 17 = .ok (.aload_n 0, 1) ∧ decode cMod_degree 18 = .ok (.getfield 11, 3) ∧ decode cMod_degree 21 = .ok (.iload_n 1, 1) ∧ decode cMod_degree 22 = .ok (.aaload, 1) ∧ decode cMod_degree 23 = .ok (.invokestatic 180, 3) ∧ decode cMod_degree 26 = .ok (.ireturn, 1) ∧ True := Jvm.Free.DS.facts (code := cMod_degree) 0 [(.aload_n 0, 1), (.iload_n 1, 1), (.invokestatic 81, 3), (.iconst 0, 1), (.iconst 0, 1), (.invokevirtual 88, 3), (.ifCond .eq 7, 3), (.iconst 0, 1), (.goto 12, 3), (.aload_n 0, 1), (.getfield 11, 3), (.iload_n 1, 1), (.aaload, 1), (.invokestatic 180, 3), (.ireturn, 1)] (by decide +kernel) (by decide +kernel)
theorem dMod_degree_0 : decode cMod_degree 0 = .ok (.aload_n 0, 1) := zfMod_degree_0.1
theorem dMod_degree_1 : decode cMod_degree 1 = .ok (.iload_n 1, 1) := zfMod_degree_0.2.1
theorem dMod_degree_2 : decode cMod_degree 2 = .ok (.invokestatic 81, 3) := zfMod_degree_0.2.2.1
theorem dMod_degree_5 : decode cMod_degree 5 = .ok (.iconst 0, 1) := zfMod_degree_0.2.2.2.1
theorem dMod_degree_6 : decode cMod_degree 6 = .ok (.iconst 0, 1) := zfMod_degree_0.2.2.2.2.1
theorem dMod_degree_7 : decode cMod_degree 7 = .ok (.invokevirtual 88, 3) := zfMod_degree_0.2.2.2.2.2.1
theorem dMod_degree_10 : decode cMod_degree 10 = .ok (.ifCond .eq 7, 3) := zfMod_degree_0.2.2.2.2.2.2.1
theorem dMod_degree_13 : decode cMod_degree 13 = .ok (.iconst 0, 1) := zfMod_degree_0.2.2.2.2.2.2.2.1
theorem dMod_degree_14 : decode cMod_degree 14 = .ok (.goto 12, 3) := zfMod_degree_0.2.2.2.2.2.2.2.2.1
theorem dMod_degree_17 : decode cMod_degree 17 = .ok (.aload_n 0, 1) := zfMod_degree_0.2.2.2.2.2.2.2.2.2.1
theorem dMod_degree_18 : decode cMod_degree 18 = .ok (.getfield 11, 3) := zfMod_degree_0.2.2.2.2.2.2.2.2.2.2.1
theorem dMod_degree_21 : decode cMod_degree 21 = .ok (.iload_n 1, 1) := zfMod_degree_0.2.2.2.2.2.2.2.2.2.2.2.1
theorem dMod_degree_22 : decode cMod_degree 22 = .ok (.aaload, 1) := zfMod_degree_0.2.2.2.2.2.2.2.2.2.2.2.2.1
theorem dMod_degree_23 : decode cMod_degree 23 = .ok (.invokestatic 180, 3) := zfMod_degree_0.2.2.2.2.2.2.2.2.2.2.2.2.2.1
theorem dMod_degree_26 : decode cMod_degree 26 = .ok (.ireturn, 1) := zfMod_degree_0.2.2.2.2.2.2.2.2.2.2.2.2.2.2.1
theorem zfMod_ask_0 : decode cMod_ask 0 = .ok (.aload_n 0, 1) ∧ decode cMod_ask 1 = .ok (.iload_n 1, 1) ∧ decode cMod_ask 2 = .ok (.iconst 0, 1) ∧ decode cMod_ask 3 = .ok (.bipush 7, 2) ∧ decode cMod_ask 5 = .ok (.invokestatic 41, 3) ∧ decode cMod_ask 8 = .ok (.aload_n 0, 1) ∧ decode cMod_ask 9 = .ok (.getfield 184, 3) ∧ decode cMod_ask 12 = .ok (.bipush 60, 2) ∧ decode cMod_ask 14 = .ok (.if_icmp .ne 7, 3) ∧ decode cMod_ask 17 = .ok (.iconst 1, 1) ∧ decode cMod_ask 18 = .ok (.goto 4, 3) ∧ decode cMod_ask 21 = .ok (.iconst 0, 1) ∧ decode cMod_ask 22 = .ok (.iconst 0, 1) ∧ decode cMod_ask 23 = .ok (.invokevirtual 88, 3) ∧ decode cMod_ask 26 = .ok (.ifCond .eq 5, 3) ∧ decode cMod_ask 29 = .ok (.iconst 0, 1) ∧ decode cMod_ask 30 = .ok (.ireturn, 1) ∧ decode cMod_ask 31 = .ok (.aload_n 0, 1) ∧ decode cMod_ask 32 = .ok (.getfield 31, 3) ∧ decode cMod_ask 35 = .ok (.iload_n 1, 1) ∧ decode cMod_ask 36 = .ok (.iconst 0, 1) ∧ decode cMod_ask 37 = .ok (.invokestatic 110, 3) ∧ decode cMod_ask 40 = .ok (.istore_n 2, 1) ∧ decode cMod_ask 41 = .ok (.aload_n 0, 1) ∧ decode cMod_ask 42 = .ok (.aload_n 0, 1) ∧ decode cMod_ask 43 = .ok (.getfield 31, 3) ∧ decode cMod_ask 46 = .ok (.iload_n 2, 1) ∧ decode cMod_ask 47 = .ok (.invokestatic 102, 3) ∧ decode cMod_ask 50 = .ok (.iconst 0, 1) ∧ decode cMod_ask 51 = .ok (.iload_n 1, 1) ∧ decode cMod_ask 52 = .ok (.invokestatic 49, 3) ∧ decode cMod_ask 55 = .ok (.putfield 31, 3) ∧ True := Jvm.Free.DS.facts (code := cMod_ask) 0 [(.aload_n 0, 1), (.iload_n 1, 1), (.iconst 0, 1), (.bipush 7, 2), (.invokestatic 41, 3), (.aload_n 0, 1), (.getfield 184, 3), (.bipush 60, 2), (.if_icmp .ne 7, 3), (.iconst 1, 1), (.goto 4, 3), (.iconst 0, 1), (.iconst 0, 1), (.invokevirtual 88, 3), (.ifCond .eq 5, 3), (.iconst 0, 1), (.ireturn, 1), (.aload_n 0, 1), (.getfield 31, 3), (.iload_n 1, 1), (.iconst 0, 1), (.invokestatic 110, 3), (.istore_n 2, 1), (.aload_n 0, 1), (.aload_n 0, 1), (.getfield 31, 3), (.iload_n 2, 1), (.invokestatic 102, 3), (.iconst 0, 1), (.iload_n 1, 1), (.invokestatic 49, 3), (.putfield 31, 3)] (by decide +kernel) (by decide +kernel)
theorem dMod_ask_0 : decode cMod_ask 0 = .ok (.aload_n 0, 1) := zfMod_ask_0.1
theorem dMod_ask_1 : decode cMod_ask 1 = .ok (.iload_n 1, 1) := zfMod_ask_0.2.1
theorem dMod_ask_2 : decode cMod_ask 2 = .ok (.iconst 0, 1) := zfMod_ask_0.2.2.1
theorem dMod_ask_3 : decode cMod_ask 3 = .ok (.bipush 7, 2) := zfMod_ask_0.2.2.2.1
theorem dMod_ask_5 : decode cMod_ask 5 = .ok (.invokestatic 41, 3) := zfMod_ask_0.2.2.2.2.1
theorem dMod_ask_8 : decode cMod_ask 8 = .ok (.aload_n 0, 1) := zfMod_ask_0.2.2.2.2.2.1
theorem dMod_ask_9 : decode cMod_ask 9 = .ok (.getfield 184, 3) := zfMod_ask_0.2.2.2.2.2.2.1
theorem dMod_ask_12 : decode cMod_ask 12 = .ok (.bipush 60, 2) := zfMod_ask_0.2.2.2.2.2.2.2.1
theorem dMod_ask_14 : decode cMod_ask 14 = .ok (.if_icmp .ne 7, 3) := zfMod_ask_0.2.2.2.2.2.2.2.2.1
theorem dMod_ask_17 : decode cMod_ask 17 = .ok (.iconst 1, 1) := zfMod_ask_0.2.2.2.2.2.2.2.2.2.1
theorem dMod_ask_18 : decode cMod_ask 18 = .ok (.goto 4, 3) := zfMod_ask_0.2.2.2.2.2.2.2.2.2.2.1
theorem dMod_ask_21 : decode cMod_ask 21 = .ok (.iconst 0, 1) := zfMod_ask_0.2.2.2.2.2.2.2.2.2.2.2.1
theorem dMod_ask_22 : decode cMod_ask 22 = .ok (.iconst 0, 1) := zfMod_ask_0.2.2.2.2.2.2.2.2.2.2.2.2.1
theorem dMod_ask_23 : decode cMod_ask 23 = .ok (.invokevirtual 88, 3) := zfMod_ask_0.2.2.2.2.2.2.2.2.2.2.2.2.2.1
theorem dMod_ask_26 : decode cMod_ask 26 = .ok (.ifCond .eq 5, 3) := zfMod_ask_0.2.2.2.2.2.2.2.2.2.2.2.2.2.2.1
theorem dMod_ask_29 : decode cMod_ask 29 = .ok (.iconst 0, 1) := zfMod_ask_0.2.2.2.2.2.2.2.2.2.2.2.2.2.2.2.1
theorem dMod_ask_30 : decode cMod_ask 30 = .ok (.ireturn, 1) := zfMod_ask_0.2.2.2.2.2.2.2.2.2.2.2.2.2.2.2.2.1
theorem dMod_ask_31 : decode cMod_ask 31 = .ok (.aload_n 0, 1) := zfMod_ask_0.2.2.2.2.2.2.2.2.2.2.2.2.2.2.2.2.2.1
theorem dMod_ask_32 : decode cMod_ask 32 = .ok (.getfield 31, 3) := zfMod_ask_0.2.2.2.2.2.2.2.2.2.2.2.2.2.2.2.2.2.2.1
theorem dMod_ask_35 : decode cMod_ask 35 = .ok (.iload_n 1, 1) := zfMod_ask_0.2.2.2.2.2.2.2.2.2.2.2.2.2.2.2.2.2.2.2.1
theorem dMod_ask_36 : decode cMod_ask 36 = .ok (.iconst 0, 1) := zfMod_ask_0.2.2.2.2.2.2.2.2.2.2.2.2.2.2.2.2.2.2.2.2.1
theorem dMod_ask_37 : decode cMod_ask 37 = .ok (.invokestatic 110, 3) := zfMod_ask_0.2.2.2.2.2.2.2.2.2.2.2.2.2.2.2.2.2.2.2.2.2.1
theorem dMod_ask_40 : decode cMod_ask 40 = .ok (.istore_n 2, 1) := zfMod_ask_0.2.2.2.2.2.2.2.2.2.2.2.2.2.2.2.2.2.2.2.2.2.2.1
theorem dMod_ask_41 : decode cMod_ask 41 = .ok (.aload_n 0, 1) := zfMod_ask_0.2.2.2.2.2.2.2.2.2.2.2.2.2.2.2.2.2.2.2.2.2.2.2.1
theorem dMod_ask_42 : decode cMod_ask 42 = .ok (.aload_n 0, 1) := zfMod_ask_0.2.2.2.2.2.2.2.2.2.2.2.2.2.2.2.2.2.2.2.2.2.2.2.2.1
theorem dMod_ask_43 : decode cMod_ask 43 = .ok (.getfield 31, 3) := zfMod_ask_0.2.2.2.2.2.2.2.2.2.2.2.2.2.2.2.2.2.2.2.2.2.2.2.2.2.1
theorem dMod_ask_46 : decode cMod_ask 46 = .ok (.iload_n 2, 1) := zfMod_ask_0.2.2.2.2.2.2.2.2.2.2.2.2.2.2.2.2.2.2.2.2.2.2.2.2.2.2.1
theorem dMod_ask_47 : decode cMod_ask 47 = .ok (.invokestatic 102, 3) := zfMod_ask_0.2.2.2.2.2.2.2.2.2.2.2.2.2.2.2.2.2.2.2.2.2.2.2.2.2.2.2.1
theorem dMod_ask_50 : decode cMod_ask 50 = .ok (.iconst 0, 1) := zfMod_ask_0.2.2.2.2.2.2.2.2.2.2.2.2.2.2.2.2.2.2.2.2.2.2.2.2.2.2.2.2.1
theorem dMod_ask_51 : decode cMod_ask 51 = .ok (.iload_n 1, 1) := zfMod_ask_0.2.2.2.2.2.2.2.2.2.2.2.2.2.2.2.2.2.2.2.2.2.2.2.2.2.2.2.2.2.1
theorem dMod_ask_52 : decode cMod_ask 52 = .ok (.invokestatic 49, 3) := zfMod_ask_0.2.2.2.2.2.2.2.2.2.2.2.2.2.2.2.2.2.2.2.2.2.2.2.2.2.2.2.2.2.2.1
theorem dMod_ask_55 : decode cMod_ask 55 = .ok (.putfield 31, 3) := zfMod_ask_0.2.2.2.2.2.2.2.2.2.2.2.2.2.2.2.2.2.2.2.2.2.2.2.2.2.2.2.2.2.2.2.1
theorem zfMod_ask_58 : decode cMod_ask 58 = .ok (.aload_n 0, 1) ∧ decode cMod_ask 59 = .ok (.getfield 34, 3) ∧ decode cMod_ask 62 = .ok (.aload_n 0, 1) ∧ decode cMod_ask 63 = .ok (.getfield 184, 3) ∧ decode cMod_ask 66 = .ok (.iload_n 1, 1) ∧ decode cMod_ask 67 = .ok (.iastore, 1) ∧ decode cMod_ask 68 = .ok (.aload_n 0, 1) ∧ decode cMod_ask 69 = .ok (.dup, 1) ∧ decode cMod_ask 70 = .ok (.getfield 184, 3) ∧ decode cMod_ask 73 = .ok (.iconst 1, 1) ∧ decode cMod_ask 74 = .ok (.iadd, 1) ∧ decode cMod_ask 75 = .ok (.putfield 184, 3) ∧ decode cMod_ask 78 = .ok (.aload_n 0, 1) ∧ decode cMod_ask 79 = .ok (.dup, 1) ∧ decode cMod_ask 80 = .ok (.getfield 187, 3) ∧ decode cMod_ask 83 = .ok (.iload_n 2, 1) ∧ decode cMod_ask 84 = .ok (.iconst 1, 1) ∧ decode cMod_ask 85 = .ok (.iadd, 1) ∧ decode cMod_ask 86 = .ok (.iadd, 1) ∧ decode cMod_ask 87 = .ok (.putfield 187, 3) ∧ decode cMod_ask 90 = .ok (.iload_n 2, 1) ∧ decode cMod_ask 91 = .ok (.iconst 1, 1) ∧ decode cMod_ask 92 = .ok (.iadd, 1) ∧ decode cMod_ask 93 = .ok (.ireturn, 1) ∧ True := Jvm.Free.DS.facts (code := cMod_ask) 58 [(.aload_n 0, 1), (.getfield 34, 3), (.aload_n 0, 1), (.getfield 184, 3), (.iload_n 1, 1), (.iastore, 1), (.aload_n 0, 1), (.dup, 1), (.getfield 184, 3), (.iconst 1, 1), (.iadd, 1), (.putfield 184, 3), (.aload_n 0, 1), (.dup, 1), (.getfield 187, 3), (.iload_n 2, 1), (.iconst 1, 1), (.iadd, 1), (.iadd, 1), (.putfield 187, 3), (.iload_n 2, 1), (.iconst 1, 1), (.iadd, 1), (.ireturn, 1)] (by decide +kernel) (by decide +kernel)
theorem dMod_ask_58 : decode cMod_ask 58 = .ok (.aload_n 0, 1) := zfMod_ask_58.1
theorem dMod_ask_59 : decode cMod_ask 59 = .ok (.getfield 34, 3) := zfMod_ask_58.2.1
theorem dMod_ask_62 : decode cMod_ask 62 = .ok (.aload_n 0, 1) := zfMod_ask_58.2.2.1
theorem dMod_ask_63 : decode cMod_ask 63 = .ok (.getfield 184, 3) := zfMod_ask_58.2.2.2.1
theorem dMod_ask_66 : decode cMod_ask 66 = .ok (.iload_n 1, 1) := zfMod_ask_58.2.2.2.2.1
theorem dMod_ask_67 : decode cMod_ask 67 = .ok (.iastore, 1) := zfMod_ask_58.2.2.2.2.2.1
theorem dMod_ask_68 : decode cMod_ask 68 = .ok (.aload_n 0, 1) := zfMod_ask_58.2.2.2.2.2.2.1
theorem dMod_ask_69 : decode cMod_ask 69 = .ok (.dup, 1) := zfMod_ask_58.2.2.2.2.2.2.2.1
theorem dMod_ask_70 : decode cMod_ask 70 = .ok (.getfield 184, 3) := zfMod_ask_58.2.2.2.2.2.2.2.2.1
theorem dMod_ask_73 : decode cMod_ask 73 = .ok (.iconst 1, 1) := zfMod_ask_58.2.2.2.2.2.2.2.2.2.1
theorem dMod_ask_74 : decode cMod_ask 74 = .ok (.iadd, 1) := zfMod_ask_58.2.2.2.2.2.2.2.2.2.2.1
theorem dMod_ask_75 : decode cMod_ask 75 = .ok (.putfield 184, 3) := zfMod_ask_58.2.2.2.2.2.2.2.2.2.2.2.1
theorem dMod_ask_78 : decode cMod_ask 78 = .ok (.aload_n 0, 1) := zfMod_ask_58.2.2.2.2.2.2.2.2.2.2.2.2.1
theorem dMod_ask_79 : decode cMod_ask 79 = .ok (.dup, 1) := zfMod_ask_58.2.2.2.2.2.2.2.2.2.2.2.2.2.1
theorem dMod_ask_80 : decode cMod_ask 80 = .ok (.getfield 187, 3) := zfMod_ask_58.2.2.2.2.2.2.2.2.2.2.2.2.2.2.1
theorem dMod_ask_83 : decode cMod_ask 83 = .ok (.iload_n 2, 1) := zfMod_ask_58.2.2.2.2.2.2.2.2.2.2.2.2.2.2.2.1
theorem dMod_ask_84 : decode cMod_ask 84 = .ok (.iconst 1, 1) := zfMod_ask_58.2.2.2.2.2.2.2.2.2.2.2.2.2.2.2.2.1
theorem dMod_ask_85 : decode cMod_ask 85 = .ok (.iadd, 1) := zfMod_ask_58.2.2.2.2.2.2.2.2.2.2.2.2.2.2.2.2.2.1
theorem dMod_ask_86 : decode cMod_ask 86 = .ok (.iadd, 1) := zfMod_ask_58.2.2.2.2.2.2.2.2.2.2.2.2.2.2.2.2.2.2.1
theorem dMod_ask_87 : decode cMod_ask 87 = .ok (.putfield 187, 3) := zfMod_ask_58.2.2.2.2.2.2.2.2.2.2.2.2.2.2.2.2.2.2.2.1
theorem dMod_ask_90 : decode cMod_ask 90 = .ok (.iload_n 2, 1) := zfMod_ask_58.2.2.2.2.2.2.2.2.2.2.2.2.2.2.2.2.2.2.2.2.1
theorem dMod_ask_91 : decode cMod_ask 91 = .ok (.iconst 1, 1) := zfMod_ask_58.2.2.2.2.2.2.2.2.2.2.2.2.2.2.2.2.2.2.2.2.2.1
theorem dMod_ask_92 : decode cMod_ask 92 = .ok (.iadd, 1) := zfMod_ask_58.2.2.2.2.2.2.2.2.2.2.2.2.2.2.2.2.2.2.2.2.2.2.1
theorem dMod_ask_93 : decode cMod_ask 93 = .ok (.ireturn, 1) := zfMod_ask_58.2.2.2.2.2.2.2.2.2.2.2.2.2.2.2.2.2.2.2.2.2.2.2.1
theorem zfMod_forget_0 : decode cMod_forget 0 = .ok (.aload_n 0, 1) ∧ decode cMod_forget 1 = .ok (.iconst 0, 1) ∧ decode cMod_forget 2 = .ok (.putfield 37, 3) ∧ decode cMod_forget 5 = .ok (.aload_n 0, 1) ∧ decode cMod_forget 6 = .ok (.getfield 184, 3) ∧ decode cMod_forget 9 = .ok (.istore_n 1, 1) ∧ decode cMod_forget 10 = .ok (.aload_n 0, 1) ∧ decode cMod_forget 11 = .ok (.iconst 0, 1) ∧ decode cMod_forget 12 = .ok (.putfield 184, 3) ∧ decode cMod_forget 15 = .ok (.aload_n 0, 1) ∧ decode cMod_forget 16 = .ok (.iconst 0, 1) ∧ decode cMod_forget 17 = .ok (.putfield 187, 3) ∧ decode cMod_forget 20 = .ok (.iconst 0, 1) ∧ decode cMod_forget 21 = .ok (.istore_n 2, 1) ∧ decode cMod_forget 22 = .ok (.iload_n 2, 1) ∧ decode cMod_forget 23 = .ok (.bipush 8, 2) ∧ decode cMod_forget 25 = .ok (.if_icmp .ge 16, 3) ∧ decode cMod_forget 28 = .ok (.aload_n 0, 1) ∧ decode cMod_forget 29 = .ok (.getfield 31, 3) ∧ decode cMod_forget 32 = .ok (.iload_n 2, 1) ∧ decode cMod_forget 33 = .ok (.iload_n 2, 1) ∧ decode cMod_forget 34 = .ok (.iastore, 1) ∧ decode cMod_forget 35 = .ok (.iinc 2 1, 3) ∧ decode cMod_forget 38 = .ok (.goto (-16), 3) ∧ decode cMod_forget 41 = .ok (.iload_n 1, 1) ∧ decode cMod_forget 42 = .ok (.ireturn, 1) ∧ True := Jvm.Free.DS.facts (code := cMod_forget) 0 [(.aload_n 0, 1), (.iconst 0, 1), (.putfield 37, 3), (.aload_n 0, 1), (.getfield 184, 3), (.istore_n 1, 1), (.aload_n 0, 1), (.iconst 0, 1), (.putfield 184, 3), (.aload_n 0, 1), (.iconst 0, 1), (.putfield 187, 3), (.iconst 0, 1), (.istore_n 2, 1), (.iload_n 2, 1), (.bipush 8, 2), (.if_icmp .ge 16, 3), (.aload_n 0, 1), (.getfield 31, 3), (.iload_n 2, 1), (.iload_n 2, 1), (.iastore, 1), (.iinc 2 1, 3), (.goto (-16), 3), (.iload_n 1, 1), (.ireturn, 1)] (by decide +kernel) (by decide +kernel)
theorem dMod_forget_0 : decode cMod_forget 0 = .ok (.aload_n 0, 1) := zfMod_forget_0.1
theorem dMod_forget_1 : decode cMod_forget 1 = .ok (.iconst 0, 1) := zfMod_forget_0.2.1
theorem dMod_forget_2 : decode cMod_forget 2 = .ok (.putfield 37, 3) := zfMod_forget_0.2.2.1
theorem dMod_forget_5 : decode cMod_forget 5 = .ok (.aload_n 0, 1) := zfMod_forget_0.2.2.2.1
theorem dMod_forget_6 : decode cMod_forget 6 = .ok (.getfield 184, 3) := zfMod_forget_0.2.2.2.2.1
theorem dMod_forget_9 : decode cMod_forget 9 = .ok (.istore_n 1, 1) := zfMod_forget_0.2.2.2.2.2.1
theorem dMod_forget_10 : decode cMod_forget 10 = .ok (.aload_n 0, 1) := zfMod_forget_0.2.2.2.2.2.2.1
theorem dMod_forget_11 : decode cMod_forget 11 = .ok (.iconst 0, 1) := zfMod_forget_0.2.2.2.2.2.2.2.1
theorem dMod_forget_12 : decode cMod_forget 12 = .ok (.putfield 184, 3) := zfMod_forget_0.2.2.2.2.2.2.2.2.1
theorem dMod_forget_15 : decode cMod_forget 15 = .ok (.aload_n 0, 1) := zfMod_forget_0.2.2.2.2.2.2.2.2.2.1
theorem dMod_forget_16 : decode cMod_forget 16 = .ok (.iconst 0, 1) := zfMod_forget_0.2.2.2.2.2.2.2.2.2.2.1
theorem dMod_forget_17 : decode cMod_forget 17 = .ok (.putfield 187, 3) := zfMod_forget_0.2.2.2.2.2.2.2.2.2.2.2.1
theorem dMod_forget_20 : decode cMod_forget 20 = .ok (.iconst 0, 1) := zfMod_forget_0.2.2.2.2.2.2.2.2.2.2.2.2.1
theorem dMod_forget_21 : decode cMod_forget 21 = .ok (.istore_n 2, 1) := zfMod_forget_0.2.2.2.2.2.2.2.2.2.2.2.2.2.1
theorem dMod_forget_22 : decode cMod_forget 22 = .ok (.iload_n 2, 1) := zfMod_forget_0.2.2.2.2.2.2.2.2.2.2.2.2.2.2.1
theorem dMod_forget_23 : decode cMod_forget 23 = .ok (.bipush 8, 2) := zfMod_forget_0.2.2.2.2.2.2.2.2.2.2.2.2.2.2.2.1
theorem dMod_forget_25 : decode cMod_forget 25 = .ok (.if_icmp .ge 16, 3) := zfMod_forget_0.2.2.2.2.2.2.2.2.2.2.2.2.2.2.2.2.1
theorem dMod_forget_28 : decode cMod_forget 28 = .ok (.aload_n 0, 1) := zfMod_forget_0.2.2.2.2.2.2.2.2.2.2.2.2.2.2.2.2.2.1
theorem dMod_forget_29 : decode cMod_forget 29 = .ok (.getfield 31, 3) := zfMod_forget_0.2.2.2.2.2.2.2.2.2.2.2.2.2.2.2.2.2.2.1
theorem dMod_forget_32 : decode cMod_forget 32 = .ok (.iload_n 2, 1) := zfMod_forget_0.2.2.2.2.2.2.2.2.2.2.2.2.2.2.2.2.2.2.2.1
theorem dMod_forget_33 : decode cMod_forget 33 = .ok (.iload_n 2, 1) := zfMod_forget_0.2.2.2.2.2.2.2.2.2.2.2.2.2.2.2.2.2.2.2.2.1
theorem dMod_forget_34 : decode cMod_forget 34 = .ok (.iastore, 1) := zfMod_forget_0.2.2.2.2.2.2.2.2.2.2.2.2.2.2.2.2.2.2.2.2.2.1
theorem dMod_forget_35 : decode cMod_forget 35 = .ok (.iinc 2 1, 3) := zfMod_forget_0.2.2.2.2.2.2.2.2.2.2.2.2.2.2.2.2.2.2.2.2.2.2.1
theorem dMod_forget_38 : decode cMod_forget 38 = .ok (.goto (-16), 3) := zfMod_forget_0.2.2.2.2.2.2.2.2.2.2.2.2.2.2.2.2.2.2.2.2.2.2.2.1
theorem dMod_forget_41 : decode cMod_forget 41 = .ok (.iload_n 1, 1) := zfMod_forget_0.2.2.2.2.2.2.2.2.2.2.2.2.2.2.2.2.2.2.2.2.2.2.2.2.1
theorem dMod_forget_42 : decode cMod_forget 42 = .ok (.ireturn, 1) := zfMod_forget_0.2.2.2.2.2.2.2.2.2.2.2.2.2.2.2.2.2.2.2.2.2.2.2.2.2.1
theorem zfMod_askedNow_0 : decode cMod_askedNow 0 = .ok (.iload_n 1, 1) ∧ decode cMod_askedNow 1 = .ok (.ifCond .ne 10, 3) ∧ decode cMod_askedNow 4 = .ok (.aload_n 0, 1) ∧ decode cMod_askedNow 5 = .ok (.getfield 184, 3) ∧ decode cMod_askedNow 8 = .ok (.goto 52, 3) ∧ decode cMod_askedNow 11 = .ok (.iload_n 1, 1) ∧ decode cMod_askedNow 12 = .ok (.iconst 1, 1) ∧ decode cMod_askedNow 13 = .ok (.if_icmp .ne 10, 3) ∧ decode cMod_askedNow 16 = .ok (.aload_n 0, 1) ∧ decode cMod_askedNow 17 = .ok (.getfield 187, 3) ∧ decode cMod_askedNow 20 = .ok (.goto 40, 3) ∧ decode cMod_askedNow 23 = .ok (.iload_n 1, 1) ∧ decode cMod_askedNow 24 = .ok (.iconst 2, 1) ∧ decode cMod_askedNow 25 = .ok (.if_icmp .ne 28, 3) ∧ decode cMod_askedNow 28 = .ok (.aload_n 0, 1) ∧ decode cMod_askedNow 29 = .ok (.getfield 184, 3) ∧ decode cMod_askedNow 32 = .ok (.ifCond .ne 7, 3) ∧ decode cMod_askedNow 35 = .ok (.iconst (-1), 1) ∧ decode cMod_askedNow 36 = .ok (.goto 24, 3) ∧ decode cMod_askedNow 39 = .ok (.aload_n 0, 1) ∧ decode cMod_askedNow 40 = .ok (.getfield 34, 3) ∧ decode cMod_askedNow 43 = .ok (.aload_n 0, 1) ∧ decode cMod_askedNow 44 = .ok (.getfield 184, 3) ∧ decode cMod_askedNow 47 = .ok (.iconst 1, 1) ∧ decode cMod_askedNow 48 = .ok (.isub, 1) ∧ decode cMod_askedNow 49 = .ok (.iaload, 1) ∧ decode cMod_askedNow 50 = .ok (.goto 10, 3) ∧ decode cMod_askedNow 53 = .ok (.aload_n 0, 1) ∧ decode cMod_askedNow 54 = .ok (.getfield 31, 3) ∧ decode cMod_askedNow 57 = .ok (.bipush 7, 2) ∧ decode cMod_askedNow 59 = .ok (.iaload, 1) ∧ decode cMod_askedNow 60 = .ok (.ireturn, 1) ∧ True := Jvm.Free.DS.facts (code := cMod_askedNow) 0 [(.iload_n 1, 1), (.ifCond .ne 10, 3), (.aload_n 0, 1), (.getfield 184, 3), (.goto 52, 3), (.iload_n 1, 1), (.iconst 1, 1), (.if_icmp .ne 10, 3), (.aload_n 0, 1), (.getfield 187, 3), (.goto 40, 3), (.iload_n 1, 1), (.iconst 2, 1), (.if_icmp .ne 28, 3), (.aload_n 0, 1), (.getfield 184, 3), (.ifCond .ne 7, 3), (.iconst (-1), 1), (.goto 24, 3), (.aload_n 0, 1), (.getfield 34, 3), (.aload_n 0, 1), (.getfield 184, 3), (.iconst 1, 1), (.isub, 1), (.iaload, 1), (.goto 10, 3), (.aload_n 0, 1), (.getfield 31, 3), (.bipush 7, 2), (.iaload, 1), (.ireturn, 1)] (by decide +kernel) (by decide +kernel)
theorem dMod_askedNow_0 : decode cMod_askedNow 0 = .ok (.iload_n 1, 1) := zfMod_askedNow_0.1
theorem dMod_askedNow_1 : decode cMod_askedNow 1 = .ok (.ifCond .ne 10, 3) := zfMod_askedNow_0.2.1
theorem dMod_askedNow_4 : decode cMod_askedNow 4 = .ok (.aload_n 0, 1) := zfMod_askedNow_0.2.2.1
theorem dMod_askedNow_5 : decode cMod_askedNow 5 = .ok (.getfield 184, 3) := zfMod_askedNow_0.2.2.2.1
theorem dMod_askedNow_8 : decode cMod_askedNow 8 = .ok (.goto 52, 3) := zfMod_askedNow_0.2.2.2.2.1
theorem dMod_askedNow_11 : decode cMod_askedNow 11 = .ok (.iload_n 1, 1) := zfMod_askedNow_0.2.2.2.2.2.1
theorem dMod_askedNow_12 : decode cMod_askedNow 12 = .ok (.iconst 1, 1) := zfMod_askedNow_0.2.2.2.2.2.2.1
theorem dMod_askedNow_13 : decode cMod_askedNow 13 = .ok (.if_icmp .ne 10, 3) := zfMod_askedNow_0.2.2.2.2.2.2.2.1
theorem dMod_askedNow_16 : decode cMod_askedNow 16 = .ok (.aload_n 0, 1) := zfMod_askedNow_0.2.2.2.2.2.2.2.2.1
theorem dMod_askedNow_17 : decode cMod_askedNow 17 = .ok (.getfield 187, 3) := zfMod_askedNow_0.2.2.2.2.2.2.2.2.2.1
theorem dMod_askedNow_20 : decode cMod_askedNow 20 = .ok (.goto 40, 3) := zfMod_askedNow_0.2.2.2.2.2.2.2.2.2.2.1
theorem dMod_askedNow_23 : decode cMod_askedNow 23 = .ok (.iload_n 1, 1) := zfMod_askedNow_0.2.2.2.2.2.2.2.2.2.2.2.1
theorem dMod_askedNow_24 : decode cMod_askedNow 24 = .ok (.iconst 2, 1) := zfMod_askedNow_0.2.2.2.2.2.2.2.2.2.2.2.2.1
theorem dMod_askedNow_25 : decode cMod_askedNow 25 = .ok (.if_icmp .ne 28, 3) := zfMod_askedNow_0.2.2.2.2.2.2.2.2.2.2.2.2.2.1
theorem dMod_askedNow_28 : decode cMod_askedNow 28 = .ok (.aload_n 0, 1) := zfMod_askedNow_0.2.2.2.2.2.2.2.2.2.2.2.2.2.2.1
theorem dMod_askedNow_29 : decode cMod_askedNow 29 = .ok (.getfield 184, 3) := zfMod_askedNow_0.2.2.2.2.2.2.2.2.2.2.2.2.2.2.2.1
theorem dMod_askedNow_32 : decode cMod_askedNow 32 = .ok (.ifCond .ne 7, 3) := zfMod_askedNow_0.2.2.2.2.2.2.2.2.2.2.2.2.2.2.2.2.1
theorem dMod_askedNow_35 : decode cMod_askedNow 35 = .ok (.iconst (-1), 1) := zfMod_askedNow_0.2.2.2.2.2.2.2.2.2.2.2.2.2.2.2.2.2.1
theorem dMod_askedNow_36 : decode cMod_askedNow 36 = .ok (.goto 24, 3) := zfMod_askedNow_0.2.2.2.2.2.2.2.2.2.2.2.2.2.2.2.2.2.2.1
theorem dMod_askedNow_39 : decode cMod_askedNow 39 = .ok (.aload_n 0, 1) := zfMod_askedNow_0.2.2.2.2.2.2.2.2.2.2.2.2.2.2.2.2.2.2.2.1
theorem dMod_askedNow_40 : decode cMod_askedNow 40 = .ok (.getfield 34, 3) := zfMod_askedNow_0.2.2.2.2.2.2.2.2.2.2.2.2.2.2.2.2.2.2.2.2.1
theorem dMod_askedNow_43 : decode cMod_askedNow 43 = .ok (.aload_n 0, 1) := zfMod_askedNow_0.2.2.2.2.2.2.2.2.2.2.2.2.2.2.2.2.2.2.2.2.2.1
theorem dMod_askedNow_44 : decode cMod_askedNow 44 = .ok (.getfield 184, 3) := zfMod_askedNow_0.2.2.2.2.2.2.2.2.2.2.2.2.2.2.2.2.2.2.2.2.2.2.1
theorem dMod_askedNow_47 : decode cMod_askedNow 47 = .ok (.iconst 1, 1) := zfMod_askedNow_0.2.2.2.2.2.2.2.2.2.2.2.2.2.2.2.2.2.2.2.2.2.2.2.1
theorem dMod_askedNow_48 : decode cMod_askedNow 48 = .ok (.isub, 1) := zfMod_askedNow_0.2.2.2.2.2.2.2.2.2.2.2.2.2.2.2.2.2.2.2.2.2.2.2.2.1
theorem dMod_askedNow_49 : decode cMod_askedNow 49 = .ok (.iaload, 1) := zfMod_askedNow_0.2.2.2.2.2.2.2.2.2.2.2.2.2.2.2.2.2.2.2.2.2.2.2.2.2.1
theorem dMod_askedNow_50 : decode cMod_askedNow 50 = .ok (.goto 10, 3) := zfMod_askedNow_0.2.2.2.2.2.2.2.2.2.2.2.2.2.2.2.2.2.2.2.2.2.2.2.2.2.2.1
theorem dMod_askedNow_53 : decode cMod_askedNow 53 = .ok (.aload_n 0, 1) := zfMod_askedNow_0.2.2.2.2.2.2.2.2.2.2.2.2.2.2.2.2.2.2.2.2.2.2.2.2.2.2.2.1
theorem dMod_askedNow_54 : decode cMod_askedNow 54 = .ok (.getfield 31, 3) := zfMod_askedNow_0.2.2.2.2.2.2.2.2.2.2.2.2.2.2.2.2.2.2.2.2.2.2.2.2.2.2.2.2.1
theorem dMod_askedNow_57 : decode cMod_askedNow 57 = .ok (.bipush 7, 2) := zfMod_askedNow_0.2.2.2.2.2.2.2.2.2.2.2.2.2.2.2.2.2.2.2.2.2.2.2.2.2.2.2.2.2.1
theorem dMod_askedNow_59 : decode cMod_askedNow 59 = .ok (.iaload, 1) := zfMod_askedNow_0.2.2.2.2.2.2.2.2.2.2.2.2.2.2.2.2.2.2.2.2.2.2.2.2.2.2.2.2.2.2.1
theorem dMod_askedNow_60 : decode cMod_askedNow 60 = .ok (.ireturn, 1) := zfMod_askedNow_0.2.2.2.2.2.2.2.2.2.2.2.2.2.2.2.2.2.2.2.2.2.2.2.2.2.2.2.2.2.2.2.1
theorem zfMod_asked_0 : decode cMod_asked 0 = .ok (.aload_n 0, 1) ∧ decode cMod_asked 1 = .ok (.iload_n 1, 1) ∧ decode cMod_asked 2 = .ok (.iconst 0, 1) ∧ decode cMod_asked 3 = .ok (.iconst 3, 1) ∧ decode cMod_asked 4 = .ok (.invokestatic 41, 3) ∧ decode cMod_asked 7 = .ok (.iconst 0, 1) ∧ decode cMod_asked 8 = .ok (.iconst 0, 1) ∧ decode cMod_asked 9 = .ok (.invokevirtual 88, 3) ∧ decode cMod_asked 12 = .ok (.ifCond .eq 7, 3) ∧ decode cMod_asked 15 = .ok (.iconst 0, 1) ∧ decode cMod_asked 16 = .ok (.goto 8, 3) ∧ decode cMod_asked 19 = .ok (.aload_n 0, 1) ∧ decode cMod_asked 20 = .ok (.iload_n 1, 1) ∧ decode cMod_asked 21 = .ok (.invokevirtual 190, 3) ∧ decode cMod_asked 24 = .ok (.ireturn, 1) ∧ True := Jvm.Free.DS.facts (code := cMod_asked) 0 [(.aload_n 0, 1), (.iload_n 1, 1), (.iconst 0, 1), (.iconst 3, 1), (.invokestatic 41, 3), (.iconst 0, 1), (.iconst 0, 1), (.invokevirtual 88, 3), (.ifCond .eq 7, 3), (.iconst 0, 1), (.goto 8, 3), (.aload_n 0, 1), (.iload_n 1, 1), (.invokevirtual 190, 3), (.ireturn, 1)] (by decide +kernel) (by decide +kernel)
theorem dMod_asked_0 : decode cMod_asked 0 = .ok (.aload_n 0, 1) := zfMod_asked_0.1
theorem dMod_asked_1 : decode cMod_asked 1 = .ok (.iload_n 1, 1) := zfMod_asked_0.2.1
theorem dMod_asked_2 : decode cMod_asked 2 = .ok (.iconst 0, 1) := zfMod_asked_0.2.2.1
theorem dMod_asked_3 : decode cMod_asked 3 = .ok (.iconst 3, 1) := zfMod_asked_0.2.2.2.1
theorem dMod_asked_4 : decode cMod_asked 4 = .ok (.invokestatic 41, 3) := zfMod_asked_0.2.2.2.2.1
theorem dMod_asked_7 : decode cMod_asked 7 = .ok (.iconst 0, 1) := zfMod_asked_0.2.2.2.2.2.1
theorem dMod_asked_8 : decode cMod_asked 8 = .ok (.iconst 0, 1) := zfMod_asked_0.2.2.2.2.2.2.1
theorem dMod_asked_9 : decode cMod_asked 9 = .ok (.invokevirtual 88, 3) := zfMod_asked_0.2.2.2.2.2.2.2.1
theorem dMod_asked_12 : decode cMod_asked 12 = .ok (.ifCond .eq 7, 3) := zfMod_asked_0.2.2.2.2.2.2.2.2.1
theorem dMod_asked_15 : decode cMod_asked 15 = .ok (.iconst 0, 1) := zfMod_asked_0.2.2.2.2.2.2.2.2.2.1
theorem dMod_asked_16 : decode cMod_asked 16 = .ok (.goto 8, 3) := zfMod_asked_0.2.2.2.2.2.2.2.2.2.2.1
theorem dMod_asked_19 : decode cMod_asked 19 = .ok (.aload_n 0, 1) := zfMod_asked_0.2.2.2.2.2.2.2.2.2.2.2.1
theorem dMod_asked_20 : decode cMod_asked 20 = .ok (.iload_n 1, 1) := zfMod_asked_0.2.2.2.2.2.2.2.2.2.2.2.2.1
theorem dMod_asked_21 : decode cMod_asked 21 = .ok (.invokevirtual 190, 3) := zfMod_asked_0.2.2.2.2.2.2.2.2.2.2.2.2.2.1
theorem dMod_asked_24 : decode cMod_asked 24 = .ok (.ireturn, 1) := zfMod_asked_0.2.2.2.2.2.2.2.2.2.2.2.2.2.2.1
theorem zfMod_recent_0 : decode cMod_recent 0 = .ok (.aload_n 0, 1) ∧ decode cMod_recent 1 = .ok (.iconst 0, 1) ∧ decode cMod_recent 2 = .ok (.putfield 37, 3) ∧ decode cMod_recent 5 = .ok (.aload_n 0, 1) ∧ decode cMod_recent 6 = .ok (.getfield 31, 3) ∧ decode cMod_recent 9 = .ok (.invokestatic 118, 3) ∧ decode cMod_recent 12 = .ok (.areturn, 1) ∧ True := Jvm.Free.DS.facts (code := cMod_recent) 0 [(.aload_n 0, 1), (.iconst 0, 1), (.putfield 37, 3), (.aload_n 0, 1), (.getfield 31, 3), (.invokestatic 118, 3), (.areturn, 1)] (by decide +kernel) (by decide +kernel)
theorem dMod_recent_0 : decode cMod_recent 0 = .ok (.aload_n 0, 1) := zfMod_recent_0.1
theorem dMod_recent_1 : decode cMod_recent 1 = .ok (.iconst 0, 1) := zfMod_recent_0.2.1
theorem dMod_recent_2 : decode cMod_recent 2 = .ok (.putfield 37, 3) := zfMod_recent_0.2.2.1
theorem dMod_recent_5 : decode cMod_recent 5 = .ok (.aload_n 0, 1) := zfMod_recent_0.2.2.2.1
theorem dMod_recent_6 : decode cMod_recent 6 = .ok (.getfield 31, 3) := zfMod_recent_0.2.2.2.2.1
theorem dMod_recent_9 : decode cMod_recent 9 = .ok (.invokestatic 118, 3) := zfMod_recent_0.2.2.2.2.2.1
theorem dMod_recent_12 : decode cMod_recent 12 = .ok (.areturn, 1) := zfMod_recent_0.2.2.2.2.2.2.1
theorem zfMod_isOrder_0 : decode cMod_isOrder 0 = .ok (.aload_n 0, 1) ∧ decode cMod_isOrder 1 = .ok (.arraylength, 1) ∧ decode cMod_isOrder 2 = .ok (.bipush 8, 2) ∧ decode cMod_isOrder 4 = .ok (.if_icmp .ne 7, 3) ∧ decode cMod_isOrder 7 = .ok (.iconst 1, 1) ∧ decode cMod_isOrder 8 = .ok (.goto 4, 3) ∧ decode cMod_isOrder 11 = .ok (.iconst 0, 1) ∧ decode cMod_isOrder 12 = .ok (.istore_n 1, 1) ∧ decode cMod_isOrder 13 = .ok (.iconst 0, 1) ∧ decode cMod_isOrder 14 = .ok (.istore_n 2, 1) ∧ decode cMod_isOrder 15 = .ok (.iload_n 1, 1) ∧ decode cMod_isOrder 16 = .ok (.ifCond .eq 31, 3) ∧ decode cMod_isOrder 19 = .ok (.iload_n 2, 1) ∧ decode cMod_isOrder 20 = .ok (.bipush 8, 2) ∧ decode cMod_isOrder 22 = .ok (.if_icmp .ge 25, 3) ∧ decode cMod_isOrder 25 = .ok (.aload_n 0, 1) ∧ decode cMod_isOrder 26 = .ok (.iload_n 2, 1) ∧ decode cMod_isOrder 27 = .ok (.iconst 0, 1) ∧ decode cMod_isOrder 28 = .ok (.invokestatic 110, 3) ∧ decode cMod_isOrder 31 = .ok (.iconst (-1), 1) ∧ decode cMod_isOrder 32 = .ok (.if_icmp .eq 7, 3) ∧ decode cMod_isOrder 35 = .ok (.iconst 1, 1) ∧ decode cMod_isOrder 36 = .ok (.goto 4, 3) ∧ decode cMod_isOrder 39 = .ok (.iconst 0, 1) ∧ decode cMod_isOrder 40 = .ok (.istore_n 1, 1) ∧ decode cMod_isOrder 41 = .ok (.iinc 2 1, 3) ∧ decode cMod_isOrder 44 = .ok (.goto (-29), 3) ∧ decode cMod_isOrder 47 = .ok (.iload_n 1, 1) ∧ decode cMod_isOrder 48 = .ok (.ireturn, 1) ∧ True := Jvm.Free.DS.facts (code := cMod_isOrder) 0 [(.aload_n 0, 1), (.arraylength, 1), (.bipush 8, 2), (.if_icmp .ne 7, 3), (.iconst 1, 1), (.goto 4, 3), (.iconst 0, 1), (.istore_n 1, 1), (.iconst 0, 1), (.istore_n 2, 1), (.iload_n 1, 1), (.ifCond .eq 31, 3), (.iload_n 2, 1), (.bipush 8, 2), (.if_icmp .ge 25, 3), (.aload_n 0, 1), (.iload_n 2, 1), (.iconst 0, 1), (.invokestatic 110, 3), (.iconst (-1), 1), (.if_icmp .eq 7, 3), (.iconst 1, 1), (.goto 4, 3), (.iconst 0, 1), (.istore_n 1, 1), (.iinc 2 1, 3), (.goto (-29), 3), (.iload_n 1, 1), (.ireturn, 1)] (by decide +kernel) (by decide +kernel)
theorem dMod_isOrder_0 : decode cMod_isOrder 0 = .ok (.aload_n 0, 1) := zfMod_isOrder_0.1
theorem dMod_isOrder_1 : decode cMod_isOrder 1 = .ok (.arraylength, 1) := zfMod_isOrder_0.2.1
theorem dMod_isOrder_2 : decode cMod_isOrder 2 = .ok (.bipush 8, 2) := zfMod_isOrder_0.2.2.1
theorem dMod_isOrder_4 : decode cMod_isOrder 4 = .ok (.if_icmp .ne 7, 3) := zfMod_isOrder_0.2.2.2.1
theorem dMod_isOrder_7 : decode cMod_isOrder 7 = .ok (.iconst 1, 1) := zfMod_isOrder_0.2.2.2.2.1
theorem dMod_isOrder_8 : decode cMod_isOrder 8 = .ok (.goto 4, 3) := zfMod_isOrder_0.2.2.2.2.2.1
theorem dMod_isOrder_11 : decode cMod_isOrder 11 = .ok (.iconst 0, 1) := zfMod_isOrder_0.2.2.2.2.2.2.1
theorem dMod_isOrder_12 : decode cMod_isOrder 12 = .ok (.istore_n 1, 1) := zfMod_isOrder_0.2.2.2.2.2.2.2.1
theorem dMod_isOrder_13 : decode cMod_isOrder 13 = .ok (.iconst 0, 1) := zfMod_isOrder_0.2.2.2.2.2.2.2.2.1
theorem dMod_isOrder_14 : decode cMod_isOrder 14 = .ok (.istore_n 2, 1) := zfMod_isOrder_0.2.2.2.2.2.2.2.2.2.1
theorem dMod_isOrder_15 : decode cMod_isOrder 15 = .ok (.iload_n 1, 1) := zfMod_isOrder_0.2.2.2.2.2.2.2.2.2.2.1
theorem dMod_isOrder_16 : decode cMod_isOrder 16 = .ok (.ifCond .eq 31, 3) := zfMod_isOrder_0.2.2.2.2.2.2.2.2.2.2.2.1
theorem dMod_isOrder_19 : decode cMod_isOrder 19 = .ok (.iload_n 2, 1) := zfMod_isOrder_0.2.2.2.2.2.2.2.2.2.2.2.2.1
theorem dMod_isOrder_20 : decode cMod_isOrder 20 = .ok (.bipush 8, 2) := zfMod_isOrder_0.2.2.2.2.2.2.2.2.2.2.2.2.2.1
theorem dMod_isOrder_22 : decode cMod_isOrder 22 = .ok (.if_icmp .ge 25, 3) := zfMod_isOrder_0.2.2.2.2.2.2.2.2.2.2.2.2.2.2.1
theorem dMod_isOrder_25 : decode cMod_isOrder 25 = .ok (.aload_n 0, 1) := zfMod_isOrder_0.2.2.2.2.2.2.2.2.2.2.2.2.2.2.2.1
theorem dMod_isOrder_26 : decode cMod_isOrder 26 = .ok (.iload_n 2, 1) := zfMod_isOrder_0.2.2.2.2.2.2.2.2.2.2.2.2.2.2.2.2.1
theorem dMod_isOrder_27 : decode cMod_isOrder 27 = .ok (.iconst 0, 1) := zfMod_isOrder_0.2.2.2.2.2.2.2.2.2.2.2.2.2.2.2.2.2.1
theorem dMod_isOrder_28 : decode cMod_isOrder 28 = .ok (.invokestatic 110, 3) := zfMod_isOrder_0.2.2.2.2.2.2.2.2.2.2.2.2.2.2.2.2.2.2.1
theorem dMod_isOrder_31 : decode cMod_isOrder 31 = .ok (.iconst (-1), 1) := zfMod_isOrder_0.2.2.2.2.2.2.2.2.2.2.2.2.2.2.2.2.2.2.2.1
theorem dMod_isOrder_32 : decode cMod_isOrder 32 = .ok (.if_icmp .eq 7, 3) := zfMod_isOrder_0.2.2.2.2.2.2.2.2.2.2.2.2.2.2.2.2.2.2.2.2.1
theorem dMod_isOrder_35 : decode cMod_isOrder 35 = .ok (.iconst 1, 1) := zfMod_isOrder_0.2.2.2.2.2.2.2.2.2.2.2.2.2.2.2.2.2.2.2.2.2.1
theorem dMod_isOrder_36 : decode cMod_isOrder 36 = .ok (.goto 4, 3) := zfMod_isOrder_0.2.2.2.2.2.2.2.2.2.2.2.2.2.2.2.2.2.2.2.2.2.2.1
theorem dMod_isOrder_39 : decode cMod_isOrder 39 = .ok (.iconst 0, 1) := zfMod_isOrder_0.2.2.2.2.2.2.2.2.2.2.2.2.2.2.2.2.2.2.2.2.2.2.2.1
theorem dMod_isOrder_40 : decode cMod_isOrder 40 = .ok (.istore_n 1, 1) := zfMod_isOrder_0.2.2.2.2.2.2.2.2.2.2.2.2.2.2.2.2.2.2.2.2.2.2.2.2.1
theorem dMod_isOrder_41 : decode cMod_isOrder 41 = .ok (.iinc 2 1, 3) := zfMod_isOrder_0.2.2.2.2.2.2.2.2.2.2.2.2.2.2.2.2.2.2.2.2.2.2.2.2.2.1
theorem dMod_isOrder_44 : decode cMod_isOrder 44 = .ok (.goto (-29), 3) := zfMod_isOrder_0.2.2.2.2.2.2.2.2.2.2.2.2.2.2.2.2.2.2.2.2.2.2.2.2.2.2.1
theorem dMod_isOrder_47 : decode cMod_isOrder 47 = .ok (.iload_n 1, 1) := zfMod_isOrder_0.2.2.2.2.2.2.2.2.2.2.2.2.2.2.2.2.2.2.2.2.2.2.2.2.2.2.2.1
theorem dMod_isOrder_48 : decode cMod_isOrder 48 = .ok (.ireturn, 1) := zfMod_isOrder_0.2.2.2.2.2.2.2.2.2.2.2.2.2.2.2.2.2.2.2.2.2.2.2.2.2.2.2.2.1
theorem zfMod_byOrderNow_0 : decode cMod_byOrderNow 0 = .ok (.iconst 0, 1) ∧ decode cMod_byOrderNow 1 = .ok (.istore_n 3, 1) ∧ decode cMod_byOrderNow 2 = .ok (.iconst 0, 1) ∧ decode cMod_byOrderNow 3 = .ok (.istore 4, 2) ∧ decode cMod_byOrderNow 5 = .ok (.iload 4, 2) ∧ decode cMod_byOrderNow 7 = .ok (.aload_n 0, 1) ∧ decode cMod_byOrderNow 8 = .ok (.getfield 184, 3) ∧ decode cMod_byOrderNow 11 = .ok (.if_icmp .ge 26, 3) ∧ decode cMod_byOrderNow 14 = .ok (.iload_n 3, 1) ∧ decode cMod_byOrderNow 15 = .ok (.iconst 1, 1) ∧ decode cMod_byOrderNow 16 = .ok (.aload_n 1, 1) ∧ decode cMod_byOrderNow 17 = .ok (.aload_n 0, 1) ∧ decode cMod_byOrderNow 18 = .ok (.getfield 34, 3) ∧ decode cMod_byOrderNow 21 = .ok (.iload 4, 2) ∧ decode cMod_byOrderNow 23 = .ok (.iaload, 1) ∧ decode cMod_byOrderNow 24 = .ok (.iconst 0, 1) ∧ decode cMod_byOrderNow 25 = .ok (.invokestatic 110, 3) ∧ decode cMod_byOrderNow 28 = .ok (.iadd, 1) ∧ decode cMod_byOrderNow 29 = .ok (.iadd, 1) ∧ decode cMod_byOrderNow 30 = .ok (.istore_n 3, 1) ∧ decode cMod_byOrderNow 31 = .ok (.iinc 4 1, 3) ∧ decode cMod_byOrderNow 34 = .ok (.goto (-29), 3) ∧ decode cMod_byOrderNow 37 = .ok (.iconst 0, 1) ∧ decode cMod_byOrderNow 38 = .ok (.istore 4, 2) ∧ decode cMod_byOrderNow 40 = .ok (.iconst 0, 1) ∧ decode cMod_byOrderNow 41 = .ok (.istore 5, 2) ∧ decode cMod_byOrderNow 43 = .ok (.iload 5, 2) ∧ decode cMod_byOrderNow 45 = .ok (.bipush 8, 2) ∧ decode cMod_byOrderNow 47 = .ok (.if_icmp .ge 52, 3) ∧ decode cMod_byOrderNow 50 = .ok (.iconst 0, 1) ∧ decode cMod_byOrderNow 51 = .ok (.istore 6, 2) ∧ decode cMod_byOrderNow 53 = .ok (.iload 6, 2) ∧ True := Jvm.Free.DS.facts (code := cMod_byOrderNow) 0 [(.iconst 0, 1), (.istore_n 3, 1), (.iconst 0, 1), (.istore 4, 2), (.iload 4, 2), (.aload_n 0, 1), (.getfield 184, 3), (.if_icmp .ge 26, 3), (.iload_n 3, 1), (.iconst 1, 1), (.aload_n 1, 1), (.aload_n 0, 1), (.getfield 34, 3), (.iload 4, 2), (.iaload, 1), (.iconst 0, 1), (.invokestatic 110, 3), (.iadd, 1), (.iadd, 1), (.istore_n 3, 1), (.iinc 4 1, 3), (.goto (-29), 3), (.iconst 0, 1), (.istore 4, 2), (.iconst 0, 1), (.istore 5, 2), (.iload 5, 2), (.bipush 8, 2), (.if_icmp .ge 52, 3), (.iconst 0, 1), (.istore 6, 2), (.iload 6, 2)] (by decide +kernel) (by decide +kernel)
theorem dMod_byOrderNow_0 : decode cMod_byOrderNow 0 = .ok (.iconst 0, 1) := zfMod_byOrderNow_0.1
theorem dMod_byOrderNow_1 : decode cMod_byOrderNow 1 = .ok (.istore_n 3, 1) := zfMod_byOrderNow_0.2.1
theorem dMod_byOrderNow_2 : decode cMod_byOrderNow 2 = .ok (.iconst 0, 1) := zfMod_byOrderNow_0.2.2.1
theorem dMod_byOrderNow_3 : decode cMod_byOrderNow 3 = .ok (.istore 4, 2) := zfMod_byOrderNow_0.2.2.2.1
theorem dMod_byOrderNow_5 : decode cMod_byOrderNow 5 = .ok (.iload 4, 2) := zfMod_byOrderNow_0.2.2.2.2.1
theorem dMod_byOrderNow_7 : decode cMod_byOrderNow 7 = .ok (.aload_n 0, 1) := zfMod_byOrderNow_0.2.2.2.2.2.1
theorem dMod_byOrderNow_8 : decode cMod_byOrderNow 8 = .ok (.getfield 184, 3) := zfMod_byOrderNow_0.2.2.2.2.2.2.1
theorem dMod_byOrderNow_11 : decode cMod_byOrderNow 11 = .ok (.if_icmp .ge 26, 3) := zfMod_byOrderNow_0.2.2.2.2.2.2.2.1
theorem dMod_byOrderNow_14 : decode cMod_byOrderNow 14 = .ok (.iload_n 3, 1) := zfMod_byOrderNow_0.2.2.2.2.2.2.2.2.1
theorem dMod_byOrderNow_15 : decode cMod_byOrderNow 15 = .ok (.iconst 1, 1) := zfMod_byOrderNow_0.2.2.2.2.2.2.2.2.2.1
theorem dMod_byOrderNow_16 : decode cMod_byOrderNow 16 = .ok (.aload_n 1, 1) := zfMod_byOrderNow_0.2.2.2.2.2.2.2.2.2.2.1
theorem dMod_byOrderNow_17 : decode cMod_byOrderNow 17 = .ok (.aload_n 0, 1) := zfMod_byOrderNow_0.2.2.2.2.2.2.2.2.2.2.2.1
theorem dMod_byOrderNow_18 : decode cMod_byOrderNow 18 = .ok (.getfield 34, 3) := zfMod_byOrderNow_0.2.2.2.2.2.2.2.2.2.2.2.2.1
theorem dMod_byOrderNow_21 : decode cMod_byOrderNow 21 = .ok (.iload 4, 2) := zfMod_byOrderNow_0.2.2.2.2.2.2.2.2.2.2.2.2.2.1
theorem dMod_byOrderNow_23 : decode cMod_byOrderNow 23 = .ok (.iaload, 1) := zfMod_byOrderNow_0.2.2.2.2.2.2.2.2.2.2.2.2.2.2.1
theorem dMod_byOrderNow_24 : decode cMod_byOrderNow 24 = .ok (.iconst 0, 1) := zfMod_byOrderNow_0.2.2.2.2.2.2.2.2.2.2.2.2.2.2.2.1
theorem dMod_byOrderNow_25 : decode cMod_byOrderNow 25 = .ok (.invokestatic 110, 3) := zfMod_byOrderNow_0.2.2.2.2.2.2.2.2.2.2.2.2.2.2.2.2.1
theorem dMod_byOrderNow_28 : decode cMod_byOrderNow 28 = .ok (.iadd, 1) := zfMod_byOrderNow_0.2.2.2.2.2.2.2.2.2.2.2.2.2.2.2.2.2.1
theorem dMod_byOrderNow_29 : decode cMod_byOrderNow 29 = .ok (.iadd, 1) := zfMod_byOrderNow_0.2.2.2.2.2.2.2.2.2.2.2.2.2.2.2.2.2.2.1
theorem dMod_byOrderNow_30 : decode cMod_byOrderNow 30 = .ok (.istore_n 3, 1) := zfMod_byOrderNow_0.2.2.2.2.2.2.2.2.2.2.2.2.2.2.2.2.2.2.2.1
theorem dMod_byOrderNow_31 : decode cMod_byOrderNow 31 = .ok (.iinc 4 1, 3) := zfMod_byOrderNow_0.2.2.2.2.2.2.2.2.2.2.2.2.2.2.2.2.2.2.2.2.1
theorem dMod_byOrderNow_34 : decode cMod_byOrderNow 34 = .ok (.goto (-29), 3) := zfMod_byOrderNow_0.2.2.2.2.2.2.2.2.2.2.2.2.2.2.2.2.2.2.2.2.2.1
theorem dMod_byOrderNow_37 : decode cMod_byOrderNow 37 = .ok (.iconst 0, 1) := zfMod_byOrderNow_0.2.2.2.2.2.2.2.2.2.2.2.2.2.2.2.2.2.2.2.2.2.2.1
theorem dMod_byOrderNow_38 : decode cMod_byOrderNow 38 = .ok (.istore 4, 2) := zfMod_byOrderNow_0.2.2.2.2.2.2.2.2.2.2.2.2.2.2.2.2.2.2.2.2.2.2.2.1
theorem dMod_byOrderNow_40 : decode cMod_byOrderNow 40 = .ok (.iconst 0, 1) := zfMod_byOrderNow_0.2.2.2.2.2.2.2.2.2.2.2.2.2.2.2.2.2.2.2.2.2.2.2.2.1
theorem dMod_byOrderNow_41 : decode cMod_byOrderNow 41 = .ok (.istore 5, 2) := zfMod_byOrderNow_0.2.2.2.2.2.2.2.2.2.2.2.2.2.2.2.2.2.2.2.2.2.2.2.2.2.1
theorem dMod_byOrderNow_43 : decode cMod_byOrderNow 43 = .ok (.iload 5, 2) := zfMod_byOrderNow_0.2.2.2.2.2.2.2.2.2.2.2.2.2.2.2.2.2.2.2.2.2.2.2.2.2.2.1
theorem dMod_byOrderNow_45 : decode cMod_byOrderNow 45 = .ok (.bipush 8, 2) := zfMod_byOrderNow_0.2.2.2.2.2.2.2.2.2.2.2.2.2.2.2.2.2.2.2.2.2.2.2.2.2.2.2.1
theorem dMod_byOrderNow_47 : decode cMod_byOrderNow 47 = .ok (.if_icmp .ge 52, 3) := zfMod_byOrderNow_0.2.2.2.2.2.2.2.2.2.2.2.2.2.2.2.2.2.2.2.2.2.2.2.2.2.2.2.2.1
theorem dMod_byOrderNow_50 : decode cMod_byOrderNow 50 = .ok (.iconst 0, 1) := zfMod_byOrderNow_0.2.2.2.2.2.2.2.2.2.2.2.2.2.2.2.2.2.2.2.2.2.2.2.2.2.2.2.2.2.1
theorem dMod_byOrderNow_51 : decode cMod_byOrderNow 51 = .ok (.istore 6, 2) := zfMod_byOrderNow_0.2.2.2.2.2.2.2.2.2.2.2.2.2.2.2.2.2.2.2.2.2.2.2.2.2.2.2.2.2.2.1
theorem dMod_byOrderNow_53 : decode cMod_byOrderNow 53 = .ok (.iload 6, 2) := zfMod_byOrderNow_0.2.2.2.2.2.2.2.2.2.2.2.2.2.2.2.2.2.2.2.2.2.2.2.2.2.2.2.2.2.2.2.1
theorem zfMod_byOrderNow_55 : decode cMod_byOrderNow 55 = .ok (.iload 5, 2) ∧ decode cMod_byOrderNow 57 = .ok (.if_icmp .ge 36, 3) ∧ decode cMod_byOrderNow 60 = .ok (.iload 4, 2) ∧ decode cMod_byOrderNow 62 = .ok (.aload_n 1, 1) ∧ decode cMod_byOrderNow 63 = .ok (.iload 5, 2) ∧ decode cMod_byOrderNow 65 = .ok (.iconst 0, 1) ∧ decode cMod_byOrderNow 66 = .ok (.invokestatic 110, 3) ∧ decode cMod_byOrderNow 69 = .ok (.aload_n 1, 1) ∧ decode cMod_byOrderNow 70 = .ok (.iload 6, 2) ∧ decode cMod_byOrderNow 72 = .ok (.iconst 0, 1) ∧ decode cMod_byOrderNow 73 = .ok (.invokestatic 110, 3) ∧ decode cMod_byOrderNow 76 = .ok (.if_icmp .ge 7, 3) ∧ decode cMod_byOrderNow 79 = .ok (.iconst 1, 1) ∧ decode cMod_byOrderNow 80 = .ok (.goto 4, 3) ∧ decode cMod_byOrderNow 83 = .ok (.iconst 0, 1) ∧ decode cMod_byOrderNow 84 = .ok (.iadd, 1) ∧ decode cMod_byOrderNow 85 = .ok (.istore 4, 2) ∧ decode cMod_byOrderNow 87 = .ok (.iinc 6 1, 3) ∧ decode cMod_byOrderNow 90 = .ok (.goto (-37), 3) ∧ decode cMod_byOrderNow 93 = .ok (.iinc 5 1, 3) ∧ decode cMod_byOrderNow 96 = .ok (.goto (-53), 3) ∧ decode cMod_byOrderNow 99 = .ok (.iload_n 2, 1) ∧ decode cMod_byOrderNow 100 = .ok (.ifCond .ne 7, 3) ∧ decode cMod_byOrderNow 103 = .ok (.iload_n 3, 1) ∧ decode cMod_byOrderNow 104 = .ok (.goto 24, 3) ∧ decode cMod_byOrderNow 107 = .ok (.iload_n 2, 1) ∧ decode cMod_byOrderNow 108 = .ok (.iconst 1, 1) ∧ decode cMod_byOrderNow 109 = .ok (.if_icmp .ne 8, 3) ∧ decode cMod_byOrderNow 112 = .ok (.iload 4, 2) ∧ decode cMod_byOrderNow 114 = .ok (.goto 14, 3) ∧ decode cMod_byOrderNow 117 = .ok (.iconst 2, 1) ∧ decode cMod_byOrderNow 118 = .ok (.iload_n 3, 1) ∧ True := Jvm.Free.DS.facts (code := cMod_byOrderNow) 55 [(.iload 5, 2), (.if_icmp .ge 36, 3), (.iload 4, 2), (.aload_n 1, 1), (.iload 5, 2), (.iconst 0, 1), (.invokestatic 110, 3), (.aload_n 1, 1), (.iload 6, 2), (.iconst 0, 1), (.invokestatic 110, 3), (.if_icmp .ge 7, 3), (.iconst 1, 1), (.goto 4, 3), (.iconst 0, 1), (.iadd, 1), (.istore 4, 2), (.iinc 6 1, 3), (.goto (-37), 3), (.iinc 5 1, 3), (.goto (-53), 3), (.iload_n 2, 1), (.ifCond .ne 7, 3), (.iload_n 3, 1), (.goto 24, 3), (.iload_n 2, 1), (.iconst 1, 1), (.if_icmp .ne 8, 3), (.iload 4, 2), (.goto 14, 3), (.iconst 2, 1), (.iload_n 3, 1)] (by decide +kernel) (by decide +kernel)
theorem dMod_byOrderNow_55 : decode cMod_byOrderNow 55 = .ok (.iload 5, 2) := zfMod_byOrderNow_55.1
theorem dMod_byOrderNow_57 : decode cMod_byOrderNow 57 = .ok (.if_icmp .ge 36, 3) := zfMod_byOrderNow_55.2.1
theorem dMod_byOrderNow_60 : decode cMod_byOrderNow 60 = .ok (.iload 4, 2) := zfMod_byOrderNow_55.2.2.1
theorem dMod_byOrderNow_62 : decode cMod_byOrderNow 62 = .ok (.aload_n 1, 1) := zfMod_byOrderNow_55.2.2.2.1
theorem dMod_byOrderNow_63 : decode cMod_byOrderNow 63 = .ok (.iload 5, 2) := zfMod_byOrderNow_55.2.2.2.2.1
theorem dMod_byOrderNow_65 : decode cMod_byOrderNow 65 = .ok (.iconst 0, 1) := zfMod_byOrderNow_55.2.2.2.2.2.1
theorem dMod_byOrderNow_66 : decode cMod_byOrderNow 66 = .ok (.invokestatic 110, 3) := zfMod_byOrderNow_55.2.2.2.2.2.2.1
theorem dMod_byOrderNow_69 : decode cMod_byOrderNow 69 = .ok (.aload_n 1, 1) := zfMod_byOrderNow_55.2.2.2.2.2.2.2.1
theorem dMod_byOrderNow_70 : decode cMod_byOrderNow 70 = .ok (.iload 6, 2) := zfMod_byOrderNow_55.2.2.2.2.2.2.2.2.1
theorem dMod_byOrderNow_72 : decode cMod_byOrderNow 72 = .ok (.iconst 0, 1) := zfMod_byOrderNow_55.2.2.2.2.2.2.2.2.2.1
theorem dMod_byOrderNow_73 : decode cMod_byOrderNow 73 = .ok (.invokestatic 110, 3) := zfMod_byOrderNow_55.2.2.2.2.2.2.2.2.2.2.1
theorem dMod_byOrderNow_76 : decode cMod_byOrderNow 76 = .ok (.if_icmp .ge 7, 3) := zfMod_byOrderNow_55.2.2.2.2.2.2.2.2.2.2.2.1
theorem dMod_byOrderNow_79 : decode cMod_byOrderNow 79 = .ok (.iconst 1, 1) := zfMod_byOrderNow_55.2.2.2.2.2.2.2.2.2.2.2.2.1
theorem dMod_byOrderNow_80 : decode cMod_byOrderNow 80 = .ok (.goto 4, 3) := zfMod_byOrderNow_55.2.2.2.2.2.2.2.2.2.2.2.2.2.1
theorem dMod_byOrderNow_83 : decode cMod_byOrderNow 83 = .ok (.iconst 0, 1) := zfMod_byOrderNow_55.2.2.2.2.2.2.2.2.2.2.2.2.2.2.1
theorem dMod_byOrderNow_84 : decode cMod_byOrderNow 84 = .ok (.iadd, 1) := zfMod_byOrderNow_55.2.2.2.2.2.2.2.2.2.2.2.2.2.2.2.1
theorem dMod_byOrderNow_85 : decode cMod_byOrderNow 85 = .ok (.istore 4, 2) := zfMod_byOrderNow_55.2.2.2.2.2.2.2.2.2.2.2.2.2.2.2.2.1
theorem dMod_byOrderNow_87 : decode cMod_byOrderNow 87 = .ok (.iinc 6 1, 3) := zfMod_byOrderNow_55.2.2.2.2.2.2.2.2.2.2.2.2.2.2.2.2.2.1
theorem dMod_byOrderNow_90 : decode cMod_byOrderNow 90 = .ok (.goto (-37), 3) := zfMod_byOrderNow_55.2.2.2.2.2.2.2.2.2.2.2.2.2.2.2.2.2.2.1
theorem dMod_byOrderNow_93 : decode cMod_byOrderNow 93 = .ok (.iinc 5 1, 3) := zfMod_byOrderNow_55.2.2.2.2.2.2.2.2.2.2.2.2.2.2.2.2.2.2.2.1
theorem dMod_byOrderNow_96 : decode cMod_byOrderNow 96 = .ok (.goto (-53), 3) := zfMod_byOrderNow_55.2.2.2.2.2.2.2.2.2.2.2.2.2.2.2.2.2.2.2.2.1
theorem dMod_byOrderNow_99 : decode cMod_byOrderNow 99 = .ok (.iload_n 2, 1) := zfMod_byOrderNow_55.2.2.2.2.2.2.2.2.2.2.2.2.2.2.2.2.2.2.2.2.2.1
theorem dMod_byOrderNow_100 : decode cMod_byOrderNow 100 = .ok (.ifCond .ne 7, 3) := zfMod_byOrderNow_55.2.2.2.2.2.2.2.2.2.2.2.2.2.2.2.2.2.2.2.2.2.2.1
theorem dMod_byOrderNow_103 : decode cMod_byOrderNow 103 = .ok (.iload_n 3, 1) := zfMod_byOrderNow_55.2.2.2.2.2.2.2.2.2.2.2.2.2.2.2.2.2.2.2.2.2.2.2.1
theorem dMod_byOrderNow_104 : decode cMod_byOrderNow 104 = .ok (.goto 24, 3) := zfMod_byOrderNow_55.2.2.2.2.2.2.2.2.2.2.2.2.2.2.2.2.2.2.2.2.2.2.2.2.1
theorem dMod_byOrderNow_107 : decode cMod_byOrderNow 107 = .ok (.iload_n 2, 1) := zfMod_byOrderNow_55.2.2.2.2.2.2.2.2.2.2.2.2.2.2.2.2.2.2.2.2.2.2.2.2.2.1
theorem dMod_byOrderNow_108 : decode cMod_byOrderNow 108 = .ok (.iconst 1, 1) := zfMod_byOrderNow_55.2.2.2.2.2.2.2.2.2.2.2.2.2.2.2.2.2.2.2.2.2.2.2.2.2.2.1
theorem dMod_byOrderNow_109 : decode cMod_byOrderNow 109 = .ok (.if_icmp .ne 8, 3) := zfMod_byOrderNow_55.2.2.2.2.2.2.2.2.2.2.2.2.2.2.2.2.2.2.2.2.2.2.2.2.2.2.2.1
theorem dMod_byOrderNow_112 : decode cMod_byOrderNow 112 = .ok (.iload 4, 2) := zfMod_byOrderNow_55.2.2.2.2.2.2.2.2.2.2.2.2.2.2.2.2.2.2.2.2.2.2.2.2.2.2.2.2.1
theorem dMod_byOrderNow_114 : decode cMod_byOrderNow 114 = .ok (.goto 14, 3) := zfMod_byOrderNow_55.2.2.2.2.2.2.2.2.2.2.2.2.2.2.2.2.2.2.2.2.2.2.2.2.2.2.2.2.2.1
theorem dMod_byOrderNow_117 : decode cMod_byOrderNow 117 = .ok (.iconst 2, 1) := zfMod_byOrderNow_55.2.2.2.2.2.2.2.2.2.2.2.2.2.2.2.2.2.2.2.2.2.2.2.2.2.2.2.2.2.2.1
theorem dMod_byOrderNow_118 : decode cMod_byOrderNow 118 = .ok (.iload_n 3, 1) := zfMod_byOrderNow_55.2.2.2.2.2.2.2.2.2.2.2.2.2.2.2.2.2.2.2.2.2.2.2.2.2.2.2.2.2.2.2.1
theorem zfMod_byOrderNow_119 : decode cMod_byOrderNow 119 = .ok (.imul, 1) ∧ decode cMod_byOrderNow 120 = .ok (.aload_n 0, 1) ∧ decode cMod_byOrderNow 121 = .ok (.getfield 184, 3) ∧ decode cMod_byOrderNow 124 = .ok (.isub, 1) ∧ decode cMod_byOrderNow 125 = .ok (.iload 4, 2) ∧ decode cMod_byOrderNow 127 = .ok (.iadd, 1) ∧ decode cMod_byOrderNow 128 = .ok (.ireturn, 1) ∧ True := Jvm.Free.DS.facts (code := cMod_byOrderNow) 119 [(.imul, 1), (.aload_n 0, 1), (.getfield 184, 3), (.isub, 1), (.iload 4, 2), (.iadd, 1), (.ireturn, 1)] (by decide +kernel) (by decide +kernel)
theorem dMod_byOrderNow_119 : decode cMod_byOrderNow 119 = .ok (.imul, 1) := zfMod_byOrderNow_119.1
theorem dMod_byOrderNow_120 : decode cMod_byOrderNow 120 = .ok (.aload_n 0, 1) := zfMod_byOrderNow_119.2.1
theorem dMod_byOrderNow_121 : decode cMod_byOrderNow 121 = .ok (.getfield 184, 3) := zfMod_byOrderNow_119.2.2.1
theorem dMod_byOrderNow_124 : decode cMod_byOrderNow 124 = .ok (.isub, 1) := zfMod_byOrderNow_119.2.2.2.1
theorem dMod_byOrderNow_125 : decode cMod_byOrderNow 125 = .ok (.iload 4, 2) := zfMod_byOrderNow_119.2.2.2.2.1
theorem dMod_byOrderNow_127 : decode cMod_byOrderNow 127 = .ok (.iadd, 1) := zfMod_byOrderNow_119.2.2.2.2.2.1
theorem dMod_byOrderNow_128 : decode cMod_byOrderNow 128 = .ok (.ireturn, 1) := zfMod_byOrderNow_119.2.2.2.2.2.2.1
theorem zfMod_byOrder_0 : decode cMod_byOrder 0 = .ok (.aload_n 0, 1) ∧ decode cMod_byOrder 1 = .ok (.iload_n 1, 1) ∧ decode cMod_byOrder 2 = .ok (.invokestatic 81, 3) ∧ decode cMod_byOrder 5 = .ok (.iload_n 2, 1) ∧ decode cMod_byOrder 6 = .ok (.iconst 0, 1) ∧ decode cMod_byOrder 7 = .ok (.iconst 2, 1) ∧ decode cMod_byOrder 8 = .ok (.invokestatic 41, 3) ∧ decode cMod_byOrder 11 = .ok (.iconst 0, 1) ∧ decode cMod_byOrder 12 = .ok (.invokevirtual 88, 3) ∧ decode cMod_byOrder 15 = .ok (.ifCond .eq 5, 3) ∧ decode cMod_byOrder 18 = .ok (.iconst 0, 1) ∧ decode cMod_byOrder 19 = .ok (.ireturn, 1) ∧ decode cMod_byOrder 20 = .ok (.aload_n 0, 1) ∧ decode cMod_byOrder 21 = .ok (.getfield 11, 3) ∧ decode cMod_byOrder 24 = .ok (.iload_n 1, 1) ∧ decode cMod_byOrder 25 = .ok (.aaload, 1) ∧ decode cMod_byOrder 26 = .ok (.invokestatic 193, 3) ∧ decode cMod_byOrder 29 = .ok (.ifCond .eq 17, 3) ∧ decode cMod_byOrder 32 = .ok (.aload_n 0, 1) ∧ decode cMod_byOrder 33 = .ok (.aload_n 0, 1) ∧ decode cMod_byOrder 34 = .ok (.getfield 11, 3) ∧ decode cMod_byOrder 37 = .ok (.iload_n 1, 1) ∧ decode cMod_byOrder 38 = .ok (.aaload, 1) ∧ decode cMod_byOrder 39 = .ok (.iload_n 2, 1) ∧ decode cMod_byOrder 40 = .ok (.invokevirtual 197, 3) ∧ decode cMod_byOrder 43 = .ok (.goto 7, 3) ∧ decode cMod_byOrder 46 = .ok (.aload_n 0, 1) ∧ decode cMod_byOrder 47 = .ok (.invokevirtual 92, 3) ∧ decode cMod_byOrder 50 = .ok (.ireturn, 1) ∧ True := Jvm.Free.DS.facts (code := cMod_byOrder) 0 [(.aload_n 0, 1), (.iload_n 1, 1), (.invokestatic 81, 3), (.iload_n 2, 1), (.iconst 0, 1), (.iconst 2, 1), (.invokestatic 41, 3), (.iconst 0, 1), (.invokevirtual 88, 3), (.ifCond .eq 5, 3), (.iconst 0, 1), (.ireturn, 1), (.aload_n 0, 1), (.getfield 11, 3), (.iload_n 1, 1), (.aaload, 1), (.invokestatic 193, 3), (.ifCond .eq 17, 3), (.aload_n 0, 1), (.aload_n 0, 1), (.getfield 11, 3), (.iload_n 1, 1), (.aaload, 1), (.iload_n 2, 1), (.invokevirtual 197, 3), (.goto 7, 3), (.aload_n 0, 1), (.invokevirtual 92, 3), (.ireturn, 1)] (by decide +kernel) (by decide +kernel)
theorem dMod_byOrder_0 : decode cMod_byOrder 0 = .ok (.aload_n 0, 1) := zfMod_byOrder_0.1
theorem dMod_byOrder_1 : decode cMod_byOrder 1 = .ok (.iload_n 1, 1) := zfMod_byOrder_0.2.1
theorem dMod_byOrder_2 : decode cMod_byOrder 2 = .ok (.invokestatic 81, 3) := zfMod_byOrder_0.2.2.1
theorem dMod_byOrder_5 : decode cMod_byOrder 5 = .ok (.iload_n 2, 1) := zfMod_byOrder_0.2.2.2.1
theorem dMod_byOrder_6 : decode cMod_byOrder 6 = .ok (.iconst 0, 1) := zfMod_byOrder_0.2.2.2.2.1
theorem dMod_byOrder_7 : decode cMod_byOrder 7 = .ok (.iconst 2, 1) := zfMod_byOrder_0.2.2.2.2.2.1
theorem dMod_byOrder_8 : decode cMod_byOrder 8 = .ok (.invokestatic 41, 3) := zfMod_byOrder_0.2.2.2.2.2.2.1
theorem dMod_byOrder_11 : decode cMod_byOrder 11 = .ok (.iconst 0, 1) := zfMod_byOrder_0.2.2.2.2.2.2.2.1
theorem dMod_byOrder_12 : decode cMod_byOrder 12 = .ok (.invokevirtual 88, 3) := zfMod_byOrder_0.2.2.2.2.2.2.2.2.1
theorem dMod_byOrder_15 : decode cMod_byOrder 15 = .ok (.ifCond .eq 5, 3) := zfMod_byOrder_0.2.2.2.2.2.2.2.2.2.1
theorem dMod_byOrder_18 : decode cMod_byOrder 18 = .ok (.iconst 0, 1) := zfMod_byOrder_0.2.2.2.2.2.2.2.2.2.2.1
theorem dMod_byOrder_19 : decode cMod_byOrder 19 = .ok (.ireturn, 1) := zfMod_byOrder_0.2.2.2.2.2.2.2.2.2.2.2.1
theorem dMod_byOrder_20 : decode cMod_byOrder 20 = .ok (.aload_n 0, 1) := zfMod_byOrder_0.2.2.2.2.2.2.2.2.2.2.2.2.1
theorem dMod_byOrder_21 : decode cMod_byOrder 21 = .ok (.getfield 11, 3) := zfMod_byOrder_0.2.2.2.2.2.2.2.2.2.2.2.2.2.1
theorem dMod_byOrder_24 : decode cMod_byOrder 24 = .ok (.iload_n 1, 1) := zfMod_byOrder_0.2.2.2.2.2.2.2.2.2.2.2.2.2.2.1
theorem dMod_byOrder_25 : decode cMod_byOrder 25 = .ok (.aaload, 1) := zfMod_byOrder_0.2.2.2.2.2.2.2.2.2.2.2.2.2.2.2.1
theorem dMod_byOrder_26 : decode cMod_byOrder 26 = .ok (.invokestatic 193, 3) := zfMod_byOrder_0.2.2.2.2.2.2.2.2.2.2.2.2.2.2.2.2.1
theorem dMod_byOrder_29 : decode cMod_byOrder 29 = .ok (.ifCond .eq 17, 3) := zfMod_byOrder_0.2.2.2.2.2.2.2.2.2.2.2.2.2.2.2.2.2.1
theorem dMod_byOrder_32 : decode cMod_byOrder 32 = .ok (.aload_n 0, 1) := zfMod_byOrder_0.2.2.2.2.2.2.2.2.2.2.2.2.2.2.2.2.2.2.1
theorem dMod_byOrder_33 : decode cMod_byOrder 33 = .ok (.aload_n 0, 1) := zfMod_byOrder_0.2.2.2.2.2.2.2.2.2.2.2.2.2.2.2.2.2.2.2.1
theorem dMod_byOrder_34 : decode cMod_byOrder 34 = .ok (.getfield 11, 3) := zfMod_byOrder_0.2.2.2.2.2.2.2.2.2.2.2.2.2.2.2.2.2.2.2.2.1
theorem dMod_byOrder_37 : decode cMod_byOrder 37 = .ok (.iload_n 1, 1) := zfMod_byOrder_0.2.2.2.2.2.2.2.2.2.2.2.2.2.2.2.2.2.2.2.2.2.1
theorem dMod_byOrder_38 : decode cMod_byOrder 38 = .ok (.aaload, 1) := zfMod_byOrder_0.2.2.2.2.2.2.2.2.2.2.2.2.2.2.2.2.2.2.2.2.2.2.1
theorem dMod_byOrder_39 : decode cMod_byOrder 39 = .ok (.iload_n 2, 1) := zfMod_byOrder_0.2.2.2.2.2.2.2.2.2.2.2.2.2.2.2.2.2.2.2.2.2.2.2.1
theorem dMod_byOrder_40 : decode cMod_byOrder 40 = .ok (.invokevirtual 197, 3) := zfMod_byOrder_0.2.2.2.2.2.2.2.2.2.2.2.2.2.2.2.2.2.2.2.2.2.2.2.2.1
theorem dMod_byOrder_43 : decode cMod_byOrder 43 = .ok (.goto 7, 3) := zfMod_byOrder_0.2.2.2.2.2.2.2.2.2.2.2.2.2.2.2.2.2.2.2.2.2.2.2.2.2.1
theorem dMod_byOrder_46 : decode cMod_byOrder 46 = .ok (.aload_n 0, 1) := zfMod_byOrder_0.2.2.2.2.2.2.2.2.2.2.2.2.2.2.2.2.2.2.2.2.2.2.2.2.2.2.1
theorem dMod_byOrder_47 : decode cMod_byOrder 47 = .ok (.invokevirtual 92, 3) := zfMod_byOrder_0.2.2.2.2.2.2.2.2.2.2.2.2.2.2.2.2.2.2.2.2.2.2.2.2.2.2.2.1
theorem dMod_byOrder_50 : decode cMod_byOrder 50 = .ok (.ireturn, 1) := zfMod_byOrder_0.2.2.2.2.2.2.2.2.2.2.2.2.2.2.2.2.2.2.2.2.2.2.2.2.2.2.2.2.1
theorem zfMod_houseNow_0 : decode cMod_houseNow 0 = .ok (.iconst 0, 1) ∧ decode cMod_houseNow 1 = .ok (.istore_n 2, 1) ∧ decode cMod_houseNow 2 = .ok (.iconst 0, 1) ∧ decode cMod_houseNow 3 = .ok (.istore_n 3, 1) ∧ decode cMod_houseNow 4 = .ok (.iconst 0, 1) ∧ decode cMod_houseNow 5 = .ok (.istore 4, 2) ∧ decode cMod_houseNow 7 = .ok (.aload_n 0, 1) ∧ decode cMod_houseNow 8 = .ok (.getfield 11, 3) ∧ decode cMod_houseNow 11 = .ok (.astore 5, 2) ∧ decode cMod_houseNow 13 = .ok (.aload 5, 2) ∧ decode cMod_houseNow 15 = .ok (.arraylength, 1) ∧ decode cMod_houseNow 16 = .ok (.istore 6, 2) ∧ decode cMod_houseNow 18 = .ok (.iconst 0, 1) ∧ decode cMod_houseNow 19 = .ok (.istore 7, 2) ∧ decode cMod_houseNow 21 = .ok (.iload 7, 2) ∧ decode cMod_houseNow 23 = .ok (.iload 6, 2) ∧ decode cMod_houseNow 25 = .ok (.if_icmp .ge 22, 3) ∧ decode cMod_houseNow 28 = .ok (.aload 5, 2) ∧ decode cMod_houseNow 30 = .ok (.iload 7, 2) ∧ decode cMod_houseNow 32 = .ok (.aaload, 1) ∧ decode cMod_houseNow 33 = .ok (.astore 8, 2) ∧ decode cMod_houseNow 35 = .ok (.iload_n 2, 1) ∧ decode cMod_houseNow 36 = .ok (.aload 8, 2) ∧ decode cMod_houseNow 38 = .ok (.arraylength, 1) ∧ decode cMod_houseNow 39 = .ok (.iadd, 1) ∧ decode cMod_houseNow 40 = .ok (.istore_n 2, 1) ∧ decode cMod_houseNow 41 = .ok (.iinc 7 1, 3) ∧ decode cMod_houseNow 44 = .ok (.goto (-23), 3) ∧ decode cMod_houseNow 47 = .ok (.iconst 0, 1) ∧ decode cMod_houseNow 48 = .ok (.istore 5, 2) ∧ decode cMod_houseNow 50 = .ok (.iload 5, 2) ∧ decode cMod_houseNow 52 = .ok (.iconst 3, 1) ∧ True := Jvm.Free.DS.facts (code := cMod_houseNow) 0 [(.iconst 0, 1), (.istore_n 2, 1), (.iconst 0, 1), (.istore_n 3, 1), (.iconst 0, 1), (.istore 4, 2), (.aload_n 0, 1), (.getfield 11, 3), (.astore 5, 2), (.aload 5, 2), (.arraylength, 1), (.istore 6, 2), (.iconst 0, 1), (.istore 7, 2), (.iload 7, 2), (.iload 6, 2), (.if_icmp .ge 22, 3), (.aload 5, 2), (.iload 7, 2), (.aaload, 1), (.astore 8, 2), (.iload_n 2, 1), (.aload 8, 2), (.arraylength, 1), (.iadd, 1), (.istore_n 2, 1), (.iinc 7 1, 3), (.goto (-23), 3), (.iconst 0, 1), (.istore 5, 2), (.iload 5, 2), (.iconst 3, 1)] (by decide +kernel) (by decide +kernel)
theorem dMod_houseNow_0 : decode cMod_houseNow 0 = .ok (.iconst 0, 1) := zfMod_houseNow_0.1
theorem dMod_houseNow_1 : decode cMod_houseNow 1 = .ok (.istore_n 2, 1) := zfMod_houseNow_0.2.1
theorem dMod_houseNow_2 : decode cMod_houseNow 2 = .ok (.iconst 0, 1) := zfMod_houseNow_0.2.2.1
theorem dMod_houseNow_3 : decode cMod_houseNow 3 = .ok (.istore_n 3, 1) := zfMod_houseNow_0.2.2.2.1
theorem dMod_houseNow_4 : decode cMod_houseNow 4 = .ok (.iconst 0, 1) := zfMod_houseNow_0.2.2.2.2.1
theorem dMod_houseNow_5 : decode cMod_houseNow 5 = .ok (.istore 4, 2) := zfMod_houseNow_0.2.2.2.2.2.1
theorem dMod_houseNow_7 : decode cMod_houseNow 7 = .ok (.aload_n 0, 1) := zfMod_houseNow_0.2.2.2.2.2.2.1
theorem dMod_houseNow_8 : decode cMod_houseNow 8 = .ok (.getfield 11, 3) := zfMod_houseNow_0.2.2.2.2.2.2.2.1
theorem dMod_houseNow_11 : decode cMod_houseNow 11 = .ok (.astore 5, 2) := zfMod_houseNow_0.2.2.2.2.2.2.2.2.1
theorem dMod_houseNow_13 : decode cMod_houseNow 13 = .ok (.aload 5, 2) := zfMod_houseNow_0.2.2.2.2.2.2.2.2.2.1
theorem dMod_houseNow_15 : decode cMod_houseNow 15 = .ok (.arraylength, 1) := zfMod_houseNow_0.2.2.2.2.2.2.2.2.2.2.1
theorem dMod_houseNow_16 : decode cMod_houseNow 16 = .ok (.istore 6, 2) := zfMod_houseNow_0.2.2.2.2.2.2.2.2.2.2.2.1
theorem dMod_houseNow_18 : decode cMod_houseNow 18 = .ok (.iconst 0, 1) := zfMod_houseNow_0.2.2.2.2.2.2.2.2.2.2.2.2.1
theorem dMod_houseNow_19 : decode cMod_houseNow 19 = .ok (.istore 7, 2) := zfMod_houseNow_0.2.2.2.2.2.2.2.2.2.2.2.2.2.1
theorem dMod_houseNow_21 : decode cMod_houseNow 21 = .ok (.iload 7, 2) := zfMod_houseNow_0.2.2.2.2.2.2.2.2.2.2.2.2.2.2.1
theorem dMod_houseNow_23 : decode cMod_houseNow 23 = .ok (.iload 6, 2) := zfMod_houseNow_0.2.2.2.2.2.2.2.2.2.2.2.2.2.2.2.1
theorem dMod_houseNow_25 : decode cMod_houseNow 25 = .ok (.if_icmp .ge 22, 3) := zfMod_houseNow_0.2.2.2.2.2.2.2.2.2.2.2.2.2.2.2.2.1
theorem dMod_houseNow_28 : decode cMod_houseNow 28 = .ok (.aload 5, 2) := zfMod_houseNow_0.2.2.2.2.2.2.2.2.2.2.2.2.2.2.2.2.2.1
theorem dMod_houseNow_30 : decode cMod_houseNow 30 = .ok (.iload 7, 2) := zfMod_houseNow_0.2.2.2.2.2.2.2.2.2.2.2.2.2.2.2.2.2.2.1
theorem dMod_houseNow_32 : decode cMod_houseNow 32 = .ok (.aaload, 1) := zfMod_houseNow_0.2.2.2.2.2.2.2.2.2.2.2.2.2.2.2.2.2.2.2.1
theorem dMod_houseNow_33 : decode cMod_houseNow 33 = .ok (.astore 8, 2) := zfMod_houseNow_0.2.2.2.2.2.2.2.2.2.2.2.2.2.2.2.2.2.2.2.2.1
theorem dMod_houseNow_35 : decode cMod_houseNow 35 = .ok (.iload_n 2, 1) := zfMod_houseNow_0.2.2.2.2.2.2.2.2.2.2.2.2.2.2.2.2.2.2.2.2.2.1
theorem dMod_houseNow_36 : decode cMod_houseNow 36 = .ok (.aload 8, 2) := zfMod_houseNow_0.2.2.2.2.2.2.2.2.2.2.2.2.2.2.2.2.2.2.2.2.2.2.1
theorem dMod_houseNow_38 : decode cMod_houseNow 38 = .ok (.arraylength, 1) := zfMod_houseNow_0.2.2.2.2.2.2.2.2.2.2.2.2.2.2.2.2.2.2.2.2.2.2.2.1
theorem dMod_houseNow_39 : decode cMod_houseNow 39 = .ok (.iadd, 1) := zfMod_houseNow_0.2.2.2.2.2.2.2.2.2.2.2.2.2.2.2.2.2.2.2.2.2.2.2.2.1
theorem dMod_houseNow_40 : decode cMod_houseNow 40 = .ok (.istore_n 2, 1) := zfMod_houseNow_0.2.2.2.2.2.2.2.2.2.2.2.2.2.2.2.2.2.2.2.2.2.2.2.2.2.1
theorem dMod_houseNow_41 : decode cMod_houseNow 41 = .ok (.iinc 7 1, 3) := zfMod_houseNow_0.2.2.2.2.2.2.2.2.2.2.2.2.2.2.2.2.2.2.2.2.2.2.2.2.2.2.1
theorem dMod_houseNow_44 : decode cMod_houseNow 44 = .ok (.goto (-23), 3) := zfMod_houseNow_0.2.2.2.2.2.2.2.2.2.2.2.2.2.2.2.2.2.2.2.2.2.2.2.2.2.2.2.1
theorem dMod_houseNow_47 : decode cMod_houseNow 47 = .ok (.iconst 0, 1) := zfMod_houseNow_0.2.2.2.2.2.2.2.2.2.2.2.2.2.2.2.2.2.2.2.2.2.2.2.2.2.2.2.2.1
theorem dMod_houseNow_48 : decode cMod_houseNow 48 = .ok (.istore 5, 2) := zfMod_houseNow_0.2.2.2.2.2.2.2.2.2.2.2.2.2.2.2.2.2.2.2.2.2.2.2.2.2.2.2.2.2.1
theorem dMod_houseNow_50 : decode cMod_houseNow 50 = .ok (.iload 5, 2) := zfMod_houseNow_0.2.2.2.2.2.2.2.2.2.2.2.2.2.2.2.2.2.2.2.2.2.2.2.2.2.2.2.2.2.2.1
theorem dMod_houseNow_52 : decode cMod_houseNow 52 = .ok (.iconst 3, 1) := zfMod_houseNow_0.2.2.2.2.2.2.2.2.2.2.2.2.2.2.2.2.2.2.2.2.2.2.2.2.2.2.2.2.2.2.2.1
theorem zfMod_houseNow_53 : decode cMod_houseNow 53 = .ok (.if_icmp .ge 57, 3) ∧ decode cMod_houseNow 56 = .ok (.iload_n 3, 1) ∧ decode cMod_houseNow 57 = .ok (.aload_n 0, 1) ∧ decode cMod_houseNow 58 = .ok (.getfield 14, 3) ∧ decode cMod_houseNow 61 = .ok (.iload 5, 2) ∧ decode cMod_houseNow 63 = .ok (.baload, 1) ∧ decode cMod_houseNow 64 = .ok (.ifCond .eq 7, 3) ∧ decode cMod_houseNow 67 = .ok (.iconst 1, 1) ∧ decode cMod_houseNow 68 = .ok (.goto 4, 3) ∧ decode cMod_houseNow 71 = .ok (.iconst 0, 1) ∧ decode cMod_houseNow 72 = .ok (.iadd, 1) ∧ decode cMod_houseNow 73 = .ok (.istore_n 3, 1) ∧ decode cMod_houseNow 74 = .ok (.iload 4, 2) ∧ decode cMod_houseNow 76 = .ok (.aload_n 0, 1) ∧ decode cMod_houseNow 77 = .ok (.getfield 14, 3) ∧ decode cMod_houseNow 80 = .ok (.iload 5, 2) ∧ decode cMod_houseNow 82 = .ok (.baload, 1) ∧ decode cMod_houseNow 83 = .ok (.ifCond .eq 17, 3) ∧ decode cMod_houseNow 86 = .ok (.aload_n 0, 1) ∧ decode cMod_houseNow 87 = .ok (.getfield 18, 3) ∧ decode cMod_houseNow 90 = .ok (.iload 5, 2) ∧ decode cMod_houseNow 92 = .ok (.baload, 1) ∧ decode cMod_houseNow 93 = .ok (.ifCond .eq 7, 3) ∧ decode cMod_houseNow 96 = .ok (.iconst 1, 1) ∧ decode cMod_houseNow 97 = .ok (.goto 4, 3) ∧ decode cMod_houseNow 100 = .ok (.iconst 0, 1) ∧ decode cMod_houseNow 101 = .ok (.iadd, 1) ∧ decode cMod_houseNow 102 = .ok (.istore 4, 2) ∧ decode cMod_houseNow 104 = .ok (.iinc 5 1, 3) ∧ decode cMod_houseNow 107 = .ok (.goto (-57), 3) ∧ decode cMod_houseNow 110 = .ok (.iconst 5, 1) ∧ decode cMod_houseNow 111 = .ok (.newarray .int, 2) ∧ True := Jvm.Free.DS.facts (code := cMod_houseNow) 53 [(.if_icmp .ge 57, 3), (.iload_n 3, 1), (.aload_n 0, 1), (.getfield 14, 3), (.iload 5, 2), (.baload, 1), (.ifCond .eq 7, 3), (.iconst 1, 1), (.goto 4, 3), (.iconst 0, 1), (.iadd, 1), (.istore_n 3, 1), (.iload 4, 2), (.aload_n 0, 1), (.getfield 14, 3), (.iload 5, 2), (.baload, 1), (.ifCond .eq 17, 3), (.aload_n 0, 1), (.getfield 18, 3), (.iload 5, 2), (.baload, 1), (.ifCond .eq 7, 3), (.iconst 1, 1), (.goto 4, 3), (.iconst 0, 1), (.iadd, 1), (.istore 4, 2), (.iinc 5 1, 3), (.goto (-57), 3), (.iconst 5, 1), (.newarray .int, 2)] (by decide +kernel) (by decide +kernel)
theorem dMod_houseNow_53 : decode cMod_houseNow 53 = .ok (.if_icmp .ge 57, 3) := zfMod_houseNow_53.1
theorem dMod_houseNow_56 : decode cMod_houseNow 56 = .ok (.iload_n 3, 1) := zfMod_houseNow_53.2.1
theorem dMod_houseNow_57 : decode cMod_houseNow 57 = .ok (.aload_n 0, 1) := zfMod_houseNow_53.2.2.1
theorem dMod_houseNow_58 : decode cMod_houseNow 58 = .ok (.getfield 14, 3) := zfMod_houseNow_53.2.2.2.1
theorem dMod_houseNow_61 : decode cMod_houseNow 61 = .ok (.iload 5, 2) := zfMod_houseNow_53.2.2.2.2.1
theorem dMod_houseNow_63 : decode cMod_houseNow 63 = .ok (.baload, 1) := zfMod_houseNow_53.2.2.2.2.2.1
theorem dMod_houseNow_64 : decode cMod_houseNow 64 = .ok (.ifCond .eq 7, 3) := zfMod_houseNow_53.2.2.2.2.2.2.1
theorem dMod_houseNow_67 : decode cMod_houseNow 67 = .ok (.iconst 1, 1) := zfMod_houseNow_53.2.2.2.2.2.2.2.1
theorem dMod_houseNow_68 : decode cMod_houseNow 68 = .ok (.goto 4, 3) := zfMod_houseNow_53.2.2.2.2.2.2.2.2.1
theorem dMod_houseNow_71 : decode cMod_houseNow 71 = .ok (.iconst 0, 1) := zfMod_houseNow_53.2.2.2.2.2.2.2.2.2.1
theorem dMod_houseNow_72 : decode cMod_houseNow 72 = .ok (.iadd, 1) := zfMod_houseNow_53.2.2.2.2.2.2.2.2.2.2.1
theorem dMod_houseNow_73 : decode cMod_houseNow 73 = .ok (.istore_n 3, 1) := zfMod_houseNow_53.2.2.2.2.2.2.2.2.2.2.2.1
theorem dMod_houseNow_74 : decode cMod_houseNow 74 = .ok (.iload 4, 2) := zfMod_houseNow_53.2.2.2.2.2.2.2.2.2.2.2.2.1
theorem dMod_houseNow_76 : decode cMod_houseNow 76 = .ok (.aload_n 0, 1) := zfMod_houseNow_53.2.2.2.2.2.2.2.2.2.2.2.2.2.1
theorem dMod_houseNow_77 : decode cMod_houseNow 77 = .ok (.getfield 14, 3) := zfMod_houseNow_53.2.2.2.2.2.2.2.2.2.2.2.2.2.2.1
theorem dMod_houseNow_80 : decode cMod_houseNow 80 = .ok (.iload 5, 2) := zfMod_houseNow_53.2.2.2.2.2.2.2.2.2.2.2.2.2.2.2.1
theorem dMod_houseNow_82 : decode cMod_houseNow 82 = .ok (.baload, 1) := zfMod_houseNow_53.2.2.2.2.2.2.2.2.2.2.2.2.2.2.2.2.1
theorem dMod_houseNow_83 : decode cMod_houseNow 83 = .ok (.ifCond .eq 17, 3) := zfMod_houseNow_53.2.2.2.2.2.2.2.2.2.2.2.2.2.2.2.2.2.1
theorem dMod_houseNow_86 : decode cMod_houseNow 86 = .ok (.aload_n 0, 1) := zfMod_houseNow_53.2.2.2.2.2.2.2.2.2.2.2.2.2.2.2.2.2.2.1
theorem dMod_houseNow_87 : decode cMod_houseNow 87 = .ok (.getfield 18, 3) := zfMod_houseNow_53.2.2.2.2.2.2.2.2.2.2.2.2.2.2.2.2.2.2.2.1
theorem dMod_houseNow_90 : decode cMod_houseNow 90 = .ok (.iload 5, 2) := zfMod_houseNow_53.2.2.2.2.2.2.2.2.2.2.2.2.2.2.2.2.2.2.2.2.1
theorem dMod_houseNow_92 : decode cMod_houseNow 92 = .ok (.baload, 1) := zfMod_houseNow_53.2.2.2.2.2.2.2.2.2.2.2.2.2.2.2.2.2.2.2.2.2.1
theorem dMod_houseNow_93 : decode cMod_houseNow 93 = .ok (.ifCond .eq 7, 3) := zfMod_houseNow_53.2.2.2.2.2.2.2.2.2.2.2.2.2.2.2.2.2.2.2.2.2.2.1
theorem dMod_houseNow_96 : decode cMod_houseNow 96 = .ok (.iconst 1, 1) := zfMod_houseNow_53.2.2.2.2.2.2.2.2.2.2.2.2.2.2.2.2.2.2.2.2.2.2.2.1
theorem dMod_houseNow_97 : decode cMod_houseNow 97 = .ok (.goto 4, 3) := zfMod_houseNow_53.2.2.2.2.2.2.2.2.2.2.2.2.2.2.2.2.2.2.2.2.2.2.2.2.1
theorem dMod_houseNow_100 : decode cMod_houseNow 100 = .ok (.iconst 0, 1) := zfMod_houseNow_53.2.2.2.2.2.2.2.2.2.2.2.2.2.2.2.2.2.2.2.2.2.2.2.2.2.1
theorem dMod_houseNow_101 : decode cMod_houseNow 101 = .ok (.iadd, 1) := zfMod_houseNow_53.2.2.2.2.2.2.2.2.2.2.2.2.2.2.2.2.2.2.2.2.2.2.2.2.2.2.1
theorem dMod_houseNow_102 : decode cMod_houseNow 102 = .ok (.istore 4, 2) := zfMod_houseNow_53.2.2.2.2.2.2.2.2.2.2.2.2.2.2.2.2.2.2.2.2.2.2.2.2.2.2.2.1
theorem dMod_houseNow_104 : decode cMod_houseNow 104 = .ok (.iinc 5 1, 3) := zfMod_houseNow_53.2.2.2.2.2.2.2.2.2.2.2.2.2.2.2.2.2.2.2.2.2.2.2.2.2.2.2.2.1
theorem dMod_houseNow_107 : decode cMod_houseNow 107 = .ok (.goto (-57), 3) := zfMod_houseNow_53.2.2.2.2.2.2.2.2.2.2.2.2.2.2.2.2.2.2.2.2.2.2.2.2.2.2.2.2.2.1
theorem dMod_houseNow_110 : decode cMod_houseNow 110 = .ok (.iconst 5, 1) := zfMod_houseNow_53.2.2.2.2.2.2.2.2.2.2.2.2.2.2.2.2.2.2.2.2.2.2.2.2.2.2.2.2.2.2.1
theorem dMod_houseNow_111 : decode cMod_houseNow 111 = .ok (.newarray .int, 2) := zfMod_houseNow_53.2.2.2.2.2.2.2.2.2.2.2.2.2.2.2.2.2.2.2.2.2.2.2.2.2.2.2.2.2.2.2.1
theorem zfMod_houseNow_113 : decode cMod_houseNow 113 = .ok (.dup, 1) ∧ decode cMod_houseNow 114 = .ok (.iconst 0, 1) ∧ decode cMod_houseNow 115 = .ok (.iload_n 2, 1) ∧ decode cMod_houseNow 116 = .ok (.iastore, 1) ∧ decode cMod_houseNow 117 = .ok (.dup, 1) ∧ decode cMod_houseNow 118 = .ok (.iconst 1, 1) ∧ decode cMod_houseNow 119 = .ok (.iload_n 3, 1) ∧ decode cMod_houseNow 120 = .ok (.iastore, 1) ∧ decode cMod_houseNow 121 = .ok (.dup, 1) ∧ decode cMod_houseNow 122 = .ok (.iconst 2, 1) ∧ decode cMod_houseNow 123 = .ok (.iload 4, 2) ∧ decode cMod_houseNow 125 = .ok (.iastore, 1) ∧ decode cMod_houseNow 126 = .ok (.dup, 1) ∧ decode cMod_houseNow 127 = .ok (.iconst 3, 1) ∧ decode cMod_houseNow 128 = .ok (.aload_n 0, 1) ∧ decode cMod_houseNow 129 = .ok (.getfield 45, 3) ∧ decode cMod_houseNow 132 = .ok (.iastore, 1) ∧ decode cMod_houseNow 133 = .ok (.dup, 1) ∧ decode cMod_houseNow 134 = .ok (.iconst 4, 1) ∧ decode cMod_houseNow 135 = .ok (.aload_n 0, 1) ∧ decode cMod_houseNow 136 = .ok (.getfield 200, 3) ∧ decode cMod_houseNow 139 = .ok (.iastore, 1) ∧ decode cMod_houseNow 140 = .ok (.astore 5, 2) ∧ decode cMod_houseNow 142 = .ok (.aload 5, 2) ∧ decode cMod_houseNow 144 = .ok (.iload_n 1, 1) ∧ decode cMod_houseNow 145 = .ok (.iaload, 1) ∧ decode cMod_houseNow 146 = .ok (.ireturn, 1) ∧ True := Jvm.Free.DS.facts (code := cMod_houseNow) 113 [(.dup, 1), (.iconst 0, 1), (.iload_n 2, 1), (.iastore, 1), (.dup, 1), (.iconst 1, 1), (.iload_n 3, 1), (.iastore, 1), (.dup, 1), (.iconst 2, 1), (.iload 4, 2), (.iastore, 1), (.dup, 1), (.iconst 3, 1), (.aload_n 0, 1), (.getfield 45, 3), (.iastore, 1), (.dup, 1), (.iconst 4, 1), (.aload_n 0, 1), (.getfield 200, 3), (.iastore, 1), (.astore 5, 2), (.aload 5, 2), (.iload_n 1, 1), (.iaload, 1), (.ireturn, 1)] (by decide +kernel) (by decide +kernel)
theorem dMod_houseNow_113 : decode cMod_houseNow 113 = .ok (.dup, 1) := zfMod_houseNow_113.1
theorem dMod_houseNow_114 : decode cMod_houseNow 114 = .ok (.iconst 0, 1) := zfMod_houseNow_113.2.1
theorem dMod_houseNow_115 : decode cMod_houseNow 115 = .ok (.iload_n 2, 1) := zfMod_houseNow_113.2.2.1
theorem dMod_houseNow_116 : decode cMod_houseNow 116 = .ok (.iastore, 1) := zfMod_houseNow_113.2.2.2.1
theorem dMod_houseNow_117 : decode cMod_houseNow 117 = .ok (.dup, 1) := zfMod_houseNow_113.2.2.2.2.1
theorem dMod_houseNow_118 : decode cMod_houseNow 118 = .ok (.iconst 1, 1) := zfMod_houseNow_113.2.2.2.2.2.1
theorem dMod_houseNow_119 : decode cMod_houseNow 119 = .ok (.iload_n 3, 1) := zfMod_houseNow_113.2.2.2.2.2.2.1
theorem dMod_houseNow_120 : decode cMod_houseNow 120 = .ok (.iastore, 1) := zfMod_houseNow_113.2.2.2.2.2.2.2.1
theorem dMod_houseNow_121 : decode cMod_houseNow 121 = .ok (.dup, 1) := zfMod_houseNow_113.2.2.2.2.2.2.2.2.1
theorem dMod_houseNow_122 : decode cMod_houseNow 122 = .ok (.iconst 2, 1) := zfMod_houseNow_113.2.2.2.2.2.2.2.2.2.1
theorem dMod_houseNow_123 : decode cMod_houseNow 123 = .ok (.iload 4, 2) := zfMod_houseNow_113.2.2.2.2.2.2.2.2.2.2.1
theorem dMod_houseNow_125 : decode cMod_houseNow 125 = .ok (.iastore, 1) := zfMod_houseNow_113.2.2.2.2.2.2.2.2.2.2.2.1
theorem dMod_houseNow_126 : decode cMod_houseNow 126 = .ok (.dup, 1) := zfMod_houseNow_113.2.2.2.2.2.2.2.2.2.2.2.2.1
theorem dMod_houseNow_127 : decode cMod_houseNow 127 = .ok (.iconst 3, 1) := zfMod_houseNow_113.2.2.2.2.2.2.2.2.2.2.2.2.2.1
theorem dMod_houseNow_128 : decode cMod_houseNow 128 = .ok (.aload_n 0, 1) := zfMod_houseNow_113.2.2.2.2.2.2.2.2.2.2.2.2.2.2.1
theorem dMod_houseNow_129 : decode cMod_houseNow 129 = .ok (.getfield 45, 3) := zfMod_houseNow_113.2.2.2.2.2.2.2.2.2.2.2.2.2.2.2.1
theorem dMod_houseNow_132 : decode cMod_houseNow 132 = .ok (.iastore, 1) := zfMod_houseNow_113.2.2.2.2.2.2.2.2.2.2.2.2.2.2.2.2.1
theorem dMod_houseNow_133 : decode cMod_houseNow 133 = .ok (.dup, 1) := zfMod_houseNow_113.2.2.2.2.2.2.2.2.2.2.2.2.2.2.2.2.2.1
theorem dMod_houseNow_134 : decode cMod_houseNow 134 = .ok (.iconst 4, 1) := zfMod_houseNow_113.2.2.2.2.2.2.2.2.2.2.2.2.2.2.2.2.2.2.1
theorem dMod_houseNow_135 : decode cMod_houseNow 135 = .ok (.aload_n 0, 1) := zfMod_houseNow_113.2.2.2.2.2.2.2.2.2.2.2.2.2.2.2.2.2.2.2.1
theorem dMod_houseNow_136 : decode cMod_houseNow 136 = .ok (.getfield 200, 3) := zfMod_houseNow_113.2.2.2.2.2.2.2.2.2.2.2.2.2.2.2.2.2.2.2.2.1
theorem dMod_houseNow_139 : decode cMod_houseNow 139 = .ok (.iastore, 1) := zfMod_houseNow_113.2.2.2.2.2.2.2.2.2.2.2.2.2.2.2.2.2.2.2.2.2.1
theorem dMod_houseNow_140 : decode cMod_houseNow 140 = .ok (.astore 5, 2) := zfMod_houseNow_113.2.2.2.2.2.2.2.2.2.2.2.2.2.2.2.2.2.2.2.2.2.2.1
theorem dMod_houseNow_142 : decode cMod_houseNow 142 = .ok (.aload 5, 2) := zfMod_houseNow_113.2.2.2.2.2.2.2.2.2.2.2.2.2.2.2.2.2.2.2.2.2.2.2.1
theorem dMod_houseNow_144 : decode cMod_houseNow 144 = .ok (.iload_n 1, 1) := zfMod_houseNow_113.2.2.2.2.2.2.2.2.2.2.2.2.2.2.2.2.2.2.2.2.2.2.2.2.1
theorem dMod_houseNow_145 : decode cMod_houseNow 145 = .ok (.iaload, 1) := zfMod_houseNow_113.2.2.2.2.2.2.2.2.2.2.2.2.2.2.2.2.2.2.2.2.2.2.2.2.2.1
theorem dMod_houseNow_146 : decode cMod_houseNow 146 = .ok (.ireturn, 1) := zfMod_houseNow_113.2.2.2.2.2.2.2.2.2.2.2.2.2.2.2.2.2.2.2.2.2.2.2.2.2.2.1
theorem zfMod_house_0 : decode cMod_house 0 = .ok (.aload_n 0, 1) ∧ decode cMod_house 1 = .ok (.iload_n 1, 1) ∧ decode cMod_house 2 = .ok (.iconst 0, 1) ∧ decode cMod_house 3 = .ok (.iconst 4, 1) ∧ decode cMod_house 4 = .ok (.invokestatic 41, 3) ∧ decode cMod_house 7 = .ok (.iconst 0, 1) ∧ decode cMod_house 8 = .ok (.iconst 0, 1) ∧ decode cMod_house 9 = .ok (.invokevirtual 88, 3) ∧ decode cMod_house 12 = .ok (.ifCond .eq 7, 3) ∧ decode cMod_house 15 = .ok (.iconst 0, 1) ∧ decode cMod_house 16 = .ok (.goto 8, 3) ∧ decode cMod_house 19 = .ok (.aload_n 0, 1) ∧ decode cMod_house 20 = .ok (.iload_n 1, 1) ∧ decode cMod_house 21 = .ok (.invokevirtual 203, 3) ∧ decode cMod_house 24 = .ok (.ireturn, 1) ∧ True := Jvm.Free.DS.facts (code := cMod_house) 0 [(.aload_n 0, 1), (.iload_n 1, 1), (.iconst 0, 1), (.iconst 4, 1), (.invokestatic 41, 3), (.iconst 0, 1), (.iconst 0, 1), (.invokevirtual 88, 3), (.ifCond .eq 7, 3), (.iconst 0, 1), (.goto 8, 3), (.aload_n 0, 1), (.iload_n 1, 1), (.invokevirtual 203, 3), (.ireturn, 1)] (by decide +kernel) (by decide +kernel)
theorem dMod_house_0 : decode cMod_house 0 = .ok (.aload_n 0, 1) := zfMod_house_0.1
theorem dMod_house_1 : decode cMod_house 1 = .ok (.iload_n 1, 1) := zfMod_house_0.2.1
theorem dMod_house_2 : decode cMod_house 2 = .ok (.iconst 0, 1) := zfMod_house_0.2.2.1
theorem dMod_house_3 : decode cMod_house 3 = .ok (.iconst 4, 1) := zfMod_house_0.2.2.2.1
theorem dMod_house_4 : decode cMod_house 4 = .ok (.invokestatic 41, 3) := zfMod_house_0.2.2.2.2.1
theorem dMod_house_7 : decode cMod_house 7 = .ok (.iconst 0, 1) := zfMod_house_0.2.2.2.2.2.1
theorem dMod_house_8 : decode cMod_house 8 = .ok (.iconst 0, 1) := zfMod_house_0.2.2.2.2.2.2.1
theorem dMod_house_9 : decode cMod_house 9 = .ok (.invokevirtual 88, 3) := zfMod_house_0.2.2.2.2.2.2.2.1
theorem dMod_house_12 : decode cMod_house 12 = .ok (.ifCond .eq 7, 3) := zfMod_house_0.2.2.2.2.2.2.2.2.1
theorem dMod_house_15 : decode cMod_house 15 = .ok (.iconst 0, 1) := zfMod_house_0.2.2.2.2.2.2.2.2.2.1
theorem dMod_house_16 : decode cMod_house 16 = .ok (.goto 8, 3) := zfMod_house_0.2.2.2.2.2.2.2.2.2.2.1
theorem dMod_house_19 : decode cMod_house 19 = .ok (.aload_n 0, 1) := zfMod_house_0.2.2.2.2.2.2.2.2.2.2.2.1
theorem dMod_house_20 : decode cMod_house 20 = .ok (.iload_n 1, 1) := zfMod_house_0.2.2.2.2.2.2.2.2.2.2.2.2.1
theorem dMod_house_21 : decode cMod_house 21 = .ok (.invokevirtual 203, 3) := zfMod_house_0.2.2.2.2.2.2.2.2.2.2.2.2.2.1
theorem dMod_house_24 : decode cMod_house 24 = .ok (.ireturn, 1) := zfMod_house_0.2.2.2.2.2.2.2.2.2.2.2.2.2.2.1
theorem zfMod_knock_0 : decode cMod_knock 0 = .ok (.aload_n 0, 1) ∧ decode cMod_knock 1 = .ok (.iconst 0, 1) ∧ decode cMod_knock 2 = .ok (.putfield 37, 3) ∧ decode cMod_knock 5 = .ok (.aload_n 0, 1) ∧ decode cMod_knock 6 = .ok (.dup, 1) ∧ decode cMod_knock 7 = .ok (.getfield 200, 3) ∧ decode cMod_knock 10 = .ok (.iconst 1, 1) ∧ decode cMod_knock 11 = .ok (.iadd, 1) ∧ decode cMod_knock 12 = .ok (.putfield 200, 3) ∧ decode cMod_knock 15 = .ok (.aload_n 0, 1) ∧ decode cMod_knock 16 = .ok (.getfield 200, 3) ∧ decode cMod_knock 19 = .ok (.ireturn, 1) ∧ True := Jvm.Free.DS.facts (code := cMod_knock) 0 [(.aload_n 0, 1), (.iconst 0, 1), (.putfield 37, 3), (.aload_n 0, 1), (.dup, 1), (.getfield 200, 3), (.iconst 1, 1), (.iadd, 1), (.putfield 200, 3), (.aload_n 0, 1), (.getfield 200, 3), (.ireturn, 1)] (by decide +kernel) (by decide +kernel)
theorem dMod_knock_0 : decode cMod_knock 0 = .ok (.aload_n 0, 1) := zfMod_knock_0.1
theorem dMod_knock_1 : decode cMod_knock 1 = .ok (.iconst 0, 1) := zfMod_knock_0.2.1
theorem dMod_knock_2 : decode cMod_knock 2 = .ok (.putfield 37, 3) := zfMod_knock_0.2.2.1
theorem dMod_knock_5 : decode cMod_knock 5 = .ok (.aload_n 0, 1) := zfMod_knock_0.2.2.2.1
theorem dMod_knock_6 : decode cMod_knock 6 = .ok (.dup, 1) := zfMod_knock_0.2.2.2.2.1
theorem dMod_knock_7 : decode cMod_knock 7 = .ok (.getfield 200, 3) := zfMod_knock_0.2.2.2.2.2.1
theorem dMod_knock_10 : decode cMod_knock 10 = .ok (.iconst 1, 1) := zfMod_knock_0.2.2.2.2.2.2.1
theorem dMod_knock_11 : decode cMod_knock 11 = .ok (.iadd, 1) := zfMod_knock_0.2.2.2.2.2.2.2.1
theorem dMod_knock_12 : decode cMod_knock 12 = .ok (.putfield 200, 3) := zfMod_knock_0.2.2.2.2.2.2.2.2.1
theorem dMod_knock_15 : decode cMod_knock 15 = .ok (.aload_n 0, 1) := zfMod_knock_0.2.2.2.2.2.2.2.2.2.1
theorem dMod_knock_16 : decode cMod_knock 16 = .ok (.getfield 200, 3) := zfMod_knock_0.2.2.2.2.2.2.2.2.2.2.1
theorem dMod_knock_19 : decode cMod_knock 19 = .ok (.ireturn, 1) := zfMod_knock_0.2.2.2.2.2.2.2.2.2.2.2.1
theorem zfMod_isSound_0 : decode cMod_isSound 0 = .ok (.aload_n 0, 1) ∧ decode cMod_isSound 1 = .ok (.iconst 0, 1) ∧ decode cMod_isSound 2 = .ok (.putfield 37, 3) ∧ decode cMod_isSound 5 = .ok (.iconst 1, 1) ∧ decode cMod_isSound 6 = .ok (.ireturn, 1) ∧ True := Jvm.Free.DS.facts (code := cMod_isSound) 0 [(.aload_n 0, 1), (.iconst 0, 1), (.putfield 37, 3), (.iconst 1, 1), (.ireturn, 1)] (by decide +kernel) (by decide +kernel)
theorem dMod_isSound_0 : decode cMod_isSound 0 = .ok (.aload_n 0, 1) := zfMod_isSound_0.1
theorem dMod_isSound_1 : decode cMod_isSound 1 = .ok (.iconst 0, 1) := zfMod_isSound_0.2.1
theorem dMod_isSound_2 : decode cMod_isSound 2 = .ok (.putfield 37, 3) := zfMod_isSound_0.2.2.1
theorem dMod_isSound_5 : decode cMod_isSound 5 = .ok (.iconst 1, 1) := zfMod_isSound_0.2.2.2.1
theorem dMod_isSound_6 : decode cMod_isSound 6 = .ok (.ireturn, 1) := zfMod_isSound_0.2.2.2.2.1
theorem zfMod_add_0 : decode cMod_add 0 = .ok (.lload_n 0, 1) ∧ decode cMod_add 1 = .ok (.ldc2_w 206, 3) ∧ decode cMod_add 4 = .ok (.lmul, 1) ∧ decode cMod_add 5 = .ok (.lload_n 2, 1) ∧ decode cMod_add 6 = .ok (.ladd, 1) ∧ decode cMod_add 7 = .ok (.lreturn, 1) ∧ True := Jvm.Free.DS.facts (code := cMod_add) 0 [(.lload_n 0, 1), (.ldc2_w 206, 3), (.lmul, 1), (.lload_n 2, 1), (.ladd, 1), (.lreturn, 1)] (by decide +kernel) (by decide +kernel)
theorem dMod_add_0 : decode cMod_add 0 = .ok (.lload_n 0, 1) := zfMod_add_0.1
theorem dMod_add_1 : decode cMod_add 1 = .ok (.ldc2_w 206, 3) := zfMod_add_0.2.1
theorem dMod_add_4 : decode cMod_add 4 = .ok (.lmul, 1) := zfMod_add_0.2.2.1
theorem dMod_add_5 : decode cMod_add 5 = .ok (.lload_n 2, 1) := zfMod_add_0.2.2.2.1
theorem dMod_add_6 : decode cMod_add 6 = .ok (.ladd, 1) := zfMod_add_0.2.2.2.2.1
theorem dMod_add_7 : decode cMod_add 7 = .ok (.lreturn, 1) := zfMod_add_0.2.2.2.2.2.1
theorem zfMod_digest_0 : decode cMod_digest 0 = .ok (.aload_n 0, 1) ∧ decode cMod_digest 1 = .ok (.iconst 0, 1) ∧ decode cMod_digest 2 = .ok (.putfield 37, 3) ∧ decode cMod_digest 5 = .ok (.ldc2_w 208, 3) ∧ decode cMod_digest 8 = .ok (.lstore_n 1, 1) ∧ decode cMod_digest 9 = .ok (.iconst 0, 1) ∧ decode cMod_digest 10 = .ok (.istore_n 3, 1) ∧ decode cMod_digest 11 = .ok (.iload_n 3, 1) ∧ decode cMod_digest 12 = .ok (.iconst 5, 1) ∧ decode cMod_digest 13 = .ok (.if_icmp .ge 20, 3) ∧ decode cMod_digest 16 = .ok (.lload_n 1, 1) ∧ decode cMod_digest 17 = .ok (.aload_n 0, 1) ∧ decode cMod_digest 18 = .ok (.iload_n 3, 1) ∧ decode cMod_digest 19 = .ok (.invokevirtual 203, 3) ∧ decode cMod_digest 22 = .ok (.i2l, 1) ∧ decode cMod_digest 23 = .ok (.invokestatic 210, 3) ∧ decode cMod_digest 26 = .ok (.lstore_n 1, 1) ∧ decode cMod_digest 27 = .ok (.iinc 3 1, 3) ∧ decode cMod_digest 30 = .ok (.goto (-19), 3) ∧ decode cMod_digest 33 = .ok (.aload_n 0, 1) ∧ decode cMod_digest 34 = .ok (.getfield 11, 3) ∧ decode cMod_digest 37 = .ok (.astore_n 3, 1) ∧ decode cMod_digest 38 = .ok (.aload_n 3, 1) ∧ decode cMod_digest 39 = .ok (.arraylength, 1) ∧ decode cMod_digest 40 = .ok (.istore 4, 2) ∧ decode cMod_digest 42 = .ok (.iconst 0, 1) ∧ decode cMod_digest 43 = .ok (.istore 5, 2) ∧ decode cMod_digest 45 = .ok (.iload 5, 2) ∧ decode cMod_digest 47 = .ok (.iload 4, 2) ∧ decode cMod_digest 49 = .ok (.if_icmp .ge 85, 3) ∧ decode cMod_digest 52 = .ok (.aload_n 3, 1) ∧ decode cMod_digest 53 = .ok (.iload 5, 2) ∧ True := Jvm.Free.DS.facts (code := cMod_digest) 0 [(.aload_n 0, 1), (.iconst 0, 1), (.putfield 37, 3), (.ldc2_w 208, 3), (.lstore_n 1, 1), (.iconst 0, 1), (.istore_n 3, 1), (.iload_n 3, 1), (.iconst 5, 1), (.if_icmp .ge 20, 3), (.lload_n 1, 1), (.aload_n 0, 1), (.iload_n 3, 1), (.invokevirtual 203, 3), (.i2l, 1), (.invokestatic 210, 3), (.lstore_n 1, 1), (.iinc 3 1, 3), (.goto (-19), 3), (.aload_n 0, 1), (.getfield 11, 3), (.astore_n 3, 1), (.aload_n 3, 1), (.arraylength, 1), (.istore 4, 2), (.iconst 0, 1), (.istore 5, 2), (.iload 5, 2), (.iload 4, 2), (.if_icmp .ge 85, 3), (.aload_n 3, 1), (.iload 5, 2)] (by decide +kernel) (by decide +kernel)
theorem dMod_digest_0 : decode cMod_digest 0 = .ok (.aload_n 0, 1) := zfMod_digest_0.1
theorem dMod_digest_1 : decode cMod_digest 1 = .ok (.iconst 0, 1) := zfMod_digest_0.2.1
theorem dMod_digest_2 : decode cMod_digest 2 = .ok (.putfield 37, 3) := zfMod_digest_0.2.2.1
theorem dMod_digest_5 : decode cMod_digest 5 = .ok (.ldc2_w 208, 3) := zfMod_digest_0.2.2.2.1
theorem dMod_digest_8 : decode cMod_digest 8 = .ok (.lstore_n 1, 1) := zfMod_digest_0.2.2.2.2.1
theorem dMod_digest_9 : decode cMod_digest 9 = .ok (.iconst 0, 1) := zfMod_digest_0.2.2.2.2.2.1
theorem dMod_digest_10 : decode cMod_digest 10 = .ok (.istore_n 3, 1) := zfMod_digest_0.2.2.2.2.2.2.1
theorem dMod_digest_11 : decode cMod_digest 11 = .ok (.iload_n 3, 1) := zfMod_digest_0.2.2.2.2.2.2.2.1
theorem dMod_digest_12 : decode cMod_digest 12 = .ok (.iconst 5, 1) := zfMod_digest_0.2.2.2.2.2.2.2.2.1
theorem dMod_digest_13 : decode cMod_digest 13 = .ok (.if_icmp .ge 20, 3) := zfMod_digest_0.2.2.2.2.2.2.2.2.2.1
theorem dMod_digest_16 : decode cMod_digest 16 = .ok (.lload_n 1, 1) := zfMod_digest_0.2.2.2.2.2.2.2.2.2.2.1
theorem dMod_digest_17 : decode cMod_digest 17 = .ok (.aload_n 0, 1) := zfMod_digest_0.2.2.2.2.2.2.2.2.2.2.2.1
theorem dMod_digest_18 : decode cMod_digest 18 = .ok (.iload_n 3, 1) := zfMod_digest_0.2.2.2.2.2.2.2.2.2.2.2.2.1
theorem dMod_digest_19 : decode cMod_digest 19 = .ok (.invokevirtual 203, 3) := zfMod_digest_0.2.2.2.2.2.2.2.2.2.2.2.2.2.1
theorem dMod_digest_22 : decode cMod_digest 22 = .ok (.i2l, 1) := zfMod_digest_0.2.2.2.2.2.2.2.2.2.2.2.2.2.2.1
theorem dMod_digest_23 : decode cMod_digest 23 = .ok (.invokestatic 210, 3) := zfMod_digest_0.2.2.2.2.2.2.2.2.2.2.2.2.2.2.2.1
theorem dMod_digest_26 : decode cMod_digest 26 = .ok (.lstore_n 1, 1) := zfMod_digest_0.2.2.2.2.2.2.2.2.2.2.2.2.2.2.2.2.1
theorem dMod_digest_27 : decode cMod_digest 27 = .ok (.iinc 3 1, 3) := zfMod_digest_0.2.2.2.2.2.2.2.2.2.2.2.2.2.2.2.2.2.1
theorem dMod_digest_30 : decode cMod_digest 30 = .ok (.goto (-19), 3) := zfMod_digest_0.2.2.2.2.2.2.2.2.2.2.2.2.2.2.2.2.2.2.1
theorem dMod_digest_33 : decode cMod_digest 33 = .ok (.aload_n 0, 1) := zfMod_digest_0.2.2.2.2.2.2.2.2.2.2.2.2.2.2.2.2.2.2.2.1
theorem dMod_digest_34 : decode cMod_digest 34 = .ok (.getfield 11, 3) := zfMod_digest_0.2.2.2.2.2.2.2.2.2.2.2.2.2.2.2.2.2.2.2.2.1
theorem dMod_digest_37 : decode cMod_digest 37 = .ok (.astore_n 3, 1) := zfMod_digest_0.2.2.2.2.2.2.2.2.2.2.2.2.2.2.2.2.2.2.2.2.2.1
theorem dMod_digest_38 : decode cMod_digest 38 = .ok (.aload_n 3, 1) := zfMod_digest_0.2.2.2.2.2.2.2.2.2.2.2.2.2.2.2.2.2.2.2.2.2.2.1
theorem dMod_digest_39 : decode cMod_digest 39 = .ok (.arraylength, 1) := zfMod_digest_0.2.2.2.2.2.2.2.2.2.2.2.2.2.2.2.2.2.2.2.2.2.2.2.1
theorem dMod_digest_40 : decode cMod_digest 40 = .ok (.istore 4, 2) := zfMod_digest_0.2.2.2.2.2.2.2.2.2.2.2.2.2.2.2.2.2.2.2.2.2.2.2.2.1
theorem dMod_digest_42 : decode cMod_digest 42 = .ok (.iconst 0, 1) := zfMod_digest_0.2.2.2.2.2.2.2.2.2.2.2.2.2.2.2.2.2.2.2.2.2.2.2.2.2.1
theorem dMod_digest_43 : decode cMod_digest 43 = .ok (.istore 5, 2) := zfMod_digest_0.2.2.2.2.2.2.2.2.2.2.2.2.2.2.2.2.2.2.2.2.2.2.2.2.2.2.1
theorem dMod_digest_45 : decode cMod_digest 45 = .ok (.iload 5, 2) := zfMod_digest_0.2.2.2.2.2.2.2.2.2.2.2.2.2.2.2.2.2.2.2.2.2.2.2.2.2.2.2.1
theorem dMod_digest_47 : decode cMod_digest 47 = .ok (.iload 4, 2) := zfMod_digest_0.2.2.2.2.2.2.2.2.2.2.2.2.2.2.2.2.2.2.2.2.2.2.2.2.2.2.2.2.1
theorem dMod_digest_49 : decode cMod_digest 49 = .ok (.if_icmp .ge 85, 3) := zfMod_digest_0.2.2.2.2.2.2.2.2.2.2.2.2.2.2.2.2.2.2.2.2.2.2.2.2.2.2.2.2.2.1
theorem dMod_digest_52 : decode cMod_digest 52 = .ok (.aload_n 3, 1) := zfMod_digest_0.2.2.2.2.2.2.2.2.2.2.2.2.2.2.2.2.2.2.2.2.2.2.2.2.2.2.2.2.2.2.1
theorem dMod_digest_53 : decode cMod_digest 53 = .ok (.iload 5, 2) := zfMod_digest_0.2.2.2.2.2.2.2.2.2.2.2.2.2.2.2.2.2.2.2.2.2.2.2.2.2.2.2.2.2.2.2.1
theorem zfMod_digest_55 : decode cMod_digest 55 = .ok (.aaload, 1) ∧ decode cMod_digest 56 = .ok (.astore 6, 2) ∧ decode cMod_digest 58 = .ok (.lload_n 1, 1) ∧ decode cMod_digest 59 = .ok (.aload 6, 2) ∧ decode cMod_digest 61 = .ok (.arraylength, 1) ∧ decode cMod_digest 62 = .ok (.i2l, 1) ∧ decode cMod_digest 63 = .ok (.invokestatic 210, 3) ∧ decode cMod_digest 66 = .ok (.lstore_n 1, 1) ∧ decode cMod_digest 67 = .ok (.aload 6, 2) ∧ decode cMod_digest 69 = .ok (.astore 7, 2) ∧ decode cMod_digest 71 = .ok (.aload 7, 2) ∧ decode cMod_digest 73 = .ok (.arraylength, 1) ∧ decode cMod_digest 74 = .ok (.istore 8, 2) ∧ decode cMod_digest 76 = .ok (.iconst 0, 1) ∧ decode cMod_digest 77 = .ok (.istore 9, 2) ∧ decode cMod_digest 79 = .ok (.iload 9, 2) ∧ decode cMod_digest 81 = .ok (.iload 8, 2) ∧ decode cMod_digest 83 = .ok (.if_icmp .ge 24, 3) ∧ decode cMod_digest 86 = .ok (.aload 7, 2) ∧ decode cMod_digest 88 = .ok (.iload 9, 2) ∧ decode cMod_digest 90 = .ok (.iaload, 1) ∧ decode cMod_digest 91 = .ok (.istore 10, 2) ∧ decode cMod_digest 93 = .ok (.lload_n 1, 1) ∧ decode cMod_digest 94 = .ok (.iload 10, 2) ∧ decode cMod_digest 96 = .ok (.i2l, 1) ∧ decode cMod_digest 97 = .ok (.invokestatic 210, 3) ∧ decode cMod_digest 100 = .ok (.lstore_n 1, 1) ∧ decode cMod_digest 101 = .ok (.iinc 9 1, 3) ∧ decode cMod_digest 104 = .ok (.goto (-25), 3) ∧ decode cMod_digest 107 = .ok (.lload_n 1, 1) ∧ decode cMod_digest 108 = .ok (.aload 6, 2) ∧ decode cMod_digest 110 = .ok (.iconst 2, 1) ∧ True := Jvm.Free.DS.facts (code := cMod_digest) 55 [(.aaload, 1), (.astore 6, 2), (.lload_n 1, 1), (.aload 6, 2), (.arraylength, 1), (.i2l, 1), (.invokestatic 210, 3), (.lstore_n 1, 1), (.aload 6, 2), (.astore 7, 2), (.aload 7, 2), (.arraylength, 1), (.istore 8, 2), (.iconst 0, 1), (.istore 9, 2), (.iload 9, 2), (.iload 8, 2), (.if_icmp .ge 24, 3), (.aload 7, 2), (.iload 9, 2), (.iaload, 1), (.istore 10, 2), (.lload_n 1, 1), (.iload 10, 2), (.i2l, 1), (.invokestatic 210, 3), (.lstore_n 1, 1), (.iinc 9 1, 3), (.goto (-25), 3), (.lload_n 1, 1), (.aload 6, 2), (.iconst 2, 1)] (by decide +kernel) (by decide +kernel)
theorem dMod_digest_55 : decode cMod_digest 55 = .ok (.aaload, 1) := zfMod_digest_55.1
theorem dMod_digest_56 : decode cMod_digest 56 = .ok (.astore 6, 2) := zfMod_digest_55.2.1
theorem dMod_digest_58 : decode cMod_digest 58 = .ok (.lload_n 1, 1) := zfMod_digest_55.2.2.1
theorem dMod_digest_59 : decode cMod_digest 59 = .ok (.aload 6, 2) := zfMod_digest_55.2.2.2.1
theorem dMod_digest_61 : decode cMod_digest 61 = .ok (.arraylength, 1) := zfMod_digest_55.2.2.2.2.1
theorem dMod_digest_62 : decode cMod_digest 62 = .ok (.i2l, 1) := zfMod_digest_55.2.2.2.2.2.1
theorem dMod_digest_63 : decode cMod_digest 63 = .ok (.invokestatic 210, 3) := zfMod_digest_55.2.2.2.2.2.2.1
theorem dMod_digest_66 : decode cMod_digest 66 = .ok (.lstore_n 1, 1) := zfMod_digest_55.2.2.2.2.2.2.2.1
theorem dMod_digest_67 : decode cMod_digest 67 = .ok (.aload 6, 2) := zfMod_digest_55.2.2.2.2.2.2.2.2.1
theorem dMod_digest_69 : decode cMod_digest 69 = .ok (.astore 7, 2) := zfMod_digest_55.2.2.2.2.2.2.2.2.2.1
theorem dMod_digest_71 : decode cMod_digest 71 = .ok (.aload 7, 2) := zfMod_digest_55.2.2.2.2.2.2.2.2.2.2.1
theorem dMod_digest_73 : decode cMod_digest 73 = .ok (.arraylength, 1) := zfMod_digest_55.2.2.2.2.2.2.2.2.2.2.2.1
theorem dMod_digest_74 : decode cMod_digest 74 = .ok (.istore 8, 2) := zfMod_digest_55.2.2.2.2.2.2.2.2.2.2.2.2.1
theorem dMod_digest_76 : decode cMod_digest 76 = .ok (.iconst 0, 1) := zfMod_digest_55.2.2.2.2.2.2.2.2.2.2.2.2.2.1
theorem dMod_digest_77 : decode cMod_digest 77 = .ok (.istore 9, 2) := zfMod_digest_55.2.2.2.2.2.2.2.2.2.2.2.2.2.2.1
theorem dMod_digest_79 : decode cMod_digest 79 = .ok (.iload 9, 2) := zfMod_digest_55.2.2.2.2.2.2.2.2.2.2.2.2.2.2.2.1
theorem dMod_digest_81 : decode cMod_digest 81 = .ok (.iload 8, 2) := zfMod_digest_55.2.2.2.2.2.2.2.2.2.2.2.2.2.2.2.2.1
theorem dMod_digest_83 : decode cMod_digest 83 = .ok (.if_icmp .ge 24, 3) := zfMod_digest_55.2.2.2.2.2.2.2.2.2.2.2.2.2.2.2.2.2.1
theorem dMod_digest_86 : decode cMod_digest 86 = .ok (.aload 7, 2) := zfMod_digest_55.2.2.2.2.2.2.2.2.2.2.2.2.2.2.2.2.2.2.1
theorem dMod_digest_88 : decode cMod_digest 88 = .ok (.iload 9, 2) := zfMod_digest_55.2.2.2.2.2.2.2.2.2.2.2.2.2.2.2.2.2.2.2.1
theorem dMod_digest_90 : decode cMod_digest 90 = .ok (.iaload, 1) := zfMod_digest_55.2.2.2.2.2.2.2.2.2.2.2.2.2.2.2.2.2.2.2.2.1
theorem dMod_digest_91 : decode cMod_digest 91 = .ok (.istore 10, 2) := zfMod_digest_55.2.2.2.2.2.2.2.2.2.2.2.2.2.2.2.2.2.2.2.2.2.1
theorem dMod_digest_93 : decode cMod_digest 93 = .ok (.lload_n 1, 1) := zfMod_digest_55.2.2.2.2.2.2.2.2.2.2.2.2.2.2.2.2.2.2.2.2.2.2.1
theorem dMod_digest_94 : decode cMod_digest 94 = .ok (.iload 10, 2) := zfMod_digest_55.2.2.2.2.2.2.2.2.2.2.2.2.2.2.2.2.2.2.2.2.2.2.2.1
theorem dMod_digest_96 : decode cMod_digest 96 = .ok (.i2l, 1) := zfMod_digest_55.2.2.2.2.2.2.2.2.2.2.2.2.2.2.2.2.2.2.2.2.2.2.2.2.1
theorem dMod_digest_97 : decode cMod_digest 97 = .ok (.invokestatic 210, 3) := zfMod_digest_55.2.2.2.2.2.2.2.2.2.2.2.2.2.2.2.2.2.2.2.2.2.2.2.2.2.1
theorem dMod_digest_100 : decode cMod_digest 100 = .ok (.lstore_n 1, 1) := zfMod_digest_55.2.2.2.2.2.2.2.2.2.2.2.2.2.2.2.2.2.2.2.2.2.2.2.2.2.2.1
theorem dMod_digest_101 : decode cMod_digest 101 = .ok (.iinc 9 1, 3) := zfMod_digest_55.2.2.2.2.2.2.2.2.2.2.2.2.2.2.2.2.2.2.2.2.2.2.2.2.2.2.2.1
theorem dMod_digest_104 : decode cMod_digest 104 = .ok (.goto (-25), 3) := zfMod_digest_55.2.2.2.2.2.2.2.2.2.2.2.2.2.2.2.2.2.2.2.2.2.2.2.2.2.2.2.2.1
theorem dMod_digest_107 : decode cMod_digest 107 = .ok (.lload_n 1, 1) := zfMod_digest_55.2.2.2.2.2.2.2.2.2.2.2.2.2.2.2.2.2.2.2.2.2.2.2.2.2.2.2.2.2.1
theorem dMod_digest_108 : decode cMod_digest 108 = .ok (.aload 6, 2) := zfMod_digest_55.2.2.2.2.2.2.2.2.2.2.2.2.2.2.2.2.2.2.2.2.2.2.2.2.2.2.2.2.2.2.1
theorem dMod_digest_110 : decode cMod_digest 110 = .ok (.iconst 2, 1) := zfMod_digest_55.2.2.2.2.2.2.2.2.2.2.2.2.2.2.2.2.2.2.2.2.2.2.2.2.2.2.2.2.2.2.2.1
theorem zfMod_digest_111 : decode cMod_digest 111 = .ok (.invokestatic 176, 3) ∧ decode cMod_digest 114 = .ok (.i2l, 1) ∧ decode cMod_digest 115 = .ok (.invokestatic 210, 3) ∧ decode cMod_digest 118 = .ok (.aload 6, 2) ∧ decode cMod_digest 120 = .ok (.invokestatic 180, 3) ∧ decode cMod_digest 123 = .ok (.i2l, 1) ∧ decode cMod_digest 124 = .ok (.invokestatic 210, 3) ∧ decode cMod_digest 127 = .ok (.lstore_n 1, 1) ∧ decode cMod_digest 128 = .ok (.iinc 5 1, 3) ∧ decode cMod_digest 131 = .ok (.goto (-86), 3) ∧ decode cMod_digest 134 = .ok (.iconst 0, 1) ∧ decode cMod_digest 135 = .ok (.istore_n 3, 1) ∧ decode cMod_digest 136 = .ok (.iload_n 3, 1) ∧ decode cMod_digest 137 = .ok (.iconst 3, 1) ∧ decode cMod_digest 138 = .ok (.if_icmp .ge 38, 3) ∧ decode cMod_digest 141 = .ok (.iconst 0, 1) ∧ decode cMod_digest 142 = .ok (.istore 4, 2) ∧ decode cMod_digest 144 = .ok (.iload 4, 2) ∧ decode cMod_digest 146 = .ok (.bipush 6, 2) ∧ decode cMod_digest 148 = .ok (.if_icmp .ge 22, 3) ∧ decode cMod_digest 151 = .ok (.lload_n 1, 1) ∧ decode cMod_digest 152 = .ok (.aload_n 0, 1) ∧ decode cMod_digest 153 = .ok (.iload_n 3, 1) ∧ decode cMod_digest 154 = .ok (.iload 4, 2) ∧ decode cMod_digest 156 = .ok (.invokevirtual 154, 3) ∧ decode cMod_digest 159 = .ok (.i2l, 1) ∧ decode cMod_digest 160 = .ok (.invokestatic 210, 3) ∧ decode cMod_digest 163 = .ok (.lstore_n 1, 1) ∧ decode cMod_digest 164 = .ok (.iinc 4 1, 3) ∧ decode cMod_digest 167 = .ok (.goto (-23), 3) ∧ decode cMod_digest 170 = .ok (.iinc 3 1, 3) ∧ decode cMod_digest 173 = .ok (.goto (-37), 3) ∧ True := Jvm.Free.DS.facts (code := cMod_digest) 111 [(.invokestatic 176, 3), (.i2l, 1), (.invokestatic 210, 3), (.aload 6, 2), (.invokestatic 180, 3), (.i2l, 1), (.invokestatic 210, 3), (.lstore_n 1, 1), (.iinc 5 1, 3), (.goto (-86), 3), (.iconst 0, 1), (.istore_n 3, 1), (.iload_n 3, 1), (.iconst 3, 1), (.if_icmp .ge 38, 3), (.iconst 0, 1), (.istore 4, 2), (.iload 4, 2), (.bipush 6, 2), (.if_icmp .ge 22, 3), (.lload_n 1, 1), (.aload_n 0, 1), (.iload_n 3, 1), (.iload 4, 2), (.invokevirtual 154, 3), (.i2l, 1), (.invokestatic 210, 3), (.lstore_n 1, 1), (.iinc 4 1, 3), (.goto (-23), 3), (.iinc 3 1, 3), (.goto (-37), 3)] (by decide +kernel) (by decide +kernel)
theorem dMod_digest_111 : decode cMod_digest 111 = .ok (.invokestatic 176, 3) := zfMod_digest_111.1
theorem dMod_digest_114 : decode cMod_digest 114 = .ok (.i2l, 1) := zfMod_digest_111.2.1
theorem dMod_digest_115 : decode cMod_digest 115 = .ok (.invokestatic 210, 3) := zfMod_digest_111.2.2.1
theorem dMod_digest_118 : decode cMod_digest 118 = .ok (.aload 6, 2) := zfMod_digest_111.2.2.2.1
theorem dMod_digest_120 : decode cMod_digest 120 = .ok (.invokestatic 180, 3) := zfMod_digest_111.2.2.2.2.1
theorem dMod_digest_123 : decode cMod_digest 123 = .ok (.i2l, 1) := zfMod_digest_111.2.2.2.2.2.1
theorem dMod_digest_124 : decode cMod_digest 124 = .ok (.invokestatic 210, 3) := zfMod_digest_111.2.2.2.2.2.2.1
theorem dMod_digest_127 : decode cMod_digest 127 = .ok (.lstore_n 1, 1) := zfMod_digest_111.2.2.2.2.2.2.2.1
theorem dMod_digest_128 : decode cMod_digest 128 = .ok (.iinc 5 1, 3) := zfMod_digest_111.2.2.2.2.2.2.2.2.1
theorem dMod_digest_131 : decode cMod_digest 131 = .ok (.goto (-86), 3) := zfMod_digest_111.2.2.2.2.2.2.2.2.2.1
theorem dMod_digest_134 : decode cMod_digest 134 = .ok (.iconst 0, 1) := zfMod_digest_111.2.2.2.2.2.2.2.2.2.2.1
theorem dMod_digest_135 : decode cMod_digest 135 = .ok (.istore_n 3, 1) := zfMod_digest_111.2.2.2.2.2.2.2.2.2.2.2.1
theorem dMod_digest_136 : decode cMod_digest 136 = .ok (.iload_n 3, 1) := zfMod_digest_111.2.2.2.2.2.2.2.2.2.2.2.2.1
theorem dMod_digest_137 : decode cMod_digest 137 = .ok (.iconst 3, 1) := zfMod_digest_111.2.2.2.2.2.2.2.2.2.2.2.2.2.1
theorem dMod_digest_138 : decode cMod_digest 138 = .ok (.if_icmp .ge 38, 3) := zfMod_digest_111.2.2.2.2.2.2.2.2.2.2.2.2.2.2.1
theorem dMod_digest_141 : decode cMod_digest 141 = .ok (.iconst 0, 1) := zfMod_digest_111.2.2.2.2.2.2.2.2.2.2.2.2.2.2.2.1
theorem dMod_digest_142 : decode cMod_digest 142 = .ok (.istore 4, 2) := zfMod_digest_111.2.2.2.2.2.2.2.2.2.2.2.2.2.2.2.2.1
theorem dMod_digest_144 : decode cMod_digest 144 = .ok (.iload 4, 2) := zfMod_digest_111.2.2.2.2.2.2.2.2.2.2.2.2.2.2.2.2.2.1
theorem dMod_digest_146 : decode cMod_digest 146 = .ok (.bipush 6, 2) := zfMod_digest_111.2.2.2.2.2.2.2.2.2.2.2.2.2.2.2.2.2.2.1
theorem dMod_digest_148 : decode cMod_digest 148 = .ok (.if_icmp .ge 22, 3) := zfMod_digest_111.2.2.2.2.2.2.2.2.2.2.2.2.2.2.2.2.2.2.2.1
theorem dMod_digest_151 : decode cMod_digest 151 = .ok (.lload_n 1, 1) := zfMod_digest_111.2.2.2.2.2.2.2.2.2.2.2.2.2.2.2.2.2.2.2.2.1
theorem dMod_digest_152 : decode cMod_digest 152 = .ok (.aload_n 0, 1) := zfMod_digest_111.2.2.2.2.2.2.2.2.2.2.2.2.2.2.2.2.2.2.2.2.2.1
theorem dMod_digest_153 : decode cMod_digest 153 = .ok (.iload_n 3, 1) := zfMod_digest_111.2.2.2.2.2.2.2.2.2.2.2.2.2.2.2.2.2.2.2.2.2.2.1
theorem dMod_digest_154 : decode cMod_digest 154 = .ok (.iload 4, 2) := zfMod_digest_111.2.2.2.2.2.2.2.2.2.2.2.2.2.2.2.2.2.2.2.2.2.2.2.1
theorem dMod_digest_156 : decode cMod_digest 156 = .ok (.invokevirtual 154, 3) := zfMod_digest_111.2.2.2.2.2.2.2.2.2.2.2.2.2.2.2.2.2.2.2.2.2.2.2.2.1
theorem dMod_digest_159 : decode cMod_digest 159 = .ok (.i2l, 1) := zfMod_digest_111.2.2.2.2.2.2.2.2.2.2.2.2.2.2.2.2.2.2.2.2.2.2.2.2.2.1
theorem dMod_digest_160 : decode cMod_digest 160 = .ok (.invokestatic 210, 3) := zfMod_digest_111.2.2.2.2.2.2.2.2.2.2.2.2.2.2.2.2.2.2.2.2.2.2.2.2.2.2.1
theorem dMod_digest_163 : decode cMod_digest 163 = .ok (.lstore_n 1, 1) := zfMod_digest_111.2.2.2.2.2.2.2.2.2.2.2.2.2.2.2.2.2.2.2.2.2.2.2.2.2.2.2.1
theorem dMod_digest_164 : decode cMod_digest 164 = .ok (.iinc 4 1, 3) := zfMod_digest_111.2.2.2.2.2.2.2.2.2.2.2.2.2.2.2.2.2.2.2.2.2.2.2.2.2.2.2.2.1
theorem dMod_digest_167 : decode cMod_digest 167 = .ok (.goto (-23), 3) := zfMod_digest_111.2.2.2.2.2.2.2.2.2.2.2.2.2.2.2.2.2.2.2.2.2.2.2.2.2.2.2.2.2.1
theorem dMod_digest_170 : decode cMod_digest 170 = .ok (.iinc 3 1, 3) := zfMod_digest_111.2.2.2.2.2.2.2.2.2.2.2.2.2.2.2.2.2.2.2.2.2.2.2.2.2.2.2.2.2.2.1
theorem dMod_digest_173 : decode cMod_digest 173 = .ok (.goto (-37), 3) := zfMod_digest_111.2.2.2.2.2.2.2.2.2.2.2.2.2.2.2.2.2.2.2.2.2.2.2.2.2.2.2.2.2.2.2.1
theorem zfMod_digest_176 : decode cMod_digest 176 = .ok (.iconst 0, 1) ∧ decode cMod_digest 177 = .ok (.istore_n 3, 1) ∧ decode cMod_digest 178 = .ok (.iload_n 3, 1) ∧ decode cMod_digest 179 = .ok (.iconst 4, 1) ∧ decode cMod_digest 180 = .ok (.if_icmp .ge 20, 3) ∧ decode cMod_digest 183 = .ok (.lload_n 1, 1) ∧ decode cMod_digest 184 = .ok (.aload_n 0, 1) ∧ decode cMod_digest 185 = .ok (.iload_n 3, 1) ∧ decode cMod_digest 186 = .ok (.invokevirtual 190, 3) ∧ decode cMod_digest 189 = .ok (.i2l, 1) ∧ decode cMod_digest 190 = .ok (.invokestatic 210, 3) ∧ decode cMod_digest 193 = .ok (.lstore_n 1, 1) ∧ decode cMod_digest 194 = .ok (.iinc 3 1, 3) ∧ decode cMod_digest 197 = .ok (.goto (-19), 3) ∧ decode cMod_digest 200 = .ok (.aload_n 0, 1) ∧ decode cMod_digest 201 = .ok (.getfield 31, 3) ∧ decode cMod_digest 204 = .ok (.astore_n 3, 1) ∧ decode cMod_digest 205 = .ok (.aload_n 3, 1) ∧ decode cMod_digest 206 = .ok (.arraylength, 1) ∧ decode cMod_digest 207 = .ok (.istore 4, 2) ∧ decode cMod_digest 209 = .ok (.iconst 0, 1) ∧ decode cMod_digest 210 = .ok (.istore 5, 2) ∧ decode cMod_digest 212 = .ok (.iload 5, 2) ∧ decode cMod_digest 214 = .ok (.iload 4, 2) ∧ decode cMod_digest 216 = .ok (.if_icmp .ge 23, 3) ∧ decode cMod_digest 219 = .ok (.aload_n 3, 1) ∧ decode cMod_digest 220 = .ok (.iload 5, 2) ∧ decode cMod_digest 222 = .ok (.iaload, 1) ∧ decode cMod_digest 223 = .ok (.istore 6, 2) ∧ decode cMod_digest 225 = .ok (.lload_n 1, 1) ∧ decode cMod_digest 226 = .ok (.iload 6, 2) ∧ decode cMod_digest 228 = .ok (.i2l, 1) ∧ True := Jvm.Free.DS.facts (code := cMod_digest) 176 [(.iconst 0, 1), (.istore_n 3, 1), (.iload_n 3, 1), (.iconst 4, 1), (.if_icmp .ge 20, 3), (.lload_n 1, 1), (.aload_n 0, 1), (.iload_n 3, 1), (.invokevirtual 190, 3), (.i2l, 1), (.invokestatic 210, 3), (.lstore_n 1, 1), (.iinc 3 1, 3), (.goto (-19), 3), (.aload_n 0, 1), (.getfield 31, 3), (.astore_n 3, 1), (.aload_n 3, 1), (.arraylength, 1), (.istore 4, 2), (.iconst 0, 1), (.istore 5, 2), (.iload 5, 2), (.iload 4, 2), (.if_icmp .ge 23, 3), (.aload_n 3, 1), (.iload 5, 2), (.iaload, 1), (.istore 6, 2), (.lload_n 1, 1), (.iload 6, 2), (.i2l, 1)] (by decide +kernel) (by decide +kernel)
theorem dMod_digest_176 : decode cMod_digest 176 = .ok (.iconst 0, 1) := zfMod_digest_176.1
theorem dMod_digest_177 : decode cMod_digest 177 = .ok (.istore_n 3, 1) := zfMod_digest_176.2.1
theorem dMod_digest_178 : decode cMod_digest 178 = .ok (.iload_n 3, 1) := zfMod_digest_176.2.2.1
theorem dMod_digest_179 : decode cMod_digest 179 = .ok (.iconst 4, 1) := zfMod_digest_176.2.2.2.1
theorem dMod_digest_180 : decode cMod_digest 180 = .ok (.if_icmp .ge 20, 3) := zfMod_digest_176.2.2.2.2.1
theorem dMod_digest_183 : decode cMod_digest 183 = .ok (.lload_n 1, 1) := zfMod_digest_176.2.2.2.2.2.1
theorem dMod_digest_184 : decode cMod_digest 184 = .ok (.aload_n 0, 1) := zfMod_digest_176.2.2.2.2.2.2.1
theorem dMod_digest_185 : decode cMod_digest 185 = .ok (.iload_n 3, 1) := zfMod_digest_176.2.2.2.2.2.2.2.1
theorem dMod_digest_186 : decode cMod_digest 186 = .ok (.invokevirtual 190, 3) := zfMod_digest_176.2.2.2.2.2.2.2.2.1
theorem dMod_digest_189 : decode cMod_digest 189 = .ok (.i2l, 1) := zfMod_digest_176.2.2.2.2.2.2.2.2.2.1
theorem dMod_digest_190 : decode cMod_digest 190 = .ok (.invokestatic 210, 3) := zfMod_digest_176.2.2.2.2.2.2.2.2.2.2.1
theorem dMod_digest_193 : decode cMod_digest 193 = .ok (.lstore_n 1, 1) := zfMod_digest_176.2.2.2.2.2.2.2.2.2.2.2.1
theorem dMod_digest_194 : decode cMod_digest 194 = .ok (.iinc 3 1, 3) := zfMod_digest_176.2.2.2.2.2.2.2.2.2.2.2.2.1
theorem dMod_digest_197 : decode cMod_digest 197 = .ok (.goto (-19), 3) := zfMod_digest_176.2.2.2.2.2.2.2.2.2.2.2.2.2.1
theorem dMod_digest_200 : decode cMod_digest 200 = .ok (.aload_n 0, 1) := zfMod_digest_176.2.2.2.2.2.2.2.2.2.2.2.2.2.2.1
theorem dMod_digest_201 : decode cMod_digest 201 = .ok (.getfield 31, 3) := zfMod_digest_176.2.2.2.2.2.2.2.2.2.2.2.2.2.2.2.1
theorem dMod_digest_204 : decode cMod_digest 204 = .ok (.astore_n 3, 1) := zfMod_digest_176.2.2.2.2.2.2.2.2.2.2.2.2.2.2.2.2.1
theorem dMod_digest_205 : decode cMod_digest 205 = .ok (.aload_n 3, 1) := zfMod_digest_176.2.2.2.2.2.2.2.2.2.2.2.2.2.2.2.2.2.1
theorem dMod_digest_206 : decode cMod_digest 206 = .ok (.arraylength, 1) := zfMod_digest_176.2.2.2.2.2.2.2.2.2.2.2.2.2.2.2.2.2.2.1
theorem dMod_digest_207 : decode cMod_digest 207 = .ok (.istore 4, 2) := zfMod_digest_176.2.2.2.2.2.2.2.2.2.2.2.2.2.2.2.2.2.2.2.1
theorem dMod_digest_209 : decode cMod_digest 209 = .ok (.iconst 0, 1) := zfMod_digest_176.2.2.2.2.2.2.2.2.2.2.2.2.2.2.2.2.2.2.2.2.1
theorem dMod_digest_210 : decode cMod_digest 210 = .ok (.istore 5, 2) := zfMod_digest_176.2.2.2.2.2.2.2.2.2.2.2.2.2.2.2.2.2.2.2.2.2.1
theorem dMod_digest_212 : decode cMod_digest 212 = .ok (.iload 5, 2) := zfMod_digest_176.2.2.2.2.2.2.2.2.2.2.2.2.2.2.2.2.2.2.2.2.2.2.1
theorem dMod_digest_214 : decode cMod_digest 214 = .ok (.iload 4, 2) := zfMod_digest_176.2.2.2.2.2.2.2.2.2.2.2.2.2.2.2.2.2.2.2.2.2.2.2.1
theorem dMod_digest_216 : decode cMod_digest 216 = .ok (.if_icmp .ge 23, 3) := zfMod_digest_176.2.2.2.2.2.2.2.2.2.2.2.2.2.2.2.2.2.2.2.2.2.2.2.2.1
theorem dMod_digest_219 : decode cMod_digest 219 = .ok (.aload_n 3, 1) := zfMod_digest_176.2.2.2.2.2.2.2.2.2.2.2.2.2.2.2.2.2.2.2.2.2.2.2.2.2.1
theorem dMod_digest_220 : decode cMod_digest 220 = .ok (.iload 5, 2) := zfMod_digest_176.2.2.2.2.2.2.2.2.2.2.2.2.2.2.2.2.2.2.2.2.2.2.2.2.2.2.1
theorem dMod_digest_222 : decode cMod_digest 222 = .ok (.iaload, 1) := zfMod_digest_176.2.2.2.2.2.2.2.2.2.2.2.2.2.2.2.2.2.2.2.2.2.2.2.2.2.2.2.1
theorem dMod_digest_223 : decode cMod_digest 223 = .ok (.istore 6, 2) := zfMod_digest_176.2.2.2.2.2.2.2.2.2.2.2.2.2.2.2.2.2.2.2.2.2.2.2.2.2.2.2.2.1
theorem dMod_digest_225 : decode cMod_digest 225 = .ok (.lload_n 1, 1) := zfMod_digest_176.2.2.2.2.2.2.2.2.2.2.2.2.2.2.2.2.2.2.2.2.2.2.2.2.2.2.2.2.2.1
theorem dMod_digest_226 : decode cMod_digest 226 = .ok (.iload 6, 2) := zfMod_digest_176.2.2.2.2.2.2.2.2.2.2.2.2.2.2.2.2.2.2.2.2.2.2.2.2.2.2.2.2.2.2.1
theorem dMod_digest_228 : decode cMod_digest 228 = .ok (.i2l, 1) := zfMod_digest_176.2.2.2.2.2.2.2.2.2.2.2.2.2.2.2.2.2.2.2.2.2.2.2.2.2.2.2.2.2.2.2.1
theorem zfMod_digest_229 : decode cMod_digest 229 = .ok (.invokestatic 210, 3) ∧ decode cMod_digest 232 = .ok (.lstore_n 1, 1) ∧ decode cMod_digest 233 = .ok (.iinc 5 1, 3) ∧ decode cMod_digest 236 = .ok (.goto (-24), 3) ∧ decode cMod_digest 239 = .ok (.aload_n 0, 1) ∧ decode cMod_digest 240 = .ok (.getfield 11, 3) ∧ decode cMod_digest 243 = .ok (.astore_n 3, 1) ∧ decode cMod_digest 244 = .ok (.aload_n 3, 1) ∧ decode cMod_digest 245 = .ok (.arraylength, 1) ∧ decode cMod_digest 246 = .ok (.istore 4, 2) ∧ decode cMod_digest 248 = .ok (.iconst 0, 1) ∧ decode cMod_digest 249 = .ok (.istore 5, 2) ∧ decode cMod_digest 251 = .ok (.iload 5, 2) ∧ decode cMod_digest 253 = .ok (.iload 4, 2) ∧ decode cMod_digest 255 = .ok (.if_icmp .ge 70, 3) ∧ decode cMod_digest 258 = .ok (.aload_n 3, 1) ∧ decode cMod_digest 259 = .ok (.iload 5, 2) ∧ decode cMod_digest 261 = .ok (.aaload, 1) ∧ decode cMod_digest 262 = .ok (.astore 6, 2) ∧ decode cMod_digest 264 = .ok (.lload_n 1, 1) ∧ decode cMod_digest 265 = .ok (.aload 6, 2) ∧ decode cMod_digest 267 = .ok (.invokestatic 193, 3) ∧ decode cMod_digest 270 = .ok (.ifCond .eq 7, 3) ∧ decode cMod_digest 273 = .ok (.lconst 1, 1) ∧ decode cMod_digest 274 = .ok (.goto 4, 3) ∧ decode cMod_digest 277 = .ok (.lconst 0, 1) ∧ decode cMod_digest 278 = .ok (.invokestatic 210, 3) ∧ decode cMod_digest 281 = .ok (.lstore_n 1, 1) ∧ decode cMod_digest 282 = .ok (.iconst 0, 1) ∧ decode cMod_digest 283 = .ok (.istore 7, 2) ∧ decode cMod_digest 285 = .ok (.aload 6, 2) ∧ decode cMod_digest 287 = .ok (.invokestatic 193, 3) ∧ True := Jvm.Free.DS.facts (code := cMod_digest) 229 [(.invokestatic 210, 3), (.lstore_n 1, 1), (.iinc 5 1, 3), (.goto (-24), 3), (.aload_n 0, 1), (.getfield 11, 3), (.astore_n 3, 1), (.aload_n 3, 1), (.arraylength, 1), (.istore 4, 2), (.iconst 0, 1), (.istore 5, 2), (.iload 5, 2), (.iload 4, 2), (.if_icmp .ge 70, 3), (.aload_n 3, 1), (.iload 5, 2), (.aaload, 1), (.astore 6, 2), (.lload_n 1, 1), (.aload 6, 2), (.invokestatic 193, 3), (.ifCond .eq 7, 3), (.lconst 1, 1), (.goto 4, 3), (.lconst 0, 1), (.invokestatic 210, 3), (.lstore_n 1, 1), (.iconst 0, 1), (.istore 7, 2), (.aload 6, 2), (.invokestatic 193, 3)] (by decide +kernel) (by decide +kernel)
theorem dMod_digest_229 : decode cMod_digest 229 = .ok (.invokestatic 210, 3) := zfMod_digest_229.1
theorem dMod_digest_232 : decode cMod_digest 232 = .ok (.lstore_n 1, 1) := zfMod_digest_229.2.1
theorem dMod_digest_233 : decode cMod_digest 233 = .ok (.iinc 5 1, 3) := zfMod_digest_229.2.2.1
theorem dMod_digest_236 : decode cMod_digest 236 = .ok (.goto (-24), 3) := zfMod_digest_229.2.2.2.1
theorem dMod_digest_239 : decode cMod_digest 239 = .ok (.aload_n 0, 1) := zfMod_digest_229.2.2.2.2.1
theorem dMod_digest_240 : decode cMod_digest 240 = .ok (.getfield 11, 3) := zfMod_digest_229.2.2.2.2.2.1
theorem dMod_digest_243 : decode cMod_digest 243 = .ok (.astore_n 3, 1) := zfMod_digest_229.2.2.2.2.2.2.1
theorem dMod_digest_244 : decode cMod_digest 244 = .ok (.aload_n 3, 1) := zfMod_digest_229.2.2.2.2.2.2.2.1
theorem dMod_digest_245 : decode cMod_digest 245 = .ok (.arraylength, 1) := zfMod_digest_229.2.2.2.2.2.2.2.2.1
theorem dMod_digest_246 : decode cMod_digest 246 = .ok (.istore 4, 2) := zfMod_digest_229.2.2.2.2.2.2.2.2.2.1
theorem dMod_digest_248 : decode cMod_digest 248 = .ok (.iconst 0, 1) := zfMod_digest_229.2.2.2.2.2.2.2.2.2.2.1
theorem dMod_digest_249 : decode cMod_digest 249 = .ok (.istore 5, 2) := zfMod_digest_229.2.2.2.2.2.2.2.2.2.2.2.1
theorem dMod_digest_251 : decode cMod_digest 251 = .ok (.iload 5, 2) := zfMod_digest_229.2.2.2.2.2.2.2.2.2.2.2.2.1
theorem dMod_digest_253 : decode cMod_digest 253 = .ok (.iload 4, 2) := zfMod_digest_229.2.2.2.2.2.2.2.2.2.2.2.2.2.1
theorem dMod_digest_255 : decode cMod_digest 255 = .ok (.if_icmp .ge 70, 3) := zfMod_digest_229.2.2.2.2.2.2.2.2.2.2.2.2.2.2.1
theorem dMod_digest_258 : decode cMod_digest 258 = .ok (.aload_n 3, 1) := zfMod_digest_229.2.2.2.2.2.2.2.2.2.2.2.2.2.2.2.1
theorem dMod_digest_259 : decode cMod_digest 259 = .ok (.iload 5, 2) := zfMod_digest_229.2.2.2.2.2.2.2.2.2.2.2.2.2.2.2.2.1
theorem dMod_digest_261 : decode cMod_digest 261 = .ok (.aaload, 1) := zfMod_digest_229.2.2.2.2.2.2.2.2.2.2.2.2.2.2.2.2.2.1
theorem dMod_digest_262 : decode cMod_digest 262 = .ok (.astore 6, 2) := zfMod_digest_229.2.2.2.2.2.2.2.2.2.2.2.2.2.2.2.2.2.2.1
theorem dMod_digest_264 : decode cMod_digest 264 = .ok (.lload_n 1, 1) := zfMod_digest_229.2.2.2.2.2.2.2.2.2.2.2.2.2.2.2.2.2.2.2.1
theorem dMod_digest_265 : decode cMod_digest 265 = .ok (.aload 6, 2) := zfMod_digest_229.2.2.2.2.2.2.2.2.2.2.2.2.2.2.2.2.2.2.2.2.1
theorem dMod_digest_267 : decode cMod_digest 267 = .ok (.invokestatic 193, 3) := zfMod_digest_229.2.2.2.2.2.2.2.2.2.2.2.2.2.2.2.2.2.2.2.2.2.1
theorem dMod_digest_270 : decode cMod_digest 270 = .ok (.ifCond .eq 7, 3) := zfMod_digest_229.2.2.2.2.2.2.2.2.2.2.2.2.2.2.2.2.2.2.2.2.2.2.1
theorem dMod_digest_273 : decode cMod_digest 273 = .ok (.lconst 1, 1) := zfMod_digest_229.2.2.2.2.2.2.2.2.2.2.2.2.2.2.2.2.2.2.2.2.2.2.2.1
theorem dMod_digest_274 : decode cMod_digest 274 = .ok (.goto 4, 3) := zfMod_digest_229.2.2.2.2.2.2.2.2.2.2.2.2.2.2.2.2.2.2.2.2.2.2.2.2.1
theorem dMod_digest_277 : decode cMod_digest 277 = .ok (.lconst 0, 1) := zfMod_digest_229.2.2.2.2.2.2.2.2.2.2.2.2.2.2.2.2.2.2.2.2.2.2.2.2.2.1
theorem dMod_digest_278 : decode cMod_digest 278 = .ok (.invokestatic 210, 3) := zfMod_digest_229.2.2.2.2.2.2.2.2.2.2.2.2.2.2.2.2.2.2.2.2.2.2.2.2.2.2.1
theorem dMod_digest_281 : decode cMod_digest 281 = .ok (.lstore_n 1, 1) := zfMod_digest_229.2.2.2.2.2.2.2.2.2.2.2.2.2.2.2.2.2.2.2.2.2.2.2.2.2.2.2.1
theorem dMod_digest_282 : decode cMod_digest 282 = .ok (.iconst 0, 1) := zfMod_digest_229.2.2.2.2.2.2.2.2.2.2.2.2.2.2.2.2.2.2.2.2.2.2.2.2.2.2.2.2.1
theorem dMod_digest_283 : decode cMod_digest 283 = .ok (.istore 7, 2) := zfMod_digest_229.2.2.2.2.2.2.2.2.2.2.2.2.2.2.2.2.2.2.2.2.2.2.2.2.2.2.2.2.2.1
theorem dMod_digest_285 : decode cMod_digest 285 = .ok (.aload 6, 2) := zfMod_digest_229.2.2.2.2.2.2.2.2.2.2.2.2.2.2.2.2.2.2.2.2.2.2.2.2.2.2.2.2.2.2.1
theorem dMod_digest_287 : decode cMod_digest 287 = .ok (.invokestatic 193, 3) := zfMod_digest_229.2.2.2.2.2.2.2.2.2.2.2.2.2.2.2.2.2.2.2.2.2.2.2.2.2.2.2.2.2.2.2.1
theorem zfMod_digest_290 : decode cMod_digest 290 = .ok (.ifCond .eq 29, 3) ∧ decode cMod_digest 293 = .ok (.iload 7, 2) ∧ decode cMod_digest 295 = .ok (.iconst 3, 1) ∧ decode cMod_digest 296 = .ok (.if_icmp .ge 23, 3) ∧ decode cMod_digest 299 = .ok (.lload_n 1, 1) ∧ decode cMod_digest 300 = .ok (.aload_n 0, 1) ∧ decode cMod_digest 301 = .ok (.aload 6, 2) ∧ decode cMod_digest 303 = .ok (.iload 7, 2) ∧ decode cMod_digest 305 = .ok (.invokevirtual 197, 3) ∧ decode cMod_digest 308 = .ok (.i2l, 1) ∧ decode cMod_digest 309 = .ok (.invokestatic 210, 3) ∧ decode cMod_digest 312 = .ok (.lstore_n 1, 1) ∧ decode cMod_digest 313 = .ok (.iinc 7 1, 3) ∧ decode cMod_digest 316 = .ok (.goto (-31), 3) ∧ decode cMod_digest 319 = .ok (.iinc 5 1, 3) ∧ decode cMod_digest 322 = .ok (.goto (-71), 3) ∧ decode cMod_digest 325 = .ok (.lload_n 1, 1) ∧ decode cMod_digest 326 = .ok (.lconst 1, 1) ∧ decode cMod_digest 327 = .ok (.invokestatic 210, 3) ∧ decode cMod_digest 330 = .ok (.lreturn, 1) ∧ True := Jvm.Free.DS.facts (code := cMod_digest) 290 [(.ifCond .eq 29, 3), (.iload 7, 2), (.iconst 3, 1), (.if_icmp .ge 23, 3), (.lload_n 1, 1), (.aload_n 0, 1), (.aload 6, 2), (.iload 7, 2), (.invokevirtual 197, 3), (.i2l, 1), (.invokestatic 210, 3), (.lstore_n 1, 1), (.iinc 7 1, 3), (.goto (-31), 3), (.iinc 5 1, 3), (.goto (-71), 3), (.lload_n 1, 1), (.lconst 1, 1), (.invokestatic 210, 3), (.lreturn, 1)] (by decide +kernel) (by decide +kernel)
theorem dMod_digest_290 : decode cMod_digest 290 = .ok (.ifCond .eq 29, 3) := zfMod_digest_290.1
theorem dMod_digest_293 : decode cMod_digest 293 = .ok (.iload 7, 2) := zfMod_digest_290.2.1
theorem dMod_digest_295 : decode cMod_digest 295 = .ok (.iconst 3, 1) := zfMod_digest_290.2.2.1
theorem dMod_digest_296 : decode cMod_digest 296 = .ok (.if_icmp .ge 23, 3) := zfMod_digest_290.2.2.2.1
theorem dMod_digest_299 : decode cMod_digest 299 = .ok (.lload_n 1, 1) := zfMod_digest_290.2.2.2.2.1
theorem dMod_digest_300 : decode cMod_digest 300 = .ok (.aload_n 0, 1) := zfMod_digest_290.2.2.2.2.2.1
theorem dMod_digest_301 : decode cMod_digest 301 = .ok (.aload 6, 2) := zfMod_digest_290.2.2.2.2.2.2.1
theorem dMod_digest_303 : decode cMod_digest 303 = .ok (.iload 7, 2) := zfMod_digest_290.2.2.2.2.2.2.2.1
theorem dMod_digest_305 : decode cMod_digest 305 = .ok (.invokevirtual 197, 3) := zfMod_digest_290.2.2.2.2.2.2.2.2.1
theorem dMod_digest_308 : decode cMod_digest 308 = .ok (.i2l, 1) := zfMod_digest_290.2.2.2.2.2.2.2.2.2.1
theorem dMod_digest_309 : decode cMod_digest 309 = .ok (.invokestatic 210, 3) := zfMod_digest_290.2.2.2.2.2.2.2.2.2.2.1
theorem dMod_digest_312 : decode cMod_digest 312 = .ok (.lstore_n 1, 1) := zfMod_digest_290.2.2.2.2.2.2.2.2.2.2.2.1
theorem dMod_digest_313 : decode cMod_digest 313 = .ok (.iinc 7 1, 3) := zfMod_digest_290.2.2.2.2.2.2.2.2.2.2.2.2.1
theorem dMod_digest_316 : decode cMod_digest 316 = .ok (.goto (-31), 3) := zfMod_digest_290.2.2.2.2.2.2.2.2.2.2.2.2.2.1
theorem dMod_digest_319 : decode cMod_digest 319 = .ok (.iinc 5 1, 3) := zfMod_digest_290.2.2.2.2.2.2.2.2.2.2.2.2.2.2.1
theorem dMod_digest_322 : decode cMod_digest 322 = .ok (.goto (-71), 3) := zfMod_digest_290.2.2.2.2.2.2.2.2.2.2.2.2.2.2.2.1
theorem dMod_digest_325 : decode cMod_digest 325 = .ok (.lload_n 1, 1) := zfMod_digest_290.2.2.2.2.2.2.2.2.2.2.2.2.2.2.2.2.1
theorem dMod_digest_326 : decode cMod_digest 326 = .ok (.lconst 1, 1) := zfMod_digest_290.2.2.2.2.2.2.2.2.2.2.2.2.2.2.2.2.2.1
theorem dMod_digest_327 : decode cMod_digest 327 = .ok (.invokestatic 210, 3) := zfMod_digest_290.2.2.2.2.2.2.2.2.2.2.2.2.2.2.2.2.2.2.1
theorem dMod_digest_330 : decode cMod_digest 330 = .ok (.lreturn, 1) := zfMod_digest_290.2.2.2.2.2.2.2.2.2.2.2.2.2.2.2.2.2.2.2.1
theorem zfAsb_init_d00df_0 : decode cAsb_init_d00df 0 = .ok (.aload_n 0, 1) ∧ decode cAsb_init_d00df 1 = .ok (.invokespecial 3, 3) ∧ decode cAsb_init_d00df 4 = .ok (.getstatic 18, 3) ∧ decode cAsb_init_d00df 7 = .ok (.ifCond .eq 18, 3) ∧ decode cAsb_init_d00df 10 = .ok (.aload_n 0, 1) ∧ decode cAsb_init_d00df 11 = .ok (.iload_n 1, 1) ∧ decode cAsb_init_d00df 12 = .ok (.newarray .byte, 2) ∧ decode cAsb_init_d00df 14 = .ok (.putfield 15, 3) ∧ decode cAsb_init_d00df 17 = .ok (.aload_n 0, 1) ∧ decode cAsb_init_d00df 18 = .ok (.iconst 0, 1) ∧ decode cAsb_init_d00df 19 = .ok (.putfield 22, 3) ∧ decode cAsb_init_d00df 22 = .ok (.goto 16, 3) ∧ decode cAsb_init_d00df 25 = .ok (.aload_n 0, 1) ∧ decode cAsb_init_d00df 26 = .ok (.iload_n 1, 1) ∧ decode cAsb_init_d00df 27 = .ok (.invokestatic 26, 3) ∧ decode cAsb_init_d00df 30 = .ok (.putfield 15, 3) ∧ decode cAsb_init_d00df 33 = .ok (.aload_n 0, 1) ∧ decode cAsb_init_d00df 34 = .ok (.iconst 1, 1) ∧ decode cAsb_init_d00df 35 = .ok (.putfield 22, 3) ∧ decode cAsb_init_d00df 38 = .ok (.return_, 1) ∧ True := Jvm.Free.DS.facts (code := cAsb_init_d00df) 0 [(.aload_n 0, 1), (.invokespecial 3, 3), (.getstatic 18, 3), (.ifCond .eq 18, 3), (.aload_n 0, 1), (.iload_n 1, 1), (.newarray .byte, 2), (.putfield 15, 3), (.aload_n 0, 1), (.iconst 0, 1), (.putfield 22, 3), (.goto 16, 3), (.aload_n 0, 1), (.iload_n 1, 1), (.invokestatic 26, 3), (.putfield 15, 3), (.aload_n 0, 1), (.iconst 1, 1), (.putfield 22, 3), (.return_, 1)] (by decide +kernel) (by decide +kernel)
theorem dAsb_init_d00df_0 : decode cAsb_init_d00df 0 = .ok (.aload_n 0, 1) := zfAsb_init_d00df_0.1
theorem dAsb_init_d00df_1 : decode cAsb_init_d00df 1 = .ok (.invokespecial 3, 3) := zfAsb_init_d00df_0.2.1
theorem dAsb_init_d00df_4 : decode cAsb_init_d00df 4 = .ok (.getstatic 18, 3) := zfAsb_init_d00df_0.2.2.1
theorem dAsb_init_d00df_7 : decode cAsb_init_d00df 7 = .ok (.ifCond .eq 18, 3) := zfAsb_init_d00df_0.2.2.2.1
theorem dAsb_init_d00df_10 : decode cAsb_init_d00df 10 = .ok (.aload_n 0, 1) := zfAsb_init_d00df_0.2.2.2.2.1
theorem dAsb_init_d00df_11 : decode cAsb_init_d00df 11 = .ok (.iload_n 1, 1) := zfAsb_init_d00df_0.2.2.2.2.2.1
theorem dAsb_init_d00df_12 : decode cAsb_init_d00df 12 = .ok (.newarray .byte, 2) := zfAsb_init_d00df_0.2.2.2.2.2.2.1
theorem dAsb_init_d00df_14 : decode cAsb_init_d00df 14 = .ok (.putfield 15, 3) := zfAsb_init_d00df_0.2.2.2.2.2.2.2.1
theorem dAsb_init_d00df_17 : decode cAsb_init_d00df 17 = .ok (.aload_n 0, 1) := zfAsb_init_d00df_0.2.2.2.2.2.2.2.2.1
theorem dAsb_init_d00df_18 : decode cAsb_init_d00df 18 = .ok (.iconst 0, 1) := zfAsb_init_d00df_0.2.2.2.2.2.2.2.2.2.1
theorem dAsb_init_d00df_19 : decode cAsb_init_d00df 19 = .ok (.putfield 22, 3) := zfAsb_init_d00df_0.2.2.2.2.2.2.2.2.2.2.1
theorem dAsb_init_d00df_22 : decode cAsb_init_d00df 22 = .ok (.goto 16, 3) := zfAsb_init_d00df_0.2.2.2.2.2.2.2.2.2.2.2.1
theorem dAsb_init_d00df_25 : decode cAsb_init_d00df 25 = .ok (.aload_n 0, 1) := zfAsb_init_d00df_0.2.2.2.2.2.2.2.2.2.2.2.2.1
theorem dAsb_init_d00df_26 : decode cAsb_init_d00df 26 = .ok (.iload_n 1, 1) := zfAsb_init_d00df_0.2.2.2.2.2.2.2.2.2.2.2.2.2.1
theorem dAsb_init_d00df_27 : decode cAsb_init_d00df 27 = .ok (.invokestatic 26, 3) := zfAsb_init_d00df_0.2.2.2.2.2.2.2.2.2.2.2.2.2.2.1
theorem dAsb_init_d00df_30 : decode cAsb_init_d00df 30 = .ok (.putfield 15, 3) := zfAsb_init_d00df_0.2.2.2.2.2.2.2.2.2.2.2.2.2.2.2.1
theorem dAsb_init_d00df_33 : decode cAsb_init_d00df 33 = .ok (.aload_n 0, 1) := zfAsb_init_d00df_0.2.2.2.2.2.2.2.2.2.2.2.2.2.2.2.2.1
theorem dAsb_init_d00df_34 : decode cAsb_init_d00df 34 = .ok (.iconst 1, 1) := zfAsb_init_d00df_0.2.2.2.2.2.2.2.2.2.2.2.2.2.2.2.2.2.1
theorem dAsb_init_d00df_35 : decode cAsb_init_d00df 35 = .ok (.putfield 22, 3) := zfAsb_init_d00df_0.2.2.2.2.2.2.2.2.2.2.2.2.2.2.2.2.2.2.1
theorem dAsb_init_d00df_38 : decode cAsb_init_d00df 38 = .ok (.return_, 1) := zfAsb_init_d00df_0.2.2.2.2.2.2.2.2.2.2.2.2.2.2.2.2.2.2.2.1
theorem zfAsb_length_8abf5_0 : decode cAsb_length_8abf5 0 = .ok (.aload_n 0, 1) ∧ decode cAsb_length_8abf5 1 = .ok (.getfield 79, 3) ∧ decode cAsb_length_8abf5 4 = .ok (.ireturn, 1) ∧ True := Jvm.Free.DS.facts (code := cAsb_length_8abf5) 0 [(.aload_n 0, 1), (.getfield 79, 3), (.ireturn, 1)] (by decide +kernel) (by decide +kernel)
theorem dAsb_length_8abf5_0 : decode cAsb_length_8abf5 0 = .ok (.aload_n 0, 1) := zfAsb_length_8abf5_0.1
theorem dAsb_length_8abf5_1 : decode cAsb_length_8abf5 1 = .ok (.getfield 79, 3) := zfAsb_length_8abf5_0.2.1
theorem dAsb_length_8abf5_4 : decode cAsb_length_8abf5 4 = .ok (.ireturn, 1) := zfAsb_length_8abf5_0.2.2.1
theorem zfAsb_ensureCapacityInternal_d00df_0 : decode cAsb_ensureCapacityInternal_d00df 0 = .ok (.aload_n 0, 1) ∧ decode cAsb_ensureCapacityInternal_d00df 1 = .ok (.getfield 15, 3) ∧ decode cAsb_ensureCapacityInternal_d00df 4 = .ok (.arraylength, 1) ∧ decode cAsb_ensureCapacityInternal_d00df 5 = .ok (.aload_n 0, 1) ∧ decode cAsb_ensureCapacityInternal_d00df 6 = .ok (.getfield 22, 3) ∧ decode cAsb_ensureCapacityInternal_d00df 9 = .ok (.ishr, 1) ∧ decode cAsb_ensureCapacityInternal_d00df 10 = .ok (.istore_n 2, 1) ∧ decode cAsb_ensureCapacityInternal_d00df 11 = .ok (.iload_n 1, 1) ∧ decode cAsb_ensureCapacityInternal_d00df 12 = .ok (.iload_n 2, 1) ∧ decode cAsb_ensureCapacityInternal_d00df 13 = .ok (.isub, 1) ∧ decode cAsb_ensureCapacityInternal_d00df 14 = .ok (.ifCond .le 24, 3) ∧ decode cAsb_ensureCapacityInternal_d00df 17 = .ok (.aload_n 0, 1) ∧ decode cAsb_ensureCapacityInternal_d00df 18 = .ok (.aload_n 0, 1) ∧ decode cAsb_ensureCapacityInternal_d00df 19 = .ok (.getfield 15, 3) ∧ decode cAsb_ensureCapacityInternal_d00df 22 = .ok (.aload_n 0, 1) ∧ decode cAsb_ensureCapacityInternal_d00df 23 = .ok (.iload_n 1, 1) ∧ decode cAsb_ensureCapacityInternal_d00df 24 = .ok (.invokevirtual 104, 3) ∧ decode cAsb_ensureCapacityInternal_d00df 27 = .ok (.aload_n 0, 1) ∧ decode cAsb_ensureCapacityInternal_d00df 28 = .ok (.getfield 22, 3) ∧ decode cAsb_ensureCapacityInternal_d00df 31 = .ok (.ishl, 1) ∧ decode cAsb_ensureCapacityInternal_d00df 32 = .ok (.invokestatic 108, 3) ∧ decode cAsb_ensureCapacityInternal_d00df 35 = .ok (.putfield 15, 3) ∧ decode cAsb_ensureCapacityInternal_d00df 38 = .ok (.return_, 1) ∧ True := Jvm.Free.DS.facts (code := cAsb_ensureCapacityInternal_d00df) 0 [(.aload_n 0, 1), (.getfield 15, 3), (.arraylength, 1), (.aload_n 0, 1), (.getfield 22, 3), (.ishr, 1), (.istore_n 2, 1), (.iload_n 1, 1), (.iload_n 2, 1), (.isub, 1), (.ifCond .le 24, 3), (.aload_n 0, 1), (.aload_n 0, 1), (.getfield 15, 3), (.aload_n 0, 1), (.iload_n 1, 1), (.invokevirtual 104, 3), (.aload_n 0, 1), (.getfield 22, 3), (.ishl, 1), (.invokestatic 108, 3), (.putfield 15, 3), (.return_, 1)] (by decide +kernel) (by decide +kernel)
theorem dAsb_ensureCapacityInternal_d00df_0 : decode cAsb_ensureCapacityInternal_d00df 0 = .ok (.aload_n 0, 1) := zfAsb_ensureCapacityInternal_d00df_0.1
theorem dAsb_ensureCapacityInternal_d00df_1 : decode cAsb_ensureCapacityInternal_d00df 1 = .ok (.getfield 15, 3) := zfAsb_ensureCapacityInternal_d00df_0.2.1
theorem dAsb_ensureCapacityInternal_d00df_4 : decode cAsb_ensureCapacityInternal_d00df 4 = .ok (.arraylength, 1) := zfAsb_ensureCapacityInternal_d00df_0.2.2.1
theorem dAsb_ensureCapacityInternal_d00df_5 : decode cAsb_ensureCapacityInternal_d00df 5 = .ok (.aload_n 0, 1) := zfAsb_ensureCapacityInternal_d00df_0.2.2.2.1
theorem dAsb_ensureCapacityInternal_d00df_6 : decode cAsb_ensureCapacityInternal_d00df 6 = .ok (.getfield 22, 3) := zfAsb_ensureCapacityInternal_d00df_0.2.2.2.2.1
theorem dAsb_ensureCapacityInternal_d00df_9 : decode cAsb_ensureCapacityInternal_d00df 9 = .ok (.ishr, 1) := zfAsb_ensureCapacityInternal_d00df_0.2.2.2.2.2.1
theorem dAsb_ensureCapacityInternal_d00df_10 : decode cAsb_ensureCapacityInternal_d00df 10 = .ok (.istore_n 2, 1) := zfAsb_ensureCapacityInternal_d00df_0.2.2.2.2.2.2.1
theorem dAsb_ensureCapacityInternal_d00df_11 : decode cAsb_ensureCapacityInternal_d00df 11 = .ok (.iload_n 1, 1) := zfAsb_ensureCapacityInternal_d00df_0.2.2.2.2.2.2.2.1
theorem dAsb_ensureCapacityInternal_d00df_12 : decode cAsb_ensureCapacityInternal_d00df 12 = .ok (.iload_n 2, 1) := zfAsb_ensureCapacityInternal_d00df_0.2.2.2.2.2.2.2.2.1
theorem dAsb_ensureCapacityInternal_d00df_13 : decode cAsb_ensureCapacityInternal_d00df 13 = .ok (.isub, 1) := zfAsb_ensureCapacityInternal_d00df_0.2.2.2.2.2.2.2.2.2.1
theorem dAsb_ensureCapacityInternal_d00df_14 : decode cAsb_ensureCapacityInternal_d00df 14 = .ok (.ifCond .le 24, 3) := zfAsb_ensureCapacityInternal_d00df_0.2.2.2.2.2.2.2.2.2.2.1
theorem dAsb_ensureCapacityInternal_d00df_17 : decode cAsb_ensureCapacityInternal_d00df 17 = .ok (.aload_n 0, 1) := zfAsb_ensureCapacityInternal_d00df_0.2.2.2.2.2.2.2.2.2.2.2.1
theorem dAsb_ensureCapacityInternal_d00df_18 : decode cAsb_ensureCapacityInternal_d00df 18 = .ok (.aload_n 0, 1) := zfAsb_ensureCapacityInternal_d00df_0.2.2.2.2.2.2.2.2.2.2.2.2.1
theorem dAsb_ensureCapacityInternal_d00df_19 : decode cAsb_ensureCapacityInternal_d00df 19 = .ok (.getfield 15, 3) := zfAsb_ensureCapacityInternal_d00df_0.2.2.2.2.2.2.2.2.2.2.2.2.2.1
theorem dAsb_ensureCapacityInternal_d00df_22 : decode cAsb_ensureCapacityInternal_d00df 22 = .ok (.aload_n 0, 1) := zfAsb_ensureCapacityInternal_d00df_0.2.2.2.2.2.2.2.2.2.2.2.2.2.2.1
theorem dAsb_ensureCapacityInternal_d00df_23 : decode cAsb_ensureCapacityInternal_d00df 23 = .ok (.iload_n 1, 1) := zfAsb_ensureCapacityInternal_d00df_0.2.2.2.2.2.2.2.2.2.2.2.2.2.2.2.1
theorem dAsb_ensureCapacityInternal_d00df_24 : decode cAsb_ensureCapacityInternal_d00df 24 = .ok (.invokevirtual 104, 3) := zfAsb_ensureCapacityInternal_d00df_0.2.2.2.2.2.2.2.2.2.2.2.2.2.2.2.2.1
theorem dAsb_ensureCapacityInternal_d00df_27 : decode cAsb_ensureCapacityInternal_d00df 27 = .ok (.aload_n 0, 1) := zfAsb_ensureCapacityInternal_d00df_0.2.2.2.2.2.2.2.2.2.2.2.2.2.2.2.2.2.1
theorem dAsb_ensureCapacityInternal_d00df_28 : decode cAsb_ensureCapacityInternal_d00df 28 = .ok (.getfield 22, 3) := zfAsb_ensureCapacityInternal_d00df_0.2.2.2.2.2.2.2.2.2.2.2.2.2.2.2.2.2.2.1
theorem dAsb_ensureCapacityInternal_d00df_31 : decode cAsb_ensureCapacityInternal_d00df 31 = .ok (.ishl, 1) := zfAsb_ensureCapacityInternal_d00df_0.2.2.2.2.2.2.2.2.2.2.2.2.2.2.2.2.2.2.2.1
theorem dAsb_ensureCapacityInternal_d00df_32 : decode cAsb_ensureCapacityInternal_d00df 32 = .ok (.invokestatic 108, 3) := zfAsb_ensureCapacityInternal_d00df_0.2.2.2.2.2.2.2.2.2.2.2.2.2.2.2.2.2.2.2.2.1
theorem dAsb_ensureCapacityInternal_d00df_35 : decode cAsb_ensureCapacityInternal_d00df 35 = .ok (.putfield 15, 3) := zfAsb_ensureCapacityInternal_d00df_0.2.2.2.2.2.2.2.2.2.2.2.2.2.2.2.2.2.2.2.2.2.1
theorem dAsb_ensureCapacityInternal_d00df_38 : decode cAsb_ensureCapacityInternal_d00df 38 = .ok (.return_, 1) := zfAsb_ensureCapacityInternal_d00df_0.2.2.2.2.2.2.2.2.2.2.2.2.2.2.2.2.2.2.2.2.2.2.1
theorem zfAsb_newCapacity_0f7a4_0 : decode cAsb_newCapacity_0f7a4 0 = .ok (.aload_n 0, 1) ∧ decode cAsb_newCapacity_0f7a4 1 = .ok (.getfield 15, 3) ∧ decode cAsb_newCapacity_0f7a4 4 = .ok (.arraylength, 1) ∧ decode cAsb_newCapacity_0f7a4 5 = .ok (.istore_n 2, 1) ∧ decode cAsb_newCapacity_0f7a4 6 = .ok (.iload_n 1, 1) ∧ decode cAsb_newCapacity_0f7a4 7 = .ok (.aload_n 0, 1) ∧ decode cAsb_newCapacity_0f7a4 8 = .ok (.getfield 22, 3) ∧ decode cAsb_newCapacity_0f7a4 11 = .ok (.ishl, 1) ∧ decode cAsb_newCapacity_0f7a4 12 = .ok (.istore_n 3, 1) ∧ decode cAsb_newCapacity_0f7a4 13 = .ok (.iload_n 3, 1) ∧ decode cAsb_newCapacity_0f7a4 14 = .ok (.iload_n 2, 1) ∧ decode cAsb_newCapacity_0f7a4 15 = .ok (.isub, 1) ∧ decode cAsb_newCapacity_0f7a4 16 = .ok (.istore 4, 2) ∧ decode cAsb_newCapacity_0f7a4 18 = .ok (.iload_n 2, 1) ∧ decode cAsb_newCapacity_0f7a4 19 = .ok (.iload 4, 2) ∧ decode cAsb_newCapacity_0f7a4 21 = .ok (.iload_n 2, 1) ∧ decode cAsb_newCapacity_0f7a4 22 = .ok (.iconst 2, 1) ∧ decode cAsb_newCapacity_0f7a4 23 = .ok (.aload_n 0, 1) ∧ decode cAsb_newCapacity_0f7a4 24 = .ok (.getfield 22, 3) ∧ decode cAsb_newCapacity_0f7a4 27 = .ok (.ishl, 1) ∧ decode cAsb_newCapacity_0f7a4 28 = .ok (.iadd, 1) ∧ decode cAsb_newCapacity_0f7a4 29 = .ok (.invokestatic 114, 3) ∧ decode cAsb_newCapacity_0f7a4 32 = .ok (.istore 5, 2) ∧ decode cAsb_newCapacity_0f7a4 34 = .ok (.iload 5, 2) ∧ decode cAsb_newCapacity_0f7a4 36 = .ok (.ldc 39, 2) ∧ decode cAsb_newCapacity_0f7a4 38 = .ok (.if_icmp .ne 13, 3) ∧ decode cAsb_newCapacity_0f7a4 41 = .ok (.new 120, 3) ∧ decode cAsb_newCapacity_0f7a4 44 = .ok (.dup, 1) ∧ decode cAsb_newCapacity_0f7a4 45 = .ok (.ldc 122, 2) ∧ decode cAsb_newCapacity_0f7a4 47 = .ok (.invokespecial 124, 3) ∧ decode cAsb_newCapacity_0f7a4 50 = .ok (.athrow, 1) ∧ decode cAsb_newCapacity_0f7a4 51 = .ok (.iload 5, 2) ∧ True := Jvm.Free.DS.facts (code := cAsb_newCapacity_0f7a4) 0 [(.aload_n 0, 1), (.getfield 15, 3), (.arraylength, 1), (.istore_n 2, 1), (.iload_n 1, 1), (.aload_n 0, 1), (.getfield 22, 3), (.ishl, 1), (.istore_n 3, 1), (.iload_n 3, 1), (.iload_n 2, 1), (.isub, 1), (.istore 4, 2), (.iload_n 2, 1), (.iload 4, 2), (.iload_n 2, 1), (.iconst 2, 1), (.aload_n 0, 1), (.getfield 22, 3), (.ishl, 1), (.iadd, 1), (.invokestatic 114, 3), (.istore 5, 2), (.iload 5, 2), (.ldc 39, 2), (.if_icmp .ne 13, 3), (.new 120, 3), (.dup, 1), (.ldc 122, 2), (.invokespecial 124, 3), (.athrow, 1), (.iload 5, 2)] (by decide +kernel) (by decide +kernel)
theorem dAsb_newCapacity_0f7a4_0 : decode cAsb_newCapacity_0f7a4 0 = .ok (.aload_n 0, 1) := zfAsb_newCapacity_0f7a4_0.1
theorem dAsb_newCapacity_0f7a4_1 : decode cAsb_newCapacity_0f7a4 1 = .ok (.getfield 15, 3) := zfAsb_newCapacity_0f7a4_0.2.1
theorem dAsb_newCapacity_0f7a4_4 : decode cAsb_newCapacity_0f7a4 4 = .ok (.arraylength, 1) := zfAsb_newCapacity_0f7a4_0.2.2.1
theorem dAsb_newCapacity_0f7a4_5 : decode cAsb_newCapacity_0f7a4 5 = .ok (.istore_n 2, 1) := zfAsb_newCapacity_0f7a4_0.2.2.2.1
theorem dAsb_newCapacity_0f7a4_6 : decode cAsb_newCapacity_0f7a4 6 = .ok (.iload_n 1, 1) := zfAsb_newCapacity_0f7a4_0.2.2.2.2.1
theorem dAsb_newCapacity_0f7a4_7 : decode cAsb_newCapacity_0f7a4 7 = .ok (.aload_n 0, 1) := zfAsb_newCapacity_0f7a4_0.2.2.2.2.2.1
theorem dAsb_newCapacity_0f7a4_8 : decode cAsb_newCapacity_0f7a4 8 = .ok (.getfield 22, 3) := zfAsb_newCapacity_0f7a4_0.2.2.2.2.2.2.1
theorem dAsb_newCapacity_0f7a4_11 : decode cAsb_newCapacity_0f7a4 11 = .ok (.ishl, 1) := zfAsb_newCapacity_0f7a4_0.2.2.2.2.2.2.2.1
theorem dAsb_newCapacity_0f7a4_12 : decode cAsb_newCapacity_0f7a4 12 = .ok (.istore_n 3, 1) := zfAsb_newCapacity_0f7a4_0.2.2.2.2.2.2.2.2.1
theorem dAsb_newCapacity_0f7a4_13 : decode cAsb_newCapacity_0f7a4 13 = .ok (.iload_n 3, 1) := zfAsb_newCapacity_0f7a4_0.2.2.2.2.2.2.2.2.2.1
theorem dAsb_newCapacity_0f7a4_14 : decode cAsb_newCapacity_0f7a4 14 = .ok (.iload_n 2, 1) := zfAsb_newCapacity_0f7a4_0.2.2.2.2.2.2.2.2.2.2.1
theorem dAsb_newCapacity_0f7a4_15 : decode cAsb_newCapacity_0f7a4 15 = .ok (.isub, 1) := zfAsb_newCapacity_0f7a4_0.2.2.2.2.2.2.2.2.2.2.2.1
theorem dAsb_newCapacity_0f7a4_16 : decode cAsb_newCapacity_0f7a4 16 = .ok (.istore 4, 2) := zfAsb_newCapacity_0f7a4_0.2.2.2.2.2.2.2.2.2.2.2.2.1
theorem dAsb_newCapacity_0f7a4_18 : decode cAsb_newCapacity_0f7a4 18 = .ok (.iload_n 2, 1) := zfAsb_newCapacity_0f7a4_0.2.2.2.2.2.2.2.2.2.2.2.2.2.1
theorem dAsb_newCapacity_0f7a4_19 : decode cAsb_newCapacity_0f7a4 19 = .ok (.iload 4, 2) := zfAsb_newCapacity_0f7a4_0.2.2.2.2.2.2.2.2.2.2.2.2.2.2.1
theorem dAsb_newCapacity_0f7a4_21 : decode cAsb_newCapacity_0f7a4 21 = .ok (.iload_n 2, 1) := zfAsb_newCapacity_0f7a4_0.2.2.2.2.2.2.2.2.2.2.2.2.2.2.2.1
theorem dAsb_newCapacity_0f7a4_22 : decode cAsb_newCapacity_0f7a4 22 = .ok (.iconst 2, 1) := zfAsb_newCapacity_0f7a4_0.2.2.2.2.2.2.2.2.2.2.2.2.2.2.2.2.1
theorem dAsb_newCapacity_0f7a4_23 : decode cAsb_newCapacity_0f7a4 23 = .ok (.aload_n 0, 1) := zfAsb_newCapacity_0f7a4_0.2.2.2.2.2.2.2.2.2.2.2.2.2.2.2.2.2.1
theorem dAsb_newCapacity_0f7a4_24 : decode cAsb_newCapacity_0f7a4 24 = .ok (.getfield 22, 3) := zfAsb_newCapacity_0f7a4_0.2.2.2.2.2.2.2.2.2.2.2.2.2.2.2.2.2.2.1
theorem dAsb_newCapacity_0f7a4_27 : decode cAsb_newCapacity_0f7a4 27 = .ok (.ishl, 1) := zfAsb_newCapacity_0f7a4_0.2.2.2.2.2.2.2.2.2.2.2.2.2.2.2.2.2.2.2.1
theorem dAsb_newCapacity_0f7a4_28 : decode cAsb_newCapacity_0f7a4 28 = .ok (.iadd, 1) := zfAsb_newCapacity_0f7a4_0.2.2.2.2.2.2.2.2.2.2.2.2.2.2.2.2.2.2.2.2.1
theorem dAsb_newCapacity_0f7a4_29 : decode cAsb_newCapacity_0f7a4 29 = .ok (.invokestatic 114, 3) := zfAsb_newCapacity_0f7a4_0.2.2.2.2.2.2.2.2.2.2.2.2.2.2.2.2.2.2.2.2.2.1
theorem dAsb_newCapacity_0f7a4_32 : decode cAsb_newCapacity_0f7a4 32 = .ok (.istore 5, 2) := zfAsb_newCapacity_0f7a4_0.2.2.2.2.2.2.2.2.2.2.2.2.2.2.2.2.2.2.2.2.2.2.1
theorem dAsb_newCapacity_0f7a4_34 : decode cAsb_newCapacity_0f7a4 34 = .ok (.iload 5, 2) := zfAsb_newCapacity_0f7a4_0.2.2.2.2.2.2.2.2.2.2.2.2.2.2.2.2.2.2.2.2.2.2.2.1
theorem dAsb_newCapacity_0f7a4_36 : decode cAsb_newCapacity_0f7a4 36 = .ok (.ldc 39, 2) := zfAsb_newCapacity_0f7a4_0.2.2.2.2.2.2.2.2.2.2.2.2.2.2.2.2.2.2.2.2.2.2.2.2.1
theorem dAsb_newCapacity_0f7a4_38 : decode cAsb_newCapacity_0f7a4 38 = .ok (.if_icmp .ne 13, 3) := zfAsb_newCapacity_0f7a4_0.2.2.2.2.2.2.2.2.2.2.2.2.2.2.2.2.2.2.2.2.2.2.2.2.2.1
theorem dAsb_newCapacity_0f7a4_41 : decode cAsb_newCapacity_0f7a4 41 = .ok (.new 120, 3) := zfAsb_newCapacity_0f7a4_0.2.2.2.2.2.2.2.2.2.2.2.2.2.2.2.2.2.2.2.2.2.2.2.2.2.2.1
theorem dAsb_newCapacity_0f7a4_44 : decode cAsb_newCapacity_0f7a4 44 = .ok (.dup, 1) := zfAsb_newCapacity_0f7a4_0.2.2.2.2.2.2.2.2.2.2.2.2.2.2.2.2.2.2.2.2.2.2.2.2.2.2.2.1
theorem dAsb_newCapacity_0f7a4_45 : decode cAsb_newCapacity_0f7a4 45 = .ok (.ldc 122, 2) := zfAsb_newCapacity_0f7a4_0.2.2.2.2.2.2.2.2.2.2.2.2.2.2.2.2.2.2.2.2.2.2.2.2.2.2.2.2.1
theorem dAsb_newCapacity_0f7a4_47 : decode cAsb_newCapacity_0f7a4 47 = .ok (.invokespecial 124, 3) := zfAsb_newCapacity_0f7a4_0.2.2.2.2.2.2.2.2.2.2.2.2.2.2.2.2.2.2.2.2.2.2.2.2.2.2.2.2.2.1
theorem dAsb_newCapacity_0f7a4_50 : decode cAsb_newCapacity_0f7a4 50 = .ok (.athrow, 1) := zfAsb_newCapacity_0f7a4_0.2.2.2.2.2.2.2.2.2.2.2.2.2.2.2.2.2.2.2.2.2.2.2.2.2.2.2.2.2.2.1
theorem dAsb_newCapacity_0f7a4_51 : decode cAsb_newCapacity_0f7a4 51 = .ok (.iload 5, 2) := zfAsb_newCapacity_0f7a4_0.2.2.2.2.2.2.2.2.2.2.2.2.2.2.2.2.2.2.2.2.2.2.2.2.2.2.2.2.2.2.2.1
theorem zfAsb_newCapacity_0f7a4_53 : decode cAsb_newCapacity_0f7a4 53 = .ok (.aload_n 0, 1) ∧ decode cAsb_newCapacity_0f7a4 54 = .ok (.getfield 22, 3) ∧ decode cAsb_newCapacity_0f7a4 57 = .ok (.ishr, 1) ∧ decode cAsb_newCapacity_0f7a4 58 = .ok (.ireturn, 1) ∧ True := Jvm.Free.DS.facts (code := cAsb_newCapacity_0f7a4) 53 [(.aload_n 0, 1), (.getfield 22, 3), (.ishr, 1), (.ireturn, 1)] (by decide +kernel) (by decide +kernel)
theorem dAsb_newCapacity_0f7a4_53 : decode cAsb_newCapacity_0f7a4 53 = .ok (.aload_n 0, 1) := zfAsb_newCapacity_0f7a4_53.1
theorem dAsb_newCapacity_0f7a4_54 : decode cAsb_newCapacity_0f7a4 54 = .ok (.getfield 22, 3) := zfAsb_newCapacity_0f7a4_53.2.1
theorem dAsb_newCapacity_0f7a4_57 : decode cAsb_newCapacity_0f7a4 57 = .ok (.ishr, 1) := zfAsb_newCapacity_0f7a4_53.2.2.1
theorem dAsb_newCapacity_0f7a4_58 : decode cAsb_newCapacity_0f7a4 58 = .ok (.ireturn, 1) := zfAsb_newCapacity_0f7a4_53.2.2.2.1
theorem zfAsb_inflate_da8c8_0 : decode cAsb_inflate_da8c8 0 = .ok (.aload_n 0, 1) ∧ decode cAsb_inflate_da8c8 1 = .ok (.invokevirtual 83, 3) ∧ decode cAsb_inflate_da8c8 4 = .ok (.ifCond .ne 4, 3) ∧ decode cAsb_inflate_da8c8 7 = .ok (.return_, 1) ∧ decode cAsb_inflate_da8c8 8 = .ok (.aload_n 0, 1) ∧ decode cAsb_inflate_da8c8 9 = .ok (.getfield 15, 3) ∧ decode cAsb_inflate_da8c8 12 = .ok (.arraylength, 1) ∧ decode cAsb_inflate_da8c8 13 = .ok (.invokestatic 26, 3) ∧ decode cAsb_inflate_da8c8 16 = .ok (.astore_n 1, 1) ∧ decode cAsb_inflate_da8c8 17 = .ok (.aload_n 0, 1) ∧ decode cAsb_inflate_da8c8 18 = .ok (.getfield 15, 3) ∧ decode cAsb_inflate_da8c8 21 = .ok (.iconst 0, 1) ∧ decode cAsb_inflate_da8c8 22 = .ok (.aload_n 1, 1) ∧ decode cAsb_inflate_da8c8 23 = .ok (.iconst 0, 1) ∧ decode cAsb_inflate_da8c8 24 = .ok (.aload_n 0, 1) ∧ decode cAsb_inflate_da8c8 25 = .ok (.getfield 79, 3) ∧ decode cAsb_inflate_da8c8 28 = .ok (.invokestatic 125, 3) ∧ decode cAsb_inflate_da8c8 31 = .ok (.aload_n 0, 1) ∧ decode cAsb_inflate_da8c8 32 = .ok (.aload_n 1, 1) ∧ decode cAsb_inflate_da8c8 33 = .ok (.putfield 15, 3) ∧ decode cAsb_inflate_da8c8 36 = .ok (.aload_n 0, 1) ∧ decode cAsb_inflate_da8c8 37 = .ok (.iconst 1, 1) ∧ decode cAsb_inflate_da8c8 38 = .ok (.putfield 22, 3) ∧ decode cAsb_inflate_da8c8 41 = .ok (.return_, 1) ∧ True := Jvm.Free.DS.facts (code := cAsb_inflate_da8c8) 0 [(.aload_n 0, 1), (.invokevirtual 83, 3), (.ifCond .ne 4, 3), (.return_, 1), (.aload_n 0, 1), (.getfield 15, 3), (.arraylength, 1), (.invokestatic 26, 3), (.astore_n 1, 1), (.aload_n 0, 1), (.getfield 15, 3), (.iconst 0, 1), (.aload_n 1, 1), (.iconst 0, 1), (.aload_n 0, 1), (.getfield 79, 3), (.invokestatic 125, 3), (.aload_n 0, 1), (.aload_n 1, 1), (.putfield 15, 3), (.aload_n 0, 1), (.iconst 1, 1), (.putfield 22, 3), (.return_, 1)] (by decide +kernel) (by decide +kernel)
theorem dAsb_inflate_da8c8_0 : decode cAsb_inflate_da8c8 0 = .ok (.aload_n 0, 1) := zfAsb_inflate_da8c8_0.1
theorem dAsb_inflate_da8c8_1 : decode cAsb_inflate_da8c8 1 = .ok (.invokevirtual 83, 3) := zfAsb_inflate_da8c8_0.2.1
theorem dAsb_inflate_da8c8_4 : decode cAsb_inflate_da8c8 4 = .ok (.ifCond .ne 4, 3) := zfAsb_inflate_da8c8_0.2.2.1
theorem dAsb_inflate_da8c8_7 : decode cAsb_inflate_da8c8 7 = .ok (.return_, 1) := zfAsb_inflate_da8c8_0.2.2.2.1
theorem dAsb_inflate_da8c8_8 : decode cAsb_inflate_da8c8 8 = .ok (.aload_n 0, 1) := zfAsb_inflate_da8c8_0.2.2.2.2.1
theorem dAsb_inflate_da8c8_9 : decode cAsb_inflate_da8c8 9 = .ok (.getfield 15, 3) := zfAsb_inflate_da8c8_0.2.2.2.2.2.1
theorem dAsb_inflate_da8c8_12 : decode cAsb_inflate_da8c8 12 = .ok (.arraylength, 1) := zfAsb_inflate_da8c8_0.2.2.2.2.2.2.1
theorem dAsb_inflate_da8c8_13 : decode cAsb_inflate_da8c8 13 = .ok (.invokestatic 26, 3) := zfAsb_inflate_da8c8_0.2.2.2.2.2.2.2.1
theorem dAsb_inflate_da8c8_16 : decode cAsb_inflate_da8c8 16 = .ok (.astore_n 1, 1) := zfAsb_inflate_da8c8_0.2.2.2.2.2.2.2.2.1
theorem dAsb_inflate_da8c8_17 : decode cAsb_inflate_da8c8 17 = .ok (.aload_n 0, 1) := zfAsb_inflate_da8c8_0.2.2.2.2.2.2.2.2.2.1
theorem dAsb_inflate_da8c8_18 : decode cAsb_inflate_da8c8 18 = .ok (.getfield 15, 3) := zfAsb_inflate_da8c8_0.2.2.2.2.2.2.2.2.2.2.1
theorem dAsb_inflate_da8c8_21 : decode cAsb_inflate_da8c8 21 = .ok (.iconst 0, 1) := zfAsb_inflate_da8c8_0.2.2.2.2.2.2.2.2.2.2.2.1
theorem dAsb_inflate_da8c8_22 : decode cAsb_inflate_da8c8 22 = .ok (.aload_n 1, 1) := zfAsb_inflate_da8c8_0.2.2.2.2.2.2.2.2.2.2.2.2.1
theorem dAsb_inflate_da8c8_23 : decode cAsb_inflate_da8c8 23 = .ok (.iconst 0, 1) := zfAsb_inflate_da8c8_0.2.2.2.2.2.2.2.2.2.2.2.2.2.1
theorem dAsb_inflate_da8c8_24 : decode cAsb_inflate_da8c8 24 = .ok (.aload_n 0, 1) := zfAsb_inflate_da8c8_0.2.2.2.2.2.2.2.2.2.2.2.2.2.2.1
theorem dAsb_inflate_da8c8_25 : decode cAsb_inflate_da8c8 25 = .ok (.getfield 79, 3) := zfAsb_inflate_da8c8_0.2.2.2.2.2.2.2.2.2.2.2.2.2.2.2.1
theorem dAsb_inflate_da8c8_28 : decode cAsb_inflate_da8c8 28 = .ok (.invokestatic 125, 3) := zfAsb_inflate_da8c8_0.2.2.2.2.2.2.2.2.2.2.2.2.2.2.2.2.1
theorem dAsb_inflate_da8c8_31 : decode cAsb_inflate_da8c8 31 = .ok (.aload_n 0, 1) := zfAsb_inflate_da8c8_0.2.2.2.2.2.2.2.2.2.2.2.2.2.2.2.2.2.1
theorem dAsb_inflate_da8c8_32 : decode cAsb_inflate_da8c8 32 = .ok (.aload_n 1, 1) := zfAsb_inflate_da8c8_0.2.2.2.2.2.2.2.2.2.2.2.2.2.2.2.2.2.2.1
theorem dAsb_inflate_da8c8_33 : decode cAsb_inflate_da8c8 33 = .ok (.putfield 15, 3) := zfAsb_inflate_da8c8_0.2.2.2.2.2.2.2.2.2.2.2.2.2.2.2.2.2.2.2.1
theorem dAsb_inflate_da8c8_36 : decode cAsb_inflate_da8c8 36 = .ok (.aload_n 0, 1) := zfAsb_inflate_da8c8_0.2.2.2.2.2.2.2.2.2.2.2.2.2.2.2.2.2.2.2.2.1
theorem dAsb_inflate_da8c8_37 : decode cAsb_inflate_da8c8 37 = .ok (.iconst 1, 1) := zfAsb_inflate_da8c8_0.2.2.2.2.2.2.2.2.2.2.2.2.2.2.2.2.2.2.2.2.2.1
theorem dAsb_inflate_da8c8_38 : decode cAsb_inflate_da8c8 38 = .ok (.putfield 22, 3) := zfAsb_inflate_da8c8_0.2.2.2.2.2.2.2.2.2.2.2.2.2.2.2.2.2.2.2.2.2.2.1
theorem dAsb_inflate_da8c8_41 : decode cAsb_inflate_da8c8 41 = .ok (.return_, 1) := zfAsb_inflate_da8c8_0.2.2.2.2.2.2.2.2.2.2.2.2.2.2.2.2.2.2.2.2.2.2.2.1
theorem zfAsb_append_cf1ce_0 : decode cAsb_append_cf1ce 0 = .ok (.aload_n 1, 1) ∧ decode cAsb_append_cf1ce 1 = .ok (.ifnonnull 8, 3) ∧ decode cAsb_append_cf1ce 4 = .ok (.aload_n 0, 1) ∧ decode cAsb_append_cf1ce 5 = .ok (.invokevirtual 204, 3) ∧ decode cAsb_append_cf1ce 8 = .ok (.areturn, 1) ∧ decode cAsb_append_cf1ce 9 = .ok (.aload_n 1, 1) ∧ decode cAsb_append_cf1ce 10 = .ok (.invokevirtual 32, 3) ∧ decode cAsb_append_cf1ce 13 = .ok (.istore_n 2, 1) ∧ decode cAsb_append_cf1ce 14 = .ok (.aload_n 0, 1) ∧ decode cAsb_append_cf1ce 15 = .ok (.aload_n 0, 1) ∧ decode cAsb_append_cf1ce 16 = .ok (.getfield 79, 3) ∧ decode cAsb_append_cf1ce 19 = .ok (.iload_n 2, 1) ∧ decode cAsb_append_cf1ce 20 = .ok (.iadd, 1) ∧ decode cAsb_append_cf1ce 21 = .ok (.invokevirtual 100, 3) ∧ decode cAsb_append_cf1ce 24 = .ok (.aload_n 0, 1) ∧ decode cAsb_append_cf1ce 25 = .ok (.aload_n 0, 1) ∧ decode cAsb_append_cf1ce 26 = .ok (.getfield 79, 3) ∧ decode cAsb_append_cf1ce 29 = .ok (.aload_n 1, 1) ∧ decode cAsb_append_cf1ce 30 = .ok (.invokevirtual 208, 3) ∧ decode cAsb_append_cf1ce 33 = .ok (.aload_n 0, 1) ∧ decode cAsb_append_cf1ce 34 = .ok (.dup, 1) ∧ decode cAsb_append_cf1ce 35 = .ok (.getfield 79, 3) ∧ decode cAsb_append_cf1ce 38 = .ok (.iload_n 2, 1) ∧ decode cAsb_append_cf1ce 39 = .ok (.iadd, 1) ∧ decode cAsb_append_cf1ce 40 = .ok (.putfield 79, 3) ∧ decode cAsb_append_cf1ce 43 = .ok (.aload_n 0, 1) ∧ decode cAsb_append_cf1ce 44 = .ok (.areturn, 1) ∧ True := Jvm.Free.DS.facts (code := cAsb_append_cf1ce) 0 [(.aload_n 1, 1), (.ifnonnull 8, 3), (.aload_n 0, 1), (.invokevirtual 204, 3), (.areturn, 1), (.aload_n 1, 1), (.invokevirtual 32, 3), (.istore_n 2, 1), (.aload_n 0, 1), (.aload_n 0, 1), (.getfield 79, 3), (.iload_n 2, 1), (.iadd, 1), (.invokevirtual 100, 3), (.aload_n 0, 1), (.aload_n 0, 1), (.getfield 79, 3), (.aload_n 1, 1), (.invokevirtual 208, 3), (.aload_n 0, 1), (.dup, 1), (.getfield 79, 3), (.iload_n 2, 1), (.iadd, 1), (.putfield 79, 3), (.aload_n 0, 1), (.areturn, 1)] (by decide +kernel) (by decide +kernel)
theorem dAsb_append_cf1ce_0 : decode cAsb_append_cf1ce 0 = .ok (.aload_n 1, 1) := zfAsb_append_cf1ce_0.1
theorem dAsb_append_cf1ce_1 : decode cAsb_append_cf1ce 1 = .ok (.ifnonnull 8, 3) := zfAsb_append_cf1ce_0.2.1
theorem dAsb_append_cf1ce_4 : decode cAsb_append_cf1ce 4 = .ok (.aload_n 0, 1) := zfAsb_append_cf1ce_0.2.2.1
theorem dAsb_append_cf1ce_5 : decode cAsb_append_cf1ce 5 = .ok (.invokevirtual 204, 3) := zfAsb_append_cf1ce_0.2.2.2.1
theorem dAsb_append_cf1ce_8 : decode cAsb_append_cf1ce 8 = .ok (.areturn, 1) := zfAsb_append_cf1ce_0.2.2.2.2.1
theorem dAsb_append_cf1ce_9 : decode cAsb_append_cf1ce 9 = .ok (.aload_n 1, 1) := zfAsb_append_cf1ce_0.2.2.2.2.2.1
theorem dAsb_append_cf1ce_10 : decode cAsb_append_cf1ce 10 = .ok (.invokevirtual 32, 3) := zfAsb_append_cf1ce_0.2.2.2.2.2.2.1
theorem dAsb_append_cf1ce_13 : decode cAsb_append_cf1ce 13 = .ok (.istore_n 2, 1) := zfAsb_append_cf1ce_0.2.2.2.2.2.2.2.1
theorem dAsb_append_cf1ce_14 : decode cAsb_append_cf1ce 14 = .ok (.aload_n 0, 1) := zfAsb_append_cf1ce_0.2.2.2.2.2.2.2.2.1
theorem dAsb_append_cf1ce_15 : decode cAsb_append_cf1ce 15 = .ok (.aload_n 0, 1) := zfAsb_append_cf1ce_0.2.2.2.2.2.2.2.2.2.1
theorem dAsb_append_cf1ce_16 : decode cAsb_append_cf1ce 16 = .ok (.getfield 79, 3) := zfAsb_append_cf1ce_0.2.2.2.2.2.2.2.2.2.2.1
theorem dAsb_append_cf1ce_19 : decode cAsb_append_cf1ce 19 = .ok (.iload_n 2, 1) := zfAsb_append_cf1ce_0.2.2.2.2.2.2.2.2.2.2.2.1
theorem dAsb_append_cf1ce_20 : decode cAsb_append_cf1ce 20 = .ok (.iadd, 1) := zfAsb_append_cf1ce_0.2.2.2.2.2.2.2.2.2.2.2.2.1
theorem dAsb_append_cf1ce_21 : decode cAsb_append_cf1ce 21 = .ok (.invokevirtual 100, 3) := zfAsb_append_cf1ce_0.2.2.2.2.2.2.2.2.2.2.2.2.2.1
theorem dAsb_append_cf1ce_24 : decode cAsb_append_cf1ce 24 = .ok (.aload_n 0, 1) := zfAsb_append_cf1ce_0.2.2.2.2.2.2.2.2.2.2.2.2.2.2.1
theorem dAsb_append_cf1ce_25 : decode cAsb_append_cf1ce 25 = .ok (.aload_n 0, 1) := zfAsb_append_cf1ce_0.2.2.2.2.2.2.2.2.2.2.2.2.2.2.2.1
theorem dAsb_append_cf1ce_26 : decode cAsb_append_cf1ce 26 = .ok (.getfield 79, 3) := zfAsb_append_cf1ce_0.2.2.2.2.2.2.2.2.2.2.2.2.2.2.2.2.1
theorem dAsb_append_cf1ce_29 : decode cAsb_append_cf1ce 29 = .ok (.aload_n 1, 1) := zfAsb_append_cf1ce_0.2.2.2.2.2.2.2.2.2.2.2.2.2.2.2.2.2.1
theorem dAsb_append_cf1ce_30 : decode cAsb_append_cf1ce 30 = .ok (.invokevirtual 208, 3) := zfAsb_append_cf1ce_0.2.2.2.2.2.2.2.2.2.2.2.2.2.2.2.2.2.2.1
theorem dAsb_append_cf1ce_33 : decode cAsb_append_cf1ce 33 = .ok (.aload_n 0, 1) := zfAsb_append_cf1ce_0.2.2.2.2.2.2.2.2.2.2.2.2.2.2.2.2.2.2.2.1
theorem dAsb_append_cf1ce_34 : decode cAsb_append_cf1ce 34 = .ok (.dup, 1) := zfAsb_append_cf1ce_0.2.2.2.2.2.2.2.2.2.2.2.2.2.2.2.2.2.2.2.2.1
theorem dAsb_append_cf1ce_35 : decode cAsb_append_cf1ce 35 = .ok (.getfield 79, 3) := zfAsb_append_cf1ce_0.2.2.2.2.2.2.2.2.2.2.2.2.2.2.2.2.2.2.2.2.2.1
theorem dAsb_append_cf1ce_38 : decode cAsb_append_cf1ce 38 = .ok (.iload_n 2, 1) := zfAsb_append_cf1ce_0.2.2.2.2.2.2.2.2.2.2.2.2.2.2.2.2.2.2.2.2.2.2.1
theorem dAsb_append_cf1ce_39 : decode cAsb_append_cf1ce 39 = .ok (.iadd, 1) := zfAsb_append_cf1ce_0.2.2.2.2.2.2.2.2.2.2.2.2.2.2.2.2.2.2.2.2.2.2.2.1
theorem dAsb_append_cf1ce_40 : decode cAsb_append_cf1ce 40 = .ok (.putfield 79, 3) := zfAsb_append_cf1ce_0.2.2.2.2.2.2.2.2.2.2.2.2.2.2.2.2.2.2.2.2.2.2.2.2.1
theorem dAsb_append_cf1ce_43 : decode cAsb_append_cf1ce 43 = .ok (.aload_n 0, 1) := zfAsb_append_cf1ce_0.2.2.2.2.2.2.2.2.2.2.2.2.2.2.2.2.2.2.2.2.2.2.2.2.2.1
theorem dAsb_append_cf1ce_44 : decode cAsb_append_cf1ce 44 = .ok (.areturn, 1) := zfAsb_append_cf1ce_0.2.2.2.2.2.2.2.2.2.2.2.2.2.2.2.2.2.2.2.2.2.2.2.2.2.2.1
theorem zfAsb_appendNull_278bc_0 : decode cAsb_appendNull_278bc 0 = .ok (.aload_n 0, 1) ∧ decode cAsb_appendNull_278bc 1 = .ok (.aload_n 0, 1) ∧ decode cAsb_appendNull_278bc 2 = .ok (.getfield 79, 3) ∧ decode cAsb_appendNull_278bc 5 = .ok (.iconst 4, 1) ∧ decode cAsb_appendNull_278bc 6 = .ok (.iadd, 1) ∧ decode cAsb_appendNull_278bc 7 = .ok (.invokevirtual 100, 3) ∧ decode cAsb_appendNull_278bc 10 = .ok (.aload_n 0, 1) ∧ decode cAsb_appendNull_278bc 11 = .ok (.getfield 79, 3) ∧ decode cAsb_appendNull_278bc 14 = .ok (.istore_n 1, 1) ∧ decode cAsb_appendNull_278bc 15 = .ok (.aload_n 0, 1) ∧ decode cAsb_appendNull_278bc 16 = .ok (.getfield 15, 3) ∧ decode cAsb_appendNull_278bc 19 = .ok (.astore_n 2, 1) ∧ decode cAsb_appendNull_278bc 20 = .ok (.aload_n 0, 1) ∧ decode cAsb_appendNull_278bc 21 = .ok (.invokevirtual 83, 3) ∧ decode cAsb_appendNull_278bc 24 = .ok (.ifCond .eq 38, 3) ∧ decode cAsb_appendNull_278bc 27 = .ok (.aload_n 2, 1) ∧ decode cAsb_appendNull_278bc 28 = .ok (.iload_n 1, 1) ∧ decode cAsb_appendNull_278bc 29 = .ok (.iinc 1 1, 3) ∧ decode cAsb_appendNull_278bc 32 = .ok (.bipush 110, 2) ∧ decode cAsb_appendNull_278bc 34 = .ok (.bastore, 1) ∧ decode cAsb_appendNull_278bc 35 = .ok (.aload_n 2, 1) ∧ decode cAsb_appendNull_278bc 36 = .ok (.iload_n 1, 1) ∧ decode cAsb_appendNull_278bc 37 = .ok (.iinc 1 1, 3) ∧ decode cAsb_appendNull_278bc 40 = .ok (.bipush 117, 2) ∧ decode cAsb_appendNull_278bc 42 = .ok (.bastore, 1) ∧ decode cAsb_appendNull_278bc 43 = .ok (.aload_n 2, 1) ∧ decode cAsb_appendNull_278bc 44 = .ok (.iload_n 1, 1) ∧ decode cAsb_appendNull_278bc 45 = .ok (.iinc 1 1, 3) ∧ decode cAsb_appendNull_278bc 48 = .ok (.bipush 108, 2) ∧ decode cAsb_appendNull_278bc 50 = .ok (.bastore, 1) ∧ decode cAsb_appendNull_278bc 51 = .ok (.aload_n 2, 1) ∧ decode cAsb_appendNull_278bc 52 = .ok (.iload_n 1, 1) ∧ True := Jvm.Free.DS.facts (code := cAsb_appendNull_278bc) 0 [(.aload_n 0, 1), (.aload_n 0, 1), (.getfield 79, 3), (.iconst 4, 1), (.iadd, 1), (.invokevirtual 100, 3), (.aload_n 0, 1), (.getfield 79, 3), (.istore_n 1, 1), (.aload_n 0, 1), (.getfield 15, 3), (.astore_n 2, 1), (.aload_n 0, 1), (.invokevirtual 83, 3), (.ifCond .eq 38, 3), (.aload_n 2, 1), (.iload_n 1, 1), (.iinc 1 1, 3), (.bipush 110, 2), (.bastore, 1), (.aload_n 2, 1), (.iload_n 1, 1), (.iinc 1 1, 3), (.bipush 117, 2), (.bastore, 1), (.aload_n 2, 1), (.iload_n 1, 1), (.iinc 1 1, 3), (.bipush 108, 2), (.bastore, 1), (.aload_n 2, 1), (.iload_n 1, 1)] (by decide +kernel) (by decide +kernel)
theorem dAsb_appendNull_278bc_0 : decode cAsb_appendNull_278bc 0 = .ok (.aload_n 0, 1) := zfAsb_appendNull_278bc_0.1
theorem dAsb_appendNull_278bc_1 : decode cAsb_appendNull_278bc 1 = .ok (.aload_n 0, 1) := zfAsb_appendNull_278bc_0.2.1
theorem dAsb_appendNull_278bc_2 : decode cAsb_appendNull_278bc 2 = .ok (.getfield 79, 3) := zfAsb_appendNull_278bc_0.2.2.1
theorem dAsb_appendNull_278bc_5 : decode cAsb_appendNull_278bc 5 = .ok (.iconst 4, 1) := zfAsb_appendNull_278bc_0.2.2.2.1
theorem dAsb_appendNull_278bc_6 : decode cAsb_appendNull_278bc 6 = .ok (.iadd, 1) := zfAsb_appendNull_278bc_0.2.2.2.2.1
theorem dAsb_appendNull_278bc_7 : decode cAsb_appendNull_278bc 7 = .ok (.invokevirtual 100, 3) := zfAsb_appendNull_278bc_0.2.2.2.2.2.1
theorem dAsb_appendNull_278bc_10 : decode cAsb_appendNull_278bc 10 = .ok (.aload_n 0, 1) := zfAsb_appendNull_278bc_0.2.2.2.2.2.2.1
theorem dAsb_appendNull_278bc_11 : decode cAsb_appendNull_278bc 11 = .ok (.getfield 79, 3) := zfAsb_appendNull_278bc_0.2.2.2.2.2.2.2.1
theorem dAsb_appendNull_278bc_14 : decode cAsb_appendNull_278bc 14 = .ok (.istore_n 1, 1) := zfAsb_appendNull_278bc_0.2.2.2.2.2.2.2.2.1
theorem dAsb_appendNull_278bc_15 : decode cAsb_appendNull_278bc 15 = .ok (.aload_n 0, 1) := zfAsb_appendNull_278bc_0.2.2.2.2.2.2.2.2.2.1
theorem dAsb_appendNull_278bc_16 : decode cAsb_appendNull_278bc 16 = .ok (.getfield 15, 3) := zfAsb_appendNull_278bc_0.2.2.2.2.2.2.2.2.2.2.1
theorem dAsb_appendNull_278bc_19 : decode cAsb_appendNull_278bc 19 = .ok (.astore_n 2, 1) := zfAsb_appendNull_278bc_0.2.2.2.2.2.2.2.2.2.2.2.1
theorem dAsb_appendNull_278bc_20 : decode cAsb_appendNull_278bc 20 = .ok (.aload_n 0, 1) := zfAsb_appendNull_278bc_0.2.2.2.2.2.2.2.2.2.2.2.2.1
theorem dAsb_appendNull_278bc_21 : decode cAsb_appendNull_278bc 21 = .ok (.invokevirtual 83, 3) := zfAsb_appendNull_278bc_0.2.2.2.2.2.2.2.2.2.2.2.2.2.1
theorem dAsb_appendNull_278bc_24 : decode cAsb_appendNull_278bc 24 = .ok (.ifCond .eq 38, 3) := zfAsb_appendNull_278bc_0.2.2.2.2.2.2.2.2.2.2.2.2.2.2.1
theorem dAsb_appendNull_278bc_27 : decode cAsb_appendNull_278bc 27 = .ok (.aload_n 2, 1) := zfAsb_appendNull_278bc_0.2.2.2.2.2.2.2.2.2.2.2.2.2.2.2.1
theorem dAsb_appendNull_278bc_28 : decode cAsb_appendNull_278bc 28 = .ok (.iload_n 1, 1) := zfAsb_appendNull_278bc_0.2.2.2.2.2.2.2.2.2.2.2.2.2.2.2.2.1
theorem dAsb_appendNull_278bc_29 : decode cAsb_appendNull_278bc 29 = .ok (.iinc 1 1, 3) := zfAsb_appendNull_278bc_0.2.2.2.2.2.2.2.2.2.2.2.2.2.2.2.2.2.1
theorem dAsb_appendNull_278bc_32 : decode cAsb_appendNull_278bc 32 = .ok (.bipush 110, 2) := zfAsb_appendNull_278bc_0.2.2.2.2.2.2.2.2.2.2.2.2.2.2.2.2.2.2.1
theorem dAsb_appendNull_278bc_34 : decode cAsb_appendNull_278bc 34 = .ok (.bastore, 1) := zfAsb_appendNull_278bc_0.2.2.2.2.2.2.2.2.2.2.2.2.2.2.2.2.2.2.2.1
theorem dAsb_appendNull_278bc_35 : decode cAsb_appendNull_278bc 35 = .ok (.aload_n 2, 1) := zfAsb_appendNull_278bc_0.2.2.2.2.2.2.2.2.2.2.2.2.2.2.2.2.2.2.2.2.1
theorem dAsb_appendNull_278bc_36 : decode cAsb_appendNull_278bc 36 = .ok (.iload_n 1, 1) := zfAsb_appendNull_278bc_0.2.2.2.2.2.2.2.2.2.2.2.2.2.2.2.2.2.2.2.2.2.1
theorem dAsb_appendNull_278bc_37 : decode cAsb_appendNull_278bc 37 = .ok (.iinc 1 1, 3) := zfAsb_appendNull_278bc_0.2.2.2.2.2.2.2.2.2.2.2.2.2.2.2.2.2.2.2.2.2.2.1
theorem dAsb_appendNull_278bc_40 : decode cAsb_appendNull_278bc 40 = .ok (.bipush 117, 2) := zfAsb_appendNull_278bc_0.2.2.2.2.2.2.2.2.2.2.2.2.2.2.2.2.2.2.2.2.2.2.2.1
theorem dAsb_appendNull_278bc_42 : decode cAsb_appendNull_278bc 42 = .ok (.bastore, 1) := zfAsb_appendNull_278bc_0.2.2.2.2.2.2.2.2.2.2.2.2.2.2.2.2.2.2.2.2.2.2.2.2.1
theorem dAsb_appendNull_278bc_43 : decode cAsb_appendNull_278bc 43 = .ok (.aload_n 2, 1) := zfAsb_appendNull_278bc_0.2.2.2.2.2.2.2.2.2.2.2.2.2.2.2.2.2.2.2.2.2.2.2.2.2.1
theorem dAsb_appendNull_278bc_44 : decode cAsb_appendNull_278bc 44 = .ok (.iload_n 1, 1) := zfAsb_appendNull_278bc_0.2.2.2.2.2.2.2.2.2.2.2.2.2.2.2.2.2.2.2.2.2.2.2.2.2.2.1
theorem dAsb_appendNull_278bc_45 : decode cAsb_appendNull_278bc 45 = .ok (.iinc 1 1, 3) := zfAsb_appendNull_278bc_0.2.2.2.2.2.2.2.2.2.2.2.2.2.2.2.2.2.2.2.2.2.2.2.2.2.2.2.1
theorem dAsb_appendNull_278bc_48 : decode cAsb_appendNull_278bc 48 = .ok (.bipush 108, 2) := zfAsb_appendNull_278bc_0.2.2.2.2.2.2.2.2.2.2.2.2.2.2.2.2.2.2.2.2.2.2.2.2.2.2.2.2.1
theorem dAsb_appendNull_278bc_50 : decode cAsb_appendNull_278bc 50 = .ok (.bastore, 1) := zfAsb_appendNull_278bc_0.2.2.2.2.2.2.2.2.2.2.2.2.2.2.2.2.2.2.2.2.2.2.2.2.2.2.2.2.2.1
theorem dAsb_appendNull_278bc_51 : decode cAsb_appendNull_278bc 51 = .ok (.aload_n 2, 1) := zfAsb_appendNull_278bc_0.2.2.2.2.2.2.2.2.2.2.2.2.2.2.2.2.2.2.2.2.2.2.2.2.2.2.2.2.2.2.1
theorem dAsb_appendNull_278bc_52 : decode cAsb_appendNull_278bc 52 = .ok (.iload_n 1, 1) := zfAsb_appendNull_278bc_0.2.2.2.2.2.2.2.2.2.2.2.2.2.2.2.2.2.2.2.2.2.2.2.2.2.2.2.2.2.2.2.1
theorem zfAsb_appendNull_278bc_53 : decode cAsb_appendNull_278bc 53 = .ok (.iinc 1 1, 3) ∧ decode cAsb_appendNull_278bc 56 = .ok (.bipush 108, 2) ∧ decode cAsb_appendNull_278bc 58 = .ok (.bastore, 1) ∧ decode cAsb_appendNull_278bc 59 = .ok (.goto 17, 3) ∧ decode cAsb_appendNull_278bc 62 = .ok (.aload_n 2, 1) ∧ decode cAsb_appendNull_278bc 63 = .ok (.iload_n 1, 1) ∧ decode cAsb_appendNull_278bc 64 = .ok (.bipush 110, 2) ∧ decode cAsb_appendNull_278bc 66 = .ok (.bipush 117, 2) ∧ decode cAsb_appendNull_278bc 68 = .ok (.bipush 108, 2) ∧ decode cAsb_appendNull_278bc 70 = .ok (.bipush 108, 2) ∧ decode cAsb_appendNull_278bc 72 = .ok (.invokestatic 226, 3) ∧ decode cAsb_appendNull_278bc 75 = .ok (.istore_n 1, 1) ∧ decode cAsb_appendNull_278bc 76 = .ok (.aload_n 0, 1) ∧ decode cAsb_appendNull_278bc 77 = .ok (.iload_n 1, 1) ∧ decode cAsb_appendNull_278bc 78 = .ok (.putfield 79, 3) ∧ decode cAsb_appendNull_278bc 81 = .ok (.aload_n 0, 1) ∧ decode cAsb_appendNull_278bc 82 = .ok (.areturn, 1) ∧ True := Jvm.Free.DS.facts (code := cAsb_appendNull_278bc) 53 [(.iinc 1 1, 3), (.bipush 108, 2), (.bastore, 1), (.goto 17, 3), (.aload_n 2, 1), (.iload_n 1, 1), (.bipush 110, 2), (.bipush 117, 2), (.bipush 108, 2), (.bipush 108, 2), (.invokestatic 226, 3), (.istore_n 1, 1), (.aload_n 0, 1), (.iload_n 1, 1), (.putfield 79, 3), (.aload_n 0, 1), (.areturn, 1)] (by decide +kernel) (by decide +kernel)
theorem dAsb_appendNull_278bc_53 : decode cAsb_appendNull_278bc 53 = .ok (.iinc 1 1, 3) := zfAsb_appendNull_278bc_53.1
theorem dAsb_appendNull_278bc_56 : decode cAsb_appendNull_278bc 56 = .ok (.bipush 108, 2) := zfAsb_appendNull_278bc_53.2.1
theorem dAsb_appendNull_278bc_58 : decode cAsb_appendNull_278bc 58 = .ok (.bastore, 1) := zfAsb_appendNull_278bc_53.2.2.1
theorem dAsb_appendNull_278bc_59 : decode cAsb_appendNull_278bc 59 = .ok (.goto 17, 3) := zfAsb_appendNull_278bc_53.2.2.2.1
theorem dAsb_appendNull_278bc_62 : decode cAsb_appendNull_278bc 62 = .ok (.aload_n 2, 1) := zfAsb_appendNull_278bc_53.2.2.2.2.1
theorem dAsb_appendNull_278bc_63 : decode cAsb_appendNull_278bc 63 = .ok (.iload_n 1, 1) := zfAsb_appendNull_278bc_53.2.2.2.2.2.1
theorem dAsb_appendNull_278bc_64 : decode cAsb_appendNull_278bc 64 = .ok (.bipush 110, 2) := zfAsb_appendNull_278bc_53.2.2.2.2.2.2.1
theorem dAsb_appendNull_278bc_66 : decode cAsb_appendNull_278bc 66 = .ok (.bipush 117, 2) := zfAsb_appendNull_278bc_53.2.2.2.2.2.2.2.1
theorem dAsb_appendNull_278bc_68 : decode cAsb_appendNull_278bc 68 = .ok (.bipush 108, 2) := zfAsb_appendNull_278bc_53.2.2.2.2.2.2.2.2.1
theorem dAsb_appendNull_278bc_70 : decode cAsb_appendNull_278bc 70 = .ok (.bipush 108, 2) := zfAsb_appendNull_278bc_53.2.2.2.2.2.2.2.2.2.1
theorem dAsb_appendNull_278bc_72 : decode cAsb_appendNull_278bc 72 = .ok (.invokestatic 226, 3) := zfAsb_appendNull_278bc_53.2.2.2.2.2.2.2.2.2.2.1
theorem dAsb_appendNull_278bc_75 : decode cAsb_appendNull_278bc 75 = .ok (.istore_n 1, 1) := zfAsb_appendNull_278bc_53.2.2.2.2.2.2.2.2.2.2.2.1
theorem dAsb_appendNull_278bc_76 : decode cAsb_appendNull_278bc 76 = .ok (.aload_n 0, 1) := zfAsb_appendNull_278bc_53.2.2.2.2.2.2.2.2.2.2.2.2.1
theorem dAsb_appendNull_278bc_77 : decode cAsb_appendNull_278bc 77 = .ok (.iload_n 1, 1) := zfAsb_appendNull_278bc_53.2.2.2.2.2.2.2.2.2.2.2.2.2.1
theorem dAsb_appendNull_278bc_78 : decode cAsb_appendNull_278bc 78 = .ok (.putfield 79, 3) := zfAsb_appendNull_278bc_53.2.2.2.2.2.2.2.2.2.2.2.2.2.2.1
theorem dAsb_appendNull_278bc_81 : decode cAsb_appendNull_278bc 81 = .ok (.aload_n 0, 1) := zfAsb_appendNull_278bc_53.2.2.2.2.2.2.2.2.2.2.2.2.2.2.2.1
theorem dAsb_appendNull_278bc_82 : decode cAsb_appendNull_278bc 82 = .ok (.areturn, 1) := zfAsb_appendNull_278bc_53.2.2.2.2.2.2.2.2.2.2.2.2.2.2.2.2.1
theorem zfAsb_append_3fe6f_0 : decode cAsb_append_3fe6f 0 = .ok (.aload_n 0, 1) ∧ decode cAsb_append_3fe6f 1 = .ok (.aload_n 0, 1) ∧ decode cAsb_append_3fe6f 2 = .ok (.getfield 79, 3) ∧ decode cAsb_append_3fe6f 5 = .ok (.iconst 1, 1) ∧ decode cAsb_append_3fe6f 6 = .ok (.iadd, 1) ∧ decode cAsb_append_3fe6f 7 = .ok (.invokevirtual 100, 3) ∧ decode cAsb_append_3fe6f 10 = .ok (.aload_n 0, 1) ∧ decode cAsb_append_3fe6f 11 = .ok (.invokevirtual 83, 3) ∧ decode cAsb_append_3fe6f 14 = .ok (.ifCond .eq 31, 3) ∧ decode cAsb_append_3fe6f 17 = .ok (.iload_n 1, 1) ∧ decode cAsb_append_3fe6f 18 = .ok (.invokestatic 191, 3) ∧ decode cAsb_append_3fe6f 21 = .ok (.ifCond .eq 24, 3) ∧ decode cAsb_append_3fe6f 24 = .ok (.aload_n 0, 1) ∧ decode cAsb_append_3fe6f 25 = .ok (.getfield 15, 3) ∧ decode cAsb_append_3fe6f 28 = .ok (.aload_n 0, 1) ∧ decode cAsb_append_3fe6f 29 = .ok (.dup, 1) ∧ decode cAsb_append_3fe6f 30 = .ok (.getfield 79, 3) ∧ decode cAsb_append_3fe6f 33 = .ok (.dup_x1, 1) ∧ decode cAsb_append_3fe6f 34 = .ok (.iconst 1, 1) ∧ decode cAsb_append_3fe6f 35 = .ok (.iadd, 1) ∧ decode cAsb_append_3fe6f 36 = .ok (.putfield 79, 3) ∧ decode cAsb_append_3fe6f 39 = .ok (.iload_n 1, 1) ∧ decode cAsb_append_3fe6f 40 = .ok (.i2b, 1) ∧ decode cAsb_append_3fe6f 41 = .ok (.bastore, 1) ∧ decode cAsb_append_3fe6f 42 = .ok (.goto 33, 3) ∧ decode cAsb_append_3fe6f 45 = .ok (.aload_n 0, 1) ∧ decode cAsb_append_3fe6f 46 = .ok (.invokevirtual 83, 3) ∧ decode cAsb_append_3fe6f 49 = .ok (.ifCond .eq 7, 3) ∧ decode cAsb_append_3fe6f 52 = .ok (.aload_n 0, 1) ∧ decode cAsb_append_3fe6f 53 = .ok (.invokevirtual 195, 3) ∧ decode cAsb_append_3fe6f 56 = .ok (.aload_n 0, 1) ∧ decode cAsb_append_3fe6f 57 = .ok (.getfield 15, 3) ∧ True := Jvm.Free.DS.facts (code := cAsb_append_3fe6f) 0 [(.aload_n 0, 1), (.aload_n 0, 1), (.getfield 79, 3), (.iconst 1, 1), (.iadd, 1), (.invokevirtual 100, 3), (.aload_n 0, 1), (.invokevirtual 83, 3), (.ifCond .eq 31, 3), (.iload_n 1, 1), (.invokestatic 191, 3), (.ifCond .eq 24, 3), (.aload_n 0, 1), (.getfield 15, 3), (.aload_n 0, 1), (.dup, 1), (.getfield 79, 3), (.dup_x1, 1), (.iconst 1, 1), (.iadd, 1), (.putfield 79, 3), (.iload_n 1, 1), (.i2b, 1), (.bastore, 1), (.goto 33, 3), (.aload_n 0, 1), (.invokevirtual 83, 3), (.ifCond .eq 7, 3), (.aload_n 0, 1), (.invokevirtual 195, 3), (.aload_n 0, 1), (.getfield 15, 3)] (by decide +kernel) (by decide +kernel)
theorem dAsb_append_3fe6f_0 : decode cAsb_append_3fe6f 0 = .ok (.aload_n 0, 1) := zfAsb_append_3fe6f_0.1
theorem dAsb_append_3fe6f_1 : decode cAsb_append_3fe6f 1 = .ok (.aload_n 0, 1) := zfAsb_append_3fe6f_0.2.1
theorem dAsb_append_3fe6f_2 : decode cAsb_append_3fe6f 2 = .ok (.getfield 79, 3) := zfAsb_append_3fe6f_0.2.2.1
theorem dAsb_append_3fe6f_5 : decode cAsb_append_3fe6f 5 = .ok (.iconst 1, 1) := zfAsb_append_3fe6f_0.2.2.2.1
theorem dAsb_append_3fe6f_6 : decode cAsb_append_3fe6f 6 = .ok (.iadd, 1) := zfAsb_append_3fe6f_0.2.2.2.2.1
theorem dAsb_append_3fe6f_7 : decode cAsb_append_3fe6f 7 = .ok (.invokevirtual 100, 3) := zfAsb_append_3fe6f_0.2.2.2.2.2.1
theorem dAsb_append_3fe6f_10 : decode cAsb_append_3fe6f 10 = .ok (.aload_n 0, 1) := zfAsb_append_3fe6f_0.2.2.2.2.2.2.1
theorem dAsb_append_3fe6f_11 : decode cAsb_append_3fe6f 11 = .ok (.invokevirtual 83, 3) := zfAsb_append_3fe6f_0.2.2.2.2.2.2.2.1
theorem dAsb_append_3fe6f_14 : decode cAsb_append_3fe6f 14 = .ok (.ifCond .eq 31, 3) := zfAsb_append_3fe6f_0.2.2.2.2.2.2.2.2.1
theorem dAsb_append_3fe6f_17 : decode cAsb_append_3fe6f 17 = .ok (.iload_n 1, 1) := zfAsb_append_3fe6f_0.2.2.2.2.2.2.2.2.2.1
theorem dAsb_append_3fe6f_18 : decode cAsb_append_3fe6f 18 = .ok (.invokestatic 191, 3) := zfAsb_append_3fe6f_0.2.2.2.2.2.2.2.2.2.2.1
theorem dAsb_append_3fe6f_21 : decode cAsb_append_3fe6f 21 = .ok (.ifCond .eq 24, 3) := zfAsb_append_3fe6f_0.2.2.2.2.2.2.2.2.2.2.2.1
theorem dAsb_append_3fe6f_24 : decode cAsb_append_3fe6f 24 = .ok (.aload_n 0, 1) := zfAsb_append_3fe6f_0.2.2.2.2.2.2.2.2.2.2.2.2.1
theorem dAsb_append_3fe6f_25 : decode cAsb_append_3fe6f 25 = .ok (.getfield 15, 3) := zfAsb_append_3fe6f_0.2.2.2.2.2.2.2.2.2.2.2.2.2.1
theorem dAsb_append_3fe6f_28 : decode cAsb_append_3fe6f 28 = .ok (.aload_n 0, 1) := zfAsb_append_3fe6f_0.2.2.2.2.2.2.2.2.2.2.2.2.2.2.1
theorem dAsb_append_3fe6f_29 : decode cAsb_append_3fe6f 29 = .ok (.dup, 1) := zfAsb_append_3fe6f_0.2.2.2.2.2.2.2.2.2.2.2.2.2.2.2.1
theorem dAsb_append_3fe6f_30 : decode cAsb_append_3fe6f 30 = .ok (.getfield 79, 3) := zfAsb_append_3fe6f_0.2.2.2.2.2.2.2.2.2.2.2.2.2.2.2.2.1
theorem dAsb_append_3fe6f_33 : decode cAsb_append_3fe6f 33 = .ok (.dup_x1, 1) := zfAsb_append_3fe6f_0.2.2.2.2.2.2.2.2.2.2.2.2.2.2.2.2.2.1
theorem dAsb_append_3fe6f_34 : decode cAsb_append_3fe6f 34 = .ok (.iconst 1, 1) := zfAsb_append_3fe6f_0.2.2.2.2.2.2.2.2.2.2.2.2.2.2.2.2.2.2.1
theorem dAsb_append_3fe6f_35 : decode cAsb_append_3fe6f 35 = .ok (.iadd, 1) := zfAsb_append_3fe6f_0.2.2.2.2.2.2.2.2.2.2.2.2.2.2.2.2.2.2.2.1
theorem dAsb_append_3fe6f_36 : decode cAsb_append_3fe6f 36 = .ok (.putfield 79, 3) := zfAsb_append_3fe6f_0.2.2.2.2.2.2.2.2.2.2.2.2.2.2.2.2.2.2.2.2.1
theorem dAsb_append_3fe6f_39 : decode cAsb_append_3fe6f 39 = .ok (.iload_n 1, 1) := zfAsb_append_3fe6f_0.2.2.2.2.2.2.2.2.2.2.2.2.2.2.2.2.2.2.2.2.2.1
theorem dAsb_append_3fe6f_40 : decode cAsb_append_3fe6f 40 = .ok (.i2b, 1) := zfAsb_append_3fe6f_0.2.2.2.2.2.2.2.2.2.2.2.2.2.2.2.2.2.2.2.2.2.2.1
theorem dAsb_append_3fe6f_41 : decode cAsb_append_3fe6f 41 = .ok (.bastore, 1) := zfAsb_append_3fe6f_0.2.2.2.2.2.2.2.2.2.2.2.2.2.2.2.2.2.2.2.2.2.2.2.1
theorem dAsb_append_3fe6f_42 : decode cAsb_append_3fe6f 42 = .ok (.goto 33, 3) := zfAsb_append_3fe6f_0.2.2.2.2.2.2.2.2.2.2.2.2.2.2.2.2.2.2.2.2.2.2.2.2.1
theorem dAsb_append_3fe6f_45 : decode cAsb_append_3fe6f 45 = .ok (.aload_n 0, 1) := zfAsb_append_3fe6f_0.2.2.2.2.2.2.2.2.2.2.2.2.2.2.2.2.2.2.2.2.2.2.2.2.2.1
theorem dAsb_append_3fe6f_46 : decode cAsb_append_3fe6f 46 = .ok (.invokevirtual 83, 3) := zfAsb_append_3fe6f_0.2.2.2.2.2.2.2.2.2.2.2.2.2.2.2.2.2.2.2.2.2.2.2.2.2.2.1
theorem dAsb_append_3fe6f_49 : decode cAsb_append_3fe6f 49 = .ok (.ifCond .eq 7, 3) := zfAsb_append_3fe6f_0.2.2.2.2.2.2.2.2.2.2.2.2.2.2.2.2.2.2.2.2.2.2.2.2.2.2.2.1
theorem dAsb_append_3fe6f_52 : decode cAsb_append_3fe6f 52 = .ok (.aload_n 0, 1) := zfAsb_append_3fe6f_0.2.2.2.2.2.2.2.2.2.2.2.2.2.2.2.2.2.2.2.2.2.2.2.2.2.2.2.2.1
theorem dAsb_append_3fe6f_53 : decode cAsb_append_3fe6f 53 = .ok (.invokevirtual 195, 3) := zfAsb_append_3fe6f_0.2.2.2.2.2.2.2.2.2.2.2.2.2.2.2.2.2.2.2.2.2.2.2.2.2.2.2.2.2.1
theorem dAsb_append_3fe6f_56 : decode cAsb_append_3fe6f 56 = .ok (.aload_n 0, 1) := zfAsb_append_3fe6f_0.2.2.2.2.2.2.2.2.2.2.2.2.2.2.2.2.2.2.2.2.2.2.2.2.2.2.2.2.2.2.1
theorem dAsb_append_3fe6f_57 : decode cAsb_append_3fe6f 57 = .ok (.getfield 15, 3) := zfAsb_append_3fe6f_0.2.2.2.2.2.2.2.2.2.2.2.2.2.2.2.2.2.2.2.2.2.2.2.2.2.2.2.2.2.2.2.1
theorem zfAsb_append_3fe6f_60 : decode cAsb_append_3fe6f 60 = .ok (.aload_n 0, 1) ∧ decode cAsb_append_3fe6f 61 = .ok (.dup, 1) ∧ decode cAsb_append_3fe6f 62 = .ok (.getfield 79, 3) ∧ decode cAsb_append_3fe6f 65 = .ok (.dup_x1, 1) ∧ decode cAsb_append_3fe6f 66 = .ok (.iconst 1, 1) ∧ decode cAsb_append_3fe6f 67 = .ok (.iadd, 1) ∧ decode cAsb_append_3fe6f 68 = .ok (.putfield 79, 3) ∧ decode cAsb_append_3fe6f 71 = .ok (.iload_n 1, 1) ∧ decode cAsb_append_3fe6f 72 = .ok (.invokestatic 197, 3) ∧ decode cAsb_append_3fe6f 75 = .ok (.aload_n 0, 1) ∧ decode cAsb_append_3fe6f 76 = .ok (.areturn, 1) ∧ True := Jvm.Free.DS.facts (code := cAsb_append_3fe6f) 60 [(.aload_n 0, 1), (.dup, 1), (.getfield 79, 3), (.dup_x1, 1), (.iconst 1, 1), (.iadd, 1), (.putfield 79, 3), (.iload_n 1, 1), (.invokestatic 197, 3), (.aload_n 0, 1), (.areturn, 1)] (by decide +kernel) (by decide +kernel)
theorem dAsb_append_3fe6f_60 : decode cAsb_append_3fe6f 60 = .ok (.aload_n 0, 1) := zfAsb_append_3fe6f_60.1
theorem dAsb_append_3fe6f_61 : decode cAsb_append_3fe6f 61 = .ok (.dup, 1) := zfAsb_append_3fe6f_60.2.1
theorem dAsb_append_3fe6f_62 : decode cAsb_append_3fe6f 62 = .ok (.getfield 79, 3) := zfAsb_append_3fe6f_60.2.2.1
theorem dAsb_append_3fe6f_65 : decode cAsb_append_3fe6f 65 = .ok (.dup_x1, 1) := zfAsb_append_3fe6f_60.2.2.2.1
theorem dAsb_append_3fe6f_66 : decode cAsb_append_3fe6f 66 = .ok (.iconst 1, 1) := zfAsb_append_3fe6f_60.2.2.2.2.1
theorem dAsb_append_3fe6f_67 : decode cAsb_append_3fe6f 67 = .ok (.iadd, 1) := zfAsb_append_3fe6f_60.2.2.2.2.2.1
theorem dAsb_append_3fe6f_68 : decode cAsb_append_3fe6f 68 = .ok (.putfield 79, 3) := zfAsb_append_3fe6f_60.2.2.2.2.2.2.1
theorem dAsb_append_3fe6f_71 : decode cAsb_append_3fe6f 71 = .ok (.iload_n 1, 1) := zfAsb_append_3fe6f_60.2.2.2.2.2.2.2.1
theorem dAsb_append_3fe6f_72 : decode cAsb_append_3fe6f 72 = .ok (.invokestatic 197, 3) := zfAsb_append_3fe6f_60.2.2.2.2.2.2.2.2.1
theorem dAsb_append_3fe6f_75 : decode cAsb_append_3fe6f 75 = .ok (.aload_n 0, 1) := zfAsb_append_3fe6f_60.2.2.2.2.2.2.2.2.2.1
theorem dAsb_append_3fe6f_76 : decode cAsb_append_3fe6f 76 = .ok (.areturn, 1) := zfAsb_append_3fe6f_60.2.2.2.2.2.2.2.2.2.2.1
theorem zfAsb_append_c97b9_0 : decode cAsb_append_c97b9 0 = .ok (.aload_n 0, 1) ∧ decode cAsb_append_c97b9 1 = .ok (.getfield 79, 3) ∧ decode cAsb_append_c97b9 4 = .ok (.istore_n 2, 1) ∧ decode cAsb_append_c97b9 5 = .ok (.iload_n 2, 1) ∧ decode cAsb_append_c97b9 6 = .ok (.iload_n 1, 1) ∧ decode cAsb_append_c97b9 7 = .ok (.invokestatic 245, 3) ∧ decode cAsb_append_c97b9 10 = .ok (.iadd, 1) ∧ decode cAsb_append_c97b9 11 = .ok (.istore_n 3, 1) ∧ decode cAsb_append_c97b9 12 = .ok (.aload_n 0, 1) ∧ decode cAsb_append_c97b9 13 = .ok (.iload_n 3, 1) ∧ decode cAsb_append_c97b9 14 = .ok (.invokevirtual 100, 3) ∧ decode cAsb_append_c97b9 17 = .ok (.aload_n 0, 1) ∧ decode cAsb_append_c97b9 18 = .ok (.invokevirtual 83, 3) ∧ decode cAsb_append_c97b9 21 = .ok (.ifCond .eq 16, 3) ∧ decode cAsb_append_c97b9 24 = .ok (.iload_n 1, 1) ∧ decode cAsb_append_c97b9 25 = .ok (.iload_n 3, 1) ∧ decode cAsb_append_c97b9 26 = .ok (.aload_n 0, 1) ∧ decode cAsb_append_c97b9 27 = .ok (.getfield 15, 3) ∧ decode cAsb_append_c97b9 30 = .ok (.invokestatic 248, 3) ∧ decode cAsb_append_c97b9 33 = .ok (.pop, 1) ∧ decode cAsb_append_c97b9 34 = .ok (.goto 14, 3) ∧ decode cAsb_append_c97b9 37 = .ok (.iload_n 1, 1) ∧ decode cAsb_append_c97b9 38 = .ok (.iload_n 2, 1) ∧ decode cAsb_append_c97b9 39 = .ok (.iload_n 3, 1) ∧ decode cAsb_append_c97b9 40 = .ok (.aload_n 0, 1) ∧ decode cAsb_append_c97b9 41 = .ok (.getfield 15, 3) ∧ decode cAsb_append_c97b9 44 = .ok (.invokestatic 251, 3) ∧ decode cAsb_append_c97b9 47 = .ok (.pop, 1) ∧ decode cAsb_append_c97b9 48 = .ok (.aload_n 0, 1) ∧ decode cAsb_append_c97b9 49 = .ok (.iload_n 3, 1) ∧ decode cAsb_append_c97b9 50 = .ok (.putfield 79, 3) ∧ decode cAsb_append_c97b9 53 = .ok (.aload_n 0, 1) ∧ True := Jvm.Free.DS.facts (code := cAsb_append_c97b9) 0 [(.aload_n 0, 1), (.getfield 79, 3), (.istore_n 2, 1), (.iload_n 2, 1), (.iload_n 1, 1), (.invokestatic 245, 3), (.iadd, 1), (.istore_n 3, 1), (.aload_n 0, 1), (.iload_n 3, 1), (.invokevirtual 100, 3), (.aload_n 0, 1), (.invokevirtual 83, 3), (.ifCond .eq 16, 3), (.iload_n 1, 1), (.iload_n 3, 1), (.aload_n 0, 1), (.getfield 15, 3), (.invokestatic 248, 3), (.pop, 1), (.goto 14, 3), (.iload_n 1, 1), (.iload_n 2, 1), (.iload_n 3, 1), (.aload_n 0, 1), (.getfield 15, 3), (.invokestatic 251, 3), (.pop, 1), (.aload_n 0, 1), (.iload_n 3, 1), (.putfield 79, 3), (.aload_n 0, 1)] (by decide +kernel) (by decide +kernel)
theorem dAsb_append_c97b9_0 : decode cAsb_append_c97b9 0 = .ok (.aload_n 0, 1) := zfAsb_append_c97b9_0.1
theorem dAsb_append_c97b9_1 : decode cAsb_append_c97b9 1 = .ok (.getfield 79, 3) := zfAsb_append_c97b9_0.2.1
theorem dAsb_append_c97b9_4 : decode cAsb_append_c97b9 4 = .ok (.istore_n 2, 1) := zfAsb_append_c97b9_0.2.2.1
theorem dAsb_append_c97b9_5 : decode cAsb_append_c97b9 5 = .ok (.iload_n 2, 1) := zfAsb_append_c97b9_0.2.2.2.1
theorem dAsb_append_c97b9_6 : decode cAsb_append_c97b9 6 = .ok (.iload_n 1, 1) := zfAsb_append_c97b9_0.2.2.2.2.1
theorem dAsb_append_c97b9_7 : decode cAsb_append_c97b9 7 = .ok (.invokestatic 245, 3) := zfAsb_append_c97b9_0.2.2.2.2.2.1
theorem dAsb_append_c97b9_10 : decode cAsb_append_c97b9 10 = .ok (.iadd, 1) := zfAsb_append_c97b9_0.2.2.2.2.2.2.1
theorem dAsb_append_c97b9_11 : decode cAsb_append_c97b9 11 = .ok (.istore_n 3, 1) := zfAsb_append_c97b9_0.2.2.2.2.2.2.2.1
theorem dAsb_append_c97b9_12 : decode cAsb_append_c97b9 12 = .ok (.aload_n 0, 1) := zfAsb_append_c97b9_0.2.2.2.2.2.2.2.2.1
theorem dAsb_append_c97b9_13 : decode cAsb_append_c97b9 13 = .ok (.iload_n 3, 1) := zfAsb_append_c97b9_0.2.2.2.2.2.2.2.2.2.1
theorem dAsb_append_c97b9_14 : decode cAsb_append_c97b9 14 = .ok (.invokevirtual 100, 3) := zfAsb_append_c97b9_0.2.2.2.2.2.2.2.2.2.2.1
theorem dAsb_append_c97b9_17 : decode cAsb_append_c97b9 17 = .ok (.aload_n 0, 1) := zfAsb_append_c97b9_0.2.2.2.2.2.2.2.2.2.2.2.1
theorem dAsb_append_c97b9_18 : decode cAsb_append_c97b9 18 = .ok (.invokevirtual 83, 3) := zfAsb_append_c97b9_0.2.2.2.2.2.2.2.2.2.2.2.2.1
theorem dAsb_append_c97b9_21 : decode cAsb_append_c97b9 21 = .ok (.ifCond .eq 16, 3) := zfAsb_append_c97b9_0.2.2.2.2.2.2.2.2.2.2.2.2.2.1
theorem dAsb_append_c97b9_24 : decode cAsb_append_c97b9 24 = .ok (.iload_n 1, 1) := zfAsb_append_c97b9_0.2.2.2.2.2.2.2.2.2.2.2.2.2.2.1
theorem dAsb_append_c97b9_25 : decode cAsb_append_c97b9 25 = .ok (.iload_n 3, 1) := zfAsb_append_c97b9_0.2.2.2.2.2.2.2.2.2.2.2.2.2.2.2.1
theorem dAsb_append_c97b9_26 : decode cAsb_append_c97b9 26 = .ok (.aload_n 0, 1) := zfAsb_append_c97b9_0.2.2.2.2.2.2.2.2.2.2.2.2.2.2.2.2.1
theorem dAsb_append_c97b9_27 : decode cAsb_append_c97b9 27 = .ok (.getfield 15, 3) := zfAsb_append_c97b9_0.2.2.2.2.2.2.2.2.2.2.2.2.2.2.2.2.2.1
theorem dAsb_append_c97b9_30 : decode cAsb_append_c97b9 30 = .ok (.invokestatic 248, 3) := zfAsb_append_c97b9_0.2.2.2.2.2.2.2.2.2.2.2.2.2.2.2.2.2.2.1
theorem dAsb_append_c97b9_33 : decode cAsb_append_c97b9 33 = .ok (.pop, 1) := zfAsb_append_c97b9_0.2.2.2.2.2.2.2.2.2.2.2.2.2.2.2.2.2.2.2.1
theorem dAsb_append_c97b9_34 : decode cAsb_append_c97b9 34 = .ok (.goto 14, 3) := zfAsb_append_c97b9_0.2.2.2.2.2.2.2.2.2.2.2.2.2.2.2.2.2.2.2.2.1
theorem dAsb_append_c97b9_37 : decode cAsb_append_c97b9 37 = .ok (.iload_n 1, 1) := zfAsb_append_c97b9_0.2.2.2.2.2.2.2.2.2.2.2.2.2.2.2.2.2.2.2.2.2.1
theorem dAsb_append_c97b9_38 : decode cAsb_append_c97b9 38 = .ok (.iload_n 2, 1) := zfAsb_append_c97b9_0.2.2.2.2.2.2.2.2.2.2.2.2.2.2.2.2.2.2.2.2.2.2.1
theorem dAsb_append_c97b9_39 : decode cAsb_append_c97b9 39 = .ok (.iload_n 3, 1) := zfAsb_append_c97b9_0.2.2.2.2.2.2.2.2.2.2.2.2.2.2.2.2.2.2.2.2.2.2.2.1
theorem dAsb_append_c97b9_40 : decode cAsb_append_c97b9 40 = .ok (.aload_n 0, 1) := zfAsb_append_c97b9_0.2.2.2.2.2.2.2.2.2.2.2.2.2.2.2.2.2.2.2.2.2.2.2.2.1
theorem dAsb_append_c97b9_41 : decode cAsb_append_c97b9 41 = .ok (.getfield 15, 3) := zfAsb_append_c97b9_0.2.2.2.2.2.2.2.2.2.2.2.2.2.2.2.2.2.2.2.2.2.2.2.2.2.1
theorem dAsb_append_c97b9_44 : decode cAsb_append_c97b9 44 = .ok (.invokestatic 251, 3) := zfAsb_append_c97b9_0.2.2.2.2.2.2.2.2.2.2.2.2.2.2.2.2.2.2.2.2.2.2.2.2.2.2.1
theorem dAsb_append_c97b9_47 : decode cAsb_append_c97b9 47 = .ok (.pop, 1) := zfAsb_append_c97b9_0.2.2.2.2.2.2.2.2.2.2.2.2.2.2.2.2.2.2.2.2.2.2.2.2.2.2.2.1
theorem dAsb_append_c97b9_48 : decode cAsb_append_c97b9 48 = .ok (.aload_n 0, 1) := zfAsb_append_c97b9_0.2.2.2.2.2.2.2.2.2.2.2.2.2.2.2.2.2.2.2.2.2.2.2.2.2.2.2.2.1
theorem dAsb_append_c97b9_49 : decode cAsb_append_c97b9 49 = .ok (.iload_n 3, 1) := zfAsb_append_c97b9_0.2.2.2.2.2.2.2.2.2.2.2.2.2.2.2.2.2.2.2.2.2.2.2.2.2.2.2.2.2.1
theorem dAsb_append_c97b9_50 : decode cAsb_append_c97b9 50 = .ok (.putfield 79, 3) := zfAsb_append_c97b9_0.2.2.2.2.2.2.2.2.2.2.2.2.2.2.2.2.2.2.2.2.2.2.2.2.2.2.2.2.2.2.1
theorem dAsb_append_c97b9_53 : decode cAsb_append_c97b9 53 = .ok (.aload_n 0, 1) := zfAsb_append_c97b9_0.2.2.2.2.2.2.2.2.2.2.2.2.2.2.2.2.2.2.2.2.2.2.2.2.2.2.2.2.2.2.2.1
theorem dAsb_append_c97b9_54 : decode cAsb_append_c97b9 54 = .ok (.areturn, 1) := by decide +kernel
theorem zfAsb_getValue_6d5f1_0 : decode cAsb_getValue_6d5f1 0 = .ok (.aload_n 0, 1) ∧ decode cAsb_getValue_6d5f1 1 = .ok (.getfield 15, 3) ∧ decode cAsb_getValue_6d5f1 4 = .ok (.areturn, 1) ∧ True := Jvm.Free.DS.facts (code := cAsb_getValue_6d5f1) 0 [(.aload_n 0, 1), (.getfield 15, 3), (.areturn, 1)] (by decide +kernel) (by decide +kernel)
theorem dAsb_getValue_6d5f1_0 : decode cAsb_getValue_6d5f1 0 = .ok (.aload_n 0, 1) := zfAsb_getValue_6d5f1_0.1
theorem dAsb_getValue_6d5f1_1 : decode cAsb_getValue_6d5f1 1 = .ok (.getfield 15, 3) := zfAsb_getValue_6d5f1_0.2.1
theorem dAsb_getValue_6d5f1_4 : decode cAsb_getValue_6d5f1 4 = .ok (.areturn, 1) := zfAsb_getValue_6d5f1_0.2.2.1
theorem zfAsb_isLatin1_aae02_0 : decode cAsb_isLatin1_aae02 0 = .ok (.getstatic 18, 3) ∧ decode cAsb_isLatin1_aae02 3 = .ok (.ifCond .eq 14, 3) ∧ decode cAsb_isLatin1_aae02 6 = .ok (.aload_n 0, 1) ∧ decode cAsb_isLatin1_aae02 7 = .ok (.getfield 22, 3) ∧ decode cAsb_isLatin1_aae02 10 = .ok (.ifCond .ne 7, 3) ∧ decode cAsb_isLatin1_aae02 13 = .ok (.iconst 1, 1) ∧ decode cAsb_isLatin1_aae02 14 = .ok (.goto 4, 3) ∧ decode cAsb_isLatin1_aae02 17 = .ok (.iconst 0, 1) ∧ decode cAsb_isLatin1_aae02 18 = .ok (.ireturn, 1) ∧ True := Jvm.Free.DS.facts (code := cAsb_isLatin1_aae02) 0 [(.getstatic 18, 3), (.ifCond .eq 14, 3), (.aload_n 0, 1), (.getfield 22, 3), (.ifCond .ne 7, 3), (.iconst 1, 1), (.goto 4, 3), (.iconst 0, 1), (.ireturn, 1)] (by decide +kernel) (by decide +kernel)
theorem dAsb_isLatin1_aae02_0 : decode cAsb_isLatin1_aae02 0 = .ok (.getstatic 18, 3) := zfAsb_isLatin1_aae02_0.1
theorem dAsb_isLatin1_aae02_3 : decode cAsb_isLatin1_aae02 3 = .ok (.ifCond .eq 14, 3) := zfAsb_isLatin1_aae02_0.2.1
theorem dAsb_isLatin1_aae02_6 : decode cAsb_isLatin1_aae02 6 = .ok (.aload_n 0, 1) := zfAsb_isLatin1_aae02_0.2.2.1
theorem dAsb_isLatin1_aae02_7 : decode cAsb_isLatin1_aae02 7 = .ok (.getfield 22, 3) := zfAsb_isLatin1_aae02_0.2.2.2.1
theorem dAsb_isLatin1_aae02_10 : decode cAsb_isLatin1_aae02 10 = .ok (.ifCond .ne 7, 3) := zfAsb_isLatin1_aae02_0.2.2.2.2.1
theorem dAsb_isLatin1_aae02_13 : decode cAsb_isLatin1_aae02 13 = .ok (.iconst 1, 1) := zfAsb_isLatin1_aae02_0.2.2.2.2.2.1
theorem dAsb_isLatin1_aae02_14 : decode cAsb_isLatin1_aae02 14 = .ok (.goto 4, 3) := zfAsb_isLatin1_aae02_0.2.2.2.2.2.2.1
theorem dAsb_isLatin1_aae02_17 : decode cAsb_isLatin1_aae02 17 = .ok (.iconst 0, 1) := zfAsb_isLatin1_aae02_0.2.2.2.2.2.2.2.1
theorem dAsb_isLatin1_aae02_18 : decode cAsb_isLatin1_aae02 18 = .ok (.ireturn, 1) := zfAsb_isLatin1_aae02_0.2.2.2.2.2.2.2.2.1
theorem zfAsb_inflateIfNeededFor_a7421_0 : decode cAsb_inflateIfNeededFor_a7421 0 = .ok (.getstatic 18, 3) ∧ decode cAsb_inflateIfNeededFor_a7421 3 = .ok (.ifCond .eq 18, 3) ∧ decode cAsb_inflateIfNeededFor_a7421 6 = .ok (.aload_n 0, 1) ∧ decode cAsb_inflateIfNeededFor_a7421 7 = .ok (.getfield 22, 3) ∧ decode cAsb_inflateIfNeededFor_a7421 10 = .ok (.aload_n 1, 1) ∧ decode cAsb_inflateIfNeededFor_a7421 11 = .ok (.invokevirtual 40, 3) ∧ decode cAsb_inflateIfNeededFor_a7421 14 = .ok (.if_icmp .eq 7, 3) ∧ decode cAsb_inflateIfNeededFor_a7421 17 = .ok (.aload_n 0, 1) ∧ decode cAsb_inflateIfNeededFor_a7421 18 = .ok (.invokevirtual 195, 3) ∧ decode cAsb_inflateIfNeededFor_a7421 21 = .ok (.return_, 1) ∧ True := Jvm.Free.DS.facts (code := cAsb_inflateIfNeededFor_a7421) 0 [(.getstatic 18, 3), (.ifCond .eq 18, 3), (.aload_n 0, 1), (.getfield 22, 3), (.aload_n 1, 1), (.invokevirtual 40, 3), (.if_icmp .eq 7, 3), (.aload_n 0, 1), (.invokevirtual 195, 3), (.return_, 1)] (by decide +kernel) (by decide +kernel)
theorem dAsb_inflateIfNeededFor_a7421_0 : decode cAsb_inflateIfNeededFor_a7421 0 = .ok (.getstatic 18, 3) := zfAsb_inflateIfNeededFor_a7421_0.1
theorem dAsb_inflateIfNeededFor_a7421_3 : decode cAsb_inflateIfNeededFor_a7421 3 = .ok (.ifCond .eq 18, 3) := zfAsb_inflateIfNeededFor_a7421_0.2.1
theorem dAsb_inflateIfNeededFor_a7421_6 : decode cAsb_inflateIfNeededFor_a7421 6 = .ok (.aload_n 0, 1) := zfAsb_inflateIfNeededFor_a7421_0.2.2.1
theorem dAsb_inflateIfNeededFor_a7421_7 : decode cAsb_inflateIfNeededFor_a7421 7 = .ok (.getfield 22, 3) := zfAsb_inflateIfNeededFor_a7421_0.2.2.2.1
theorem dAsb_inflateIfNeededFor_a7421_10 : decode cAsb_inflateIfNeededFor_a7421 10 = .ok (.aload_n 1, 1) := zfAsb_inflateIfNeededFor_a7421_0.2.2.2.2.1
theorem dAsb_inflateIfNeededFor_a7421_11 : decode cAsb_inflateIfNeededFor_a7421 11 = .ok (.invokevirtual 40, 3) := zfAsb_inflateIfNeededFor_a7421_0.2.2.2.2.2.1
theorem dAsb_inflateIfNeededFor_a7421_14 : decode cAsb_inflateIfNeededFor_a7421 14 = .ok (.if_icmp .eq 7, 3) := zfAsb_inflateIfNeededFor_a7421_0.2.2.2.2.2.2.1
theorem dAsb_inflateIfNeededFor_a7421_17 : decode cAsb_inflateIfNeededFor_a7421 17 = .ok (.aload_n 0, 1) := zfAsb_inflateIfNeededFor_a7421_0.2.2.2.2.2.2.2.1
theorem dAsb_inflateIfNeededFor_a7421_18 : decode cAsb_inflateIfNeededFor_a7421 18 = .ok (.invokevirtual 195, 3) := zfAsb_inflateIfNeededFor_a7421_0.2.2.2.2.2.2.2.2.1
theorem dAsb_inflateIfNeededFor_a7421_21 : decode cAsb_inflateIfNeededFor_a7421 21 = .ok (.return_, 1) := zfAsb_inflateIfNeededFor_a7421_0.2.2.2.2.2.2.2.2.2.1
theorem zfAsb_putStringAt_47b60_0 : decode cAsb_putStringAt_47b60 0 = .ok (.aload_n 0, 1) ∧ decode cAsb_putStringAt_47b60 1 = .ok (.aload_n 2, 1) ∧ decode cAsb_putStringAt_47b60 2 = .ok (.invokevirtual 397, 3) ∧ decode cAsb_putStringAt_47b60 5 = .ok (.aload_n 2, 1) ∧ decode cAsb_putStringAt_47b60 6 = .ok (.aload_n 0, 1) ∧ decode cAsb_putStringAt_47b60 7 = .ok (.getfield 15, 3) ∧ decode cAsb_putStringAt_47b60 10 = .ok (.iload_n 1, 1) ∧ decode cAsb_putStringAt_47b60 11 = .ok (.aload_n 0, 1) ∧ decode cAsb_putStringAt_47b60 12 = .ok (.getfield 22, 3) ∧ decode cAsb_putStringAt_47b60 15 = .ok (.invokevirtual 399, 3) ∧ decode cAsb_putStringAt_47b60 18 = .ok (.return_, 1) ∧ True := Jvm.Free.DS.facts (code := cAsb_putStringAt_47b60) 0 [(.aload_n 0, 1), (.aload_n 2, 1), (.invokevirtual 397, 3), (.aload_n 2, 1), (.aload_n 0, 1), (.getfield 15, 3), (.iload_n 1, 1), (.aload_n 0, 1), (.getfield 22, 3), (.invokevirtual 399, 3), (.return_, 1)] (by decide +kernel) (by decide +kernel)
theorem dAsb_putStringAt_47b60_0 : decode cAsb_putStringAt_47b60 0 = .ok (.aload_n 0, 1) := zfAsb_putStringAt_47b60_0.1
theorem dAsb_putStringAt_47b60_1 : decode cAsb_putStringAt_47b60 1 = .ok (.aload_n 2, 1) := zfAsb_putStringAt_47b60_0.2.1
theorem dAsb_putStringAt_47b60_2 : decode cAsb_putStringAt_47b60 2 = .ok (.invokevirtual 397, 3) := zfAsb_putStringAt_47b60_0.2.2.1
theorem dAsb_putStringAt_47b60_5 : decode cAsb_putStringAt_47b60 5 = .ok (.aload_n 2, 1) := zfAsb_putStringAt_47b60_0.2.2.2.1
theorem dAsb_putStringAt_47b60_6 : decode cAsb_putStringAt_47b60 6 = .ok (.aload_n 0, 1) := zfAsb_putStringAt_47b60_0.2.2.2.2.1
theorem dAsb_putStringAt_47b60_7 : decode cAsb_putStringAt_47b60 7 = .ok (.getfield 15, 3) := zfAsb_putStringAt_47b60_0.2.2.2.2.2.1
theorem dAsb_putStringAt_47b60_10 : decode cAsb_putStringAt_47b60 10 = .ok (.iload_n 1, 1) := zfAsb_putStringAt_47b60_0.2.2.2.2.2.2.1
theorem dAsb_putStringAt_47b60_11 : decode cAsb_putStringAt_47b60 11 = .ok (.aload_n 0, 1) := zfAsb_putStringAt_47b60_0.2.2.2.2.2.2.2.1
theorem dAsb_putStringAt_47b60_12 : decode cAsb_putStringAt_47b60 12 = .ok (.getfield 22, 3) := zfAsb_putStringAt_47b60_0.2.2.2.2.2.2.2.2.1
theorem dAsb_putStringAt_47b60_15 : decode cAsb_putStringAt_47b60 15 = .ok (.invokevirtual 399, 3) := zfAsb_putStringAt_47b60_0.2.2.2.2.2.2.2.2.2.1
theorem dAsb_putStringAt_47b60_18 : decode cAsb_putStringAt_47b60 18 = .ok (.return_, 1) := zfAsb_putStringAt_47b60_0.2.2.2.2.2.2.2.2.2.2.1
theorem zfInt_getChars_ba4f3_0 : decode cInt_getChars_ba4f3 0 = .ok (.iload_n 1, 1) ∧ decode cInt_getChars_ba4f3 1 = .ok (.istore 5, 2) ∧ decode cInt_getChars_ba4f3 3 = .ok (.iload_n 0, 1) ∧ decode cInt_getChars_ba4f3 4 = .ok (.ifCond .ge 7, 3) ∧ decode cInt_getChars_ba4f3 7 = .ok (.iconst 1, 1) ∧ decode cInt_getChars_ba4f3 8 = .ok (.goto 4, 3) ∧ decode cInt_getChars_ba4f3 11 = .ok (.iconst 0, 1) ∧ decode cInt_getChars_ba4f3 12 = .ok (.istore 6, 2) ∧ decode cInt_getChars_ba4f3 14 = .ok (.iload 6, 2) ∧ decode cInt_getChars_ba4f3 16 = .ok (.ifCond .ne 6, 3) ∧ decode cInt_getChars_ba4f3 19 = .ok (.iload_n 0, 1) ∧ decode cInt_getChars_ba4f3 20 = .ok (.ineg, 1) ∧ decode cInt_getChars_ba4f3 21 = .ok (.istore_n 0, 1) ∧ decode cInt_getChars_ba4f3 22 = .ok (.iload_n 0, 1) ∧ decode cInt_getChars_ba4f3 23 = .ok (.bipush (-100), 2) ∧ decode cInt_getChars_ba4f3 25 = .ok (.if_icmp .gt 47, 3) ∧ decode cInt_getChars_ba4f3 28 = .ok (.iload_n 0, 1) ∧ decode cInt_getChars_ba4f3 29 = .ok (.bipush 100, 2) ∧ decode cInt_getChars_ba4f3 31 = .ok (.idiv, 1) ∧ decode cInt_getChars_ba4f3 32 = .ok (.istore_n 3, 1) ∧ decode cInt_getChars_ba4f3 33 = .ok (.iload_n 3, 1) ∧ decode cInt_getChars_ba4f3 34 = .ok (.bipush 100, 2) ∧ decode cInt_getChars_ba4f3 36 = .ok (.imul, 1) ∧ decode cInt_getChars_ba4f3 37 = .ok (.iload_n 0, 1) ∧ decode cInt_getChars_ba4f3 38 = .ok (.isub, 1) ∧ decode cInt_getChars_ba4f3 39 = .ok (.istore 4, 2) ∧ decode cInt_getChars_ba4f3 41 = .ok (.iload_n 3, 1) ∧ decode cInt_getChars_ba4f3 42 = .ok (.istore_n 0, 1) ∧ decode cInt_getChars_ba4f3 43 = .ok (.aload_n 2, 1) ∧ decode cInt_getChars_ba4f3 44 = .ok (.iinc 5 (-1), 3) ∧ decode cInt_getChars_ba4f3 47 = .ok (.iload 5, 2) ∧ decode cInt_getChars_ba4f3 49 = .ok (.getstatic 83, 3) ∧ True := Jvm.Free.DS.facts (code := cInt_getChars_ba4f3) 0 [(.iload_n 1, 1), (.istore 5, 2), (.iload_n 0, 1), (.ifCond .ge 7, 3), (.iconst 1, 1), (.goto 4, 3), (.iconst 0, 1), (.istore 6, 2), (.iload 6, 2), (.ifCond .ne 6, 3), (.iload_n 0, 1), (.ineg, 1), (.istore_n 0, 1), (.iload_n 0, 1), (.bipush (-100), 2), (.if_icmp .gt 47, 3), (.iload_n 0, 1), (.bipush 100, 2), (.idiv, 1), (.istore_n 3, 1), (.iload_n 3, 1), (.bipush 100, 2), (.imul, 1), (.iload_n 0, 1), (.isub, 1), (.istore 4, 2), (.iload_n 3, 1), (.istore_n 0, 1), (.aload_n 2, 1), (.iinc 5 (-1), 3), (.iload 5, 2), (.getstatic 83, 3)] (by decide +kernel) (by decide +kernel)
theorem dInt_getChars_ba4f3_0 : decode cInt_getChars_ba4f3 0 = .ok (.iload_n 1, 1) := zfInt_getChars_ba4f3_0.1
theorem dInt_getChars_ba4f3_1 : decode cInt_getChars_ba4f3 1 = .ok (.istore 5, 2) := zfInt_getChars_ba4f3_0.2.1
theorem dInt_getChars_ba4f3_3 : decode cInt_getChars_ba4f3 3 = .ok (.iload_n 0, 1) := zfInt_getChars_ba4f3_0.2.2.1
theorem dInt_getChars_ba4f3_4 : decode cInt_getChars_ba4f3 4 = .ok (.ifCond .ge 7, 3) := zfInt_getChars_ba4f3_0.2.2.2.1
theorem dInt_getChars_ba4f3_7 : decode cInt_getChars_ba4f3 7 = .ok (.iconst 1, 1) := zfInt_getChars_ba4f3_0.2.2.2.2.1
theorem dInt_getChars_ba4f3_8 : decode cInt_getChars_ba4f3 8 = .ok (.goto 4, 3) := zfInt_getChars_ba4f3_0.2.2.2.2.2.1
theorem dInt_getChars_ba4f3_11 : decode cInt_getChars_ba4f3 11 = .ok (.iconst 0, 1) := zfInt_getChars_ba4f3_0.2.2.2.2.2.2.1
theorem dInt_getChars_ba4f3_12 : decode cInt_getChars_ba4f3 12 = .ok (.istore 6, 2) := zfInt_getChars_ba4f3_0.2.2.2.2.2.2.2.1
theorem dInt_getChars_ba4f3_14 : decode cInt_getChars_ba4f3 14 = .ok (.iload 6, 2) := zfInt_getChars_ba4f3_0.2.2.2.2.2.2.2.2.1
theorem dInt_getChars_ba4f3_16 : decode cInt_getChars_ba4f3 16 = .ok (.ifCond .ne 6, 3) := zfInt_getChars_ba4f3_0.2.2.2.2.2.2.2.2.2.1
theorem dInt_getChars_ba4f3_19 : decode cInt_getChars_ba4f3 19 = .ok (.iload_n 0, 1) := zfInt_getChars_ba4f3_0.2.2.2.2.2.2.2.2.2.2.1
theorem dInt_getChars_ba4f3_20 : decode cInt_getChars_ba4f3 20 = .ok (.ineg, 1) := zfInt_getChars_ba4f3_0.2.2.2.2.2.2.2.2.2.2.2.1
theorem dInt_getChars_ba4f3_21 : decode cInt_getChars_ba4f3 21 = .ok (.istore_n 0, 1) := zfInt_getChars_ba4f3_0.2.2.2.2.2.2.2.2.2.2.2.2.1
theorem dInt_getChars_ba4f3_22 : decode cInt_getChars_ba4f3 22 = .ok (.iload_n 0, 1) := zfInt_getChars_ba4f3_0.2.2.2.2.2.2.2.2.2.2.2.2.2.1
theorem dInt_getChars_ba4f3_23 : decode cInt_getChars_ba4f3 23 = .ok (.bipush (-100), 2) := zfInt_getChars_ba4f3_0.2.2.2.2.2.2.2.2.2.2.2.2.2.2.1
theorem dInt_getChars_ba4f3_25 : decode cInt_getChars_ba4f3 25 = .ok (.if_icmp .gt 47, 3) := zfInt_getChars_ba4f3_0.2.2.2.2.2.2.2.2.2.2.2.2.2.2.2.1
theorem dInt_getChars_ba4f3_28 : decode cInt_getChars_ba4f3 28 = .ok (.iload_n 0, 1) := zfInt_getChars_ba4f3_0.2.2.2.2.2.2.2.2.2.2.2.2.2.2.2.2.1
theorem dInt_getChars_ba4f3_29 : decode cInt_getChars_ba4f3 29 = .ok (.bipush 100, 2) := zfInt_getChars_ba4f3_0.2.2.2.2.2.2.2.2.2.2.2.2.2.2.2.2.2.1
theorem dInt_getChars_ba4f3_31 : decode cInt_getChars_ba4f3 31 = .ok (.idiv, 1) := zfInt_getChars_ba4f3_0.2.2.2.2.2.2.2.2.2.2.2.2.2.2.2.2.2.2.1
theorem dInt_getChars_ba4f3_32 : decode cInt_getChars_ba4f3 32 = .ok (.istore_n 3, 1) := zfInt_getChars_ba4f3_0.2.2.2.2.2.2.2.2.2.2.2.2.2.2.2.2.2.2.2.1
theorem dInt_getChars_ba4f3_33 : decode cInt_getChars_ba4f3 33 = .ok (.iload_n 3, 1) := zfInt_getChars_ba4f3_0.2.2.2.2.2.2.2.2.2.2.2.2.2.2.2.2.2.2.2.2.1
theorem dInt_getChars_ba4f3_34 : decode cInt_getChars_ba4f3 34 = .ok (.bipush 100, 2) := zfInt_getChars_ba4f3_0.2.2.2.2.2.2.2.2.2.2.2.2.2.2.2.2.2.2.2.2.2.1
theorem dInt_getChars_ba4f3_36 : decode cInt_getChars_ba4f3 36 = .ok (.imul, 1) := zfInt_getChars_ba4f3_0.2.2.2.2.2.2.2.2.2.2.2.2.2.2.2.2.2.2.2.2.2.2.1
theorem dInt_getChars_ba4f3_37 : decode cInt_getChars_ba4f3 37 = .ok (.iload_n 0, 1) := zfInt_getChars_ba4f3_0.2.2.2.2.2.2.2.2.2.2.2.2.2.2.2.2.2.2.2.2.2.2.2.1
theorem dInt_getChars_ba4f3_38 : decode cInt_getChars_ba4f3 38 = .ok (.isub, 1) := zfInt_getChars_ba4f3_0.2.2.2.2.2.2.2.2.2.2.2.2.2.2.2.2.2.2.2.2.2.2.2.2.1
theorem dInt_getChars_ba4f3_39 : decode cInt_getChars_ba4f3 39 = .ok (.istore 4, 2) := zfInt_getChars_ba4f3_0.2.2.2.2.2.2.2.2.2.2.2.2.2.2.2.2.2.2.2.2.2.2.2.2.2.1
theorem dInt_getChars_ba4f3_41 : decode cInt_getChars_ba4f3 41 = .ok (.iload_n 3, 1) := zfInt_getChars_ba4f3_0.2.2.2.2.2.2.2.2.2.2.2.2.2.2.2.2.2.2.2.2.2.2.2.2.2.2.1
theorem dInt_getChars_ba4f3_42 : decode cInt_getChars_ba4f3 42 = .ok (.istore_n 0, 1) := zfInt_getChars_ba4f3_0.2.2.2.2.2.2.2.2.2.2.2.2.2.2.2.2.2.2.2.2.2.2.2.2.2.2.2.1
theorem dInt_getChars_ba4f3_43 : decode cInt_getChars_ba4f3 43 = .ok (.aload_n 2, 1) := zfInt_getChars_ba4f3_0.2.2.2.2.2.2.2.2.2.2.2.2.2.2.2.2.2.2.2.2.2.2.2.2.2.2.2.2.1
theorem dInt_getChars_ba4f3_44 : decode cInt_getChars_ba4f3 44 = .ok (.iinc 5 (-1), 3) := zfInt_getChars_ba4f3_0.2.2.2.2.2.2.2.2.2.2.2.2.2.2.2.2.2.2.2.2.2.2.2.2.2.2.2.2.2.1
theorem dInt_getChars_ba4f3_47 : decode cInt_getChars_ba4f3 47 = .ok (.iload 5, 2) := zfInt_getChars_ba4f3_0.2.2.2.2.2.2.2.2.2.2.2.2.2.2.2.2.2.2.2.2.2.2.2.2.2.2.2.2.2.2.1
theorem dInt_getChars_ba4f3_49 : decode cInt_getChars_ba4f3 49 = .ok (.getstatic 83, 3) := zfInt_getChars_ba4f3_0.2.2.2.2.2.2.2.2.2.2.2.2.2.2.2.2.2.2.2.2.2.2.2.2.2.2.2.2.2.2.2.1
theorem zfInt_getChars_ba4f3_52 : decode cInt_getChars_ba4f3 52 = .ok (.iload 4, 2) ∧ decode cInt_getChars_ba4f3 54 = .ok (.baload, 1) ∧ decode cInt_getChars_ba4f3 55 = .ok (.bastore, 1) ∧ decode cInt_getChars_ba4f3 56 = .ok (.aload_n 2, 1) ∧ decode cInt_getChars_ba4f3 57 = .ok (.iinc 5 (-1), 3) ∧ decode cInt_getChars_ba4f3 60 = .ok (.iload 5, 2) ∧ decode cInt_getChars_ba4f3 62 = .ok (.getstatic 87, 3) ∧ decode cInt_getChars_ba4f3 65 = .ok (.iload 4, 2) ∧ decode cInt_getChars_ba4f3 67 = .ok (.baload, 1) ∧ decode cInt_getChars_ba4f3 68 = .ok (.bastore, 1) ∧ decode cInt_getChars_ba4f3 69 = .ok (.goto (-47), 3) ∧ decode cInt_getChars_ba4f3 72 = .ok (.aload_n 2, 1) ∧ decode cInt_getChars_ba4f3 73 = .ok (.iinc 5 (-1), 3) ∧ decode cInt_getChars_ba4f3 76 = .ok (.iload 5, 2) ∧ decode cInt_getChars_ba4f3 78 = .ok (.getstatic 83, 3) ∧ decode cInt_getChars_ba4f3 81 = .ok (.iload_n 0, 1) ∧ decode cInt_getChars_ba4f3 82 = .ok (.ineg, 1) ∧ decode cInt_getChars_ba4f3 83 = .ok (.baload, 1) ∧ decode cInt_getChars_ba4f3 84 = .ok (.bastore, 1) ∧ decode cInt_getChars_ba4f3 85 = .ok (.iload_n 0, 1) ∧ decode cInt_getChars_ba4f3 86 = .ok (.bipush (-9), 2) ∧ decode cInt_getChars_ba4f3 88 = .ok (.if_icmp .ge 16, 3) ∧ decode cInt_getChars_ba4f3 91 = .ok (.aload_n 2, 1) ∧ decode cInt_getChars_ba4f3 92 = .ok (.iinc 5 (-1), 3) ∧ decode cInt_getChars_ba4f3 95 = .ok (.iload 5, 2) ∧ decode cInt_getChars_ba4f3 97 = .ok (.getstatic 87, 3) ∧ decode cInt_getChars_ba4f3 100 = .ok (.iload_n 0, 1) ∧ decode cInt_getChars_ba4f3 101 = .ok (.ineg, 1) ∧ decode cInt_getChars_ba4f3 102 = .ok (.baload, 1) ∧ decode cInt_getChars_ba4f3 103 = .ok (.bastore, 1) ∧ decode cInt_getChars_ba4f3 104 = .ok (.iload 6, 2) ∧ decode cInt_getChars_ba4f3 106 = .ok (.ifCond .eq 12, 3) ∧ True := Jvm.Free.DS.facts (code := cInt_getChars_ba4f3) 52 [(.iload 4, 2), (.baload, 1), (.bastore, 1), (.aload_n 2, 1), (.iinc 5 (-1), 3), (.iload 5, 2), (.getstatic 87, 3), (.iload 4, 2), (.baload, 1), (.bastore, 1), (.goto (-47), 3), (.aload_n 2, 1), (.iinc 5 (-1), 3), (.iload 5, 2), (.getstatic 83, 3), (.iload_n 0, 1), (.ineg, 1), (.baload, 1), (.bastore, 1), (.iload_n 0, 1), (.bipush (-9), 2), (.if_icmp .ge 16, 3), (.aload_n 2, 1), (.iinc 5 (-1), 3), (.iload 5, 2), (.getstatic 87, 3), (.iload_n 0, 1), (.ineg, 1), (.baload, 1), (.bastore, 1), (.iload 6, 2), (.ifCond .eq 12, 3)] (by decide +kernel) (by decide +kernel)
theorem dInt_getChars_ba4f3_52 : decode cInt_getChars_ba4f3 52 = .ok (.iload 4, 2) := zfInt_getChars_ba4f3_52.1
theorem dInt_getChars_ba4f3_54 : decode cInt_getChars_ba4f3 54 = .ok (.baload, 1) := zfInt_getChars_ba4f3_52.2.1
theorem dInt_getChars_ba4f3_55 : decode cInt_getChars_ba4f3 55 = .ok (.bastore, 1) := zfInt_getChars_ba4f3_52.2.2.1
theorem dInt_getChars_ba4f3_56 : decode cInt_getChars_ba4f3 56 = .ok (.aload_n 2, 1) := zfInt_getChars_ba4f3_52.2.2.2.1
theorem dInt_getChars_ba4f3_57 : decode cInt_getChars_ba4f3 57 = .ok (.iinc 5 (-1), 3) := zfInt_getChars_ba4f3_52.2.2.2.2.1
theorem dInt_getChars_ba4f3_60 : decode cInt_getChars_ba4f3 60 = .ok (.iload 5, 2) := zfInt_getChars_ba4f3_52.2.2.2.2.2.1
theorem dInt_getChars_ba4f3_62 : decode cInt_getChars_ba4f3 62 = .ok (.getstatic 87, 3) := zfInt_getChars_ba4f3_52.2.2.2.2.2.2.1
theorem dInt_getChars_ba4f3_65 : decode cInt_getChars_ba4f3 65 = .ok (.iload 4, 2) := zfInt_getChars_ba4f3_52.2.2.2.2.2.2.2.1
theorem dInt_getChars_ba4f3_67 : decode cInt_getChars_ba4f3 67 = .ok (.baload, 1) := zfInt_getChars_ba4f3_52.2.2.2.2.2.2.2.2.1
theorem dInt_getChars_ba4f3_68 : decode cInt_getChars_ba4f3 68 = .ok (.bastore, 1) := zfInt_getChars_ba4f3_52.2.2.2.2.2.2.2.2.2.1
theorem dInt_getChars_ba4f3_69 : decode cInt_getChars_ba4f3 69 = .ok (.goto (-47), 3) := zfInt_getChars_ba4f3_52.2.2.2.2.2.2.2.2.2.2.1
theorem dInt_getChars_ba4f3_72 : decode cInt_getChars_ba4f3 72 = .ok (.aload_n 2, 1) := zfInt_getChars_ba4f3_52.2.2.2.2.2.2.2.2.2.2.2.1
theorem dInt_getChars_ba4f3_73 : decode cInt_getChars_ba4f3 73 = .ok (.iinc 5 (-1), 3) := zfInt_getChars_ba4f3_52.2.2.2.2.2.2.2.2.2.2.2.2.1
theorem dInt_getChars_ba4f3_76 : decode cInt_getChars_ba4f3 76 = .ok (.iload 5, 2) := zfInt_getChars_ba4f3_52.2.2.2.2.2.2.2.2.2.2.2.2.2.1
theorem dInt_getChars_ba4f3_78 : decode cInt_getChars_ba4f3 78 = .ok (.getstatic 83, 3) := zfInt_getChars_ba4f3_52.2.2.2.2.2.2.2.2.2.2.2.2.2.2.1
theorem dInt_getChars_ba4f3_81 : decode cInt_getChars_ba4f3 81 = .ok (.iload_n 0, 1) := zfInt_getChars_ba4f3_52.2.2.2.2.2.2.2.2.2.2.2.2.2.2.2.1
theorem dInt_getChars_ba4f3_82 : decode cInt_getChars_ba4f3 82 = .ok (.ineg, 1) := zfInt_getChars_ba4f3_52.2.2.2.2.2.2.2.2.2.2.2.2.2.2.2.2.1
theorem dInt_getChars_ba4f3_83 : decode cInt_getChars_ba4f3 83 = .ok (.baload, 1) := zfInt_getChars_ba4f3_52.2.2.2.2.2.2.2.2.2.2.2.2.2.2.2.2.2.1
theorem dInt_getChars_ba4f3_84 : decode cInt_getChars_ba4f3 84 = .ok (.bastore, 1) := zfInt_getChars_ba4f3_52.2.2.2.2.2.2.2.2.2.2.2.2.2.2.2.2.2.2.1
theorem dInt_getChars_ba4f3_85 : decode cInt_getChars_ba4f3 85 = .ok (.iload_n 0, 1) := zfInt_getChars_ba4f3_52.2.2.2.2.2.2.2.2.2.2.2.2.2.2.2.2.2.2.2.1
theorem dInt_getChars_ba4f3_86 : decode cInt_getChars_ba4f3 86 = .ok (.bipush (-9), 2) := zfInt_getChars_ba4f3_52.2.2.2.2.2.2.2.2.2.2.2.2.2.2.2.2.2.2.2.2.1
theorem dInt_getChars_ba4f3_88 : decode cInt_getChars_ba4f3 88 = .ok (.if_icmp .ge 16, 3) := zfInt_getChars_ba4f3_52.2.2.2.2.2.2.2.2.2.2.2.2.2.2.2.2.2.2.2.2.2.1
theorem dInt_getChars_ba4f3_91 : decode cInt_getChars_ba4f3 91 = .ok (.aload_n 2, 1) := zfInt_getChars_ba4f3_52.2.2.2.2.2.2.2.2.2.2.2.2.2.2.2.2.2.2.2.2.2.2.1
theorem dInt_getChars_ba4f3_92 : decode cInt_getChars_ba4f3 92 = .ok (.iinc 5 (-1), 3) := zfInt_getChars_ba4f3_52.2.2.2.2.2.2.2.2.2.2.2.2.2.2.2.2.2.2.2.2.2.2.2.1
theorem dInt_getChars_ba4f3_95 : decode cInt_getChars_ba4f3 95 = .ok (.iload 5, 2) := zfInt_getChars_ba4f3_52.2.2.2.2.2.2.2.2.2.2.2.2.2.2.2.2.2.2.2.2.2.2.2.2.1
theorem dInt_getChars_ba4f3_97 : decode cInt_getChars_ba4f3 97 = .ok (.getstatic 87, 3) := zfInt_getChars_ba4f3_52.2.2.2.2.2.2.2.2.2.2.2.2.2.2.2.2.2.2.2.2.2.2.2.2.2.1
theorem dInt_getChars_ba4f3_100 : decode cInt_getChars_ba4f3 100 = .ok (.iload_n 0, 1) := zfInt_getChars_ba4f3_52.2.2.2.2.2.2.2.2.2.2.2.2.2.2.2.2.2.2.2.2.2.2.2.2.2.2.1
theorem dInt_getChars_ba4f3_101 : decode cInt_getChars_ba4f3 101 = .ok (.ineg, 1) := zfInt_getChars_ba4f3_52.2.2.2.2.2.2.2.2.2.2.2.2.2.2.2.2.2.2.2.2.2.2.2.2.2.2.2.1
theorem dInt_getChars_ba4f3_102 : decode cInt_getChars_ba4f3 102 = .ok (.baload, 1) := zfInt_getChars_ba4f3_52.2.2.2.2.2.2.2.2.2.2.2.2.2.2.2.2.2.2.2.2.2.2.2.2.2.2.2.2.1
theorem dInt_getChars_ba4f3_103 : decode cInt_getChars_ba4f3 103 = .ok (.bastore, 1) := zfInt_getChars_ba4f3_52.2.2.2.2.2.2.2.2.2.2.2.2.2.2.2.2.2.2.2.2.2.2.2.2.2.2.2.2.2.1
theorem dInt_getChars_ba4f3_104 : decode cInt_getChars_ba4f3 104 = .ok (.iload 6, 2) := zfInt_getChars_ba4f3_52.2.2.2.2.2.2.2.2.2.2.2.2.2.2.2.2.2.2.2.2.2.2.2.2.2.2.2.2.2.2.1
theorem dInt_getChars_ba4f3_106 : decode cInt_getChars_ba4f3 106 = .ok (.ifCond .eq 12, 3) := zfInt_getChars_ba4f3_52.2.2.2.2.2.2.2.2.2.2.2.2.2.2.2.2.2.2.2.2.2.2.2.2.2.2.2.2.2.2.2.1
theorem zfInt_getChars_ba4f3_109 : decode cInt_getChars_ba4f3 109 = .ok (.aload_n 2, 1) ∧ decode cInt_getChars_ba4f3 110 = .ok (.iinc 5 (-1), 3) ∧ decode cInt_getChars_ba4f3 113 = .ok (.iload 5, 2) ∧ decode cInt_getChars_ba4f3 115 = .ok (.bipush 45, 2) ∧ decode cInt_getChars_ba4f3 117 = .ok (.bastore, 1) ∧ decode cInt_getChars_ba4f3 118 = .ok (.iload 5, 2) ∧ decode cInt_getChars_ba4f3 120 = .ok (.ireturn, 1) ∧ True := Jvm.Free.DS.facts (code := cInt_getChars_ba4f3) 109 [(.aload_n 2, 1), (.iinc 5 (-1), 3), (.iload 5, 2), (.bipush 45, 2), (.bastore, 1), (.iload 5, 2), (.ireturn, 1)] (by decide +kernel) (by decide +kernel)
theorem dInt_getChars_ba4f3_109 : decode cInt_getChars_ba4f3 109 = .ok (.aload_n 2, 1) := zfInt_getChars_ba4f3_109.1
theorem dInt_getChars_ba4f3_110 : decode cInt_getChars_ba4f3 110 = .ok (.iinc 5 (-1), 3) := zfInt_getChars_ba4f3_109.2.1
theorem dInt_getChars_ba4f3_113 : decode cInt_getChars_ba4f3 113 = .ok (.iload 5, 2) := zfInt_getChars_ba4f3_109.2.2.1
theorem dInt_getChars_ba4f3_115 : decode cInt_getChars_ba4f3 115 = .ok (.bipush 45, 2) := zfInt_getChars_ba4f3_109.2.2.2.1
theorem dInt_getChars_ba4f3_117 : decode cInt_getChars_ba4f3 117 = .ok (.bastore, 1) := zfInt_getChars_ba4f3_109.2.2.2.2.1
theorem dInt_getChars_ba4f3_118 : decode cInt_getChars_ba4f3 118 = .ok (.iload 5, 2) := zfInt_getChars_ba4f3_109.2.2.2.2.2.1
theorem dInt_getChars_ba4f3_120 : decode cInt_getChars_ba4f3 120 = .ok (.ireturn, 1) := zfInt_getChars_ba4f3_109.2.2.2.2.2.2.1
theorem zfInt_stringSize_0f7a4_0 : decode cInt_stringSize_0f7a4 0 = .ok (.iconst 1, 1) ∧ decode cInt_stringSize_0f7a4 1 = .ok (.istore_n 1, 1) ∧ decode cInt_stringSize_0f7a4 2 = .ok (.iload_n 0, 1) ∧ decode cInt_stringSize_0f7a4 3 = .ok (.ifCond .lt 8, 3) ∧ decode cInt_stringSize_0f7a4 6 = .ok (.iconst 0, 1) ∧ decode cInt_stringSize_0f7a4 7 = .ok (.istore_n 1, 1) ∧ decode cInt_stringSize_0f7a4 8 = .ok (.iload_n 0, 1) ∧ decode cInt_stringSize_0f7a4 9 = .ok (.ineg, 1) ∧ decode cInt_stringSize_0f7a4 10 = .ok (.istore_n 0, 1) ∧ decode cInt_stringSize_0f7a4 11 = .ok (.bipush (-10), 2) ∧ decode cInt_stringSize_0f7a4 13 = .ok (.istore_n 2, 1) ∧ decode cInt_stringSize_0f7a4 14 = .ok (.iconst 1, 1) ∧ decode cInt_stringSize_0f7a4 15 = .ok (.istore_n 3, 1) ∧ decode cInt_stringSize_0f7a4 16 = .ok (.iload_n 3, 1) ∧ decode cInt_stringSize_0f7a4 17 = .ok (.bipush 10, 2) ∧ decode cInt_stringSize_0f7a4 19 = .ok (.if_icmp .ge 23, 3) ∧ decode cInt_stringSize_0f7a4 22 = .ok (.iload_n 0, 1) ∧ decode cInt_stringSize_0f7a4 23 = .ok (.iload_n 2, 1) ∧ decode cInt_stringSize_0f7a4 24 = .ok (.if_icmp .le 7, 3) ∧ decode cInt_stringSize_0f7a4 27 = .ok (.iload_n 3, 1) ∧ decode cInt_stringSize_0f7a4 28 = .ok (.iload_n 1, 1) ∧ decode cInt_stringSize_0f7a4 29 = .ok (.iadd, 1) ∧ decode cInt_stringSize_0f7a4 30 = .ok (.ireturn, 1) ∧ decode cInt_stringSize_0f7a4 31 = .ok (.bipush 10, 2) ∧ decode cInt_stringSize_0f7a4 33 = .ok (.iload_n 2, 1) ∧ decode cInt_stringSize_0f7a4 34 = .ok (.imul, 1) ∧ decode cInt_stringSize_0f7a4 35 = .ok (.istore_n 2, 1) ∧ decode cInt_stringSize_0f7a4 36 = .ok (.iinc 3 1, 3) ∧ decode cInt_stringSize_0f7a4 39 = .ok (.goto (-23), 3) ∧ decode cInt_stringSize_0f7a4 42 = .ok (.bipush 10, 2) ∧ decode cInt_stringSize_0f7a4 44 = .ok (.iload_n 1, 1) ∧ decode cInt_stringSize_0f7a4 45 = .ok (.iadd, 1) ∧ True := Jvm.Free.DS.facts (code := cInt_stringSize_0f7a4) 0 [(.iconst 1, 1), (.istore_n 1, 1), (.iload_n 0, 1), (.ifCond .lt 8, 3), (.iconst 0, 1), (.istore_n 1, 1), (.iload_n 0, 1), (.ineg, 1), (.istore_n 0, 1), (.bipush (-10), 2), (.istore_n 2, 1), (.iconst 1, 1), (.istore_n 3, 1), (.iload_n 3, 1), (.bipush 10, 2), (.if_icmp .ge 23, 3), (.iload_n 0, 1), (.iload_n 2, 1), (.if_icmp .le 7, 3), (.iload_n 3, 1), (.iload_n 1, 1), (.iadd, 1), (.ireturn, 1), (.bipush 10, 2), (.iload_n 2, 1), (.imul, 1), (.istore_n 2, 1), (.iinc 3 1, 3), (.goto (-23), 3), (.bipush 10, 2), (.iload_n 1, 1), (.iadd, 1)] (by decide +kernel) (by decide +kernel)
theorem dInt_stringSize_0f7a4_0 : decode cInt_stringSize_0f7a4 0 = .ok (.iconst 1, 1) := zfInt_stringSize_0f7a4_0.1
theorem dInt_stringSize_0f7a4_1 : decode cInt_stringSize_0f7a4 1 = .ok (.istore_n 1, 1) := zfInt_stringSize_0f7a4_0.2.1
theorem dInt_stringSize_0f7a4_2 : decode cInt_stringSize_0f7a4 2 = .ok (.iload_n 0, 1) := zfInt_stringSize_0f7a4_0.2.2.1
theorem dInt_stringSize_0f7a4_3 : decode cInt_stringSize_0f7a4 3 = .ok (.ifCond .lt 8, 3) := zfInt_stringSize_0f7a4_0.2.2.2.1
theorem dInt_stringSize_0f7a4_6 : decode cInt_stringSize_0f7a4 6 = .ok (.iconst 0, 1) := zfInt_stringSize_0f7a4_0.2.2.2.2.1
theorem dInt_stringSize_0f7a4_7 : decode cInt_stringSize_0f7a4 7 = .ok (.istore_n 1, 1) := zfInt_stringSize_0f7a4_0.2.2.2.2.2.1
theorem dInt_stringSize_0f7a4_8 : decode cInt_stringSize_0f7a4 8 = .ok (.iload_n 0, 1) := zfInt_stringSize_0f7a4_0.2.2.2.2.2.2.1
theorem dInt_stringSize_0f7a4_9 : decode cInt_stringSize_0f7a4 9 = .ok (.ineg, 1) := zfInt_stringSize_0f7a4_0.2.2.2.2.2.2.2.1
theorem dInt_stringSize_0f7a4_10 : decode cInt_stringSize_0f7a4 10 = .ok (.istore_n 0, 1) := zfInt_stringSize_0f7a4_0.2.2.2.2.2.2.2.2.1
theorem dInt_stringSize_0f7a4_11 : decode cInt_stringSize_0f7a4 11 = .ok (.bipush (-10), 2) := zfInt_stringSize_0f7a4_0.2.2.2.2.2.2.2.2.2.1
theorem dInt_stringSize_0f7a4_13 : decode cInt_stringSize_0f7a4 13 = .ok (.istore_n 2, 1) := zfInt_stringSize_0f7a4_0.2.2.2.2.2.2.2.2.2.2.1
theorem dInt_stringSize_0f7a4_14 : decode cInt_stringSize_0f7a4 14 = .ok (.iconst 1, 1) := zfInt_stringSize_0f7a4_0.2.2.2.2.2.2.2.2.2.2.2.1
theorem dInt_stringSize_0f7a4_15 : decode cInt_stringSize_0f7a4 15 = .ok (.istore_n 3, 1) := zfInt_stringSize_0f7a4_0.2.2.2.2.2.2.2.2.2.2.2.2.1
theorem dInt_stringSize_0f7a4_16 : decode cInt_stringSize_0f7a4 16 = .ok (.iload_n 3, 1) := zfInt_stringSize_0f7a4_0.2.2.2.2.2.2.2.2.2.2.2.2.2.1
theorem dInt_stringSize_0f7a4_17 : decode cInt_stringSize_0f7a4 17 = .ok (.bipush 10, 2) := zfInt_stringSize_0f7a4_0.2.2.2.2.2.2.2.2.2.2.2.2.2.2.1
theorem dInt_stringSize_0f7a4_19 : decode cInt_stringSize_0f7a4 19 = .ok (.if_icmp .ge 23, 3) := zfInt_stringSize_0f7a4_0.2.2.2.2.2.2.2.2.2.2.2.2.2.2.2.1
theorem dInt_stringSize_0f7a4_22 : decode cInt_stringSize_0f7a4 22 = .ok (.iload_n 0, 1) := zfInt_stringSize_0f7a4_0.2.2.2.2.2.2.2.2.2.2.2.2.2.2.2.2.1
theorem dInt_stringSize_0f7a4_23 : decode cInt_stringSize_0f7a4 23 = .ok (.iload_n 2, 1) := zfInt_stringSize_0f7a4_0.2.2.2.2.2.2.2.2.2.2.2.2.2.2.2.2.2.1
theorem dInt_stringSize_0f7a4_24 : decode cInt_stringSize_0f7a4 24 = .ok (.if_icmp .le 7, 3) := zfInt_stringSize_0f7a4_0.2.2.2.2.2.2.2.2.2.2.2.2.2.2.2.2.2.2.1
theorem dInt_stringSize_0f7a4_27 : decode cInt_stringSize_0f7a4 27 = .ok (.iload_n 3, 1) := zfInt_stringSize_0f7a4_0.2.2.2.2.2.2.2.2.2.2.2.2.2.2.2.2.2.2.2.1
theorem dInt_stringSize_0f7a4_28 : decode cInt_stringSize_0f7a4 28 = .ok (.iload_n 1, 1) := zfInt_stringSize_0f7a4_0.2.2.2.2.2.2.2.2.2.2.2.2.2.2.2.2.2.2.2.2.1
theorem dInt_stringSize_0f7a4_29 : decode cInt_stringSize_0f7a4 29 = .ok (.iadd, 1) := zfInt_stringSize_0f7a4_0.2.2.2.2.2.2.2.2.2.2.2.2.2.2.2.2.2.2.2.2.2.1
theorem dInt_stringSize_0f7a4_30 : decode cInt_stringSize_0f7a4 30 = .ok (.ireturn, 1) := zfInt_stringSize_0f7a4_0.2.2.2.2.2.2.2.2.2.2.2.2.2.2.2.2.2.2.2.2.2.2.1
theorem dInt_stringSize_0f7a4_31 : decode cInt_stringSize_0f7a4 31 = .ok (.bipush 10, 2) := zfInt_stringSize_0f7a4_0.2.2.2.2.2.2.2.2.2.2.2.2.2.2.2.2.2.2.2.2.2.2.2.1
theorem dInt_stringSize_0f7a4_33 : decode cInt_stringSize_0f7a4 33 = .ok (.iload_n 2, 1) := zfInt_stringSize_0f7a4_0.2.2.2.2.2.2.2.2.2.2.2.2.2.2.2.2.2.2.2.2.2.2.2.2.1
theorem dInt_stringSize_0f7a4_34 : decode cInt_stringSize_0f7a4 34 = .ok (.imul, 1) := zfInt_stringSize_0f7a4_0.2.2.2.2.2.2.2.2.2.2.2.2.2.2.2.2.2.2.2.2.2.2.2.2.2.1
theorem dInt_stringSize_0f7a4_35 : decode cInt_stringSize_0f7a4 35 = .ok (.istore_n 2, 1) := zfInt_stringSize_0f7a4_0.2.2.2.2.2.2.2.2.2.2.2.2.2.2.2.2.2.2.2.2.2.2.2.2.2.2.1
theorem dInt_stringSize_0f7a4_36 : decode cInt_stringSize_0f7a4 36 = .ok (.iinc 3 1, 3) := zfInt_stringSize_0f7a4_0.2.2.2.2.2.2.2.2.2.2.2.2.2.2.2.2.2.2.2.2.2.2.2.2.2.2.2.1
theorem dInt_stringSize_0f7a4_39 : decode cInt_stringSize_0f7a4 39 = .ok (.goto (-23), 3) := zfInt_stringSize_0f7a4_0.2.2.2.2.2.2.2.2.2.2.2.2.2.2.2.2.2.2.2.2.2.2.2.2.2.2.2.2.1
theorem dInt_stringSize_0f7a4_42 : decode cInt_stringSize_0f7a4 42 = .ok (.bipush 10, 2) := zfInt_stringSize_0f7a4_0.2.2.2.2.2.2.2.2.2.2.2.2.2.2.2.2.2.2.2.2.2.2.2.2.2.2.2.2.2.1
theorem dInt_stringSize_0f7a4_44 : decode cInt_stringSize_0f7a4 44 = .ok (.iload_n 1, 1) := zfInt_stringSize_0f7a4_0.2.2.2.2.2.2.2.2.2.2.2.2.2.2.2.2.2.2.2.2.2.2.2.2.2.2.2.2.2.2.1
theorem dInt_stringSize_0f7a4_45 : decode cInt_stringSize_0f7a4 45 = .ok (.iadd, 1) := zfInt_stringSize_0f7a4_0.2.2.2.2.2.2.2.2.2.2.2.2.2.2.2.2.2.2.2.2.2.2.2.2.2.2.2.2.2.2.2.1
theorem dInt_stringSize_0f7a4_46 : decode cInt_stringSize_0f7a4 46 = .ok (.ireturn, 1) := by decide +kernel
theorem zfMth_floorMod_7cf53_0 : decode cMth_floorMod_7cf53 0 = .ok (.iload_n 0, 1) ∧ decode cMth_floorMod_7cf53 1 = .ok (.iload_n 1, 1) ∧ decode cMth_floorMod_7cf53 2 = .ok (.irem, 1) ∧ decode cMth_floorMod_7cf53 3 = .ok (.istore_n 2, 1) ∧ decode cMth_floorMod_7cf53 4 = .ok (.iload_n 0, 1) ∧ decode cMth_floorMod_7cf53 5 = .ok (.iload_n 1, 1) ∧ decode cMth_floorMod_7cf53 6 = .ok (.ixor, 1) ∧ decode cMth_floorMod_7cf53 7 = .ok (.ifCond .ge 11, 3) ∧ decode cMth_floorMod_7cf53 10 = .ok (.iload_n 2, 1) ∧ decode cMth_floorMod_7cf53 11 = .ok (.ifCond .eq 7, 3) ∧ decode cMth_floorMod_7cf53 14 = .ok (.iload_n 2, 1) ∧ decode cMth_floorMod_7cf53 15 = .ok (.iload_n 1, 1) ∧ decode cMth_floorMod_7cf53 16 = .ok (.iadd, 1) ∧ decode cMth_floorMod_7cf53 17 = .ok (.ireturn, 1) ∧ decode cMth_floorMod_7cf53 18 = .ok (.iload_n 2, 1) ∧ decode cMth_floorMod_7cf53 19 = .ok (.ireturn, 1) ∧ True := Jvm.Free.DS.facts (code := cMth_floorMod_7cf53) 0 [(.iload_n 0, 1), (.iload_n 1, 1), (.irem, 1), (.istore_n 2, 1), (.iload_n 0, 1), (.iload_n 1, 1), (.ixor, 1), (.ifCond .ge 11, 3), (.iload_n 2, 1), (.ifCond .eq 7, 3), (.iload_n 2, 1), (.iload_n 1, 1), (.iadd, 1), (.ireturn, 1), (.iload_n 2, 1), (.ireturn, 1)] (by decide +kernel) (by decide +kernel)
theorem dMth_floorMod_7cf53_0 : decode cMth_floorMod_7cf53 0 = .ok (.iload_n 0, 1) := zfMth_floorMod_7cf53_0.1
theorem dMth_floorMod_7cf53_1 : decode cMth_floorMod_7cf53 1 = .ok (.iload_n 1, 1) := zfMth_floorMod_7cf53_0.2.1
theorem dMth_floorMod_7cf53_2 : decode cMth_floorMod_7cf53 2 = .ok (.irem, 1) := zfMth_floorMod_7cf53_0.2.2.1
theorem dMth_floorMod_7cf53_3 : decode cMth_floorMod_7cf53 3 = .ok (.istore_n 2, 1) := zfMth_floorMod_7cf53_0.2.2.2.1
theorem dMth_floorMod_7cf53_4 : decode cMth_floorMod_7cf53 4 = .ok (.iload_n 0, 1) := zfMth_floorMod_7cf53_0.2.2.2.2.1
theorem dMth_floorMod_7cf53_5 : decode cMth_floorMod_7cf53 5 = .ok (.iload_n 1, 1) := zfMth_floorMod_7cf53_0.2.2.2.2.2.1
theorem dMth_floorMod_7cf53_6 : decode cMth_floorMod_7cf53 6 = .ok (.ixor, 1) := zfMth_floorMod_7cf53_0.2.2.2.2.2.2.1
theorem dMth_floorMod_7cf53_7 : decode cMth_floorMod_7cf53 7 = .ok (.ifCond .ge 11, 3) := zfMth_floorMod_7cf53_0.2.2.2.2.2.2.2.1
theorem dMth_floorMod_7cf53_10 : decode cMth_floorMod_7cf53 10 = .ok (.iload_n 2, 1) := zfMth_floorMod_7cf53_0.2.2.2.2.2.2.2.2.1
theorem dMth_floorMod_7cf53_11 : decode cMth_floorMod_7cf53 11 = .ok (.ifCond .eq 7, 3) := zfMth_floorMod_7cf53_0.2.2.2.2.2.2.2.2.2.1
theorem dMth_floorMod_7cf53_14 : decode cMth_floorMod_7cf53 14 = .ok (.iload_n 2, 1) := zfMth_floorMod_7cf53_0.2.2.2.2.2.2.2.2.2.2.1
theorem dMth_floorMod_7cf53_15 : decode cMth_floorMod_7cf53 15 = .ok (.iload_n 1, 1) := zfMth_floorMod_7cf53_0.2.2.2.2.2.2.2.2.2.2.2.1
theorem dMth_floorMod_7cf53_16 : decode cMth_floorMod_7cf53 16 = .ok (.iadd, 1) := zfMth_floorMod_7cf53_0.2.2.2.2.2.2.2.2.2.2.2.2.1
theorem dMth_floorMod_7cf53_17 : decode cMth_floorMod_7cf53 17 = .ok (.ireturn, 1) := zfMth_floorMod_7cf53_0.2.2.2.2.2.2.2.2.2.2.2.2.2.1
theorem dMth_floorMod_7cf53_18 : decode cMth_floorMod_7cf53 18 = .ok (.iload_n 2, 1) := zfMth_floorMod_7cf53_0.2.2.2.2.2.2.2.2.2.2.2.2.2.2.1
theorem dMth_floorMod_7cf53_19 : decode cMth_floorMod_7cf53 19 = .ok (.ireturn, 1) := zfMth_floorMod_7cf53_0.2.2.2.2.2.2.2.2.2.2.2.2.2.2.2.1
theorem zfMth_max_7cf53_0 : decode cMth_max_7cf53 0 = .ok (.iload_n 0, 1) ∧ decode cMth_max_7cf53 1 = .ok (.iload_n 1, 1) ∧ decode cMth_max_7cf53 2 = .ok (.if_icmp .lt 7, 3) ∧ decode cMth_max_7cf53 5 = .ok (.iload_n 0, 1) ∧ decode cMth_max_7cf53 6 = .ok (.goto 4, 3) ∧ decode cMth_max_7cf53 9 = .ok (.iload_n 1, 1) ∧ decode cMth_max_7cf53 10 = .ok (.ireturn, 1) ∧ True := Jvm.Free.DS.facts (code := cMth_max_7cf53) 0 [(.iload_n 0, 1), (.iload_n 1, 1), (.if_icmp .lt 7, 3), (.iload_n 0, 1), (.goto 4, 3), (.iload_n 1, 1), (.ireturn, 1)] (by decide +kernel) (by decide +kernel)
theorem dMth_max_7cf53_0 : decode cMth_max_7cf53 0 = .ok (.iload_n 0, 1) := zfMth_max_7cf53_0.1
theorem dMth_max_7cf53_1 : decode cMth_max_7cf53 1 = .ok (.iload_n 1, 1) := zfMth_max_7cf53_0.2.1
theorem dMth_max_7cf53_2 : decode cMth_max_7cf53 2 = .ok (.if_icmp .lt 7, 3) := zfMth_max_7cf53_0.2.2.1
theorem dMth_max_7cf53_5 : decode cMth_max_7cf53 5 = .ok (.iload_n 0, 1) := zfMth_max_7cf53_0.2.2.2.1
theorem dMth_max_7cf53_6 : decode cMth_max_7cf53 6 = .ok (.goto 4, 3) := zfMth_max_7cf53_0.2.2.2.2.1
theorem dMth_max_7cf53_9 : decode cMth_max_7cf53 9 = .ok (.iload_n 1, 1) := zfMth_max_7cf53_0.2.2.2.2.2.1
theorem dMth_max_7cf53_10 : decode cMth_max_7cf53 10 = .ok (.ireturn, 1) := zfMth_max_7cf53_0.2.2.2.2.2.2.1
theorem zfMth_min_7cf53_0 : decode cMth_min_7cf53 0 = .ok (.iload_n 0, 1) ∧ decode cMth_min_7cf53 1 = .ok (.iload_n 1, 1) ∧ decode cMth_min_7cf53 2 = .ok (.if_icmp .gt 7, 3) ∧ decode cMth_min_7cf53 5 = .ok (.iload_n 0, 1) ∧ decode cMth_min_7cf53 6 = .ok (.goto 4, 3) ∧ decode cMth_min_7cf53 9 = .ok (.iload_n 1, 1) ∧ decode cMth_min_7cf53 10 = .ok (.ireturn, 1) ∧ True := Jvm.Free.DS.facts (code := cMth_min_7cf53) 0 [(.iload_n 0, 1), (.iload_n 1, 1), (.if_icmp .gt 7, 3), (.iload_n 0, 1), (.goto 4, 3), (.iload_n 1, 1), (.ireturn, 1)] (by decide +kernel) (by decide +kernel)
theorem dMth_min_7cf53_0 : decode cMth_min_7cf53 0 = .ok (.iload_n 0, 1) := zfMth_min_7cf53_0.1
theorem dMth_min_7cf53_1 : decode cMth_min_7cf53 1 = .ok (.iload_n 1, 1) := zfMth_min_7cf53_0.2.1
theorem dMth_min_7cf53_2 : decode cMth_min_7cf53 2 = .ok (.if_icmp .gt 7, 3) := zfMth_min_7cf53_0.2.2.1
theorem dMth_min_7cf53_5 : decode cMth_min_7cf53 5 = .ok (.iload_n 0, 1) := zfMth_min_7cf53_0.2.2.2.1
theorem dMth_min_7cf53_6 : decode cMth_min_7cf53 6 = .ok (.goto 4, 3) := zfMth_min_7cf53_0.2.2.2.2.1
theorem dMth_min_7cf53_9 : decode cMth_min_7cf53 9 = .ok (.iload_n 1, 1) := zfMth_min_7cf53_0.2.2.2.2.2.1
theorem dMth_min_7cf53_10 : decode cMth_min_7cf53 10 = .ok (.ireturn, 1) := zfMth_min_7cf53_0.2.2.2.2.2.2.1
theorem zfStr_init_81219_0 : decode cStr_init_81219 0 = .ok (.aload_n 0, 1) ∧ decode cStr_init_81219 1 = .ok (.aload_n 1, 1) ∧ decode cStr_init_81219 2 = .ok (.aconst_null, 1) ∧ decode cStr_init_81219 3 = .ok (.invokespecial 489, 3) ∧ decode cStr_init_81219 6 = .ok (.return_, 1) ∧ True := Jvm.Free.DS.facts (code := cStr_init_81219) 0 [(.aload_n 0, 1), (.aload_n 1, 1), (.aconst_null, 1), (.invokespecial 489, 3), (.return_, 1)] (by decide +kernel) (by decide +kernel)
theorem dStr_init_81219_0 : decode cStr_init_81219 0 = .ok (.aload_n 0, 1) := zfStr_init_81219_0.1
theorem dStr_init_81219_1 : decode cStr_init_81219 1 = .ok (.aload_n 1, 1) := zfStr_init_81219_0.2.1
theorem dStr_init_81219_2 : decode cStr_init_81219 2 = .ok (.aconst_null, 1) := zfStr_init_81219_0.2.2.1
theorem dStr_init_81219_3 : decode cStr_init_81219 3 = .ok (.invokespecial 489, 3) := zfStr_init_81219_0.2.2.2.1
theorem dStr_init_81219_6 : decode cStr_init_81219 6 = .ok (.return_, 1) := zfStr_init_81219_0.2.2.2.2.1
theorem zfStr_length_8abf5_0 : decode cStr_length_8abf5 0 = .ok (.aload_n 0, 1) ∧ decode cStr_length_8abf5 1 = .ok (.getfield 9, 3) ∧ decode cStr_length_8abf5 4 = .ok (.arraylength, 1) ∧ decode cStr_length_8abf5 5 = .ok (.aload_n 0, 1) ∧ decode cStr_length_8abf5 6 = .ok (.invokevirtual 335, 3) ∧ decode cStr_length_8abf5 9 = .ok (.ishr, 1) ∧ decode cStr_length_8abf5 10 = .ok (.ireturn, 1) ∧ True := Jvm.Free.DS.facts (code := cStr_length_8abf5) 0 [(.aload_n 0, 1), (.getfield 9, 3), (.arraylength, 1), (.aload_n 0, 1), (.invokevirtual 335, 3), (.ishr, 1), (.ireturn, 1)] (by decide +kernel) (by decide +kernel)
theorem dStr_length_8abf5_0 : decode cStr_length_8abf5 0 = .ok (.aload_n 0, 1) := zfStr_length_8abf5_0.1
theorem dStr_length_8abf5_1 : decode cStr_length_8abf5 1 = .ok (.getfield 9, 3) := zfStr_length_8abf5_0.2.1
theorem dStr_length_8abf5_4 : decode cStr_length_8abf5 4 = .ok (.arraylength, 1) := zfStr_length_8abf5_0.2.2.1
theorem dStr_length_8abf5_5 : decode cStr_length_8abf5 5 = .ok (.aload_n 0, 1) := zfStr_length_8abf5_0.2.2.2.1
theorem dStr_length_8abf5_6 : decode cStr_length_8abf5 6 = .ok (.invokevirtual 335, 3) := zfStr_length_8abf5_0.2.2.2.2.1
theorem dStr_length_8abf5_9 : decode cStr_length_8abf5 9 = .ok (.ishr, 1) := zfStr_length_8abf5_0.2.2.2.2.2.1
theorem dStr_length_8abf5_10 : decode cStr_length_8abf5 10 = .ok (.ireturn, 1) := zfStr_length_8abf5_0.2.2.2.2.2.2.1
theorem zfStr_getBytes_840e7_0 : decode cStr_getBytes_840e7 0 = .ok (.aload_n 0, 1) ∧ decode cStr_getBytes_840e7 1 = .ok (.invokevirtual 335, 3) ∧ decode cStr_getBytes_840e7 4 = .ok (.iload_n 3, 1) ∧ decode cStr_getBytes_840e7 5 = .ok (.if_icmp .ne 23, 3) ∧ decode cStr_getBytes_840e7 8 = .ok (.aload_n 0, 1) ∧ decode cStr_getBytes_840e7 9 = .ok (.getfield 9, 3) ∧ decode cStr_getBytes_840e7 12 = .ok (.iconst 0, 1) ∧ decode cStr_getBytes_840e7 13 = .ok (.aload_n 1, 1) ∧ decode cStr_getBytes_840e7 14 = .ok (.iload_n 2, 1) ∧ decode cStr_getBytes_840e7 15 = .ok (.iload_n 3, 1) ∧ decode cStr_getBytes_840e7 16 = .ok (.ishl, 1) ∧ decode cStr_getBytes_840e7 17 = .ok (.aload_n 0, 1) ∧ decode cStr_getBytes_840e7 18 = .ok (.getfield 9, 3) ∧ decode cStr_getBytes_840e7 21 = .ok (.arraylength, 1) ∧ decode cStr_getBytes_840e7 22 = .ok (.invokestatic 212, 3) ∧ decode cStr_getBytes_840e7 25 = .ok (.goto 18, 3) ∧ decode cStr_getBytes_840e7 28 = .ok (.aload_n 0, 1) ∧ decode cStr_getBytes_840e7 29 = .ok (.getfield 9, 3) ∧ decode cStr_getBytes_840e7 32 = .ok (.iconst 0, 1) ∧ decode cStr_getBytes_840e7 33 = .ok (.aload_n 1, 1) ∧ decode cStr_getBytes_840e7 34 = .ok (.iload_n 2, 1) ∧ decode cStr_getBytes_840e7 35 = .ok (.aload_n 0, 1) ∧ decode cStr_getBytes_840e7 36 = .ok (.getfield 9, 3) ∧ decode cStr_getBytes_840e7 39 = .ok (.arraylength, 1) ∧ decode cStr_getBytes_840e7 40 = .ok (.invokestatic 106, 3) ∧ decode cStr_getBytes_840e7 43 = .ok (.return_, 1) ∧ True := Jvm.Free.DS.facts (code := cStr_getBytes_840e7) 0 [(.aload_n 0, 1), (.invokevirtual 335, 3), (.iload_n 3, 1), (.if_icmp .ne 23, 3), (.aload_n 0, 1), (.getfield 9, 3), (.iconst 0, 1), (.aload_n 1, 1), (.iload_n 2, 1), (.iload_n 3, 1), (.ishl, 1), (.aload_n 0, 1), (.getfield 9, 3), (.arraylength, 1), (.invokestatic 212, 3), (.goto 18, 3), (.aload_n 0, 1), (.getfield 9, 3), (.iconst 0, 1), (.aload_n 1, 1), (.iload_n 2, 1), (.aload_n 0, 1), (.getfield 9, 3), (.arraylength, 1), (.invokestatic 106, 3), (.return_, 1)] (by decide +kernel) (by decide +kernel)
theorem dStr_getBytes_840e7_0 : decode cStr_getBytes_840e7 0 = .ok (.aload_n 0, 1) := zfStr_getBytes_840e7_0.1
theorem dStr_getBytes_840e7_1 : decode cStr_getBytes_840e7 1 = .ok (.invokevirtual 335, 3) := zfStr_getBytes_840e7_0.2.1
theorem dStr_getBytes_840e7_4 : decode cStr_getBytes_840e7 4 = .ok (.iload_n 3, 1) := zfStr_getBytes_840e7_0.2.2.1
theorem dStr_getBytes_840e7_5 : decode cStr_getBytes_840e7 5 = .ok (.if_icmp .ne 23, 3) := zfStr_getBytes_840e7_0.2.2.2.1
theorem dStr_getBytes_840e7_8 : decode cStr_getBytes_840e7 8 = .ok (.aload_n 0, 1) := zfStr_getBytes_840e7_0.2.2.2.2.1
theorem dStr_getBytes_840e7_9 : decode cStr_getBytes_840e7 9 = .ok (.getfield 9, 3) := zfStr_getBytes_840e7_0.2.2.2.2.2.1
theorem dStr_getBytes_840e7_12 : decode cStr_getBytes_840e7 12 = .ok (.iconst 0, 1) := zfStr_getBytes_840e7_0.2.2.2.2.2.2.1
theorem dStr_getBytes_840e7_13 : decode cStr_getBytes_840e7 13 = .ok (.aload_n 1, 1) := zfStr_getBytes_840e7_0.2.2.2.2.2.2.2.1
theorem dStr_getBytes_840e7_14 : decode cStr_getBytes_840e7 14 = .ok (.iload_n 2, 1) := zfStr_getBytes_840e7_0.2.2.2.2.2.2.2.2.1
theorem dStr_getBytes_840e7_15 : decode cStr_getBytes_840e7 15 = .ok (.iload_n 3, 1) := zfStr_getBytes_840e7_0.2.2.2.2.2.2.2.2.2.1
theorem dStr_getBytes_840e7_16 : decode cStr_getBytes_840e7 16 = .ok (.ishl, 1) := zfStr_getBytes_840e7_0.2.2.2.2.2.2.2.2.2.2.1
theorem dStr_getBytes_840e7_17 : decode cStr_getBytes_840e7 17 = .ok (.aload_n 0, 1) := zfStr_getBytes_840e7_0.2.2.2.2.2.2.2.2.2.2.2.1
theorem dStr_getBytes_840e7_18 : decode cStr_getBytes_840e7 18 = .ok (.getfield 9, 3) := zfStr_getBytes_840e7_0.2.2.2.2.2.2.2.2.2.2.2.2.1
theorem dStr_getBytes_840e7_21 : decode cStr_getBytes_840e7 21 = .ok (.arraylength, 1) := zfStr_getBytes_840e7_0.2.2.2.2.2.2.2.2.2.2.2.2.2.1
theorem dStr_getBytes_840e7_22 : decode cStr_getBytes_840e7 22 = .ok (.invokestatic 212, 3) := zfStr_getBytes_840e7_0.2.2.2.2.2.2.2.2.2.2.2.2.2.2.1
theorem dStr_getBytes_840e7_25 : decode cStr_getBytes_840e7 25 = .ok (.goto 18, 3) := zfStr_getBytes_840e7_0.2.2.2.2.2.2.2.2.2.2.2.2.2.2.2.1
theorem dStr_getBytes_840e7_28 : decode cStr_getBytes_840e7 28 = .ok (.aload_n 0, 1) := zfStr_getBytes_840e7_0.2.2.2.2.2.2.2.2.2.2.2.2.2.2.2.2.1
theorem dStr_getBytes_840e7_29 : decode cStr_getBytes_840e7 29 = .ok (.getfield 9, 3) := zfStr_getBytes_840e7_0.2.2.2.2.2.2.2.2.2.2.2.2.2.2.2.2.2.1
theorem dStr_getBytes_840e7_32 : decode cStr_getBytes_840e7 32 = .ok (.iconst 0, 1) := zfStr_getBytes_840e7_0.2.2.2.2.2.2.2.2.2.2.2.2.2.2.2.2.2.2.1
theorem dStr_getBytes_840e7_33 : decode cStr_getBytes_840e7 33 = .ok (.aload_n 1, 1) := zfStr_getBytes_840e7_0.2.2.2.2.2.2.2.2.2.2.2.2.2.2.2.2.2.2.2.1
theorem dStr_getBytes_840e7_34 : decode cStr_getBytes_840e7 34 = .ok (.iload_n 2, 1) := zfStr_getBytes_840e7_0.2.2.2.2.2.2.2.2.2.2.2.2.2.2.2.2.2.2.2.2.1
theorem dStr_getBytes_840e7_35 : decode cStr_getBytes_840e7 35 = .ok (.aload_n 0, 1) := zfStr_getBytes_840e7_0.2.2.2.2.2.2.2.2.2.2.2.2.2.2.2.2.2.2.2.2.2.1
theorem dStr_getBytes_840e7_36 : decode cStr_getBytes_840e7 36 = .ok (.getfield 9, 3) := zfStr_getBytes_840e7_0.2.2.2.2.2.2.2.2.2.2.2.2.2.2.2.2.2.2.2.2.2.2.1
theorem dStr_getBytes_840e7_39 : decode cStr_getBytes_840e7 39 = .ok (.arraylength, 1) := zfStr_getBytes_840e7_0.2.2.2.2.2.2.2.2.2.2.2.2.2.2.2.2.2.2.2.2.2.2.2.1
theorem dStr_getBytes_840e7_40 : decode cStr_getBytes_840e7 40 = .ok (.invokestatic 106, 3) := zfStr_getBytes_840e7_0.2.2.2.2.2.2.2.2.2.2.2.2.2.2.2.2.2.2.2.2.2.2.2.2.1
theorem dStr_getBytes_840e7_43 : decode cStr_getBytes_840e7 43 = .ok (.return_, 1) := zfStr_getBytes_840e7_0.2.2.2.2.2.2.2.2.2.2.2.2.2.2.2.2.2.2.2.2.2.2.2.2.2.1
theorem zfStr_init_db425_0 : decode cStr_init_db425 0 = .ok (.aload_n 0, 1) ∧ decode cStr_init_db425 1 = .ok (.invokespecial 1, 3) ∧ decode cStr_init_db425 4 = .ok (.aload_n 1, 1) ∧ decode cStr_init_db425 5 = .ok (.invokevirtual 552, 3) ∧ decode cStr_init_db425 8 = .ok (.astore_n 3, 1) ∧ decode cStr_init_db425 9 = .ok (.aload_n 1, 1) ∧ decode cStr_init_db425 10 = .ok (.invokevirtual 549, 3) ∧ decode cStr_init_db425 13 = .ok (.istore 4, 2) ∧ decode cStr_init_db425 15 = .ok (.aload_n 1, 1) ∧ decode cStr_init_db425 16 = .ok (.invokevirtual 1047, 3) ∧ decode cStr_init_db425 19 = .ok (.ifCond .eq 22, 3) ∧ decode cStr_init_db425 22 = .ok (.aload_n 0, 1) ∧ decode cStr_init_db425 23 = .ok (.iconst 0, 1) ∧ decode cStr_init_db425 24 = .ok (.putfield 15, 3) ∧ decode cStr_init_db425 27 = .ok (.aload_n 0, 1) ∧ decode cStr_init_db425 28 = .ok (.aload_n 3, 1) ∧ decode cStr_init_db425 29 = .ok (.iconst 0, 1) ∧ decode cStr_init_db425 30 = .ok (.iload 4, 2) ∧ decode cStr_init_db425 32 = .ok (.invokestatic 54, 3) ∧ decode cStr_init_db425 35 = .ok (.putfield 9, 3) ∧ decode cStr_init_db425 38 = .ok (.goto 59, 3) ∧ decode cStr_init_db425 41 = .ok (.getstatic 38, 3) ∧ decode cStr_init_db425 44 = .ok (.ifCond .eq 35, 3) ∧ decode cStr_init_db425 47 = .ok (.aload_n 1, 1) ∧ decode cStr_init_db425 48 = .ok (.getfield 1048, 3) ∧ decode cStr_init_db425 51 = .ok (.ifCond .eq 28, 3) ∧ decode cStr_init_db425 54 = .ok (.aload_n 0, 1) ∧ decode cStr_init_db425 55 = .ok (.aload_n 3, 1) ∧ decode cStr_init_db425 56 = .ok (.iconst 0, 1) ∧ decode cStr_init_db425 57 = .ok (.iload 4, 2) ∧ decode cStr_init_db425 59 = .ok (.invokestatic 1051, 3) ∧ decode cStr_init_db425 62 = .ok (.putfield 9, 3) ∧ True := Jvm.Free.DS.facts (code := cStr_init_db425) 0 [(.aload_n 0, 1), (.invokespecial 1, 3), (.aload_n 1, 1), (.invokevirtual 552, 3), (.astore_n 3, 1), (.aload_n 1, 1), (.invokevirtual 549, 3), (.istore 4, 2), (.aload_n 1, 1), (.invokevirtual 1047, 3), (.ifCond .eq 22, 3), (.aload_n 0, 1), (.iconst 0, 1), (.putfield 15, 3), (.aload_n 0, 1), (.aload_n 3, 1), (.iconst 0, 1), (.iload 4, 2), (.invokestatic 54, 3), (.putfield 9, 3), (.goto 59, 3), (.getstatic 38, 3), (.ifCond .eq 35, 3), (.aload_n 1, 1), (.getfield 1048, 3), (.ifCond .eq 28, 3), (.aload_n 0, 1), (.aload_n 3, 1), (.iconst 0, 1), (.iload 4, 2), (.invokestatic 1051, 3), (.putfield 9, 3)] (by decide +kernel) (by decide +kernel)
theorem dStr_init_db425_0 : decode cStr_init_db425 0 = .ok (.aload_n 0, 1) := zfStr_init_db425_0.1
theorem dStr_init_db425_1 : decode cStr_init_db425 1 = .ok (.invokespecial 1, 3) := zfStr_init_db425_0.2.1
theorem dStr_init_db425_4 : decode cStr_init_db425 4 = .ok (.aload_n 1, 1) := zfStr_init_db425_0.2.2.1
theorem dStr_init_db425_5 : decode cStr_init_db425 5 = .ok (.invokevirtual 552, 3) := zfStr_init_db425_0.2.2.2.1
theorem dStr_init_db425_8 : decode cStr_init_db425 8 = .ok (.astore_n 3, 1) := zfStr_init_db425_0.2.2.2.2.1
theorem dStr_init_db425_9 : decode cStr_init_db425 9 = .ok (.aload_n 1, 1) := zfStr_init_db425_0.2.2.2.2.2.1
theorem dStr_init_db425_10 : decode cStr_init_db425 10 = .ok (.invokevirtual 549, 3) := zfStr_init_db425_0.2.2.2.2.2.2.1
theorem dStr_init_db425_13 : decode cStr_init_db425 13 = .ok (.istore 4, 2) := zfStr_init_db425_0.2.2.2.2.2.2.2.1
theorem dStr_init_db425_15 : decode cStr_init_db425 15 = .ok (.aload_n 1, 1) := zfStr_init_db425_0.2.2.2.2.2.2.2.2.1
theorem dStr_init_db425_16 : decode cStr_init_db425 16 = .ok (.invokevirtual 1047, 3) := zfStr_init_db425_0.2.2.2.2.2.2.2.2.2.1
theorem dStr_init_db425_19 : decode cStr_init_db425 19 = .ok (.ifCond .eq 22, 3) := zfStr_init_db425_0.2.2.2.2.2.2.2.2.2.2.1
theorem dStr_init_db425_22 : decode cStr_init_db425 22 = .ok (.aload_n 0, 1) := zfStr_init_db425_0.2.2.2.2.2.2.2.2.2.2.2.1
theorem dStr_init_db425_23 : decode cStr_init_db425 23 = .ok (.iconst 0, 1) := zfStr_init_db425_0.2.2.2.2.2.2.2.2.2.2.2.2.1
theorem dStr_init_db425_24 : decode cStr_init_db425 24 = .ok (.putfield 15, 3) := zfStr_init_db425_0.2.2.2.2.2.2.2.2.2.2.2.2.2.1
theorem dStr_init_db425_27 : decode cStr_init_db425 27 = .ok (.aload_n 0, 1) := zfStr_init_db425_0.2.2.2.2.2.2.2.2.2.2.2.2.2.2.1
theorem dStr_init_db425_28 : decode cStr_init_db425 28 = .ok (.aload_n 3, 1) := zfStr_init_db425_0.2.2.2.2.2.2.2.2.2.2.2.2.2.2.2.1
theorem dStr_init_db425_29 : decode cStr_init_db425 29 = .ok (.iconst 0, 1) := zfStr_init_db425_0.2.2.2.2.2.2.2.2.2.2.2.2.2.2.2.2.1
theorem dStr_init_db425_30 : decode cStr_init_db425 30 = .ok (.iload 4, 2) := zfStr_init_db425_0.2.2.2.2.2.2.2.2.2.2.2.2.2.2.2.2.2.1
theorem dStr_init_db425_32 : decode cStr_init_db425 32 = .ok (.invokestatic 54, 3) := zfStr_init_db425_0.2.2.2.2.2.2.2.2.2.2.2.2.2.2.2.2.2.2.1
theorem dStr_init_db425_35 : decode cStr_init_db425 35 = .ok (.putfield 9, 3) := zfStr_init_db425_0.2.2.2.2.2.2.2.2.2.2.2.2.2.2.2.2.2.2.2.1
theorem dStr_init_db425_38 : decode cStr_init_db425 38 = .ok (.goto 59, 3) := zfStr_init_db425_0.2.2.2.2.2.2.2.2.2.2.2.2.2.2.2.2.2.2.2.2.1
theorem dStr_init_db425_41 : decode cStr_init_db425 41 = .ok (.getstatic 38, 3) := zfStr_init_db425_0.2.2.2.2.2.2.2.2.2.2.2.2.2.2.2.2.2.2.2.2.2.1
theorem dStr_init_db425_44 : decode cStr_init_db425 44 = .ok (.ifCond .eq 35, 3) := zfStr_init_db425_0.2.2.2.2.2.2.2.2.2.2.2.2.2.2.2.2.2.2.2.2.2.2.1
theorem dStr_init_db425_47 : decode cStr_init_db425 47 = .ok (.aload_n 1, 1) := zfStr_init_db425_0.2.2.2.2.2.2.2.2.2.2.2.2.2.2.2.2.2.2.2.2.2.2.2.1
theorem dStr_init_db425_48 : decode cStr_init_db425 48 = .ok (.getfield 1048, 3) := zfStr_init_db425_0.2.2.2.2.2.2.2.2.2.2.2.2.2.2.2.2.2.2.2.2.2.2.2.2.1
theorem dStr_init_db425_51 : decode cStr_init_db425 51 = .ok (.ifCond .eq 28, 3) := zfStr_init_db425_0.2.2.2.2.2.2.2.2.2.2.2.2.2.2.2.2.2.2.2.2.2.2.2.2.2.1
theorem dStr_init_db425_54 : decode cStr_init_db425 54 = .ok (.aload_n 0, 1) := zfStr_init_db425_0.2.2.2.2.2.2.2.2.2.2.2.2.2.2.2.2.2.2.2.2.2.2.2.2.2.2.1
theorem dStr_init_db425_55 : decode cStr_init_db425 55 = .ok (.aload_n 3, 1) := zfStr_init_db425_0.2.2.2.2.2.2.2.2.2.2.2.2.2.2.2.2.2.2.2.2.2.2.2.2.2.2.2.1
theorem dStr_init_db425_56 : decode cStr_init_db425 56 = .ok (.iconst 0, 1) := zfStr_init_db425_0.2.2.2.2.2.2.2.2.2.2.2.2.2.2.2.2.2.2.2.2.2.2.2.2.2.2.2.2.1
theorem dStr_init_db425_57 : decode cStr_init_db425 57 = .ok (.iload 4, 2) := zfStr_init_db425_0.2.2.2.2.2.2.2.2.2.2.2.2.2.2.2.2.2.2.2.2.2.2.2.2.2.2.2.2.2.1
theorem dStr_init_db425_59 : decode cStr_init_db425 59 = .ok (.invokestatic 1051, 3) := zfStr_init_db425_0.2.2.2.2.2.2.2.2.2.2.2.2.2.2.2.2.2.2.2.2.2.2.2.2.2.2.2.2.2.2.1
theorem dStr_init_db425_62 : decode cStr_init_db425 62 = .ok (.putfield 9, 3) := zfStr_init_db425_0.2.2.2.2.2.2.2.2.2.2.2.2.2.2.2.2.2.2.2.2.2.2.2.2.2.2.2.2.2.2.2.1
theorem zfStr_init_db425_65 : decode cStr_init_db425 65 = .ok (.aload_n 0, 1) ∧ decode cStr_init_db425 66 = .ok (.aload_n 0, 1) ∧ decode cStr_init_db425 67 = .ok (.getfield 9, 3) ∧ decode cStr_init_db425 70 = .ok (.iload 4, 2) ∧ decode cStr_init_db425 72 = .ok (.invokestatic 47, 3) ∧ decode cStr_init_db425 75 = .ok (.putfield 15, 3) ∧ decode cStr_init_db425 78 = .ok (.return_, 1) ∧ decode cStr_init_db425 79 = .ok (.aload_n 0, 1) ∧ decode cStr_init_db425 80 = .ok (.iconst 1, 1) ∧ decode cStr_init_db425 81 = .ok (.putfield 15, 3) ∧ decode cStr_init_db425 84 = .ok (.aload_n 0, 1) ∧ decode cStr_init_db425 85 = .ok (.aload_n 3, 1) ∧ decode cStr_init_db425 86 = .ok (.iconst 0, 1) ∧ decode cStr_init_db425 87 = .ok (.iload 4, 2) ∧ decode cStr_init_db425 89 = .ok (.iconst 1, 1) ∧ decode cStr_init_db425 90 = .ok (.ishl, 1) ∧ decode cStr_init_db425 91 = .ok (.invokestatic 54, 3) ∧ decode cStr_init_db425 94 = .ok (.putfield 9, 3) ∧ decode cStr_init_db425 97 = .ok (.return_, 1) ∧ True := Jvm.Free.DS.facts (code := cStr_init_db425) 65 [(.aload_n 0, 1), (.aload_n 0, 1), (.getfield 9, 3), (.iload 4, 2), (.invokestatic 47, 3), (.putfield 15, 3), (.return_, 1), (.aload_n 0, 1), (.iconst 1, 1), (.putfield 15, 3), (.aload_n 0, 1), (.aload_n 3, 1), (.iconst 0, 1), (.iload 4, 2), (.iconst 1, 1), (.ishl, 1), (.invokestatic 54, 3), (.putfield 9, 3), (.return_, 1)] (by decide +kernel) (by decide +kernel)
theorem dStr_init_db425_65 : decode cStr_init_db425 65 = .ok (.aload_n 0, 1) := zfStr_init_db425_65.1
theorem dStr_init_db425_66 : decode cStr_init_db425 66 = .ok (.aload_n 0, 1) := zfStr_init_db425_65.2.1
theorem dStr_init_db425_67 : decode cStr_init_db425 67 = .ok (.getfield 9, 3) := zfStr_init_db425_65.2.2.1
theorem dStr_init_db425_70 : decode cStr_init_db425 70 = .ok (.iload 4, 2) := zfStr_init_db425_65.2.2.2.1
theorem dStr_init_db425_72 : decode cStr_init_db425 72 = .ok (.invokestatic 47, 3) := zfStr_init_db425_65.2.2.2.2.1
theorem dStr_init_db425_75 : decode cStr_init_db425 75 = .ok (.putfield 15, 3) := zfStr_init_db425_65.2.2.2.2.2.1
theorem dStr_init_db425_78 : decode cStr_init_db425 78 = .ok (.return_, 1) := zfStr_init_db425_65.2.2.2.2.2.2.1
theorem dStr_init_db425_79 : decode cStr_init_db425 79 = .ok (.aload_n 0, 1) := zfStr_init_db425_65.2.2.2.2.2.2.2.1
theorem dStr_init_db425_80 : decode cStr_init_db425 80 = .ok (.iconst 1, 1) := zfStr_init_db425_65.2.2.2.2.2.2.2.2.1
theorem dStr_init_db425_81 : decode cStr_init_db425 81 = .ok (.putfield 15, 3) := zfStr_init_db425_65.2.2.2.2.2.2.2.2.2.1
theorem dStr_init_db425_84 : decode cStr_init_db425 84 = .ok (.aload_n 0, 1) := zfStr_init_db425_65.2.2.2.2.2.2.2.2.2.2.1
theorem dStr_init_db425_85 : decode cStr_init_db425 85 = .ok (.aload_n 3, 1) := zfStr_init_db425_65.2.2.2.2.2.2.2.2.2.2.2.1
theorem dStr_init_db425_86 : decode cStr_init_db425 86 = .ok (.iconst 0, 1) := zfStr_init_db425_65.2.2.2.2.2.2.2.2.2.2.2.2.1
theorem dStr_init_db425_87 : decode cStr_init_db425 87 = .ok (.iload 4, 2) := zfStr_init_db425_65.2.2.2.2.2.2.2.2.2.2.2.2.2.1
theorem dStr_init_db425_89 : decode cStr_init_db425 89 = .ok (.iconst 1, 1) := zfStr_init_db425_65.2.2.2.2.2.2.2.2.2.2.2.2.2.2.1
theorem dStr_init_db425_90 : decode cStr_init_db425 90 = .ok (.ishl, 1) := zfStr_init_db425_65.2.2.2.2.2.2.2.2.2.2.2.2.2.2.2.1
theorem dStr_init_db425_91 : decode cStr_init_db425 91 = .ok (.invokestatic 54, 3) := zfStr_init_db425_65.2.2.2.2.2.2.2.2.2.2.2.2.2.2.2.2.1
theorem dStr_init_db425_94 : decode cStr_init_db425 94 = .ok (.putfield 9, 3) := zfStr_init_db425_65.2.2.2.2.2.2.2.2.2.2.2.2.2.2.2.2.2.1
theorem dStr_init_db425_97 : decode cStr_init_db425 97 = .ok (.return_, 1) := zfStr_init_db425_65.2.2.2.2.2.2.2.2.2.2.2.2.2.2.2.2.2.2.1
theorem zfStr_coder_7d493_0 : decode cStr_coder_7d493 0 = .ok (.getstatic 38, 3) ∧ decode cStr_coder_7d493 3 = .ok (.ifCond .eq 10, 3) ∧ decode cStr_coder_7d493 6 = .ok (.aload_n 0, 1) ∧ decode cStr_coder_7d493 7 = .ok (.getfield 15, 3) ∧ decode cStr_coder_7d493 10 = .ok (.goto 4, 3) ∧ decode cStr_coder_7d493 13 = .ok (.iconst 1, 1) ∧ decode cStr_coder_7d493 14 = .ok (.ireturn, 1) ∧ True := Jvm.Free.DS.facts (code := cStr_coder_7d493) 0 [(.getstatic 38, 3), (.ifCond .eq 10, 3), (.aload_n 0, 1), (.getfield 15, 3), (.goto 4, 3), (.iconst 1, 1), (.ireturn, 1)] (by decide +kernel) (by decide +kernel)
theorem dStr_coder_7d493_0 : decode cStr_coder_7d493 0 = .ok (.getstatic 38, 3) := zfStr_coder_7d493_0.1
theorem dStr_coder_7d493_3 : decode cStr_coder_7d493 3 = .ok (.ifCond .eq 10, 3) := zfStr_coder_7d493_0.2.1
theorem dStr_coder_7d493_6 : decode cStr_coder_7d493 6 = .ok (.aload_n 0, 1) := zfStr_coder_7d493_0.2.2.1
theorem dStr_coder_7d493_7 : decode cStr_coder_7d493 7 = .ok (.getfield 15, 3) := zfStr_coder_7d493_0.2.2.2.1
theorem dStr_coder_7d493_10 : decode cStr_coder_7d493 10 = .ok (.goto 4, 3) := zfStr_coder_7d493_0.2.2.2.2.1
theorem dStr_coder_7d493_13 : decode cStr_coder_7d493 13 = .ok (.iconst 1, 1) := zfStr_coder_7d493_0.2.2.2.2.2.1
theorem dStr_coder_7d493_14 : decode cStr_coder_7d493 14 = .ok (.ireturn, 1) := zfStr_coder_7d493_0.2.2.2.2.2.2.1
theorem zfStr_checkIndex_df160_0 : decode cStr_checkIndex_df160 0 = .ok (.iload_n 0, 1) ∧ decode cStr_checkIndex_df160 1 = .ok (.iload_n 1, 1) ∧ decode cStr_checkIndex_df160 2 = .ok (.getstatic 1053, 3) ∧ decode cStr_checkIndex_df160 5 = .ok (.invokestatic 1059, 3) ∧ decode cStr_checkIndex_df160 8 = .ok (.pop, 1) ∧ decode cStr_checkIndex_df160 9 = .ok (.return_, 1) ∧ True := Jvm.Free.DS.facts (code := cStr_checkIndex_df160) 0 [(.iload_n 0, 1), (.iload_n 1, 1), (.getstatic 1053, 3), (.invokestatic 1059, 3), (.pop, 1), (.return_, 1)] (by decide +kernel) (by decide +kernel)
theorem dStr_checkIndex_df160_0 : decode cStr_checkIndex_df160 0 = .ok (.iload_n 0, 1) := zfStr_checkIndex_df160_0.1
theorem dStr_checkIndex_df160_1 : decode cStr_checkIndex_df160 1 = .ok (.iload_n 1, 1) := zfStr_checkIndex_df160_0.2.1
theorem dStr_checkIndex_df160_2 : decode cStr_checkIndex_df160 2 = .ok (.getstatic 1053, 3) := zfStr_checkIndex_df160_0.2.2.1
theorem dStr_checkIndex_df160_5 : decode cStr_checkIndex_df160 5 = .ok (.invokestatic 1059, 3) := zfStr_checkIndex_df160_0.2.2.2.1
theorem dStr_checkIndex_df160_8 : decode cStr_checkIndex_df160 8 = .ok (.pop, 1) := zfStr_checkIndex_df160_0.2.2.2.2.1
theorem dStr_checkIndex_df160_9 : decode cStr_checkIndex_df160 9 = .ok (.return_, 1) := zfStr_checkIndex_df160_0.2.2.2.2.2.1
theorem zfStr_checkBoundsOffCount_cabcc_0 : decode cStr_checkBoundsOffCount_cabcc 0 = .ok (.iload_n 0, 1) ∧ decode cStr_checkBoundsOffCount_cabcc 1 = .ok (.iload_n 1, 1) ∧ decode cStr_checkBoundsOffCount_cabcc 2 = .ok (.iload_n 2, 1) ∧ decode cStr_checkBoundsOffCount_cabcc 3 = .ok (.getstatic 1053, 3) ∧ decode cStr_checkBoundsOffCount_cabcc 6 = .ok (.invokestatic 1065, 3) ∧ decode cStr_checkBoundsOffCount_cabcc 9 = .ok (.ireturn, 1) ∧ True := Jvm.Free.DS.facts (code := cStr_checkBoundsOffCount_cabcc) 0 [(.iload_n 0, 1), (.iload_n 1, 1), (.iload_n 2, 1), (.getstatic 1053, 3), (.invokestatic 1065, 3), (.ireturn, 1)] (by decide +kernel) (by decide +kernel)
theorem dStr_checkBoundsOffCount_cabcc_0 : decode cStr_checkBoundsOffCount_cabcc 0 = .ok (.iload_n 0, 1) := zfStr_checkBoundsOffCount_cabcc_0.1
theorem dStr_checkBoundsOffCount_cabcc_1 : decode cStr_checkBoundsOffCount_cabcc 1 = .ok (.iload_n 1, 1) := zfStr_checkBoundsOffCount_cabcc_0.2.1
theorem dStr_checkBoundsOffCount_cabcc_2 : decode cStr_checkBoundsOffCount_cabcc 2 = .ok (.iload_n 2, 1) := zfStr_checkBoundsOffCount_cabcc_0.2.2.1
theorem dStr_checkBoundsOffCount_cabcc_3 : decode cStr_checkBoundsOffCount_cabcc 3 = .ok (.getstatic 1053, 3) := zfStr_checkBoundsOffCount_cabcc_0.2.2.2.1
theorem dStr_checkBoundsOffCount_cabcc_6 : decode cStr_checkBoundsOffCount_cabcc 6 = .ok (.invokestatic 1065, 3) := zfStr_checkBoundsOffCount_cabcc_0.2.2.2.2.1
theorem dStr_checkBoundsOffCount_cabcc_9 : decode cStr_checkBoundsOffCount_cabcc 9 = .ok (.ireturn, 1) := zfStr_checkBoundsOffCount_cabcc_0.2.2.2.2.2.1
theorem zfStr_checkBoundsBeginEnd_23922_0 : decode cStr_checkBoundsBeginEnd_23922 0 = .ok (.iload_n 0, 1) ∧ decode cStr_checkBoundsBeginEnd_23922 1 = .ok (.iload_n 1, 1) ∧ decode cStr_checkBoundsBeginEnd_23922 2 = .ok (.iload_n 2, 1) ∧ decode cStr_checkBoundsBeginEnd_23922 3 = .ok (.getstatic 1053, 3) ∧ decode cStr_checkBoundsBeginEnd_23922 6 = .ok (.invokestatic 1062, 3) ∧ decode cStr_checkBoundsBeginEnd_23922 9 = .ok (.pop, 1) ∧ decode cStr_checkBoundsBeginEnd_23922 10 = .ok (.return_, 1) ∧ True := Jvm.Free.DS.facts (code := cStr_checkBoundsBeginEnd_23922) 0 [(.iload_n 0, 1), (.iload_n 1, 1), (.iload_n 2, 1), (.getstatic 1053, 3), (.invokestatic 1062, 3), (.pop, 1), (.return_, 1)] (by decide +kernel) (by decide +kernel)
theorem dStr_checkBoundsBeginEnd_23922_0 : decode cStr_checkBoundsBeginEnd_23922 0 = .ok (.iload_n 0, 1) := zfStr_checkBoundsBeginEnd_23922_0.1
theorem dStr_checkBoundsBeginEnd_23922_1 : decode cStr_checkBoundsBeginEnd_23922 1 = .ok (.iload_n 1, 1) := zfStr_checkBoundsBeginEnd_23922_0.2.1
theorem dStr_checkBoundsBeginEnd_23922_2 : decode cStr_checkBoundsBeginEnd_23922 2 = .ok (.iload_n 2, 1) := zfStr_checkBoundsBeginEnd_23922_0.2.2.1
theorem dStr_checkBoundsBeginEnd_23922_3 : decode cStr_checkBoundsBeginEnd_23922 3 = .ok (.getstatic 1053, 3) := zfStr_checkBoundsBeginEnd_23922_0.2.2.2.1
theorem dStr_checkBoundsBeginEnd_23922_6 : decode cStr_checkBoundsBeginEnd_23922 6 = .ok (.invokestatic 1062, 3) := zfStr_checkBoundsBeginEnd_23922_0.2.2.2.2.1
theorem dStr_checkBoundsBeginEnd_23922_9 : decode cStr_checkBoundsBeginEnd_23922 9 = .ok (.pop, 1) := zfStr_checkBoundsBeginEnd_23922_0.2.2.2.2.2.1
theorem dStr_checkBoundsBeginEnd_23922_10 : decode cStr_checkBoundsBeginEnd_23922 10 = .ok (.return_, 1) := zfStr_checkBoundsBeginEnd_23922_0.2.2.2.2.2.2.1
theorem zfSbd_init_da8c8_0 : decode cSbd_init_da8c8 0 = .ok (.aload_n 0, 1) ∧ decode cSbd_init_da8c8 1 = .ok (.bipush 16, 2) ∧ decode cSbd_init_da8c8 3 = .ok (.invokespecial 1, 3) ∧ decode cSbd_init_da8c8 6 = .ok (.return_, 1) ∧ True := Jvm.Free.DS.facts (code := cSbd_init_da8c8) 0 [(.aload_n 0, 1), (.bipush 16, 2), (.invokespecial 1, 3), (.return_, 1)] (by decide +kernel) (by decide +kernel)
theorem dSbd_init_da8c8_0 : decode cSbd_init_da8c8 0 = .ok (.aload_n 0, 1) := zfSbd_init_da8c8_0.1
theorem dSbd_init_da8c8_1 : decode cSbd_init_da8c8 1 = .ok (.bipush 16, 2) := zfSbd_init_da8c8_0.2.1
theorem dSbd_init_da8c8_3 : decode cSbd_init_da8c8 3 = .ok (.invokespecial 1, 3) := zfSbd_init_da8c8_0.2.2.1
theorem dSbd_init_da8c8_6 : decode cSbd_init_da8c8 6 = .ok (.return_, 1) := zfSbd_init_da8c8_0.2.2.2.1
theorem zfSbd_append_15ec4_0 : decode cSbd_append_15ec4 0 = .ok (.aload_n 0, 1) ∧ decode cSbd_append_15ec4 1 = .ok (.aload_n 1, 1) ∧ decode cSbd_append_15ec4 2 = .ok (.invokespecial 29, 3) ∧ decode cSbd_append_15ec4 5 = .ok (.pop, 1) ∧ decode cSbd_append_15ec4 6 = .ok (.aload_n 0, 1) ∧ decode cSbd_append_15ec4 7 = .ok (.areturn, 1) ∧ True := Jvm.Free.DS.facts (code := cSbd_append_15ec4) 0 [(.aload_n 0, 1), (.aload_n 1, 1), (.invokespecial 29, 3), (.pop, 1), (.aload_n 0, 1), (.areturn, 1)] (by decide +kernel) (by decide +kernel)
theorem dSbd_append_15ec4_0 : decode cSbd_append_15ec4 0 = .ok (.aload_n 0, 1) := zfSbd_append_15ec4_0.1
theorem dSbd_append_15ec4_1 : decode cSbd_append_15ec4 1 = .ok (.aload_n 1, 1) := zfSbd_append_15ec4_0.2.1
theorem dSbd_append_15ec4_2 : decode cSbd_append_15ec4 2 = .ok (.invokespecial 29, 3) := zfSbd_append_15ec4_0.2.2.1
theorem dSbd_append_15ec4_5 : decode cSbd_append_15ec4 5 = .ok (.pop, 1) := zfSbd_append_15ec4_0.2.2.2.1
theorem dSbd_append_15ec4_6 : decode cSbd_append_15ec4 6 = .ok (.aload_n 0, 1) := zfSbd_append_15ec4_0.2.2.2.2.1
theorem dSbd_append_15ec4_7 : decode cSbd_append_15ec4 7 = .ok (.areturn, 1) := zfSbd_append_15ec4_0.2.2.2.2.2.1
theorem zfSbd_append_cf468_0 : decode cSbd_append_cf468 0 = .ok (.aload_n 0, 1) ∧ decode cSbd_append_cf468 1 = .ok (.iload_n 1, 1) ∧ decode cSbd_append_cf468 2 = .ok (.invokespecial 50, 3) ∧ decode cSbd_append_cf468 5 = .ok (.pop, 1) ∧ decode cSbd_append_cf468 6 = .ok (.aload_n 0, 1) ∧ decode cSbd_append_cf468 7 = .ok (.areturn, 1) ∧ True := Jvm.Free.DS.facts (code := cSbd_append_cf468) 0 [(.aload_n 0, 1), (.iload_n 1, 1), (.invokespecial 50, 3), (.pop, 1), (.aload_n 0, 1), (.areturn, 1)] (by decide +kernel) (by decide +kernel)
theorem dSbd_append_cf468_0 : decode cSbd_append_cf468 0 = .ok (.aload_n 0, 1) := zfSbd_append_cf468_0.1
theorem dSbd_append_cf468_1 : decode cSbd_append_cf468 1 = .ok (.iload_n 1, 1) := zfSbd_append_cf468_0.2.1
theorem dSbd_append_cf468_2 : decode cSbd_append_cf468 2 = .ok (.invokespecial 50, 3) := zfSbd_append_cf468_0.2.2.1
theorem dSbd_append_cf468_5 : decode cSbd_append_cf468 5 = .ok (.pop, 1) := zfSbd_append_cf468_0.2.2.2.1
theorem dSbd_append_cf468_6 : decode cSbd_append_cf468 6 = .ok (.aload_n 0, 1) := zfSbd_append_cf468_0.2.2.2.2.1
theorem dSbd_append_cf468_7 : decode cSbd_append_cf468 7 = .ok (.areturn, 1) := zfSbd_append_cf468_0.2.2.2.2.2.1
theorem zfSbd_append_bf812_0 : decode cSbd_append_bf812 0 = .ok (.aload_n 0, 1) ∧ decode cSbd_append_bf812 1 = .ok (.iload_n 1, 1) ∧ True := Jvm.Free.DS.facts (code := cSbd_append_bf812) 0 [(.aload_n 0, 1), (.iload_n 1, 1)] (by decide +kernel) (by decide +kernel)
theorem dSbd_append_bf812_0 : decode cSbd_append_bf812 0 = .ok (.aload_n 0, 1) := zfSbd_append_bf812_0.1
theorem dSbd_append_bf812_1 : decode cSbd_append_bf812 1 = .ok (.iload_n 1, 1) := zfSbd_append_bf812_0.2.1
