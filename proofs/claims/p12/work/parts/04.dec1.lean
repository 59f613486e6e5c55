theorem zfCls_changes_35 : decode cCls_changes 35 = .ok (.aload_n 3, 1) ∧ decode cCls_changes 36 = .ok (.invokevirtual 155, 3) ∧ decode cCls_changes 39 = .ok (.aload_n 3, 1) ∧ decode cCls_changes 40 = .ok (.getfield 175, 3) ∧ decode cCls_changes 43 = .ok (.iload_n 2, 1) ∧ decode cCls_changes 44 = .ok (.invokevirtual 78, 3) ∧ decode cCls_changes 47 = .ok (.aload_n 3, 1) ∧ decode cCls_changes 48 = .ok (.getfield 172, 3) ∧ decode cCls_changes 51 = .ok (.ireturn, 1) ∧ True := Jvm.Free.DS.facts (code := cCls_changes) 35 [(.aload_n 3, 1), (.invokevirtual 155, 3), (.aload_n 3, 1), (.getfield 175, 3), (.iload_n 2, 1), (.invokevirtual 78, 3), (.aload_n 3, 1), (.getfield 172, 3), (.ireturn, 1)] (by decide +kernel) (by decide +kernel)
theorem dCls_changes_35 : decode cCls_changes 35 = .ok (.aload_n 3, 1) := zfCls_changes_35.1
theorem dCls_changes_36 : decode cCls_changes 36 = .ok (.invokevirtual 155, 3) := zfCls_changes_35.2.1
theorem dCls_changes_39 : decode cCls_changes 39 = .ok (.aload_n 3, 1) := zfCls_changes_35.2.2.1
theorem dCls_changes_40 : decode cCls_changes 40 = .ok (.getfield 175, 3) := zfCls_changes_35.2.2.2.1
theorem dCls_changes_43 : decode cCls_changes 43 = .ok (.iload_n 2, 1) := zfCls_changes_35.2.2.2.2.1
theorem dCls_changes_44 : decode cCls_changes 44 = .ok (.invokevirtual 78, 3) := zfCls_changes_35.2.2.2.2.2.1
theorem dCls_changes_47 : decode cCls_changes 47 = .ok (.aload_n 3, 1) := zfCls_changes_35.2.2.2.2.2.2.1
theorem dCls_changes_48 : decode cCls_changes 48 = .ok (.getfield 172, 3) := zfCls_changes_35.2.2.2.2.2.2.2.1
theorem dCls_changes_51 : decode cCls_changes 51 = .ok (.ireturn, 1) := zfCls_changes_35.2.2.2.2.2.2.2.2.1
theorem zfCls_meet_0 : decode cCls_meet 0 = .ok (.aload_n 0, 1) ∧ decode cCls_meet 1 = .ok (.iload_n 1, 1) ∧ decode cCls_meet 2 = .ok (.invokevirtual 137, 3) ∧ decode cCls_meet 5 = .ok (.astore_n 3, 1) ∧ decode cCls_meet 6 = .ok (.aload_n 0, 1) ∧ decode cCls_meet 7 = .ok (.iload_n 2, 1) ∧ decode cCls_meet 8 = .ok (.invokevirtual 137, 3) ∧ decode cCls_meet 11 = .ok (.astore 4, 2) ∧ decode cCls_meet 13 = .ok (.iload_n 1, 1) ∧ decode cCls_meet 14 = .ok (.iload_n 2, 1) ∧ decode cCls_meet 15 = .ok (.if_icmp .ne 13, 3) ∧ decode cCls_meet 18 = .ok (.new 181, 3) ∧ decode cCls_meet 21 = .ok (.dup, 1) ∧ decode cCls_meet 22 = .ok (.ldc 183, 2) ∧ decode cCls_meet 24 = .ok (.invokespecial 185, 3) ∧ decode cCls_meet 27 = .ok (.athrow, 1) ∧ decode cCls_meet 28 = .ok (.aload_n 3, 1) ∧ decode cCls_meet 29 = .ok (.invokestatic 148, 3) ∧ decode cCls_meet 32 = .ok (.aload 4, 2) ∧ decode cCls_meet 34 = .ok (.invokestatic 148, 3) ∧ decode cCls_meet 37 = .ok (.aload_n 3, 1) ∧ decode cCls_meet 38 = .ok (.getfield 152, 3) ∧ decode cCls_meet 41 = .ok (.ifCond .ne 35, 3) ∧ decode cCls_meet 44 = .ok (.aload 4, 2) ∧ decode cCls_meet 46 = .ok (.getfield 152, 3) ∧ decode cCls_meet 49 = .ok (.ifCond .ne 27, 3) ∧ decode cCls_meet 52 = .ok (.aload_n 3, 1) ∧ decode cCls_meet 53 = .ok (.getfield 169, 3) ∧ decode cCls_meet 56 = .ok (.aload 4, 2) ∧ decode cCls_meet 58 = .ok (.getfield 169, 3) ∧ decode cCls_meet 61 = .ok (.if_icmp .ne 15, 3) ∧ decode cCls_meet 64 = .ok (.aload_n 3, 1) ∧ True := Jvm.Free.DS.facts (code := cCls_meet) 0 [(.aload_n 0, 1), (.iload_n 1, 1), (.invokevirtual 137, 3), (.astore_n 3, 1), (.aload_n 0, 1), (.iload_n 2, 1), (.invokevirtual 137, 3), (.astore 4, 2), (.iload_n 1, 1), (.iload_n 2, 1), (.if_icmp .ne 13, 3), (.new 181, 3), (.dup, 1), (.ldc 183, 2), (.invokespecial 185, 3), (.athrow, 1), (.aload_n 3, 1), (.invokestatic 148, 3), (.aload 4, 2), (.invokestatic 148, 3), (.aload_n 3, 1), (.getfield 152, 3), (.ifCond .ne 35, 3), (.aload 4, 2), (.getfield 152, 3), (.ifCond .ne 27, 3), (.aload_n 3, 1), (.getfield 169, 3), (.aload 4, 2), (.getfield 169, 3), (.if_icmp .ne 15, 3), (.aload_n 3, 1)] (by decide +kernel) (by decide +kernel)
theorem dCls_meet_0 : decode cCls_meet 0 = .ok (.aload_n 0, 1) := zfCls_meet_0.1
theorem dCls_meet_1 : decode cCls_meet 1 = .ok (.iload_n 1, 1) := zfCls_meet_0.2.1
theorem dCls_meet_2 : decode cCls_meet 2 = .ok (.invokevirtual 137, 3) := zfCls_meet_0.2.2.1
theorem dCls_meet_5 : decode cCls_meet 5 = .ok (.astore_n 3, 1) := zfCls_meet_0.2.2.2.1
theorem dCls_meet_6 : decode cCls_meet 6 = .ok (.aload_n 0, 1) := zfCls_meet_0.2.2.2.2.1
theorem dCls_meet_7 : decode cCls_meet 7 = .ok (.iload_n 2, 1) := zfCls_meet_0.2.2.2.2.2.1
theorem dCls_meet_8 : decode cCls_meet 8 = .ok (.invokevirtual 137, 3) := zfCls_meet_0.2.2.2.2.2.2.1
theorem dCls_meet_11 : decode cCls_meet 11 = .ok (.astore 4, 2) := zfCls_meet_0.2.2.2.2.2.2.2.1
theorem dCls_meet_13 : decode cCls_meet 13 = .ok (.iload_n 1, 1) := zfCls_meet_0.2.2.2.2.2.2.2.2.1
theorem dCls_meet_14 : decode cCls_meet 14 = .ok (.iload_n 2, 1) := zfCls_meet_0.2.2.2.2.2.2.2.2.2.1
theorem dCls_meet_15 : decode cCls_meet 15 = .ok (.if_icmp .ne 13, 3) := zfCls_meet_0.2.2.2.2.2.2.2.2.2.2.1
theorem dCls_meet_18 : decode cCls_meet 18 = .ok (.new 181, 3) := zfCls_meet_0.2.2.2.2.2.2.2.2.2.2.2.1
theorem dCls_meet_21 : decode cCls_meet 21 = .ok (.dup, 1) := zfCls_meet_0.2.2.2.2.2.2.2.2.2.2.2.2.1
theorem dCls_meet_22 : decode cCls_meet 22 = .ok (.ldc 183, 2) := zfCls_meet_0.2.2.2.2.2.2.2.2.2.2.2.2.2.1
theorem dCls_meet_24 : decode cCls_meet 24 = .ok (.invokespecial 185, 3) := zfCls_meet_0.2.2.2.2.2.2.2.2.2.2.2.2.2.2.1
theorem dCls_meet_27 : decode cCls_meet 27 = .ok (.athrow, 1) := zfCls_meet_0.2.2.2.2.2.2.2.2.2.2.2.2.2.2.2.1
theorem dCls_meet_28 : decode cCls_meet 28 = .ok (.aload_n 3, 1) := zfCls_meet_0.2.2.2.2.2.2.2.2.2.2.2.2.2.2.2.2.1
theorem dCls_meet_29 : decode cCls_meet 29 = .ok (.invokestatic 148, 3) := zfCls_meet_0.2.2.2.2.2.2.2.2.2.2.2.2.2.2.2.2.2.1
theorem dCls_meet_32 : decode cCls_meet 32 = .ok (.aload 4, 2) := zfCls_meet_0.2.2.2.2.2.2.2.2.2.2.2.2.2.2.2.2.2.2.1
theorem dCls_meet_34 : decode cCls_meet 34 = .ok (.invokestatic 148, 3) := zfCls_meet_0.2.2.2.2.2.2.2.2.2.2.2.2.2.2.2.2.2.2.2.1
theorem dCls_meet_37 : decode cCls_meet 37 = .ok (.aload_n 3, 1) := zfCls_meet_0.2.2.2.2.2.2.2.2.2.2.2.2.2.2.2.2.2.2.2.2.1
theorem dCls_meet_38 : decode cCls_meet 38 = .ok (.getfield 152, 3) := zfCls_meet_0.2.2.2.2.2.2.2.2.2.2.2.2.2.2.2.2.2.2.2.2.2.1
theorem dCls_meet_41 : decode cCls_meet 41 = .ok (.ifCond .ne 35, 3) := zfCls_meet_0.2.2.2.2.2.2.2.2.2.2.2.2.2.2.2.2.2.2.2.2.2.2.1
theorem dCls_meet_44 : decode cCls_meet 44 = .ok (.aload 4, 2) := zfCls_meet_0.2.2.2.2.2.2.2.2.2.2.2.2.2.2.2.2.2.2.2.2.2.2.2.1
theorem dCls_meet_46 : decode cCls_meet 46 = .ok (.getfield 152, 3) := zfCls_meet_0.2.2.2.2.2.2.2.2.2.2.2.2.2.2.2.2.2.2.2.2.2.2.2.2.1
theorem dCls_meet_49 : decode cCls_meet 49 = .ok (.ifCond .ne 27, 3) := zfCls_meet_0.2.2.2.2.2.2.2.2.2.2.2.2.2.2.2.2.2.2.2.2.2.2.2.2.2.1
theorem dCls_meet_52 : decode cCls_meet 52 = .ok (.aload_n 3, 1) := zfCls_meet_0.2.2.2.2.2.2.2.2.2.2.2.2.2.2.2.2.2.2.2.2.2.2.2.2.2.2.1
theorem dCls_meet_53 : decode cCls_meet 53 = .ok (.getfield 169, 3) := zfCls_meet_0.2.2.2.2.2.2.2.2.2.2.2.2.2.2.2.2.2.2.2.2.2.2.2.2.2.2.2.1
theorem dCls_meet_56 : decode cCls_meet 56 = .ok (.aload 4, 2) := zfCls_meet_0.2.2.2.2.2.2.2.2.2.2.2.2.2.2.2.2.2.2.2.2.2.2.2.2.2.2.2.2.1
theorem dCls_meet_58 : decode cCls_meet 58 = .ok (.getfield 169, 3) := zfCls_meet_0.2.2.2.2.2.2.2.2.2.2.2.2.2.2.2.2.2.2.2.2.2.2.2.2.2.2.2.2.2.1
theorem dCls_meet_61 : decode cCls_meet 61 = .ok (.if_icmp .ne 15, 3) := zfCls_meet_0.2.2.2.2.2.2.2.2.2.2.2.2.2.2.2.2.2.2.2.2.2.2.2.2.2.2.2.2.2.2.1
theorem dCls_meet_64 : decode cCls_meet 64 = .ok (.aload_n 3, 1) := zfCls_meet_0.2.2.2.2.2.2.2.2.2.2.2.2.2.2.2.2.2.2.2.2.2.2.2.2.2.2.2.2.2.2.2.1
theorem zfCls_meet_65 : decode cCls_meet 65 = .ok (.getfield 172, 3) ∧ decode cCls_meet 68 = .ok (.aload 4, 2) ∧ decode cCls_meet 70 = .ok (.getfield 172, 3) ∧ decode cCls_meet 73 = .ok (.if_icmp .le 8, 3) ∧ decode cCls_meet 76 = .ok (.aload_n 0, 1) ∧ decode cCls_meet 77 = .ok (.invokevirtual 54, 3) ∧ decode cCls_meet 80 = .ok (.ireturn, 1) ∧ decode cCls_meet 81 = .ok (.aload_n 3, 1) ∧ decode cCls_meet 82 = .ok (.aload 4, 2) ∧ decode cCls_meet 84 = .ok (.aload_n 0, 1) ∧ decode cCls_meet 85 = .ok (.aload_n 3, 1) ∧ decode cCls_meet 86 = .ok (.invokevirtual 155, 3) ∧ decode cCls_meet 89 = .ok (.invokestatic 188, 3) ∧ decode cCls_meet 92 = .ok (.ireturn, 1) ∧ True := Jvm.Free.DS.facts (code := cCls_meet) 65 [(.getfield 172, 3), (.aload 4, 2), (.getfield 172, 3), (.if_icmp .le 8, 3), (.aload_n 0, 1), (.invokevirtual 54, 3), (.ireturn, 1), (.aload_n 3, 1), (.aload 4, 2), (.aload_n 0, 1), (.aload_n 3, 1), (.invokevirtual 155, 3), (.invokestatic 188, 3), (.ireturn, 1)] (by decide +kernel) (by decide +kernel)
theorem dCls_meet_65 : decode cCls_meet 65 = .ok (.getfield 172, 3) := zfCls_meet_65.1
theorem dCls_meet_68 : decode cCls_meet 68 = .ok (.aload 4, 2) := zfCls_meet_65.2.1
theorem dCls_meet_70 : decode cCls_meet 70 = .ok (.getfield 172, 3) := zfCls_meet_65.2.2.1
theorem dCls_meet_73 : decode cCls_meet 73 = .ok (.if_icmp .le 8, 3) := zfCls_meet_65.2.2.2.1
theorem dCls_meet_76 : decode cCls_meet 76 = .ok (.aload_n 0, 1) := zfCls_meet_65.2.2.2.2.1
theorem dCls_meet_77 : decode cCls_meet 77 = .ok (.invokevirtual 54, 3) := zfCls_meet_65.2.2.2.2.2.1
theorem dCls_meet_80 : decode cCls_meet 80 = .ok (.ireturn, 1) := zfCls_meet_65.2.2.2.2.2.2.1
theorem dCls_meet_81 : decode cCls_meet 81 = .ok (.aload_n 3, 1) := zfCls_meet_65.2.2.2.2.2.2.2.1
theorem dCls_meet_82 : decode cCls_meet 82 = .ok (.aload 4, 2) := zfCls_meet_65.2.2.2.2.2.2.2.2.1
theorem dCls_meet_84 : decode cCls_meet 84 = .ok (.aload_n 0, 1) := zfCls_meet_65.2.2.2.2.2.2.2.2.2.1
theorem dCls_meet_85 : decode cCls_meet 85 = .ok (.aload_n 3, 1) := zfCls_meet_65.2.2.2.2.2.2.2.2.2.2.1
theorem dCls_meet_86 : decode cCls_meet 86 = .ok (.invokevirtual 155, 3) := zfCls_meet_65.2.2.2.2.2.2.2.2.2.2.2.1
theorem dCls_meet_89 : decode cCls_meet 89 = .ok (.invokestatic 188, 3) := zfCls_meet_65.2.2.2.2.2.2.2.2.2.2.2.2.1
theorem dCls_meet_92 : decode cCls_meet 92 = .ok (.ireturn, 1) := zfCls_meet_65.2.2.2.2.2.2.2.2.2.2.2.2.2.1
theorem zfCls_ofCursor_0 : decode cCls_ofCursor 0 = .ok (.aload_n 0, 1) ∧ decode cCls_ofCursor 1 = .ok (.iload_n 1, 1) ∧ decode cCls_ofCursor 2 = .ok (.invokevirtual 137, 3) ∧ decode cCls_ofCursor 5 = .ok (.astore_n 3, 1) ∧ decode cCls_ofCursor 6 = .ok (.iload_n 2, 1) ∧ decode cCls_ofCursor 7 = .ok (.iconst 0, 1) ∧ decode cCls_ofCursor 8 = .ok (.iconst 5, 1) ∧ decode cCls_ofCursor 9 = .ok (.invokestatic 38, 3) ∧ decode cCls_ofCursor 12 = .ok (.aload_n 3, 1) ∧ decode cCls_ofCursor 13 = .ok (.getfield 144, 3) ∧ decode cCls_ofCursor 16 = .ok (.ifCond .ne 5, 3) ∧ decode cCls_ofCursor 19 = .ok (.iconst (-1), 1) ∧ decode cCls_ofCursor 20 = .ok (.ireturn, 1) ∧ decode cCls_ofCursor 21 = .ok (.iload_n 2, 1) ∧ decode cCls_ofCursor 22 = .ok (.ifCond .ne 8, 3) ∧ decode cCls_ofCursor 25 = .ok (.aload_n 3, 1) ∧ decode cCls_ofCursor 26 = .ok (.getfield 169, 3) ∧ decode cCls_ofCursor 29 = .ok (.ireturn, 1) ∧ decode cCls_ofCursor 30 = .ok (.iload_n 2, 1) ∧ decode cCls_ofCursor 31 = .ok (.iconst 5, 1) ∧ decode cCls_ofCursor 32 = .ok (.if_icmp .ne 11, 3) ∧ decode cCls_ofCursor 35 = .ok (.aload_n 3, 1) ∧ decode cCls_ofCursor 36 = .ok (.getfield 152, 3) ∧ decode cCls_ofCursor 39 = .ok (.invokestatic 192, 3) ∧ decode cCls_ofCursor 42 = .ok (.ireturn, 1) ∧ decode cCls_ofCursor 43 = .ok (.aload_n 3, 1) ∧ decode cCls_ofCursor 44 = .ok (.getfield 152, 3) ∧ decode cCls_ofCursor 47 = .ok (.ifCond .eq 7, 3) ∧ decode cCls_ofCursor 50 = .ok (.iconst (-1), 1) ∧ decode cCls_ofCursor 51 = .ok (.goto 9, 3) ∧ decode cCls_ofCursor 54 = .ok (.aload_n 0, 1) ∧ decode cCls_ofCursor 55 = .ok (.aload_n 3, 1) ∧ True := Jvm.Free.DS.facts (code := cCls_ofCursor) 0 [(.aload_n 0, 1), (.iload_n 1, 1), (.invokevirtual 137, 3), (.astore_n 3, 1), (.iload_n 2, 1), (.iconst 0, 1), (.iconst 5, 1), (.invokestatic 38, 3), (.aload_n 3, 1), (.getfield 144, 3), (.ifCond .ne 5, 3), (.iconst (-1), 1), (.ireturn, 1), (.iload_n 2, 1), (.ifCond .ne 8, 3), (.aload_n 3, 1), (.getfield 169, 3), (.ireturn, 1), (.iload_n 2, 1), (.iconst 5, 1), (.if_icmp .ne 11, 3), (.aload_n 3, 1), (.getfield 152, 3), (.invokestatic 192, 3), (.ireturn, 1), (.aload_n 3, 1), (.getfield 152, 3), (.ifCond .eq 7, 3), (.iconst (-1), 1), (.goto 9, 3), (.aload_n 0, 1), (.aload_n 3, 1)] (by decide +kernel) (by decide +kernel)
theorem dCls_ofCursor_0 : decode cCls_ofCursor 0 = .ok (.aload_n 0, 1) := zfCls_ofCursor_0.1
theorem dCls_ofCursor_1 : decode cCls_ofCursor 1 = .ok (.iload_n 1, 1) := zfCls_ofCursor_0.2.1
theorem dCls_ofCursor_2 : decode cCls_ofCursor 2 = .ok (.invokevirtual 137, 3) := zfCls_ofCursor_0.2.2.1
theorem dCls_ofCursor_5 : decode cCls_ofCursor 5 = .ok (.astore_n 3, 1) := zfCls_ofCursor_0.2.2.2.1
theorem dCls_ofCursor_6 : decode cCls_ofCursor 6 = .ok (.iload_n 2, 1) := zfCls_ofCursor_0.2.2.2.2.1
theorem dCls_ofCursor_7 : decode cCls_ofCursor 7 = .ok (.iconst 0, 1) := zfCls_ofCursor_0.2.2.2.2.2.1
theorem dCls_ofCursor_8 : decode cCls_ofCursor 8 = .ok (.iconst 5, 1) := zfCls_ofCursor_0.2.2.2.2.2.2.1
theorem dCls_ofCursor_9 : decode cCls_ofCursor 9 = .ok (.invokestatic 38, 3) := zfCls_ofCursor_0.2.2.2.2.2.2.2.1
theorem dCls_ofCursor_12 : decode cCls_ofCursor 12 = .ok (.aload_n 3, 1) := zfCls_ofCursor_0.2.2.2.2.2.2.2.2.1
theorem dCls_ofCursor_13 : decode cCls_ofCursor 13 = .ok (.getfield 144, 3) := zfCls_ofCursor_0.2.2.2.2.2.2.2.2.2.1
theorem dCls_ofCursor_16 : decode cCls_ofCursor 16 = .ok (.ifCond .ne 5, 3) := zfCls_ofCursor_0.2.2.2.2.2.2.2.2.2.2.1
theorem dCls_ofCursor_19 : decode cCls_ofCursor 19 = .ok (.iconst (-1), 1) := zfCls_ofCursor_0.2.2.2.2.2.2.2.2.2.2.2.1
theorem dCls_ofCursor_20 : decode cCls_ofCursor 20 = .ok (.ireturn, 1) := zfCls_ofCursor_0.2.2.2.2.2.2.2.2.2.2.2.2.1
theorem dCls_ofCursor_21 : decode cCls_ofCursor 21 = .ok (.iload_n 2, 1) := zfCls_ofCursor_0.2.2.2.2.2.2.2.2.2.2.2.2.2.1
theorem dCls_ofCursor_22 : decode cCls_ofCursor 22 = .ok (.ifCond .ne 8, 3) := zfCls_ofCursor_0.2.2.2.2.2.2.2.2.2.2.2.2.2.2.1
theorem dCls_ofCursor_25 : decode cCls_ofCursor 25 = .ok (.aload_n 3, 1) := zfCls_ofCursor_0.2.2.2.2.2.2.2.2.2.2.2.2.2.2.2.1
theorem dCls_ofCursor_26 : decode cCls_ofCursor 26 = .ok (.getfield 169, 3) := zfCls_ofCursor_0.2.2.2.2.2.2.2.2.2.2.2.2.2.2.2.2.1
theorem dCls_ofCursor_29 : decode cCls_ofCursor 29 = .ok (.ireturn, 1) := zfCls_ofCursor_0.2.2.2.2.2.2.2.2.2.2.2.2.2.2.2.2.2.1
theorem dCls_ofCursor_30 : decode cCls_ofCursor 30 = .ok (.iload_n 2, 1) := zfCls_ofCursor_0.2.2.2.2.2.2.2.2.2.2.2.2.2.2.2.2.2.2.1
theorem dCls_ofCursor_31 : decode cCls_ofCursor 31 = .ok (.iconst 5, 1) := zfCls_ofCursor_0.2.2.2.2.2.2.2.2.2.2.2.2.2.2.2.2.2.2.2.1
theorem dCls_ofCursor_32 : decode cCls_ofCursor 32 = .ok (.if_icmp .ne 11, 3) := zfCls_ofCursor_0.2.2.2.2.2.2.2.2.2.2.2.2.2.2.2.2.2.2.2.2.1
theorem dCls_ofCursor_35 : decode cCls_ofCursor 35 = .ok (.aload_n 3, 1) := zfCls_ofCursor_0.2.2.2.2.2.2.2.2.2.2.2.2.2.2.2.2.2.2.2.2.2.1
theorem dCls_ofCursor_36 : decode cCls_ofCursor 36 = .ok (.getfield 152, 3) := zfCls_ofCursor_0.2.2.2.2.2.2.2.2.2.2.2.2.2.2.2.2.2.2.2.2.2.2.1
theorem dCls_ofCursor_39 : decode cCls_ofCursor 39 = .ok (.invokestatic 192, 3) := zfCls_ofCursor_0.2.2.2.2.2.2.2.2.2.2.2.2.2.2.2.2.2.2.2.2.2.2.2.1
theorem dCls_ofCursor_42 : decode cCls_ofCursor 42 = .ok (.ireturn, 1) := zfCls_ofCursor_0.2.2.2.2.2.2.2.2.2.2.2.2.2.2.2.2.2.2.2.2.2.2.2.2.1
theorem dCls_ofCursor_43 : decode cCls_ofCursor 43 = .ok (.aload_n 3, 1) := zfCls_ofCursor_0.2.2.2.2.2.2.2.2.2.2.2.2.2.2.2.2.2.2.2.2.2.2.2.2.2.1
theorem dCls_ofCursor_44 : decode cCls_ofCursor 44 = .ok (.getfield 152, 3) := zfCls_ofCursor_0.2.2.2.2.2.2.2.2.2.2.2.2.2.2.2.2.2.2.2.2.2.2.2.2.2.2.1
theorem dCls_ofCursor_47 : decode cCls_ofCursor 47 = .ok (.ifCond .eq 7, 3) := zfCls_ofCursor_0.2.2.2.2.2.2.2.2.2.2.2.2.2.2.2.2.2.2.2.2.2.2.2.2.2.2.2.1
theorem dCls_ofCursor_50 : decode cCls_ofCursor 50 = .ok (.iconst (-1), 1) := zfCls_ofCursor_0.2.2.2.2.2.2.2.2.2.2.2.2.2.2.2.2.2.2.2.2.2.2.2.2.2.2.2.2.1
theorem dCls_ofCursor_51 : decode cCls_ofCursor 51 = .ok (.goto 9, 3) := zfCls_ofCursor_0.2.2.2.2.2.2.2.2.2.2.2.2.2.2.2.2.2.2.2.2.2.2.2.2.2.2.2.2.2.1
theorem dCls_ofCursor_54 : decode cCls_ofCursor 54 = .ok (.aload_n 0, 1) := zfCls_ofCursor_0.2.2.2.2.2.2.2.2.2.2.2.2.2.2.2.2.2.2.2.2.2.2.2.2.2.2.2.2.2.2.1
theorem dCls_ofCursor_55 : decode cCls_ofCursor 55 = .ok (.aload_n 3, 1) := zfCls_ofCursor_0.2.2.2.2.2.2.2.2.2.2.2.2.2.2.2.2.2.2.2.2.2.2.2.2.2.2.2.2.2.2.2.1
theorem zfCls_ofCursor_56 : decode cCls_ofCursor 56 = .ok (.iload_n 2, 1) ∧ decode cCls_ofCursor 57 = .ok (.invokevirtual 196, 3) ∧ decode cCls_ofCursor 60 = .ok (.ireturn, 1) ∧ True := Jvm.Free.DS.facts (code := cCls_ofCursor) 56 [(.iload_n 2, 1), (.invokevirtual 196, 3), (.ireturn, 1)] (by decide +kernel) (by decide +kernel)
theorem dCls_ofCursor_56 : decode cCls_ofCursor 56 = .ok (.iload_n 2, 1) := zfCls_ofCursor_56.1
theorem dCls_ofCursor_57 : decode cCls_ofCursor 57 = .ok (.invokevirtual 196, 3) := zfCls_ofCursor_56.2.1
theorem dCls_ofCursor_60 : decode cCls_ofCursor 60 = .ok (.ireturn, 1) := zfCls_ofCursor_56.2.2.1
theorem zfCls_plus_0 : decode cCls_plus 0 = .ok (.aload_n 0, 1) ∧ decode cCls_plus 1 = .ok (.iload_n 1, 1) ∧ decode cCls_plus 2 = .ok (.aload_n 0, 1) ∧ decode cCls_plus 3 = .ok (.getfield 29, 3) ∧ decode cCls_plus 6 = .ok (.aload_n 0, 1) ∧ decode cCls_plus 7 = .ok (.iload_n 1, 1) ∧ decode cCls_plus 8 = .ok (.invokevirtual 34, 3) ∧ decode cCls_plus 11 = .ok (.aload_n 0, 1) ∧ decode cCls_plus 12 = .ok (.iload_n 2, 1) ∧ decode cCls_plus 13 = .ok (.invokevirtual 34, 3) ∧ decode cCls_plus 16 = .ok (.invokevirtual 200, 3) ∧ decode cCls_plus 19 = .ok (.invokevirtual 102, 3) ∧ decode cCls_plus 22 = .ok (.ireturn, 1) ∧ True := Jvm.Free.DS.facts (code := cCls_plus) 0 [(.aload_n 0, 1), (.iload_n 1, 1), (.aload_n 0, 1), (.getfield 29, 3), (.aload_n 0, 1), (.iload_n 1, 1), (.invokevirtual 34, 3), (.aload_n 0, 1), (.iload_n 2, 1), (.invokevirtual 34, 3), (.invokevirtual 200, 3), (.invokevirtual 102, 3), (.ireturn, 1)] (by decide +kernel) (by decide +kernel)
theorem dCls_plus_0 : decode cCls_plus 0 = .ok (.aload_n 0, 1) := zfCls_plus_0.1
theorem dCls_plus_1 : decode cCls_plus 1 = .ok (.iload_n 1, 1) := zfCls_plus_0.2.1
theorem dCls_plus_2 : decode cCls_plus 2 = .ok (.aload_n 0, 1) := zfCls_plus_0.2.2.1
theorem dCls_plus_3 : decode cCls_plus 3 = .ok (.getfield 29, 3) := zfCls_plus_0.2.2.2.1
theorem dCls_plus_6 : decode cCls_plus 6 = .ok (.aload_n 0, 1) := zfCls_plus_0.2.2.2.2.1
theorem dCls_plus_7 : decode cCls_plus 7 = .ok (.iload_n 1, 1) := zfCls_plus_0.2.2.2.2.2.1
theorem dCls_plus_8 : decode cCls_plus 8 = .ok (.invokevirtual 34, 3) := zfCls_plus_0.2.2.2.2.2.2.1
theorem dCls_plus_11 : decode cCls_plus 11 = .ok (.aload_n 0, 1) := zfCls_plus_0.2.2.2.2.2.2.2.1
theorem dCls_plus_12 : decode cCls_plus 12 = .ok (.iload_n 2, 1) := zfCls_plus_0.2.2.2.2.2.2.2.2.1
theorem dCls_plus_13 : decode cCls_plus 13 = .ok (.invokevirtual 34, 3) := zfCls_plus_0.2.2.2.2.2.2.2.2.2.1
theorem dCls_plus_16 : decode cCls_plus 16 = .ok (.invokevirtual 200, 3) := zfCls_plus_0.2.2.2.2.2.2.2.2.2.2.1
theorem dCls_plus_19 : decode cCls_plus 19 = .ok (.invokevirtual 102, 3) := zfCls_plus_0.2.2.2.2.2.2.2.2.2.2.2.1
theorem dCls_plus_22 : decode cCls_plus 22 = .ok (.ireturn, 1) := zfCls_plus_0.2.2.2.2.2.2.2.2.2.2.2.2.1
theorem zfCls_times_0 : decode cCls_times 0 = .ok (.aload_n 0, 1) ∧ decode cCls_times 1 = .ok (.iload_n 1, 1) ∧ decode cCls_times 2 = .ok (.aload_n 0, 1) ∧ decode cCls_times 3 = .ok (.getfield 29, 3) ∧ decode cCls_times 6 = .ok (.aload_n 0, 1) ∧ decode cCls_times 7 = .ok (.iload_n 1, 1) ∧ decode cCls_times 8 = .ok (.invokevirtual 34, 3) ∧ decode cCls_times 11 = .ok (.aload_n 0, 1) ∧ decode cCls_times 12 = .ok (.iload_n 2, 1) ∧ decode cCls_times 13 = .ok (.invokevirtual 34, 3) ∧ decode cCls_times 16 = .ok (.invokevirtual 203, 3) ∧ decode cCls_times 19 = .ok (.invokevirtual 102, 3) ∧ decode cCls_times 22 = .ok (.ireturn, 1) ∧ True := Jvm.Free.DS.facts (code := cCls_times) 0 [(.aload_n 0, 1), (.iload_n 1, 1), (.aload_n 0, 1), (.getfield 29, 3), (.aload_n 0, 1), (.iload_n 1, 1), (.invokevirtual 34, 3), (.aload_n 0, 1), (.iload_n 2, 1), (.invokevirtual 34, 3), (.invokevirtual 203, 3), (.invokevirtual 102, 3), (.ireturn, 1)] (by decide +kernel) (by decide +kernel)
theorem dCls_times_0 : decode cCls_times 0 = .ok (.aload_n 0, 1) := zfCls_times_0.1
theorem dCls_times_1 : decode cCls_times 1 = .ok (.iload_n 1, 1) := zfCls_times_0.2.1
theorem dCls_times_2 : decode cCls_times 2 = .ok (.aload_n 0, 1) := zfCls_times_0.2.2.1
theorem dCls_times_3 : decode cCls_times 3 = .ok (.getfield 29, 3) := zfCls_times_0.2.2.2.1
theorem dCls_times_6 : decode cCls_times 6 = .ok (.aload_n 0, 1) := zfCls_times_0.2.2.2.2.1
theorem dCls_times_7 : decode cCls_times 7 = .ok (.iload_n 1, 1) := zfCls_times_0.2.2.2.2.2.1
theorem dCls_times_8 : decode cCls_times 8 = .ok (.invokevirtual 34, 3) := zfCls_times_0.2.2.2.2.2.2.1
theorem dCls_times_11 : decode cCls_times 11 = .ok (.aload_n 0, 1) := zfCls_times_0.2.2.2.2.2.2.2.1
theorem dCls_times_12 : decode cCls_times 12 = .ok (.iload_n 2, 1) := zfCls_times_0.2.2.2.2.2.2.2.2.1
theorem dCls_times_13 : decode cCls_times 13 = .ok (.invokevirtual 34, 3) := zfCls_times_0.2.2.2.2.2.2.2.2.2.1
theorem dCls_times_16 : decode cCls_times 16 = .ok (.invokevirtual 203, 3) := zfCls_times_0.2.2.2.2.2.2.2.2.2.2.1
theorem dCls_times_19 : decode cCls_times 19 = .ok (.invokevirtual 102, 3) := zfCls_times_0.2.2.2.2.2.2.2.2.2.2.2.1
theorem dCls_times_22 : decode cCls_times 22 = .ok (.ireturn, 1) := zfCls_times_0.2.2.2.2.2.2.2.2.2.2.2.2.1
theorem zfCls_shift_0 : decode cCls_shift 0 = .ok (.aload_n 0, 1) ∧ decode cCls_shift 1 = .ok (.iload_n 1, 1) ∧ decode cCls_shift 2 = .ok (.invokevirtual 34, 3) ∧ decode cCls_shift 5 = .ok (.astore_n 2, 1) ∧ decode cCls_shift 6 = .ok (.aload_n 2, 1) ∧ decode cCls_shift 7 = .ok (.getfield 46, 3) ∧ decode cCls_shift 10 = .ok (.ifCond .le 17, 3) ∧ decode cCls_shift 13 = .ok (.aload_n 2, 1) ∧ decode cCls_shift 14 = .ok (.iconst 0, 1) ∧ decode cCls_shift 15 = .ok (.iconst 0, 1) ∧ decode cCls_shift 16 = .ok (.invokevirtual 119, 3) ∧ decode cCls_shift 19 = .ok (.ifCond .ne 8, 3) ∧ decode cCls_shift 22 = .ok (.aload_n 0, 1) ∧ decode cCls_shift 23 = .ok (.invokevirtual 54, 3) ∧ decode cCls_shift 26 = .ok (.ireturn, 1) ∧ decode cCls_shift 27 = .ok (.aload_n 0, 1) ∧ decode cCls_shift 28 = .ok (.iload_n 1, 1) ∧ decode cCls_shift 29 = .ok (.iconst (-1), 1) ∧ decode cCls_shift 30 = .ok (.invokevirtual 58, 3) ∧ decode cCls_shift 33 = .ok (.aload_n 2, 1) ∧ decode cCls_shift 34 = .ok (.getfield 46, 3) ∧ decode cCls_shift 37 = .ok (.ireturn, 1) ∧ True := Jvm.Free.DS.facts (code := cCls_shift) 0 [(.aload_n 0, 1), (.iload_n 1, 1), (.invokevirtual 34, 3), (.astore_n 2, 1), (.aload_n 2, 1), (.getfield 46, 3), (.ifCond .le 17, 3), (.aload_n 2, 1), (.iconst 0, 1), (.iconst 0, 1), (.invokevirtual 119, 3), (.ifCond .ne 8, 3), (.aload_n 0, 1), (.invokevirtual 54, 3), (.ireturn, 1), (.aload_n 0, 1), (.iload_n 1, 1), (.iconst (-1), 1), (.invokevirtual 58, 3), (.aload_n 2, 1), (.getfield 46, 3), (.ireturn, 1)] (by decide +kernel) (by decide +kernel)
theorem dCls_shift_0 : decode cCls_shift 0 = .ok (.aload_n 0, 1) := zfCls_shift_0.1
theorem dCls_shift_1 : decode cCls_shift 1 = .ok (.iload_n 1, 1) := zfCls_shift_0.2.1
theorem dCls_shift_2 : decode cCls_shift 2 = .ok (.invokevirtual 34, 3) := zfCls_shift_0.2.2.1
theorem dCls_shift_5 : decode cCls_shift 5 = .ok (.astore_n 2, 1) := zfCls_shift_0.2.2.2.1
theorem dCls_shift_6 : decode cCls_shift 6 = .ok (.aload_n 2, 1) := zfCls_shift_0.2.2.2.2.1
theorem dCls_shift_7 : decode cCls_shift 7 = .ok (.getfield 46, 3) := zfCls_shift_0.2.2.2.2.2.1
theorem dCls_shift_10 : decode cCls_shift 10 = .ok (.ifCond .le 17, 3) := zfCls_shift_0.2.2.2.2.2.2.1
theorem dCls_shift_13 : decode cCls_shift 13 = .ok (.aload_n 2, 1) := zfCls_shift_0.2.2.2.2.2.2.2.1
theorem dCls_shift_14 : decode cCls_shift 14 = .ok (.iconst 0, 1) := zfCls_shift_0.2.2.2.2.2.2.2.2.1
theorem dCls_shift_15 : decode cCls_shift 15 = .ok (.iconst 0, 1) := zfCls_shift_0.2.2.2.2.2.2.2.2.2.1
theorem dCls_shift_16 : decode cCls_shift 16 = .ok (.invokevirtual 119, 3) := zfCls_shift_0.2.2.2.2.2.2.2.2.2.2.1
theorem dCls_shift_19 : decode cCls_shift 19 = .ok (.ifCond .ne 8, 3) := zfCls_shift_0.2.2.2.2.2.2.2.2.2.2.2.1
theorem dCls_shift_22 : decode cCls_shift 22 = .ok (.aload_n 0, 1) := zfCls_shift_0.2.2.2.2.2.2.2.2.2.2.2.2.1
theorem dCls_shift_23 : decode cCls_shift 23 = .ok (.invokevirtual 54, 3) := zfCls_shift_0.2.2.2.2.2.2.2.2.2.2.2.2.2.1
theorem dCls_shift_26 : decode cCls_shift 26 = .ok (.ireturn, 1) := zfCls_shift_0.2.2.2.2.2.2.2.2.2.2.2.2.2.2.1
theorem dCls_shift_27 : decode cCls_shift 27 = .ok (.aload_n 0, 1) := zfCls_shift_0.2.2.2.2.2.2.2.2.2.2.2.2.2.2.2.1
theorem dCls_shift_28 : decode cCls_shift 28 = .ok (.iload_n 1, 1) := zfCls_shift_0.2.2.2.2.2.2.2.2.2.2.2.2.2.2.2.2.1
theorem dCls_shift_29 : decode cCls_shift 29 = .ok (.iconst (-1), 1) := zfCls_shift_0.2.2.2.2.2.2.2.2.2.2.2.2.2.2.2.2.2.1
theorem dCls_shift_30 : decode cCls_shift 30 = .ok (.invokevirtual 58, 3) := zfCls_shift_0.2.2.2.2.2.2.2.2.2.2.2.2.2.2.2.2.2.2.1
theorem dCls_shift_33 : decode cCls_shift 33 = .ok (.aload_n 2, 1) := zfCls_shift_0.2.2.2.2.2.2.2.2.2.2.2.2.2.2.2.2.2.2.2.1
theorem dCls_shift_34 : decode cCls_shift 34 = .ok (.getfield 46, 3) := zfCls_shift_0.2.2.2.2.2.2.2.2.2.2.2.2.2.2.2.2.2.2.2.2.1
theorem dCls_shift_37 : decode cCls_shift 37 = .ok (.ireturn, 1) := zfCls_shift_0.2.2.2.2.2.2.2.2.2.2.2.2.2.2.2.2.2.2.2.2.2.1
theorem zfCls_trim_0 : decode cCls_trim 0 = .ok (.aload_n 0, 1) ∧ decode cCls_trim 1 = .ok (.iload_n 1, 1) ∧ decode cCls_trim 2 = .ok (.invokevirtual 34, 3) ∧ decode cCls_trim 5 = .ok (.astore_n 2, 1) ∧ decode cCls_trim 6 = .ok (.aload_n 2, 1) ∧ decode cCls_trim 7 = .ok (.getfield 46, 3) ∧ decode cCls_trim 10 = .ok (.istore_n 3, 1) ∧ decode cCls_trim 11 = .ok (.aload_n 2, 1) ∧ decode cCls_trim 12 = .ok (.aload_n 2, 1) ∧ decode cCls_trim 13 = .ok (.invokevirtual 206, 3) ∧ decode cCls_trim 16 = .ok (.iconst 1, 1) ∧ decode cCls_trim 17 = .ok (.iadd, 1) ∧ decode cCls_trim 18 = .ok (.putfield 46, 3) ∧ decode cCls_trim 21 = .ok (.aload_n 0, 1) ∧ decode cCls_trim 22 = .ok (.iload_n 1, 1) ∧ decode cCls_trim 23 = .ok (.iconst (-1), 1) ∧ decode cCls_trim 24 = .ok (.invokevirtual 58, 3) ∧ decode cCls_trim 27 = .ok (.iload_n 3, 1) ∧ decode cCls_trim 28 = .ok (.aload_n 2, 1) ∧ decode cCls_trim 29 = .ok (.getfield 46, 3) ∧ decode cCls_trim 32 = .ok (.isub, 1) ∧ decode cCls_trim 33 = .ok (.ireturn, 1) ∧ True := Jvm.Free.DS.facts (code := cCls_trim) 0 [(.aload_n 0, 1), (.iload_n 1, 1), (.invokevirtual 34, 3), (.astore_n 2, 1), (.aload_n 2, 1), (.getfield 46, 3), (.istore_n 3, 1), (.aload_n 2, 1), (.aload_n 2, 1), (.invokevirtual 206, 3), (.iconst 1, 1), (.iadd, 1), (.putfield 46, 3), (.aload_n 0, 1), (.iload_n 1, 1), (.iconst (-1), 1), (.invokevirtual 58, 3), (.iload_n 3, 1), (.aload_n 2, 1), (.getfield 46, 3), (.isub, 1), (.ireturn, 1)] (by decide +kernel) (by decide +kernel)
theorem dCls_trim_0 : decode cCls_trim 0 = .ok (.aload_n 0, 1) := zfCls_trim_0.1
theorem dCls_trim_1 : decode cCls_trim 1 = .ok (.iload_n 1, 1) := zfCls_trim_0.2.1
theorem dCls_trim_2 : decode cCls_trim 2 = .ok (.invokevirtual 34, 3) := zfCls_trim_0.2.2.1
theorem dCls_trim_5 : decode cCls_trim 5 = .ok (.astore_n 2, 1) := zfCls_trim_0.2.2.2.1
theorem dCls_trim_6 : decode cCls_trim 6 = .ok (.aload_n 2, 1) := zfCls_trim_0.2.2.2.2.1
theorem dCls_trim_7 : decode cCls_trim 7 = .ok (.getfield 46, 3) := zfCls_trim_0.2.2.2.2.2.1
theorem dCls_trim_10 : decode cCls_trim 10 = .ok (.istore_n 3, 1) := zfCls_trim_0.2.2.2.2.2.2.1
theorem dCls_trim_11 : decode cCls_trim 11 = .ok (.aload_n 2, 1) := zfCls_trim_0.2.2.2.2.2.2.2.1
theorem dCls_trim_12 : decode cCls_trim 12 = .ok (.aload_n 2, 1) := zfCls_trim_0.2.2.2.2.2.2.2.2.1
theorem dCls_trim_13 : decode cCls_trim 13 = .ok (.invokevirtual 206, 3) := zfCls_trim_0.2.2.2.2.2.2.2.2.2.1
theorem dCls_trim_16 : decode cCls_trim 16 = .ok (.iconst 1, 1) := zfCls_trim_0.2.2.2.2.2.2.2.2.2.2.1
theorem dCls_trim_17 : decode cCls_trim 17 = .ok (.iadd, 1) := zfCls_trim_0.2.2.2.2.2.2.2.2.2.2.2.1
theorem dCls_trim_18 : decode cCls_trim 18 = .ok (.putfield 46, 3) := zfCls_trim_0.2.2.2.2.2.2.2.2.2.2.2.2.1
theorem dCls_trim_21 : decode cCls_trim 21 = .ok (.aload_n 0, 1) := zfCls_trim_0.2.2.2.2.2.2.2.2.2.2.2.2.2.1
theorem dCls_trim_22 : decode cCls_trim 22 = .ok (.iload_n 1, 1) := zfCls_trim_0.2.2.2.2.2.2.2.2.2.2.2.2.2.2.1
theorem dCls_trim_23 : decode cCls_trim 23 = .ok (.iconst (-1), 1) := zfCls_trim_0.2.2.2.2.2.2.2.2.2.2.2.2.2.2.2.1
theorem dCls_trim_24 : decode cCls_trim 24 = .ok (.invokevirtual 58, 3) := zfCls_trim_0.2.2.2.2.2.2.2.2.2.2.2.2.2.2.2.2.1
theorem dCls_trim_27 : decode cCls_trim 27 = .ok (.iload_n 3, 1) := zfCls_trim_0.2.2.2.2.2.2.2.2.2.2.2.2.2.2.2.2.2.1
theorem dCls_trim_28 : decode cCls_trim 28 = .ok (.aload_n 2, 1) := zfCls_trim_0.2.2.2.2.2.2.2.2.2.2.2.2.2.2.2.2.2.2.1
theorem dCls_trim_29 : decode cCls_trim 29 = .ok (.getfield 46, 3) := zfCls_trim_0.2.2.2.2.2.2.2.2.2.2.2.2.2.2.2.2.2.2.2.1
theorem dCls_trim_32 : decode cCls_trim 32 = .ok (.isub, 1) := zfCls_trim_0.2.2.2.2.2.2.2.2.2.2.2.2.2.2.2.2.2.2.2.2.1
theorem dCls_trim_33 : decode cCls_trim 33 = .ok (.ireturn, 1) := zfCls_trim_0.2.2.2.2.2.2.2.2.2.2.2.2.2.2.2.2.2.2.2.2.2.1
theorem zfCls_derive_0 : decode cCls_derive 0 = .ok (.aload_n 0, 1) ∧ decode cCls_derive 1 = .ok (.iload_n 1, 1) ∧ decode cCls_derive 2 = .ok (.aload_n 0, 1) ∧ decode cCls_derive 3 = .ok (.getfield 29, 3) ∧ decode cCls_derive 6 = .ok (.aload_n 0, 1) ∧ decode cCls_derive 7 = .ok (.iload_n 1, 1) ∧ decode cCls_derive 8 = .ok (.invokevirtual 34, 3) ∧ decode cCls_derive 11 = .ok (.invokevirtual 209, 3) ∧ decode cCls_derive 14 = .ok (.invokevirtual 102, 3) ∧ decode cCls_derive 17 = .ok (.ireturn, 1) ∧ True := Jvm.Free.DS.facts (code := cCls_derive) 0 [(.aload_n 0, 1), (.iload_n 1, 1), (.aload_n 0, 1), (.getfield 29, 3), (.aload_n 0, 1), (.iload_n 1, 1), (.invokevirtual 34, 3), (.invokevirtual 209, 3), (.invokevirtual 102, 3), (.ireturn, 1)] (by decide +kernel) (by decide +kernel)
theorem dCls_derive_0 : decode cCls_derive 0 = .ok (.aload_n 0, 1) := zfCls_derive_0.1
theorem dCls_derive_1 : decode cCls_derive 1 = .ok (.iload_n 1, 1) := zfCls_derive_0.2.1
theorem dCls_derive_2 : decode cCls_derive 2 = .ok (.aload_n 0, 1) := zfCls_derive_0.2.2.1
theorem dCls_derive_3 : decode cCls_derive 3 = .ok (.getfield 29, 3) := zfCls_derive_0.2.2.2.1
theorem dCls_derive_6 : decode cCls_derive 6 = .ok (.aload_n 0, 1) := zfCls_derive_0.2.2.2.2.1
theorem dCls_derive_7 : decode cCls_derive 7 = .ok (.iload_n 1, 1) := zfCls_derive_0.2.2.2.2.2.1
theorem dCls_derive_8 : decode cCls_derive 8 = .ok (.invokevirtual 34, 3) := zfCls_derive_0.2.2.2.2.2.2.1
theorem dCls_derive_11 : decode cCls_derive 11 = .ok (.invokevirtual 209, 3) := zfCls_derive_0.2.2.2.2.2.2.2.1
theorem dCls_derive_14 : decode cCls_derive 14 = .ok (.invokevirtual 102, 3) := zfCls_derive_0.2.2.2.2.2.2.2.2.1
theorem dCls_derive_17 : decode cCls_derive 17 = .ok (.ireturn, 1) := zfCls_derive_0.2.2.2.2.2.2.2.2.2.1
theorem zfCls_value_0 : decode cCls_value 0 = .ok (.aload_n 0, 1) ∧ decode cCls_value 1 = .ok (.iload_n 1, 1) ∧ decode cCls_value 2 = .ok (.invokevirtual 34, 3) ∧ decode cCls_value 5 = .ok (.astore_n 3, 1) ∧ decode cCls_value 6 = .ok (.iload_n 2, 1) ∧ decode cCls_value 7 = .ok (.bipush (-99), 2) ∧ decode cCls_value 9 = .ok (.bipush 99, 2) ∧ decode cCls_value 11 = .ok (.invokestatic 38, 3) ∧ decode cCls_value 14 = .ok (.aload_n 3, 1) ∧ decode cCls_value 15 = .ok (.iload_n 2, 1) ∧ decode cCls_value 16 = .ok (.invokevirtual 212, 3) ∧ decode cCls_value 19 = .ok (.ireturn, 1) ∧ True := Jvm.Free.DS.facts (code := cCls_value) 0 [(.aload_n 0, 1), (.iload_n 1, 1), (.invokevirtual 34, 3), (.astore_n 3, 1), (.iload_n 2, 1), (.bipush (-99), 2), (.bipush 99, 2), (.invokestatic 38, 3), (.aload_n 3, 1), (.iload_n 2, 1), (.invokevirtual 212, 3), (.ireturn, 1)] (by decide +kernel) (by decide +kernel)
theorem dCls_value_0 : decode cCls_value 0 = .ok (.aload_n 0, 1) := zfCls_value_0.1
theorem dCls_value_1 : decode cCls_value 1 = .ok (.iload_n 1, 1) := zfCls_value_0.2.1
theorem dCls_value_2 : decode cCls_value 2 = .ok (.invokevirtual 34, 3) := zfCls_value_0.2.2.1
theorem dCls_value_5 : decode cCls_value 5 = .ok (.astore_n 3, 1) := zfCls_value_0.2.2.2.1
theorem dCls_value_6 : decode cCls_value 6 = .ok (.iload_n 2, 1) := zfCls_value_0.2.2.2.2.1
theorem dCls_value_7 : decode cCls_value 7 = .ok (.bipush (-99), 2) := zfCls_value_0.2.2.2.2.2.1
theorem dCls_value_9 : decode cCls_value 9 = .ok (.bipush 99, 2) := zfCls_value_0.2.2.2.2.2.2.1
theorem dCls_value_11 : decode cCls_value 11 = .ok (.invokestatic 38, 3) := zfCls_value_0.2.2.2.2.2.2.2.1
theorem dCls_value_14 : decode cCls_value 14 = .ok (.aload_n 3, 1) := zfCls_value_0.2.2.2.2.2.2.2.2.1
theorem dCls_value_15 : decode cCls_value 15 = .ok (.iload_n 2, 1) := zfCls_value_0.2.2.2.2.2.2.2.2.2.1
theorem dCls_value_16 : decode cCls_value 16 = .ok (.invokevirtual 212, 3) := zfCls_value_0.2.2.2.2.2.2.2.2.2.2.1
theorem dCls_value_19 : decode cCls_value 19 = .ok (.ireturn, 1) := zfCls_value_0.2.2.2.2.2.2.2.2.2.2.2.1
theorem zfCls_degree_0 : decode cCls_degree 0 = .ok (.aload_n 0, 1) ∧ decode cCls_degree 1 = .ok (.iload_n 1, 1) ∧ decode cCls_degree 2 = .ok (.invokevirtual 34, 3) ∧ decode cCls_degree 5 = .ok (.invokevirtual 206, 3) ∧ decode cCls_degree 8 = .ok (.ireturn, 1) ∧ True := Jvm.Free.DS.facts (code := cCls_degree) 0 [(.aload_n 0, 1), (.iload_n 1, 1), (.invokevirtual 34, 3), (.invokevirtual 206, 3), (.ireturn, 1)] (by decide +kernel) (by decide +kernel)
theorem dCls_degree_0 : decode cCls_degree 0 = .ok (.aload_n 0, 1) := zfCls_degree_0.1
theorem dCls_degree_1 : decode cCls_degree 1 = .ok (.iload_n 1, 1) := zfCls_degree_0.2.1
theorem dCls_degree_2 : decode cCls_degree 2 = .ok (.invokevirtual 34, 3) := zfCls_degree_0.2.2.1
theorem dCls_degree_5 : decode cCls_degree 5 = .ok (.invokevirtual 206, 3) := zfCls_degree_0.2.2.2.1
theorem dCls_degree_8 : decode cCls_degree 8 = .ok (.ireturn, 1) := zfCls_degree_0.2.2.2.2.1
theorem zfCls_ask_0 : decode cCls_ask 0 = .ok (.iload_n 1, 1) ∧ decode cCls_ask 1 = .ok (.iconst 0, 1) ∧ decode cCls_ask 2 = .ok (.bipush 7, 2) ∧ decode cCls_ask 4 = .ok (.invokestatic 38, 3) ∧ decode cCls_ask 7 = .ok (.aload_n 0, 1) ∧ decode cCls_ask 8 = .ok (.getfield 24, 3) ∧ decode cCls_ask 11 = .ok (.getfield 215, 3) ∧ decode cCls_ask 14 = .ok (.bipush 60, 2) ∧ decode cCls_ask 16 = .ok (.if_icmp .lt 13, 3) ∧ decode cCls_ask 19 = .ok (.new 218, 3) ∧ decode cCls_ask 22 = .ok (.dup, 1) ∧ decode cCls_ask 23 = .ok (.ldc 220, 2) ∧ decode cCls_ask 25 = .ok (.invokespecial 222, 3) ∧ decode cCls_ask 28 = .ok (.athrow, 1) ∧ decode cCls_ask 29 = .ok (.aload_n 0, 1) ∧ decode cCls_ask 30 = .ok (.getfield 24, 3) ∧ decode cCls_ask 33 = .ok (.iload_n 1, 1) ∧ decode cCls_ask 34 = .ok (.invokevirtual 223, 3) ∧ decode cCls_ask 37 = .ok (.ireturn, 1) ∧ True := Jvm.Free.DS.facts (code := cCls_ask) 0 [(.iload_n 1, 1), (.iconst 0, 1), (.bipush 7, 2), (.invokestatic 38, 3), (.aload_n 0, 1), (.getfield 24, 3), (.getfield 215, 3), (.bipush 60, 2), (.if_icmp .lt 13, 3), (.new 218, 3), (.dup, 1), (.ldc 220, 2), (.invokespecial 222, 3), (.athrow, 1), (.aload_n 0, 1), (.getfield 24, 3), (.iload_n 1, 1), (.invokevirtual 223, 3), (.ireturn, 1)] (by decide +kernel) (by decide +kernel)
theorem dCls_ask_0 : decode cCls_ask 0 = .ok (.iload_n 1, 1) := zfCls_ask_0.1
theorem dCls_ask_1 : decode cCls_ask 1 = .ok (.iconst 0, 1) := zfCls_ask_0.2.1
theorem dCls_ask_2 : decode cCls_ask 2 = .ok (.bipush 7, 2) := zfCls_ask_0.2.2.1
theorem dCls_ask_4 : decode cCls_ask 4 = .ok (.invokestatic 38, 3) := zfCls_ask_0.2.2.2.1
theorem dCls_ask_7 : decode cCls_ask 7 = .ok (.aload_n 0, 1) := zfCls_ask_0.2.2.2.2.1
theorem dCls_ask_8 : decode cCls_ask 8 = .ok (.getfield 24, 3) := zfCls_ask_0.2.2.2.2.2.1
theorem dCls_ask_11 : decode cCls_ask 11 = .ok (.getfield 215, 3) := zfCls_ask_0.2.2.2.2.2.2.1
theorem dCls_ask_14 : decode cCls_ask 14 = .ok (.bipush 60, 2) := zfCls_ask_0.2.2.2.2.2.2.2.1
theorem dCls_ask_16 : decode cCls_ask 16 = .ok (.if_icmp .lt 13, 3) := zfCls_ask_0.2.2.2.2.2.2.2.2.1
theorem dCls_ask_19 : decode cCls_ask 19 = .ok (.new 218, 3) := zfCls_ask_0.2.2.2.2.2.2.2.2.2.1
theorem dCls_ask_22 : decode cCls_ask 22 = .ok (.dup, 1) := zfCls_ask_0.2.2.2.2.2.2.2.2.2.2.1
theorem dCls_ask_23 : decode cCls_ask 23 = .ok (.ldc 220, 2) := zfCls_ask_0.2.2.2.2.2.2.2.2.2.2.2.1
theorem dCls_ask_25 : decode cCls_ask 25 = .ok (.invokespecial 222, 3) := zfCls_ask_0.2.2.2.2.2.2.2.2.2.2.2.2.1
theorem dCls_ask_28 : decode cCls_ask 28 = .ok (.athrow, 1) := zfCls_ask_0.2.2.2.2.2.2.2.2.2.2.2.2.2.1
theorem dCls_ask_29 : decode cCls_ask 29 = .ok (.aload_n 0, 1) := zfCls_ask_0.2.2.2.2.2.2.2.2.2.2.2.2.2.2.1
theorem dCls_ask_30 : decode cCls_ask 30 = .ok (.getfield 24, 3) := zfCls_ask_0.2.2.2.2.2.2.2.2.2.2.2.2.2.2.2.1
theorem dCls_ask_33 : decode cCls_ask 33 = .ok (.iload_n 1, 1) := zfCls_ask_0.2.2.2.2.2.2.2.2.2.2.2.2.2.2.2.2.1
theorem dCls_ask_34 : decode cCls_ask 34 = .ok (.invokevirtual 223, 3) := zfCls_ask_0.2.2.2.2.2.2.2.2.2.2.2.2.2.2.2.2.2.1
theorem dCls_ask_37 : decode cCls_ask 37 = .ok (.ireturn, 1) := zfCls_ask_0.2.2.2.2.2.2.2.2.2.2.2.2.2.2.2.2.2.2.1
theorem zfCls_forget_0 : decode cCls_forget 0 = .ok (.aload_n 0, 1) ∧ decode cCls_forget 1 = .ok (.getfield 24, 3) ∧ decode cCls_forget 4 = .ok (.getfield 215, 3) ∧ decode cCls_forget 7 = .ok (.istore_n 1, 1) ∧ decode cCls_forget 8 = .ok (.aload_n 0, 1) ∧ decode cCls_forget 9 = .ok (.getfield 24, 3) ∧ decode cCls_forget 12 = .ok (.invokevirtual 226, 3) ∧ decode cCls_forget 15 = .ok (.iload_n 1, 1) ∧ decode cCls_forget 16 = .ok (.ireturn, 1) ∧ True := Jvm.Free.DS.facts (code := cCls_forget) 0 [(.aload_n 0, 1), (.getfield 24, 3), (.getfield 215, 3), (.istore_n 1, 1), (.aload_n 0, 1), (.getfield 24, 3), (.invokevirtual 226, 3), (.iload_n 1, 1), (.ireturn, 1)] (by decide +kernel) (by decide +kernel)
theorem dCls_forget_0 : decode cCls_forget 0 = .ok (.aload_n 0, 1) := zfCls_forget_0.1
theorem dCls_forget_1 : decode cCls_forget 1 = .ok (.getfield 24, 3) := zfCls_forget_0.2.1
theorem dCls_forget_4 : decode cCls_forget 4 = .ok (.getfield 215, 3) := zfCls_forget_0.2.2.1
theorem dCls_forget_7 : decode cCls_forget 7 = .ok (.istore_n 1, 1) := zfCls_forget_0.2.2.2.1
theorem dCls_forget_8 : decode cCls_forget 8 = .ok (.aload_n 0, 1) := zfCls_forget_0.2.2.2.2.1
theorem dCls_forget_9 : decode cCls_forget 9 = .ok (.getfield 24, 3) := zfCls_forget_0.2.2.2.2.2.1
theorem dCls_forget_12 : decode cCls_forget 12 = .ok (.invokevirtual 226, 3) := zfCls_forget_0.2.2.2.2.2.2.1
theorem dCls_forget_15 : decode cCls_forget 15 = .ok (.iload_n 1, 1) := zfCls_forget_0.2.2.2.2.2.2.2.1
theorem dCls_forget_16 : decode cCls_forget 16 = .ok (.ireturn, 1) := zfCls_forget_0.2.2.2.2.2.2.2.2.1
theorem zfCls_asked_0 : decode cCls_asked 0 = .ok (.iload_n 1, 1) ∧ decode cCls_asked 1 = .ok (.iconst 0, 1) ∧ decode cCls_asked 2 = .ok (.iconst 3, 1) ∧ decode cCls_asked 3 = .ok (.invokestatic 38, 3) ∧ decode cCls_asked 6 = .ok (.iload_n 1, 1) ∧ decode cCls_asked 7 = .ok (.tableswitch 49 0 2 #[25, 33, 41], 25) ∧ decode cCls_asked 32 = .ok (.aload_n 0, 1) ∧ decode cCls_asked 33 = .ok (.getfield 24, 3) ∧ decode cCls_asked 36 = .ok (.getfield 215, 3) ∧ decode cCls_asked 39 = .ok (.ireturn, 1) ∧ decode cCls_asked 40 = .ok (.aload_n 0, 1) ∧ decode cCls_asked 41 = .ok (.getfield 24, 3) ∧ decode cCls_asked 44 = .ok (.getfield 228, 3) ∧ decode cCls_asked 47 = .ok (.ireturn, 1) ∧ decode cCls_asked 48 = .ok (.aload_n 0, 1) ∧ decode cCls_asked 49 = .ok (.getfield 24, 3) ∧ decode cCls_asked 52 = .ok (.getfield 231, 3) ∧ decode cCls_asked 55 = .ok (.ireturn, 1) ∧ decode cCls_asked 56 = .ok (.aload_n 0, 1) ∧ decode cCls_asked 57 = .ok (.getfield 24, 3) ∧ decode cCls_asked 60 = .ok (.getfield 234, 3) ∧ decode cCls_asked 63 = .ok (.bipush 7, 2) ∧ decode cCls_asked 65 = .ok (.invokevirtual 70, 3) ∧ decode cCls_asked 68 = .ok (.ireturn, 1) ∧ True := Jvm.Free.DS.facts (code := cCls_asked) 0 [(.iload_n 1, 1), (.iconst 0, 1), (.iconst 3, 1), (.invokestatic 38, 3), (.iload_n 1, 1), (.tableswitch 49 0 2 #[25, 33, 41], 25), (.aload_n 0, 1), (.getfield 24, 3), (.getfield 215, 3), (.ireturn, 1), (.aload_n 0, 1), (.getfield 24, 3), (.getfield 228, 3), (.ireturn, 1), (.aload_n 0, 1), (.getfield 24, 3), (.getfield 231, 3), (.ireturn, 1), (.aload_n 0, 1), (.getfield 24, 3), (.getfield 234, 3), (.bipush 7, 2), (.invokevirtual 70, 3), (.ireturn, 1)] (by decide +kernel) (by decide +kernel)
theorem dCls_asked_0 : decode cCls_asked 0 = .ok (.iload_n 1, 1) := zfCls_asked_0.1
theorem dCls_asked_1 : decode cCls_asked 1 = .ok (.iconst 0, 1) := zfCls_asked_0.2.1
theorem dCls_asked_2 : decode cCls_asked 2 = .ok (.iconst 3, 1) := zfCls_asked_0.2.2.1
theorem dCls_asked_3 : decode cCls_asked 3 = .ok (.invokestatic 38, 3) := zfCls_asked_0.2.2.2.1
theorem dCls_asked_6 : decode cCls_asked 6 = .ok (.iload_n 1, 1) := zfCls_asked_0.2.2.2.2.1
theorem dCls_asked_7 : decode cCls_asked 7 = .ok (.tableswitch 49 0 2 #[25, 33, 41], 25) := zfCls_asked_0.2.2.2.2.2.1
theorem dCls_asked_32 : decode cCls_asked 32 = .ok (.aload_n 0, 1) := zfCls_asked_0.2.2.2.2.2.2.1
theorem dCls_asked_33 : decode cCls_asked 33 = .ok (.getfield 24, 3) := zfCls_asked_0.2.2.2.2.2.2.2.1
theorem dCls_asked_36 : decode cCls_asked 36 = .ok (.getfield 215, 3) := zfCls_asked_0.2.2.2.2.2.2.2.2.1
theorem dCls_asked_39 : decode cCls_asked 39 = .ok (.ireturn, 1) := zfCls_asked_0.2.2.2.2.2.2.2.2.2.1
theorem dCls_asked_40 : decode cCls_asked 40 = .ok (.aload_n 0, 1) := zfCls_asked_0.2.2.2.2.2.2.2.2.2.2.1
theorem dCls_asked_41 : decode cCls_asked 41 = .ok (.getfield 24, 3) := zfCls_asked_0.2.2.2.2.2.2.2.2.2.2.2.1
theorem dCls_asked_44 : decode cCls_asked 44 = .ok (.getfield 228, 3) := zfCls_asked_0.2.2.2.2.2.2.2.2.2.2.2.2.1
theorem dCls_asked_47 : decode cCls_asked 47 = .ok (.ireturn, 1) := zfCls_asked_0.2.2.2.2.2.2.2.2.2.2.2.2.2.1
theorem dCls_asked_48 : decode cCls_asked 48 = .ok (.aload_n 0, 1) := zfCls_asked_0.2.2.2.2.2.2.2.2.2.2.2.2.2.2.1
theorem dCls_asked_49 : decode cCls_asked 49 = .ok (.getfield 24, 3) := zfCls_asked_0.2.2.2.2.2.2.2.2.2.2.2.2.2.2.2.1
theorem dCls_asked_52 : decode cCls_asked 52 = .ok (.getfield 231, 3) := zfCls_asked_0.2.2.2.2.2.2.2.2.2.2.2.2.2.2.2.2.1
theorem dCls_asked_55 : decode cCls_asked 55 = .ok (.ireturn, 1) := zfCls_asked_0.2.2.2.2.2.2.2.2.2.2.2.2.2.2.2.2.2.1
theorem dCls_asked_56 : decode cCls_asked 56 = .ok (.aload_n 0, 1) := zfCls_asked_0.2.2.2.2.2.2.2.2.2.2.2.2.2.2.2.2.2.2.1
theorem dCls_asked_57 : decode cCls_asked 57 = .ok (.getfield 24, 3) := zfCls_asked_0.2.2.2.2.2.2.2.2.2.2.2.2.2.2.2.2.2.2.2.1
theorem dCls_asked_60 : decode cCls_asked 60 = .ok (.getfield 234, 3) := zfCls_asked_0.2.2.2.2.2.2.2.2.2.2.2.2.2.2.2.2.2.2.2.2.1
theorem dCls_asked_63 : decode cCls_asked 63 = .ok (.bipush 7, 2) := zfCls_asked_0.2.2.2.2.2.2.2.2.2.2.2.2.2.2.2.2.2.2.2.2.2.1
theorem dCls_asked_65 : decode cCls_asked 65 = .ok (.invokevirtual 70, 3) := zfCls_asked_0.2.2.2.2.2.2.2.2.2.2.2.2.2.2.2.2.2.2.2.2.2.2.1
theorem dCls_asked_68 : decode cCls_asked 68 = .ok (.ireturn, 1) := zfCls_asked_0.2.2.2.2.2.2.2.2.2.2.2.2.2.2.2.2.2.2.2.2.2.2.2.1
theorem zfCls_recent_0 : decode cCls_recent 0 = .ok (.aload_n 0, 1) ∧ decode cCls_recent 1 = .ok (.getfield 24, 3) ∧ decode cCls_recent 4 = .ok (.getfield 234, 3) ∧ decode cCls_recent 7 = .ok (.iconst 0, 1) ∧ decode cCls_recent 8 = .ok (.invokevirtual 94, 3) ∧ decode cCls_recent 11 = .ok (.areturn, 1) ∧ True := Jvm.Free.DS.facts (code := cCls_recent) 0 [(.aload_n 0, 1), (.getfield 24, 3), (.getfield 234, 3), (.iconst 0, 1), (.invokevirtual 94, 3), (.areturn, 1)] (by decide +kernel) (by decide +kernel)
theorem dCls_recent_0 : decode cCls_recent 0 = .ok (.aload_n 0, 1) := zfCls_recent_0.1
theorem dCls_recent_1 : decode cCls_recent 1 = .ok (.getfield 24, 3) := zfCls_recent_0.2.1
theorem dCls_recent_4 : decode cCls_recent 4 = .ok (.getfield 234, 3) := zfCls_recent_0.2.2.1
theorem dCls_recent_7 : decode cCls_recent 7 = .ok (.iconst 0, 1) := zfCls_recent_0.2.2.2.1
theorem dCls_recent_8 : decode cCls_recent 8 = .ok (.invokevirtual 94, 3) := zfCls_recent_0.2.2.2.2.1
theorem dCls_recent_11 : decode cCls_recent 11 = .ok (.areturn, 1) := zfCls_recent_0.2.2.2.2.2.1
theorem zfCls_byOrder_0 : decode cCls_byOrder 0 = .ok (.aload_n 0, 1) ∧ decode cCls_byOrder 1 = .ok (.iload_n 1, 1) ∧ decode cCls_byOrder 2 = .ok (.invokevirtual 34, 3) ∧ decode cCls_byOrder 5 = .ok (.astore_n 3, 1) ∧ decode cCls_byOrder 6 = .ok (.iload_n 2, 1) ∧ decode cCls_byOrder 7 = .ok (.iconst 0, 1) ∧ decode cCls_byOrder 8 = .ok (.iconst 2, 1) ∧ decode cCls_byOrder 9 = .ok (.invokestatic 38, 3) ∧ decode cCls_byOrder 12 = .ok (.aload_n 3, 1) ∧ decode cCls_byOrder 13 = .ok (.invokevirtual 237, 3) ∧ decode cCls_byOrder 16 = .ok (.ifCond .ne 8, 3) ∧ decode cCls_byOrder 19 = .ok (.aload_n 0, 1) ∧ decode cCls_byOrder 20 = .ok (.invokevirtual 54, 3) ∧ decode cCls_byOrder 23 = .ok (.ireturn, 1) ∧ decode cCls_byOrder 24 = .ok (.iload_n 2, 1) ∧ decode cCls_byOrder 25 = .ok (.lookupswitch 41 #[(0, 27), (1, 36)], 27) ∧ decode cCls_byOrder 52 = .ok (.aload_n 0, 1) ∧ decode cCls_byOrder 53 = .ok (.getfield 24, 3) ∧ decode cCls_byOrder 56 = .ok (.aload_n 3, 1) ∧ decode cCls_byOrder 57 = .ok (.invokevirtual 241, 3) ∧ decode cCls_byOrder 60 = .ok (.ireturn, 1) ∧ decode cCls_byOrder 61 = .ok (.aload_n 3, 1) ∧ decode cCls_byOrder 62 = .ok (.invokevirtual 244, 3) ∧ decode cCls_byOrder 65 = .ok (.ireturn, 1) ∧ decode cCls_byOrder 66 = .ok (.aload_n 0, 1) ∧ decode cCls_byOrder 67 = .ok (.getfield 24, 3) ∧ decode cCls_byOrder 70 = .ok (.aload_n 3, 1) ∧ decode cCls_byOrder 71 = .ok (.invokevirtual 247, 3) ∧ decode cCls_byOrder 74 = .ok (.ireturn, 1) ∧ True := Jvm.Free.DS.facts (code := cCls_byOrder) 0 [(.aload_n 0, 1), (.iload_n 1, 1), (.invokevirtual 34, 3), (.astore_n 3, 1), (.iload_n 2, 1), (.iconst 0, 1), (.iconst 2, 1), (.invokestatic 38, 3), (.aload_n 3, 1), (.invokevirtual 237, 3), (.ifCond .ne 8, 3), (.aload_n 0, 1), (.invokevirtual 54, 3), (.ireturn, 1), (.iload_n 2, 1), (.lookupswitch 41 #[(0, 27), (1, 36)], 27), (.aload_n 0, 1), (.getfield 24, 3), (.aload_n 3, 1), (.invokevirtual 241, 3), (.ireturn, 1), (.aload_n 3, 1), (.invokevirtual 244, 3), (.ireturn, 1), (.aload_n 0, 1), (.getfield 24, 3), (.aload_n 3, 1), (.invokevirtual 247, 3), (.ireturn, 1)] (by decide +kernel) (by decide +kernel)
theorem dCls_byOrder_0 : decode cCls_byOrder 0 = .ok (.aload_n 0, 1) := zfCls_byOrder_0.1
theorem dCls_byOrder_1 : decode cCls_byOrder 1 = .ok (.iload_n 1, 1) := zfCls_byOrder_0.2.1
theorem dCls_byOrder_2 : decode cCls_byOrder 2 = .ok (.invokevirtual 34, 3) := zfCls_byOrder_0.2.2.1
theorem dCls_byOrder_5 : decode cCls_byOrder 5 = .ok (.astore_n 3, 1) := zfCls_byOrder_0.2.2.2.1
theorem dCls_byOrder_6 : decode cCls_byOrder 6 = .ok (.iload_n 2, 1) := zfCls_byOrder_0.2.2.2.2.1
theorem dCls_byOrder_7 : decode cCls_byOrder 7 = .ok (.iconst 0, 1) := zfCls_byOrder_0.2.2.2.2.2.1
theorem dCls_byOrder_8 : decode cCls_byOrder 8 = .ok (.iconst 2, 1) := zfCls_byOrder_0.2.2.2.2.2.2.1
theorem dCls_byOrder_9 : decode cCls_byOrder 9 = .ok (.invokestatic 38, 3) := zfCls_byOrder_0.2.2.2.2.2.2.2.1
theorem dCls_byOrder_12 : decode cCls_byOrder 12 = .ok (.aload_n 3, 1) := zfCls_byOrder_0.2.2.2.2.2.2.2.2.1
theorem dCls_byOrder_13 : decode cCls_byOrder 13 = .ok (.invokevirtual 237, 3) := zfCls_byOrder_0.2.2.2.2.2.2.2.2.2.1
theorem dCls_byOrder_16 : decode cCls_byOrder 16 = .ok (.ifCond .ne 8, 3) := zfCls_byOrder_0.2.2.2.2.2.2.2.2.2.2.1
theorem dCls_byOrder_19 : decode cCls_byOrder 19 = .ok (.aload_n 0, 1) := zfCls_byOrder_0.2.2.2.2.2.2.2.2.2.2.2.1
theorem dCls_byOrder_20 : decode cCls_byOrder 20 = .ok (.invokevirtual 54, 3) := zfCls_byOrder_0.2.2.2.2.2.2.2.2.2.2.2.2.1
theorem dCls_byOrder_23 : decode cCls_byOrder 23 = .ok (.ireturn, 1) := zfCls_byOrder_0.2.2.2.2.2.2.2.2.2.2.2.2.2.1
theorem dCls_byOrder_24 : decode cCls_byOrder 24 = .ok (.iload_n 2, 1) := zfCls_byOrder_0.2.2.2.2.2.2.2.2.2.2.2.2.2.2.1
theorem dCls_byOrder_25 : decode cCls_byOrder 25 = .ok (.lookupswitch 41 #[(0, 27), (1, 36)], 27) := zfCls_byOrder_0.2.2.2.2.2.2.2.2.2.2.2.2.2.2.2.1
theorem dCls_byOrder_52 : decode cCls_byOrder 52 = .ok (.aload_n 0, 1) := zfCls_byOrder_0.2.2.2.2.2.2.2.2.2.2.2.2.2.2.2.2.1
theorem dCls_byOrder_53 : decode cCls_byOrder 53 = .ok (.getfield 24, 3) := zfCls_byOrder_0.2.2.2.2.2.2.2.2.2.2.2.2.2.2.2.2.2.1
theorem dCls_byOrder_56 : decode cCls_byOrder 56 = .ok (.aload_n 3, 1) := zfCls_byOrder_0.2.2.2.2.2.2.2.2.2.2.2.2.2.2.2.2.2.2.1
theorem dCls_byOrder_57 : decode cCls_byOrder 57 = .ok (.invokevirtual 241, 3) := zfCls_byOrder_0.2.2.2.2.2.2.2.2.2.2.2.2.2.2.2.2.2.2.2.1
theorem dCls_byOrder_60 : decode cCls_byOrder 60 = .ok (.ireturn, 1) := zfCls_byOrder_0.2.2.2.2.2.2.2.2.2.2.2.2.2.2.2.2.2.2.2.2.1
theorem dCls_byOrder_61 : decode cCls_byOrder 61 = .ok (.aload_n 3, 1) := zfCls_byOrder_0.2.2.2.2.2.2.2.2.2.2.2.2.2.2.2.2.2.2.2.2.2.1
theorem dCls_byOrder_62 : decode cCls_byOrder 62 = .ok (.invokevirtual 244, 3) := zfCls_byOrder_0.2.2.2.2.2.2.2.2.2.2.2.2.2.2.2.2.2.2.2.2.2.2.1
theorem dCls_byOrder_65 : decode cCls_byOrder 65 = .ok (.ireturn, 1) := zfCls_byOrder_0.2.2.2.2.2.2.2.2.2.2.2.2.2.2.2.2.2.2.2.2.2.2.2.1
theorem dCls_byOrder_66 : decode cCls_byOrder 66 = .ok (.aload_n 0, 1) := zfCls_byOrder_0.2.2.2.2.2.2.2.2.2.2.2.2.2.2.2.2.2.2.2.2.2.2.2.2.1
theorem dCls_byOrder_67 : decode cCls_byOrder 67 = .ok (.getfield 24, 3) := zfCls_byOrder_0.2.2.2.2.2.2.2.2.2.2.2.2.2.2.2.2.2.2.2.2.2.2.2.2.2.1
theorem dCls_byOrder_70 : decode cCls_byOrder 70 = .ok (.aload_n 3, 1) := zfCls_byOrder_0.2.2.2.2.2.2.2.2.2.2.2.2.2.2.2.2.2.2.2.2.2.2.2.2.2.2.1
theorem dCls_byOrder_71 : decode cCls_byOrder 71 = .ok (.invokevirtual 247, 3) := zfCls_byOrder_0.2.2.2.2.2.2.2.2.2.2.2.2.2.2.2.2.2.2.2.2.2.2.2.2.2.2.2.1
theorem dCls_byOrder_74 : decode cCls_byOrder 74 = .ok (.ireturn, 1) := zfCls_byOrder_0.2.2.2.2.2.2.2.2.2.2.2.2.2.2.2.2.2.2.2.2.2.2.2.2.2.2.2.2.1
theorem zfCls_house_0 : decode cCls_house 0 = .ok (.iload_n 1, 1) ∧ decode cCls_house 1 = .ok (.iconst 0, 1) ∧ decode cCls_house 2 = .ok (.iconst 4, 1) ∧ decode cCls_house 3 = .ok (.invokestatic 38, 3) ∧ decode cCls_house 6 = .ok (.iload_n 1, 1) ∧ decode cCls_house 7 = .ok (.tableswitch 49 0 3 #[29, 34, 39, 44], 29) ∧ decode cCls_house 36 = .ok (.aload_n 0, 1) ∧ decode cCls_house 37 = .ok (.invokevirtual 250, 3) ∧ decode cCls_house 40 = .ok (.ireturn, 1) ∧ decode cCls_house 41 = .ok (.aload_n 0, 1) ∧ decode cCls_house 42 = .ok (.invokevirtual 253, 3) ∧ decode cCls_house 45 = .ok (.ireturn, 1) ∧ decode cCls_house 46 = .ok (.aload_n 0, 1) ∧ decode cCls_house 47 = .ok (.invokevirtual 256, 3) ∧ decode cCls_house 50 = .ok (.ireturn, 1) ∧ decode cCls_house 51 = .ok (.aload_n 0, 1) ∧ decode cCls_house 52 = .ok (.getfield 259, 3) ∧ decode cCls_house 55 = .ok (.ireturn, 1) ∧ decode cCls_house 56 = .ok (.aload_n 0, 1) ∧ decode cCls_house 57 = .ok (.getfield 262, 3) ∧ decode cCls_house 60 = .ok (.ireturn, 1) ∧ True := Jvm.Free.DS.facts (code := cCls_house) 0 [(.iload_n 1, 1), (.iconst 0, 1), (.iconst 4, 1), (.invokestatic 38, 3), (.iload_n 1, 1), (.tableswitch 49 0 3 #[29, 34, 39, 44], 29), (.aload_n 0, 1), (.invokevirtual 250, 3), (.ireturn, 1), (.aload_n 0, 1), (.invokevirtual 253, 3), (.ireturn, 1), (.aload_n 0, 1), (.invokevirtual 256, 3), (.ireturn, 1), (.aload_n 0, 1), (.getfield 259, 3), (.ireturn, 1), (.aload_n 0, 1), (.getfield 262, 3), (.ireturn, 1)] (by decide +kernel) (by decide +kernel)
theorem dCls_house_0 : decode cCls_house 0 = .ok (.iload_n 1, 1) := zfCls_house_0.1
theorem dCls_house_1 : decode cCls_house 1 = .ok (.iconst 0, 1) := zfCls_house_0.2.1
theorem dCls_house_2 : decode cCls_house 2 = .ok (.iconst 4, 1) := zfCls_house_0.2.2.1
theorem dCls_house_3 : decode cCls_house 3 = .ok (.invokestatic 38, 3) := zfCls_house_0.2.2.2.1
theorem dCls_house_6 : decode cCls_house 6 = .ok (.iload_n 1, 1) := zfCls_house_0.2.2.2.2.1
theorem dCls_house_7 : decode cCls_house 7 = .ok (.tableswitch 49 0 3 #[29, 34, 39, 44], 29) := zfCls_house_0.2.2.2.2.2.1
theorem dCls_house_36 : decode cCls_house 36 = .ok (.aload_n 0, 1) := zfCls_house_0.2.2.2.2.2.2.1
theorem dCls_house_37 : decode cCls_house 37 = .ok (.invokevirtual 250, 3) := zfCls_house_0.2.2.2.2.2.2.2.1
theorem dCls_house_40 : decode cCls_house 40 = .ok (.ireturn, 1) := zfCls_house_0.2.2.2.2.2.2.2.2.1
theorem dCls_house_41 : decode cCls_house 41 = .ok (.aload_n 0, 1) := zfCls_house_0.2.2.2.2.2.2.2.2.2.1
theorem dCls_house_42 : decode cCls_house 42 = .ok (.invokevirtual 253, 3) := zfCls_house_0.2.2.2.2.2.2.2.2.2.2.1
theorem dCls_house_45 : decode cCls_house 45 = .ok (.ireturn, 1) := zfCls_house_0.2.2.2.2.2.2.2.2.2.2.2.1
theorem dCls_house_46 : decode cCls_house 46 = .ok (.aload_n 0, 1) := zfCls_house_0.2.2.2.2.2.2.2.2.2.2.2.2.1
theorem dCls_house_47 : decode cCls_house 47 = .ok (.invokevirtual 256, 3) := zfCls_house_0.2.2.2.2.2.2.2.2.2.2.2.2.2.1
theorem dCls_house_50 : decode cCls_house 50 = .ok (.ireturn, 1) := zfCls_house_0.2.2.2.2.2.2.2.2.2.2.2.2.2.2.1
theorem dCls_house_51 : decode cCls_house 51 = .ok (.aload_n 0, 1) := zfCls_house_0.2.2.2.2.2.2.2.2.2.2.2.2.2.2.2.1
theorem dCls_house_52 : decode cCls_house 52 = .ok (.getfield 259, 3) := zfCls_house_0.2.2.2.2.2.2.2.2.2.2.2.2.2.2.2.2.1
theorem dCls_house_55 : decode cCls_house 55 = .ok (.ireturn, 1) := zfCls_house_0.2.2.2.2.2.2.2.2.2.2.2.2.2.2.2.2.2.1
theorem dCls_house_56 : decode cCls_house 56 = .ok (.aload_n 0, 1) := zfCls_house_0.2.2.2.2.2.2.2.2.2.2.2.2.2.2.2.2.2.2.1
theorem dCls_house_57 : decode cCls_house 57 = .ok (.getfield 262, 3) := zfCls_house_0.2.2.2.2.2.2.2.2.2.2.2.2.2.2.2.2.2.2.2.1
theorem dCls_house_60 : decode cCls_house 60 = .ok (.ireturn, 1) := zfCls_house_0.2.2.2.2.2.2.2.2.2.2.2.2.2.2.2.2.2.2.2.2.1
theorem zfCls_knock_0 : decode cCls_knock 0 = .ok (.aload_n 0, 1) ∧ decode cCls_knock 1 = .ok (.dup, 1) ∧ decode cCls_knock 2 = .ok (.getfield 262, 3) ∧ decode cCls_knock 5 = .ok (.iconst 1, 1) ∧ decode cCls_knock 6 = .ok (.iadd, 1) ∧ decode cCls_knock 7 = .ok (.putfield 262, 3) ∧ decode cCls_knock 10 = .ok (.aload_n 0, 1) ∧ decode cCls_knock 11 = .ok (.getfield 262, 3) ∧ decode cCls_knock 14 = .ok (.ireturn, 1) ∧ True := Jvm.Free.DS.facts (code := cCls_knock) 0 [(.aload_n 0, 1), (.dup, 1), (.getfield 262, 3), (.iconst 1, 1), (.iadd, 1), (.putfield 262, 3), (.aload_n 0, 1), (.getfield 262, 3), (.ireturn, 1)] (by decide +kernel) (by decide +kernel)
theorem dCls_knock_0 : decode cCls_knock 0 = .ok (.aload_n 0, 1) := zfCls_knock_0.1
theorem dCls_knock_1 : decode cCls_knock 1 = .ok (.dup, 1) := zfCls_knock_0.2.1
theorem dCls_knock_2 : decode cCls_knock 2 = .ok (.getfield 262, 3) := zfCls_knock_0.2.2.1
theorem dCls_knock_5 : decode cCls_knock 5 = .ok (.iconst 1, 1) := zfCls_knock_0.2.2.2.1
theorem dCls_knock_6 : decode cCls_knock 6 = .ok (.iadd, 1) := zfCls_knock_0.2.2.2.2.1
theorem dCls_knock_7 : decode cCls_knock 7 = .ok (.putfield 262, 3) := zfCls_knock_0.2.2.2.2.2.1
theorem dCls_knock_10 : decode cCls_knock 10 = .ok (.aload_n 0, 1) := zfCls_knock_0.2.2.2.2.2.2.1
theorem dCls_knock_11 : decode cCls_knock 11 = .ok (.getfield 262, 3) := zfCls_knock_0.2.2.2.2.2.2.2.1
theorem dCls_knock_14 : decode cCls_knock 14 = .ok (.ireturn, 1) := zfCls_knock_0.2.2.2.2.2.2.2.2.1
theorem zfCls_isSound_0 : decode cCls_isSound 0 = .ok (.iconst 0, 1) ∧ decode cCls_isSound 1 = .ok (.istore_n 1, 1) ∧ decode cCls_isSound 2 = .ok (.iload_n 1, 1) ∧ decode cCls_isSound 3 = .ok (.iconst 4, 1) ∧ decode cCls_isSound 4 = .ok (.if_icmp .ge 58, 3) ∧ decode cCls_isSound 7 = .ok (.aload_n 0, 1) ∧ decode cCls_isSound 8 = .ok (.aload_n 0, 1) ∧ decode cCls_isSound 9 = .ok (.getfield 11, 3) ∧ decode cCls_isSound 12 = .ok (.iload_n 1, 1) ∧ decode cCls_isSound 13 = .ok (.aaload, 1) ∧ decode cCls_isSound 14 = .ok (.invokevirtual 265, 3) ∧ decode cCls_isSound 17 = .ok (.ifCond .ne 5, 3) ∧ decode cCls_isSound 20 = .ok (.iconst 0, 1) ∧ decode cCls_isSound 21 = .ok (.ireturn, 1) ∧ decode cCls_isSound 22 = .ok (.iload_n 1, 1) ∧ decode cCls_isSound 23 = .ok (.istore_n 2, 1) ∧ decode cCls_isSound 24 = .ok (.iload_n 2, 1) ∧ decode cCls_isSound 25 = .ok (.iconst 4, 1) ∧ decode cCls_isSound 26 = .ok (.if_icmp .ge 30, 3) ∧ decode cCls_isSound 29 = .ok (.aload_n 0, 1) ∧ decode cCls_isSound 30 = .ok (.aload_n 0, 1) ∧ decode cCls_isSound 31 = .ok (.getfield 11, 3) ∧ decode cCls_isSound 34 = .ok (.iload_n 1, 1) ∧ decode cCls_isSound 35 = .ok (.aaload, 1) ∧ decode cCls_isSound 36 = .ok (.aload_n 0, 1) ∧ decode cCls_isSound 37 = .ok (.getfield 11, 3) ∧ decode cCls_isSound 40 = .ok (.iload_n 2, 1) ∧ decode cCls_isSound 41 = .ok (.aaload, 1) ∧ decode cCls_isSound 42 = .ok (.invokevirtual 268, 3) ∧ decode cCls_isSound 45 = .ok (.ifCond .ne 5, 3) ∧ decode cCls_isSound 48 = .ok (.iconst 0, 1) ∧ decode cCls_isSound 49 = .ok (.ireturn, 1) ∧ True := Jvm.Free.DS.facts (code := cCls_isSound) 0 [(.iconst 0, 1), (.istore_n 1, 1), (.iload_n 1, 1), (.iconst 4, 1), (.if_icmp .ge 58, 3), (.aload_n 0, 1), (.aload_n 0, 1), (.getfield 11, 3), (.iload_n 1, 1), (.aaload, 1), (.invokevirtual 265, 3), (.ifCond .ne 5, 3), (.iconst 0, 1), (.ireturn, 1), (.iload_n 1, 1), (.istore_n 2, 1), (.iload_n 2, 1), (.iconst 4, 1), (.if_icmp .ge 30, 3), (.aload_n 0, 1), (.aload_n 0, 1), (.getfield 11, 3), (.iload_n 1, 1), (.aaload, 1), (.aload_n 0, 1), (.getfield 11, 3), (.iload_n 2, 1), (.aaload, 1), (.invokevirtual 268, 3), (.ifCond .ne 5, 3), (.iconst 0, 1), (.ireturn, 1)] (by decide +kernel) (by decide +kernel)
theorem dCls_isSound_0 : decode cCls_isSound 0 = .ok (.iconst 0, 1) := zfCls_isSound_0.1
theorem dCls_isSound_1 : decode cCls_isSound 1 = .ok (.istore_n 1, 1) := zfCls_isSound_0.2.1
theorem dCls_isSound_2 : decode cCls_isSound 2 = .ok (.iload_n 1, 1) := zfCls_isSound_0.2.2.1
theorem dCls_isSound_3 : decode cCls_isSound 3 = .ok (.iconst 4, 1) := zfCls_isSound_0.2.2.2.1
theorem dCls_isSound_4 : decode cCls_isSound 4 = .ok (.if_icmp .ge 58, 3) := zfCls_isSound_0.2.2.2.2.1
theorem dCls_isSound_7 : decode cCls_isSound 7 = .ok (.aload_n 0, 1) := zfCls_isSound_0.2.2.2.2.2.1
theorem dCls_isSound_8 : decode cCls_isSound 8 = .ok (.aload_n 0, 1) := zfCls_isSound_0.2.2.2.2.2.2.1
theorem dCls_isSound_9 : decode cCls_isSound 9 = .ok (.getfield 11, 3) := zfCls_isSound_0.2.2.2.2.2.2.2.1
theorem dCls_isSound_12 : decode cCls_isSound 12 = .ok (.iload_n 1, 1) := zfCls_isSound_0.2.2.2.2.2.2.2.2.1
theorem dCls_isSound_13 : decode cCls_isSound 13 = .ok (.aaload, 1) := zfCls_isSound_0.2.2.2.2.2.2.2.2.2.1
theorem dCls_isSound_14 : decode cCls_isSound 14 = .ok (.invokevirtual 265, 3) := zfCls_isSound_0.2.2.2.2.2.2.2.2.2.2.1
theorem dCls_isSound_17 : decode cCls_isSound 17 = .ok (.ifCond .ne 5, 3) := zfCls_isSound_0.2.2.2.2.2.2.2.2.2.2.2.1
theorem dCls_isSound_20 : decode cCls_isSound 20 = .ok (.iconst 0, 1) := zfCls_isSound_0.2.2.2.2.2.2.2.2.2.2.2.2.1
theorem dCls_isSound_21 : decode cCls_isSound 21 = .ok (.ireturn, 1) := zfCls_isSound_0.2.2.2.2.2.2.2.2.2.2.2.2.2.1
theorem dCls_isSound_22 : decode cCls_isSound 22 = .ok (.iload_n 1, 1) := zfCls_isSound_0.2.2.2.2.2.2.2.2.2.2.2.2.2.2.1
theorem dCls_isSound_23 : decode cCls_isSound 23 = .ok (.istore_n 2, 1) := zfCls_isSound_0.2.2.2.2.2.2.2.2.2.2.2.2.2.2.2.1
theorem dCls_isSound_24 : decode cCls_isSound 24 = .ok (.iload_n 2, 1) := zfCls_isSound_0.2.2.2.2.2.2.2.2.2.2.2.2.2.2.2.2.1
theorem dCls_isSound_25 : decode cCls_isSound 25 = .ok (.iconst 4, 1) := zfCls_isSound_0.2.2.2.2.2.2.2.2.2.2.2.2.2.2.2.2.2.1
theorem dCls_isSound_26 : decode cCls_isSound 26 = .ok (.if_icmp .ge 30, 3) := zfCls_isSound_0.2.2.2.2.2.2.2.2.2.2.2.2.2.2.2.2.2.2.1
theorem dCls_isSound_29 : decode cCls_isSound 29 = .ok (.aload_n 0, 1) := zfCls_isSound_0.2.2.2.2.2.2.2.2.2.2.2.2.2.2.2.2.2.2.2.1
theorem dCls_isSound_30 : decode cCls_isSound 30 = .ok (.aload_n 0, 1) := zfCls_isSound_0.2.2.2.2.2.2.2.2.2.2.2.2.2.2.2.2.2.2.2.2.1
theorem dCls_isSound_31 : decode cCls_isSound 31 = .ok (.getfield 11, 3) := zfCls_isSound_0.2.2.2.2.2.2.2.2.2.2.2.2.2.2.2.2.2.2.2.2.2.1
theorem dCls_isSound_34 : decode cCls_isSound 34 = .ok (.iload_n 1, 1) := zfCls_isSound_0.2.2.2.2.2.2.2.2.2.2.2.2.2.2.2.2.2.2.2.2.2.2.1
theorem dCls_isSound_35 : decode cCls_isSound 35 = .ok (.aaload, 1) := zfCls_isSound_0.2.2.2.2.2.2.2.2.2.2.2.2.2.2.2.2.2.2.2.2.2.2.2.1
theorem dCls_isSound_36 : decode cCls_isSound 36 = .ok (.aload_n 0, 1) := zfCls_isSound_0.2.2.2.2.2.2.2.2.2.2.2.2.2.2.2.2.2.2.2.2.2.2.2.2.1
theorem dCls_isSound_37 : decode cCls_isSound 37 = .ok (.getfield 11, 3) := zfCls_isSound_0.2.2.2.2.2.2.2.2.2.2.2.2.2.2.2.2.2.2.2.2.2.2.2.2.2.1
theorem dCls_isSound_40 : decode cCls_isSound 40 = .ok (.iload_n 2, 1) := zfCls_isSound_0.2.2.2.2.2.2.2.2.2.2.2.2.2.2.2.2.2.2.2.2.2.2.2.2.2.2.1
theorem dCls_isSound_41 : decode cCls_isSound 41 = .ok (.aaload, 1) := zfCls_isSound_0.2.2.2.2.2.2.2.2.2.2.2.2.2.2.2.2.2.2.2.2.2.2.2.2.2.2.2.1
theorem dCls_isSound_42 : decode cCls_isSound 42 = .ok (.invokevirtual 268, 3) := zfCls_isSound_0.2.2.2.2.2.2.2.2.2.2.2.2.2.2.2.2.2.2.2.2.2.2.2.2.2.2.2.2.1
theorem dCls_isSound_45 : decode cCls_isSound 45 = .ok (.ifCond .ne 5, 3) := zfCls_isSound_0.2.2.2.2.2.2.2.2.2.2.2.2.2.2.2.2.2.2.2.2.2.2.2.2.2.2.2.2.2.1
theorem dCls_isSound_48 : decode cCls_isSound 48 = .ok (.iconst 0, 1) := zfCls_isSound_0.2.2.2.2.2.2.2.2.2.2.2.2.2.2.2.2.2.2.2.2.2.2.2.2.2.2.2.2.2.2.1
theorem dCls_isSound_49 : decode cCls_isSound 49 = .ok (.ireturn, 1) := zfCls_isSound_0.2.2.2.2.2.2.2.2.2.2.2.2.2.2.2.2.2.2.2.2.2.2.2.2.2.2.2.2.2.2.2.1
theorem zfCls_isSound_50 : decode cCls_isSound 50 = .ok (.iinc 2 1, 3) ∧ decode cCls_isSound 53 = .ok (.goto (-29), 3) ∧ decode cCls_isSound 56 = .ok (.iinc 1 1, 3) ∧ decode cCls_isSound 59 = .ok (.goto (-57), 3) ∧ decode cCls_isSound 62 = .ok (.aload_n 0, 1) ∧ decode cCls_isSound 63 = .ok (.invokevirtual 271, 3) ∧ decode cCls_isSound 66 = .ok (.ireturn, 1) ∧ True := Jvm.Free.DS.facts (code := cCls_isSound) 50 [(.iinc 2 1, 3), (.goto (-29), 3), (.iinc 1 1, 3), (.goto (-57), 3), (.aload_n 0, 1), (.invokevirtual 271, 3), (.ireturn, 1)] (by decide +kernel) (by decide +kernel)
theorem dCls_isSound_50 : decode cCls_isSound 50 = .ok (.iinc 2 1, 3) := zfCls_isSound_50.1
theorem dCls_isSound_53 : decode cCls_isSound 53 = .ok (.goto (-29), 3) := zfCls_isSound_50.2.1
theorem dCls_isSound_56 : decode cCls_isSound 56 = .ok (.iinc 1 1, 3) := zfCls_isSound_50.2.2.1
theorem dCls_isSound_59 : decode cCls_isSound 59 = .ok (.goto (-57), 3) := zfCls_isSound_50.2.2.2.1
theorem dCls_isSound_62 : decode cCls_isSound 62 = .ok (.aload_n 0, 1) := zfCls_isSound_50.2.2.2.2.1
theorem dCls_isSound_63 : decode cCls_isSound 63 = .ok (.invokevirtual 271, 3) := zfCls_isSound_50.2.2.2.2.2.1
theorem dCls_isSound_66 : decode cCls_isSound 66 = .ok (.ireturn, 1) := zfCls_isSound_50.2.2.2.2.2.2.1
theorem zfCls_digest_0 : decode cCls_digest 0 = .ok (.ldc2_w 274, 3) ∧ decode cCls_digest 3 = .ok (.lstore_n 1, 1) ∧ decode cCls_digest 4 = .ok (.iconst 0, 1) ∧ decode cCls_digest 5 = .ok (.istore_n 3, 1) ∧ decode cCls_digest 6 = .ok (.iload_n 3, 1) ∧ decode cCls_digest 7 = .ok (.iconst 4, 1) ∧ decode cCls_digest 8 = .ok (.if_icmp .gt 20, 3) ∧ decode cCls_digest 11 = .ok (.lload_n 1, 1) ∧ decode cCls_digest 12 = .ok (.aload_n 0, 1) ∧ decode cCls_digest 13 = .ok (.iload_n 3, 1) ∧ decode cCls_digest 14 = .ok (.invokevirtual 276, 3) ∧ decode cCls_digest 17 = .ok (.i2l, 1) ∧ decode cCls_digest 18 = .ok (.invokestatic 279, 3) ∧ decode cCls_digest 21 = .ok (.lstore_n 1, 1) ∧ decode cCls_digest 22 = .ok (.iinc 3 1, 3) ∧ decode cCls_digest 25 = .ok (.goto (-19), 3) ∧ decode cCls_digest 28 = .ok (.iconst 0, 1) ∧ decode cCls_digest 29 = .ok (.istore_n 3, 1) ∧ decode cCls_digest 30 = .ok (.iload_n 3, 1) ∧ decode cCls_digest 31 = .ok (.iconst 4, 1) ∧ decode cCls_digest 32 = .ok (.if_icmp .ge 20, 3) ∧ decode cCls_digest 35 = .ok (.lload_n 1, 1) ∧ decode cCls_digest 36 = .ok (.aload_n 0, 1) ∧ decode cCls_digest 37 = .ok (.getfield 11, 3) ∧ decode cCls_digest 40 = .ok (.iload_n 3, 1) ∧ decode cCls_digest 41 = .ok (.aaload, 1) ∧ decode cCls_digest 42 = .ok (.invokestatic 283, 3) ∧ decode cCls_digest 45 = .ok (.lstore_n 1, 1) ∧ decode cCls_digest 46 = .ok (.iinc 3 1, 3) ∧ decode cCls_digest 49 = .ok (.goto (-19), 3) ∧ decode cCls_digest 52 = .ok (.iconst 0, 1) ∧ decode cCls_digest 53 = .ok (.istore_n 3, 1) ∧ True := Jvm.Free.DS.facts (code := cCls_digest) 0 [(.ldc2_w 274, 3), (.lstore_n 1, 1), (.iconst 0, 1), (.istore_n 3, 1), (.iload_n 3, 1), (.iconst 4, 1), (.if_icmp .gt 20, 3), (.lload_n 1, 1), (.aload_n 0, 1), (.iload_n 3, 1), (.invokevirtual 276, 3), (.i2l, 1), (.invokestatic 279, 3), (.lstore_n 1, 1), (.iinc 3 1, 3), (.goto (-19), 3), (.iconst 0, 1), (.istore_n 3, 1), (.iload_n 3, 1), (.iconst 4, 1), (.if_icmp .ge 20, 3), (.lload_n 1, 1), (.aload_n 0, 1), (.getfield 11, 3), (.iload_n 3, 1), (.aaload, 1), (.invokestatic 283, 3), (.lstore_n 1, 1), (.iinc 3 1, 3), (.goto (-19), 3), (.iconst 0, 1), (.istore_n 3, 1)] (by decide +kernel) (by decide +kernel)
theorem dCls_digest_0 : decode cCls_digest 0 = .ok (.ldc2_w 274, 3) := zfCls_digest_0.1
theorem dCls_digest_3 : decode cCls_digest 3 = .ok (.lstore_n 1, 1) := zfCls_digest_0.2.1
theorem dCls_digest_4 : decode cCls_digest 4 = .ok (.iconst 0, 1) := zfCls_digest_0.2.2.1
theorem dCls_digest_5 : decode cCls_digest 5 = .ok (.istore_n 3, 1) := zfCls_digest_0.2.2.2.1
theorem dCls_digest_6 : decode cCls_digest 6 = .ok (.iload_n 3, 1) := zfCls_digest_0.2.2.2.2.1
theorem dCls_digest_7 : decode cCls_digest 7 = .ok (.iconst 4, 1) := zfCls_digest_0.2.2.2.2.2.1
theorem dCls_digest_8 : decode cCls_digest 8 = .ok (.if_icmp .gt 20, 3) := zfCls_digest_0.2.2.2.2.2.2.1
theorem dCls_digest_11 : decode cCls_digest 11 = .ok (.lload_n 1, 1) := zfCls_digest_0.2.2.2.2.2.2.2.1
theorem dCls_digest_12 : decode cCls_digest 12 = .ok (.aload_n 0, 1) := zfCls_digest_0.2.2.2.2.2.2.2.2.1
theorem dCls_digest_13 : decode cCls_digest 13 = .ok (.iload_n 3, 1) := zfCls_digest_0.2.2.2.2.2.2.2.2.2.1
theorem dCls_digest_14 : decode cCls_digest 14 = .ok (.invokevirtual 276, 3) := zfCls_digest_0.2.2.2.2.2.2.2.2.2.2.1
theorem dCls_digest_17 : decode cCls_digest 17 = .ok (.i2l, 1) := zfCls_digest_0.2.2.2.2.2.2.2.2.2.2.2.1
theorem dCls_digest_18 : decode cCls_digest 18 = .ok (.invokestatic 279, 3) := zfCls_digest_0.2.2.2.2.2.2.2.2.2.2.2.2.1
theorem dCls_digest_21 : decode cCls_digest 21 = .ok (.lstore_n 1, 1) := zfCls_digest_0.2.2.2.2.2.2.2.2.2.2.2.2.2.1
theorem dCls_digest_22 : decode cCls_digest 22 = .ok (.iinc 3 1, 3) := zfCls_digest_0.2.2.2.2.2.2.2.2.2.2.2.2.2.2.1
theorem dCls_digest_25 : decode cCls_digest 25 = .ok (.goto (-19), 3) := zfCls_digest_0.2.2.2.2.2.2.2.2.2.2.2.2.2.2.2.1
theorem dCls_digest_28 : decode cCls_digest 28 = .ok (.iconst 0, 1) := zfCls_digest_0.2.2.2.2.2.2.2.2.2.2.2.2.2.2.2.2.1
theorem dCls_digest_29 : decode cCls_digest 29 = .ok (.istore_n 3, 1) := zfCls_digest_0.2.2.2.2.2.2.2.2.2.2.2.2.2.2.2.2.2.1
theorem dCls_digest_30 : decode cCls_digest 30 = .ok (.iload_n 3, 1) := zfCls_digest_0.2.2.2.2.2.2.2.2.2.2.2.2.2.2.2.2.2.2.1
theorem dCls_digest_31 : decode cCls_digest 31 = .ok (.iconst 4, 1) := zfCls_digest_0.2.2.2.2.2.2.2.2.2.2.2.2.2.2.2.2.2.2.2.1
theorem dCls_digest_32 : decode cCls_digest 32 = .ok (.if_icmp .ge 20, 3) := zfCls_digest_0.2.2.2.2.2.2.2.2.2.2.2.2.2.2.2.2.2.2.2.2.1
theorem dCls_digest_35 : decode cCls_digest 35 = .ok (.lload_n 1, 1) := zfCls_digest_0.2.2.2.2.2.2.2.2.2.2.2.2.2.2.2.2.2.2.2.2.2.1
theorem dCls_digest_36 : decode cCls_digest 36 = .ok (.aload_n 0, 1) := zfCls_digest_0.2.2.2.2.2.2.2.2.2.2.2.2.2.2.2.2.2.2.2.2.2.2.1
theorem dCls_digest_37 : decode cCls_digest 37 = .ok (.getfield 11, 3) := zfCls_digest_0.2.2.2.2.2.2.2.2.2.2.2.2.2.2.2.2.2.2.2.2.2.2.2.1
theorem dCls_digest_40 : decode cCls_digest 40 = .ok (.iload_n 3, 1) := zfCls_digest_0.2.2.2.2.2.2.2.2.2.2.2.2.2.2.2.2.2.2.2.2.2.2.2.2.1
theorem dCls_digest_41 : decode cCls_digest 41 = .ok (.aaload, 1) := zfCls_digest_0.2.2.2.2.2.2.2.2.2.2.2.2.2.2.2.2.2.2.2.2.2.2.2.2.2.1
theorem dCls_digest_42 : decode cCls_digest 42 = .ok (.invokestatic 283, 3) := zfCls_digest_0.2.2.2.2.2.2.2.2.2.2.2.2.2.2.2.2.2.2.2.2.2.2.2.2.2.2.1
theorem dCls_digest_45 : decode cCls_digest 45 = .ok (.lstore_n 1, 1) := zfCls_digest_0.2.2.2.2.2.2.2.2.2.2.2.2.2.2.2.2.2.2.2.2.2.2.2.2.2.2.2.1
theorem dCls_digest_46 : decode cCls_digest 46 = .ok (.iinc 3 1, 3) := zfCls_digest_0.2.2.2.2.2.2.2.2.2.2.2.2.2.2.2.2.2.2.2.2.2.2.2.2.2.2.2.2.1
theorem dCls_digest_49 : decode cCls_digest 49 = .ok (.goto (-19), 3) := zfCls_digest_0.2.2.2.2.2.2.2.2.2.2.2.2.2.2.2.2.2.2.2.2.2.2.2.2.2.2.2.2.2.1
theorem dCls_digest_52 : decode cCls_digest 52 = .ok (.iconst 0, 1) := zfCls_digest_0.2.2.2.2.2.2.2.2.2.2.2.2.2.2.2.2.2.2.2.2.2.2.2.2.2.2.2.2.2.2.1
theorem dCls_digest_53 : decode cCls_digest 53 = .ok (.istore_n 3, 1) := zfCls_digest_0.2.2.2.2.2.2.2.2.2.2.2.2.2.2.2.2.2.2.2.2.2.2.2.2.2.2.2.2.2.2.2.1
theorem zfCls_digest_54 : decode cCls_digest 54 = .ok (.iload_n 3, 1) ∧ decode cCls_digest 55 = .ok (.iconst 3, 1) ∧ decode cCls_digest 56 = .ok (.if_icmp .ge 37, 3) ∧ decode cCls_digest 59 = .ok (.iconst 0, 1) ∧ decode cCls_digest 60 = .ok (.istore 4, 2) ∧ decode cCls_digest 62 = .ok (.iload 4, 2) ∧ decode cCls_digest 64 = .ok (.iconst 5, 1) ∧ decode cCls_digest 65 = .ok (.if_icmp .gt 22, 3) ∧ decode cCls_digest 68 = .ok (.lload_n 1, 1) ∧ decode cCls_digest 69 = .ok (.aload_n 0, 1) ∧ decode cCls_digest 70 = .ok (.iload_n 3, 1) ∧ decode cCls_digest 71 = .ok (.iload 4, 2) ∧ decode cCls_digest 73 = .ok (.invokevirtual 287, 3) ∧ decode cCls_digest 76 = .ok (.i2l, 1) ∧ decode cCls_digest 77 = .ok (.invokestatic 279, 3) ∧ decode cCls_digest 80 = .ok (.lstore_n 1, 1) ∧ decode cCls_digest 81 = .ok (.iinc 4 1, 3) ∧ decode cCls_digest 84 = .ok (.goto (-22), 3) ∧ decode cCls_digest 87 = .ok (.iinc 3 1, 3) ∧ decode cCls_digest 90 = .ok (.goto (-36), 3) ∧ decode cCls_digest 93 = .ok (.iconst 0, 1) ∧ decode cCls_digest 94 = .ok (.istore_n 3, 1) ∧ decode cCls_digest 95 = .ok (.iload_n 3, 1) ∧ decode cCls_digest 96 = .ok (.iconst 3, 1) ∧ decode cCls_digest 97 = .ok (.if_icmp .gt 20, 3) ∧ decode cCls_digest 100 = .ok (.lload_n 1, 1) ∧ decode cCls_digest 101 = .ok (.aload_n 0, 1) ∧ decode cCls_digest 102 = .ok (.iload_n 3, 1) ∧ decode cCls_digest 103 = .ok (.invokevirtual 290, 3) ∧ decode cCls_digest 106 = .ok (.i2l, 1) ∧ decode cCls_digest 107 = .ok (.invokestatic 279, 3) ∧ decode cCls_digest 110 = .ok (.lstore_n 1, 1) ∧ True := Jvm.Free.DS.facts (code := cCls_digest) 54 [(.iload_n 3, 1), (.iconst 3, 1), (.if_icmp .ge 37, 3), (.iconst 0, 1), (.istore 4, 2), (.iload 4, 2), (.iconst 5, 1), (.if_icmp .gt 22, 3), (.lload_n 1, 1), (.aload_n 0, 1), (.iload_n 3, 1), (.iload 4, 2), (.invokevirtual 287, 3), (.i2l, 1), (.invokestatic 279, 3), (.lstore_n 1, 1), (.iinc 4 1, 3), (.goto (-22), 3), (.iinc 3 1, 3), (.goto (-36), 3), (.iconst 0, 1), (.istore_n 3, 1), (.iload_n 3, 1), (.iconst 3, 1), (.if_icmp .gt 20, 3), (.lload_n 1, 1), (.aload_n 0, 1), (.iload_n 3, 1), (.invokevirtual 290, 3), (.i2l, 1), (.invokestatic 279, 3), (.lstore_n 1, 1)] (by decide +kernel) (by decide +kernel)
theorem dCls_digest_54 : decode cCls_digest 54 = .ok (.iload_n 3, 1) := zfCls_digest_54.1
theorem dCls_digest_55 : decode cCls_digest 55 = .ok (.iconst 3, 1) := zfCls_digest_54.2.1
theorem dCls_digest_56 : decode cCls_digest 56 = .ok (.if_icmp .ge 37, 3) := zfCls_digest_54.2.2.1
theorem dCls_digest_59 : decode cCls_digest 59 = .ok (.iconst 0, 1) := zfCls_digest_54.2.2.2.1
theorem dCls_digest_60 : decode cCls_digest 60 = .ok (.istore 4, 2) := zfCls_digest_54.2.2.2.2.1
theorem dCls_digest_62 : decode cCls_digest 62 = .ok (.iload 4, 2) := zfCls_digest_54.2.2.2.2.2.1
theorem dCls_digest_64 : decode cCls_digest 64 = .ok (.iconst 5, 1) := zfCls_digest_54.2.2.2.2.2.2.1
theorem dCls_digest_65 : decode cCls_digest 65 = .ok (.if_icmp .gt 22, 3) := zfCls_digest_54.2.2.2.2.2.2.2.1
theorem dCls_digest_68 : decode cCls_digest 68 = .ok (.lload_n 1, 1) := zfCls_digest_54.2.2.2.2.2.2.2.2.1
theorem dCls_digest_69 : decode cCls_digest 69 = .ok (.aload_n 0, 1) := zfCls_digest_54.2.2.2.2.2.2.2.2.2.1
theorem dCls_digest_70 : decode cCls_digest 70 = .ok (.iload_n 3, 1) := zfCls_digest_54.2.2.2.2.2.2.2.2.2.2.1
theorem dCls_digest_71 : decode cCls_digest 71 = .ok (.iload 4, 2) := zfCls_digest_54.2.2.2.2.2.2.2.2.2.2.2.1
theorem dCls_digest_73 : decode cCls_digest 73 = .ok (.invokevirtual 287, 3) := zfCls_digest_54.2.2.2.2.2.2.2.2.2.2.2.2.1
theorem dCls_digest_76 : decode cCls_digest 76 = .ok (.i2l, 1) := zfCls_digest_54.2.2.2.2.2.2.2.2.2.2.2.2.2.1
theorem dCls_digest_77 : decode cCls_digest 77 = .ok (.invokestatic 279, 3) := zfCls_digest_54.2.2.2.2.2.2.2.2.2.2.2.2.2.2.1
theorem dCls_digest_80 : decode cCls_digest 80 = .ok (.lstore_n 1, 1) := zfCls_digest_54.2.2.2.2.2.2.2.2.2.2.2.2.2.2.2.1
theorem dCls_digest_81 : decode cCls_digest 81 = .ok (.iinc 4 1, 3) := zfCls_digest_54.2.2.2.2.2.2.2.2.2.2.2.2.2.2.2.2.1
theorem dCls_digest_84 : decode cCls_digest 84 = .ok (.goto (-22), 3) := zfCls_digest_54.2.2.2.2.2.2.2.2.2.2.2.2.2.2.2.2.2.1
theorem dCls_digest_87 : decode cCls_digest 87 = .ok (.iinc 3 1, 3) := zfCls_digest_54.2.2.2.2.2.2.2.2.2.2.2.2.2.2.2.2.2.2.1
theorem dCls_digest_90 : decode cCls_digest 90 = .ok (.goto (-36), 3) := zfCls_digest_54.2.2.2.2.2.2.2.2.2.2.2.2.2.2.2.2.2.2.2.1
theorem dCls_digest_93 : decode cCls_digest 93 = .ok (.iconst 0, 1) := zfCls_digest_54.2.2.2.2.2.2.2.2.2.2.2.2.2.2.2.2.2.2.2.2.1
theorem dCls_digest_94 : decode cCls_digest 94 = .ok (.istore_n 3, 1) := zfCls_digest_54.2.2.2.2.2.2.2.2.2.2.2.2.2.2.2.2.2.2.2.2.2.1
theorem dCls_digest_95 : decode cCls_digest 95 = .ok (.iload_n 3, 1) := zfCls_digest_54.2.2.2.2.2.2.2.2.2.2.2.2.2.2.2.2.2.2.2.2.2.2.1
theorem dCls_digest_96 : decode cCls_digest 96 = .ok (.iconst 3, 1) := zfCls_digest_54.2.2.2.2.2.2.2.2.2.2.2.2.2.2.2.2.2.2.2.2.2.2.2.1
theorem dCls_digest_97 : decode cCls_digest 97 = .ok (.if_icmp .gt 20, 3) := zfCls_digest_54.2.2.2.2.2.2.2.2.2.2.2.2.2.2.2.2.2.2.2.2.2.2.2.2.1
theorem dCls_digest_100 : decode cCls_digest 100 = .ok (.lload_n 1, 1) := zfCls_digest_54.2.2.2.2.2.2.2.2.2.2.2.2.2.2.2.2.2.2.2.2.2.2.2.2.2.1
theorem dCls_digest_101 : decode cCls_digest 101 = .ok (.aload_n 0, 1) := zfCls_digest_54.2.2.2.2.2.2.2.2.2.2.2.2.2.2.2.2.2.2.2.2.2.2.2.2.2.2.1
theorem dCls_digest_102 : decode cCls_digest 102 = .ok (.iload_n 3, 1) := zfCls_digest_54.2.2.2.2.2.2.2.2.2.2.2.2.2.2.2.2.2.2.2.2.2.2.2.2.2.2.2.1
theorem dCls_digest_103 : decode cCls_digest 103 = .ok (.invokevirtual 290, 3) := zfCls_digest_54.2.2.2.2.2.2.2.2.2.2.2.2.2.2.2.2.2.2.2.2.2.2.2.2.2.2.2.2.1
theorem dCls_digest_106 : decode cCls_digest 106 = .ok (.i2l, 1) := zfCls_digest_54.2.2.2.2.2.2.2.2.2.2.2.2.2.2.2.2.2.2.2.2.2.2.2.2.2.2.2.2.2.1
theorem dCls_digest_107 : decode cCls_digest 107 = .ok (.invokestatic 279, 3) := zfCls_digest_54.2.2.2.2.2.2.2.2.2.2.2.2.2.2.2.2.2.2.2.2.2.2.2.2.2.2.2.2.2.2.1
theorem dCls_digest_110 : decode cCls_digest 110 = .ok (.lstore_n 1, 1) := zfCls_digest_54.2.2.2.2.2.2.2.2.2.2.2.2.2.2.2.2.2.2.2.2.2.2.2.2.2.2.2.2.2.2.2.1
theorem zfCls_digest_111 : decode cCls_digest 111 = .ok (.iinc 3 1, 3) ∧ decode cCls_digest 114 = .ok (.goto (-19), 3) ∧ decode cCls_digest 117 = .ok (.lload_n 1, 1) ∧ decode cCls_digest 118 = .ok (.aload_n 0, 1) ∧ decode cCls_digest 119 = .ok (.getfield 24, 3) ∧ decode cCls_digest 122 = .ok (.getfield 234, 3) ∧ decode cCls_digest 125 = .ok (.invokestatic 293, 3) ∧ decode cCls_digest 128 = .ok (.lstore_n 1, 1) ∧ decode cCls_digest 129 = .ok (.iconst 0, 1) ∧ decode cCls_digest 130 = .ok (.istore_n 3, 1) ∧ decode cCls_digest 131 = .ok (.iload_n 3, 1) ∧ decode cCls_digest 132 = .ok (.iconst 4, 1) ∧ decode cCls_digest 133 = .ok (.if_icmp .ge 21, 3) ∧ decode cCls_digest 136 = .ok (.aload_n 0, 1) ∧ decode cCls_digest 137 = .ok (.lload_n 1, 1) ∧ decode cCls_digest 138 = .ok (.aload_n 0, 1) ∧ decode cCls_digest 139 = .ok (.getfield 11, 3) ∧ decode cCls_digest 142 = .ok (.iload_n 3, 1) ∧ decode cCls_digest 143 = .ok (.aaload, 1) ∧ decode cCls_digest 144 = .ok (.invokevirtual 296, 3) ∧ decode cCls_digest 147 = .ok (.lstore_n 1, 1) ∧ decode cCls_digest 148 = .ok (.iinc 3 1, 3) ∧ decode cCls_digest 151 = .ok (.goto (-20), 3) ∧ decode cCls_digest 154 = .ok (.lload_n 1, 1) ∧ decode cCls_digest 155 = .ok (.aload_n 0, 1) ∧ decode cCls_digest 156 = .ok (.invokevirtual 299, 3) ∧ decode cCls_digest 159 = .ok (.invokestatic 192, 3) ∧ decode cCls_digest 162 = .ok (.i2l, 1) ∧ decode cCls_digest 163 = .ok (.invokestatic 279, 3) ∧ decode cCls_digest 166 = .ok (.lreturn, 1) ∧ True := Jvm.Free.DS.facts (code := cCls_digest) 111 [(.iinc 3 1, 3), (.goto (-19), 3), (.lload_n 1, 1), (.aload_n 0, 1), (.getfield 24, 3), (.getfield 234, 3), (.invokestatic 293, 3), (.lstore_n 1, 1), (.iconst 0, 1), (.istore_n 3, 1), (.iload_n 3, 1), (.iconst 4, 1), (.if_icmp .ge 21, 3), (.aload_n 0, 1), (.lload_n 1, 1), (.aload_n 0, 1), (.getfield 11, 3), (.iload_n 3, 1), (.aaload, 1), (.invokevirtual 296, 3), (.lstore_n 1, 1), (.iinc 3 1, 3), (.goto (-20), 3), (.lload_n 1, 1), (.aload_n 0, 1), (.invokevirtual 299, 3), (.invokestatic 192, 3), (.i2l, 1), (.invokestatic 279, 3), (.lreturn, 1)] (by decide +kernel) (by decide +kernel)
theorem dCls_digest_111 : decode cCls_digest 111 = .ok (.iinc 3 1, 3) := zfCls_digest_111.1
theorem dCls_digest_114 : decode cCls_digest 114 = .ok (.goto (-19), 3) := zfCls_digest_111.2.1
theorem dCls_digest_117 : decode cCls_digest 117 = .ok (.lload_n 1, 1) := zfCls_digest_111.2.2.1
theorem dCls_digest_118 : decode cCls_digest 118 = .ok (.aload_n 0, 1) := zfCls_digest_111.2.2.2.1
theorem dCls_digest_119 : decode cCls_digest 119 = .ok (.getfield 24, 3) := zfCls_digest_111.2.2.2.2.1
theorem dCls_digest_122 : decode cCls_digest 122 = .ok (.getfield 234, 3) := zfCls_digest_111.2.2.2.2.2.1
theorem dCls_digest_125 : decode cCls_digest 125 = .ok (.invokestatic 293, 3) := zfCls_digest_111.2.2.2.2.2.2.1
theorem dCls_digest_128 : decode cCls_digest 128 = .ok (.lstore_n 1, 1) := zfCls_digest_111.2.2.2.2.2.2.2.1
theorem dCls_digest_129 : decode cCls_digest 129 = .ok (.iconst 0, 1) := zfCls_digest_111.2.2.2.2.2.2.2.2.1
theorem dCls_digest_130 : decode cCls_digest 130 = .ok (.istore_n 3, 1) := zfCls_digest_111.2.2.2.2.2.2.2.2.2.1
theorem dCls_digest_131 : decode cCls_digest 131 = .ok (.iload_n 3, 1) := zfCls_digest_111.2.2.2.2.2.2.2.2.2.2.1
theorem dCls_digest_132 : decode cCls_digest 132 = .ok (.iconst 4, 1) := zfCls_digest_111.2.2.2.2.2.2.2.2.2.2.2.1
theorem dCls_digest_133 : decode cCls_digest 133 = .ok (.if_icmp .ge 21, 3) := zfCls_digest_111.2.2.2.2.2.2.2.2.2.2.2.2.1
theorem dCls_digest_136 : decode cCls_digest 136 = .ok (.aload_n 0, 1) := zfCls_digest_111.2.2.2.2.2.2.2.2.2.2.2.2.2.1
theorem dCls_digest_137 : decode cCls_digest 137 = .ok (.lload_n 1, 1) := zfCls_digest_111.2.2.2.2.2.2.2.2.2.2.2.2.2.2.1
theorem dCls_digest_138 : decode cCls_digest 138 = .ok (.aload_n 0, 1) := zfCls_digest_111.2.2.2.2.2.2.2.2.2.2.2.2.2.2.2.1
theorem dCls_digest_139 : decode cCls_digest 139 = .ok (.getfield 11, 3) := zfCls_digest_111.2.2.2.2.2.2.2.2.2.2.2.2.2.2.2.2.1
theorem dCls_digest_142 : decode cCls_digest 142 = .ok (.iload_n 3, 1) := zfCls_digest_111.2.2.2.2.2.2.2.2.2.2.2.2.2.2.2.2.2.1
theorem dCls_digest_143 : decode cCls_digest 143 = .ok (.aaload, 1) := zfCls_digest_111.2.2.2.2.2.2.2.2.2.2.2.2.2.2.2.2.2.2.1
theorem dCls_digest_144 : decode cCls_digest 144 = .ok (.invokevirtual 296, 3) := zfCls_digest_111.2.2.2.2.2.2.2.2.2.2.2.2.2.2.2.2.2.2.2.1
theorem dCls_digest_147 : decode cCls_digest 147 = .ok (.lstore_n 1, 1) := zfCls_digest_111.2.2.2.2.2.2.2.2.2.2.2.2.2.2.2.2.2.2.2.2.1
theorem dCls_digest_148 : decode cCls_digest 148 = .ok (.iinc 3 1, 3) := zfCls_digest_111.2.2.2.2.2.2.2.2.2.2.2.2.2.2.2.2.2.2.2.2.2.1
theorem dCls_digest_151 : decode cCls_digest 151 = .ok (.goto (-20), 3) := zfCls_digest_111.2.2.2.2.2.2.2.2.2.2.2.2.2.2.2.2.2.2.2.2.2.2.1
theorem dCls_digest_154 : decode cCls_digest 154 = .ok (.lload_n 1, 1) := zfCls_digest_111.2.2.2.2.2.2.2.2.2.2.2.2.2.2.2.2.2.2.2.2.2.2.2.1
theorem dCls_digest_155 : decode cCls_digest 155 = .ok (.aload_n 0, 1) := zfCls_digest_111.2.2.2.2.2.2.2.2.2.2.2.2.2.2.2.2.2.2.2.2.2.2.2.2.1
theorem dCls_digest_156 : decode cCls_digest 156 = .ok (.invokevirtual 299, 3) := zfCls_digest_111.2.2.2.2.2.2.2.2.2.2.2.2.2.2.2.2.2.2.2.2.2.2.2.2.2.1
theorem dCls_digest_159 : decode cCls_digest 159 = .ok (.invokestatic 192, 3) := zfCls_digest_111.2.2.2.2.2.2.2.2.2.2.2.2.2.2.2.2.2.2.2.2.2.2.2.2.2.2.1
theorem dCls_digest_162 : decode cCls_digest 162 = .ok (.i2l, 1) := zfCls_digest_111.2.2.2.2.2.2.2.2.2.2.2.2.2.2.2.2.2.2.2.2.2.2.2.2.2.2.2.1
theorem dCls_digest_163 : decode cCls_digest 163 = .ok (.invokestatic 279, 3) := zfCls_digest_111.2.2.2.2.2.2.2.2.2.2.2.2.2.2.2.2.2.2.2.2.2.2.2.2.2.2.2.2.1
theorem dCls_digest_166 : decode cCls_digest 166 = .ok (.lreturn, 1) := zfCls_digest_111.2.2.2.2.2.2.2.2.2.2.2.2.2.2.2.2.2.2.2.2.2.2.2.2.2.2.2.2.2.1
theorem zfCls_listAt_0 : decode cCls_listAt 0 = .ok (.iload_n 1, 1) ∧ decode cCls_listAt 1 = .ok (.ifCond .lt 8, 3) ∧ decode cCls_listAt 4 = .ok (.iload_n 1, 1) ∧ decode cCls_listAt 5 = .ok (.iconst 4, 1) ∧ decode cCls_listAt 6 = .ok (.if_icmp .lt 14, 3) ∧ decode cCls_listAt 9 = .ok (.new 302, 3) ∧ decode cCls_listAt 12 = .ok (.dup, 1) ∧ decode cCls_listAt 13 = .ok (.ldc_w 304, 3) ∧ decode cCls_listAt 16 = .ok (.invokespecial 306, 3) ∧ decode cCls_listAt 19 = .ok (.athrow, 1) ∧ decode cCls_listAt 20 = .ok (.aload_n 0, 1) ∧ decode cCls_listAt 21 = .ok (.getfield 11, 3) ∧ decode cCls_listAt 24 = .ok (.iload_n 1, 1) ∧ decode cCls_listAt 25 = .ok (.aaload, 1) ∧ decode cCls_listAt 26 = .ok (.areturn, 1) ∧ True := Jvm.Free.DS.facts (code := cCls_listAt) 0 [(.iload_n 1, 1), (.ifCond .lt 8, 3), (.iload_n 1, 1), (.iconst 4, 1), (.if_icmp .lt 14, 3), (.new 302, 3), (.dup, 1), (.ldc_w 304, 3), (.invokespecial 306, 3), (.athrow, 1), (.aload_n 0, 1), (.getfield 11, 3), (.iload_n 1, 1), (.aaload, 1), (.areturn, 1)] (by decide +kernel) (by decide +kernel)
theorem dCls_listAt_0 : decode cCls_listAt 0 = .ok (.iload_n 1, 1) := zfCls_listAt_0.1
theorem dCls_listAt_1 : decode cCls_listAt 1 = .ok (.ifCond .lt 8, 3) := zfCls_listAt_0.2.1
theorem dCls_listAt_4 : decode cCls_listAt 4 = .ok (.iload_n 1, 1) := zfCls_listAt_0.2.2.1
theorem dCls_listAt_5 : decode cCls_listAt 5 = .ok (.iconst 4, 1) := zfCls_listAt_0.2.2.2.1
theorem dCls_listAt_6 : decode cCls_listAt 6 = .ok (.if_icmp .lt 14, 3) := zfCls_listAt_0.2.2.2.2.1
theorem dCls_listAt_9 : decode cCls_listAt 9 = .ok (.new 302, 3) := zfCls_listAt_0.2.2.2.2.2.1
theorem dCls_listAt_12 : decode cCls_listAt 12 = .ok (.dup, 1) := zfCls_listAt_0.2.2.2.2.2.2.1
theorem dCls_listAt_13 : decode cCls_listAt 13 = .ok (.ldc_w 304, 3) := zfCls_listAt_0.2.2.2.2.2.2.2.1
theorem dCls_listAt_16 : decode cCls_listAt 16 = .ok (.invokespecial 306, 3) := zfCls_listAt_0.2.2.2.2.2.2.2.2.1
theorem dCls_listAt_19 : decode cCls_listAt 19 = .ok (.athrow, 1) := zfCls_listAt_0.2.2.2.2.2.2.2.2.2.1
theorem dCls_listAt_20 : decode cCls_listAt 20 = .ok (.aload_n 0, 1) := zfCls_listAt_0.2.2.2.2.2.2.2.2.2.2.1
theorem dCls_listAt_21 : decode cCls_listAt 21 = .ok (.getfield 11, 3) := zfCls_listAt_0.2.2.2.2.2.2.2.2.2.2.2.1
theorem dCls_listAt_24 : decode cCls_listAt 24 = .ok (.iload_n 1, 1) := zfCls_listAt_0.2.2.2.2.2.2.2.2.2.2.2.2.1
theorem dCls_listAt_25 : decode cCls_listAt 25 = .ok (.aaload, 1) := zfCls_listAt_0.2.2.2.2.2.2.2.2.2.2.2.2.2.1
theorem dCls_listAt_26 : decode cCls_listAt 26 = .ok (.areturn, 1) := zfCls_listAt_0.2.2.2.2.2.2.2.2.2.2.2.2.2.2.1
theorem zfCls_cursorAt_0 : decode cCls_cursorAt 0 = .ok (.iload_n 1, 1) ∧ decode cCls_cursorAt 1 = .ok (.ifCond .lt 8, 3) ∧ decode cCls_cursorAt 4 = .ok (.iload_n 1, 1) ∧ decode cCls_cursorAt 5 = .ok (.iconst 3, 1) ∧ decode cCls_cursorAt 6 = .ok (.if_icmp .lt 14, 3) ∧ decode cCls_cursorAt 9 = .ok (.new 302, 3) ∧ decode cCls_cursorAt 12 = .ok (.dup, 1) ∧ decode cCls_cursorAt 13 = .ok (.ldc_w 307, 3) ∧ decode cCls_cursorAt 16 = .ok (.invokespecial 306, 3) ∧ decode cCls_cursorAt 19 = .ok (.athrow, 1) ∧ decode cCls_cursorAt 20 = .ok (.aload_n 0, 1) ∧ decode cCls_cursorAt 21 = .ok (.getfield 17, 3) ∧ decode cCls_cursorAt 24 = .ok (.iload_n 1, 1) ∧ decode cCls_cursorAt 25 = .ok (.aaload, 1) ∧ decode cCls_cursorAt 26 = .ok (.areturn, 1) ∧ True := Jvm.Free.DS.facts (code := cCls_cursorAt) 0 [(.iload_n 1, 1), (.ifCond .lt 8, 3), (.iload_n 1, 1), (.iconst 3, 1), (.if_icmp .lt 14, 3), (.new 302, 3), (.dup, 1), (.ldc_w 307, 3), (.invokespecial 306, 3), (.athrow, 1), (.aload_n 0, 1), (.getfield 17, 3), (.iload_n 1, 1), (.aaload, 1), (.areturn, 1)] (by decide +kernel) (by decide +kernel)
theorem dCls_cursorAt_0 : decode cCls_cursorAt 0 = .ok (.iload_n 1, 1) := zfCls_cursorAt_0.1
theorem dCls_cursorAt_1 : decode cCls_cursorAt 1 = .ok (.ifCond .lt 8, 3) := zfCls_cursorAt_0.2.1
theorem dCls_cursorAt_4 : decode cCls_cursorAt 4 = .ok (.iload_n 1, 1) := zfCls_cursorAt_0.2.2.1
theorem dCls_cursorAt_5 : decode cCls_cursorAt 5 = .ok (.iconst 3, 1) := zfCls_cursorAt_0.2.2.2.1
theorem dCls_cursorAt_6 : decode cCls_cursorAt 6 = .ok (.if_icmp .lt 14, 3) := zfCls_cursorAt_0.2.2.2.2.1
theorem dCls_cursorAt_9 : decode cCls_cursorAt 9 = .ok (.new 302, 3) := zfCls_cursorAt_0.2.2.2.2.2.1
theorem dCls_cursorAt_12 : decode cCls_cursorAt 12 = .ok (.dup, 1) := zfCls_cursorAt_0.2.2.2.2.2.2.1
theorem dCls_cursorAt_13 : decode cCls_cursorAt 13 = .ok (.ldc_w 307, 3) := zfCls_cursorAt_0.2.2.2.2.2.2.2.1
theorem dCls_cursorAt_16 : decode cCls_cursorAt 16 = .ok (.invokespecial 306, 3) := zfCls_cursorAt_0.2.2.2.2.2.2.2.2.1
theorem dCls_cursorAt_19 : decode cCls_cursorAt 19 = .ok (.athrow, 1) := zfCls_cursorAt_0.2.2.2.2.2.2.2.2.2.1
theorem dCls_cursorAt_20 : decode cCls_cursorAt 20 = .ok (.aload_n 0, 1) := zfCls_cursorAt_0.2.2.2.2.2.2.2.2.2.2.1
theorem dCls_cursorAt_21 : decode cCls_cursorAt 21 = .ok (.getfield 17, 3) := zfCls_cursorAt_0.2.2.2.2.2.2.2.2.2.2.2.1
theorem dCls_cursorAt_24 : decode cCls_cursorAt 24 = .ok (.iload_n 1, 1) := zfCls_cursorAt_0.2.2.2.2.2.2.2.2.2.2.2.2.1
theorem dCls_cursorAt_25 : decode cCls_cursorAt 25 = .ok (.aaload, 1) := zfCls_cursorAt_0.2.2.2.2.2.2.2.2.2.2.2.2.2.1
theorem dCls_cursorAt_26 : decode cCls_cursorAt 26 = .ok (.areturn, 1) := zfCls_cursorAt_0.2.2.2.2.2.2.2.2.2.2.2.2.2.2.1
theorem zfCls_demandPlace_0 : decode cCls_demandPlace 0 = .ok (.aload_n 0, 1) ∧ decode cCls_demandPlace 1 = .ok (.iload_n 1, 1) ∧ decode cCls_demandPlace 2 = .ok (.invokevirtual 309, 3) ∧ decode cCls_demandPlace 5 = .ok (.ifCond .ne 14, 3) ∧ decode cCls_demandPlace 8 = .ok (.new 302, 3) ∧ decode cCls_demandPlace 11 = .ok (.dup, 1) ∧ decode cCls_demandPlace 12 = .ok (.ldc_w 313, 3) ∧ decode cCls_demandPlace 15 = .ok (.invokespecial 306, 3) ∧ decode cCls_demandPlace 18 = .ok (.athrow, 1) ∧ decode cCls_demandPlace 19 = .ok (.return_, 1) ∧ True := Jvm.Free.DS.facts (code := cCls_demandPlace) 0 [(.aload_n 0, 1), (.iload_n 1, 1), (.invokevirtual 309, 3), (.ifCond .ne 14, 3), (.new 302, 3), (.dup, 1), (.ldc_w 313, 3), (.invokespecial 306, 3), (.athrow, 1), (.return_, 1)] (by decide +kernel) (by decide +kernel)
theorem dCls_demandPlace_0 : decode cCls_demandPlace 0 = .ok (.aload_n 0, 1) := zfCls_demandPlace_0.1
theorem dCls_demandPlace_1 : decode cCls_demandPlace 1 = .ok (.iload_n 1, 1) := zfCls_demandPlace_0.2.1
theorem dCls_demandPlace_2 : decode cCls_demandPlace 2 = .ok (.invokevirtual 309, 3) := zfCls_demandPlace_0.2.2.1
theorem dCls_demandPlace_5 : decode cCls_demandPlace 5 = .ok (.ifCond .ne 14, 3) := zfCls_demandPlace_0.2.2.2.1
theorem dCls_demandPlace_8 : decode cCls_demandPlace 8 = .ok (.new 302, 3) := zfCls_demandPlace_0.2.2.2.2.1
theorem dCls_demandPlace_11 : decode cCls_demandPlace 11 = .ok (.dup, 1) := zfCls_demandPlace_0.2.2.2.2.2.1
theorem dCls_demandPlace_12 : decode cCls_demandPlace 12 = .ok (.ldc_w 313, 3) := zfCls_demandPlace_0.2.2.2.2.2.2.1
theorem dCls_demandPlace_15 : decode cCls_demandPlace 15 = .ok (.invokespecial 306, 3) := zfCls_demandPlace_0.2.2.2.2.2.2.2.1
theorem dCls_demandPlace_18 : decode cCls_demandPlace 18 = .ok (.athrow, 1) := zfCls_demandPlace_0.2.2.2.2.2.2.2.2.1
theorem dCls_demandPlace_19 : decode cCls_demandPlace 19 = .ok (.return_, 1) := zfCls_demandPlace_0.2.2.2.2.2.2.2.2.2.1
theorem zfCls_demandGap_0 : decode cCls_demandGap 0 = .ok (.aload_n 0, 1) ∧ decode cCls_demandGap 1 = .ok (.iload_n 1, 1) ∧ decode cCls_demandGap 2 = .ok (.invokevirtual 315, 3) ∧ decode cCls_demandGap 5 = .ok (.ifCond .ne 14, 3) ∧ decode cCls_demandGap 8 = .ok (.new 302, 3) ∧ decode cCls_demandGap 11 = .ok (.dup, 1) ∧ decode cCls_demandGap 12 = .ok (.ldc_w 318, 3) ∧ decode cCls_demandGap 15 = .ok (.invokespecial 306, 3) ∧ decode cCls_demandGap 18 = .ok (.athrow, 1) ∧ decode cCls_demandGap 19 = .ok (.return_, 1) ∧ True := Jvm.Free.DS.facts (code := cCls_demandGap) 0 [(.aload_n 0, 1), (.iload_n 1, 1), (.invokevirtual 315, 3), (.ifCond .ne 14, 3), (.new 302, 3), (.dup, 1), (.ldc_w 318, 3), (.invokespecial 306, 3), (.athrow, 1), (.return_, 1)] (by decide +kernel) (by decide +kernel)
theorem dCls_demandGap_0 : decode cCls_demandGap 0 = .ok (.aload_n 0, 1) := zfCls_demandGap_0.1
theorem dCls_demandGap_1 : decode cCls_demandGap 1 = .ok (.iload_n 1, 1) := zfCls_demandGap_0.2.1
theorem dCls_demandGap_2 : decode cCls_demandGap 2 = .ok (.invokevirtual 315, 3) := zfCls_demandGap_0.2.2.1
theorem dCls_demandGap_5 : decode cCls_demandGap 5 = .ok (.ifCond .ne 14, 3) := zfCls_demandGap_0.2.2.2.1
theorem dCls_demandGap_8 : decode cCls_demandGap 8 = .ok (.new 302, 3) := zfCls_demandGap_0.2.2.2.2.1
theorem dCls_demandGap_11 : decode cCls_demandGap 11 = .ok (.dup, 1) := zfCls_demandGap_0.2.2.2.2.2.1
theorem dCls_demandGap_12 : decode cCls_demandGap 12 = .ok (.ldc_w 318, 3) := zfCls_demandGap_0.2.2.2.2.2.2.1
theorem dCls_demandGap_15 : decode cCls_demandGap 15 = .ok (.invokespecial 306, 3) := zfCls_demandGap_0.2.2.2.2.2.2.2.1
theorem dCls_demandGap_18 : decode cCls_demandGap 18 = .ok (.athrow, 1) := zfCls_demandGap_0.2.2.2.2.2.2.2.2.1
theorem dCls_demandGap_19 : decode cCls_demandGap 19 = .ok (.return_, 1) := zfCls_demandGap_0.2.2.2.2.2.2.2.2.2.1
theorem zfCls_demandWithin_0 : decode cCls_demandWithin 0 = .ok (.iload_n 0, 1) ∧ decode cCls_demandWithin 1 = .ok (.iload_n 1, 1) ∧ decode cCls_demandWithin 2 = .ok (.if_icmp .lt 8, 3) ∧ decode cCls_demandWithin 5 = .ok (.iload_n 0, 1) ∧ decode cCls_demandWithin 6 = .ok (.iload_n 2, 1) ∧ decode cCls_demandWithin 7 = .ok (.if_icmp .le 14, 3) ∧ decode cCls_demandWithin 10 = .ok (.new 181, 3) ∧ decode cCls_demandWithin 13 = .ok (.dup, 1) ∧ decode cCls_demandWithin 14 = .ok (.ldc_w 320, 3) ∧ decode cCls_demandWithin 17 = .ok (.invokespecial 185, 3) ∧ decode cCls_demandWithin 20 = .ok (.athrow, 1) ∧ decode cCls_demandWithin 21 = .ok (.return_, 1) ∧ True := Jvm.Free.DS.facts (code := cCls_demandWithin) 0 [(.iload_n 0, 1), (.iload_n 1, 1), (.if_icmp .lt 8, 3), (.iload_n 0, 1), (.iload_n 2, 1), (.if_icmp .le 14, 3), (.new 181, 3), (.dup, 1), (.ldc_w 320, 3), (.invokespecial 185, 3), (.athrow, 1), (.return_, 1)] (by decide +kernel) (by decide +kernel)
theorem dCls_demandWithin_0 : decode cCls_demandWithin 0 = .ok (.iload_n 0, 1) := zfCls_demandWithin_0.1
theorem dCls_demandWithin_1 : decode cCls_demandWithin 1 = .ok (.iload_n 1, 1) := zfCls_demandWithin_0.2.1
theorem dCls_demandWithin_2 : decode cCls_demandWithin 2 = .ok (.if_icmp .lt 8, 3) := zfCls_demandWithin_0.2.2.1
theorem dCls_demandWithin_5 : decode cCls_demandWithin 5 = .ok (.iload_n 0, 1) := zfCls_demandWithin_0.2.2.2.1
theorem dCls_demandWithin_6 : decode cCls_demandWithin 6 = .ok (.iload_n 2, 1) := zfCls_demandWithin_0.2.2.2.2.1
theorem dCls_demandWithin_7 : decode cCls_demandWithin 7 = .ok (.if_icmp .le 14, 3) := zfCls_demandWithin_0.2.2.2.2.2.1
theorem dCls_demandWithin_10 : decode cCls_demandWithin 10 = .ok (.new 181, 3) := zfCls_demandWithin_0.2.2.2.2.2.2.1
theorem dCls_demandWithin_13 : decode cCls_demandWithin 13 = .ok (.dup, 1) := zfCls_demandWithin_0.2.2.2.2.2.2.2.1
theorem dCls_demandWithin_14 : decode cCls_demandWithin 14 = .ok (.ldc_w 320, 3) := zfCls_demandWithin_0.2.2.2.2.2.2.2.2.1
theorem dCls_demandWithin_17 : decode cCls_demandWithin 17 = .ok (.invokespecial 185, 3) := zfCls_demandWithin_0.2.2.2.2.2.2.2.2.2.1
theorem dCls_demandWithin_20 : decode cCls_demandWithin 20 = .ok (.athrow, 1) := zfCls_demandWithin_0.2.2.2.2.2.2.2.2.2.2.1
theorem dCls_demandWithin_21 : decode cCls_demandWithin 21 = .ok (.return_, 1) := zfCls_demandWithin_0.2.2.2.2.2.2.2.2.2.2.2.1
theorem zfCls_demandItem_0 : decode cCls_demandItem 0 = .ok (.iload_n 0, 1) ∧ decode cCls_demandItem 1 = .ok (.sipush (-9999), 3) ∧ decode cCls_demandItem 4 = .ok (.sipush 9999, 3) ∧ decode cCls_demandItem 7 = .ok (.invokestatic 38, 3) ∧ decode cCls_demandItem 10 = .ok (.return_, 1) ∧ True := Jvm.Free.DS.facts (code := cCls_demandItem) 0 [(.iload_n 0, 1), (.sipush (-9999), 3), (.sipush 9999, 3), (.invokestatic 38, 3), (.return_, 1)] (by decide +kernel) (by decide +kernel)
theorem dCls_demandItem_0 : decode cCls_demandItem 0 = .ok (.iload_n 0, 1) := zfCls_demandItem_0.1
theorem dCls_demandItem_1 : decode cCls_demandItem 1 = .ok (.sipush (-9999), 3) := zfCls_demandItem_0.2.1
theorem dCls_demandItem_4 : decode cCls_demandItem 4 = .ok (.sipush 9999, 3) := zfCls_demandItem_0.2.2.1
theorem dCls_demandItem_7 : decode cCls_demandItem 7 = .ok (.invokestatic 38, 3) := zfCls_demandItem_0.2.2.2.1
theorem dCls_demandItem_10 : decode cCls_demandItem 10 = .ok (.return_, 1) := zfCls_demandItem_0.2.2.2.2.1
theorem zfCls_demandThere_0 : decode cCls_demandThere 0 = .ok (.aload_n 0, 1) ∧ decode cCls_demandThere 1 = .ok (.getfield 144, 3) ∧ decode cCls_demandThere 4 = .ok (.ifCond .ne 14, 3) ∧ decode cCls_demandThere 7 = .ok (.new 218, 3) ∧ decode cCls_demandThere 10 = .ok (.dup, 1) ∧ decode cCls_demandThere 11 = .ok (.ldc_w 322, 3) ∧ decode cCls_demandThere 14 = .ok (.invokespecial 222, 3) ∧ decode cCls_demandThere 17 = .ok (.athrow, 1) ∧ decode cCls_demandThere 18 = .ok (.return_, 1) ∧ True := Jvm.Free.DS.facts (code := cCls_demandThere) 0 [(.aload_n 0, 1), (.getfield 144, 3), (.ifCond .ne 14, 3), (.new 218, 3), (.dup, 1), (.ldc_w 322, 3), (.invokespecial 222, 3), (.athrow, 1), (.return_, 1)] (by decide +kernel) (by decide +kernel)
theorem dCls_demandThere_0 : decode cCls_demandThere 0 = .ok (.aload_n 0, 1) := zfCls_demandThere_0.1
theorem dCls_demandThere_1 : decode cCls_demandThere 1 = .ok (.getfield 144, 3) := zfCls_demandThere_0.2.1
theorem dCls_demandThere_4 : decode cCls_demandThere 4 = .ok (.ifCond .ne 14, 3) := zfCls_demandThere_0.2.2.1
theorem dCls_demandThere_7 : decode cCls_demandThere 7 = .ok (.new 218, 3) := zfCls_demandThere_0.2.2.2.1
theorem dCls_demandThere_10 : decode cCls_demandThere 10 = .ok (.dup, 1) := zfCls_demandThere_0.2.2.2.2.1
theorem dCls_demandThere_11 : decode cCls_demandThere 11 = .ok (.ldc_w 322, 3) := zfCls_demandThere_0.2.2.2.2.2.1
theorem dCls_demandThere_14 : decode cCls_demandThere 14 = .ok (.invokespecial 222, 3) := zfCls_demandThere_0.2.2.2.2.2.2.1
theorem dCls_demandThere_17 : decode cCls_demandThere 17 = .ok (.athrow, 1) := zfCls_demandThere_0.2.2.2.2.2.2.2.1
theorem dCls_demandThere_18 : decode cCls_demandThere 18 = .ok (.return_, 1) := zfCls_demandThere_0.2.2.2.2.2.2.2.2.1
theorem zfCls_refuse_0 : decode cCls_refuse 0 = .ok (.aload_n 0, 1) ∧ decode cCls_refuse 1 = .ok (.dup, 1) ∧ decode cCls_refuse 2 = .ok (.getfield 259, 3) ∧ decode cCls_refuse 5 = .ok (.iconst 1, 1) ∧ decode cCls_refuse 6 = .ok (.iadd, 1) ∧ decode cCls_refuse 7 = .ok (.putfield 259, 3) ∧ decode cCls_refuse 10 = .ok (.ldc_w 324, 3) ∧ decode cCls_refuse 13 = .ok (.ireturn, 1) ∧ True := Jvm.Free.DS.facts (code := cCls_refuse) 0 [(.aload_n 0, 1), (.dup, 1), (.getfield 259, 3), (.iconst 1, 1), (.iadd, 1), (.putfield 259, 3), (.ldc_w 324, 3), (.ireturn, 1)] (by decide +kernel) (by decide +kernel)
theorem dCls_refuse_0 : decode cCls_refuse 0 = .ok (.aload_n 0, 1) := zfCls_refuse_0.1
theorem dCls_refuse_1 : decode cCls_refuse 1 = .ok (.dup, 1) := zfCls_refuse_0.2.1
theorem dCls_refuse_2 : decode cCls_refuse 2 = .ok (.getfield 259, 3) := zfCls_refuse_0.2.2.1
theorem dCls_refuse_5 : decode cCls_refuse 5 = .ok (.iconst 1, 1) := zfCls_refuse_0.2.2.2.1
theorem dCls_refuse_6 : decode cCls_refuse 6 = .ok (.iadd, 1) := zfCls_refuse_0.2.2.2.2.1
theorem dCls_refuse_7 : decode cCls_refuse 7 = .ok (.putfield 259, 3) := zfCls_refuse_0.2.2.2.2.2.1
theorem dCls_refuse_10 : decode cCls_refuse 10 = .ok (.ldc_w 324, 3) := zfCls_refuse_0.2.2.2.2.2.2.1
theorem dCls_refuse_13 : decode cCls_refuse 13 = .ok (.ireturn, 1) := zfCls_refuse_0.2.2.2.2.2.2.2.1
theorem zfCls_makeStale_0 : decode cCls_makeStale 0 = .ok (.iconst 0, 1) ∧ decode cCls_makeStale 1 = .ok (.istore_n 3, 1) ∧ decode cCls_makeStale 2 = .ok (.iload_n 3, 1) ∧ decode cCls_makeStale 3 = .ok (.iconst 3, 1) ∧ decode cCls_makeStale 4 = .ok (.if_icmp .ge 37, 3) ∧ decode cCls_makeStale 7 = .ok (.iload_n 3, 1) ∧ decode cCls_makeStale 8 = .ok (.iload_n 2, 1) ∧ decode cCls_makeStale 9 = .ok (.if_icmp .eq 26, 3) ∧ decode cCls_makeStale 12 = .ok (.aload_n 0, 1) ∧ decode cCls_makeStale 13 = .ok (.getfield 17, 3) ∧ decode cCls_makeStale 16 = .ok (.iload_n 3, 1) ∧ decode cCls_makeStale 17 = .ok (.aaload, 1) ∧ decode cCls_makeStale 18 = .ok (.getfield 169, 3) ∧ decode cCls_makeStale 21 = .ok (.iload_n 1, 1) ∧ decode cCls_makeStale 22 = .ok (.if_icmp .ne 13, 3) ∧ decode cCls_makeStale 25 = .ok (.aload_n 0, 1) ∧ decode cCls_makeStale 26 = .ok (.getfield 17, 3) ∧ decode cCls_makeStale 29 = .ok (.iload_n 3, 1) ∧ decode cCls_makeStale 30 = .ok (.aaload, 1) ∧ decode cCls_makeStale 31 = .ok (.iconst 1, 1) ∧ decode cCls_makeStale 32 = .ok (.putfield 152, 3) ∧ decode cCls_makeStale 35 = .ok (.iinc 3 1, 3) ∧ decode cCls_makeStale 38 = .ok (.goto (-36), 3) ∧ decode cCls_makeStale 41 = .ok (.return_, 1) ∧ True := Jvm.Free.DS.facts (code := cCls_makeStale) 0 [(.iconst 0, 1), (.istore_n 3, 1), (.iload_n 3, 1), (.iconst 3, 1), (.if_icmp .ge 37, 3), (.iload_n 3, 1), (.iload_n 2, 1), (.if_icmp .eq 26, 3), (.aload_n 0, 1), (.getfield 17, 3), (.iload_n 3, 1), (.aaload, 1), (.getfield 169, 3), (.iload_n 1, 1), (.if_icmp .ne 13, 3), (.aload_n 0, 1), (.getfield 17, 3), (.iload_n 3, 1), (.aaload, 1), (.iconst 1, 1), (.putfield 152, 3), (.iinc 3 1, 3), (.goto (-36), 3), (.return_, 1)] (by decide +kernel) (by decide +kernel)
theorem dCls_makeStale_0 : decode cCls_makeStale 0 = .ok (.iconst 0, 1) := zfCls_makeStale_0.1
theorem dCls_makeStale_1 : decode cCls_makeStale 1 = .ok (.istore_n 3, 1) := zfCls_makeStale_0.2.1
theorem dCls_makeStale_2 : decode cCls_makeStale 2 = .ok (.iload_n 3, 1) := zfCls_makeStale_0.2.2.1
theorem dCls_makeStale_3 : decode cCls_makeStale 3 = .ok (.iconst 3, 1) := zfCls_makeStale_0.2.2.2.1
theorem dCls_makeStale_4 : decode cCls_makeStale 4 = .ok (.if_icmp .ge 37, 3) := zfCls_makeStale_0.2.2.2.2.1
theorem dCls_makeStale_7 : decode cCls_makeStale 7 = .ok (.iload_n 3, 1) := zfCls_makeStale_0.2.2.2.2.2.1
theorem dCls_makeStale_8 : decode cCls_makeStale 8 = .ok (.iload_n 2, 1) := zfCls_makeStale_0.2.2.2.2.2.2.1
theorem dCls_makeStale_9 : decode cCls_makeStale 9 = .ok (.if_icmp .eq 26, 3) := zfCls_makeStale_0.2.2.2.2.2.2.2.1
theorem dCls_makeStale_12 : decode cCls_makeStale 12 = .ok (.aload_n 0, 1) := zfCls_makeStale_0.2.2.2.2.2.2.2.2.1
theorem dCls_makeStale_13 : decode cCls_makeStale 13 = .ok (.getfield 17, 3) := zfCls_makeStale_0.2.2.2.2.2.2.2.2.2.1
theorem dCls_makeStale_16 : decode cCls_makeStale 16 = .ok (.iload_n 3, 1) := zfCls_makeStale_0.2.2.2.2.2.2.2.2.2.2.1
theorem dCls_makeStale_17 : decode cCls_makeStale 17 = .ok (.aaload, 1) := zfCls_makeStale_0.2.2.2.2.2.2.2.2.2.2.2.1
theorem dCls_makeStale_18 : decode cCls_makeStale 18 = .ok (.getfield 169, 3) := zfCls_makeStale_0.2.2.2.2.2.2.2.2.2.2.2.2.1
theorem dCls_makeStale_21 : decode cCls_makeStale 21 = .ok (.iload_n 1, 1) := zfCls_makeStale_0.2.2.2.2.2.2.2.2.2.2.2.2.2.1
theorem dCls_makeStale_22 : decode cCls_makeStale 22 = .ok (.if_icmp .ne 13, 3) := zfCls_makeStale_0.2.2.2.2.2.2.2.2.2.2.2.2.2.2.1
theorem dCls_makeStale_25 : decode cCls_makeStale 25 = .ok (.aload_n 0, 1) := zfCls_makeStale_0.2.2.2.2.2.2.2.2.2.2.2.2.2.2.2.1
theorem dCls_makeStale_26 : decode cCls_makeStale 26 = .ok (.getfield 17, 3) := zfCls_makeStale_0.2.2.2.2.2.2.2.2.2.2.2.2.2.2.2.2.1
theorem dCls_makeStale_29 : decode cCls_makeStale 29 = .ok (.iload_n 3, 1) := zfCls_makeStale_0.2.2.2.2.2.2.2.2.2.2.2.2.2.2.2.2.2.1
theorem dCls_makeStale_30 : decode cCls_makeStale 30 = .ok (.aaload, 1) := zfCls_makeStale_0.2.2.2.2.2.2.2.2.2.2.2.2.2.2.2.2.2.2.1
theorem dCls_makeStale_31 : decode cCls_makeStale 31 = .ok (.iconst 1, 1) := zfCls_makeStale_0.2.2.2.2.2.2.2.2.2.2.2.2.2.2.2.2.2.2.2.1
theorem dCls_makeStale_32 : decode cCls_makeStale 32 = .ok (.putfield 152, 3) := zfCls_makeStale_0.2.2.2.2.2.2.2.2.2.2.2.2.2.2.2.2.2.2.2.2.1
theorem dCls_makeStale_35 : decode cCls_makeStale 35 = .ok (.iinc 3 1, 3) := zfCls_makeStale_0.2.2.2.2.2.2.2.2.2.2.2.2.2.2.2.2.2.2.2.2.2.1
theorem dCls_makeStale_38 : decode cCls_makeStale 38 = .ok (.goto (-36), 3) := zfCls_makeStale_0.2.2.2.2.2.2.2.2.2.2.2.2.2.2.2.2.2.2.2.2.2.2.1
theorem dCls_makeStale_41 : decode cCls_makeStale 41 = .ok (.return_, 1) := zfCls_makeStale_0.2.2.2.2.2.2.2.2.2.2.2.2.2.2.2.2.2.2.2.2.2.2.2.1
theorem zfCls_putInto_0 : decode cCls_putInto 0 = .ok (.aload_n 0, 1) ∧ decode cCls_putInto 1 = .ok (.iload_n 1, 1) ∧ decode cCls_putInto 2 = .ok (.invokevirtual 34, 3) ∧ decode cCls_putInto 5 = .ok (.astore 4, 2) ∧ decode cCls_putInto 7 = .ok (.aload 4, 2) ∧ decode cCls_putInto 9 = .ok (.iload_n 2, 1) ∧ decode cCls_putInto 10 = .ok (.iload_n 3, 1) ∧ decode cCls_putInto 11 = .ok (.invokevirtual 119, 3) ∧ decode cCls_putInto 14 = .ok (.ifCond .ne 8, 3) ∧ decode cCls_putInto 17 = .ok (.aload_n 0, 1) ∧ decode cCls_putInto 18 = .ok (.invokevirtual 54, 3) ∧ decode cCls_putInto 21 = .ok (.ireturn, 1) ∧ decode cCls_putInto 22 = .ok (.aload_n 0, 1) ∧ decode cCls_putInto 23 = .ok (.iload_n 1, 1) ∧ decode cCls_putInto 24 = .ok (.iconst (-1), 1) ∧ decode cCls_putInto 25 = .ok (.invokevirtual 58, 3) ∧ decode cCls_putInto 28 = .ok (.aload 4, 2) ∧ decode cCls_putInto 30 = .ok (.getfield 46, 3) ∧ decode cCls_putInto 33 = .ok (.ireturn, 1) ∧ True := Jvm.Free.DS.facts (code := cCls_putInto) 0 [(.aload_n 0, 1), (.iload_n 1, 1), (.invokevirtual 34, 3), (.astore 4, 2), (.aload 4, 2), (.iload_n 2, 1), (.iload_n 3, 1), (.invokevirtual 119, 3), (.ifCond .ne 8, 3), (.aload_n 0, 1), (.invokevirtual 54, 3), (.ireturn, 1), (.aload_n 0, 1), (.iload_n 1, 1), (.iconst (-1), 1), (.invokevirtual 58, 3), (.aload 4, 2), (.getfield 46, 3), (.ireturn, 1)] (by decide +kernel) (by decide +kernel)
theorem dCls_putInto_0 : decode cCls_putInto 0 = .ok (.aload_n 0, 1) := zfCls_putInto_0.1
theorem dCls_putInto_1 : decode cCls_putInto 1 = .ok (.iload_n 1, 1) := zfCls_putInto_0.2.1
theorem dCls_putInto_2 : decode cCls_putInto 2 = .ok (.invokevirtual 34, 3) := zfCls_putInto_0.2.2.1
theorem dCls_putInto_5 : decode cCls_putInto 5 = .ok (.astore 4, 2) := zfCls_putInto_0.2.2.2.1
theorem dCls_putInto_7 : decode cCls_putInto 7 = .ok (.aload 4, 2) := zfCls_putInto_0.2.2.2.2.1
theorem dCls_putInto_9 : decode cCls_putInto 9 = .ok (.iload_n 2, 1) := zfCls_putInto_0.2.2.2.2.2.1
theorem dCls_putInto_10 : decode cCls_putInto 10 = .ok (.iload_n 3, 1) := zfCls_putInto_0.2.2.2.2.2.2.1
theorem dCls_putInto_11 : decode cCls_putInto 11 = .ok (.invokevirtual 119, 3) := zfCls_putInto_0.2.2.2.2.2.2.2.1
theorem dCls_putInto_14 : decode cCls_putInto 14 = .ok (.ifCond .ne 8, 3) := zfCls_putInto_0.2.2.2.2.2.2.2.2.1
theorem dCls_putInto_17 : decode cCls_putInto 17 = .ok (.aload_n 0, 1) := zfCls_putInto_0.2.2.2.2.2.2.2.2.2.1
theorem dCls_putInto_18 : decode cCls_putInto 18 = .ok (.invokevirtual 54, 3) := zfCls_putInto_0.2.2.2.2.2.2.2.2.2.2.1
theorem dCls_putInto_21 : decode cCls_putInto 21 = .ok (.ireturn, 1) := zfCls_putInto_0.2.2.2.2.2.2.2.2.2.2.2.1
theorem dCls_putInto_22 : decode cCls_putInto 22 = .ok (.aload_n 0, 1) := zfCls_putInto_0.2.2.2.2.2.2.2.2.2.2.2.2.1
theorem dCls_putInto_23 : decode cCls_putInto 23 = .ok (.iload_n 1, 1) := zfCls_putInto_0.2.2.2.2.2.2.2.2.2.2.2.2.2.1
theorem dCls_putInto_24 : decode cCls_putInto 24 = .ok (.iconst (-1), 1) := zfCls_putInto_0.2.2.2.2.2.2.2.2.2.2.2.2.2.2.1
theorem dCls_putInto_25 : decode cCls_putInto 25 = .ok (.invokevirtual 58, 3) := zfCls_putInto_0.2.2.2.2.2.2.2.2.2.2.2.2.2.2.2.1
theorem dCls_putInto_28 : decode cCls_putInto 28 = .ok (.aload 4, 2) := zfCls_putInto_0.2.2.2.2.2.2.2.2.2.2.2.2.2.2.2.2.1
theorem dCls_putInto_30 : decode cCls_putInto 30 = .ok (.getfield 46, 3) := zfCls_putInto_0.2.2.2.2.2.2.2.2.2.2.2.2.2.2.2.2.2.1
theorem dCls_putInto_33 : decode cCls_putInto 33 = .ok (.ireturn, 1) := zfCls_putInto_0.2.2.2.2.2.2.2.2.2.2.2.2.2.2.2.2.2.2.1
theorem zfCls_takeFrom_0 : decode cCls_takeFrom 0 = .ok (.aload_n 0, 1) ∧ decode cCls_takeFrom 1 = .ok (.iload_n 1, 1) ∧ decode cCls_takeFrom 2 = .ok (.invokevirtual 34, 3) ∧ decode cCls_takeFrom 5 = .ok (.iload_n 2, 1) ∧ decode cCls_takeFrom 6 = .ok (.invokevirtual 88, 3) ∧ decode cCls_takeFrom 9 = .ok (.istore_n 3, 1) ∧ decode cCls_takeFrom 10 = .ok (.aload_n 0, 1) ∧ decode cCls_takeFrom 11 = .ok (.iload_n 1, 1) ∧ decode cCls_takeFrom 12 = .ok (.iconst (-1), 1) ∧ decode cCls_takeFrom 13 = .ok (.invokevirtual 58, 3) ∧ decode cCls_takeFrom 16 = .ok (.iload_n 3, 1) ∧ decode cCls_takeFrom 17 = .ok (.ireturn, 1) ∧ True := Jvm.Free.DS.facts (code := cCls_takeFrom) 0 [(.aload_n 0, 1), (.iload_n 1, 1), (.invokevirtual 34, 3), (.iload_n 2, 1), (.invokevirtual 88, 3), (.istore_n 3, 1), (.aload_n 0, 1), (.iload_n 1, 1), (.iconst (-1), 1), (.invokevirtual 58, 3), (.iload_n 3, 1), (.ireturn, 1)] (by decide +kernel) (by decide +kernel)
theorem dCls_takeFrom_0 : decode cCls_takeFrom 0 = .ok (.aload_n 0, 1) := zfCls_takeFrom_0.1
theorem dCls_takeFrom_1 : decode cCls_takeFrom 1 = .ok (.iload_n 1, 1) := zfCls_takeFrom_0.2.1
theorem dCls_takeFrom_2 : decode cCls_takeFrom 2 = .ok (.invokevirtual 34, 3) := zfCls_takeFrom_0.2.2.1
theorem dCls_takeFrom_5 : decode cCls_takeFrom 5 = .ok (.iload_n 2, 1) := zfCls_takeFrom_0.2.2.2.1
theorem dCls_takeFrom_6 : decode cCls_takeFrom 6 = .ok (.invokevirtual 88, 3) := zfCls_takeFrom_0.2.2.2.2.1
theorem dCls_takeFrom_9 : decode cCls_takeFrom 9 = .ok (.istore_n 3, 1) := zfCls_takeFrom_0.2.2.2.2.2.1
theorem dCls_takeFrom_10 : decode cCls_takeFrom 10 = .ok (.aload_n 0, 1) := zfCls_takeFrom_0.2.2.2.2.2.2.1
theorem dCls_takeFrom_11 : decode cCls_takeFrom 11 = .ok (.iload_n 1, 1) := zfCls_takeFrom_0.2.2.2.2.2.2.2.1
theorem dCls_takeFrom_12 : decode cCls_takeFrom 12 = .ok (.iconst (-1), 1) := zfCls_takeFrom_0.2.2.2.2.2.2.2.2.1
theorem dCls_takeFrom_13 : decode cCls_takeFrom 13 = .ok (.invokevirtual 58, 3) := zfCls_takeFrom_0.2.2.2.2.2.2.2.2.2.1
theorem dCls_takeFrom_16 : decode cCls_takeFrom 16 = .ok (.iload_n 3, 1) := zfCls_takeFrom_0.2.2.2.2.2.2.2.2.2.2.1
theorem dCls_takeFrom_17 : decode cCls_takeFrom 17 = .ok (.ireturn, 1) := zfCls_takeFrom_0.2.2.2.2.2.2.2.2.2.2.2.1
theorem zfCls_becomeResult_0 : decode cCls_becomeResult 0 = .ok (.iload_n 2, 1) ∧ decode cCls_becomeResult 1 = .ok (.ifCond .ne 8, 3) ∧ decode cCls_becomeResult 4 = .ok (.aload_n 0, 1) ∧ decode cCls_becomeResult 5 = .ok (.invokevirtual 54, 3) ∧ decode cCls_becomeResult 8 = .ok (.ireturn, 1) ∧ decode cCls_becomeResult 9 = .ok (.aload_n 0, 1) ∧ decode cCls_becomeResult 10 = .ok (.iload_n 1, 1) ∧ decode cCls_becomeResult 11 = .ok (.invokevirtual 34, 3) ∧ decode cCls_becomeResult 14 = .ok (.aload_n 0, 1) ∧ decode cCls_becomeResult 15 = .ok (.getfield 29, 3) ∧ decode cCls_becomeResult 18 = .ok (.invokevirtual 105, 3) ∧ decode cCls_becomeResult 21 = .ok (.aload_n 0, 1) ∧ decode cCls_becomeResult 22 = .ok (.iload_n 1, 1) ∧ decode cCls_becomeResult 23 = .ok (.iconst (-1), 1) ∧ decode cCls_becomeResult 24 = .ok (.invokevirtual 58, 3) ∧ decode cCls_becomeResult 27 = .ok (.aload_n 0, 1) ∧ decode cCls_becomeResult 28 = .ok (.getfield 29, 3) ∧ decode cCls_becomeResult 31 = .ok (.getfield 46, 3) ∧ decode cCls_becomeResult 34 = .ok (.ireturn, 1) ∧ True := Jvm.Free.DS.facts (code := cCls_becomeResult) 0 [(.iload_n 2, 1), (.ifCond .ne 8, 3), (.aload_n 0, 1), (.invokevirtual 54, 3), (.ireturn, 1), (.aload_n 0, 1), (.iload_n 1, 1), (.invokevirtual 34, 3), (.aload_n 0, 1), (.getfield 29, 3), (.invokevirtual 105, 3), (.aload_n 0, 1), (.iload_n 1, 1), (.iconst (-1), 1), (.invokevirtual 58, 3), (.aload_n 0, 1), (.getfield 29, 3), (.getfield 46, 3), (.ireturn, 1)] (by decide +kernel) (by decide +kernel)
theorem dCls_becomeResult_0 : decode cCls_becomeResult 0 = .ok (.iload_n 2, 1) := zfCls_becomeResult_0.1
theorem dCls_becomeResult_1 : decode cCls_becomeResult 1 = .ok (.ifCond .ne 8, 3) := zfCls_becomeResult_0.2.1
theorem dCls_becomeResult_4 : decode cCls_becomeResult 4 = .ok (.aload_n 0, 1) := zfCls_becomeResult_0.2.2.1
theorem dCls_becomeResult_5 : decode cCls_becomeResult 5 = .ok (.invokevirtual 54, 3) := zfCls_becomeResult_0.2.2.2.1
theorem dCls_becomeResult_8 : decode cCls_becomeResult 8 = .ok (.ireturn, 1) := zfCls_becomeResult_0.2.2.2.2.1
theorem dCls_becomeResult_9 : decode cCls_becomeResult 9 = .ok (.aload_n 0, 1) := zfCls_becomeResult_0.2.2.2.2.2.1
theorem dCls_becomeResult_10 : decode cCls_becomeResult 10 = .ok (.iload_n 1, 1) := zfCls_becomeResult_0.2.2.2.2.2.2.1
theorem dCls_becomeResult_11 : decode cCls_becomeResult 11 = .ok (.invokevirtual 34, 3) := zfCls_becomeResult_0.2.2.2.2.2.2.2.1
theorem dCls_becomeResult_14 : decode cCls_becomeResult 14 = .ok (.aload_n 0, 1) := zfCls_becomeResult_0.2.2.2.2.2.2.2.2.1
theorem dCls_becomeResult_15 : decode cCls_becomeResult 15 = .ok (.getfield 29, 3) := zfCls_becomeResult_0.2.2.2.2.2.2.2.2.2.1
theorem dCls_becomeResult_18 : decode cCls_becomeResult 18 = .ok (.invokevirtual 105, 3) := zfCls_becomeResult_0.2.2.2.2.2.2.2.2.2.2.1
theorem dCls_becomeResult_21 : decode cCls_becomeResult 21 = .ok (.aload_n 0, 1) := zfCls_becomeResult_0.2.2.2.2.2.2.2.2.2.2.2.1
theorem dCls_becomeResult_22 : decode cCls_becomeResult 22 = .ok (.iload_n 1, 1) := zfCls_becomeResult_0.2.2.2.2.2.2.2.2.2.2.2.2.1
theorem dCls_becomeResult_23 : decode cCls_becomeResult 23 = .ok (.iconst (-1), 1) := zfCls_becomeResult_0.2.2.2.2.2.2.2.2.2.2.2.2.2.1
theorem dCls_becomeResult_24 : decode cCls_becomeResult 24 = .ok (.invokevirtual 58, 3) := zfCls_becomeResult_0.2.2.2.2.2.2.2.2.2.2.2.2.2.2.1
theorem dCls_becomeResult_27 : decode cCls_becomeResult 27 = .ok (.aload_n 0, 1) := zfCls_becomeResult_0.2.2.2.2.2.2.2.2.2.2.2.2.2.2.2.1
theorem dCls_becomeResult_28 : decode cCls_becomeResult 28 = .ok (.getfield 29, 3) := zfCls_becomeResult_0.2.2.2.2.2.2.2.2.2.2.2.2.2.2.2.2.1
theorem dCls_becomeResult_31 : decode cCls_becomeResult 31 = .ok (.getfield 46, 3) := zfCls_becomeResult_0.2.2.2.2.2.2.2.2.2.2.2.2.2.2.2.2.2.1
theorem dCls_becomeResult_34 : decode cCls_becomeResult 34 = .ok (.ireturn, 1) := zfCls_becomeResult_0.2.2.2.2.2.2.2.2.2.2.2.2.2.2.2.2.2.2.1
theorem zfCls_endOf_0 : decode cCls_endOf 0 = .ok (.iload_n 1, 1) ∧ decode cCls_endOf 1 = .ok (.iconst 1, 1) ∧ decode cCls_endOf 2 = .ok (.if_icmp .eq 8, 3) ∧ decode cCls_endOf 5 = .ok (.iload_n 1, 1) ∧ decode cCls_endOf 6 = .ok (.iconst 3, 1) ∧ decode cCls_endOf 7 = .ok (.if_icmp .ne 12, 3) ∧ decode cCls_endOf 10 = .ok (.aload_n 0, 1) ∧ decode cCls_endOf 11 = .ok (.getfield 46, 3) ∧ decode cCls_endOf 14 = .ok (.iconst 1, 1) ∧ decode cCls_endOf 15 = .ok (.isub, 1) ∧ decode cCls_endOf 16 = .ok (.goto 4, 3) ∧ decode cCls_endOf 19 = .ok (.iconst 0, 1) ∧ decode cCls_endOf 20 = .ok (.ireturn, 1) ∧ True := Jvm.Free.DS.facts (code := cCls_endOf) 0 [(.iload_n 1, 1), (.iconst 1, 1), (.if_icmp .eq 8, 3), (.iload_n 1, 1), (.iconst 3, 1), (.if_icmp .ne 12, 3), (.aload_n 0, 1), (.getfield 46, 3), (.iconst 1, 1), (.isub, 1), (.goto 4, 3), (.iconst 0, 1), (.ireturn, 1)] (by decide +kernel) (by decide +kernel)
theorem dCls_endOf_0 : decode cCls_endOf 0 = .ok (.iload_n 1, 1) := zfCls_endOf_0.1
theorem dCls_endOf_1 : decode cCls_endOf 1 = .ok (.iconst 1, 1) := zfCls_endOf_0.2.1
theorem dCls_endOf_2 : decode cCls_endOf 2 = .ok (.if_icmp .eq 8, 3) := zfCls_endOf_0.2.2.1
theorem dCls_endOf_5 : decode cCls_endOf 5 = .ok (.iload_n 1, 1) := zfCls_endOf_0.2.2.2.1
theorem dCls_endOf_6 : decode cCls_endOf 6 = .ok (.iconst 3, 1) := zfCls_endOf_0.2.2.2.2.1
theorem dCls_endOf_7 : decode cCls_endOf 7 = .ok (.if_icmp .ne 12, 3) := zfCls_endOf_0.2.2.2.2.2.1
theorem dCls_endOf_10 : decode cCls_endOf 10 = .ok (.aload_n 0, 1) := zfCls_endOf_0.2.2.2.2.2.2.1
theorem dCls_endOf_11 : decode cCls_endOf 11 = .ok (.getfield 46, 3) := zfCls_endOf_0.2.2.2.2.2.2.2.1
theorem dCls_endOf_14 : decode cCls_endOf 14 = .ok (.iconst 1, 1) := zfCls_endOf_0.2.2.2.2.2.2.2.2.1
theorem dCls_endOf_15 : decode cCls_endOf 15 = .ok (.isub, 1) := zfCls_endOf_0.2.2.2.2.2.2.2.2.2.1
theorem dCls_endOf_16 : decode cCls_endOf 16 = .ok (.goto 4, 3) := zfCls_endOf_0.2.2.2.2.2.2.2.2.2.2.1
theorem dCls_endOf_19 : decode cCls_endOf 19 = .ok (.iconst 0, 1) := zfCls_endOf_0.2.2.2.2.2.2.2.2.2.2.2.1
theorem dCls_endOf_20 : decode cCls_endOf 20 = .ok (.ireturn, 1) := zfCls_endOf_0.2.2.2.2.2.2.2.2.2.2.2.2.1
theorem zfCls_firstOf_0 : decode cCls_firstOf 0 = .ok (.aload_n 0, 1) ∧ decode cCls_firstOf 1 = .ok (.getfield 46, 3) ∧ decode cCls_firstOf 4 = .ok (.ifCond .ne 9, 3) ∧ decode cCls_firstOf 7 = .ok (.sipush 10000, 3) ∧ decode cCls_firstOf 10 = .ok (.goto 8, 3) ∧ decode cCls_firstOf 13 = .ok (.aload_n 0, 1) ∧ decode cCls_firstOf 14 = .ok (.iconst 0, 1) ∧ decode cCls_firstOf 15 = .ok (.invokevirtual 70, 3) ∧ decode cCls_firstOf 18 = .ok (.ireturn, 1) ∧ True := Jvm.Free.DS.facts (code := cCls_firstOf) 0 [(.aload_n 0, 1), (.getfield 46, 3), (.ifCond .ne 9, 3), (.sipush 10000, 3), (.goto 8, 3), (.aload_n 0, 1), (.iconst 0, 1), (.invokevirtual 70, 3), (.ireturn, 1)] (by decide +kernel) (by decide +kernel)
theorem dCls_firstOf_0 : decode cCls_firstOf 0 = .ok (.aload_n 0, 1) := zfCls_firstOf_0.1
theorem dCls_firstOf_1 : decode cCls_firstOf 1 = .ok (.getfield 46, 3) := zfCls_firstOf_0.2.1
theorem dCls_firstOf_4 : decode cCls_firstOf 4 = .ok (.ifCond .ne 9, 3) := zfCls_firstOf_0.2.2.1
theorem dCls_firstOf_7 : decode cCls_firstOf 7 = .ok (.sipush 10000, 3) := zfCls_firstOf_0.2.2.2.1
theorem dCls_firstOf_10 : decode cCls_firstOf 10 = .ok (.goto 8, 3) := zfCls_firstOf_0.2.2.2.2.1
theorem dCls_firstOf_13 : decode cCls_firstOf 13 = .ok (.aload_n 0, 1) := zfCls_firstOf_0.2.2.2.2.2.1
theorem dCls_firstOf_14 : decode cCls_firstOf 14 = .ok (.iconst 0, 1) := zfCls_firstOf_0.2.2.2.2.2.2.1
theorem dCls_firstOf_15 : decode cCls_firstOf 15 = .ok (.invokevirtual 70, 3) := zfCls_firstOf_0.2.2.2.2.2.2.2.1
theorem dCls_firstOf_18 : decode cCls_firstOf 18 = .ok (.ireturn, 1) := zfCls_firstOf_0.2.2.2.2.2.2.2.2.1
theorem zfCls_numberOf_0 : decode cCls_numberOf 0 = .ok (.iload_n 0, 1) ∧ decode cCls_numberOf 1 = .ok (.ifCond .eq 7, 3) ∧ decode cCls_numberOf 4 = .ok (.iconst 1, 1) ∧ decode cCls_numberOf 5 = .ok (.goto 4, 3) ∧ decode cCls_numberOf 8 = .ok (.iconst 0, 1) ∧ decode cCls_numberOf 9 = .ok (.ireturn, 1) ∧ True := Jvm.Free.DS.facts (code := cCls_numberOf) 0 [(.iload_n 0, 1), (.ifCond .eq 7, 3), (.iconst 1, 1), (.goto 4, 3), (.iconst 0, 1), (.ireturn, 1)] (by decide +kernel) (by decide +kernel)
theorem dCls_numberOf_0 : decode cCls_numberOf 0 = .ok (.iload_n 0, 1) := zfCls_numberOf_0.1
theorem dCls_numberOf_1 : decode cCls_numberOf 1 = .ok (.ifCond .eq 7, 3) := zfCls_numberOf_0.2.1
theorem dCls_numberOf_4 : decode cCls_numberOf 4 = .ok (.iconst 1, 1) := zfCls_numberOf_0.2.2.1
theorem dCls_numberOf_5 : decode cCls_numberOf 5 = .ok (.goto 4, 3) := zfCls_numberOf_0.2.2.2.1
theorem dCls_numberOf_8 : decode cCls_numberOf 8 = .ok (.iconst 0, 1) := zfCls_numberOf_0.2.2.2.2.1
theorem dCls_numberOf_9 : decode cCls_numberOf 9 = .ok (.ireturn, 1) := zfCls_numberOf_0.2.2.2.2.2.1
theorem zfCls_rowUnder_0 : decode cCls_rowUnder 0 = .ok (.aload_n 0, 1) ∧ decode cCls_rowUnder 1 = .ok (.aload_n 1, 1) ∧ decode cCls_rowUnder 2 = .ok (.getfield 169, 3) ∧ decode cCls_rowUnder 5 = .ok (.invokevirtual 34, 3) ∧ decode cCls_rowUnder 8 = .ok (.areturn, 1) ∧ True := Jvm.Free.DS.facts (code := cCls_rowUnder) 0 [(.aload_n 0, 1), (.aload_n 1, 1), (.getfield 169, 3), (.invokevirtual 34, 3), (.areturn, 1)] (by decide +kernel) (by decide +kernel)
theorem dCls_rowUnder_0 : decode cCls_rowUnder 0 = .ok (.aload_n 0, 1) := zfCls_rowUnder_0.1
theorem dCls_rowUnder_1 : decode cCls_rowUnder 1 = .ok (.aload_n 1, 1) := zfCls_rowUnder_0.2.1
theorem dCls_rowUnder_2 : decode cCls_rowUnder 2 = .ok (.getfield 169, 3) := zfCls_rowUnder_0.2.2.1
theorem dCls_rowUnder_5 : decode cCls_rowUnder 5 = .ok (.invokevirtual 34, 3) := zfCls_rowUnder_0.2.2.2.1
theorem dCls_rowUnder_8 : decode cCls_rowUnder 8 = .ok (.areturn, 1) := zfCls_rowUnder_0.2.2.2.2.1
theorem zfCls_sumUntilMet_0 : decode cCls_sumUntilMet 0 = .ok (.iconst 0, 1) ∧ decode cCls_sumUntilMet 1 = .ok (.istore_n 3, 1) ∧ decode cCls_sumUntilMet 2 = .ok (.iconst 0, 1) ∧ decode cCls_sumUntilMet 3 = .ok (.istore 4, 2) ∧ decode cCls_sumUntilMet 5 = .ok (.iload 4, 2) ∧ decode cCls_sumUntilMet 7 = .ok (.bipush 16, 2) ∧ decode cCls_sumUntilMet 9 = .ok (.if_icmp .ge 43, 3) ∧ decode cCls_sumUntilMet 12 = .ok (.aload_n 0, 1) ∧ decode cCls_sumUntilMet 13 = .ok (.getfield 172, 3) ∧ decode cCls_sumUntilMet 16 = .ok (.aload_n 1, 1) ∧ decode cCls_sumUntilMet 17 = .ok (.getfield 172, 3) ∧ decode cCls_sumUntilMet 20 = .ok (.if_icmp .ge 32, 3) ∧ decode cCls_sumUntilMet 23 = .ok (.iload_n 3, 1) ∧ decode cCls_sumUntilMet 24 = .ok (.iload 4, 2) ∧ decode cCls_sumUntilMet 26 = .ok (.iconst 2, 1) ∧ decode cCls_sumUntilMet 27 = .ok (.irem, 1) ∧ decode cCls_sumUntilMet 28 = .ok (.ifCond .ne 11, 3) ∧ decode cCls_sumUntilMet 31 = .ok (.aload_n 0, 1) ∧ decode cCls_sumUntilMet 32 = .ok (.aload_n 2, 1) ∧ decode cCls_sumUntilMet 33 = .ok (.invokevirtual 159, 3) ∧ decode cCls_sumUntilMet 36 = .ok (.goto 8, 3) ∧ decode cCls_sumUntilMet 39 = .ok (.aload_n 1, 1) ∧ decode cCls_sumUntilMet 40 = .ok (.aload_n 2, 1) ∧ decode cCls_sumUntilMet 41 = .ok (.invokevirtual 162, 3) ∧ decode cCls_sumUntilMet 44 = .ok (.iadd, 1) ∧ decode cCls_sumUntilMet 45 = .ok (.istore_n 3, 1) ∧ decode cCls_sumUntilMet 46 = .ok (.iinc 4 1, 3) ∧ decode cCls_sumUntilMet 49 = .ok (.goto (-44), 3) ∧ decode cCls_sumUntilMet 52 = .ok (.iload_n 3, 1) ∧ decode cCls_sumUntilMet 53 = .ok (.ireturn, 1) ∧ True := Jvm.Free.DS.facts (code := cCls_sumUntilMet) 0 [(.iconst 0, 1), (.istore_n 3, 1), (.iconst 0, 1), (.istore 4, 2), (.iload 4, 2), (.bipush 16, 2), (.if_icmp .ge 43, 3), (.aload_n 0, 1), (.getfield 172, 3), (.aload_n 1, 1), (.getfield 172, 3), (.if_icmp .ge 32, 3), (.iload_n 3, 1), (.iload 4, 2), (.iconst 2, 1), (.irem, 1), (.ifCond .ne 11, 3), (.aload_n 0, 1), (.aload_n 2, 1), (.invokevirtual 159, 3), (.goto 8, 3), (.aload_n 1, 1), (.aload_n 2, 1), (.invokevirtual 162, 3), (.iadd, 1), (.istore_n 3, 1), (.iinc 4 1, 3), (.goto (-44), 3), (.iload_n 3, 1), (.ireturn, 1)] (by decide +kernel) (by decide +kernel)
theorem dCls_sumUntilMet_0 : decode cCls_sumUntilMet 0 = .ok (.iconst 0, 1) := zfCls_sumUntilMet_0.1
theorem dCls_sumUntilMet_1 : decode cCls_sumUntilMet 1 = .ok (.istore_n 3, 1) := zfCls_sumUntilMet_0.2.1
theorem dCls_sumUntilMet_2 : decode cCls_sumUntilMet 2 = .ok (.iconst 0, 1) := zfCls_sumUntilMet_0.2.2.1
theorem dCls_sumUntilMet_3 : decode cCls_sumUntilMet 3 = .ok (.istore 4, 2) := zfCls_sumUntilMet_0.2.2.2.1
theorem dCls_sumUntilMet_5 : decode cCls_sumUntilMet 5 = .ok (.iload 4, 2) := zfCls_sumUntilMet_0.2.2.2.2.1
theorem dCls_sumUntilMet_7 : decode cCls_sumUntilMet 7 = .ok (.bipush 16, 2) := zfCls_sumUntilMet_0.2.2.2.2.2.1
theorem dCls_sumUntilMet_9 : decode cCls_sumUntilMet 9 = .ok (.if_icmp .ge 43, 3) := zfCls_sumUntilMet_0.2.2.2.2.2.2.1
theorem dCls_sumUntilMet_12 : decode cCls_sumUntilMet 12 = .ok (.aload_n 0, 1) := zfCls_sumUntilMet_0.2.2.2.2.2.2.2.1
theorem dCls_sumUntilMet_13 : decode cCls_sumUntilMet 13 = .ok (.getfield 172, 3) := zfCls_sumUntilMet_0.2.2.2.2.2.2.2.2.1
theorem dCls_sumUntilMet_16 : decode cCls_sumUntilMet 16 = .ok (.aload_n 1, 1) := zfCls_sumUntilMet_0.2.2.2.2.2.2.2.2.2.1
theorem dCls_sumUntilMet_17 : decode cCls_sumUntilMet 17 = .ok (.getfield 172, 3) := zfCls_sumUntilMet_0.2.2.2.2.2.2.2.2.2.2.1
theorem dCls_sumUntilMet_20 : decode cCls_sumUntilMet 20 = .ok (.if_icmp .ge 32, 3) := zfCls_sumUntilMet_0.2.2.2.2.2.2.2.2.2.2.2.1
theorem dCls_sumUntilMet_23 : decode cCls_sumUntilMet 23 = .ok (.iload_n 3, 1) := zfCls_sumUntilMet_0.2.2.2.2.2.2.2.2.2.2.2.2.1
theorem dCls_sumUntilMet_24 : decode cCls_sumUntilMet 24 = .ok (.iload 4, 2) := zfCls_sumUntilMet_0.2.2.2.2.2.2.2.2.2.2.2.2.2.1
theorem dCls_sumUntilMet_26 : decode cCls_sumUntilMet 26 = .ok (.iconst 2, 1) := zfCls_sumUntilMet_0.2.2.2.2.2.2.2.2.2.2.2.2.2.2.1
theorem dCls_sumUntilMet_27 : decode cCls_sumUntilMet 27 = .ok (.irem, 1) := zfCls_sumUntilMet_0.2.2.2.2.2.2.2.2.2.2.2.2.2.2.2.1
theorem dCls_sumUntilMet_28 : decode cCls_sumUntilMet 28 = .ok (.ifCond .ne 11, 3) := zfCls_sumUntilMet_0.2.2.2.2.2.2.2.2.2.2.2.2.2.2.2.2.1
theorem dCls_sumUntilMet_31 : decode cCls_sumUntilMet 31 = .ok (.aload_n 0, 1) := zfCls_sumUntilMet_0.2.2.2.2.2.2.2.2.2.2.2.2.2.2.2.2.2.1
theorem dCls_sumUntilMet_32 : decode cCls_sumUntilMet 32 = .ok (.aload_n 2, 1) := zfCls_sumUntilMet_0.2.2.2.2.2.2.2.2.2.2.2.2.2.2.2.2.2.2.1
theorem dCls_sumUntilMet_33 : decode cCls_sumUntilMet 33 = .ok (.invokevirtual 159, 3) := zfCls_sumUntilMet_0.2.2.2.2.2.2.2.2.2.2.2.2.2.2.2.2.2.2.2.1
theorem dCls_sumUntilMet_36 : decode cCls_sumUntilMet 36 = .ok (.goto 8, 3) := zfCls_sumUntilMet_0.2.2.2.2.2.2.2.2.2.2.2.2.2.2.2.2.2.2.2.2.1
theorem dCls_sumUntilMet_39 : decode cCls_sumUntilMet 39 = .ok (.aload_n 1, 1) := zfCls_sumUntilMet_0.2.2.2.2.2.2.2.2.2.2.2.2.2.2.2.2.2.2.2.2.2.1
theorem dCls_sumUntilMet_40 : decode cCls_sumUntilMet 40 = .ok (.aload_n 2, 1) := zfCls_sumUntilMet_0.2.2.2.2.2.2.2.2.2.2.2.2.2.2.2.2.2.2.2.2.2.2.1
theorem dCls_sumUntilMet_41 : decode cCls_sumUntilMet 41 = .ok (.invokevirtual 162, 3) := zfCls_sumUntilMet_0.2.2.2.2.2.2.2.2.2.2.2.2.2.2.2.2.2.2.2.2.2.2.2.1
theorem dCls_sumUntilMet_44 : decode cCls_sumUntilMet 44 = .ok (.iadd, 1) := zfCls_sumUntilMet_0.2.2.2.2.2.2.2.2.2.2.2.2.2.2.2.2.2.2.2.2.2.2.2.2.1
theorem dCls_sumUntilMet_45 : decode cCls_sumUntilMet 45 = .ok (.istore_n 3, 1) := zfCls_sumUntilMet_0.2.2.2.2.2.2.2.2.2.2.2.2.2.2.2.2.2.2.2.2.2.2.2.2.2.1
theorem dCls_sumUntilMet_46 : decode cCls_sumUntilMet 46 = .ok (.iinc 4 1, 3) := zfCls_sumUntilMet_0.2.2.2.2.2.2.2.2.2.2.2.2.2.2.2.2.2.2.2.2.2.2.2.2.2.2.1
theorem dCls_sumUntilMet_49 : decode cCls_sumUntilMet 49 = .ok (.goto (-44), 3) := zfCls_sumUntilMet_0.2.2.2.2.2.2.2.2.2.2.2.2.2.2.2.2.2.2.2.2.2.2.2.2.2.2.2.1
theorem dCls_sumUntilMet_52 : decode cCls_sumUntilMet 52 = .ok (.iload_n 3, 1) := zfCls_sumUntilMet_0.2.2.2.2.2.2.2.2.2.2.2.2.2.2.2.2.2.2.2.2.2.2.2.2.2.2.2.2.1
theorem dCls_sumUntilMet_53 : decode cCls_sumUntilMet 53 = .ok (.ireturn, 1) := zfCls_sumUntilMet_0.2.2.2.2.2.2.2.2.2.2.2.2.2.2.2.2.2.2.2.2.2.2.2.2.2.2.2.2.2.1
theorem zfCls_whereIs_0 : decode cCls_whereIs 0 = .ok (.iload_n 2, 1) ∧ decode cCls_whereIs 1 = .ok (.tableswitch 63 1 3 #[27, 32, 39], 27) ∧ decode cCls_whereIs 28 = .ok (.aload_n 1, 1) ∧ decode cCls_whereIs 29 = .ok (.getfield 172, 3) ∧ decode cCls_whereIs 32 = .ok (.ireturn, 1) ∧ decode cCls_whereIs 33 = .ok (.aload_n 1, 1) ∧ decode cCls_whereIs 34 = .ok (.getfield 172, 3) ∧ decode cCls_whereIs 37 = .ok (.iconst 1, 1) ∧ decode cCls_whereIs 38 = .ok (.isub, 1) ∧ decode cCls_whereIs 39 = .ok (.ireturn, 1) ∧ decode cCls_whereIs 40 = .ok (.aload_n 1, 1) ∧ decode cCls_whereIs 41 = .ok (.getfield 172, 3) ∧ decode cCls_whereIs 44 = .ok (.aload_n 0, 1) ∧ decode cCls_whereIs 45 = .ok (.aload_n 1, 1) ∧ decode cCls_whereIs 46 = .ok (.invokevirtual 155, 3) ∧ decode cCls_whereIs 49 = .ok (.getfield 46, 3) ∧ decode cCls_whereIs 52 = .ok (.if_icmp .ge 7, 3) ∧ decode cCls_whereIs 55 = .ok (.iconst 1, 1) ∧ decode cCls_whereIs 56 = .ok (.goto 4, 3) ∧ decode cCls_whereIs 59 = .ok (.iconst 0, 1) ∧ decode cCls_whereIs 60 = .ok (.invokestatic 192, 3) ∧ decode cCls_whereIs 63 = .ok (.ireturn, 1) ∧ decode cCls_whereIs 64 = .ok (.aload_n 1, 1) ∧ decode cCls_whereIs 65 = .ok (.getfield 172, 3) ∧ decode cCls_whereIs 68 = .ok (.ifCond .le 7, 3) ∧ decode cCls_whereIs 71 = .ok (.iconst 1, 1) ∧ decode cCls_whereIs 72 = .ok (.goto 4, 3) ∧ decode cCls_whereIs 75 = .ok (.iconst 0, 1) ∧ decode cCls_whereIs 76 = .ok (.invokestatic 192, 3) ∧ decode cCls_whereIs 79 = .ok (.ireturn, 1) ∧ True := Jvm.Free.DS.facts (code := cCls_whereIs) 0 [(.iload_n 2, 1), (.tableswitch 63 1 3 #[27, 32, 39], 27), (.aload_n 1, 1), (.getfield 172, 3), (.ireturn, 1), (.aload_n 1, 1), (.getfield 172, 3), (.iconst 1, 1), (.isub, 1), (.ireturn, 1), (.aload_n 1, 1), (.getfield 172, 3), (.aload_n 0, 1), (.aload_n 1, 1), (.invokevirtual 155, 3), (.getfield 46, 3), (.if_icmp .ge 7, 3), (.iconst 1, 1), (.goto 4, 3), (.iconst 0, 1), (.invokestatic 192, 3), (.ireturn, 1), (.aload_n 1, 1), (.getfield 172, 3), (.ifCond .le 7, 3), (.iconst 1, 1), (.goto 4, 3), (.iconst 0, 1), (.invokestatic 192, 3), (.ireturn, 1)] (by decide +kernel) (by decide +kernel)
theorem dCls_whereIs_0 : decode cCls_whereIs 0 = .ok (.iload_n 2, 1) := zfCls_whereIs_0.1
theorem dCls_whereIs_1 : decode cCls_whereIs 1 = .ok (.tableswitch 63 1 3 #[27, 32, 39], 27) := zfCls_whereIs_0.2.1
theorem dCls_whereIs_28 : decode cCls_whereIs 28 = .ok (.aload_n 1, 1) := zfCls_whereIs_0.2.2.1
theorem dCls_whereIs_29 : decode cCls_whereIs 29 = .ok (.getfield 172, 3) := zfCls_whereIs_0.2.2.2.1
theorem dCls_whereIs_32 : decode cCls_whereIs 32 = .ok (.ireturn, 1) := zfCls_whereIs_0.2.2.2.2.1
theorem dCls_whereIs_33 : decode cCls_whereIs 33 = .ok (.aload_n 1, 1) := zfCls_whereIs_0.2.2.2.2.2.1
theorem dCls_whereIs_34 : decode cCls_whereIs 34 = .ok (.getfield 172, 3) := zfCls_whereIs_0.2.2.2.2.2.2.1
theorem dCls_whereIs_37 : decode cCls_whereIs 37 = .ok (.iconst 1, 1) := zfCls_whereIs_0.2.2.2.2.2.2.2.1
theorem dCls_whereIs_38 : decode cCls_whereIs 38 = .ok (.isub, 1) := zfCls_whereIs_0.2.2.2.2.2.2.2.2.1
theorem dCls_whereIs_39 : decode cCls_whereIs 39 = .ok (.ireturn, 1) := zfCls_whereIs_0.2.2.2.2.2.2.2.2.2.1
theorem dCls_whereIs_40 : decode cCls_whereIs 40 = .ok (.aload_n 1, 1) := zfCls_whereIs_0.2.2.2.2.2.2.2.2.2.2.1
theorem dCls_whereIs_41 : decode cCls_whereIs 41 = .ok (.getfield 172, 3) := zfCls_whereIs_0.2.2.2.2.2.2.2.2.2.2.2.1
theorem dCls_whereIs_44 : decode cCls_whereIs 44 = .ok (.aload_n 0, 1) := zfCls_whereIs_0.2.2.2.2.2.2.2.2.2.2.2.2.1
theorem dCls_whereIs_45 : decode cCls_whereIs 45 = .ok (.aload_n 1, 1) := zfCls_whereIs_0.2.2.2.2.2.2.2.2.2.2.2.2.2.1
theorem dCls_whereIs_46 : decode cCls_whereIs 46 = .ok (.invokevirtual 155, 3) := zfCls_whereIs_0.2.2.2.2.2.2.2.2.2.2.2.2.2.2.1
theorem dCls_whereIs_49 : decode cCls_whereIs 49 = .ok (.getfield 46, 3) := zfCls_whereIs_0.2.2.2.2.2.2.2.2.2.2.2.2.2.2.2.1
theorem dCls_whereIs_52 : decode cCls_whereIs 52 = .ok (.if_icmp .ge 7, 3) := zfCls_whereIs_0.2.2.2.2.2.2.2.2.2.2.2.2.2.2.2.2.1
theorem dCls_whereIs_55 : decode cCls_whereIs 55 = .ok (.iconst 1, 1) := zfCls_whereIs_0.2.2.2.2.2.2.2.2.2.2.2.2.2.2.2.2.2.1
theorem dCls_whereIs_56 : decode cCls_whereIs 56 = .ok (.goto 4, 3) := zfCls_whereIs_0.2.2.2.2.2.2.2.2.2.2.2.2.2.2.2.2.2.2.1
theorem dCls_whereIs_59 : decode cCls_whereIs 59 = .ok (.iconst 0, 1) := zfCls_whereIs_0.2.2.2.2.2.2.2.2.2.2.2.2.2.2.2.2.2.2.2.1
theorem dCls_whereIs_60 : decode cCls_whereIs 60 = .ok (.invokestatic 192, 3) := zfCls_whereIs_0.2.2.2.2.2.2.2.2.2.2.2.2.2.2.2.2.2.2.2.2.1
theorem dCls_whereIs_63 : decode cCls_whereIs 63 = .ok (.ireturn, 1) := zfCls_whereIs_0.2.2.2.2.2.2.2.2.2.2.2.2.2.2.2.2.2.2.2.2.2.1
theorem dCls_whereIs_64 : decode cCls_whereIs 64 = .ok (.aload_n 1, 1) := zfCls_whereIs_0.2.2.2.2.2.2.2.2.2.2.2.2.2.2.2.2.2.2.2.2.2.2.1
theorem dCls_whereIs_65 : decode cCls_whereIs 65 = .ok (.getfield 172, 3) := zfCls_whereIs_0.2.2.2.2.2.2.2.2.2.2.2.2.2.2.2.2.2.2.2.2.2.2.2.1
theorem dCls_whereIs_68 : decode cCls_whereIs 68 = .ok (.ifCond .le 7, 3) := zfCls_whereIs_0.2.2.2.2.2.2.2.2.2.2.2.2.2.2.2.2.2.2.2.2.2.2.2.2.1
theorem dCls_whereIs_71 : decode cCls_whereIs 71 = .ok (.iconst 1, 1) := zfCls_whereIs_0.2.2.2.2.2.2.2.2.2.2.2.2.2.2.2.2.2.2.2.2.2.2.2.2.2.1
theorem dCls_whereIs_72 : decode cCls_whereIs 72 = .ok (.goto 4, 3) := zfCls_whereIs_0.2.2.2.2.2.2.2.2.2.2.2.2.2.2.2.2.2.2.2.2.2.2.2.2.2.2.1
theorem dCls_whereIs_75 : decode cCls_whereIs 75 = .ok (.iconst 0, 1) := zfCls_whereIs_0.2.2.2.2.2.2.2.2.2.2.2.2.2.2.2.2.2.2.2.2.2.2.2.2.2.2.2.1
theorem dCls_whereIs_76 : decode cCls_whereIs 76 = .ok (.invokestatic 192, 3) := zfCls_whereIs_0.2.2.2.2.2.2.2.2.2.2.2.2.2.2.2.2.2.2.2.2.2.2.2.2.2.2.2.2.1
theorem dCls_whereIs_79 : decode cCls_whereIs 79 = .ok (.ireturn, 1) := zfCls_whereIs_0.2.2.2.2.2.2.2.2.2.2.2.2.2.2.2.2.2.2.2.2.2.2.2.2.2.2.2.2.2.1
theorem zfCls_itemsOfAll_0 : decode cCls_itemsOfAll 0 = .ok (.iconst 0, 1) ∧ decode cCls_itemsOfAll 1 = .ok (.istore_n 1, 1) ∧ decode cCls_itemsOfAll 2 = .ok (.iconst 0, 1) ∧ decode cCls_itemsOfAll 3 = .ok (.istore_n 2, 1) ∧ decode cCls_itemsOfAll 4 = .ok (.iload_n 2, 1) ∧ decode cCls_itemsOfAll 5 = .ok (.iconst 4, 1) ∧ decode cCls_itemsOfAll 6 = .ok (.if_icmp .ge 21, 3) ∧ decode cCls_itemsOfAll 9 = .ok (.iload_n 1, 1) ∧ decode cCls_itemsOfAll 10 = .ok (.aload_n 0, 1) ∧ decode cCls_itemsOfAll 11 = .ok (.getfield 11, 3) ∧ decode cCls_itemsOfAll 14 = .ok (.iload_n 2, 1) ∧ decode cCls_itemsOfAll 15 = .ok (.aaload, 1) ∧ decode cCls_itemsOfAll 16 = .ok (.getfield 46, 3) ∧ decode cCls_itemsOfAll 19 = .ok (.iadd, 1) ∧ decode cCls_itemsOfAll 20 = .ok (.istore_n 1, 1) ∧ decode cCls_itemsOfAll 21 = .ok (.iinc 2 1, 3) ∧ decode cCls_itemsOfAll 24 = .ok (.goto (-20), 3) ∧ decode cCls_itemsOfAll 27 = .ok (.iload_n 1, 1) ∧ decode cCls_itemsOfAll 28 = .ok (.ireturn, 1) ∧ True := Jvm.Free.DS.facts (code := cCls_itemsOfAll) 0 [(.iconst 0, 1), (.istore_n 1, 1), (.iconst 0, 1), (.istore_n 2, 1), (.iload_n 2, 1), (.iconst 4, 1), (.if_icmp .ge 21, 3), (.iload_n 1, 1), (.aload_n 0, 1), (.getfield 11, 3), (.iload_n 2, 1), (.aaload, 1), (.getfield 46, 3), (.iadd, 1), (.istore_n 1, 1), (.iinc 2 1, 3), (.goto (-20), 3), (.iload_n 1, 1), (.ireturn, 1)] (by decide +kernel) (by decide +kernel)
theorem dCls_itemsOfAll_0 : decode cCls_itemsOfAll 0 = .ok (.iconst 0, 1) := zfCls_itemsOfAll_0.1
theorem dCls_itemsOfAll_1 : decode cCls_itemsOfAll 1 = .ok (.istore_n 1, 1) := zfCls_itemsOfAll_0.2.1
theorem dCls_itemsOfAll_2 : decode cCls_itemsOfAll 2 = .ok (.iconst 0, 1) := zfCls_itemsOfAll_0.2.2.1
theorem dCls_itemsOfAll_3 : decode cCls_itemsOfAll 3 = .ok (.istore_n 2, 1) := zfCls_itemsOfAll_0.2.2.2.1
theorem dCls_itemsOfAll_4 : decode cCls_itemsOfAll 4 = .ok (.iload_n 2, 1) := zfCls_itemsOfAll_0.2.2.2.2.1
theorem dCls_itemsOfAll_5 : decode cCls_itemsOfAll 5 = .ok (.iconst 4, 1) := zfCls_itemsOfAll_0.2.2.2.2.2.1
theorem dCls_itemsOfAll_6 : decode cCls_itemsOfAll 6 = .ok (.if_icmp .ge 21, 3) := zfCls_itemsOfAll_0.2.2.2.2.2.2.1
theorem dCls_itemsOfAll_9 : decode cCls_itemsOfAll 9 = .ok (.iload_n 1, 1) := zfCls_itemsOfAll_0.2.2.2.2.2.2.2.1
theorem dCls_itemsOfAll_10 : decode cCls_itemsOfAll 10 = .ok (.aload_n 0, 1) := zfCls_itemsOfAll_0.2.2.2.2.2.2.2.2.1
theorem dCls_itemsOfAll_11 : decode cCls_itemsOfAll 11 = .ok (.getfield 11, 3) := zfCls_itemsOfAll_0.2.2.2.2.2.2.2.2.2.1
theorem dCls_itemsOfAll_14 : decode cCls_itemsOfAll 14 = .ok (.iload_n 2, 1) := zfCls_itemsOfAll_0.2.2.2.2.2.2.2.2.2.2.1
theorem dCls_itemsOfAll_15 : decode cCls_itemsOfAll 15 = .ok (.aaload, 1) := zfCls_itemsOfAll_0.2.2.2.2.2.2.2.2.2.2.2.1
theorem dCls_itemsOfAll_16 : decode cCls_itemsOfAll 16 = .ok (.getfield 46, 3) := zfCls_itemsOfAll_0.2.2.2.2.2.2.2.2.2.2.2.2.1
theorem dCls_itemsOfAll_19 : decode cCls_itemsOfAll 19 = .ok (.iadd, 1) := zfCls_itemsOfAll_0.2.2.2.2.2.2.2.2.2.2.2.2.2.1
theorem dCls_itemsOfAll_20 : decode cCls_itemsOfAll 20 = .ok (.istore_n 1, 1) := zfCls_itemsOfAll_0.2.2.2.2.2.2.2.2.2.2.2.2.2.2.1
theorem dCls_itemsOfAll_21 : decode cCls_itemsOfAll 21 = .ok (.iinc 2 1, 3) := zfCls_itemsOfAll_0.2.2.2.2.2.2.2.2.2.2.2.2.2.2.2.1
theorem dCls_itemsOfAll_24 : decode cCls_itemsOfAll 24 = .ok (.goto (-20), 3) := zfCls_itemsOfAll_0.2.2.2.2.2.2.2.2.2.2.2.2.2.2.2.2.1
theorem dCls_itemsOfAll_27 : decode cCls_itemsOfAll 27 = .ok (.iload_n 1, 1) := zfCls_itemsOfAll_0.2.2.2.2.2.2.2.2.2.2.2.2.2.2.2.2.2.1
theorem dCls_itemsOfAll_28 : decode cCls_itemsOfAll 28 = .ok (.ireturn, 1) := zfCls_itemsOfAll_0.2.2.2.2.2.2.2.2.2.2.2.2.2.2.2.2.2.2.1
theorem zfCls_cursorsThere_0 : decode cCls_cursorsThere 0 = .ok (.iconst 0, 1) ∧ decode cCls_cursorsThere 1 = .ok (.istore_n 1, 1) ∧ decode cCls_cursorsThere 2 = .ok (.iconst 0, 1) ∧ decode cCls_cursorsThere 3 = .ok (.istore_n 2, 1) ∧ decode cCls_cursorsThere 4 = .ok (.iload_n 2, 1) ∧ decode cCls_cursorsThere 5 = .ok (.iconst 3, 1) ∧ decode cCls_cursorsThere 6 = .ok (.if_icmp .ge 24, 3) ∧ decode cCls_cursorsThere 9 = .ok (.iload_n 1, 1) ∧ decode cCls_cursorsThere 10 = .ok (.aload_n 0, 1) ∧ decode cCls_cursorsThere 11 = .ok (.getfield 17, 3) ∧ decode cCls_cursorsThere 14 = .ok (.iload_n 2, 1) ∧ decode cCls_cursorsThere 15 = .ok (.aaload, 1) ∧ decode cCls_cursorsThere 16 = .ok (.getfield 144, 3) ∧ decode cCls_cursorsThere 19 = .ok (.invokestatic 192, 3) ∧ decode cCls_cursorsThere 22 = .ok (.iadd, 1) ∧ decode cCls_cursorsThere 23 = .ok (.istore_n 1, 1) ∧ decode cCls_cursorsThere 24 = .ok (.iinc 2 1, 3) ∧ decode cCls_cursorsThere 27 = .ok (.goto (-23), 3) ∧ decode cCls_cursorsThere 30 = .ok (.iload_n 1, 1) ∧ decode cCls_cursorsThere 31 = .ok (.ireturn, 1) ∧ True := Jvm.Free.DS.facts (code := cCls_cursorsThere) 0 [(.iconst 0, 1), (.istore_n 1, 1), (.iconst 0, 1), (.istore_n 2, 1), (.iload_n 2, 1), (.iconst 3, 1), (.if_icmp .ge 24, 3), (.iload_n 1, 1), (.aload_n 0, 1), (.getfield 17, 3), (.iload_n 2, 1), (.aaload, 1), (.getfield 144, 3), (.invokestatic 192, 3), (.iadd, 1), (.istore_n 1, 1), (.iinc 2 1, 3), (.goto (-23), 3), (.iload_n 1, 1), (.ireturn, 1)] (by decide +kernel) (by decide +kernel)
theorem dCls_cursorsThere_0 : decode cCls_cursorsThere 0 = .ok (.iconst 0, 1) := zfCls_cursorsThere_0.1
theorem dCls_cursorsThere_1 : decode cCls_cursorsThere 1 = .ok (.istore_n 1, 1) := zfCls_cursorsThere_0.2.1
theorem dCls_cursorsThere_2 : decode cCls_cursorsThere 2 = .ok (.iconst 0, 1) := zfCls_cursorsThere_0.2.2.1
theorem dCls_cursorsThere_3 : decode cCls_cursorsThere 3 = .ok (.istore_n 2, 1) := zfCls_cursorsThere_0.2.2.2.1
theorem dCls_cursorsThere_4 : decode cCls_cursorsThere 4 = .ok (.iload_n 2, 1) := zfCls_cursorsThere_0.2.2.2.2.1
theorem dCls_cursorsThere_5 : decode cCls_cursorsThere 5 = .ok (.iconst 3, 1) := zfCls_cursorsThere_0.2.2.2.2.2.1
theorem dCls_cursorsThere_6 : decode cCls_cursorsThere 6 = .ok (.if_icmp .ge 24, 3) := zfCls_cursorsThere_0.2.2.2.2.2.2.1
theorem dCls_cursorsThere_9 : decode cCls_cursorsThere 9 = .ok (.iload_n 1, 1) := zfCls_cursorsThere_0.2.2.2.2.2.2.2.1
theorem dCls_cursorsThere_10 : decode cCls_cursorsThere 10 = .ok (.aload_n 0, 1) := zfCls_cursorsThere_0.2.2.2.2.2.2.2.2.1
theorem dCls_cursorsThere_11 : decode cCls_cursorsThere 11 = .ok (.getfield 17, 3) := zfCls_cursorsThere_0.2.2.2.2.2.2.2.2.2.1
theorem dCls_cursorsThere_14 : decode cCls_cursorsThere 14 = .ok (.iload_n 2, 1) := zfCls_cursorsThere_0.2.2.2.2.2.2.2.2.2.2.1
theorem dCls_cursorsThere_15 : decode cCls_cursorsThere 15 = .ok (.aaload, 1) := zfCls_cursorsThere_0.2.2.2.2.2.2.2.2.2.2.2.1
theorem dCls_cursorsThere_16 : decode cCls_cursorsThere 16 = .ok (.getfield 144, 3) := zfCls_cursorsThere_0.2.2.2.2.2.2.2.2.2.2.2.2.1
theorem dCls_cursorsThere_19 : decode cCls_cursorsThere 19 = .ok (.invokestatic 192, 3) := zfCls_cursorsThere_0.2.2.2.2.2.2.2.2.2.2.2.2.2.1
theorem dCls_cursorsThere_22 : decode cCls_cursorsThere 22 = .ok (.iadd, 1) := zfCls_cursorsThere_0.2.2.2.2.2.2.2.2.2.2.2.2.2.2.1
theorem dCls_cursorsThere_23 : decode cCls_cursorsThere 23 = .ok (.istore_n 1, 1) := zfCls_cursorsThere_0.2.2.2.2.2.2.2.2.2.2.2.2.2.2.2.1
theorem dCls_cursorsThere_24 : decode cCls_cursorsThere 24 = .ok (.iinc 2 1, 3) := zfCls_cursorsThere_0.2.2.2.2.2.2.2.2.2.2.2.2.2.2.2.2.1
theorem dCls_cursorsThere_27 : decode cCls_cursorsThere 27 = .ok (.goto (-23), 3) := zfCls_cursorsThere_0.2.2.2.2.2.2.2.2.2.2.2.2.2.2.2.2.2.1
theorem dCls_cursorsThere_30 : decode cCls_cursorsThere 30 = .ok (.iload_n 1, 1) := zfCls_cursorsThere_0.2.2.2.2.2.2.2.2.2.2.2.2.2.2.2.2.2.2.1
theorem dCls_cursorsThere_31 : decode cCls_cursorsThere 31 = .ok (.ireturn, 1) := zfCls_cursorsThere_0.2.2.2.2.2.2.2.2.2.2.2.2.2.2.2.2.2.2.2.1
theorem zfCls_cursorsStale_0 : decode cCls_cursorsStale 0 = .ok (.iconst 0, 1) ∧ decode cCls_cursorsStale 1 = .ok (.istore_n 1, 1) ∧ decode cCls_cursorsStale 2 = .ok (.iconst 0, 1) ∧ decode cCls_cursorsStale 3 = .ok (.istore_n 2, 1) ∧ decode cCls_cursorsStale 4 = .ok (.iload_n 2, 1) ∧ decode cCls_cursorsStale 5 = .ok (.iconst 3, 1) ∧ decode cCls_cursorsStale 6 = .ok (.if_icmp .ge 44, 3) ∧ decode cCls_cursorsStale 9 = .ok (.iload_n 1, 1) ∧ decode cCls_cursorsStale 10 = .ok (.aload_n 0, 1) ∧ decode cCls_cursorsStale 11 = .ok (.getfield 17, 3) ∧ decode cCls_cursorsStale 14 = .ok (.iload_n 2, 1) ∧ decode cCls_cursorsStale 15 = .ok (.aaload, 1) ∧ decode cCls_cursorsStale 16 = .ok (.getfield 144, 3) ∧ decode cCls_cursorsStale 19 = .ok (.ifCond .eq 19, 3) ∧ decode cCls_cursorsStale 22 = .ok (.aload_n 0, 1) ∧ decode cCls_cursorsStale 23 = .ok (.getfield 17, 3) ∧ decode cCls_cursorsStale 26 = .ok (.iload_n 2, 1) ∧ decode cCls_cursorsStale 27 = .ok (.aaload, 1) ∧ decode cCls_cursorsStale 28 = .ok (.getfield 152, 3) ∧ decode cCls_cursorsStale 31 = .ok (.ifCond .eq 7, 3) ∧ decode cCls_cursorsStale 34 = .ok (.iconst 1, 1) ∧ decode cCls_cursorsStale 35 = .ok (.goto 4, 3) ∧ decode cCls_cursorsStale 38 = .ok (.iconst 0, 1) ∧ decode cCls_cursorsStale 39 = .ok (.invokestatic 192, 3) ∧ decode cCls_cursorsStale 42 = .ok (.iadd, 1) ∧ decode cCls_cursorsStale 43 = .ok (.istore_n 1, 1) ∧ decode cCls_cursorsStale 44 = .ok (.iinc 2 1, 3) ∧ decode cCls_cursorsStale 47 = .ok (.goto (-43), 3) ∧ decode cCls_cursorsStale 50 = .ok (.iload_n 1, 1) ∧ decode cCls_cursorsStale 51 = .ok (.ireturn, 1) ∧ True := Jvm.Free.DS.facts (code := cCls_cursorsStale) 0 [(.iconst 0, 1), (.istore_n 1, 1), (.iconst 0, 1), (.istore_n 2, 1), (.iload_n 2, 1), (.iconst 3, 1), (.if_icmp .ge 44, 3), (.iload_n 1, 1), (.aload_n 0, 1), (.getfield 17, 3), (.iload_n 2, 1), (.aaload, 1), (.getfield 144, 3), (.ifCond .eq 19, 3), (.aload_n 0, 1), (.getfield 17, 3), (.iload_n 2, 1), (.aaload, 1), (.getfield 152, 3), (.ifCond .eq 7, 3), (.iconst 1, 1), (.goto 4, 3), (.iconst 0, 1), (.invokestatic 192, 3), (.iadd, 1), (.istore_n 1, 1), (.iinc 2 1, 3), (.goto (-43), 3), (.iload_n 1, 1), (.ireturn, 1)] (by decide +kernel) (by decide +kernel)
theorem dCls_cursorsStale_0 : decode cCls_cursorsStale 0 = .ok (.iconst 0, 1) := zfCls_cursorsStale_0.1
theorem dCls_cursorsStale_1 : decode cCls_cursorsStale 1 = .ok (.istore_n 1, 1) := zfCls_cursorsStale_0.2.1
theorem dCls_cursorsStale_2 : decode cCls_cursorsStale 2 = .ok (.iconst 0, 1) := zfCls_cursorsStale_0.2.2.1
theorem dCls_cursorsStale_3 : decode cCls_cursorsStale 3 = .ok (.istore_n 2, 1) := zfCls_cursorsStale_0.2.2.2.1
theorem dCls_cursorsStale_4 : decode cCls_cursorsStale 4 = .ok (.iload_n 2, 1) := zfCls_cursorsStale_0.2.2.2.2.1
theorem dCls_cursorsStale_5 : decode cCls_cursorsStale 5 = .ok (.iconst 3, 1) := zfCls_cursorsStale_0.2.2.2.2.2.1
theorem dCls_cursorsStale_6 : decode cCls_cursorsStale 6 = .ok (.if_icmp .ge 44, 3) := zfCls_cursorsStale_0.2.2.2.2.2.2.1
theorem dCls_cursorsStale_9 : decode cCls_cursorsStale 9 = .ok (.iload_n 1, 1) := zfCls_cursorsStale_0.2.2.2.2.2.2.2.1
theorem dCls_cursorsStale_10 : decode cCls_cursorsStale 10 = .ok (.aload_n 0, 1) := zfCls_cursorsStale_0.2.2.2.2.2.2.2.2.1
theorem dCls_cursorsStale_11 : decode cCls_cursorsStale 11 = .ok (.getfield 17, 3) := zfCls_cursorsStale_0.2.2.2.2.2.2.2.2.2.1
theorem dCls_cursorsStale_14 : decode cCls_cursorsStale 14 = .ok (.iload_n 2, 1) := zfCls_cursorsStale_0.2.2.2.2.2.2.2.2.2.2.1
theorem dCls_cursorsStale_15 : decode cCls_cursorsStale 15 = .ok (.aaload, 1) := zfCls_cursorsStale_0.2.2.2.2.2.2.2.2.2.2.2.1
theorem dCls_cursorsStale_16 : decode cCls_cursorsStale 16 = .ok (.getfield 144, 3) := zfCls_cursorsStale_0.2.2.2.2.2.2.2.2.2.2.2.2.1
theorem dCls_cursorsStale_19 : decode cCls_cursorsStale 19 = .ok (.ifCond .eq 19, 3) := zfCls_cursorsStale_0.2.2.2.2.2.2.2.2.2.2.2.2.2.1
theorem dCls_cursorsStale_22 : decode cCls_cursorsStale 22 = .ok (.aload_n 0, 1) := zfCls_cursorsStale_0.2.2.2.2.2.2.2.2.2.2.2.2.2.2.1
theorem dCls_cursorsStale_23 : decode cCls_cursorsStale 23 = .ok (.getfield 17, 3) := zfCls_cursorsStale_0.2.2.2.2.2.2.2.2.2.2.2.2.2.2.2.1
theorem dCls_cursorsStale_26 : decode cCls_cursorsStale 26 = .ok (.iload_n 2, 1) := zfCls_cursorsStale_0.2.2.2.2.2.2.2.2.2.2.2.2.2.2.2.2.1
theorem dCls_cursorsStale_27 : decode cCls_cursorsStale 27 = .ok (.aaload, 1) := zfCls_cursorsStale_0.2.2.2.2.2.2.2.2.2.2.2.2.2.2.2.2.2.1
theorem dCls_cursorsStale_28 : decode cCls_cursorsStale 28 = .ok (.getfield 152, 3) := zfCls_cursorsStale_0.2.2.2.2.2.2.2.2.2.2.2.2.2.2.2.2.2.2.1
theorem dCls_cursorsStale_31 : decode cCls_cursorsStale 31 = .ok (.ifCond .eq 7, 3) := zfCls_cursorsStale_0.2.2.2.2.2.2.2.2.2.2.2.2.2.2.2.2.2.2.2.1
theorem dCls_cursorsStale_34 : decode cCls_cursorsStale 34 = .ok (.iconst 1, 1) := zfCls_cursorsStale_0.2.2.2.2.2.2.2.2.2.2.2.2.2.2.2.2.2.2.2.2.1
theorem dCls_cursorsStale_35 : decode cCls_cursorsStale 35 = .ok (.goto 4, 3) := zfCls_cursorsStale_0.2.2.2.2.2.2.2.2.2.2.2.2.2.2.2.2.2.2.2.2.2.1
theorem dCls_cursorsStale_38 : decode cCls_cursorsStale 38 = .ok (.iconst 0, 1) := zfCls_cursorsStale_0.2.2.2.2.2.2.2.2.2.2.2.2.2.2.2.2.2.2.2.2.2.2.1
theorem dCls_cursorsStale_39 : decode cCls_cursorsStale 39 = .ok (.invokestatic 192, 3) := zfCls_cursorsStale_0.2.2.2.2.2.2.2.2.2.2.2.2.2.2.2.2.2.2.2.2.2.2.2.1
theorem dCls_cursorsStale_42 : decode cCls_cursorsStale 42 = .ok (.iadd, 1) := zfCls_cursorsStale_0.2.2.2.2.2.2.2.2.2.2.2.2.2.2.2.2.2.2.2.2.2.2.2.2.1
theorem dCls_cursorsStale_43 : decode cCls_cursorsStale 43 = .ok (.istore_n 1, 1) := zfCls_cursorsStale_0.2.2.2.2.2.2.2.2.2.2.2.2.2.2.2.2.2.2.2.2.2.2.2.2.2.1
theorem dCls_cursorsStale_44 : decode cCls_cursorsStale 44 = .ok (.iinc 2 1, 3) := zfCls_cursorsStale_0.2.2.2.2.2.2.2.2.2.2.2.2.2.2.2.2.2.2.2.2.2.2.2.2.2.2.1
theorem dCls_cursorsStale_47 : decode cCls_cursorsStale 47 = .ok (.goto (-43), 3) := zfCls_cursorsStale_0.2.2.2.2.2.2.2.2.2.2.2.2.2.2.2.2.2.2.2.2.2.2.2.2.2.2.2.1
theorem dCls_cursorsStale_50 : decode cCls_cursorsStale 50 = .ok (.iload_n 1, 1) := zfCls_cursorsStale_0.2.2.2.2.2.2.2.2.2.2.2.2.2.2.2.2.2.2.2.2.2.2.2.2.2.2.2.2.1
theorem dCls_cursorsStale_51 : decode cCls_cursorsStale 51 = .ok (.ireturn, 1) := zfCls_cursorsStale_0.2.2.2.2.2.2.2.2.2.2.2.2.2.2.2.2.2.2.2.2.2.2.2.2.2.2.2.2.2.1
theorem zfCls_turnsBack_0 : decode cCls_turnsBack 0 = .ok (.aload_n 0, 1) ∧ decode cCls_turnsBack 1 = .ok (.getfield 29, 3) ∧ decode cCls_turnsBack 4 = .ok (.aload_n 1, 1) ∧ decode cCls_turnsBack 5 = .ok (.invokevirtual 105, 3) ∧ decode cCls_turnsBack 8 = .ok (.aload_n 0, 1) ∧ decode cCls_turnsBack 9 = .ok (.getfield 29, 3) ∧ decode cCls_turnsBack 12 = .ok (.invokevirtual 126, 3) ∧ decode cCls_turnsBack 15 = .ok (.aload_n 0, 1) ∧ decode cCls_turnsBack 16 = .ok (.getfield 29, 3) ∧ decode cCls_turnsBack 19 = .ok (.invokevirtual 126, 3) ∧ decode cCls_turnsBack 22 = .ok (.aload_n 0, 1) ∧ decode cCls_turnsBack 23 = .ok (.getfield 29, 3) ∧ decode cCls_turnsBack 26 = .ok (.aload_n 1, 1) ∧ decode cCls_turnsBack 27 = .ok (.invokevirtual 133, 3) ∧ decode cCls_turnsBack 30 = .ok (.ifCond .ne 5, 3) ∧ decode cCls_turnsBack 33 = .ok (.iconst 0, 1) ∧ decode cCls_turnsBack 34 = .ok (.ireturn, 1) ∧ decode cCls_turnsBack 35 = .ok (.aload_n 0, 1) ∧ decode cCls_turnsBack 36 = .ok (.getfield 29, 3) ∧ decode cCls_turnsBack 39 = .ok (.iconst 1, 1) ∧ decode cCls_turnsBack 40 = .ok (.invokevirtual 112, 3) ∧ decode cCls_turnsBack 43 = .ok (.aload_n 0, 1) ∧ decode cCls_turnsBack 44 = .ok (.getfield 29, 3) ∧ decode cCls_turnsBack 47 = .ok (.iconst (-1), 1) ∧ decode cCls_turnsBack 48 = .ok (.invokevirtual 112, 3) ∧ decode cCls_turnsBack 51 = .ok (.aload_n 0, 1) ∧ decode cCls_turnsBack 52 = .ok (.getfield 29, 3) ∧ decode cCls_turnsBack 55 = .ok (.aload_n 1, 1) ∧ decode cCls_turnsBack 56 = .ok (.invokevirtual 133, 3) ∧ decode cCls_turnsBack 59 = .ok (.ireturn, 1) ∧ True := Jvm.Free.DS.facts (code := cCls_turnsBack) 0 [(.aload_n 0, 1), (.getfield 29, 3), (.aload_n 1, 1), (.invokevirtual 105, 3), (.aload_n 0, 1), (.getfield 29, 3), (.invokevirtual 126, 3), (.aload_n 0, 1), (.getfield 29, 3), (.invokevirtual 126, 3), (.aload_n 0, 1), (.getfield 29, 3), (.aload_n 1, 1), (.invokevirtual 133, 3), (.ifCond .ne 5, 3), (.iconst 0, 1), (.ireturn, 1), (.aload_n 0, 1), (.getfield 29, 3), (.iconst 1, 1), (.invokevirtual 112, 3), (.aload_n 0, 1), (.getfield 29, 3), (.iconst (-1), 1), (.invokevirtual 112, 3), (.aload_n 0, 1), (.getfield 29, 3), (.aload_n 1, 1), (.invokevirtual 133, 3), (.ireturn, 1)] (by decide +kernel) (by decide +kernel)
theorem dCls_turnsBack_0 : decode cCls_turnsBack 0 = .ok (.aload_n 0, 1) := zfCls_turnsBack_0.1
theorem dCls_turnsBack_1 : decode cCls_turnsBack 1 = .ok (.getfield 29, 3) := zfCls_turnsBack_0.2.1
theorem dCls_turnsBack_4 : decode cCls_turnsBack 4 = .ok (.aload_n 1, 1) := zfCls_turnsBack_0.2.2.1
theorem dCls_turnsBack_5 : decode cCls_turnsBack 5 = .ok (.invokevirtual 105, 3) := zfCls_turnsBack_0.2.2.2.1
theorem dCls_turnsBack_8 : decode cCls_turnsBack 8 = .ok (.aload_n 0, 1) := zfCls_turnsBack_0.2.2.2.2.1
theorem dCls_turnsBack_9 : decode cCls_turnsBack 9 = .ok (.getfield 29, 3) := zfCls_turnsBack_0.2.2.2.2.2.1
theorem dCls_turnsBack_12 : decode cCls_turnsBack 12 = .ok (.invokevirtual 126, 3) := zfCls_turnsBack_0.2.2.2.2.2.2.1
theorem dCls_turnsBack_15 : decode cCls_turnsBack 15 = .ok (.aload_n 0, 1) := zfCls_turnsBack_0.2.2.2.2.2.2.2.1
theorem dCls_turnsBack_16 : decode cCls_turnsBack 16 = .ok (.getfield 29, 3) := zfCls_turnsBack_0.2.2.2.2.2.2.2.2.1
theorem dCls_turnsBack_19 : decode cCls_turnsBack 19 = .ok (.invokevirtual 126, 3) := zfCls_turnsBack_0.2.2.2.2.2.2.2.2.2.1
theorem dCls_turnsBack_22 : decode cCls_turnsBack 22 = .ok (.aload_n 0, 1) := zfCls_turnsBack_0.2.2.2.2.2.2.2.2.2.2.1
theorem dCls_turnsBack_23 : decode cCls_turnsBack 23 = .ok (.getfield 29, 3) := zfCls_turnsBack_0.2.2.2.2.2.2.2.2.2.2.2.1
theorem dCls_turnsBack_26 : decode cCls_turnsBack 26 = .ok (.aload_n 1, 1) := zfCls_turnsBack_0.2.2.2.2.2.2.2.2.2.2.2.2.1
theorem dCls_turnsBack_27 : decode cCls_turnsBack 27 = .ok (.invokevirtual 133, 3) := zfCls_turnsBack_0.2.2.2.2.2.2.2.2.2.2.2.2.2.1
theorem dCls_turnsBack_30 : decode cCls_turnsBack 30 = .ok (.ifCond .ne 5, 3) := zfCls_turnsBack_0.2.2.2.2.2.2.2.2.2.2.2.2.2.2.1
theorem dCls_turnsBack_33 : decode cCls_turnsBack 33 = .ok (.iconst 0, 1) := zfCls_turnsBack_0.2.2.2.2.2.2.2.2.2.2.2.2.2.2.2.1
theorem dCls_turnsBack_34 : decode cCls_turnsBack 34 = .ok (.ireturn, 1) := zfCls_turnsBack_0.2.2.2.2.2.2.2.2.2.2.2.2.2.2.2.2.1
theorem dCls_turnsBack_35 : decode cCls_turnsBack 35 = .ok (.aload_n 0, 1) := zfCls_turnsBack_0.2.2.2.2.2.2.2.2.2.2.2.2.2.2.2.2.2.1
theorem dCls_turnsBack_36 : decode cCls_turnsBack 36 = .ok (.getfield 29, 3) := zfCls_turnsBack_0.2.2.2.2.2.2.2.2.2.2.2.2.2.2.2.2.2.2.1
theorem dCls_turnsBack_39 : decode cCls_turnsBack 39 = .ok (.iconst 1, 1) := zfCls_turnsBack_0.2.2.2.2.2.2.2.2.2.2.2.2.2.2.2.2.2.2.2.1
theorem dCls_turnsBack_40 : decode cCls_turnsBack 40 = .ok (.invokevirtual 112, 3) := zfCls_turnsBack_0.2.2.2.2.2.2.2.2.2.2.2.2.2.2.2.2.2.2.2.2.1
theorem dCls_turnsBack_43 : decode cCls_turnsBack 43 = .ok (.aload_n 0, 1) := zfCls_turnsBack_0.2.2.2.2.2.2.2.2.2.2.2.2.2.2.2.2.2.2.2.2.2.1
theorem dCls_turnsBack_44 : decode cCls_turnsBack 44 = .ok (.getfield 29, 3) := zfCls_turnsBack_0.2.2.2.2.2.2.2.2.2.2.2.2.2.2.2.2.2.2.2.2.2.2.1
theorem dCls_turnsBack_47 : decode cCls_turnsBack 47 = .ok (.iconst (-1), 1) := zfCls_turnsBack_0.2.2.2.2.2.2.2.2.2.2.2.2.2.2.2.2.2.2.2.2.2.2.2.1
theorem dCls_turnsBack_48 : decode cCls_turnsBack 48 = .ok (.invokevirtual 112, 3) := zfCls_turnsBack_0.2.2.2.2.2.2.2.2.2.2.2.2.2.2.2.2.2.2.2.2.2.2.2.2.1
theorem dCls_turnsBack_51 : decode cCls_turnsBack 51 = .ok (.aload_n 0, 1) := zfCls_turnsBack_0.2.2.2.2.2.2.2.2.2.2.2.2.2.2.2.2.2.2.2.2.2.2.2.2.2.1
theorem dCls_turnsBack_52 : decode cCls_turnsBack 52 = .ok (.getfield 29, 3) := zfCls_turnsBack_0.2.2.2.2.2.2.2.2.2.2.2.2.2.2.2.2.2.2.2.2.2.2.2.2.2.2.1
theorem dCls_turnsBack_55 : decode cCls_turnsBack 55 = .ok (.aload_n 1, 1) := zfCls_turnsBack_0.2.2.2.2.2.2.2.2.2.2.2.2.2.2.2.2.2.2.2.2.2.2.2.2.2.2.2.1
theorem dCls_turnsBack_56 : decode cCls_turnsBack 56 = .ok (.invokevirtual 133, 3) := zfCls_turnsBack_0.2.2.2.2.2.2.2.2.2.2.2.2.2.2.2.2.2.2.2.2.2.2.2.2.2.2.2.2.1
theorem dCls_turnsBack_59 : decode cCls_turnsBack 59 = .ok (.ireturn, 1) := zfCls_turnsBack_0.2.2.2.2.2.2.2.2.2.2.2.2.2.2.2.2.2.2.2.2.2.2.2.2.2.2.2.2.2.1
theorem zfCls_addsUp_0 : decode cCls_addsUp 0 = .ok (.aload_n 0, 1) ∧ decode cCls_addsUp 1 = .ok (.getfield 29, 3) ∧ decode cCls_addsUp 4 = .ok (.aload_n 1, 1) ∧ decode cCls_addsUp 5 = .ok (.aload_n 2, 1) ∧ decode cCls_addsUp 6 = .ok (.invokevirtual 200, 3) ∧ decode cCls_addsUp 9 = .ok (.ifCond .eq 15, 3) ∧ decode cCls_addsUp 12 = .ok (.aload_n 0, 1) ∧ decode cCls_addsUp 13 = .ok (.aload_n 1, 1) ∧ decode cCls_addsUp 14 = .ok (.aload_n 2, 1) ∧ decode cCls_addsUp 15 = .ok (.iconst 0, 1) ∧ decode cCls_addsUp 16 = .ok (.invokevirtual 325, 3) ∧ decode cCls_addsUp 19 = .ok (.ifCond .ne 5, 3) ∧ decode cCls_addsUp 22 = .ok (.iconst 0, 1) ∧ decode cCls_addsUp 23 = .ok (.ireturn, 1) ∧ decode cCls_addsUp 24 = .ok (.aload_n 0, 1) ∧ decode cCls_addsUp 25 = .ok (.getfield 29, 3) ∧ decode cCls_addsUp 28 = .ok (.aload_n 1, 1) ∧ decode cCls_addsUp 29 = .ok (.aload_n 2, 1) ∧ decode cCls_addsUp 30 = .ok (.invokevirtual 203, 3) ∧ decode cCls_addsUp 33 = .ok (.ifCond .eq 13, 3) ∧ decode cCls_addsUp 36 = .ok (.aload_n 0, 1) ∧ decode cCls_addsUp 37 = .ok (.aload_n 1, 1) ∧ decode cCls_addsUp 38 = .ok (.aload_n 2, 1) ∧ decode cCls_addsUp 39 = .ok (.iconst 1, 1) ∧ decode cCls_addsUp 40 = .ok (.invokevirtual 325, 3) ∧ decode cCls_addsUp 43 = .ok (.ifCond .eq 7, 3) ∧ decode cCls_addsUp 46 = .ok (.iconst 1, 1) ∧ decode cCls_addsUp 47 = .ok (.goto 4, 3) ∧ decode cCls_addsUp 50 = .ok (.iconst 0, 1) ∧ decode cCls_addsUp 51 = .ok (.ireturn, 1) ∧ True := Jvm.Free.DS.facts (code := cCls_addsUp) 0 [(.aload_n 0, 1), (.getfield 29, 3), (.aload_n 1, 1), (.aload_n 2, 1), (.invokevirtual 200, 3), (.ifCond .eq 15, 3), (.aload_n 0, 1), (.aload_n 1, 1), (.aload_n 2, 1), (.iconst 0, 1), (.invokevirtual 325, 3), (.ifCond .ne 5, 3), (.iconst 0, 1), (.ireturn, 1), (.aload_n 0, 1), (.getfield 29, 3), (.aload_n 1, 1), (.aload_n 2, 1), (.invokevirtual 203, 3), (.ifCond .eq 13, 3), (.aload_n 0, 1), (.aload_n 1, 1), (.aload_n 2, 1), (.iconst 1, 1), (.invokevirtual 325, 3), (.ifCond .eq 7, 3), (.iconst 1, 1), (.goto 4, 3), (.iconst 0, 1), (.ireturn, 1)] (by decide +kernel) (by decide +kernel)
theorem dCls_addsUp_0 : decode cCls_addsUp 0 = .ok (.aload_n 0, 1) := zfCls_addsUp_0.1
theorem dCls_addsUp_1 : decode cCls_addsUp 1 = .ok (.getfield 29, 3) := zfCls_addsUp_0.2.1
theorem dCls_addsUp_4 : decode cCls_addsUp 4 = .ok (.aload_n 1, 1) := zfCls_addsUp_0.2.2.1
theorem dCls_addsUp_5 : decode cCls_addsUp 5 = .ok (.aload_n 2, 1) := zfCls_addsUp_0.2.2.2.1
theorem dCls_addsUp_6 : decode cCls_addsUp 6 = .ok (.invokevirtual 200, 3) := zfCls_addsUp_0.2.2.2.2.1
theorem dCls_addsUp_9 : decode cCls_addsUp 9 = .ok (.ifCond .eq 15, 3) := zfCls_addsUp_0.2.2.2.2.2.1
theorem dCls_addsUp_12 : decode cCls_addsUp 12 = .ok (.aload_n 0, 1) := zfCls_addsUp_0.2.2.2.2.2.2.1
theorem dCls_addsUp_13 : decode cCls_addsUp 13 = .ok (.aload_n 1, 1) := zfCls_addsUp_0.2.2.2.2.2.2.2.1
theorem dCls_addsUp_14 : decode cCls_addsUp 14 = .ok (.aload_n 2, 1) := zfCls_addsUp_0.2.2.2.2.2.2.2.2.1
theorem dCls_addsUp_15 : decode cCls_addsUp 15 = .ok (.iconst 0, 1) := zfCls_addsUp_0.2.2.2.2.2.2.2.2.2.1
theorem dCls_addsUp_16 : decode cCls_addsUp 16 = .ok (.invokevirtual 325, 3) := zfCls_addsUp_0.2.2.2.2.2.2.2.2.2.2.1
theorem dCls_addsUp_19 : decode cCls_addsUp 19 = .ok (.ifCond .ne 5, 3) := zfCls_addsUp_0.2.2.2.2.2.2.2.2.2.2.2.1
theorem dCls_addsUp_22 : decode cCls_addsUp 22 = .ok (.iconst 0, 1) := zfCls_addsUp_0.2.2.2.2.2.2.2.2.2.2.2.2.1
theorem dCls_addsUp_23 : decode cCls_addsUp 23 = .ok (.ireturn, 1) := zfCls_addsUp_0.2.2.2.2.2.2.2.2.2.2.2.2.2.1
theorem dCls_addsUp_24 : decode cCls_addsUp 24 = .ok (.aload_n 0, 1) := zfCls_addsUp_0.2.2.2.2.2.2.2.2.2.2.2.2.2.2.1
theorem dCls_addsUp_25 : decode cCls_addsUp 25 = .ok (.getfield 29, 3) := zfCls_addsUp_0.2.2.2.2.2.2.2.2.2.2.2.2.2.2.2.1
theorem dCls_addsUp_28 : decode cCls_addsUp 28 = .ok (.aload_n 1, 1) := zfCls_addsUp_0.2.2.2.2.2.2.2.2.2.2.2.2.2.2.2.2.1
theorem dCls_addsUp_29 : decode cCls_addsUp 29 = .ok (.aload_n 2, 1) := zfCls_addsUp_0.2.2.2.2.2.2.2.2.2.2.2.2.2.2.2.2.2.1
theorem dCls_addsUp_30 : decode cCls_addsUp 30 = .ok (.invokevirtual 203, 3) := zfCls_addsUp_0.2.2.2.2.2.2.2.2.2.2.2.2.2.2.2.2.2.2.1
theorem dCls_addsUp_33 : decode cCls_addsUp 33 = .ok (.ifCond .eq 13, 3) := zfCls_addsUp_0.2.2.2.2.2.2.2.2.2.2.2.2.2.2.2.2.2.2.2.1
theorem dCls_addsUp_36 : decode cCls_addsUp 36 = .ok (.aload_n 0, 1) := zfCls_addsUp_0.2.2.2.2.2.2.2.2.2.2.2.2.2.2.2.2.2.2.2.2.1
theorem dCls_addsUp_37 : decode cCls_addsUp 37 = .ok (.aload_n 1, 1) := zfCls_addsUp_0.2.2.2.2.2.2.2.2.2.2.2.2.2.2.2.2.2.2.2.2.2.1
theorem dCls_addsUp_38 : decode cCls_addsUp 38 = .ok (.aload_n 2, 1) := zfCls_addsUp_0.2.2.2.2.2.2.2.2.2.2.2.2.2.2.2.2.2.2.2.2.2.2.1
theorem dCls_addsUp_39 : decode cCls_addsUp 39 = .ok (.iconst 1, 1) := zfCls_addsUp_0.2.2.2.2.2.2.2.2.2.2.2.2.2.2.2.2.2.2.2.2.2.2.2.1
theorem dCls_addsUp_40 : decode cCls_addsUp 40 = .ok (.invokevirtual 325, 3) := zfCls_addsUp_0.2.2.2.2.2.2.2.2.2.2.2.2.2.2.2.2.2.2.2.2.2.2.2.2.1
theorem dCls_addsUp_43 : decode cCls_addsUp 43 = .ok (.ifCond .eq 7, 3) := zfCls_addsUp_0.2.2.2.2.2.2.2.2.2.2.2.2.2.2.2.2.2.2.2.2.2.2.2.2.2.1
theorem dCls_addsUp_46 : decode cCls_addsUp 46 = .ok (.iconst 1, 1) := zfCls_addsUp_0.2.2.2.2.2.2.2.2.2.2.2.2.2.2.2.2.2.2.2.2.2.2.2.2.2.2.1
theorem dCls_addsUp_47 : decode cCls_addsUp 47 = .ok (.goto 4, 3) := zfCls_addsUp_0.2.2.2.2.2.2.2.2.2.2.2.2.2.2.2.2.2.2.2.2.2.2.2.2.2.2.2.1
theorem dCls_addsUp_50 : decode cCls_addsUp 50 = .ok (.iconst 0, 1) := zfCls_addsUp_0.2.2.2.2.2.2.2.2.2.2.2.2.2.2.2.2.2.2.2.2.2.2.2.2.2.2.2.2.1
theorem dCls_addsUp_51 : decode cCls_addsUp 51 = .ok (.ireturn, 1) := zfCls_addsUp_0.2.2.2.2.2.2.2.2.2.2.2.2.2.2.2.2.2.2.2.2.2.2.2.2.2.2.2.2.2.1
theorem zfCls_agreesWithResult_0 : decode cCls_agreesWithResult 0 = .ok (.aload_n 0, 1) ∧ decode cCls_agreesWithResult 1 = .ok (.aload_n 1, 1) ∧ decode cCls_agreesWithResult 2 = .ok (.aload_n 2, 1) ∧ decode cCls_agreesWithResult 3 = .ok (.iload_n 3, 1) ∧ decode cCls_agreesWithResult 4 = .ok (.iconst 2, 1) ∧ decode cCls_agreesWithResult 5 = .ok (.invokevirtual 329, 3) ∧ decode cCls_agreesWithResult 8 = .ok (.ifCond .eq 29, 3) ∧ decode cCls_agreesWithResult 11 = .ok (.aload_n 0, 1) ∧ decode cCls_agreesWithResult 12 = .ok (.aload_n 1, 1) ∧ decode cCls_agreesWithResult 13 = .ok (.aload_n 2, 1) ∧ decode cCls_agreesWithResult 14 = .ok (.iload_n 3, 1) ∧ decode cCls_agreesWithResult 15 = .ok (.iconst 3, 1) ∧ decode cCls_agreesWithResult 16 = .ok (.invokevirtual 329, 3) ∧ decode cCls_agreesWithResult 19 = .ok (.ifCond .eq 18, 3) ∧ decode cCls_agreesWithResult 22 = .ok (.aload_n 0, 1) ∧ decode cCls_agreesWithResult 23 = .ok (.aload_n 1, 1) ∧ decode cCls_agreesWithResult 24 = .ok (.aload_n 2, 1) ∧ decode cCls_agreesWithResult 25 = .ok (.iload_n 3, 1) ∧ decode cCls_agreesWithResult 26 = .ok (.iconst (-1), 1) ∧ decode cCls_agreesWithResult 27 = .ok (.invokevirtual 329, 3) ∧ decode cCls_agreesWithResult 30 = .ok (.ifCond .eq 7, 3) ∧ decode cCls_agreesWithResult 33 = .ok (.iconst 1, 1) ∧ decode cCls_agreesWithResult 34 = .ok (.goto 4, 3) ∧ decode cCls_agreesWithResult 37 = .ok (.iconst 0, 1) ∧ decode cCls_agreesWithResult 38 = .ok (.ireturn, 1) ∧ True := Jvm.Free.DS.facts (code := cCls_agreesWithResult) 0 [(.aload_n 0, 1), (.aload_n 1, 1), (.aload_n 2, 1), (.iload_n 3, 1), (.iconst 2, 1), (.invokevirtual 329, 3), (.ifCond .eq 29, 3), (.aload_n 0, 1), (.aload_n 1, 1), (.aload_n 2, 1), (.iload_n 3, 1), (.iconst 3, 1), (.invokevirtual 329, 3), (.ifCond .eq 18, 3), (.aload_n 0, 1), (.aload_n 1, 1), (.aload_n 2, 1), (.iload_n 3, 1), (.iconst (-1), 1), (.invokevirtual 329, 3), (.ifCond .eq 7, 3), (.iconst 1, 1), (.goto 4, 3), (.iconst 0, 1), (.ireturn, 1)] (by decide +kernel) (by decide +kernel)
theorem dCls_agreesWithResult_0 : decode cCls_agreesWithResult 0 = .ok (.aload_n 0, 1) := zfCls_agreesWithResult_0.1
theorem dCls_agreesWithResult_1 : decode cCls_agreesWithResult 1 = .ok (.aload_n 1, 1) := zfCls_agreesWithResult_0.2.1
theorem dCls_agreesWithResult_2 : decode cCls_agreesWithResult 2 = .ok (.aload_n 2, 1) := zfCls_agreesWithResult_0.2.2.1
theorem dCls_agreesWithResult_3 : decode cCls_agreesWithResult 3 = .ok (.iload_n 3, 1) := zfCls_agreesWithResult_0.2.2.2.1
theorem dCls_agreesWithResult_4 : decode cCls_agreesWithResult 4 = .ok (.iconst 2, 1) := zfCls_agreesWithResult_0.2.2.2.2.1
theorem dCls_agreesWithResult_5 : decode cCls_agreesWithResult 5 = .ok (.invokevirtual 329, 3) := zfCls_agreesWithResult_0.2.2.2.2.2.1
theorem dCls_agreesWithResult_8 : decode cCls_agreesWithResult 8 = .ok (.ifCond .eq 29, 3) := zfCls_agreesWithResult_0.2.2.2.2.2.2.1
theorem dCls_agreesWithResult_11 : decode cCls_agreesWithResult 11 = .ok (.aload_n 0, 1) := zfCls_agreesWithResult_0.2.2.2.2.2.2.2.1
theorem dCls_agreesWithResult_12 : decode cCls_agreesWithResult 12 = .ok (.aload_n 1, 1) := zfCls_agreesWithResult_0.2.2.2.2.2.2.2.2.1
theorem dCls_agreesWithResult_13 : decode cCls_agreesWithResult 13 = .ok (.aload_n 2, 1) := zfCls_agreesWithResult_0.2.2.2.2.2.2.2.2.2.1
theorem dCls_agreesWithResult_14 : decode cCls_agreesWithResult 14 = .ok (.iload_n 3, 1) := zfCls_agreesWithResult_0.2.2.2.2.2.2.2.2.2.2.1
theorem dCls_agreesWithResult_15 : decode cCls_agreesWithResult 15 = .ok (.iconst 3, 1) := zfCls_agreesWithResult_0.2.2.2.2.2.2.2.2.2.2.2.1
theorem dCls_agreesWithResult_16 : decode cCls_agreesWithResult 16 = .ok (.invokevirtual 329, 3) := zfCls_agreesWithResult_0.2.2.2.2.2.2.2.2.2.2.2.2.1
theorem dCls_agreesWithResult_19 : decode cCls_agreesWithResult 19 = .ok (.ifCond .eq 18, 3) := zfCls_agreesWithResult_0.2.2.2.2.2.2.2.2.2.2.2.2.2.1
theorem dCls_agreesWithResult_22 : decode cCls_agreesWithResult 22 = .ok (.aload_n 0, 1) := zfCls_agreesWithResult_0.2.2.2.2.2.2.2.2.2.2.2.2.2.2.1
theorem dCls_agreesWithResult_23 : decode cCls_agreesWithResult 23 = .ok (.aload_n 1, 1) := zfCls_agreesWithResult_0.2.2.2.2.2.2.2.2.2.2.2.2.2.2.2.1
theorem dCls_agreesWithResult_24 : decode cCls_agreesWithResult 24 = .ok (.aload_n 2, 1) := zfCls_agreesWithResult_0.2.2.2.2.2.2.2.2.2.2.2.2.2.2.2.2.1
theorem dCls_agreesWithResult_25 : decode cCls_agreesWithResult 25 = .ok (.iload_n 3, 1) := zfCls_agreesWithResult_0.2.2.2.2.2.2.2.2.2.2.2.2.2.2.2.2.2.1
theorem dCls_agreesWithResult_26 : decode cCls_agreesWithResult 26 = .ok (.iconst (-1), 1) := zfCls_agreesWithResult_0.2.2.2.2.2.2.2.2.2.2.2.2.2.2.2.2.2.2.1
theorem dCls_agreesWithResult_27 : decode cCls_agreesWithResult 27 = .ok (.invokevirtual 329, 3) := zfCls_agreesWithResult_0.2.2.2.2.2.2.2.2.2.2.2.2.2.2.2.2.2.2.2.1
theorem dCls_agreesWithResult_30 : decode cCls_agreesWithResult 30 = .ok (.ifCond .eq 7, 3) := zfCls_agreesWithResult_0.2.2.2.2.2.2.2.2.2.2.2.2.2.2.2.2.2.2.2.2.1
theorem dCls_agreesWithResult_33 : decode cCls_agreesWithResult 33 = .ok (.iconst 1, 1) := zfCls_agreesWithResult_0.2.2.2.2.2.2.2.2.2.2.2.2.2.2.2.2.2.2.2.2.2.1
theorem dCls_agreesWithResult_34 : decode cCls_agreesWithResult 34 = .ok (.goto 4, 3) := zfCls_agreesWithResult_0.2.2.2.2.2.2.2.2.2.2.2.2.2.2.2.2.2.2.2.2.2.2.1
theorem dCls_agreesWithResult_37 : decode cCls_agreesWithResult 37 = .ok (.iconst 0, 1) := zfCls_agreesWithResult_0.2.2.2.2.2.2.2.2.2.2.2.2.2.2.2.2.2.2.2.2.2.2.2.1
theorem dCls_agreesWithResult_38 : decode cCls_agreesWithResult 38 = .ok (.ireturn, 1) := zfCls_agreesWithResult_0.2.2.2.2.2.2.2.2.2.2.2.2.2.2.2.2.2.2.2.2.2.2.2.2.1
theorem zfCls_isResultAt_0 : decode cCls_isResultAt 0 = .ok (.aload_n 1, 1) ∧ decode cCls_isResultAt 1 = .ok (.iload 4, 2) ∧ decode cCls_isResultAt 3 = .ok (.invokevirtual 212, 3) ∧ decode cCls_isResultAt 6 = .ok (.istore 5, 2) ∧ decode cCls_isResultAt 8 = .ok (.aload_n 2, 1) ∧ decode cCls_isResultAt 9 = .ok (.iload 4, 2) ∧ decode cCls_isResultAt 11 = .ok (.invokevirtual 212, 3) ∧ decode cCls_isResultAt 14 = .ok (.istore 6, 2) ∧ decode cCls_isResultAt 16 = .ok (.aload_n 0, 1) ∧ decode cCls_isResultAt 17 = .ok (.getfield 29, 3) ∧ decode cCls_isResultAt 20 = .ok (.iload 4, 2) ∧ decode cCls_isResultAt 22 = .ok (.invokevirtual 212, 3) ∧ decode cCls_isResultAt 25 = .ok (.iload_n 3, 1) ∧ decode cCls_isResultAt 26 = .ok (.ifCond .eq 11, 3) ∧ decode cCls_isResultAt 29 = .ok (.iload 5, 2) ∧ decode cCls_isResultAt 31 = .ok (.iload 6, 2) ∧ decode cCls_isResultAt 33 = .ok (.imul, 1) ∧ decode cCls_isResultAt 34 = .ok (.goto 8, 3) ∧ decode cCls_isResultAt 37 = .ok (.iload 5, 2) ∧ decode cCls_isResultAt 39 = .ok (.iload 6, 2) ∧ decode cCls_isResultAt 41 = .ok (.iadd, 1) ∧ decode cCls_isResultAt 42 = .ok (.sipush 9973, 3) ∧ decode cCls_isResultAt 45 = .ok (.invokestatic 333, 3) ∧ decode cCls_isResultAt 48 = .ok (.if_icmp .ne 7, 3) ∧ decode cCls_isResultAt 51 = .ok (.iconst 1, 1) ∧ decode cCls_isResultAt 52 = .ok (.goto 4, 3) ∧ decode cCls_isResultAt 55 = .ok (.iconst 0, 1) ∧ decode cCls_isResultAt 56 = .ok (.ireturn, 1) ∧ True := Jvm.Free.DS.facts (code := cCls_isResultAt) 0 [(.aload_n 1, 1), (.iload 4, 2), (.invokevirtual 212, 3), (.istore 5, 2), (.aload_n 2, 1), (.iload 4, 2), (.invokevirtual 212, 3), (.istore 6, 2), (.aload_n 0, 1), (.getfield 29, 3), (.iload 4, 2), (.invokevirtual 212, 3), (.iload_n 3, 1), (.ifCond .eq 11, 3), (.iload 5, 2), (.iload 6, 2), (.imul, 1), (.goto 8, 3), (.iload 5, 2), (.iload 6, 2), (.iadd, 1), (.sipush 9973, 3), (.invokestatic 333, 3), (.if_icmp .ne 7, 3), (.iconst 1, 1), (.goto 4, 3), (.iconst 0, 1), (.ireturn, 1)] (by decide +kernel) (by decide +kernel)
theorem dCls_isResultAt_0 : decode cCls_isResultAt 0 = .ok (.aload_n 1, 1) := zfCls_isResultAt_0.1
theorem dCls_isResultAt_1 : decode cCls_isResultAt 1 = .ok (.iload 4, 2) := zfCls_isResultAt_0.2.1
theorem dCls_isResultAt_3 : decode cCls_isResultAt 3 = .ok (.invokevirtual 212, 3) := zfCls_isResultAt_0.2.2.1
theorem dCls_isResultAt_6 : decode cCls_isResultAt 6 = .ok (.istore 5, 2) := zfCls_isResultAt_0.2.2.2.1
theorem dCls_isResultAt_8 : decode cCls_isResultAt 8 = .ok (.aload_n 2, 1) := zfCls_isResultAt_0.2.2.2.2.1
theorem dCls_isResultAt_9 : decode cCls_isResultAt 9 = .ok (.iload 4, 2) := zfCls_isResultAt_0.2.2.2.2.2.1
theorem dCls_isResultAt_11 : decode cCls_isResultAt 11 = .ok (.invokevirtual 212, 3) := zfCls_isResultAt_0.2.2.2.2.2.2.1
theorem dCls_isResultAt_14 : decode cCls_isResultAt 14 = .ok (.istore 6, 2) := zfCls_isResultAt_0.2.2.2.2.2.2.2.1
theorem dCls_isResultAt_16 : decode cCls_isResultAt 16 = .ok (.aload_n 0, 1) := zfCls_isResultAt_0.2.2.2.2.2.2.2.2.1
theorem dCls_isResultAt_17 : decode cCls_isResultAt 17 = .ok (.getfield 29, 3) := zfCls_isResultAt_0.2.2.2.2.2.2.2.2.2.1
theorem dCls_isResultAt_20 : decode cCls_isResultAt 20 = .ok (.iload 4, 2) := zfCls_isResultAt_0.2.2.2.2.2.2.2.2.2.2.1
theorem dCls_isResultAt_22 : decode cCls_isResultAt 22 = .ok (.invokevirtual 212, 3) := zfCls_isResultAt_0.2.2.2.2.2.2.2.2.2.2.2.1
theorem dCls_isResultAt_25 : decode cCls_isResultAt 25 = .ok (.iload_n 3, 1) := zfCls_isResultAt_0.2.2.2.2.2.2.2.2.2.2.2.2.1
theorem dCls_isResultAt_26 : decode cCls_isResultAt 26 = .ok (.ifCond .eq 11, 3) := zfCls_isResultAt_0.2.2.2.2.2.2.2.2.2.2.2.2.2.1
theorem dCls_isResultAt_29 : decode cCls_isResultAt 29 = .ok (.iload 5, 2) := zfCls_isResultAt_0.2.2.2.2.2.2.2.2.2.2.2.2.2.2.1
theorem dCls_isResultAt_31 : decode cCls_isResultAt 31 = .ok (.iload 6, 2) := zfCls_isResultAt_0.2.2.2.2.2.2.2.2.2.2.2.2.2.2.2.1
theorem dCls_isResultAt_33 : decode cCls_isResultAt 33 = .ok (.imul, 1) := zfCls_isResultAt_0.2.2.2.2.2.2.2.2.2.2.2.2.2.2.2.2.1
theorem dCls_isResultAt_34 : decode cCls_isResultAt 34 = .ok (.goto 8, 3) := zfCls_isResultAt_0.2.2.2.2.2.2.2.2.2.2.2.2.2.2.2.2.2.1
theorem dCls_isResultAt_37 : decode cCls_isResultAt 37 = .ok (.iload 5, 2) := zfCls_isResultAt_0.2.2.2.2.2.2.2.2.2.2.2.2.2.2.2.2.2.2.1
theorem dCls_isResultAt_39 : decode cCls_isResultAt 39 = .ok (.iload 6, 2) := zfCls_isResultAt_0.2.2.2.2.2.2.2.2.2.2.2.2.2.2.2.2.2.2.2.1
theorem dCls_isResultAt_41 : decode cCls_isResultAt 41 = .ok (.iadd, 1) := zfCls_isResultAt_0.2.2.2.2.2.2.2.2.2.2.2.2.2.2.2.2.2.2.2.2.1
theorem dCls_isResultAt_42 : decode cCls_isResultAt 42 = .ok (.sipush 9973, 3) := zfCls_isResultAt_0.2.2.2.2.2.2.2.2.2.2.2.2.2.2.2.2.2.2.2.2.2.1
theorem dCls_isResultAt_45 : decode cCls_isResultAt 45 = .ok (.invokestatic 333, 3) := zfCls_isResultAt_0.2.2.2.2.2.2.2.2.2.2.2.2.2.2.2.2.2.2.2.2.2.2.1
theorem dCls_isResultAt_48 : decode cCls_isResultAt 48 = .ok (.if_icmp .ne 7, 3) := zfCls_isResultAt_0.2.2.2.2.2.2.2.2.2.2.2.2.2.2.2.2.2.2.2.2.2.2.2.1
theorem dCls_isResultAt_51 : decode cCls_isResultAt 51 = .ok (.iconst 1, 1) := zfCls_isResultAt_0.2.2.2.2.2.2.2.2.2.2.2.2.2.2.2.2.2.2.2.2.2.2.2.2.1
theorem dCls_isResultAt_52 : decode cCls_isResultAt 52 = .ok (.goto 4, 3) := zfCls_isResultAt_0.2.2.2.2.2.2.2.2.2.2.2.2.2.2.2.2.2.2.2.2.2.2.2.2.2.1
theorem dCls_isResultAt_55 : decode cCls_isResultAt 55 = .ok (.iconst 0, 1) := zfCls_isResultAt_0.2.2.2.2.2.2.2.2.2.2.2.2.2.2.2.2.2.2.2.2.2.2.2.2.2.2.1
theorem dCls_isResultAt_56 : decode cCls_isResultAt 56 = .ok (.ireturn, 1) := zfCls_isResultAt_0.2.2.2.2.2.2.2.2.2.2.2.2.2.2.2.2.2.2.2.2.2.2.2.2.2.2.2.1
theorem zfCls_isRecencySound_0 : decode cCls_isRecencySound 0 = .ok (.aload_n 0, 1) ∧ decode cCls_isRecencySound 1 = .ok (.getfield 24, 3) ∧ decode cCls_isRecencySound 4 = .ok (.getfield 234, 3) ∧ decode cCls_isRecencySound 7 = .ok (.invokevirtual 237, 3) ∧ decode cCls_isRecencySound 10 = .ok (.ifCond .ne 5, 3) ∧ decode cCls_isRecencySound 13 = .ok (.iconst 0, 1) ∧ decode cCls_isRecencySound 14 = .ok (.ireturn, 1) ∧ decode cCls_isRecencySound 15 = .ok (.iconst 0, 1) ∧ decode cCls_isRecencySound 16 = .ok (.istore_n 1, 1) ∧ decode cCls_isRecencySound 17 = .ok (.iload_n 1, 1) ∧ decode cCls_isRecencySound 18 = .ok (.iconst 4, 1) ∧ decode cCls_isRecencySound 19 = .ok (.if_icmp .ge 46, 3) ∧ decode cCls_isRecencySound 22 = .ok (.aload_n 0, 1) ∧ decode cCls_isRecencySound 23 = .ok (.getfield 11, 3) ∧ decode cCls_isRecencySound 26 = .ok (.iload_n 1, 1) ∧ decode cCls_isRecencySound 27 = .ok (.aaload, 1) ∧ decode cCls_isRecencySound 28 = .ok (.invokevirtual 237, 3) ∧ decode cCls_isRecencySound 31 = .ok (.ifCond .eq 28, 3) ∧ decode cCls_isRecencySound 34 = .ok (.aload_n 0, 1) ∧ decode cCls_isRecencySound 35 = .ok (.getfield 24, 3) ∧ decode cCls_isRecencySound 38 = .ok (.getfield 228, 3) ∧ decode cCls_isRecencySound 41 = .ok (.aload_n 0, 1) ∧ decode cCls_isRecencySound 42 = .ok (.getfield 24, 3) ∧ decode cCls_isRecencySound 45 = .ok (.aload_n 0, 1) ∧ decode cCls_isRecencySound 46 = .ok (.getfield 11, 3) ∧ decode cCls_isRecencySound 49 = .ok (.iload_n 1, 1) ∧ decode cCls_isRecencySound 50 = .ok (.aaload, 1) ∧ decode cCls_isRecencySound 51 = .ok (.invokevirtual 247, 3) ∧ decode cCls_isRecencySound 54 = .ok (.if_icmp .le 5, 3) ∧ decode cCls_isRecencySound 57 = .ok (.iconst 0, 1) ∧ decode cCls_isRecencySound 58 = .ok (.ireturn, 1) ∧ decode cCls_isRecencySound 59 = .ok (.iinc 1 1, 3) ∧ True := Jvm.Free.DS.facts (code := cCls_isRecencySound) 0 [(.aload_n 0, 1), (.getfield 24, 3), (.getfield 234, 3), (.invokevirtual 237, 3), (.ifCond .ne 5, 3), (.iconst 0, 1), (.ireturn, 1), (.iconst 0, 1), (.istore_n 1, 1), (.iload_n 1, 1), (.iconst 4, 1), (.if_icmp .ge 46, 3), (.aload_n 0, 1), (.getfield 11, 3), (.iload_n 1, 1), (.aaload, 1), (.invokevirtual 237, 3), (.ifCond .eq 28, 3), (.aload_n 0, 1), (.getfield 24, 3), (.getfield 228, 3), (.aload_n 0, 1), (.getfield 24, 3), (.aload_n 0, 1), (.getfield 11, 3), (.iload_n 1, 1), (.aaload, 1), (.invokevirtual 247, 3), (.if_icmp .le 5, 3), (.iconst 0, 1), (.ireturn, 1), (.iinc 1 1, 3)] (by decide +kernel) (by decide +kernel)
theorem dCls_isRecencySound_0 : decode cCls_isRecencySound 0 = .ok (.aload_n 0, 1) := zfCls_isRecencySound_0.1
theorem dCls_isRecencySound_1 : decode cCls_isRecencySound 1 = .ok (.getfield 24, 3) := zfCls_isRecencySound_0.2.1
theorem dCls_isRecencySound_4 : decode cCls_isRecencySound 4 = .ok (.getfield 234, 3) := zfCls_isRecencySound_0.2.2.1
theorem dCls_isRecencySound_7 : decode cCls_isRecencySound 7 = .ok (.invokevirtual 237, 3) := zfCls_isRecencySound_0.2.2.2.1
theorem dCls_isRecencySound_10 : decode cCls_isRecencySound 10 = .ok (.ifCond .ne 5, 3) := zfCls_isRecencySound_0.2.2.2.2.1
theorem dCls_isRecencySound_13 : decode cCls_isRecencySound 13 = .ok (.iconst 0, 1) := zfCls_isRecencySound_0.2.2.2.2.2.1
theorem dCls_isRecencySound_14 : decode cCls_isRecencySound 14 = .ok (.ireturn, 1) := zfCls_isRecencySound_0.2.2.2.2.2.2.1
theorem dCls_isRecencySound_15 : decode cCls_isRecencySound 15 = .ok (.iconst 0, 1) := zfCls_isRecencySound_0.2.2.2.2.2.2.2.1
theorem dCls_isRecencySound_16 : decode cCls_isRecencySound 16 = .ok (.istore_n 1, 1) := zfCls_isRecencySound_0.2.2.2.2.2.2.2.2.1
theorem dCls_isRecencySound_17 : decode cCls_isRecencySound 17 = .ok (.iload_n 1, 1) := zfCls_isRecencySound_0.2.2.2.2.2.2.2.2.2.1
theorem dCls_isRecencySound_18 : decode cCls_isRecencySound 18 = .ok (.iconst 4, 1) := zfCls_isRecencySound_0.2.2.2.2.2.2.2.2.2.2.1
theorem dCls_isRecencySound_19 : decode cCls_isRecencySound 19 = .ok (.if_icmp .ge 46, 3) := zfCls_isRecencySound_0.2.2.2.2.2.2.2.2.2.2.2.1
theorem dCls_isRecencySound_22 : decode cCls_isRecencySound 22 = .ok (.aload_n 0, 1) := zfCls_isRecencySound_0.2.2.2.2.2.2.2.2.2.2.2.2.1
theorem dCls_isRecencySound_23 : decode cCls_isRecencySound 23 = .ok (.getfield 11, 3) := zfCls_isRecencySound_0.2.2.2.2.2.2.2.2.2.2.2.2.2.1
theorem dCls_isRecencySound_26 : decode cCls_isRecencySound 26 = .ok (.iload_n 1, 1) := zfCls_isRecencySound_0.2.2.2.2.2.2.2.2.2.2.2.2.2.2.1
theorem dCls_isRecencySound_27 : decode cCls_isRecencySound 27 = .ok (.aaload, 1) := zfCls_isRecencySound_0.2.2.2.2.2.2.2.2.2.2.2.2.2.2.2.1
theorem dCls_isRecencySound_28 : decode cCls_isRecencySound 28 = .ok (.invokevirtual 237, 3) := zfCls_isRecencySound_0.2.2.2.2.2.2.2.2.2.2.2.2.2.2.2.2.1
theorem dCls_isRecencySound_31 : decode cCls_isRecencySound 31 = .ok (.ifCond .eq 28, 3) := zfCls_isRecencySound_0.2.2.2.2.2.2.2.2.2.2.2.2.2.2.2.2.2.1
theorem dCls_isRecencySound_34 : decode cCls_isRecencySound 34 = .ok (.aload_n 0, 1) := zfCls_isRecencySound_0.2.2.2.2.2.2.2.2.2.2.2.2.2.2.2.2.2.2.1
theorem dCls_isRecencySound_35 : decode cCls_isRecencySound 35 = .ok (.getfield 24, 3) := zfCls_isRecencySound_0.2.2.2.2.2.2.2.2.2.2.2.2.2.2.2.2.2.2.2.1
theorem dCls_isRecencySound_38 : decode cCls_isRecencySound 38 = .ok (.getfield 228, 3) := zfCls_isRecencySound_0.2.2.2.2.2.2.2.2.2.2.2.2.2.2.2.2.2.2.2.2.1
theorem dCls_isRecencySound_41 : decode cCls_isRecencySound 41 = .ok (.aload_n 0, 1) := zfCls_isRecencySound_0.2.2.2.2.2.2.2.2.2.2.2.2.2.2.2.2.2.2.2.2.2.1
theorem dCls_isRecencySound_42 : decode cCls_isRecencySound 42 = .ok (.getfield 24, 3) := zfCls_isRecencySound_0.2.2.2.2.2.2.2.2.2.2.2.2.2.2.2.2.2.2.2.2.2.2.1
theorem dCls_isRecencySound_45 : decode cCls_isRecencySound 45 = .ok (.aload_n 0, 1) := zfCls_isRecencySound_0.2.2.2.2.2.2.2.2.2.2.2.2.2.2.2.2.2.2.2.2.2.2.2.1
theorem dCls_isRecencySound_46 : decode cCls_isRecencySound 46 = .ok (.getfield 11, 3) := zfCls_isRecencySound_0.2.2.2.2.2.2.2.2.2.2.2.2.2.2.2.2.2.2.2.2.2.2.2.2.1
theorem dCls_isRecencySound_49 : decode cCls_isRecencySound 49 = .ok (.iload_n 1, 1) := zfCls_isRecencySound_0.2.2.2.2.2.2.2.2.2.2.2.2.2.2.2.2.2.2.2.2.2.2.2.2.2.1
theorem dCls_isRecencySound_50 : decode cCls_isRecencySound 50 = .ok (.aaload, 1) := zfCls_isRecencySound_0.2.2.2.2.2.2.2.2.2.2.2.2.2.2.2.2.2.2.2.2.2.2.2.2.2.2.1
theorem dCls_isRecencySound_51 : decode cCls_isRecencySound 51 = .ok (.invokevirtual 247, 3) := zfCls_isRecencySound_0.2.2.2.2.2.2.2.2.2.2.2.2.2.2.2.2.2.2.2.2.2.2.2.2.2.2.2.1
theorem dCls_isRecencySound_54 : decode cCls_isRecencySound 54 = .ok (.if_icmp .le 5, 3) := zfCls_isRecencySound_0.2.2.2.2.2.2.2.2.2.2.2.2.2.2.2.2.2.2.2.2.2.2.2.2.2.2.2.2.1
theorem dCls_isRecencySound_57 : decode cCls_isRecencySound 57 = .ok (.iconst 0, 1) := zfCls_isRecencySound_0.2.2.2.2.2.2.2.2.2.2.2.2.2.2.2.2.2.2.2.2.2.2.2.2.2.2.2.2.2.1
theorem dCls_isRecencySound_58 : decode cCls_isRecencySound 58 = .ok (.ireturn, 1) := zfCls_isRecencySound_0.2.2.2.2.2.2.2.2.2.2.2.2.2.2.2.2.2.2.2.2.2.2.2.2.2.2.2.2.2.2.1
theorem dCls_isRecencySound_59 : decode cCls_isRecencySound 59 = .ok (.iinc 1 1, 3) := zfCls_isRecencySound_0.2.2.2.2.2.2.2.2.2.2.2.2.2.2.2.2.2.2.2.2.2.2.2.2.2.2.2.2.2.2.2.1
theorem zfCls_isRecencySound_62 : decode cCls_isRecencySound 62 = .ok (.goto (-45), 3) ∧ decode cCls_isRecencySound 65 = .ok (.iconst 1, 1) ∧ decode cCls_isRecencySound 66 = .ok (.ireturn, 1) ∧ True := Jvm.Free.DS.facts (code := cCls_isRecencySound) 62 [(.goto (-45), 3), (.iconst 1, 1), (.ireturn, 1)] (by decide +kernel) (by decide +kernel)
theorem dCls_isRecencySound_62 : decode cCls_isRecencySound 62 = .ok (.goto (-45), 3) := zfCls_isRecencySound_62.1
theorem dCls_isRecencySound_65 : decode cCls_isRecencySound 65 = .ok (.iconst 1, 1) := zfCls_isRecencySound_62.2.1
theorem dCls_isRecencySound_66 : decode cCls_isRecencySound 66 = .ok (.ireturn, 1) := zfCls_isRecencySound_62.2.2.1
theorem zfCls_mixed_0 : decode cCls_mixed 0 = .ok (.lload_n 0, 1) ∧ decode cCls_mixed 1 = .ok (.ldc2_w 338, 3) ∧ decode cCls_mixed 4 = .ok (.lmul, 1) ∧ decode cCls_mixed 5 = .ok (.lload_n 2, 1) ∧ decode cCls_mixed 6 = .ok (.ladd, 1) ∧ decode cCls_mixed 7 = .ok (.lreturn, 1) ∧ True := Jvm.Free.DS.facts (code := cCls_mixed) 0 [(.lload_n 0, 1), (.ldc2_w 338, 3), (.lmul, 1), (.lload_n 2, 1), (.ladd, 1), (.lreturn, 1)] (by decide +kernel) (by decide +kernel)
theorem dCls_mixed_0 : decode cCls_mixed 0 = .ok (.lload_n 0, 1) := zfCls_mixed_0.1
theorem dCls_mixed_1 : decode cCls_mixed 1 = .ok (.ldc2_w 338, 3) := zfCls_mixed_0.2.1
theorem dCls_mixed_4 : decode cCls_mixed 4 = .ok (.lmul, 1) := zfCls_mixed_0.2.2.1
theorem dCls_mixed_5 : decode cCls_mixed 5 = .ok (.lload_n 2, 1) := zfCls_mixed_0.2.2.2.1
theorem dCls_mixed_6 : decode cCls_mixed 6 = .ok (.ladd, 1) := zfCls_mixed_0.2.2.2.2.1
theorem dCls_mixed_7 : decode cCls_mixed 7 = .ok (.lreturn, 1) := zfCls_mixed_0.2.2.2.2.2.1
theorem zfCls_mixedWithItems_0 : decode cCls_mixedWithItems 0 = .ok (.lload_n 0, 1) ∧ decode cCls_mixedWithItems 1 = .ok (.lstore_n 3, 1) ∧ decode cCls_mixedWithItems 2 = .ok (.iconst 0, 1) ∧ decode cCls_mixedWithItems 3 = .ok (.istore 5, 2) ∧ decode cCls_mixedWithItems 5 = .ok (.iload 5, 2) ∧ decode cCls_mixedWithItems 7 = .ok (.aload_n 2, 1) ∧ decode cCls_mixedWithItems 8 = .ok (.getfield 46, 3) ∧ decode cCls_mixedWithItems 11 = .ok (.if_icmp .ge 21, 3) ∧ decode cCls_mixedWithItems 14 = .ok (.lload_n 3, 1) ∧ decode cCls_mixedWithItems 15 = .ok (.aload_n 2, 1) ∧ decode cCls_mixedWithItems 16 = .ok (.iload 5, 2) ∧ decode cCls_mixedWithItems 18 = .ok (.invokevirtual 70, 3) ∧ decode cCls_mixedWithItems 21 = .ok (.i2l, 1) ∧ decode cCls_mixedWithItems 22 = .ok (.invokestatic 279, 3) ∧ decode cCls_mixedWithItems 25 = .ok (.lstore_n 3, 1) ∧ decode cCls_mixedWithItems 26 = .ok (.iinc 5 1, 3) ∧ decode cCls_mixedWithItems 29 = .ok (.goto (-24), 3) ∧ decode cCls_mixedWithItems 32 = .ok (.lload_n 3, 1) ∧ decode cCls_mixedWithItems 33 = .ok (.lreturn, 1) ∧ True := Jvm.Free.DS.facts (code := cCls_mixedWithItems) 0 [(.lload_n 0, 1), (.lstore_n 3, 1), (.iconst 0, 1), (.istore 5, 2), (.iload 5, 2), (.aload_n 2, 1), (.getfield 46, 3), (.if_icmp .ge 21, 3), (.lload_n 3, 1), (.aload_n 2, 1), (.iload 5, 2), (.invokevirtual 70, 3), (.i2l, 1), (.invokestatic 279, 3), (.lstore_n 3, 1), (.iinc 5 1, 3), (.goto (-24), 3), (.lload_n 3, 1), (.lreturn, 1)] (by decide +kernel) (by decide +kernel)
theorem dCls_mixedWithItems_0 : decode cCls_mixedWithItems 0 = .ok (.lload_n 0, 1) := zfCls_mixedWithItems_0.1
theorem dCls_mixedWithItems_1 : decode cCls_mixedWithItems 1 = .ok (.lstore_n 3, 1) := zfCls_mixedWithItems_0.2.1
theorem dCls_mixedWithItems_2 : decode cCls_mixedWithItems 2 = .ok (.iconst 0, 1) := zfCls_mixedWithItems_0.2.2.1
theorem dCls_mixedWithItems_3 : decode cCls_mixedWithItems 3 = .ok (.istore 5, 2) := zfCls_mixedWithItems_0.2.2.2.1
theorem dCls_mixedWithItems_5 : decode cCls_mixedWithItems 5 = .ok (.iload 5, 2) := zfCls_mixedWithItems_0.2.2.2.2.1
theorem dCls_mixedWithItems_7 : decode cCls_mixedWithItems 7 = .ok (.aload_n 2, 1) := zfCls_mixedWithItems_0.2.2.2.2.2.1
theorem dCls_mixedWithItems_8 : decode cCls_mixedWithItems 8 = .ok (.getfield 46, 3) := zfCls_mixedWithItems_0.2.2.2.2.2.2.1
theorem dCls_mixedWithItems_11 : decode cCls_mixedWithItems 11 = .ok (.if_icmp .ge 21, 3) := zfCls_mixedWithItems_0.2.2.2.2.2.2.2.1
theorem dCls_mixedWithItems_14 : decode cCls_mixedWithItems 14 = .ok (.lload_n 3, 1) := zfCls_mixedWithItems_0.2.2.2.2.2.2.2.2.1
theorem dCls_mixedWithItems_15 : decode cCls_mixedWithItems 15 = .ok (.aload_n 2, 1) := zfCls_mixedWithItems_0.2.2.2.2.2.2.2.2.2.1
theorem dCls_mixedWithItems_16 : decode cCls_mixedWithItems 16 = .ok (.iload 5, 2) := zfCls_mixedWithItems_0.2.2.2.2.2.2.2.2.2.2.1
theorem dCls_mixedWithItems_18 : decode cCls_mixedWithItems 18 = .ok (.invokevirtual 70, 3) := zfCls_mixedWithItems_0.2.2.2.2.2.2.2.2.2.2.2.1
theorem dCls_mixedWithItems_21 : decode cCls_mixedWithItems 21 = .ok (.i2l, 1) := zfCls_mixedWithItems_0.2.2.2.2.2.2.2.2.2.2.2.2.1
theorem dCls_mixedWithItems_22 : decode cCls_mixedWithItems 22 = .ok (.invokestatic 279, 3) := zfCls_mixedWithItems_0.2.2.2.2.2.2.2.2.2.2.2.2.2.1
theorem dCls_mixedWithItems_25 : decode cCls_mixedWithItems 25 = .ok (.lstore_n 3, 1) := zfCls_mixedWithItems_0.2.2.2.2.2.2.2.2.2.2.2.2.2.2.1
theorem dCls_mixedWithItems_26 : decode cCls_mixedWithItems 26 = .ok (.iinc 5 1, 3) := zfCls_mixedWithItems_0.2.2.2.2.2.2.2.2.2.2.2.2.2.2.2.1
theorem dCls_mixedWithItems_29 : decode cCls_mixedWithItems 29 = .ok (.goto (-24), 3) := zfCls_mixedWithItems_0.2.2.2.2.2.2.2.2.2.2.2.2.2.2.2.2.1
theorem dCls_mixedWithItems_32 : decode cCls_mixedWithItems 32 = .ok (.lload_n 3, 1) := zfCls_mixedWithItems_0.2.2.2.2.2.2.2.2.2.2.2.2.2.2.2.2.2.1
theorem dCls_mixedWithItems_33 : decode cCls_mixedWithItems 33 = .ok (.lreturn, 1) := zfCls_mixedWithItems_0.2.2.2.2.2.2.2.2.2.2.2.2.2.2.2.2.2.2.1
theorem zfCls_mixedWithList_0 : decode cCls_mixedWithList 0 = .ok (.lload_n 0, 1) ∧ decode cCls_mixedWithList 1 = .ok (.aload_n 2, 1) ∧ decode cCls_mixedWithList 2 = .ok (.getfield 46, 3) ∧ decode cCls_mixedWithList 5 = .ok (.i2l, 1) ∧ decode cCls_mixedWithList 6 = .ok (.invokestatic 279, 3) ∧ decode cCls_mixedWithList 9 = .ok (.aload_n 2, 1) ∧ decode cCls_mixedWithList 10 = .ok (.invokestatic 293, 3) ∧ decode cCls_mixedWithList 13 = .ok (.lstore_n 3, 1) ∧ decode cCls_mixedWithList 14 = .ok (.lload_n 3, 1) ∧ decode cCls_mixedWithList 15 = .ok (.aload_n 2, 1) ∧ decode cCls_mixedWithList 16 = .ok (.iconst 2, 1) ∧ decode cCls_mixedWithList 17 = .ok (.invokevirtual 212, 3) ∧ decode cCls_mixedWithList 20 = .ok (.i2l, 1) ∧ decode cCls_mixedWithList 21 = .ok (.invokestatic 279, 3) ∧ decode cCls_mixedWithList 24 = .ok (.lstore_n 3, 1) ∧ decode cCls_mixedWithList 25 = .ok (.lload_n 3, 1) ∧ decode cCls_mixedWithList 26 = .ok (.aload_n 2, 1) ∧ decode cCls_mixedWithList 27 = .ok (.invokevirtual 206, 3) ∧ decode cCls_mixedWithList 30 = .ok (.i2l, 1) ∧ decode cCls_mixedWithList 31 = .ok (.invokestatic 279, 3) ∧ decode cCls_mixedWithList 34 = .ok (.lreturn, 1) ∧ True := Jvm.Free.DS.facts (code := cCls_mixedWithList) 0 [(.lload_n 0, 1), (.aload_n 2, 1), (.getfield 46, 3), (.i2l, 1), (.invokestatic 279, 3), (.aload_n 2, 1), (.invokestatic 293, 3), (.lstore_n 3, 1), (.lload_n 3, 1), (.aload_n 2, 1), (.iconst 2, 1), (.invokevirtual 212, 3), (.i2l, 1), (.invokestatic 279, 3), (.lstore_n 3, 1), (.lload_n 3, 1), (.aload_n 2, 1), (.invokevirtual 206, 3), (.i2l, 1), (.invokestatic 279, 3), (.lreturn, 1)] (by decide +kernel) (by decide +kernel)
theorem dCls_mixedWithList_0 : decode cCls_mixedWithList 0 = .ok (.lload_n 0, 1) := zfCls_mixedWithList_0.1
theorem dCls_mixedWithList_1 : decode cCls_mixedWithList 1 = .ok (.aload_n 2, 1) := zfCls_mixedWithList_0.2.1
theorem dCls_mixedWithList_2 : decode cCls_mixedWithList 2 = .ok (.getfield 46, 3) := zfCls_mixedWithList_0.2.2.1
theorem dCls_mixedWithList_5 : decode cCls_mixedWithList 5 = .ok (.i2l, 1) := zfCls_mixedWithList_0.2.2.2.1
theorem dCls_mixedWithList_6 : decode cCls_mixedWithList 6 = .ok (.invokestatic 279, 3) := zfCls_mixedWithList_0.2.2.2.2.1
theorem dCls_mixedWithList_9 : decode cCls_mixedWithList 9 = .ok (.aload_n 2, 1) := zfCls_mixedWithList_0.2.2.2.2.2.1
theorem dCls_mixedWithList_10 : decode cCls_mixedWithList 10 = .ok (.invokestatic 293, 3) := zfCls_mixedWithList_0.2.2.2.2.2.2.1
theorem dCls_mixedWithList_13 : decode cCls_mixedWithList 13 = .ok (.lstore_n 3, 1) := zfCls_mixedWithList_0.2.2.2.2.2.2.2.1
theorem dCls_mixedWithList_14 : decode cCls_mixedWithList 14 = .ok (.lload_n 3, 1) := zfCls_mixedWithList_0.2.2.2.2.2.2.2.2.1
theorem dCls_mixedWithList_15 : decode cCls_mixedWithList 15 = .ok (.aload_n 2, 1) := zfCls_mixedWithList_0.2.2.2.2.2.2.2.2.2.1
theorem dCls_mixedWithList_16 : decode cCls_mixedWithList 16 = .ok (.iconst 2, 1) := zfCls_mixedWithList_0.2.2.2.2.2.2.2.2.2.2.1
theorem dCls_mixedWithList_17 : decode cCls_mixedWithList 17 = .ok (.invokevirtual 212, 3) := zfCls_mixedWithList_0.2.2.2.2.2.2.2.2.2.2.2.1
theorem dCls_mixedWithList_20 : decode cCls_mixedWithList 20 = .ok (.i2l, 1) := zfCls_mixedWithList_0.2.2.2.2.2.2.2.2.2.2.2.2.1
theorem dCls_mixedWithList_21 : decode cCls_mixedWithList 21 = .ok (.invokestatic 279, 3) := zfCls_mixedWithList_0.2.2.2.2.2.2.2.2.2.2.2.2.2.1
theorem dCls_mixedWithList_24 : decode cCls_mixedWithList 24 = .ok (.lstore_n 3, 1) := zfCls_mixedWithList_0.2.2.2.2.2.2.2.2.2.2.2.2.2.2.1
theorem dCls_mixedWithList_25 : decode cCls_mixedWithList 25 = .ok (.lload_n 3, 1) := zfCls_mixedWithList_0.2.2.2.2.2.2.2.2.2.2.2.2.2.2.2.1
theorem dCls_mixedWithList_26 : decode cCls_mixedWithList 26 = .ok (.aload_n 2, 1) := zfCls_mixedWithList_0.2.2.2.2.2.2.2.2.2.2.2.2.2.2.2.2.1
theorem dCls_mixedWithList_27 : decode cCls_mixedWithList 27 = .ok (.invokevirtual 206, 3) := zfCls_mixedWithList_0.2.2.2.2.2.2.2.2.2.2.2.2.2.2.2.2.2.1
theorem dCls_mixedWithList_30 : decode cCls_mixedWithList 30 = .ok (.i2l, 1) := zfCls_mixedWithList_0.2.2.2.2.2.2.2.2.2.2.2.2.2.2.2.2.2.2.1
theorem dCls_mixedWithList_31 : decode cCls_mixedWithList 31 = .ok (.invokestatic 279, 3) := zfCls_mixedWithList_0.2.2.2.2.2.2.2.2.2.2.2.2.2.2.2.2.2.2.2.1
theorem dCls_mixedWithList_34 : decode cCls_mixedWithList 34 = .ok (.lreturn, 1) := zfCls_mixedWithList_0.2.2.2.2.2.2.2.2.2.2.2.2.2.2.2.2.2.2.2.2.1
theorem zfCls_mixedWithOrder_0 : decode cCls_mixedWithOrder 0 = .ok (.aload_n 3, 1) ∧ decode cCls_mixedWithOrder 1 = .ok (.invokevirtual 237, 3) ∧ decode cCls_mixedWithOrder 4 = .ok (.ifCond .ne 9, 3) ∧ decode cCls_mixedWithOrder 7 = .ok (.lload_n 1, 1) ∧ decode cCls_mixedWithOrder 8 = .ok (.lconst 0, 1) ∧ decode cCls_mixedWithOrder 9 = .ok (.invokestatic 279, 3) ∧ decode cCls_mixedWithOrder 12 = .ok (.lreturn, 1) ∧ decode cCls_mixedWithOrder 13 = .ok (.lload_n 1, 1) ∧ decode cCls_mixedWithOrder 14 = .ok (.lconst 1, 1) ∧ decode cCls_mixedWithOrder 15 = .ok (.invokestatic 279, 3) ∧ decode cCls_mixedWithOrder 18 = .ok (.lstore 4, 2) ∧ decode cCls_mixedWithOrder 20 = .ok (.lload 4, 2) ∧ decode cCls_mixedWithOrder 22 = .ok (.aload_n 0, 1) ∧ decode cCls_mixedWithOrder 23 = .ok (.getfield 24, 3) ∧ decode cCls_mixedWithOrder 26 = .ok (.aload_n 3, 1) ∧ decode cCls_mixedWithOrder 27 = .ok (.invokevirtual 241, 3) ∧ decode cCls_mixedWithOrder 30 = .ok (.i2l, 1) ∧ decode cCls_mixedWithOrder 31 = .ok (.invokestatic 279, 3) ∧ decode cCls_mixedWithOrder 34 = .ok (.lstore 4, 2) ∧ decode cCls_mixedWithOrder 36 = .ok (.lload 4, 2) ∧ decode cCls_mixedWithOrder 38 = .ok (.aload_n 3, 1) ∧ decode cCls_mixedWithOrder 39 = .ok (.invokevirtual 244, 3) ∧ decode cCls_mixedWithOrder 42 = .ok (.i2l, 1) ∧ decode cCls_mixedWithOrder 43 = .ok (.invokestatic 279, 3) ∧ decode cCls_mixedWithOrder 46 = .ok (.lstore 4, 2) ∧ decode cCls_mixedWithOrder 48 = .ok (.lload 4, 2) ∧ decode cCls_mixedWithOrder 50 = .ok (.aload_n 0, 1) ∧ decode cCls_mixedWithOrder 51 = .ok (.getfield 24, 3) ∧ decode cCls_mixedWithOrder 54 = .ok (.aload_n 3, 1) ∧ decode cCls_mixedWithOrder 55 = .ok (.invokevirtual 247, 3) ∧ decode cCls_mixedWithOrder 58 = .ok (.i2l, 1) ∧ decode cCls_mixedWithOrder 59 = .ok (.invokestatic 279, 3) ∧ True := Jvm.Free.DS.facts (code := cCls_mixedWithOrder) 0 [(.aload_n 3, 1), (.invokevirtual 237, 3), (.ifCond .ne 9, 3), (.lload_n 1, 1), (.lconst 0, 1), (.invokestatic 279, 3), (.lreturn, 1), (.lload_n 1, 1), (.lconst 1, 1), (.invokestatic 279, 3), (.lstore 4, 2), (.lload 4, 2), (.aload_n 0, 1), (.getfield 24, 3), (.aload_n 3, 1), (.invokevirtual 241, 3), (.i2l, 1), (.invokestatic 279, 3), (.lstore 4, 2), (.lload 4, 2), (.aload_n 3, 1), (.invokevirtual 244, 3), (.i2l, 1), (.invokestatic 279, 3), (.lstore 4, 2), (.lload 4, 2), (.aload_n 0, 1), (.getfield 24, 3), (.aload_n 3, 1), (.invokevirtual 247, 3), (.i2l, 1), (.invokestatic 279, 3)] (by decide +kernel) (by decide +kernel)
theorem dCls_mixedWithOrder_0 : decode cCls_mixedWithOrder 0 = .ok (.aload_n 3, 1) := zfCls_mixedWithOrder_0.1
theorem dCls_mixedWithOrder_1 : decode cCls_mixedWithOrder 1 = .ok (.invokevirtual 237, 3) := zfCls_mixedWithOrder_0.2.1
theorem dCls_mixedWithOrder_4 : decode cCls_mixedWithOrder 4 = .ok (.ifCond .ne 9, 3) := zfCls_mixedWithOrder_0.2.2.1
theorem dCls_mixedWithOrder_7 : decode cCls_mixedWithOrder 7 = .ok (.lload_n 1, 1) := zfCls_mixedWithOrder_0.2.2.2.1
theorem dCls_mixedWithOrder_8 : decode cCls_mixedWithOrder 8 = .ok (.lconst 0, 1) := zfCls_mixedWithOrder_0.2.2.2.2.1
theorem dCls_mixedWithOrder_9 : decode cCls_mixedWithOrder 9 = .ok (.invokestatic 279, 3) := zfCls_mixedWithOrder_0.2.2.2.2.2.1
theorem dCls_mixedWithOrder_12 : decode cCls_mixedWithOrder 12 = .ok (.lreturn, 1) := zfCls_mixedWithOrder_0.2.2.2.2.2.2.1
theorem dCls_mixedWithOrder_13 : decode cCls_mixedWithOrder 13 = .ok (.lload_n 1, 1) := zfCls_mixedWithOrder_0.2.2.2.2.2.2.2.1
theorem dCls_mixedWithOrder_14 : decode cCls_mixedWithOrder 14 = .ok (.lconst 1, 1) := zfCls_mixedWithOrder_0.2.2.2.2.2.2.2.2.1
theorem dCls_mixedWithOrder_15 : decode cCls_mixedWithOrder 15 = .ok (.invokestatic 279, 3) := zfCls_mixedWithOrder_0.2.2.2.2.2.2.2.2.2.1
theorem dCls_mixedWithOrder_18 : decode cCls_mixedWithOrder 18 = .ok (.lstore 4, 2) := zfCls_mixedWithOrder_0.2.2.2.2.2.2.2.2.2.2.1
theorem dCls_mixedWithOrder_20 : decode cCls_mixedWithOrder 20 = .ok (.lload 4, 2) := zfCls_mixedWithOrder_0.2.2.2.2.2.2.2.2.2.2.2.1
theorem dCls_mixedWithOrder_22 : decode cCls_mixedWithOrder 22 = .ok (.aload_n 0, 1) := zfCls_mixedWithOrder_0.2.2.2.2.2.2.2.2.2.2.2.2.1
theorem dCls_mixedWithOrder_23 : decode cCls_mixedWithOrder 23 = .ok (.getfield 24, 3) := zfCls_mixedWithOrder_0.2.2.2.2.2.2.2.2.2.2.2.2.2.1
theorem dCls_mixedWithOrder_26 : decode cCls_mixedWithOrder 26 = .ok (.aload_n 3, 1) := zfCls_mixedWithOrder_0.2.2.2.2.2.2.2.2.2.2.2.2.2.2.1
theorem dCls_mixedWithOrder_27 : decode cCls_mixedWithOrder 27 = .ok (.invokevirtual 241, 3) := zfCls_mixedWithOrder_0.2.2.2.2.2.2.2.2.2.2.2.2.2.2.2.1
theorem dCls_mixedWithOrder_30 : decode cCls_mixedWithOrder 30 = .ok (.i2l, 1) := zfCls_mixedWithOrder_0.2.2.2.2.2.2.2.2.2.2.2.2.2.2.2.2.1
theorem dCls_mixedWithOrder_31 : decode cCls_mixedWithOrder 31 = .ok (.invokestatic 279, 3) := zfCls_mixedWithOrder_0.2.2.2.2.2.2.2.2.2.2.2.2.2.2.2.2.2.1
theorem dCls_mixedWithOrder_34 : decode cCls_mixedWithOrder 34 = .ok (.lstore 4, 2) := zfCls_mixedWithOrder_0.2.2.2.2.2.2.2.2.2.2.2.2.2.2.2.2.2.2.1
theorem dCls_mixedWithOrder_36 : decode cCls_mixedWithOrder 36 = .ok (.lload 4, 2) := zfCls_mixedWithOrder_0.2.2.2.2.2.2.2.2.2.2.2.2.2.2.2.2.2.2.2.1
theorem dCls_mixedWithOrder_38 : decode cCls_mixedWithOrder 38 = .ok (.aload_n 3, 1) := zfCls_mixedWithOrder_0.2.2.2.2.2.2.2.2.2.2.2.2.2.2.2.2.2.2.2.2.1
theorem dCls_mixedWithOrder_39 : decode cCls_mixedWithOrder 39 = .ok (.invokevirtual 244, 3) := zfCls_mixedWithOrder_0.2.2.2.2.2.2.2.2.2.2.2.2.2.2.2.2.2.2.2.2.2.1
theorem dCls_mixedWithOrder_42 : decode cCls_mixedWithOrder 42 = .ok (.i2l, 1) := zfCls_mixedWithOrder_0.2.2.2.2.2.2.2.2.2.2.2.2.2.2.2.2.2.2.2.2.2.2.1
theorem dCls_mixedWithOrder_43 : decode cCls_mixedWithOrder 43 = .ok (.invokestatic 279, 3) := zfCls_mixedWithOrder_0.2.2.2.2.2.2.2.2.2.2.2.2.2.2.2.2.2.2.2.2.2.2.2.1
theorem dCls_mixedWithOrder_46 : decode cCls_mixedWithOrder 46 = .ok (.lstore 4, 2) := zfCls_mixedWithOrder_0.2.2.2.2.2.2.2.2.2.2.2.2.2.2.2.2.2.2.2.2.2.2.2.2.1
theorem dCls_mixedWithOrder_48 : decode cCls_mixedWithOrder 48 = .ok (.lload 4, 2) := zfCls_mixedWithOrder_0.2.2.2.2.2.2.2.2.2.2.2.2.2.2.2.2.2.2.2.2.2.2.2.2.2.1
theorem dCls_mixedWithOrder_50 : decode cCls_mixedWithOrder 50 = .ok (.aload_n 0, 1) := zfCls_mixedWithOrder_0.2.2.2.2.2.2.2.2.2.2.2.2.2.2.2.2.2.2.2.2.2.2.2.2.2.2.1
theorem dCls_mixedWithOrder_51 : decode cCls_mixedWithOrder 51 = .ok (.getfield 24, 3) := zfCls_mixedWithOrder_0.2.2.2.2.2.2.2.2.2.2.2.2.2.2.2.2.2.2.2.2.2.2.2.2.2.2.2.1
theorem dCls_mixedWithOrder_54 : decode cCls_mixedWithOrder 54 = .ok (.aload_n 3, 1) := zfCls_mixedWithOrder_0.2.2.2.2.2.2.2.2.2.2.2.2.2.2.2.2.2.2.2.2.2.2.2.2.2.2.2.2.1
theorem dCls_mixedWithOrder_55 : decode cCls_mixedWithOrder 55 = .ok (.invokevirtual 247, 3) := zfCls_mixedWithOrder_0.2.2.2.2.2.2.2.2.2.2.2.2.2.2.2.2.2.2.2.2.2.2.2.2.2.2.2.2.2.1
theorem dCls_mixedWithOrder_58 : decode cCls_mixedWithOrder 58 = .ok (.i2l, 1) := zfCls_mixedWithOrder_0.2.2.2.2.2.2.2.2.2.2.2.2.2.2.2.2.2.2.2.2.2.2.2.2.2.2.2.2.2.2.1
theorem dCls_mixedWithOrder_59 : decode cCls_mixedWithOrder 59 = .ok (.invokestatic 279, 3) := zfCls_mixedWithOrder_0.2.2.2.2.2.2.2.2.2.2.2.2.2.2.2.2.2.2.2.2.2.2.2.2.2.2.2.2.2.2.2.1
theorem dCls_mixedWithOrder_62 : decode cCls_mixedWithOrder 62 = .ok (.lreturn, 1) := by decide +kernel
theorem zfOut_init_0 : decode cOut_init 0 = .ok (.aload_n 0, 1) ∧ decode cOut_init 1 = .ok (.invokespecial 1, 3) ∧ decode cOut_init 4 = .ok (.return_, 1) ∧ True := Jvm.Free.DS.facts (code := cOut_init) 0 [(.aload_n 0, 1), (.invokespecial 1, 3), (.return_, 1)] (by decide +kernel) (by decide +kernel)
theorem dOut_init_0 : decode cOut_init 0 = .ok (.aload_n 0, 1) := zfOut_init_0.1
theorem dOut_init_1 : decode cOut_init 1 = .ok (.invokespecial 1, 3) := zfOut_init_0.2.1
theorem dOut_init_4 : decode cOut_init 4 = .ok (.return_, 1) := zfOut_init_0.2.2.1
theorem zfMod_init_0 : decode cMod_init 0 = .ok (.aload_n 0, 1) ∧ decode cMod_init 1 = .ok (.invokespecial 1, 3) ∧ decode cMod_init 4 = .ok (.aload_n 0, 1) ∧ decode cMod_init 5 = .ok (.iconst 4, 1) ∧ decode cMod_init 6 = .ok (.iconst 0, 1) ∧ decode cMod_init 7 = .ok (.multianewarray 9 2, 4) ∧ decode cMod_init 11 = .ok (.putfield 11, 3) ∧ decode cMod_init 14 = .ok (.aload_n 0, 1) ∧ decode cMod_init 15 = .ok (.iconst 3, 1) ∧ decode cMod_init 16 = .ok (.newarray .boolean, 2) ∧ decode cMod_init 18 = .ok (.putfield 14, 3) ∧ decode cMod_init 21 = .ok (.aload_n 0, 1) ∧ decode cMod_init 22 = .ok (.iconst 3, 1) ∧ decode cMod_init 23 = .ok (.newarray .boolean, 2) ∧ decode cMod_init 25 = .ok (.putfield 18, 3) ∧ decode cMod_init 28 = .ok (.aload_n 0, 1) ∧ decode cMod_init 29 = .ok (.iconst 3, 1) ∧ decode cMod_init 30 = .ok (.newarray .int, 2) ∧ decode cMod_init 32 = .ok (.putfield 21, 3) ∧ decode cMod_init 35 = .ok (.aload_n 0, 1) ∧ decode cMod_init 36 = .ok (.iconst 3, 1) ∧ decode cMod_init 37 = .ok (.newarray .int, 2) ∧ decode cMod_init 39 = .ok (.putfield 25, 3) ∧ decode cMod_init 42 = .ok (.aload_n 0, 1) ∧ decode cMod_init 43 = .ok (.iconst 3, 1) ∧ decode cMod_init 44 = .ok (.newarray .int, 2) ∧ decode cMod_init 46 = .ok (.putfield 28, 3) ∧ decode cMod_init 49 = .ok (.aload_n 0, 1) ∧ decode cMod_init 50 = .ok (.bipush 8, 2) ∧ decode cMod_init 52 = .ok (.newarray .int, 2) ∧ decode cMod_init 54 = .ok (.dup, 1) ∧ decode cMod_init 55 = .ok (.iconst 0, 1) ∧ True := Jvm.Free.DS.facts (code := cMod_init) 0 [(.aload_n 0, 1), (.invokespecial 1, 3), (.aload_n 0, 1), (.iconst 4, 1), (.iconst 0, 1), (.multianewarray 9 2, 4), (.putfield 11, 3), (.aload_n 0, 1), (.iconst 3, 1), (.newarray .boolean, 2), (.putfield 14, 3), (.aload_n 0, 1), (.iconst 3, 1), (.newarray .boolean, 2), (.putfield 18, 3), (.aload_n 0, 1), (.iconst 3, 1), (.newarray .int, 2), (.putfield 21, 3), (.aload_n 0, 1), (.iconst 3, 1), (.newarray .int, 2), (.putfield 25, 3), (.aload_n 0, 1), (.iconst 3, 1), (.newarray .int, 2), (.putfield 28, 3), (.aload_n 0, 1), (.bipush 8, 2), (.newarray .int, 2), (.dup, 1), (.iconst 0, 1)] (by decide +kernel) (by decide +kernel)
theorem dMod_init_0 : decode cMod_init 0 = .ok (.aload_n 0, 1) := zfMod_init_0.1
theorem dMod_init_1 : decode cMod_init 1 = .ok (.invokespecial 1, 3) := zfMod_init_0.2.1
theorem dMod_init_4 : decode cMod_init 4 = .ok (.aload_n 0, 1) := zfMod_init_0.2.2.1
theorem dMod_init_5 : decode cMod_init 5 = .ok (.iconst 4, 1) := zfMod_init_0.2.2.2.1
theorem dMod_init_6 : decode cMod_init 6 = .ok (.iconst 0, 1) := zfMod_init_0.2.2.2.2.1
theorem dMod_init_7 : decode cMod_init 7 = .ok (.multianewarray 9 2, 4) := zfMod_init_0.2.2.2.2.2.1
theorem dMod_init_11 : decode cMod_init 11 = .ok (.putfield 11, 3) := zfMod_init_0.2.2.2.2.2.2.1
theorem dMod_init_14 : decode cMod_init 14 = .ok (.aload_n 0, 1) := zfMod_init_0.2.2.2.2.2.2.2.1
theorem dMod_init_15 : decode cMod_init 15 = .ok (.iconst 3, 1) := zfMod_init_0.2.2.2.2.2.2.2.2.1
theorem dMod_init_16 : decode cMod_init 16 = .ok (.newarray .boolean, 2) := zfMod_init_0.2.2.2.2.2.2.2.2.2.1
theorem dMod_init_18 : decode cMod_init 18 = .ok (.putfield 14, 3) := zfMod_init_0.2.2.2.2.2.2.2.2.2.2.1
theorem dMod_init_21 : decode cMod_init 21 = .ok (.aload_n 0, 1) := zfMod_init_0.2.2.2.2.2.2.2.2.2.2.2.1
theorem dMod_init_22 : decode cMod_init 22 = .ok (.iconst 3, 1) := zfMod_init_0.2.2.2.2.2.2.2.2.2.2.2.2.1
theorem dMod_init_23 : decode cMod_init 23 = .ok (.newarray .boolean, 2) := zfMod_init_0.2.2.2.2.2.2.2.2.2.2.2.2.2.1
theorem dMod_init_25 : decode cMod_init 25 = .ok (.putfield 18, 3) := zfMod_init_0.2.2.2.2.2.2.2.2.2.2.2.2.2.2.1
theorem dMod_init_28 : decode cMod_init 28 = .ok (.aload_n 0, 1) := zfMod_init_0.2.2.2.2.2.2.2.2.2.2.2.2.2.2.2.1
theorem dMod_init_29 : decode cMod_init 29 = .ok (.iconst 3, 1) := zfMod_init_0.2.2.2.2.2.2.2.2.2.2.2.2.2.2.2.2.1
theorem dMod_init_30 : decode cMod_init 30 = .ok (.newarray .int, 2) := zfMod_init_0.2.2.2.2.2.2.2.2.2.2.2.2.2.2.2.2.2.1
theorem dMod_init_32 : decode cMod_init 32 = .ok (.putfield 21, 3) := zfMod_init_0.2.2.2.2.2.2.2.2.2.2.2.2.2.2.2.2.2.2.1
theorem dMod_init_35 : decode cMod_init 35 = .ok (.aload_n 0, 1) := zfMod_init_0.2.2.2.2.2.2.2.2.2.2.2.2.2.2.2.2.2.2.2.1
theorem dMod_init_36 : decode cMod_init 36 = .ok (.iconst 3, 1) := zfMod_init_0.2.2.2.2.2.2.2.2.2.2.2.2.2.2.2.2.2.2.2.2.1
theorem dMod_init_37 : decode cMod_init 37 = .ok (.newarray .int, 2) := zfMod_init_0.2.2.2.2.2.2.2.2.2.2.2.2.2.2.2.2.2.2.2.2.2.1
theorem dMod_init_39 : decode cMod_init 39 = .ok (.putfield 25, 3) := zfMod_init_0.2.2.2.2.2.2.2.2.2.2.2.2.2.2.2.2.2.2.2.2.2.2.1
theorem dMod_init_42 : decode cMod_init 42 = .ok (.aload_n 0, 1) := zfMod_init_0.2.2.2.2.2.2.2.2.2.2.2.2.2.2.2.2.2.2.2.2.2.2.2.1
theorem dMod_init_43 : decode cMod_init 43 = .ok (.iconst 3, 1) := zfMod_init_0.2.2.2.2.2.2.2.2.2.2.2.2.2.2.2.2.2.2.2.2.2.2.2.2.1
theorem dMod_init_44 : decode cMod_init 44 = .ok (.newarray .int, 2) := zfMod_init_0.2.2.2.2.2.2.2.2.2.2.2.2.2.2.2.2.2.2.2.2.2.2.2.2.2.1
theorem dMod_init_46 : decode cMod_init 46 = .ok (.putfield 28, 3) := zfMod_init_0.2.2.2.2.2.2.2.2.2.2.2.2.2.2.2.2.2.2.2.2.2.2.2.2.2.2.1
theorem dMod_init_49 : decode cMod_init 49 = .ok (.aload_n 0, 1) := zfMod_init_0.2.2.2.2.2.2.2.2.2.2.2.2.2.2.2.2.2.2.2.2.2.2.2.2.2.2.2.1
theorem dMod_init_50 : decode cMod_init 50 = .ok (.bipush 8, 2) := zfMod_init_0.2.2.2.2.2.2.2.2.2.2.2.2.2.2.2.2.2.2.2.2.2.2.2.2.2.2.2.2.1
theorem dMod_init_52 : decode cMod_init 52 = .ok (.newarray .int, 2) := zfMod_init_0.2.2.2.2.2.2.2.2.2.2.2.2.2.2.2.2.2.2.2.2.2.2.2.2.2.2.2.2.2.1
theorem dMod_init_54 : decode cMod_init 54 = .ok (.dup, 1) := zfMod_init_0.2.2.2.2.2.2.2.2.2.2.2.2.2.2.2.2.2.2.2.2.2.2.2.2.2.2.2.2.2.2.1
theorem dMod_init_55 : decode cMod_init 55 = .ok (.iconst 0, 1) := zfMod_init_0.2.2.2.2.2.2.2.2.2.2.2.2.2.2.2.2.2.2.2.2.2.2.2.2.2.2.2.2.2.2.2.1
theorem zfMod_init_56 : decode cMod_init 56 = .ok (.iconst 0, 1) ∧ decode cMod_init 57 = .ok (.iastore, 1) ∧ decode cMod_init 58 = .ok (.dup, 1) ∧ decode cMod_init 59 = .ok (.iconst 1, 1) ∧ decode cMod_init 60 = .ok (.iconst 1, 1) ∧ decode cMod_init 61 = .ok (.iastore, 1) ∧ decode cMod_init 62 = .ok (.dup, 1) ∧ decode cMod_init 63 = .ok (.iconst 2, 1) ∧ decode cMod_init 64 = .ok (.iconst 2, 1) ∧ decode cMod_init 65 = .ok (.iastore, 1) ∧ decode cMod_init 66 = .ok (.dup, 1) ∧ decode cMod_init 67 = .ok (.iconst 3, 1) ∧ decode cMod_init 68 = .ok (.iconst 3, 1) ∧ decode cMod_init 69 = .ok (.iastore, 1) ∧ decode cMod_init 70 = .ok (.dup, 1) ∧ decode cMod_init 71 = .ok (.iconst 4, 1) ∧ decode cMod_init 72 = .ok (.iconst 4, 1) ∧ decode cMod_init 73 = .ok (.iastore, 1) ∧ decode cMod_init 74 = .ok (.dup, 1) ∧ decode cMod_init 75 = .ok (.iconst 5, 1) ∧ decode cMod_init 76 = .ok (.iconst 5, 1) ∧ decode cMod_init 77 = .ok (.iastore, 1) ∧ decode cMod_init 78 = .ok (.dup, 1) ∧ decode cMod_init 79 = .ok (.bipush 6, 2) ∧ decode cMod_init 81 = .ok (.bipush 6, 2) ∧ decode cMod_init 83 = .ok (.iastore, 1) ∧ decode cMod_init 84 = .ok (.dup, 1) ∧ decode cMod_init 85 = .ok (.bipush 7, 2) ∧ decode cMod_init 87 = .ok (.bipush 7, 2) ∧ decode cMod_init 89 = .ok (.iastore, 1) ∧ decode cMod_init 90 = .ok (.putfield 31, 3) ∧ decode cMod_init 93 = .ok (.aload_n 0, 1) ∧ True := Jvm.Free.DS.facts (code := cMod_init) 56 [(.iconst 0, 1), (.iastore, 1), (.dup, 1), (.iconst 1, 1), (.iconst 1, 1), (.iastore, 1), (.dup, 1), (.iconst 2, 1), (.iconst 2, 1), (.iastore, 1), (.dup, 1), (.iconst 3, 1), (.iconst 3, 1), (.iastore, 1), (.dup, 1), (.iconst 4, 1), (.iconst 4, 1), (.iastore, 1), (.dup, 1), (.iconst 5, 1), (.iconst 5, 1), (.iastore, 1), (.dup, 1), (.bipush 6, 2), (.bipush 6, 2), (.iastore, 1), (.dup, 1), (.bipush 7, 2), (.bipush 7, 2), (.iastore, 1), (.putfield 31, 3), (.aload_n 0, 1)] (by decide +kernel) (by decide +kernel)
theorem dMod_init_56 : decode cMod_init 56 = .ok (.iconst 0, 1) := zfMod_init_56.1
theorem dMod_init_57 : decode cMod_init 57 = .ok (.iastore, 1) := zfMod_init_56.2.1
theorem dMod_init_58 : decode cMod_init 58 = .ok (.dup, 1) := zfMod_init_56.2.2.1
theorem dMod_init_59 : decode cMod_init 59 = .ok (.iconst 1, 1) := zfMod_init_56.2.2.2.1
theorem dMod_init_60 : decode cMod_init 60 = .ok (.iconst 1, 1) := zfMod_init_56.2.2.2.2.1
theorem dMod_init_61 : decode cMod_init 61 = .ok (.iastore, 1) := zfMod_init_56.2.2.2.2.2.1
theorem dMod_init_62 : decode cMod_init 62 = .ok (.dup, 1) := zfMod_init_56.2.2.2.2.2.2.1
theorem dMod_init_63 : decode cMod_init 63 = .ok (.iconst 2, 1) := zfMod_init_56.2.2.2.2.2.2.2.1
theorem dMod_init_64 : decode cMod_init 64 = .ok (.iconst 2, 1) := zfMod_init_56.2.2.2.2.2.2.2.2.1
theorem dMod_init_65 : decode cMod_init 65 = .ok (.iastore, 1) := zfMod_init_56.2.2.2.2.2.2.2.2.2.1
theorem dMod_init_66 : decode cMod_init 66 = .ok (.dup, 1) := zfMod_init_56.2.2.2.2.2.2.2.2.2.2.1
theorem dMod_init_67 : decode cMod_init 67 = .ok (.iconst 3, 1) := zfMod_init_56.2.2.2.2.2.2.2.2.2.2.2.1
theorem dMod_init_68 : decode cMod_init 68 = .ok (.iconst 3, 1) := zfMod_init_56.2.2.2.2.2.2.2.2.2.2.2.2.1
theorem dMod_init_69 : decode cMod_init 69 = .ok (.iastore, 1) := zfMod_init_56.2.2.2.2.2.2.2.2.2.2.2.2.2.1
theorem dMod_init_70 : decode cMod_init 70 = .ok (.dup, 1) := zfMod_init_56.2.2.2.2.2.2.2.2.2.2.2.2.2.2.1
theorem dMod_init_71 : decode cMod_init 71 = .ok (.iconst 4, 1) := zfMod_init_56.2.2.2.2.2.2.2.2.2.2.2.2.2.2.2.1
theorem dMod_init_72 : decode cMod_init 72 = .ok (.iconst 4, 1) := zfMod_init_56.2.2.2.2.2.2.2.2.2.2.2.2.2.2.2.2.1
theorem dMod_init_73 : decode cMod_init 73 = .ok (.iastore, 1) := zfMod_init_56.2.2.2.2.2.2.2.2.2.2.2.2.2.2.2.2.2.1
theorem dMod_init_74 : decode cMod_init 74 = .ok (.dup, 1) := zfMod_init_56.2.2.2.2.2.2.2.2.2.2.2.2.2.2.2.2.2.2.1
theorem dMod_init_75 : decode cMod_init 75 = .ok (.iconst 5, 1) := zfMod_init_56.2.2.2.2.2.2.2.2.2.2.2.2.2.2.2.2.2.2.2.1
theorem dMod_init_76 : decode cMod_init 76 = .ok (.iconst 5, 1) := zfMod_init_56.2.2.2.2.2.2.2.2.2.2.2.2.2.2.2.2.2.2.2.2.1
theorem dMod_init_77 : decode cMod_init 77 = .ok (.iastore, 1) := zfMod_init_56.2.2.2.2.2.2.2.2.2.2.2.2.2.2.2.2.2.2.2.2.2.1
theorem dMod_init_78 : decode cMod_init 78 = .ok (.dup, 1) := zfMod_init_56.2.2.2.2.2.2.2.2.2.2.2.2.2.2.2.2.2.2.2.2.2.2.1
theorem dMod_init_79 : decode cMod_init 79 = .ok (.bipush 6, 2) := zfMod_init_56.2.2.2.2.2.2.2.2.2.2.2.2.2.2.2.2.2.2.2.2.2.2.2.1
theorem dMod_init_81 : decode cMod_init 81 = .ok (.bipush 6, 2) := zfMod_init_56.2.2.2.2.2.2.2.2.2.2.2.2.2.2.2.2.2.2.2.2.2.2.2.2.1
theorem dMod_init_83 : decode cMod_init 83 = .ok (.iastore, 1) := zfMod_init_56.2.2.2.2.2.2.2.2.2.2.2.2.2.2.2.2.2.2.2.2.2.2.2.2.2.1
theorem dMod_init_84 : decode cMod_init 84 = .ok (.dup, 1) := zfMod_init_56.2.2.2.2.2.2.2.2.2.2.2.2.2.2.2.2.2.2.2.2.2.2.2.2.2.2.1
theorem dMod_init_85 : decode cMod_init 85 = .ok (.bipush 7, 2) := zfMod_init_56.2.2.2.2.2.2.2.2.2.2.2.2.2.2.2.2.2.2.2.2.2.2.2.2.2.2.2.1
theorem dMod_init_87 : decode cMod_init 87 = .ok (.bipush 7, 2) := zfMod_init_56.2.2.2.2.2.2.2.2.2.2.2.2.2.2.2.2.2.2.2.2.2.2.2.2.2.2.2.2.1
theorem dMod_init_89 : decode cMod_init 89 = .ok (.iastore, 1) := zfMod_init_56.2.2.2.2.2.2.2.2.2.2.2.2.2.2.2.2.2.2.2.2.2.2.2.2.2.2.2.2.2.1
theorem dMod_init_90 : decode cMod_init 90 = .ok (.putfield 31, 3) := zfMod_init_56.2.2.2.2.2.2.2.2.2.2.2.2.2.2.2.2.2.2.2.2.2.2.2.2.2.2.2.2.2.2.1
theorem dMod_init_93 : decode cMod_init 93 = .ok (.aload_n 0, 1) := zfMod_init_56.2.2.2.2.2.2.2.2.2.2.2.2.2.2.2.2.2.2.2.2.2.2.2.2.2.2.2.2.2.2.2.1
theorem zfMod_init_94 : decode cMod_init 94 = .ok (.bipush 60, 2) ∧ decode cMod_init 96 = .ok (.newarray .int, 2) ∧ decode cMod_init 98 = .ok (.putfield 34, 3) ∧ decode cMod_init 101 = .ok (.return_, 1) ∧ True := Jvm.Free.DS.facts (code := cMod_init) 94 [(.bipush 60, 2), (.newarray .int, 2), (.putfield 34, 3), (.return_, 1)] (by decide +kernel) (by decide +kernel)
theorem dMod_init_94 : decode cMod_init 94 = .ok (.bipush 60, 2) := zfMod_init_94.1
theorem dMod_init_96 : decode cMod_init 96 = .ok (.newarray .int, 2) := zfMod_init_94.2.1
theorem dMod_init_98 : decode cMod_init 98 = .ok (.putfield 34, 3) := zfMod_init_94.2.2.1
theorem dMod_init_101 : decode cMod_init 101 = .ok (.return_, 1) := zfMod_init_94.2.2.2.1
theorem zfMod_thrown_0 : decode cMod_thrown 0 = .ok (.aload_n 0, 1) ∧ decode cMod_thrown 1 = .ok (.getfield 37, 3) ∧ decode cMod_thrown 4 = .ok (.ireturn, 1) ∧ True := Jvm.Free.DS.facts (code := cMod_thrown) 0 [(.aload_n 0, 1), (.getfield 37, 3), (.ireturn, 1)] (by decide +kernel) (by decide +kernel)
theorem dMod_thrown_0 : decode cMod_thrown 0 = .ok (.aload_n 0, 1) := zfMod_thrown_0.1
theorem dMod_thrown_1 : decode cMod_thrown 1 = .ok (.getfield 37, 3) := zfMod_thrown_0.2.1
theorem dMod_thrown_4 : decode cMod_thrown 4 = .ok (.ireturn, 1) := zfMod_thrown_0.2.2.1
theorem zfMod_fails_0 : decode cMod_fails 0 = .ok (.aload_n 0, 1) ∧ decode cMod_fails 1 = .ok (.iload_n 1, 1) ∧ decode cMod_fails 2 = .ok (.ifCond .eq 7, 3) ∧ decode cMod_fails 5 = .ok (.iconst 1, 1) ∧ decode cMod_fails 6 = .ok (.goto 20, 3) ∧ decode cMod_fails 9 = .ok (.iload_n 2, 1) ∧ decode cMod_fails 10 = .ok (.ifCond .eq 7, 3) ∧ decode cMod_fails 13 = .ok (.iconst 2, 1) ∧ decode cMod_fails 14 = .ok (.goto 12, 3) ∧ decode cMod_fails 17 = .ok (.iload_n 3, 1) ∧ decode cMod_fails 18 = .ok (.ifCond .eq 7, 3) ∧ decode cMod_fails 21 = .ok (.iconst 3, 1) ∧ decode cMod_fails 22 = .ok (.goto 4, 3) ∧ decode cMod_fails 25 = .ok (.iconst 0, 1) ∧ decode cMod_fails 26 = .ok (.putfield 37, 3) ∧ decode cMod_fails 29 = .ok (.aload_n 0, 1) ∧ decode cMod_fails 30 = .ok (.getfield 37, 3) ∧ decode cMod_fails 33 = .ok (.ifCond .le 7, 3) ∧ decode cMod_fails 36 = .ok (.iconst 1, 1) ∧ decode cMod_fails 37 = .ok (.goto 4, 3) ∧ decode cMod_fails 40 = .ok (.iconst 0, 1) ∧ decode cMod_fails 41 = .ok (.ireturn, 1) ∧ True := Jvm.Free.DS.facts (code := cMod_fails) 0 [(.aload_n 0, 1), (.iload_n 1, 1), (.ifCond .eq 7, 3), (.iconst 1, 1), (.goto 20, 3), (.iload_n 2, 1), (.ifCond .eq 7, 3), (.iconst 2, 1), (.goto 12, 3), (.iload_n 3, 1), (.ifCond .eq 7, 3), (.iconst 3, 1), (.goto 4, 3), (.iconst 0, 1), (.putfield 37, 3), (.aload_n 0, 1), (.getfield 37, 3), (.ifCond .le 7, 3), (.iconst 1, 1), (.goto 4, 3), (.iconst 0, 1), (.ireturn, 1)] (by decide +kernel) (by decide +kernel)
theorem dMod_fails_0 : decode cMod_fails 0 = .ok (.aload_n 0, 1) := zfMod_fails_0.1
theorem dMod_fails_1 : decode cMod_fails 1 = .ok (.iload_n 1, 1) := zfMod_fails_0.2.1
theorem dMod_fails_2 : decode cMod_fails 2 = .ok (.ifCond .eq 7, 3) := zfMod_fails_0.2.2.1
theorem dMod_fails_5 : decode cMod_fails 5 = .ok (.iconst 1, 1) := zfMod_fails_0.2.2.2.1
theorem dMod_fails_6 : decode cMod_fails 6 = .ok (.goto 20, 3) := zfMod_fails_0.2.2.2.2.1
theorem dMod_fails_9 : decode cMod_fails 9 = .ok (.iload_n 2, 1) := zfMod_fails_0.2.2.2.2.2.1
theorem dMod_fails_10 : decode cMod_fails 10 = .ok (.ifCond .eq 7, 3) := zfMod_fails_0.2.2.2.2.2.2.1
theorem dMod_fails_13 : decode cMod_fails 13 = .ok (.iconst 2, 1) := zfMod_fails_0.2.2.2.2.2.2.2.1
theorem dMod_fails_14 : decode cMod_fails 14 = .ok (.goto 12, 3) := zfMod_fails_0.2.2.2.2.2.2.2.2.1
theorem dMod_fails_17 : decode cMod_fails 17 = .ok (.iload_n 3, 1) := zfMod_fails_0.2.2.2.2.2.2.2.2.2.1
theorem dMod_fails_18 : decode cMod_fails 18 = .ok (.ifCond .eq 7, 3) := zfMod_fails_0.2.2.2.2.2.2.2.2.2.2.1
theorem dMod_fails_21 : decode cMod_fails 21 = .ok (.iconst 3, 1) := zfMod_fails_0.2.2.2.2.2.2.2.2.2.2.2.1
theorem dMod_fails_22 : decode cMod_fails 22 = .ok (.goto 4, 3) := zfMod_fails_0.2.2.2.2.2.2.2.2.2.2.2.2.1
theorem dMod_fails_25 : decode cMod_fails 25 = .ok (.iconst 0, 1) := zfMod_fails_0.2.2.2.2.2.2.2.2.2.2.2.2.2.1
theorem dMod_fails_26 : decode cMod_fails 26 = .ok (.putfield 37, 3) := zfMod_fails_0.2.2.2.2.2.2.2.2.2.2.2.2.2.2.1
theorem dMod_fails_29 : decode cMod_fails 29 = .ok (.aload_n 0, 1) := zfMod_fails_0.2.2.2.2.2.2.2.2.2.2.2.2.2.2.2.1
theorem dMod_fails_30 : decode cMod_fails 30 = .ok (.getfield 37, 3) := zfMod_fails_0.2.2.2.2.2.2.2.2.2.2.2.2.2.2.2.2.1
theorem dMod_fails_33 : decode cMod_fails 33 = .ok (.ifCond .le 7, 3) := zfMod_fails_0.2.2.2.2.2.2.2.2.2.2.2.2.2.2.2.2.2.1
theorem dMod_fails_36 : decode cMod_fails 36 = .ok (.iconst 1, 1) := zfMod_fails_0.2.2.2.2.2.2.2.2.2.2.2.2.2.2.2.2.2.2.1
theorem dMod_fails_37 : decode cMod_fails 37 = .ok (.goto 4, 3) := zfMod_fails_0.2.2.2.2.2.2.2.2.2.2.2.2.2.2.2.2.2.2.2.1
theorem dMod_fails_40 : decode cMod_fails 40 = .ok (.iconst 0, 1) := zfMod_fails_0.2.2.2.2.2.2.2.2.2.2.2.2.2.2.2.2.2.2.2.2.1
theorem dMod_fails_41 : decode cMod_fails 41 = .ok (.ireturn, 1) := zfMod_fails_0.2.2.2.2.2.2.2.2.2.2.2.2.2.2.2.2.2.2.2.2.2.1
theorem zfMod_isOut_0 : decode cMod_isOut 0 = .ok (.iload_n 0, 1) ∧ decode cMod_isOut 1 = .ok (.iload_n 1, 1) ∧ decode cMod_isOut 2 = .ok (.if_icmp .lt 8, 3) ∧ decode cMod_isOut 5 = .ok (.iload_n 0, 1) ∧ decode cMod_isOut 6 = .ok (.iload_n 2, 1) ∧ decode cMod_isOut 7 = .ok (.if_icmp .le 7, 3) ∧ decode cMod_isOut 10 = .ok (.iconst 1, 1) ∧ decode cMod_isOut 11 = .ok (.goto 4, 3) ∧ decode cMod_isOut 14 = .ok (.iconst 0, 1) ∧ decode cMod_isOut 15 = .ok (.ireturn, 1) ∧ True := Jvm.Free.DS.facts (code := cMod_isOut) 0 [(.iload_n 0, 1), (.iload_n 1, 1), (.if_icmp .lt 8, 3), (.iload_n 0, 1), (.iload_n 2, 1), (.if_icmp .le 7, 3), (.iconst 1, 1), (.goto 4, 3), (.iconst 0, 1), (.ireturn, 1)] (by decide +kernel) (by decide +kernel)
theorem dMod_isOut_0 : decode cMod_isOut 0 = .ok (.iload_n 0, 1) := zfMod_isOut_0.1
theorem dMod_isOut_1 : decode cMod_isOut 1 = .ok (.iload_n 1, 1) := zfMod_isOut_0.2.1
theorem dMod_isOut_2 : decode cMod_isOut 2 = .ok (.if_icmp .lt 8, 3) := zfMod_isOut_0.2.2.1
theorem dMod_isOut_5 : decode cMod_isOut 5 = .ok (.iload_n 0, 1) := zfMod_isOut_0.2.2.2.1
theorem dMod_isOut_6 : decode cMod_isOut 6 = .ok (.iload_n 2, 1) := zfMod_isOut_0.2.2.2.2.1
theorem dMod_isOut_7 : decode cMod_isOut 7 = .ok (.if_icmp .le 7, 3) := zfMod_isOut_0.2.2.2.2.2.1
theorem dMod_isOut_10 : decode cMod_isOut 10 = .ok (.iconst 1, 1) := zfMod_isOut_0.2.2.2.2.2.2.1
theorem dMod_isOut_11 : decode cMod_isOut 11 = .ok (.goto 4, 3) := zfMod_isOut_0.2.2.2.2.2.2.2.1
theorem dMod_isOut_14 : decode cMod_isOut 14 = .ok (.iconst 0, 1) := zfMod_isOut_0.2.2.2.2.2.2.2.2.1
theorem dMod_isOut_15 : decode cMod_isOut 15 = .ok (.ireturn, 1) := zfMod_isOut_0.2.2.2.2.2.2.2.2.2.1
theorem zfMod_isNo_0 : decode cMod_isNo 0 = .ok (.iload_n 0, 1) ∧ decode cMod_isNo 1 = .ok (.iconst 0, 1) ∧ decode cMod_isNo 2 = .ok (.iconst 3, 1) ∧ decode cMod_isNo 3 = .ok (.invokestatic 41, 3) ∧ decode cMod_isNo 6 = .ok (.ireturn, 1) ∧ True := Jvm.Free.DS.facts (code := cMod_isNo) 0 [(.iload_n 0, 1), (.iconst 0, 1), (.iconst 3, 1), (.invokestatic 41, 3), (.ireturn, 1)] (by decide +kernel) (by decide +kernel)
theorem dMod_isNo_0 : decode cMod_isNo 0 = .ok (.iload_n 0, 1) := zfMod_isNo_0.1
theorem dMod_isNo_1 : decode cMod_isNo 1 = .ok (.iconst 0, 1) := zfMod_isNo_0.2.1
theorem dMod_isNo_2 : decode cMod_isNo 2 = .ok (.iconst 3, 1) := zfMod_isNo_0.2.2.1
theorem dMod_isNo_3 : decode cMod_isNo 3 = .ok (.invokestatic 41, 3) := zfMod_isNo_0.2.2.2.1
theorem dMod_isNo_6 : decode cMod_isNo 6 = .ok (.ireturn, 1) := zfMod_isNo_0.2.2.2.2.1
theorem zfMod_isNoCursor_0 : decode cMod_isNoCursor 0 = .ok (.iload_n 0, 1) ∧ decode cMod_isNoCursor 1 = .ok (.iconst 0, 1) ∧ decode cMod_isNoCursor 2 = .ok (.iconst 2, 1) ∧ decode cMod_isNoCursor 3 = .ok (.invokestatic 41, 3) ∧ decode cMod_isNoCursor 6 = .ok (.ireturn, 1) ∧ True := Jvm.Free.DS.facts (code := cMod_isNoCursor) 0 [(.iload_n 0, 1), (.iconst 0, 1), (.iconst 2, 1), (.invokestatic 41, 3), (.ireturn, 1)] (by decide +kernel) (by decide +kernel)
theorem dMod_isNoCursor_0 : decode cMod_isNoCursor 0 = .ok (.iload_n 0, 1) := zfMod_isNoCursor_0.1
theorem dMod_isNoCursor_1 : decode cMod_isNoCursor 1 = .ok (.iconst 0, 1) := zfMod_isNoCursor_0.2.1
theorem dMod_isNoCursor_2 : decode cMod_isNoCursor 2 = .ok (.iconst 2, 1) := zfMod_isNoCursor_0.2.2.1
theorem dMod_isNoCursor_3 : decode cMod_isNoCursor 3 = .ok (.invokestatic 41, 3) := zfMod_isNoCursor_0.2.2.2.1
theorem dMod_isNoCursor_6 : decode cMod_isNoCursor 6 = .ok (.ireturn, 1) := zfMod_isNoCursor_0.2.2.2.2.1
theorem zfMod_isNoItem_0 : decode cMod_isNoItem 0 = .ok (.iload_n 0, 1) ∧ decode cMod_isNoItem 1 = .ok (.sipush (-9999), 3) ∧ decode cMod_isNoItem 4 = .ok (.sipush 9999, 3) ∧ decode cMod_isNoItem 7 = .ok (.invokestatic 41, 3) ∧ decode cMod_isNoItem 10 = .ok (.ireturn, 1) ∧ True := Jvm.Free.DS.facts (code := cMod_isNoItem) 0 [(.iload_n 0, 1), (.sipush (-9999), 3), (.sipush 9999, 3), (.invokestatic 41, 3), (.ireturn, 1)] (by decide +kernel) (by decide +kernel)
theorem dMod_isNoItem_0 : decode cMod_isNoItem 0 = .ok (.iload_n 0, 1) := zfMod_isNoItem_0.1
theorem dMod_isNoItem_1 : decode cMod_isNoItem 1 = .ok (.sipush (-9999), 3) := zfMod_isNoItem_0.2.1
theorem dMod_isNoItem_4 : decode cMod_isNoItem 4 = .ok (.sipush 9999, 3) := zfMod_isNoItem_0.2.2.1
theorem dMod_isNoItem_7 : decode cMod_isNoItem 7 = .ok (.invokestatic 41, 3) := zfMod_isNoItem_0.2.2.2.1
theorem dMod_isNoItem_10 : decode cMod_isNoItem 10 = .ok (.ireturn, 1) := zfMod_isNoItem_0.2.2.2.2.1
theorem zfMod_isNoPlace_0 : decode cMod_isNoPlace 0 = .ok (.iload_n 2, 1) ∧ decode cMod_isNoPlace 1 = .ok (.iconst 0, 1) ∧ decode cMod_isNoPlace 2 = .ok (.aload_n 0, 1) ∧ decode cMod_isNoPlace 3 = .ok (.getfield 11, 3) ∧ decode cMod_isNoPlace 6 = .ok (.iload_n 1, 1) ∧ decode cMod_isNoPlace 7 = .ok (.aaload, 1) ∧ decode cMod_isNoPlace 8 = .ok (.arraylength, 1) ∧ decode cMod_isNoPlace 9 = .ok (.iconst 1, 1) ∧ decode cMod_isNoPlace 10 = .ok (.isub, 1) ∧ decode cMod_isNoPlace 11 = .ok (.invokestatic 41, 3) ∧ decode cMod_isNoPlace 14 = .ok (.ireturn, 1) ∧ True := Jvm.Free.DS.facts (code := cMod_isNoPlace) 0 [(.iload_n 2, 1), (.iconst 0, 1), (.aload_n 0, 1), (.getfield 11, 3), (.iload_n 1, 1), (.aaload, 1), (.arraylength, 1), (.iconst 1, 1), (.isub, 1), (.invokestatic 41, 3), (.ireturn, 1)] (by decide +kernel) (by decide +kernel)
theorem dMod_isNoPlace_0 : decode cMod_isNoPlace 0 = .ok (.iload_n 2, 1) := zfMod_isNoPlace_0.1
theorem dMod_isNoPlace_1 : decode cMod_isNoPlace 1 = .ok (.iconst 0, 1) := zfMod_isNoPlace_0.2.1
theorem dMod_isNoPlace_2 : decode cMod_isNoPlace 2 = .ok (.aload_n 0, 1) := zfMod_isNoPlace_0.2.2.1
theorem dMod_isNoPlace_3 : decode cMod_isNoPlace 3 = .ok (.getfield 11, 3) := zfMod_isNoPlace_0.2.2.2.1
theorem dMod_isNoPlace_6 : decode cMod_isNoPlace 6 = .ok (.iload_n 1, 1) := zfMod_isNoPlace_0.2.2.2.2.1
theorem dMod_isNoPlace_7 : decode cMod_isNoPlace 7 = .ok (.aaload, 1) := zfMod_isNoPlace_0.2.2.2.2.2.1
theorem dMod_isNoPlace_8 : decode cMod_isNoPlace 8 = .ok (.arraylength, 1) := zfMod_isNoPlace_0.2.2.2.2.2.2.1
theorem dMod_isNoPlace_9 : decode cMod_isNoPlace 9 = .ok (.iconst 1, 1) := zfMod_isNoPlace_0.2.2.2.2.2.2.2.1
theorem dMod_isNoPlace_10 : decode cMod_isNoPlace 10 = .ok (.isub, 1) := zfMod_isNoPlace_0.2.2.2.2.2.2.2.2.1
theorem dMod_isNoPlace_11 : decode cMod_isNoPlace 11 = .ok (.invokestatic 41, 3) := zfMod_isNoPlace_0.2.2.2.2.2.2.2.2.2.1
theorem dMod_isNoPlace_14 : decode cMod_isNoPlace 14 = .ok (.ireturn, 1) := zfMod_isNoPlace_0.2.2.2.2.2.2.2.2.2.2.1
theorem zfMod_refused_0 : decode cMod_refused 0 = .ok (.aload_n 0, 1) ∧ decode cMod_refused 1 = .ok (.dup, 1) ∧ decode cMod_refused 2 = .ok (.getfield 45, 3) ∧ decode cMod_refused 5 = .ok (.iconst 1, 1) ∧ decode cMod_refused 6 = .ok (.iadd, 1) ∧ decode cMod_refused 7 = .ok (.putfield 45, 3) ∧ decode cMod_refused 10 = .ok (.ldc 48, 2) ∧ decode cMod_refused 12 = .ok (.ireturn, 1) ∧ True := Jvm.Free.DS.facts (code := cMod_refused) 0 [(.aload_n 0, 1), (.dup, 1), (.getfield 45, 3), (.iconst 1, 1), (.iadd, 1), (.putfield 45, 3), (.ldc 48, 2), (.ireturn, 1)] (by decide +kernel) (by decide +kernel)
theorem dMod_refused_0 : decode cMod_refused 0 = .ok (.aload_n 0, 1) := zfMod_refused_0.1
theorem dMod_refused_1 : decode cMod_refused 1 = .ok (.dup, 1) := zfMod_refused_0.2.1
theorem dMod_refused_2 : decode cMod_refused 2 = .ok (.getfield 45, 3) := zfMod_refused_0.2.2.1
theorem dMod_refused_5 : decode cMod_refused 5 = .ok (.iconst 1, 1) := zfMod_refused_0.2.2.2.1
theorem dMod_refused_6 : decode cMod_refused 6 = .ok (.iadd, 1) := zfMod_refused_0.2.2.2.2.1
theorem dMod_refused_7 : decode cMod_refused 7 = .ok (.putfield 45, 3) := zfMod_refused_0.2.2.2.2.2.1
theorem dMod_refused_10 : decode cMod_refused 10 = .ok (.ldc 48, 2) := zfMod_refused_0.2.2.2.2.2.2.1
theorem dMod_refused_12 : decode cMod_refused 12 = .ok (.ireturn, 1) := zfMod_refused_0.2.2.2.2.2.2.2.1
theorem zfMod_with_0 : decode cMod_with 0 = .ok (.aload_n 0, 1) ∧ decode cMod_with 1 = .ok (.arraylength, 1) ∧ decode cMod_with 2 = .ok (.iconst 1, 1) ∧ decode cMod_with 3 = .ok (.iadd, 1) ∧ decode cMod_with 4 = .ok (.newarray .int, 2) ∧ decode cMod_with 6 = .ok (.astore_n 3, 1) ∧ decode cMod_with 7 = .ok (.iconst 0, 1) ∧ decode cMod_with 8 = .ok (.istore 4, 2) ∧ decode cMod_with 10 = .ok (.iload 4, 2) ∧ decode cMod_with 12 = .ok (.aload_n 3, 1) ∧ decode cMod_with 13 = .ok (.arraylength, 1) ∧ decode cMod_with 14 = .ok (.if_icmp .ge 42, 3) ∧ decode cMod_with 17 = .ok (.aload_n 3, 1) ∧ decode cMod_with 18 = .ok (.iload 4, 2) ∧ decode cMod_with 20 = .ok (.iload 4, 2) ∧ decode cMod_with 22 = .ok (.iload_n 1, 1) ∧ decode cMod_with 23 = .ok (.if_icmp .ge 10, 3) ∧ decode cMod_with 26 = .ok (.aload_n 0, 1) ∧ decode cMod_with 27 = .ok (.iload 4, 2) ∧ decode cMod_with 29 = .ok (.iaload, 1) ∧ decode cMod_with 30 = .ok (.goto 19, 3) ∧ decode cMod_with 33 = .ok (.iload 4, 2) ∧ decode cMod_with 35 = .ok (.iload_n 1, 1) ∧ decode cMod_with 36 = .ok (.if_icmp .ne 7, 3) ∧ decode cMod_with 39 = .ok (.iload_n 2, 1) ∧ decode cMod_with 40 = .ok (.goto 9, 3) ∧ decode cMod_with 43 = .ok (.aload_n 0, 1) ∧ decode cMod_with 44 = .ok (.iload 4, 2) ∧ decode cMod_with 46 = .ok (.iconst 1, 1) ∧ decode cMod_with 47 = .ok (.isub, 1) ∧ decode cMod_with 48 = .ok (.iaload, 1) ∧ decode cMod_with 49 = .ok (.iastore, 1) ∧ True := Jvm.Free.DS.facts (code := cMod_with) 0 [(.aload_n 0, 1), (.arraylength, 1), (.iconst 1, 1), (.iadd, 1), (.newarray .int, 2), (.astore_n 3, 1), (.iconst 0, 1), (.istore 4, 2), (.iload 4, 2), (.aload_n 3, 1), (.arraylength, 1), (.if_icmp .ge 42, 3), (.aload_n 3, 1), (.iload 4, 2), (.iload 4, 2), (.iload_n 1, 1), (.if_icmp .ge 10, 3), (.aload_n 0, 1), (.iload 4, 2), (.iaload, 1), (.goto 19, 3), (.iload 4, 2), (.iload_n 1, 1), (.if_icmp .ne 7, 3), (.iload_n 2, 1), (.goto 9, 3), (.aload_n 0, 1), (.iload 4, 2), (.iconst 1, 1), (.isub, 1), (.iaload, 1), (.iastore, 1)] (by decide +kernel) (by decide +kernel)
theorem dMod_with_0 : decode cMod_with 0 = .ok (.aload_n 0, 1) := zfMod_with_0.1
theorem dMod_with_1 : decode cMod_with 1 = .ok (.arraylength, 1) := zfMod_with_0.2.1
theorem dMod_with_2 : decode cMod_with 2 = .ok (.iconst 1, 1) := zfMod_with_0.2.2.1
theorem dMod_with_3 : decode cMod_with 3 = .ok (.iadd, 1) := zfMod_with_0.2.2.2.1
theorem dMod_with_4 : decode cMod_with 4 = .ok (.newarray .int, 2) := zfMod_with_0.2.2.2.2.1
theorem dMod_with_6 : decode cMod_with 6 = .ok (.astore_n 3, 1) := zfMod_with_0.2.2.2.2.2.1
theorem dMod_with_7 : decode cMod_with 7 = .ok (.iconst 0, 1) := zfMod_with_0.2.2.2.2.2.2.1
theorem dMod_with_8 : decode cMod_with 8 = .ok (.istore 4, 2) := zfMod_with_0.2.2.2.2.2.2.2.1
theorem dMod_with_10 : decode cMod_with 10 = .ok (.iload 4, 2) := zfMod_with_0.2.2.2.2.2.2.2.2.1
theorem dMod_with_12 : decode cMod_with 12 = .ok (.aload_n 3, 1) := zfMod_with_0.2.2.2.2.2.2.2.2.2.1
theorem dMod_with_13 : decode cMod_with 13 = .ok (.arraylength, 1) := zfMod_with_0.2.2.2.2.2.2.2.2.2.2.1
theorem dMod_with_14 : decode cMod_with 14 = .ok (.if_icmp .ge 42, 3) := zfMod_with_0.2.2.2.2.2.2.2.2.2.2.2.1
theorem dMod_with_17 : decode cMod_with 17 = .ok (.aload_n 3, 1) := zfMod_with_0.2.2.2.2.2.2.2.2.2.2.2.2.1
theorem dMod_with_18 : decode cMod_with 18 = .ok (.iload 4, 2) := zfMod_with_0.2.2.2.2.2.2.2.2.2.2.2.2.2.1
theorem dMod_with_20 : decode cMod_with 20 = .ok (.iload 4, 2) := zfMod_with_0.2.2.2.2.2.2.2.2.2.2.2.2.2.2.1
theorem dMod_with_22 : decode cMod_with 22 = .ok (.iload_n 1, 1) := zfMod_with_0.2.2.2.2.2.2.2.2.2.2.2.2.2.2.2.1
theorem dMod_with_23 : decode cMod_with 23 = .ok (.if_icmp .ge 10, 3) := zfMod_with_0.2.2.2.2.2.2.2.2.2.2.2.2.2.2.2.2.1
theorem dMod_with_26 : decode cMod_with 26 = .ok (.aload_n 0, 1) := zfMod_with_0.2.2.2.2.2.2.2.2.2.2.2.2.2.2.2.2.2.1
theorem dMod_with_27 : decode cMod_with 27 = .ok (.iload 4, 2) := zfMod_with_0.2.2.2.2.2.2.2.2.2.2.2.2.2.2.2.2.2.2.1
theorem dMod_with_29 : decode cMod_with 29 = .ok (.iaload, 1) := zfMod_with_0.2.2.2.2.2.2.2.2.2.2.2.2.2.2.2.2.2.2.2.1
theorem dMod_with_30 : decode cMod_with 30 = .ok (.goto 19, 3) := zfMod_with_0.2.2.2.2.2.2.2.2.2.2.2.2.2.2.2.2.2.2.2.2.1
theorem dMod_with_33 : decode cMod_with 33 = .ok (.iload 4, 2) := zfMod_with_0.2.2.2.2.2.2.2.2.2.2.2.2.2.2.2.2.2.2.2.2.2.1
theorem dMod_with_35 : decode cMod_with 35 = .ok (.iload_n 1, 1) := zfMod_with_0.2.2.2.2.2.2.2.2.2.2.2.2.2.2.2.2.2.2.2.2.2.2.1
theorem dMod_with_36 : decode cMod_with 36 = .ok (.if_icmp .ne 7, 3) := zfMod_with_0.2.2.2.2.2.2.2.2.2.2.2.2.2.2.2.2.2.2.2.2.2.2.2.1
theorem dMod_with_39 : decode cMod_with 39 = .ok (.iload_n 2, 1) := zfMod_with_0.2.2.2.2.2.2.2.2.2.2.2.2.2.2.2.2.2.2.2.2.2.2.2.2.1
theorem dMod_with_40 : decode cMod_with 40 = .ok (.goto 9, 3) := zfMod_with_0.2.2.2.2.2.2.2.2.2.2.2.2.2.2.2.2.2.2.2.2.2.2.2.2.2.1
theorem dMod_with_43 : decode cMod_with 43 = .ok (.aload_n 0, 1) := zfMod_with_0.2.2.2.2.2.2.2.2.2.2.2.2.2.2.2.2.2.2.2.2.2.2.2.2.2.2.1
theorem dMod_with_44 : decode cMod_with 44 = .ok (.iload 4, 2) := zfMod_with_0.2.2.2.2.2.2.2.2.2.2.2.2.2.2.2.2.2.2.2.2.2.2.2.2.2.2.2.1
theorem dMod_with_46 : decode cMod_with 46 = .ok (.iconst 1, 1) := zfMod_with_0.2.2.2.2.2.2.2.2.2.2.2.2.2.2.2.2.2.2.2.2.2.2.2.2.2.2.2.2.1
theorem dMod_with_47 : decode cMod_with 47 = .ok (.isub, 1) := zfMod_with_0.2.2.2.2.2.2.2.2.2.2.2.2.2.2.2.2.2.2.2.2.2.2.2.2.2.2.2.2.2.1
theorem dMod_with_48 : decode cMod_with 48 = .ok (.iaload, 1) := zfMod_with_0.2.2.2.2.2.2.2.2.2.2.2.2.2.2.2.2.2.2.2.2.2.2.2.2.2.2.2.2.2.2.1
theorem dMod_with_49 : decode cMod_with 49 = .ok (.iastore, 1) := zfMod_with_0.2.2.2.2.2.2.2.2.2.2.2.2.2.2.2.2.2.2.2.2.2.2.2.2.2.2.2.2.2.2.2.1
theorem zfMod_with_50 : decode cMod_with 50 = .ok (.iinc 4 1, 3) ∧ decode cMod_with 53 = .ok (.goto (-43), 3) ∧ decode cMod_with 56 = .ok (.aload_n 3, 1) ∧ decode cMod_with 57 = .ok (.areturn, 1) ∧ True := Jvm.Free.DS.facts (code := cMod_with) 50 [(.iinc 4 1, 3), (.goto (-43), 3), (.aload_n 3, 1), (.areturn, 1)] (by decide +kernel) (by decide +kernel)
theorem dMod_with_50 : decode cMod_with 50 = .ok (.iinc 4 1, 3) := zfMod_with_50.1
theorem dMod_with_53 : decode cMod_with 53 = .ok (.goto (-43), 3) := zfMod_with_50.2.1
theorem dMod_with_56 : decode cMod_with 56 = .ok (.aload_n 3, 1) := zfMod_with_50.2.2.1
theorem dMod_with_57 : decode cMod_with 57 = .ok (.areturn, 1) := zfMod_with_50.2.2.2.1
theorem zfMod_without_0 : decode cMod_without 0 = .ok (.aload_n 0, 1) ∧ decode cMod_without 1 = .ok (.arraylength, 1) ∧ decode cMod_without 2 = .ok (.iconst 1, 1) ∧ decode cMod_without 3 = .ok (.isub, 1) ∧ decode cMod_without 4 = .ok (.newarray .int, 2) ∧ decode cMod_without 6 = .ok (.astore_n 2, 1) ∧ decode cMod_without 7 = .ok (.iconst 0, 1) ∧ decode cMod_without 8 = .ok (.istore_n 3, 1) ∧ decode cMod_without 9 = .ok (.iload_n 3, 1) ∧ decode cMod_without 10 = .ok (.aload_n 2, 1) ∧ decode cMod_without 11 = .ok (.arraylength, 1) ∧ decode cMod_without 12 = .ok (.if_icmp .ge 26, 3) ∧ decode cMod_without 15 = .ok (.aload_n 2, 1) ∧ decode cMod_without 16 = .ok (.iload_n 3, 1) ∧ decode cMod_without 17 = .ok (.aload_n 0, 1) ∧ decode cMod_without 18 = .ok (.iload_n 3, 1) ∧ decode cMod_without 19 = .ok (.iload_n 1, 1) ∧ decode cMod_without 20 = .ok (.if_icmp .ge 7, 3) ∧ decode cMod_without 23 = .ok (.iload_n 3, 1) ∧ decode cMod_without 24 = .ok (.goto 6, 3) ∧ decode cMod_without 27 = .ok (.iload_n 3, 1) ∧ decode cMod_without 28 = .ok (.iconst 1, 1) ∧ decode cMod_without 29 = .ok (.iadd, 1) ∧ decode cMod_without 30 = .ok (.iaload, 1) ∧ decode cMod_without 31 = .ok (.iastore, 1) ∧ decode cMod_without 32 = .ok (.iinc 3 1, 3) ∧ decode cMod_without 35 = .ok (.goto (-26), 3) ∧ decode cMod_without 38 = .ok (.aload_n 2, 1) ∧ decode cMod_without 39 = .ok (.areturn, 1) ∧ True := Jvm.Free.DS.facts (code := cMod_without) 0 [(.aload_n 0, 1), (.arraylength, 1), (.iconst 1, 1), (.isub, 1), (.newarray .int, 2), (.astore_n 2, 1), (.iconst 0, 1), (.istore_n 3, 1), (.iload_n 3, 1), (.aload_n 2, 1), (.arraylength, 1), (.if_icmp .ge 26, 3), (.aload_n 2, 1), (.iload_n 3, 1), (.aload_n 0, 1), (.iload_n 3, 1), (.iload_n 1, 1), (.if_icmp .ge 7, 3), (.iload_n 3, 1), (.goto 6, 3), (.iload_n 3, 1), (.iconst 1, 1), (.iadd, 1), (.iaload, 1), (.iastore, 1), (.iinc 3 1, 3), (.goto (-26), 3), (.aload_n 2, 1), (.areturn, 1)] (by decide +kernel) (by decide +kernel)
theorem dMod_without_0 : decode cMod_without 0 = .ok (.aload_n 0, 1) := zfMod_without_0.1
theorem dMod_without_1 : decode cMod_without 1 = .ok (.arraylength, 1) := zfMod_without_0.2.1
theorem dMod_without_2 : decode cMod_without 2 = .ok (.iconst 1, 1) := zfMod_without_0.2.2.1
theorem dMod_without_3 : decode cMod_without 3 = .ok (.isub, 1) := zfMod_without_0.2.2.2.1
theorem dMod_without_4 : decode cMod_without 4 = .ok (.newarray .int, 2) := zfMod_without_0.2.2.2.2.1
theorem dMod_without_6 : decode cMod_without 6 = .ok (.astore_n 2, 1) := zfMod_without_0.2.2.2.2.2.1
theorem dMod_without_7 : decode cMod_without 7 = .ok (.iconst 0, 1) := zfMod_without_0.2.2.2.2.2.2.1
theorem dMod_without_8 : decode cMod_without 8 = .ok (.istore_n 3, 1) := zfMod_without_0.2.2.2.2.2.2.2.1
theorem dMod_without_9 : decode cMod_without 9 = .ok (.iload_n 3, 1) := zfMod_without_0.2.2.2.2.2.2.2.2.1
theorem dMod_without_10 : decode cMod_without 10 = .ok (.aload_n 2, 1) := zfMod_without_0.2.2.2.2.2.2.2.2.2.1
theorem dMod_without_11 : decode cMod_without 11 = .ok (.arraylength, 1) := zfMod_without_0.2.2.2.2.2.2.2.2.2.2.1
theorem dMod_without_12 : decode cMod_without 12 = .ok (.if_icmp .ge 26, 3) := zfMod_without_0.2.2.2.2.2.2.2.2.2.2.2.1
theorem dMod_without_15 : decode cMod_without 15 = .ok (.aload_n 2, 1) := zfMod_without_0.2.2.2.2.2.2.2.2.2.2.2.2.1
theorem dMod_without_16 : decode cMod_without 16 = .ok (.iload_n 3, 1) := zfMod_without_0.2.2.2.2.2.2.2.2.2.2.2.2.2.1
theorem dMod_without_17 : decode cMod_without 17 = .ok (.aload_n 0, 1) := zfMod_without_0.2.2.2.2.2.2.2.2.2.2.2.2.2.2.1
theorem dMod_without_18 : decode cMod_without 18 = .ok (.iload_n 3, 1) := zfMod_without_0.2.2.2.2.2.2.2.2.2.2.2.2.2.2.2.1
theorem dMod_without_19 : decode cMod_without 19 = .ok (.iload_n 1, 1) := zfMod_without_0.2.2.2.2.2.2.2.2.2.2.2.2.2.2.2.2.1
theorem dMod_without_20 : decode cMod_without 20 = .ok (.if_icmp .ge 7, 3) := zfMod_without_0.2.2.2.2.2.2.2.2.2.2.2.2.2.2.2.2.2.1
theorem dMod_without_23 : decode cMod_without 23 = .ok (.iload_n 3, 1) := zfMod_without_0.2.2.2.2.2.2.2.2.2.2.2.2.2.2.2.2.2.2.1
theorem dMod_without_24 : decode cMod_without 24 = .ok (.goto 6, 3) := zfMod_without_0.2.2.2.2.2.2.2.2.2.2.2.2.2.2.2.2.2.2.2.1
theorem dMod_without_27 : decode cMod_without 27 = .ok (.iload_n 3, 1) := zfMod_without_0.2.2.2.2.2.2.2.2.2.2.2.2.2.2.2.2.2.2.2.2.1
theorem dMod_without_28 : decode cMod_without 28 = .ok (.iconst 1, 1) := zfMod_without_0.2.2.2.2.2.2.2.2.2.2.2.2.2.2.2.2.2.2.2.2.2.1
theorem dMod_without_29 : decode cMod_without 29 = .ok (.iadd, 1) := zfMod_without_0.2.2.2.2.2.2.2.2.2.2.2.2.2.2.2.2.2.2.2.2.2.2.1
theorem dMod_without_30 : decode cMod_without 30 = .ok (.iaload, 1) := zfMod_without_0.2.2.2.2.2.2.2.2.2.2.2.2.2.2.2.2.2.2.2.2.2.2.2.1
theorem dMod_without_31 : decode cMod_without 31 = .ok (.iastore, 1) := zfMod_without_0.2.2.2.2.2.2.2.2.2.2.2.2.2.2.2.2.2.2.2.2.2.2.2.2.1
theorem dMod_without_32 : decode cMod_without 32 = .ok (.iinc 3 1, 3) := zfMod_without_0.2.2.2.2.2.2.2.2.2.2.2.2.2.2.2.2.2.2.2.2.2.2.2.2.2.1
theorem dMod_without_35 : decode cMod_without 35 = .ok (.goto (-26), 3) := zfMod_without_0.2.2.2.2.2.2.2.2.2.2.2.2.2.2.2.2.2.2.2.2.2.2.2.2.2.2.1
theorem dMod_without_38 : decode cMod_without 38 = .ok (.aload_n 2, 1) := zfMod_without_0.2.2.2.2.2.2.2.2.2.2.2.2.2.2.2.2.2.2.2.2.2.2.2.2.2.2.2.1
theorem dMod_without_39 : decode cMod_without 39 = .ok (.areturn, 1) := zfMod_without_0.2.2.2.2.2.2.2.2.2.2.2.2.2.2.2.2.2.2.2.2.2.2.2.2.2.2.2.2.1
theorem zfMod_joined_0 : decode cMod_joined 0 = .ok (.aload_n 0, 1) ∧ decode cMod_joined 1 = .ok (.astore_n 3, 1) ∧ decode cMod_joined 2 = .ok (.iconst 0, 1) ∧ decode cMod_joined 3 = .ok (.istore 4, 2) ∧ decode cMod_joined 5 = .ok (.iload 4, 2) ∧ decode cMod_joined 7 = .ok (.aload_n 2, 1) ∧ decode cMod_joined 8 = .ok (.arraylength, 1) ∧ decode cMod_joined 9 = .ok (.if_icmp .ge 22, 3) ∧ decode cMod_joined 12 = .ok (.aload_n 3, 1) ∧ decode cMod_joined 13 = .ok (.iload_n 1, 1) ∧ decode cMod_joined 14 = .ok (.iload 4, 2) ∧ decode cMod_joined 16 = .ok (.iadd, 1) ∧ decode cMod_joined 17 = .ok (.aload_n 2, 1) ∧ decode cMod_joined 18 = .ok (.iload 4, 2) ∧ decode cMod_joined 20 = .ok (.iaload, 1) ∧ decode cMod_joined 21 = .ok (.invokestatic 49, 3) ∧ decode cMod_joined 24 = .ok (.astore_n 3, 1) ∧ decode cMod_joined 25 = .ok (.iinc 4 1, 3) ∧ decode cMod_joined 28 = .ok (.goto (-23), 3) ∧ decode cMod_joined 31 = .ok (.aload_n 3, 1) ∧ decode cMod_joined 32 = .ok (.areturn, 1) ∧ True := Jvm.Free.DS.facts (code := cMod_joined) 0 [(.aload_n 0, 1), (.astore_n 3, 1), (.iconst 0, 1), (.istore 4, 2), (.iload 4, 2), (.aload_n 2, 1), (.arraylength, 1), (.if_icmp .ge 22, 3), (.aload_n 3, 1), (.iload_n 1, 1), (.iload 4, 2), (.iadd, 1), (.aload_n 2, 1), (.iload 4, 2), (.iaload, 1), (.invokestatic 49, 3), (.astore_n 3, 1), (.iinc 4 1, 3), (.goto (-23), 3), (.aload_n 3, 1), (.areturn, 1)] (by decide +kernel) (by decide +kernel)
theorem dMod_joined_0 : decode cMod_joined 0 = .ok (.aload_n 0, 1) := zfMod_joined_0.1
theorem dMod_joined_1 : decode cMod_joined 1 = .ok (.astore_n 3, 1) := zfMod_joined_0.2.1
theorem dMod_joined_2 : decode cMod_joined 2 = .ok (.iconst 0, 1) := zfMod_joined_0.2.2.1
theorem dMod_joined_3 : decode cMod_joined 3 = .ok (.istore 4, 2) := zfMod_joined_0.2.2.2.1
theorem dMod_joined_5 : decode cMod_joined 5 = .ok (.iload 4, 2) := zfMod_joined_0.2.2.2.2.1
theorem dMod_joined_7 : decode cMod_joined 7 = .ok (.aload_n 2, 1) := zfMod_joined_0.2.2.2.2.2.1
theorem dMod_joined_8 : decode cMod_joined 8 = .ok (.arraylength, 1) := zfMod_joined_0.2.2.2.2.2.2.1
theorem dMod_joined_9 : decode cMod_joined 9 = .ok (.if_icmp .ge 22, 3) := zfMod_joined_0.2.2.2.2.2.2.2.1
theorem dMod_joined_12 : decode cMod_joined 12 = .ok (.aload_n 3, 1) := zfMod_joined_0.2.2.2.2.2.2.2.2.1
theorem dMod_joined_13 : decode cMod_joined 13 = .ok (.iload_n 1, 1) := zfMod_joined_0.2.2.2.2.2.2.2.2.2.1
theorem dMod_joined_14 : decode cMod_joined 14 = .ok (.iload 4, 2) := zfMod_joined_0.2.2.2.2.2.2.2.2.2.2.1
theorem dMod_joined_16 : decode cMod_joined 16 = .ok (.iadd, 1) := zfMod_joined_0.2.2.2.2.2.2.2.2.2.2.2.1
theorem dMod_joined_17 : decode cMod_joined 17 = .ok (.aload_n 2, 1) := zfMod_joined_0.2.2.2.2.2.2.2.2.2.2.2.2.1
theorem dMod_joined_18 : decode cMod_joined 18 = .ok (.iload 4, 2) := zfMod_joined_0.2.2.2.2.2.2.2.2.2.2.2.2.2.1
theorem dMod_joined_20 : decode cMod_joined 20 = .ok (.iaload, 1) := zfMod_joined_0.2.2.2.2.2.2.2.2.2.2.2.2.2.2.1
theorem dMod_joined_21 : decode cMod_joined 21 = .ok (.invokestatic 49, 3) := zfMod_joined_0.2.2.2.2.2.2.2.2.2.2.2.2.2.2.2.1
theorem dMod_joined_24 : decode cMod_joined 24 = .ok (.astore_n 3, 1) := zfMod_joined_0.2.2.2.2.2.2.2.2.2.2.2.2.2.2.2.2.1
theorem dMod_joined_25 : decode cMod_joined 25 = .ok (.iinc 4 1, 3) := zfMod_joined_0.2.2.2.2.2.2.2.2.2.2.2.2.2.2.2.2.2.1
theorem dMod_joined_28 : decode cMod_joined 28 = .ok (.goto (-23), 3) := zfMod_joined_0.2.2.2.2.2.2.2.2.2.2.2.2.2.2.2.2.2.2.1
theorem dMod_joined_31 : decode cMod_joined 31 = .ok (.aload_n 3, 1) := zfMod_joined_0.2.2.2.2.2.2.2.2.2.2.2.2.2.2.2.2.2.2.2.1
theorem dMod_joined_32 : decode cMod_joined 32 = .ok (.areturn, 1) := zfMod_joined_0.2.2.2.2.2.2.2.2.2.2.2.2.2.2.2.2.2.2.2.2.1
theorem zfMod_turned_0 : decode cMod_turned 0 = .ok (.aload_n 0, 1) ∧ decode cMod_turned 1 = .ok (.arraylength, 1) ∧ decode cMod_turned 2 = .ok (.newarray .int, 2) ∧ decode cMod_turned 4 = .ok (.astore_n 1, 1) ∧ decode cMod_turned 5 = .ok (.iconst 0, 1) ∧ decode cMod_turned 6 = .ok (.istore_n 2, 1) ∧ decode cMod_turned 7 = .ok (.iload_n 2, 1) ∧ decode cMod_turned 8 = .ok (.aload_n 1, 1) ∧ decode cMod_turned 9 = .ok (.arraylength, 1) ∧ decode cMod_turned 10 = .ok (.if_icmp .ge 20, 3) ∧ decode cMod_turned 13 = .ok (.aload_n 1, 1) ∧ decode cMod_turned 14 = .ok (.iload_n 2, 1) ∧ decode cMod_turned 15 = .ok (.aload_n 0, 1) ∧ decode cMod_turned 16 = .ok (.aload_n 0, 1) ∧ decode cMod_turned 17 = .ok (.arraylength, 1) ∧ decode cMod_turned 18 = .ok (.iconst 1, 1) ∧ decode cMod_turned 19 = .ok (.isub, 1) ∧ decode cMod_turned 20 = .ok (.iload_n 2, 1) ∧ decode cMod_turned 21 = .ok (.isub, 1) ∧ decode cMod_turned 22 = .ok (.iaload, 1) ∧ decode cMod_turned 23 = .ok (.iastore, 1) ∧ decode cMod_turned 24 = .ok (.iinc 2 1, 3) ∧ decode cMod_turned 27 = .ok (.goto (-20), 3) ∧ decode cMod_turned 30 = .ok (.aload_n 1, 1) ∧ decode cMod_turned 31 = .ok (.areturn, 1) ∧ True := Jvm.Free.DS.facts (code := cMod_turned) 0 [(.aload_n 0, 1), (.arraylength, 1), (.newarray .int, 2), (.astore_n 1, 1), (.iconst 0, 1), (.istore_n 2, 1), (.iload_n 2, 1), (.aload_n 1, 1), (.arraylength, 1), (.if_icmp .ge 20, 3), (.aload_n 1, 1), (.iload_n 2, 1), (.aload_n 0, 1), (.aload_n 0, 1), (.arraylength, 1), (.iconst 1, 1), (.isub, 1), (.iload_n 2, 1), (.isub, 1), (.iaload, 1), (.iastore, 1), (.iinc 2 1, 3), (.goto (-20), 3), (.aload_n 1, 1), (.areturn, 1)] (by decide +kernel) (by decide +kernel)
theorem dMod_turned_0 : decode cMod_turned 0 = .ok (.aload_n 0, 1) := zfMod_turned_0.1
theorem dMod_turned_1 : decode cMod_turned 1 = .ok (.arraylength, 1) := zfMod_turned_0.2.1
theorem dMod_turned_2 : decode cMod_turned 2 = .ok (.newarray .int, 2) := zfMod_turned_0.2.2.1
theorem dMod_turned_4 : decode cMod_turned 4 = .ok (.astore_n 1, 1) := zfMod_turned_0.2.2.2.1
theorem dMod_turned_5 : decode cMod_turned 5 = .ok (.iconst 0, 1) := zfMod_turned_0.2.2.2.2.1
theorem dMod_turned_6 : decode cMod_turned 6 = .ok (.istore_n 2, 1) := zfMod_turned_0.2.2.2.2.2.1
theorem dMod_turned_7 : decode cMod_turned 7 = .ok (.iload_n 2, 1) := zfMod_turned_0.2.2.2.2.2.2.1
theorem dMod_turned_8 : decode cMod_turned 8 = .ok (.aload_n 1, 1) := zfMod_turned_0.2.2.2.2.2.2.2.1
theorem dMod_turned_9 : decode cMod_turned 9 = .ok (.arraylength, 1) := zfMod_turned_0.2.2.2.2.2.2.2.2.1
theorem dMod_turned_10 : decode cMod_turned 10 = .ok (.if_icmp .ge 20, 3) := zfMod_turned_0.2.2.2.2.2.2.2.2.2.1
theorem dMod_turned_13 : decode cMod_turned 13 = .ok (.aload_n 1, 1) := zfMod_turned_0.2.2.2.2.2.2.2.2.2.2.1
theorem dMod_turned_14 : decode cMod_turned 14 = .ok (.iload_n 2, 1) := zfMod_turned_0.2.2.2.2.2.2.2.2.2.2.2.1
theorem dMod_turned_15 : decode cMod_turned 15 = .ok (.aload_n 0, 1) := zfMod_turned_0.2.2.2.2.2.2.2.2.2.2.2.2.1
theorem dMod_turned_16 : decode cMod_turned 16 = .ok (.aload_n 0, 1) := zfMod_turned_0.2.2.2.2.2.2.2.2.2.2.2.2.2.1
theorem dMod_turned_17 : decode cMod_turned 17 = .ok (.arraylength, 1) := zfMod_turned_0.2.2.2.2.2.2.2.2.2.2.2.2.2.2.1
theorem dMod_turned_18 : decode cMod_turned 18 = .ok (.iconst 1, 1) := zfMod_turned_0.2.2.2.2.2.2.2.2.2.2.2.2.2.2.2.1
theorem dMod_turned_19 : decode cMod_turned 19 = .ok (.isub, 1) := zfMod_turned_0.2.2.2.2.2.2.2.2.2.2.2.2.2.2.2.2.1
theorem dMod_turned_20 : decode cMod_turned 20 = .ok (.iload_n 2, 1) := zfMod_turned_0.2.2.2.2.2.2.2.2.2.2.2.2.2.2.2.2.2.1
theorem dMod_turned_21 : decode cMod_turned 21 = .ok (.isub, 1) := zfMod_turned_0.2.2.2.2.2.2.2.2.2.2.2.2.2.2.2.2.2.2.1
theorem dMod_turned_22 : decode cMod_turned 22 = .ok (.iaload, 1) := zfMod_turned_0.2.2.2.2.2.2.2.2.2.2.2.2.2.2.2.2.2.2.2.1
theorem dMod_turned_23 : decode cMod_turned 23 = .ok (.iastore, 1) := zfMod_turned_0.2.2.2.2.2.2.2.2.2.2.2.2.2.2.2.2.2.2.2.2.1
theorem dMod_turned_24 : decode cMod_turned 24 = .ok (.iinc 2 1, 3) := zfMod_turned_0.2.2.2.2.2.2.2.2.2.2.2.2.2.2.2.2.2.2.2.2.2.1
theorem dMod_turned_27 : decode cMod_turned 27 = .ok (.goto (-20), 3) := zfMod_turned_0.2.2.2.2.2.2.2.2.2.2.2.2.2.2.2.2.2.2.2.2.2.2.1
theorem dMod_turned_30 : decode cMod_turned 30 = .ok (.aload_n 1, 1) := zfMod_turned_0.2.2.2.2.2.2.2.2.2.2.2.2.2.2.2.2.2.2.2.2.2.2.2.1
theorem dMod_turned_31 : decode cMod_turned 31 = .ok (.areturn, 1) := zfMod_turned_0.2.2.2.2.2.2.2.2.2.2.2.2.2.2.2.2.2.2.2.2.2.2.2.2.1
theorem zfMod_areLike_0 : decode cMod_areLike 0 = .ok (.aload_n 0, 1) ∧ decode cMod_areLike 1 = .ok (.arraylength, 1) ∧ decode cMod_areLike 2 = .ok (.aload_n 1, 1) ∧ decode cMod_areLike 3 = .ok (.arraylength, 1) ∧ decode cMod_areLike 4 = .ok (.if_icmp .ne 7, 3) ∧ decode cMod_areLike 7 = .ok (.iconst 1, 1) ∧ decode cMod_areLike 8 = .ok (.goto 4, 3) ∧ decode cMod_areLike 11 = .ok (.iconst 0, 1) ∧ decode cMod_areLike 12 = .ok (.istore_n 2, 1) ∧ decode cMod_areLike 13 = .ok (.iconst 0, 1) ∧ decode cMod_areLike 14 = .ok (.istore_n 3, 1) ∧ decode cMod_areLike 15 = .ok (.iload_n 2, 1) ∧ decode cMod_areLike 16 = .ok (.ifCond .eq 30, 3) ∧ decode cMod_areLike 19 = .ok (.iload_n 3, 1) ∧ decode cMod_areLike 20 = .ok (.aload_n 0, 1) ∧ decode cMod_areLike 21 = .ok (.arraylength, 1) ∧ decode cMod_areLike 22 = .ok (.if_icmp .ge 24, 3) ∧ decode cMod_areLike 25 = .ok (.aload_n 0, 1) ∧ decode cMod_areLike 26 = .ok (.iload_n 3, 1) ∧ decode cMod_areLike 27 = .ok (.iaload, 1) ∧ decode cMod_areLike 28 = .ok (.aload_n 1, 1) ∧ decode cMod_areLike 29 = .ok (.iload_n 3, 1) ∧ decode cMod_areLike 30 = .ok (.iaload, 1) ∧ decode cMod_areLike 31 = .ok (.if_icmp .ne 7, 3) ∧ decode cMod_areLike 34 = .ok (.iconst 1, 1) ∧ decode cMod_areLike 35 = .ok (.goto 4, 3) ∧ decode cMod_areLike 38 = .ok (.iconst 0, 1) ∧ decode cMod_areLike 39 = .ok (.istore_n 2, 1) ∧ decode cMod_areLike 40 = .ok (.iinc 3 1, 3) ∧ decode cMod_areLike 43 = .ok (.goto (-28), 3) ∧ decode cMod_areLike 46 = .ok (.iload_n 2, 1) ∧ decode cMod_areLike 47 = .ok (.ireturn, 1) ∧ True := Jvm.Free.DS.facts (code := cMod_areLike) 0 [(.aload_n 0, 1), (.arraylength, 1), (.aload_n 1, 1), (.arraylength, 1), (.if_icmp .ne 7, 3), (.iconst 1, 1), (.goto 4, 3), (.iconst 0, 1), (.istore_n 2, 1), (.iconst 0, 1), (.istore_n 3, 1), (.iload_n 2, 1), (.ifCond .eq 30, 3), (.iload_n 3, 1), (.aload_n 0, 1), (.arraylength, 1), (.if_icmp .ge 24, 3), (.aload_n 0, 1), (.iload_n 3, 1), (.iaload, 1), (.aload_n 1, 1), (.iload_n 3, 1), (.iaload, 1), (.if_icmp .ne 7, 3), (.iconst 1, 1), (.goto 4, 3), (.iconst 0, 1), (.istore_n 2, 1), (.iinc 3 1, 3), (.goto (-28), 3), (.iload_n 2, 1), (.ireturn, 1)] (by decide +kernel) (by decide +kernel)
theorem dMod_areLike_0 : decode cMod_areLike 0 = .ok (.aload_n 0, 1) := zfMod_areLike_0.1
theorem dMod_areLike_1 : decode cMod_areLike 1 = .ok (.arraylength, 1) := zfMod_areLike_0.2.1
theorem dMod_areLike_2 : decode cMod_areLike 2 = .ok (.aload_n 1, 1) := zfMod_areLike_0.2.2.1
theorem dMod_areLike_3 : decode cMod_areLike 3 = .ok (.arraylength, 1) := zfMod_areLike_0.2.2.2.1
theorem dMod_areLike_4 : decode cMod_areLike 4 = .ok (.if_icmp .ne 7, 3) := zfMod_areLike_0.2.2.2.2.1
theorem dMod_areLike_7 : decode cMod_areLike 7 = .ok (.iconst 1, 1) := zfMod_areLike_0.2.2.2.2.2.1
theorem dMod_areLike_8 : decode cMod_areLike 8 = .ok (.goto 4, 3) := zfMod_areLike_0.2.2.2.2.2.2.1
theorem dMod_areLike_11 : decode cMod_areLike 11 = .ok (.iconst 0, 1) := zfMod_areLike_0.2.2.2.2.2.2.2.1
theorem dMod_areLike_12 : decode cMod_areLike 12 = .ok (.istore_n 2, 1) := zfMod_areLike_0.2.2.2.2.2.2.2.2.1
theorem dMod_areLike_13 : decode cMod_areLike 13 = .ok (.iconst 0, 1) := zfMod_areLike_0.2.2.2.2.2.2.2.2.2.1
theorem dMod_areLike_14 : decode cMod_areLike 14 = .ok (.istore_n 3, 1) := zfMod_areLike_0.2.2.2.2.2.2.2.2.2.2.1
theorem dMod_areLike_15 : decode cMod_areLike 15 = .ok (.iload_n 2, 1) := zfMod_areLike_0.2.2.2.2.2.2.2.2.2.2.2.1
theorem dMod_areLike_16 : decode cMod_areLike 16 = .ok (.ifCond .eq 30, 3) := zfMod_areLike_0.2.2.2.2.2.2.2.2.2.2.2.2.1
theorem dMod_areLike_19 : decode cMod_areLike 19 = .ok (.iload_n 3, 1) := zfMod_areLike_0.2.2.2.2.2.2.2.2.2.2.2.2.2.1
theorem dMod_areLike_20 : decode cMod_areLike 20 = .ok (.aload_n 0, 1) := zfMod_areLike_0.2.2.2.2.2.2.2.2.2.2.2.2.2.2.1
theorem dMod_areLike_21 : decode cMod_areLike 21 = .ok (.arraylength, 1) := zfMod_areLike_0.2.2.2.2.2.2.2.2.2.2.2.2.2.2.2.1
theorem dMod_areLike_22 : decode cMod_areLike 22 = .ok (.if_icmp .ge 24, 3) := zfMod_areLike_0.2.2.2.2.2.2.2.2.2.2.2.2.2.2.2.2.1
theorem dMod_areLike_25 : decode cMod_areLike 25 = .ok (.aload_n 0, 1) := zfMod_areLike_0.2.2.2.2.2.2.2.2.2.2.2.2.2.2.2.2.2.1
theorem dMod_areLike_26 : decode cMod_areLike 26 = .ok (.iload_n 3, 1) := zfMod_areLike_0.2.2.2.2.2.2.2.2.2.2.2.2.2.2.2.2.2.2.1
theorem dMod_areLike_27 : decode cMod_areLike 27 = .ok (.iaload, 1) := zfMod_areLike_0.2.2.2.2.2.2.2.2.2.2.2.2.2.2.2.2.2.2.2.1
theorem dMod_areLike_28 : decode cMod_areLike 28 = .ok (.aload_n 1, 1) := zfMod_areLike_0.2.2.2.2.2.2.2.2.2.2.2.2.2.2.2.2.2.2.2.2.1
theorem dMod_areLike_29 : decode cMod_areLike 29 = .ok (.iload_n 3, 1) := zfMod_areLike_0.2.2.2.2.2.2.2.2.2.2.2.2.2.2.2.2.2.2.2.2.2.1
theorem dMod_areLike_30 : decode cMod_areLike 30 = .ok (.iaload, 1) := zfMod_areLike_0.2.2.2.2.2.2.2.2.2.2.2.2.2.2.2.2.2.2.2.2.2.2.1
theorem dMod_areLike_31 : decode cMod_areLike 31 = .ok (.if_icmp .ne 7, 3) := zfMod_areLike_0.2.2.2.2.2.2.2.2.2.2.2.2.2.2.2.2.2.2.2.2.2.2.2.1
theorem dMod_areLike_34 : decode cMod_areLike 34 = .ok (.iconst 1, 1) := zfMod_areLike_0.2.2.2.2.2.2.2.2.2.2.2.2.2.2.2.2.2.2.2.2.2.2.2.2.1
theorem dMod_areLike_35 : decode cMod_areLike 35 = .ok (.goto 4, 3) := zfMod_areLike_0.2.2.2.2.2.2.2.2.2.2.2.2.2.2.2.2.2.2.2.2.2.2.2.2.2.1
theorem dMod_areLike_38 : decode cMod_areLike 38 = .ok (.iconst 0, 1) := zfMod_areLike_0.2.2.2.2.2.2.2.2.2.2.2.2.2.2.2.2.2.2.2.2.2.2.2.2.2.2.1
theorem dMod_areLike_39 : decode cMod_areLike 39 = .ok (.istore_n 2, 1) := zfMod_areLike_0.2.2.2.2.2.2.2.2.2.2.2.2.2.2.2.2.2.2.2.2.2.2.2.2.2.2.2.1
theorem dMod_areLike_40 : decode cMod_areLike 40 = .ok (.iinc 3 1, 3) := zfMod_areLike_0.2.2.2.2.2.2.2.2.2.2.2.2.2.2.2.2.2.2.2.2.2.2.2.2.2.2.2.2.1
theorem dMod_areLike_43 : decode cMod_areLike 43 = .ok (.goto (-28), 3) := zfMod_areLike_0.2.2.2.2.2.2.2.2.2.2.2.2.2.2.2.2.2.2.2.2.2.2.2.2.2.2.2.2.2.1
theorem dMod_areLike_46 : decode cMod_areLike 46 = .ok (.iload_n 2, 1) := zfMod_areLike_0.2.2.2.2.2.2.2.2.2.2.2.2.2.2.2.2.2.2.2.2.2.2.2.2.2.2.2.2.2.2.1
theorem dMod_areLike_47 : decode cMod_areLike 47 = .ok (.ireturn, 1) := zfMod_areLike_0.2.2.2.2.2.2.2.2.2.2.2.2.2.2.2.2.2.2.2.2.2.2.2.2.2.2.2.2.2.2.2.1
theorem zfMod_find_0 : decode cMod_find 0 = .ok (.iconst (-1), 1) ∧ decode cMod_find 1 = .ok (.istore_n 3, 1) ∧ decode cMod_find 2 = .ok (.iconst 0, 1) ∧ decode cMod_find 3 = .ok (.istore 4, 2) ∧ decode cMod_find 5 = .ok (.iload 4, 2) ∧ decode cMod_find 7 = .ok (.aload_n 0, 1) ∧ decode cMod_find 8 = .ok (.arraylength, 1) ∧ decode cMod_find 9 = .ok (.if_icmp .ge 29, 3) ∧ decode cMod_find 12 = .ok (.aload_n 0, 1) ∧ decode cMod_find 13 = .ok (.iload 4, 2) ∧ decode cMod_find 15 = .ok (.iaload, 1) ∧ decode cMod_find 16 = .ok (.iload_n 1, 1) ∧ decode cMod_find 17 = .ok (.if_icmp .ne 15, 3) ∧ decode cMod_find 20 = .ok (.iload_n 2, 1) ∧ decode cMod_find 21 = .ok (.ifCond .ne 8, 3) ∧ decode cMod_find 24 = .ok (.iload_n 3, 1) ∧ decode cMod_find 25 = .ok (.iconst (-1), 1) ∧ decode cMod_find 26 = .ok (.if_icmp .ne 6, 3) ∧ decode cMod_find 29 = .ok (.iload 4, 2) ∧ decode cMod_find 31 = .ok (.istore_n 3, 1) ∧ decode cMod_find 32 = .ok (.iinc 4 1, 3) ∧ decode cMod_find 35 = .ok (.goto (-30), 3) ∧ decode cMod_find 38 = .ok (.iload_n 3, 1) ∧ decode cMod_find 39 = .ok (.ireturn, 1) ∧ True := Jvm.Free.DS.facts (code := cMod_find) 0 [(.iconst (-1), 1), (.istore_n 3, 1), (.iconst 0, 1), (.istore 4, 2), (.iload 4, 2), (.aload_n 0, 1), (.arraylength, 1), (.if_icmp .ge 29, 3), (.aload_n 0, 1), (.iload 4, 2), (.iaload, 1), (.iload_n 1, 1), (.if_icmp .ne 15, 3), (.iload_n 2, 1), (.ifCond .ne 8, 3), (.iload_n 3, 1), (.iconst (-1), 1), (.if_icmp .ne 6, 3), (.iload 4, 2), (.istore_n 3, 1), (.iinc 4 1, 3), (.goto (-30), 3), (.iload_n 3, 1), (.ireturn, 1)] (by decide +kernel) (by decide +kernel)
theorem dMod_find_0 : decode cMod_find 0 = .ok (.iconst (-1), 1) := zfMod_find_0.1
theorem dMod_find_1 : decode cMod_find 1 = .ok (.istore_n 3, 1) := zfMod_find_0.2.1
theorem dMod_find_2 : decode cMod_find 2 = .ok (.iconst 0, 1) := zfMod_find_0.2.2.1
theorem dMod_find_3 : decode cMod_find 3 = .ok (.istore 4, 2) := zfMod_find_0.2.2.2.1
theorem dMod_find_5 : decode cMod_find 5 = .ok (.iload 4, 2) := zfMod_find_0.2.2.2.2.1
theorem dMod_find_7 : decode cMod_find 7 = .ok (.aload_n 0, 1) := zfMod_find_0.2.2.2.2.2.1
theorem dMod_find_8 : decode cMod_find 8 = .ok (.arraylength, 1) := zfMod_find_0.2.2.2.2.2.2.1
theorem dMod_find_9 : decode cMod_find 9 = .ok (.if_icmp .ge 29, 3) := zfMod_find_0.2.2.2.2.2.2.2.1
theorem dMod_find_12 : decode cMod_find 12 = .ok (.aload_n 0, 1) := zfMod_find_0.2.2.2.2.2.2.2.2.1
theorem dMod_find_13 : decode cMod_find 13 = .ok (.iload 4, 2) := zfMod_find_0.2.2.2.2.2.2.2.2.2.1
theorem dMod_find_15 : decode cMod_find 15 = .ok (.iaload, 1) := zfMod_find_0.2.2.2.2.2.2.2.2.2.2.1
theorem dMod_find_16 : decode cMod_find 16 = .ok (.iload_n 1, 1) := zfMod_find_0.2.2.2.2.2.2.2.2.2.2.2.1
theorem dMod_find_17 : decode cMod_find 17 = .ok (.if_icmp .ne 15, 3) := zfMod_find_0.2.2.2.2.2.2.2.2.2.2.2.2.1
theorem dMod_find_20 : decode cMod_find 20 = .ok (.iload_n 2, 1) := zfMod_find_0.2.2.2.2.2.2.2.2.2.2.2.2.2.1
theorem dMod_find_21 : decode cMod_find 21 = .ok (.ifCond .ne 8, 3) := zfMod_find_0.2.2.2.2.2.2.2.2.2.2.2.2.2.2.1
theorem dMod_find_24 : decode cMod_find 24 = .ok (.iload_n 3, 1) := zfMod_find_0.2.2.2.2.2.2.2.2.2.2.2.2.2.2.2.1
theorem dMod_find_25 : decode cMod_find 25 = .ok (.iconst (-1), 1) := zfMod_find_0.2.2.2.2.2.2.2.2.2.2.2.2.2.2.2.2.1
theorem dMod_find_26 : decode cMod_find 26 = .ok (.if_icmp .ne 6, 3) := zfMod_find_0.2.2.2.2.2.2.2.2.2.2.2.2.2.2.2.2.2.1
theorem dMod_find_29 : decode cMod_find 29 = .ok (.iload 4, 2) := zfMod_find_0.2.2.2.2.2.2.2.2.2.2.2.2.2.2.2.2.2.2.1
theorem dMod_find_31 : decode cMod_find 31 = .ok (.istore_n 3, 1) := zfMod_find_0.2.2.2.2.2.2.2.2.2.2.2.2.2.2.2.2.2.2.2.1
theorem dMod_find_32 : decode cMod_find 32 = .ok (.iinc 4 1, 3) := zfMod_find_0.2.2.2.2.2.2.2.2.2.2.2.2.2.2.2.2.2.2.2.2.1
theorem dMod_find_35 : decode cMod_find 35 = .ok (.goto (-30), 3) := zfMod_find_0.2.2.2.2.2.2.2.2.2.2.2.2.2.2.2.2.2.2.2.2.2.1
theorem dMod_find_38 : decode cMod_find 38 = .ok (.iload_n 3, 1) := zfMod_find_0.2.2.2.2.2.2.2.2.2.2.2.2.2.2.2.2.2.2.2.2.2.2.1
theorem dMod_find_39 : decode cMod_find 39 = .ok (.ireturn, 1) := zfMod_find_0.2.2.2.2.2.2.2.2.2.2.2.2.2.2.2.2.2.2.2.2.2.2.2.1
theorem zfMod_told_0 : decode cMod_told 0 = .ok (.ldc 53, 2) ∧ decode cMod_told 2 = .ok (.astore_n 1, 1) ∧ decode cMod_told 3 = .ok (.aload_n 0, 1) ∧ decode cMod_told 4 = .ok (.astore_n 2, 1) ∧ decode cMod_told 5 = .ok (.aload_n 2, 1) ∧ decode cMod_told 6 = .ok (.arraylength, 1) ∧ decode cMod_told 7 = .ok (.istore_n 3, 1) ∧ decode cMod_told 8 = .ok (.iconst 0, 1) ∧ decode cMod_told 9 = .ok (.istore 4, 2) ∧ decode cMod_told 11 = .ok (.iload 4, 2) ∧ decode cMod_told 13 = .ok (.iload_n 3, 1) ∧ decode cMod_told 14 = .ok (.if_icmp .ge 52, 3) ∧ decode cMod_told 17 = .ok (.aload_n 2, 1) ∧ decode cMod_told 18 = .ok (.iload 4, 2) ∧ decode cMod_told 20 = .ok (.iaload, 1) ∧ decode cMod_told 21 = .ok (.istore 5, 2) ∧ decode cMod_told 23 = .ok (.new 55, 3) ∧ decode cMod_told 26 = .ok (.dup, 1) ∧ decode cMod_told 27 = .ok (.invokespecial 57, 3) ∧ decode cMod_told 30 = .ok (.aload_n 1, 1) ∧ decode cMod_told 31 = .ok (.invokevirtual 58, 3) ∧ decode cMod_told 34 = .ok (.aload_n 1, 1) ∧ decode cMod_told 35 = .ok (.invokevirtual 62, 3) ∧ decode cMod_told 38 = .ok (.ifCond .ne 8, 3) ∧ decode cMod_told 41 = .ok (.ldc 53, 2) ∧ decode cMod_told 43 = .ok (.goto 5, 3) ∧ decode cMod_told 46 = .ok (.ldc 68, 2) ∧ decode cMod_told 48 = .ok (.invokevirtual 58, 3) ∧ decode cMod_told 51 = .ok (.iload 5, 2) ∧ decode cMod_told 53 = .ok (.invokevirtual 70, 3) ∧ decode cMod_told 56 = .ok (.invokevirtual 73, 3) ∧ decode cMod_told 59 = .ok (.astore_n 1, 1) ∧ True := Jvm.Free.DS.facts (code := cMod_told) 0 [(.ldc 53, 2), (.astore_n 1, 1), (.aload_n 0, 1), (.astore_n 2, 1), (.aload_n 2, 1), (.arraylength, 1), (.istore_n 3, 1), (.iconst 0, 1), (.istore 4, 2), (.iload 4, 2), (.iload_n 3, 1), (.if_icmp .ge 52, 3), (.aload_n 2, 1), (.iload 4, 2), (.iaload, 1), (.istore 5, 2), (.new 55, 3), (.dup, 1), (.invokespecial 57, 3), (.aload_n 1, 1), (.invokevirtual 58, 3), (.aload_n 1, 1), (.invokevirtual 62, 3), (.ifCond .ne 8, 3), (.ldc 53, 2), (.goto 5, 3), (.ldc 68, 2), (.invokevirtual 58, 3), (.iload 5, 2), (.invokevirtual 70, 3), (.invokevirtual 73, 3), (.astore_n 1, 1)] (by decide +kernel) (by decide +kernel)
theorem dMod_told_0 : decode cMod_told 0 = .ok (.ldc 53, 2) := zfMod_told_0.1
theorem dMod_told_2 : decode cMod_told 2 = .ok (.astore_n 1, 1) := zfMod_told_0.2.1
theorem dMod_told_3 : decode cMod_told 3 = .ok (.aload_n 0, 1) := zfMod_told_0.2.2.1
theorem dMod_told_4 : decode cMod_told 4 = .ok (.astore_n 2, 1) := zfMod_told_0.2.2.2.1
theorem dMod_told_5 : decode cMod_told 5 = .ok (.aload_n 2, 1) := zfMod_told_0.2.2.2.2.1
theorem dMod_told_6 : decode cMod_told 6 = .ok (.arraylength, 1) := zfMod_told_0.2.2.2.2.2.1
theorem dMod_told_7 : decode cMod_told 7 = .ok (.istore_n 3, 1) := zfMod_told_0.2.2.2.2.2.2.1
theorem dMod_told_8 : decode cMod_told 8 = .ok (.iconst 0, 1) := zfMod_told_0.2.2.2.2.2.2.2.1
theorem dMod_told_9 : decode cMod_told 9 = .ok (.istore 4, 2) := zfMod_told_0.2.2.2.2.2.2.2.2.1
theorem dMod_told_11 : decode cMod_told 11 = .ok (.iload 4, 2) := zfMod_told_0.2.2.2.2.2.2.2.2.2.1
theorem dMod_told_13 : decode cMod_told 13 = .ok (.iload_n 3, 1) := zfMod_told_0.2.2.2.2.2.2.2.2.2.2.1
theorem dMod_told_14 : decode cMod_told 14 = .ok (.if_icmp .ge 52, 3) := zfMod_told_0.2.2.2.2.2.2.2.2.2.2.2.1
theorem dMod_told_17 : decode cMod_told 17 = .ok (.aload_n 2, 1) := zfMod_told_0.2.2.2.2.2.2.2.2.2.2.2.2.1
theorem dMod_told_18 : decode cMod_told 18 = .ok (.iload 4, 2) := zfMod_told_0.2.2.2.2.2.2.2.2.2.2.2.2.2.1
theorem dMod_told_20 : decode cMod_told 20 = .ok (.iaload, 1) := zfMod_told_0.2.2.2.2.2.2.2.2.2.2.2.2.2.2.1
theorem dMod_told_21 : decode cMod_told 21 = .ok (.istore 5, 2) := zfMod_told_0.2.2.2.2.2.2.2.2.2.2.2.2.2.2.2.1
theorem dMod_told_23 : decode cMod_told 23 = .ok (.new 55, 3) := zfMod_told_0.2.2.2.2.2.2.2.2.2.2.2.2.2.2.2.2.1
theorem dMod_told_26 : decode cMod_told 26 = .ok (.dup, 1) := zfMod_told_0.2.2.2.2.2.2.2.2.2.2.2.2.2.2.2.2.2.1
theorem dMod_told_27 : decode cMod_told 27 = .ok (.invokespecial 57, 3) := zfMod_told_0.2.2.2.2.2.2.2.2.2.2.2.2.2.2.2.2.2.2.1
theorem dMod_told_30 : decode cMod_told 30 = .ok (.aload_n 1, 1) := zfMod_told_0.2.2.2.2.2.2.2.2.2.2.2.2.2.2.2.2.2.2.2.1
theorem dMod_told_31 : decode cMod_told 31 = .ok (.invokevirtual 58, 3) := zfMod_told_0.2.2.2.2.2.2.2.2.2.2.2.2.2.2.2.2.2.2.2.2.1
theorem dMod_told_34 : decode cMod_told 34 = .ok (.aload_n 1, 1) := zfMod_told_0.2.2.2.2.2.2.2.2.2.2.2.2.2.2.2.2.2.2.2.2.2.1
theorem dMod_told_35 : decode cMod_told 35 = .ok (.invokevirtual 62, 3) := zfMod_told_0.2.2.2.2.2.2.2.2.2.2.2.2.2.2.2.2.2.2.2.2.2.2.1
theorem dMod_told_38 : decode cMod_told 38 = .ok (.ifCond .ne 8, 3) := zfMod_told_0.2.2.2.2.2.2.2.2.2.2.2.2.2.2.2.2.2.2.2.2.2.2.2.1
theorem dMod_told_41 : decode cMod_told 41 = .ok (.ldc 53, 2) := zfMod_told_0.2.2.2.2.2.2.2.2.2.2.2.2.2.2.2.2.2.2.2.2.2.2.2.2.1
theorem dMod_told_43 : decode cMod_told 43 = .ok (.goto 5, 3) := zfMod_told_0.2.2.2.2.2.2.2.2.2.2.2.2.2.2.2.2.2.2.2.2.2.2.2.2.2.1
theorem dMod_told_46 : decode cMod_told 46 = .ok (.ldc 68, 2) := zfMod_told_0.2.2.2.2.2.2.2.2.2.2.2.2.2.2.2.2.2.2.2.2.2.2.2.2.2.2.1
theorem dMod_told_48 : decode cMod_told 48 = .ok (.invokevirtual 58, 3) := zfMod_told_0.2.2.2.2.2.2.2.2.2.2.2.2.2.2.2.2.2.2.2.2.2.2.2.2.2.2.2.1
theorem dMod_told_51 : decode cMod_told 51 = .ok (.iload 5, 2) := zfMod_told_0.2.2.2.2.2.2.2.2.2.2.2.2.2.2.2.2.2.2.2.2.2.2.2.2.2.2.2.2.1
theorem dMod_told_53 : decode cMod_told 53 = .ok (.invokevirtual 70, 3) := zfMod_told_0.2.2.2.2.2.2.2.2.2.2.2.2.2.2.2.2.2.2.2.2.2.2.2.2.2.2.2.2.2.1
theorem dMod_told_56 : decode cMod_told 56 = .ok (.invokevirtual 73, 3) := zfMod_told_0.2.2.2.2.2.2.2.2.2.2.2.2.2.2.2.2.2.2.2.2.2.2.2.2.2.2.2.2.2.2.1
theorem dMod_told_59 : decode cMod_told 59 = .ok (.astore_n 1, 1) := zfMod_told_0.2.2.2.2.2.2.2.2.2.2.2.2.2.2.2.2.2.2.2.2.2.2.2.2.2.2.2.2.2.2.2.1
theorem zfMod_told_60 : decode cMod_told 60 = .ok (.iinc 4 1, 3) ∧ decode cMod_told 63 = .ok (.goto (-52), 3) ∧ decode cMod_told 66 = .ok (.aload_n 1, 1) ∧ decode cMod_told 67 = .ok (.areturn, 1) ∧ True := Jvm.Free.DS.facts (code := cMod_told) 60 [(.iinc 4 1, 3), (.goto (-52), 3), (.aload_n 1, 1), (.areturn, 1)] (by decide +kernel) (by decide +kernel)
theorem dMod_told_60 : decode cMod_told 60 = .ok (.iinc 4 1, 3) := zfMod_told_60.1
theorem dMod_told_63 : decode cMod_told 63 = .ok (.goto (-52), 3) := zfMod_told_60.2.1
theorem dMod_told_66 : decode cMod_told 66 = .ok (.aload_n 1, 1) := zfMod_told_60.2.2.1
theorem dMod_told_67 : decode cMod_told 67 = .ok (.areturn, 1) := zfMod_told_60.2.2.2.1
theorem zfMod_become_0 : decode cMod_become 0 = .ok (.aload_n 0, 1) ∧ decode cMod_become 1 = .ok (.getfield 11, 3) ∧ decode cMod_become 4 = .ok (.iload_n 1, 1) ∧ decode cMod_become 5 = .ok (.aload_n 2, 1) ∧ decode cMod_become 6 = .ok (.aastore, 1) ∧ decode cMod_become 7 = .ok (.iconst 0, 1) ∧ decode cMod_become 8 = .ok (.istore 4, 2) ∧ decode cMod_become 10 = .ok (.iload 4, 2) ∧ decode cMod_become 12 = .ok (.iconst 3, 1) ∧ decode cMod_become 13 = .ok (.if_icmp .ge 51, 3) ∧ decode cMod_become 16 = .ok (.aload_n 0, 1) ∧ decode cMod_become 17 = .ok (.getfield 18, 3) ∧ decode cMod_become 20 = .ok (.iload 4, 2) ∧ decode cMod_become 22 = .ok (.dup2, 1) ∧ decode cMod_become 23 = .ok (.baload, 1) ∧ decode cMod_become 24 = .ok (.aload_n 0, 1) ∧ decode cMod_become 25 = .ok (.getfield 14, 3) ∧ decode cMod_become 28 = .ok (.iload 4, 2) ∧ decode cMod_become 30 = .ok (.baload, 1) ∧ decode cMod_become 31 = .ok (.ifCond .eq 24, 3) ∧ decode cMod_become 34 = .ok (.aload_n 0, 1) ∧ decode cMod_become 35 = .ok (.getfield 21, 3) ∧ decode cMod_become 38 = .ok (.iload 4, 2) ∧ decode cMod_become 40 = .ok (.iaload, 1) ∧ decode cMod_become 41 = .ok (.iload_n 1, 1) ∧ decode cMod_become 42 = .ok (.if_icmp .ne 13, 3) ∧ decode cMod_become 45 = .ok (.iload 4, 2) ∧ decode cMod_become 47 = .ok (.iload_n 3, 1) ∧ decode cMod_become 48 = .ok (.if_icmp .eq 7, 3) ∧ decode cMod_become 51 = .ok (.iconst 1, 1) ∧ decode cMod_become 52 = .ok (.goto 4, 3) ∧ decode cMod_become 55 = .ok (.iconst 0, 1) ∧ True := Jvm.Free.DS.facts (code := cMod_become) 0 [(.aload_n 0, 1), (.getfield 11, 3), (.iload_n 1, 1), (.aload_n 2, 1), (.aastore, 1), (.iconst 0, 1), (.istore 4, 2), (.iload 4, 2), (.iconst 3, 1), (.if_icmp .ge 51, 3), (.aload_n 0, 1), (.getfield 18, 3), (.iload 4, 2), (.dup2, 1), (.baload, 1), (.aload_n 0, 1), (.getfield 14, 3), (.iload 4, 2), (.baload, 1), (.ifCond .eq 24, 3), (.aload_n 0, 1), (.getfield 21, 3), (.iload 4, 2), (.iaload, 1), (.iload_n 1, 1), (.if_icmp .ne 13, 3), (.iload 4, 2), (.iload_n 3, 1), (.if_icmp .eq 7, 3), (.iconst 1, 1), (.goto 4, 3), (.iconst 0, 1)] (by decide +kernel) (by decide +kernel)
theorem dMod_become_0 : decode cMod_become 0 = .ok (.aload_n 0, 1) := zfMod_become_0.1
theorem dMod_become_1 : decode cMod_become 1 = .ok (.getfield 11, 3) := zfMod_become_0.2.1
theorem dMod_become_4 : decode cMod_become 4 = .ok (.iload_n 1, 1) := zfMod_become_0.2.2.1
theorem dMod_become_5 : decode cMod_become 5 = .ok (.aload_n 2, 1) := zfMod_become_0.2.2.2.1
theorem dMod_become_6 : decode cMod_become 6 = .ok (.aastore, 1) := zfMod_become_0.2.2.2.2.1
theorem dMod_become_7 : decode cMod_become 7 = .ok (.iconst 0, 1) := zfMod_become_0.2.2.2.2.2.1
theorem dMod_become_8 : decode cMod_become 8 = .ok (.istore 4, 2) := zfMod_become_0.2.2.2.2.2.2.1
theorem dMod_become_10 : decode cMod_become 10 = .ok (.iload 4, 2) := zfMod_become_0.2.2.2.2.2.2.2.1
theorem dMod_become_12 : decode cMod_become 12 = .ok (.iconst 3, 1) := zfMod_become_0.2.2.2.2.2.2.2.2.1
theorem dMod_become_13 : decode cMod_become 13 = .ok (.if_icmp .ge 51, 3) := zfMod_become_0.2.2.2.2.2.2.2.2.2.1
theorem dMod_become_16 : decode cMod_become 16 = .ok (.aload_n 0, 1) := zfMod_become_0.2.2.2.2.2.2.2.2.2.2.1
theorem dMod_become_17 : decode cMod_become 17 = .ok (.getfield 18, 3) := zfMod_become_0.2.2.2.2.2.2.2.2.2.2.2.1
theorem dMod_become_20 : decode cMod_become 20 = .ok (.iload 4, 2) := zfMod_become_0.2.2.2.2.2.2.2.2.2.2.2.2.1
theorem dMod_become_22 : decode cMod_become 22 = .ok (.dup2, 1) := zfMod_become_0.2.2.2.2.2.2.2.2.2.2.2.2.2.1
theorem dMod_become_23 : decode cMod_become 23 = .ok (.baload, 1) := zfMod_become_0.2.2.2.2.2.2.2.2.2.2.2.2.2.2.1
theorem dMod_become_24 : decode cMod_become 24 = .ok (.aload_n 0, 1) := zfMod_become_0.2.2.2.2.2.2.2.2.2.2.2.2.2.2.2.1
theorem dMod_become_25 : decode cMod_become 25 = .ok (.getfield 14, 3) := zfMod_become_0.2.2.2.2.2.2.2.2.2.2.2.2.2.2.2.2.1
theorem dMod_become_28 : decode cMod_become 28 = .ok (.iload 4, 2) := zfMod_become_0.2.2.2.2.2.2.2.2.2.2.2.2.2.2.2.2.2.1
theorem dMod_become_30 : decode cMod_become 30 = .ok (.baload, 1) := zfMod_become_0.2.2.2.2.2.2.2.2.2.2.2.2.2.2.2.2.2.2.1
theorem dMod_become_31 : decode cMod_become 31 = .ok (.ifCond .eq 24, 3) := zfMod_become_0.2.2.2.2.2.2.2.2.2.2.2.2.2.2.2.2.2.2.2.1
theorem dMod_become_34 : decode cMod_become 34 = .ok (.aload_n 0, 1) := zfMod_become_0.2.2.2.2.2.2.2.2.2.2.2.2.2.2.2.2.2.2.2.2.1
theorem dMod_become_35 : decode cMod_become 35 = .ok (.getfield 21, 3) := zfMod_become_0.2.2.2.2.2.2.2.2.2.2.2.2.2.2.2.2.2.2.2.2.2.1
theorem dMod_become_38 : decode cMod_become 38 = .ok (.iload 4, 2) := zfMod_become_0.2.2.2.2.2.2.2.2.2.2.2.2.2.2.2.2.2.2.2.2.2.2.1
theorem dMod_become_40 : decode cMod_become 40 = .ok (.iaload, 1) := zfMod_become_0.2.2.2.2.2.2.2.2.2.2.2.2.2.2.2.2.2.2.2.2.2.2.2.1
theorem dMod_become_41 : decode cMod_become 41 = .ok (.iload_n 1, 1) := zfMod_become_0.2.2.2.2.2.2.2.2.2.2.2.2.2.2.2.2.2.2.2.2.2.2.2.2.1
theorem dMod_become_42 : decode cMod_become 42 = .ok (.if_icmp .ne 13, 3) := zfMod_become_0.2.2.2.2.2.2.2.2.2.2.2.2.2.2.2.2.2.2.2.2.2.2.2.2.2.1
theorem dMod_become_45 : decode cMod_become 45 = .ok (.iload 4, 2) := zfMod_become_0.2.2.2.2.2.2.2.2.2.2.2.2.2.2.2.2.2.2.2.2.2.2.2.2.2.2.1
theorem dMod_become_47 : decode cMod_become 47 = .ok (.iload_n 3, 1) := zfMod_become_0.2.2.2.2.2.2.2.2.2.2.2.2.2.2.2.2.2.2.2.2.2.2.2.2.2.2.2.1
theorem dMod_become_48 : decode cMod_become 48 = .ok (.if_icmp .eq 7, 3) := zfMod_become_0.2.2.2.2.2.2.2.2.2.2.2.2.2.2.2.2.2.2.2.2.2.2.2.2.2.2.2.2.1
theorem dMod_become_51 : decode cMod_become 51 = .ok (.iconst 1, 1) := zfMod_become_0.2.2.2.2.2.2.2.2.2.2.2.2.2.2.2.2.2.2.2.2.2.2.2.2.2.2.2.2.2.1
theorem dMod_become_52 : decode cMod_become 52 = .ok (.goto 4, 3) := zfMod_become_0.2.2.2.2.2.2.2.2.2.2.2.2.2.2.2.2.2.2.2.2.2.2.2.2.2.2.2.2.2.2.1
theorem dMod_become_55 : decode cMod_become 55 = .ok (.iconst 0, 1) := zfMod_become_0.2.2.2.2.2.2.2.2.2.2.2.2.2.2.2.2.2.2.2.2.2.2.2.2.2.2.2.2.2.2.2.1
theorem zfMod_become_56 : decode cMod_become 56 = .ok (.ior, 1) ∧ decode cMod_become 57 = .ok (.bastore, 1) ∧ decode cMod_become 58 = .ok (.iinc 4 1, 3) ∧ decode cMod_become 61 = .ok (.goto (-51), 3) ∧ decode cMod_become 64 = .ok (.return_, 1) ∧ True := Jvm.Free.DS.facts (code := cMod_become) 56 [(.ior, 1), (.bastore, 1), (.iinc 4 1, 3), (.goto (-51), 3), (.return_, 1)] (by decide +kernel) (by decide +kernel)
theorem dMod_become_56 : decode cMod_become 56 = .ok (.ior, 1) := zfMod_become_56.1
theorem dMod_become_57 : decode cMod_become 57 = .ok (.bastore, 1) := zfMod_become_56.2.1
theorem dMod_become_58 : decode cMod_become 58 = .ok (.iinc 4 1, 3) := zfMod_become_56.2.2.1
theorem dMod_become_61 : decode cMod_become 61 = .ok (.goto (-51), 3) := zfMod_become_56.2.2.2.1
theorem dMod_become_64 : decode cMod_become 64 = .ok (.return_, 1) := zfMod_become_56.2.2.2.2.1
theorem zfMod_becomes_0 : decode cMod_becomes 0 = .ok (.aload_n 0, 1) ∧ decode cMod_becomes 1 = .ok (.iload_n 1, 1) ∧ decode cMod_becomes 2 = .ok (.aload_n 2, 1) ∧ decode cMod_becomes 3 = .ok (.iconst (-1), 1) ∧ decode cMod_becomes 4 = .ok (.invokevirtual 77, 3) ∧ decode cMod_becomes 7 = .ok (.aload_n 2, 1) ∧ decode cMod_becomes 8 = .ok (.arraylength, 1) ∧ decode cMod_becomes 9 = .ok (.ireturn, 1) ∧ True := Jvm.Free.DS.facts (code := cMod_becomes) 0 [(.aload_n 0, 1), (.iload_n 1, 1), (.aload_n 2, 1), (.iconst (-1), 1), (.invokevirtual 77, 3), (.aload_n 2, 1), (.arraylength, 1), (.ireturn, 1)] (by decide +kernel) (by decide +kernel)
theorem dMod_becomes_0 : decode cMod_becomes 0 = .ok (.aload_n 0, 1) := zfMod_becomes_0.1
theorem dMod_becomes_1 : decode cMod_becomes 1 = .ok (.iload_n 1, 1) := zfMod_becomes_0.2.1
theorem dMod_becomes_2 : decode cMod_becomes 2 = .ok (.aload_n 2, 1) := zfMod_becomes_0.2.2.1
theorem dMod_becomes_3 : decode cMod_becomes 3 = .ok (.iconst (-1), 1) := zfMod_becomes_0.2.2.2.1
theorem dMod_becomes_4 : decode cMod_becomes 4 = .ok (.invokevirtual 77, 3) := zfMod_becomes_0.2.2.2.2.1
theorem dMod_becomes_7 : decode cMod_becomes 7 = .ok (.aload_n 2, 1) := zfMod_becomes_0.2.2.2.2.2.1
theorem dMod_becomes_8 : decode cMod_becomes 8 = .ok (.arraylength, 1) := zfMod_becomes_0.2.2.2.2.2.2.1
theorem dMod_becomes_9 : decode cMod_becomes 9 = .ok (.ireturn, 1) := zfMod_becomes_0.2.2.2.2.2.2.2.1
theorem zfMod_put_0 : decode cMod_put 0 = .ok (.aload_n 0, 1) ∧ decode cMod_put 1 = .ok (.iload_n 1, 1) ∧ decode cMod_put 2 = .ok (.invokestatic 81, 3) ∧ decode cMod_put 5 = .ok (.iload_n 2, 1) ∧ decode cMod_put 6 = .ok (.iconst 0, 1) ∧ decode cMod_put 7 = .ok (.iconst 5, 1) ∧ decode cMod_put 8 = .ok (.invokestatic 41, 3) ∧ decode cMod_put 11 = .ok (.ifCond .ne 10, 3) ∧ decode cMod_put 14 = .ok (.iload_n 3, 1) ∧ decode cMod_put 15 = .ok (.invokestatic 85, 3) ∧ decode cMod_put 18 = .ok (.ifCond .eq 7, 3) ∧ decode cMod_put 21 = .ok (.iconst 1, 1) ∧ decode cMod_put 22 = .ok (.goto 4, 3) ∧ decode cMod_put 25 = .ok (.iconst 0, 1) ∧ decode cMod_put 26 = .ok (.iconst 0, 1) ∧ decode cMod_put 27 = .ok (.invokevirtual 88, 3) ∧ decode cMod_put 30 = .ok (.ifCond .eq 5, 3) ∧ decode cMod_put 33 = .ok (.iconst 0, 1) ∧ decode cMod_put 34 = .ok (.ireturn, 1) ∧ decode cMod_put 35 = .ok (.aload_n 0, 1) ∧ decode cMod_put 36 = .ok (.getfield 11, 3) ∧ decode cMod_put 39 = .ok (.iload_n 1, 1) ∧ decode cMod_put 40 = .ok (.aaload, 1) ∧ decode cMod_put 41 = .ok (.arraylength, 1) ∧ decode cMod_put 42 = .ok (.bipush 16, 2) ∧ decode cMod_put 44 = .ok (.if_icmp .ne 8, 3) ∧ decode cMod_put 47 = .ok (.aload_n 0, 1) ∧ decode cMod_put 48 = .ok (.invokevirtual 92, 3) ∧ decode cMod_put 51 = .ok (.ireturn, 1) ∧ decode cMod_put 52 = .ok (.aload_n 0, 1) ∧ decode cMod_put 53 = .ok (.iload_n 1, 1) ∧ decode cMod_put 54 = .ok (.aload_n 0, 1) ∧ True := Jvm.Free.DS.facts (code := cMod_put) 0 [(.aload_n 0, 1), (.iload_n 1, 1), (.invokestatic 81, 3), (.iload_n 2, 1), (.iconst 0, 1), (.iconst 5, 1), (.invokestatic 41, 3), (.ifCond .ne 10, 3), (.iload_n 3, 1), (.invokestatic 85, 3), (.ifCond .eq 7, 3), (.iconst 1, 1), (.goto 4, 3), (.iconst 0, 1), (.iconst 0, 1), (.invokevirtual 88, 3), (.ifCond .eq 5, 3), (.iconst 0, 1), (.ireturn, 1), (.aload_n 0, 1), (.getfield 11, 3), (.iload_n 1, 1), (.aaload, 1), (.arraylength, 1), (.bipush 16, 2), (.if_icmp .ne 8, 3), (.aload_n 0, 1), (.invokevirtual 92, 3), (.ireturn, 1), (.aload_n 0, 1), (.iload_n 1, 1), (.aload_n 0, 1)] (by decide +kernel) (by decide +kernel)
theorem dMod_put_0 : decode cMod_put 0 = .ok (.aload_n 0, 1) := zfMod_put_0.1
theorem dMod_put_1 : decode cMod_put 1 = .ok (.iload_n 1, 1) := zfMod_put_0.2.1
theorem dMod_put_2 : decode cMod_put 2 = .ok (.invokestatic 81, 3) := zfMod_put_0.2.2.1
theorem dMod_put_5 : decode cMod_put 5 = .ok (.iload_n 2, 1) := zfMod_put_0.2.2.2.1
theorem dMod_put_6 : decode cMod_put 6 = .ok (.iconst 0, 1) := zfMod_put_0.2.2.2.2.1
theorem dMod_put_7 : decode cMod_put 7 = .ok (.iconst 5, 1) := zfMod_put_0.2.2.2.2.2.1
theorem dMod_put_8 : decode cMod_put 8 = .ok (.invokestatic 41, 3) := zfMod_put_0.2.2.2.2.2.2.1
theorem dMod_put_11 : decode cMod_put 11 = .ok (.ifCond .ne 10, 3) := zfMod_put_0.2.2.2.2.2.2.2.1
theorem dMod_put_14 : decode cMod_put 14 = .ok (.iload_n 3, 1) := zfMod_put_0.2.2.2.2.2.2.2.2.1
theorem dMod_put_15 : decode cMod_put 15 = .ok (.invokestatic 85, 3) := zfMod_put_0.2.2.2.2.2.2.2.2.2.1
theorem dMod_put_18 : decode cMod_put 18 = .ok (.ifCond .eq 7, 3) := zfMod_put_0.2.2.2.2.2.2.2.2.2.2.1
theorem dMod_put_21 : decode cMod_put 21 = .ok (.iconst 1, 1) := zfMod_put_0.2.2.2.2.2.2.2.2.2.2.2.1
theorem dMod_put_22 : decode cMod_put 22 = .ok (.goto 4, 3) := zfMod_put_0.2.2.2.2.2.2.2.2.2.2.2.2.1
theorem dMod_put_25 : decode cMod_put 25 = .ok (.iconst 0, 1) := zfMod_put_0.2.2.2.2.2.2.2.2.2.2.2.2.2.1
theorem dMod_put_26 : decode cMod_put 26 = .ok (.iconst 0, 1) := zfMod_put_0.2.2.2.2.2.2.2.2.2.2.2.2.2.2.1
theorem dMod_put_27 : decode cMod_put 27 = .ok (.invokevirtual 88, 3) := zfMod_put_0.2.2.2.2.2.2.2.2.2.2.2.2.2.2.2.1
theorem dMod_put_30 : decode cMod_put 30 = .ok (.ifCond .eq 5, 3) := zfMod_put_0.2.2.2.2.2.2.2.2.2.2.2.2.2.2.2.2.1
theorem dMod_put_33 : decode cMod_put 33 = .ok (.iconst 0, 1) := zfMod_put_0.2.2.2.2.2.2.2.2.2.2.2.2.2.2.2.2.2.1
theorem dMod_put_34 : decode cMod_put 34 = .ok (.ireturn, 1) := zfMod_put_0.2.2.2.2.2.2.2.2.2.2.2.2.2.2.2.2.2.2.1
theorem dMod_put_35 : decode cMod_put 35 = .ok (.aload_n 0, 1) := zfMod_put_0.2.2.2.2.2.2.2.2.2.2.2.2.2.2.2.2.2.2.2.1
theorem dMod_put_36 : decode cMod_put 36 = .ok (.getfield 11, 3) := zfMod_put_0.2.2.2.2.2.2.2.2.2.2.2.2.2.2.2.2.2.2.2.2.1
theorem dMod_put_39 : decode cMod_put 39 = .ok (.iload_n 1, 1) := zfMod_put_0.2.2.2.2.2.2.2.2.2.2.2.2.2.2.2.2.2.2.2.2.2.1
theorem dMod_put_40 : decode cMod_put 40 = .ok (.aaload, 1) := zfMod_put_0.2.2.2.2.2.2.2.2.2.2.2.2.2.2.2.2.2.2.2.2.2.2.1
theorem dMod_put_41 : decode cMod_put 41 = .ok (.arraylength, 1) := zfMod_put_0.2.2.2.2.2.2.2.2.2.2.2.2.2.2.2.2.2.2.2.2.2.2.2.1
theorem dMod_put_42 : decode cMod_put 42 = .ok (.bipush 16, 2) := zfMod_put_0.2.2.2.2.2.2.2.2.2.2.2.2.2.2.2.2.2.2.2.2.2.2.2.2.1
theorem dMod_put_44 : decode cMod_put 44 = .ok (.if_icmp .ne 8, 3) := zfMod_put_0.2.2.2.2.2.2.2.2.2.2.2.2.2.2.2.2.2.2.2.2.2.2.2.2.2.1
theorem dMod_put_47 : decode cMod_put 47 = .ok (.aload_n 0, 1) := zfMod_put_0.2.2.2.2.2.2.2.2.2.2.2.2.2.2.2.2.2.2.2.2.2.2.2.2.2.2.1
theorem dMod_put_48 : decode cMod_put 48 = .ok (.invokevirtual 92, 3) := zfMod_put_0.2.2.2.2.2.2.2.2.2.2.2.2.2.2.2.2.2.2.2.2.2.2.2.2.2.2.2.1
theorem dMod_put_51 : decode cMod_put 51 = .ok (.ireturn, 1) := zfMod_put_0.2.2.2.2.2.2.2.2.2.2.2.2.2.2.2.2.2.2.2.2.2.2.2.2.2.2.2.2.1
theorem dMod_put_52 : decode cMod_put 52 = .ok (.aload_n 0, 1) := zfMod_put_0.2.2.2.2.2.2.2.2.2.2.2.2.2.2.2.2.2.2.2.2.2.2.2.2.2.2.2.2.2.1
theorem dMod_put_53 : decode cMod_put 53 = .ok (.iload_n 1, 1) := zfMod_put_0.2.2.2.2.2.2.2.2.2.2.2.2.2.2.2.2.2.2.2.2.2.2.2.2.2.2.2.2.2.2.1
theorem dMod_put_54 : decode cMod_put 54 = .ok (.aload_n 0, 1) := zfMod_put_0.2.2.2.2.2.2.2.2.2.2.2.2.2.2.2.2.2.2.2.2.2.2.2.2.2.2.2.2.2.2.2.1
theorem zfMod_put_55 : decode cMod_put 55 = .ok (.getfield 11, 3) ∧ decode cMod_put 58 = .ok (.iload_n 1, 1) ∧ decode cMod_put 59 = .ok (.aaload, 1) ∧ decode cMod_put 60 = .ok (.iload_n 2, 1) ∧ decode cMod_put 61 = .ok (.iconst 2, 1) ∧ decode cMod_put 62 = .ok (.irem, 1) ∧ decode cMod_put 63 = .ok (.ifCond .ne 7, 3) ∧ decode cMod_put 66 = .ok (.iconst 0, 1) ∧ decode cMod_put 67 = .ok (.goto 10, 3) ∧ decode cMod_put 70 = .ok (.aload_n 0, 1) ∧ decode cMod_put 71 = .ok (.getfield 11, 3) ∧ decode cMod_put 74 = .ok (.iload_n 1, 1) ∧ decode cMod_put 75 = .ok (.aaload, 1) ∧ decode cMod_put 76 = .ok (.arraylength, 1) ∧ decode cMod_put 77 = .ok (.iload_n 3, 1) ∧ decode cMod_put 78 = .ok (.invokestatic 49, 3) ∧ decode cMod_put 81 = .ok (.invokevirtual 95, 3) ∧ decode cMod_put 84 = .ok (.ireturn, 1) ∧ True := Jvm.Free.DS.facts (code := cMod_put) 55 [(.getfield 11, 3), (.iload_n 1, 1), (.aaload, 1), (.iload_n 2, 1), (.iconst 2, 1), (.irem, 1), (.ifCond .ne 7, 3), (.iconst 0, 1), (.goto 10, 3), (.aload_n 0, 1), (.getfield 11, 3), (.iload_n 1, 1), (.aaload, 1), (.arraylength, 1), (.iload_n 3, 1), (.invokestatic 49, 3), (.invokevirtual 95, 3), (.ireturn, 1)] (by decide +kernel) (by decide +kernel)
theorem dMod_put_55 : decode cMod_put 55 = .ok (.getfield 11, 3) := zfMod_put_55.1
theorem dMod_put_58 : decode cMod_put 58 = .ok (.iload_n 1, 1) := zfMod_put_55.2.1
theorem dMod_put_59 : decode cMod_put 59 = .ok (.aaload, 1) := zfMod_put_55.2.2.1
theorem dMod_put_60 : decode cMod_put 60 = .ok (.iload_n 2, 1) := zfMod_put_55.2.2.2.1
theorem dMod_put_61 : decode cMod_put 61 = .ok (.iconst 2, 1) := zfMod_put_55.2.2.2.2.1
theorem dMod_put_62 : decode cMod_put 62 = .ok (.irem, 1) := zfMod_put_55.2.2.2.2.2.1
theorem dMod_put_63 : decode cMod_put 63 = .ok (.ifCond .ne 7, 3) := zfMod_put_55.2.2.2.2.2.2.1
theorem dMod_put_66 : decode cMod_put 66 = .ok (.iconst 0, 1) := zfMod_put_55.2.2.2.2.2.2.2.1
theorem dMod_put_67 : decode cMod_put 67 = .ok (.goto 10, 3) := zfMod_put_55.2.2.2.2.2.2.2.2.1
theorem dMod_put_70 : decode cMod_put 70 = .ok (.aload_n 0, 1) := zfMod_put_55.2.2.2.2.2.2.2.2.2.1
theorem dMod_put_71 : decode cMod_put 71 = .ok (.getfield 11, 3) := zfMod_put_55.2.2.2.2.2.2.2.2.2.2.1
theorem dMod_put_74 : decode cMod_put 74 = .ok (.iload_n 1, 1) := zfMod_put_55.2.2.2.2.2.2.2.2.2.2.2.1
theorem dMod_put_75 : decode cMod_put 75 = .ok (.aaload, 1) := zfMod_put_55.2.2.2.2.2.2.2.2.2.2.2.2.1
theorem dMod_put_76 : decode cMod_put 76 = .ok (.arraylength, 1) := zfMod_put_55.2.2.2.2.2.2.2.2.2.2.2.2.2.1
theorem dMod_put_77 : decode cMod_put 77 = .ok (.iload_n 3, 1) := zfMod_put_55.2.2.2.2.2.2.2.2.2.2.2.2.2.2.1
theorem dMod_put_78 : decode cMod_put 78 = .ok (.invokestatic 49, 3) := zfMod_put_55.2.2.2.2.2.2.2.2.2.2.2.2.2.2.2.1
theorem dMod_put_81 : decode cMod_put 81 = .ok (.invokevirtual 95, 3) := zfMod_put_55.2.2.2.2.2.2.2.2.2.2.2.2.2.2.2.2.1
theorem dMod_put_84 : decode cMod_put 84 = .ok (.ireturn, 1) := zfMod_put_55.2.2.2.2.2.2.2.2.2.2.2.2.2.2.2.2.2.1
theorem zfMod_isAtEnd_0 : decode cMod_isAtEnd 0 = .ok (.iload_n 0, 1) ∧ decode cMod_isAtEnd 1 = .ok (.iconst 1, 1) ∧ decode cMod_isAtEnd 2 = .ok (.if_icmp .eq 8, 3) ∧ decode cMod_isAtEnd 5 = .ok (.iload_n 0, 1) ∧ decode cMod_isAtEnd 6 = .ok (.iconst 3, 1) ∧ decode cMod_isAtEnd 7 = .ok (.if_icmp .ne 7, 3) ∧ decode cMod_isAtEnd 10 = .ok (.iconst 1, 1) ∧ decode cMod_isAtEnd 11 = .ok (.goto 4, 3) ∧ decode cMod_isAtEnd 14 = .ok (.iconst 0, 1) ∧ decode cMod_isAtEnd 15 = .ok (.ireturn, 1) ∧ True := Jvm.Free.DS.facts (code := cMod_isAtEnd) 0 [(.iload_n 0, 1), (.iconst 1, 1), (.if_icmp .eq 8, 3), (.iload_n 0, 1), (.iconst 3, 1), (.if_icmp .ne 7, 3), (.iconst 1, 1), (.goto 4, 3), (.iconst 0, 1), (.ireturn, 1)] (by decide +kernel) (by decide +kernel)
theorem dMod_isAtEnd_0 : decode cMod_isAtEnd 0 = .ok (.iload_n 0, 1) := zfMod_isAtEnd_0.1
theorem dMod_isAtEnd_1 : decode cMod_isAtEnd 1 = .ok (.iconst 1, 1) := zfMod_isAtEnd_0.2.1
theorem dMod_isAtEnd_2 : decode cMod_isAtEnd 2 = .ok (.if_icmp .eq 8, 3) := zfMod_isAtEnd_0.2.2.1
theorem dMod_isAtEnd_5 : decode cMod_isAtEnd 5 = .ok (.iload_n 0, 1) := zfMod_isAtEnd_0.2.2.2.1
theorem dMod_isAtEnd_6 : decode cMod_isAtEnd 6 = .ok (.iconst 3, 1) := zfMod_isAtEnd_0.2.2.2.2.1
theorem dMod_isAtEnd_7 : decode cMod_isAtEnd 7 = .ok (.if_icmp .ne 7, 3) := zfMod_isAtEnd_0.2.2.2.2.2.1
theorem dMod_isAtEnd_10 : decode cMod_isAtEnd 10 = .ok (.iconst 1, 1) := zfMod_isAtEnd_0.2.2.2.2.2.2.1
theorem dMod_isAtEnd_11 : decode cMod_isAtEnd 11 = .ok (.goto 4, 3) := zfMod_isAtEnd_0.2.2.2.2.2.2.2.1
theorem dMod_isAtEnd_14 : decode cMod_isAtEnd 14 = .ok (.iconst 0, 1) := zfMod_isAtEnd_0.2.2.2.2.2.2.2.2.1
theorem dMod_isAtEnd_15 : decode cMod_isAtEnd 15 = .ok (.ireturn, 1) := zfMod_isAtEnd_0.2.2.2.2.2.2.2.2.2.1
theorem zfMod_take_0 : decode cMod_take 0 = .ok (.aload_n 0, 1) ∧ decode cMod_take 1 = .ok (.iload_n 1, 1) ∧ decode cMod_take 2 = .ok (.invokestatic 81, 3) ∧ decode cMod_take 5 = .ok (.iload_n 2, 1) ∧ decode cMod_take 6 = .ok (.iconst 0, 1) ∧ decode cMod_take 7 = .ok (.bipush 6, 2) ∧ decode cMod_take 9 = .ok (.invokestatic 41, 3) ∧ decode cMod_take 12 = .ok (.iconst 0, 1) ∧ decode cMod_take 13 = .ok (.invokevirtual 88, 3) ∧ decode cMod_take 16 = .ok (.ifCond .eq 5, 3) ∧ decode cMod_take 19 = .ok (.iconst 0, 1) ∧ decode cMod_take 20 = .ok (.ireturn, 1) ∧ decode cMod_take 21 = .ok (.aload_n 0, 1) ∧ decode cMod_take 22 = .ok (.getfield 11, 3) ∧ decode cMod_take 25 = .ok (.iload_n 1, 1) ∧ decode cMod_take 26 = .ok (.aaload, 1) ∧ decode cMod_take 27 = .ok (.astore_n 3, 1) ∧ decode cMod_take 28 = .ok (.aload_n 3, 1) ∧ decode cMod_take 29 = .ok (.arraylength, 1) ∧ decode cMod_take 30 = .ok (.ifCond .ne 35, 3) ∧ decode cMod_take 33 = .ok (.iload_n 2, 1) ∧ decode cMod_take 34 = .ok (.iconst 2, 1) ∧ decode cMod_take 35 = .ok (.if_icmp .eq 19, 3) ∧ decode cMod_take 38 = .ok (.iload_n 2, 1) ∧ decode cMod_take 39 = .ok (.iconst 3, 1) ∧ decode cMod_take 40 = .ok (.if_icmp .eq 14, 3) ∧ decode cMod_take 43 = .ok (.iload_n 2, 1) ∧ decode cMod_take 44 = .ok (.bipush 6, 2) ∧ decode cMod_take 46 = .ok (.if_icmp .eq 8, 3) ∧ decode cMod_take 49 = .ok (.aload_n 0, 1) ∧ decode cMod_take 50 = .ok (.invokevirtual 92, 3) ∧ decode cMod_take 53 = .ok (.ireturn, 1) ∧ True := Jvm.Free.DS.facts (code := cMod_take) 0 [(.aload_n 0, 1), (.iload_n 1, 1), (.invokestatic 81, 3), (.iload_n 2, 1), (.iconst 0, 1), (.bipush 6, 2), (.invokestatic 41, 3), (.iconst 0, 1), (.invokevirtual 88, 3), (.ifCond .eq 5, 3), (.iconst 0, 1), (.ireturn, 1), (.aload_n 0, 1), (.getfield 11, 3), (.iload_n 1, 1), (.aaload, 1), (.astore_n 3, 1), (.aload_n 3, 1), (.arraylength, 1), (.ifCond .ne 35, 3), (.iload_n 2, 1), (.iconst 2, 1), (.if_icmp .eq 19, 3), (.iload_n 2, 1), (.iconst 3, 1), (.if_icmp .eq 14, 3), (.iload_n 2, 1), (.bipush 6, 2), (.if_icmp .eq 8, 3), (.aload_n 0, 1), (.invokevirtual 92, 3), (.ireturn, 1)] (by decide +kernel) (by decide +kernel)
theorem dMod_take_0 : decode cMod_take 0 = .ok (.aload_n 0, 1) := zfMod_take_0.1
theorem dMod_take_1 : decode cMod_take 1 = .ok (.iload_n 1, 1) := zfMod_take_0.2.1
theorem dMod_take_2 : decode cMod_take 2 = .ok (.invokestatic 81, 3) := zfMod_take_0.2.2.1
theorem dMod_take_5 : decode cMod_take 5 = .ok (.iload_n 2, 1) := zfMod_take_0.2.2.2.1
theorem dMod_take_6 : decode cMod_take 6 = .ok (.iconst 0, 1) := zfMod_take_0.2.2.2.2.1
theorem dMod_take_7 : decode cMod_take 7 = .ok (.bipush 6, 2) := zfMod_take_0.2.2.2.2.2.1
theorem dMod_take_9 : decode cMod_take 9 = .ok (.invokestatic 41, 3) := zfMod_take_0.2.2.2.2.2.2.1
theorem dMod_take_12 : decode cMod_take 12 = .ok (.iconst 0, 1) := zfMod_take_0.2.2.2.2.2.2.2.1
theorem dMod_take_13 : decode cMod_take 13 = .ok (.invokevirtual 88, 3) := zfMod_take_0.2.2.2.2.2.2.2.2.1
theorem dMod_take_16 : decode cMod_take 16 = .ok (.ifCond .eq 5, 3) := zfMod_take_0.2.2.2.2.2.2.2.2.2.1
theorem dMod_take_19 : decode cMod_take 19 = .ok (.iconst 0, 1) := zfMod_take_0.2.2.2.2.2.2.2.2.2.2.1
theorem dMod_take_20 : decode cMod_take 20 = .ok (.ireturn, 1) := zfMod_take_0.2.2.2.2.2.2.2.2.2.2.2.1
theorem dMod_take_21 : decode cMod_take 21 = .ok (.aload_n 0, 1) := zfMod_take_0.2.2.2.2.2.2.2.2.2.2.2.2.1
theorem dMod_take_22 : decode cMod_take 22 = .ok (.getfield 11, 3) := zfMod_take_0.2.2.2.2.2.2.2.2.2.2.2.2.2.1
theorem dMod_take_25 : decode cMod_take 25 = .ok (.iload_n 1, 1) := zfMod_take_0.2.2.2.2.2.2.2.2.2.2.2.2.2.2.1
theorem dMod_take_26 : decode cMod_take 26 = .ok (.aaload, 1) := zfMod_take_0.2.2.2.2.2.2.2.2.2.2.2.2.2.2.2.1
theorem dMod_take_27 : decode cMod_take 27 = .ok (.astore_n 3, 1) := zfMod_take_0.2.2.2.2.2.2.2.2.2.2.2.2.2.2.2.2.1
theorem dMod_take_28 : decode cMod_take 28 = .ok (.aload_n 3, 1) := zfMod_take_0.2.2.2.2.2.2.2.2.2.2.2.2.2.2.2.2.2.1
theorem dMod_take_29 : decode cMod_take 29 = .ok (.arraylength, 1) := zfMod_take_0.2.2.2.2.2.2.2.2.2.2.2.2.2.2.2.2.2.2.1
theorem dMod_take_30 : decode cMod_take 30 = .ok (.ifCond .ne 35, 3) := zfMod_take_0.2.2.2.2.2.2.2.2.2.2.2.2.2.2.2.2.2.2.2.1
theorem dMod_take_33 : decode cMod_take 33 = .ok (.iload_n 2, 1) := zfMod_take_0.2.2.2.2.2.2.2.2.2.2.2.2.2.2.2.2.2.2.2.2.1
theorem dMod_take_34 : decode cMod_take 34 = .ok (.iconst 2, 1) := zfMod_take_0.2.2.2.2.2.2.2.2.2.2.2.2.2.2.2.2.2.2.2.2.2.1
theorem dMod_take_35 : decode cMod_take 35 = .ok (.if_icmp .eq 19, 3) := zfMod_take_0.2.2.2.2.2.2.2.2.2.2.2.2.2.2.2.2.2.2.2.2.2.2.1
theorem dMod_take_38 : decode cMod_take 38 = .ok (.iload_n 2, 1) := zfMod_take_0.2.2.2.2.2.2.2.2.2.2.2.2.2.2.2.2.2.2.2.2.2.2.2.1
theorem dMod_take_39 : decode cMod_take 39 = .ok (.iconst 3, 1) := zfMod_take_0.2.2.2.2.2.2.2.2.2.2.2.2.2.2.2.2.2.2.2.2.2.2.2.2.1
theorem dMod_take_40 : decode cMod_take 40 = .ok (.if_icmp .eq 14, 3) := zfMod_take_0.2.2.2.2.2.2.2.2.2.2.2.2.2.2.2.2.2.2.2.2.2.2.2.2.2.1
theorem dMod_take_43 : decode cMod_take 43 = .ok (.iload_n 2, 1) := zfMod_take_0.2.2.2.2.2.2.2.2.2.2.2.2.2.2.2.2.2.2.2.2.2.2.2.2.2.2.1
theorem dMod_take_44 : decode cMod_take 44 = .ok (.bipush 6, 2) := zfMod_take_0.2.2.2.2.2.2.2.2.2.2.2.2.2.2.2.2.2.2.2.2.2.2.2.2.2.2.2.1
theorem dMod_take_46 : decode cMod_take 46 = .ok (.if_icmp .eq 8, 3) := zfMod_take_0.2.2.2.2.2.2.2.2.2.2.2.2.2.2.2.2.2.2.2.2.2.2.2.2.2.2.2.2.1
theorem dMod_take_49 : decode cMod_take 49 = .ok (.aload_n 0, 1) := zfMod_take_0.2.2.2.2.2.2.2.2.2.2.2.2.2.2.2.2.2.2.2.2.2.2.2.2.2.2.2.2.2.1
theorem dMod_take_50 : decode cMod_take 50 = .ok (.invokevirtual 92, 3) := zfMod_take_0.2.2.2.2.2.2.2.2.2.2.2.2.2.2.2.2.2.2.2.2.2.2.2.2.2.2.2.2.2.2.1
theorem dMod_take_53 : decode cMod_take 53 = .ok (.ireturn, 1) := zfMod_take_0.2.2.2.2.2.2.2.2.2.2.2.2.2.2.2.2.2.2.2.2.2.2.2.2.2.2.2.2.2.2.2.1
theorem zfMod_take_54 : decode cMod_take 54 = .ok (.aload_n 0, 1) ∧ decode cMod_take 55 = .ok (.iload_n 1, 1) ∧ decode cMod_take 56 = .ok (.aload_n 3, 1) ∧ decode cMod_take 57 = .ok (.iconst (-1), 1) ∧ decode cMod_take 58 = .ok (.invokevirtual 77, 3) ∧ decode cMod_take 61 = .ok (.sipush 10000, 3) ∧ decode cMod_take 64 = .ok (.ireturn, 1) ∧ decode cMod_take 65 = .ok (.iload_n 2, 1) ∧ decode cMod_take 66 = .ok (.invokestatic 99, 3) ∧ decode cMod_take 69 = .ok (.ifCond .eq 10, 3) ∧ decode cMod_take 72 = .ok (.aload_n 3, 1) ∧ decode cMod_take 73 = .ok (.arraylength, 1) ∧ decode cMod_take 74 = .ok (.iconst 1, 1) ∧ decode cMod_take 75 = .ok (.isub, 1) ∧ decode cMod_take 76 = .ok (.goto 4, 3) ∧ decode cMod_take 79 = .ok (.iconst 0, 1) ∧ decode cMod_take 80 = .ok (.istore 4, 2) ∧ decode cMod_take 82 = .ok (.aload_n 0, 1) ∧ decode cMod_take 83 = .ok (.iload_n 1, 1) ∧ decode cMod_take 84 = .ok (.aload_n 3, 1) ∧ decode cMod_take 85 = .ok (.iload 4, 2) ∧ decode cMod_take 87 = .ok (.invokestatic 102, 3) ∧ decode cMod_take 90 = .ok (.iconst (-1), 1) ∧ decode cMod_take 91 = .ok (.invokevirtual 77, 3) ∧ decode cMod_take 94 = .ok (.aload_n 3, 1) ∧ decode cMod_take 95 = .ok (.iload 4, 2) ∧ decode cMod_take 97 = .ok (.iaload, 1) ∧ decode cMod_take 98 = .ok (.ireturn, 1) ∧ True := Jvm.Free.DS.facts (code := cMod_take) 54 [(.aload_n 0, 1), (.iload_n 1, 1), (.aload_n 3, 1), (.iconst (-1), 1), (.invokevirtual 77, 3), (.sipush 10000, 3), (.ireturn, 1), (.iload_n 2, 1), (.invokestatic 99, 3), (.ifCond .eq 10, 3), (.aload_n 3, 1), (.arraylength, 1), (.iconst 1, 1), (.isub, 1), (.goto 4, 3), (.iconst 0, 1), (.istore 4, 2), (.aload_n 0, 1), (.iload_n 1, 1), (.aload_n 3, 1), (.iload 4, 2), (.invokestatic 102, 3), (.iconst (-1), 1), (.invokevirtual 77, 3), (.aload_n 3, 1), (.iload 4, 2), (.iaload, 1), (.ireturn, 1)] (by decide +kernel) (by decide +kernel)
theorem dMod_take_54 : decode cMod_take 54 = .ok (.aload_n 0, 1) := zfMod_take_54.1
theorem dMod_take_55 : decode cMod_take 55 = .ok (.iload_n 1, 1) := zfMod_take_54.2.1
theorem dMod_take_56 : decode cMod_take 56 = .ok (.aload_n 3, 1) := zfMod_take_54.2.2.1
theorem dMod_take_57 : decode cMod_take 57 = .ok (.iconst (-1), 1) := zfMod_take_54.2.2.2.1
theorem dMod_take_58 : decode cMod_take 58 = .ok (.invokevirtual 77, 3) := zfMod_take_54.2.2.2.2.1
theorem dMod_take_61 : decode cMod_take 61 = .ok (.sipush 10000, 3) := zfMod_take_54.2.2.2.2.2.1
theorem dMod_take_64 : decode cMod_take 64 = .ok (.ireturn, 1) := zfMod_take_54.2.2.2.2.2.2.1
theorem dMod_take_65 : decode cMod_take 65 = .ok (.iload_n 2, 1) := zfMod_take_54.2.2.2.2.2.2.2.1
theorem dMod_take_66 : decode cMod_take 66 = .ok (.invokestatic 99, 3) := zfMod_take_54.2.2.2.2.2.2.2.2.1
theorem dMod_take_69 : decode cMod_take 69 = .ok (.ifCond .eq 10, 3) := zfMod_take_54.2.2.2.2.2.2.2.2.2.1
theorem dMod_take_72 : decode cMod_take 72 = .ok (.aload_n 3, 1) := zfMod_take_54.2.2.2.2.2.2.2.2.2.2.1
theorem dMod_take_73 : decode cMod_take 73 = .ok (.arraylength, 1) := zfMod_take_54.2.2.2.2.2.2.2.2.2.2.2.1
theorem dMod_take_74 : decode cMod_take 74 = .ok (.iconst 1, 1) := zfMod_take_54.2.2.2.2.2.2.2.2.2.2.2.2.1
theorem dMod_take_75 : decode cMod_take 75 = .ok (.isub, 1) := zfMod_take_54.2.2.2.2.2.2.2.2.2.2.2.2.2.1
theorem dMod_take_76 : decode cMod_take 76 = .ok (.goto 4, 3) := zfMod_take_54.2.2.2.2.2.2.2.2.2.2.2.2.2.2.1
theorem dMod_take_79 : decode cMod_take 79 = .ok (.iconst 0, 1) := zfMod_take_54.2.2.2.2.2.2.2.2.2.2.2.2.2.2.2.1
theorem dMod_take_80 : decode cMod_take 80 = .ok (.istore 4, 2) := zfMod_take_54.2.2.2.2.2.2.2.2.2.2.2.2.2.2.2.2.1
theorem dMod_take_82 : decode cMod_take 82 = .ok (.aload_n 0, 1) := zfMod_take_54.2.2.2.2.2.2.2.2.2.2.2.2.2.2.2.2.2.1
theorem dMod_take_83 : decode cMod_take 83 = .ok (.iload_n 1, 1) := zfMod_take_54.2.2.2.2.2.2.2.2.2.2.2.2.2.2.2.2.2.2.1
theorem dMod_take_84 : decode cMod_take 84 = .ok (.aload_n 3, 1) := zfMod_take_54.2.2.2.2.2.2.2.2.2.2.2.2.2.2.2.2.2.2.2.1
theorem dMod_take_85 : decode cMod_take 85 = .ok (.iload 4, 2) := zfMod_take_54.2.2.2.2.2.2.2.2.2.2.2.2.2.2.2.2.2.2.2.2.1
theorem dMod_take_87 : decode cMod_take 87 = .ok (.invokestatic 102, 3) := zfMod_take_54.2.2.2.2.2.2.2.2.2.2.2.2.2.2.2.2.2.2.2.2.2.1
theorem dMod_take_90 : decode cMod_take 90 = .ok (.iconst (-1), 1) := zfMod_take_54.2.2.2.2.2.2.2.2.2.2.2.2.2.2.2.2.2.2.2.2.2.2.1
theorem dMod_take_91 : decode cMod_take 91 = .ok (.invokevirtual 77, 3) := zfMod_take_54.2.2.2.2.2.2.2.2.2.2.2.2.2.2.2.2.2.2.2.2.2.2.2.1
theorem dMod_take_94 : decode cMod_take 94 = .ok (.aload_n 3, 1) := zfMod_take_54.2.2.2.2.2.2.2.2.2.2.2.2.2.2.2.2.2.2.2.2.2.2.2.2.1
theorem dMod_take_95 : decode cMod_take 95 = .ok (.iload 4, 2) := zfMod_take_54.2.2.2.2.2.2.2.2.2.2.2.2.2.2.2.2.2.2.2.2.2.2.2.2.2.1
theorem dMod_take_97 : decode cMod_take 97 = .ok (.iaload, 1) := zfMod_take_54.2.2.2.2.2.2.2.2.2.2.2.2.2.2.2.2.2.2.2.2.2.2.2.2.2.2.1
theorem dMod_take_98 : decode cMod_take 98 = .ok (.ireturn, 1) := zfMod_take_54.2.2.2.2.2.2.2.2.2.2.2.2.2.2.2.2.2.2.2.2.2.2.2.2.2.2.2.1
theorem zfMod_look_0 : decode cMod_look 0 = .ok (.aload_n 0, 1) ∧ decode cMod_look 1 = .ok (.iload_n 1, 1) ∧ decode cMod_look 2 = .ok (.invokestatic 81, 3) ∧ decode cMod_look 5 = .ok (.iload_n 2, 1) ∧ decode cMod_look 6 = .ok (.iconst 0, 1) ∧ decode cMod_look 7 = .ok (.iconst 5, 1) ∧ decode cMod_look 8 = .ok (.invokestatic 41, 3) ∧ decode cMod_look 11 = .ok (.iconst 0, 1) ∧ True := Jvm.Free.DS.facts (code := cMod_look) 0 [(.aload_n 0, 1), (.iload_n 1, 1), (.invokestatic 81, 3), (.iload_n 2, 1), (.iconst 0, 1), (.iconst 5, 1), (.invokestatic 41, 3), (.iconst 0, 1)] (by decide +kernel) (by decide +kernel)
theorem dMod_look_0 : decode cMod_look 0 = .ok (.aload_n 0, 1) := zfMod_look_0.1
theorem dMod_look_1 : decode cMod_look 1 = .ok (.iload_n 1, 1) := zfMod_look_0.2.1
theorem dMod_look_2 : decode cMod_look 2 = .ok (.invokestatic 81, 3) := zfMod_look_0.2.2.1
theorem dMod_look_5 : decode cMod_look 5 = .ok (.iload_n 2, 1) := zfMod_look_0.2.2.2.1
theorem dMod_look_6 : decode cMod_look 6 = .ok (.iconst 0, 1) := zfMod_look_0.2.2.2.2.1
theorem dMod_look_7 : decode cMod_look 7 = .ok (.iconst 5, 1) := zfMod_look_0.2.2.2.2.2.1
theorem dMod_look_8 : decode cMod_look 8 = .ok (.invokestatic 41, 3) := zfMod_look_0.2.2.2.2.2.2.1
theorem dMod_look_11 : decode cMod_look 11 = .ok (.iconst 0, 1) := zfMod_look_0.2.2.2.2.2.2.2.1
