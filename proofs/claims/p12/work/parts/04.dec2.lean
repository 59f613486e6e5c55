theorem zfMod_look_12 : decode cMod_look 12 = .ok (.invokevirtual 88, 3) ∧ decode cMod_look 15 = .ok (.ifCond .eq 5, 3) ∧ decode cMod_look 18 = .ok (.iconst 0, 1) ∧ decode cMod_look 19 = .ok (.ireturn, 1) ∧ decode cMod_look 20 = .ok (.aload_n 0, 1) ∧ decode cMod_look 21 = .ok (.getfield 11, 3) ∧ decode cMod_look 24 = .ok (.iload_n 1, 1) ∧ decode cMod_look 25 = .ok (.aaload, 1) ∧ decode cMod_look 26 = .ok (.astore_n 3, 1) ∧ decode cMod_look 27 = .ok (.aload_n 3, 1) ∧ decode cMod_look 28 = .ok (.arraylength, 1) ∧ decode cMod_look 29 = .ok (.ifCond .ne 29, 3) ∧ decode cMod_look 32 = .ok (.iload_n 2, 1) ∧ decode cMod_look 33 = .ok (.iconst 2, 1) ∧ decode cMod_look 34 = .ok (.if_icmp .eq 13, 3) ∧ decode cMod_look 37 = .ok (.iload_n 2, 1) ∧ decode cMod_look 38 = .ok (.iconst 3, 1) ∧ decode cMod_look 39 = .ok (.if_icmp .eq 8, 3) ∧ decode cMod_look 42 = .ok (.iload_n 2, 1) ∧ decode cMod_look 43 = .ok (.iconst 5, 1) ∧ decode cMod_look 44 = .ok (.if_icmp .ne 9, 3) ∧ decode cMod_look 47 = .ok (.sipush 10000, 3) ∧ decode cMod_look 50 = .ok (.goto 7, 3) ∧ decode cMod_look 53 = .ok (.aload_n 0, 1) ∧ decode cMod_look 54 = .ok (.invokevirtual 92, 3) ∧ decode cMod_look 57 = .ok (.ireturn, 1) ∧ decode cMod_look 58 = .ok (.aload_n 3, 1) ∧ decode cMod_look 59 = .ok (.iload_n 2, 1) ∧ decode cMod_look 60 = .ok (.invokestatic 99, 3) ∧ decode cMod_look 63 = .ok (.ifCond .eq 10, 3) ∧ decode cMod_look 66 = .ok (.aload_n 3, 1) ∧ decode cMod_look 67 = .ok (.arraylength, 1) ∧ True := Jvm.Free.DS.facts (code := cMod_look) 12 [(.invokevirtual 88, 3), (.ifCond .eq 5, 3), (.iconst 0, 1), (.ireturn, 1), (.aload_n 0, 1), (.getfield 11, 3), (.iload_n 1, 1), (.aaload, 1), (.astore_n 3, 1), (.aload_n 3, 1), (.arraylength, 1), (.ifCond .ne 29, 3), (.iload_n 2, 1), (.iconst 2, 1), (.if_icmp .eq 13, 3), (.iload_n 2, 1), (.iconst 3, 1), (.if_icmp .eq 8, 3), (.iload_n 2, 1), (.iconst 5, 1), (.if_icmp .ne 9, 3), (.sipush 10000, 3), (.goto 7, 3), (.aload_n 0, 1), (.invokevirtual 92, 3), (.ireturn, 1), (.aload_n 3, 1), (.iload_n 2, 1), (.invokestatic 99, 3), (.ifCond .eq 10, 3), (.aload_n 3, 1), (.arraylength, 1)] (by decide +kernel) (by decide +kernel)
theorem dMod_look_12 : decode cMod_look 12 = .ok (.invokevirtual 88, 3) := zfMod_look_12.1
theorem dMod_look_15 : decode cMod_look 15 = .ok (.ifCond .eq 5, 3) := zfMod_look_12.2.1
theorem dMod_look_18 : decode cMod_look 18 = .ok (.iconst 0, 1) := zfMod_look_12.2.2.1
theorem dMod_look_19 : decode cMod_look 19 = .ok (.ireturn, 1) := zfMod_look_12.2.2.2.1
theorem dMod_look_20 : decode cMod_look 20 = .ok (.aload_n 0, 1) := zfMod_look_12.2.2.2.2.1
theorem dMod_look_21 : decode cMod_look 21 = .ok (.getfield 11, 3) := zfMod_look_12.2.2.2.2.2.1
theorem dMod_look_24 : decode cMod_look 24 = .ok (.iload_n 1, 1) := zfMod_look_12.2.2.2.2.2.2.1
theorem dMod_look_25 : decode cMod_look 25 = .ok (.aaload, 1) := zfMod_look_12.2.2.2.2.2.2.2.1
theorem dMod_look_26 : decode cMod_look 26 = .ok (.astore_n 3, 1) := zfMod_look_12.2.2.2.2.2.2.2.2.1
theorem dMod_look_27 : decode cMod_look 27 = .ok (.aload_n 3, 1) := zfMod_look_12.2.2.2.2.2.2.2.2.2.1
theorem dMod_look_28 : decode cMod_look 28 = .ok (.arraylength, 1) := zfMod_look_12.2.2.2.2.2.2.2.2.2.2.1
theorem dMod_look_29 : decode cMod_look 29 = .ok (.ifCond .ne 29, 3) := zfMod_look_12.2.2.2.2.2.2.2.2.2.2.2.1
theorem dMod_look_32 : decode cMod_look 32 = .ok (.iload_n 2, 1) := zfMod_look_12.2.2.2.2.2.2.2.2.2.2.2.2.1
theorem dMod_look_33 : decode cMod_look 33 = .ok (.iconst 2, 1) := zfMod_look_12.2.2.2.2.2.2.2.2.2.2.2.2.2.1
theorem dMod_look_34 : decode cMod_look 34 = .ok (.if_icmp .eq 13, 3) := zfMod_look_12.2.2.2.2.2.2.2.2.2.2.2.2.2.2.1
theorem dMod_look_37 : decode cMod_look 37 = .ok (.iload_n 2, 1) := zfMod_look_12.2.2.2.2.2.2.2.2.2.2.2.2.2.2.2.1
theorem dMod_look_38 : decode cMod_look 38 = .ok (.iconst 3, 1) := zfMod_look_12.2.2.2.2.2.2.2.2.2.2.2.2.2.2.2.2.1
theorem dMod_look_39 : decode cMod_look 39 = .ok (.if_icmp .eq 8, 3) := zfMod_look_12.2.2.2.2.2.2.2.2.2.2.2.2.2.2.2.2.2.1
theorem dMod_look_42 : decode cMod_look 42 = .ok (.iload_n 2, 1) := zfMod_look_12.2.2.2.2.2.2.2.2.2.2.2.2.2.2.2.2.2.2.1
theorem dMod_look_43 : decode cMod_look 43 = .ok (.iconst 5, 1) := zfMod_look_12.2.2.2.2.2.2.2.2.2.2.2.2.2.2.2.2.2.2.2.1
theorem dMod_look_44 : decode cMod_look 44 = .ok (.if_icmp .ne 9, 3) := zfMod_look_12.2.2.2.2.2.2.2.2.2.2.2.2.2.2.2.2.2.2.2.2.1
theorem dMod_look_47 : decode cMod_look 47 = .ok (.sipush 10000, 3) := zfMod_look_12.2.2.2.2.2.2.2.2.2.2.2.2.2.2.2.2.2.2.2.2.2.1
theorem dMod_look_50 : decode cMod_look 50 = .ok (.goto 7, 3) := zfMod_look_12.2.2.2.2.2.2.2.2.2.2.2.2.2.2.2.2.2.2.2.2.2.2.1
theorem dMod_look_53 : decode cMod_look 53 = .ok (.aload_n 0, 1) := zfMod_look_12.2.2.2.2.2.2.2.2.2.2.2.2.2.2.2.2.2.2.2.2.2.2.2.1
theorem dMod_look_54 : decode cMod_look 54 = .ok (.invokevirtual 92, 3) := zfMod_look_12.2.2.2.2.2.2.2.2.2.2.2.2.2.2.2.2.2.2.2.2.2.2.2.2.1
theorem dMod_look_57 : decode cMod_look 57 = .ok (.ireturn, 1) := zfMod_look_12.2.2.2.2.2.2.2.2.2.2.2.2.2.2.2.2.2.2.2.2.2.2.2.2.2.1
theorem dMod_look_58 : decode cMod_look 58 = .ok (.aload_n 3, 1) := zfMod_look_12.2.2.2.2.2.2.2.2.2.2.2.2.2.2.2.2.2.2.2.2.2.2.2.2.2.2.1
theorem dMod_look_59 : decode cMod_look 59 = .ok (.iload_n 2, 1) := zfMod_look_12.2.2.2.2.2.2.2.2.2.2.2.2.2.2.2.2.2.2.2.2.2.2.2.2.2.2.2.1
theorem dMod_look_60 : decode cMod_look 60 = .ok (.invokestatic 99, 3) := zfMod_look_12.2.2.2.2.2.2.2.2.2.2.2.2.2.2.2.2.2.2.2.2.2.2.2.2.2.2.2.2.1
theorem dMod_look_63 : decode cMod_look 63 = .ok (.ifCond .eq 10, 3) := zfMod_look_12.2.2.2.2.2.2.2.2.2.2.2.2.2.2.2.2.2.2.2.2.2.2.2.2.2.2.2.2.2.1
theorem dMod_look_66 : decode cMod_look 66 = .ok (.aload_n 3, 1) := zfMod_look_12.2.2.2.2.2.2.2.2.2.2.2.2.2.2.2.2.2.2.2.2.2.2.2.2.2.2.2.2.2.2.1
theorem dMod_look_67 : decode cMod_look 67 = .ok (.arraylength, 1) := zfMod_look_12.2.2.2.2.2.2.2.2.2.2.2.2.2.2.2.2.2.2.2.2.2.2.2.2.2.2.2.2.2.2.2.1
theorem zfMod_look_68 : decode cMod_look 68 = .ok (.iconst 1, 1) ∧ decode cMod_look 69 = .ok (.isub, 1) ∧ decode cMod_look 70 = .ok (.goto 4, 3) ∧ decode cMod_look 73 = .ok (.iconst 0, 1) ∧ decode cMod_look 74 = .ok (.iaload, 1) ∧ decode cMod_look 75 = .ok (.ireturn, 1) ∧ True := Jvm.Free.DS.facts (code := cMod_look) 68 [(.iconst 1, 1), (.isub, 1), (.goto 4, 3), (.iconst 0, 1), (.iaload, 1), (.ireturn, 1)] (by decide +kernel) (by decide +kernel)
theorem dMod_look_68 : decode cMod_look 68 = .ok (.iconst 1, 1) := zfMod_look_68.1
theorem dMod_look_69 : decode cMod_look 69 = .ok (.isub, 1) := zfMod_look_68.2.1
theorem dMod_look_70 : decode cMod_look 70 = .ok (.goto 4, 3) := zfMod_look_68.2.2.1
theorem dMod_look_73 : decode cMod_look 73 = .ok (.iconst 0, 1) := zfMod_look_68.2.2.2.1
theorem dMod_look_74 : decode cMod_look 74 = .ok (.iaload, 1) := zfMod_look_68.2.2.2.2.1
theorem dMod_look_75 : decode cMod_look 75 = .ok (.ireturn, 1) := zfMod_look_68.2.2.2.2.2.1
theorem zfMod_get_0 : decode cMod_get 0 = .ok (.aload_n 0, 1) ∧ decode cMod_get 1 = .ok (.iload_n 1, 1) ∧ decode cMod_get 2 = .ok (.invokestatic 81, 3) ∧ decode cMod_get 5 = .ok (.ifCond .ne 12, 3) ∧ decode cMod_get 8 = .ok (.aload_n 0, 1) ∧ decode cMod_get 9 = .ok (.iload_n 1, 1) ∧ decode cMod_get 10 = .ok (.iload_n 2, 1) ∧ decode cMod_get 11 = .ok (.invokevirtual 106, 3) ∧ decode cMod_get 14 = .ok (.ifCond .eq 7, 3) ∧ decode cMod_get 17 = .ok (.iconst 1, 1) ∧ decode cMod_get 18 = .ok (.goto 4, 3) ∧ decode cMod_get 21 = .ok (.iconst 0, 1) ∧ decode cMod_get 22 = .ok (.iconst 0, 1) ∧ decode cMod_get 23 = .ok (.iconst 0, 1) ∧ decode cMod_get 24 = .ok (.invokevirtual 88, 3) ∧ decode cMod_get 27 = .ok (.ifCond .eq 7, 3) ∧ decode cMod_get 30 = .ok (.iconst 0, 1) ∧ decode cMod_get 31 = .ok (.goto 11, 3) ∧ decode cMod_get 34 = .ok (.aload_n 0, 1) ∧ decode cMod_get 35 = .ok (.getfield 11, 3) ∧ decode cMod_get 38 = .ok (.iload_n 1, 1) ∧ decode cMod_get 39 = .ok (.aaload, 1) ∧ decode cMod_get 40 = .ok (.iload_n 2, 1) ∧ decode cMod_get 41 = .ok (.iaload, 1) ∧ decode cMod_get 42 = .ok (.ireturn, 1) ∧ True := Jvm.Free.DS.facts (code := cMod_get) 0 [(.aload_n 0, 1), (.iload_n 1, 1), (.invokestatic 81, 3), (.ifCond .ne 12, 3), (.aload_n 0, 1), (.iload_n 1, 1), (.iload_n 2, 1), (.invokevirtual 106, 3), (.ifCond .eq 7, 3), (.iconst 1, 1), (.goto 4, 3), (.iconst 0, 1), (.iconst 0, 1), (.iconst 0, 1), (.invokevirtual 88, 3), (.ifCond .eq 7, 3), (.iconst 0, 1), (.goto 11, 3), (.aload_n 0, 1), (.getfield 11, 3), (.iload_n 1, 1), (.aaload, 1), (.iload_n 2, 1), (.iaload, 1), (.ireturn, 1)] (by decide +kernel) (by decide +kernel)
theorem dMod_get_0 : decode cMod_get 0 = .ok (.aload_n 0, 1) := zfMod_get_0.1
theorem dMod_get_1 : decode cMod_get 1 = .ok (.iload_n 1, 1) := zfMod_get_0.2.1
theorem dMod_get_2 : decode cMod_get 2 = .ok (.invokestatic 81, 3) := zfMod_get_0.2.2.1
theorem dMod_get_5 : decode cMod_get 5 = .ok (.ifCond .ne 12, 3) := zfMod_get_0.2.2.2.1
theorem dMod_get_8 : decode cMod_get 8 = .ok (.aload_n 0, 1) := zfMod_get_0.2.2.2.2.1
theorem dMod_get_9 : decode cMod_get 9 = .ok (.iload_n 1, 1) := zfMod_get_0.2.2.2.2.2.1
theorem dMod_get_10 : decode cMod_get 10 = .ok (.iload_n 2, 1) := zfMod_get_0.2.2.2.2.2.2.1
theorem dMod_get_11 : decode cMod_get 11 = .ok (.invokevirtual 106, 3) := zfMod_get_0.2.2.2.2.2.2.2.1
theorem dMod_get_14 : decode cMod_get 14 = .ok (.ifCond .eq 7, 3) := zfMod_get_0.2.2.2.2.2.2.2.2.1
theorem dMod_get_17 : decode cMod_get 17 = .ok (.iconst 1, 1) := zfMod_get_0.2.2.2.2.2.2.2.2.2.1
theorem dMod_get_18 : decode cMod_get 18 = .ok (.goto 4, 3) := zfMod_get_0.2.2.2.2.2.2.2.2.2.2.1
theorem dMod_get_21 : decode cMod_get 21 = .ok (.iconst 0, 1) := zfMod_get_0.2.2.2.2.2.2.2.2.2.2.2.1
theorem dMod_get_22 : decode cMod_get 22 = .ok (.iconst 0, 1) := zfMod_get_0.2.2.2.2.2.2.2.2.2.2.2.2.1
theorem dMod_get_23 : decode cMod_get 23 = .ok (.iconst 0, 1) := zfMod_get_0.2.2.2.2.2.2.2.2.2.2.2.2.2.1
theorem dMod_get_24 : decode cMod_get 24 = .ok (.invokevirtual 88, 3) := zfMod_get_0.2.2.2.2.2.2.2.2.2.2.2.2.2.2.1
theorem dMod_get_27 : decode cMod_get 27 = .ok (.ifCond .eq 7, 3) := zfMod_get_0.2.2.2.2.2.2.2.2.2.2.2.2.2.2.2.1
theorem dMod_get_30 : decode cMod_get 30 = .ok (.iconst 0, 1) := zfMod_get_0.2.2.2.2.2.2.2.2.2.2.2.2.2.2.2.2.1
theorem dMod_get_31 : decode cMod_get 31 = .ok (.goto 11, 3) := zfMod_get_0.2.2.2.2.2.2.2.2.2.2.2.2.2.2.2.2.2.1
theorem dMod_get_34 : decode cMod_get 34 = .ok (.aload_n 0, 1) := zfMod_get_0.2.2.2.2.2.2.2.2.2.2.2.2.2.2.2.2.2.2.1
theorem dMod_get_35 : decode cMod_get 35 = .ok (.getfield 11, 3) := zfMod_get_0.2.2.2.2.2.2.2.2.2.2.2.2.2.2.2.2.2.2.2.1
theorem dMod_get_38 : decode cMod_get 38 = .ok (.iload_n 1, 1) := zfMod_get_0.2.2.2.2.2.2.2.2.2.2.2.2.2.2.2.2.2.2.2.2.1
theorem dMod_get_39 : decode cMod_get 39 = .ok (.aaload, 1) := zfMod_get_0.2.2.2.2.2.2.2.2.2.2.2.2.2.2.2.2.2.2.2.2.2.1
theorem dMod_get_40 : decode cMod_get 40 = .ok (.iload_n 2, 1) := zfMod_get_0.2.2.2.2.2.2.2.2.2.2.2.2.2.2.2.2.2.2.2.2.2.2.1
theorem dMod_get_41 : decode cMod_get 41 = .ok (.iaload, 1) := zfMod_get_0.2.2.2.2.2.2.2.2.2.2.2.2.2.2.2.2.2.2.2.2.2.2.2.1
theorem dMod_get_42 : decode cMod_get 42 = .ok (.ireturn, 1) := zfMod_get_0.2.2.2.2.2.2.2.2.2.2.2.2.2.2.2.2.2.2.2.2.2.2.2.2.1
theorem zfMod_set_0 : decode cMod_set 0 = .ok (.aload_n 0, 1) ∧ decode cMod_set 1 = .ok (.iload_n 1, 1) ∧ decode cMod_set 2 = .ok (.invokestatic 81, 3) ∧ decode cMod_set 5 = .ok (.ifCond .ne 12, 3) ∧ decode cMod_set 8 = .ok (.aload_n 0, 1) ∧ decode cMod_set 9 = .ok (.iload_n 1, 1) ∧ decode cMod_set 10 = .ok (.iload_n 2, 1) ∧ decode cMod_set 11 = .ok (.invokevirtual 106, 3) ∧ decode cMod_set 14 = .ok (.ifCond .eq 7, 3) ∧ decode cMod_set 17 = .ok (.iconst 1, 1) ∧ decode cMod_set 18 = .ok (.goto 4, 3) ∧ decode cMod_set 21 = .ok (.iconst 0, 1) ∧ decode cMod_set 22 = .ok (.iload_n 3, 1) ∧ decode cMod_set 23 = .ok (.invokestatic 85, 3) ∧ decode cMod_set 26 = .ok (.iconst 0, 1) ∧ decode cMod_set 27 = .ok (.invokevirtual 88, 3) ∧ decode cMod_set 30 = .ok (.ifCond .eq 5, 3) ∧ decode cMod_set 33 = .ok (.iconst 0, 1) ∧ decode cMod_set 34 = .ok (.ireturn, 1) ∧ decode cMod_set 35 = .ok (.aload_n 0, 1) ∧ decode cMod_set 36 = .ok (.getfield 11, 3) ∧ decode cMod_set 39 = .ok (.iload_n 1, 1) ∧ decode cMod_set 40 = .ok (.aaload, 1) ∧ decode cMod_set 41 = .ok (.iload_n 2, 1) ∧ decode cMod_set 42 = .ok (.iaload, 1) ∧ decode cMod_set 43 = .ok (.istore 4, 2) ∧ decode cMod_set 45 = .ok (.aload_n 0, 1) ∧ decode cMod_set 46 = .ok (.getfield 11, 3) ∧ decode cMod_set 49 = .ok (.iload_n 1, 1) ∧ decode cMod_set 50 = .ok (.aaload, 1) ∧ decode cMod_set 51 = .ok (.iload_n 2, 1) ∧ decode cMod_set 52 = .ok (.iload_n 3, 1) ∧ True := Jvm.Free.DS.facts (code := cMod_set) 0 [(.aload_n 0, 1), (.iload_n 1, 1), (.invokestatic 81, 3), (.ifCond .ne 12, 3), (.aload_n 0, 1), (.iload_n 1, 1), (.iload_n 2, 1), (.invokevirtual 106, 3), (.ifCond .eq 7, 3), (.iconst 1, 1), (.goto 4, 3), (.iconst 0, 1), (.iload_n 3, 1), (.invokestatic 85, 3), (.iconst 0, 1), (.invokevirtual 88, 3), (.ifCond .eq 5, 3), (.iconst 0, 1), (.ireturn, 1), (.aload_n 0, 1), (.getfield 11, 3), (.iload_n 1, 1), (.aaload, 1), (.iload_n 2, 1), (.iaload, 1), (.istore 4, 2), (.aload_n 0, 1), (.getfield 11, 3), (.iload_n 1, 1), (.aaload, 1), (.iload_n 2, 1), (.iload_n 3, 1)] (by decide +kernel) (by decide +kernel)
theorem dMod_set_0 : decode cMod_set 0 = .ok (.aload_n 0, 1) := zfMod_set_0.1
theorem dMod_set_1 : decode cMod_set 1 = .ok (.iload_n 1, 1) := zfMod_set_0.2.1
theorem dMod_set_2 : decode cMod_set 2 = .ok (.invokestatic 81, 3) := zfMod_set_0.2.2.1
theorem dMod_set_5 : decode cMod_set 5 = .ok (.ifCond .ne 12, 3) := zfMod_set_0.2.2.2.1
theorem dMod_set_8 : decode cMod_set 8 = .ok (.aload_n 0, 1) := zfMod_set_0.2.2.2.2.1
theorem dMod_set_9 : decode cMod_set 9 = .ok (.iload_n 1, 1) := zfMod_set_0.2.2.2.2.2.1
theorem dMod_set_10 : decode cMod_set 10 = .ok (.iload_n 2, 1) := zfMod_set_0.2.2.2.2.2.2.1
theorem dMod_set_11 : decode cMod_set 11 = .ok (.invokevirtual 106, 3) := zfMod_set_0.2.2.2.2.2.2.2.1
theorem dMod_set_14 : decode cMod_set 14 = .ok (.ifCond .eq 7, 3) := zfMod_set_0.2.2.2.2.2.2.2.2.1
theorem dMod_set_17 : decode cMod_set 17 = .ok (.iconst 1, 1) := zfMod_set_0.2.2.2.2.2.2.2.2.2.1
theorem dMod_set_18 : decode cMod_set 18 = .ok (.goto 4, 3) := zfMod_set_0.2.2.2.2.2.2.2.2.2.2.1
theorem dMod_set_21 : decode cMod_set 21 = .ok (.iconst 0, 1) := zfMod_set_0.2.2.2.2.2.2.2.2.2.2.2.1
theorem dMod_set_22 : decode cMod_set 22 = .ok (.iload_n 3, 1) := zfMod_set_0.2.2.2.2.2.2.2.2.2.2.2.2.1
theorem dMod_set_23 : decode cMod_set 23 = .ok (.invokestatic 85, 3) := zfMod_set_0.2.2.2.2.2.2.2.2.2.2.2.2.2.1
theorem dMod_set_26 : decode cMod_set 26 = .ok (.iconst 0, 1) := zfMod_set_0.2.2.2.2.2.2.2.2.2.2.2.2.2.2.1
theorem dMod_set_27 : decode cMod_set 27 = .ok (.invokevirtual 88, 3) := zfMod_set_0.2.2.2.2.2.2.2.2.2.2.2.2.2.2.2.1
theorem dMod_set_30 : decode cMod_set 30 = .ok (.ifCond .eq 5, 3) := zfMod_set_0.2.2.2.2.2.2.2.2.2.2.2.2.2.2.2.2.1
theorem dMod_set_33 : decode cMod_set 33 = .ok (.iconst 0, 1) := zfMod_set_0.2.2.2.2.2.2.2.2.2.2.2.2.2.2.2.2.2.1
theorem dMod_set_34 : decode cMod_set 34 = .ok (.ireturn, 1) := zfMod_set_0.2.2.2.2.2.2.2.2.2.2.2.2.2.2.2.2.2.2.1
theorem dMod_set_35 : decode cMod_set 35 = .ok (.aload_n 0, 1) := zfMod_set_0.2.2.2.2.2.2.2.2.2.2.2.2.2.2.2.2.2.2.2.1
theorem dMod_set_36 : decode cMod_set 36 = .ok (.getfield 11, 3) := zfMod_set_0.2.2.2.2.2.2.2.2.2.2.2.2.2.2.2.2.2.2.2.2.1
theorem dMod_set_39 : decode cMod_set 39 = .ok (.iload_n 1, 1) := zfMod_set_0.2.2.2.2.2.2.2.2.2.2.2.2.2.2.2.2.2.2.2.2.2.1
theorem dMod_set_40 : decode cMod_set 40 = .ok (.aaload, 1) := zfMod_set_0.2.2.2.2.2.2.2.2.2.2.2.2.2.2.2.2.2.2.2.2.2.2.1
theorem dMod_set_41 : decode cMod_set 41 = .ok (.iload_n 2, 1) := zfMod_set_0.2.2.2.2.2.2.2.2.2.2.2.2.2.2.2.2.2.2.2.2.2.2.2.1
theorem dMod_set_42 : decode cMod_set 42 = .ok (.iaload, 1) := zfMod_set_0.2.2.2.2.2.2.2.2.2.2.2.2.2.2.2.2.2.2.2.2.2.2.2.2.1
theorem dMod_set_43 : decode cMod_set 43 = .ok (.istore 4, 2) := zfMod_set_0.2.2.2.2.2.2.2.2.2.2.2.2.2.2.2.2.2.2.2.2.2.2.2.2.2.1
theorem dMod_set_45 : decode cMod_set 45 = .ok (.aload_n 0, 1) := zfMod_set_0.2.2.2.2.2.2.2.2.2.2.2.2.2.2.2.2.2.2.2.2.2.2.2.2.2.2.1
theorem dMod_set_46 : decode cMod_set 46 = .ok (.getfield 11, 3) := zfMod_set_0.2.2.2.2.2.2.2.2.2.2.2.2.2.2.2.2.2.2.2.2.2.2.2.2.2.2.2.1
theorem dMod_set_49 : decode cMod_set 49 = .ok (.iload_n 1, 1) := zfMod_set_0.2.2.2.2.2.2.2.2.2.2.2.2.2.2.2.2.2.2.2.2.2.2.2.2.2.2.2.2.1
theorem dMod_set_50 : decode cMod_set 50 = .ok (.aaload, 1) := zfMod_set_0.2.2.2.2.2.2.2.2.2.2.2.2.2.2.2.2.2.2.2.2.2.2.2.2.2.2.2.2.2.1
theorem dMod_set_51 : decode cMod_set 51 = .ok (.iload_n 2, 1) := zfMod_set_0.2.2.2.2.2.2.2.2.2.2.2.2.2.2.2.2.2.2.2.2.2.2.2.2.2.2.2.2.2.2.1
theorem dMod_set_52 : decode cMod_set 52 = .ok (.iload_n 3, 1) := zfMod_set_0.2.2.2.2.2.2.2.2.2.2.2.2.2.2.2.2.2.2.2.2.2.2.2.2.2.2.2.2.2.2.2.1
theorem zfMod_set_53 : decode cMod_set 53 = .ok (.iastore, 1) ∧ decode cMod_set 54 = .ok (.iload 4, 2) ∧ decode cMod_set 56 = .ok (.ireturn, 1) ∧ True := Jvm.Free.DS.facts (code := cMod_set) 53 [(.iastore, 1), (.iload 4, 2), (.ireturn, 1)] (by decide +kernel) (by decide +kernel)
theorem dMod_set_53 : decode cMod_set 53 = .ok (.iastore, 1) := zfMod_set_53.1
theorem dMod_set_54 : decode cMod_set 54 = .ok (.iload 4, 2) := zfMod_set_53.2.1
theorem dMod_set_56 : decode cMod_set 56 = .ok (.ireturn, 1) := zfMod_set_53.2.2.1
theorem zfMod_insert_0 : decode cMod_insert 0 = .ok (.aload_n 0, 1) ∧ decode cMod_insert 1 = .ok (.iload_n 1, 1) ∧ decode cMod_insert 2 = .ok (.invokestatic 81, 3) ∧ decode cMod_insert 5 = .ok (.ifCond .ne 18, 3) ∧ decode cMod_insert 8 = .ok (.iload_n 2, 1) ∧ decode cMod_insert 9 = .ok (.iconst 0, 1) ∧ decode cMod_insert 10 = .ok (.aload_n 0, 1) ∧ decode cMod_insert 11 = .ok (.getfield 11, 3) ∧ decode cMod_insert 14 = .ok (.iload_n 1, 1) ∧ decode cMod_insert 15 = .ok (.aaload, 1) ∧ decode cMod_insert 16 = .ok (.arraylength, 1) ∧ decode cMod_insert 17 = .ok (.invokestatic 41, 3) ∧ decode cMod_insert 20 = .ok (.ifCond .eq 7, 3) ∧ decode cMod_insert 23 = .ok (.iconst 1, 1) ∧ decode cMod_insert 24 = .ok (.goto 4, 3) ∧ decode cMod_insert 27 = .ok (.iconst 0, 1) ∧ decode cMod_insert 28 = .ok (.iload_n 3, 1) ∧ decode cMod_insert 29 = .ok (.invokestatic 85, 3) ∧ decode cMod_insert 32 = .ok (.iconst 0, 1) ∧ decode cMod_insert 33 = .ok (.invokevirtual 88, 3) ∧ decode cMod_insert 36 = .ok (.ifCond .eq 5, 3) ∧ decode cMod_insert 39 = .ok (.iconst 0, 1) ∧ decode cMod_insert 40 = .ok (.ireturn, 1) ∧ decode cMod_insert 41 = .ok (.aload_n 0, 1) ∧ decode cMod_insert 42 = .ok (.getfield 11, 3) ∧ decode cMod_insert 45 = .ok (.iload_n 1, 1) ∧ decode cMod_insert 46 = .ok (.aaload, 1) ∧ decode cMod_insert 47 = .ok (.arraylength, 1) ∧ decode cMod_insert 48 = .ok (.bipush 16, 2) ∧ decode cMod_insert 50 = .ok (.if_icmp .ne 10, 3) ∧ decode cMod_insert 53 = .ok (.aload_n 0, 1) ∧ decode cMod_insert 54 = .ok (.invokevirtual 92, 3) ∧ True := Jvm.Free.DS.facts (code := cMod_insert) 0 [(.aload_n 0, 1), (.iload_n 1, 1), (.invokestatic 81, 3), (.ifCond .ne 18, 3), (.iload_n 2, 1), (.iconst 0, 1), (.aload_n 0, 1), (.getfield 11, 3), (.iload_n 1, 1), (.aaload, 1), (.arraylength, 1), (.invokestatic 41, 3), (.ifCond .eq 7, 3), (.iconst 1, 1), (.goto 4, 3), (.iconst 0, 1), (.iload_n 3, 1), (.invokestatic 85, 3), (.iconst 0, 1), (.invokevirtual 88, 3), (.ifCond .eq 5, 3), (.iconst 0, 1), (.ireturn, 1), (.aload_n 0, 1), (.getfield 11, 3), (.iload_n 1, 1), (.aaload, 1), (.arraylength, 1), (.bipush 16, 2), (.if_icmp .ne 10, 3), (.aload_n 0, 1), (.invokevirtual 92, 3)] (by decide +kernel) (by decide +kernel)
theorem dMod_insert_0 : decode cMod_insert 0 = .ok (.aload_n 0, 1) := zfMod_insert_0.1
theorem dMod_insert_1 : decode cMod_insert 1 = .ok (.iload_n 1, 1) := zfMod_insert_0.2.1
theorem dMod_insert_2 : decode cMod_insert 2 = .ok (.invokestatic 81, 3) := zfMod_insert_0.2.2.1
theorem dMod_insert_5 : decode cMod_insert 5 = .ok (.ifCond .ne 18, 3) := zfMod_insert_0.2.2.2.1
theorem dMod_insert_8 : decode cMod_insert 8 = .ok (.iload_n 2, 1) := zfMod_insert_0.2.2.2.2.1
theorem dMod_insert_9 : decode cMod_insert 9 = .ok (.iconst 0, 1) := zfMod_insert_0.2.2.2.2.2.1
theorem dMod_insert_10 : decode cMod_insert 10 = .ok (.aload_n 0, 1) := zfMod_insert_0.2.2.2.2.2.2.1
theorem dMod_insert_11 : decode cMod_insert 11 = .ok (.getfield 11, 3) := zfMod_insert_0.2.2.2.2.2.2.2.1
theorem dMod_insert_14 : decode cMod_insert 14 = .ok (.iload_n 1, 1) := zfMod_insert_0.2.2.2.2.2.2.2.2.1
theorem dMod_insert_15 : decode cMod_insert 15 = .ok (.aaload, 1) := zfMod_insert_0.2.2.2.2.2.2.2.2.2.1
theorem dMod_insert_16 : decode cMod_insert 16 = .ok (.arraylength, 1) := zfMod_insert_0.2.2.2.2.2.2.2.2.2.2.1
theorem dMod_insert_17 : decode cMod_insert 17 = .ok (.invokestatic 41, 3) := zfMod_insert_0.2.2.2.2.2.2.2.2.2.2.2.1
theorem dMod_insert_20 : decode cMod_insert 20 = .ok (.ifCond .eq 7, 3) := zfMod_insert_0.2.2.2.2.2.2.2.2.2.2.2.2.1
theorem dMod_insert_23 : decode cMod_insert 23 = .ok (.iconst 1, 1) := zfMod_insert_0.2.2.2.2.2.2.2.2.2.2.2.2.2.1
theorem dMod_insert_24 : decode cMod_insert 24 = .ok (.goto 4, 3) := zfMod_insert_0.2.2.2.2.2.2.2.2.2.2.2.2.2.2.1
theorem dMod_insert_27 : decode cMod_insert 27 = .ok (.iconst 0, 1) := zfMod_insert_0.2.2.2.2.2.2.2.2.2.2.2.2.2.2.2.1
theorem dMod_insert_28 : decode cMod_insert 28 = .ok (.iload_n 3, 1) := zfMod_insert_0.2.2.2.2.2.2.2.2.2.2.2.2.2.2.2.2.1
theorem dMod_insert_29 : decode cMod_insert 29 = .ok (.invokestatic 85, 3) := zfMod_insert_0.2.2.2.2.2.2.2.2.2.2.2.2.2.2.2.2.2.1
theorem dMod_insert_32 : decode cMod_insert 32 = .ok (.iconst 0, 1) := zfMod_insert_0.2.2.2.2.2.2.2.2.2.2.2.2.2.2.2.2.2.2.1
theorem dMod_insert_33 : decode cMod_insert 33 = .ok (.invokevirtual 88, 3) := zfMod_insert_0.2.2.2.2.2.2.2.2.2.2.2.2.2.2.2.2.2.2.2.1
theorem dMod_insert_36 : decode cMod_insert 36 = .ok (.ifCond .eq 5, 3) := zfMod_insert_0.2.2.2.2.2.2.2.2.2.2.2.2.2.2.2.2.2.2.2.2.1
theorem dMod_insert_39 : decode cMod_insert 39 = .ok (.iconst 0, 1) := zfMod_insert_0.2.2.2.2.2.2.2.2.2.2.2.2.2.2.2.2.2.2.2.2.2.1
theorem dMod_insert_40 : decode cMod_insert 40 = .ok (.ireturn, 1) := zfMod_insert_0.2.2.2.2.2.2.2.2.2.2.2.2.2.2.2.2.2.2.2.2.2.2.1
theorem dMod_insert_41 : decode cMod_insert 41 = .ok (.aload_n 0, 1) := zfMod_insert_0.2.2.2.2.2.2.2.2.2.2.2.2.2.2.2.2.2.2.2.2.2.2.2.1
theorem dMod_insert_42 : decode cMod_insert 42 = .ok (.getfield 11, 3) := zfMod_insert_0.2.2.2.2.2.2.2.2.2.2.2.2.2.2.2.2.2.2.2.2.2.2.2.2.1
theorem dMod_insert_45 : decode cMod_insert 45 = .ok (.iload_n 1, 1) := zfMod_insert_0.2.2.2.2.2.2.2.2.2.2.2.2.2.2.2.2.2.2.2.2.2.2.2.2.2.1
theorem dMod_insert_46 : decode cMod_insert 46 = .ok (.aaload, 1) := zfMod_insert_0.2.2.2.2.2.2.2.2.2.2.2.2.2.2.2.2.2.2.2.2.2.2.2.2.2.2.1
theorem dMod_insert_47 : decode cMod_insert 47 = .ok (.arraylength, 1) := zfMod_insert_0.2.2.2.2.2.2.2.2.2.2.2.2.2.2.2.2.2.2.2.2.2.2.2.2.2.2.2.1
theorem dMod_insert_48 : decode cMod_insert 48 = .ok (.bipush 16, 2) := zfMod_insert_0.2.2.2.2.2.2.2.2.2.2.2.2.2.2.2.2.2.2.2.2.2.2.2.2.2.2.2.2.1
theorem dMod_insert_50 : decode cMod_insert 50 = .ok (.if_icmp .ne 10, 3) := zfMod_insert_0.2.2.2.2.2.2.2.2.2.2.2.2.2.2.2.2.2.2.2.2.2.2.2.2.2.2.2.2.2.1
theorem dMod_insert_53 : decode cMod_insert 53 = .ok (.aload_n 0, 1) := zfMod_insert_0.2.2.2.2.2.2.2.2.2.2.2.2.2.2.2.2.2.2.2.2.2.2.2.2.2.2.2.2.2.2.1
theorem dMod_insert_54 : decode cMod_insert 54 = .ok (.invokevirtual 92, 3) := zfMod_insert_0.2.2.2.2.2.2.2.2.2.2.2.2.2.2.2.2.2.2.2.2.2.2.2.2.2.2.2.2.2.2.2.1
theorem zfMod_insert_57 : decode cMod_insert 57 = .ok (.goto 19, 3) ∧ decode cMod_insert 60 = .ok (.aload_n 0, 1) ∧ decode cMod_insert 61 = .ok (.iload_n 1, 1) ∧ decode cMod_insert 62 = .ok (.aload_n 0, 1) ∧ decode cMod_insert 63 = .ok (.getfield 11, 3) ∧ decode cMod_insert 66 = .ok (.iload_n 1, 1) ∧ decode cMod_insert 67 = .ok (.aaload, 1) ∧ decode cMod_insert 68 = .ok (.iload_n 2, 1) ∧ decode cMod_insert 69 = .ok (.iload_n 3, 1) ∧ decode cMod_insert 70 = .ok (.invokestatic 49, 3) ∧ decode cMod_insert 73 = .ok (.invokevirtual 95, 3) ∧ decode cMod_insert 76 = .ok (.ireturn, 1) ∧ True := Jvm.Free.DS.facts (code := cMod_insert) 57 [(.goto 19, 3), (.aload_n 0, 1), (.iload_n 1, 1), (.aload_n 0, 1), (.getfield 11, 3), (.iload_n 1, 1), (.aaload, 1), (.iload_n 2, 1), (.iload_n 3, 1), (.invokestatic 49, 3), (.invokevirtual 95, 3), (.ireturn, 1)] (by decide +kernel) (by decide +kernel)
theorem dMod_insert_57 : decode cMod_insert 57 = .ok (.goto 19, 3) := zfMod_insert_57.1
theorem dMod_insert_60 : decode cMod_insert 60 = .ok (.aload_n 0, 1) := zfMod_insert_57.2.1
theorem dMod_insert_61 : decode cMod_insert 61 = .ok (.iload_n 1, 1) := zfMod_insert_57.2.2.1
theorem dMod_insert_62 : decode cMod_insert 62 = .ok (.aload_n 0, 1) := zfMod_insert_57.2.2.2.1
theorem dMod_insert_63 : decode cMod_insert 63 = .ok (.getfield 11, 3) := zfMod_insert_57.2.2.2.2.1
theorem dMod_insert_66 : decode cMod_insert 66 = .ok (.iload_n 1, 1) := zfMod_insert_57.2.2.2.2.2.1
theorem dMod_insert_67 : decode cMod_insert 67 = .ok (.aaload, 1) := zfMod_insert_57.2.2.2.2.2.2.1
theorem dMod_insert_68 : decode cMod_insert 68 = .ok (.iload_n 2, 1) := zfMod_insert_57.2.2.2.2.2.2.2.1
theorem dMod_insert_69 : decode cMod_insert 69 = .ok (.iload_n 3, 1) := zfMod_insert_57.2.2.2.2.2.2.2.2.1
theorem dMod_insert_70 : decode cMod_insert 70 = .ok (.invokestatic 49, 3) := zfMod_insert_57.2.2.2.2.2.2.2.2.2.1
theorem dMod_insert_73 : decode cMod_insert 73 = .ok (.invokevirtual 95, 3) := zfMod_insert_57.2.2.2.2.2.2.2.2.2.2.1
theorem dMod_insert_76 : decode cMod_insert 76 = .ok (.ireturn, 1) := zfMod_insert_57.2.2.2.2.2.2.2.2.2.2.2.1
theorem zfMod_removeAt_0 : decode cMod_removeAt 0 = .ok (.aload_n 0, 1) ∧ decode cMod_removeAt 1 = .ok (.iload_n 1, 1) ∧ decode cMod_removeAt 2 = .ok (.invokestatic 81, 3) ∧ decode cMod_removeAt 5 = .ok (.ifCond .ne 12, 3) ∧ decode cMod_removeAt 8 = .ok (.aload_n 0, 1) ∧ decode cMod_removeAt 9 = .ok (.iload_n 1, 1) ∧ decode cMod_removeAt 10 = .ok (.iload_n 2, 1) ∧ decode cMod_removeAt 11 = .ok (.invokevirtual 106, 3) ∧ decode cMod_removeAt 14 = .ok (.ifCond .eq 7, 3) ∧ decode cMod_removeAt 17 = .ok (.iconst 1, 1) ∧ decode cMod_removeAt 18 = .ok (.goto 4, 3) ∧ decode cMod_removeAt 21 = .ok (.iconst 0, 1) ∧ decode cMod_removeAt 22 = .ok (.iconst 0, 1) ∧ decode cMod_removeAt 23 = .ok (.iconst 0, 1) ∧ decode cMod_removeAt 24 = .ok (.invokevirtual 88, 3) ∧ decode cMod_removeAt 27 = .ok (.ifCond .eq 5, 3) ∧ decode cMod_removeAt 30 = .ok (.iconst 0, 1) ∧ decode cMod_removeAt 31 = .ok (.ireturn, 1) ∧ decode cMod_removeAt 32 = .ok (.aload_n 0, 1) ∧ decode cMod_removeAt 33 = .ok (.getfield 11, 3) ∧ decode cMod_removeAt 36 = .ok (.iload_n 1, 1) ∧ decode cMod_removeAt 37 = .ok (.aaload, 1) ∧ decode cMod_removeAt 38 = .ok (.iload_n 2, 1) ∧ decode cMod_removeAt 39 = .ok (.iaload, 1) ∧ decode cMod_removeAt 40 = .ok (.istore_n 3, 1) ∧ decode cMod_removeAt 41 = .ok (.aload_n 0, 1) ∧ decode cMod_removeAt 42 = .ok (.iload_n 1, 1) ∧ decode cMod_removeAt 43 = .ok (.aload_n 0, 1) ∧ decode cMod_removeAt 44 = .ok (.getfield 11, 3) ∧ decode cMod_removeAt 47 = .ok (.iload_n 1, 1) ∧ decode cMod_removeAt 48 = .ok (.aaload, 1) ∧ decode cMod_removeAt 49 = .ok (.iload_n 2, 1) ∧ True := Jvm.Free.DS.facts (code := cMod_removeAt) 0 [(.aload_n 0, 1), (.iload_n 1, 1), (.invokestatic 81, 3), (.ifCond .ne 12, 3), (.aload_n 0, 1), (.iload_n 1, 1), (.iload_n 2, 1), (.invokevirtual 106, 3), (.ifCond .eq 7, 3), (.iconst 1, 1), (.goto 4, 3), (.iconst 0, 1), (.iconst 0, 1), (.iconst 0, 1), (.invokevirtual 88, 3), (.ifCond .eq 5, 3), (.iconst 0, 1), (.ireturn, 1), (.aload_n 0, 1), (.getfield 11, 3), (.iload_n 1, 1), (.aaload, 1), (.iload_n 2, 1), (.iaload, 1), (.istore_n 3, 1), (.aload_n 0, 1), (.iload_n 1, 1), (.aload_n 0, 1), (.getfield 11, 3), (.iload_n 1, 1), (.aaload, 1), (.iload_n 2, 1)] (by decide +kernel) (by decide +kernel)
theorem dMod_removeAt_0 : decode cMod_removeAt 0 = .ok (.aload_n 0, 1) := zfMod_removeAt_0.1
theorem dMod_removeAt_1 : decode cMod_removeAt 1 = .ok (.iload_n 1, 1) := zfMod_removeAt_0.2.1
theorem dMod_removeAt_2 : decode cMod_removeAt 2 = .ok (.invokestatic 81, 3) := zfMod_removeAt_0.2.2.1
theorem dMod_removeAt_5 : decode cMod_removeAt 5 = .ok (.ifCond .ne 12, 3) := zfMod_removeAt_0.2.2.2.1
theorem dMod_removeAt_8 : decode cMod_removeAt 8 = .ok (.aload_n 0, 1) := zfMod_removeAt_0.2.2.2.2.1
theorem dMod_removeAt_9 : decode cMod_removeAt 9 = .ok (.iload_n 1, 1) := zfMod_removeAt_0.2.2.2.2.2.1
theorem dMod_removeAt_10 : decode cMod_removeAt 10 = .ok (.iload_n 2, 1) := zfMod_removeAt_0.2.2.2.2.2.2.1
theorem dMod_removeAt_11 : decode cMod_removeAt 11 = .ok (.invokevirtual 106, 3) := zfMod_removeAt_0.2.2.2.2.2.2.2.1
theorem dMod_removeAt_14 : decode cMod_removeAt 14 = .ok (.ifCond .eq 7, 3) := zfMod_removeAt_0.2.2.2.2.2.2.2.2.1
theorem dMod_removeAt_17 : decode cMod_removeAt 17 = .ok (.iconst 1, 1) := zfMod_removeAt_0.2.2.2.2.2.2.2.2.2.1
theorem dMod_removeAt_18 : decode cMod_removeAt 18 = .ok (.goto 4, 3) := zfMod_removeAt_0.2.2.2.2.2.2.2.2.2.2.1
theorem dMod_removeAt_21 : decode cMod_removeAt 21 = .ok (.iconst 0, 1) := zfMod_removeAt_0.2.2.2.2.2.2.2.2.2.2.2.1
theorem dMod_removeAt_22 : decode cMod_removeAt 22 = .ok (.iconst 0, 1) := zfMod_removeAt_0.2.2.2.2.2.2.2.2.2.2.2.2.1
theorem dMod_removeAt_23 : decode cMod_removeAt 23 = .ok (.iconst 0, 1) := zfMod_removeAt_0.2.2.2.2.2.2.2.2.2.2.2.2.2.1
theorem dMod_removeAt_24 : decode cMod_removeAt 24 = .ok (.invokevirtual 88, 3) := zfMod_removeAt_0.2.2.2.2.2.2.2.2.2.2.2.2.2.2.1
theorem dMod_removeAt_27 : decode cMod_removeAt 27 = .ok (.ifCond .eq 5, 3) := zfMod_removeAt_0.2.2.2.2.2.2.2.2.2.2.2.2.2.2.2.1
theorem dMod_removeAt_30 : decode cMod_removeAt 30 = .ok (.iconst 0, 1) := zfMod_removeAt_0.2.2.2.2.2.2.2.2.2.2.2.2.2.2.2.2.1
theorem dMod_removeAt_31 : decode cMod_removeAt 31 = .ok (.ireturn, 1) := zfMod_removeAt_0.2.2.2.2.2.2.2.2.2.2.2.2.2.2.2.2.2.1
theorem dMod_removeAt_32 : decode cMod_removeAt 32 = .ok (.aload_n 0, 1) := zfMod_removeAt_0.2.2.2.2.2.2.2.2.2.2.2.2.2.2.2.2.2.2.1
theorem dMod_removeAt_33 : decode cMod_removeAt 33 = .ok (.getfield 11, 3) := zfMod_removeAt_0.2.2.2.2.2.2.2.2.2.2.2.2.2.2.2.2.2.2.2.1
theorem dMod_removeAt_36 : decode cMod_removeAt 36 = .ok (.iload_n 1, 1) := zfMod_removeAt_0.2.2.2.2.2.2.2.2.2.2.2.2.2.2.2.2.2.2.2.2.1
theorem dMod_removeAt_37 : decode cMod_removeAt 37 = .ok (.aaload, 1) := zfMod_removeAt_0.2.2.2.2.2.2.2.2.2.2.2.2.2.2.2.2.2.2.2.2.2.1
theorem dMod_removeAt_38 : decode cMod_removeAt 38 = .ok (.iload_n 2, 1) := zfMod_removeAt_0.2.2.2.2.2.2.2.2.2.2.2.2.2.2.2.2.2.2.2.2.2.2.1
theorem dMod_removeAt_39 : decode cMod_removeAt 39 = .ok (.iaload, 1) := zfMod_removeAt_0.2.2.2.2.2.2.2.2.2.2.2.2.2.2.2.2.2.2.2.2.2.2.2.1
theorem dMod_removeAt_40 : decode cMod_removeAt 40 = .ok (.istore_n 3, 1) := zfMod_removeAt_0.2.2.2.2.2.2.2.2.2.2.2.2.2.2.2.2.2.2.2.2.2.2.2.2.1
theorem dMod_removeAt_41 : decode cMod_removeAt 41 = .ok (.aload_n 0, 1) := zfMod_removeAt_0.2.2.2.2.2.2.2.2.2.2.2.2.2.2.2.2.2.2.2.2.2.2.2.2.2.1
theorem dMod_removeAt_42 : decode cMod_removeAt 42 = .ok (.iload_n 1, 1) := zfMod_removeAt_0.2.2.2.2.2.2.2.2.2.2.2.2.2.2.2.2.2.2.2.2.2.2.2.2.2.2.1
theorem dMod_removeAt_43 : decode cMod_removeAt 43 = .ok (.aload_n 0, 1) := zfMod_removeAt_0.2.2.2.2.2.2.2.2.2.2.2.2.2.2.2.2.2.2.2.2.2.2.2.2.2.2.2.1
theorem dMod_removeAt_44 : decode cMod_removeAt 44 = .ok (.getfield 11, 3) := zfMod_removeAt_0.2.2.2.2.2.2.2.2.2.2.2.2.2.2.2.2.2.2.2.2.2.2.2.2.2.2.2.2.1
theorem dMod_removeAt_47 : decode cMod_removeAt 47 = .ok (.iload_n 1, 1) := zfMod_removeAt_0.2.2.2.2.2.2.2.2.2.2.2.2.2.2.2.2.2.2.2.2.2.2.2.2.2.2.2.2.2.1
theorem dMod_removeAt_48 : decode cMod_removeAt 48 = .ok (.aaload, 1) := zfMod_removeAt_0.2.2.2.2.2.2.2.2.2.2.2.2.2.2.2.2.2.2.2.2.2.2.2.2.2.2.2.2.2.2.1
theorem dMod_removeAt_49 : decode cMod_removeAt 49 = .ok (.iload_n 2, 1) := zfMod_removeAt_0.2.2.2.2.2.2.2.2.2.2.2.2.2.2.2.2.2.2.2.2.2.2.2.2.2.2.2.2.2.2.2.1
theorem zfMod_removeAt_50 : decode cMod_removeAt 50 = .ok (.invokestatic 102, 3) ∧ decode cMod_removeAt 53 = .ok (.iconst (-1), 1) ∧ decode cMod_removeAt 54 = .ok (.invokevirtual 77, 3) ∧ decode cMod_removeAt 57 = .ok (.iload_n 3, 1) ∧ decode cMod_removeAt 58 = .ok (.ireturn, 1) ∧ True := Jvm.Free.DS.facts (code := cMod_removeAt) 50 [(.invokestatic 102, 3), (.iconst (-1), 1), (.invokevirtual 77, 3), (.iload_n 3, 1), (.ireturn, 1)] (by decide +kernel) (by decide +kernel)
theorem dMod_removeAt_50 : decode cMod_removeAt 50 = .ok (.invokestatic 102, 3) := zfMod_removeAt_50.1
theorem dMod_removeAt_53 : decode cMod_removeAt 53 = .ok (.iconst (-1), 1) := zfMod_removeAt_50.2.1
theorem dMod_removeAt_54 : decode cMod_removeAt 54 = .ok (.invokevirtual 77, 3) := zfMod_removeAt_50.2.2.1
theorem dMod_removeAt_57 : decode cMod_removeAt 57 = .ok (.iload_n 3, 1) := zfMod_removeAt_50.2.2.2.1
theorem dMod_removeAt_58 : decode cMod_removeAt 58 = .ok (.ireturn, 1) := zfMod_removeAt_50.2.2.2.2.1
theorem zfMod_drop_0 : decode cMod_drop 0 = .ok (.aload_n 0, 1) ∧ decode cMod_drop 1 = .ok (.iload_n 1, 1) ∧ decode cMod_drop 2 = .ok (.invokestatic 81, 3) ∧ decode cMod_drop 5 = .ok (.iconst 0, 1) ∧ decode cMod_drop 6 = .ok (.iconst 0, 1) ∧ decode cMod_drop 7 = .ok (.invokevirtual 88, 3) ∧ decode cMod_drop 10 = .ok (.ifCond .eq 5, 3) ∧ decode cMod_drop 13 = .ok (.iconst 0, 1) ∧ decode cMod_drop 14 = .ok (.ireturn, 1) ∧ decode cMod_drop 15 = .ok (.aload_n 0, 1) ∧ decode cMod_drop 16 = .ok (.getfield 11, 3) ∧ decode cMod_drop 19 = .ok (.iload_n 1, 1) ∧ decode cMod_drop 20 = .ok (.aaload, 1) ∧ decode cMod_drop 21 = .ok (.iload_n 2, 1) ∧ decode cMod_drop 22 = .ok (.iload_n 3, 1) ∧ decode cMod_drop 23 = .ok (.invokestatic 110, 3) ∧ decode cMod_drop 26 = .ok (.istore 4, 2) ∧ decode cMod_drop 28 = .ok (.aload_n 0, 1) ∧ decode cMod_drop 29 = .ok (.iload_n 1, 1) ∧ decode cMod_drop 30 = .ok (.iload 4, 2) ∧ decode cMod_drop 32 = .ok (.iconst (-1), 1) ∧ decode cMod_drop 33 = .ok (.if_icmp .ne 12, 3) ∧ decode cMod_drop 36 = .ok (.aload_n 0, 1) ∧ decode cMod_drop 37 = .ok (.getfield 11, 3) ∧ decode cMod_drop 40 = .ok (.iload_n 1, 1) ∧ decode cMod_drop 41 = .ok (.aaload, 1) ∧ decode cMod_drop 42 = .ok (.goto 14, 3) ∧ decode cMod_drop 45 = .ok (.aload_n 0, 1) ∧ decode cMod_drop 46 = .ok (.getfield 11, 3) ∧ decode cMod_drop 49 = .ok (.iload_n 1, 1) ∧ decode cMod_drop 50 = .ok (.aaload, 1) ∧ decode cMod_drop 51 = .ok (.iload 4, 2) ∧ True := Jvm.Free.DS.facts (code := cMod_drop) 0 [(.aload_n 0, 1), (.iload_n 1, 1), (.invokestatic 81, 3), (.iconst 0, 1), (.iconst 0, 1), (.invokevirtual 88, 3), (.ifCond .eq 5, 3), (.iconst 0, 1), (.ireturn, 1), (.aload_n 0, 1), (.getfield 11, 3), (.iload_n 1, 1), (.aaload, 1), (.iload_n 2, 1), (.iload_n 3, 1), (.invokestatic 110, 3), (.istore 4, 2), (.aload_n 0, 1), (.iload_n 1, 1), (.iload 4, 2), (.iconst (-1), 1), (.if_icmp .ne 12, 3), (.aload_n 0, 1), (.getfield 11, 3), (.iload_n 1, 1), (.aaload, 1), (.goto 14, 3), (.aload_n 0, 1), (.getfield 11, 3), (.iload_n 1, 1), (.aaload, 1), (.iload 4, 2)] (by decide +kernel) (by decide +kernel)
theorem dMod_drop_0 : decode cMod_drop 0 = .ok (.aload_n 0, 1) := zfMod_drop_0.1
theorem dMod_drop_1 : decode cMod_drop 1 = .ok (.iload_n 1, 1) := zfMod_drop_0.2.1
theorem dMod_drop_2 : decode cMod_drop 2 = .ok (.invokestatic 81, 3) := zfMod_drop_0.2.2.1
theorem dMod_drop_5 : decode cMod_drop 5 = .ok (.iconst 0, 1) := zfMod_drop_0.2.2.2.1
theorem dMod_drop_6 : decode cMod_drop 6 = .ok (.iconst 0, 1) := zfMod_drop_0.2.2.2.2.1
theorem dMod_drop_7 : decode cMod_drop 7 = .ok (.invokevirtual 88, 3) := zfMod_drop_0.2.2.2.2.2.1
theorem dMod_drop_10 : decode cMod_drop 10 = .ok (.ifCond .eq 5, 3) := zfMod_drop_0.2.2.2.2.2.2.1
theorem dMod_drop_13 : decode cMod_drop 13 = .ok (.iconst 0, 1) := zfMod_drop_0.2.2.2.2.2.2.2.1
theorem dMod_drop_14 : decode cMod_drop 14 = .ok (.ireturn, 1) := zfMod_drop_0.2.2.2.2.2.2.2.2.1
theorem dMod_drop_15 : decode cMod_drop 15 = .ok (.aload_n 0, 1) := zfMod_drop_0.2.2.2.2.2.2.2.2.2.1
theorem dMod_drop_16 : decode cMod_drop 16 = .ok (.getfield 11, 3) := zfMod_drop_0.2.2.2.2.2.2.2.2.2.2.1
theorem dMod_drop_19 : decode cMod_drop 19 = .ok (.iload_n 1, 1) := zfMod_drop_0.2.2.2.2.2.2.2.2.2.2.2.1
theorem dMod_drop_20 : decode cMod_drop 20 = .ok (.aaload, 1) := zfMod_drop_0.2.2.2.2.2.2.2.2.2.2.2.2.1
theorem dMod_drop_21 : decode cMod_drop 21 = .ok (.iload_n 2, 1) := zfMod_drop_0.2.2.2.2.2.2.2.2.2.2.2.2.2.1
theorem dMod_drop_22 : decode cMod_drop 22 = .ok (.iload_n 3, 1) := zfMod_drop_0.2.2.2.2.2.2.2.2.2.2.2.2.2.2.1
theorem dMod_drop_23 : decode cMod_drop 23 = .ok (.invokestatic 110, 3) := zfMod_drop_0.2.2.2.2.2.2.2.2.2.2.2.2.2.2.2.1
theorem dMod_drop_26 : decode cMod_drop 26 = .ok (.istore 4, 2) := zfMod_drop_0.2.2.2.2.2.2.2.2.2.2.2.2.2.2.2.2.1
theorem dMod_drop_28 : decode cMod_drop 28 = .ok (.aload_n 0, 1) := zfMod_drop_0.2.2.2.2.2.2.2.2.2.2.2.2.2.2.2.2.2.1
theorem dMod_drop_29 : decode cMod_drop 29 = .ok (.iload_n 1, 1) := zfMod_drop_0.2.2.2.2.2.2.2.2.2.2.2.2.2.2.2.2.2.2.1
theorem dMod_drop_30 : decode cMod_drop 30 = .ok (.iload 4, 2) := zfMod_drop_0.2.2.2.2.2.2.2.2.2.2.2.2.2.2.2.2.2.2.2.1
theorem dMod_drop_32 : decode cMod_drop 32 = .ok (.iconst (-1), 1) := zfMod_drop_0.2.2.2.2.2.2.2.2.2.2.2.2.2.2.2.2.2.2.2.2.1
theorem dMod_drop_33 : decode cMod_drop 33 = .ok (.if_icmp .ne 12, 3) := zfMod_drop_0.2.2.2.2.2.2.2.2.2.2.2.2.2.2.2.2.2.2.2.2.2.1
theorem dMod_drop_36 : decode cMod_drop 36 = .ok (.aload_n 0, 1) := zfMod_drop_0.2.2.2.2.2.2.2.2.2.2.2.2.2.2.2.2.2.2.2.2.2.2.1
theorem dMod_drop_37 : decode cMod_drop 37 = .ok (.getfield 11, 3) := zfMod_drop_0.2.2.2.2.2.2.2.2.2.2.2.2.2.2.2.2.2.2.2.2.2.2.2.1
theorem dMod_drop_40 : decode cMod_drop 40 = .ok (.iload_n 1, 1) := zfMod_drop_0.2.2.2.2.2.2.2.2.2.2.2.2.2.2.2.2.2.2.2.2.2.2.2.2.1
theorem dMod_drop_41 : decode cMod_drop 41 = .ok (.aaload, 1) := zfMod_drop_0.2.2.2.2.2.2.2.2.2.2.2.2.2.2.2.2.2.2.2.2.2.2.2.2.2.1
theorem dMod_drop_42 : decode cMod_drop 42 = .ok (.goto 14, 3) := zfMod_drop_0.2.2.2.2.2.2.2.2.2.2.2.2.2.2.2.2.2.2.2.2.2.2.2.2.2.2.1
theorem dMod_drop_45 : decode cMod_drop 45 = .ok (.aload_n 0, 1) := zfMod_drop_0.2.2.2.2.2.2.2.2.2.2.2.2.2.2.2.2.2.2.2.2.2.2.2.2.2.2.2.1
theorem dMod_drop_46 : decode cMod_drop 46 = .ok (.getfield 11, 3) := zfMod_drop_0.2.2.2.2.2.2.2.2.2.2.2.2.2.2.2.2.2.2.2.2.2.2.2.2.2.2.2.2.1
theorem dMod_drop_49 : decode cMod_drop 49 = .ok (.iload_n 1, 1) := zfMod_drop_0.2.2.2.2.2.2.2.2.2.2.2.2.2.2.2.2.2.2.2.2.2.2.2.2.2.2.2.2.2.1
theorem dMod_drop_50 : decode cMod_drop 50 = .ok (.aaload, 1) := zfMod_drop_0.2.2.2.2.2.2.2.2.2.2.2.2.2.2.2.2.2.2.2.2.2.2.2.2.2.2.2.2.2.2.1
theorem dMod_drop_51 : decode cMod_drop 51 = .ok (.iload 4, 2) := zfMod_drop_0.2.2.2.2.2.2.2.2.2.2.2.2.2.2.2.2.2.2.2.2.2.2.2.2.2.2.2.2.2.2.2.1
theorem zfMod_drop_53 : decode cMod_drop 53 = .ok (.invokestatic 102, 3) ∧ decode cMod_drop 56 = .ok (.iconst (-1), 1) ∧ decode cMod_drop 57 = .ok (.invokevirtual 77, 3) ∧ decode cMod_drop 60 = .ok (.iload 4, 2) ∧ decode cMod_drop 62 = .ok (.iconst (-1), 1) ∧ decode cMod_drop 63 = .ok (.if_icmp .eq 7, 3) ∧ decode cMod_drop 66 = .ok (.iconst 1, 1) ∧ decode cMod_drop 67 = .ok (.goto 4, 3) ∧ decode cMod_drop 70 = .ok (.iconst 0, 1) ∧ decode cMod_drop 71 = .ok (.ireturn, 1) ∧ True := Jvm.Free.DS.facts (code := cMod_drop) 53 [(.invokestatic 102, 3), (.iconst (-1), 1), (.invokevirtual 77, 3), (.iload 4, 2), (.iconst (-1), 1), (.if_icmp .eq 7, 3), (.iconst 1, 1), (.goto 4, 3), (.iconst 0, 1), (.ireturn, 1)] (by decide +kernel) (by decide +kernel)
theorem dMod_drop_53 : decode cMod_drop 53 = .ok (.invokestatic 102, 3) := zfMod_drop_53.1
theorem dMod_drop_56 : decode cMod_drop 56 = .ok (.iconst (-1), 1) := zfMod_drop_53.2.1
theorem dMod_drop_57 : decode cMod_drop 57 = .ok (.invokevirtual 77, 3) := zfMod_drop_53.2.2.1
theorem dMod_drop_60 : decode cMod_drop 60 = .ok (.iload 4, 2) := zfMod_drop_53.2.2.2.1
theorem dMod_drop_62 : decode cMod_drop 62 = .ok (.iconst (-1), 1) := zfMod_drop_53.2.2.2.2.1
theorem dMod_drop_63 : decode cMod_drop 63 = .ok (.if_icmp .eq 7, 3) := zfMod_drop_53.2.2.2.2.2.1
theorem dMod_drop_66 : decode cMod_drop 66 = .ok (.iconst 1, 1) := zfMod_drop_53.2.2.2.2.2.2.1
theorem dMod_drop_67 : decode cMod_drop 67 = .ok (.goto 4, 3) := zfMod_drop_53.2.2.2.2.2.2.2.1
theorem dMod_drop_70 : decode cMod_drop 70 = .ok (.iconst 0, 1) := zfMod_drop_53.2.2.2.2.2.2.2.2.1
theorem dMod_drop_71 : decode cMod_drop 71 = .ok (.ireturn, 1) := zfMod_drop_53.2.2.2.2.2.2.2.2.2.1
theorem zfMod_thin_0 : decode cMod_thin 0 = .ok (.aload_n 0, 1) ∧ decode cMod_thin 1 = .ok (.iload_n 1, 1) ∧ decode cMod_thin 2 = .ok (.invokestatic 81, 3) ∧ decode cMod_thin 5 = .ok (.iconst 0, 1) ∧ decode cMod_thin 6 = .ok (.iconst 0, 1) ∧ decode cMod_thin 7 = .ok (.invokevirtual 88, 3) ∧ decode cMod_thin 10 = .ok (.ifCond .eq 5, 3) ∧ decode cMod_thin 13 = .ok (.iconst 0, 1) ∧ decode cMod_thin 14 = .ok (.ireturn, 1) ∧ decode cMod_thin 15 = .ok (.aload_n 0, 1) ∧ decode cMod_thin 16 = .ok (.getfield 11, 3) ∧ decode cMod_thin 19 = .ok (.iload_n 1, 1) ∧ decode cMod_thin 20 = .ok (.aaload, 1) ∧ decode cMod_thin 21 = .ok (.arraylength, 1) ∧ decode cMod_thin 22 = .ok (.istore_n 3, 1) ∧ decode cMod_thin 23 = .ok (.aload_n 0, 1) ∧ decode cMod_thin 24 = .ok (.getfield 11, 3) ∧ decode cMod_thin 27 = .ok (.iload_n 1, 1) ∧ decode cMod_thin 28 = .ok (.aaload, 1) ∧ decode cMod_thin 29 = .ok (.astore 4, 2) ∧ decode cMod_thin 31 = .ok (.aload 4, 2) ∧ decode cMod_thin 33 = .ok (.iload_n 2, 1) ∧ decode cMod_thin 34 = .ok (.iconst 0, 1) ∧ decode cMod_thin 35 = .ok (.invokestatic 110, 3) ∧ decode cMod_thin 38 = .ok (.iconst (-1), 1) ∧ decode cMod_thin 39 = .ok (.if_icmp .eq 20, 3) ∧ decode cMod_thin 42 = .ok (.aload 4, 2) ∧ decode cMod_thin 44 = .ok (.aload 4, 2) ∧ decode cMod_thin 46 = .ok (.iload_n 2, 1) ∧ decode cMod_thin 47 = .ok (.iconst 0, 1) ∧ decode cMod_thin 48 = .ok (.invokestatic 110, 3) ∧ decode cMod_thin 51 = .ok (.invokestatic 102, 3) ∧ True := Jvm.Free.DS.facts (code := cMod_thin) 0 [(.aload_n 0, 1), (.iload_n 1, 1), (.invokestatic 81, 3), (.iconst 0, 1), (.iconst 0, 1), (.invokevirtual 88, 3), (.ifCond .eq 5, 3), (.iconst 0, 1), (.ireturn, 1), (.aload_n 0, 1), (.getfield 11, 3), (.iload_n 1, 1), (.aaload, 1), (.arraylength, 1), (.istore_n 3, 1), (.aload_n 0, 1), (.getfield 11, 3), (.iload_n 1, 1), (.aaload, 1), (.astore 4, 2), (.aload 4, 2), (.iload_n 2, 1), (.iconst 0, 1), (.invokestatic 110, 3), (.iconst (-1), 1), (.if_icmp .eq 20, 3), (.aload 4, 2), (.aload 4, 2), (.iload_n 2, 1), (.iconst 0, 1), (.invokestatic 110, 3), (.invokestatic 102, 3)] (by decide +kernel) (by decide +kernel)
theorem dMod_thin_0 : decode cMod_thin 0 = .ok (.aload_n 0, 1) := zfMod_thin_0.1
theorem dMod_thin_1 : decode cMod_thin 1 = .ok (.iload_n 1, 1) := zfMod_thin_0.2.1
theorem dMod_thin_2 : decode cMod_thin 2 = .ok (.invokestatic 81, 3) := zfMod_thin_0.2.2.1
theorem dMod_thin_5 : decode cMod_thin 5 = .ok (.iconst 0, 1) := zfMod_thin_0.2.2.2.1
theorem dMod_thin_6 : decode cMod_thin 6 = .ok (.iconst 0, 1) := zfMod_thin_0.2.2.2.2.1
theorem dMod_thin_7 : decode cMod_thin 7 = .ok (.invokevirtual 88, 3) := zfMod_thin_0.2.2.2.2.2.1
theorem dMod_thin_10 : decode cMod_thin 10 = .ok (.ifCond .eq 5, 3) := zfMod_thin_0.2.2.2.2.2.2.1
theorem dMod_thin_13 : decode cMod_thin 13 = .ok (.iconst 0, 1) := zfMod_thin_0.2.2.2.2.2.2.2.1
theorem dMod_thin_14 : decode cMod_thin 14 = .ok (.ireturn, 1) := zfMod_thin_0.2.2.2.2.2.2.2.2.1
theorem dMod_thin_15 : decode cMod_thin 15 = .ok (.aload_n 0, 1) := zfMod_thin_0.2.2.2.2.2.2.2.2.2.1
theorem dMod_thin_16 : decode cMod_thin 16 = .ok (.getfield 11, 3) := zfMod_thin_0.2.2.2.2.2.2.2.2.2.2.1
theorem dMod_thin_19 : decode cMod_thin 19 = .ok (.iload_n 1, 1) := zfMod_thin_0.2.2.2.2.2.2.2.2.2.2.2.1
theorem dMod_thin_20 : decode cMod_thin 20 = .ok (.aaload, 1) := zfMod_thin_0.2.2.2.2.2.2.2.2.2.2.2.2.1
theorem dMod_thin_21 : decode cMod_thin 21 = .ok (.arraylength, 1) := zfMod_thin_0.2.2.2.2.2.2.2.2.2.2.2.2.2.1
theorem dMod_thin_22 : decode cMod_thin 22 = .ok (.istore_n 3, 1) := zfMod_thin_0.2.2.2.2.2.2.2.2.2.2.2.2.2.2.1
theorem dMod_thin_23 : decode cMod_thin 23 = .ok (.aload_n 0, 1) := zfMod_thin_0.2.2.2.2.2.2.2.2.2.2.2.2.2.2.2.1
theorem dMod_thin_24 : decode cMod_thin 24 = .ok (.getfield 11, 3) := zfMod_thin_0.2.2.2.2.2.2.2.2.2.2.2.2.2.2.2.2.1
theorem dMod_thin_27 : decode cMod_thin 27 = .ok (.iload_n 1, 1) := zfMod_thin_0.2.2.2.2.2.2.2.2.2.2.2.2.2.2.2.2.2.1
theorem dMod_thin_28 : decode cMod_thin 28 = .ok (.aaload, 1) := zfMod_thin_0.2.2.2.2.2.2.2.2.2.2.2.2.2.2.2.2.2.2.1
theorem dMod_thin_29 : decode cMod_thin 29 = .ok (.astore 4, 2) := zfMod_thin_0.2.2.2.2.2.2.2.2.2.2.2.2.2.2.2.2.2.2.2.1
theorem dMod_thin_31 : decode cMod_thin 31 = .ok (.aload 4, 2) := zfMod_thin_0.2.2.2.2.2.2.2.2.2.2.2.2.2.2.2.2.2.2.2.2.1
theorem dMod_thin_33 : decode cMod_thin 33 = .ok (.iload_n 2, 1) := zfMod_thin_0.2.2.2.2.2.2.2.2.2.2.2.2.2.2.2.2.2.2.2.2.2.1
theorem dMod_thin_34 : decode cMod_thin 34 = .ok (.iconst 0, 1) := zfMod_thin_0.2.2.2.2.2.2.2.2.2.2.2.2.2.2.2.2.2.2.2.2.2.2.1
theorem dMod_thin_35 : decode cMod_thin 35 = .ok (.invokestatic 110, 3) := zfMod_thin_0.2.2.2.2.2.2.2.2.2.2.2.2.2.2.2.2.2.2.2.2.2.2.2.1
theorem dMod_thin_38 : decode cMod_thin 38 = .ok (.iconst (-1), 1) := zfMod_thin_0.2.2.2.2.2.2.2.2.2.2.2.2.2.2.2.2.2.2.2.2.2.2.2.2.1
theorem dMod_thin_39 : decode cMod_thin 39 = .ok (.if_icmp .eq 20, 3) := zfMod_thin_0.2.2.2.2.2.2.2.2.2.2.2.2.2.2.2.2.2.2.2.2.2.2.2.2.2.1
theorem dMod_thin_42 : decode cMod_thin 42 = .ok (.aload 4, 2) := zfMod_thin_0.2.2.2.2.2.2.2.2.2.2.2.2.2.2.2.2.2.2.2.2.2.2.2.2.2.2.1
theorem dMod_thin_44 : decode cMod_thin 44 = .ok (.aload 4, 2) := zfMod_thin_0.2.2.2.2.2.2.2.2.2.2.2.2.2.2.2.2.2.2.2.2.2.2.2.2.2.2.2.1
theorem dMod_thin_46 : decode cMod_thin 46 = .ok (.iload_n 2, 1) := zfMod_thin_0.2.2.2.2.2.2.2.2.2.2.2.2.2.2.2.2.2.2.2.2.2.2.2.2.2.2.2.2.1
theorem dMod_thin_47 : decode cMod_thin 47 = .ok (.iconst 0, 1) := zfMod_thin_0.2.2.2.2.2.2.2.2.2.2.2.2.2.2.2.2.2.2.2.2.2.2.2.2.2.2.2.2.2.1
theorem dMod_thin_48 : decode cMod_thin 48 = .ok (.invokestatic 110, 3) := zfMod_thin_0.2.2.2.2.2.2.2.2.2.2.2.2.2.2.2.2.2.2.2.2.2.2.2.2.2.2.2.2.2.2.1
theorem dMod_thin_51 : decode cMod_thin 51 = .ok (.invokestatic 102, 3) := zfMod_thin_0.2.2.2.2.2.2.2.2.2.2.2.2.2.2.2.2.2.2.2.2.2.2.2.2.2.2.2.2.2.2.2.1
theorem zfMod_thin_54 : decode cMod_thin 54 = .ok (.astore 4, 2) ∧ decode cMod_thin 56 = .ok (.goto (-25), 3) ∧ decode cMod_thin 59 = .ok (.iload_n 3, 1) ∧ decode cMod_thin 60 = .ok (.aload_n 0, 1) ∧ decode cMod_thin 61 = .ok (.iload_n 1, 1) ∧ decode cMod_thin 62 = .ok (.aload 4, 2) ∧ decode cMod_thin 64 = .ok (.invokevirtual 95, 3) ∧ decode cMod_thin 67 = .ok (.isub, 1) ∧ decode cMod_thin 68 = .ok (.ireturn, 1) ∧ True := Jvm.Free.DS.facts (code := cMod_thin) 54 [(.astore 4, 2), (.goto (-25), 3), (.iload_n 3, 1), (.aload_n 0, 1), (.iload_n 1, 1), (.aload 4, 2), (.invokevirtual 95, 3), (.isub, 1), (.ireturn, 1)] (by decide +kernel) (by decide +kernel)
theorem dMod_thin_54 : decode cMod_thin 54 = .ok (.astore 4, 2) := zfMod_thin_54.1
theorem dMod_thin_56 : decode cMod_thin 56 = .ok (.goto (-25), 3) := zfMod_thin_54.2.1
theorem dMod_thin_59 : decode cMod_thin 59 = .ok (.iload_n 3, 1) := zfMod_thin_54.2.2.1
theorem dMod_thin_60 : decode cMod_thin 60 = .ok (.aload_n 0, 1) := zfMod_thin_54.2.2.2.1
theorem dMod_thin_61 : decode cMod_thin 61 = .ok (.iload_n 1, 1) := zfMod_thin_54.2.2.2.2.1
theorem dMod_thin_62 : decode cMod_thin 62 = .ok (.aload 4, 2) := zfMod_thin_54.2.2.2.2.2.1
theorem dMod_thin_64 : decode cMod_thin 64 = .ok (.invokevirtual 95, 3) := zfMod_thin_54.2.2.2.2.2.2.1
theorem dMod_thin_67 : decode cMod_thin 67 = .ok (.isub, 1) := zfMod_thin_54.2.2.2.2.2.2.2.1
theorem dMod_thin_68 : decode cMod_thin 68 = .ok (.ireturn, 1) := zfMod_thin_54.2.2.2.2.2.2.2.2.1
theorem zfMod_indexOf_0 : decode cMod_indexOf 0 = .ok (.aload_n 0, 1) ∧ decode cMod_indexOf 1 = .ok (.iload_n 1, 1) ∧ decode cMod_indexOf 2 = .ok (.invokestatic 81, 3) ∧ decode cMod_indexOf 5 = .ok (.iconst 0, 1) ∧ decode cMod_indexOf 6 = .ok (.iconst 0, 1) ∧ decode cMod_indexOf 7 = .ok (.invokevirtual 88, 3) ∧ decode cMod_indexOf 10 = .ok (.ifCond .eq 7, 3) ∧ decode cMod_indexOf 13 = .ok (.iconst 0, 1) ∧ decode cMod_indexOf 14 = .ok (.goto 14, 3) ∧ decode cMod_indexOf 17 = .ok (.aload_n 0, 1) ∧ decode cMod_indexOf 18 = .ok (.getfield 11, 3) ∧ decode cMod_indexOf 21 = .ok (.iload_n 1, 1) ∧ decode cMod_indexOf 22 = .ok (.aaload, 1) ∧ decode cMod_indexOf 23 = .ok (.iload_n 2, 1) ∧ decode cMod_indexOf 24 = .ok (.iload_n 3, 1) ∧ decode cMod_indexOf 25 = .ok (.invokestatic 110, 3) ∧ decode cMod_indexOf 28 = .ok (.ireturn, 1) ∧ True := Jvm.Free.DS.facts (code := cMod_indexOf) 0 [(.aload_n 0, 1), (.iload_n 1, 1), (.invokestatic 81, 3), (.iconst 0, 1), (.iconst 0, 1), (.invokevirtual 88, 3), (.ifCond .eq 7, 3), (.iconst 0, 1), (.goto 14, 3), (.aload_n 0, 1), (.getfield 11, 3), (.iload_n 1, 1), (.aaload, 1), (.iload_n 2, 1), (.iload_n 3, 1), (.invokestatic 110, 3), (.ireturn, 1)] (by decide +kernel) (by decide +kernel)
theorem dMod_indexOf_0 : decode cMod_indexOf 0 = .ok (.aload_n 0, 1) := zfMod_indexOf_0.1
theorem dMod_indexOf_1 : decode cMod_indexOf 1 = .ok (.iload_n 1, 1) := zfMod_indexOf_0.2.1
theorem dMod_indexOf_2 : decode cMod_indexOf 2 = .ok (.invokestatic 81, 3) := zfMod_indexOf_0.2.2.1
theorem dMod_indexOf_5 : decode cMod_indexOf 5 = .ok (.iconst 0, 1) := zfMod_indexOf_0.2.2.2.1
theorem dMod_indexOf_6 : decode cMod_indexOf 6 = .ok (.iconst 0, 1) := zfMod_indexOf_0.2.2.2.2.1
theorem dMod_indexOf_7 : decode cMod_indexOf 7 = .ok (.invokevirtual 88, 3) := zfMod_indexOf_0.2.2.2.2.2.1
theorem dMod_indexOf_10 : decode cMod_indexOf 10 = .ok (.ifCond .eq 7, 3) := zfMod_indexOf_0.2.2.2.2.2.2.1
theorem dMod_indexOf_13 : decode cMod_indexOf 13 = .ok (.iconst 0, 1) := zfMod_indexOf_0.2.2.2.2.2.2.2.1
theorem dMod_indexOf_14 : decode cMod_indexOf 14 = .ok (.goto 14, 3) := zfMod_indexOf_0.2.2.2.2.2.2.2.2.1
theorem dMod_indexOf_17 : decode cMod_indexOf 17 = .ok (.aload_n 0, 1) := zfMod_indexOf_0.2.2.2.2.2.2.2.2.2.1
theorem dMod_indexOf_18 : decode cMod_indexOf 18 = .ok (.getfield 11, 3) := zfMod_indexOf_0.2.2.2.2.2.2.2.2.2.2.1
theorem dMod_indexOf_21 : decode cMod_indexOf 21 = .ok (.iload_n 1, 1) := zfMod_indexOf_0.2.2.2.2.2.2.2.2.2.2.2.1
theorem dMod_indexOf_22 : decode cMod_indexOf 22 = .ok (.aaload, 1) := zfMod_indexOf_0.2.2.2.2.2.2.2.2.2.2.2.2.1
theorem dMod_indexOf_23 : decode cMod_indexOf 23 = .ok (.iload_n 2, 1) := zfMod_indexOf_0.2.2.2.2.2.2.2.2.2.2.2.2.2.1
theorem dMod_indexOf_24 : decode cMod_indexOf 24 = .ok (.iload_n 3, 1) := zfMod_indexOf_0.2.2.2.2.2.2.2.2.2.2.2.2.2.2.1
theorem dMod_indexOf_25 : decode cMod_indexOf 25 = .ok (.invokestatic 110, 3) := zfMod_indexOf_0.2.2.2.2.2.2.2.2.2.2.2.2.2.2.2.1
theorem dMod_indexOf_28 : decode cMod_indexOf 28 = .ok (.ireturn, 1) := zfMod_indexOf_0.2.2.2.2.2.2.2.2.2.2.2.2.2.2.2.2.1
theorem zfMod_has_0 : decode cMod_has 0 = .ok (.aload_n 0, 1) ∧ decode cMod_has 1 = .ok (.iload_n 1, 1) ∧ decode cMod_has 2 = .ok (.invokestatic 81, 3) ∧ decode cMod_has 5 = .ok (.iconst 0, 1) ∧ decode cMod_has 6 = .ok (.iconst 0, 1) ∧ decode cMod_has 7 = .ok (.invokevirtual 88, 3) ∧ decode cMod_has 10 = .ok (.ifCond .ne 22, 3) ∧ decode cMod_has 13 = .ok (.aload_n 0, 1) ∧ decode cMod_has 14 = .ok (.getfield 11, 3) ∧ decode cMod_has 17 = .ok (.iload_n 1, 1) ∧ decode cMod_has 18 = .ok (.aaload, 1) ∧ decode cMod_has 19 = .ok (.iload_n 2, 1) ∧ decode cMod_has 20 = .ok (.iconst 0, 1) ∧ decode cMod_has 21 = .ok (.invokestatic 110, 3) ∧ decode cMod_has 24 = .ok (.iconst (-1), 1) ∧ decode cMod_has 25 = .ok (.if_icmp .eq 7, 3) ∧ decode cMod_has 28 = .ok (.iconst 1, 1) ∧ decode cMod_has 29 = .ok (.goto 4, 3) ∧ decode cMod_has 32 = .ok (.iconst 0, 1) ∧ decode cMod_has 33 = .ok (.ireturn, 1) ∧ True := Jvm.Free.DS.facts (code := cMod_has) 0 [(.aload_n 0, 1), (.iload_n 1, 1), (.invokestatic 81, 3), (.iconst 0, 1), (.iconst 0, 1), (.invokevirtual 88, 3), (.ifCond .ne 22, 3), (.aload_n 0, 1), (.getfield 11, 3), (.iload_n 1, 1), (.aaload, 1), (.iload_n 2, 1), (.iconst 0, 1), (.invokestatic 110, 3), (.iconst (-1), 1), (.if_icmp .eq 7, 3), (.iconst 1, 1), (.goto 4, 3), (.iconst 0, 1), (.ireturn, 1)] (by decide +kernel) (by decide +kernel)
theorem dMod_has_0 : decode cMod_has 0 = .ok (.aload_n 0, 1) := zfMod_has_0.1
theorem dMod_has_1 : decode cMod_has 1 = .ok (.iload_n 1, 1) := zfMod_has_0.2.1
theorem dMod_has_2 : decode cMod_has 2 = .ok (.invokestatic 81, 3) := zfMod_has_0.2.2.1
theorem dMod_has_5 : decode cMod_has 5 = .ok (.iconst 0, 1) := zfMod_has_0.2.2.2.1
theorem dMod_has_6 : decode cMod_has 6 = .ok (.iconst 0, 1) := zfMod_has_0.2.2.2.2.1
theorem dMod_has_7 : decode cMod_has 7 = .ok (.invokevirtual 88, 3) := zfMod_has_0.2.2.2.2.2.1
theorem dMod_has_10 : decode cMod_has 10 = .ok (.ifCond .ne 22, 3) := zfMod_has_0.2.2.2.2.2.2.1
theorem dMod_has_13 : decode cMod_has 13 = .ok (.aload_n 0, 1) := zfMod_has_0.2.2.2.2.2.2.2.1
theorem dMod_has_14 : decode cMod_has 14 = .ok (.getfield 11, 3) := zfMod_has_0.2.2.2.2.2.2.2.2.1
theorem dMod_has_17 : decode cMod_has 17 = .ok (.iload_n 1, 1) := zfMod_has_0.2.2.2.2.2.2.2.2.2.1
theorem dMod_has_18 : decode cMod_has 18 = .ok (.aaload, 1) := zfMod_has_0.2.2.2.2.2.2.2.2.2.2.1
theorem dMod_has_19 : decode cMod_has 19 = .ok (.iload_n 2, 1) := zfMod_has_0.2.2.2.2.2.2.2.2.2.2.2.1
theorem dMod_has_20 : decode cMod_has 20 = .ok (.iconst 0, 1) := zfMod_has_0.2.2.2.2.2.2.2.2.2.2.2.2.1
theorem dMod_has_21 : decode cMod_has 21 = .ok (.invokestatic 110, 3) := zfMod_has_0.2.2.2.2.2.2.2.2.2.2.2.2.2.1
theorem dMod_has_24 : decode cMod_has 24 = .ok (.iconst (-1), 1) := zfMod_has_0.2.2.2.2.2.2.2.2.2.2.2.2.2.2.1
theorem dMod_has_25 : decode cMod_has 25 = .ok (.if_icmp .eq 7, 3) := zfMod_has_0.2.2.2.2.2.2.2.2.2.2.2.2.2.2.2.1
theorem dMod_has_28 : decode cMod_has 28 = .ok (.iconst 1, 1) := zfMod_has_0.2.2.2.2.2.2.2.2.2.2.2.2.2.2.2.2.1
theorem dMod_has_29 : decode cMod_has 29 = .ok (.goto 4, 3) := zfMod_has_0.2.2.2.2.2.2.2.2.2.2.2.2.2.2.2.2.2.1
theorem dMod_has_32 : decode cMod_has 32 = .ok (.iconst 0, 1) := zfMod_has_0.2.2.2.2.2.2.2.2.2.2.2.2.2.2.2.2.2.2.1
theorem dMod_has_33 : decode cMod_has 33 = .ok (.ireturn, 1) := zfMod_has_0.2.2.2.2.2.2.2.2.2.2.2.2.2.2.2.2.2.2.2.1
theorem zfMod_size_0 : decode cMod_size 0 = .ok (.aload_n 0, 1) ∧ decode cMod_size 1 = .ok (.iload_n 1, 1) ∧ decode cMod_size 2 = .ok (.invokestatic 81, 3) ∧ decode cMod_size 5 = .ok (.iconst 0, 1) ∧ decode cMod_size 6 = .ok (.iconst 0, 1) ∧ decode cMod_size 7 = .ok (.invokevirtual 88, 3) ∧ decode cMod_size 10 = .ok (.ifCond .eq 7, 3) ∧ decode cMod_size 13 = .ok (.iconst 0, 1) ∧ decode cMod_size 14 = .ok (.goto 10, 3) ∧ decode cMod_size 17 = .ok (.aload_n 0, 1) ∧ decode cMod_size 18 = .ok (.getfield 11, 3) ∧ decode cMod_size 21 = .ok (.iload_n 1, 1) ∧ decode cMod_size 22 = .ok (.aaload, 1) ∧ decode cMod_size 23 = .ok (.arraylength, 1) ∧ decode cMod_size 24 = .ok (.ireturn, 1) ∧ True := Jvm.Free.DS.facts (code := cMod_size) 0 [(.aload_n 0, 1), (.iload_n 1, 1), (.invokestatic 81, 3), (.iconst 0, 1), (.iconst 0, 1), (.invokevirtual 88, 3), (.ifCond .eq 7, 3), (.iconst 0, 1), (.goto 10, 3), (.aload_n 0, 1), (.getfield 11, 3), (.iload_n 1, 1), (.aaload, 1), (.arraylength, 1), (.ireturn, 1)] (by decide +kernel) (by decide +kernel)
theorem dMod_size_0 : decode cMod_size 0 = .ok (.aload_n 0, 1) := zfMod_size_0.1
theorem dMod_size_1 : decode cMod_size 1 = .ok (.iload_n 1, 1) := zfMod_size_0.2.1
theorem dMod_size_2 : decode cMod_size 2 = .ok (.invokestatic 81, 3) := zfMod_size_0.2.2.1
theorem dMod_size_5 : decode cMod_size 5 = .ok (.iconst 0, 1) := zfMod_size_0.2.2.2.1
theorem dMod_size_6 : decode cMod_size 6 = .ok (.iconst 0, 1) := zfMod_size_0.2.2.2.2.1
theorem dMod_size_7 : decode cMod_size 7 = .ok (.invokevirtual 88, 3) := zfMod_size_0.2.2.2.2.2.1
theorem dMod_size_10 : decode cMod_size 10 = .ok (.ifCond .eq 7, 3) := zfMod_size_0.2.2.2.2.2.2.1
theorem dMod_size_13 : decode cMod_size 13 = .ok (.iconst 0, 1) := zfMod_size_0.2.2.2.2.2.2.2.1
theorem dMod_size_14 : decode cMod_size 14 = .ok (.goto 10, 3) := zfMod_size_0.2.2.2.2.2.2.2.2.1
theorem dMod_size_17 : decode cMod_size 17 = .ok (.aload_n 0, 1) := zfMod_size_0.2.2.2.2.2.2.2.2.2.1
theorem dMod_size_18 : decode cMod_size 18 = .ok (.getfield 11, 3) := zfMod_size_0.2.2.2.2.2.2.2.2.2.2.1
theorem dMod_size_21 : decode cMod_size 21 = .ok (.iload_n 1, 1) := zfMod_size_0.2.2.2.2.2.2.2.2.2.2.2.1
theorem dMod_size_22 : decode cMod_size 22 = .ok (.aaload, 1) := zfMod_size_0.2.2.2.2.2.2.2.2.2.2.2.2.1
theorem dMod_size_23 : decode cMod_size 23 = .ok (.arraylength, 1) := zfMod_size_0.2.2.2.2.2.2.2.2.2.2.2.2.2.1
theorem dMod_size_24 : decode cMod_size 24 = .ok (.ireturn, 1) := zfMod_size_0.2.2.2.2.2.2.2.2.2.2.2.2.2.2.1
theorem zfMod_text_0 : decode cMod_text 0 = .ok (.aload_n 0, 1) ∧ decode cMod_text 1 = .ok (.iload_n 1, 1) ∧ decode cMod_text 2 = .ok (.invokestatic 81, 3) ∧ decode cMod_text 5 = .ok (.iconst 0, 1) ∧ decode cMod_text 6 = .ok (.iconst 0, 1) ∧ decode cMod_text 7 = .ok (.invokevirtual 88, 3) ∧ decode cMod_text 10 = .ok (.ifCond .eq 8, 3) ∧ decode cMod_text 13 = .ok (.ldc 53, 2) ∧ decode cMod_text 15 = .ok (.goto 28, 3) ∧ decode cMod_text 18 = .ok (.iload_n 2, 1) ∧ decode cMod_text 19 = .ok (.ifCond .eq 15, 3) ∧ decode cMod_text 22 = .ok (.aload_n 0, 1) ∧ decode cMod_text 23 = .ok (.getfield 11, 3) ∧ decode cMod_text 26 = .ok (.iload_n 1, 1) ∧ decode cMod_text 27 = .ok (.aaload, 1) ∧ decode cMod_text 28 = .ok (.invokestatic 114, 3) ∧ decode cMod_text 31 = .ok (.goto 9, 3) ∧ decode cMod_text 34 = .ok (.aload_n 0, 1) ∧ decode cMod_text 35 = .ok (.getfield 11, 3) ∧ decode cMod_text 38 = .ok (.iload_n 1, 1) ∧ decode cMod_text 39 = .ok (.aaload, 1) ∧ decode cMod_text 40 = .ok (.invokestatic 118, 3) ∧ decode cMod_text 43 = .ok (.areturn, 1) ∧ True := Jvm.Free.DS.facts (code := cMod_text) 0 [(.aload_n 0, 1), (.iload_n 1, 1), (.invokestatic 81, 3), (.iconst 0, 1), (.iconst 0, 1), (.invokevirtual 88, 3), (.ifCond .eq 8, 3), (.ldc 53, 2), (.goto 28, 3), (.iload_n 2, 1), (.ifCond .eq 15, 3), (.aload_n 0, 1), (.getfield 11, 3), (.iload_n 1, 1), (.aaload, 1), (.invokestatic 114, 3), (.goto 9, 3), (.aload_n 0, 1), (.getfield 11, 3), (.iload_n 1, 1), (.aaload, 1), (.invokestatic 118, 3), (.areturn, 1)] (by decide +kernel) (by decide +kernel)
theorem dMod_text_0 : decode cMod_text 0 = .ok (.aload_n 0, 1) := zfMod_text_0.1
theorem dMod_text_1 : decode cMod_text 1 = .ok (.iload_n 1, 1) := zfMod_text_0.2.1
theorem dMod_text_2 : decode cMod_text 2 = .ok (.invokestatic 81, 3) := zfMod_text_0.2.2.1
theorem dMod_text_5 : decode cMod_text 5 = .ok (.iconst 0, 1) := zfMod_text_0.2.2.2.1
theorem dMod_text_6 : decode cMod_text 6 = .ok (.iconst 0, 1) := zfMod_text_0.2.2.2.2.1
theorem dMod_text_7 : decode cMod_text 7 = .ok (.invokevirtual 88, 3) := zfMod_text_0.2.2.2.2.2.1
theorem dMod_text_10 : decode cMod_text 10 = .ok (.ifCond .eq 8, 3) := zfMod_text_0.2.2.2.2.2.2.1
theorem dMod_text_13 : decode cMod_text 13 = .ok (.ldc 53, 2) := zfMod_text_0.2.2.2.2.2.2.2.1
theorem dMod_text_15 : decode cMod_text 15 = .ok (.goto 28, 3) := zfMod_text_0.2.2.2.2.2.2.2.2.1
theorem dMod_text_18 : decode cMod_text 18 = .ok (.iload_n 2, 1) := zfMod_text_0.2.2.2.2.2.2.2.2.2.1
theorem dMod_text_19 : decode cMod_text 19 = .ok (.ifCond .eq 15, 3) := zfMod_text_0.2.2.2.2.2.2.2.2.2.2.1
theorem dMod_text_22 : decode cMod_text 22 = .ok (.aload_n 0, 1) := zfMod_text_0.2.2.2.2.2.2.2.2.2.2.2.1
theorem dMod_text_23 : decode cMod_text 23 = .ok (.getfield 11, 3) := zfMod_text_0.2.2.2.2.2.2.2.2.2.2.2.2.1
theorem dMod_text_26 : decode cMod_text 26 = .ok (.iload_n 1, 1) := zfMod_text_0.2.2.2.2.2.2.2.2.2.2.2.2.2.1
theorem dMod_text_27 : decode cMod_text 27 = .ok (.aaload, 1) := zfMod_text_0.2.2.2.2.2.2.2.2.2.2.2.2.2.2.1
theorem dMod_text_28 : decode cMod_text 28 = .ok (.invokestatic 114, 3) := zfMod_text_0.2.2.2.2.2.2.2.2.2.2.2.2.2.2.2.1
theorem dMod_text_31 : decode cMod_text 31 = .ok (.goto 9, 3) := zfMod_text_0.2.2.2.2.2.2.2.2.2.2.2.2.2.2.2.2.1
theorem dMod_text_34 : decode cMod_text 34 = .ok (.aload_n 0, 1) := zfMod_text_0.2.2.2.2.2.2.2.2.2.2.2.2.2.2.2.2.2.1
theorem dMod_text_35 : decode cMod_text 35 = .ok (.getfield 11, 3) := zfMod_text_0.2.2.2.2.2.2.2.2.2.2.2.2.2.2.2.2.2.2.1
theorem dMod_text_38 : decode cMod_text 38 = .ok (.iload_n 1, 1) := zfMod_text_0.2.2.2.2.2.2.2.2.2.2.2.2.2.2.2.2.2.2.2.1
theorem dMod_text_39 : decode cMod_text 39 = .ok (.aaload, 1) := zfMod_text_0.2.2.2.2.2.2.2.2.2.2.2.2.2.2.2.2.2.2.2.2.1
theorem dMod_text_40 : decode cMod_text 40 = .ok (.invokestatic 118, 3) := zfMod_text_0.2.2.2.2.2.2.2.2.2.2.2.2.2.2.2.2.2.2.2.2.2.1
theorem dMod_text_43 : decode cMod_text 43 = .ok (.areturn, 1) := zfMod_text_0.2.2.2.2.2.2.2.2.2.2.2.2.2.2.2.2.2.2.2.2.2.2.1
theorem zfMod_clear_0 : decode cMod_clear 0 = .ok (.aload_n 0, 1) ∧ decode cMod_clear 1 = .ok (.iload_n 1, 1) ∧ decode cMod_clear 2 = .ok (.invokestatic 81, 3) ∧ decode cMod_clear 5 = .ok (.iconst 0, 1) ∧ decode cMod_clear 6 = .ok (.iconst 0, 1) ∧ decode cMod_clear 7 = .ok (.invokevirtual 88, 3) ∧ decode cMod_clear 10 = .ok (.ifCond .eq 5, 3) ∧ decode cMod_clear 13 = .ok (.iconst 0, 1) ∧ decode cMod_clear 14 = .ok (.ireturn, 1) ∧ decode cMod_clear 15 = .ok (.aload_n 0, 1) ∧ decode cMod_clear 16 = .ok (.getfield 11, 3) ∧ decode cMod_clear 19 = .ok (.iload_n 1, 1) ∧ decode cMod_clear 20 = .ok (.aaload, 1) ∧ decode cMod_clear 21 = .ok (.arraylength, 1) ∧ decode cMod_clear 22 = .ok (.istore_n 2, 1) ∧ decode cMod_clear 23 = .ok (.aload_n 0, 1) ∧ decode cMod_clear 24 = .ok (.iload_n 1, 1) ∧ decode cMod_clear 25 = .ok (.iconst 0, 1) ∧ decode cMod_clear 26 = .ok (.newarray .int, 2) ∧ decode cMod_clear 28 = .ok (.iconst (-1), 1) ∧ decode cMod_clear 29 = .ok (.invokevirtual 77, 3) ∧ decode cMod_clear 32 = .ok (.iload_n 2, 1) ∧ decode cMod_clear 33 = .ok (.ireturn, 1) ∧ True := Jvm.Free.DS.facts (code := cMod_clear) 0 [(.aload_n 0, 1), (.iload_n 1, 1), (.invokestatic 81, 3), (.iconst 0, 1), (.iconst 0, 1), (.invokevirtual 88, 3), (.ifCond .eq 5, 3), (.iconst 0, 1), (.ireturn, 1), (.aload_n 0, 1), (.getfield 11, 3), (.iload_n 1, 1), (.aaload, 1), (.arraylength, 1), (.istore_n 2, 1), (.aload_n 0, 1), (.iload_n 1, 1), (.iconst 0, 1), (.newarray .int, 2), (.iconst (-1), 1), (.invokevirtual 77, 3), (.iload_n 2, 1), (.ireturn, 1)] (by decide +kernel) (by decide +kernel)
theorem dMod_clear_0 : decode cMod_clear 0 = .ok (.aload_n 0, 1) := zfMod_clear_0.1
theorem dMod_clear_1 : decode cMod_clear 1 = .ok (.iload_n 1, 1) := zfMod_clear_0.2.1
theorem dMod_clear_2 : decode cMod_clear 2 = .ok (.invokestatic 81, 3) := zfMod_clear_0.2.2.1
theorem dMod_clear_5 : decode cMod_clear 5 = .ok (.iconst 0, 1) := zfMod_clear_0.2.2.2.1
theorem dMod_clear_6 : decode cMod_clear 6 = .ok (.iconst 0, 1) := zfMod_clear_0.2.2.2.2.1
theorem dMod_clear_7 : decode cMod_clear 7 = .ok (.invokevirtual 88, 3) := zfMod_clear_0.2.2.2.2.2.1
theorem dMod_clear_10 : decode cMod_clear 10 = .ok (.ifCond .eq 5, 3) := zfMod_clear_0.2.2.2.2.2.2.1
theorem dMod_clear_13 : decode cMod_clear 13 = .ok (.iconst 0, 1) := zfMod_clear_0.2.2.2.2.2.2.2.1
theorem dMod_clear_14 : decode cMod_clear 14 = .ok (.ireturn, 1) := zfMod_clear_0.2.2.2.2.2.2.2.2.1
theorem dMod_clear_15 : decode cMod_clear 15 = .ok (.aload_n 0, 1) := zfMod_clear_0.2.2.2.2.2.2.2.2.2.1
theorem dMod_clear_16 : decode cMod_clear 16 = .ok (.getfield 11, 3) := zfMod_clear_0.2.2.2.2.2.2.2.2.2.2.1
theorem dMod_clear_19 : decode cMod_clear 19 = .ok (.iload_n 1, 1) := zfMod_clear_0.2.2.2.2.2.2.2.2.2.2.2.1
theorem dMod_clear_20 : decode cMod_clear 20 = .ok (.aaload, 1) := zfMod_clear_0.2.2.2.2.2.2.2.2.2.2.2.2.1
theorem dMod_clear_21 : decode cMod_clear 21 = .ok (.arraylength, 1) := zfMod_clear_0.2.2.2.2.2.2.2.2.2.2.2.2.2.1
theorem dMod_clear_22 : decode cMod_clear 22 = .ok (.istore_n 2, 1) := zfMod_clear_0.2.2.2.2.2.2.2.2.2.2.2.2.2.2.1
theorem dMod_clear_23 : decode cMod_clear 23 = .ok (.aload_n 0, 1) := zfMod_clear_0.2.2.2.2.2.2.2.2.2.2.2.2.2.2.2.1
theorem dMod_clear_24 : decode cMod_clear 24 = .ok (.iload_n 1, 1) := zfMod_clear_0.2.2.2.2.2.2.2.2.2.2.2.2.2.2.2.2.1
theorem dMod_clear_25 : decode cMod_clear 25 = .ok (.iconst 0, 1) := zfMod_clear_0.2.2.2.2.2.2.2.2.2.2.2.2.2.2.2.2.2.1
theorem dMod_clear_26 : decode cMod_clear 26 = .ok (.newarray .int, 2) := zfMod_clear_0.2.2.2.2.2.2.2.2.2.2.2.2.2.2.2.2.2.2.1
theorem dMod_clear_28 : decode cMod_clear 28 = .ok (.iconst (-1), 1) := zfMod_clear_0.2.2.2.2.2.2.2.2.2.2.2.2.2.2.2.2.2.2.2.1
theorem dMod_clear_29 : decode cMod_clear 29 = .ok (.invokevirtual 77, 3) := zfMod_clear_0.2.2.2.2.2.2.2.2.2.2.2.2.2.2.2.2.2.2.2.2.1
theorem dMod_clear_32 : decode cMod_clear 32 = .ok (.iload_n 2, 1) := zfMod_clear_0.2.2.2.2.2.2.2.2.2.2.2.2.2.2.2.2.2.2.2.2.2.1
theorem dMod_clear_33 : decode cMod_clear 33 = .ok (.ireturn, 1) := zfMod_clear_0.2.2.2.2.2.2.2.2.2.2.2.2.2.2.2.2.2.2.2.2.2.2.1
theorem zfMod_append_0 : decode cMod_append 0 = .ok (.aload_n 0, 1) ∧ decode cMod_append 1 = .ok (.iload_n 1, 1) ∧ decode cMod_append 2 = .ok (.invokestatic 81, 3) ∧ decode cMod_append 5 = .ok (.ifCond .ne 10, 3) ∧ decode cMod_append 8 = .ok (.iload_n 2, 1) ∧ decode cMod_append 9 = .ok (.invokestatic 81, 3) ∧ decode cMod_append 12 = .ok (.ifCond .eq 7, 3) ∧ decode cMod_append 15 = .ok (.iconst 1, 1) ∧ decode cMod_append 16 = .ok (.goto 4, 3) ∧ decode cMod_append 19 = .ok (.iconst 0, 1) ∧ decode cMod_append 20 = .ok (.iconst 0, 1) ∧ decode cMod_append 21 = .ok (.iconst 0, 1) ∧ decode cMod_append 22 = .ok (.invokevirtual 88, 3) ∧ decode cMod_append 25 = .ok (.ifCond .eq 5, 3) ∧ decode cMod_append 28 = .ok (.iconst 0, 1) ∧ decode cMod_append 29 = .ok (.ireturn, 1) ∧ decode cMod_append 30 = .ok (.aload_n 0, 1) ∧ decode cMod_append 31 = .ok (.iload_n 1, 1) ∧ decode cMod_append 32 = .ok (.aload_n 0, 1) ∧ decode cMod_append 33 = .ok (.getfield 11, 3) ∧ decode cMod_append 36 = .ok (.iload_n 1, 1) ∧ decode cMod_append 37 = .ok (.aaload, 1) ∧ decode cMod_append 38 = .ok (.arraylength, 1) ∧ decode cMod_append 39 = .ok (.iload_n 2, 1) ∧ decode cMod_append 40 = .ok (.invokevirtual 122, 3) ∧ decode cMod_append 43 = .ok (.ireturn, 1) ∧ True := Jvm.Free.DS.facts (code := cMod_append) 0 [(.aload_n 0, 1), (.iload_n 1, 1), (.invokestatic 81, 3), (.ifCond .ne 10, 3), (.iload_n 2, 1), (.invokestatic 81, 3), (.ifCond .eq 7, 3), (.iconst 1, 1), (.goto 4, 3), (.iconst 0, 1), (.iconst 0, 1), (.iconst 0, 1), (.invokevirtual 88, 3), (.ifCond .eq 5, 3), (.iconst 0, 1), (.ireturn, 1), (.aload_n 0, 1), (.iload_n 1, 1), (.aload_n 0, 1), (.getfield 11, 3), (.iload_n 1, 1), (.aaload, 1), (.arraylength, 1), (.iload_n 2, 1), (.invokevirtual 122, 3), (.ireturn, 1)] (by decide +kernel) (by decide +kernel)
theorem dMod_append_0 : decode cMod_append 0 = .ok (.aload_n 0, 1) := zfMod_append_0.1
theorem dMod_append_1 : decode cMod_append 1 = .ok (.iload_n 1, 1) := zfMod_append_0.2.1
theorem dMod_append_2 : decode cMod_append 2 = .ok (.invokestatic 81, 3) := zfMod_append_0.2.2.1
theorem dMod_append_5 : decode cMod_append 5 = .ok (.ifCond .ne 10, 3) := zfMod_append_0.2.2.2.1
theorem dMod_append_8 : decode cMod_append 8 = .ok (.iload_n 2, 1) := zfMod_append_0.2.2.2.2.1
theorem dMod_append_9 : decode cMod_append 9 = .ok (.invokestatic 81, 3) := zfMod_append_0.2.2.2.2.2.1
theorem dMod_append_12 : decode cMod_append 12 = .ok (.ifCond .eq 7, 3) := zfMod_append_0.2.2.2.2.2.2.1
theorem dMod_append_15 : decode cMod_append 15 = .ok (.iconst 1, 1) := zfMod_append_0.2.2.2.2.2.2.2.1
theorem dMod_append_16 : decode cMod_append 16 = .ok (.goto 4, 3) := zfMod_append_0.2.2.2.2.2.2.2.2.1
theorem dMod_append_19 : decode cMod_append 19 = .ok (.iconst 0, 1) := zfMod_append_0.2.2.2.2.2.2.2.2.2.1
theorem dMod_append_20 : decode cMod_append 20 = .ok (.iconst 0, 1) := zfMod_append_0.2.2.2.2.2.2.2.2.2.2.1
theorem dMod_append_21 : decode cMod_append 21 = .ok (.iconst 0, 1) := zfMod_append_0.2.2.2.2.2.2.2.2.2.2.2.1
theorem dMod_append_22 : decode cMod_append 22 = .ok (.invokevirtual 88, 3) := zfMod_append_0.2.2.2.2.2.2.2.2.2.2.2.2.1
theorem dMod_append_25 : decode cMod_append 25 = .ok (.ifCond .eq 5, 3) := zfMod_append_0.2.2.2.2.2.2.2.2.2.2.2.2.2.1
theorem dMod_append_28 : decode cMod_append 28 = .ok (.iconst 0, 1) := zfMod_append_0.2.2.2.2.2.2.2.2.2.2.2.2.2.2.1
theorem dMod_append_29 : decode cMod_append 29 = .ok (.ireturn, 1) := zfMod_append_0.2.2.2.2.2.2.2.2.2.2.2.2.2.2.2.1
theorem dMod_append_30 : decode cMod_append 30 = .ok (.aload_n 0, 1) := zfMod_append_0.2.2.2.2.2.2.2.2.2.2.2.2.2.2.2.2.1
theorem dMod_append_31 : decode cMod_append 31 = .ok (.iload_n 1, 1) := zfMod_append_0.2.2.2.2.2.2.2.2.2.2.2.2.2.2.2.2.2.1
theorem dMod_append_32 : decode cMod_append 32 = .ok (.aload_n 0, 1) := zfMod_append_0.2.2.2.2.2.2.2.2.2.2.2.2.2.2.2.2.2.2.1
theorem dMod_append_33 : decode cMod_append 33 = .ok (.getfield 11, 3) := zfMod_append_0.2.2.2.2.2.2.2.2.2.2.2.2.2.2.2.2.2.2.2.1
theorem dMod_append_36 : decode cMod_append 36 = .ok (.iload_n 1, 1) := zfMod_append_0.2.2.2.2.2.2.2.2.2.2.2.2.2.2.2.2.2.2.2.2.1
theorem dMod_append_37 : decode cMod_append 37 = .ok (.aaload, 1) := zfMod_append_0.2.2.2.2.2.2.2.2.2.2.2.2.2.2.2.2.2.2.2.2.2.1
theorem dMod_append_38 : decode cMod_append 38 = .ok (.arraylength, 1) := zfMod_append_0.2.2.2.2.2.2.2.2.2.2.2.2.2.2.2.2.2.2.2.2.2.2.1
theorem dMod_append_39 : decode cMod_append 39 = .ok (.iload_n 2, 1) := zfMod_append_0.2.2.2.2.2.2.2.2.2.2.2.2.2.2.2.2.2.2.2.2.2.2.2.1
theorem dMod_append_40 : decode cMod_append 40 = .ok (.invokevirtual 122, 3) := zfMod_append_0.2.2.2.2.2.2.2.2.2.2.2.2.2.2.2.2.2.2.2.2.2.2.2.2.1
theorem dMod_append_43 : decode cMod_append 43 = .ok (.ireturn, 1) := zfMod_append_0.2.2.2.2.2.2.2.2.2.2.2.2.2.2.2.2.2.2.2.2.2.2.2.2.2.1
theorem zfMod_joins_0 : decode cMod_joins 0 = .ok (.aload_n 0, 1) ∧ decode cMod_joins 1 = .ok (.getfield 11, 3) ∧ decode cMod_joins 4 = .ok (.iload_n 1, 1) ∧ decode cMod_joins 5 = .ok (.aaload, 1) ∧ decode cMod_joins 6 = .ok (.arraylength, 1) ∧ decode cMod_joins 7 = .ok (.aload_n 0, 1) ∧ decode cMod_joins 8 = .ok (.getfield 11, 3) ∧ decode cMod_joins 11 = .ok (.iload_n 3, 1) ∧ decode cMod_joins 12 = .ok (.aaload, 1) ∧ decode cMod_joins 13 = .ok (.arraylength, 1) ∧ decode cMod_joins 14 = .ok (.iadd, 1) ∧ decode cMod_joins 15 = .ok (.bipush 16, 2) ∧ decode cMod_joins 17 = .ok (.if_icmp .le 10, 3) ∧ decode cMod_joins 20 = .ok (.aload_n 0, 1) ∧ decode cMod_joins 21 = .ok (.invokevirtual 92, 3) ∧ decode cMod_joins 24 = .ok (.goto 24, 3) ∧ decode cMod_joins 27 = .ok (.aload_n 0, 1) ∧ decode cMod_joins 28 = .ok (.iload_n 1, 1) ∧ decode cMod_joins 29 = .ok (.aload_n 0, 1) ∧ decode cMod_joins 30 = .ok (.getfield 11, 3) ∧ decode cMod_joins 33 = .ok (.iload_n 1, 1) ∧ decode cMod_joins 34 = .ok (.aaload, 1) ∧ decode cMod_joins 35 = .ok (.iload_n 2, 1) ∧ decode cMod_joins 36 = .ok (.aload_n 0, 1) ∧ decode cMod_joins 37 = .ok (.getfield 11, 3) ∧ decode cMod_joins 40 = .ok (.iload_n 3, 1) ∧ decode cMod_joins 41 = .ok (.aaload, 1) ∧ decode cMod_joins 42 = .ok (.invokestatic 126, 3) ∧ decode cMod_joins 45 = .ok (.invokevirtual 95, 3) ∧ decode cMod_joins 48 = .ok (.ireturn, 1) ∧ True := Jvm.Free.DS.facts (code := cMod_joins) 0 [(.aload_n 0, 1), (.getfield 11, 3), (.iload_n 1, 1), (.aaload, 1), (.arraylength, 1), (.aload_n 0, 1), (.getfield 11, 3), (.iload_n 3, 1), (.aaload, 1), (.arraylength, 1), (.iadd, 1), (.bipush 16, 2), (.if_icmp .le 10, 3), (.aload_n 0, 1), (.invokevirtual 92, 3), (.goto 24, 3), (.aload_n 0, 1), (.iload_n 1, 1), (.aload_n 0, 1), (.getfield 11, 3), (.iload_n 1, 1), (.aaload, 1), (.iload_n 2, 1), (.aload_n 0, 1), (.getfield 11, 3), (.iload_n 3, 1), (.aaload, 1), (.invokestatic 126, 3), (.invokevirtual 95, 3), (.ireturn, 1)] (by decide +kernel) (by decide +kernel)
theorem dMod_joins_0 : decode cMod_joins 0 = .ok (.aload_n 0, 1) := zfMod_joins_0.1
theorem dMod_joins_1 : decode cMod_joins 1 = .ok (.getfield 11, 3) := zfMod_joins_0.2.1
theorem dMod_joins_4 : decode cMod_joins 4 = .ok (.iload_n 1, 1) := zfMod_joins_0.2.2.1
theorem dMod_joins_5 : decode cMod_joins 5 = .ok (.aaload, 1) := zfMod_joins_0.2.2.2.1
theorem dMod_joins_6 : decode cMod_joins 6 = .ok (.arraylength, 1) := zfMod_joins_0.2.2.2.2.1
theorem dMod_joins_7 : decode cMod_joins 7 = .ok (.aload_n 0, 1) := zfMod_joins_0.2.2.2.2.2.1
theorem dMod_joins_8 : decode cMod_joins 8 = .ok (.getfield 11, 3) := zfMod_joins_0.2.2.2.2.2.2.1
theorem dMod_joins_11 : decode cMod_joins 11 = .ok (.iload_n 3, 1) := zfMod_joins_0.2.2.2.2.2.2.2.1
theorem dMod_joins_12 : decode cMod_joins 12 = .ok (.aaload, 1) := zfMod_joins_0.2.2.2.2.2.2.2.2.1
theorem dMod_joins_13 : decode cMod_joins 13 = .ok (.arraylength, 1) := zfMod_joins_0.2.2.2.2.2.2.2.2.2.1
theorem dMod_joins_14 : decode cMod_joins 14 = .ok (.iadd, 1) := zfMod_joins_0.2.2.2.2.2.2.2.2.2.2.1
theorem dMod_joins_15 : decode cMod_joins 15 = .ok (.bipush 16, 2) := zfMod_joins_0.2.2.2.2.2.2.2.2.2.2.2.1
theorem dMod_joins_17 : decode cMod_joins 17 = .ok (.if_icmp .le 10, 3) := zfMod_joins_0.2.2.2.2.2.2.2.2.2.2.2.2.1
theorem dMod_joins_20 : decode cMod_joins 20 = .ok (.aload_n 0, 1) := zfMod_joins_0.2.2.2.2.2.2.2.2.2.2.2.2.2.1
theorem dMod_joins_21 : decode cMod_joins 21 = .ok (.invokevirtual 92, 3) := zfMod_joins_0.2.2.2.2.2.2.2.2.2.2.2.2.2.2.1
theorem dMod_joins_24 : decode cMod_joins 24 = .ok (.goto 24, 3) := zfMod_joins_0.2.2.2.2.2.2.2.2.2.2.2.2.2.2.2.1
theorem dMod_joins_27 : decode cMod_joins 27 = .ok (.aload_n 0, 1) := zfMod_joins_0.2.2.2.2.2.2.2.2.2.2.2.2.2.2.2.2.1
theorem dMod_joins_28 : decode cMod_joins 28 = .ok (.iload_n 1, 1) := zfMod_joins_0.2.2.2.2.2.2.2.2.2.2.2.2.2.2.2.2.2.1
theorem dMod_joins_29 : decode cMod_joins 29 = .ok (.aload_n 0, 1) := zfMod_joins_0.2.2.2.2.2.2.2.2.2.2.2.2.2.2.2.2.2.2.1
theorem dMod_joins_30 : decode cMod_joins 30 = .ok (.getfield 11, 3) := zfMod_joins_0.2.2.2.2.2.2.2.2.2.2.2.2.2.2.2.2.2.2.2.1
theorem dMod_joins_33 : decode cMod_joins 33 = .ok (.iload_n 1, 1) := zfMod_joins_0.2.2.2.2.2.2.2.2.2.2.2.2.2.2.2.2.2.2.2.2.1
theorem dMod_joins_34 : decode cMod_joins 34 = .ok (.aaload, 1) := zfMod_joins_0.2.2.2.2.2.2.2.2.2.2.2.2.2.2.2.2.2.2.2.2.2.1
theorem dMod_joins_35 : decode cMod_joins 35 = .ok (.iload_n 2, 1) := zfMod_joins_0.2.2.2.2.2.2.2.2.2.2.2.2.2.2.2.2.2.2.2.2.2.2.1
theorem dMod_joins_36 : decode cMod_joins 36 = .ok (.aload_n 0, 1) := zfMod_joins_0.2.2.2.2.2.2.2.2.2.2.2.2.2.2.2.2.2.2.2.2.2.2.2.1
theorem dMod_joins_37 : decode cMod_joins 37 = .ok (.getfield 11, 3) := zfMod_joins_0.2.2.2.2.2.2.2.2.2.2.2.2.2.2.2.2.2.2.2.2.2.2.2.2.1
theorem dMod_joins_40 : decode cMod_joins 40 = .ok (.iload_n 3, 1) := zfMod_joins_0.2.2.2.2.2.2.2.2.2.2.2.2.2.2.2.2.2.2.2.2.2.2.2.2.2.1
theorem dMod_joins_41 : decode cMod_joins 41 = .ok (.aaload, 1) := zfMod_joins_0.2.2.2.2.2.2.2.2.2.2.2.2.2.2.2.2.2.2.2.2.2.2.2.2.2.2.1
theorem dMod_joins_42 : decode cMod_joins 42 = .ok (.invokestatic 126, 3) := zfMod_joins_0.2.2.2.2.2.2.2.2.2.2.2.2.2.2.2.2.2.2.2.2.2.2.2.2.2.2.2.1
theorem dMod_joins_45 : decode cMod_joins 45 = .ok (.invokevirtual 95, 3) := zfMod_joins_0.2.2.2.2.2.2.2.2.2.2.2.2.2.2.2.2.2.2.2.2.2.2.2.2.2.2.2.2.1
theorem dMod_joins_48 : decode cMod_joins 48 = .ok (.ireturn, 1) := zfMod_joins_0.2.2.2.2.2.2.2.2.2.2.2.2.2.2.2.2.2.2.2.2.2.2.2.2.2.2.2.2.2.1
theorem zfMod_appendAt_0 : decode cMod_appendAt 0 = .ok (.aload_n 0, 1) ∧ decode cMod_appendAt 1 = .ok (.iload_n 1, 1) ∧ decode cMod_appendAt 2 = .ok (.invokestatic 81, 3) ∧ decode cMod_appendAt 5 = .ok (.ifCond .ne 25, 3) ∧ decode cMod_appendAt 8 = .ok (.iload_n 3, 1) ∧ decode cMod_appendAt 9 = .ok (.invokestatic 81, 3) ∧ decode cMod_appendAt 12 = .ok (.ifCond .ne 18, 3) ∧ decode cMod_appendAt 15 = .ok (.iload_n 2, 1) ∧ decode cMod_appendAt 16 = .ok (.iconst 0, 1) ∧ decode cMod_appendAt 17 = .ok (.aload_n 0, 1) ∧ decode cMod_appendAt 18 = .ok (.getfield 11, 3) ∧ decode cMod_appendAt 21 = .ok (.iload_n 1, 1) ∧ decode cMod_appendAt 22 = .ok (.aaload, 1) ∧ decode cMod_appendAt 23 = .ok (.arraylength, 1) ∧ decode cMod_appendAt 24 = .ok (.invokestatic 41, 3) ∧ decode cMod_appendAt 27 = .ok (.ifCond .eq 7, 3) ∧ decode cMod_appendAt 30 = .ok (.iconst 1, 1) ∧ decode cMod_appendAt 31 = .ok (.goto 4, 3) ∧ decode cMod_appendAt 34 = .ok (.iconst 0, 1) ∧ decode cMod_appendAt 35 = .ok (.iconst 0, 1) ∧ decode cMod_appendAt 36 = .ok (.iconst 0, 1) ∧ decode cMod_appendAt 37 = .ok (.invokevirtual 88, 3) ∧ decode cMod_appendAt 40 = .ok (.ifCond .eq 5, 3) ∧ decode cMod_appendAt 43 = .ok (.iconst 0, 1) ∧ decode cMod_appendAt 44 = .ok (.ireturn, 1) ∧ decode cMod_appendAt 45 = .ok (.aload_n 0, 1) ∧ decode cMod_appendAt 46 = .ok (.iload_n 1, 1) ∧ decode cMod_appendAt 47 = .ok (.iload_n 2, 1) ∧ decode cMod_appendAt 48 = .ok (.iload_n 3, 1) ∧ decode cMod_appendAt 49 = .ok (.invokevirtual 122, 3) ∧ decode cMod_appendAt 52 = .ok (.ireturn, 1) ∧ True := Jvm.Free.DS.facts (code := cMod_appendAt) 0 [(.aload_n 0, 1), (.iload_n 1, 1), (.invokestatic 81, 3), (.ifCond .ne 25, 3), (.iload_n 3, 1), (.invokestatic 81, 3), (.ifCond .ne 18, 3), (.iload_n 2, 1), (.iconst 0, 1), (.aload_n 0, 1), (.getfield 11, 3), (.iload_n 1, 1), (.aaload, 1), (.arraylength, 1), (.invokestatic 41, 3), (.ifCond .eq 7, 3), (.iconst 1, 1), (.goto 4, 3), (.iconst 0, 1), (.iconst 0, 1), (.iconst 0, 1), (.invokevirtual 88, 3), (.ifCond .eq 5, 3), (.iconst 0, 1), (.ireturn, 1), (.aload_n 0, 1), (.iload_n 1, 1), (.iload_n 2, 1), (.iload_n 3, 1), (.invokevirtual 122, 3), (.ireturn, 1)] (by decide +kernel) (by decide +kernel)
theorem dMod_appendAt_0 : decode cMod_appendAt 0 = .ok (.aload_n 0, 1) := zfMod_appendAt_0.1
theorem dMod_appendAt_1 : decode cMod_appendAt 1 = .ok (.iload_n 1, 1) := zfMod_appendAt_0.2.1
theorem dMod_appendAt_2 : decode cMod_appendAt 2 = .ok (.invokestatic 81, 3) := zfMod_appendAt_0.2.2.1
theorem dMod_appendAt_5 : decode cMod_appendAt 5 = .ok (.ifCond .ne 25, 3) := zfMod_appendAt_0.2.2.2.1
theorem dMod_appendAt_8 : decode cMod_appendAt 8 = .ok (.iload_n 3, 1) := zfMod_appendAt_0.2.2.2.2.1
theorem dMod_appendAt_9 : decode cMod_appendAt 9 = .ok (.invokestatic 81, 3) := zfMod_appendAt_0.2.2.2.2.2.1
theorem dMod_appendAt_12 : decode cMod_appendAt 12 = .ok (.ifCond .ne 18, 3) := zfMod_appendAt_0.2.2.2.2.2.2.1
theorem dMod_appendAt_15 : decode cMod_appendAt 15 = .ok (.iload_n 2, 1) := zfMod_appendAt_0.2.2.2.2.2.2.2.1
theorem dMod_appendAt_16 : decode cMod_appendAt 16 = .ok (.iconst 0, 1) := zfMod_appendAt_0.2.2.2.2.2.2.2.2.1
theorem dMod_appendAt_17 : decode cMod_appendAt 17 = .ok (.aload_n 0, 1) := zfMod_appendAt_0.2.2.2.2.2.2.2.2.2.1
theorem dMod_appendAt_18 : decode cMod_appendAt 18 = .ok (.getfield 11, 3) := zfMod_appendAt_0.2.2.2.2.2.2.2.2.2.2.1
theorem dMod_appendAt_21 : decode cMod_appendAt 21 = .ok (.iload_n 1, 1) := zfMod_appendAt_0.2.2.2.2.2.2.2.2.2.2.2.1
theorem dMod_appendAt_22 : decode cMod_appendAt 22 = .ok (.aaload, 1) := zfMod_appendAt_0.2.2.2.2.2.2.2.2.2.2.2.2.1
theorem dMod_appendAt_23 : decode cMod_appendAt 23 = .ok (.arraylength, 1) := zfMod_appendAt_0.2.2.2.2.2.2.2.2.2.2.2.2.2.1
theorem dMod_appendAt_24 : decode cMod_appendAt 24 = .ok (.invokestatic 41, 3) := zfMod_appendAt_0.2.2.2.2.2.2.2.2.2.2.2.2.2.2.1
theorem dMod_appendAt_27 : decode cMod_appendAt 27 = .ok (.ifCond .eq 7, 3) := zfMod_appendAt_0.2.2.2.2.2.2.2.2.2.2.2.2.2.2.2.1
theorem dMod_appendAt_30 : decode cMod_appendAt 30 = .ok (.iconst 1, 1) := zfMod_appendAt_0.2.2.2.2.2.2.2.2.2.2.2.2.2.2.2.2.1
theorem dMod_appendAt_31 : decode cMod_appendAt 31 = .ok (.goto 4, 3) := zfMod_appendAt_0.2.2.2.2.2.2.2.2.2.2.2.2.2.2.2.2.2.1
theorem dMod_appendAt_34 : decode cMod_appendAt 34 = .ok (.iconst 0, 1) := zfMod_appendAt_0.2.2.2.2.2.2.2.2.2.2.2.2.2.2.2.2.2.2.1
theorem dMod_appendAt_35 : decode cMod_appendAt 35 = .ok (.iconst 0, 1) := zfMod_appendAt_0.2.2.2.2.2.2.2.2.2.2.2.2.2.2.2.2.2.2.2.1
theorem dMod_appendAt_36 : decode cMod_appendAt 36 = .ok (.iconst 0, 1) := zfMod_appendAt_0.2.2.2.2.2.2.2.2.2.2.2.2.2.2.2.2.2.2.2.2.1
theorem dMod_appendAt_37 : decode cMod_appendAt 37 = .ok (.invokevirtual 88, 3) := zfMod_appendAt_0.2.2.2.2.2.2.2.2.2.2.2.2.2.2.2.2.2.2.2.2.2.1
theorem dMod_appendAt_40 : decode cMod_appendAt 40 = .ok (.ifCond .eq 5, 3) := zfMod_appendAt_0.2.2.2.2.2.2.2.2.2.2.2.2.2.2.2.2.2.2.2.2.2.2.1
theorem dMod_appendAt_43 : decode cMod_appendAt 43 = .ok (.iconst 0, 1) := zfMod_appendAt_0.2.2.2.2.2.2.2.2.2.2.2.2.2.2.2.2.2.2.2.2.2.2.2.1
theorem dMod_appendAt_44 : decode cMod_appendAt 44 = .ok (.ireturn, 1) := zfMod_appendAt_0.2.2.2.2.2.2.2.2.2.2.2.2.2.2.2.2.2.2.2.2.2.2.2.2.1
theorem dMod_appendAt_45 : decode cMod_appendAt 45 = .ok (.aload_n 0, 1) := zfMod_appendAt_0.2.2.2.2.2.2.2.2.2.2.2.2.2.2.2.2.2.2.2.2.2.2.2.2.2.1
theorem dMod_appendAt_46 : decode cMod_appendAt 46 = .ok (.iload_n 1, 1) := zfMod_appendAt_0.2.2.2.2.2.2.2.2.2.2.2.2.2.2.2.2.2.2.2.2.2.2.2.2.2.2.1
theorem dMod_appendAt_47 : decode cMod_appendAt 47 = .ok (.iload_n 2, 1) := zfMod_appendAt_0.2.2.2.2.2.2.2.2.2.2.2.2.2.2.2.2.2.2.2.2.2.2.2.2.2.2.2.1
theorem dMod_appendAt_48 : decode cMod_appendAt 48 = .ok (.iload_n 3, 1) := zfMod_appendAt_0.2.2.2.2.2.2.2.2.2.2.2.2.2.2.2.2.2.2.2.2.2.2.2.2.2.2.2.2.1
theorem dMod_appendAt_49 : decode cMod_appendAt 49 = .ok (.invokevirtual 122, 3) := zfMod_appendAt_0.2.2.2.2.2.2.2.2.2.2.2.2.2.2.2.2.2.2.2.2.2.2.2.2.2.2.2.2.2.1
theorem dMod_appendAt_52 : decode cMod_appendAt 52 = .ok (.ireturn, 1) := zfMod_appendAt_0.2.2.2.2.2.2.2.2.2.2.2.2.2.2.2.2.2.2.2.2.2.2.2.2.2.2.2.2.2.2.1
theorem zfMod_copied_0 : decode cMod_copied 0 = .ok (.iconst 0, 1) ∧ decode cMod_copied 1 = .ok (.newarray .int, 2) ∧ decode cMod_copied 3 = .ok (.iconst 0, 1) ∧ decode cMod_copied 4 = .ok (.aload_n 0, 1) ∧ decode cMod_copied 5 = .ok (.invokestatic 126, 3) ∧ decode cMod_copied 8 = .ok (.areturn, 1) ∧ True := Jvm.Free.DS.facts (code := cMod_copied) 0 [(.iconst 0, 1), (.newarray .int, 2), (.iconst 0, 1), (.aload_n 0, 1), (.invokestatic 126, 3), (.areturn, 1)] (by decide +kernel) (by decide +kernel)
theorem dMod_copied_0 : decode cMod_copied 0 = .ok (.iconst 0, 1) := zfMod_copied_0.1
theorem dMod_copied_1 : decode cMod_copied 1 = .ok (.newarray .int, 2) := zfMod_copied_0.2.1
theorem dMod_copied_3 : decode cMod_copied 3 = .ok (.iconst 0, 1) := zfMod_copied_0.2.2.1
theorem dMod_copied_4 : decode cMod_copied 4 = .ok (.aload_n 0, 1) := zfMod_copied_0.2.2.2.1
theorem dMod_copied_5 : decode cMod_copied 5 = .ok (.invokestatic 126, 3) := zfMod_copied_0.2.2.2.2.1
theorem dMod_copied_8 : decode cMod_copied 8 = .ok (.areturn, 1) := zfMod_copied_0.2.2.2.2.2.1
theorem zfMod_copy_0 : decode cMod_copy 0 = .ok (.aload_n 0, 1) ∧ decode cMod_copy 1 = .ok (.iload_n 1, 1) ∧ decode cMod_copy 2 = .ok (.invokestatic 81, 3) ∧ decode cMod_copy 5 = .ok (.ifCond .ne 10, 3) ∧ decode cMod_copy 8 = .ok (.iload_n 2, 1) ∧ decode cMod_copy 9 = .ok (.invokestatic 81, 3) ∧ decode cMod_copy 12 = .ok (.ifCond .eq 7, 3) ∧ decode cMod_copy 15 = .ok (.iconst 1, 1) ∧ decode cMod_copy 16 = .ok (.goto 4, 3) ∧ decode cMod_copy 19 = .ok (.iconst 0, 1) ∧ decode cMod_copy 20 = .ok (.iconst 0, 1) ∧ decode cMod_copy 21 = .ok (.iconst 0, 1) ∧ decode cMod_copy 22 = .ok (.invokevirtual 88, 3) ∧ decode cMod_copy 25 = .ok (.ifCond .eq 7, 3) ∧ decode cMod_copy 28 = .ok (.iconst 0, 1) ∧ decode cMod_copy 29 = .ok (.goto 17, 3) ∧ decode cMod_copy 32 = .ok (.aload_n 0, 1) ∧ decode cMod_copy 33 = .ok (.iload_n 2, 1) ∧ decode cMod_copy 34 = .ok (.aload_n 0, 1) ∧ decode cMod_copy 35 = .ok (.getfield 11, 3) ∧ decode cMod_copy 38 = .ok (.iload_n 1, 1) ∧ decode cMod_copy 39 = .ok (.aaload, 1) ∧ decode cMod_copy 40 = .ok (.invokestatic 130, 3) ∧ decode cMod_copy 43 = .ok (.invokevirtual 95, 3) ∧ decode cMod_copy 46 = .ok (.ireturn, 1) ∧ True := Jvm.Free.DS.facts (code := cMod_copy) 0 [(.aload_n 0, 1), (.iload_n 1, 1), (.invokestatic 81, 3), (.ifCond .ne 10, 3), (.iload_n 2, 1), (.invokestatic 81, 3), (.ifCond .eq 7, 3), (.iconst 1, 1), (.goto 4, 3), (.iconst 0, 1), (.iconst 0, 1), (.iconst 0, 1), (.invokevirtual 88, 3), (.ifCond .eq 7, 3), (.iconst 0, 1), (.goto 17, 3), (.aload_n 0, 1), (.iload_n 2, 1), (.aload_n 0, 1), (.getfield 11, 3), (.iload_n 1, 1), (.aaload, 1), (.invokestatic 130, 3), (.invokevirtual 95, 3), (.ireturn, 1)] (by decide +kernel) (by decide +kernel)
theorem dMod_copy_0 : decode cMod_copy 0 = .ok (.aload_n 0, 1) := zfMod_copy_0.1
theorem dMod_copy_1 : decode cMod_copy 1 = .ok (.iload_n 1, 1) := zfMod_copy_0.2.1
theorem dMod_copy_2 : decode cMod_copy 2 = .ok (.invokestatic 81, 3) := zfMod_copy_0.2.2.1
theorem dMod_copy_5 : decode cMod_copy 5 = .ok (.ifCond .ne 10, 3) := zfMod_copy_0.2.2.2.1
theorem dMod_copy_8 : decode cMod_copy 8 = .ok (.iload_n 2, 1) := zfMod_copy_0.2.2.2.2.1
theorem dMod_copy_9 : decode cMod_copy 9 = .ok (.invokestatic 81, 3) := zfMod_copy_0.2.2.2.2.2.1
theorem dMod_copy_12 : decode cMod_copy 12 = .ok (.ifCond .eq 7, 3) := zfMod_copy_0.2.2.2.2.2.2.1
theorem dMod_copy_15 : decode cMod_copy 15 = .ok (.iconst 1, 1) := zfMod_copy_0.2.2.2.2.2.2.2.1
theorem dMod_copy_16 : decode cMod_copy 16 = .ok (.goto 4, 3) := zfMod_copy_0.2.2.2.2.2.2.2.2.1
theorem dMod_copy_19 : decode cMod_copy 19 = .ok (.iconst 0, 1) := zfMod_copy_0.2.2.2.2.2.2.2.2.2.1
theorem dMod_copy_20 : decode cMod_copy 20 = .ok (.iconst 0, 1) := zfMod_copy_0.2.2.2.2.2.2.2.2.2.2.1
theorem dMod_copy_21 : decode cMod_copy 21 = .ok (.iconst 0, 1) := zfMod_copy_0.2.2.2.2.2.2.2.2.2.2.2.1
theorem dMod_copy_22 : decode cMod_copy 22 = .ok (.invokevirtual 88, 3) := zfMod_copy_0.2.2.2.2.2.2.2.2.2.2.2.2.1
theorem dMod_copy_25 : decode cMod_copy 25 = .ok (.ifCond .eq 7, 3) := zfMod_copy_0.2.2.2.2.2.2.2.2.2.2.2.2.2.1
theorem dMod_copy_28 : decode cMod_copy 28 = .ok (.iconst 0, 1) := zfMod_copy_0.2.2.2.2.2.2.2.2.2.2.2.2.2.2.1
theorem dMod_copy_29 : decode cMod_copy 29 = .ok (.goto 17, 3) := zfMod_copy_0.2.2.2.2.2.2.2.2.2.2.2.2.2.2.2.1
theorem dMod_copy_32 : decode cMod_copy 32 = .ok (.aload_n 0, 1) := zfMod_copy_0.2.2.2.2.2.2.2.2.2.2.2.2.2.2.2.2.1
theorem dMod_copy_33 : decode cMod_copy 33 = .ok (.iload_n 2, 1) := zfMod_copy_0.2.2.2.2.2.2.2.2.2.2.2.2.2.2.2.2.2.1
theorem dMod_copy_34 : decode cMod_copy 34 = .ok (.aload_n 0, 1) := zfMod_copy_0.2.2.2.2.2.2.2.2.2.2.2.2.2.2.2.2.2.2.1
theorem dMod_copy_35 : decode cMod_copy 35 = .ok (.getfield 11, 3) := zfMod_copy_0.2.2.2.2.2.2.2.2.2.2.2.2.2.2.2.2.2.2.2.1
theorem dMod_copy_38 : decode cMod_copy 38 = .ok (.iload_n 1, 1) := zfMod_copy_0.2.2.2.2.2.2.2.2.2.2.2.2.2.2.2.2.2.2.2.2.1
theorem dMod_copy_39 : decode cMod_copy 39 = .ok (.aaload, 1) := zfMod_copy_0.2.2.2.2.2.2.2.2.2.2.2.2.2.2.2.2.2.2.2.2.2.1
theorem dMod_copy_40 : decode cMod_copy 40 = .ok (.invokestatic 130, 3) := zfMod_copy_0.2.2.2.2.2.2.2.2.2.2.2.2.2.2.2.2.2.2.2.2.2.2.1
theorem dMod_copy_43 : decode cMod_copy 43 = .ok (.invokevirtual 95, 3) := zfMod_copy_0.2.2.2.2.2.2.2.2.2.2.2.2.2.2.2.2.2.2.2.2.2.2.2.1
theorem dMod_copy_46 : decode cMod_copy 46 = .ok (.ireturn, 1) := zfMod_copy_0.2.2.2.2.2.2.2.2.2.2.2.2.2.2.2.2.2.2.2.2.2.2.2.2.1
theorem zfMod_places_0 : decode cMod_places 0 = .ok (.aload_n 0, 1) ∧ decode cMod_places 1 = .ok (.iload_n 1, 1) ∧ decode cMod_places 2 = .ok (.invokestatic 81, 3) ∧ decode cMod_places 5 = .ok (.iload_n 2, 1) ∧ decode cMod_places 6 = .ok (.iconst 0, 1) ∧ decode cMod_places 7 = .ok (.bipush 16, 2) ∧ decode cMod_places 9 = .ok (.invokestatic 41, 3) ∧ decode cMod_places 12 = .ok (.iconst 0, 1) ∧ decode cMod_places 13 = .ok (.invokevirtual 88, 3) ∧ decode cMod_places 16 = .ok (.ifCond .eq 5, 3) ∧ decode cMod_places 19 = .ok (.iconst 0, 1) ∧ decode cMod_places 20 = .ok (.ireturn, 1) ∧ decode cMod_places 21 = .ok (.iload_n 2, 1) ∧ decode cMod_places 22 = .ok (.newarray .int, 2) ∧ decode cMod_places 24 = .ok (.astore_n 3, 1) ∧ decode cMod_places 25 = .ok (.iconst 0, 1) ∧ decode cMod_places 26 = .ok (.istore 4, 2) ∧ decode cMod_places 28 = .ok (.iload 4, 2) ∧ decode cMod_places 30 = .ok (.iload_n 2, 1) ∧ decode cMod_places 31 = .ok (.if_icmp .ge 15, 3) ∧ decode cMod_places 34 = .ok (.aload_n 3, 1) ∧ decode cMod_places 35 = .ok (.iload 4, 2) ∧ decode cMod_places 37 = .ok (.iload 4, 2) ∧ decode cMod_places 39 = .ok (.iastore, 1) ∧ decode cMod_places 40 = .ok (.iinc 4 1, 3) ∧ decode cMod_places 43 = .ok (.goto (-15), 3) ∧ decode cMod_places 46 = .ok (.aload_n 0, 1) ∧ decode cMod_places 47 = .ok (.iload_n 1, 1) ∧ decode cMod_places 48 = .ok (.aload_n 3, 1) ∧ decode cMod_places 49 = .ok (.invokevirtual 95, 3) ∧ decode cMod_places 52 = .ok (.ireturn, 1) ∧ True := Jvm.Free.DS.facts (code := cMod_places) 0 [(.aload_n 0, 1), (.iload_n 1, 1), (.invokestatic 81, 3), (.iload_n 2, 1), (.iconst 0, 1), (.bipush 16, 2), (.invokestatic 41, 3), (.iconst 0, 1), (.invokevirtual 88, 3), (.ifCond .eq 5, 3), (.iconst 0, 1), (.ireturn, 1), (.iload_n 2, 1), (.newarray .int, 2), (.astore_n 3, 1), (.iconst 0, 1), (.istore 4, 2), (.iload 4, 2), (.iload_n 2, 1), (.if_icmp .ge 15, 3), (.aload_n 3, 1), (.iload 4, 2), (.iload 4, 2), (.iastore, 1), (.iinc 4 1, 3), (.goto (-15), 3), (.aload_n 0, 1), (.iload_n 1, 1), (.aload_n 3, 1), (.invokevirtual 95, 3), (.ireturn, 1)] (by decide +kernel) (by decide +kernel)
theorem dMod_places_0 : decode cMod_places 0 = .ok (.aload_n 0, 1) := zfMod_places_0.1
theorem dMod_places_1 : decode cMod_places 1 = .ok (.iload_n 1, 1) := zfMod_places_0.2.1
theorem dMod_places_2 : decode cMod_places 2 = .ok (.invokestatic 81, 3) := zfMod_places_0.2.2.1
theorem dMod_places_5 : decode cMod_places 5 = .ok (.iload_n 2, 1) := zfMod_places_0.2.2.2.1
theorem dMod_places_6 : decode cMod_places 6 = .ok (.iconst 0, 1) := zfMod_places_0.2.2.2.2.1
theorem dMod_places_7 : decode cMod_places 7 = .ok (.bipush 16, 2) := zfMod_places_0.2.2.2.2.2.1
theorem dMod_places_9 : decode cMod_places 9 = .ok (.invokestatic 41, 3) := zfMod_places_0.2.2.2.2.2.2.1
theorem dMod_places_12 : decode cMod_places 12 = .ok (.iconst 0, 1) := zfMod_places_0.2.2.2.2.2.2.2.1
theorem dMod_places_13 : decode cMod_places 13 = .ok (.invokevirtual 88, 3) := zfMod_places_0.2.2.2.2.2.2.2.2.1
theorem dMod_places_16 : decode cMod_places 16 = .ok (.ifCond .eq 5, 3) := zfMod_places_0.2.2.2.2.2.2.2.2.2.1
theorem dMod_places_19 : decode cMod_places 19 = .ok (.iconst 0, 1) := zfMod_places_0.2.2.2.2.2.2.2.2.2.2.1
theorem dMod_places_20 : decode cMod_places 20 = .ok (.ireturn, 1) := zfMod_places_0.2.2.2.2.2.2.2.2.2.2.2.1
theorem dMod_places_21 : decode cMod_places 21 = .ok (.iload_n 2, 1) := zfMod_places_0.2.2.2.2.2.2.2.2.2.2.2.2.1
theorem dMod_places_22 : decode cMod_places 22 = .ok (.newarray .int, 2) := zfMod_places_0.2.2.2.2.2.2.2.2.2.2.2.2.2.1
theorem dMod_places_24 : decode cMod_places 24 = .ok (.astore_n 3, 1) := zfMod_places_0.2.2.2.2.2.2.2.2.2.2.2.2.2.2.1
theorem dMod_places_25 : decode cMod_places 25 = .ok (.iconst 0, 1) := zfMod_places_0.2.2.2.2.2.2.2.2.2.2.2.2.2.2.2.1
theorem dMod_places_26 : decode cMod_places 26 = .ok (.istore 4, 2) := zfMod_places_0.2.2.2.2.2.2.2.2.2.2.2.2.2.2.2.2.1
theorem dMod_places_28 : decode cMod_places 28 = .ok (.iload 4, 2) := zfMod_places_0.2.2.2.2.2.2.2.2.2.2.2.2.2.2.2.2.2.1
theorem dMod_places_30 : decode cMod_places 30 = .ok (.iload_n 2, 1) := zfMod_places_0.2.2.2.2.2.2.2.2.2.2.2.2.2.2.2.2.2.2.1
theorem dMod_places_31 : decode cMod_places 31 = .ok (.if_icmp .ge 15, 3) := zfMod_places_0.2.2.2.2.2.2.2.2.2.2.2.2.2.2.2.2.2.2.2.1
theorem dMod_places_34 : decode cMod_places 34 = .ok (.aload_n 3, 1) := zfMod_places_0.2.2.2.2.2.2.2.2.2.2.2.2.2.2.2.2.2.2.2.2.1
theorem dMod_places_35 : decode cMod_places 35 = .ok (.iload 4, 2) := zfMod_places_0.2.2.2.2.2.2.2.2.2.2.2.2.2.2.2.2.2.2.2.2.2.1
theorem dMod_places_37 : decode cMod_places 37 = .ok (.iload 4, 2) := zfMod_places_0.2.2.2.2.2.2.2.2.2.2.2.2.2.2.2.2.2.2.2.2.2.2.1
theorem dMod_places_39 : decode cMod_places 39 = .ok (.iastore, 1) := zfMod_places_0.2.2.2.2.2.2.2.2.2.2.2.2.2.2.2.2.2.2.2.2.2.2.2.1
theorem dMod_places_40 : decode cMod_places 40 = .ok (.iinc 4 1, 3) := zfMod_places_0.2.2.2.2.2.2.2.2.2.2.2.2.2.2.2.2.2.2.2.2.2.2.2.2.1
theorem dMod_places_43 : decode cMod_places 43 = .ok (.goto (-15), 3) := zfMod_places_0.2.2.2.2.2.2.2.2.2.2.2.2.2.2.2.2.2.2.2.2.2.2.2.2.2.1
theorem dMod_places_46 : decode cMod_places 46 = .ok (.aload_n 0, 1) := zfMod_places_0.2.2.2.2.2.2.2.2.2.2.2.2.2.2.2.2.2.2.2.2.2.2.2.2.2.2.1
theorem dMod_places_47 : decode cMod_places 47 = .ok (.iload_n 1, 1) := zfMod_places_0.2.2.2.2.2.2.2.2.2.2.2.2.2.2.2.2.2.2.2.2.2.2.2.2.2.2.2.1
theorem dMod_places_48 : decode cMod_places 48 = .ok (.aload_n 3, 1) := zfMod_places_0.2.2.2.2.2.2.2.2.2.2.2.2.2.2.2.2.2.2.2.2.2.2.2.2.2.2.2.2.1
theorem dMod_places_49 : decode cMod_places 49 = .ok (.invokevirtual 95, 3) := zfMod_places_0.2.2.2.2.2.2.2.2.2.2.2.2.2.2.2.2.2.2.2.2.2.2.2.2.2.2.2.2.2.1
theorem dMod_places_52 : decode cMod_places 52 = .ok (.ireturn, 1) := zfMod_places_0.2.2.2.2.2.2.2.2.2.2.2.2.2.2.2.2.2.2.2.2.2.2.2.2.2.2.2.2.2.2.1
theorem zfMod_first_0 : decode cMod_first 0 = .ok (.aload_n 0, 1) ∧ decode cMod_first 1 = .ok (.getfield 11, 3) ∧ decode cMod_first 4 = .ok (.iload_n 1, 1) ∧ decode cMod_first 5 = .ok (.aaload, 1) ∧ decode cMod_first 6 = .ok (.arraylength, 1) ∧ decode cMod_first 7 = .ok (.ifCond .ne 9, 3) ∧ decode cMod_first 10 = .ok (.sipush 10000, 3) ∧ decode cMod_first 13 = .ok (.goto 11, 3) ∧ decode cMod_first 16 = .ok (.aload_n 0, 1) ∧ decode cMod_first 17 = .ok (.getfield 11, 3) ∧ decode cMod_first 20 = .ok (.iload_n 1, 1) ∧ decode cMod_first 21 = .ok (.aaload, 1) ∧ decode cMod_first 22 = .ok (.iconst 0, 1) ∧ decode cMod_first 23 = .ok (.iaload, 1) ∧ decode cMod_first 24 = .ok (.ireturn, 1) ∧ True := Jvm.Free.DS.facts (code := cMod_first) 0 [(.aload_n 0, 1), (.getfield 11, 3), (.iload_n 1, 1), (.aaload, 1), (.arraylength, 1), (.ifCond .ne 9, 3), (.sipush 10000, 3), (.goto 11, 3), (.aload_n 0, 1), (.getfield 11, 3), (.iload_n 1, 1), (.aaload, 1), (.iconst 0, 1), (.iaload, 1), (.ireturn, 1)] (by decide +kernel) (by decide +kernel)
theorem dMod_first_0 : decode cMod_first 0 = .ok (.aload_n 0, 1) := zfMod_first_0.1
theorem dMod_first_1 : decode cMod_first 1 = .ok (.getfield 11, 3) := zfMod_first_0.2.1
theorem dMod_first_4 : decode cMod_first 4 = .ok (.iload_n 1, 1) := zfMod_first_0.2.2.1
theorem dMod_first_5 : decode cMod_first 5 = .ok (.aaload, 1) := zfMod_first_0.2.2.2.1
theorem dMod_first_6 : decode cMod_first 6 = .ok (.arraylength, 1) := zfMod_first_0.2.2.2.2.1
theorem dMod_first_7 : decode cMod_first 7 = .ok (.ifCond .ne 9, 3) := zfMod_first_0.2.2.2.2.2.1
theorem dMod_first_10 : decode cMod_first 10 = .ok (.sipush 10000, 3) := zfMod_first_0.2.2.2.2.2.2.1
theorem dMod_first_13 : decode cMod_first 13 = .ok (.goto 11, 3) := zfMod_first_0.2.2.2.2.2.2.2.1
theorem dMod_first_16 : decode cMod_first 16 = .ok (.aload_n 0, 1) := zfMod_first_0.2.2.2.2.2.2.2.2.1
theorem dMod_first_17 : decode cMod_first 17 = .ok (.getfield 11, 3) := zfMod_first_0.2.2.2.2.2.2.2.2.2.1
theorem dMod_first_20 : decode cMod_first 20 = .ok (.iload_n 1, 1) := zfMod_first_0.2.2.2.2.2.2.2.2.2.2.1
theorem dMod_first_21 : decode cMod_first 21 = .ok (.aaload, 1) := zfMod_first_0.2.2.2.2.2.2.2.2.2.2.2.1
theorem dMod_first_22 : decode cMod_first 22 = .ok (.iconst 0, 1) := zfMod_first_0.2.2.2.2.2.2.2.2.2.2.2.2.1
theorem dMod_first_23 : decode cMod_first 23 = .ok (.iaload, 1) := zfMod_first_0.2.2.2.2.2.2.2.2.2.2.2.2.2.1
theorem dMod_first_24 : decode cMod_first 24 = .ok (.ireturn, 1) := zfMod_first_0.2.2.2.2.2.2.2.2.2.2.2.2.2.2.1
theorem zfMod_rotate_0 : decode cMod_rotate 0 = .ok (.aload_n 0, 1) ∧ decode cMod_rotate 1 = .ok (.iload_n 1, 1) ∧ decode cMod_rotate 2 = .ok (.invokestatic 81, 3) ∧ decode cMod_rotate 5 = .ok (.iload_n 2, 1) ∧ decode cMod_rotate 6 = .ok (.bipush (-99), 2) ∧ decode cMod_rotate 8 = .ok (.bipush 99, 2) ∧ decode cMod_rotate 10 = .ok (.invokestatic 41, 3) ∧ decode cMod_rotate 13 = .ok (.iconst 0, 1) ∧ decode cMod_rotate 14 = .ok (.invokevirtual 88, 3) ∧ decode cMod_rotate 17 = .ok (.ifCond .eq 5, 3) ∧ decode cMod_rotate 20 = .ok (.iconst 0, 1) ∧ decode cMod_rotate 21 = .ok (.ireturn, 1) ∧ decode cMod_rotate 22 = .ok (.aload_n 0, 1) ∧ decode cMod_rotate 23 = .ok (.getfield 11, 3) ∧ decode cMod_rotate 26 = .ok (.iload_n 1, 1) ∧ decode cMod_rotate 27 = .ok (.aaload, 1) ∧ decode cMod_rotate 28 = .ok (.astore_n 3, 1) ∧ decode cMod_rotate 29 = .ok (.iload_n 2, 1) ∧ decode cMod_rotate 30 = .ok (.ifCond .ge 8, 3) ∧ decode cMod_rotate 33 = .ok (.iload_n 2, 1) ∧ decode cMod_rotate 34 = .ok (.ineg, 1) ∧ decode cMod_rotate 35 = .ok (.goto 4, 3) ∧ decode cMod_rotate 38 = .ok (.iload_n 2, 1) ∧ decode cMod_rotate 39 = .ok (.istore 4, 2) ∧ decode cMod_rotate 41 = .ok (.iconst 0, 1) ∧ decode cMod_rotate 42 = .ok (.istore 5, 2) ∧ decode cMod_rotate 44 = .ok (.iload 5, 2) ∧ decode cMod_rotate 46 = .ok (.iload 4, 2) ∧ decode cMod_rotate 48 = .ok (.if_icmp .ge 58, 3) ∧ decode cMod_rotate 51 = .ok (.aload_n 3, 1) ∧ decode cMod_rotate 52 = .ok (.arraylength, 1) ∧ decode cMod_rotate 53 = .ok (.ifCond .le 53, 3) ∧ True := Jvm.Free.DS.facts (code := cMod_rotate) 0 [(.aload_n 0, 1), (.iload_n 1, 1), (.invokestatic 81, 3), (.iload_n 2, 1), (.bipush (-99), 2), (.bipush 99, 2), (.invokestatic 41, 3), (.iconst 0, 1), (.invokevirtual 88, 3), (.ifCond .eq 5, 3), (.iconst 0, 1), (.ireturn, 1), (.aload_n 0, 1), (.getfield 11, 3), (.iload_n 1, 1), (.aaload, 1), (.astore_n 3, 1), (.iload_n 2, 1), (.ifCond .ge 8, 3), (.iload_n 2, 1), (.ineg, 1), (.goto 4, 3), (.iload_n 2, 1), (.istore 4, 2), (.iconst 0, 1), (.istore 5, 2), (.iload 5, 2), (.iload 4, 2), (.if_icmp .ge 58, 3), (.aload_n 3, 1), (.arraylength, 1), (.ifCond .le 53, 3)] (by decide +kernel) (by decide +kernel)
theorem dMod_rotate_0 : decode cMod_rotate 0 = .ok (.aload_n 0, 1) := zfMod_rotate_0.1
theorem dMod_rotate_1 : decode cMod_rotate 1 = .ok (.iload_n 1, 1) := zfMod_rotate_0.2.1
theorem dMod_rotate_2 : decode cMod_rotate 2 = .ok (.invokestatic 81, 3) := zfMod_rotate_0.2.2.1
theorem dMod_rotate_5 : decode cMod_rotate 5 = .ok (.iload_n 2, 1) := zfMod_rotate_0.2.2.2.1
theorem dMod_rotate_6 : decode cMod_rotate 6 = .ok (.bipush (-99), 2) := zfMod_rotate_0.2.2.2.2.1
theorem dMod_rotate_8 : decode cMod_rotate 8 = .ok (.bipush 99, 2) := zfMod_rotate_0.2.2.2.2.2.1
theorem dMod_rotate_10 : decode cMod_rotate 10 = .ok (.invokestatic 41, 3) := zfMod_rotate_0.2.2.2.2.2.2.1
theorem dMod_rotate_13 : decode cMod_rotate 13 = .ok (.iconst 0, 1) := zfMod_rotate_0.2.2.2.2.2.2.2.1
theorem dMod_rotate_14 : decode cMod_rotate 14 = .ok (.invokevirtual 88, 3) := zfMod_rotate_0.2.2.2.2.2.2.2.2.1
theorem dMod_rotate_17 : decode cMod_rotate 17 = .ok (.ifCond .eq 5, 3) := zfMod_rotate_0.2.2.2.2.2.2.2.2.2.1
theorem dMod_rotate_20 : decode cMod_rotate 20 = .ok (.iconst 0, 1) := zfMod_rotate_0.2.2.2.2.2.2.2.2.2.2.1
theorem dMod_rotate_21 : decode cMod_rotate 21 = .ok (.ireturn, 1) := zfMod_rotate_0.2.2.2.2.2.2.2.2.2.2.2.1
theorem dMod_rotate_22 : decode cMod_rotate 22 = .ok (.aload_n 0, 1) := zfMod_rotate_0.2.2.2.2.2.2.2.2.2.2.2.2.1
theorem dMod_rotate_23 : decode cMod_rotate 23 = .ok (.getfield 11, 3) := zfMod_rotate_0.2.2.2.2.2.2.2.2.2.2.2.2.2.1
theorem dMod_rotate_26 : decode cMod_rotate 26 = .ok (.iload_n 1, 1) := zfMod_rotate_0.2.2.2.2.2.2.2.2.2.2.2.2.2.2.1
theorem dMod_rotate_27 : decode cMod_rotate 27 = .ok (.aaload, 1) := zfMod_rotate_0.2.2.2.2.2.2.2.2.2.2.2.2.2.2.2.1
theorem dMod_rotate_28 : decode cMod_rotate 28 = .ok (.astore_n 3, 1) := zfMod_rotate_0.2.2.2.2.2.2.2.2.2.2.2.2.2.2.2.2.1
theorem dMod_rotate_29 : decode cMod_rotate 29 = .ok (.iload_n 2, 1) := zfMod_rotate_0.2.2.2.2.2.2.2.2.2.2.2.2.2.2.2.2.2.1
theorem dMod_rotate_30 : decode cMod_rotate 30 = .ok (.ifCond .ge 8, 3) := zfMod_rotate_0.2.2.2.2.2.2.2.2.2.2.2.2.2.2.2.2.2.2.1
theorem dMod_rotate_33 : decode cMod_rotate 33 = .ok (.iload_n 2, 1) := zfMod_rotate_0.2.2.2.2.2.2.2.2.2.2.2.2.2.2.2.2.2.2.2.1
theorem dMod_rotate_34 : decode cMod_rotate 34 = .ok (.ineg, 1) := zfMod_rotate_0.2.2.2.2.2.2.2.2.2.2.2.2.2.2.2.2.2.2.2.2.1
theorem dMod_rotate_35 : decode cMod_rotate 35 = .ok (.goto 4, 3) := zfMod_rotate_0.2.2.2.2.2.2.2.2.2.2.2.2.2.2.2.2.2.2.2.2.2.1
theorem dMod_rotate_38 : decode cMod_rotate 38 = .ok (.iload_n 2, 1) := zfMod_rotate_0.2.2.2.2.2.2.2.2.2.2.2.2.2.2.2.2.2.2.2.2.2.2.1
theorem dMod_rotate_39 : decode cMod_rotate 39 = .ok (.istore 4, 2) := zfMod_rotate_0.2.2.2.2.2.2.2.2.2.2.2.2.2.2.2.2.2.2.2.2.2.2.2.1
theorem dMod_rotate_41 : decode cMod_rotate 41 = .ok (.iconst 0, 1) := zfMod_rotate_0.2.2.2.2.2.2.2.2.2.2.2.2.2.2.2.2.2.2.2.2.2.2.2.2.1
theorem dMod_rotate_42 : decode cMod_rotate 42 = .ok (.istore 5, 2) := zfMod_rotate_0.2.2.2.2.2.2.2.2.2.2.2.2.2.2.2.2.2.2.2.2.2.2.2.2.2.1
theorem dMod_rotate_44 : decode cMod_rotate 44 = .ok (.iload 5, 2) := zfMod_rotate_0.2.2.2.2.2.2.2.2.2.2.2.2.2.2.2.2.2.2.2.2.2.2.2.2.2.2.1
theorem dMod_rotate_46 : decode cMod_rotate 46 = .ok (.iload 4, 2) := zfMod_rotate_0.2.2.2.2.2.2.2.2.2.2.2.2.2.2.2.2.2.2.2.2.2.2.2.2.2.2.2.1
theorem dMod_rotate_48 : decode cMod_rotate 48 = .ok (.if_icmp .ge 58, 3) := zfMod_rotate_0.2.2.2.2.2.2.2.2.2.2.2.2.2.2.2.2.2.2.2.2.2.2.2.2.2.2.2.2.1
theorem dMod_rotate_51 : decode cMod_rotate 51 = .ok (.aload_n 3, 1) := zfMod_rotate_0.2.2.2.2.2.2.2.2.2.2.2.2.2.2.2.2.2.2.2.2.2.2.2.2.2.2.2.2.2.1
theorem dMod_rotate_52 : decode cMod_rotate 52 = .ok (.arraylength, 1) := zfMod_rotate_0.2.2.2.2.2.2.2.2.2.2.2.2.2.2.2.2.2.2.2.2.2.2.2.2.2.2.2.2.2.2.1
theorem dMod_rotate_53 : decode cMod_rotate 53 = .ok (.ifCond .le 53, 3) := zfMod_rotate_0.2.2.2.2.2.2.2.2.2.2.2.2.2.2.2.2.2.2.2.2.2.2.2.2.2.2.2.2.2.2.2.1
theorem zfMod_rotate_56 : decode cMod_rotate 56 = .ok (.iload_n 2, 1) ∧ decode cMod_rotate 57 = .ok (.ifCond .le 10, 3) ∧ decode cMod_rotate 60 = .ok (.aload_n 3, 1) ∧ decode cMod_rotate 61 = .ok (.arraylength, 1) ∧ decode cMod_rotate 62 = .ok (.iconst 1, 1) ∧ decode cMod_rotate 63 = .ok (.isub, 1) ∧ decode cMod_rotate 64 = .ok (.goto 4, 3) ∧ decode cMod_rotate 67 = .ok (.iconst 0, 1) ∧ decode cMod_rotate 68 = .ok (.istore 6, 2) ∧ decode cMod_rotate 70 = .ok (.aload_n 3, 1) ∧ decode cMod_rotate 71 = .ok (.iload 6, 2) ∧ decode cMod_rotate 73 = .ok (.iaload, 1) ∧ decode cMod_rotate 74 = .ok (.istore 7, 2) ∧ decode cMod_rotate 76 = .ok (.aload_n 3, 1) ∧ decode cMod_rotate 77 = .ok (.iload 6, 2) ∧ decode cMod_rotate 79 = .ok (.invokestatic 102, 3) ∧ decode cMod_rotate 82 = .ok (.astore_n 3, 1) ∧ decode cMod_rotate 83 = .ok (.aload_n 3, 1) ∧ decode cMod_rotate 84 = .ok (.iload_n 2, 1) ∧ decode cMod_rotate 85 = .ok (.ifCond .le 7, 3) ∧ decode cMod_rotate 88 = .ok (.iconst 0, 1) ∧ decode cMod_rotate 89 = .ok (.goto 5, 3) ∧ decode cMod_rotate 92 = .ok (.aload_n 3, 1) ∧ decode cMod_rotate 93 = .ok (.arraylength, 1) ∧ decode cMod_rotate 94 = .ok (.iload 7, 2) ∧ decode cMod_rotate 96 = .ok (.invokestatic 49, 3) ∧ decode cMod_rotate 99 = .ok (.astore_n 3, 1) ∧ decode cMod_rotate 100 = .ok (.iinc 5 1, 3) ∧ decode cMod_rotate 103 = .ok (.goto (-59), 3) ∧ decode cMod_rotate 106 = .ok (.aload_n 0, 1) ∧ decode cMod_rotate 107 = .ok (.iload_n 1, 1) ∧ decode cMod_rotate 108 = .ok (.aload_n 3, 1) ∧ True := Jvm.Free.DS.facts (code := cMod_rotate) 56 [(.iload_n 2, 1), (.ifCond .le 10, 3), (.aload_n 3, 1), (.arraylength, 1), (.iconst 1, 1), (.isub, 1), (.goto 4, 3), (.iconst 0, 1), (.istore 6, 2), (.aload_n 3, 1), (.iload 6, 2), (.iaload, 1), (.istore 7, 2), (.aload_n 3, 1), (.iload 6, 2), (.invokestatic 102, 3), (.astore_n 3, 1), (.aload_n 3, 1), (.iload_n 2, 1), (.ifCond .le 7, 3), (.iconst 0, 1), (.goto 5, 3), (.aload_n 3, 1), (.arraylength, 1), (.iload 7, 2), (.invokestatic 49, 3), (.astore_n 3, 1), (.iinc 5 1, 3), (.goto (-59), 3), (.aload_n 0, 1), (.iload_n 1, 1), (.aload_n 3, 1)] (by decide +kernel) (by decide +kernel)
theorem dMod_rotate_56 : decode cMod_rotate 56 = .ok (.iload_n 2, 1) := zfMod_rotate_56.1
theorem dMod_rotate_57 : decode cMod_rotate 57 = .ok (.ifCond .le 10, 3) := zfMod_rotate_56.2.1
theorem dMod_rotate_60 : decode cMod_rotate 60 = .ok (.aload_n 3, 1) := zfMod_rotate_56.2.2.1
theorem dMod_rotate_61 : decode cMod_rotate 61 = .ok (.arraylength, 1) := zfMod_rotate_56.2.2.2.1
theorem dMod_rotate_62 : decode cMod_rotate 62 = .ok (.iconst 1, 1) := zfMod_rotate_56.2.2.2.2.1
theorem dMod_rotate_63 : decode cMod_rotate 63 = .ok (.isub, 1) := zfMod_rotate_56.2.2.2.2.2.1
theorem dMod_rotate_64 : decode cMod_rotate 64 = .ok (.goto 4, 3) := zfMod_rotate_56.2.2.2.2.2.2.1
theorem dMod_rotate_67 : decode cMod_rotate 67 = .ok (.iconst 0, 1) := zfMod_rotate_56.2.2.2.2.2.2.2.1
theorem dMod_rotate_68 : decode cMod_rotate 68 = .ok (.istore 6, 2) := zfMod_rotate_56.2.2.2.2.2.2.2.2.1
theorem dMod_rotate_70 : decode cMod_rotate 70 = .ok (.aload_n 3, 1) := zfMod_rotate_56.2.2.2.2.2.2.2.2.2.1
theorem dMod_rotate_71 : decode cMod_rotate 71 = .ok (.iload 6, 2) := zfMod_rotate_56.2.2.2.2.2.2.2.2.2.2.1
theorem dMod_rotate_73 : decode cMod_rotate 73 = .ok (.iaload, 1) := zfMod_rotate_56.2.2.2.2.2.2.2.2.2.2.2.1
theorem dMod_rotate_74 : decode cMod_rotate 74 = .ok (.istore 7, 2) := zfMod_rotate_56.2.2.2.2.2.2.2.2.2.2.2.2.1
theorem dMod_rotate_76 : decode cMod_rotate 76 = .ok (.aload_n 3, 1) := zfMod_rotate_56.2.2.2.2.2.2.2.2.2.2.2.2.2.1
theorem dMod_rotate_77 : decode cMod_rotate 77 = .ok (.iload 6, 2) := zfMod_rotate_56.2.2.2.2.2.2.2.2.2.2.2.2.2.2.1
theorem dMod_rotate_79 : decode cMod_rotate 79 = .ok (.invokestatic 102, 3) := zfMod_rotate_56.2.2.2.2.2.2.2.2.2.2.2.2.2.2.2.1
theorem dMod_rotate_82 : decode cMod_rotate 82 = .ok (.astore_n 3, 1) := zfMod_rotate_56.2.2.2.2.2.2.2.2.2.2.2.2.2.2.2.2.1
theorem dMod_rotate_83 : decode cMod_rotate 83 = .ok (.aload_n 3, 1) := zfMod_rotate_56.2.2.2.2.2.2.2.2.2.2.2.2.2.2.2.2.2.1
theorem dMod_rotate_84 : decode cMod_rotate 84 = .ok (.iload_n 2, 1) := zfMod_rotate_56.2.2.2.2.2.2.2.2.2.2.2.2.2.2.2.2.2.2.1
theorem dMod_rotate_85 : decode cMod_rotate 85 = .ok (.ifCond .le 7, 3) := zfMod_rotate_56.2.2.2.2.2.2.2.2.2.2.2.2.2.2.2.2.2.2.2.1
theorem dMod_rotate_88 : decode cMod_rotate 88 = .ok (.iconst 0, 1) := zfMod_rotate_56.2.2.2.2.2.2.2.2.2.2.2.2.2.2.2.2.2.2.2.2.1
theorem dMod_rotate_89 : decode cMod_rotate 89 = .ok (.goto 5, 3) := zfMod_rotate_56.2.2.2.2.2.2.2.2.2.2.2.2.2.2.2.2.2.2.2.2.2.1
theorem dMod_rotate_92 : decode cMod_rotate 92 = .ok (.aload_n 3, 1) := zfMod_rotate_56.2.2.2.2.2.2.2.2.2.2.2.2.2.2.2.2.2.2.2.2.2.2.1
theorem dMod_rotate_93 : decode cMod_rotate 93 = .ok (.arraylength, 1) := zfMod_rotate_56.2.2.2.2.2.2.2.2.2.2.2.2.2.2.2.2.2.2.2.2.2.2.2.1
theorem dMod_rotate_94 : decode cMod_rotate 94 = .ok (.iload 7, 2) := zfMod_rotate_56.2.2.2.2.2.2.2.2.2.2.2.2.2.2.2.2.2.2.2.2.2.2.2.2.1
theorem dMod_rotate_96 : decode cMod_rotate 96 = .ok (.invokestatic 49, 3) := zfMod_rotate_56.2.2.2.2.2.2.2.2.2.2.2.2.2.2.2.2.2.2.2.2.2.2.2.2.2.1
theorem dMod_rotate_99 : decode cMod_rotate 99 = .ok (.astore_n 3, 1) := zfMod_rotate_56.2.2.2.2.2.2.2.2.2.2.2.2.2.2.2.2.2.2.2.2.2.2.2.2.2.2.1
theorem dMod_rotate_100 : decode cMod_rotate 100 = .ok (.iinc 5 1, 3) := zfMod_rotate_56.2.2.2.2.2.2.2.2.2.2.2.2.2.2.2.2.2.2.2.2.2.2.2.2.2.2.2.1
theorem dMod_rotate_103 : decode cMod_rotate 103 = .ok (.goto (-59), 3) := zfMod_rotate_56.2.2.2.2.2.2.2.2.2.2.2.2.2.2.2.2.2.2.2.2.2.2.2.2.2.2.2.2.1
theorem dMod_rotate_106 : decode cMod_rotate 106 = .ok (.aload_n 0, 1) := zfMod_rotate_56.2.2.2.2.2.2.2.2.2.2.2.2.2.2.2.2.2.2.2.2.2.2.2.2.2.2.2.2.2.1
theorem dMod_rotate_107 : decode cMod_rotate 107 = .ok (.iload_n 1, 1) := zfMod_rotate_56.2.2.2.2.2.2.2.2.2.2.2.2.2.2.2.2.2.2.2.2.2.2.2.2.2.2.2.2.2.2.1
theorem dMod_rotate_108 : decode cMod_rotate 108 = .ok (.aload_n 3, 1) := zfMod_rotate_56.2.2.2.2.2.2.2.2.2.2.2.2.2.2.2.2.2.2.2.2.2.2.2.2.2.2.2.2.2.2.2.1
theorem zfMod_rotate_109 : decode cMod_rotate 109 = .ok (.iconst (-1), 1) ∧ decode cMod_rotate 110 = .ok (.invokevirtual 77, 3) ∧ decode cMod_rotate 113 = .ok (.aload_n 0, 1) ∧ decode cMod_rotate 114 = .ok (.iload_n 1, 1) ∧ decode cMod_rotate 115 = .ok (.invokevirtual 133, 3) ∧ decode cMod_rotate 118 = .ok (.ireturn, 1) ∧ True := Jvm.Free.DS.facts (code := cMod_rotate) 109 [(.iconst (-1), 1), (.invokevirtual 77, 3), (.aload_n 0, 1), (.iload_n 1, 1), (.invokevirtual 133, 3), (.ireturn, 1)] (by decide +kernel) (by decide +kernel)
theorem dMod_rotate_109 : decode cMod_rotate 109 = .ok (.iconst (-1), 1) := zfMod_rotate_109.1
theorem dMod_rotate_110 : decode cMod_rotate 110 = .ok (.invokevirtual 77, 3) := zfMod_rotate_109.2.1
theorem dMod_rotate_113 : decode cMod_rotate 113 = .ok (.aload_n 0, 1) := zfMod_rotate_109.2.2.1
theorem dMod_rotate_114 : decode cMod_rotate 114 = .ok (.iload_n 1, 1) := zfMod_rotate_109.2.2.2.1
theorem dMod_rotate_115 : decode cMod_rotate 115 = .ok (.invokevirtual 133, 3) := zfMod_rotate_109.2.2.2.2.1
theorem dMod_rotate_118 : decode cMod_rotate 118 = .ok (.ireturn, 1) := zfMod_rotate_109.2.2.2.2.2.1
theorem zfMod_move_0 : decode cMod_move 0 = .ok (.aload_n 0, 1) ∧ decode cMod_move 1 = .ok (.iload_n 1, 1) ∧ decode cMod_move 2 = .ok (.invokestatic 81, 3) ∧ decode cMod_move 5 = .ok (.ifCond .ne 21, 3) ∧ decode cMod_move 8 = .ok (.aload_n 0, 1) ∧ decode cMod_move 9 = .ok (.iload_n 1, 1) ∧ decode cMod_move 10 = .ok (.iload_n 2, 1) ∧ decode cMod_move 11 = .ok (.invokevirtual 106, 3) ∧ decode cMod_move 14 = .ok (.ifCond .ne 12, 3) ∧ decode cMod_move 17 = .ok (.aload_n 0, 1) ∧ decode cMod_move 18 = .ok (.iload_n 1, 1) ∧ decode cMod_move 19 = .ok (.iload_n 3, 1) ∧ decode cMod_move 20 = .ok (.invokevirtual 106, 3) ∧ decode cMod_move 23 = .ok (.ifCond .eq 7, 3) ∧ decode cMod_move 26 = .ok (.iconst 1, 1) ∧ decode cMod_move 27 = .ok (.goto 4, 3) ∧ decode cMod_move 30 = .ok (.iconst 0, 1) ∧ decode cMod_move 31 = .ok (.iconst 0, 1) ∧ decode cMod_move 32 = .ok (.iconst 0, 1) ∧ decode cMod_move 33 = .ok (.invokevirtual 88, 3) ∧ decode cMod_move 36 = .ok (.ifCond .eq 5, 3) ∧ decode cMod_move 39 = .ok (.iconst 0, 1) ∧ decode cMod_move 40 = .ok (.ireturn, 1) ∧ decode cMod_move 41 = .ok (.aload_n 0, 1) ∧ decode cMod_move 42 = .ok (.getfield 11, 3) ∧ decode cMod_move 45 = .ok (.iload_n 1, 1) ∧ decode cMod_move 46 = .ok (.aaload, 1) ∧ decode cMod_move 47 = .ok (.iload_n 2, 1) ∧ decode cMod_move 48 = .ok (.iaload, 1) ∧ decode cMod_move 49 = .ok (.istore 4, 2) ∧ decode cMod_move 51 = .ok (.aload_n 0, 1) ∧ decode cMod_move 52 = .ok (.iload_n 1, 1) ∧ True := Jvm.Free.DS.facts (code := cMod_move) 0 [(.aload_n 0, 1), (.iload_n 1, 1), (.invokestatic 81, 3), (.ifCond .ne 21, 3), (.aload_n 0, 1), (.iload_n 1, 1), (.iload_n 2, 1), (.invokevirtual 106, 3), (.ifCond .ne 12, 3), (.aload_n 0, 1), (.iload_n 1, 1), (.iload_n 3, 1), (.invokevirtual 106, 3), (.ifCond .eq 7, 3), (.iconst 1, 1), (.goto 4, 3), (.iconst 0, 1), (.iconst 0, 1), (.iconst 0, 1), (.invokevirtual 88, 3), (.ifCond .eq 5, 3), (.iconst 0, 1), (.ireturn, 1), (.aload_n 0, 1), (.getfield 11, 3), (.iload_n 1, 1), (.aaload, 1), (.iload_n 2, 1), (.iaload, 1), (.istore 4, 2), (.aload_n 0, 1), (.iload_n 1, 1)] (by decide +kernel) (by decide +kernel)
theorem dMod_move_0 : decode cMod_move 0 = .ok (.aload_n 0, 1) := zfMod_move_0.1
theorem dMod_move_1 : decode cMod_move 1 = .ok (.iload_n 1, 1) := zfMod_move_0.2.1
theorem dMod_move_2 : decode cMod_move 2 = .ok (.invokestatic 81, 3) := zfMod_move_0.2.2.1
theorem dMod_move_5 : decode cMod_move 5 = .ok (.ifCond .ne 21, 3) := zfMod_move_0.2.2.2.1
theorem dMod_move_8 : decode cMod_move 8 = .ok (.aload_n 0, 1) := zfMod_move_0.2.2.2.2.1
theorem dMod_move_9 : decode cMod_move 9 = .ok (.iload_n 1, 1) := zfMod_move_0.2.2.2.2.2.1
theorem dMod_move_10 : decode cMod_move 10 = .ok (.iload_n 2, 1) := zfMod_move_0.2.2.2.2.2.2.1
theorem dMod_move_11 : decode cMod_move 11 = .ok (.invokevirtual 106, 3) := zfMod_move_0.2.2.2.2.2.2.2.1
theorem dMod_move_14 : decode cMod_move 14 = .ok (.ifCond .ne 12, 3) := zfMod_move_0.2.2.2.2.2.2.2.2.1
theorem dMod_move_17 : decode cMod_move 17 = .ok (.aload_n 0, 1) := zfMod_move_0.2.2.2.2.2.2.2.2.2.1
theorem dMod_move_18 : decode cMod_move 18 = .ok (.iload_n 1, 1) := zfMod_move_0.2.2.2.2.2.2.2.2.2.2.1
theorem dMod_move_19 : decode cMod_move 19 = .ok (.iload_n 3, 1) := zfMod_move_0.2.2.2.2.2.2.2.2.2.2.2.1
theorem dMod_move_20 : decode cMod_move 20 = .ok (.invokevirtual 106, 3) := zfMod_move_0.2.2.2.2.2.2.2.2.2.2.2.2.1
theorem dMod_move_23 : decode cMod_move 23 = .ok (.ifCond .eq 7, 3) := zfMod_move_0.2.2.2.2.2.2.2.2.2.2.2.2.2.1
theorem dMod_move_26 : decode cMod_move 26 = .ok (.iconst 1, 1) := zfMod_move_0.2.2.2.2.2.2.2.2.2.2.2.2.2.2.1
theorem dMod_move_27 : decode cMod_move 27 = .ok (.goto 4, 3) := zfMod_move_0.2.2.2.2.2.2.2.2.2.2.2.2.2.2.2.1
theorem dMod_move_30 : decode cMod_move 30 = .ok (.iconst 0, 1) := zfMod_move_0.2.2.2.2.2.2.2.2.2.2.2.2.2.2.2.2.1
theorem dMod_move_31 : decode cMod_move 31 = .ok (.iconst 0, 1) := zfMod_move_0.2.2.2.2.2.2.2.2.2.2.2.2.2.2.2.2.2.1
theorem dMod_move_32 : decode cMod_move 32 = .ok (.iconst 0, 1) := zfMod_move_0.2.2.2.2.2.2.2.2.2.2.2.2.2.2.2.2.2.2.1
theorem dMod_move_33 : decode cMod_move 33 = .ok (.invokevirtual 88, 3) := zfMod_move_0.2.2.2.2.2.2.2.2.2.2.2.2.2.2.2.2.2.2.2.1
theorem dMod_move_36 : decode cMod_move 36 = .ok (.ifCond .eq 5, 3) := zfMod_move_0.2.2.2.2.2.2.2.2.2.2.2.2.2.2.2.2.2.2.2.2.1
theorem dMod_move_39 : decode cMod_move 39 = .ok (.iconst 0, 1) := zfMod_move_0.2.2.2.2.2.2.2.2.2.2.2.2.2.2.2.2.2.2.2.2.2.1
theorem dMod_move_40 : decode cMod_move 40 = .ok (.ireturn, 1) := zfMod_move_0.2.2.2.2.2.2.2.2.2.2.2.2.2.2.2.2.2.2.2.2.2.2.1
theorem dMod_move_41 : decode cMod_move 41 = .ok (.aload_n 0, 1) := zfMod_move_0.2.2.2.2.2.2.2.2.2.2.2.2.2.2.2.2.2.2.2.2.2.2.2.1
theorem dMod_move_42 : decode cMod_move 42 = .ok (.getfield 11, 3) := zfMod_move_0.2.2.2.2.2.2.2.2.2.2.2.2.2.2.2.2.2.2.2.2.2.2.2.2.1
theorem dMod_move_45 : decode cMod_move 45 = .ok (.iload_n 1, 1) := zfMod_move_0.2.2.2.2.2.2.2.2.2.2.2.2.2.2.2.2.2.2.2.2.2.2.2.2.2.1
theorem dMod_move_46 : decode cMod_move 46 = .ok (.aaload, 1) := zfMod_move_0.2.2.2.2.2.2.2.2.2.2.2.2.2.2.2.2.2.2.2.2.2.2.2.2.2.2.1
theorem dMod_move_47 : decode cMod_move 47 = .ok (.iload_n 2, 1) := zfMod_move_0.2.2.2.2.2.2.2.2.2.2.2.2.2.2.2.2.2.2.2.2.2.2.2.2.2.2.2.1
theorem dMod_move_48 : decode cMod_move 48 = .ok (.iaload, 1) := zfMod_move_0.2.2.2.2.2.2.2.2.2.2.2.2.2.2.2.2.2.2.2.2.2.2.2.2.2.2.2.2.1
theorem dMod_move_49 : decode cMod_move 49 = .ok (.istore 4, 2) := zfMod_move_0.2.2.2.2.2.2.2.2.2.2.2.2.2.2.2.2.2.2.2.2.2.2.2.2.2.2.2.2.2.1
theorem dMod_move_51 : decode cMod_move 51 = .ok (.aload_n 0, 1) := zfMod_move_0.2.2.2.2.2.2.2.2.2.2.2.2.2.2.2.2.2.2.2.2.2.2.2.2.2.2.2.2.2.2.1
theorem dMod_move_52 : decode cMod_move 52 = .ok (.iload_n 1, 1) := zfMod_move_0.2.2.2.2.2.2.2.2.2.2.2.2.2.2.2.2.2.2.2.2.2.2.2.2.2.2.2.2.2.2.2.1
theorem zfMod_move_53 : decode cMod_move 53 = .ok (.aload_n 0, 1) ∧ decode cMod_move 54 = .ok (.getfield 11, 3) ∧ decode cMod_move 57 = .ok (.iload_n 1, 1) ∧ decode cMod_move 58 = .ok (.aaload, 1) ∧ decode cMod_move 59 = .ok (.iload_n 2, 1) ∧ decode cMod_move 60 = .ok (.invokestatic 102, 3) ∧ decode cMod_move 63 = .ok (.iload_n 3, 1) ∧ decode cMod_move 64 = .ok (.iload 4, 2) ∧ decode cMod_move 66 = .ok (.invokestatic 49, 3) ∧ decode cMod_move 69 = .ok (.iconst (-1), 1) ∧ decode cMod_move 70 = .ok (.invokevirtual 77, 3) ∧ decode cMod_move 73 = .ok (.iload 4, 2) ∧ decode cMod_move 75 = .ok (.ireturn, 1) ∧ True := Jvm.Free.DS.facts (code := cMod_move) 53 [(.aload_n 0, 1), (.getfield 11, 3), (.iload_n 1, 1), (.aaload, 1), (.iload_n 2, 1), (.invokestatic 102, 3), (.iload_n 3, 1), (.iload 4, 2), (.invokestatic 49, 3), (.iconst (-1), 1), (.invokevirtual 77, 3), (.iload 4, 2), (.ireturn, 1)] (by decide +kernel) (by decide +kernel)
theorem dMod_move_53 : decode cMod_move 53 = .ok (.aload_n 0, 1) := zfMod_move_53.1
theorem dMod_move_54 : decode cMod_move 54 = .ok (.getfield 11, 3) := zfMod_move_53.2.1
theorem dMod_move_57 : decode cMod_move 57 = .ok (.iload_n 1, 1) := zfMod_move_53.2.2.1
theorem dMod_move_58 : decode cMod_move 58 = .ok (.aaload, 1) := zfMod_move_53.2.2.2.1
theorem dMod_move_59 : decode cMod_move 59 = .ok (.iload_n 2, 1) := zfMod_move_53.2.2.2.2.1
theorem dMod_move_60 : decode cMod_move 60 = .ok (.invokestatic 102, 3) := zfMod_move_53.2.2.2.2.2.1
theorem dMod_move_63 : decode cMod_move 63 = .ok (.iload_n 3, 1) := zfMod_move_53.2.2.2.2.2.2.1
theorem dMod_move_64 : decode cMod_move 64 = .ok (.iload 4, 2) := zfMod_move_53.2.2.2.2.2.2.2.1
theorem dMod_move_66 : decode cMod_move 66 = .ok (.invokestatic 49, 3) := zfMod_move_53.2.2.2.2.2.2.2.2.1
theorem dMod_move_69 : decode cMod_move 69 = .ok (.iconst (-1), 1) := zfMod_move_53.2.2.2.2.2.2.2.2.2.1
theorem dMod_move_70 : decode cMod_move 70 = .ok (.invokevirtual 77, 3) := zfMod_move_53.2.2.2.2.2.2.2.2.2.2.1
theorem dMod_move_73 : decode cMod_move 73 = .ok (.iload 4, 2) := zfMod_move_53.2.2.2.2.2.2.2.2.2.2.2.1
theorem dMod_move_75 : decode cMod_move 75 = .ok (.ireturn, 1) := zfMod_move_53.2.2.2.2.2.2.2.2.2.2.2.2.1
theorem zfMod_swap_0 : decode cMod_swap 0 = .ok (.aload_n 0, 1) ∧ decode cMod_swap 1 = .ok (.iload_n 1, 1) ∧ decode cMod_swap 2 = .ok (.invokestatic 81, 3) ∧ decode cMod_swap 5 = .ok (.ifCond .ne 21, 3) ∧ decode cMod_swap 8 = .ok (.aload_n 0, 1) ∧ decode cMod_swap 9 = .ok (.iload_n 1, 1) ∧ decode cMod_swap 10 = .ok (.iload_n 2, 1) ∧ decode cMod_swap 11 = .ok (.invokevirtual 106, 3) ∧ decode cMod_swap 14 = .ok (.ifCond .ne 12, 3) ∧ decode cMod_swap 17 = .ok (.aload_n 0, 1) ∧ decode cMod_swap 18 = .ok (.iload_n 1, 1) ∧ decode cMod_swap 19 = .ok (.iload_n 3, 1) ∧ decode cMod_swap 20 = .ok (.invokevirtual 106, 3) ∧ decode cMod_swap 23 = .ok (.ifCond .eq 7, 3) ∧ decode cMod_swap 26 = .ok (.iconst 1, 1) ∧ decode cMod_swap 27 = .ok (.goto 4, 3) ∧ decode cMod_swap 30 = .ok (.iconst 0, 1) ∧ decode cMod_swap 31 = .ok (.iconst 0, 1) ∧ decode cMod_swap 32 = .ok (.iconst 0, 1) ∧ decode cMod_swap 33 = .ok (.invokevirtual 88, 3) ∧ decode cMod_swap 36 = .ok (.ifCond .eq 5, 3) ∧ decode cMod_swap 39 = .ok (.iconst 0, 1) ∧ decode cMod_swap 40 = .ok (.ireturn, 1) ∧ decode cMod_swap 41 = .ok (.aload_n 0, 1) ∧ decode cMod_swap 42 = .ok (.getfield 11, 3) ∧ decode cMod_swap 45 = .ok (.iload_n 1, 1) ∧ decode cMod_swap 46 = .ok (.aaload, 1) ∧ decode cMod_swap 47 = .ok (.iload_n 2, 1) ∧ decode cMod_swap 48 = .ok (.iaload, 1) ∧ decode cMod_swap 49 = .ok (.istore 4, 2) ∧ decode cMod_swap 51 = .ok (.aload_n 0, 1) ∧ decode cMod_swap 52 = .ok (.getfield 11, 3) ∧ True := Jvm.Free.DS.facts (code := cMod_swap) 0 [(.aload_n 0, 1), (.iload_n 1, 1), (.invokestatic 81, 3), (.ifCond .ne 21, 3), (.aload_n 0, 1), (.iload_n 1, 1), (.iload_n 2, 1), (.invokevirtual 106, 3), (.ifCond .ne 12, 3), (.aload_n 0, 1), (.iload_n 1, 1), (.iload_n 3, 1), (.invokevirtual 106, 3), (.ifCond .eq 7, 3), (.iconst 1, 1), (.goto 4, 3), (.iconst 0, 1), (.iconst 0, 1), (.iconst 0, 1), (.invokevirtual 88, 3), (.ifCond .eq 5, 3), (.iconst 0, 1), (.ireturn, 1), (.aload_n 0, 1), (.getfield 11, 3), (.iload_n 1, 1), (.aaload, 1), (.iload_n 2, 1), (.iaload, 1), (.istore 4, 2), (.aload_n 0, 1), (.getfield 11, 3)] (by decide +kernel) (by decide +kernel)
theorem dMod_swap_0 : decode cMod_swap 0 = .ok (.aload_n 0, 1) := zfMod_swap_0.1
theorem dMod_swap_1 : decode cMod_swap 1 = .ok (.iload_n 1, 1) := zfMod_swap_0.2.1
theorem dMod_swap_2 : decode cMod_swap 2 = .ok (.invokestatic 81, 3) := zfMod_swap_0.2.2.1
theorem dMod_swap_5 : decode cMod_swap 5 = .ok (.ifCond .ne 21, 3) := zfMod_swap_0.2.2.2.1
theorem dMod_swap_8 : decode cMod_swap 8 = .ok (.aload_n 0, 1) := zfMod_swap_0.2.2.2.2.1
theorem dMod_swap_9 : decode cMod_swap 9 = .ok (.iload_n 1, 1) := zfMod_swap_0.2.2.2.2.2.1
theorem dMod_swap_10 : decode cMod_swap 10 = .ok (.iload_n 2, 1) := zfMod_swap_0.2.2.2.2.2.2.1
theorem dMod_swap_11 : decode cMod_swap 11 = .ok (.invokevirtual 106, 3) := zfMod_swap_0.2.2.2.2.2.2.2.1
theorem dMod_swap_14 : decode cMod_swap 14 = .ok (.ifCond .ne 12, 3) := zfMod_swap_0.2.2.2.2.2.2.2.2.1
theorem dMod_swap_17 : decode cMod_swap 17 = .ok (.aload_n 0, 1) := zfMod_swap_0.2.2.2.2.2.2.2.2.2.1
theorem dMod_swap_18 : decode cMod_swap 18 = .ok (.iload_n 1, 1) := zfMod_swap_0.2.2.2.2.2.2.2.2.2.2.1
theorem dMod_swap_19 : decode cMod_swap 19 = .ok (.iload_n 3, 1) := zfMod_swap_0.2.2.2.2.2.2.2.2.2.2.2.1
theorem dMod_swap_20 : decode cMod_swap 20 = .ok (.invokevirtual 106, 3) := zfMod_swap_0.2.2.2.2.2.2.2.2.2.2.2.2.1
theorem dMod_swap_23 : decode cMod_swap 23 = .ok (.ifCond .eq 7, 3) := zfMod_swap_0.2.2.2.2.2.2.2.2.2.2.2.2.2.1
theorem dMod_swap_26 : decode cMod_swap 26 = .ok (.iconst 1, 1) := zfMod_swap_0.2.2.2.2.2.2.2.2.2.2.2.2.2.2.1
theorem dMod_swap_27 : decode cMod_swap 27 = .ok (.goto 4, 3) := zfMod_swap_0.2.2.2.2.2.2.2.2.2.2.2.2.2.2.2.1
theorem dMod_swap_30 : decode cMod_swap 30 = .ok (.iconst 0, 1) := zfMod_swap_0.2.2.2.2.2.2.2.2.2.2.2.2.2.2.2.2.1
theorem dMod_swap_31 : decode cMod_swap 31 = .ok (.iconst 0, 1) := zfMod_swap_0.2.2.2.2.2.2.2.2.2.2.2.2.2.2.2.2.2.1
theorem dMod_swap_32 : decode cMod_swap 32 = .ok (.iconst 0, 1) := zfMod_swap_0.2.2.2.2.2.2.2.2.2.2.2.2.2.2.2.2.2.2.1
theorem dMod_swap_33 : decode cMod_swap 33 = .ok (.invokevirtual 88, 3) := zfMod_swap_0.2.2.2.2.2.2.2.2.2.2.2.2.2.2.2.2.2.2.2.1
theorem dMod_swap_36 : decode cMod_swap 36 = .ok (.ifCond .eq 5, 3) := zfMod_swap_0.2.2.2.2.2.2.2.2.2.2.2.2.2.2.2.2.2.2.2.2.1
theorem dMod_swap_39 : decode cMod_swap 39 = .ok (.iconst 0, 1) := zfMod_swap_0.2.2.2.2.2.2.2.2.2.2.2.2.2.2.2.2.2.2.2.2.2.1
theorem dMod_swap_40 : decode cMod_swap 40 = .ok (.ireturn, 1) := zfMod_swap_0.2.2.2.2.2.2.2.2.2.2.2.2.2.2.2.2.2.2.2.2.2.2.1
theorem dMod_swap_41 : decode cMod_swap 41 = .ok (.aload_n 0, 1) := zfMod_swap_0.2.2.2.2.2.2.2.2.2.2.2.2.2.2.2.2.2.2.2.2.2.2.2.1
theorem dMod_swap_42 : decode cMod_swap 42 = .ok (.getfield 11, 3) := zfMod_swap_0.2.2.2.2.2.2.2.2.2.2.2.2.2.2.2.2.2.2.2.2.2.2.2.2.1
theorem dMod_swap_45 : decode cMod_swap 45 = .ok (.iload_n 1, 1) := zfMod_swap_0.2.2.2.2.2.2.2.2.2.2.2.2.2.2.2.2.2.2.2.2.2.2.2.2.2.1
theorem dMod_swap_46 : decode cMod_swap 46 = .ok (.aaload, 1) := zfMod_swap_0.2.2.2.2.2.2.2.2.2.2.2.2.2.2.2.2.2.2.2.2.2.2.2.2.2.2.1
theorem dMod_swap_47 : decode cMod_swap 47 = .ok (.iload_n 2, 1) := zfMod_swap_0.2.2.2.2.2.2.2.2.2.2.2.2.2.2.2.2.2.2.2.2.2.2.2.2.2.2.2.1
theorem dMod_swap_48 : decode cMod_swap 48 = .ok (.iaload, 1) := zfMod_swap_0.2.2.2.2.2.2.2.2.2.2.2.2.2.2.2.2.2.2.2.2.2.2.2.2.2.2.2.2.1
theorem dMod_swap_49 : decode cMod_swap 49 = .ok (.istore 4, 2) := zfMod_swap_0.2.2.2.2.2.2.2.2.2.2.2.2.2.2.2.2.2.2.2.2.2.2.2.2.2.2.2.2.2.1
theorem dMod_swap_51 : decode cMod_swap 51 = .ok (.aload_n 0, 1) := zfMod_swap_0.2.2.2.2.2.2.2.2.2.2.2.2.2.2.2.2.2.2.2.2.2.2.2.2.2.2.2.2.2.2.1
theorem dMod_swap_52 : decode cMod_swap 52 = .ok (.getfield 11, 3) := zfMod_swap_0.2.2.2.2.2.2.2.2.2.2.2.2.2.2.2.2.2.2.2.2.2.2.2.2.2.2.2.2.2.2.2.1
theorem zfMod_swap_55 : decode cMod_swap 55 = .ok (.iload_n 1, 1) ∧ decode cMod_swap 56 = .ok (.aaload, 1) ∧ decode cMod_swap 57 = .ok (.iload_n 2, 1) ∧ decode cMod_swap 58 = .ok (.aload_n 0, 1) ∧ decode cMod_swap 59 = .ok (.getfield 11, 3) ∧ decode cMod_swap 62 = .ok (.iload_n 1, 1) ∧ decode cMod_swap 63 = .ok (.aaload, 1) ∧ decode cMod_swap 64 = .ok (.iload_n 3, 1) ∧ decode cMod_swap 65 = .ok (.iaload, 1) ∧ decode cMod_swap 66 = .ok (.iastore, 1) ∧ decode cMod_swap 67 = .ok (.aload_n 0, 1) ∧ decode cMod_swap 68 = .ok (.getfield 11, 3) ∧ decode cMod_swap 71 = .ok (.iload_n 1, 1) ∧ decode cMod_swap 72 = .ok (.aaload, 1) ∧ decode cMod_swap 73 = .ok (.iload_n 3, 1) ∧ decode cMod_swap 74 = .ok (.iload 4, 2) ∧ decode cMod_swap 76 = .ok (.iastore, 1) ∧ decode cMod_swap 77 = .ok (.aload_n 0, 1) ∧ decode cMod_swap 78 = .ok (.getfield 11, 3) ∧ decode cMod_swap 81 = .ok (.iload_n 1, 1) ∧ decode cMod_swap 82 = .ok (.aaload, 1) ∧ decode cMod_swap 83 = .ok (.iload_n 2, 1) ∧ decode cMod_swap 84 = .ok (.iaload, 1) ∧ decode cMod_swap 85 = .ok (.ireturn, 1) ∧ True := Jvm.Free.DS.facts (code := cMod_swap) 55 [(.iload_n 1, 1), (.aaload, 1), (.iload_n 2, 1), (.aload_n 0, 1), (.getfield 11, 3), (.iload_n 1, 1), (.aaload, 1), (.iload_n 3, 1), (.iaload, 1), (.iastore, 1), (.aload_n 0, 1), (.getfield 11, 3), (.iload_n 1, 1), (.aaload, 1), (.iload_n 3, 1), (.iload 4, 2), (.iastore, 1), (.aload_n 0, 1), (.getfield 11, 3), (.iload_n 1, 1), (.aaload, 1), (.iload_n 2, 1), (.iaload, 1), (.ireturn, 1)] (by decide +kernel) (by decide +kernel)
theorem dMod_swap_55 : decode cMod_swap 55 = .ok (.iload_n 1, 1) := zfMod_swap_55.1
theorem dMod_swap_56 : decode cMod_swap 56 = .ok (.aaload, 1) := zfMod_swap_55.2.1
theorem dMod_swap_57 : decode cMod_swap 57 = .ok (.iload_n 2, 1) := zfMod_swap_55.2.2.1
theorem dMod_swap_58 : decode cMod_swap 58 = .ok (.aload_n 0, 1) := zfMod_swap_55.2.2.2.1
theorem dMod_swap_59 : decode cMod_swap 59 = .ok (.getfield 11, 3) := zfMod_swap_55.2.2.2.2.1
theorem dMod_swap_62 : decode cMod_swap 62 = .ok (.iload_n 1, 1) := zfMod_swap_55.2.2.2.2.2.1
theorem dMod_swap_63 : decode cMod_swap 63 = .ok (.aaload, 1) := zfMod_swap_55.2.2.2.2.2.2.1
theorem dMod_swap_64 : decode cMod_swap 64 = .ok (.iload_n 3, 1) := zfMod_swap_55.2.2.2.2.2.2.2.1
theorem dMod_swap_65 : decode cMod_swap 65 = .ok (.iaload, 1) := zfMod_swap_55.2.2.2.2.2.2.2.2.1
theorem dMod_swap_66 : decode cMod_swap 66 = .ok (.iastore, 1) := zfMod_swap_55.2.2.2.2.2.2.2.2.2.1
theorem dMod_swap_67 : decode cMod_swap 67 = .ok (.aload_n 0, 1) := zfMod_swap_55.2.2.2.2.2.2.2.2.2.2.1
theorem dMod_swap_68 : decode cMod_swap 68 = .ok (.getfield 11, 3) := zfMod_swap_55.2.2.2.2.2.2.2.2.2.2.2.1
theorem dMod_swap_71 : decode cMod_swap 71 = .ok (.iload_n 1, 1) := zfMod_swap_55.2.2.2.2.2.2.2.2.2.2.2.2.1
theorem dMod_swap_72 : decode cMod_swap 72 = .ok (.aaload, 1) := zfMod_swap_55.2.2.2.2.2.2.2.2.2.2.2.2.2.1
theorem dMod_swap_73 : decode cMod_swap 73 = .ok (.iload_n 3, 1) := zfMod_swap_55.2.2.2.2.2.2.2.2.2.2.2.2.2.2.1
theorem dMod_swap_74 : decode cMod_swap 74 = .ok (.iload 4, 2) := zfMod_swap_55.2.2.2.2.2.2.2.2.2.2.2.2.2.2.2.1
theorem dMod_swap_76 : decode cMod_swap 76 = .ok (.iastore, 1) := zfMod_swap_55.2.2.2.2.2.2.2.2.2.2.2.2.2.2.2.2.1
theorem dMod_swap_77 : decode cMod_swap 77 = .ok (.aload_n 0, 1) := zfMod_swap_55.2.2.2.2.2.2.2.2.2.2.2.2.2.2.2.2.2.1
theorem dMod_swap_78 : decode cMod_swap 78 = .ok (.getfield 11, 3) := zfMod_swap_55.2.2.2.2.2.2.2.2.2.2.2.2.2.2.2.2.2.2.1
theorem dMod_swap_81 : decode cMod_swap 81 = .ok (.iload_n 1, 1) := zfMod_swap_55.2.2.2.2.2.2.2.2.2.2.2.2.2.2.2.2.2.2.2.1
theorem dMod_swap_82 : decode cMod_swap 82 = .ok (.aaload, 1) := zfMod_swap_55.2.2.2.2.2.2.2.2.2.2.2.2.2.2.2.2.2.2.2.2.1
theorem dMod_swap_83 : decode cMod_swap 83 = .ok (.iload_n 2, 1) := zfMod_swap_55.2.2.2.2.2.2.2.2.2.2.2.2.2.2.2.2.2.2.2.2.2.1
theorem dMod_swap_84 : decode cMod_swap 84 = .ok (.iaload, 1) := zfMod_swap_55.2.2.2.2.2.2.2.2.2.2.2.2.2.2.2.2.2.2.2.2.2.2.1
theorem dMod_swap_85 : decode cMod_swap 85 = .ok (.ireturn, 1) := zfMod_swap_55.2.2.2.2.2.2.2.2.2.2.2.2.2.2.2.2.2.2.2.2.2.2.2.1
theorem zfMod_reverse_0 : decode cMod_reverse 0 = .ok (.aload_n 0, 1) ∧ decode cMod_reverse 1 = .ok (.iload_n 1, 1) ∧ decode cMod_reverse 2 = .ok (.invokestatic 81, 3) ∧ decode cMod_reverse 5 = .ok (.iconst 0, 1) ∧ decode cMod_reverse 6 = .ok (.iconst 0, 1) ∧ decode cMod_reverse 7 = .ok (.invokevirtual 88, 3) ∧ decode cMod_reverse 10 = .ok (.ifCond .eq 5, 3) ∧ decode cMod_reverse 13 = .ok (.iconst 0, 1) ∧ decode cMod_reverse 14 = .ok (.ireturn, 1) ∧ decode cMod_reverse 15 = .ok (.aload_n 0, 1) ∧ decode cMod_reverse 16 = .ok (.getfield 11, 3) ∧ decode cMod_reverse 19 = .ok (.iload_n 1, 1) ∧ decode cMod_reverse 20 = .ok (.aload_n 0, 1) ∧ decode cMod_reverse 21 = .ok (.getfield 11, 3) ∧ decode cMod_reverse 24 = .ok (.iload_n 1, 1) ∧ decode cMod_reverse 25 = .ok (.aaload, 1) ∧ decode cMod_reverse 26 = .ok (.invokestatic 114, 3) ∧ decode cMod_reverse 29 = .ok (.aastore, 1) ∧ decode cMod_reverse 30 = .ok (.aload_n 0, 1) ∧ decode cMod_reverse 31 = .ok (.iload_n 1, 1) ∧ decode cMod_reverse 32 = .ok (.invokevirtual 133, 3) ∧ decode cMod_reverse 35 = .ok (.ireturn, 1) ∧ True := Jvm.Free.DS.facts (code := cMod_reverse) 0 [(.aload_n 0, 1), (.iload_n 1, 1), (.invokestatic 81, 3), (.iconst 0, 1), (.iconst 0, 1), (.invokevirtual 88, 3), (.ifCond .eq 5, 3), (.iconst 0, 1), (.ireturn, 1), (.aload_n 0, 1), (.getfield 11, 3), (.iload_n 1, 1), (.aload_n 0, 1), (.getfield 11, 3), (.iload_n 1, 1), (.aaload, 1), (.invokestatic 114, 3), (.aastore, 1), (.aload_n 0, 1), (.iload_n 1, 1), (.invokevirtual 133, 3), (.ireturn, 1)] (by decide +kernel) (by decide +kernel)
theorem dMod_reverse_0 : decode cMod_reverse 0 = .ok (.aload_n 0, 1) := zfMod_reverse_0.1
theorem dMod_reverse_1 : decode cMod_reverse 1 = .ok (.iload_n 1, 1) := zfMod_reverse_0.2.1
theorem dMod_reverse_2 : decode cMod_reverse 2 = .ok (.invokestatic 81, 3) := zfMod_reverse_0.2.2.1
theorem dMod_reverse_5 : decode cMod_reverse 5 = .ok (.iconst 0, 1) := zfMod_reverse_0.2.2.2.1
theorem dMod_reverse_6 : decode cMod_reverse 6 = .ok (.iconst 0, 1) := zfMod_reverse_0.2.2.2.2.1
theorem dMod_reverse_7 : decode cMod_reverse 7 = .ok (.invokevirtual 88, 3) := zfMod_reverse_0.2.2.2.2.2.1
theorem dMod_reverse_10 : decode cMod_reverse 10 = .ok (.ifCond .eq 5, 3) := zfMod_reverse_0.2.2.2.2.2.2.1
theorem dMod_reverse_13 : decode cMod_reverse 13 = .ok (.iconst 0, 1) := zfMod_reverse_0.2.2.2.2.2.2.2.1
theorem dMod_reverse_14 : decode cMod_reverse 14 = .ok (.ireturn, 1) := zfMod_reverse_0.2.2.2.2.2.2.2.2.1
theorem dMod_reverse_15 : decode cMod_reverse 15 = .ok (.aload_n 0, 1) := zfMod_reverse_0.2.2.2.2.2.2.2.2.2.1
theorem dMod_reverse_16 : decode cMod_reverse 16 = .ok (.getfield 11, 3) := zfMod_reverse_0.2.2.2.2.2.2.2.2.2.2.1
theorem dMod_reverse_19 : decode cMod_reverse 19 = .ok (.iload_n 1, 1) := zfMod_reverse_0.2.2.2.2.2.2.2.2.2.2.2.1
theorem dMod_reverse_20 : decode cMod_reverse 20 = .ok (.aload_n 0, 1) := zfMod_reverse_0.2.2.2.2.2.2.2.2.2.2.2.2.1
theorem dMod_reverse_21 : decode cMod_reverse 21 = .ok (.getfield 11, 3) := zfMod_reverse_0.2.2.2.2.2.2.2.2.2.2.2.2.2.1
theorem dMod_reverse_24 : decode cMod_reverse 24 = .ok (.iload_n 1, 1) := zfMod_reverse_0.2.2.2.2.2.2.2.2.2.2.2.2.2.2.1
theorem dMod_reverse_25 : decode cMod_reverse 25 = .ok (.aaload, 1) := zfMod_reverse_0.2.2.2.2.2.2.2.2.2.2.2.2.2.2.2.1
theorem dMod_reverse_26 : decode cMod_reverse 26 = .ok (.invokestatic 114, 3) := zfMod_reverse_0.2.2.2.2.2.2.2.2.2.2.2.2.2.2.2.2.1
theorem dMod_reverse_29 : decode cMod_reverse 29 = .ok (.aastore, 1) := zfMod_reverse_0.2.2.2.2.2.2.2.2.2.2.2.2.2.2.2.2.2.1
theorem dMod_reverse_30 : decode cMod_reverse 30 = .ok (.aload_n 0, 1) := zfMod_reverse_0.2.2.2.2.2.2.2.2.2.2.2.2.2.2.2.2.2.2.1
theorem dMod_reverse_31 : decode cMod_reverse 31 = .ok (.iload_n 1, 1) := zfMod_reverse_0.2.2.2.2.2.2.2.2.2.2.2.2.2.2.2.2.2.2.2.1
theorem dMod_reverse_32 : decode cMod_reverse 32 = .ok (.invokevirtual 133, 3) := zfMod_reverse_0.2.2.2.2.2.2.2.2.2.2.2.2.2.2.2.2.2.2.2.2.1
theorem dMod_reverse_35 : decode cMod_reverse 35 = .ok (.ireturn, 1) := zfMod_reverse_0.2.2.2.2.2.2.2.2.2.2.2.2.2.2.2.2.2.2.2.2.2.1
theorem zfMod_through_0 : decode cMod_through 0 = .ok (.aload_n 0, 1) ∧ decode cMod_through 1 = .ok (.iload_n 1, 1) ∧ decode cMod_through 2 = .ok (.invokestatic 81, 3) ∧ decode cMod_through 5 = .ok (.ifCond .ne 17, 3) ∧ decode cMod_through 8 = .ok (.iload_n 2, 1) ∧ decode cMod_through 9 = .ok (.invokestatic 81, 3) ∧ decode cMod_through 12 = .ok (.ifCond .ne 10, 3) ∧ decode cMod_through 15 = .ok (.iload_n 3, 1) ∧ decode cMod_through 16 = .ok (.invokestatic 81, 3) ∧ decode cMod_through 19 = .ok (.ifCond .eq 7, 3) ∧ decode cMod_through 22 = .ok (.iconst 1, 1) ∧ decode cMod_through 23 = .ok (.goto 4, 3) ∧ decode cMod_through 26 = .ok (.iconst 0, 1) ∧ decode cMod_through 27 = .ok (.iconst 0, 1) ∧ decode cMod_through 28 = .ok (.iconst 0, 1) ∧ decode cMod_through 29 = .ok (.invokevirtual 88, 3) ∧ decode cMod_through 32 = .ok (.ifCond .eq 5, 3) ∧ decode cMod_through 35 = .ok (.iconst 0, 1) ∧ decode cMod_through 36 = .ok (.ireturn, 1) ∧ decode cMod_through 37 = .ok (.aload_n 0, 1) ∧ decode cMod_through 38 = .ok (.getfield 11, 3) ∧ decode cMod_through 41 = .ok (.iload_n 2, 1) ∧ decode cMod_through 42 = .ok (.aaload, 1) ∧ decode cMod_through 43 = .ok (.arraylength, 1) ∧ decode cMod_through 44 = .ok (.newarray .int, 2) ∧ decode cMod_through 46 = .ok (.astore 4, 2) ∧ decode cMod_through 48 = .ok (.iconst 0, 1) ∧ decode cMod_through 49 = .ok (.istore 5, 2) ∧ decode cMod_through 51 = .ok (.iload 5, 2) ∧ decode cMod_through 53 = .ok (.aload 4, 2) ∧ decode cMod_through 55 = .ok (.arraylength, 1) ∧ decode cMod_through 56 = .ok (.if_icmp .ge 52, 3) ∧ True := Jvm.Free.DS.facts (code := cMod_through) 0 [(.aload_n 0, 1), (.iload_n 1, 1), (.invokestatic 81, 3), (.ifCond .ne 17, 3), (.iload_n 2, 1), (.invokestatic 81, 3), (.ifCond .ne 10, 3), (.iload_n 3, 1), (.invokestatic 81, 3), (.ifCond .eq 7, 3), (.iconst 1, 1), (.goto 4, 3), (.iconst 0, 1), (.iconst 0, 1), (.iconst 0, 1), (.invokevirtual 88, 3), (.ifCond .eq 5, 3), (.iconst 0, 1), (.ireturn, 1), (.aload_n 0, 1), (.getfield 11, 3), (.iload_n 2, 1), (.aaload, 1), (.arraylength, 1), (.newarray .int, 2), (.astore 4, 2), (.iconst 0, 1), (.istore 5, 2), (.iload 5, 2), (.aload 4, 2), (.arraylength, 1), (.if_icmp .ge 52, 3)] (by decide +kernel) (by decide +kernel)
theorem dMod_through_0 : decode cMod_through 0 = .ok (.aload_n 0, 1) := zfMod_through_0.1
theorem dMod_through_1 : decode cMod_through 1 = .ok (.iload_n 1, 1) := zfMod_through_0.2.1
theorem dMod_through_2 : decode cMod_through 2 = .ok (.invokestatic 81, 3) := zfMod_through_0.2.2.1
theorem dMod_through_5 : decode cMod_through 5 = .ok (.ifCond .ne 17, 3) := zfMod_through_0.2.2.2.1
theorem dMod_through_8 : decode cMod_through 8 = .ok (.iload_n 2, 1) := zfMod_through_0.2.2.2.2.1
theorem dMod_through_9 : decode cMod_through 9 = .ok (.invokestatic 81, 3) := zfMod_through_0.2.2.2.2.2.1
theorem dMod_through_12 : decode cMod_through 12 = .ok (.ifCond .ne 10, 3) := zfMod_through_0.2.2.2.2.2.2.1
theorem dMod_through_15 : decode cMod_through 15 = .ok (.iload_n 3, 1) := zfMod_through_0.2.2.2.2.2.2.2.1
theorem dMod_through_16 : decode cMod_through 16 = .ok (.invokestatic 81, 3) := zfMod_through_0.2.2.2.2.2.2.2.2.1
theorem dMod_through_19 : decode cMod_through 19 = .ok (.ifCond .eq 7, 3) := zfMod_through_0.2.2.2.2.2.2.2.2.2.1
theorem dMod_through_22 : decode cMod_through 22 = .ok (.iconst 1, 1) := zfMod_through_0.2.2.2.2.2.2.2.2.2.2.1
theorem dMod_through_23 : decode cMod_through 23 = .ok (.goto 4, 3) := zfMod_through_0.2.2.2.2.2.2.2.2.2.2.2.1
theorem dMod_through_26 : decode cMod_through 26 = .ok (.iconst 0, 1) := zfMod_through_0.2.2.2.2.2.2.2.2.2.2.2.2.1
theorem dMod_through_27 : decode cMod_through 27 = .ok (.iconst 0, 1) := zfMod_through_0.2.2.2.2.2.2.2.2.2.2.2.2.2.1
theorem dMod_through_28 : decode cMod_through 28 = .ok (.iconst 0, 1) := zfMod_through_0.2.2.2.2.2.2.2.2.2.2.2.2.2.2.1
theorem dMod_through_29 : decode cMod_through 29 = .ok (.invokevirtual 88, 3) := zfMod_through_0.2.2.2.2.2.2.2.2.2.2.2.2.2.2.2.1
theorem dMod_through_32 : decode cMod_through 32 = .ok (.ifCond .eq 5, 3) := zfMod_through_0.2.2.2.2.2.2.2.2.2.2.2.2.2.2.2.2.1
theorem dMod_through_35 : decode cMod_through 35 = .ok (.iconst 0, 1) := zfMod_through_0.2.2.2.2.2.2.2.2.2.2.2.2.2.2.2.2.2.1
theorem dMod_through_36 : decode cMod_through 36 = .ok (.ireturn, 1) := zfMod_through_0.2.2.2.2.2.2.2.2.2.2.2.2.2.2.2.2.2.2.1
theorem dMod_through_37 : decode cMod_through 37 = .ok (.aload_n 0, 1) := zfMod_through_0.2.2.2.2.2.2.2.2.2.2.2.2.2.2.2.2.2.2.2.1
theorem dMod_through_38 : decode cMod_through 38 = .ok (.getfield 11, 3) := zfMod_through_0.2.2.2.2.2.2.2.2.2.2.2.2.2.2.2.2.2.2.2.2.1
theorem dMod_through_41 : decode cMod_through 41 = .ok (.iload_n 2, 1) := zfMod_through_0.2.2.2.2.2.2.2.2.2.2.2.2.2.2.2.2.2.2.2.2.2.1
theorem dMod_through_42 : decode cMod_through 42 = .ok (.aaload, 1) := zfMod_through_0.2.2.2.2.2.2.2.2.2.2.2.2.2.2.2.2.2.2.2.2.2.2.1
theorem dMod_through_43 : decode cMod_through 43 = .ok (.arraylength, 1) := zfMod_through_0.2.2.2.2.2.2.2.2.2.2.2.2.2.2.2.2.2.2.2.2.2.2.2.1
theorem dMod_through_44 : decode cMod_through 44 = .ok (.newarray .int, 2) := zfMod_through_0.2.2.2.2.2.2.2.2.2.2.2.2.2.2.2.2.2.2.2.2.2.2.2.2.1
theorem dMod_through_46 : decode cMod_through 46 = .ok (.astore 4, 2) := zfMod_through_0.2.2.2.2.2.2.2.2.2.2.2.2.2.2.2.2.2.2.2.2.2.2.2.2.2.1
theorem dMod_through_48 : decode cMod_through 48 = .ok (.iconst 0, 1) := zfMod_through_0.2.2.2.2.2.2.2.2.2.2.2.2.2.2.2.2.2.2.2.2.2.2.2.2.2.2.1
theorem dMod_through_49 : decode cMod_through 49 = .ok (.istore 5, 2) := zfMod_through_0.2.2.2.2.2.2.2.2.2.2.2.2.2.2.2.2.2.2.2.2.2.2.2.2.2.2.2.1
theorem dMod_through_51 : decode cMod_through 51 = .ok (.iload 5, 2) := zfMod_through_0.2.2.2.2.2.2.2.2.2.2.2.2.2.2.2.2.2.2.2.2.2.2.2.2.2.2.2.2.1
theorem dMod_through_53 : decode cMod_through 53 = .ok (.aload 4, 2) := zfMod_through_0.2.2.2.2.2.2.2.2.2.2.2.2.2.2.2.2.2.2.2.2.2.2.2.2.2.2.2.2.2.1
theorem dMod_through_55 : decode cMod_through 55 = .ok (.arraylength, 1) := zfMod_through_0.2.2.2.2.2.2.2.2.2.2.2.2.2.2.2.2.2.2.2.2.2.2.2.2.2.2.2.2.2.2.1
theorem dMod_through_56 : decode cMod_through 56 = .ok (.if_icmp .ge 52, 3) := zfMod_through_0.2.2.2.2.2.2.2.2.2.2.2.2.2.2.2.2.2.2.2.2.2.2.2.2.2.2.2.2.2.2.2.1
theorem zfMod_through_59 : decode cMod_through 59 = .ok (.aload_n 0, 1) ∧ decode cMod_through 60 = .ok (.iload_n 1, 1) ∧ decode cMod_through 61 = .ok (.aload_n 0, 1) ∧ decode cMod_through 62 = .ok (.getfield 11, 3) ∧ decode cMod_through 65 = .ok (.iload_n 2, 1) ∧ decode cMod_through 66 = .ok (.aaload, 1) ∧ decode cMod_through 67 = .ok (.iload 5, 2) ∧ decode cMod_through 69 = .ok (.iaload, 1) ∧ decode cMod_through 70 = .ok (.invokevirtual 106, 3) ∧ decode cMod_through 73 = .ok (.ifCond .eq 8, 3) ∧ decode cMod_through 76 = .ok (.aload_n 0, 1) ∧ decode cMod_through 77 = .ok (.invokevirtual 92, 3) ∧ decode cMod_through 80 = .ok (.ireturn, 1) ∧ decode cMod_through 81 = .ok (.aload 4, 2) ∧ decode cMod_through 83 = .ok (.iload 5, 2) ∧ decode cMod_through 85 = .ok (.aload_n 0, 1) ∧ decode cMod_through 86 = .ok (.getfield 11, 3) ∧ decode cMod_through 89 = .ok (.iload_n 1, 1) ∧ decode cMod_through 90 = .ok (.aaload, 1) ∧ decode cMod_through 91 = .ok (.aload_n 0, 1) ∧ decode cMod_through 92 = .ok (.getfield 11, 3) ∧ decode cMod_through 95 = .ok (.iload_n 2, 1) ∧ decode cMod_through 96 = .ok (.aaload, 1) ∧ decode cMod_through 97 = .ok (.iload 5, 2) ∧ decode cMod_through 99 = .ok (.iaload, 1) ∧ decode cMod_through 100 = .ok (.iaload, 1) ∧ decode cMod_through 101 = .ok (.iastore, 1) ∧ decode cMod_through 102 = .ok (.iinc 5 1, 3) ∧ decode cMod_through 105 = .ok (.goto (-54), 3) ∧ decode cMod_through 108 = .ok (.aload_n 0, 1) ∧ decode cMod_through 109 = .ok (.iload_n 3, 1) ∧ decode cMod_through 110 = .ok (.aload 4, 2) ∧ True := Jvm.Free.DS.facts (code := cMod_through) 59 [(.aload_n 0, 1), (.iload_n 1, 1), (.aload_n 0, 1), (.getfield 11, 3), (.iload_n 2, 1), (.aaload, 1), (.iload 5, 2), (.iaload, 1), (.invokevirtual 106, 3), (.ifCond .eq 8, 3), (.aload_n 0, 1), (.invokevirtual 92, 3), (.ireturn, 1), (.aload 4, 2), (.iload 5, 2), (.aload_n 0, 1), (.getfield 11, 3), (.iload_n 1, 1), (.aaload, 1), (.aload_n 0, 1), (.getfield 11, 3), (.iload_n 2, 1), (.aaload, 1), (.iload 5, 2), (.iaload, 1), (.iaload, 1), (.iastore, 1), (.iinc 5 1, 3), (.goto (-54), 3), (.aload_n 0, 1), (.iload_n 3, 1), (.aload 4, 2)] (by decide +kernel) (by decide +kernel)
theorem dMod_through_59 : decode cMod_through 59 = .ok (.aload_n 0, 1) := zfMod_through_59.1
theorem dMod_through_60 : decode cMod_through 60 = .ok (.iload_n 1, 1) := zfMod_through_59.2.1
theorem dMod_through_61 : decode cMod_through 61 = .ok (.aload_n 0, 1) := zfMod_through_59.2.2.1
theorem dMod_through_62 : decode cMod_through 62 = .ok (.getfield 11, 3) := zfMod_through_59.2.2.2.1
theorem dMod_through_65 : decode cMod_through 65 = .ok (.iload_n 2, 1) := zfMod_through_59.2.2.2.2.1
theorem dMod_through_66 : decode cMod_through 66 = .ok (.aaload, 1) := zfMod_through_59.2.2.2.2.2.1
theorem dMod_through_67 : decode cMod_through 67 = .ok (.iload 5, 2) := zfMod_through_59.2.2.2.2.2.2.1
theorem dMod_through_69 : decode cMod_through 69 = .ok (.iaload, 1) := zfMod_through_59.2.2.2.2.2.2.2.1
theorem dMod_through_70 : decode cMod_through 70 = .ok (.invokevirtual 106, 3) := zfMod_through_59.2.2.2.2.2.2.2.2.1
theorem dMod_through_73 : decode cMod_through 73 = .ok (.ifCond .eq 8, 3) := zfMod_through_59.2.2.2.2.2.2.2.2.2.1
theorem dMod_through_76 : decode cMod_through 76 = .ok (.aload_n 0, 1) := zfMod_through_59.2.2.2.2.2.2.2.2.2.2.1
theorem dMod_through_77 : decode cMod_through 77 = .ok (.invokevirtual 92, 3) := zfMod_through_59.2.2.2.2.2.2.2.2.2.2.2.1
theorem dMod_through_80 : decode cMod_through 80 = .ok (.ireturn, 1) := zfMod_through_59.2.2.2.2.2.2.2.2.2.2.2.2.1
theorem dMod_through_81 : decode cMod_through 81 = .ok (.aload 4, 2) := zfMod_through_59.2.2.2.2.2.2.2.2.2.2.2.2.2.1
theorem dMod_through_83 : decode cMod_through 83 = .ok (.iload 5, 2) := zfMod_through_59.2.2.2.2.2.2.2.2.2.2.2.2.2.2.1
theorem dMod_through_85 : decode cMod_through 85 = .ok (.aload_n 0, 1) := zfMod_through_59.2.2.2.2.2.2.2.2.2.2.2.2.2.2.2.1
theorem dMod_through_86 : decode cMod_through 86 = .ok (.getfield 11, 3) := zfMod_through_59.2.2.2.2.2.2.2.2.2.2.2.2.2.2.2.2.1
theorem dMod_through_89 : decode cMod_through 89 = .ok (.iload_n 1, 1) := zfMod_through_59.2.2.2.2.2.2.2.2.2.2.2.2.2.2.2.2.2.1
theorem dMod_through_90 : decode cMod_through 90 = .ok (.aaload, 1) := zfMod_through_59.2.2.2.2.2.2.2.2.2.2.2.2.2.2.2.2.2.2.1
theorem dMod_through_91 : decode cMod_through 91 = .ok (.aload_n 0, 1) := zfMod_through_59.2.2.2.2.2.2.2.2.2.2.2.2.2.2.2.2.2.2.2.1
theorem dMod_through_92 : decode cMod_through 92 = .ok (.getfield 11, 3) := zfMod_through_59.2.2.2.2.2.2.2.2.2.2.2.2.2.2.2.2.2.2.2.2.1
theorem dMod_through_95 : decode cMod_through 95 = .ok (.iload_n 2, 1) := zfMod_through_59.2.2.2.2.2.2.2.2.2.2.2.2.2.2.2.2.2.2.2.2.2.1
theorem dMod_through_96 : decode cMod_through 96 = .ok (.aaload, 1) := zfMod_through_59.2.2.2.2.2.2.2.2.2.2.2.2.2.2.2.2.2.2.2.2.2.2.1
theorem dMod_through_97 : decode cMod_through 97 = .ok (.iload 5, 2) := zfMod_through_59.2.2.2.2.2.2.2.2.2.2.2.2.2.2.2.2.2.2.2.2.2.2.2.1
theorem dMod_through_99 : decode cMod_through 99 = .ok (.iaload, 1) := zfMod_through_59.2.2.2.2.2.2.2.2.2.2.2.2.2.2.2.2.2.2.2.2.2.2.2.2.1
theorem dMod_through_100 : decode cMod_through 100 = .ok (.iaload, 1) := zfMod_through_59.2.2.2.2.2.2.2.2.2.2.2.2.2.2.2.2.2.2.2.2.2.2.2.2.2.1
theorem dMod_through_101 : decode cMod_through 101 = .ok (.iastore, 1) := zfMod_through_59.2.2.2.2.2.2.2.2.2.2.2.2.2.2.2.2.2.2.2.2.2.2.2.2.2.2.1
theorem dMod_through_102 : decode cMod_through 102 = .ok (.iinc 5 1, 3) := zfMod_through_59.2.2.2.2.2.2.2.2.2.2.2.2.2.2.2.2.2.2.2.2.2.2.2.2.2.2.2.1
theorem dMod_through_105 : decode cMod_through 105 = .ok (.goto (-54), 3) := zfMod_through_59.2.2.2.2.2.2.2.2.2.2.2.2.2.2.2.2.2.2.2.2.2.2.2.2.2.2.2.2.1
theorem dMod_through_108 : decode cMod_through 108 = .ok (.aload_n 0, 1) := zfMod_through_59.2.2.2.2.2.2.2.2.2.2.2.2.2.2.2.2.2.2.2.2.2.2.2.2.2.2.2.2.2.1
theorem dMod_through_109 : decode cMod_through 109 = .ok (.iload_n 3, 1) := zfMod_through_59.2.2.2.2.2.2.2.2.2.2.2.2.2.2.2.2.2.2.2.2.2.2.2.2.2.2.2.2.2.2.1
theorem dMod_through_110 : decode cMod_through 110 = .ok (.aload 4, 2) := zfMod_through_59.2.2.2.2.2.2.2.2.2.2.2.2.2.2.2.2.2.2.2.2.2.2.2.2.2.2.2.2.2.2.2.1
theorem zfMod_through_112 : decode cMod_through 112 = .ok (.invokevirtual 95, 3) ∧ decode cMod_through 115 = .ok (.ireturn, 1) ∧ True := Jvm.Free.DS.facts (code := cMod_through) 112 [(.invokevirtual 95, 3), (.ireturn, 1)] (by decide +kernel) (by decide +kernel)
theorem dMod_through_112 : decode cMod_through 112 = .ok (.invokevirtual 95, 3) := zfMod_through_112.1
theorem dMod_through_115 : decode cMod_through 115 = .ok (.ireturn, 1) := zfMod_through_112.2.1
theorem zfMod_areSame_0 : decode cMod_areSame 0 = .ok (.aload_n 0, 1) ∧ decode cMod_areSame 1 = .ok (.iload_n 1, 1) ∧ decode cMod_areSame 2 = .ok (.invokestatic 81, 3) ∧ decode cMod_areSame 5 = .ok (.ifCond .ne 10, 3) ∧ decode cMod_areSame 8 = .ok (.iload_n 2, 1) ∧ decode cMod_areSame 9 = .ok (.invokestatic 81, 3) ∧ decode cMod_areSame 12 = .ok (.ifCond .eq 7, 3) ∧ decode cMod_areSame 15 = .ok (.iconst 1, 1) ∧ decode cMod_areSame 16 = .ok (.goto 4, 3) ∧ decode cMod_areSame 19 = .ok (.iconst 0, 1) ∧ decode cMod_areSame 20 = .ok (.iconst 0, 1) ∧ decode cMod_areSame 21 = .ok (.iconst 0, 1) ∧ decode cMod_areSame 22 = .ok (.invokevirtual 88, 3) ∧ decode cMod_areSame 25 = .ok (.ifCond .ne 25, 3) ∧ decode cMod_areSame 28 = .ok (.aload_n 0, 1) ∧ decode cMod_areSame 29 = .ok (.getfield 11, 3) ∧ decode cMod_areSame 32 = .ok (.iload_n 1, 1) ∧ decode cMod_areSame 33 = .ok (.aaload, 1) ∧ decode cMod_areSame 34 = .ok (.aload_n 0, 1) ∧ decode cMod_areSame 35 = .ok (.getfield 11, 3) ∧ decode cMod_areSame 38 = .ok (.iload_n 2, 1) ∧ decode cMod_areSame 39 = .ok (.aaload, 1) ∧ decode cMod_areSame 40 = .ok (.invokestatic 137, 3) ∧ decode cMod_areSame 43 = .ok (.ifCond .eq 7, 3) ∧ decode cMod_areSame 46 = .ok (.iconst 1, 1) ∧ decode cMod_areSame 47 = .ok (.goto 4, 3) ∧ decode cMod_areSame 50 = .ok (.iconst 0, 1) ∧ decode cMod_areSame 51 = .ok (.ireturn, 1) ∧ True := Jvm.Free.DS.facts (code := cMod_areSame) 0 [(.aload_n 0, 1), (.iload_n 1, 1), (.invokestatic 81, 3), (.ifCond .ne 10, 3), (.iload_n 2, 1), (.invokestatic 81, 3), (.ifCond .eq 7, 3), (.iconst 1, 1), (.goto 4, 3), (.iconst 0, 1), (.iconst 0, 1), (.iconst 0, 1), (.invokevirtual 88, 3), (.ifCond .ne 25, 3), (.aload_n 0, 1), (.getfield 11, 3), (.iload_n 1, 1), (.aaload, 1), (.aload_n 0, 1), (.getfield 11, 3), (.iload_n 2, 1), (.aaload, 1), (.invokestatic 137, 3), (.ifCond .eq 7, 3), (.iconst 1, 1), (.goto 4, 3), (.iconst 0, 1), (.ireturn, 1)] (by decide +kernel) (by decide +kernel)
theorem dMod_areSame_0 : decode cMod_areSame 0 = .ok (.aload_n 0, 1) := zfMod_areSame_0.1
theorem dMod_areSame_1 : decode cMod_areSame 1 = .ok (.iload_n 1, 1) := zfMod_areSame_0.2.1
theorem dMod_areSame_2 : decode cMod_areSame 2 = .ok (.invokestatic 81, 3) := zfMod_areSame_0.2.2.1
theorem dMod_areSame_5 : decode cMod_areSame 5 = .ok (.ifCond .ne 10, 3) := zfMod_areSame_0.2.2.2.1
theorem dMod_areSame_8 : decode cMod_areSame 8 = .ok (.iload_n 2, 1) := zfMod_areSame_0.2.2.2.2.1
theorem dMod_areSame_9 : decode cMod_areSame 9 = .ok (.invokestatic 81, 3) := zfMod_areSame_0.2.2.2.2.2.1
theorem dMod_areSame_12 : decode cMod_areSame 12 = .ok (.ifCond .eq 7, 3) := zfMod_areSame_0.2.2.2.2.2.2.1
theorem dMod_areSame_15 : decode cMod_areSame 15 = .ok (.iconst 1, 1) := zfMod_areSame_0.2.2.2.2.2.2.2.1
theorem dMod_areSame_16 : decode cMod_areSame 16 = .ok (.goto 4, 3) := zfMod_areSame_0.2.2.2.2.2.2.2.2.1
theorem dMod_areSame_19 : decode cMod_areSame 19 = .ok (.iconst 0, 1) := zfMod_areSame_0.2.2.2.2.2.2.2.2.2.1
theorem dMod_areSame_20 : decode cMod_areSame 20 = .ok (.iconst 0, 1) := zfMod_areSame_0.2.2.2.2.2.2.2.2.2.2.1
theorem dMod_areSame_21 : decode cMod_areSame 21 = .ok (.iconst 0, 1) := zfMod_areSame_0.2.2.2.2.2.2.2.2.2.2.2.1
theorem dMod_areSame_22 : decode cMod_areSame 22 = .ok (.invokevirtual 88, 3) := zfMod_areSame_0.2.2.2.2.2.2.2.2.2.2.2.2.1
theorem dMod_areSame_25 : decode cMod_areSame 25 = .ok (.ifCond .ne 25, 3) := zfMod_areSame_0.2.2.2.2.2.2.2.2.2.2.2.2.2.1
theorem dMod_areSame_28 : decode cMod_areSame 28 = .ok (.aload_n 0, 1) := zfMod_areSame_0.2.2.2.2.2.2.2.2.2.2.2.2.2.2.1
theorem dMod_areSame_29 : decode cMod_areSame 29 = .ok (.getfield 11, 3) := zfMod_areSame_0.2.2.2.2.2.2.2.2.2.2.2.2.2.2.2.1
theorem dMod_areSame_32 : decode cMod_areSame 32 = .ok (.iload_n 1, 1) := zfMod_areSame_0.2.2.2.2.2.2.2.2.2.2.2.2.2.2.2.2.1
theorem dMod_areSame_33 : decode cMod_areSame 33 = .ok (.aaload, 1) := zfMod_areSame_0.2.2.2.2.2.2.2.2.2.2.2.2.2.2.2.2.2.1
theorem dMod_areSame_34 : decode cMod_areSame 34 = .ok (.aload_n 0, 1) := zfMod_areSame_0.2.2.2.2.2.2.2.2.2.2.2.2.2.2.2.2.2.2.1
theorem dMod_areSame_35 : decode cMod_areSame 35 = .ok (.getfield 11, 3) := zfMod_areSame_0.2.2.2.2.2.2.2.2.2.2.2.2.2.2.2.2.2.2.2.1
theorem dMod_areSame_38 : decode cMod_areSame 38 = .ok (.iload_n 2, 1) := zfMod_areSame_0.2.2.2.2.2.2.2.2.2.2.2.2.2.2.2.2.2.2.2.2.1
theorem dMod_areSame_39 : decode cMod_areSame 39 = .ok (.aaload, 1) := zfMod_areSame_0.2.2.2.2.2.2.2.2.2.2.2.2.2.2.2.2.2.2.2.2.2.1
theorem dMod_areSame_40 : decode cMod_areSame 40 = .ok (.invokestatic 137, 3) := zfMod_areSame_0.2.2.2.2.2.2.2.2.2.2.2.2.2.2.2.2.2.2.2.2.2.2.1
theorem dMod_areSame_43 : decode cMod_areSame 43 = .ok (.ifCond .eq 7, 3) := zfMod_areSame_0.2.2.2.2.2.2.2.2.2.2.2.2.2.2.2.2.2.2.2.2.2.2.2.1
theorem dMod_areSame_46 : decode cMod_areSame 46 = .ok (.iconst 1, 1) := zfMod_areSame_0.2.2.2.2.2.2.2.2.2.2.2.2.2.2.2.2.2.2.2.2.2.2.2.2.1
theorem dMod_areSame_47 : decode cMod_areSame 47 = .ok (.goto 4, 3) := zfMod_areSame_0.2.2.2.2.2.2.2.2.2.2.2.2.2.2.2.2.2.2.2.2.2.2.2.2.2.1
theorem dMod_areSame_50 : decode cMod_areSame 50 = .ok (.iconst 0, 1) := zfMod_areSame_0.2.2.2.2.2.2.2.2.2.2.2.2.2.2.2.2.2.2.2.2.2.2.2.2.2.2.1
theorem dMod_areSame_51 : decode cMod_areSame 51 = .ok (.ireturn, 1) := zfMod_areSame_0.2.2.2.2.2.2.2.2.2.2.2.2.2.2.2.2.2.2.2.2.2.2.2.2.2.2.2.1
theorem zfMod_isMirror_0 : decode cMod_isMirror 0 = .ok (.aload_n 0, 1) ∧ decode cMod_isMirror 1 = .ok (.iload_n 1, 1) ∧ decode cMod_isMirror 2 = .ok (.invokestatic 81, 3) ∧ decode cMod_isMirror 5 = .ok (.iconst 0, 1) ∧ decode cMod_isMirror 6 = .ok (.iconst 0, 1) ∧ decode cMod_isMirror 7 = .ok (.invokevirtual 88, 3) ∧ decode cMod_isMirror 10 = .ok (.ifCond .ne 28, 3) ∧ decode cMod_isMirror 13 = .ok (.aload_n 0, 1) ∧ decode cMod_isMirror 14 = .ok (.getfield 11, 3) ∧ decode cMod_isMirror 17 = .ok (.iload_n 1, 1) ∧ decode cMod_isMirror 18 = .ok (.aaload, 1) ∧ decode cMod_isMirror 19 = .ok (.aload_n 0, 1) ∧ decode cMod_isMirror 20 = .ok (.getfield 11, 3) ∧ decode cMod_isMirror 23 = .ok (.iload_n 1, 1) ∧ decode cMod_isMirror 24 = .ok (.aaload, 1) ∧ decode cMod_isMirror 25 = .ok (.invokestatic 114, 3) ∧ decode cMod_isMirror 28 = .ok (.invokestatic 137, 3) ∧ decode cMod_isMirror 31 = .ok (.ifCond .eq 7, 3) ∧ decode cMod_isMirror 34 = .ok (.iconst 1, 1) ∧ decode cMod_isMirror 35 = .ok (.goto 4, 3) ∧ decode cMod_isMirror 38 = .ok (.iconst 0, 1) ∧ decode cMod_isMirror 39 = .ok (.ireturn, 1) ∧ True := Jvm.Free.DS.facts (code := cMod_isMirror) 0 [(.aload_n 0, 1), (.iload_n 1, 1), (.invokestatic 81, 3), (.iconst 0, 1), (.iconst 0, 1), (.invokevirtual 88, 3), (.ifCond .ne 28, 3), (.aload_n 0, 1), (.getfield 11, 3), (.iload_n 1, 1), (.aaload, 1), (.aload_n 0, 1), (.getfield 11, 3), (.iload_n 1, 1), (.aaload, 1), (.invokestatic 114, 3), (.invokestatic 137, 3), (.ifCond .eq 7, 3), (.iconst 1, 1), (.goto 4, 3), (.iconst 0, 1), (.ireturn, 1)] (by decide +kernel) (by decide +kernel)
theorem dMod_isMirror_0 : decode cMod_isMirror 0 = .ok (.aload_n 0, 1) := zfMod_isMirror_0.1
theorem dMod_isMirror_1 : decode cMod_isMirror 1 = .ok (.iload_n 1, 1) := zfMod_isMirror_0.2.1
theorem dMod_isMirror_2 : decode cMod_isMirror 2 = .ok (.invokestatic 81, 3) := zfMod_isMirror_0.2.2.1
theorem dMod_isMirror_5 : decode cMod_isMirror 5 = .ok (.iconst 0, 1) := zfMod_isMirror_0.2.2.2.1
theorem dMod_isMirror_6 : decode cMod_isMirror 6 = .ok (.iconst 0, 1) := zfMod_isMirror_0.2.2.2.2.1
theorem dMod_isMirror_7 : decode cMod_isMirror 7 = .ok (.invokevirtual 88, 3) := zfMod_isMirror_0.2.2.2.2.2.1
theorem dMod_isMirror_10 : decode cMod_isMirror 10 = .ok (.ifCond .ne 28, 3) := zfMod_isMirror_0.2.2.2.2.2.2.1
theorem dMod_isMirror_13 : decode cMod_isMirror 13 = .ok (.aload_n 0, 1) := zfMod_isMirror_0.2.2.2.2.2.2.2.1
theorem dMod_isMirror_14 : decode cMod_isMirror 14 = .ok (.getfield 11, 3) := zfMod_isMirror_0.2.2.2.2.2.2.2.2.1
theorem dMod_isMirror_17 : decode cMod_isMirror 17 = .ok (.iload_n 1, 1) := zfMod_isMirror_0.2.2.2.2.2.2.2.2.2.1
theorem dMod_isMirror_18 : decode cMod_isMirror 18 = .ok (.aaload, 1) := zfMod_isMirror_0.2.2.2.2.2.2.2.2.2.2.1
theorem dMod_isMirror_19 : decode cMod_isMirror 19 = .ok (.aload_n 0, 1) := zfMod_isMirror_0.2.2.2.2.2.2.2.2.2.2.2.1
theorem dMod_isMirror_20 : decode cMod_isMirror 20 = .ok (.getfield 11, 3) := zfMod_isMirror_0.2.2.2.2.2.2.2.2.2.2.2.2.1
theorem dMod_isMirror_23 : decode cMod_isMirror 23 = .ok (.iload_n 1, 1) := zfMod_isMirror_0.2.2.2.2.2.2.2.2.2.2.2.2.2.1
theorem dMod_isMirror_24 : decode cMod_isMirror 24 = .ok (.aaload, 1) := zfMod_isMirror_0.2.2.2.2.2.2.2.2.2.2.2.2.2.2.1
theorem dMod_isMirror_25 : decode cMod_isMirror 25 = .ok (.invokestatic 114, 3) := zfMod_isMirror_0.2.2.2.2.2.2.2.2.2.2.2.2.2.2.2.1
theorem dMod_isMirror_28 : decode cMod_isMirror 28 = .ok (.invokestatic 137, 3) := zfMod_isMirror_0.2.2.2.2.2.2.2.2.2.2.2.2.2.2.2.2.1
theorem dMod_isMirror_31 : decode cMod_isMirror 31 = .ok (.ifCond .eq 7, 3) := zfMod_isMirror_0.2.2.2.2.2.2.2.2.2.2.2.2.2.2.2.2.2.1
theorem dMod_isMirror_34 : decode cMod_isMirror 34 = .ok (.iconst 1, 1) := zfMod_isMirror_0.2.2.2.2.2.2.2.2.2.2.2.2.2.2.2.2.2.2.1
theorem dMod_isMirror_35 : decode cMod_isMirror 35 = .ok (.goto 4, 3) := zfMod_isMirror_0.2.2.2.2.2.2.2.2.2.2.2.2.2.2.2.2.2.2.2.1
theorem dMod_isMirror_38 : decode cMod_isMirror 38 = .ok (.iconst 0, 1) := zfMod_isMirror_0.2.2.2.2.2.2.2.2.2.2.2.2.2.2.2.2.2.2.2.2.1
theorem dMod_isMirror_39 : decode cMod_isMirror 39 = .ok (.ireturn, 1) := zfMod_isMirror_0.2.2.2.2.2.2.2.2.2.2.2.2.2.2.2.2.2.2.2.2.2.1
theorem zfMod_open_0 : decode cMod_open 0 = .ok (.aload_n 0, 1) ∧ decode cMod_open 1 = .ok (.iload_n 1, 1) ∧ decode cMod_open 2 = .ok (.invokestatic 141, 3) ∧ decode cMod_open 5 = .ok (.ifCond .ne 25, 3) ∧ decode cMod_open 8 = .ok (.iload_n 2, 1) ∧ decode cMod_open 9 = .ok (.invokestatic 81, 3) ∧ decode cMod_open 12 = .ok (.ifCond .ne 18, 3) ∧ decode cMod_open 15 = .ok (.iload_n 3, 1) ∧ decode cMod_open 16 = .ok (.iconst 0, 1) ∧ decode cMod_open 17 = .ok (.aload_n 0, 1) ∧ decode cMod_open 18 = .ok (.getfield 11, 3) ∧ decode cMod_open 21 = .ok (.iload_n 2, 1) ∧ decode cMod_open 22 = .ok (.aaload, 1) ∧ decode cMod_open 23 = .ok (.arraylength, 1) ∧ decode cMod_open 24 = .ok (.invokestatic 41, 3) ∧ decode cMod_open 27 = .ok (.ifCond .eq 7, 3) ∧ decode cMod_open 30 = .ok (.iconst 1, 1) ∧ decode cMod_open 31 = .ok (.goto 4, 3) ∧ decode cMod_open 34 = .ok (.iconst 0, 1) ∧ decode cMod_open 35 = .ok (.iconst 0, 1) ∧ decode cMod_open 36 = .ok (.iconst 0, 1) ∧ decode cMod_open 37 = .ok (.invokevirtual 88, 3) ∧ decode cMod_open 40 = .ok (.ifCond .eq 5, 3) ∧ decode cMod_open 43 = .ok (.iconst 0, 1) ∧ decode cMod_open 44 = .ok (.ireturn, 1) ∧ decode cMod_open 45 = .ok (.aload_n 0, 1) ∧ decode cMod_open 46 = .ok (.getfield 14, 3) ∧ decode cMod_open 49 = .ok (.iload_n 1, 1) ∧ decode cMod_open 50 = .ok (.iconst 1, 1) ∧ decode cMod_open 51 = .ok (.bastore, 1) ∧ decode cMod_open 52 = .ok (.aload_n 0, 1) ∧ decode cMod_open 53 = .ok (.getfield 18, 3) ∧ True := Jvm.Free.DS.facts (code := cMod_open) 0 [(.aload_n 0, 1), (.iload_n 1, 1), (.invokestatic 141, 3), (.ifCond .ne 25, 3), (.iload_n 2, 1), (.invokestatic 81, 3), (.ifCond .ne 18, 3), (.iload_n 3, 1), (.iconst 0, 1), (.aload_n 0, 1), (.getfield 11, 3), (.iload_n 2, 1), (.aaload, 1), (.arraylength, 1), (.invokestatic 41, 3), (.ifCond .eq 7, 3), (.iconst 1, 1), (.goto 4, 3), (.iconst 0, 1), (.iconst 0, 1), (.iconst 0, 1), (.invokevirtual 88, 3), (.ifCond .eq 5, 3), (.iconst 0, 1), (.ireturn, 1), (.aload_n 0, 1), (.getfield 14, 3), (.iload_n 1, 1), (.iconst 1, 1), (.bastore, 1), (.aload_n 0, 1), (.getfield 18, 3)] (by decide +kernel) (by decide +kernel)
theorem dMod_open_0 : decode cMod_open 0 = .ok (.aload_n 0, 1) := zfMod_open_0.1
theorem dMod_open_1 : decode cMod_open 1 = .ok (.iload_n 1, 1) := zfMod_open_0.2.1
theorem dMod_open_2 : decode cMod_open 2 = .ok (.invokestatic 141, 3) := zfMod_open_0.2.2.1
theorem dMod_open_5 : decode cMod_open 5 = .ok (.ifCond .ne 25, 3) := zfMod_open_0.2.2.2.1
theorem dMod_open_8 : decode cMod_open 8 = .ok (.iload_n 2, 1) := zfMod_open_0.2.2.2.2.1
theorem dMod_open_9 : decode cMod_open 9 = .ok (.invokestatic 81, 3) := zfMod_open_0.2.2.2.2.2.1
theorem dMod_open_12 : decode cMod_open 12 = .ok (.ifCond .ne 18, 3) := zfMod_open_0.2.2.2.2.2.2.1
theorem dMod_open_15 : decode cMod_open 15 = .ok (.iload_n 3, 1) := zfMod_open_0.2.2.2.2.2.2.2.1
theorem dMod_open_16 : decode cMod_open 16 = .ok (.iconst 0, 1) := zfMod_open_0.2.2.2.2.2.2.2.2.1
theorem dMod_open_17 : decode cMod_open 17 = .ok (.aload_n 0, 1) := zfMod_open_0.2.2.2.2.2.2.2.2.2.1
theorem dMod_open_18 : decode cMod_open 18 = .ok (.getfield 11, 3) := zfMod_open_0.2.2.2.2.2.2.2.2.2.2.1
theorem dMod_open_21 : decode cMod_open 21 = .ok (.iload_n 2, 1) := zfMod_open_0.2.2.2.2.2.2.2.2.2.2.2.1
theorem dMod_open_22 : decode cMod_open 22 = .ok (.aaload, 1) := zfMod_open_0.2.2.2.2.2.2.2.2.2.2.2.2.1
theorem dMod_open_23 : decode cMod_open 23 = .ok (.arraylength, 1) := zfMod_open_0.2.2.2.2.2.2.2.2.2.2.2.2.2.1
theorem dMod_open_24 : decode cMod_open 24 = .ok (.invokestatic 41, 3) := zfMod_open_0.2.2.2.2.2.2.2.2.2.2.2.2.2.2.1
theorem dMod_open_27 : decode cMod_open 27 = .ok (.ifCond .eq 7, 3) := zfMod_open_0.2.2.2.2.2.2.2.2.2.2.2.2.2.2.2.1
theorem dMod_open_30 : decode cMod_open 30 = .ok (.iconst 1, 1) := zfMod_open_0.2.2.2.2.2.2.2.2.2.2.2.2.2.2.2.2.1
theorem dMod_open_31 : decode cMod_open 31 = .ok (.goto 4, 3) := zfMod_open_0.2.2.2.2.2.2.2.2.2.2.2.2.2.2.2.2.2.1
theorem dMod_open_34 : decode cMod_open 34 = .ok (.iconst 0, 1) := zfMod_open_0.2.2.2.2.2.2.2.2.2.2.2.2.2.2.2.2.2.2.1
theorem dMod_open_35 : decode cMod_open 35 = .ok (.iconst 0, 1) := zfMod_open_0.2.2.2.2.2.2.2.2.2.2.2.2.2.2.2.2.2.2.2.1
theorem dMod_open_36 : decode cMod_open 36 = .ok (.iconst 0, 1) := zfMod_open_0.2.2.2.2.2.2.2.2.2.2.2.2.2.2.2.2.2.2.2.2.1
theorem dMod_open_37 : decode cMod_open 37 = .ok (.invokevirtual 88, 3) := zfMod_open_0.2.2.2.2.2.2.2.2.2.2.2.2.2.2.2.2.2.2.2.2.2.1
theorem dMod_open_40 : decode cMod_open 40 = .ok (.ifCond .eq 5, 3) := zfMod_open_0.2.2.2.2.2.2.2.2.2.2.2.2.2.2.2.2.2.2.2.2.2.2.1
theorem dMod_open_43 : decode cMod_open 43 = .ok (.iconst 0, 1) := zfMod_open_0.2.2.2.2.2.2.2.2.2.2.2.2.2.2.2.2.2.2.2.2.2.2.2.1
theorem dMod_open_44 : decode cMod_open 44 = .ok (.ireturn, 1) := zfMod_open_0.2.2.2.2.2.2.2.2.2.2.2.2.2.2.2.2.2.2.2.2.2.2.2.2.1
theorem dMod_open_45 : decode cMod_open 45 = .ok (.aload_n 0, 1) := zfMod_open_0.2.2.2.2.2.2.2.2.2.2.2.2.2.2.2.2.2.2.2.2.2.2.2.2.2.1
theorem dMod_open_46 : decode cMod_open 46 = .ok (.getfield 14, 3) := zfMod_open_0.2.2.2.2.2.2.2.2.2.2.2.2.2.2.2.2.2.2.2.2.2.2.2.2.2.2.1
theorem dMod_open_49 : decode cMod_open 49 = .ok (.iload_n 1, 1) := zfMod_open_0.2.2.2.2.2.2.2.2.2.2.2.2.2.2.2.2.2.2.2.2.2.2.2.2.2.2.2.1
theorem dMod_open_50 : decode cMod_open 50 = .ok (.iconst 1, 1) := zfMod_open_0.2.2.2.2.2.2.2.2.2.2.2.2.2.2.2.2.2.2.2.2.2.2.2.2.2.2.2.2.1
theorem dMod_open_51 : decode cMod_open 51 = .ok (.bastore, 1) := zfMod_open_0.2.2.2.2.2.2.2.2.2.2.2.2.2.2.2.2.2.2.2.2.2.2.2.2.2.2.2.2.2.1
theorem dMod_open_52 : decode cMod_open 52 = .ok (.aload_n 0, 1) := zfMod_open_0.2.2.2.2.2.2.2.2.2.2.2.2.2.2.2.2.2.2.2.2.2.2.2.2.2.2.2.2.2.2.1
theorem dMod_open_53 : decode cMod_open 53 = .ok (.getfield 18, 3) := zfMod_open_0.2.2.2.2.2.2.2.2.2.2.2.2.2.2.2.2.2.2.2.2.2.2.2.2.2.2.2.2.2.2.2.1
theorem zfMod_open_56 : decode cMod_open 56 = .ok (.iload_n 1, 1) ∧ decode cMod_open 57 = .ok (.iconst 0, 1) ∧ decode cMod_open 58 = .ok (.bastore, 1) ∧ decode cMod_open 59 = .ok (.aload_n 0, 1) ∧ decode cMod_open 60 = .ok (.getfield 21, 3) ∧ decode cMod_open 63 = .ok (.iload_n 1, 1) ∧ decode cMod_open 64 = .ok (.iload_n 2, 1) ∧ decode cMod_open 65 = .ok (.iastore, 1) ∧ decode cMod_open 66 = .ok (.aload_n 0, 1) ∧ decode cMod_open 67 = .ok (.getfield 25, 3) ∧ decode cMod_open 70 = .ok (.iload_n 1, 1) ∧ decode cMod_open 71 = .ok (.iload_n 3, 1) ∧ decode cMod_open 72 = .ok (.iastore, 1) ∧ decode cMod_open 73 = .ok (.aload_n 0, 1) ∧ decode cMod_open 74 = .ok (.getfield 28, 3) ∧ decode cMod_open 77 = .ok (.iload_n 1, 1) ∧ decode cMod_open 78 = .ok (.iconst (-1), 1) ∧ decode cMod_open 79 = .ok (.iastore, 1) ∧ decode cMod_open 80 = .ok (.aload_n 0, 1) ∧ decode cMod_open 81 = .ok (.getfield 11, 3) ∧ decode cMod_open 84 = .ok (.iload_n 2, 1) ∧ decode cMod_open 85 = .ok (.aaload, 1) ∧ decode cMod_open 86 = .ok (.arraylength, 1) ∧ decode cMod_open 87 = .ok (.iload_n 3, 1) ∧ decode cMod_open 88 = .ok (.isub, 1) ∧ decode cMod_open 89 = .ok (.ireturn, 1) ∧ True := Jvm.Free.DS.facts (code := cMod_open) 56 [(.iload_n 1, 1), (.iconst 0, 1), (.bastore, 1), (.aload_n 0, 1), (.getfield 21, 3), (.iload_n 1, 1), (.iload_n 2, 1), (.iastore, 1), (.aload_n 0, 1), (.getfield 25, 3), (.iload_n 1, 1), (.iload_n 3, 1), (.iastore, 1), (.aload_n 0, 1), (.getfield 28, 3), (.iload_n 1, 1), (.iconst (-1), 1), (.iastore, 1), (.aload_n 0, 1), (.getfield 11, 3), (.iload_n 2, 1), (.aaload, 1), (.arraylength, 1), (.iload_n 3, 1), (.isub, 1), (.ireturn, 1)] (by decide +kernel) (by decide +kernel)
theorem dMod_open_56 : decode cMod_open 56 = .ok (.iload_n 1, 1) := zfMod_open_56.1
theorem dMod_open_57 : decode cMod_open 57 = .ok (.iconst 0, 1) := zfMod_open_56.2.1
theorem dMod_open_58 : decode cMod_open 58 = .ok (.bastore, 1) := zfMod_open_56.2.2.1
theorem dMod_open_59 : decode cMod_open 59 = .ok (.aload_n 0, 1) := zfMod_open_56.2.2.2.1
theorem dMod_open_60 : decode cMod_open 60 = .ok (.getfield 21, 3) := zfMod_open_56.2.2.2.2.1
theorem dMod_open_63 : decode cMod_open 63 = .ok (.iload_n 1, 1) := zfMod_open_56.2.2.2.2.2.1
theorem dMod_open_64 : decode cMod_open 64 = .ok (.iload_n 2, 1) := zfMod_open_56.2.2.2.2.2.2.1
theorem dMod_open_65 : decode cMod_open 65 = .ok (.iastore, 1) := zfMod_open_56.2.2.2.2.2.2.2.1
theorem dMod_open_66 : decode cMod_open 66 = .ok (.aload_n 0, 1) := zfMod_open_56.2.2.2.2.2.2.2.2.1
theorem dMod_open_67 : decode cMod_open 67 = .ok (.getfield 25, 3) := zfMod_open_56.2.2.2.2.2.2.2.2.2.1
theorem dMod_open_70 : decode cMod_open 70 = .ok (.iload_n 1, 1) := zfMod_open_56.2.2.2.2.2.2.2.2.2.2.1
theorem dMod_open_71 : decode cMod_open 71 = .ok (.iload_n 3, 1) := zfMod_open_56.2.2.2.2.2.2.2.2.2.2.2.1
theorem dMod_open_72 : decode cMod_open 72 = .ok (.iastore, 1) := zfMod_open_56.2.2.2.2.2.2.2.2.2.2.2.2.1
theorem dMod_open_73 : decode cMod_open 73 = .ok (.aload_n 0, 1) := zfMod_open_56.2.2.2.2.2.2.2.2.2.2.2.2.2.1
theorem dMod_open_74 : decode cMod_open 74 = .ok (.getfield 28, 3) := zfMod_open_56.2.2.2.2.2.2.2.2.2.2.2.2.2.2.1
theorem dMod_open_77 : decode cMod_open 77 = .ok (.iload_n 1, 1) := zfMod_open_56.2.2.2.2.2.2.2.2.2.2.2.2.2.2.2.1
theorem dMod_open_78 : decode cMod_open 78 = .ok (.iconst (-1), 1) := zfMod_open_56.2.2.2.2.2.2.2.2.2.2.2.2.2.2.2.2.1
theorem dMod_open_79 : decode cMod_open 79 = .ok (.iastore, 1) := zfMod_open_56.2.2.2.2.2.2.2.2.2.2.2.2.2.2.2.2.2.1
theorem dMod_open_80 : decode cMod_open 80 = .ok (.aload_n 0, 1) := zfMod_open_56.2.2.2.2.2.2.2.2.2.2.2.2.2.2.2.2.2.2.1
theorem dMod_open_81 : decode cMod_open 81 = .ok (.getfield 11, 3) := zfMod_open_56.2.2.2.2.2.2.2.2.2.2.2.2.2.2.2.2.2.2.2.1
theorem dMod_open_84 : decode cMod_open 84 = .ok (.iload_n 2, 1) := zfMod_open_56.2.2.2.2.2.2.2.2.2.2.2.2.2.2.2.2.2.2.2.2.1
theorem dMod_open_85 : decode cMod_open 85 = .ok (.aaload, 1) := zfMod_open_56.2.2.2.2.2.2.2.2.2.2.2.2.2.2.2.2.2.2.2.2.2.1
theorem dMod_open_86 : decode cMod_open 86 = .ok (.arraylength, 1) := zfMod_open_56.2.2.2.2.2.2.2.2.2.2.2.2.2.2.2.2.2.2.2.2.2.2.1
theorem dMod_open_87 : decode cMod_open 87 = .ok (.iload_n 3, 1) := zfMod_open_56.2.2.2.2.2.2.2.2.2.2.2.2.2.2.2.2.2.2.2.2.2.2.2.1
theorem dMod_open_88 : decode cMod_open 88 = .ok (.isub, 1) := zfMod_open_56.2.2.2.2.2.2.2.2.2.2.2.2.2.2.2.2.2.2.2.2.2.2.2.2.1
theorem dMod_open_89 : decode cMod_open 89 = .ok (.ireturn, 1) := zfMod_open_56.2.2.2.2.2.2.2.2.2.2.2.2.2.2.2.2.2.2.2.2.2.2.2.2.2.1
theorem zfMod_shut_0 : decode cMod_shut 0 = .ok (.aload_n 0, 1) ∧ decode cMod_shut 1 = .ok (.iload_n 1, 1) ∧ decode cMod_shut 2 = .ok (.invokestatic 141, 3) ∧ decode cMod_shut 5 = .ok (.iconst 0, 1) ∧ decode cMod_shut 6 = .ok (.iconst 0, 1) ∧ decode cMod_shut 7 = .ok (.invokevirtual 88, 3) ∧ decode cMod_shut 10 = .ok (.ifCond .eq 5, 3) ∧ decode cMod_shut 13 = .ok (.iconst 0, 1) ∧ decode cMod_shut 14 = .ok (.ireturn, 1) ∧ decode cMod_shut 15 = .ok (.aload_n 0, 1) ∧ decode cMod_shut 16 = .ok (.getfield 14, 3) ∧ decode cMod_shut 19 = .ok (.iload_n 1, 1) ∧ decode cMod_shut 20 = .ok (.baload, 1) ∧ decode cMod_shut 21 = .ok (.istore_n 2, 1) ∧ decode cMod_shut 22 = .ok (.aload_n 0, 1) ∧ decode cMod_shut 23 = .ok (.getfield 14, 3) ∧ decode cMod_shut 26 = .ok (.iload_n 1, 1) ∧ decode cMod_shut 27 = .ok (.iconst 0, 1) ∧ decode cMod_shut 28 = .ok (.bastore, 1) ∧ decode cMod_shut 29 = .ok (.aload_n 0, 1) ∧ decode cMod_shut 30 = .ok (.getfield 18, 3) ∧ decode cMod_shut 33 = .ok (.iload_n 1, 1) ∧ decode cMod_shut 34 = .ok (.iconst 0, 1) ∧ decode cMod_shut 35 = .ok (.bastore, 1) ∧ decode cMod_shut 36 = .ok (.iload_n 2, 1) ∧ decode cMod_shut 37 = .ok (.ireturn, 1) ∧ True := Jvm.Free.DS.facts (code := cMod_shut) 0 [(.aload_n 0, 1), (.iload_n 1, 1), (.invokestatic 141, 3), (.iconst 0, 1), (.iconst 0, 1), (.invokevirtual 88, 3), (.ifCond .eq 5, 3), (.iconst 0, 1), (.ireturn, 1), (.aload_n 0, 1), (.getfield 14, 3), (.iload_n 1, 1), (.baload, 1), (.istore_n 2, 1), (.aload_n 0, 1), (.getfield 14, 3), (.iload_n 1, 1), (.iconst 0, 1), (.bastore, 1), (.aload_n 0, 1), (.getfield 18, 3), (.iload_n 1, 1), (.iconst 0, 1), (.bastore, 1), (.iload_n 2, 1), (.ireturn, 1)] (by decide +kernel) (by decide +kernel)
theorem dMod_shut_0 : decode cMod_shut 0 = .ok (.aload_n 0, 1) := zfMod_shut_0.1
theorem dMod_shut_1 : decode cMod_shut 1 = .ok (.iload_n 1, 1) := zfMod_shut_0.2.1
theorem dMod_shut_2 : decode cMod_shut 2 = .ok (.invokestatic 141, 3) := zfMod_shut_0.2.2.1
theorem dMod_shut_5 : decode cMod_shut 5 = .ok (.iconst 0, 1) := zfMod_shut_0.2.2.2.1
theorem dMod_shut_6 : decode cMod_shut 6 = .ok (.iconst 0, 1) := zfMod_shut_0.2.2.2.2.1
theorem dMod_shut_7 : decode cMod_shut 7 = .ok (.invokevirtual 88, 3) := zfMod_shut_0.2.2.2.2.2.1
theorem dMod_shut_10 : decode cMod_shut 10 = .ok (.ifCond .eq 5, 3) := zfMod_shut_0.2.2.2.2.2.2.1
theorem dMod_shut_13 : decode cMod_shut 13 = .ok (.iconst 0, 1) := zfMod_shut_0.2.2.2.2.2.2.2.1
theorem dMod_shut_14 : decode cMod_shut 14 = .ok (.ireturn, 1) := zfMod_shut_0.2.2.2.2.2.2.2.2.1
theorem dMod_shut_15 : decode cMod_shut 15 = .ok (.aload_n 0, 1) := zfMod_shut_0.2.2.2.2.2.2.2.2.2.1
theorem dMod_shut_16 : decode cMod_shut 16 = .ok (.getfield 14, 3) := zfMod_shut_0.2.2.2.2.2.2.2.2.2.2.1
theorem dMod_shut_19 : decode cMod_shut 19 = .ok (.iload_n 1, 1) := zfMod_shut_0.2.2.2.2.2.2.2.2.2.2.2.1
theorem dMod_shut_20 : decode cMod_shut 20 = .ok (.baload, 1) := zfMod_shut_0.2.2.2.2.2.2.2.2.2.2.2.2.1
theorem dMod_shut_21 : decode cMod_shut 21 = .ok (.istore_n 2, 1) := zfMod_shut_0.2.2.2.2.2.2.2.2.2.2.2.2.2.1
theorem dMod_shut_22 : decode cMod_shut 22 = .ok (.aload_n 0, 1) := zfMod_shut_0.2.2.2.2.2.2.2.2.2.2.2.2.2.2.1
theorem dMod_shut_23 : decode cMod_shut 23 = .ok (.getfield 14, 3) := zfMod_shut_0.2.2.2.2.2.2.2.2.2.2.2.2.2.2.2.1
theorem dMod_shut_26 : decode cMod_shut 26 = .ok (.iload_n 1, 1) := zfMod_shut_0.2.2.2.2.2.2.2.2.2.2.2.2.2.2.2.2.1
theorem dMod_shut_27 : decode cMod_shut 27 = .ok (.iconst 0, 1) := zfMod_shut_0.2.2.2.2.2.2.2.2.2.2.2.2.2.2.2.2.2.1
theorem dMod_shut_28 : decode cMod_shut 28 = .ok (.bastore, 1) := zfMod_shut_0.2.2.2.2.2.2.2.2.2.2.2.2.2.2.2.2.2.2.1
theorem dMod_shut_29 : decode cMod_shut 29 = .ok (.aload_n 0, 1) := zfMod_shut_0.2.2.2.2.2.2.2.2.2.2.2.2.2.2.2.2.2.2.2.1
theorem dMod_shut_30 : decode cMod_shut 30 = .ok (.getfield 18, 3) := zfMod_shut_0.2.2.2.2.2.2.2.2.2.2.2.2.2.2.2.2.2.2.2.2.1
theorem dMod_shut_33 : decode cMod_shut 33 = .ok (.iload_n 1, 1) := zfMod_shut_0.2.2.2.2.2.2.2.2.2.2.2.2.2.2.2.2.2.2.2.2.2.1
theorem dMod_shut_34 : decode cMod_shut 34 = .ok (.iconst 0, 1) := zfMod_shut_0.2.2.2.2.2.2.2.2.2.2.2.2.2.2.2.2.2.2.2.2.2.2.1
theorem dMod_shut_35 : decode cMod_shut 35 = .ok (.bastore, 1) := zfMod_shut_0.2.2.2.2.2.2.2.2.2.2.2.2.2.2.2.2.2.2.2.2.2.2.2.1
theorem dMod_shut_36 : decode cMod_shut 36 = .ok (.iload_n 2, 1) := zfMod_shut_0.2.2.2.2.2.2.2.2.2.2.2.2.2.2.2.2.2.2.2.2.2.2.2.2.1
theorem dMod_shut_37 : decode cMod_shut 37 = .ok (.ireturn, 1) := zfMod_shut_0.2.2.2.2.2.2.2.2.2.2.2.2.2.2.2.2.2.2.2.2.2.2.2.2.2.1
theorem zfMod_isNotThere_0 : decode cMod_isNotThere 0 = .ok (.iload_n 1, 1) ∧ decode cMod_isNotThere 1 = .ok (.invokestatic 141, 3) ∧ decode cMod_isNotThere 4 = .ok (.ifCond .ne 16, 3) ∧ decode cMod_isNotThere 7 = .ok (.aload_n 0, 1) ∧ decode cMod_isNotThere 8 = .ok (.getfield 14, 3) ∧ decode cMod_isNotThere 11 = .ok (.iload_n 1, 1) ∧ decode cMod_isNotThere 12 = .ok (.baload, 1) ∧ decode cMod_isNotThere 13 = .ok (.ifCond .ne 7, 3) ∧ decode cMod_isNotThere 16 = .ok (.iconst 1, 1) ∧ decode cMod_isNotThere 17 = .ok (.goto 4, 3) ∧ decode cMod_isNotThere 20 = .ok (.iconst 0, 1) ∧ decode cMod_isNotThere 21 = .ok (.ireturn, 1) ∧ True := Jvm.Free.DS.facts (code := cMod_isNotThere) 0 [(.iload_n 1, 1), (.invokestatic 141, 3), (.ifCond .ne 16, 3), (.aload_n 0, 1), (.getfield 14, 3), (.iload_n 1, 1), (.baload, 1), (.ifCond .ne 7, 3), (.iconst 1, 1), (.goto 4, 3), (.iconst 0, 1), (.ireturn, 1)] (by decide +kernel) (by decide +kernel)
theorem dMod_isNotThere_0 : decode cMod_isNotThere 0 = .ok (.iload_n 1, 1) := zfMod_isNotThere_0.1
theorem dMod_isNotThere_1 : decode cMod_isNotThere 1 = .ok (.invokestatic 141, 3) := zfMod_isNotThere_0.2.1
theorem dMod_isNotThere_4 : decode cMod_isNotThere 4 = .ok (.ifCond .ne 16, 3) := zfMod_isNotThere_0.2.2.1
theorem dMod_isNotThere_7 : decode cMod_isNotThere 7 = .ok (.aload_n 0, 1) := zfMod_isNotThere_0.2.2.2.1
theorem dMod_isNotThere_8 : decode cMod_isNotThere 8 = .ok (.getfield 14, 3) := zfMod_isNotThere_0.2.2.2.2.1
theorem dMod_isNotThere_11 : decode cMod_isNotThere 11 = .ok (.iload_n 1, 1) := zfMod_isNotThere_0.2.2.2.2.2.1
theorem dMod_isNotThere_12 : decode cMod_isNotThere 12 = .ok (.baload, 1) := zfMod_isNotThere_0.2.2.2.2.2.2.1
theorem dMod_isNotThere_13 : decode cMod_isNotThere 13 = .ok (.ifCond .ne 7, 3) := zfMod_isNotThere_0.2.2.2.2.2.2.2.1
theorem dMod_isNotThere_16 : decode cMod_isNotThere 16 = .ok (.iconst 1, 1) := zfMod_isNotThere_0.2.2.2.2.2.2.2.2.1
theorem dMod_isNotThere_17 : decode cMod_isNotThere 17 = .ok (.goto 4, 3) := zfMod_isNotThere_0.2.2.2.2.2.2.2.2.2.1
theorem dMod_isNotThere_20 : decode cMod_isNotThere 20 = .ok (.iconst 0, 1) := zfMod_isNotThere_0.2.2.2.2.2.2.2.2.2.2.1
theorem dMod_isNotThere_21 : decode cMod_isNotThere 21 = .ok (.ireturn, 1) := zfMod_isNotThere_0.2.2.2.2.2.2.2.2.2.2.2.1
theorem zfMod_goes_0 : decode cMod_goes 0 = .ok (.aload_n 0, 1) ∧ decode cMod_goes 1 = .ok (.getfield 11, 3) ∧ decode cMod_goes 4 = .ok (.aload_n 0, 1) ∧ decode cMod_goes 5 = .ok (.getfield 21, 3) ∧ decode cMod_goes 8 = .ok (.iload_n 1, 1) ∧ decode cMod_goes 9 = .ok (.iaload, 1) ∧ decode cMod_goes 10 = .ok (.aaload, 1) ∧ decode cMod_goes 11 = .ok (.astore_n 3, 1) ∧ decode cMod_goes 12 = .ok (.iload_n 2, 1) ∧ decode cMod_goes 13 = .ok (.ifCond .eq 12, 3) ∧ decode cMod_goes 16 = .ok (.aload_n 0, 1) ∧ decode cMod_goes 17 = .ok (.getfield 25, 3) ∧ decode cMod_goes 20 = .ok (.iload_n 1, 1) ∧ decode cMod_goes 21 = .ok (.iaload, 1) ∧ decode cMod_goes 22 = .ok (.goto 11, 3) ∧ decode cMod_goes 25 = .ok (.aload_n 0, 1) ∧ decode cMod_goes 26 = .ok (.getfield 25, 3) ∧ decode cMod_goes 29 = .ok (.iload_n 1, 1) ∧ decode cMod_goes 30 = .ok (.iaload, 1) ∧ decode cMod_goes 31 = .ok (.iconst 1, 1) ∧ decode cMod_goes 32 = .ok (.isub, 1) ∧ decode cMod_goes 33 = .ok (.istore 4, 2) ∧ decode cMod_goes 35 = .ok (.iload 4, 2) ∧ decode cMod_goes 37 = .ok (.ifCond .lt 10, 3) ∧ decode cMod_goes 40 = .ok (.iload 4, 2) ∧ decode cMod_goes 42 = .ok (.aload_n 3, 1) ∧ decode cMod_goes 43 = .ok (.arraylength, 1) ∧ decode cMod_goes 44 = .ok (.if_icmp .lt 7, 3) ∧ decode cMod_goes 47 = .ok (.sipush 10000, 3) ∧ decode cMod_goes 50 = .ok (.ireturn, 1) ∧ decode cMod_goes 51 = .ok (.aload_n 0, 1) ∧ decode cMod_goes 52 = .ok (.getfield 25, 3) ∧ True := Jvm.Free.DS.facts (code := cMod_goes) 0 [(.aload_n 0, 1), (.getfield 11, 3), (.aload_n 0, 1), (.getfield 21, 3), (.iload_n 1, 1), (.iaload, 1), (.aaload, 1), (.astore_n 3, 1), (.iload_n 2, 1), (.ifCond .eq 12, 3), (.aload_n 0, 1), (.getfield 25, 3), (.iload_n 1, 1), (.iaload, 1), (.goto 11, 3), (.aload_n 0, 1), (.getfield 25, 3), (.iload_n 1, 1), (.iaload, 1), (.iconst 1, 1), (.isub, 1), (.istore 4, 2), (.iload 4, 2), (.ifCond .lt 10, 3), (.iload 4, 2), (.aload_n 3, 1), (.arraylength, 1), (.if_icmp .lt 7, 3), (.sipush 10000, 3), (.ireturn, 1), (.aload_n 0, 1), (.getfield 25, 3)] (by decide +kernel) (by decide +kernel)
theorem dMod_goes_0 : decode cMod_goes 0 = .ok (.aload_n 0, 1) := zfMod_goes_0.1
theorem dMod_goes_1 : decode cMod_goes 1 = .ok (.getfield 11, 3) := zfMod_goes_0.2.1
theorem dMod_goes_4 : decode cMod_goes 4 = .ok (.aload_n 0, 1) := zfMod_goes_0.2.2.1
theorem dMod_goes_5 : decode cMod_goes 5 = .ok (.getfield 21, 3) := zfMod_goes_0.2.2.2.1
theorem dMod_goes_8 : decode cMod_goes 8 = .ok (.iload_n 1, 1) := zfMod_goes_0.2.2.2.2.1
theorem dMod_goes_9 : decode cMod_goes 9 = .ok (.iaload, 1) := zfMod_goes_0.2.2.2.2.2.1
theorem dMod_goes_10 : decode cMod_goes 10 = .ok (.aaload, 1) := zfMod_goes_0.2.2.2.2.2.2.1
theorem dMod_goes_11 : decode cMod_goes 11 = .ok (.astore_n 3, 1) := zfMod_goes_0.2.2.2.2.2.2.2.1
theorem dMod_goes_12 : decode cMod_goes 12 = .ok (.iload_n 2, 1) := zfMod_goes_0.2.2.2.2.2.2.2.2.1
theorem dMod_goes_13 : decode cMod_goes 13 = .ok (.ifCond .eq 12, 3) := zfMod_goes_0.2.2.2.2.2.2.2.2.2.1
theorem dMod_goes_16 : decode cMod_goes 16 = .ok (.aload_n 0, 1) := zfMod_goes_0.2.2.2.2.2.2.2.2.2.2.1
theorem dMod_goes_17 : decode cMod_goes 17 = .ok (.getfield 25, 3) := zfMod_goes_0.2.2.2.2.2.2.2.2.2.2.2.1
theorem dMod_goes_20 : decode cMod_goes 20 = .ok (.iload_n 1, 1) := zfMod_goes_0.2.2.2.2.2.2.2.2.2.2.2.2.1
theorem dMod_goes_21 : decode cMod_goes 21 = .ok (.iaload, 1) := zfMod_goes_0.2.2.2.2.2.2.2.2.2.2.2.2.2.1
theorem dMod_goes_22 : decode cMod_goes 22 = .ok (.goto 11, 3) := zfMod_goes_0.2.2.2.2.2.2.2.2.2.2.2.2.2.2.1
theorem dMod_goes_25 : decode cMod_goes 25 = .ok (.aload_n 0, 1) := zfMod_goes_0.2.2.2.2.2.2.2.2.2.2.2.2.2.2.2.1
theorem dMod_goes_26 : decode cMod_goes 26 = .ok (.getfield 25, 3) := zfMod_goes_0.2.2.2.2.2.2.2.2.2.2.2.2.2.2.2.2.1
theorem dMod_goes_29 : decode cMod_goes 29 = .ok (.iload_n 1, 1) := zfMod_goes_0.2.2.2.2.2.2.2.2.2.2.2.2.2.2.2.2.2.1
theorem dMod_goes_30 : decode cMod_goes 30 = .ok (.iaload, 1) := zfMod_goes_0.2.2.2.2.2.2.2.2.2.2.2.2.2.2.2.2.2.2.1
theorem dMod_goes_31 : decode cMod_goes 31 = .ok (.iconst 1, 1) := zfMod_goes_0.2.2.2.2.2.2.2.2.2.2.2.2.2.2.2.2.2.2.2.1
theorem dMod_goes_32 : decode cMod_goes 32 = .ok (.isub, 1) := zfMod_goes_0.2.2.2.2.2.2.2.2.2.2.2.2.2.2.2.2.2.2.2.2.1
theorem dMod_goes_33 : decode cMod_goes 33 = .ok (.istore 4, 2) := zfMod_goes_0.2.2.2.2.2.2.2.2.2.2.2.2.2.2.2.2.2.2.2.2.2.1
theorem dMod_goes_35 : decode cMod_goes 35 = .ok (.iload 4, 2) := zfMod_goes_0.2.2.2.2.2.2.2.2.2.2.2.2.2.2.2.2.2.2.2.2.2.2.1
theorem dMod_goes_37 : decode cMod_goes 37 = .ok (.ifCond .lt 10, 3) := zfMod_goes_0.2.2.2.2.2.2.2.2.2.2.2.2.2.2.2.2.2.2.2.2.2.2.2.1
theorem dMod_goes_40 : decode cMod_goes 40 = .ok (.iload 4, 2) := zfMod_goes_0.2.2.2.2.2.2.2.2.2.2.2.2.2.2.2.2.2.2.2.2.2.2.2.2.1
theorem dMod_goes_42 : decode cMod_goes 42 = .ok (.aload_n 3, 1) := zfMod_goes_0.2.2.2.2.2.2.2.2.2.2.2.2.2.2.2.2.2.2.2.2.2.2.2.2.2.1
theorem dMod_goes_43 : decode cMod_goes 43 = .ok (.arraylength, 1) := zfMod_goes_0.2.2.2.2.2.2.2.2.2.2.2.2.2.2.2.2.2.2.2.2.2.2.2.2.2.2.1
theorem dMod_goes_44 : decode cMod_goes 44 = .ok (.if_icmp .lt 7, 3) := zfMod_goes_0.2.2.2.2.2.2.2.2.2.2.2.2.2.2.2.2.2.2.2.2.2.2.2.2.2.2.2.1
theorem dMod_goes_47 : decode cMod_goes 47 = .ok (.sipush 10000, 3) := zfMod_goes_0.2.2.2.2.2.2.2.2.2.2.2.2.2.2.2.2.2.2.2.2.2.2.2.2.2.2.2.2.1
theorem dMod_goes_50 : decode cMod_goes 50 = .ok (.ireturn, 1) := zfMod_goes_0.2.2.2.2.2.2.2.2.2.2.2.2.2.2.2.2.2.2.2.2.2.2.2.2.2.2.2.2.2.1
theorem dMod_goes_51 : decode cMod_goes 51 = .ok (.aload_n 0, 1) := zfMod_goes_0.2.2.2.2.2.2.2.2.2.2.2.2.2.2.2.2.2.2.2.2.2.2.2.2.2.2.2.2.2.2.1
theorem dMod_goes_52 : decode cMod_goes 52 = .ok (.getfield 25, 3) := zfMod_goes_0.2.2.2.2.2.2.2.2.2.2.2.2.2.2.2.2.2.2.2.2.2.2.2.2.2.2.2.2.2.2.2.1
theorem zfMod_goes_55 : decode cMod_goes 55 = .ok (.iload_n 1, 1) ∧ decode cMod_goes 56 = .ok (.iload_n 2, 1) ∧ decode cMod_goes 57 = .ok (.ifCond .eq 10, 3) ∧ decode cMod_goes 60 = .ok (.iload 4, 2) ∧ decode cMod_goes 62 = .ok (.iconst 1, 1) ∧ decode cMod_goes 63 = .ok (.iadd, 1) ∧ decode cMod_goes 64 = .ok (.goto 5, 3) ∧ decode cMod_goes 67 = .ok (.iload 4, 2) ∧ decode cMod_goes 69 = .ok (.iastore, 1) ∧ decode cMod_goes 70 = .ok (.aload_n 0, 1) ∧ decode cMod_goes 71 = .ok (.getfield 28, 3) ∧ decode cMod_goes 74 = .ok (.iload_n 1, 1) ∧ decode cMod_goes 75 = .ok (.iload 4, 2) ∧ decode cMod_goes 77 = .ok (.iastore, 1) ∧ decode cMod_goes 78 = .ok (.aload_n 3, 1) ∧ decode cMod_goes 79 = .ok (.iload 4, 2) ∧ decode cMod_goes 81 = .ok (.iaload, 1) ∧ decode cMod_goes 82 = .ok (.ireturn, 1) ∧ True := Jvm.Free.DS.facts (code := cMod_goes) 55 [(.iload_n 1, 1), (.iload_n 2, 1), (.ifCond .eq 10, 3), (.iload 4, 2), (.iconst 1, 1), (.iadd, 1), (.goto 5, 3), (.iload 4, 2), (.iastore, 1), (.aload_n 0, 1), (.getfield 28, 3), (.iload_n 1, 1), (.iload 4, 2), (.iastore, 1), (.aload_n 3, 1), (.iload 4, 2), (.iaload, 1), (.ireturn, 1)] (by decide +kernel) (by decide +kernel)
theorem dMod_goes_55 : decode cMod_goes 55 = .ok (.iload_n 1, 1) := zfMod_goes_55.1
theorem dMod_goes_56 : decode cMod_goes 56 = .ok (.iload_n 2, 1) := zfMod_goes_55.2.1
theorem dMod_goes_57 : decode cMod_goes 57 = .ok (.ifCond .eq 10, 3) := zfMod_goes_55.2.2.1
theorem dMod_goes_60 : decode cMod_goes 60 = .ok (.iload 4, 2) := zfMod_goes_55.2.2.2.1
theorem dMod_goes_62 : decode cMod_goes 62 = .ok (.iconst 1, 1) := zfMod_goes_55.2.2.2.2.1
theorem dMod_goes_63 : decode cMod_goes 63 = .ok (.iadd, 1) := zfMod_goes_55.2.2.2.2.2.1
theorem dMod_goes_64 : decode cMod_goes 64 = .ok (.goto 5, 3) := zfMod_goes_55.2.2.2.2.2.2.1
theorem dMod_goes_67 : decode cMod_goes 67 = .ok (.iload 4, 2) := zfMod_goes_55.2.2.2.2.2.2.2.1
theorem dMod_goes_69 : decode cMod_goes 69 = .ok (.iastore, 1) := zfMod_goes_55.2.2.2.2.2.2.2.2.1
theorem dMod_goes_70 : decode cMod_goes 70 = .ok (.aload_n 0, 1) := zfMod_goes_55.2.2.2.2.2.2.2.2.2.1
theorem dMod_goes_71 : decode cMod_goes 71 = .ok (.getfield 28, 3) := zfMod_goes_55.2.2.2.2.2.2.2.2.2.2.1
theorem dMod_goes_74 : decode cMod_goes 74 = .ok (.iload_n 1, 1) := zfMod_goes_55.2.2.2.2.2.2.2.2.2.2.2.1
theorem dMod_goes_75 : decode cMod_goes 75 = .ok (.iload 4, 2) := zfMod_goes_55.2.2.2.2.2.2.2.2.2.2.2.2.1
theorem dMod_goes_77 : decode cMod_goes 77 = .ok (.iastore, 1) := zfMod_goes_55.2.2.2.2.2.2.2.2.2.2.2.2.2.1
theorem dMod_goes_78 : decode cMod_goes 78 = .ok (.aload_n 3, 1) := zfMod_goes_55.2.2.2.2.2.2.2.2.2.2.2.2.2.2.1
theorem dMod_goes_79 : decode cMod_goes 79 = .ok (.iload 4, 2) := zfMod_goes_55.2.2.2.2.2.2.2.2.2.2.2.2.2.2.2.1
theorem dMod_goes_81 : decode cMod_goes 81 = .ok (.iaload, 1) := zfMod_goes_55.2.2.2.2.2.2.2.2.2.2.2.2.2.2.2.2.1
theorem dMod_goes_82 : decode cMod_goes 82 = .ok (.ireturn, 1) := zfMod_goes_55.2.2.2.2.2.2.2.2.2.2.2.2.2.2.2.2.2.1
theorem zfMod_asksOn_0 : decode cMod_asksOn 0 = .ok (.aload_n 0, 1) ∧ decode cMod_asksOn 1 = .ok (.iload_n 1, 1) ∧ decode cMod_asksOn 2 = .ok (.invokestatic 141, 3) ∧ decode cMod_asksOn 5 = .ok (.aload_n 0, 1) ∧ decode cMod_asksOn 6 = .ok (.iload_n 1, 1) ∧ decode cMod_asksOn 7 = .ok (.invokevirtual 144, 3) ∧ decode cMod_asksOn 10 = .ok (.iconst 0, 1) ∧ decode cMod_asksOn 11 = .ok (.invokevirtual 88, 3) ∧ decode cMod_asksOn 14 = .ok (.ifCond .eq 5, 3) ∧ decode cMod_asksOn 17 = .ok (.iconst 0, 1) ∧ decode cMod_asksOn 18 = .ok (.ireturn, 1) ∧ decode cMod_asksOn 19 = .ok (.aload_n 0, 1) ∧ decode cMod_asksOn 20 = .ok (.getfield 18, 3) ∧ decode cMod_asksOn 23 = .ok (.iload_n 1, 1) ∧ decode cMod_asksOn 24 = .ok (.baload, 1) ∧ decode cMod_asksOn 25 = .ok (.ifCond .eq 10, 3) ∧ decode cMod_asksOn 28 = .ok (.aload_n 0, 1) ∧ decode cMod_asksOn 29 = .ok (.invokevirtual 92, 3) ∧ decode cMod_asksOn 32 = .ok (.goto 9, 3) ∧ decode cMod_asksOn 35 = .ok (.aload_n 0, 1) ∧ decode cMod_asksOn 36 = .ok (.iload_n 1, 1) ∧ decode cMod_asksOn 37 = .ok (.iload_n 2, 1) ∧ decode cMod_asksOn 38 = .ok (.invokevirtual 147, 3) ∧ decode cMod_asksOn 41 = .ok (.ireturn, 1) ∧ True := Jvm.Free.DS.facts (code := cMod_asksOn) 0 [(.aload_n 0, 1), (.iload_n 1, 1), (.invokestatic 141, 3), (.aload_n 0, 1), (.iload_n 1, 1), (.invokevirtual 144, 3), (.iconst 0, 1), (.invokevirtual 88, 3), (.ifCond .eq 5, 3), (.iconst 0, 1), (.ireturn, 1), (.aload_n 0, 1), (.getfield 18, 3), (.iload_n 1, 1), (.baload, 1), (.ifCond .eq 10, 3), (.aload_n 0, 1), (.invokevirtual 92, 3), (.goto 9, 3), (.aload_n 0, 1), (.iload_n 1, 1), (.iload_n 2, 1), (.invokevirtual 147, 3), (.ireturn, 1)] (by decide +kernel) (by decide +kernel)
theorem dMod_asksOn_0 : decode cMod_asksOn 0 = .ok (.aload_n 0, 1) := zfMod_asksOn_0.1
theorem dMod_asksOn_1 : decode cMod_asksOn 1 = .ok (.iload_n 1, 1) := zfMod_asksOn_0.2.1
theorem dMod_asksOn_2 : decode cMod_asksOn 2 = .ok (.invokestatic 141, 3) := zfMod_asksOn_0.2.2.1
theorem dMod_asksOn_5 : decode cMod_asksOn 5 = .ok (.aload_n 0, 1) := zfMod_asksOn_0.2.2.2.1
theorem dMod_asksOn_6 : decode cMod_asksOn 6 = .ok (.iload_n 1, 1) := zfMod_asksOn_0.2.2.2.2.1
theorem dMod_asksOn_7 : decode cMod_asksOn 7 = .ok (.invokevirtual 144, 3) := zfMod_asksOn_0.2.2.2.2.2.1
theorem dMod_asksOn_10 : decode cMod_asksOn 10 = .ok (.iconst 0, 1) := zfMod_asksOn_0.2.2.2.2.2.2.1
theorem dMod_asksOn_11 : decode cMod_asksOn 11 = .ok (.invokevirtual 88, 3) := zfMod_asksOn_0.2.2.2.2.2.2.2.1
theorem dMod_asksOn_14 : decode cMod_asksOn 14 = .ok (.ifCond .eq 5, 3) := zfMod_asksOn_0.2.2.2.2.2.2.2.2.1
theorem dMod_asksOn_17 : decode cMod_asksOn 17 = .ok (.iconst 0, 1) := zfMod_asksOn_0.2.2.2.2.2.2.2.2.2.1
theorem dMod_asksOn_18 : decode cMod_asksOn 18 = .ok (.ireturn, 1) := zfMod_asksOn_0.2.2.2.2.2.2.2.2.2.2.1
theorem dMod_asksOn_19 : decode cMod_asksOn 19 = .ok (.aload_n 0, 1) := zfMod_asksOn_0.2.2.2.2.2.2.2.2.2.2.2.1
theorem dMod_asksOn_20 : decode cMod_asksOn 20 = .ok (.getfield 18, 3) := zfMod_asksOn_0.2.2.2.2.2.2.2.2.2.2.2.2.1
theorem dMod_asksOn_23 : decode cMod_asksOn 23 = .ok (.iload_n 1, 1) := zfMod_asksOn_0.2.2.2.2.2.2.2.2.2.2.2.2.2.1
theorem dMod_asksOn_24 : decode cMod_asksOn 24 = .ok (.baload, 1) := zfMod_asksOn_0.2.2.2.2.2.2.2.2.2.2.2.2.2.2.1
theorem dMod_asksOn_25 : decode cMod_asksOn 25 = .ok (.ifCond .eq 10, 3) := zfMod_asksOn_0.2.2.2.2.2.2.2.2.2.2.2.2.2.2.2.1
theorem dMod_asksOn_28 : decode cMod_asksOn 28 = .ok (.aload_n 0, 1) := zfMod_asksOn_0.2.2.2.2.2.2.2.2.2.2.2.2.2.2.2.2.1
theorem dMod_asksOn_29 : decode cMod_asksOn 29 = .ok (.invokevirtual 92, 3) := zfMod_asksOn_0.2.2.2.2.2.2.2.2.2.2.2.2.2.2.2.2.2.1
theorem dMod_asksOn_32 : decode cMod_asksOn 32 = .ok (.goto 9, 3) := zfMod_asksOn_0.2.2.2.2.2.2.2.2.2.2.2.2.2.2.2.2.2.2.1
theorem dMod_asksOn_35 : decode cMod_asksOn 35 = .ok (.aload_n 0, 1) := zfMod_asksOn_0.2.2.2.2.2.2.2.2.2.2.2.2.2.2.2.2.2.2.2.1
theorem dMod_asksOn_36 : decode cMod_asksOn 36 = .ok (.iload_n 1, 1) := zfMod_asksOn_0.2.2.2.2.2.2.2.2.2.2.2.2.2.2.2.2.2.2.2.2.1
theorem dMod_asksOn_37 : decode cMod_asksOn 37 = .ok (.iload_n 2, 1) := zfMod_asksOn_0.2.2.2.2.2.2.2.2.2.2.2.2.2.2.2.2.2.2.2.2.2.1
theorem dMod_asksOn_38 : decode cMod_asksOn 38 = .ok (.invokevirtual 147, 3) := zfMod_asksOn_0.2.2.2.2.2.2.2.2.2.2.2.2.2.2.2.2.2.2.2.2.2.2.1
theorem dMod_asksOn_41 : decode cMod_asksOn 41 = .ok (.ireturn, 1) := zfMod_asksOn_0.2.2.2.2.2.2.2.2.2.2.2.2.2.2.2.2.2.2.2.2.2.2.2.1
theorem zfMod_forth_0 : decode cMod_forth 0 = .ok (.aload_n 0, 1) ∧ decode cMod_forth 1 = .ok (.iload_n 1, 1) ∧ decode cMod_forth 2 = .ok (.iconst 1, 1) ∧ decode cMod_forth 3 = .ok (.invokevirtual 151, 3) ∧ decode cMod_forth 6 = .ok (.ireturn, 1) ∧ True := Jvm.Free.DS.facts (code := cMod_forth) 0 [(.aload_n 0, 1), (.iload_n 1, 1), (.iconst 1, 1), (.invokevirtual 151, 3), (.ireturn, 1)] (by decide +kernel) (by decide +kernel)
theorem dMod_forth_0 : decode cMod_forth 0 = .ok (.aload_n 0, 1) := zfMod_forth_0.1
theorem dMod_forth_1 : decode cMod_forth 1 = .ok (.iload_n 1, 1) := zfMod_forth_0.2.1
theorem dMod_forth_2 : decode cMod_forth 2 = .ok (.iconst 1, 1) := zfMod_forth_0.2.2.1
theorem dMod_forth_3 : decode cMod_forth 3 = .ok (.invokevirtual 151, 3) := zfMod_forth_0.2.2.2.1
theorem dMod_forth_6 : decode cMod_forth 6 = .ok (.ireturn, 1) := zfMod_forth_0.2.2.2.2.1
theorem zfMod_back_0 : decode cMod_back 0 = .ok (.aload_n 0, 1) ∧ decode cMod_back 1 = .ok (.iload_n 1, 1) ∧ decode cMod_back 2 = .ok (.iconst 0, 1) ∧ decode cMod_back 3 = .ok (.invokevirtual 151, 3) ∧ decode cMod_back 6 = .ok (.ireturn, 1) ∧ True := Jvm.Free.DS.facts (code := cMod_back) 0 [(.aload_n 0, 1), (.iload_n 1, 1), (.iconst 0, 1), (.invokevirtual 151, 3), (.ireturn, 1)] (by decide +kernel) (by decide +kernel)
theorem dMod_back_0 : decode cMod_back 0 = .ok (.aload_n 0, 1) := zfMod_back_0.1
theorem dMod_back_1 : decode cMod_back 1 = .ok (.iload_n 1, 1) := zfMod_back_0.2.1
theorem dMod_back_2 : decode cMod_back 2 = .ok (.iconst 0, 1) := zfMod_back_0.2.2.1
theorem dMod_back_3 : decode cMod_back 3 = .ok (.invokevirtual 151, 3) := zfMod_back_0.2.2.2.1
theorem dMod_back_6 : decode cMod_back 6 = .ok (.ireturn, 1) := zfMod_back_0.2.2.2.2.1
theorem zfMod_puts_0 : decode cMod_puts 0 = .ok (.aload_n 0, 1) ∧ decode cMod_puts 1 = .ok (.iload_n 1, 1) ∧ decode cMod_puts 2 = .ok (.invokestatic 141, 3) ∧ decode cMod_puts 5 = .ok (.iload_n 2, 1) ∧ decode cMod_puts 6 = .ok (.invokestatic 85, 3) ∧ decode cMod_puts 9 = .ok (.aload_n 0, 1) ∧ decode cMod_puts 10 = .ok (.iload_n 1, 1) ∧ decode cMod_puts 11 = .ok (.invokevirtual 144, 3) ∧ decode cMod_puts 14 = .ok (.invokevirtual 88, 3) ∧ decode cMod_puts 17 = .ok (.ifCond .eq 5, 3) ∧ decode cMod_puts 20 = .ok (.iconst 0, 1) ∧ decode cMod_puts 21 = .ok (.ireturn, 1) ∧ decode cMod_puts 22 = .ok (.aload_n 0, 1) ∧ decode cMod_puts 23 = .ok (.getfield 18, 3) ∧ decode cMod_puts 26 = .ok (.iload_n 1, 1) ∧ decode cMod_puts 27 = .ok (.baload, 1) ∧ decode cMod_puts 28 = .ok (.ifCond .ne 20, 3) ∧ decode cMod_puts 31 = .ok (.aload_n 0, 1) ∧ decode cMod_puts 32 = .ok (.getfield 11, 3) ∧ decode cMod_puts 35 = .ok (.aload_n 0, 1) ∧ decode cMod_puts 36 = .ok (.getfield 21, 3) ∧ decode cMod_puts 39 = .ok (.iload_n 1, 1) ∧ decode cMod_puts 40 = .ok (.iaload, 1) ∧ decode cMod_puts 41 = .ok (.aaload, 1) ∧ decode cMod_puts 42 = .ok (.arraylength, 1) ∧ decode cMod_puts 43 = .ok (.bipush 16, 2) ∧ decode cMod_puts 45 = .ok (.if_icmp .ne 8, 3) ∧ decode cMod_puts 48 = .ok (.aload_n 0, 1) ∧ decode cMod_puts 49 = .ok (.invokevirtual 92, 3) ∧ decode cMod_puts 52 = .ok (.ireturn, 1) ∧ decode cMod_puts 53 = .ok (.aload_n 0, 1) ∧ decode cMod_puts 54 = .ok (.aload_n 0, 1) ∧ True := Jvm.Free.DS.facts (code := cMod_puts) 0 [(.aload_n 0, 1), (.iload_n 1, 1), (.invokestatic 141, 3), (.iload_n 2, 1), (.invokestatic 85, 3), (.aload_n 0, 1), (.iload_n 1, 1), (.invokevirtual 144, 3), (.invokevirtual 88, 3), (.ifCond .eq 5, 3), (.iconst 0, 1), (.ireturn, 1), (.aload_n 0, 1), (.getfield 18, 3), (.iload_n 1, 1), (.baload, 1), (.ifCond .ne 20, 3), (.aload_n 0, 1), (.getfield 11, 3), (.aload_n 0, 1), (.getfield 21, 3), (.iload_n 1, 1), (.iaload, 1), (.aaload, 1), (.arraylength, 1), (.bipush 16, 2), (.if_icmp .ne 8, 3), (.aload_n 0, 1), (.invokevirtual 92, 3), (.ireturn, 1), (.aload_n 0, 1), (.aload_n 0, 1)] (by decide +kernel) (by decide +kernel)
theorem dMod_puts_0 : decode cMod_puts 0 = .ok (.aload_n 0, 1) := zfMod_puts_0.1
theorem dMod_puts_1 : decode cMod_puts 1 = .ok (.iload_n 1, 1) := zfMod_puts_0.2.1
theorem dMod_puts_2 : decode cMod_puts 2 = .ok (.invokestatic 141, 3) := zfMod_puts_0.2.2.1
theorem dMod_puts_5 : decode cMod_puts 5 = .ok (.iload_n 2, 1) := zfMod_puts_0.2.2.2.1
theorem dMod_puts_6 : decode cMod_puts 6 = .ok (.invokestatic 85, 3) := zfMod_puts_0.2.2.2.2.1
theorem dMod_puts_9 : decode cMod_puts 9 = .ok (.aload_n 0, 1) := zfMod_puts_0.2.2.2.2.2.1
theorem dMod_puts_10 : decode cMod_puts 10 = .ok (.iload_n 1, 1) := zfMod_puts_0.2.2.2.2.2.2.1
theorem dMod_puts_11 : decode cMod_puts 11 = .ok (.invokevirtual 144, 3) := zfMod_puts_0.2.2.2.2.2.2.2.1
theorem dMod_puts_14 : decode cMod_puts 14 = .ok (.invokevirtual 88, 3) := zfMod_puts_0.2.2.2.2.2.2.2.2.1
theorem dMod_puts_17 : decode cMod_puts 17 = .ok (.ifCond .eq 5, 3) := zfMod_puts_0.2.2.2.2.2.2.2.2.2.1
theorem dMod_puts_20 : decode cMod_puts 20 = .ok (.iconst 0, 1) := zfMod_puts_0.2.2.2.2.2.2.2.2.2.2.1
theorem dMod_puts_21 : decode cMod_puts 21 = .ok (.ireturn, 1) := zfMod_puts_0.2.2.2.2.2.2.2.2.2.2.2.1
theorem dMod_puts_22 : decode cMod_puts 22 = .ok (.aload_n 0, 1) := zfMod_puts_0.2.2.2.2.2.2.2.2.2.2.2.2.1
theorem dMod_puts_23 : decode cMod_puts 23 = .ok (.getfield 18, 3) := zfMod_puts_0.2.2.2.2.2.2.2.2.2.2.2.2.2.1
theorem dMod_puts_26 : decode cMod_puts 26 = .ok (.iload_n 1, 1) := zfMod_puts_0.2.2.2.2.2.2.2.2.2.2.2.2.2.2.1
theorem dMod_puts_27 : decode cMod_puts 27 = .ok (.baload, 1) := zfMod_puts_0.2.2.2.2.2.2.2.2.2.2.2.2.2.2.2.1
theorem dMod_puts_28 : decode cMod_puts 28 = .ok (.ifCond .ne 20, 3) := zfMod_puts_0.2.2.2.2.2.2.2.2.2.2.2.2.2.2.2.2.1
theorem dMod_puts_31 : decode cMod_puts 31 = .ok (.aload_n 0, 1) := zfMod_puts_0.2.2.2.2.2.2.2.2.2.2.2.2.2.2.2.2.2.1
theorem dMod_puts_32 : decode cMod_puts 32 = .ok (.getfield 11, 3) := zfMod_puts_0.2.2.2.2.2.2.2.2.2.2.2.2.2.2.2.2.2.2.1
theorem dMod_puts_35 : decode cMod_puts 35 = .ok (.aload_n 0, 1) := zfMod_puts_0.2.2.2.2.2.2.2.2.2.2.2.2.2.2.2.2.2.2.2.1
theorem dMod_puts_36 : decode cMod_puts 36 = .ok (.getfield 21, 3) := zfMod_puts_0.2.2.2.2.2.2.2.2.2.2.2.2.2.2.2.2.2.2.2.2.1
theorem dMod_puts_39 : decode cMod_puts 39 = .ok (.iload_n 1, 1) := zfMod_puts_0.2.2.2.2.2.2.2.2.2.2.2.2.2.2.2.2.2.2.2.2.2.1
theorem dMod_puts_40 : decode cMod_puts 40 = .ok (.iaload, 1) := zfMod_puts_0.2.2.2.2.2.2.2.2.2.2.2.2.2.2.2.2.2.2.2.2.2.2.1
theorem dMod_puts_41 : decode cMod_puts 41 = .ok (.aaload, 1) := zfMod_puts_0.2.2.2.2.2.2.2.2.2.2.2.2.2.2.2.2.2.2.2.2.2.2.2.1
theorem dMod_puts_42 : decode cMod_puts 42 = .ok (.arraylength, 1) := zfMod_puts_0.2.2.2.2.2.2.2.2.2.2.2.2.2.2.2.2.2.2.2.2.2.2.2.2.1
theorem dMod_puts_43 : decode cMod_puts 43 = .ok (.bipush 16, 2) := zfMod_puts_0.2.2.2.2.2.2.2.2.2.2.2.2.2.2.2.2.2.2.2.2.2.2.2.2.2.1
theorem dMod_puts_45 : decode cMod_puts 45 = .ok (.if_icmp .ne 8, 3) := zfMod_puts_0.2.2.2.2.2.2.2.2.2.2.2.2.2.2.2.2.2.2.2.2.2.2.2.2.2.2.1
theorem dMod_puts_48 : decode cMod_puts 48 = .ok (.aload_n 0, 1) := zfMod_puts_0.2.2.2.2.2.2.2.2.2.2.2.2.2.2.2.2.2.2.2.2.2.2.2.2.2.2.2.1
theorem dMod_puts_49 : decode cMod_puts 49 = .ok (.invokevirtual 92, 3) := zfMod_puts_0.2.2.2.2.2.2.2.2.2.2.2.2.2.2.2.2.2.2.2.2.2.2.2.2.2.2.2.2.1
theorem dMod_puts_52 : decode cMod_puts 52 = .ok (.ireturn, 1) := zfMod_puts_0.2.2.2.2.2.2.2.2.2.2.2.2.2.2.2.2.2.2.2.2.2.2.2.2.2.2.2.2.2.1
theorem dMod_puts_53 : decode cMod_puts 53 = .ok (.aload_n 0, 1) := zfMod_puts_0.2.2.2.2.2.2.2.2.2.2.2.2.2.2.2.2.2.2.2.2.2.2.2.2.2.2.2.2.2.2.1
theorem dMod_puts_54 : decode cMod_puts 54 = .ok (.aload_n 0, 1) := zfMod_puts_0.2.2.2.2.2.2.2.2.2.2.2.2.2.2.2.2.2.2.2.2.2.2.2.2.2.2.2.2.2.2.2.1
theorem zfMod_puts_55 : decode cMod_puts 55 = .ok (.getfield 21, 3) ∧ decode cMod_puts 58 = .ok (.iload_n 1, 1) ∧ decode cMod_puts 59 = .ok (.iaload, 1) ∧ decode cMod_puts 60 = .ok (.aload_n 0, 1) ∧ decode cMod_puts 61 = .ok (.getfield 11, 3) ∧ decode cMod_puts 64 = .ok (.aload_n 0, 1) ∧ decode cMod_puts 65 = .ok (.getfield 21, 3) ∧ decode cMod_puts 68 = .ok (.iload_n 1, 1) ∧ decode cMod_puts 69 = .ok (.iaload, 1) ∧ decode cMod_puts 70 = .ok (.aaload, 1) ∧ decode cMod_puts 71 = .ok (.aload_n 0, 1) ∧ decode cMod_puts 72 = .ok (.getfield 25, 3) ∧ decode cMod_puts 75 = .ok (.iload_n 1, 1) ∧ decode cMod_puts 76 = .ok (.iaload, 1) ∧ decode cMod_puts 77 = .ok (.iload_n 2, 1) ∧ decode cMod_puts 78 = .ok (.invokestatic 49, 3) ∧ decode cMod_puts 81 = .ok (.iload_n 1, 1) ∧ decode cMod_puts 82 = .ok (.invokevirtual 77, 3) ∧ decode cMod_puts 85 = .ok (.aload_n 0, 1) ∧ decode cMod_puts 86 = .ok (.getfield 25, 3) ∧ decode cMod_puts 89 = .ok (.iload_n 1, 1) ∧ decode cMod_puts 90 = .ok (.dup2, 1) ∧ decode cMod_puts 91 = .ok (.iaload, 1) ∧ decode cMod_puts 92 = .ok (.iconst 1, 1) ∧ decode cMod_puts 93 = .ok (.iadd, 1) ∧ decode cMod_puts 94 = .ok (.iastore, 1) ∧ decode cMod_puts 95 = .ok (.aload_n 0, 1) ∧ decode cMod_puts 96 = .ok (.getfield 28, 3) ∧ decode cMod_puts 99 = .ok (.iload_n 1, 1) ∧ decode cMod_puts 100 = .ok (.iconst (-1), 1) ∧ decode cMod_puts 101 = .ok (.iastore, 1) ∧ decode cMod_puts 102 = .ok (.aload_n 0, 1) ∧ True := Jvm.Free.DS.facts (code := cMod_puts) 55 [(.getfield 21, 3), (.iload_n 1, 1), (.iaload, 1), (.aload_n 0, 1), (.getfield 11, 3), (.aload_n 0, 1), (.getfield 21, 3), (.iload_n 1, 1), (.iaload, 1), (.aaload, 1), (.aload_n 0, 1), (.getfield 25, 3), (.iload_n 1, 1), (.iaload, 1), (.iload_n 2, 1), (.invokestatic 49, 3), (.iload_n 1, 1), (.invokevirtual 77, 3), (.aload_n 0, 1), (.getfield 25, 3), (.iload_n 1, 1), (.dup2, 1), (.iaload, 1), (.iconst 1, 1), (.iadd, 1), (.iastore, 1), (.aload_n 0, 1), (.getfield 28, 3), (.iload_n 1, 1), (.iconst (-1), 1), (.iastore, 1), (.aload_n 0, 1)] (by decide +kernel) (by decide +kernel)
theorem dMod_puts_55 : decode cMod_puts 55 = .ok (.getfield 21, 3) := zfMod_puts_55.1
theorem dMod_puts_58 : decode cMod_puts 58 = .ok (.iload_n 1, 1) := zfMod_puts_55.2.1
theorem dMod_puts_59 : decode cMod_puts 59 = .ok (.iaload, 1) := zfMod_puts_55.2.2.1
theorem dMod_puts_60 : decode cMod_puts 60 = .ok (.aload_n 0, 1) := zfMod_puts_55.2.2.2.1
theorem dMod_puts_61 : decode cMod_puts 61 = .ok (.getfield 11, 3) := zfMod_puts_55.2.2.2.2.1
theorem dMod_puts_64 : decode cMod_puts 64 = .ok (.aload_n 0, 1) := zfMod_puts_55.2.2.2.2.2.1
theorem dMod_puts_65 : decode cMod_puts 65 = .ok (.getfield 21, 3) := zfMod_puts_55.2.2.2.2.2.2.1
theorem dMod_puts_68 : decode cMod_puts 68 = .ok (.iload_n 1, 1) := zfMod_puts_55.2.2.2.2.2.2.2.1
theorem dMod_puts_69 : decode cMod_puts 69 = .ok (.iaload, 1) := zfMod_puts_55.2.2.2.2.2.2.2.2.1
theorem dMod_puts_70 : decode cMod_puts 70 = .ok (.aaload, 1) := zfMod_puts_55.2.2.2.2.2.2.2.2.2.1
theorem dMod_puts_71 : decode cMod_puts 71 = .ok (.aload_n 0, 1) := zfMod_puts_55.2.2.2.2.2.2.2.2.2.2.1
theorem dMod_puts_72 : decode cMod_puts 72 = .ok (.getfield 25, 3) := zfMod_puts_55.2.2.2.2.2.2.2.2.2.2.2.1
theorem dMod_puts_75 : decode cMod_puts 75 = .ok (.iload_n 1, 1) := zfMod_puts_55.2.2.2.2.2.2.2.2.2.2.2.2.1
theorem dMod_puts_76 : decode cMod_puts 76 = .ok (.iaload, 1) := zfMod_puts_55.2.2.2.2.2.2.2.2.2.2.2.2.2.1
theorem dMod_puts_77 : decode cMod_puts 77 = .ok (.iload_n 2, 1) := zfMod_puts_55.2.2.2.2.2.2.2.2.2.2.2.2.2.2.1
theorem dMod_puts_78 : decode cMod_puts 78 = .ok (.invokestatic 49, 3) := zfMod_puts_55.2.2.2.2.2.2.2.2.2.2.2.2.2.2.2.1
theorem dMod_puts_81 : decode cMod_puts 81 = .ok (.iload_n 1, 1) := zfMod_puts_55.2.2.2.2.2.2.2.2.2.2.2.2.2.2.2.2.1
theorem dMod_puts_82 : decode cMod_puts 82 = .ok (.invokevirtual 77, 3) := zfMod_puts_55.2.2.2.2.2.2.2.2.2.2.2.2.2.2.2.2.2.1
theorem dMod_puts_85 : decode cMod_puts 85 = .ok (.aload_n 0, 1) := zfMod_puts_55.2.2.2.2.2.2.2.2.2.2.2.2.2.2.2.2.2.2.1
theorem dMod_puts_86 : decode cMod_puts 86 = .ok (.getfield 25, 3) := zfMod_puts_55.2.2.2.2.2.2.2.2.2.2.2.2.2.2.2.2.2.2.2.1
theorem dMod_puts_89 : decode cMod_puts 89 = .ok (.iload_n 1, 1) := zfMod_puts_55.2.2.2.2.2.2.2.2.2.2.2.2.2.2.2.2.2.2.2.2.1
theorem dMod_puts_90 : decode cMod_puts 90 = .ok (.dup2, 1) := zfMod_puts_55.2.2.2.2.2.2.2.2.2.2.2.2.2.2.2.2.2.2.2.2.2.1
theorem dMod_puts_91 : decode cMod_puts 91 = .ok (.iaload, 1) := zfMod_puts_55.2.2.2.2.2.2.2.2.2.2.2.2.2.2.2.2.2.2.2.2.2.2.1
theorem dMod_puts_92 : decode cMod_puts 92 = .ok (.iconst 1, 1) := zfMod_puts_55.2.2.2.2.2.2.2.2.2.2.2.2.2.2.2.2.2.2.2.2.2.2.2.1
theorem dMod_puts_93 : decode cMod_puts 93 = .ok (.iadd, 1) := zfMod_puts_55.2.2.2.2.2.2.2.2.2.2.2.2.2.2.2.2.2.2.2.2.2.2.2.2.1
theorem dMod_puts_94 : decode cMod_puts 94 = .ok (.iastore, 1) := zfMod_puts_55.2.2.2.2.2.2.2.2.2.2.2.2.2.2.2.2.2.2.2.2.2.2.2.2.2.1
theorem dMod_puts_95 : decode cMod_puts 95 = .ok (.aload_n 0, 1) := zfMod_puts_55.2.2.2.2.2.2.2.2.2.2.2.2.2.2.2.2.2.2.2.2.2.2.2.2.2.2.1
theorem dMod_puts_96 : decode cMod_puts 96 = .ok (.getfield 28, 3) := zfMod_puts_55.2.2.2.2.2.2.2.2.2.2.2.2.2.2.2.2.2.2.2.2.2.2.2.2.2.2.2.1
theorem dMod_puts_99 : decode cMod_puts 99 = .ok (.iload_n 1, 1) := zfMod_puts_55.2.2.2.2.2.2.2.2.2.2.2.2.2.2.2.2.2.2.2.2.2.2.2.2.2.2.2.2.1
theorem dMod_puts_100 : decode cMod_puts 100 = .ok (.iconst (-1), 1) := zfMod_puts_55.2.2.2.2.2.2.2.2.2.2.2.2.2.2.2.2.2.2.2.2.2.2.2.2.2.2.2.2.2.1
theorem dMod_puts_101 : decode cMod_puts 101 = .ok (.iastore, 1) := zfMod_puts_55.2.2.2.2.2.2.2.2.2.2.2.2.2.2.2.2.2.2.2.2.2.2.2.2.2.2.2.2.2.2.1
theorem dMod_puts_102 : decode cMod_puts 102 = .ok (.aload_n 0, 1) := zfMod_puts_55.2.2.2.2.2.2.2.2.2.2.2.2.2.2.2.2.2.2.2.2.2.2.2.2.2.2.2.2.2.2.2.1
theorem zfMod_puts_103 : decode cMod_puts 103 = .ok (.getfield 25, 3) ∧ decode cMod_puts 106 = .ok (.iload_n 1, 1) ∧ decode cMod_puts 107 = .ok (.iaload, 1) ∧ decode cMod_puts 108 = .ok (.ireturn, 1) ∧ True := Jvm.Free.DS.facts (code := cMod_puts) 103 [(.getfield 25, 3), (.iload_n 1, 1), (.iaload, 1), (.ireturn, 1)] (by decide +kernel) (by decide +kernel)
theorem dMod_puts_103 : decode cMod_puts 103 = .ok (.getfield 25, 3) := zfMod_puts_103.1
theorem dMod_puts_106 : decode cMod_puts 106 = .ok (.iload_n 1, 1) := zfMod_puts_103.2.1
theorem dMod_puts_107 : decode cMod_puts 107 = .ok (.iaload, 1) := zfMod_puts_103.2.2.1
theorem dMod_puts_108 : decode cMod_puts 108 = .ok (.ireturn, 1) := zfMod_puts_103.2.2.2.1
theorem zfMod_cuts_0 : decode cMod_cuts 0 = .ok (.aload_n 0, 1) ∧ decode cMod_cuts 1 = .ok (.iload_n 1, 1) ∧ decode cMod_cuts 2 = .ok (.invokestatic 141, 3) ∧ decode cMod_cuts 5 = .ok (.aload_n 0, 1) ∧ decode cMod_cuts 6 = .ok (.iload_n 1, 1) ∧ decode cMod_cuts 7 = .ok (.invokevirtual 144, 3) ∧ decode cMod_cuts 10 = .ok (.iconst 0, 1) ∧ decode cMod_cuts 11 = .ok (.invokevirtual 88, 3) ∧ decode cMod_cuts 14 = .ok (.ifCond .eq 5, 3) ∧ decode cMod_cuts 17 = .ok (.iconst 0, 1) ∧ decode cMod_cuts 18 = .ok (.ireturn, 1) ∧ decode cMod_cuts 19 = .ok (.aload_n 0, 1) ∧ decode cMod_cuts 20 = .ok (.getfield 18, 3) ∧ decode cMod_cuts 23 = .ok (.iload_n 1, 1) ∧ decode cMod_cuts 24 = .ok (.baload, 1) ∧ decode cMod_cuts 25 = .ok (.ifCond .ne 13, 3) ∧ decode cMod_cuts 28 = .ok (.aload_n 0, 1) ∧ decode cMod_cuts 29 = .ok (.getfield 28, 3) ∧ decode cMod_cuts 32 = .ok (.iload_n 1, 1) ∧ decode cMod_cuts 33 = .ok (.iaload, 1) ∧ decode cMod_cuts 34 = .ok (.iconst (-1), 1) ∧ decode cMod_cuts 35 = .ok (.if_icmp .ne 8, 3) ∧ decode cMod_cuts 38 = .ok (.aload_n 0, 1) ∧ decode cMod_cuts 39 = .ok (.invokevirtual 92, 3) ∧ decode cMod_cuts 42 = .ok (.ireturn, 1) ∧ decode cMod_cuts 43 = .ok (.aload_n 0, 1) ∧ decode cMod_cuts 44 = .ok (.aload_n 0, 1) ∧ decode cMod_cuts 45 = .ok (.getfield 21, 3) ∧ decode cMod_cuts 48 = .ok (.iload_n 1, 1) ∧ decode cMod_cuts 49 = .ok (.iaload, 1) ∧ decode cMod_cuts 50 = .ok (.aload_n 0, 1) ∧ decode cMod_cuts 51 = .ok (.getfield 11, 3) ∧ True := Jvm.Free.DS.facts (code := cMod_cuts) 0 [(.aload_n 0, 1), (.iload_n 1, 1), (.invokestatic 141, 3), (.aload_n 0, 1), (.iload_n 1, 1), (.invokevirtual 144, 3), (.iconst 0, 1), (.invokevirtual 88, 3), (.ifCond .eq 5, 3), (.iconst 0, 1), (.ireturn, 1), (.aload_n 0, 1), (.getfield 18, 3), (.iload_n 1, 1), (.baload, 1), (.ifCond .ne 13, 3), (.aload_n 0, 1), (.getfield 28, 3), (.iload_n 1, 1), (.iaload, 1), (.iconst (-1), 1), (.if_icmp .ne 8, 3), (.aload_n 0, 1), (.invokevirtual 92, 3), (.ireturn, 1), (.aload_n 0, 1), (.aload_n 0, 1), (.getfield 21, 3), (.iload_n 1, 1), (.iaload, 1), (.aload_n 0, 1), (.getfield 11, 3)] (by decide +kernel) (by decide +kernel)
theorem dMod_cuts_0 : decode cMod_cuts 0 = .ok (.aload_n 0, 1) := zfMod_cuts_0.1
theorem dMod_cuts_1 : decode cMod_cuts 1 = .ok (.iload_n 1, 1) := zfMod_cuts_0.2.1
theorem dMod_cuts_2 : decode cMod_cuts 2 = .ok (.invokestatic 141, 3) := zfMod_cuts_0.2.2.1
theorem dMod_cuts_5 : decode cMod_cuts 5 = .ok (.aload_n 0, 1) := zfMod_cuts_0.2.2.2.1
theorem dMod_cuts_6 : decode cMod_cuts 6 = .ok (.iload_n 1, 1) := zfMod_cuts_0.2.2.2.2.1
theorem dMod_cuts_7 : decode cMod_cuts 7 = .ok (.invokevirtual 144, 3) := zfMod_cuts_0.2.2.2.2.2.1
theorem dMod_cuts_10 : decode cMod_cuts 10 = .ok (.iconst 0, 1) := zfMod_cuts_0.2.2.2.2.2.2.1
theorem dMod_cuts_11 : decode cMod_cuts 11 = .ok (.invokevirtual 88, 3) := zfMod_cuts_0.2.2.2.2.2.2.2.1
theorem dMod_cuts_14 : decode cMod_cuts 14 = .ok (.ifCond .eq 5, 3) := zfMod_cuts_0.2.2.2.2.2.2.2.2.1
theorem dMod_cuts_17 : decode cMod_cuts 17 = .ok (.iconst 0, 1) := zfMod_cuts_0.2.2.2.2.2.2.2.2.2.1
theorem dMod_cuts_18 : decode cMod_cuts 18 = .ok (.ireturn, 1) := zfMod_cuts_0.2.2.2.2.2.2.2.2.2.2.1
theorem dMod_cuts_19 : decode cMod_cuts 19 = .ok (.aload_n 0, 1) := zfMod_cuts_0.2.2.2.2.2.2.2.2.2.2.2.1
theorem dMod_cuts_20 : decode cMod_cuts 20 = .ok (.getfield 18, 3) := zfMod_cuts_0.2.2.2.2.2.2.2.2.2.2.2.2.1
theorem dMod_cuts_23 : decode cMod_cuts 23 = .ok (.iload_n 1, 1) := zfMod_cuts_0.2.2.2.2.2.2.2.2.2.2.2.2.2.1
theorem dMod_cuts_24 : decode cMod_cuts 24 = .ok (.baload, 1) := zfMod_cuts_0.2.2.2.2.2.2.2.2.2.2.2.2.2.2.1
theorem dMod_cuts_25 : decode cMod_cuts 25 = .ok (.ifCond .ne 13, 3) := zfMod_cuts_0.2.2.2.2.2.2.2.2.2.2.2.2.2.2.2.1
theorem dMod_cuts_28 : decode cMod_cuts 28 = .ok (.aload_n 0, 1) := zfMod_cuts_0.2.2.2.2.2.2.2.2.2.2.2.2.2.2.2.2.1
theorem dMod_cuts_29 : decode cMod_cuts 29 = .ok (.getfield 28, 3) := zfMod_cuts_0.2.2.2.2.2.2.2.2.2.2.2.2.2.2.2.2.2.1
theorem dMod_cuts_32 : decode cMod_cuts 32 = .ok (.iload_n 1, 1) := zfMod_cuts_0.2.2.2.2.2.2.2.2.2.2.2.2.2.2.2.2.2.2.1
theorem dMod_cuts_33 : decode cMod_cuts 33 = .ok (.iaload, 1) := zfMod_cuts_0.2.2.2.2.2.2.2.2.2.2.2.2.2.2.2.2.2.2.2.1
theorem dMod_cuts_34 : decode cMod_cuts 34 = .ok (.iconst (-1), 1) := zfMod_cuts_0.2.2.2.2.2.2.2.2.2.2.2.2.2.2.2.2.2.2.2.2.1
theorem dMod_cuts_35 : decode cMod_cuts 35 = .ok (.if_icmp .ne 8, 3) := zfMod_cuts_0.2.2.2.2.2.2.2.2.2.2.2.2.2.2.2.2.2.2.2.2.2.1
theorem dMod_cuts_38 : decode cMod_cuts 38 = .ok (.aload_n 0, 1) := zfMod_cuts_0.2.2.2.2.2.2.2.2.2.2.2.2.2.2.2.2.2.2.2.2.2.2.1
theorem dMod_cuts_39 : decode cMod_cuts 39 = .ok (.invokevirtual 92, 3) := zfMod_cuts_0.2.2.2.2.2.2.2.2.2.2.2.2.2.2.2.2.2.2.2.2.2.2.2.1
theorem dMod_cuts_42 : decode cMod_cuts 42 = .ok (.ireturn, 1) := zfMod_cuts_0.2.2.2.2.2.2.2.2.2.2.2.2.2.2.2.2.2.2.2.2.2.2.2.2.1
theorem dMod_cuts_43 : decode cMod_cuts 43 = .ok (.aload_n 0, 1) := zfMod_cuts_0.2.2.2.2.2.2.2.2.2.2.2.2.2.2.2.2.2.2.2.2.2.2.2.2.2.1
theorem dMod_cuts_44 : decode cMod_cuts 44 = .ok (.aload_n 0, 1) := zfMod_cuts_0.2.2.2.2.2.2.2.2.2.2.2.2.2.2.2.2.2.2.2.2.2.2.2.2.2.2.1
theorem dMod_cuts_45 : decode cMod_cuts 45 = .ok (.getfield 21, 3) := zfMod_cuts_0.2.2.2.2.2.2.2.2.2.2.2.2.2.2.2.2.2.2.2.2.2.2.2.2.2.2.2.1
theorem dMod_cuts_48 : decode cMod_cuts 48 = .ok (.iload_n 1, 1) := zfMod_cuts_0.2.2.2.2.2.2.2.2.2.2.2.2.2.2.2.2.2.2.2.2.2.2.2.2.2.2.2.2.1
theorem dMod_cuts_49 : decode cMod_cuts 49 = .ok (.iaload, 1) := zfMod_cuts_0.2.2.2.2.2.2.2.2.2.2.2.2.2.2.2.2.2.2.2.2.2.2.2.2.2.2.2.2.2.1
theorem dMod_cuts_50 : decode cMod_cuts 50 = .ok (.aload_n 0, 1) := zfMod_cuts_0.2.2.2.2.2.2.2.2.2.2.2.2.2.2.2.2.2.2.2.2.2.2.2.2.2.2.2.2.2.2.1
theorem dMod_cuts_51 : decode cMod_cuts 51 = .ok (.getfield 11, 3) := zfMod_cuts_0.2.2.2.2.2.2.2.2.2.2.2.2.2.2.2.2.2.2.2.2.2.2.2.2.2.2.2.2.2.2.2.1
theorem zfMod_cuts_54 : decode cMod_cuts 54 = .ok (.aload_n 0, 1) ∧ decode cMod_cuts 55 = .ok (.getfield 21, 3) ∧ decode cMod_cuts 58 = .ok (.iload_n 1, 1) ∧ decode cMod_cuts 59 = .ok (.iaload, 1) ∧ decode cMod_cuts 60 = .ok (.aaload, 1) ∧ decode cMod_cuts 61 = .ok (.aload_n 0, 1) ∧ decode cMod_cuts 62 = .ok (.getfield 28, 3) ∧ decode cMod_cuts 65 = .ok (.iload_n 1, 1) ∧ decode cMod_cuts 66 = .ok (.iaload, 1) ∧ decode cMod_cuts 67 = .ok (.invokestatic 102, 3) ∧ decode cMod_cuts 70 = .ok (.iload_n 1, 1) ∧ decode cMod_cuts 71 = .ok (.invokevirtual 77, 3) ∧ decode cMod_cuts 74 = .ok (.aload_n 0, 1) ∧ decode cMod_cuts 75 = .ok (.getfield 28, 3) ∧ decode cMod_cuts 78 = .ok (.iload_n 1, 1) ∧ decode cMod_cuts 79 = .ok (.iaload, 1) ∧ decode cMod_cuts 80 = .ok (.aload_n 0, 1) ∧ decode cMod_cuts 81 = .ok (.getfield 25, 3) ∧ decode cMod_cuts 84 = .ok (.iload_n 1, 1) ∧ decode cMod_cuts 85 = .ok (.iaload, 1) ∧ decode cMod_cuts 86 = .ok (.if_icmp .ge 13, 3) ∧ decode cMod_cuts 89 = .ok (.aload_n 0, 1) ∧ decode cMod_cuts 90 = .ok (.getfield 25, 3) ∧ decode cMod_cuts 93 = .ok (.iload_n 1, 1) ∧ decode cMod_cuts 94 = .ok (.dup2, 1) ∧ decode cMod_cuts 95 = .ok (.iaload, 1) ∧ decode cMod_cuts 96 = .ok (.iconst 1, 1) ∧ decode cMod_cuts 97 = .ok (.isub, 1) ∧ decode cMod_cuts 98 = .ok (.iastore, 1) ∧ decode cMod_cuts 99 = .ok (.aload_n 0, 1) ∧ decode cMod_cuts 100 = .ok (.getfield 28, 3) ∧ decode cMod_cuts 103 = .ok (.iload_n 1, 1) ∧ True := Jvm.Free.DS.facts (code := cMod_cuts) 54 [(.aload_n 0, 1), (.getfield 21, 3), (.iload_n 1, 1), (.iaload, 1), (.aaload, 1), (.aload_n 0, 1), (.getfield 28, 3), (.iload_n 1, 1), (.iaload, 1), (.invokestatic 102, 3), (.iload_n 1, 1), (.invokevirtual 77, 3), (.aload_n 0, 1), (.getfield 28, 3), (.iload_n 1, 1), (.iaload, 1), (.aload_n 0, 1), (.getfield 25, 3), (.iload_n 1, 1), (.iaload, 1), (.if_icmp .ge 13, 3), (.aload_n 0, 1), (.getfield 25, 3), (.iload_n 1, 1), (.dup2, 1), (.iaload, 1), (.iconst 1, 1), (.isub, 1), (.iastore, 1), (.aload_n 0, 1), (.getfield 28, 3), (.iload_n 1, 1)] (by decide +kernel) (by decide +kernel)
theorem dMod_cuts_54 : decode cMod_cuts 54 = .ok (.aload_n 0, 1) := zfMod_cuts_54.1
theorem dMod_cuts_55 : decode cMod_cuts 55 = .ok (.getfield 21, 3) := zfMod_cuts_54.2.1
theorem dMod_cuts_58 : decode cMod_cuts 58 = .ok (.iload_n 1, 1) := zfMod_cuts_54.2.2.1
theorem dMod_cuts_59 : decode cMod_cuts 59 = .ok (.iaload, 1) := zfMod_cuts_54.2.2.2.1
theorem dMod_cuts_60 : decode cMod_cuts 60 = .ok (.aaload, 1) := zfMod_cuts_54.2.2.2.2.1
theorem dMod_cuts_61 : decode cMod_cuts 61 = .ok (.aload_n 0, 1) := zfMod_cuts_54.2.2.2.2.2.1
theorem dMod_cuts_62 : decode cMod_cuts 62 = .ok (.getfield 28, 3) := zfMod_cuts_54.2.2.2.2.2.2.1
theorem dMod_cuts_65 : decode cMod_cuts 65 = .ok (.iload_n 1, 1) := zfMod_cuts_54.2.2.2.2.2.2.2.1
theorem dMod_cuts_66 : decode cMod_cuts 66 = .ok (.iaload, 1) := zfMod_cuts_54.2.2.2.2.2.2.2.2.1
theorem dMod_cuts_67 : decode cMod_cuts 67 = .ok (.invokestatic 102, 3) := zfMod_cuts_54.2.2.2.2.2.2.2.2.2.1
theorem dMod_cuts_70 : decode cMod_cuts 70 = .ok (.iload_n 1, 1) := zfMod_cuts_54.2.2.2.2.2.2.2.2.2.2.1
theorem dMod_cuts_71 : decode cMod_cuts 71 = .ok (.invokevirtual 77, 3) := zfMod_cuts_54.2.2.2.2.2.2.2.2.2.2.2.1
theorem dMod_cuts_74 : decode cMod_cuts 74 = .ok (.aload_n 0, 1) := zfMod_cuts_54.2.2.2.2.2.2.2.2.2.2.2.2.1
theorem dMod_cuts_75 : decode cMod_cuts 75 = .ok (.getfield 28, 3) := zfMod_cuts_54.2.2.2.2.2.2.2.2.2.2.2.2.2.1
theorem dMod_cuts_78 : decode cMod_cuts 78 = .ok (.iload_n 1, 1) := zfMod_cuts_54.2.2.2.2.2.2.2.2.2.2.2.2.2.2.1
theorem dMod_cuts_79 : decode cMod_cuts 79 = .ok (.iaload, 1) := zfMod_cuts_54.2.2.2.2.2.2.2.2.2.2.2.2.2.2.2.1
theorem dMod_cuts_80 : decode cMod_cuts 80 = .ok (.aload_n 0, 1) := zfMod_cuts_54.2.2.2.2.2.2.2.2.2.2.2.2.2.2.2.2.1
theorem dMod_cuts_81 : decode cMod_cuts 81 = .ok (.getfield 25, 3) := zfMod_cuts_54.2.2.2.2.2.2.2.2.2.2.2.2.2.2.2.2.2.1
theorem dMod_cuts_84 : decode cMod_cuts 84 = .ok (.iload_n 1, 1) := zfMod_cuts_54.2.2.2.2.2.2.2.2.2.2.2.2.2.2.2.2.2.2.1
theorem dMod_cuts_85 : decode cMod_cuts 85 = .ok (.iaload, 1) := zfMod_cuts_54.2.2.2.2.2.2.2.2.2.2.2.2.2.2.2.2.2.2.2.1
theorem dMod_cuts_86 : decode cMod_cuts 86 = .ok (.if_icmp .ge 13, 3) := zfMod_cuts_54.2.2.2.2.2.2.2.2.2.2.2.2.2.2.2.2.2.2.2.2.1
theorem dMod_cuts_89 : decode cMod_cuts 89 = .ok (.aload_n 0, 1) := zfMod_cuts_54.2.2.2.2.2.2.2.2.2.2.2.2.2.2.2.2.2.2.2.2.2.1
theorem dMod_cuts_90 : decode cMod_cuts 90 = .ok (.getfield 25, 3) := zfMod_cuts_54.2.2.2.2.2.2.2.2.2.2.2.2.2.2.2.2.2.2.2.2.2.2.1
theorem dMod_cuts_93 : decode cMod_cuts 93 = .ok (.iload_n 1, 1) := zfMod_cuts_54.2.2.2.2.2.2.2.2.2.2.2.2.2.2.2.2.2.2.2.2.2.2.2.1
theorem dMod_cuts_94 : decode cMod_cuts 94 = .ok (.dup2, 1) := zfMod_cuts_54.2.2.2.2.2.2.2.2.2.2.2.2.2.2.2.2.2.2.2.2.2.2.2.2.1
theorem dMod_cuts_95 : decode cMod_cuts 95 = .ok (.iaload, 1) := zfMod_cuts_54.2.2.2.2.2.2.2.2.2.2.2.2.2.2.2.2.2.2.2.2.2.2.2.2.2.1
theorem dMod_cuts_96 : decode cMod_cuts 96 = .ok (.iconst 1, 1) := zfMod_cuts_54.2.2.2.2.2.2.2.2.2.2.2.2.2.2.2.2.2.2.2.2.2.2.2.2.2.2.1
theorem dMod_cuts_97 : decode cMod_cuts 97 = .ok (.isub, 1) := zfMod_cuts_54.2.2.2.2.2.2.2.2.2.2.2.2.2.2.2.2.2.2.2.2.2.2.2.2.2.2.2.1
theorem dMod_cuts_98 : decode cMod_cuts 98 = .ok (.iastore, 1) := zfMod_cuts_54.2.2.2.2.2.2.2.2.2.2.2.2.2.2.2.2.2.2.2.2.2.2.2.2.2.2.2.2.1
theorem dMod_cuts_99 : decode cMod_cuts 99 = .ok (.aload_n 0, 1) := zfMod_cuts_54.2.2.2.2.2.2.2.2.2.2.2.2.2.2.2.2.2.2.2.2.2.2.2.2.2.2.2.2.2.1
theorem dMod_cuts_100 : decode cMod_cuts 100 = .ok (.getfield 28, 3) := zfMod_cuts_54.2.2.2.2.2.2.2.2.2.2.2.2.2.2.2.2.2.2.2.2.2.2.2.2.2.2.2.2.2.2.1
theorem dMod_cuts_103 : decode cMod_cuts 103 = .ok (.iload_n 1, 1) := zfMod_cuts_54.2.2.2.2.2.2.2.2.2.2.2.2.2.2.2.2.2.2.2.2.2.2.2.2.2.2.2.2.2.2.2.1
theorem zfMod_cuts_104 : decode cMod_cuts 104 = .ok (.iconst (-1), 1) ∧ decode cMod_cuts 105 = .ok (.iastore, 1) ∧ decode cMod_cuts 106 = .ok (.aload_n 0, 1) ∧ decode cMod_cuts 107 = .ok (.getfield 25, 3) ∧ decode cMod_cuts 110 = .ok (.iload_n 1, 1) ∧ decode cMod_cuts 111 = .ok (.iaload, 1) ∧ decode cMod_cuts 112 = .ok (.ireturn, 1) ∧ True := Jvm.Free.DS.facts (code := cMod_cuts) 104 [(.iconst (-1), 1), (.iastore, 1), (.aload_n 0, 1), (.getfield 25, 3), (.iload_n 1, 1), (.iaload, 1), (.ireturn, 1)] (by decide +kernel) (by decide +kernel)
theorem dMod_cuts_104 : decode cMod_cuts 104 = .ok (.iconst (-1), 1) := zfMod_cuts_104.1
theorem dMod_cuts_105 : decode cMod_cuts 105 = .ok (.iastore, 1) := zfMod_cuts_104.2.1
theorem dMod_cuts_106 : decode cMod_cuts 106 = .ok (.aload_n 0, 1) := zfMod_cuts_104.2.2.1
theorem dMod_cuts_107 : decode cMod_cuts 107 = .ok (.getfield 25, 3) := zfMod_cuts_104.2.2.2.1
theorem dMod_cuts_110 : decode cMod_cuts 110 = .ok (.iload_n 1, 1) := zfMod_cuts_104.2.2.2.2.1
theorem dMod_cuts_111 : decode cMod_cuts 111 = .ok (.iaload, 1) := zfMod_cuts_104.2.2.2.2.2.1
theorem dMod_cuts_112 : decode cMod_cuts 112 = .ok (.ireturn, 1) := zfMod_cuts_104.2.2.2.2.2.2.1
theorem zfMod_changes_0 : decode cMod_changes 0 = .ok (.aload_n 0, 1) ∧ decode cMod_changes 1 = .ok (.iload_n 1, 1) ∧ decode cMod_changes 2 = .ok (.invokestatic 141, 3) ∧ decode cMod_changes 5 = .ok (.iload_n 2, 1) ∧ decode cMod_changes 6 = .ok (.invokestatic 85, 3) ∧ decode cMod_changes 9 = .ok (.aload_n 0, 1) ∧ decode cMod_changes 10 = .ok (.iload_n 1, 1) ∧ decode cMod_changes 11 = .ok (.invokevirtual 144, 3) ∧ decode cMod_changes 14 = .ok (.invokevirtual 88, 3) ∧ decode cMod_changes 17 = .ok (.ifCond .eq 5, 3) ∧ decode cMod_changes 20 = .ok (.iconst 0, 1) ∧ decode cMod_changes 21 = .ok (.ireturn, 1) ∧ decode cMod_changes 22 = .ok (.aload_n 0, 1) ∧ decode cMod_changes 23 = .ok (.getfield 18, 3) ∧ decode cMod_changes 26 = .ok (.iload_n 1, 1) ∧ decode cMod_changes 27 = .ok (.baload, 1) ∧ decode cMod_changes 28 = .ok (.ifCond .ne 13, 3) ∧ decode cMod_changes 31 = .ok (.aload_n 0, 1) ∧ decode cMod_changes 32 = .ok (.getfield 28, 3) ∧ decode cMod_changes 35 = .ok (.iload_n 1, 1) ∧ decode cMod_changes 36 = .ok (.iaload, 1) ∧ decode cMod_changes 37 = .ok (.iconst (-1), 1) ∧ decode cMod_changes 38 = .ok (.if_icmp .ne 8, 3) ∧ decode cMod_changes 41 = .ok (.aload_n 0, 1) ∧ decode cMod_changes 42 = .ok (.invokevirtual 92, 3) ∧ decode cMod_changes 45 = .ok (.ireturn, 1) ∧ decode cMod_changes 46 = .ok (.aload_n 0, 1) ∧ decode cMod_changes 47 = .ok (.getfield 11, 3) ∧ decode cMod_changes 50 = .ok (.aload_n 0, 1) ∧ decode cMod_changes 51 = .ok (.getfield 21, 3) ∧ decode cMod_changes 54 = .ok (.iload_n 1, 1) ∧ decode cMod_changes 55 = .ok (.iaload, 1) ∧ True := Jvm.Free.DS.facts (code := cMod_changes) 0 [(.aload_n 0, 1), (.iload_n 1, 1), (.invokestatic 141, 3), (.iload_n 2, 1), (.invokestatic 85, 3), (.aload_n 0, 1), (.iload_n 1, 1), (.invokevirtual 144, 3), (.invokevirtual 88, 3), (.ifCond .eq 5, 3), (.iconst 0, 1), (.ireturn, 1), (.aload_n 0, 1), (.getfield 18, 3), (.iload_n 1, 1), (.baload, 1), (.ifCond .ne 13, 3), (.aload_n 0, 1), (.getfield 28, 3), (.iload_n 1, 1), (.iaload, 1), (.iconst (-1), 1), (.if_icmp .ne 8, 3), (.aload_n 0, 1), (.invokevirtual 92, 3), (.ireturn, 1), (.aload_n 0, 1), (.getfield 11, 3), (.aload_n 0, 1), (.getfield 21, 3), (.iload_n 1, 1), (.iaload, 1)] (by decide +kernel) (by decide +kernel)
theorem dMod_changes_0 : decode cMod_changes 0 = .ok (.aload_n 0, 1) := zfMod_changes_0.1
theorem dMod_changes_1 : decode cMod_changes 1 = .ok (.iload_n 1, 1) := zfMod_changes_0.2.1
theorem dMod_changes_2 : decode cMod_changes 2 = .ok (.invokestatic 141, 3) := zfMod_changes_0.2.2.1
theorem dMod_changes_5 : decode cMod_changes 5 = .ok (.iload_n 2, 1) := zfMod_changes_0.2.2.2.1
theorem dMod_changes_6 : decode cMod_changes 6 = .ok (.invokestatic 85, 3) := zfMod_changes_0.2.2.2.2.1
theorem dMod_changes_9 : decode cMod_changes 9 = .ok (.aload_n 0, 1) := zfMod_changes_0.2.2.2.2.2.1
theorem dMod_changes_10 : decode cMod_changes 10 = .ok (.iload_n 1, 1) := zfMod_changes_0.2.2.2.2.2.2.1
theorem dMod_changes_11 : decode cMod_changes 11 = .ok (.invokevirtual 144, 3) := zfMod_changes_0.2.2.2.2.2.2.2.1
theorem dMod_changes_14 : decode cMod_changes 14 = .ok (.invokevirtual 88, 3) := zfMod_changes_0.2.2.2.2.2.2.2.2.1
theorem dMod_changes_17 : decode cMod_changes 17 = .ok (.ifCond .eq 5, 3) := zfMod_changes_0.2.2.2.2.2.2.2.2.2.1
theorem dMod_changes_20 : decode cMod_changes 20 = .ok (.iconst 0, 1) := zfMod_changes_0.2.2.2.2.2.2.2.2.2.2.1
theorem dMod_changes_21 : decode cMod_changes 21 = .ok (.ireturn, 1) := zfMod_changes_0.2.2.2.2.2.2.2.2.2.2.2.1
theorem dMod_changes_22 : decode cMod_changes 22 = .ok (.aload_n 0, 1) := zfMod_changes_0.2.2.2.2.2.2.2.2.2.2.2.2.1
theorem dMod_changes_23 : decode cMod_changes 23 = .ok (.getfield 18, 3) := zfMod_changes_0.2.2.2.2.2.2.2.2.2.2.2.2.2.1
theorem dMod_changes_26 : decode cMod_changes 26 = .ok (.iload_n 1, 1) := zfMod_changes_0.2.2.2.2.2.2.2.2.2.2.2.2.2.2.1
theorem dMod_changes_27 : decode cMod_changes 27 = .ok (.baload, 1) := zfMod_changes_0.2.2.2.2.2.2.2.2.2.2.2.2.2.2.2.1
theorem dMod_changes_28 : decode cMod_changes 28 = .ok (.ifCond .ne 13, 3) := zfMod_changes_0.2.2.2.2.2.2.2.2.2.2.2.2.2.2.2.2.1
theorem dMod_changes_31 : decode cMod_changes 31 = .ok (.aload_n 0, 1) := zfMod_changes_0.2.2.2.2.2.2.2.2.2.2.2.2.2.2.2.2.2.1
theorem dMod_changes_32 : decode cMod_changes 32 = .ok (.getfield 28, 3) := zfMod_changes_0.2.2.2.2.2.2.2.2.2.2.2.2.2.2.2.2.2.2.1
theorem dMod_changes_35 : decode cMod_changes 35 = .ok (.iload_n 1, 1) := zfMod_changes_0.2.2.2.2.2.2.2.2.2.2.2.2.2.2.2.2.2.2.2.1
theorem dMod_changes_36 : decode cMod_changes 36 = .ok (.iaload, 1) := zfMod_changes_0.2.2.2.2.2.2.2.2.2.2.2.2.2.2.2.2.2.2.2.2.1
theorem dMod_changes_37 : decode cMod_changes 37 = .ok (.iconst (-1), 1) := zfMod_changes_0.2.2.2.2.2.2.2.2.2.2.2.2.2.2.2.2.2.2.2.2.2.1
theorem dMod_changes_38 : decode cMod_changes 38 = .ok (.if_icmp .ne 8, 3) := zfMod_changes_0.2.2.2.2.2.2.2.2.2.2.2.2.2.2.2.2.2.2.2.2.2.2.1
theorem dMod_changes_41 : decode cMod_changes 41 = .ok (.aload_n 0, 1) := zfMod_changes_0.2.2.2.2.2.2.2.2.2.2.2.2.2.2.2.2.2.2.2.2.2.2.2.1
theorem dMod_changes_42 : decode cMod_changes 42 = .ok (.invokevirtual 92, 3) := zfMod_changes_0.2.2.2.2.2.2.2.2.2.2.2.2.2.2.2.2.2.2.2.2.2.2.2.2.1
theorem dMod_changes_45 : decode cMod_changes 45 = .ok (.ireturn, 1) := zfMod_changes_0.2.2.2.2.2.2.2.2.2.2.2.2.2.2.2.2.2.2.2.2.2.2.2.2.2.1
theorem dMod_changes_46 : decode cMod_changes 46 = .ok (.aload_n 0, 1) := zfMod_changes_0.2.2.2.2.2.2.2.2.2.2.2.2.2.2.2.2.2.2.2.2.2.2.2.2.2.2.1
theorem dMod_changes_47 : decode cMod_changes 47 = .ok (.getfield 11, 3) := zfMod_changes_0.2.2.2.2.2.2.2.2.2.2.2.2.2.2.2.2.2.2.2.2.2.2.2.2.2.2.2.1
theorem dMod_changes_50 : decode cMod_changes 50 = .ok (.aload_n 0, 1) := zfMod_changes_0.2.2.2.2.2.2.2.2.2.2.2.2.2.2.2.2.2.2.2.2.2.2.2.2.2.2.2.2.1
theorem dMod_changes_51 : decode cMod_changes 51 = .ok (.getfield 21, 3) := zfMod_changes_0.2.2.2.2.2.2.2.2.2.2.2.2.2.2.2.2.2.2.2.2.2.2.2.2.2.2.2.2.2.1
theorem dMod_changes_54 : decode cMod_changes 54 = .ok (.iload_n 1, 1) := zfMod_changes_0.2.2.2.2.2.2.2.2.2.2.2.2.2.2.2.2.2.2.2.2.2.2.2.2.2.2.2.2.2.2.1
theorem dMod_changes_55 : decode cMod_changes 55 = .ok (.iaload, 1) := zfMod_changes_0.2.2.2.2.2.2.2.2.2.2.2.2.2.2.2.2.2.2.2.2.2.2.2.2.2.2.2.2.2.2.2.1
theorem zfMod_changes_56 : decode cMod_changes 56 = .ok (.aaload, 1) ∧ decode cMod_changes 57 = .ok (.aload_n 0, 1) ∧ decode cMod_changes 58 = .ok (.getfield 28, 3) ∧ decode cMod_changes 61 = .ok (.iload_n 1, 1) ∧ decode cMod_changes 62 = .ok (.iaload, 1) ∧ decode cMod_changes 63 = .ok (.iload_n 2, 1) ∧ decode cMod_changes 64 = .ok (.iastore, 1) ∧ decode cMod_changes 65 = .ok (.aload_n 0, 1) ∧ decode cMod_changes 66 = .ok (.getfield 25, 3) ∧ decode cMod_changes 69 = .ok (.iload_n 1, 1) ∧ decode cMod_changes 70 = .ok (.iaload, 1) ∧ decode cMod_changes 71 = .ok (.ireturn, 1) ∧ True := Jvm.Free.DS.facts (code := cMod_changes) 56 [(.aaload, 1), (.aload_n 0, 1), (.getfield 28, 3), (.iload_n 1, 1), (.iaload, 1), (.iload_n 2, 1), (.iastore, 1), (.aload_n 0, 1), (.getfield 25, 3), (.iload_n 1, 1), (.iaload, 1), (.ireturn, 1)] (by decide +kernel) (by decide +kernel)
theorem dMod_changes_56 : decode cMod_changes 56 = .ok (.aaload, 1) := zfMod_changes_56.1
theorem dMod_changes_57 : decode cMod_changes 57 = .ok (.aload_n 0, 1) := zfMod_changes_56.2.1
theorem dMod_changes_58 : decode cMod_changes 58 = .ok (.getfield 28, 3) := zfMod_changes_56.2.2.1
theorem dMod_changes_61 : decode cMod_changes 61 = .ok (.iload_n 1, 1) := zfMod_changes_56.2.2.2.1
theorem dMod_changes_62 : decode cMod_changes 62 = .ok (.iaload, 1) := zfMod_changes_56.2.2.2.2.1
theorem dMod_changes_63 : decode cMod_changes 63 = .ok (.iload_n 2, 1) := zfMod_changes_56.2.2.2.2.2.1
theorem dMod_changes_64 : decode cMod_changes 64 = .ok (.iastore, 1) := zfMod_changes_56.2.2.2.2.2.2.1
theorem dMod_changes_65 : decode cMod_changes 65 = .ok (.aload_n 0, 1) := zfMod_changes_56.2.2.2.2.2.2.2.1
theorem dMod_changes_66 : decode cMod_changes 66 = .ok (.getfield 25, 3) := zfMod_changes_56.2.2.2.2.2.2.2.2.1
theorem dMod_changes_69 : decode cMod_changes 69 = .ok (.iload_n 1, 1) := zfMod_changes_56.2.2.2.2.2.2.2.2.2.1
theorem dMod_changes_70 : decode cMod_changes 70 = .ok (.iaload, 1) := zfMod_changes_56.2.2.2.2.2.2.2.2.2.2.1
theorem dMod_changes_71 : decode cMod_changes 71 = .ok (.ireturn, 1) := zfMod_changes_56.2.2.2.2.2.2.2.2.2.2.2.1
theorem zfMod_meet_0 : decode cMod_meet 0 = .ok (.iload_n 1, 1) ∧ decode cMod_meet 1 = .ok (.invokestatic 141, 3) ∧ decode cMod_meet 4 = .ok (.ifCond .ne 10, 3) ∧ decode cMod_meet 7 = .ok (.iload_n 2, 1) ∧ decode cMod_meet 8 = .ok (.invokestatic 141, 3) ∧ decode cMod_meet 11 = .ok (.ifCond .eq 7, 3) ∧ decode cMod_meet 14 = .ok (.iconst 1, 1) ∧ decode cMod_meet 15 = .ok (.goto 4, 3) ∧ decode cMod_meet 18 = .ok (.iconst 0, 1) ∧ decode cMod_meet 19 = .ok (.istore_n 3, 1) ∧ decode cMod_meet 20 = .ok (.aload_n 0, 1) ∧ decode cMod_meet 21 = .ok (.iload_n 3, 1) ∧ decode cMod_meet 22 = .ok (.iload_n 1, 1) ∧ decode cMod_meet 23 = .ok (.iload_n 2, 1) ∧ decode cMod_meet 24 = .ok (.if_icmp .ne 7, 3) ∧ decode cMod_meet 27 = .ok (.iconst 1, 1) ∧ decode cMod_meet 28 = .ok (.goto 4, 3) ∧ decode cMod_meet 31 = .ok (.iconst 0, 1) ∧ decode cMod_meet 32 = .ok (.iload_n 3, 1) ∧ decode cMod_meet 33 = .ok (.ifCond .ne 23, 3) ∧ decode cMod_meet 36 = .ok (.aload_n 0, 1) ∧ decode cMod_meet 37 = .ok (.iload_n 1, 1) ∧ decode cMod_meet 38 = .ok (.invokevirtual 144, 3) ∧ decode cMod_meet 41 = .ok (.ifCond .ne 11, 3) ∧ decode cMod_meet 44 = .ok (.aload_n 0, 1) ∧ decode cMod_meet 45 = .ok (.iload_n 2, 1) ∧ decode cMod_meet 46 = .ok (.invokevirtual 144, 3) ∧ decode cMod_meet 49 = .ok (.ifCond .eq 7, 3) ∧ decode cMod_meet 52 = .ok (.iconst 1, 1) ∧ decode cMod_meet 53 = .ok (.goto 4, 3) ∧ decode cMod_meet 56 = .ok (.iconst 0, 1) ∧ decode cMod_meet 57 = .ok (.invokevirtual 88, 3) ∧ True := Jvm.Free.DS.facts (code := cMod_meet) 0 [(.iload_n 1, 1), (.invokestatic 141, 3), (.ifCond .ne 10, 3), (.iload_n 2, 1), (.invokestatic 141, 3), (.ifCond .eq 7, 3), (.iconst 1, 1), (.goto 4, 3), (.iconst 0, 1), (.istore_n 3, 1), (.aload_n 0, 1), (.iload_n 3, 1), (.iload_n 1, 1), (.iload_n 2, 1), (.if_icmp .ne 7, 3), (.iconst 1, 1), (.goto 4, 3), (.iconst 0, 1), (.iload_n 3, 1), (.ifCond .ne 23, 3), (.aload_n 0, 1), (.iload_n 1, 1), (.invokevirtual 144, 3), (.ifCond .ne 11, 3), (.aload_n 0, 1), (.iload_n 2, 1), (.invokevirtual 144, 3), (.ifCond .eq 7, 3), (.iconst 1, 1), (.goto 4, 3), (.iconst 0, 1), (.invokevirtual 88, 3)] (by decide +kernel) (by decide +kernel)
theorem dMod_meet_0 : decode cMod_meet 0 = .ok (.iload_n 1, 1) := zfMod_meet_0.1
theorem dMod_meet_1 : decode cMod_meet 1 = .ok (.invokestatic 141, 3) := zfMod_meet_0.2.1
theorem dMod_meet_4 : decode cMod_meet 4 = .ok (.ifCond .ne 10, 3) := zfMod_meet_0.2.2.1
theorem dMod_meet_7 : decode cMod_meet 7 = .ok (.iload_n 2, 1) := zfMod_meet_0.2.2.2.1
theorem dMod_meet_8 : decode cMod_meet 8 = .ok (.invokestatic 141, 3) := zfMod_meet_0.2.2.2.2.1
theorem dMod_meet_11 : decode cMod_meet 11 = .ok (.ifCond .eq 7, 3) := zfMod_meet_0.2.2.2.2.2.1
theorem dMod_meet_14 : decode cMod_meet 14 = .ok (.iconst 1, 1) := zfMod_meet_0.2.2.2.2.2.2.1
theorem dMod_meet_15 : decode cMod_meet 15 = .ok (.goto 4, 3) := zfMod_meet_0.2.2.2.2.2.2.2.1
theorem dMod_meet_18 : decode cMod_meet 18 = .ok (.iconst 0, 1) := zfMod_meet_0.2.2.2.2.2.2.2.2.1
theorem dMod_meet_19 : decode cMod_meet 19 = .ok (.istore_n 3, 1) := zfMod_meet_0.2.2.2.2.2.2.2.2.2.1
theorem dMod_meet_20 : decode cMod_meet 20 = .ok (.aload_n 0, 1) := zfMod_meet_0.2.2.2.2.2.2.2.2.2.2.1
theorem dMod_meet_21 : decode cMod_meet 21 = .ok (.iload_n 3, 1) := zfMod_meet_0.2.2.2.2.2.2.2.2.2.2.2.1
theorem dMod_meet_22 : decode cMod_meet 22 = .ok (.iload_n 1, 1) := zfMod_meet_0.2.2.2.2.2.2.2.2.2.2.2.2.1
theorem dMod_meet_23 : decode cMod_meet 23 = .ok (.iload_n 2, 1) := zfMod_meet_0.2.2.2.2.2.2.2.2.2.2.2.2.2.1
theorem dMod_meet_24 : decode cMod_meet 24 = .ok (.if_icmp .ne 7, 3) := zfMod_meet_0.2.2.2.2.2.2.2.2.2.2.2.2.2.2.1
theorem dMod_meet_27 : decode cMod_meet 27 = .ok (.iconst 1, 1) := zfMod_meet_0.2.2.2.2.2.2.2.2.2.2.2.2.2.2.2.1
theorem dMod_meet_28 : decode cMod_meet 28 = .ok (.goto 4, 3) := zfMod_meet_0.2.2.2.2.2.2.2.2.2.2.2.2.2.2.2.2.1
theorem dMod_meet_31 : decode cMod_meet 31 = .ok (.iconst 0, 1) := zfMod_meet_0.2.2.2.2.2.2.2.2.2.2.2.2.2.2.2.2.2.1
theorem dMod_meet_32 : decode cMod_meet 32 = .ok (.iload_n 3, 1) := zfMod_meet_0.2.2.2.2.2.2.2.2.2.2.2.2.2.2.2.2.2.2.1
theorem dMod_meet_33 : decode cMod_meet 33 = .ok (.ifCond .ne 23, 3) := zfMod_meet_0.2.2.2.2.2.2.2.2.2.2.2.2.2.2.2.2.2.2.2.1
theorem dMod_meet_36 : decode cMod_meet 36 = .ok (.aload_n 0, 1) := zfMod_meet_0.2.2.2.2.2.2.2.2.2.2.2.2.2.2.2.2.2.2.2.2.1
theorem dMod_meet_37 : decode cMod_meet 37 = .ok (.iload_n 1, 1) := zfMod_meet_0.2.2.2.2.2.2.2.2.2.2.2.2.2.2.2.2.2.2.2.2.2.1
theorem dMod_meet_38 : decode cMod_meet 38 = .ok (.invokevirtual 144, 3) := zfMod_meet_0.2.2.2.2.2.2.2.2.2.2.2.2.2.2.2.2.2.2.2.2.2.2.1
theorem dMod_meet_41 : decode cMod_meet 41 = .ok (.ifCond .ne 11, 3) := zfMod_meet_0.2.2.2.2.2.2.2.2.2.2.2.2.2.2.2.2.2.2.2.2.2.2.2.1
theorem dMod_meet_44 : decode cMod_meet 44 = .ok (.aload_n 0, 1) := zfMod_meet_0.2.2.2.2.2.2.2.2.2.2.2.2.2.2.2.2.2.2.2.2.2.2.2.2.1
theorem dMod_meet_45 : decode cMod_meet 45 = .ok (.iload_n 2, 1) := zfMod_meet_0.2.2.2.2.2.2.2.2.2.2.2.2.2.2.2.2.2.2.2.2.2.2.2.2.2.1
theorem dMod_meet_46 : decode cMod_meet 46 = .ok (.invokevirtual 144, 3) := zfMod_meet_0.2.2.2.2.2.2.2.2.2.2.2.2.2.2.2.2.2.2.2.2.2.2.2.2.2.2.1
theorem dMod_meet_49 : decode cMod_meet 49 = .ok (.ifCond .eq 7, 3) := zfMod_meet_0.2.2.2.2.2.2.2.2.2.2.2.2.2.2.2.2.2.2.2.2.2.2.2.2.2.2.2.1
theorem dMod_meet_52 : decode cMod_meet 52 = .ok (.iconst 1, 1) := zfMod_meet_0.2.2.2.2.2.2.2.2.2.2.2.2.2.2.2.2.2.2.2.2.2.2.2.2.2.2.2.2.1
theorem dMod_meet_53 : decode cMod_meet 53 = .ok (.goto 4, 3) := zfMod_meet_0.2.2.2.2.2.2.2.2.2.2.2.2.2.2.2.2.2.2.2.2.2.2.2.2.2.2.2.2.2.1
theorem dMod_meet_56 : decode cMod_meet 56 = .ok (.iconst 0, 1) := zfMod_meet_0.2.2.2.2.2.2.2.2.2.2.2.2.2.2.2.2.2.2.2.2.2.2.2.2.2.2.2.2.2.2.1
theorem dMod_meet_57 : decode cMod_meet 57 = .ok (.invokevirtual 88, 3) := zfMod_meet_0.2.2.2.2.2.2.2.2.2.2.2.2.2.2.2.2.2.2.2.2.2.2.2.2.2.2.2.2.2.2.2.1
theorem zfMod_meet_60 : decode cMod_meet 60 = .ok (.ifCond .eq 5, 3) ∧ decode cMod_meet 63 = .ok (.iconst 0, 1) ∧ decode cMod_meet 64 = .ok (.ireturn, 1) ∧ decode cMod_meet 65 = .ok (.aload_n 0, 1) ∧ decode cMod_meet 66 = .ok (.getfield 18, 3) ∧ decode cMod_meet 69 = .ok (.iload_n 1, 1) ∧ decode cMod_meet 70 = .ok (.baload, 1) ∧ decode cMod_meet 71 = .ok (.ifCond .ne 42, 3) ∧ decode cMod_meet 74 = .ok (.aload_n 0, 1) ∧ decode cMod_meet 75 = .ok (.getfield 18, 3) ∧ decode cMod_meet 78 = .ok (.iload_n 2, 1) ∧ decode cMod_meet 79 = .ok (.baload, 1) ∧ decode cMod_meet 80 = .ok (.ifCond .ne 33, 3) ∧ decode cMod_meet 83 = .ok (.aload_n 0, 1) ∧ decode cMod_meet 84 = .ok (.getfield 21, 3) ∧ decode cMod_meet 87 = .ok (.iload_n 1, 1) ∧ decode cMod_meet 88 = .ok (.iaload, 1) ∧ decode cMod_meet 89 = .ok (.aload_n 0, 1) ∧ decode cMod_meet 90 = .ok (.getfield 21, 3) ∧ decode cMod_meet 93 = .ok (.iload_n 2, 1) ∧ decode cMod_meet 94 = .ok (.iaload, 1) ∧ decode cMod_meet 95 = .ok (.if_icmp .ne 18, 3) ∧ decode cMod_meet 98 = .ok (.aload_n 0, 1) ∧ decode cMod_meet 99 = .ok (.getfield 25, 3) ∧ decode cMod_meet 102 = .ok (.iload_n 1, 1) ∧ decode cMod_meet 103 = .ok (.iaload, 1) ∧ decode cMod_meet 104 = .ok (.aload_n 0, 1) ∧ decode cMod_meet 105 = .ok (.getfield 25, 3) ∧ decode cMod_meet 108 = .ok (.iload_n 2, 1) ∧ decode cMod_meet 109 = .ok (.iaload, 1) ∧ decode cMod_meet 110 = .ok (.if_icmp .le 8, 3) ∧ decode cMod_meet 113 = .ok (.aload_n 0, 1) ∧ True := Jvm.Free.DS.facts (code := cMod_meet) 60 [(.ifCond .eq 5, 3), (.iconst 0, 1), (.ireturn, 1), (.aload_n 0, 1), (.getfield 18, 3), (.iload_n 1, 1), (.baload, 1), (.ifCond .ne 42, 3), (.aload_n 0, 1), (.getfield 18, 3), (.iload_n 2, 1), (.baload, 1), (.ifCond .ne 33, 3), (.aload_n 0, 1), (.getfield 21, 3), (.iload_n 1, 1), (.iaload, 1), (.aload_n 0, 1), (.getfield 21, 3), (.iload_n 2, 1), (.iaload, 1), (.if_icmp .ne 18, 3), (.aload_n 0, 1), (.getfield 25, 3), (.iload_n 1, 1), (.iaload, 1), (.aload_n 0, 1), (.getfield 25, 3), (.iload_n 2, 1), (.iaload, 1), (.if_icmp .le 8, 3), (.aload_n 0, 1)] (by decide +kernel) (by decide +kernel)
theorem dMod_meet_60 : decode cMod_meet 60 = .ok (.ifCond .eq 5, 3) := zfMod_meet_60.1
theorem dMod_meet_63 : decode cMod_meet 63 = .ok (.iconst 0, 1) := zfMod_meet_60.2.1
theorem dMod_meet_64 : decode cMod_meet 64 = .ok (.ireturn, 1) := zfMod_meet_60.2.2.1
theorem dMod_meet_65 : decode cMod_meet 65 = .ok (.aload_n 0, 1) := zfMod_meet_60.2.2.2.1
theorem dMod_meet_66 : decode cMod_meet 66 = .ok (.getfield 18, 3) := zfMod_meet_60.2.2.2.2.1
theorem dMod_meet_69 : decode cMod_meet 69 = .ok (.iload_n 1, 1) := zfMod_meet_60.2.2.2.2.2.1
theorem dMod_meet_70 : decode cMod_meet 70 = .ok (.baload, 1) := zfMod_meet_60.2.2.2.2.2.2.1
theorem dMod_meet_71 : decode cMod_meet 71 = .ok (.ifCond .ne 42, 3) := zfMod_meet_60.2.2.2.2.2.2.2.1
theorem dMod_meet_74 : decode cMod_meet 74 = .ok (.aload_n 0, 1) := zfMod_meet_60.2.2.2.2.2.2.2.2.1
theorem dMod_meet_75 : decode cMod_meet 75 = .ok (.getfield 18, 3) := zfMod_meet_60.2.2.2.2.2.2.2.2.2.1
theorem dMod_meet_78 : decode cMod_meet 78 = .ok (.iload_n 2, 1) := zfMod_meet_60.2.2.2.2.2.2.2.2.2.2.1
theorem dMod_meet_79 : decode cMod_meet 79 = .ok (.baload, 1) := zfMod_meet_60.2.2.2.2.2.2.2.2.2.2.2.1
theorem dMod_meet_80 : decode cMod_meet 80 = .ok (.ifCond .ne 33, 3) := zfMod_meet_60.2.2.2.2.2.2.2.2.2.2.2.2.1
theorem dMod_meet_83 : decode cMod_meet 83 = .ok (.aload_n 0, 1) := zfMod_meet_60.2.2.2.2.2.2.2.2.2.2.2.2.2.1
theorem dMod_meet_84 : decode cMod_meet 84 = .ok (.getfield 21, 3) := zfMod_meet_60.2.2.2.2.2.2.2.2.2.2.2.2.2.2.1
theorem dMod_meet_87 : decode cMod_meet 87 = .ok (.iload_n 1, 1) := zfMod_meet_60.2.2.2.2.2.2.2.2.2.2.2.2.2.2.2.1
theorem dMod_meet_88 : decode cMod_meet 88 = .ok (.iaload, 1) := zfMod_meet_60.2.2.2.2.2.2.2.2.2.2.2.2.2.2.2.2.1
theorem dMod_meet_89 : decode cMod_meet 89 = .ok (.aload_n 0, 1) := zfMod_meet_60.2.2.2.2.2.2.2.2.2.2.2.2.2.2.2.2.2.1
theorem dMod_meet_90 : decode cMod_meet 90 = .ok (.getfield 21, 3) := zfMod_meet_60.2.2.2.2.2.2.2.2.2.2.2.2.2.2.2.2.2.2.1
theorem dMod_meet_93 : decode cMod_meet 93 = .ok (.iload_n 2, 1) := zfMod_meet_60.2.2.2.2.2.2.2.2.2.2.2.2.2.2.2.2.2.2.2.1
theorem dMod_meet_94 : decode cMod_meet 94 = .ok (.iaload, 1) := zfMod_meet_60.2.2.2.2.2.2.2.2.2.2.2.2.2.2.2.2.2.2.2.2.1
theorem dMod_meet_95 : decode cMod_meet 95 = .ok (.if_icmp .ne 18, 3) := zfMod_meet_60.2.2.2.2.2.2.2.2.2.2.2.2.2.2.2.2.2.2.2.2.2.1
theorem dMod_meet_98 : decode cMod_meet 98 = .ok (.aload_n 0, 1) := zfMod_meet_60.2.2.2.2.2.2.2.2.2.2.2.2.2.2.2.2.2.2.2.2.2.2.1
theorem dMod_meet_99 : decode cMod_meet 99 = .ok (.getfield 25, 3) := zfMod_meet_60.2.2.2.2.2.2.2.2.2.2.2.2.2.2.2.2.2.2.2.2.2.2.2.1
theorem dMod_meet_102 : decode cMod_meet 102 = .ok (.iload_n 1, 1) := zfMod_meet_60.2.2.2.2.2.2.2.2.2.2.2.2.2.2.2.2.2.2.2.2.2.2.2.2.1
theorem dMod_meet_103 : decode cMod_meet 103 = .ok (.iaload, 1) := zfMod_meet_60.2.2.2.2.2.2.2.2.2.2.2.2.2.2.2.2.2.2.2.2.2.2.2.2.2.1
theorem dMod_meet_104 : decode cMod_meet 104 = .ok (.aload_n 0, 1) := zfMod_meet_60.2.2.2.2.2.2.2.2.2.2.2.2.2.2.2.2.2.2.2.2.2.2.2.2.2.2.1
theorem dMod_meet_105 : decode cMod_meet 105 = .ok (.getfield 25, 3) := zfMod_meet_60.2.2.2.2.2.2.2.2.2.2.2.2.2.2.2.2.2.2.2.2.2.2.2.2.2.2.2.1
theorem dMod_meet_108 : decode cMod_meet 108 = .ok (.iload_n 2, 1) := zfMod_meet_60.2.2.2.2.2.2.2.2.2.2.2.2.2.2.2.2.2.2.2.2.2.2.2.2.2.2.2.2.1
theorem dMod_meet_109 : decode cMod_meet 109 = .ok (.iaload, 1) := zfMod_meet_60.2.2.2.2.2.2.2.2.2.2.2.2.2.2.2.2.2.2.2.2.2.2.2.2.2.2.2.2.2.1
theorem dMod_meet_110 : decode cMod_meet 110 = .ok (.if_icmp .le 8, 3) := zfMod_meet_60.2.2.2.2.2.2.2.2.2.2.2.2.2.2.2.2.2.2.2.2.2.2.2.2.2.2.2.2.2.2.1
theorem dMod_meet_113 : decode cMod_meet 113 = .ok (.aload_n 0, 1) := zfMod_meet_60.2.2.2.2.2.2.2.2.2.2.2.2.2.2.2.2.2.2.2.2.2.2.2.2.2.2.2.2.2.2.2.1
theorem zfMod_meet_114 : decode cMod_meet 114 = .ok (.invokevirtual 92, 3) ∧ decode cMod_meet 117 = .ok (.ireturn, 1) ∧ decode cMod_meet 118 = .ok (.iconst 0, 1) ∧ decode cMod_meet 119 = .ok (.istore 4, 2) ∧ decode cMod_meet 121 = .ok (.iconst 1, 1) ∧ decode cMod_meet 122 = .ok (.istore 5, 2) ∧ decode cMod_meet 124 = .ok (.aload_n 0, 1) ∧ decode cMod_meet 125 = .ok (.getfield 25, 3) ∧ decode cMod_meet 128 = .ok (.iload_n 1, 1) ∧ decode cMod_meet 129 = .ok (.iaload, 1) ∧ decode cMod_meet 130 = .ok (.aload_n 0, 1) ∧ decode cMod_meet 131 = .ok (.getfield 25, 3) ∧ decode cMod_meet 134 = .ok (.iload_n 2, 1) ∧ decode cMod_meet 135 = .ok (.iaload, 1) ∧ decode cMod_meet 136 = .ok (.if_icmp .ge 43, 3) ∧ decode cMod_meet 139 = .ok (.iload 4, 2) ∧ decode cMod_meet 141 = .ok (.iload 5, 2) ∧ decode cMod_meet 143 = .ok (.ifCond .eq 12, 3) ∧ decode cMod_meet 146 = .ok (.aload_n 0, 1) ∧ decode cMod_meet 147 = .ok (.iload_n 1, 1) ∧ decode cMod_meet 148 = .ok (.iconst 1, 1) ∧ decode cMod_meet 149 = .ok (.invokevirtual 147, 3) ∧ decode cMod_meet 152 = .ok (.goto 9, 3) ∧ decode cMod_meet 155 = .ok (.aload_n 0, 1) ∧ decode cMod_meet 156 = .ok (.iload_n 2, 1) ∧ decode cMod_meet 157 = .ok (.iconst 0, 1) ∧ decode cMod_meet 158 = .ok (.invokevirtual 147, 3) ∧ decode cMod_meet 161 = .ok (.iadd, 1) ∧ decode cMod_meet 162 = .ok (.istore 4, 2) ∧ decode cMod_meet 164 = .ok (.iload 5, 2) ∧ decode cMod_meet 166 = .ok (.ifCond .ne 7, 3) ∧ decode cMod_meet 169 = .ok (.iconst 1, 1) ∧ True := Jvm.Free.DS.facts (code := cMod_meet) 114 [(.invokevirtual 92, 3), (.ireturn, 1), (.iconst 0, 1), (.istore 4, 2), (.iconst 1, 1), (.istore 5, 2), (.aload_n 0, 1), (.getfield 25, 3), (.iload_n 1, 1), (.iaload, 1), (.aload_n 0, 1), (.getfield 25, 3), (.iload_n 2, 1), (.iaload, 1), (.if_icmp .ge 43, 3), (.iload 4, 2), (.iload 5, 2), (.ifCond .eq 12, 3), (.aload_n 0, 1), (.iload_n 1, 1), (.iconst 1, 1), (.invokevirtual 147, 3), (.goto 9, 3), (.aload_n 0, 1), (.iload_n 2, 1), (.iconst 0, 1), (.invokevirtual 147, 3), (.iadd, 1), (.istore 4, 2), (.iload 5, 2), (.ifCond .ne 7, 3), (.iconst 1, 1)] (by decide +kernel) (by decide +kernel)
theorem dMod_meet_114 : decode cMod_meet 114 = .ok (.invokevirtual 92, 3) := zfMod_meet_114.1
theorem dMod_meet_117 : decode cMod_meet 117 = .ok (.ireturn, 1) := zfMod_meet_114.2.1
theorem dMod_meet_118 : decode cMod_meet 118 = .ok (.iconst 0, 1) := zfMod_meet_114.2.2.1
theorem dMod_meet_119 : decode cMod_meet 119 = .ok (.istore 4, 2) := zfMod_meet_114.2.2.2.1
theorem dMod_meet_121 : decode cMod_meet 121 = .ok (.iconst 1, 1) := zfMod_meet_114.2.2.2.2.1
theorem dMod_meet_122 : decode cMod_meet 122 = .ok (.istore 5, 2) := zfMod_meet_114.2.2.2.2.2.1
theorem dMod_meet_124 : decode cMod_meet 124 = .ok (.aload_n 0, 1) := zfMod_meet_114.2.2.2.2.2.2.1
theorem dMod_meet_125 : decode cMod_meet 125 = .ok (.getfield 25, 3) := zfMod_meet_114.2.2.2.2.2.2.2.1
theorem dMod_meet_128 : decode cMod_meet 128 = .ok (.iload_n 1, 1) := zfMod_meet_114.2.2.2.2.2.2.2.2.1
theorem dMod_meet_129 : decode cMod_meet 129 = .ok (.iaload, 1) := zfMod_meet_114.2.2.2.2.2.2.2.2.2.1
theorem dMod_meet_130 : decode cMod_meet 130 = .ok (.aload_n 0, 1) := zfMod_meet_114.2.2.2.2.2.2.2.2.2.2.1
theorem dMod_meet_131 : decode cMod_meet 131 = .ok (.getfield 25, 3) := zfMod_meet_114.2.2.2.2.2.2.2.2.2.2.2.1
theorem dMod_meet_134 : decode cMod_meet 134 = .ok (.iload_n 2, 1) := zfMod_meet_114.2.2.2.2.2.2.2.2.2.2.2.2.1
theorem dMod_meet_135 : decode cMod_meet 135 = .ok (.iaload, 1) := zfMod_meet_114.2.2.2.2.2.2.2.2.2.2.2.2.2.1
theorem dMod_meet_136 : decode cMod_meet 136 = .ok (.if_icmp .ge 43, 3) := zfMod_meet_114.2.2.2.2.2.2.2.2.2.2.2.2.2.2.1
theorem dMod_meet_139 : decode cMod_meet 139 = .ok (.iload 4, 2) := zfMod_meet_114.2.2.2.2.2.2.2.2.2.2.2.2.2.2.2.1
theorem dMod_meet_141 : decode cMod_meet 141 = .ok (.iload 5, 2) := zfMod_meet_114.2.2.2.2.2.2.2.2.2.2.2.2.2.2.2.2.1
theorem dMod_meet_143 : decode cMod_meet 143 = .ok (.ifCond .eq 12, 3) := zfMod_meet_114.2.2.2.2.2.2.2.2.2.2.2.2.2.2.2.2.2.1
theorem dMod_meet_146 : decode cMod_meet 146 = .ok (.aload_n 0, 1) := zfMod_meet_114.2.2.2.2.2.2.2.2.2.2.2.2.2.2.2.2.2.2.1
theorem dMod_meet_147 : decode cMod_meet 147 = .ok (.iload_n 1, 1) := zfMod_meet_114.2.2.2.2.2.2.2.2.2.2.2.2.2.2.2.2.2.2.2.1
theorem dMod_meet_148 : decode cMod_meet 148 = .ok (.iconst 1, 1) := zfMod_meet_114.2.2.2.2.2.2.2.2.2.2.2.2.2.2.2.2.2.2.2.2.1
theorem dMod_meet_149 : decode cMod_meet 149 = .ok (.invokevirtual 147, 3) := zfMod_meet_114.2.2.2.2.2.2.2.2.2.2.2.2.2.2.2.2.2.2.2.2.2.1
theorem dMod_meet_152 : decode cMod_meet 152 = .ok (.goto 9, 3) := zfMod_meet_114.2.2.2.2.2.2.2.2.2.2.2.2.2.2.2.2.2.2.2.2.2.2.1
theorem dMod_meet_155 : decode cMod_meet 155 = .ok (.aload_n 0, 1) := zfMod_meet_114.2.2.2.2.2.2.2.2.2.2.2.2.2.2.2.2.2.2.2.2.2.2.2.1
theorem dMod_meet_156 : decode cMod_meet 156 = .ok (.iload_n 2, 1) := zfMod_meet_114.2.2.2.2.2.2.2.2.2.2.2.2.2.2.2.2.2.2.2.2.2.2.2.2.1
theorem dMod_meet_157 : decode cMod_meet 157 = .ok (.iconst 0, 1) := zfMod_meet_114.2.2.2.2.2.2.2.2.2.2.2.2.2.2.2.2.2.2.2.2.2.2.2.2.2.1
theorem dMod_meet_158 : decode cMod_meet 158 = .ok (.invokevirtual 147, 3) := zfMod_meet_114.2.2.2.2.2.2.2.2.2.2.2.2.2.2.2.2.2.2.2.2.2.2.2.2.2.2.1
theorem dMod_meet_161 : decode cMod_meet 161 = .ok (.iadd, 1) := zfMod_meet_114.2.2.2.2.2.2.2.2.2.2.2.2.2.2.2.2.2.2.2.2.2.2.2.2.2.2.2.1
theorem dMod_meet_162 : decode cMod_meet 162 = .ok (.istore 4, 2) := zfMod_meet_114.2.2.2.2.2.2.2.2.2.2.2.2.2.2.2.2.2.2.2.2.2.2.2.2.2.2.2.2.1
theorem dMod_meet_164 : decode cMod_meet 164 = .ok (.iload 5, 2) := zfMod_meet_114.2.2.2.2.2.2.2.2.2.2.2.2.2.2.2.2.2.2.2.2.2.2.2.2.2.2.2.2.2.1
theorem dMod_meet_166 : decode cMod_meet 166 = .ok (.ifCond .ne 7, 3) := zfMod_meet_114.2.2.2.2.2.2.2.2.2.2.2.2.2.2.2.2.2.2.2.2.2.2.2.2.2.2.2.2.2.2.1
theorem dMod_meet_169 : decode cMod_meet 169 = .ok (.iconst 1, 1) := zfMod_meet_114.2.2.2.2.2.2.2.2.2.2.2.2.2.2.2.2.2.2.2.2.2.2.2.2.2.2.2.2.2.2.2.1
theorem zfMod_meet_170 : decode cMod_meet 170 = .ok (.goto 4, 3) ∧ decode cMod_meet 173 = .ok (.iconst 0, 1) ∧ decode cMod_meet 174 = .ok (.istore 5, 2) ∧ decode cMod_meet 176 = .ok (.goto (-52), 3) ∧ decode cMod_meet 179 = .ok (.iload 4, 2) ∧ decode cMod_meet 181 = .ok (.ireturn, 1) ∧ True := Jvm.Free.DS.facts (code := cMod_meet) 170 [(.goto 4, 3), (.iconst 0, 1), (.istore 5, 2), (.goto (-52), 3), (.iload 4, 2), (.ireturn, 1)] (by decide +kernel) (by decide +kernel)
theorem dMod_meet_170 : decode cMod_meet 170 = .ok (.goto 4, 3) := zfMod_meet_170.1
theorem dMod_meet_173 : decode cMod_meet 173 = .ok (.iconst 0, 1) := zfMod_meet_170.2.1
theorem dMod_meet_174 : decode cMod_meet 174 = .ok (.istore 5, 2) := zfMod_meet_170.2.2.1
theorem dMod_meet_176 : decode cMod_meet 176 = .ok (.goto (-52), 3) := zfMod_meet_170.2.2.2.1
theorem dMod_meet_179 : decode cMod_meet 179 = .ok (.iload 4, 2) := zfMod_meet_170.2.2.2.2.1
theorem dMod_meet_181 : decode cMod_meet 181 = .ok (.ireturn, 1) := zfMod_meet_170.2.2.2.2.2.1
theorem zfMod_ofCursorNow_0 : decode cMod_ofCursorNow 0 = .ok (.aload_n 0, 1) ∧ decode cMod_ofCursorNow 1 = .ok (.getfield 14, 3) ∧ decode cMod_ofCursorNow 4 = .ok (.iload_n 1, 1) ∧ decode cMod_ofCursorNow 5 = .ok (.baload, 1) ∧ decode cMod_ofCursorNow 6 = .ok (.ifCond .ne 5, 3) ∧ decode cMod_ofCursorNow 9 = .ok (.iconst (-1), 1) ∧ decode cMod_ofCursorNow 10 = .ok (.ireturn, 1) ∧ decode cMod_ofCursorNow 11 = .ok (.aload_n 0, 1) ∧ decode cMod_ofCursorNow 12 = .ok (.getfield 11, 3) ∧ decode cMod_ofCursorNow 15 = .ok (.aload_n 0, 1) ∧ decode cMod_ofCursorNow 16 = .ok (.getfield 21, 3) ∧ decode cMod_ofCursorNow 19 = .ok (.iload_n 1, 1) ∧ decode cMod_ofCursorNow 20 = .ok (.iaload, 1) ∧ decode cMod_ofCursorNow 21 = .ok (.aaload, 1) ∧ decode cMod_ofCursorNow 22 = .ok (.arraylength, 1) ∧ decode cMod_ofCursorNow 23 = .ok (.istore_n 3, 1) ∧ decode cMod_ofCursorNow 24 = .ok (.aload_n 0, 1) ∧ decode cMod_ofCursorNow 25 = .ok (.getfield 18, 3) ∧ decode cMod_ofCursorNow 28 = .ok (.iload_n 1, 1) ∧ decode cMod_ofCursorNow 29 = .ok (.baload, 1) ∧ decode cMod_ofCursorNow 30 = .ok (.ifCond .eq 27, 3) ∧ decode cMod_ofCursorNow 33 = .ok (.iload_n 2, 1) ∧ decode cMod_ofCursorNow 34 = .ok (.ifCond .ne 12, 3) ∧ decode cMod_ofCursorNow 37 = .ok (.aload_n 0, 1) ∧ decode cMod_ofCursorNow 38 = .ok (.getfield 21, 3) ∧ decode cMod_ofCursorNow 41 = .ok (.iload_n 1, 1) ∧ decode cMod_ofCursorNow 42 = .ok (.iaload, 1) ∧ decode cMod_ofCursorNow 43 = .ok (.goto 13, 3) ∧ decode cMod_ofCursorNow 46 = .ok (.iload_n 2, 1) ∧ decode cMod_ofCursorNow 47 = .ok (.iconst 5, 1) ∧ decode cMod_ofCursorNow 48 = .ok (.if_icmp .ne 7, 3) ∧ decode cMod_ofCursorNow 51 = .ok (.iconst 1, 1) ∧ True := Jvm.Free.DS.facts (code := cMod_ofCursorNow) 0 [(.aload_n 0, 1), (.getfield 14, 3), (.iload_n 1, 1), (.baload, 1), (.ifCond .ne 5, 3), (.iconst (-1), 1), (.ireturn, 1), (.aload_n 0, 1), (.getfield 11, 3), (.aload_n 0, 1), (.getfield 21, 3), (.iload_n 1, 1), (.iaload, 1), (.aaload, 1), (.arraylength, 1), (.istore_n 3, 1), (.aload_n 0, 1), (.getfield 18, 3), (.iload_n 1, 1), (.baload, 1), (.ifCond .eq 27, 3), (.iload_n 2, 1), (.ifCond .ne 12, 3), (.aload_n 0, 1), (.getfield 21, 3), (.iload_n 1, 1), (.iaload, 1), (.goto 13, 3), (.iload_n 2, 1), (.iconst 5, 1), (.if_icmp .ne 7, 3), (.iconst 1, 1)] (by decide +kernel) (by decide +kernel)
theorem dMod_ofCursorNow_0 : decode cMod_ofCursorNow 0 = .ok (.aload_n 0, 1) := zfMod_ofCursorNow_0.1
theorem dMod_ofCursorNow_1 : decode cMod_ofCursorNow 1 = .ok (.getfield 14, 3) := zfMod_ofCursorNow_0.2.1
theorem dMod_ofCursorNow_4 : decode cMod_ofCursorNow 4 = .ok (.iload_n 1, 1) := zfMod_ofCursorNow_0.2.2.1
theorem dMod_ofCursorNow_5 : decode cMod_ofCursorNow 5 = .ok (.baload, 1) := zfMod_ofCursorNow_0.2.2.2.1
theorem dMod_ofCursorNow_6 : decode cMod_ofCursorNow 6 = .ok (.ifCond .ne 5, 3) := zfMod_ofCursorNow_0.2.2.2.2.1
theorem dMod_ofCursorNow_9 : decode cMod_ofCursorNow 9 = .ok (.iconst (-1), 1) := zfMod_ofCursorNow_0.2.2.2.2.2.1
theorem dMod_ofCursorNow_10 : decode cMod_ofCursorNow 10 = .ok (.ireturn, 1) := zfMod_ofCursorNow_0.2.2.2.2.2.2.1
theorem dMod_ofCursorNow_11 : decode cMod_ofCursorNow 11 = .ok (.aload_n 0, 1) := zfMod_ofCursorNow_0.2.2.2.2.2.2.2.1
theorem dMod_ofCursorNow_12 : decode cMod_ofCursorNow 12 = .ok (.getfield 11, 3) := zfMod_ofCursorNow_0.2.2.2.2.2.2.2.2.1
theorem dMod_ofCursorNow_15 : decode cMod_ofCursorNow 15 = .ok (.aload_n 0, 1) := zfMod_ofCursorNow_0.2.2.2.2.2.2.2.2.2.1
theorem dMod_ofCursorNow_16 : decode cMod_ofCursorNow 16 = .ok (.getfield 21, 3) := zfMod_ofCursorNow_0.2.2.2.2.2.2.2.2.2.2.1
theorem dMod_ofCursorNow_19 : decode cMod_ofCursorNow 19 = .ok (.iload_n 1, 1) := zfMod_ofCursorNow_0.2.2.2.2.2.2.2.2.2.2.2.1
theorem dMod_ofCursorNow_20 : decode cMod_ofCursorNow 20 = .ok (.iaload, 1) := zfMod_ofCursorNow_0.2.2.2.2.2.2.2.2.2.2.2.2.1
theorem dMod_ofCursorNow_21 : decode cMod_ofCursorNow 21 = .ok (.aaload, 1) := zfMod_ofCursorNow_0.2.2.2.2.2.2.2.2.2.2.2.2.2.1
theorem dMod_ofCursorNow_22 : decode cMod_ofCursorNow 22 = .ok (.arraylength, 1) := zfMod_ofCursorNow_0.2.2.2.2.2.2.2.2.2.2.2.2.2.2.1
theorem dMod_ofCursorNow_23 : decode cMod_ofCursorNow 23 = .ok (.istore_n 3, 1) := zfMod_ofCursorNow_0.2.2.2.2.2.2.2.2.2.2.2.2.2.2.2.1
theorem dMod_ofCursorNow_24 : decode cMod_ofCursorNow 24 = .ok (.aload_n 0, 1) := zfMod_ofCursorNow_0.2.2.2.2.2.2.2.2.2.2.2.2.2.2.2.2.1
theorem dMod_ofCursorNow_25 : decode cMod_ofCursorNow 25 = .ok (.getfield 18, 3) := zfMod_ofCursorNow_0.2.2.2.2.2.2.2.2.2.2.2.2.2.2.2.2.2.1
theorem dMod_ofCursorNow_28 : decode cMod_ofCursorNow 28 = .ok (.iload_n 1, 1) := zfMod_ofCursorNow_0.2.2.2.2.2.2.2.2.2.2.2.2.2.2.2.2.2.2.1
theorem dMod_ofCursorNow_29 : decode cMod_ofCursorNow 29 = .ok (.baload, 1) := zfMod_ofCursorNow_0.2.2.2.2.2.2.2.2.2.2.2.2.2.2.2.2.2.2.2.1
theorem dMod_ofCursorNow_30 : decode cMod_ofCursorNow 30 = .ok (.ifCond .eq 27, 3) := zfMod_ofCursorNow_0.2.2.2.2.2.2.2.2.2.2.2.2.2.2.2.2.2.2.2.2.1
theorem dMod_ofCursorNow_33 : decode cMod_ofCursorNow 33 = .ok (.iload_n 2, 1) := zfMod_ofCursorNow_0.2.2.2.2.2.2.2.2.2.2.2.2.2.2.2.2.2.2.2.2.2.1
theorem dMod_ofCursorNow_34 : decode cMod_ofCursorNow 34 = .ok (.ifCond .ne 12, 3) := zfMod_ofCursorNow_0.2.2.2.2.2.2.2.2.2.2.2.2.2.2.2.2.2.2.2.2.2.2.1
theorem dMod_ofCursorNow_37 : decode cMod_ofCursorNow 37 = .ok (.aload_n 0, 1) := zfMod_ofCursorNow_0.2.2.2.2.2.2.2.2.2.2.2.2.2.2.2.2.2.2.2.2.2.2.2.1
theorem dMod_ofCursorNow_38 : decode cMod_ofCursorNow 38 = .ok (.getfield 21, 3) := zfMod_ofCursorNow_0.2.2.2.2.2.2.2.2.2.2.2.2.2.2.2.2.2.2.2.2.2.2.2.2.1
theorem dMod_ofCursorNow_41 : decode cMod_ofCursorNow 41 = .ok (.iload_n 1, 1) := zfMod_ofCursorNow_0.2.2.2.2.2.2.2.2.2.2.2.2.2.2.2.2.2.2.2.2.2.2.2.2.2.1
theorem dMod_ofCursorNow_42 : decode cMod_ofCursorNow 42 = .ok (.iaload, 1) := zfMod_ofCursorNow_0.2.2.2.2.2.2.2.2.2.2.2.2.2.2.2.2.2.2.2.2.2.2.2.2.2.2.1
theorem dMod_ofCursorNow_43 : decode cMod_ofCursorNow 43 = .ok (.goto 13, 3) := zfMod_ofCursorNow_0.2.2.2.2.2.2.2.2.2.2.2.2.2.2.2.2.2.2.2.2.2.2.2.2.2.2.2.1
theorem dMod_ofCursorNow_46 : decode cMod_ofCursorNow 46 = .ok (.iload_n 2, 1) := zfMod_ofCursorNow_0.2.2.2.2.2.2.2.2.2.2.2.2.2.2.2.2.2.2.2.2.2.2.2.2.2.2.2.2.1
theorem dMod_ofCursorNow_47 : decode cMod_ofCursorNow 47 = .ok (.iconst 5, 1) := zfMod_ofCursorNow_0.2.2.2.2.2.2.2.2.2.2.2.2.2.2.2.2.2.2.2.2.2.2.2.2.2.2.2.2.2.1
theorem dMod_ofCursorNow_48 : decode cMod_ofCursorNow 48 = .ok (.if_icmp .ne 7, 3) := zfMod_ofCursorNow_0.2.2.2.2.2.2.2.2.2.2.2.2.2.2.2.2.2.2.2.2.2.2.2.2.2.2.2.2.2.2.1
theorem dMod_ofCursorNow_51 : decode cMod_ofCursorNow 51 = .ok (.iconst 1, 1) := zfMod_ofCursorNow_0.2.2.2.2.2.2.2.2.2.2.2.2.2.2.2.2.2.2.2.2.2.2.2.2.2.2.2.2.2.2.2.1
theorem zfMod_ofCursorNow_52 : decode cMod_ofCursorNow 52 = .ok (.goto 4, 3) ∧ decode cMod_ofCursorNow 55 = .ok (.iconst (-1), 1) ∧ decode cMod_ofCursorNow 56 = .ok (.ireturn, 1) ∧ decode cMod_ofCursorNow 57 = .ok (.bipush 6, 2) ∧ decode cMod_ofCursorNow 59 = .ok (.newarray .int, 2) ∧ decode cMod_ofCursorNow 61 = .ok (.dup, 1) ∧ decode cMod_ofCursorNow 62 = .ok (.iconst 0, 1) ∧ decode cMod_ofCursorNow 63 = .ok (.aload_n 0, 1) ∧ decode cMod_ofCursorNow 64 = .ok (.getfield 21, 3) ∧ decode cMod_ofCursorNow 67 = .ok (.iload_n 1, 1) ∧ decode cMod_ofCursorNow 68 = .ok (.iaload, 1) ∧ decode cMod_ofCursorNow 69 = .ok (.iastore, 1) ∧ decode cMod_ofCursorNow 70 = .ok (.dup, 1) ∧ decode cMod_ofCursorNow 71 = .ok (.iconst 1, 1) ∧ decode cMod_ofCursorNow 72 = .ok (.aload_n 0, 1) ∧ decode cMod_ofCursorNow 73 = .ok (.getfield 25, 3) ∧ decode cMod_ofCursorNow 76 = .ok (.iload_n 1, 1) ∧ decode cMod_ofCursorNow 77 = .ok (.iaload, 1) ∧ decode cMod_ofCursorNow 78 = .ok (.iastore, 1) ∧ decode cMod_ofCursorNow 79 = .ok (.dup, 1) ∧ decode cMod_ofCursorNow 80 = .ok (.iconst 2, 1) ∧ decode cMod_ofCursorNow 81 = .ok (.aload_n 0, 1) ∧ decode cMod_ofCursorNow 82 = .ok (.getfield 25, 3) ∧ decode cMod_ofCursorNow 85 = .ok (.iload_n 1, 1) ∧ decode cMod_ofCursorNow 86 = .ok (.iaload, 1) ∧ decode cMod_ofCursorNow 87 = .ok (.iconst 1, 1) ∧ decode cMod_ofCursorNow 88 = .ok (.isub, 1) ∧ decode cMod_ofCursorNow 89 = .ok (.iastore, 1) ∧ decode cMod_ofCursorNow 90 = .ok (.dup, 1) ∧ decode cMod_ofCursorNow 91 = .ok (.iconst 3, 1) ∧ decode cMod_ofCursorNow 92 = .ok (.aload_n 0, 1) ∧ decode cMod_ofCursorNow 93 = .ok (.getfield 25, 3) ∧ True := Jvm.Free.DS.facts (code := cMod_ofCursorNow) 52 [(.goto 4, 3), (.iconst (-1), 1), (.ireturn, 1), (.bipush 6, 2), (.newarray .int, 2), (.dup, 1), (.iconst 0, 1), (.aload_n 0, 1), (.getfield 21, 3), (.iload_n 1, 1), (.iaload, 1), (.iastore, 1), (.dup, 1), (.iconst 1, 1), (.aload_n 0, 1), (.getfield 25, 3), (.iload_n 1, 1), (.iaload, 1), (.iastore, 1), (.dup, 1), (.iconst 2, 1), (.aload_n 0, 1), (.getfield 25, 3), (.iload_n 1, 1), (.iaload, 1), (.iconst 1, 1), (.isub, 1), (.iastore, 1), (.dup, 1), (.iconst 3, 1), (.aload_n 0, 1), (.getfield 25, 3)] (by decide +kernel) (by decide +kernel)
theorem dMod_ofCursorNow_52 : decode cMod_ofCursorNow 52 = .ok (.goto 4, 3) := zfMod_ofCursorNow_52.1
theorem dMod_ofCursorNow_55 : decode cMod_ofCursorNow 55 = .ok (.iconst (-1), 1) := zfMod_ofCursorNow_52.2.1
theorem dMod_ofCursorNow_56 : decode cMod_ofCursorNow 56 = .ok (.ireturn, 1) := zfMod_ofCursorNow_52.2.2.1
theorem dMod_ofCursorNow_57 : decode cMod_ofCursorNow 57 = .ok (.bipush 6, 2) := zfMod_ofCursorNow_52.2.2.2.1
theorem dMod_ofCursorNow_59 : decode cMod_ofCursorNow 59 = .ok (.newarray .int, 2) := zfMod_ofCursorNow_52.2.2.2.2.1
theorem dMod_ofCursorNow_61 : decode cMod_ofCursorNow 61 = .ok (.dup, 1) := zfMod_ofCursorNow_52.2.2.2.2.2.1
theorem dMod_ofCursorNow_62 : decode cMod_ofCursorNow 62 = .ok (.iconst 0, 1) := zfMod_ofCursorNow_52.2.2.2.2.2.2.1
theorem dMod_ofCursorNow_63 : decode cMod_ofCursorNow 63 = .ok (.aload_n 0, 1) := zfMod_ofCursorNow_52.2.2.2.2.2.2.2.1
theorem dMod_ofCursorNow_64 : decode cMod_ofCursorNow 64 = .ok (.getfield 21, 3) := zfMod_ofCursorNow_52.2.2.2.2.2.2.2.2.1
theorem dMod_ofCursorNow_67 : decode cMod_ofCursorNow 67 = .ok (.iload_n 1, 1) := zfMod_ofCursorNow_52.2.2.2.2.2.2.2.2.2.1
theorem dMod_ofCursorNow_68 : decode cMod_ofCursorNow 68 = .ok (.iaload, 1) := zfMod_ofCursorNow_52.2.2.2.2.2.2.2.2.2.2.1
theorem dMod_ofCursorNow_69 : decode cMod_ofCursorNow 69 = .ok (.iastore, 1) := zfMod_ofCursorNow_52.2.2.2.2.2.2.2.2.2.2.2.1
theorem dMod_ofCursorNow_70 : decode cMod_ofCursorNow 70 = .ok (.dup, 1) := zfMod_ofCursorNow_52.2.2.2.2.2.2.2.2.2.2.2.2.1
theorem dMod_ofCursorNow_71 : decode cMod_ofCursorNow 71 = .ok (.iconst 1, 1) := zfMod_ofCursorNow_52.2.2.2.2.2.2.2.2.2.2.2.2.2.1
theorem dMod_ofCursorNow_72 : decode cMod_ofCursorNow 72 = .ok (.aload_n 0, 1) := zfMod_ofCursorNow_52.2.2.2.2.2.2.2.2.2.2.2.2.2.2.1
theorem dMod_ofCursorNow_73 : decode cMod_ofCursorNow 73 = .ok (.getfield 25, 3) := zfMod_ofCursorNow_52.2.2.2.2.2.2.2.2.2.2.2.2.2.2.2.1
theorem dMod_ofCursorNow_76 : decode cMod_ofCursorNow 76 = .ok (.iload_n 1, 1) := zfMod_ofCursorNow_52.2.2.2.2.2.2.2.2.2.2.2.2.2.2.2.2.1
theorem dMod_ofCursorNow_77 : decode cMod_ofCursorNow 77 = .ok (.iaload, 1) := zfMod_ofCursorNow_52.2.2.2.2.2.2.2.2.2.2.2.2.2.2.2.2.2.1
theorem dMod_ofCursorNow_78 : decode cMod_ofCursorNow 78 = .ok (.iastore, 1) := zfMod_ofCursorNow_52.2.2.2.2.2.2.2.2.2.2.2.2.2.2.2.2.2.2.1
theorem dMod_ofCursorNow_79 : decode cMod_ofCursorNow 79 = .ok (.dup, 1) := zfMod_ofCursorNow_52.2.2.2.2.2.2.2.2.2.2.2.2.2.2.2.2.2.2.2.1
theorem dMod_ofCursorNow_80 : decode cMod_ofCursorNow 80 = .ok (.iconst 2, 1) := zfMod_ofCursorNow_52.2.2.2.2.2.2.2.2.2.2.2.2.2.2.2.2.2.2.2.2.1
theorem dMod_ofCursorNow_81 : decode cMod_ofCursorNow 81 = .ok (.aload_n 0, 1) := zfMod_ofCursorNow_52.2.2.2.2.2.2.2.2.2.2.2.2.2.2.2.2.2.2.2.2.2.1
theorem dMod_ofCursorNow_82 : decode cMod_ofCursorNow 82 = .ok (.getfield 25, 3) := zfMod_ofCursorNow_52.2.2.2.2.2.2.2.2.2.2.2.2.2.2.2.2.2.2.2.2.2.2.1
theorem dMod_ofCursorNow_85 : decode cMod_ofCursorNow 85 = .ok (.iload_n 1, 1) := zfMod_ofCursorNow_52.2.2.2.2.2.2.2.2.2.2.2.2.2.2.2.2.2.2.2.2.2.2.2.1
theorem dMod_ofCursorNow_86 : decode cMod_ofCursorNow 86 = .ok (.iaload, 1) := zfMod_ofCursorNow_52.2.2.2.2.2.2.2.2.2.2.2.2.2.2.2.2.2.2.2.2.2.2.2.2.1
theorem dMod_ofCursorNow_87 : decode cMod_ofCursorNow 87 = .ok (.iconst 1, 1) := zfMod_ofCursorNow_52.2.2.2.2.2.2.2.2.2.2.2.2.2.2.2.2.2.2.2.2.2.2.2.2.2.1
theorem dMod_ofCursorNow_88 : decode cMod_ofCursorNow 88 = .ok (.isub, 1) := zfMod_ofCursorNow_52.2.2.2.2.2.2.2.2.2.2.2.2.2.2.2.2.2.2.2.2.2.2.2.2.2.2.1
theorem dMod_ofCursorNow_89 : decode cMod_ofCursorNow 89 = .ok (.iastore, 1) := zfMod_ofCursorNow_52.2.2.2.2.2.2.2.2.2.2.2.2.2.2.2.2.2.2.2.2.2.2.2.2.2.2.2.1
theorem dMod_ofCursorNow_90 : decode cMod_ofCursorNow 90 = .ok (.dup, 1) := zfMod_ofCursorNow_52.2.2.2.2.2.2.2.2.2.2.2.2.2.2.2.2.2.2.2.2.2.2.2.2.2.2.2.2.1
theorem dMod_ofCursorNow_91 : decode cMod_ofCursorNow 91 = .ok (.iconst 3, 1) := zfMod_ofCursorNow_52.2.2.2.2.2.2.2.2.2.2.2.2.2.2.2.2.2.2.2.2.2.2.2.2.2.2.2.2.2.1
theorem dMod_ofCursorNow_92 : decode cMod_ofCursorNow 92 = .ok (.aload_n 0, 1) := zfMod_ofCursorNow_52.2.2.2.2.2.2.2.2.2.2.2.2.2.2.2.2.2.2.2.2.2.2.2.2.2.2.2.2.2.2.1
theorem dMod_ofCursorNow_93 : decode cMod_ofCursorNow 93 = .ok (.getfield 25, 3) := zfMod_ofCursorNow_52.2.2.2.2.2.2.2.2.2.2.2.2.2.2.2.2.2.2.2.2.2.2.2.2.2.2.2.2.2.2.2.1
theorem zfMod_ofCursorNow_96 : decode cMod_ofCursorNow 96 = .ok (.iload_n 1, 1) ∧ decode cMod_ofCursorNow 97 = .ok (.iaload, 1) ∧ decode cMod_ofCursorNow 98 = .ok (.iload_n 3, 1) ∧ decode cMod_ofCursorNow 99 = .ok (.if_icmp .ge 7, 3) ∧ decode cMod_ofCursorNow 102 = .ok (.iconst 1, 1) ∧ decode cMod_ofCursorNow 103 = .ok (.goto 4, 3) ∧ decode cMod_ofCursorNow 106 = .ok (.iconst 0, 1) ∧ decode cMod_ofCursorNow 107 = .ok (.iastore, 1) ∧ decode cMod_ofCursorNow 108 = .ok (.dup, 1) ∧ decode cMod_ofCursorNow 109 = .ok (.iconst 4, 1) ∧ decode cMod_ofCursorNow 110 = .ok (.aload_n 0, 1) ∧ decode cMod_ofCursorNow 111 = .ok (.getfield 25, 3) ∧ decode cMod_ofCursorNow 114 = .ok (.iload_n 1, 1) ∧ decode cMod_ofCursorNow 115 = .ok (.iaload, 1) ∧ decode cMod_ofCursorNow 116 = .ok (.ifCond .le 7, 3) ∧ decode cMod_ofCursorNow 119 = .ok (.iconst 1, 1) ∧ decode cMod_ofCursorNow 120 = .ok (.goto 4, 3) ∧ decode cMod_ofCursorNow 123 = .ok (.iconst 0, 1) ∧ decode cMod_ofCursorNow 124 = .ok (.iastore, 1) ∧ decode cMod_ofCursorNow 125 = .ok (.dup, 1) ∧ decode cMod_ofCursorNow 126 = .ok (.iconst 5, 1) ∧ decode cMod_ofCursorNow 127 = .ok (.iconst 0, 1) ∧ decode cMod_ofCursorNow 128 = .ok (.iastore, 1) ∧ decode cMod_ofCursorNow 129 = .ok (.astore 4, 2) ∧ decode cMod_ofCursorNow 131 = .ok (.aload 4, 2) ∧ decode cMod_ofCursorNow 133 = .ok (.iload_n 2, 1) ∧ decode cMod_ofCursorNow 134 = .ok (.iaload, 1) ∧ decode cMod_ofCursorNow 135 = .ok (.ireturn, 1) ∧ True := Jvm.Free.DS.facts (code := cMod_ofCursorNow) 96 [(.iload_n 1, 1), (.iaload, 1), (.iload_n 3, 1), (.if_icmp .ge 7, 3), (.iconst 1, 1), (.goto 4, 3), (.iconst 0, 1), (.iastore, 1), (.dup, 1), (.iconst 4, 1), (.aload_n 0, 1), (.getfield 25, 3), (.iload_n 1, 1), (.iaload, 1), (.ifCond .le 7, 3), (.iconst 1, 1), (.goto 4, 3), (.iconst 0, 1), (.iastore, 1), (.dup, 1), (.iconst 5, 1), (.iconst 0, 1), (.iastore, 1), (.astore 4, 2), (.aload 4, 2), (.iload_n 2, 1), (.iaload, 1), (.ireturn, 1)] (by decide +kernel) (by decide +kernel)
theorem dMod_ofCursorNow_96 : decode cMod_ofCursorNow 96 = .ok (.iload_n 1, 1) := zfMod_ofCursorNow_96.1
theorem dMod_ofCursorNow_97 : decode cMod_ofCursorNow 97 = .ok (.iaload, 1) := zfMod_ofCursorNow_96.2.1
theorem dMod_ofCursorNow_98 : decode cMod_ofCursorNow 98 = .ok (.iload_n 3, 1) := zfMod_ofCursorNow_96.2.2.1
theorem dMod_ofCursorNow_99 : decode cMod_ofCursorNow 99 = .ok (.if_icmp .ge 7, 3) := zfMod_ofCursorNow_96.2.2.2.1
theorem dMod_ofCursorNow_102 : decode cMod_ofCursorNow 102 = .ok (.iconst 1, 1) := zfMod_ofCursorNow_96.2.2.2.2.1
theorem dMod_ofCursorNow_103 : decode cMod_ofCursorNow 103 = .ok (.goto 4, 3) := zfMod_ofCursorNow_96.2.2.2.2.2.1
theorem dMod_ofCursorNow_106 : decode cMod_ofCursorNow 106 = .ok (.iconst 0, 1) := zfMod_ofCursorNow_96.2.2.2.2.2.2.1
theorem dMod_ofCursorNow_107 : decode cMod_ofCursorNow 107 = .ok (.iastore, 1) := zfMod_ofCursorNow_96.2.2.2.2.2.2.2.1
theorem dMod_ofCursorNow_108 : decode cMod_ofCursorNow 108 = .ok (.dup, 1) := zfMod_ofCursorNow_96.2.2.2.2.2.2.2.2.1
theorem dMod_ofCursorNow_109 : decode cMod_ofCursorNow 109 = .ok (.iconst 4, 1) := zfMod_ofCursorNow_96.2.2.2.2.2.2.2.2.2.1
theorem dMod_ofCursorNow_110 : decode cMod_ofCursorNow 110 = .ok (.aload_n 0, 1) := zfMod_ofCursorNow_96.2.2.2.2.2.2.2.2.2.2.1
theorem dMod_ofCursorNow_111 : decode cMod_ofCursorNow 111 = .ok (.getfield 25, 3) := zfMod_ofCursorNow_96.2.2.2.2.2.2.2.2.2.2.2.1
theorem dMod_ofCursorNow_114 : decode cMod_ofCursorNow 114 = .ok (.iload_n 1, 1) := zfMod_ofCursorNow_96.2.2.2.2.2.2.2.2.2.2.2.2.1
theorem dMod_ofCursorNow_115 : decode cMod_ofCursorNow 115 = .ok (.iaload, 1) := zfMod_ofCursorNow_96.2.2.2.2.2.2.2.2.2.2.2.2.2.1
theorem dMod_ofCursorNow_116 : decode cMod_ofCursorNow 116 = .ok (.ifCond .le 7, 3) := zfMod_ofCursorNow_96.2.2.2.2.2.2.2.2.2.2.2.2.2.2.1
theorem dMod_ofCursorNow_119 : decode cMod_ofCursorNow 119 = .ok (.iconst 1, 1) := zfMod_ofCursorNow_96.2.2.2.2.2.2.2.2.2.2.2.2.2.2.2.1
theorem dMod_ofCursorNow_120 : decode cMod_ofCursorNow 120 = .ok (.goto 4, 3) := zfMod_ofCursorNow_96.2.2.2.2.2.2.2.2.2.2.2.2.2.2.2.2.1
theorem dMod_ofCursorNow_123 : decode cMod_ofCursorNow 123 = .ok (.iconst 0, 1) := zfMod_ofCursorNow_96.2.2.2.2.2.2.2.2.2.2.2.2.2.2.2.2.2.1
theorem dMod_ofCursorNow_124 : decode cMod_ofCursorNow 124 = .ok (.iastore, 1) := zfMod_ofCursorNow_96.2.2.2.2.2.2.2.2.2.2.2.2.2.2.2.2.2.2.1
theorem dMod_ofCursorNow_125 : decode cMod_ofCursorNow 125 = .ok (.dup, 1) := zfMod_ofCursorNow_96.2.2.2.2.2.2.2.2.2.2.2.2.2.2.2.2.2.2.2.1
theorem dMod_ofCursorNow_126 : decode cMod_ofCursorNow 126 = .ok (.iconst 5, 1) := zfMod_ofCursorNow_96.2.2.2.2.2.2.2.2.2.2.2.2.2.2.2.2.2.2.2.2.1
theorem dMod_ofCursorNow_127 : decode cMod_ofCursorNow 127 = .ok (.iconst 0, 1) := zfMod_ofCursorNow_96.2.2.2.2.2.2.2.2.2.2.2.2.2.2.2.2.2.2.2.2.2.1
theorem dMod_ofCursorNow_128 : decode cMod_ofCursorNow 128 = .ok (.iastore, 1) := zfMod_ofCursorNow_96.2.2.2.2.2.2.2.2.2.2.2.2.2.2.2.2.2.2.2.2.2.2.1
theorem dMod_ofCursorNow_129 : decode cMod_ofCursorNow 129 = .ok (.astore 4, 2) := zfMod_ofCursorNow_96.2.2.2.2.2.2.2.2.2.2.2.2.2.2.2.2.2.2.2.2.2.2.2.1
theorem dMod_ofCursorNow_131 : decode cMod_ofCursorNow 131 = .ok (.aload 4, 2) := zfMod_ofCursorNow_96.2.2.2.2.2.2.2.2.2.2.2.2.2.2.2.2.2.2.2.2.2.2.2.2.1
theorem dMod_ofCursorNow_133 : decode cMod_ofCursorNow 133 = .ok (.iload_n 2, 1) := zfMod_ofCursorNow_96.2.2.2.2.2.2.2.2.2.2.2.2.2.2.2.2.2.2.2.2.2.2.2.2.2.1
theorem dMod_ofCursorNow_134 : decode cMod_ofCursorNow 134 = .ok (.iaload, 1) := zfMod_ofCursorNow_96.2.2.2.2.2.2.2.2.2.2.2.2.2.2.2.2.2.2.2.2.2.2.2.2.2.2.1
theorem dMod_ofCursorNow_135 : decode cMod_ofCursorNow 135 = .ok (.ireturn, 1) := zfMod_ofCursorNow_96.2.2.2.2.2.2.2.2.2.2.2.2.2.2.2.2.2.2.2.2.2.2.2.2.2.2.2.1
theorem zfMod_ofCursor_0 : decode cMod_ofCursor 0 = .ok (.aload_n 0, 1) ∧ decode cMod_ofCursor 1 = .ok (.iload_n 1, 1) ∧ decode cMod_ofCursor 2 = .ok (.invokestatic 141, 3) ∧ decode cMod_ofCursor 5 = .ok (.iload_n 2, 1) ∧ decode cMod_ofCursor 6 = .ok (.iconst 0, 1) ∧ decode cMod_ofCursor 7 = .ok (.iconst 5, 1) ∧ decode cMod_ofCursor 8 = .ok (.invokestatic 41, 3) ∧ decode cMod_ofCursor 11 = .ok (.iconst 0, 1) ∧ decode cMod_ofCursor 12 = .ok (.invokevirtual 88, 3) ∧ decode cMod_ofCursor 15 = .ok (.ifCond .eq 7, 3) ∧ decode cMod_ofCursor 18 = .ok (.iconst 0, 1) ∧ decode cMod_ofCursor 19 = .ok (.goto 9, 3) ∧ decode cMod_ofCursor 22 = .ok (.aload_n 0, 1) ∧ decode cMod_ofCursor 23 = .ok (.iload_n 1, 1) ∧ decode cMod_ofCursor 24 = .ok (.iload_n 2, 1) ∧ decode cMod_ofCursor 25 = .ok (.invokevirtual 154, 3) ∧ decode cMod_ofCursor 28 = .ok (.ireturn, 1) ∧ True := Jvm.Free.DS.facts (code := cMod_ofCursor) 0 [(.aload_n 0, 1), (.iload_n 1, 1), (.invokestatic 141, 3), (.iload_n 2, 1), (.iconst 0, 1), (.iconst 5, 1), (.invokestatic 41, 3), (.iconst 0, 1), (.invokevirtual 88, 3), (.ifCond .eq 7, 3), (.iconst 0, 1), (.goto 9, 3), (.aload_n 0, 1), (.iload_n 1, 1), (.iload_n 2, 1), (.invokevirtual 154, 3), (.ireturn, 1)] (by decide +kernel) (by decide +kernel)
theorem dMod_ofCursor_0 : decode cMod_ofCursor 0 = .ok (.aload_n 0, 1) := zfMod_ofCursor_0.1
theorem dMod_ofCursor_1 : decode cMod_ofCursor 1 = .ok (.iload_n 1, 1) := zfMod_ofCursor_0.2.1
theorem dMod_ofCursor_2 : decode cMod_ofCursor 2 = .ok (.invokestatic 141, 3) := zfMod_ofCursor_0.2.2.1
theorem dMod_ofCursor_5 : decode cMod_ofCursor 5 = .ok (.iload_n 2, 1) := zfMod_ofCursor_0.2.2.2.1
theorem dMod_ofCursor_6 : decode cMod_ofCursor 6 = .ok (.iconst 0, 1) := zfMod_ofCursor_0.2.2.2.2.1
theorem dMod_ofCursor_7 : decode cMod_ofCursor 7 = .ok (.iconst 5, 1) := zfMod_ofCursor_0.2.2.2.2.2.1
theorem dMod_ofCursor_8 : decode cMod_ofCursor 8 = .ok (.invokestatic 41, 3) := zfMod_ofCursor_0.2.2.2.2.2.2.1
theorem dMod_ofCursor_11 : decode cMod_ofCursor 11 = .ok (.iconst 0, 1) := zfMod_ofCursor_0.2.2.2.2.2.2.2.1
theorem dMod_ofCursor_12 : decode cMod_ofCursor 12 = .ok (.invokevirtual 88, 3) := zfMod_ofCursor_0.2.2.2.2.2.2.2.2.1
theorem dMod_ofCursor_15 : decode cMod_ofCursor 15 = .ok (.ifCond .eq 7, 3) := zfMod_ofCursor_0.2.2.2.2.2.2.2.2.2.1
theorem dMod_ofCursor_18 : decode cMod_ofCursor 18 = .ok (.iconst 0, 1) := zfMod_ofCursor_0.2.2.2.2.2.2.2.2.2.2.1
theorem dMod_ofCursor_19 : decode cMod_ofCursor 19 = .ok (.goto 9, 3) := zfMod_ofCursor_0.2.2.2.2.2.2.2.2.2.2.2.1
theorem dMod_ofCursor_22 : decode cMod_ofCursor 22 = .ok (.aload_n 0, 1) := zfMod_ofCursor_0.2.2.2.2.2.2.2.2.2.2.2.2.1
theorem dMod_ofCursor_23 : decode cMod_ofCursor 23 = .ok (.iload_n 1, 1) := zfMod_ofCursor_0.2.2.2.2.2.2.2.2.2.2.2.2.2.1
theorem dMod_ofCursor_24 : decode cMod_ofCursor 24 = .ok (.iload_n 2, 1) := zfMod_ofCursor_0.2.2.2.2.2.2.2.2.2.2.2.2.2.2.1
theorem dMod_ofCursor_25 : decode cMod_ofCursor 25 = .ok (.invokevirtual 154, 3) := zfMod_ofCursor_0.2.2.2.2.2.2.2.2.2.2.2.2.2.2.2.1
theorem dMod_ofCursor_28 : decode cMod_ofCursor 28 = .ok (.ireturn, 1) := zfMod_ofCursor_0.2.2.2.2.2.2.2.2.2.2.2.2.2.2.2.2.1
theorem zfMod_fitting_0 : decode cMod_fitting 0 = .ok (.aload_n 0, 1) ∧ decode cMod_fitting 1 = .ok (.arraylength, 1) ∧ decode cMod_fitting 2 = .ok (.bipush 16, 2) ∧ decode cMod_fitting 4 = .ok (.if_icmp .le 5, 3) ∧ decode cMod_fitting 7 = .ok (.aconst_null, 1) ∧ decode cMod_fitting 8 = .ok (.areturn, 1) ∧ decode cMod_fitting 9 = .ok (.aload_n 0, 1) ∧ decode cMod_fitting 10 = .ok (.arraylength, 1) ∧ decode cMod_fitting 11 = .ok (.newarray .int, 2) ∧ decode cMod_fitting 13 = .ok (.astore_n 1, 1) ∧ decode cMod_fitting 14 = .ok (.iconst 0, 1) ∧ decode cMod_fitting 15 = .ok (.istore_n 2, 1) ∧ decode cMod_fitting 16 = .ok (.iload_n 2, 1) ∧ decode cMod_fitting 17 = .ok (.aload_n 1, 1) ∧ decode cMod_fitting 18 = .ok (.arraylength, 1) ∧ decode cMod_fitting 19 = .ok (.if_icmp .ge 38, 3) ∧ decode cMod_fitting 22 = .ok (.aload_n 0, 1) ∧ decode cMod_fitting 23 = .ok (.iload_n 2, 1) ∧ decode cMod_fitting 24 = .ok (.laload, 1) ∧ decode cMod_fitting 25 = .ok (.ldc2_w 158, 3) ∧ decode cMod_fitting 28 = .ok (.lcmp, 1) ∧ decode cMod_fitting 29 = .ok (.ifCond .lt 13, 3) ∧ decode cMod_fitting 32 = .ok (.aload_n 0, 1) ∧ decode cMod_fitting 33 = .ok (.iload_n 2, 1) ∧ decode cMod_fitting 34 = .ok (.laload, 1) ∧ decode cMod_fitting 35 = .ok (.ldc2_w 160, 3) ∧ decode cMod_fitting 38 = .ok (.lcmp, 1) ∧ decode cMod_fitting 39 = .ok (.ifCond .le 5, 3) ∧ decode cMod_fitting 42 = .ok (.aconst_null, 1) ∧ decode cMod_fitting 43 = .ok (.areturn, 1) ∧ decode cMod_fitting 44 = .ok (.aload_n 1, 1) ∧ decode cMod_fitting 45 = .ok (.iload_n 2, 1) ∧ True := Jvm.Free.DS.facts (code := cMod_fitting) 0 [(.aload_n 0, 1), (.arraylength, 1), (.bipush 16, 2), (.if_icmp .le 5, 3), (.aconst_null, 1), (.areturn, 1), (.aload_n 0, 1), (.arraylength, 1), (.newarray .int, 2), (.astore_n 1, 1), (.iconst 0, 1), (.istore_n 2, 1), (.iload_n 2, 1), (.aload_n 1, 1), (.arraylength, 1), (.if_icmp .ge 38, 3), (.aload_n 0, 1), (.iload_n 2, 1), (.laload, 1), (.ldc2_w 158, 3), (.lcmp, 1), (.ifCond .lt 13, 3), (.aload_n 0, 1), (.iload_n 2, 1), (.laload, 1), (.ldc2_w 160, 3), (.lcmp, 1), (.ifCond .le 5, 3), (.aconst_null, 1), (.areturn, 1), (.aload_n 1, 1), (.iload_n 2, 1)] (by decide +kernel) (by decide +kernel)
theorem dMod_fitting_0 : decode cMod_fitting 0 = .ok (.aload_n 0, 1) := zfMod_fitting_0.1
theorem dMod_fitting_1 : decode cMod_fitting 1 = .ok (.arraylength, 1) := zfMod_fitting_0.2.1
theorem dMod_fitting_2 : decode cMod_fitting 2 = .ok (.bipush 16, 2) := zfMod_fitting_0.2.2.1
theorem dMod_fitting_4 : decode cMod_fitting 4 = .ok (.if_icmp .le 5, 3) := zfMod_fitting_0.2.2.2.1
theorem dMod_fitting_7 : decode cMod_fitting 7 = .ok (.aconst_null, 1) := zfMod_fitting_0.2.2.2.2.1
theorem dMod_fitting_8 : decode cMod_fitting 8 = .ok (.areturn, 1) := zfMod_fitting_0.2.2.2.2.2.1
theorem dMod_fitting_9 : decode cMod_fitting 9 = .ok (.aload_n 0, 1) := zfMod_fitting_0.2.2.2.2.2.2.1
theorem dMod_fitting_10 : decode cMod_fitting 10 = .ok (.arraylength, 1) := zfMod_fitting_0.2.2.2.2.2.2.2.1
theorem dMod_fitting_11 : decode cMod_fitting 11 = .ok (.newarray .int, 2) := zfMod_fitting_0.2.2.2.2.2.2.2.2.1
theorem dMod_fitting_13 : decode cMod_fitting 13 = .ok (.astore_n 1, 1) := zfMod_fitting_0.2.2.2.2.2.2.2.2.2.1
theorem dMod_fitting_14 : decode cMod_fitting 14 = .ok (.iconst 0, 1) := zfMod_fitting_0.2.2.2.2.2.2.2.2.2.2.1
theorem dMod_fitting_15 : decode cMod_fitting 15 = .ok (.istore_n 2, 1) := zfMod_fitting_0.2.2.2.2.2.2.2.2.2.2.2.1
theorem dMod_fitting_16 : decode cMod_fitting 16 = .ok (.iload_n 2, 1) := zfMod_fitting_0.2.2.2.2.2.2.2.2.2.2.2.2.1
theorem dMod_fitting_17 : decode cMod_fitting 17 = .ok (.aload_n 1, 1) := zfMod_fitting_0.2.2.2.2.2.2.2.2.2.2.2.2.2.1
theorem dMod_fitting_18 : decode cMod_fitting 18 = .ok (.arraylength, 1) := zfMod_fitting_0.2.2.2.2.2.2.2.2.2.2.2.2.2.2.1
theorem dMod_fitting_19 : decode cMod_fitting 19 = .ok (.if_icmp .ge 38, 3) := zfMod_fitting_0.2.2.2.2.2.2.2.2.2.2.2.2.2.2.2.1
theorem dMod_fitting_22 : decode cMod_fitting 22 = .ok (.aload_n 0, 1) := zfMod_fitting_0.2.2.2.2.2.2.2.2.2.2.2.2.2.2.2.2.1
theorem dMod_fitting_23 : decode cMod_fitting 23 = .ok (.iload_n 2, 1) := zfMod_fitting_0.2.2.2.2.2.2.2.2.2.2.2.2.2.2.2.2.2.1
theorem dMod_fitting_24 : decode cMod_fitting 24 = .ok (.laload, 1) := zfMod_fitting_0.2.2.2.2.2.2.2.2.2.2.2.2.2.2.2.2.2.2.1
theorem dMod_fitting_25 : decode cMod_fitting 25 = .ok (.ldc2_w 158, 3) := zfMod_fitting_0.2.2.2.2.2.2.2.2.2.2.2.2.2.2.2.2.2.2.2.1
theorem dMod_fitting_28 : decode cMod_fitting 28 = .ok (.lcmp, 1) := zfMod_fitting_0.2.2.2.2.2.2.2.2.2.2.2.2.2.2.2.2.2.2.2.2.1
theorem dMod_fitting_29 : decode cMod_fitting 29 = .ok (.ifCond .lt 13, 3) := zfMod_fitting_0.2.2.2.2.2.2.2.2.2.2.2.2.2.2.2.2.2.2.2.2.2.1
theorem dMod_fitting_32 : decode cMod_fitting 32 = .ok (.aload_n 0, 1) := zfMod_fitting_0.2.2.2.2.2.2.2.2.2.2.2.2.2.2.2.2.2.2.2.2.2.2.1
theorem dMod_fitting_33 : decode cMod_fitting 33 = .ok (.iload_n 2, 1) := zfMod_fitting_0.2.2.2.2.2.2.2.2.2.2.2.2.2.2.2.2.2.2.2.2.2.2.2.1
theorem dMod_fitting_34 : decode cMod_fitting 34 = .ok (.laload, 1) := zfMod_fitting_0.2.2.2.2.2.2.2.2.2.2.2.2.2.2.2.2.2.2.2.2.2.2.2.2.1
theorem dMod_fitting_35 : decode cMod_fitting 35 = .ok (.ldc2_w 160, 3) := zfMod_fitting_0.2.2.2.2.2.2.2.2.2.2.2.2.2.2.2.2.2.2.2.2.2.2.2.2.2.1
theorem dMod_fitting_38 : decode cMod_fitting 38 = .ok (.lcmp, 1) := zfMod_fitting_0.2.2.2.2.2.2.2.2.2.2.2.2.2.2.2.2.2.2.2.2.2.2.2.2.2.2.1
theorem dMod_fitting_39 : decode cMod_fitting 39 = .ok (.ifCond .le 5, 3) := zfMod_fitting_0.2.2.2.2.2.2.2.2.2.2.2.2.2.2.2.2.2.2.2.2.2.2.2.2.2.2.2.1
theorem dMod_fitting_42 : decode cMod_fitting 42 = .ok (.aconst_null, 1) := zfMod_fitting_0.2.2.2.2.2.2.2.2.2.2.2.2.2.2.2.2.2.2.2.2.2.2.2.2.2.2.2.2.1
theorem dMod_fitting_43 : decode cMod_fitting 43 = .ok (.areturn, 1) := zfMod_fitting_0.2.2.2.2.2.2.2.2.2.2.2.2.2.2.2.2.2.2.2.2.2.2.2.2.2.2.2.2.2.1
theorem dMod_fitting_44 : decode cMod_fitting 44 = .ok (.aload_n 1, 1) := zfMod_fitting_0.2.2.2.2.2.2.2.2.2.2.2.2.2.2.2.2.2.2.2.2.2.2.2.2.2.2.2.2.2.2.1
theorem dMod_fitting_45 : decode cMod_fitting 45 = .ok (.iload_n 2, 1) := zfMod_fitting_0.2.2.2.2.2.2.2.2.2.2.2.2.2.2.2.2.2.2.2.2.2.2.2.2.2.2.2.2.2.2.2.1
theorem zfMod_fitting_46 : decode cMod_fitting 46 = .ok (.aload_n 0, 1) ∧ decode cMod_fitting 47 = .ok (.iload_n 2, 1) ∧ decode cMod_fitting 48 = .ok (.laload, 1) ∧ decode cMod_fitting 49 = .ok (.l2i, 1) ∧ decode cMod_fitting 50 = .ok (.iastore, 1) ∧ decode cMod_fitting 51 = .ok (.iinc 2 1, 3) ∧ decode cMod_fitting 54 = .ok (.goto (-38), 3) ∧ decode cMod_fitting 57 = .ok (.aload_n 1, 1) ∧ decode cMod_fitting 58 = .ok (.areturn, 1) ∧ True := Jvm.Free.DS.facts (code := cMod_fitting) 46 [(.aload_n 0, 1), (.iload_n 2, 1), (.laload, 1), (.l2i, 1), (.iastore, 1), (.iinc 2 1, 3), (.goto (-38), 3), (.aload_n 1, 1), (.areturn, 1)] (by decide +kernel) (by decide +kernel)
theorem dMod_fitting_46 : decode cMod_fitting 46 = .ok (.aload_n 0, 1) := zfMod_fitting_46.1
theorem dMod_fitting_47 : decode cMod_fitting 47 = .ok (.iload_n 2, 1) := zfMod_fitting_46.2.1
theorem dMod_fitting_48 : decode cMod_fitting 48 = .ok (.laload, 1) := zfMod_fitting_46.2.2.1
theorem dMod_fitting_49 : decode cMod_fitting 49 = .ok (.l2i, 1) := zfMod_fitting_46.2.2.2.1
theorem dMod_fitting_50 : decode cMod_fitting 50 = .ok (.iastore, 1) := zfMod_fitting_46.2.2.2.2.1
theorem dMod_fitting_51 : decode cMod_fitting 51 = .ok (.iinc 2 1, 3) := zfMod_fitting_46.2.2.2.2.2.1
theorem dMod_fitting_54 : decode cMod_fitting 54 = .ok (.goto (-38), 3) := zfMod_fitting_46.2.2.2.2.2.2.1
theorem dMod_fitting_57 : decode cMod_fitting 57 = .ok (.aload_n 1, 1) := zfMod_fitting_46.2.2.2.2.2.2.2.1
theorem dMod_fitting_58 : decode cMod_fitting 58 = .ok (.areturn, 1) := zfMod_fitting_46.2.2.2.2.2.2.2.2.1
theorem zfMod_fits_0 : decode cMod_fits 0 = .ok (.aload_n 2, 1) ∧ decode cMod_fits 1 = .ok (.invokestatic 162, 3) ∧ decode cMod_fits 4 = .ok (.astore_n 3, 1) ∧ decode cMod_fits 5 = .ok (.aload_n 3, 1) ∧ decode cMod_fits 6 = .ok (.ifnonnull 10, 3) ∧ decode cMod_fits 9 = .ok (.aload_n 0, 1) ∧ decode cMod_fits 10 = .ok (.invokevirtual 92, 3) ∧ decode cMod_fits 13 = .ok (.goto 9, 3) ∧ decode cMod_fits 16 = .ok (.aload_n 0, 1) ∧ decode cMod_fits 17 = .ok (.iload_n 1, 1) ∧ decode cMod_fits 18 = .ok (.aload_n 3, 1) ∧ decode cMod_fits 19 = .ok (.invokevirtual 95, 3) ∧ decode cMod_fits 22 = .ok (.ireturn, 1) ∧ True := Jvm.Free.DS.facts (code := cMod_fits) 0 [(.aload_n 2, 1), (.invokestatic 162, 3), (.astore_n 3, 1), (.aload_n 3, 1), (.ifnonnull 10, 3), (.aload_n 0, 1), (.invokevirtual 92, 3), (.goto 9, 3), (.aload_n 0, 1), (.iload_n 1, 1), (.aload_n 3, 1), (.invokevirtual 95, 3), (.ireturn, 1)] (by decide +kernel) (by decide +kernel)
theorem dMod_fits_0 : decode cMod_fits 0 = .ok (.aload_n 2, 1) := zfMod_fits_0.1
theorem dMod_fits_1 : decode cMod_fits 1 = .ok (.invokestatic 162, 3) := zfMod_fits_0.2.1
theorem dMod_fits_4 : decode cMod_fits 4 = .ok (.astore_n 3, 1) := zfMod_fits_0.2.2.1
theorem dMod_fits_5 : decode cMod_fits 5 = .ok (.aload_n 3, 1) := zfMod_fits_0.2.2.2.1
theorem dMod_fits_6 : decode cMod_fits 6 = .ok (.ifnonnull 10, 3) := zfMod_fits_0.2.2.2.2.1
theorem dMod_fits_9 : decode cMod_fits 9 = .ok (.aload_n 0, 1) := zfMod_fits_0.2.2.2.2.2.1
theorem dMod_fits_10 : decode cMod_fits 10 = .ok (.invokevirtual 92, 3) := zfMod_fits_0.2.2.2.2.2.2.1
theorem dMod_fits_13 : decode cMod_fits 13 = .ok (.goto 9, 3) := zfMod_fits_0.2.2.2.2.2.2.2.1
theorem dMod_fits_16 : decode cMod_fits 16 = .ok (.aload_n 0, 1) := zfMod_fits_0.2.2.2.2.2.2.2.2.1
theorem dMod_fits_17 : decode cMod_fits 17 = .ok (.iload_n 1, 1) := zfMod_fits_0.2.2.2.2.2.2.2.2.2.1
theorem dMod_fits_18 : decode cMod_fits 18 = .ok (.aload_n 3, 1) := zfMod_fits_0.2.2.2.2.2.2.2.2.2.2.1
theorem dMod_fits_19 : decode cMod_fits 19 = .ok (.invokevirtual 95, 3) := zfMod_fits_0.2.2.2.2.2.2.2.2.2.2.2.1
theorem dMod_fits_22 : decode cMod_fits 22 = .ok (.ireturn, 1) := zfMod_fits_0.2.2.2.2.2.2.2.2.2.2.2.2.1
theorem zfMod_plus_0 : decode cMod_plus 0 = .ok (.aload_n 0, 1) ∧ decode cMod_plus 1 = .ok (.iload_n 1, 1) ∧ decode cMod_plus 2 = .ok (.invokestatic 81, 3) ∧ decode cMod_plus 5 = .ok (.ifCond .ne 10, 3) ∧ decode cMod_plus 8 = .ok (.iload_n 2, 1) ∧ decode cMod_plus 9 = .ok (.invokestatic 81, 3) ∧ decode cMod_plus 12 = .ok (.ifCond .eq 7, 3) ∧ decode cMod_plus 15 = .ok (.iconst 1, 1) ∧ decode cMod_plus 16 = .ok (.goto 4, 3) ∧ decode cMod_plus 19 = .ok (.iconst 0, 1) ∧ decode cMod_plus 20 = .ok (.iconst 0, 1) ∧ decode cMod_plus 21 = .ok (.iconst 0, 1) ∧ decode cMod_plus 22 = .ok (.invokevirtual 88, 3) ∧ decode cMod_plus 25 = .ok (.ifCond .eq 5, 3) ∧ decode cMod_plus 28 = .ok (.iconst 0, 1) ∧ decode cMod_plus 29 = .ok (.ireturn, 1) ∧ decode cMod_plus 30 = .ok (.aload_n 0, 1) ∧ decode cMod_plus 31 = .ok (.getfield 11, 3) ∧ decode cMod_plus 34 = .ok (.iload_n 1, 1) ∧ decode cMod_plus 35 = .ok (.aaload, 1) ∧ decode cMod_plus 36 = .ok (.astore_n 3, 1) ∧ decode cMod_plus 37 = .ok (.aload_n 0, 1) ∧ decode cMod_plus 38 = .ok (.getfield 11, 3) ∧ decode cMod_plus 41 = .ok (.iload_n 2, 1) ∧ decode cMod_plus 42 = .ok (.aaload, 1) ∧ decode cMod_plus 43 = .ok (.astore 4, 2) ∧ decode cMod_plus 45 = .ok (.aload_n 3, 1) ∧ decode cMod_plus 46 = .ok (.arraylength, 1) ∧ decode cMod_plus 47 = .ok (.aload 4, 2) ∧ decode cMod_plus 49 = .ok (.arraylength, 1) ∧ decode cMod_plus 50 = .ok (.if_icmp .le 8, 3) ∧ decode cMod_plus 53 = .ok (.aload_n 3, 1) ∧ True := Jvm.Free.DS.facts (code := cMod_plus) 0 [(.aload_n 0, 1), (.iload_n 1, 1), (.invokestatic 81, 3), (.ifCond .ne 10, 3), (.iload_n 2, 1), (.invokestatic 81, 3), (.ifCond .eq 7, 3), (.iconst 1, 1), (.goto 4, 3), (.iconst 0, 1), (.iconst 0, 1), (.iconst 0, 1), (.invokevirtual 88, 3), (.ifCond .eq 5, 3), (.iconst 0, 1), (.ireturn, 1), (.aload_n 0, 1), (.getfield 11, 3), (.iload_n 1, 1), (.aaload, 1), (.astore_n 3, 1), (.aload_n 0, 1), (.getfield 11, 3), (.iload_n 2, 1), (.aaload, 1), (.astore 4, 2), (.aload_n 3, 1), (.arraylength, 1), (.aload 4, 2), (.arraylength, 1), (.if_icmp .le 8, 3), (.aload_n 3, 1)] (by decide +kernel) (by decide +kernel)
theorem dMod_plus_0 : decode cMod_plus 0 = .ok (.aload_n 0, 1) := zfMod_plus_0.1
theorem dMod_plus_1 : decode cMod_plus 1 = .ok (.iload_n 1, 1) := zfMod_plus_0.2.1
theorem dMod_plus_2 : decode cMod_plus 2 = .ok (.invokestatic 81, 3) := zfMod_plus_0.2.2.1
theorem dMod_plus_5 : decode cMod_plus 5 = .ok (.ifCond .ne 10, 3) := zfMod_plus_0.2.2.2.1
theorem dMod_plus_8 : decode cMod_plus 8 = .ok (.iload_n 2, 1) := zfMod_plus_0.2.2.2.2.1
theorem dMod_plus_9 : decode cMod_plus 9 = .ok (.invokestatic 81, 3) := zfMod_plus_0.2.2.2.2.2.1
theorem dMod_plus_12 : decode cMod_plus 12 = .ok (.ifCond .eq 7, 3) := zfMod_plus_0.2.2.2.2.2.2.1
theorem dMod_plus_15 : decode cMod_plus 15 = .ok (.iconst 1, 1) := zfMod_plus_0.2.2.2.2.2.2.2.1
theorem dMod_plus_16 : decode cMod_plus 16 = .ok (.goto 4, 3) := zfMod_plus_0.2.2.2.2.2.2.2.2.1
theorem dMod_plus_19 : decode cMod_plus 19 = .ok (.iconst 0, 1) := zfMod_plus_0.2.2.2.2.2.2.2.2.2.1
theorem dMod_plus_20 : decode cMod_plus 20 = .ok (.iconst 0, 1) := zfMod_plus_0.2.2.2.2.2.2.2.2.2.2.1
theorem dMod_plus_21 : decode cMod_plus 21 = .ok (.iconst 0, 1) := zfMod_plus_0.2.2.2.2.2.2.2.2.2.2.2.1
theorem dMod_plus_22 : decode cMod_plus 22 = .ok (.invokevirtual 88, 3) := zfMod_plus_0.2.2.2.2.2.2.2.2.2.2.2.2.1
theorem dMod_plus_25 : decode cMod_plus 25 = .ok (.ifCond .eq 5, 3) := zfMod_plus_0.2.2.2.2.2.2.2.2.2.2.2.2.2.1
theorem dMod_plus_28 : decode cMod_plus 28 = .ok (.iconst 0, 1) := zfMod_plus_0.2.2.2.2.2.2.2.2.2.2.2.2.2.2.1
theorem dMod_plus_29 : decode cMod_plus 29 = .ok (.ireturn, 1) := zfMod_plus_0.2.2.2.2.2.2.2.2.2.2.2.2.2.2.2.1
theorem dMod_plus_30 : decode cMod_plus 30 = .ok (.aload_n 0, 1) := zfMod_plus_0.2.2.2.2.2.2.2.2.2.2.2.2.2.2.2.2.1
theorem dMod_plus_31 : decode cMod_plus 31 = .ok (.getfield 11, 3) := zfMod_plus_0.2.2.2.2.2.2.2.2.2.2.2.2.2.2.2.2.2.1
theorem dMod_plus_34 : decode cMod_plus 34 = .ok (.iload_n 1, 1) := zfMod_plus_0.2.2.2.2.2.2.2.2.2.2.2.2.2.2.2.2.2.2.1
theorem dMod_plus_35 : decode cMod_plus 35 = .ok (.aaload, 1) := zfMod_plus_0.2.2.2.2.2.2.2.2.2.2.2.2.2.2.2.2.2.2.2.1
theorem dMod_plus_36 : decode cMod_plus 36 = .ok (.astore_n 3, 1) := zfMod_plus_0.2.2.2.2.2.2.2.2.2.2.2.2.2.2.2.2.2.2.2.2.1
theorem dMod_plus_37 : decode cMod_plus 37 = .ok (.aload_n 0, 1) := zfMod_plus_0.2.2.2.2.2.2.2.2.2.2.2.2.2.2.2.2.2.2.2.2.2.1
theorem dMod_plus_38 : decode cMod_plus 38 = .ok (.getfield 11, 3) := zfMod_plus_0.2.2.2.2.2.2.2.2.2.2.2.2.2.2.2.2.2.2.2.2.2.2.1
theorem dMod_plus_41 : decode cMod_plus 41 = .ok (.iload_n 2, 1) := zfMod_plus_0.2.2.2.2.2.2.2.2.2.2.2.2.2.2.2.2.2.2.2.2.2.2.2.1
theorem dMod_plus_42 : decode cMod_plus 42 = .ok (.aaload, 1) := zfMod_plus_0.2.2.2.2.2.2.2.2.2.2.2.2.2.2.2.2.2.2.2.2.2.2.2.2.1
theorem dMod_plus_43 : decode cMod_plus 43 = .ok (.astore 4, 2) := zfMod_plus_0.2.2.2.2.2.2.2.2.2.2.2.2.2.2.2.2.2.2.2.2.2.2.2.2.2.1
theorem dMod_plus_45 : decode cMod_plus 45 = .ok (.aload_n 3, 1) := zfMod_plus_0.2.2.2.2.2.2.2.2.2.2.2.2.2.2.2.2.2.2.2.2.2.2.2.2.2.2.1
theorem dMod_plus_46 : decode cMod_plus 46 = .ok (.arraylength, 1) := zfMod_plus_0.2.2.2.2.2.2.2.2.2.2.2.2.2.2.2.2.2.2.2.2.2.2.2.2.2.2.2.1
theorem dMod_plus_47 : decode cMod_plus 47 = .ok (.aload 4, 2) := zfMod_plus_0.2.2.2.2.2.2.2.2.2.2.2.2.2.2.2.2.2.2.2.2.2.2.2.2.2.2.2.2.1
theorem dMod_plus_49 : decode cMod_plus 49 = .ok (.arraylength, 1) := zfMod_plus_0.2.2.2.2.2.2.2.2.2.2.2.2.2.2.2.2.2.2.2.2.2.2.2.2.2.2.2.2.2.1
theorem dMod_plus_50 : decode cMod_plus 50 = .ok (.if_icmp .le 8, 3) := zfMod_plus_0.2.2.2.2.2.2.2.2.2.2.2.2.2.2.2.2.2.2.2.2.2.2.2.2.2.2.2.2.2.2.1
theorem dMod_plus_53 : decode cMod_plus 53 = .ok (.aload_n 3, 1) := zfMod_plus_0.2.2.2.2.2.2.2.2.2.2.2.2.2.2.2.2.2.2.2.2.2.2.2.2.2.2.2.2.2.2.2.1
theorem zfMod_plus_54 : decode cMod_plus 54 = .ok (.arraylength, 1) ∧ decode cMod_plus 55 = .ok (.goto 6, 3) ∧ decode cMod_plus 58 = .ok (.aload 4, 2) ∧ decode cMod_plus 60 = .ok (.arraylength, 1) ∧ decode cMod_plus 61 = .ok (.newarray .long, 2) ∧ decode cMod_plus 63 = .ok (.astore 5, 2) ∧ decode cMod_plus 65 = .ok (.iconst 0, 1) ∧ True := Jvm.Free.DS.facts (code := cMod_plus) 54 [(.arraylength, 1), (.goto 6, 3), (.aload 4, 2), (.arraylength, 1), (.newarray .long, 2), (.astore 5, 2), (.iconst 0, 1)] (by decide +kernel) (by decide +kernel)
theorem dMod_plus_54 : decode cMod_plus 54 = .ok (.arraylength, 1) := zfMod_plus_54.1
theorem dMod_plus_55 : decode cMod_plus 55 = .ok (.goto 6, 3) := zfMod_plus_54.2.1
theorem dMod_plus_58 : decode cMod_plus 58 = .ok (.aload 4, 2) := zfMod_plus_54.2.2.1
theorem dMod_plus_60 : decode cMod_plus 60 = .ok (.arraylength, 1) := zfMod_plus_54.2.2.2.1
theorem dMod_plus_61 : decode cMod_plus 61 = .ok (.newarray .long, 2) := zfMod_plus_54.2.2.2.2.1
theorem dMod_plus_63 : decode cMod_plus 63 = .ok (.astore 5, 2) := zfMod_plus_54.2.2.2.2.2.1
theorem dMod_plus_65 : decode cMod_plus 65 = .ok (.iconst 0, 1) := zfMod_plus_54.2.2.2.2.2.2.1
