theorem zfCur_init_0 : decode cCur_init 0 = .ok (.aload_n 0, 1) ∧ decode cCur_init 1 = .ok (.invokespecial 3, 3) ∧ decode cCur_init 4 = .ok (.aload_n 0, 1) ∧ decode cCur_init 5 = .ok (.iconst (-1), 1) ∧ decode cCur_init 6 = .ok (.putfield 9, 3) ∧ decode cCur_init 9 = .ok (.return_, 1) ∧ True := Jvm.Free.DS.facts (code := cCur_init) 0 [(.aload_n 0, 1), (.invokespecial 3, 3), (.aload_n 0, 1), (.iconst (-1), 1), (.putfield 9, 3), (.return_, 1)] (by decide +kernel) (by decide +kernel)
theorem dCur_init_0 : decode cCur_init 0 = .ok (.aload_n 0, 1) := zfCur_init_0.1
theorem dCur_init_1 : decode cCur_init 1 = .ok (.invokespecial 3, 3) := zfCur_init_0.2.1
theorem dCur_init_4 : decode cCur_init 4 = .ok (.aload_n 0, 1) := zfCur_init_0.2.2.1
theorem dCur_init_5 : decode cCur_init 5 = .ok (.iconst (-1), 1) := zfCur_init_0.2.2.2.1
theorem dCur_init_6 : decode cCur_init 6 = .ok (.putfield 9, 3) := zfCur_init_0.2.2.2.2.1
theorem dCur_init_9 : decode cCur_init 9 = .ok (.return_, 1) := zfCur_init_0.2.2.2.2.2.1
theorem zfCur_begin_0 : decode cCur_begin 0 = .ok (.aload_n 0, 1) ∧ decode cCur_begin 1 = .ok (.iconst 1, 1) ∧ decode cCur_begin 2 = .ok (.putfield 15, 3) ∧ decode cCur_begin 5 = .ok (.aload_n 0, 1) ∧ decode cCur_begin 6 = .ok (.iconst 0, 1) ∧ decode cCur_begin 7 = .ok (.putfield 19, 3) ∧ decode cCur_begin 10 = .ok (.aload_n 0, 1) ∧ decode cCur_begin 11 = .ok (.iload_n 1, 1) ∧ decode cCur_begin 12 = .ok (.putfield 22, 3) ∧ decode cCur_begin 15 = .ok (.aload_n 0, 1) ∧ decode cCur_begin 16 = .ok (.iload_n 2, 1) ∧ decode cCur_begin 17 = .ok (.putfield 25, 3) ∧ decode cCur_begin 20 = .ok (.aload_n 0, 1) ∧ decode cCur_begin 21 = .ok (.iconst (-1), 1) ∧ decode cCur_begin 22 = .ok (.putfield 9, 3) ∧ decode cCur_begin 25 = .ok (.return_, 1) ∧ True := Jvm.Free.DS.facts (code := cCur_begin) 0 [(.aload_n 0, 1), (.iconst 1, 1), (.putfield 15, 3), (.aload_n 0, 1), (.iconst 0, 1), (.putfield 19, 3), (.aload_n 0, 1), (.iload_n 1, 1), (.putfield 22, 3), (.aload_n 0, 1), (.iload_n 2, 1), (.putfield 25, 3), (.aload_n 0, 1), (.iconst (-1), 1), (.putfield 9, 3), (.return_, 1)] (by decide +kernel) (by decide +kernel)
theorem dCur_begin_0 : decode cCur_begin 0 = .ok (.aload_n 0, 1) := zfCur_begin_0.1
theorem dCur_begin_1 : decode cCur_begin 1 = .ok (.iconst 1, 1) := zfCur_begin_0.2.1
theorem dCur_begin_2 : decode cCur_begin 2 = .ok (.putfield 15, 3) := zfCur_begin_0.2.2.1
theorem dCur_begin_5 : decode cCur_begin 5 = .ok (.aload_n 0, 1) := zfCur_begin_0.2.2.2.1
theorem dCur_begin_6 : decode cCur_begin 6 = .ok (.iconst 0, 1) := zfCur_begin_0.2.2.2.2.1
theorem dCur_begin_7 : decode cCur_begin 7 = .ok (.putfield 19, 3) := zfCur_begin_0.2.2.2.2.2.1
theorem dCur_begin_10 : decode cCur_begin 10 = .ok (.aload_n 0, 1) := zfCur_begin_0.2.2.2.2.2.2.1
theorem dCur_begin_11 : decode cCur_begin 11 = .ok (.iload_n 1, 1) := zfCur_begin_0.2.2.2.2.2.2.2.1
theorem dCur_begin_12 : decode cCur_begin 12 = .ok (.putfield 22, 3) := zfCur_begin_0.2.2.2.2.2.2.2.2.1
theorem dCur_begin_15 : decode cCur_begin 15 = .ok (.aload_n 0, 1) := zfCur_begin_0.2.2.2.2.2.2.2.2.2.1
theorem dCur_begin_16 : decode cCur_begin 16 = .ok (.iload_n 2, 1) := zfCur_begin_0.2.2.2.2.2.2.2.2.2.2.1
theorem dCur_begin_17 : decode cCur_begin 17 = .ok (.putfield 25, 3) := zfCur_begin_0.2.2.2.2.2.2.2.2.2.2.2.1
theorem dCur_begin_20 : decode cCur_begin 20 = .ok (.aload_n 0, 1) := zfCur_begin_0.2.2.2.2.2.2.2.2.2.2.2.2.1
theorem dCur_begin_21 : decode cCur_begin 21 = .ok (.iconst (-1), 1) := zfCur_begin_0.2.2.2.2.2.2.2.2.2.2.2.2.2.1
theorem dCur_begin_22 : decode cCur_begin 22 = .ok (.putfield 9, 3) := zfCur_begin_0.2.2.2.2.2.2.2.2.2.2.2.2.2.2.1
theorem dCur_begin_25 : decode cCur_begin 25 = .ok (.return_, 1) := zfCur_begin_0.2.2.2.2.2.2.2.2.2.2.2.2.2.2.2.1
theorem zfCur_stepForth_0 : decode cCur_stepForth 0 = .ok (.aload_n 1, 1) ∧ decode cCur_stepForth 1 = .ok (.aload_n 0, 1) ∧ decode cCur_stepForth 2 = .ok (.getfield 25, 3) ∧ decode cCur_stepForth 5 = .ok (.invokevirtual 28, 3) ∧ decode cCur_stepForth 8 = .ok (.ifCond .ne 7, 3) ∧ decode cCur_stepForth 11 = .ok (.sipush 10000, 3) ∧ decode cCur_stepForth 14 = .ok (.ireturn, 1) ∧ decode cCur_stepForth 15 = .ok (.aload_n 0, 1) ∧ decode cCur_stepForth 16 = .ok (.aload_n 0, 1) ∧ decode cCur_stepForth 17 = .ok (.getfield 25, 3) ∧ decode cCur_stepForth 20 = .ok (.putfield 9, 3) ∧ decode cCur_stepForth 23 = .ok (.aload_n 0, 1) ∧ decode cCur_stepForth 24 = .ok (.dup, 1) ∧ decode cCur_stepForth 25 = .ok (.getfield 25, 3) ∧ decode cCur_stepForth 28 = .ok (.iconst 1, 1) ∧ decode cCur_stepForth 29 = .ok (.iadd, 1) ∧ decode cCur_stepForth 30 = .ok (.putfield 25, 3) ∧ decode cCur_stepForth 33 = .ok (.aload_n 1, 1) ∧ decode cCur_stepForth 34 = .ok (.aload_n 0, 1) ∧ decode cCur_stepForth 35 = .ok (.getfield 9, 3) ∧ decode cCur_stepForth 38 = .ok (.invokevirtual 34, 3) ∧ decode cCur_stepForth 41 = .ok (.ireturn, 1) ∧ True := Jvm.Free.DS.facts (code := cCur_stepForth) 0 [(.aload_n 1, 1), (.aload_n 0, 1), (.getfield 25, 3), (.invokevirtual 28, 3), (.ifCond .ne 7, 3), (.sipush 10000, 3), (.ireturn, 1), (.aload_n 0, 1), (.aload_n 0, 1), (.getfield 25, 3), (.putfield 9, 3), (.aload_n 0, 1), (.dup, 1), (.getfield 25, 3), (.iconst 1, 1), (.iadd, 1), (.putfield 25, 3), (.aload_n 1, 1), (.aload_n 0, 1), (.getfield 9, 3), (.invokevirtual 34, 3), (.ireturn, 1)] (by decide +kernel) (by decide +kernel)
theorem dCur_stepForth_0 : decode cCur_stepForth 0 = .ok (.aload_n 1, 1) := zfCur_stepForth_0.1
theorem dCur_stepForth_1 : decode cCur_stepForth 1 = .ok (.aload_n 0, 1) := zfCur_stepForth_0.2.1
theorem dCur_stepForth_2 : decode cCur_stepForth 2 = .ok (.getfield 25, 3) := zfCur_stepForth_0.2.2.1
theorem dCur_stepForth_5 : decode cCur_stepForth 5 = .ok (.invokevirtual 28, 3) := zfCur_stepForth_0.2.2.2.1
theorem dCur_stepForth_8 : decode cCur_stepForth 8 = .ok (.ifCond .ne 7, 3) := zfCur_stepForth_0.2.2.2.2.1
theorem dCur_stepForth_11 : decode cCur_stepForth 11 = .ok (.sipush 10000, 3) := zfCur_stepForth_0.2.2.2.2.2.1
theorem dCur_stepForth_14 : decode cCur_stepForth 14 = .ok (.ireturn, 1) := zfCur_stepForth_0.2.2.2.2.2.2.1
theorem dCur_stepForth_15 : decode cCur_stepForth 15 = .ok (.aload_n 0, 1) := zfCur_stepForth_0.2.2.2.2.2.2.2.1
theorem dCur_stepForth_16 : decode cCur_stepForth 16 = .ok (.aload_n 0, 1) := zfCur_stepForth_0.2.2.2.2.2.2.2.2.1
theorem dCur_stepForth_17 : decode cCur_stepForth 17 = .ok (.getfield 25, 3) := zfCur_stepForth_0.2.2.2.2.2.2.2.2.2.1
theorem dCur_stepForth_20 : decode cCur_stepForth 20 = .ok (.putfield 9, 3) := zfCur_stepForth_0.2.2.2.2.2.2.2.2.2.2.1
theorem dCur_stepForth_23 : decode cCur_stepForth 23 = .ok (.aload_n 0, 1) := zfCur_stepForth_0.2.2.2.2.2.2.2.2.2.2.2.1
theorem dCur_stepForth_24 : decode cCur_stepForth 24 = .ok (.dup, 1) := zfCur_stepForth_0.2.2.2.2.2.2.2.2.2.2.2.2.1
theorem dCur_stepForth_25 : decode cCur_stepForth 25 = .ok (.getfield 25, 3) := zfCur_stepForth_0.2.2.2.2.2.2.2.2.2.2.2.2.2.1
theorem dCur_stepForth_28 : decode cCur_stepForth 28 = .ok (.iconst 1, 1) := zfCur_stepForth_0.2.2.2.2.2.2.2.2.2.2.2.2.2.2.1
theorem dCur_stepForth_29 : decode cCur_stepForth 29 = .ok (.iadd, 1) := zfCur_stepForth_0.2.2.2.2.2.2.2.2.2.2.2.2.2.2.2.1
theorem dCur_stepForth_30 : decode cCur_stepForth 30 = .ok (.putfield 25, 3) := zfCur_stepForth_0.2.2.2.2.2.2.2.2.2.2.2.2.2.2.2.2.1
theorem dCur_stepForth_33 : decode cCur_stepForth 33 = .ok (.aload_n 1, 1) := zfCur_stepForth_0.2.2.2.2.2.2.2.2.2.2.2.2.2.2.2.2.2.1
theorem dCur_stepForth_34 : decode cCur_stepForth 34 = .ok (.aload_n 0, 1) := zfCur_stepForth_0.2.2.2.2.2.2.2.2.2.2.2.2.2.2.2.2.2.2.1
theorem dCur_stepForth_35 : decode cCur_stepForth 35 = .ok (.getfield 9, 3) := zfCur_stepForth_0.2.2.2.2.2.2.2.2.2.2.2.2.2.2.2.2.2.2.2.1
theorem dCur_stepForth_38 : decode cCur_stepForth 38 = .ok (.invokevirtual 34, 3) := zfCur_stepForth_0.2.2.2.2.2.2.2.2.2.2.2.2.2.2.2.2.2.2.2.2.1
theorem dCur_stepForth_41 : decode cCur_stepForth 41 = .ok (.ireturn, 1) := zfCur_stepForth_0.2.2.2.2.2.2.2.2.2.2.2.2.2.2.2.2.2.2.2.2.2.1
theorem zfCur_stepBack_0 : decode cCur_stepBack 0 = .ok (.aload_n 1, 1) ∧ decode cCur_stepBack 1 = .ok (.aload_n 0, 1) ∧ decode cCur_stepBack 2 = .ok (.getfield 25, 3) ∧ decode cCur_stepBack 5 = .ok (.iconst 1, 1) ∧ decode cCur_stepBack 6 = .ok (.isub, 1) ∧ decode cCur_stepBack 7 = .ok (.invokevirtual 28, 3) ∧ decode cCur_stepBack 10 = .ok (.ifCond .ne 7, 3) ∧ decode cCur_stepBack 13 = .ok (.sipush 10000, 3) ∧ decode cCur_stepBack 16 = .ok (.ireturn, 1) ∧ decode cCur_stepBack 17 = .ok (.aload_n 0, 1) ∧ decode cCur_stepBack 18 = .ok (.dup, 1) ∧ decode cCur_stepBack 19 = .ok (.getfield 25, 3) ∧ decode cCur_stepBack 22 = .ok (.iconst 1, 1) ∧ decode cCur_stepBack 23 = .ok (.isub, 1) ∧ decode cCur_stepBack 24 = .ok (.putfield 25, 3) ∧ decode cCur_stepBack 27 = .ok (.aload_n 0, 1) ∧ decode cCur_stepBack 28 = .ok (.aload_n 0, 1) ∧ decode cCur_stepBack 29 = .ok (.getfield 25, 3) ∧ decode cCur_stepBack 32 = .ok (.putfield 9, 3) ∧ decode cCur_stepBack 35 = .ok (.aload_n 1, 1) ∧ decode cCur_stepBack 36 = .ok (.aload_n 0, 1) ∧ decode cCur_stepBack 37 = .ok (.getfield 9, 3) ∧ decode cCur_stepBack 40 = .ok (.invokevirtual 34, 3) ∧ decode cCur_stepBack 43 = .ok (.ireturn, 1) ∧ True := Jvm.Free.DS.facts (code := cCur_stepBack) 0 [(.aload_n 1, 1), (.aload_n 0, 1), (.getfield 25, 3), (.iconst 1, 1), (.isub, 1), (.invokevirtual 28, 3), (.ifCond .ne 7, 3), (.sipush 10000, 3), (.ireturn, 1), (.aload_n 0, 1), (.dup, 1), (.getfield 25, 3), (.iconst 1, 1), (.isub, 1), (.putfield 25, 3), (.aload_n 0, 1), (.aload_n 0, 1), (.getfield 25, 3), (.putfield 9, 3), (.aload_n 1, 1), (.aload_n 0, 1), (.getfield 9, 3), (.invokevirtual 34, 3), (.ireturn, 1)] (by decide +kernel) (by decide +kernel)
theorem dCur_stepBack_0 : decode cCur_stepBack 0 = .ok (.aload_n 1, 1) := zfCur_stepBack_0.1
theorem dCur_stepBack_1 : decode cCur_stepBack 1 = .ok (.aload_n 0, 1) := zfCur_stepBack_0.2.1
theorem dCur_stepBack_2 : decode cCur_stepBack 2 = .ok (.getfield 25, 3) := zfCur_stepBack_0.2.2.1
theorem dCur_stepBack_5 : decode cCur_stepBack 5 = .ok (.iconst 1, 1) := zfCur_stepBack_0.2.2.2.1
theorem dCur_stepBack_6 : decode cCur_stepBack 6 = .ok (.isub, 1) := zfCur_stepBack_0.2.2.2.2.1
theorem dCur_stepBack_7 : decode cCur_stepBack 7 = .ok (.invokevirtual 28, 3) := zfCur_stepBack_0.2.2.2.2.2.1
theorem dCur_stepBack_10 : decode cCur_stepBack 10 = .ok (.ifCond .ne 7, 3) := zfCur_stepBack_0.2.2.2.2.2.2.1
theorem dCur_stepBack_13 : decode cCur_stepBack 13 = .ok (.sipush 10000, 3) := zfCur_stepBack_0.2.2.2.2.2.2.2.1
theorem dCur_stepBack_16 : decode cCur_stepBack 16 = .ok (.ireturn, 1) := zfCur_stepBack_0.2.2.2.2.2.2.2.2.1
theorem dCur_stepBack_17 : decode cCur_stepBack 17 = .ok (.aload_n 0, 1) := zfCur_stepBack_0.2.2.2.2.2.2.2.2.2.1
theorem dCur_stepBack_18 : decode cCur_stepBack 18 = .ok (.dup, 1) := zfCur_stepBack_0.2.2.2.2.2.2.2.2.2.2.1
theorem dCur_stepBack_19 : decode cCur_stepBack 19 = .ok (.getfield 25, 3) := zfCur_stepBack_0.2.2.2.2.2.2.2.2.2.2.2.1
theorem dCur_stepBack_22 : decode cCur_stepBack 22 = .ok (.iconst 1, 1) := zfCur_stepBack_0.2.2.2.2.2.2.2.2.2.2.2.2.1
theorem dCur_stepBack_23 : decode cCur_stepBack 23 = .ok (.isub, 1) := zfCur_stepBack_0.2.2.2.2.2.2.2.2.2.2.2.2.2.1
theorem dCur_stepBack_24 : decode cCur_stepBack 24 = .ok (.putfield 25, 3) := zfCur_stepBack_0.2.2.2.2.2.2.2.2.2.2.2.2.2.2.1
theorem dCur_stepBack_27 : decode cCur_stepBack 27 = .ok (.aload_n 0, 1) := zfCur_stepBack_0.2.2.2.2.2.2.2.2.2.2.2.2.2.2.2.1
theorem dCur_stepBack_28 : decode cCur_stepBack 28 = .ok (.aload_n 0, 1) := zfCur_stepBack_0.2.2.2.2.2.2.2.2.2.2.2.2.2.2.2.2.1
theorem dCur_stepBack_29 : decode cCur_stepBack 29 = .ok (.getfield 25, 3) := zfCur_stepBack_0.2.2.2.2.2.2.2.2.2.2.2.2.2.2.2.2.2.1
theorem dCur_stepBack_32 : decode cCur_stepBack 32 = .ok (.putfield 9, 3) := zfCur_stepBack_0.2.2.2.2.2.2.2.2.2.2.2.2.2.2.2.2.2.2.1
theorem dCur_stepBack_35 : decode cCur_stepBack 35 = .ok (.aload_n 1, 1) := zfCur_stepBack_0.2.2.2.2.2.2.2.2.2.2.2.2.2.2.2.2.2.2.2.1
theorem dCur_stepBack_36 : decode cCur_stepBack 36 = .ok (.aload_n 0, 1) := zfCur_stepBack_0.2.2.2.2.2.2.2.2.2.2.2.2.2.2.2.2.2.2.2.2.1
theorem dCur_stepBack_37 : decode cCur_stepBack 37 = .ok (.getfield 9, 3) := zfCur_stepBack_0.2.2.2.2.2.2.2.2.2.2.2.2.2.2.2.2.2.2.2.2.2.1
theorem dCur_stepBack_40 : decode cCur_stepBack 40 = .ok (.invokevirtual 34, 3) := zfCur_stepBack_0.2.2.2.2.2.2.2.2.2.2.2.2.2.2.2.2.2.2.2.2.2.2.1
theorem dCur_stepBack_43 : decode cCur_stepBack 43 = .ok (.ireturn, 1) := zfCur_stepBack_0.2.2.2.2.2.2.2.2.2.2.2.2.2.2.2.2.2.2.2.2.2.2.2.1
theorem zfCur_putHere_0 : decode cCur_putHere 0 = .ok (.aload_n 1, 1) ∧ decode cCur_putHere 1 = .ok (.aload_n 0, 1) ∧ decode cCur_putHere 2 = .ok (.getfield 25, 3) ∧ decode cCur_putHere 5 = .ok (.iload_n 2, 1) ∧ decode cCur_putHere 6 = .ok (.invokevirtual 38, 3) ∧ decode cCur_putHere 9 = .ok (.ifCond .ne 5, 3) ∧ decode cCur_putHere 12 = .ok (.iconst 0, 1) ∧ decode cCur_putHere 13 = .ok (.ireturn, 1) ∧ decode cCur_putHere 14 = .ok (.aload_n 0, 1) ∧ decode cCur_putHere 15 = .ok (.dup, 1) ∧ decode cCur_putHere 16 = .ok (.getfield 25, 3) ∧ decode cCur_putHere 19 = .ok (.iconst 1, 1) ∧ decode cCur_putHere 20 = .ok (.iadd, 1) ∧ decode cCur_putHere 21 = .ok (.putfield 25, 3) ∧ decode cCur_putHere 24 = .ok (.aload_n 0, 1) ∧ decode cCur_putHere 25 = .ok (.iconst (-1), 1) ∧ decode cCur_putHere 26 = .ok (.putfield 9, 3) ∧ decode cCur_putHere 29 = .ok (.iconst 1, 1) ∧ decode cCur_putHere 30 = .ok (.ireturn, 1) ∧ True := Jvm.Free.DS.facts (code := cCur_putHere) 0 [(.aload_n 1, 1), (.aload_n 0, 1), (.getfield 25, 3), (.iload_n 2, 1), (.invokevirtual 38, 3), (.ifCond .ne 5, 3), (.iconst 0, 1), (.ireturn, 1), (.aload_n 0, 1), (.dup, 1), (.getfield 25, 3), (.iconst 1, 1), (.iadd, 1), (.putfield 25, 3), (.aload_n 0, 1), (.iconst (-1), 1), (.putfield 9, 3), (.iconst 1, 1), (.ireturn, 1)] (by decide +kernel) (by decide +kernel)
theorem dCur_putHere_0 : decode cCur_putHere 0 = .ok (.aload_n 1, 1) := zfCur_putHere_0.1
theorem dCur_putHere_1 : decode cCur_putHere 1 = .ok (.aload_n 0, 1) := zfCur_putHere_0.2.1
theorem dCur_putHere_2 : decode cCur_putHere 2 = .ok (.getfield 25, 3) := zfCur_putHere_0.2.2.1
theorem dCur_putHere_5 : decode cCur_putHere 5 = .ok (.iload_n 2, 1) := zfCur_putHere_0.2.2.2.1
theorem dCur_putHere_6 : decode cCur_putHere 6 = .ok (.invokevirtual 38, 3) := zfCur_putHere_0.2.2.2.2.1
theorem dCur_putHere_9 : decode cCur_putHere 9 = .ok (.ifCond .ne 5, 3) := zfCur_putHere_0.2.2.2.2.2.1
theorem dCur_putHere_12 : decode cCur_putHere 12 = .ok (.iconst 0, 1) := zfCur_putHere_0.2.2.2.2.2.2.1
theorem dCur_putHere_13 : decode cCur_putHere 13 = .ok (.ireturn, 1) := zfCur_putHere_0.2.2.2.2.2.2.2.1
theorem dCur_putHere_14 : decode cCur_putHere 14 = .ok (.aload_n 0, 1) := zfCur_putHere_0.2.2.2.2.2.2.2.2.1
theorem dCur_putHere_15 : decode cCur_putHere 15 = .ok (.dup, 1) := zfCur_putHere_0.2.2.2.2.2.2.2.2.2.1
theorem dCur_putHere_16 : decode cCur_putHere 16 = .ok (.getfield 25, 3) := zfCur_putHere_0.2.2.2.2.2.2.2.2.2.2.1
theorem dCur_putHere_19 : decode cCur_putHere 19 = .ok (.iconst 1, 1) := zfCur_putHere_0.2.2.2.2.2.2.2.2.2.2.2.1
theorem dCur_putHere_20 : decode cCur_putHere 20 = .ok (.iadd, 1) := zfCur_putHere_0.2.2.2.2.2.2.2.2.2.2.2.2.1
theorem dCur_putHere_21 : decode cCur_putHere 21 = .ok (.putfield 25, 3) := zfCur_putHere_0.2.2.2.2.2.2.2.2.2.2.2.2.2.1
theorem dCur_putHere_24 : decode cCur_putHere 24 = .ok (.aload_n 0, 1) := zfCur_putHere_0.2.2.2.2.2.2.2.2.2.2.2.2.2.2.1
theorem dCur_putHere_25 : decode cCur_putHere 25 = .ok (.iconst (-1), 1) := zfCur_putHere_0.2.2.2.2.2.2.2.2.2.2.2.2.2.2.2.1
theorem dCur_putHere_26 : decode cCur_putHere 26 = .ok (.putfield 9, 3) := zfCur_putHere_0.2.2.2.2.2.2.2.2.2.2.2.2.2.2.2.2.1
theorem dCur_putHere_29 : decode cCur_putHere 29 = .ok (.iconst 1, 1) := zfCur_putHere_0.2.2.2.2.2.2.2.2.2.2.2.2.2.2.2.2.2.1
theorem dCur_putHere_30 : decode cCur_putHere 30 = .ok (.ireturn, 1) := zfCur_putHere_0.2.2.2.2.2.2.2.2.2.2.2.2.2.2.2.2.2.2.1
theorem zfCur_cutLast_0 : decode cCur_cutLast 0 = .ok (.aload_n 1, 1) ∧ decode cCur_cutLast 1 = .ok (.aload_n 0, 1) ∧ decode cCur_cutLast 2 = .ok (.getfield 9, 3) ∧ decode cCur_cutLast 5 = .ok (.invokevirtual 42, 3) ∧ decode cCur_cutLast 8 = .ok (.pop, 1) ∧ decode cCur_cutLast 9 = .ok (.aload_n 0, 1) ∧ decode cCur_cutLast 10 = .ok (.getfield 9, 3) ∧ decode cCur_cutLast 13 = .ok (.aload_n 0, 1) ∧ decode cCur_cutLast 14 = .ok (.getfield 25, 3) ∧ decode cCur_cutLast 17 = .ok (.if_icmp .ge 13, 3) ∧ decode cCur_cutLast 20 = .ok (.aload_n 0, 1) ∧ decode cCur_cutLast 21 = .ok (.dup, 1) ∧ decode cCur_cutLast 22 = .ok (.getfield 25, 3) ∧ decode cCur_cutLast 25 = .ok (.iconst 1, 1) ∧ decode cCur_cutLast 26 = .ok (.isub, 1) ∧ decode cCur_cutLast 27 = .ok (.putfield 25, 3) ∧ decode cCur_cutLast 30 = .ok (.aload_n 0, 1) ∧ decode cCur_cutLast 31 = .ok (.iconst (-1), 1) ∧ decode cCur_cutLast 32 = .ok (.putfield 9, 3) ∧ decode cCur_cutLast 35 = .ok (.return_, 1) ∧ True := Jvm.Free.DS.facts (code := cCur_cutLast) 0 [(.aload_n 1, 1), (.aload_n 0, 1), (.getfield 9, 3), (.invokevirtual 42, 3), (.pop, 1), (.aload_n 0, 1), (.getfield 9, 3), (.aload_n 0, 1), (.getfield 25, 3), (.if_icmp .ge 13, 3), (.aload_n 0, 1), (.dup, 1), (.getfield 25, 3), (.iconst 1, 1), (.isub, 1), (.putfield 25, 3), (.aload_n 0, 1), (.iconst (-1), 1), (.putfield 9, 3), (.return_, 1)] (by decide +kernel) (by decide +kernel)
theorem dCur_cutLast_0 : decode cCur_cutLast 0 = .ok (.aload_n 1, 1) := zfCur_cutLast_0.1
theorem dCur_cutLast_1 : decode cCur_cutLast 1 = .ok (.aload_n 0, 1) := zfCur_cutLast_0.2.1
theorem dCur_cutLast_2 : decode cCur_cutLast 2 = .ok (.getfield 9, 3) := zfCur_cutLast_0.2.2.1
theorem dCur_cutLast_5 : decode cCur_cutLast 5 = .ok (.invokevirtual 42, 3) := zfCur_cutLast_0.2.2.2.1
theorem dCur_cutLast_8 : decode cCur_cutLast 8 = .ok (.pop, 1) := zfCur_cutLast_0.2.2.2.2.1
theorem dCur_cutLast_9 : decode cCur_cutLast 9 = .ok (.aload_n 0, 1) := zfCur_cutLast_0.2.2.2.2.2.1
theorem dCur_cutLast_10 : decode cCur_cutLast 10 = .ok (.getfield 9, 3) := zfCur_cutLast_0.2.2.2.2.2.2.1
theorem dCur_cutLast_13 : decode cCur_cutLast 13 = .ok (.aload_n 0, 1) := zfCur_cutLast_0.2.2.2.2.2.2.2.1
theorem dCur_cutLast_14 : decode cCur_cutLast 14 = .ok (.getfield 25, 3) := zfCur_cutLast_0.2.2.2.2.2.2.2.2.1
theorem dCur_cutLast_17 : decode cCur_cutLast 17 = .ok (.if_icmp .ge 13, 3) := zfCur_cutLast_0.2.2.2.2.2.2.2.2.2.1
theorem dCur_cutLast_20 : decode cCur_cutLast 20 = .ok (.aload_n 0, 1) := zfCur_cutLast_0.2.2.2.2.2.2.2.2.2.2.1
theorem dCur_cutLast_21 : decode cCur_cutLast 21 = .ok (.dup, 1) := zfCur_cutLast_0.2.2.2.2.2.2.2.2.2.2.2.1
theorem dCur_cutLast_22 : decode cCur_cutLast 22 = .ok (.getfield 25, 3) := zfCur_cutLast_0.2.2.2.2.2.2.2.2.2.2.2.2.1
theorem dCur_cutLast_25 : decode cCur_cutLast 25 = .ok (.iconst 1, 1) := zfCur_cutLast_0.2.2.2.2.2.2.2.2.2.2.2.2.2.1
theorem dCur_cutLast_26 : decode cCur_cutLast 26 = .ok (.isub, 1) := zfCur_cutLast_0.2.2.2.2.2.2.2.2.2.2.2.2.2.2.1
theorem dCur_cutLast_27 : decode cCur_cutLast 27 = .ok (.putfield 25, 3) := zfCur_cutLast_0.2.2.2.2.2.2.2.2.2.2.2.2.2.2.2.1
theorem dCur_cutLast_30 : decode cCur_cutLast 30 = .ok (.aload_n 0, 1) := zfCur_cutLast_0.2.2.2.2.2.2.2.2.2.2.2.2.2.2.2.2.1
theorem dCur_cutLast_31 : decode cCur_cutLast 31 = .ok (.iconst (-1), 1) := zfCur_cutLast_0.2.2.2.2.2.2.2.2.2.2.2.2.2.2.2.2.2.1
theorem dCur_cutLast_32 : decode cCur_cutLast 32 = .ok (.putfield 9, 3) := zfCur_cutLast_0.2.2.2.2.2.2.2.2.2.2.2.2.2.2.2.2.2.2.1
theorem dCur_cutLast_35 : decode cCur_cutLast 35 = .ok (.return_, 1) := zfCur_cutLast_0.2.2.2.2.2.2.2.2.2.2.2.2.2.2.2.2.2.2.2.1
theorem zfRec_init_0 : decode cRec_init 0 = .ok (.aload_n 0, 1) ∧ decode cRec_init 1 = .ok (.invokespecial 3, 3) ∧ decode cRec_init 4 = .ok (.aload_n 0, 1) ∧ decode cRec_init 5 = .ok (.new 9, 3) ∧ decode cRec_init 8 = .ok (.dup, 1) ∧ decode cRec_init 9 = .ok (.invokespecial 11, 3) ∧ decode cRec_init 12 = .ok (.putfield 12, 3) ∧ decode cRec_init 15 = .ok (.aload_n 0, 1) ∧ decode cRec_init 16 = .ok (.bipush 8, 2) ∧ decode cRec_init 18 = .ok (.newarray .int, 2) ∧ decode cRec_init 20 = .ok (.putfield 18, 3) ∧ decode cRec_init 23 = .ok (.aload_n 0, 1) ∧ decode cRec_init 24 = .ok (.invokevirtual 22, 3) ∧ decode cRec_init 27 = .ok (.return_, 1) ∧ True := Jvm.Free.DS.facts (code := cRec_init) 0 [(.aload_n 0, 1), (.invokespecial 3, 3), (.aload_n 0, 1), (.new 9, 3), (.dup, 1), (.invokespecial 11, 3), (.putfield 12, 3), (.aload_n 0, 1), (.bipush 8, 2), (.newarray .int, 2), (.putfield 18, 3), (.aload_n 0, 1), (.invokevirtual 22, 3), (.return_, 1)] (by decide +kernel) (by decide +kernel)
theorem dRec_init_0 : decode cRec_init 0 = .ok (.aload_n 0, 1) := zfRec_init_0.1
theorem dRec_init_1 : decode cRec_init 1 = .ok (.invokespecial 3, 3) := zfRec_init_0.2.1
theorem dRec_init_4 : decode cRec_init 4 = .ok (.aload_n 0, 1) := zfRec_init_0.2.2.1
theorem dRec_init_5 : decode cRec_init 5 = .ok (.new 9, 3) := zfRec_init_0.2.2.2.1
theorem dRec_init_8 : decode cRec_init 8 = .ok (.dup, 1) := zfRec_init_0.2.2.2.2.1
theorem dRec_init_9 : decode cRec_init 9 = .ok (.invokespecial 11, 3) := zfRec_init_0.2.2.2.2.2.1
theorem dRec_init_12 : decode cRec_init 12 = .ok (.putfield 12, 3) := zfRec_init_0.2.2.2.2.2.2.1
theorem dRec_init_15 : decode cRec_init 15 = .ok (.aload_n 0, 1) := zfRec_init_0.2.2.2.2.2.2.2.1
theorem dRec_init_16 : decode cRec_init 16 = .ok (.bipush 8, 2) := zfRec_init_0.2.2.2.2.2.2.2.2.1
theorem dRec_init_18 : decode cRec_init 18 = .ok (.newarray .int, 2) := zfRec_init_0.2.2.2.2.2.2.2.2.2.1
theorem dRec_init_20 : decode cRec_init 20 = .ok (.putfield 18, 3) := zfRec_init_0.2.2.2.2.2.2.2.2.2.2.1
theorem dRec_init_23 : decode cRec_init 23 = .ok (.aload_n 0, 1) := zfRec_init_0.2.2.2.2.2.2.2.2.2.2.2.1
theorem dRec_init_24 : decode cRec_init 24 = .ok (.invokevirtual 22, 3) := zfRec_init_0.2.2.2.2.2.2.2.2.2.2.2.2.1
theorem dRec_init_27 : decode cRec_init 27 = .ok (.return_, 1) := zfRec_init_0.2.2.2.2.2.2.2.2.2.2.2.2.2.1
theorem zfRec_begin_0 : decode cRec_begin 0 = .ok (.aload_n 0, 1) ∧ decode cRec_begin 1 = .ok (.getfield 12, 3) ∧ decode cRec_begin 4 = .ok (.bipush 8, 2) ∧ decode cRec_begin 6 = .ok (.invokevirtual 25, 3) ∧ decode cRec_begin 9 = .ok (.iconst 0, 1) ∧ decode cRec_begin 10 = .ok (.istore_n 1, 1) ∧ decode cRec_begin 11 = .ok (.iload_n 1, 1) ∧ decode cRec_begin 12 = .ok (.bipush 8, 2) ∧ decode cRec_begin 14 = .ok (.if_icmp .ge 16, 3) ∧ decode cRec_begin 17 = .ok (.aload_n 0, 1) ∧ decode cRec_begin 18 = .ok (.getfield 18, 3) ∧ decode cRec_begin 21 = .ok (.iload_n 1, 1) ∧ decode cRec_begin 22 = .ok (.iconst 0, 1) ∧ decode cRec_begin 23 = .ok (.iastore, 1) ∧ decode cRec_begin 24 = .ok (.iinc 1 1, 3) ∧ decode cRec_begin 27 = .ok (.goto (-16), 3) ∧ decode cRec_begin 30 = .ok (.aload_n 0, 1) ∧ decode cRec_begin 31 = .ok (.iconst 0, 1) ∧ decode cRec_begin 32 = .ok (.putfield 29, 3) ∧ decode cRec_begin 35 = .ok (.aload_n 0, 1) ∧ decode cRec_begin 36 = .ok (.iconst 0, 1) ∧ decode cRec_begin 37 = .ok (.putfield 33, 3) ∧ decode cRec_begin 40 = .ok (.aload_n 0, 1) ∧ decode cRec_begin 41 = .ok (.iconst (-1), 1) ∧ decode cRec_begin 42 = .ok (.putfield 36, 3) ∧ decode cRec_begin 45 = .ok (.return_, 1) ∧ True := Jvm.Free.DS.facts (code := cRec_begin) 0 [(.aload_n 0, 1), (.getfield 12, 3), (.bipush 8, 2), (.invokevirtual 25, 3), (.iconst 0, 1), (.istore_n 1, 1), (.iload_n 1, 1), (.bipush 8, 2), (.if_icmp .ge 16, 3), (.aload_n 0, 1), (.getfield 18, 3), (.iload_n 1, 1), (.iconst 0, 1), (.iastore, 1), (.iinc 1 1, 3), (.goto (-16), 3), (.aload_n 0, 1), (.iconst 0, 1), (.putfield 29, 3), (.aload_n 0, 1), (.iconst 0, 1), (.putfield 33, 3), (.aload_n 0, 1), (.iconst (-1), 1), (.putfield 36, 3), (.return_, 1)] (by decide +kernel) (by decide +kernel)
theorem dRec_begin_0 : decode cRec_begin 0 = .ok (.aload_n 0, 1) := zfRec_begin_0.1
theorem dRec_begin_1 : decode cRec_begin 1 = .ok (.getfield 12, 3) := zfRec_begin_0.2.1
theorem dRec_begin_4 : decode cRec_begin 4 = .ok (.bipush 8, 2) := zfRec_begin_0.2.2.1
theorem dRec_begin_6 : decode cRec_begin 6 = .ok (.invokevirtual 25, 3) := zfRec_begin_0.2.2.2.1
theorem dRec_begin_9 : decode cRec_begin 9 = .ok (.iconst 0, 1) := zfRec_begin_0.2.2.2.2.1
theorem dRec_begin_10 : decode cRec_begin 10 = .ok (.istore_n 1, 1) := zfRec_begin_0.2.2.2.2.2.1
theorem dRec_begin_11 : decode cRec_begin 11 = .ok (.iload_n 1, 1) := zfRec_begin_0.2.2.2.2.2.2.1
theorem dRec_begin_12 : decode cRec_begin 12 = .ok (.bipush 8, 2) := zfRec_begin_0.2.2.2.2.2.2.2.1
theorem dRec_begin_14 : decode cRec_begin 14 = .ok (.if_icmp .ge 16, 3) := zfRec_begin_0.2.2.2.2.2.2.2.2.1
theorem dRec_begin_17 : decode cRec_begin 17 = .ok (.aload_n 0, 1) := zfRec_begin_0.2.2.2.2.2.2.2.2.2.1
theorem dRec_begin_18 : decode cRec_begin 18 = .ok (.getfield 18, 3) := zfRec_begin_0.2.2.2.2.2.2.2.2.2.2.1
theorem dRec_begin_21 : decode cRec_begin 21 = .ok (.iload_n 1, 1) := zfRec_begin_0.2.2.2.2.2.2.2.2.2.2.2.1
theorem dRec_begin_22 : decode cRec_begin 22 = .ok (.iconst 0, 1) := zfRec_begin_0.2.2.2.2.2.2.2.2.2.2.2.2.1
theorem dRec_begin_23 : decode cRec_begin 23 = .ok (.iastore, 1) := zfRec_begin_0.2.2.2.2.2.2.2.2.2.2.2.2.2.1
theorem dRec_begin_24 : decode cRec_begin 24 = .ok (.iinc 1 1, 3) := zfRec_begin_0.2.2.2.2.2.2.2.2.2.2.2.2.2.2.1
theorem dRec_begin_27 : decode cRec_begin 27 = .ok (.goto (-16), 3) := zfRec_begin_0.2.2.2.2.2.2.2.2.2.2.2.2.2.2.2.1
theorem dRec_begin_30 : decode cRec_begin 30 = .ok (.aload_n 0, 1) := zfRec_begin_0.2.2.2.2.2.2.2.2.2.2.2.2.2.2.2.2.1
theorem dRec_begin_31 : decode cRec_begin 31 = .ok (.iconst 0, 1) := zfRec_begin_0.2.2.2.2.2.2.2.2.2.2.2.2.2.2.2.2.2.1
theorem dRec_begin_32 : decode cRec_begin 32 = .ok (.putfield 29, 3) := zfRec_begin_0.2.2.2.2.2.2.2.2.2.2.2.2.2.2.2.2.2.2.1
theorem dRec_begin_35 : decode cRec_begin 35 = .ok (.aload_n 0, 1) := zfRec_begin_0.2.2.2.2.2.2.2.2.2.2.2.2.2.2.2.2.2.2.2.1
theorem dRec_begin_36 : decode cRec_begin 36 = .ok (.iconst 0, 1) := zfRec_begin_0.2.2.2.2.2.2.2.2.2.2.2.2.2.2.2.2.2.2.2.2.1
theorem dRec_begin_37 : decode cRec_begin 37 = .ok (.putfield 33, 3) := zfRec_begin_0.2.2.2.2.2.2.2.2.2.2.2.2.2.2.2.2.2.2.2.2.2.1
theorem dRec_begin_40 : decode cRec_begin 40 = .ok (.aload_n 0, 1) := zfRec_begin_0.2.2.2.2.2.2.2.2.2.2.2.2.2.2.2.2.2.2.2.2.2.2.1
theorem dRec_begin_41 : decode cRec_begin 41 = .ok (.iconst (-1), 1) := zfRec_begin_0.2.2.2.2.2.2.2.2.2.2.2.2.2.2.2.2.2.2.2.2.2.2.2.1
theorem dRec_begin_42 : decode cRec_begin 42 = .ok (.putfield 36, 3) := zfRec_begin_0.2.2.2.2.2.2.2.2.2.2.2.2.2.2.2.2.2.2.2.2.2.2.2.2.1
theorem dRec_begin_45 : decode cRec_begin 45 = .ok (.return_, 1) := zfRec_begin_0.2.2.2.2.2.2.2.2.2.2.2.2.2.2.2.2.2.2.2.2.2.2.2.2.2.1
theorem zfRec_bringAhead_0 : decode cRec_bringAhead 0 = .ok (.aload_n 0, 1) ∧ decode cRec_bringAhead 1 = .ok (.getfield 12, 3) ∧ decode cRec_bringAhead 4 = .ok (.iload_n 1, 1) ∧ decode cRec_bringAhead 5 = .ok (.iconst 0, 1) ∧ decode cRec_bringAhead 6 = .ok (.invokevirtual 39, 3) ∧ decode cRec_bringAhead 9 = .ok (.istore_n 2, 1) ∧ decode cRec_bringAhead 10 = .ok (.aload_n 0, 1) ∧ decode cRec_bringAhead 11 = .ok (.getfield 12, 3) ∧ decode cRec_bringAhead 14 = .ok (.iload_n 2, 1) ∧ decode cRec_bringAhead 15 = .ok (.invokevirtual 43, 3) ∧ decode cRec_bringAhead 18 = .ok (.pop, 1) ∧ decode cRec_bringAhead 19 = .ok (.aload_n 0, 1) ∧ decode cRec_bringAhead 20 = .ok (.getfield 12, 3) ∧ decode cRec_bringAhead 23 = .ok (.iconst 0, 1) ∧ decode cRec_bringAhead 24 = .ok (.iload_n 1, 1) ∧ decode cRec_bringAhead 25 = .ok (.invokevirtual 47, 3) ∧ decode cRec_bringAhead 28 = .ok (.pop, 1) ∧ decode cRec_bringAhead 29 = .ok (.iload_n 1, 1) ∧ decode cRec_bringAhead 30 = .ok (.ifCond .lt 19, 3) ∧ decode cRec_bringAhead 33 = .ok (.iload_n 1, 1) ∧ decode cRec_bringAhead 34 = .ok (.bipush 8, 2) ∧ decode cRec_bringAhead 36 = .ok (.if_icmp .ge 13, 3) ∧ decode cRec_bringAhead 39 = .ok (.aload_n 0, 1) ∧ decode cRec_bringAhead 40 = .ok (.getfield 18, 3) ∧ decode cRec_bringAhead 43 = .ok (.iload_n 1, 1) ∧ decode cRec_bringAhead 44 = .ok (.dup2, 1) ∧ decode cRec_bringAhead 45 = .ok (.iaload, 1) ∧ decode cRec_bringAhead 46 = .ok (.iconst 1, 1) ∧ decode cRec_bringAhead 47 = .ok (.iadd, 1) ∧ decode cRec_bringAhead 48 = .ok (.iastore, 1) ∧ decode cRec_bringAhead 49 = .ok (.aload_n 0, 1) ∧ decode cRec_bringAhead 50 = .ok (.dup, 1) ∧ True := Jvm.Free.DS.facts (code := cRec_bringAhead) 0 [(.aload_n 0, 1), (.getfield 12, 3), (.iload_n 1, 1), (.iconst 0, 1), (.invokevirtual 39, 3), (.istore_n 2, 1), (.aload_n 0, 1), (.getfield 12, 3), (.iload_n 2, 1), (.invokevirtual 43, 3), (.pop, 1), (.aload_n 0, 1), (.getfield 12, 3), (.iconst 0, 1), (.iload_n 1, 1), (.invokevirtual 47, 3), (.pop, 1), (.iload_n 1, 1), (.ifCond .lt 19, 3), (.iload_n 1, 1), (.bipush 8, 2), (.if_icmp .ge 13, 3), (.aload_n 0, 1), (.getfield 18, 3), (.iload_n 1, 1), (.dup2, 1), (.iaload, 1), (.iconst 1, 1), (.iadd, 1), (.iastore, 1), (.aload_n 0, 1), (.dup, 1)] (by decide +kernel) (by decide +kernel)
theorem dRec_bringAhead_0 : decode cRec_bringAhead 0 = .ok (.aload_n 0, 1) := zfRec_bringAhead_0.1
theorem dRec_bringAhead_1 : decode cRec_bringAhead 1 = .ok (.getfield 12, 3) := zfRec_bringAhead_0.2.1
theorem dRec_bringAhead_4 : decode cRec_bringAhead 4 = .ok (.iload_n 1, 1) := zfRec_bringAhead_0.2.2.1
theorem dRec_bringAhead_5 : decode cRec_bringAhead 5 = .ok (.iconst 0, 1) := zfRec_bringAhead_0.2.2.2.1
theorem dRec_bringAhead_6 : decode cRec_bringAhead 6 = .ok (.invokevirtual 39, 3) := zfRec_bringAhead_0.2.2.2.2.1
theorem dRec_bringAhead_9 : decode cRec_bringAhead 9 = .ok (.istore_n 2, 1) := zfRec_bringAhead_0.2.2.2.2.2.1
theorem dRec_bringAhead_10 : decode cRec_bringAhead 10 = .ok (.aload_n 0, 1) := zfRec_bringAhead_0.2.2.2.2.2.2.1
theorem dRec_bringAhead_11 : decode cRec_bringAhead 11 = .ok (.getfield 12, 3) := zfRec_bringAhead_0.2.2.2.2.2.2.2.1
theorem dRec_bringAhead_14 : decode cRec_bringAhead 14 = .ok (.iload_n 2, 1) := zfRec_bringAhead_0.2.2.2.2.2.2.2.2.1
theorem dRec_bringAhead_15 : decode cRec_bringAhead 15 = .ok (.invokevirtual 43, 3) := zfRec_bringAhead_0.2.2.2.2.2.2.2.2.2.1
theorem dRec_bringAhead_18 : decode cRec_bringAhead 18 = .ok (.pop, 1) := zfRec_bringAhead_0.2.2.2.2.2.2.2.2.2.2.1
theorem dRec_bringAhead_19 : decode cRec_bringAhead 19 = .ok (.aload_n 0, 1) := zfRec_bringAhead_0.2.2.2.2.2.2.2.2.2.2.2.1
theorem dRec_bringAhead_20 : decode cRec_bringAhead 20 = .ok (.getfield 12, 3) := zfRec_bringAhead_0.2.2.2.2.2.2.2.2.2.2.2.2.1
theorem dRec_bringAhead_23 : decode cRec_bringAhead 23 = .ok (.iconst 0, 1) := zfRec_bringAhead_0.2.2.2.2.2.2.2.2.2.2.2.2.2.1
theorem dRec_bringAhead_24 : decode cRec_bringAhead 24 = .ok (.iload_n 1, 1) := zfRec_bringAhead_0.2.2.2.2.2.2.2.2.2.2.2.2.2.2.1
theorem dRec_bringAhead_25 : decode cRec_bringAhead 25 = .ok (.invokevirtual 47, 3) := zfRec_bringAhead_0.2.2.2.2.2.2.2.2.2.2.2.2.2.2.2.1
theorem dRec_bringAhead_28 : decode cRec_bringAhead 28 = .ok (.pop, 1) := zfRec_bringAhead_0.2.2.2.2.2.2.2.2.2.2.2.2.2.2.2.2.1
theorem dRec_bringAhead_29 : decode cRec_bringAhead 29 = .ok (.iload_n 1, 1) := zfRec_bringAhead_0.2.2.2.2.2.2.2.2.2.2.2.2.2.2.2.2.2.1
theorem dRec_bringAhead_30 : decode cRec_bringAhead 30 = .ok (.ifCond .lt 19, 3) := zfRec_bringAhead_0.2.2.2.2.2.2.2.2.2.2.2.2.2.2.2.2.2.2.1
theorem dRec_bringAhead_33 : decode cRec_bringAhead 33 = .ok (.iload_n 1, 1) := zfRec_bringAhead_0.2.2.2.2.2.2.2.2.2.2.2.2.2.2.2.2.2.2.2.1
theorem dRec_bringAhead_34 : decode cRec_bringAhead 34 = .ok (.bipush 8, 2) := zfRec_bringAhead_0.2.2.2.2.2.2.2.2.2.2.2.2.2.2.2.2.2.2.2.2.1
theorem dRec_bringAhead_36 : decode cRec_bringAhead 36 = .ok (.if_icmp .ge 13, 3) := zfRec_bringAhead_0.2.2.2.2.2.2.2.2.2.2.2.2.2.2.2.2.2.2.2.2.2.1
theorem dRec_bringAhead_39 : decode cRec_bringAhead 39 = .ok (.aload_n 0, 1) := zfRec_bringAhead_0.2.2.2.2.2.2.2.2.2.2.2.2.2.2.2.2.2.2.2.2.2.2.1
theorem dRec_bringAhead_40 : decode cRec_bringAhead 40 = .ok (.getfield 18, 3) := zfRec_bringAhead_0.2.2.2.2.2.2.2.2.2.2.2.2.2.2.2.2.2.2.2.2.2.2.2.1
theorem dRec_bringAhead_43 : decode cRec_bringAhead 43 = .ok (.iload_n 1, 1) := zfRec_bringAhead_0.2.2.2.2.2.2.2.2.2.2.2.2.2.2.2.2.2.2.2.2.2.2.2.2.1
theorem dRec_bringAhead_44 : decode cRec_bringAhead 44 = .ok (.dup2, 1) := zfRec_bringAhead_0.2.2.2.2.2.2.2.2.2.2.2.2.2.2.2.2.2.2.2.2.2.2.2.2.2.1
theorem dRec_bringAhead_45 : decode cRec_bringAhead 45 = .ok (.iaload, 1) := zfRec_bringAhead_0.2.2.2.2.2.2.2.2.2.2.2.2.2.2.2.2.2.2.2.2.2.2.2.2.2.2.1
theorem dRec_bringAhead_46 : decode cRec_bringAhead 46 = .ok (.iconst 1, 1) := zfRec_bringAhead_0.2.2.2.2.2.2.2.2.2.2.2.2.2.2.2.2.2.2.2.2.2.2.2.2.2.2.2.1
theorem dRec_bringAhead_47 : decode cRec_bringAhead 47 = .ok (.iadd, 1) := zfRec_bringAhead_0.2.2.2.2.2.2.2.2.2.2.2.2.2.2.2.2.2.2.2.2.2.2.2.2.2.2.2.2.1
theorem dRec_bringAhead_48 : decode cRec_bringAhead 48 = .ok (.iastore, 1) := zfRec_bringAhead_0.2.2.2.2.2.2.2.2.2.2.2.2.2.2.2.2.2.2.2.2.2.2.2.2.2.2.2.2.2.1
theorem dRec_bringAhead_49 : decode cRec_bringAhead 49 = .ok (.aload_n 0, 1) := zfRec_bringAhead_0.2.2.2.2.2.2.2.2.2.2.2.2.2.2.2.2.2.2.2.2.2.2.2.2.2.2.2.2.2.2.1
theorem dRec_bringAhead_50 : decode cRec_bringAhead 50 = .ok (.dup, 1) := zfRec_bringAhead_0.2.2.2.2.2.2.2.2.2.2.2.2.2.2.2.2.2.2.2.2.2.2.2.2.2.2.2.2.2.2.2.1
theorem zfRec_bringAhead_51 : decode cRec_bringAhead 51 = .ok (.getfield 29, 3) ∧ decode cRec_bringAhead 54 = .ok (.iconst 1, 1) ∧ decode cRec_bringAhead 55 = .ok (.iadd, 1) ∧ decode cRec_bringAhead 56 = .ok (.putfield 29, 3) ∧ decode cRec_bringAhead 59 = .ok (.aload_n 0, 1) ∧ decode cRec_bringAhead 60 = .ok (.dup, 1) ∧ decode cRec_bringAhead 61 = .ok (.getfield 33, 3) ∧ decode cRec_bringAhead 64 = .ok (.iload_n 2, 1) ∧ decode cRec_bringAhead 65 = .ok (.iconst 1, 1) ∧ decode cRec_bringAhead 66 = .ok (.iadd, 1) ∧ decode cRec_bringAhead 67 = .ok (.iadd, 1) ∧ decode cRec_bringAhead 68 = .ok (.putfield 33, 3) ∧ decode cRec_bringAhead 71 = .ok (.aload_n 0, 1) ∧ decode cRec_bringAhead 72 = .ok (.iload_n 1, 1) ∧ decode cRec_bringAhead 73 = .ok (.putfield 36, 3) ∧ decode cRec_bringAhead 76 = .ok (.iload_n 2, 1) ∧ decode cRec_bringAhead 77 = .ok (.iconst 1, 1) ∧ decode cRec_bringAhead 78 = .ok (.iadd, 1) ∧ decode cRec_bringAhead 79 = .ok (.ireturn, 1) ∧ True := Jvm.Free.DS.facts (code := cRec_bringAhead) 51 [(.getfield 29, 3), (.iconst 1, 1), (.iadd, 1), (.putfield 29, 3), (.aload_n 0, 1), (.dup, 1), (.getfield 33, 3), (.iload_n 2, 1), (.iconst 1, 1), (.iadd, 1), (.iadd, 1), (.putfield 33, 3), (.aload_n 0, 1), (.iload_n 1, 1), (.putfield 36, 3), (.iload_n 2, 1), (.iconst 1, 1), (.iadd, 1), (.ireturn, 1)] (by decide +kernel) (by decide +kernel)
theorem dRec_bringAhead_51 : decode cRec_bringAhead 51 = .ok (.getfield 29, 3) := zfRec_bringAhead_51.1
theorem dRec_bringAhead_54 : decode cRec_bringAhead 54 = .ok (.iconst 1, 1) := zfRec_bringAhead_51.2.1
theorem dRec_bringAhead_55 : decode cRec_bringAhead 55 = .ok (.iadd, 1) := zfRec_bringAhead_51.2.2.1
theorem dRec_bringAhead_56 : decode cRec_bringAhead 56 = .ok (.putfield 29, 3) := zfRec_bringAhead_51.2.2.2.1
theorem dRec_bringAhead_59 : decode cRec_bringAhead 59 = .ok (.aload_n 0, 1) := zfRec_bringAhead_51.2.2.2.2.1
theorem dRec_bringAhead_60 : decode cRec_bringAhead 60 = .ok (.dup, 1) := zfRec_bringAhead_51.2.2.2.2.2.1
theorem dRec_bringAhead_61 : decode cRec_bringAhead 61 = .ok (.getfield 33, 3) := zfRec_bringAhead_51.2.2.2.2.2.2.1
theorem dRec_bringAhead_64 : decode cRec_bringAhead 64 = .ok (.iload_n 2, 1) := zfRec_bringAhead_51.2.2.2.2.2.2.2.1
theorem dRec_bringAhead_65 : decode cRec_bringAhead 65 = .ok (.iconst 1, 1) := zfRec_bringAhead_51.2.2.2.2.2.2.2.2.1
theorem dRec_bringAhead_66 : decode cRec_bringAhead 66 = .ok (.iadd, 1) := zfRec_bringAhead_51.2.2.2.2.2.2.2.2.2.1
theorem dRec_bringAhead_67 : decode cRec_bringAhead 67 = .ok (.iadd, 1) := zfRec_bringAhead_51.2.2.2.2.2.2.2.2.2.2.1
theorem dRec_bringAhead_68 : decode cRec_bringAhead 68 = .ok (.putfield 33, 3) := zfRec_bringAhead_51.2.2.2.2.2.2.2.2.2.2.2.1
theorem dRec_bringAhead_71 : decode cRec_bringAhead 71 = .ok (.aload_n 0, 1) := zfRec_bringAhead_51.2.2.2.2.2.2.2.2.2.2.2.2.1
theorem dRec_bringAhead_72 : decode cRec_bringAhead 72 = .ok (.iload_n 1, 1) := zfRec_bringAhead_51.2.2.2.2.2.2.2.2.2.2.2.2.2.1
theorem dRec_bringAhead_73 : decode cRec_bringAhead 73 = .ok (.putfield 36, 3) := zfRec_bringAhead_51.2.2.2.2.2.2.2.2.2.2.2.2.2.2.1
theorem dRec_bringAhead_76 : decode cRec_bringAhead 76 = .ok (.iload_n 2, 1) := zfRec_bringAhead_51.2.2.2.2.2.2.2.2.2.2.2.2.2.2.2.1
theorem dRec_bringAhead_77 : decode cRec_bringAhead 77 = .ok (.iconst 1, 1) := zfRec_bringAhead_51.2.2.2.2.2.2.2.2.2.2.2.2.2.2.2.2.1
theorem dRec_bringAhead_78 : decode cRec_bringAhead 78 = .ok (.iadd, 1) := zfRec_bringAhead_51.2.2.2.2.2.2.2.2.2.2.2.2.2.2.2.2.2.1
theorem dRec_bringAhead_79 : decode cRec_bringAhead 79 = .ok (.ireturn, 1) := zfRec_bringAhead_51.2.2.2.2.2.2.2.2.2.2.2.2.2.2.2.2.2.2.1
theorem zfRec_costBy_0 : decode cRec_costBy 0 = .ok (.iconst 0, 1) ∧ decode cRec_costBy 1 = .ok (.istore_n 2, 1) ∧ decode cRec_costBy 2 = .ok (.iconst 0, 1) ∧ decode cRec_costBy 3 = .ok (.istore_n 3, 1) ∧ decode cRec_costBy 4 = .ok (.iload_n 3, 1) ∧ decode cRec_costBy 5 = .ok (.bipush 8, 2) ∧ decode cRec_costBy 7 = .ok (.if_icmp .ge 27, 3) ∧ decode cRec_costBy 10 = .ok (.iload_n 2, 1) ∧ decode cRec_costBy 11 = .ok (.aload_n 0, 1) ∧ decode cRec_costBy 12 = .ok (.getfield 18, 3) ∧ decode cRec_costBy 15 = .ok (.iload_n 3, 1) ∧ decode cRec_costBy 16 = .ok (.iaload, 1) ∧ decode cRec_costBy 17 = .ok (.aload_n 1, 1) ∧ decode cRec_costBy 18 = .ok (.iload_n 3, 1) ∧ decode cRec_costBy 19 = .ok (.iconst 0, 1) ∧ decode cRec_costBy 20 = .ok (.invokevirtual 39, 3) ∧ decode cRec_costBy 23 = .ok (.iconst 1, 1) ∧ decode cRec_costBy 24 = .ok (.iadd, 1) ∧ decode cRec_costBy 25 = .ok (.imul, 1) ∧ decode cRec_costBy 26 = .ok (.iadd, 1) ∧ decode cRec_costBy 27 = .ok (.istore_n 2, 1) ∧ decode cRec_costBy 28 = .ok (.iinc 3 1, 3) ∧ decode cRec_costBy 31 = .ok (.goto (-27), 3) ∧ decode cRec_costBy 34 = .ok (.iload_n 2, 1) ∧ decode cRec_costBy 35 = .ok (.ireturn, 1) ∧ True := Jvm.Free.DS.facts (code := cRec_costBy) 0 [(.iconst 0, 1), (.istore_n 2, 1), (.iconst 0, 1), (.istore_n 3, 1), (.iload_n 3, 1), (.bipush 8, 2), (.if_icmp .ge 27, 3), (.iload_n 2, 1), (.aload_n 0, 1), (.getfield 18, 3), (.iload_n 3, 1), (.iaload, 1), (.aload_n 1, 1), (.iload_n 3, 1), (.iconst 0, 1), (.invokevirtual 39, 3), (.iconst 1, 1), (.iadd, 1), (.imul, 1), (.iadd, 1), (.istore_n 2, 1), (.iinc 3 1, 3), (.goto (-27), 3), (.iload_n 2, 1), (.ireturn, 1)] (by decide +kernel) (by decide +kernel)
theorem dRec_costBy_0 : decode cRec_costBy 0 = .ok (.iconst 0, 1) := zfRec_costBy_0.1
theorem dRec_costBy_1 : decode cRec_costBy 1 = .ok (.istore_n 2, 1) := zfRec_costBy_0.2.1
theorem dRec_costBy_2 : decode cRec_costBy 2 = .ok (.iconst 0, 1) := zfRec_costBy_0.2.2.1
theorem dRec_costBy_3 : decode cRec_costBy 3 = .ok (.istore_n 3, 1) := zfRec_costBy_0.2.2.2.1
theorem dRec_costBy_4 : decode cRec_costBy 4 = .ok (.iload_n 3, 1) := zfRec_costBy_0.2.2.2.2.1
theorem dRec_costBy_5 : decode cRec_costBy 5 = .ok (.bipush 8, 2) := zfRec_costBy_0.2.2.2.2.2.1
theorem dRec_costBy_7 : decode cRec_costBy 7 = .ok (.if_icmp .ge 27, 3) := zfRec_costBy_0.2.2.2.2.2.2.1
theorem dRec_costBy_10 : decode cRec_costBy 10 = .ok (.iload_n 2, 1) := zfRec_costBy_0.2.2.2.2.2.2.2.1
theorem dRec_costBy_11 : decode cRec_costBy 11 = .ok (.aload_n 0, 1) := zfRec_costBy_0.2.2.2.2.2.2.2.2.1
theorem dRec_costBy_12 : decode cRec_costBy 12 = .ok (.getfield 18, 3) := zfRec_costBy_0.2.2.2.2.2.2.2.2.2.1
theorem dRec_costBy_15 : decode cRec_costBy 15 = .ok (.iload_n 3, 1) := zfRec_costBy_0.2.2.2.2.2.2.2.2.2.2.1
theorem dRec_costBy_16 : decode cRec_costBy 16 = .ok (.iaload, 1) := zfRec_costBy_0.2.2.2.2.2.2.2.2.2.2.2.1
theorem dRec_costBy_17 : decode cRec_costBy 17 = .ok (.aload_n 1, 1) := zfRec_costBy_0.2.2.2.2.2.2.2.2.2.2.2.2.1
theorem dRec_costBy_18 : decode cRec_costBy 18 = .ok (.iload_n 3, 1) := zfRec_costBy_0.2.2.2.2.2.2.2.2.2.2.2.2.2.1
theorem dRec_costBy_19 : decode cRec_costBy 19 = .ok (.iconst 0, 1) := zfRec_costBy_0.2.2.2.2.2.2.2.2.2.2.2.2.2.2.1
theorem dRec_costBy_20 : decode cRec_costBy 20 = .ok (.invokevirtual 39, 3) := zfRec_costBy_0.2.2.2.2.2.2.2.2.2.2.2.2.2.2.2.1
theorem dRec_costBy_23 : decode cRec_costBy 23 = .ok (.iconst 1, 1) := zfRec_costBy_0.2.2.2.2.2.2.2.2.2.2.2.2.2.2.2.2.1
theorem dRec_costBy_24 : decode cRec_costBy 24 = .ok (.iadd, 1) := zfRec_costBy_0.2.2.2.2.2.2.2.2.2.2.2.2.2.2.2.2.2.1
theorem dRec_costBy_25 : decode cRec_costBy 25 = .ok (.imul, 1) := zfRec_costBy_0.2.2.2.2.2.2.2.2.2.2.2.2.2.2.2.2.2.2.1
theorem dRec_costBy_26 : decode cRec_costBy 26 = .ok (.iadd, 1) := zfRec_costBy_0.2.2.2.2.2.2.2.2.2.2.2.2.2.2.2.2.2.2.2.1
theorem dRec_costBy_27 : decode cRec_costBy 27 = .ok (.istore_n 2, 1) := zfRec_costBy_0.2.2.2.2.2.2.2.2.2.2.2.2.2.2.2.2.2.2.2.2.1
theorem dRec_costBy_28 : decode cRec_costBy 28 = .ok (.iinc 3 1, 3) := zfRec_costBy_0.2.2.2.2.2.2.2.2.2.2.2.2.2.2.2.2.2.2.2.2.2.1
theorem dRec_costBy_31 : decode cRec_costBy 31 = .ok (.goto (-27), 3) := zfRec_costBy_0.2.2.2.2.2.2.2.2.2.2.2.2.2.2.2.2.2.2.2.2.2.2.1
theorem dRec_costBy_34 : decode cRec_costBy 34 = .ok (.iload_n 2, 1) := zfRec_costBy_0.2.2.2.2.2.2.2.2.2.2.2.2.2.2.2.2.2.2.2.2.2.2.2.1
theorem dRec_costBy_35 : decode cRec_costBy 35 = .ok (.ireturn, 1) := zfRec_costBy_0.2.2.2.2.2.2.2.2.2.2.2.2.2.2.2.2.2.2.2.2.2.2.2.2.1
theorem zfRec_boundBy_0 : decode cRec_boundBy 0 = .ok (.iconst 2, 1) ∧ decode cRec_boundBy 1 = .ok (.aload_n 0, 1) ∧ decode cRec_boundBy 2 = .ok (.aload_n 1, 1) ∧ decode cRec_boundBy 3 = .ok (.invokevirtual 51, 3) ∧ decode cRec_boundBy 6 = .ok (.imul, 1) ∧ decode cRec_boundBy 7 = .ok (.aload_n 0, 1) ∧ decode cRec_boundBy 8 = .ok (.getfield 29, 3) ∧ decode cRec_boundBy 11 = .ok (.isub, 1) ∧ decode cRec_boundBy 12 = .ok (.aload_n 1, 1) ∧ decode cRec_boundBy 13 = .ok (.invokevirtual 55, 3) ∧ decode cRec_boundBy 16 = .ok (.iadd, 1) ∧ decode cRec_boundBy 17 = .ok (.ireturn, 1) ∧ True := Jvm.Free.DS.facts (code := cRec_boundBy) 0 [(.iconst 2, 1), (.aload_n 0, 1), (.aload_n 1, 1), (.invokevirtual 51, 3), (.imul, 1), (.aload_n 0, 1), (.getfield 29, 3), (.isub, 1), (.aload_n 1, 1), (.invokevirtual 55, 3), (.iadd, 1), (.ireturn, 1)] (by decide +kernel) (by decide +kernel)
theorem dRec_boundBy_0 : decode cRec_boundBy 0 = .ok (.iconst 2, 1) := zfRec_boundBy_0.1
theorem dRec_boundBy_1 : decode cRec_boundBy 1 = .ok (.aload_n 0, 1) := zfRec_boundBy_0.2.1
theorem dRec_boundBy_2 : decode cRec_boundBy 2 = .ok (.aload_n 1, 1) := zfRec_boundBy_0.2.2.1
theorem dRec_boundBy_3 : decode cRec_boundBy 3 = .ok (.invokevirtual 51, 3) := zfRec_boundBy_0.2.2.2.1
theorem dRec_boundBy_6 : decode cRec_boundBy 6 = .ok (.imul, 1) := zfRec_boundBy_0.2.2.2.2.1
theorem dRec_boundBy_7 : decode cRec_boundBy 7 = .ok (.aload_n 0, 1) := zfRec_boundBy_0.2.2.2.2.2.1
theorem dRec_boundBy_8 : decode cRec_boundBy 8 = .ok (.getfield 29, 3) := zfRec_boundBy_0.2.2.2.2.2.2.1
theorem dRec_boundBy_11 : decode cRec_boundBy 11 = .ok (.isub, 1) := zfRec_boundBy_0.2.2.2.2.2.2.2.1
theorem dRec_boundBy_12 : decode cRec_boundBy 12 = .ok (.aload_n 1, 1) := zfRec_boundBy_0.2.2.2.2.2.2.2.2.1
theorem dRec_boundBy_13 : decode cRec_boundBy 13 = .ok (.invokevirtual 55, 3) := zfRec_boundBy_0.2.2.2.2.2.2.2.2.2.1
theorem dRec_boundBy_16 : decode cRec_boundBy 16 = .ok (.iadd, 1) := zfRec_boundBy_0.2.2.2.2.2.2.2.2.2.2.1
theorem dRec_boundBy_17 : decode cRec_boundBy 17 = .ok (.ireturn, 1) := zfRec_boundBy_0.2.2.2.2.2.2.2.2.2.2.2.1
theorem zfRow_init_0 : decode cRow_init 0 = .ok (.aload_n 0, 1) ∧ decode cRow_init 1 = .ok (.invokespecial 3, 3) ∧ decode cRow_init 4 = .ok (.aload_n 0, 1) ∧ decode cRow_init 5 = .ok (.bipush 16, 2) ∧ decode cRow_init 7 = .ok (.newarray .int, 2) ∧ decode cRow_init 9 = .ok (.putfield 9, 3) ∧ decode cRow_init 12 = .ok (.return_, 1) ∧ True := Jvm.Free.DS.facts (code := cRow_init) 0 [(.aload_n 0, 1), (.invokespecial 3, 3), (.aload_n 0, 1), (.bipush 16, 2), (.newarray .int, 2), (.putfield 9, 3), (.return_, 1)] (by decide +kernel) (by decide +kernel)
theorem dRow_init_0 : decode cRow_init 0 = .ok (.aload_n 0, 1) := zfRow_init_0.1
theorem dRow_init_1 : decode cRow_init 1 = .ok (.invokespecial 3, 3) := zfRow_init_0.2.1
theorem dRow_init_4 : decode cRow_init 4 = .ok (.aload_n 0, 1) := zfRow_init_0.2.2.1
theorem dRow_init_5 : decode cRow_init 5 = .ok (.bipush 16, 2) := zfRow_init_0.2.2.2.1
theorem dRow_init_7 : decode cRow_init 7 = .ok (.newarray .int, 2) := zfRow_init_0.2.2.2.2.1
theorem dRow_init_9 : decode cRow_init 9 = .ok (.putfield 9, 3) := zfRow_init_0.2.2.2.2.2.1
theorem dRow_init_12 : decode cRow_init 12 = .ok (.return_, 1) := zfRow_init_0.2.2.2.2.2.2.1
theorem zfRow_hasPlace_0 : decode cRow_hasPlace 0 = .ok (.iload_n 1, 1) ∧ decode cRow_hasPlace 1 = .ok (.ifCond .lt 15, 3) ∧ decode cRow_hasPlace 4 = .ok (.iload_n 1, 1) ∧ decode cRow_hasPlace 5 = .ok (.aload_n 0, 1) ∧ decode cRow_hasPlace 6 = .ok (.getfield 15, 3) ∧ decode cRow_hasPlace 9 = .ok (.if_icmp .ge 7, 3) ∧ decode cRow_hasPlace 12 = .ok (.iconst 1, 1) ∧ decode cRow_hasPlace 13 = .ok (.goto 4, 3) ∧ decode cRow_hasPlace 16 = .ok (.iconst 0, 1) ∧ decode cRow_hasPlace 17 = .ok (.ireturn, 1) ∧ True := Jvm.Free.DS.facts (code := cRow_hasPlace) 0 [(.iload_n 1, 1), (.ifCond .lt 15, 3), (.iload_n 1, 1), (.aload_n 0, 1), (.getfield 15, 3), (.if_icmp .ge 7, 3), (.iconst 1, 1), (.goto 4, 3), (.iconst 0, 1), (.ireturn, 1)] (by decide +kernel) (by decide +kernel)
theorem dRow_hasPlace_0 : decode cRow_hasPlace 0 = .ok (.iload_n 1, 1) := zfRow_hasPlace_0.1
theorem dRow_hasPlace_1 : decode cRow_hasPlace 1 = .ok (.ifCond .lt 15, 3) := zfRow_hasPlace_0.2.1
theorem dRow_hasPlace_4 : decode cRow_hasPlace 4 = .ok (.iload_n 1, 1) := zfRow_hasPlace_0.2.2.1
theorem dRow_hasPlace_5 : decode cRow_hasPlace 5 = .ok (.aload_n 0, 1) := zfRow_hasPlace_0.2.2.2.1
theorem dRow_hasPlace_6 : decode cRow_hasPlace 6 = .ok (.getfield 15, 3) := zfRow_hasPlace_0.2.2.2.2.1
theorem dRow_hasPlace_9 : decode cRow_hasPlace 9 = .ok (.if_icmp .ge 7, 3) := zfRow_hasPlace_0.2.2.2.2.2.1
theorem dRow_hasPlace_12 : decode cRow_hasPlace 12 = .ok (.iconst 1, 1) := zfRow_hasPlace_0.2.2.2.2.2.2.1
theorem dRow_hasPlace_13 : decode cRow_hasPlace 13 = .ok (.goto 4, 3) := zfRow_hasPlace_0.2.2.2.2.2.2.2.1
theorem dRow_hasPlace_16 : decode cRow_hasPlace 16 = .ok (.iconst 0, 1) := zfRow_hasPlace_0.2.2.2.2.2.2.2.2.1
theorem dRow_hasPlace_17 : decode cRow_hasPlace 17 = .ok (.ireturn, 1) := zfRow_hasPlace_0.2.2.2.2.2.2.2.2.2.1
theorem zfRow_hasGap_0 : decode cRow_hasGap 0 = .ok (.iload_n 1, 1) ∧ decode cRow_hasGap 1 = .ok (.ifCond .lt 15, 3) ∧ decode cRow_hasGap 4 = .ok (.iload_n 1, 1) ∧ decode cRow_hasGap 5 = .ok (.aload_n 0, 1) ∧ decode cRow_hasGap 6 = .ok (.getfield 15, 3) ∧ decode cRow_hasGap 9 = .ok (.if_icmp .gt 7, 3) ∧ decode cRow_hasGap 12 = .ok (.iconst 1, 1) ∧ decode cRow_hasGap 13 = .ok (.goto 4, 3) ∧ decode cRow_hasGap 16 = .ok (.iconst 0, 1) ∧ decode cRow_hasGap 17 = .ok (.ireturn, 1) ∧ True := Jvm.Free.DS.facts (code := cRow_hasGap) 0 [(.iload_n 1, 1), (.ifCond .lt 15, 3), (.iload_n 1, 1), (.aload_n 0, 1), (.getfield 15, 3), (.if_icmp .gt 7, 3), (.iconst 1, 1), (.goto 4, 3), (.iconst 0, 1), (.ireturn, 1)] (by decide +kernel) (by decide +kernel)
theorem dRow_hasGap_0 : decode cRow_hasGap 0 = .ok (.iload_n 1, 1) := zfRow_hasGap_0.1
theorem dRow_hasGap_1 : decode cRow_hasGap 1 = .ok (.ifCond .lt 15, 3) := zfRow_hasGap_0.2.1
theorem dRow_hasGap_4 : decode cRow_hasGap 4 = .ok (.iload_n 1, 1) := zfRow_hasGap_0.2.2.1
theorem dRow_hasGap_5 : decode cRow_hasGap 5 = .ok (.aload_n 0, 1) := zfRow_hasGap_0.2.2.2.1
theorem dRow_hasGap_6 : decode cRow_hasGap 6 = .ok (.getfield 15, 3) := zfRow_hasGap_0.2.2.2.2.1
theorem dRow_hasGap_9 : decode cRow_hasGap 9 = .ok (.if_icmp .gt 7, 3) := zfRow_hasGap_0.2.2.2.2.2.1
theorem dRow_hasGap_12 : decode cRow_hasGap 12 = .ok (.iconst 1, 1) := zfRow_hasGap_0.2.2.2.2.2.2.1
theorem dRow_hasGap_13 : decode cRow_hasGap 13 = .ok (.goto 4, 3) := zfRow_hasGap_0.2.2.2.2.2.2.2.1
theorem dRow_hasGap_16 : decode cRow_hasGap 16 = .ok (.iconst 0, 1) := zfRow_hasGap_0.2.2.2.2.2.2.2.2.1
theorem dRow_hasGap_17 : decode cRow_hasGap 17 = .ok (.ireturn, 1) := zfRow_hasGap_0.2.2.2.2.2.2.2.2.2.1
theorem zfRow_itemAt_0 : decode cRow_itemAt 0 = .ok (.aload_n 0, 1) ∧ decode cRow_itemAt 1 = .ok (.iload_n 1, 1) ∧ decode cRow_itemAt 2 = .ok (.invokevirtual 19, 3) ∧ decode cRow_itemAt 5 = .ok (.ifCond .eq 12, 3) ∧ decode cRow_itemAt 8 = .ok (.aload_n 0, 1) ∧ decode cRow_itemAt 9 = .ok (.getfield 9, 3) ∧ decode cRow_itemAt 12 = .ok (.iload_n 1, 1) ∧ decode cRow_itemAt 13 = .ok (.iaload, 1) ∧ decode cRow_itemAt 14 = .ok (.goto 4, 3) ∧ decode cRow_itemAt 17 = .ok (.iconst 0, 1) ∧ decode cRow_itemAt 18 = .ok (.ireturn, 1) ∧ True := Jvm.Free.DS.facts (code := cRow_itemAt) 0 [(.aload_n 0, 1), (.iload_n 1, 1), (.invokevirtual 19, 3), (.ifCond .eq 12, 3), (.aload_n 0, 1), (.getfield 9, 3), (.iload_n 1, 1), (.iaload, 1), (.goto 4, 3), (.iconst 0, 1), (.ireturn, 1)] (by decide +kernel) (by decide +kernel)
theorem dRow_itemAt_0 : decode cRow_itemAt 0 = .ok (.aload_n 0, 1) := zfRow_itemAt_0.1
theorem dRow_itemAt_1 : decode cRow_itemAt 1 = .ok (.iload_n 1, 1) := zfRow_itemAt_0.2.1
theorem dRow_itemAt_2 : decode cRow_itemAt 2 = .ok (.invokevirtual 19, 3) := zfRow_itemAt_0.2.2.1
theorem dRow_itemAt_5 : decode cRow_itemAt 5 = .ok (.ifCond .eq 12, 3) := zfRow_itemAt_0.2.2.2.1
theorem dRow_itemAt_8 : decode cRow_itemAt 8 = .ok (.aload_n 0, 1) := zfRow_itemAt_0.2.2.2.2.1
theorem dRow_itemAt_9 : decode cRow_itemAt 9 = .ok (.getfield 9, 3) := zfRow_itemAt_0.2.2.2.2.2.1
theorem dRow_itemAt_12 : decode cRow_itemAt 12 = .ok (.iload_n 1, 1) := zfRow_itemAt_0.2.2.2.2.2.2.1
theorem dRow_itemAt_13 : decode cRow_itemAt 13 = .ok (.iaload, 1) := zfRow_itemAt_0.2.2.2.2.2.2.2.1
theorem dRow_itemAt_14 : decode cRow_itemAt 14 = .ok (.goto 4, 3) := zfRow_itemAt_0.2.2.2.2.2.2.2.2.1
theorem dRow_itemAt_17 : decode cRow_itemAt 17 = .ok (.iconst 0, 1) := zfRow_itemAt_0.2.2.2.2.2.2.2.2.2.1
theorem dRow_itemAt_18 : decode cRow_itemAt 18 = .ok (.ireturn, 1) := zfRow_itemAt_0.2.2.2.2.2.2.2.2.2.2.1
theorem zfRow_changeAt_0 : decode cRow_changeAt 0 = .ok (.aload_n 0, 1) ∧ decode cRow_changeAt 1 = .ok (.iload_n 1, 1) ∧ decode cRow_changeAt 2 = .ok (.invokevirtual 19, 3) ∧ decode cRow_changeAt 5 = .ok (.ifCond .eq 10, 3) ∧ decode cRow_changeAt 8 = .ok (.aload_n 0, 1) ∧ decode cRow_changeAt 9 = .ok (.getfield 9, 3) ∧ decode cRow_changeAt 12 = .ok (.iload_n 1, 1) ∧ decode cRow_changeAt 13 = .ok (.iload_n 2, 1) ∧ decode cRow_changeAt 14 = .ok (.iastore, 1) ∧ decode cRow_changeAt 15 = .ok (.return_, 1) ∧ True := Jvm.Free.DS.facts (code := cRow_changeAt) 0 [(.aload_n 0, 1), (.iload_n 1, 1), (.invokevirtual 19, 3), (.ifCond .eq 10, 3), (.aload_n 0, 1), (.getfield 9, 3), (.iload_n 1, 1), (.iload_n 2, 1), (.iastore, 1), (.return_, 1)] (by decide +kernel) (by decide +kernel)
theorem dRow_changeAt_0 : decode cRow_changeAt 0 = .ok (.aload_n 0, 1) := zfRow_changeAt_0.1
theorem dRow_changeAt_1 : decode cRow_changeAt 1 = .ok (.iload_n 1, 1) := zfRow_changeAt_0.2.1
theorem dRow_changeAt_2 : decode cRow_changeAt 2 = .ok (.invokevirtual 19, 3) := zfRow_changeAt_0.2.2.1
theorem dRow_changeAt_5 : decode cRow_changeAt 5 = .ok (.ifCond .eq 10, 3) := zfRow_changeAt_0.2.2.2.1
theorem dRow_changeAt_8 : decode cRow_changeAt 8 = .ok (.aload_n 0, 1) := zfRow_changeAt_0.2.2.2.2.1
theorem dRow_changeAt_9 : decode cRow_changeAt 9 = .ok (.getfield 9, 3) := zfRow_changeAt_0.2.2.2.2.2.1
theorem dRow_changeAt_12 : decode cRow_changeAt 12 = .ok (.iload_n 1, 1) := zfRow_changeAt_0.2.2.2.2.2.2.1
theorem dRow_changeAt_13 : decode cRow_changeAt 13 = .ok (.iload_n 2, 1) := zfRow_changeAt_0.2.2.2.2.2.2.2.1
theorem dRow_changeAt_14 : decode cRow_changeAt 14 = .ok (.iastore, 1) := zfRow_changeAt_0.2.2.2.2.2.2.2.2.1
theorem dRow_changeAt_15 : decode cRow_changeAt 15 = .ok (.return_, 1) := zfRow_changeAt_0.2.2.2.2.2.2.2.2.2.1
theorem zfRow_putIn_0 : decode cRow_putIn 0 = .ok (.aload_n 0, 1) ∧ decode cRow_putIn 1 = .ok (.getfield 15, 3) ∧ decode cRow_putIn 4 = .ok (.bipush 16, 2) ∧ decode cRow_putIn 6 = .ok (.if_icmp .ge 11, 3) ∧ decode cRow_putIn 9 = .ok (.aload_n 0, 1) ∧ decode cRow_putIn 10 = .ok (.iload_n 1, 1) ∧ decode cRow_putIn 11 = .ok (.invokevirtual 23, 3) ∧ decode cRow_putIn 14 = .ok (.ifCond .ne 5, 3) ∧ decode cRow_putIn 17 = .ok (.iconst 0, 1) ∧ decode cRow_putIn 18 = .ok (.ireturn, 1) ∧ decode cRow_putIn 19 = .ok (.aload_n 0, 1) ∧ decode cRow_putIn 20 = .ok (.getfield 15, 3) ∧ decode cRow_putIn 23 = .ok (.istore_n 3, 1) ∧ decode cRow_putIn 24 = .ok (.iload_n 3, 1) ∧ decode cRow_putIn 25 = .ok (.iload_n 1, 1) ∧ decode cRow_putIn 26 = .ok (.if_icmp .le 23, 3) ∧ decode cRow_putIn 29 = .ok (.aload_n 0, 1) ∧ decode cRow_putIn 30 = .ok (.getfield 9, 3) ∧ decode cRow_putIn 33 = .ok (.iload_n 3, 1) ∧ decode cRow_putIn 34 = .ok (.aload_n 0, 1) ∧ decode cRow_putIn 35 = .ok (.getfield 9, 3) ∧ decode cRow_putIn 38 = .ok (.iload_n 3, 1) ∧ decode cRow_putIn 39 = .ok (.iconst 1, 1) ∧ decode cRow_putIn 40 = .ok (.isub, 1) ∧ decode cRow_putIn 41 = .ok (.iaload, 1) ∧ decode cRow_putIn 42 = .ok (.iastore, 1) ∧ decode cRow_putIn 43 = .ok (.iinc 3 (-1), 3) ∧ decode cRow_putIn 46 = .ok (.goto (-22), 3) ∧ decode cRow_putIn 49 = .ok (.aload_n 0, 1) ∧ decode cRow_putIn 50 = .ok (.getfield 9, 3) ∧ decode cRow_putIn 53 = .ok (.iload_n 1, 1) ∧ decode cRow_putIn 54 = .ok (.iload_n 2, 1) ∧ True := Jvm.Free.DS.facts (code := cRow_putIn) 0 [(.aload_n 0, 1), (.getfield 15, 3), (.bipush 16, 2), (.if_icmp .ge 11, 3), (.aload_n 0, 1), (.iload_n 1, 1), (.invokevirtual 23, 3), (.ifCond .ne 5, 3), (.iconst 0, 1), (.ireturn, 1), (.aload_n 0, 1), (.getfield 15, 3), (.istore_n 3, 1), (.iload_n 3, 1), (.iload_n 1, 1), (.if_icmp .le 23, 3), (.aload_n 0, 1), (.getfield 9, 3), (.iload_n 3, 1), (.aload_n 0, 1), (.getfield 9, 3), (.iload_n 3, 1), (.iconst 1, 1), (.isub, 1), (.iaload, 1), (.iastore, 1), (.iinc 3 (-1), 3), (.goto (-22), 3), (.aload_n 0, 1), (.getfield 9, 3), (.iload_n 1, 1), (.iload_n 2, 1)] (by decide +kernel) (by decide +kernel)
theorem dRow_putIn_0 : decode cRow_putIn 0 = .ok (.aload_n 0, 1) := zfRow_putIn_0.1
theorem dRow_putIn_1 : decode cRow_putIn 1 = .ok (.getfield 15, 3) := zfRow_putIn_0.2.1
theorem dRow_putIn_4 : decode cRow_putIn 4 = .ok (.bipush 16, 2) := zfRow_putIn_0.2.2.1
theorem dRow_putIn_6 : decode cRow_putIn 6 = .ok (.if_icmp .ge 11, 3) := zfRow_putIn_0.2.2.2.1
theorem dRow_putIn_9 : decode cRow_putIn 9 = .ok (.aload_n 0, 1) := zfRow_putIn_0.2.2.2.2.1
theorem dRow_putIn_10 : decode cRow_putIn 10 = .ok (.iload_n 1, 1) := zfRow_putIn_0.2.2.2.2.2.1
theorem dRow_putIn_11 : decode cRow_putIn 11 = .ok (.invokevirtual 23, 3) := zfRow_putIn_0.2.2.2.2.2.2.1
theorem dRow_putIn_14 : decode cRow_putIn 14 = .ok (.ifCond .ne 5, 3) := zfRow_putIn_0.2.2.2.2.2.2.2.1
theorem dRow_putIn_17 : decode cRow_putIn 17 = .ok (.iconst 0, 1) := zfRow_putIn_0.2.2.2.2.2.2.2.2.1
theorem dRow_putIn_18 : decode cRow_putIn 18 = .ok (.ireturn, 1) := zfRow_putIn_0.2.2.2.2.2.2.2.2.2.1
theorem dRow_putIn_19 : decode cRow_putIn 19 = .ok (.aload_n 0, 1) := zfRow_putIn_0.2.2.2.2.2.2.2.2.2.2.1
theorem dRow_putIn_20 : decode cRow_putIn 20 = .ok (.getfield 15, 3) := zfRow_putIn_0.2.2.2.2.2.2.2.2.2.2.2.1
theorem dRow_putIn_23 : decode cRow_putIn 23 = .ok (.istore_n 3, 1) := zfRow_putIn_0.2.2.2.2.2.2.2.2.2.2.2.2.1
theorem dRow_putIn_24 : decode cRow_putIn 24 = .ok (.iload_n 3, 1) := zfRow_putIn_0.2.2.2.2.2.2.2.2.2.2.2.2.2.1
theorem dRow_putIn_25 : decode cRow_putIn 25 = .ok (.iload_n 1, 1) := zfRow_putIn_0.2.2.2.2.2.2.2.2.2.2.2.2.2.2.1
theorem dRow_putIn_26 : decode cRow_putIn 26 = .ok (.if_icmp .le 23, 3) := zfRow_putIn_0.2.2.2.2.2.2.2.2.2.2.2.2.2.2.2.1
theorem dRow_putIn_29 : decode cRow_putIn 29 = .ok (.aload_n 0, 1) := zfRow_putIn_0.2.2.2.2.2.2.2.2.2.2.2.2.2.2.2.2.1
theorem dRow_putIn_30 : decode cRow_putIn 30 = .ok (.getfield 9, 3) := zfRow_putIn_0.2.2.2.2.2.2.2.2.2.2.2.2.2.2.2.2.2.1
theorem dRow_putIn_33 : decode cRow_putIn 33 = .ok (.iload_n 3, 1) := zfRow_putIn_0.2.2.2.2.2.2.2.2.2.2.2.2.2.2.2.2.2.2.1
theorem dRow_putIn_34 : decode cRow_putIn 34 = .ok (.aload_n 0, 1) := zfRow_putIn_0.2.2.2.2.2.2.2.2.2.2.2.2.2.2.2.2.2.2.2.1
theorem dRow_putIn_35 : decode cRow_putIn 35 = .ok (.getfield 9, 3) := zfRow_putIn_0.2.2.2.2.2.2.2.2.2.2.2.2.2.2.2.2.2.2.2.2.1
theorem dRow_putIn_38 : decode cRow_putIn 38 = .ok (.iload_n 3, 1) := zfRow_putIn_0.2.2.2.2.2.2.2.2.2.2.2.2.2.2.2.2.2.2.2.2.2.1
theorem dRow_putIn_39 : decode cRow_putIn 39 = .ok (.iconst 1, 1) := zfRow_putIn_0.2.2.2.2.2.2.2.2.2.2.2.2.2.2.2.2.2.2.2.2.2.2.1
theorem dRow_putIn_40 : decode cRow_putIn 40 = .ok (.isub, 1) := zfRow_putIn_0.2.2.2.2.2.2.2.2.2.2.2.2.2.2.2.2.2.2.2.2.2.2.2.1
theorem dRow_putIn_41 : decode cRow_putIn 41 = .ok (.iaload, 1) := zfRow_putIn_0.2.2.2.2.2.2.2.2.2.2.2.2.2.2.2.2.2.2.2.2.2.2.2.2.1
theorem dRow_putIn_42 : decode cRow_putIn 42 = .ok (.iastore, 1) := zfRow_putIn_0.2.2.2.2.2.2.2.2.2.2.2.2.2.2.2.2.2.2.2.2.2.2.2.2.2.1
theorem dRow_putIn_43 : decode cRow_putIn 43 = .ok (.iinc 3 (-1), 3) := zfRow_putIn_0.2.2.2.2.2.2.2.2.2.2.2.2.2.2.2.2.2.2.2.2.2.2.2.2.2.2.1
theorem dRow_putIn_46 : decode cRow_putIn 46 = .ok (.goto (-22), 3) := zfRow_putIn_0.2.2.2.2.2.2.2.2.2.2.2.2.2.2.2.2.2.2.2.2.2.2.2.2.2.2.2.1
theorem dRow_putIn_49 : decode cRow_putIn 49 = .ok (.aload_n 0, 1) := zfRow_putIn_0.2.2.2.2.2.2.2.2.2.2.2.2.2.2.2.2.2.2.2.2.2.2.2.2.2.2.2.2.1
theorem dRow_putIn_50 : decode cRow_putIn 50 = .ok (.getfield 9, 3) := zfRow_putIn_0.2.2.2.2.2.2.2.2.2.2.2.2.2.2.2.2.2.2.2.2.2.2.2.2.2.2.2.2.2.1
theorem dRow_putIn_53 : decode cRow_putIn 53 = .ok (.iload_n 1, 1) := zfRow_putIn_0.2.2.2.2.2.2.2.2.2.2.2.2.2.2.2.2.2.2.2.2.2.2.2.2.2.2.2.2.2.2.1
theorem dRow_putIn_54 : decode cRow_putIn 54 = .ok (.iload_n 2, 1) := zfRow_putIn_0.2.2.2.2.2.2.2.2.2.2.2.2.2.2.2.2.2.2.2.2.2.2.2.2.2.2.2.2.2.2.2.1
theorem zfRow_putIn_55 : decode cRow_putIn 55 = .ok (.iastore, 1) ∧ decode cRow_putIn 56 = .ok (.aload_n 0, 1) ∧ decode cRow_putIn 57 = .ok (.dup, 1) ∧ decode cRow_putIn 58 = .ok (.getfield 15, 3) ∧ decode cRow_putIn 61 = .ok (.iconst 1, 1) ∧ decode cRow_putIn 62 = .ok (.iadd, 1) ∧ decode cRow_putIn 63 = .ok (.putfield 15, 3) ∧ decode cRow_putIn 66 = .ok (.iconst 1, 1) ∧ decode cRow_putIn 67 = .ok (.ireturn, 1) ∧ True := Jvm.Free.DS.facts (code := cRow_putIn) 55 [(.iastore, 1), (.aload_n 0, 1), (.dup, 1), (.getfield 15, 3), (.iconst 1, 1), (.iadd, 1), (.putfield 15, 3), (.iconst 1, 1), (.ireturn, 1)] (by decide +kernel) (by decide +kernel)
theorem dRow_putIn_55 : decode cRow_putIn 55 = .ok (.iastore, 1) := zfRow_putIn_55.1
theorem dRow_putIn_56 : decode cRow_putIn 56 = .ok (.aload_n 0, 1) := zfRow_putIn_55.2.1
theorem dRow_putIn_57 : decode cRow_putIn 57 = .ok (.dup, 1) := zfRow_putIn_55.2.2.1
theorem dRow_putIn_58 : decode cRow_putIn 58 = .ok (.getfield 15, 3) := zfRow_putIn_55.2.2.2.1
theorem dRow_putIn_61 : decode cRow_putIn 61 = .ok (.iconst 1, 1) := zfRow_putIn_55.2.2.2.2.1
theorem dRow_putIn_62 : decode cRow_putIn 62 = .ok (.iadd, 1) := zfRow_putIn_55.2.2.2.2.2.1
theorem dRow_putIn_63 : decode cRow_putIn 63 = .ok (.putfield 15, 3) := zfRow_putIn_55.2.2.2.2.2.2.1
theorem dRow_putIn_66 : decode cRow_putIn 66 = .ok (.iconst 1, 1) := zfRow_putIn_55.2.2.2.2.2.2.2.1
theorem dRow_putIn_67 : decode cRow_putIn 67 = .ok (.ireturn, 1) := zfRow_putIn_55.2.2.2.2.2.2.2.2.1
theorem zfRow_takeOut_0 : decode cRow_takeOut 0 = .ok (.aload_n 0, 1) ∧ decode cRow_takeOut 1 = .ok (.iload_n 1, 1) ∧ decode cRow_takeOut 2 = .ok (.invokevirtual 19, 3) ∧ decode cRow_takeOut 5 = .ok (.ifCond .ne 5, 3) ∧ decode cRow_takeOut 8 = .ok (.iconst 0, 1) ∧ decode cRow_takeOut 9 = .ok (.ireturn, 1) ∧ decode cRow_takeOut 10 = .ok (.aload_n 0, 1) ∧ decode cRow_takeOut 11 = .ok (.getfield 9, 3) ∧ decode cRow_takeOut 14 = .ok (.iload_n 1, 1) ∧ decode cRow_takeOut 15 = .ok (.iaload, 1) ∧ decode cRow_takeOut 16 = .ok (.istore_n 2, 1) ∧ decode cRow_takeOut 17 = .ok (.iload_n 1, 1) ∧ decode cRow_takeOut 18 = .ok (.iconst 1, 1) ∧ decode cRow_takeOut 19 = .ok (.iadd, 1) ∧ decode cRow_takeOut 20 = .ok (.istore_n 3, 1) ∧ decode cRow_takeOut 21 = .ok (.iload_n 3, 1) ∧ decode cRow_takeOut 22 = .ok (.aload_n 0, 1) ∧ decode cRow_takeOut 23 = .ok (.getfield 15, 3) ∧ decode cRow_takeOut 26 = .ok (.if_icmp .ge 23, 3) ∧ decode cRow_takeOut 29 = .ok (.aload_n 0, 1) ∧ decode cRow_takeOut 30 = .ok (.getfield 9, 3) ∧ decode cRow_takeOut 33 = .ok (.iload_n 3, 1) ∧ decode cRow_takeOut 34 = .ok (.iconst 1, 1) ∧ decode cRow_takeOut 35 = .ok (.isub, 1) ∧ decode cRow_takeOut 36 = .ok (.aload_n 0, 1) ∧ decode cRow_takeOut 37 = .ok (.getfield 9, 3) ∧ decode cRow_takeOut 40 = .ok (.iload_n 3, 1) ∧ decode cRow_takeOut 41 = .ok (.iaload, 1) ∧ decode cRow_takeOut 42 = .ok (.iastore, 1) ∧ decode cRow_takeOut 43 = .ok (.iinc 3 1, 3) ∧ decode cRow_takeOut 46 = .ok (.goto (-25), 3) ∧ decode cRow_takeOut 49 = .ok (.aload_n 0, 1) ∧ True := Jvm.Free.DS.facts (code := cRow_takeOut) 0 [(.aload_n 0, 1), (.iload_n 1, 1), (.invokevirtual 19, 3), (.ifCond .ne 5, 3), (.iconst 0, 1), (.ireturn, 1), (.aload_n 0, 1), (.getfield 9, 3), (.iload_n 1, 1), (.iaload, 1), (.istore_n 2, 1), (.iload_n 1, 1), (.iconst 1, 1), (.iadd, 1), (.istore_n 3, 1), (.iload_n 3, 1), (.aload_n 0, 1), (.getfield 15, 3), (.if_icmp .ge 23, 3), (.aload_n 0, 1), (.getfield 9, 3), (.iload_n 3, 1), (.iconst 1, 1), (.isub, 1), (.aload_n 0, 1), (.getfield 9, 3), (.iload_n 3, 1), (.iaload, 1), (.iastore, 1), (.iinc 3 1, 3), (.goto (-25), 3), (.aload_n 0, 1)] (by decide +kernel) (by decide +kernel)
theorem dRow_takeOut_0 : decode cRow_takeOut 0 = .ok (.aload_n 0, 1) := zfRow_takeOut_0.1
theorem dRow_takeOut_1 : decode cRow_takeOut 1 = .ok (.iload_n 1, 1) := zfRow_takeOut_0.2.1
theorem dRow_takeOut_2 : decode cRow_takeOut 2 = .ok (.invokevirtual 19, 3) := zfRow_takeOut_0.2.2.1
theorem dRow_takeOut_5 : decode cRow_takeOut 5 = .ok (.ifCond .ne 5, 3) := zfRow_takeOut_0.2.2.2.1
theorem dRow_takeOut_8 : decode cRow_takeOut 8 = .ok (.iconst 0, 1) := zfRow_takeOut_0.2.2.2.2.1
theorem dRow_takeOut_9 : decode cRow_takeOut 9 = .ok (.ireturn, 1) := zfRow_takeOut_0.2.2.2.2.2.1
theorem dRow_takeOut_10 : decode cRow_takeOut 10 = .ok (.aload_n 0, 1) := zfRow_takeOut_0.2.2.2.2.2.2.1
theorem dRow_takeOut_11 : decode cRow_takeOut 11 = .ok (.getfield 9, 3) := zfRow_takeOut_0.2.2.2.2.2.2.2.1
theorem dRow_takeOut_14 : decode cRow_takeOut 14 = .ok (.iload_n 1, 1) := zfRow_takeOut_0.2.2.2.2.2.2.2.2.1
theorem dRow_takeOut_15 : decode cRow_takeOut 15 = .ok (.iaload, 1) := zfRow_takeOut_0.2.2.2.2.2.2.2.2.2.1
theorem dRow_takeOut_16 : decode cRow_takeOut 16 = .ok (.istore_n 2, 1) := zfRow_takeOut_0.2.2.2.2.2.2.2.2.2.2.1
theorem dRow_takeOut_17 : decode cRow_takeOut 17 = .ok (.iload_n 1, 1) := zfRow_takeOut_0.2.2.2.2.2.2.2.2.2.2.2.1
theorem dRow_takeOut_18 : decode cRow_takeOut 18 = .ok (.iconst 1, 1) := zfRow_takeOut_0.2.2.2.2.2.2.2.2.2.2.2.2.1
theorem dRow_takeOut_19 : decode cRow_takeOut 19 = .ok (.iadd, 1) := zfRow_takeOut_0.2.2.2.2.2.2.2.2.2.2.2.2.2.1
theorem dRow_takeOut_20 : decode cRow_takeOut 20 = .ok (.istore_n 3, 1) := zfRow_takeOut_0.2.2.2.2.2.2.2.2.2.2.2.2.2.2.1
theorem dRow_takeOut_21 : decode cRow_takeOut 21 = .ok (.iload_n 3, 1) := zfRow_takeOut_0.2.2.2.2.2.2.2.2.2.2.2.2.2.2.2.1
theorem dRow_takeOut_22 : decode cRow_takeOut 22 = .ok (.aload_n 0, 1) := zfRow_takeOut_0.2.2.2.2.2.2.2.2.2.2.2.2.2.2.2.2.1
theorem dRow_takeOut_23 : decode cRow_takeOut 23 = .ok (.getfield 15, 3) := zfRow_takeOut_0.2.2.2.2.2.2.2.2.2.2.2.2.2.2.2.2.2.1
theorem dRow_takeOut_26 : decode cRow_takeOut 26 = .ok (.if_icmp .ge 23, 3) := zfRow_takeOut_0.2.2.2.2.2.2.2.2.2.2.2.2.2.2.2.2.2.2.1
theorem dRow_takeOut_29 : decode cRow_takeOut 29 = .ok (.aload_n 0, 1) := zfRow_takeOut_0.2.2.2.2.2.2.2.2.2.2.2.2.2.2.2.2.2.2.2.1
theorem dRow_takeOut_30 : decode cRow_takeOut 30 = .ok (.getfield 9, 3) := zfRow_takeOut_0.2.2.2.2.2.2.2.2.2.2.2.2.2.2.2.2.2.2.2.2.1
theorem dRow_takeOut_33 : decode cRow_takeOut 33 = .ok (.iload_n 3, 1) := zfRow_takeOut_0.2.2.2.2.2.2.2.2.2.2.2.2.2.2.2.2.2.2.2.2.2.1
theorem dRow_takeOut_34 : decode cRow_takeOut 34 = .ok (.iconst 1, 1) := zfRow_takeOut_0.2.2.2.2.2.2.2.2.2.2.2.2.2.2.2.2.2.2.2.2.2.2.1
theorem dRow_takeOut_35 : decode cRow_takeOut 35 = .ok (.isub, 1) := zfRow_takeOut_0.2.2.2.2.2.2.2.2.2.2.2.2.2.2.2.2.2.2.2.2.2.2.2.1
theorem dRow_takeOut_36 : decode cRow_takeOut 36 = .ok (.aload_n 0, 1) := zfRow_takeOut_0.2.2.2.2.2.2.2.2.2.2.2.2.2.2.2.2.2.2.2.2.2.2.2.2.1
theorem dRow_takeOut_37 : decode cRow_takeOut 37 = .ok (.getfield 9, 3) := zfRow_takeOut_0.2.2.2.2.2.2.2.2.2.2.2.2.2.2.2.2.2.2.2.2.2.2.2.2.2.1
theorem dRow_takeOut_40 : decode cRow_takeOut 40 = .ok (.iload_n 3, 1) := zfRow_takeOut_0.2.2.2.2.2.2.2.2.2.2.2.2.2.2.2.2.2.2.2.2.2.2.2.2.2.2.1
theorem dRow_takeOut_41 : decode cRow_takeOut 41 = .ok (.iaload, 1) := zfRow_takeOut_0.2.2.2.2.2.2.2.2.2.2.2.2.2.2.2.2.2.2.2.2.2.2.2.2.2.2.2.1
theorem dRow_takeOut_42 : decode cRow_takeOut 42 = .ok (.iastore, 1) := zfRow_takeOut_0.2.2.2.2.2.2.2.2.2.2.2.2.2.2.2.2.2.2.2.2.2.2.2.2.2.2.2.2.1
theorem dRow_takeOut_43 : decode cRow_takeOut 43 = .ok (.iinc 3 1, 3) := zfRow_takeOut_0.2.2.2.2.2.2.2.2.2.2.2.2.2.2.2.2.2.2.2.2.2.2.2.2.2.2.2.2.2.1
theorem dRow_takeOut_46 : decode cRow_takeOut 46 = .ok (.goto (-25), 3) := zfRow_takeOut_0.2.2.2.2.2.2.2.2.2.2.2.2.2.2.2.2.2.2.2.2.2.2.2.2.2.2.2.2.2.2.1
theorem dRow_takeOut_49 : decode cRow_takeOut 49 = .ok (.aload_n 0, 1) := zfRow_takeOut_0.2.2.2.2.2.2.2.2.2.2.2.2.2.2.2.2.2.2.2.2.2.2.2.2.2.2.2.2.2.2.2.1
theorem zfRow_takeOut_50 : decode cRow_takeOut 50 = .ok (.dup, 1) ∧ decode cRow_takeOut 51 = .ok (.getfield 15, 3) ∧ decode cRow_takeOut 54 = .ok (.iconst 1, 1) ∧ decode cRow_takeOut 55 = .ok (.isub, 1) ∧ decode cRow_takeOut 56 = .ok (.putfield 15, 3) ∧ decode cRow_takeOut 59 = .ok (.iload_n 2, 1) ∧ decode cRow_takeOut 60 = .ok (.ireturn, 1) ∧ True := Jvm.Free.DS.facts (code := cRow_takeOut) 50 [(.dup, 1), (.getfield 15, 3), (.iconst 1, 1), (.isub, 1), (.putfield 15, 3), (.iload_n 2, 1), (.ireturn, 1)] (by decide +kernel) (by decide +kernel)
theorem dRow_takeOut_50 : decode cRow_takeOut 50 = .ok (.dup, 1) := zfRow_takeOut_50.1
theorem dRow_takeOut_51 : decode cRow_takeOut 51 = .ok (.getfield 15, 3) := zfRow_takeOut_50.2.1
theorem dRow_takeOut_54 : decode cRow_takeOut 54 = .ok (.iconst 1, 1) := zfRow_takeOut_50.2.2.1
theorem dRow_takeOut_55 : decode cRow_takeOut 55 = .ok (.isub, 1) := zfRow_takeOut_50.2.2.2.1
theorem dRow_takeOut_56 : decode cRow_takeOut 56 = .ok (.putfield 15, 3) := zfRow_takeOut_50.2.2.2.2.1
theorem dRow_takeOut_59 : decode cRow_takeOut 59 = .ok (.iload_n 2, 1) := zfRow_takeOut_50.2.2.2.2.2.1
theorem dRow_takeOut_60 : decode cRow_takeOut 60 = .ok (.ireturn, 1) := zfRow_takeOut_50.2.2.2.2.2.2.1
theorem zfRow_takeOutAll_0 : decode cRow_takeOutAll 0 = .ok (.aload_n 0, 1) ∧ decode cRow_takeOutAll 1 = .ok (.getfield 15, 3) ∧ decode cRow_takeOutAll 4 = .ok (.istore_n 2, 1) ∧ decode cRow_takeOutAll 5 = .ok (.iconst 0, 1) ∧ decode cRow_takeOutAll 6 = .ok (.istore_n 3, 1) ∧ decode cRow_takeOutAll 7 = .ok (.iconst 0, 1) ∧ decode cRow_takeOutAll 8 = .ok (.istore 4, 2) ∧ decode cRow_takeOutAll 10 = .ok (.iload 4, 2) ∧ decode cRow_takeOutAll 12 = .ok (.iload_n 2, 1) ∧ decode cRow_takeOutAll 13 = .ok (.if_icmp .ge 36, 3) ∧ decode cRow_takeOutAll 16 = .ok (.aload_n 0, 1) ∧ decode cRow_takeOutAll 17 = .ok (.getfield 9, 3) ∧ decode cRow_takeOutAll 20 = .ok (.iload 4, 2) ∧ decode cRow_takeOutAll 22 = .ok (.iaload, 1) ∧ decode cRow_takeOutAll 23 = .ok (.iload_n 1, 1) ∧ decode cRow_takeOutAll 24 = .ok (.if_icmp .eq 19, 3) ∧ decode cRow_takeOutAll 27 = .ok (.aload_n 0, 1) ∧ decode cRow_takeOutAll 28 = .ok (.getfield 9, 3) ∧ decode cRow_takeOutAll 31 = .ok (.iload_n 3, 1) ∧ decode cRow_takeOutAll 32 = .ok (.aload_n 0, 1) ∧ decode cRow_takeOutAll 33 = .ok (.getfield 9, 3) ∧ decode cRow_takeOutAll 36 = .ok (.iload 4, 2) ∧ decode cRow_takeOutAll 38 = .ok (.iaload, 1) ∧ decode cRow_takeOutAll 39 = .ok (.iastore, 1) ∧ decode cRow_takeOutAll 40 = .ok (.iinc 3 1, 3) ∧ decode cRow_takeOutAll 43 = .ok (.iinc 4 1, 3) ∧ decode cRow_takeOutAll 46 = .ok (.goto (-36), 3) ∧ decode cRow_takeOutAll 49 = .ok (.aload_n 0, 1) ∧ decode cRow_takeOutAll 50 = .ok (.iload_n 3, 1) ∧ decode cRow_takeOutAll 51 = .ok (.putfield 15, 3) ∧ decode cRow_takeOutAll 54 = .ok (.iload_n 2, 1) ∧ decode cRow_takeOutAll 55 = .ok (.iload_n 3, 1) ∧ True := Jvm.Free.DS.facts (code := cRow_takeOutAll) 0 [(.aload_n 0, 1), (.getfield 15, 3), (.istore_n 2, 1), (.iconst 0, 1), (.istore_n 3, 1), (.iconst 0, 1), (.istore 4, 2), (.iload 4, 2), (.iload_n 2, 1), (.if_icmp .ge 36, 3), (.aload_n 0, 1), (.getfield 9, 3), (.iload 4, 2), (.iaload, 1), (.iload_n 1, 1), (.if_icmp .eq 19, 3), (.aload_n 0, 1), (.getfield 9, 3), (.iload_n 3, 1), (.aload_n 0, 1), (.getfield 9, 3), (.iload 4, 2), (.iaload, 1), (.iastore, 1), (.iinc 3 1, 3), (.iinc 4 1, 3), (.goto (-36), 3), (.aload_n 0, 1), (.iload_n 3, 1), (.putfield 15, 3), (.iload_n 2, 1), (.iload_n 3, 1)] (by decide +kernel) (by decide +kernel)
theorem dRow_takeOutAll_0 : decode cRow_takeOutAll 0 = .ok (.aload_n 0, 1) := zfRow_takeOutAll_0.1
theorem dRow_takeOutAll_1 : decode cRow_takeOutAll 1 = .ok (.getfield 15, 3) := zfRow_takeOutAll_0.2.1
theorem dRow_takeOutAll_4 : decode cRow_takeOutAll 4 = .ok (.istore_n 2, 1) := zfRow_takeOutAll_0.2.2.1
theorem dRow_takeOutAll_5 : decode cRow_takeOutAll 5 = .ok (.iconst 0, 1) := zfRow_takeOutAll_0.2.2.2.1
theorem dRow_takeOutAll_6 : decode cRow_takeOutAll 6 = .ok (.istore_n 3, 1) := zfRow_takeOutAll_0.2.2.2.2.1
theorem dRow_takeOutAll_7 : decode cRow_takeOutAll 7 = .ok (.iconst 0, 1) := zfRow_takeOutAll_0.2.2.2.2.2.1
theorem dRow_takeOutAll_8 : decode cRow_takeOutAll 8 = .ok (.istore 4, 2) := zfRow_takeOutAll_0.2.2.2.2.2.2.1
theorem dRow_takeOutAll_10 : decode cRow_takeOutAll 10 = .ok (.iload 4, 2) := zfRow_takeOutAll_0.2.2.2.2.2.2.2.1
theorem dRow_takeOutAll_12 : decode cRow_takeOutAll 12 = .ok (.iload_n 2, 1) := zfRow_takeOutAll_0.2.2.2.2.2.2.2.2.1
theorem dRow_takeOutAll_13 : decode cRow_takeOutAll 13 = .ok (.if_icmp .ge 36, 3) := zfRow_takeOutAll_0.2.2.2.2.2.2.2.2.2.1
theorem dRow_takeOutAll_16 : decode cRow_takeOutAll 16 = .ok (.aload_n 0, 1) := zfRow_takeOutAll_0.2.2.2.2.2.2.2.2.2.2.1
theorem dRow_takeOutAll_17 : decode cRow_takeOutAll 17 = .ok (.getfield 9, 3) := zfRow_takeOutAll_0.2.2.2.2.2.2.2.2.2.2.2.1
theorem dRow_takeOutAll_20 : decode cRow_takeOutAll 20 = .ok (.iload 4, 2) := zfRow_takeOutAll_0.2.2.2.2.2.2.2.2.2.2.2.2.1
theorem dRow_takeOutAll_22 : decode cRow_takeOutAll 22 = .ok (.iaload, 1) := zfRow_takeOutAll_0.2.2.2.2.2.2.2.2.2.2.2.2.2.1
theorem dRow_takeOutAll_23 : decode cRow_takeOutAll 23 = .ok (.iload_n 1, 1) := zfRow_takeOutAll_0.2.2.2.2.2.2.2.2.2.2.2.2.2.2.1
theorem dRow_takeOutAll_24 : decode cRow_takeOutAll 24 = .ok (.if_icmp .eq 19, 3) := zfRow_takeOutAll_0.2.2.2.2.2.2.2.2.2.2.2.2.2.2.2.1
theorem dRow_takeOutAll_27 : decode cRow_takeOutAll 27 = .ok (.aload_n 0, 1) := zfRow_takeOutAll_0.2.2.2.2.2.2.2.2.2.2.2.2.2.2.2.2.1
theorem dRow_takeOutAll_28 : decode cRow_takeOutAll 28 = .ok (.getfield 9, 3) := zfRow_takeOutAll_0.2.2.2.2.2.2.2.2.2.2.2.2.2.2.2.2.2.1
theorem dRow_takeOutAll_31 : decode cRow_takeOutAll 31 = .ok (.iload_n 3, 1) := zfRow_takeOutAll_0.2.2.2.2.2.2.2.2.2.2.2.2.2.2.2.2.2.2.1
theorem dRow_takeOutAll_32 : decode cRow_takeOutAll 32 = .ok (.aload_n 0, 1) := zfRow_takeOutAll_0.2.2.2.2.2.2.2.2.2.2.2.2.2.2.2.2.2.2.2.1
theorem dRow_takeOutAll_33 : decode cRow_takeOutAll 33 = .ok (.getfield 9, 3) := zfRow_takeOutAll_0.2.2.2.2.2.2.2.2.2.2.2.2.2.2.2.2.2.2.2.2.1
theorem dRow_takeOutAll_36 : decode cRow_takeOutAll 36 = .ok (.iload 4, 2) := zfRow_takeOutAll_0.2.2.2.2.2.2.2.2.2.2.2.2.2.2.2.2.2.2.2.2.2.1
theorem dRow_takeOutAll_38 : decode cRow_takeOutAll 38 = .ok (.iaload, 1) := zfRow_takeOutAll_0.2.2.2.2.2.2.2.2.2.2.2.2.2.2.2.2.2.2.2.2.2.2.1
theorem dRow_takeOutAll_39 : decode cRow_takeOutAll 39 = .ok (.iastore, 1) := zfRow_takeOutAll_0.2.2.2.2.2.2.2.2.2.2.2.2.2.2.2.2.2.2.2.2.2.2.2.1
theorem dRow_takeOutAll_40 : decode cRow_takeOutAll 40 = .ok (.iinc 3 1, 3) := zfRow_takeOutAll_0.2.2.2.2.2.2.2.2.2.2.2.2.2.2.2.2.2.2.2.2.2.2.2.2.1
theorem dRow_takeOutAll_43 : decode cRow_takeOutAll 43 = .ok (.iinc 4 1, 3) := zfRow_takeOutAll_0.2.2.2.2.2.2.2.2.2.2.2.2.2.2.2.2.2.2.2.2.2.2.2.2.2.1
theorem dRow_takeOutAll_46 : decode cRow_takeOutAll 46 = .ok (.goto (-36), 3) := zfRow_takeOutAll_0.2.2.2.2.2.2.2.2.2.2.2.2.2.2.2.2.2.2.2.2.2.2.2.2.2.2.1
theorem dRow_takeOutAll_49 : decode cRow_takeOutAll 49 = .ok (.aload_n 0, 1) := zfRow_takeOutAll_0.2.2.2.2.2.2.2.2.2.2.2.2.2.2.2.2.2.2.2.2.2.2.2.2.2.2.2.1
theorem dRow_takeOutAll_50 : decode cRow_takeOutAll 50 = .ok (.iload_n 3, 1) := zfRow_takeOutAll_0.2.2.2.2.2.2.2.2.2.2.2.2.2.2.2.2.2.2.2.2.2.2.2.2.2.2.2.2.1
theorem dRow_takeOutAll_51 : decode cRow_takeOutAll 51 = .ok (.putfield 15, 3) := zfRow_takeOutAll_0.2.2.2.2.2.2.2.2.2.2.2.2.2.2.2.2.2.2.2.2.2.2.2.2.2.2.2.2.2.1
theorem dRow_takeOutAll_54 : decode cRow_takeOutAll 54 = .ok (.iload_n 2, 1) := zfRow_takeOutAll_0.2.2.2.2.2.2.2.2.2.2.2.2.2.2.2.2.2.2.2.2.2.2.2.2.2.2.2.2.2.2.1
theorem dRow_takeOutAll_55 : decode cRow_takeOutAll 55 = .ok (.iload_n 3, 1) := zfRow_takeOutAll_0.2.2.2.2.2.2.2.2.2.2.2.2.2.2.2.2.2.2.2.2.2.2.2.2.2.2.2.2.2.2.2.1
theorem zfRow_takeOutAll_56 : decode cRow_takeOutAll 56 = .ok (.isub, 1) ∧ decode cRow_takeOutAll 57 = .ok (.ireturn, 1) ∧ True := Jvm.Free.DS.facts (code := cRow_takeOutAll) 56 [(.isub, 1), (.ireturn, 1)] (by decide +kernel) (by decide +kernel)
theorem dRow_takeOutAll_56 : decode cRow_takeOutAll 56 = .ok (.isub, 1) := zfRow_takeOutAll_56.1
theorem dRow_takeOutAll_57 : decode cRow_takeOutAll 57 = .ok (.ireturn, 1) := zfRow_takeOutAll_56.2.1
theorem zfRow_placeOf_0 : decode cRow_placeOf 0 = .ok (.iconst (-1), 1) ∧ decode cRow_placeOf 1 = .ok (.istore_n 3, 1) ∧ decode cRow_placeOf 2 = .ok (.iconst 0, 1) ∧ decode cRow_placeOf 3 = .ok (.istore 4, 2) ∧ decode cRow_placeOf 5 = .ok (.iload 4, 2) ∧ decode cRow_placeOf 7 = .ok (.aload_n 0, 1) ∧ decode cRow_placeOf 8 = .ok (.getfield 15, 3) ∧ decode cRow_placeOf 11 = .ok (.if_icmp .ge 32, 3) ∧ decode cRow_placeOf 14 = .ok (.aload_n 0, 1) ∧ decode cRow_placeOf 15 = .ok (.getfield 9, 3) ∧ decode cRow_placeOf 18 = .ok (.iload 4, 2) ∧ decode cRow_placeOf 20 = .ok (.iaload, 1) ∧ decode cRow_placeOf 21 = .ok (.iload_n 1, 1) ∧ decode cRow_placeOf 22 = .ok (.if_icmp .ne 15, 3) ∧ decode cRow_placeOf 25 = .ok (.iload_n 2, 1) ∧ decode cRow_placeOf 26 = .ok (.ifCond .ne 8, 3) ∧ decode cRow_placeOf 29 = .ok (.iload_n 3, 1) ∧ decode cRow_placeOf 30 = .ok (.iconst (-1), 1) ∧ decode cRow_placeOf 31 = .ok (.if_icmp .ne 6, 3) ∧ decode cRow_placeOf 34 = .ok (.iload 4, 2) ∧ decode cRow_placeOf 36 = .ok (.istore_n 3, 1) ∧ decode cRow_placeOf 37 = .ok (.iinc 4 1, 3) ∧ decode cRow_placeOf 40 = .ok (.goto (-35), 3) ∧ decode cRow_placeOf 43 = .ok (.iload_n 3, 1) ∧ decode cRow_placeOf 44 = .ok (.ireturn, 1) ∧ True := Jvm.Free.DS.facts (code := cRow_placeOf) 0 [(.iconst (-1), 1), (.istore_n 3, 1), (.iconst 0, 1), (.istore 4, 2), (.iload 4, 2), (.aload_n 0, 1), (.getfield 15, 3), (.if_icmp .ge 32, 3), (.aload_n 0, 1), (.getfield 9, 3), (.iload 4, 2), (.iaload, 1), (.iload_n 1, 1), (.if_icmp .ne 15, 3), (.iload_n 2, 1), (.ifCond .ne 8, 3), (.iload_n 3, 1), (.iconst (-1), 1), (.if_icmp .ne 6, 3), (.iload 4, 2), (.istore_n 3, 1), (.iinc 4 1, 3), (.goto (-35), 3), (.iload_n 3, 1), (.ireturn, 1)] (by decide +kernel) (by decide +kernel)
theorem dRow_placeOf_0 : decode cRow_placeOf 0 = .ok (.iconst (-1), 1) := zfRow_placeOf_0.1
theorem dRow_placeOf_1 : decode cRow_placeOf 1 = .ok (.istore_n 3, 1) := zfRow_placeOf_0.2.1
theorem dRow_placeOf_2 : decode cRow_placeOf 2 = .ok (.iconst 0, 1) := zfRow_placeOf_0.2.2.1
theorem dRow_placeOf_3 : decode cRow_placeOf 3 = .ok (.istore 4, 2) := zfRow_placeOf_0.2.2.2.1
theorem dRow_placeOf_5 : decode cRow_placeOf 5 = .ok (.iload 4, 2) := zfRow_placeOf_0.2.2.2.2.1
theorem dRow_placeOf_7 : decode cRow_placeOf 7 = .ok (.aload_n 0, 1) := zfRow_placeOf_0.2.2.2.2.2.1
theorem dRow_placeOf_8 : decode cRow_placeOf 8 = .ok (.getfield 15, 3) := zfRow_placeOf_0.2.2.2.2.2.2.1
theorem dRow_placeOf_11 : decode cRow_placeOf 11 = .ok (.if_icmp .ge 32, 3) := zfRow_placeOf_0.2.2.2.2.2.2.2.1
theorem dRow_placeOf_14 : decode cRow_placeOf 14 = .ok (.aload_n 0, 1) := zfRow_placeOf_0.2.2.2.2.2.2.2.2.1
theorem dRow_placeOf_15 : decode cRow_placeOf 15 = .ok (.getfield 9, 3) := zfRow_placeOf_0.2.2.2.2.2.2.2.2.2.1
theorem dRow_placeOf_18 : decode cRow_placeOf 18 = .ok (.iload 4, 2) := zfRow_placeOf_0.2.2.2.2.2.2.2.2.2.2.1
theorem dRow_placeOf_20 : decode cRow_placeOf 20 = .ok (.iaload, 1) := zfRow_placeOf_0.2.2.2.2.2.2.2.2.2.2.2.1
theorem dRow_placeOf_21 : decode cRow_placeOf 21 = .ok (.iload_n 1, 1) := zfRow_placeOf_0.2.2.2.2.2.2.2.2.2.2.2.2.1
theorem dRow_placeOf_22 : decode cRow_placeOf 22 = .ok (.if_icmp .ne 15, 3) := zfRow_placeOf_0.2.2.2.2.2.2.2.2.2.2.2.2.2.1
theorem dRow_placeOf_25 : decode cRow_placeOf 25 = .ok (.iload_n 2, 1) := zfRow_placeOf_0.2.2.2.2.2.2.2.2.2.2.2.2.2.2.1
theorem dRow_placeOf_26 : decode cRow_placeOf 26 = .ok (.ifCond .ne 8, 3) := zfRow_placeOf_0.2.2.2.2.2.2.2.2.2.2.2.2.2.2.2.1
theorem dRow_placeOf_29 : decode cRow_placeOf 29 = .ok (.iload_n 3, 1) := zfRow_placeOf_0.2.2.2.2.2.2.2.2.2.2.2.2.2.2.2.2.1
theorem dRow_placeOf_30 : decode cRow_placeOf 30 = .ok (.iconst (-1), 1) := zfRow_placeOf_0.2.2.2.2.2.2.2.2.2.2.2.2.2.2.2.2.2.1
theorem dRow_placeOf_31 : decode cRow_placeOf 31 = .ok (.if_icmp .ne 6, 3) := zfRow_placeOf_0.2.2.2.2.2.2.2.2.2.2.2.2.2.2.2.2.2.2.1
theorem dRow_placeOf_34 : decode cRow_placeOf 34 = .ok (.iload 4, 2) := zfRow_placeOf_0.2.2.2.2.2.2.2.2.2.2.2.2.2.2.2.2.2.2.2.1
theorem dRow_placeOf_36 : decode cRow_placeOf 36 = .ok (.istore_n 3, 1) := zfRow_placeOf_0.2.2.2.2.2.2.2.2.2.2.2.2.2.2.2.2.2.2.2.2.1
theorem dRow_placeOf_37 : decode cRow_placeOf 37 = .ok (.iinc 4 1, 3) := zfRow_placeOf_0.2.2.2.2.2.2.2.2.2.2.2.2.2.2.2.2.2.2.2.2.2.1
theorem dRow_placeOf_40 : decode cRow_placeOf 40 = .ok (.goto (-35), 3) := zfRow_placeOf_0.2.2.2.2.2.2.2.2.2.2.2.2.2.2.2.2.2.2.2.2.2.2.1
theorem dRow_placeOf_43 : decode cRow_placeOf 43 = .ok (.iload_n 3, 1) := zfRow_placeOf_0.2.2.2.2.2.2.2.2.2.2.2.2.2.2.2.2.2.2.2.2.2.2.2.1
theorem dRow_placeOf_44 : decode cRow_placeOf 44 = .ok (.ireturn, 1) := zfRow_placeOf_0.2.2.2.2.2.2.2.2.2.2.2.2.2.2.2.2.2.2.2.2.2.2.2.2.1
theorem zfRow_lastNotZero_0 : decode cRow_lastNotZero 0 = .ok (.iconst (-1), 1) ∧ decode cRow_lastNotZero 1 = .ok (.istore_n 1, 1) ∧ decode cRow_lastNotZero 2 = .ok (.iconst 0, 1) ∧ decode cRow_lastNotZero 3 = .ok (.istore_n 2, 1) ∧ decode cRow_lastNotZero 4 = .ok (.iload_n 2, 1) ∧ decode cRow_lastNotZero 5 = .ok (.aload_n 0, 1) ∧ decode cRow_lastNotZero 6 = .ok (.getfield 15, 3) ∧ decode cRow_lastNotZero 9 = .ok (.if_icmp .ge 20, 3) ∧ decode cRow_lastNotZero 12 = .ok (.aload_n 0, 1) ∧ decode cRow_lastNotZero 13 = .ok (.getfield 9, 3) ∧ decode cRow_lastNotZero 16 = .ok (.iload_n 2, 1) ∧ decode cRow_lastNotZero 17 = .ok (.iaload, 1) ∧ decode cRow_lastNotZero 18 = .ok (.ifCond .eq 5, 3) ∧ decode cRow_lastNotZero 21 = .ok (.iload_n 2, 1) ∧ decode cRow_lastNotZero 22 = .ok (.istore_n 1, 1) ∧ decode cRow_lastNotZero 23 = .ok (.iinc 2 1, 3) ∧ decode cRow_lastNotZero 26 = .ok (.goto (-22), 3) ∧ decode cRow_lastNotZero 29 = .ok (.iload_n 1, 1) ∧ decode cRow_lastNotZero 30 = .ok (.ireturn, 1) ∧ True := Jvm.Free.DS.facts (code := cRow_lastNotZero) 0 [(.iconst (-1), 1), (.istore_n 1, 1), (.iconst 0, 1), (.istore_n 2, 1), (.iload_n 2, 1), (.aload_n 0, 1), (.getfield 15, 3), (.if_icmp .ge 20, 3), (.aload_n 0, 1), (.getfield 9, 3), (.iload_n 2, 1), (.iaload, 1), (.ifCond .eq 5, 3), (.iload_n 2, 1), (.istore_n 1, 1), (.iinc 2 1, 3), (.goto (-22), 3), (.iload_n 1, 1), (.ireturn, 1)] (by decide +kernel) (by decide +kernel)
theorem dRow_lastNotZero_0 : decode cRow_lastNotZero 0 = .ok (.iconst (-1), 1) := zfRow_lastNotZero_0.1
theorem dRow_lastNotZero_1 : decode cRow_lastNotZero 1 = .ok (.istore_n 1, 1) := zfRow_lastNotZero_0.2.1
theorem dRow_lastNotZero_2 : decode cRow_lastNotZero 2 = .ok (.iconst 0, 1) := zfRow_lastNotZero_0.2.2.1
theorem dRow_lastNotZero_3 : decode cRow_lastNotZero 3 = .ok (.istore_n 2, 1) := zfRow_lastNotZero_0.2.2.2.1
theorem dRow_lastNotZero_4 : decode cRow_lastNotZero 4 = .ok (.iload_n 2, 1) := zfRow_lastNotZero_0.2.2.2.2.1
theorem dRow_lastNotZero_5 : decode cRow_lastNotZero 5 = .ok (.aload_n 0, 1) := zfRow_lastNotZero_0.2.2.2.2.2.1
theorem dRow_lastNotZero_6 : decode cRow_lastNotZero 6 = .ok (.getfield 15, 3) := zfRow_lastNotZero_0.2.2.2.2.2.2.1
theorem dRow_lastNotZero_9 : decode cRow_lastNotZero 9 = .ok (.if_icmp .ge 20, 3) := zfRow_lastNotZero_0.2.2.2.2.2.2.2.1
theorem dRow_lastNotZero_12 : decode cRow_lastNotZero 12 = .ok (.aload_n 0, 1) := zfRow_lastNotZero_0.2.2.2.2.2.2.2.2.1
theorem dRow_lastNotZero_13 : decode cRow_lastNotZero 13 = .ok (.getfield 9, 3) := zfRow_lastNotZero_0.2.2.2.2.2.2.2.2.2.1
theorem dRow_lastNotZero_16 : decode cRow_lastNotZero 16 = .ok (.iload_n 2, 1) := zfRow_lastNotZero_0.2.2.2.2.2.2.2.2.2.2.1
theorem dRow_lastNotZero_17 : decode cRow_lastNotZero 17 = .ok (.iaload, 1) := zfRow_lastNotZero_0.2.2.2.2.2.2.2.2.2.2.2.1
theorem dRow_lastNotZero_18 : decode cRow_lastNotZero 18 = .ok (.ifCond .eq 5, 3) := zfRow_lastNotZero_0.2.2.2.2.2.2.2.2.2.2.2.2.1
theorem dRow_lastNotZero_21 : decode cRow_lastNotZero 21 = .ok (.iload_n 2, 1) := zfRow_lastNotZero_0.2.2.2.2.2.2.2.2.2.2.2.2.2.1
theorem dRow_lastNotZero_22 : decode cRow_lastNotZero 22 = .ok (.istore_n 1, 1) := zfRow_lastNotZero_0.2.2.2.2.2.2.2.2.2.2.2.2.2.2.1
theorem dRow_lastNotZero_23 : decode cRow_lastNotZero 23 = .ok (.iinc 2 1, 3) := zfRow_lastNotZero_0.2.2.2.2.2.2.2.2.2.2.2.2.2.2.2.1
theorem dRow_lastNotZero_26 : decode cRow_lastNotZero 26 = .ok (.goto (-22), 3) := zfRow_lastNotZero_0.2.2.2.2.2.2.2.2.2.2.2.2.2.2.2.2.1
theorem dRow_lastNotZero_29 : decode cRow_lastNotZero 29 = .ok (.iload_n 1, 1) := zfRow_lastNotZero_0.2.2.2.2.2.2.2.2.2.2.2.2.2.2.2.2.2.1
theorem dRow_lastNotZero_30 : decode cRow_lastNotZero 30 = .ok (.ireturn, 1) := zfRow_lastNotZero_0.2.2.2.2.2.2.2.2.2.2.2.2.2.2.2.2.2.2.1
theorem zfRow_isAs_0 : decode cRow_isAs 0 = .ok (.aload_n 0, 1) ∧ decode cRow_isAs 1 = .ok (.getfield 15, 3) ∧ decode cRow_isAs 4 = .ok (.aload_n 1, 1) ∧ decode cRow_isAs 5 = .ok (.getfield 15, 3) ∧ decode cRow_isAs 8 = .ok (.if_icmp .eq 5, 3) ∧ decode cRow_isAs 11 = .ok (.iconst 0, 1) ∧ decode cRow_isAs 12 = .ok (.ireturn, 1) ∧ decode cRow_isAs 13 = .ok (.iconst 0, 1) ∧ decode cRow_isAs 14 = .ok (.istore_n 2, 1) ∧ decode cRow_isAs 15 = .ok (.iload_n 2, 1) ∧ decode cRow_isAs 16 = .ok (.aload_n 0, 1) ∧ decode cRow_isAs 17 = .ok (.getfield 15, 3) ∧ decode cRow_isAs 20 = .ok (.if_icmp .ge 26, 3) ∧ decode cRow_isAs 23 = .ok (.aload_n 0, 1) ∧ decode cRow_isAs 24 = .ok (.getfield 9, 3) ∧ decode cRow_isAs 27 = .ok (.iload_n 2, 1) ∧ decode cRow_isAs 28 = .ok (.iaload, 1) ∧ decode cRow_isAs 29 = .ok (.aload_n 1, 1) ∧ decode cRow_isAs 30 = .ok (.getfield 9, 3) ∧ decode cRow_isAs 33 = .ok (.iload_n 2, 1) ∧ decode cRow_isAs 34 = .ok (.iaload, 1) ∧ decode cRow_isAs 35 = .ok (.if_icmp .eq 5, 3) ∧ decode cRow_isAs 38 = .ok (.iconst 0, 1) ∧ decode cRow_isAs 39 = .ok (.ireturn, 1) ∧ decode cRow_isAs 40 = .ok (.iinc 2 1, 3) ∧ decode cRow_isAs 43 = .ok (.goto (-28), 3) ∧ decode cRow_isAs 46 = .ok (.iconst 1, 1) ∧ decode cRow_isAs 47 = .ok (.ireturn, 1) ∧ True := Jvm.Free.DS.facts (code := cRow_isAs) 0 [(.aload_n 0, 1), (.getfield 15, 3), (.aload_n 1, 1), (.getfield 15, 3), (.if_icmp .eq 5, 3), (.iconst 0, 1), (.ireturn, 1), (.iconst 0, 1), (.istore_n 2, 1), (.iload_n 2, 1), (.aload_n 0, 1), (.getfield 15, 3), (.if_icmp .ge 26, 3), (.aload_n 0, 1), (.getfield 9, 3), (.iload_n 2, 1), (.iaload, 1), (.aload_n 1, 1), (.getfield 9, 3), (.iload_n 2, 1), (.iaload, 1), (.if_icmp .eq 5, 3), (.iconst 0, 1), (.ireturn, 1), (.iinc 2 1, 3), (.goto (-28), 3), (.iconst 1, 1), (.ireturn, 1)] (by decide +kernel) (by decide +kernel)
theorem dRow_isAs_0 : decode cRow_isAs 0 = .ok (.aload_n 0, 1) := zfRow_isAs_0.1
theorem dRow_isAs_1 : decode cRow_isAs 1 = .ok (.getfield 15, 3) := zfRow_isAs_0.2.1
theorem dRow_isAs_4 : decode cRow_isAs 4 = .ok (.aload_n 1, 1) := zfRow_isAs_0.2.2.1
theorem dRow_isAs_5 : decode cRow_isAs 5 = .ok (.getfield 15, 3) := zfRow_isAs_0.2.2.2.1
theorem dRow_isAs_8 : decode cRow_isAs 8 = .ok (.if_icmp .eq 5, 3) := zfRow_isAs_0.2.2.2.2.1
theorem dRow_isAs_11 : decode cRow_isAs 11 = .ok (.iconst 0, 1) := zfRow_isAs_0.2.2.2.2.2.1
theorem dRow_isAs_12 : decode cRow_isAs 12 = .ok (.ireturn, 1) := zfRow_isAs_0.2.2.2.2.2.2.1
theorem dRow_isAs_13 : decode cRow_isAs 13 = .ok (.iconst 0, 1) := zfRow_isAs_0.2.2.2.2.2.2.2.1
theorem dRow_isAs_14 : decode cRow_isAs 14 = .ok (.istore_n 2, 1) := zfRow_isAs_0.2.2.2.2.2.2.2.2.1
theorem dRow_isAs_15 : decode cRow_isAs 15 = .ok (.iload_n 2, 1) := zfRow_isAs_0.2.2.2.2.2.2.2.2.2.1
theorem dRow_isAs_16 : decode cRow_isAs 16 = .ok (.aload_n 0, 1) := zfRow_isAs_0.2.2.2.2.2.2.2.2.2.2.1
theorem dRow_isAs_17 : decode cRow_isAs 17 = .ok (.getfield 15, 3) := zfRow_isAs_0.2.2.2.2.2.2.2.2.2.2.2.1
theorem dRow_isAs_20 : decode cRow_isAs 20 = .ok (.if_icmp .ge 26, 3) := zfRow_isAs_0.2.2.2.2.2.2.2.2.2.2.2.2.1
theorem dRow_isAs_23 : decode cRow_isAs 23 = .ok (.aload_n 0, 1) := zfRow_isAs_0.2.2.2.2.2.2.2.2.2.2.2.2.2.1
theorem dRow_isAs_24 : decode cRow_isAs 24 = .ok (.getfield 9, 3) := zfRow_isAs_0.2.2.2.2.2.2.2.2.2.2.2.2.2.2.1
theorem dRow_isAs_27 : decode cRow_isAs 27 = .ok (.iload_n 2, 1) := zfRow_isAs_0.2.2.2.2.2.2.2.2.2.2.2.2.2.2.2.1
theorem dRow_isAs_28 : decode cRow_isAs 28 = .ok (.iaload, 1) := zfRow_isAs_0.2.2.2.2.2.2.2.2.2.2.2.2.2.2.2.2.1
theorem dRow_isAs_29 : decode cRow_isAs 29 = .ok (.aload_n 1, 1) := zfRow_isAs_0.2.2.2.2.2.2.2.2.2.2.2.2.2.2.2.2.2.1
theorem dRow_isAs_30 : decode cRow_isAs 30 = .ok (.getfield 9, 3) := zfRow_isAs_0.2.2.2.2.2.2.2.2.2.2.2.2.2.2.2.2.2.2.1
theorem dRow_isAs_33 : decode cRow_isAs 33 = .ok (.iload_n 2, 1) := zfRow_isAs_0.2.2.2.2.2.2.2.2.2.2.2.2.2.2.2.2.2.2.2.1
theorem dRow_isAs_34 : decode cRow_isAs 34 = .ok (.iaload, 1) := zfRow_isAs_0.2.2.2.2.2.2.2.2.2.2.2.2.2.2.2.2.2.2.2.2.1
theorem dRow_isAs_35 : decode cRow_isAs 35 = .ok (.if_icmp .eq 5, 3) := zfRow_isAs_0.2.2.2.2.2.2.2.2.2.2.2.2.2.2.2.2.2.2.2.2.2.1
theorem dRow_isAs_38 : decode cRow_isAs 38 = .ok (.iconst 0, 1) := zfRow_isAs_0.2.2.2.2.2.2.2.2.2.2.2.2.2.2.2.2.2.2.2.2.2.2.1
theorem dRow_isAs_39 : decode cRow_isAs 39 = .ok (.ireturn, 1) := zfRow_isAs_0.2.2.2.2.2.2.2.2.2.2.2.2.2.2.2.2.2.2.2.2.2.2.2.1
theorem dRow_isAs_40 : decode cRow_isAs 40 = .ok (.iinc 2 1, 3) := zfRow_isAs_0.2.2.2.2.2.2.2.2.2.2.2.2.2.2.2.2.2.2.2.2.2.2.2.2.1
theorem dRow_isAs_43 : decode cRow_isAs 43 = .ok (.goto (-28), 3) := zfRow_isAs_0.2.2.2.2.2.2.2.2.2.2.2.2.2.2.2.2.2.2.2.2.2.2.2.2.2.1
theorem dRow_isAs_46 : decode cRow_isAs 46 = .ok (.iconst 1, 1) := zfRow_isAs_0.2.2.2.2.2.2.2.2.2.2.2.2.2.2.2.2.2.2.2.2.2.2.2.2.2.2.1
theorem dRow_isAs_47 : decode cRow_isAs 47 = .ok (.ireturn, 1) := zfRow_isAs_0.2.2.2.2.2.2.2.2.2.2.2.2.2.2.2.2.2.2.2.2.2.2.2.2.2.2.2.1
theorem zfRow_joined_0 : decode cRow_joined 0 = .ok (.new 26, 3) ∧ decode cRow_joined 3 = .ok (.dup, 1) ∧ decode cRow_joined 4 = .ok (.invokespecial 28, 3) ∧ decode cRow_joined 7 = .ok (.astore_n 2, 1) ∧ decode cRow_joined 8 = .ok (.iconst 0, 1) ∧ decode cRow_joined 9 = .ok (.istore_n 3, 1) ∧ decode cRow_joined 10 = .ok (.iload_n 3, 1) ∧ decode cRow_joined 11 = .ok (.aload_n 0, 1) ∧ decode cRow_joined 12 = .ok (.getfield 15, 3) ∧ decode cRow_joined 15 = .ok (.if_icmp .ge 46, 3) ∧ decode cRow_joined 18 = .ok (.iload_n 3, 1) ∧ decode cRow_joined 19 = .ok (.ifCond .le 10, 3) ∧ decode cRow_joined 22 = .ok (.aload_n 2, 1) ∧ decode cRow_joined 23 = .ok (.bipush 32, 2) ∧ decode cRow_joined 25 = .ok (.invokevirtual 29, 3) ∧ decode cRow_joined 28 = .ok (.pop, 1) ∧ decode cRow_joined 29 = .ok (.aload_n 2, 1) ∧ decode cRow_joined 30 = .ok (.aload_n 0, 1) ∧ decode cRow_joined 31 = .ok (.getfield 9, 3) ∧ decode cRow_joined 34 = .ok (.iload_n 1, 1) ∧ decode cRow_joined 35 = .ok (.ifCond .eq 14, 3) ∧ decode cRow_joined 38 = .ok (.aload_n 0, 1) ∧ decode cRow_joined 39 = .ok (.getfield 15, 3) ∧ decode cRow_joined 42 = .ok (.iconst 1, 1) ∧ decode cRow_joined 43 = .ok (.isub, 1) ∧ decode cRow_joined 44 = .ok (.iload_n 3, 1) ∧ decode cRow_joined 45 = .ok (.isub, 1) ∧ decode cRow_joined 46 = .ok (.goto 4, 3) ∧ decode cRow_joined 49 = .ok (.iload_n 3, 1) ∧ decode cRow_joined 50 = .ok (.iaload, 1) ∧ decode cRow_joined 51 = .ok (.invokevirtual 33, 3) ∧ decode cRow_joined 54 = .ok (.pop, 1) ∧ True := Jvm.Free.DS.facts (code := cRow_joined) 0 [(.new 26, 3), (.dup, 1), (.invokespecial 28, 3), (.astore_n 2, 1), (.iconst 0, 1), (.istore_n 3, 1), (.iload_n 3, 1), (.aload_n 0, 1), (.getfield 15, 3), (.if_icmp .ge 46, 3), (.iload_n 3, 1), (.ifCond .le 10, 3), (.aload_n 2, 1), (.bipush 32, 2), (.invokevirtual 29, 3), (.pop, 1), (.aload_n 2, 1), (.aload_n 0, 1), (.getfield 9, 3), (.iload_n 1, 1), (.ifCond .eq 14, 3), (.aload_n 0, 1), (.getfield 15, 3), (.iconst 1, 1), (.isub, 1), (.iload_n 3, 1), (.isub, 1), (.goto 4, 3), (.iload_n 3, 1), (.iaload, 1), (.invokevirtual 33, 3), (.pop, 1)] (by decide +kernel) (by decide +kernel)
theorem dRow_joined_0 : decode cRow_joined 0 = .ok (.new 26, 3) := zfRow_joined_0.1
theorem dRow_joined_3 : decode cRow_joined 3 = .ok (.dup, 1) := zfRow_joined_0.2.1
theorem dRow_joined_4 : decode cRow_joined 4 = .ok (.invokespecial 28, 3) := zfRow_joined_0.2.2.1
theorem dRow_joined_7 : decode cRow_joined 7 = .ok (.astore_n 2, 1) := zfRow_joined_0.2.2.2.1
theorem dRow_joined_8 : decode cRow_joined 8 = .ok (.iconst 0, 1) := zfRow_joined_0.2.2.2.2.1
theorem dRow_joined_9 : decode cRow_joined 9 = .ok (.istore_n 3, 1) := zfRow_joined_0.2.2.2.2.2.1
theorem dRow_joined_10 : decode cRow_joined 10 = .ok (.iload_n 3, 1) := zfRow_joined_0.2.2.2.2.2.2.1
theorem dRow_joined_11 : decode cRow_joined 11 = .ok (.aload_n 0, 1) := zfRow_joined_0.2.2.2.2.2.2.2.1
theorem dRow_joined_12 : decode cRow_joined 12 = .ok (.getfield 15, 3) := zfRow_joined_0.2.2.2.2.2.2.2.2.1
theorem dRow_joined_15 : decode cRow_joined 15 = .ok (.if_icmp .ge 46, 3) := zfRow_joined_0.2.2.2.2.2.2.2.2.2.1
theorem dRow_joined_18 : decode cRow_joined 18 = .ok (.iload_n 3, 1) := zfRow_joined_0.2.2.2.2.2.2.2.2.2.2.1
theorem dRow_joined_19 : decode cRow_joined 19 = .ok (.ifCond .le 10, 3) := zfRow_joined_0.2.2.2.2.2.2.2.2.2.2.2.1
theorem dRow_joined_22 : decode cRow_joined 22 = .ok (.aload_n 2, 1) := zfRow_joined_0.2.2.2.2.2.2.2.2.2.2.2.2.1
theorem dRow_joined_23 : decode cRow_joined 23 = .ok (.bipush 32, 2) := zfRow_joined_0.2.2.2.2.2.2.2.2.2.2.2.2.2.1
theorem dRow_joined_25 : decode cRow_joined 25 = .ok (.invokevirtual 29, 3) := zfRow_joined_0.2.2.2.2.2.2.2.2.2.2.2.2.2.2.1
theorem dRow_joined_28 : decode cRow_joined 28 = .ok (.pop, 1) := zfRow_joined_0.2.2.2.2.2.2.2.2.2.2.2.2.2.2.2.1
theorem dRow_joined_29 : decode cRow_joined 29 = .ok (.aload_n 2, 1) := zfRow_joined_0.2.2.2.2.2.2.2.2.2.2.2.2.2.2.2.2.1
theorem dRow_joined_30 : decode cRow_joined 30 = .ok (.aload_n 0, 1) := zfRow_joined_0.2.2.2.2.2.2.2.2.2.2.2.2.2.2.2.2.2.1
theorem dRow_joined_31 : decode cRow_joined 31 = .ok (.getfield 9, 3) := zfRow_joined_0.2.2.2.2.2.2.2.2.2.2.2.2.2.2.2.2.2.2.1
theorem dRow_joined_34 : decode cRow_joined 34 = .ok (.iload_n 1, 1) := zfRow_joined_0.2.2.2.2.2.2.2.2.2.2.2.2.2.2.2.2.2.2.2.1
theorem dRow_joined_35 : decode cRow_joined 35 = .ok (.ifCond .eq 14, 3) := zfRow_joined_0.2.2.2.2.2.2.2.2.2.2.2.2.2.2.2.2.2.2.2.2.1
theorem dRow_joined_38 : decode cRow_joined 38 = .ok (.aload_n 0, 1) := zfRow_joined_0.2.2.2.2.2.2.2.2.2.2.2.2.2.2.2.2.2.2.2.2.2.1
theorem dRow_joined_39 : decode cRow_joined 39 = .ok (.getfield 15, 3) := zfRow_joined_0.2.2.2.2.2.2.2.2.2.2.2.2.2.2.2.2.2.2.2.2.2.2.1
theorem dRow_joined_42 : decode cRow_joined 42 = .ok (.iconst 1, 1) := zfRow_joined_0.2.2.2.2.2.2.2.2.2.2.2.2.2.2.2.2.2.2.2.2.2.2.2.1
theorem dRow_joined_43 : decode cRow_joined 43 = .ok (.isub, 1) := zfRow_joined_0.2.2.2.2.2.2.2.2.2.2.2.2.2.2.2.2.2.2.2.2.2.2.2.2.1
theorem dRow_joined_44 : decode cRow_joined 44 = .ok (.iload_n 3, 1) := zfRow_joined_0.2.2.2.2.2.2.2.2.2.2.2.2.2.2.2.2.2.2.2.2.2.2.2.2.2.1
theorem dRow_joined_45 : decode cRow_joined 45 = .ok (.isub, 1) := zfRow_joined_0.2.2.2.2.2.2.2.2.2.2.2.2.2.2.2.2.2.2.2.2.2.2.2.2.2.2.1
theorem dRow_joined_46 : decode cRow_joined 46 = .ok (.goto 4, 3) := zfRow_joined_0.2.2.2.2.2.2.2.2.2.2.2.2.2.2.2.2.2.2.2.2.2.2.2.2.2.2.2.1
theorem dRow_joined_49 : decode cRow_joined 49 = .ok (.iload_n 3, 1) := zfRow_joined_0.2.2.2.2.2.2.2.2.2.2.2.2.2.2.2.2.2.2.2.2.2.2.2.2.2.2.2.2.1
theorem dRow_joined_50 : decode cRow_joined 50 = .ok (.iaload, 1) := zfRow_joined_0.2.2.2.2.2.2.2.2.2.2.2.2.2.2.2.2.2.2.2.2.2.2.2.2.2.2.2.2.2.1
theorem dRow_joined_51 : decode cRow_joined 51 = .ok (.invokevirtual 33, 3) := zfRow_joined_0.2.2.2.2.2.2.2.2.2.2.2.2.2.2.2.2.2.2.2.2.2.2.2.2.2.2.2.2.2.2.1
theorem dRow_joined_54 : decode cRow_joined 54 = .ok (.pop, 1) := zfRow_joined_0.2.2.2.2.2.2.2.2.2.2.2.2.2.2.2.2.2.2.2.2.2.2.2.2.2.2.2.2.2.2.2.1
theorem zfRow_joined_55 : decode cRow_joined 55 = .ok (.iinc 3 1, 3) ∧ decode cRow_joined 58 = .ok (.goto (-48), 3) ∧ decode cRow_joined 61 = .ok (.aload_n 2, 1) ∧ decode cRow_joined 62 = .ok (.invokevirtual 36, 3) ∧ decode cRow_joined 65 = .ok (.areturn, 1) ∧ True := Jvm.Free.DS.facts (code := cRow_joined) 55 [(.iinc 3 1, 3), (.goto (-48), 3), (.aload_n 2, 1), (.invokevirtual 36, 3), (.areturn, 1)] (by decide +kernel) (by decide +kernel)
theorem dRow_joined_55 : decode cRow_joined 55 = .ok (.iinc 3 1, 3) := zfRow_joined_55.1
theorem dRow_joined_58 : decode cRow_joined 58 = .ok (.goto (-48), 3) := zfRow_joined_55.2.1
theorem dRow_joined_61 : decode cRow_joined 61 = .ok (.aload_n 2, 1) := zfRow_joined_55.2.2.1
theorem dRow_joined_62 : decode cRow_joined 62 = .ok (.invokevirtual 36, 3) := zfRow_joined_55.2.2.2.1
theorem dRow_joined_65 : decode cRow_joined 65 = .ok (.areturn, 1) := zfRow_joined_55.2.2.2.2.1
theorem zfRow_exchange_0 : decode cRow_exchange 0 = .ok (.aload_n 0, 1) ∧ decode cRow_exchange 1 = .ok (.iload_n 1, 1) ∧ decode cRow_exchange 2 = .ok (.invokevirtual 40, 3) ∧ decode cRow_exchange 5 = .ok (.istore_n 3, 1) ∧ decode cRow_exchange 6 = .ok (.aload_n 0, 1) ∧ decode cRow_exchange 7 = .ok (.iload_n 1, 1) ∧ decode cRow_exchange 8 = .ok (.aload_n 0, 1) ∧ decode cRow_exchange 9 = .ok (.iload_n 2, 1) ∧ decode cRow_exchange 10 = .ok (.invokevirtual 40, 3) ∧ decode cRow_exchange 13 = .ok (.invokevirtual 44, 3) ∧ decode cRow_exchange 16 = .ok (.aload_n 0, 1) ∧ decode cRow_exchange 17 = .ok (.iload_n 2, 1) ∧ decode cRow_exchange 18 = .ok (.iload_n 3, 1) ∧ decode cRow_exchange 19 = .ok (.invokevirtual 44, 3) ∧ decode cRow_exchange 22 = .ok (.return_, 1) ∧ True := Jvm.Free.DS.facts (code := cRow_exchange) 0 [(.aload_n 0, 1), (.iload_n 1, 1), (.invokevirtual 40, 3), (.istore_n 3, 1), (.aload_n 0, 1), (.iload_n 1, 1), (.aload_n 0, 1), (.iload_n 2, 1), (.invokevirtual 40, 3), (.invokevirtual 44, 3), (.aload_n 0, 1), (.iload_n 2, 1), (.iload_n 3, 1), (.invokevirtual 44, 3), (.return_, 1)] (by decide +kernel) (by decide +kernel)
theorem dRow_exchange_0 : decode cRow_exchange 0 = .ok (.aload_n 0, 1) := zfRow_exchange_0.1
theorem dRow_exchange_1 : decode cRow_exchange 1 = .ok (.iload_n 1, 1) := zfRow_exchange_0.2.1
theorem dRow_exchange_2 : decode cRow_exchange 2 = .ok (.invokevirtual 40, 3) := zfRow_exchange_0.2.2.1
theorem dRow_exchange_5 : decode cRow_exchange 5 = .ok (.istore_n 3, 1) := zfRow_exchange_0.2.2.2.1
theorem dRow_exchange_6 : decode cRow_exchange 6 = .ok (.aload_n 0, 1) := zfRow_exchange_0.2.2.2.2.1
theorem dRow_exchange_7 : decode cRow_exchange 7 = .ok (.iload_n 1, 1) := zfRow_exchange_0.2.2.2.2.2.1
theorem dRow_exchange_8 : decode cRow_exchange 8 = .ok (.aload_n 0, 1) := zfRow_exchange_0.2.2.2.2.2.2.1
theorem dRow_exchange_9 : decode cRow_exchange 9 = .ok (.iload_n 2, 1) := zfRow_exchange_0.2.2.2.2.2.2.2.1
theorem dRow_exchange_10 : decode cRow_exchange 10 = .ok (.invokevirtual 40, 3) := zfRow_exchange_0.2.2.2.2.2.2.2.2.1
theorem dRow_exchange_13 : decode cRow_exchange 13 = .ok (.invokevirtual 44, 3) := zfRow_exchange_0.2.2.2.2.2.2.2.2.2.1
theorem dRow_exchange_16 : decode cRow_exchange 16 = .ok (.aload_n 0, 1) := zfRow_exchange_0.2.2.2.2.2.2.2.2.2.2.1
theorem dRow_exchange_17 : decode cRow_exchange 17 = .ok (.iload_n 2, 1) := zfRow_exchange_0.2.2.2.2.2.2.2.2.2.2.2.1
theorem dRow_exchange_18 : decode cRow_exchange 18 = .ok (.iload_n 3, 1) := zfRow_exchange_0.2.2.2.2.2.2.2.2.2.2.2.2.1
theorem dRow_exchange_19 : decode cRow_exchange 19 = .ok (.invokevirtual 44, 3) := zfRow_exchange_0.2.2.2.2.2.2.2.2.2.2.2.2.2.1
theorem dRow_exchange_22 : decode cRow_exchange 22 = .ok (.return_, 1) := zfRow_exchange_0.2.2.2.2.2.2.2.2.2.2.2.2.2.2.1
theorem zfRow_turnRound_0 : decode cRow_turnRound 0 = .ok (.iconst 0, 1) ∧ decode cRow_turnRound 1 = .ok (.istore_n 1, 1) ∧ decode cRow_turnRound 2 = .ok (.iload_n 1, 1) ∧ decode cRow_turnRound 3 = .ok (.aload_n 0, 1) ∧ decode cRow_turnRound 4 = .ok (.getfield 15, 3) ∧ decode cRow_turnRound 7 = .ok (.iconst 2, 1) ∧ decode cRow_turnRound 8 = .ok (.idiv, 1) ∧ decode cRow_turnRound 9 = .ok (.if_icmp .ge 22, 3) ∧ decode cRow_turnRound 12 = .ok (.aload_n 0, 1) ∧ decode cRow_turnRound 13 = .ok (.iload_n 1, 1) ∧ decode cRow_turnRound 14 = .ok (.aload_n 0, 1) ∧ decode cRow_turnRound 15 = .ok (.getfield 15, 3) ∧ decode cRow_turnRound 18 = .ok (.iconst 1, 1) ∧ decode cRow_turnRound 19 = .ok (.isub, 1) ∧ decode cRow_turnRound 20 = .ok (.iload_n 1, 1) ∧ decode cRow_turnRound 21 = .ok (.isub, 1) ∧ decode cRow_turnRound 22 = .ok (.invokevirtual 48, 3) ∧ decode cRow_turnRound 25 = .ok (.iinc 1 1, 3) ∧ decode cRow_turnRound 28 = .ok (.goto (-26), 3) ∧ decode cRow_turnRound 31 = .ok (.return_, 1) ∧ True := Jvm.Free.DS.facts (code := cRow_turnRound) 0 [(.iconst 0, 1), (.istore_n 1, 1), (.iload_n 1, 1), (.aload_n 0, 1), (.getfield 15, 3), (.iconst 2, 1), (.idiv, 1), (.if_icmp .ge 22, 3), (.aload_n 0, 1), (.iload_n 1, 1), (.aload_n 0, 1), (.getfield 15, 3), (.iconst 1, 1), (.isub, 1), (.iload_n 1, 1), (.isub, 1), (.invokevirtual 48, 3), (.iinc 1 1, 3), (.goto (-26), 3), (.return_, 1)] (by decide +kernel) (by decide +kernel)
theorem dRow_turnRound_0 : decode cRow_turnRound 0 = .ok (.iconst 0, 1) := zfRow_turnRound_0.1
theorem dRow_turnRound_1 : decode cRow_turnRound 1 = .ok (.istore_n 1, 1) := zfRow_turnRound_0.2.1
theorem dRow_turnRound_2 : decode cRow_turnRound 2 = .ok (.iload_n 1, 1) := zfRow_turnRound_0.2.2.1
theorem dRow_turnRound_3 : decode cRow_turnRound 3 = .ok (.aload_n 0, 1) := zfRow_turnRound_0.2.2.2.1
theorem dRow_turnRound_4 : decode cRow_turnRound 4 = .ok (.getfield 15, 3) := zfRow_turnRound_0.2.2.2.2.1
theorem dRow_turnRound_7 : decode cRow_turnRound 7 = .ok (.iconst 2, 1) := zfRow_turnRound_0.2.2.2.2.2.1
theorem dRow_turnRound_8 : decode cRow_turnRound 8 = .ok (.idiv, 1) := zfRow_turnRound_0.2.2.2.2.2.2.1
theorem dRow_turnRound_9 : decode cRow_turnRound 9 = .ok (.if_icmp .ge 22, 3) := zfRow_turnRound_0.2.2.2.2.2.2.2.1
theorem dRow_turnRound_12 : decode cRow_turnRound 12 = .ok (.aload_n 0, 1) := zfRow_turnRound_0.2.2.2.2.2.2.2.2.1
theorem dRow_turnRound_13 : decode cRow_turnRound 13 = .ok (.iload_n 1, 1) := zfRow_turnRound_0.2.2.2.2.2.2.2.2.2.1
theorem dRow_turnRound_14 : decode cRow_turnRound 14 = .ok (.aload_n 0, 1) := zfRow_turnRound_0.2.2.2.2.2.2.2.2.2.2.1
theorem dRow_turnRound_15 : decode cRow_turnRound 15 = .ok (.getfield 15, 3) := zfRow_turnRound_0.2.2.2.2.2.2.2.2.2.2.2.1
theorem dRow_turnRound_18 : decode cRow_turnRound 18 = .ok (.iconst 1, 1) := zfRow_turnRound_0.2.2.2.2.2.2.2.2.2.2.2.2.1
theorem dRow_turnRound_19 : decode cRow_turnRound 19 = .ok (.isub, 1) := zfRow_turnRound_0.2.2.2.2.2.2.2.2.2.2.2.2.2.1
theorem dRow_turnRound_20 : decode cRow_turnRound 20 = .ok (.iload_n 1, 1) := zfRow_turnRound_0.2.2.2.2.2.2.2.2.2.2.2.2.2.2.1
theorem dRow_turnRound_21 : decode cRow_turnRound 21 = .ok (.isub, 1) := zfRow_turnRound_0.2.2.2.2.2.2.2.2.2.2.2.2.2.2.2.1
theorem dRow_turnRound_22 : decode cRow_turnRound 22 = .ok (.invokevirtual 48, 3) := zfRow_turnRound_0.2.2.2.2.2.2.2.2.2.2.2.2.2.2.2.2.1
theorem dRow_turnRound_25 : decode cRow_turnRound 25 = .ok (.iinc 1 1, 3) := zfRow_turnRound_0.2.2.2.2.2.2.2.2.2.2.2.2.2.2.2.2.2.1
theorem dRow_turnRound_28 : decode cRow_turnRound 28 = .ok (.goto (-26), 3) := zfRow_turnRound_0.2.2.2.2.2.2.2.2.2.2.2.2.2.2.2.2.2.2.1
theorem dRow_turnRound_31 : decode cRow_turnRound 31 = .ok (.return_, 1) := zfRow_turnRound_0.2.2.2.2.2.2.2.2.2.2.2.2.2.2.2.2.2.2.2.1
theorem zfRow_turnBy_0 : decode cRow_turnBy 0 = .ok (.aload_n 0, 1) ∧ decode cRow_turnBy 1 = .ok (.getfield 15, 3) ∧ decode cRow_turnBy 4 = .ok (.ifCond .ne 7, 3) ∧ decode cRow_turnBy 7 = .ok (.iconst 0, 1) ∧ decode cRow_turnBy 8 = .ok (.goto 11, 3) ∧ decode cRow_turnBy 11 = .ok (.iload_n 1, 1) ∧ decode cRow_turnBy 12 = .ok (.aload_n 0, 1) ∧ decode cRow_turnBy 13 = .ok (.getfield 15, 3) ∧ decode cRow_turnBy 16 = .ok (.invokestatic 51, 3) ∧ decode cRow_turnBy 19 = .ok (.istore_n 2, 1) ∧ decode cRow_turnBy 20 = .ok (.iconst 0, 1) ∧ decode cRow_turnBy 21 = .ok (.istore_n 3, 1) ∧ decode cRow_turnBy 22 = .ok (.iload_n 3, 1) ∧ decode cRow_turnBy 23 = .ok (.iload_n 2, 1) ∧ decode cRow_turnBy 24 = .ok (.if_icmp .ge 25, 3) ∧ decode cRow_turnBy 27 = .ok (.aload_n 0, 1) ∧ decode cRow_turnBy 28 = .ok (.iconst 0, 1) ∧ decode cRow_turnBy 29 = .ok (.aload_n 0, 1) ∧ decode cRow_turnBy 30 = .ok (.aload_n 0, 1) ∧ decode cRow_turnBy 31 = .ok (.getfield 15, 3) ∧ decode cRow_turnBy 34 = .ok (.iconst 1, 1) ∧ decode cRow_turnBy 35 = .ok (.isub, 1) ∧ decode cRow_turnBy 36 = .ok (.invokevirtual 57, 3) ∧ decode cRow_turnBy 39 = .ok (.invokevirtual 60, 3) ∧ decode cRow_turnBy 42 = .ok (.pop, 1) ∧ decode cRow_turnBy 43 = .ok (.iinc 3 1, 3) ∧ decode cRow_turnBy 46 = .ok (.goto (-24), 3) ∧ decode cRow_turnBy 49 = .ok (.return_, 1) ∧ True := Jvm.Free.DS.facts (code := cRow_turnBy) 0 [(.aload_n 0, 1), (.getfield 15, 3), (.ifCond .ne 7, 3), (.iconst 0, 1), (.goto 11, 3), (.iload_n 1, 1), (.aload_n 0, 1), (.getfield 15, 3), (.invokestatic 51, 3), (.istore_n 2, 1), (.iconst 0, 1), (.istore_n 3, 1), (.iload_n 3, 1), (.iload_n 2, 1), (.if_icmp .ge 25, 3), (.aload_n 0, 1), (.iconst 0, 1), (.aload_n 0, 1), (.aload_n 0, 1), (.getfield 15, 3), (.iconst 1, 1), (.isub, 1), (.invokevirtual 57, 3), (.invokevirtual 60, 3), (.pop, 1), (.iinc 3 1, 3), (.goto (-24), 3), (.return_, 1)] (by decide +kernel) (by decide +kernel)
theorem dRow_turnBy_0 : decode cRow_turnBy 0 = .ok (.aload_n 0, 1) := zfRow_turnBy_0.1
theorem dRow_turnBy_1 : decode cRow_turnBy 1 = .ok (.getfield 15, 3) := zfRow_turnBy_0.2.1
theorem dRow_turnBy_4 : decode cRow_turnBy 4 = .ok (.ifCond .ne 7, 3) := zfRow_turnBy_0.2.2.1
theorem dRow_turnBy_7 : decode cRow_turnBy 7 = .ok (.iconst 0, 1) := zfRow_turnBy_0.2.2.2.1
theorem dRow_turnBy_8 : decode cRow_turnBy 8 = .ok (.goto 11, 3) := zfRow_turnBy_0.2.2.2.2.1
theorem dRow_turnBy_11 : decode cRow_turnBy 11 = .ok (.iload_n 1, 1) := zfRow_turnBy_0.2.2.2.2.2.1
theorem dRow_turnBy_12 : decode cRow_turnBy 12 = .ok (.aload_n 0, 1) := zfRow_turnBy_0.2.2.2.2.2.2.1
theorem dRow_turnBy_13 : decode cRow_turnBy 13 = .ok (.getfield 15, 3) := zfRow_turnBy_0.2.2.2.2.2.2.2.1
theorem dRow_turnBy_16 : decode cRow_turnBy 16 = .ok (.invokestatic 51, 3) := zfRow_turnBy_0.2.2.2.2.2.2.2.2.1
theorem dRow_turnBy_19 : decode cRow_turnBy 19 = .ok (.istore_n 2, 1) := zfRow_turnBy_0.2.2.2.2.2.2.2.2.2.1
theorem dRow_turnBy_20 : decode cRow_turnBy 20 = .ok (.iconst 0, 1) := zfRow_turnBy_0.2.2.2.2.2.2.2.2.2.2.1
theorem dRow_turnBy_21 : decode cRow_turnBy 21 = .ok (.istore_n 3, 1) := zfRow_turnBy_0.2.2.2.2.2.2.2.2.2.2.2.1
theorem dRow_turnBy_22 : decode cRow_turnBy 22 = .ok (.iload_n 3, 1) := zfRow_turnBy_0.2.2.2.2.2.2.2.2.2.2.2.2.1
theorem dRow_turnBy_23 : decode cRow_turnBy 23 = .ok (.iload_n 2, 1) := zfRow_turnBy_0.2.2.2.2.2.2.2.2.2.2.2.2.2.1
theorem dRow_turnBy_24 : decode cRow_turnBy 24 = .ok (.if_icmp .ge 25, 3) := zfRow_turnBy_0.2.2.2.2.2.2.2.2.2.2.2.2.2.2.1
theorem dRow_turnBy_27 : decode cRow_turnBy 27 = .ok (.aload_n 0, 1) := zfRow_turnBy_0.2.2.2.2.2.2.2.2.2.2.2.2.2.2.2.1
theorem dRow_turnBy_28 : decode cRow_turnBy 28 = .ok (.iconst 0, 1) := zfRow_turnBy_0.2.2.2.2.2.2.2.2.2.2.2.2.2.2.2.2.1
theorem dRow_turnBy_29 : decode cRow_turnBy 29 = .ok (.aload_n 0, 1) := zfRow_turnBy_0.2.2.2.2.2.2.2.2.2.2.2.2.2.2.2.2.2.1
theorem dRow_turnBy_30 : decode cRow_turnBy 30 = .ok (.aload_n 0, 1) := zfRow_turnBy_0.2.2.2.2.2.2.2.2.2.2.2.2.2.2.2.2.2.2.1
theorem dRow_turnBy_31 : decode cRow_turnBy 31 = .ok (.getfield 15, 3) := zfRow_turnBy_0.2.2.2.2.2.2.2.2.2.2.2.2.2.2.2.2.2.2.2.1
theorem dRow_turnBy_34 : decode cRow_turnBy 34 = .ok (.iconst 1, 1) := zfRow_turnBy_0.2.2.2.2.2.2.2.2.2.2.2.2.2.2.2.2.2.2.2.2.1
theorem dRow_turnBy_35 : decode cRow_turnBy 35 = .ok (.isub, 1) := zfRow_turnBy_0.2.2.2.2.2.2.2.2.2.2.2.2.2.2.2.2.2.2.2.2.2.1
theorem dRow_turnBy_36 : decode cRow_turnBy 36 = .ok (.invokevirtual 57, 3) := zfRow_turnBy_0.2.2.2.2.2.2.2.2.2.2.2.2.2.2.2.2.2.2.2.2.2.2.1
theorem dRow_turnBy_39 : decode cRow_turnBy 39 = .ok (.invokevirtual 60, 3) := zfRow_turnBy_0.2.2.2.2.2.2.2.2.2.2.2.2.2.2.2.2.2.2.2.2.2.2.2.1
theorem dRow_turnBy_42 : decode cRow_turnBy 42 = .ok (.pop, 1) := zfRow_turnBy_0.2.2.2.2.2.2.2.2.2.2.2.2.2.2.2.2.2.2.2.2.2.2.2.2.1
theorem dRow_turnBy_43 : decode cRow_turnBy 43 = .ok (.iinc 3 1, 3) := zfRow_turnBy_0.2.2.2.2.2.2.2.2.2.2.2.2.2.2.2.2.2.2.2.2.2.2.2.2.2.1
theorem dRow_turnBy_46 : decode cRow_turnBy 46 = .ok (.goto (-24), 3) := zfRow_turnBy_0.2.2.2.2.2.2.2.2.2.2.2.2.2.2.2.2.2.2.2.2.2.2.2.2.2.2.1
theorem dRow_turnBy_49 : decode cRow_turnBy 49 = .ok (.return_, 1) := zfRow_turnBy_0.2.2.2.2.2.2.2.2.2.2.2.2.2.2.2.2.2.2.2.2.2.2.2.2.2.2.2.1
theorem zfRow_become_0 : decode cRow_become 0 = .ok (.iconst 0, 1) ∧ decode cRow_become 1 = .ok (.istore_n 2, 1) ∧ decode cRow_become 2 = .ok (.iload_n 2, 1) ∧ decode cRow_become 3 = .ok (.aload_n 1, 1) ∧ decode cRow_become 4 = .ok (.getfield 15, 3) ∧ decode cRow_become 7 = .ok (.if_icmp .ge 21, 3) ∧ decode cRow_become 10 = .ok (.aload_n 0, 1) ∧ decode cRow_become 11 = .ok (.getfield 9, 3) ∧ decode cRow_become 14 = .ok (.iload_n 2, 1) ∧ decode cRow_become 15 = .ok (.aload_n 1, 1) ∧ decode cRow_become 16 = .ok (.getfield 9, 3) ∧ decode cRow_become 19 = .ok (.iload_n 2, 1) ∧ decode cRow_become 20 = .ok (.iaload, 1) ∧ decode cRow_become 21 = .ok (.iastore, 1) ∧ decode cRow_become 22 = .ok (.iinc 2 1, 3) ∧ decode cRow_become 25 = .ok (.goto (-23), 3) ∧ decode cRow_become 28 = .ok (.aload_n 0, 1) ∧ decode cRow_become 29 = .ok (.aload_n 1, 1) ∧ decode cRow_become 30 = .ok (.getfield 15, 3) ∧ decode cRow_become 33 = .ok (.putfield 15, 3) ∧ decode cRow_become 36 = .ok (.return_, 1) ∧ True := Jvm.Free.DS.facts (code := cRow_become) 0 [(.iconst 0, 1), (.istore_n 2, 1), (.iload_n 2, 1), (.aload_n 1, 1), (.getfield 15, 3), (.if_icmp .ge 21, 3), (.aload_n 0, 1), (.getfield 9, 3), (.iload_n 2, 1), (.aload_n 1, 1), (.getfield 9, 3), (.iload_n 2, 1), (.iaload, 1), (.iastore, 1), (.iinc 2 1, 3), (.goto (-23), 3), (.aload_n 0, 1), (.aload_n 1, 1), (.getfield 15, 3), (.putfield 15, 3), (.return_, 1)] (by decide +kernel) (by decide +kernel)
theorem dRow_become_0 : decode cRow_become 0 = .ok (.iconst 0, 1) := zfRow_become_0.1
theorem dRow_become_1 : decode cRow_become 1 = .ok (.istore_n 2, 1) := zfRow_become_0.2.1
theorem dRow_become_2 : decode cRow_become 2 = .ok (.iload_n 2, 1) := zfRow_become_0.2.2.1
theorem dRow_become_3 : decode cRow_become 3 = .ok (.aload_n 1, 1) := zfRow_become_0.2.2.2.1
theorem dRow_become_4 : decode cRow_become 4 = .ok (.getfield 15, 3) := zfRow_become_0.2.2.2.2.1
theorem dRow_become_7 : decode cRow_become 7 = .ok (.if_icmp .ge 21, 3) := zfRow_become_0.2.2.2.2.2.1
theorem dRow_become_10 : decode cRow_become 10 = .ok (.aload_n 0, 1) := zfRow_become_0.2.2.2.2.2.2.1
theorem dRow_become_11 : decode cRow_become 11 = .ok (.getfield 9, 3) := zfRow_become_0.2.2.2.2.2.2.2.1
theorem dRow_become_14 : decode cRow_become 14 = .ok (.iload_n 2, 1) := zfRow_become_0.2.2.2.2.2.2.2.2.1
theorem dRow_become_15 : decode cRow_become 15 = .ok (.aload_n 1, 1) := zfRow_become_0.2.2.2.2.2.2.2.2.2.1
theorem dRow_become_16 : decode cRow_become 16 = .ok (.getfield 9, 3) := zfRow_become_0.2.2.2.2.2.2.2.2.2.2.1
theorem dRow_become_19 : decode cRow_become 19 = .ok (.iload_n 2, 1) := zfRow_become_0.2.2.2.2.2.2.2.2.2.2.2.1
theorem dRow_become_20 : decode cRow_become 20 = .ok (.iaload, 1) := zfRow_become_0.2.2.2.2.2.2.2.2.2.2.2.2.1
theorem dRow_become_21 : decode cRow_become 21 = .ok (.iastore, 1) := zfRow_become_0.2.2.2.2.2.2.2.2.2.2.2.2.2.1
theorem dRow_become_22 : decode cRow_become 22 = .ok (.iinc 2 1, 3) := zfRow_become_0.2.2.2.2.2.2.2.2.2.2.2.2.2.2.1
theorem dRow_become_25 : decode cRow_become 25 = .ok (.goto (-23), 3) := zfRow_become_0.2.2.2.2.2.2.2.2.2.2.2.2.2.2.2.1
theorem dRow_become_28 : decode cRow_become 28 = .ok (.aload_n 0, 1) := zfRow_become_0.2.2.2.2.2.2.2.2.2.2.2.2.2.2.2.2.1
theorem dRow_become_29 : decode cRow_become 29 = .ok (.aload_n 1, 1) := zfRow_become_0.2.2.2.2.2.2.2.2.2.2.2.2.2.2.2.2.2.1
theorem dRow_become_30 : decode cRow_become 30 = .ok (.getfield 15, 3) := zfRow_become_0.2.2.2.2.2.2.2.2.2.2.2.2.2.2.2.2.2.2.1
theorem dRow_become_33 : decode cRow_become 33 = .ok (.putfield 15, 3) := zfRow_become_0.2.2.2.2.2.2.2.2.2.2.2.2.2.2.2.2.2.2.2.1
theorem dRow_become_36 : decode cRow_become 36 = .ok (.return_, 1) := zfRow_become_0.2.2.2.2.2.2.2.2.2.2.2.2.2.2.2.2.2.2.2.2.1
theorem zfRow_becomePlaces_0 : decode cRow_becomePlaces 0 = .ok (.aload_n 0, 1) ∧ decode cRow_becomePlaces 1 = .ok (.iconst 0, 1) ∧ decode cRow_becomePlaces 2 = .ok (.putfield 15, 3) ∧ decode cRow_becomePlaces 5 = .ok (.iconst 0, 1) ∧ decode cRow_becomePlaces 6 = .ok (.istore_n 2, 1) ∧ decode cRow_becomePlaces 7 = .ok (.iload_n 2, 1) ∧ decode cRow_becomePlaces 8 = .ok (.iload_n 1, 1) ∧ decode cRow_becomePlaces 9 = .ok (.if_icmp .ge 15, 3) ∧ decode cRow_becomePlaces 12 = .ok (.aload_n 0, 1) ∧ decode cRow_becomePlaces 13 = .ok (.iload_n 2, 1) ∧ decode cRow_becomePlaces 14 = .ok (.invokevirtual 64, 3) ∧ decode cRow_becomePlaces 17 = .ok (.pop, 1) ∧ decode cRow_becomePlaces 18 = .ok (.iinc 2 1, 3) ∧ decode cRow_becomePlaces 21 = .ok (.goto (-14), 3) ∧ decode cRow_becomePlaces 24 = .ok (.return_, 1) ∧ True := Jvm.Free.DS.facts (code := cRow_becomePlaces) 0 [(.aload_n 0, 1), (.iconst 0, 1), (.putfield 15, 3), (.iconst 0, 1), (.istore_n 2, 1), (.iload_n 2, 1), (.iload_n 1, 1), (.if_icmp .ge 15, 3), (.aload_n 0, 1), (.iload_n 2, 1), (.invokevirtual 64, 3), (.pop, 1), (.iinc 2 1, 3), (.goto (-14), 3), (.return_, 1)] (by decide +kernel) (by decide +kernel)
theorem dRow_becomePlaces_0 : decode cRow_becomePlaces 0 = .ok (.aload_n 0, 1) := zfRow_becomePlaces_0.1
theorem dRow_becomePlaces_1 : decode cRow_becomePlaces 1 = .ok (.iconst 0, 1) := zfRow_becomePlaces_0.2.1
theorem dRow_becomePlaces_2 : decode cRow_becomePlaces 2 = .ok (.putfield 15, 3) := zfRow_becomePlaces_0.2.2.1
theorem dRow_becomePlaces_5 : decode cRow_becomePlaces 5 = .ok (.iconst 0, 1) := zfRow_becomePlaces_0.2.2.2.1
theorem dRow_becomePlaces_6 : decode cRow_becomePlaces 6 = .ok (.istore_n 2, 1) := zfRow_becomePlaces_0.2.2.2.2.1
theorem dRow_becomePlaces_7 : decode cRow_becomePlaces 7 = .ok (.iload_n 2, 1) := zfRow_becomePlaces_0.2.2.2.2.2.1
theorem dRow_becomePlaces_8 : decode cRow_becomePlaces 8 = .ok (.iload_n 1, 1) := zfRow_becomePlaces_0.2.2.2.2.2.2.1
theorem dRow_becomePlaces_9 : decode cRow_becomePlaces 9 = .ok (.if_icmp .ge 15, 3) := zfRow_becomePlaces_0.2.2.2.2.2.2.2.1
theorem dRow_becomePlaces_12 : decode cRow_becomePlaces 12 = .ok (.aload_n 0, 1) := zfRow_becomePlaces_0.2.2.2.2.2.2.2.2.1
theorem dRow_becomePlaces_13 : decode cRow_becomePlaces 13 = .ok (.iload_n 2, 1) := zfRow_becomePlaces_0.2.2.2.2.2.2.2.2.2.1
theorem dRow_becomePlaces_14 : decode cRow_becomePlaces 14 = .ok (.invokevirtual 64, 3) := zfRow_becomePlaces_0.2.2.2.2.2.2.2.2.2.2.1
theorem dRow_becomePlaces_17 : decode cRow_becomePlaces 17 = .ok (.pop, 1) := zfRow_becomePlaces_0.2.2.2.2.2.2.2.2.2.2.2.1
theorem dRow_becomePlaces_18 : decode cRow_becomePlaces 18 = .ok (.iinc 2 1, 3) := zfRow_becomePlaces_0.2.2.2.2.2.2.2.2.2.2.2.2.1
theorem dRow_becomePlaces_21 : decode cRow_becomePlaces 21 = .ok (.goto (-14), 3) := zfRow_becomePlaces_0.2.2.2.2.2.2.2.2.2.2.2.2.2.1
theorem dRow_becomePlaces_24 : decode cRow_becomePlaces 24 = .ok (.return_, 1) := zfRow_becomePlaces_0.2.2.2.2.2.2.2.2.2.2.2.2.2.2.1
theorem zfRow_addBehind_0 : decode cRow_addBehind 0 = .ok (.iload_n 1, 1) ∧ decode cRow_addBehind 1 = .ok (.sipush (-9999), 3) ∧ decode cRow_addBehind 4 = .ok (.if_icmp .lt 26, 3) ∧ decode cRow_addBehind 7 = .ok (.iload_n 1, 1) ∧ decode cRow_addBehind 8 = .ok (.sipush 9999, 3) ∧ decode cRow_addBehind 11 = .ok (.if_icmp .gt 19, 3) ∧ decode cRow_addBehind 14 = .ok (.aload_n 0, 1) ∧ decode cRow_addBehind 15 = .ok (.aload_n 0, 1) ∧ decode cRow_addBehind 16 = .ok (.getfield 15, 3) ∧ decode cRow_addBehind 19 = .ok (.iload_n 1, 1) ∧ decode cRow_addBehind 20 = .ok (.invokevirtual 60, 3) ∧ decode cRow_addBehind 23 = .ok (.ifCond .eq 7, 3) ∧ decode cRow_addBehind 26 = .ok (.iconst 1, 1) ∧ decode cRow_addBehind 27 = .ok (.goto 4, 3) ∧ decode cRow_addBehind 30 = .ok (.iconst 0, 1) ∧ decode cRow_addBehind 31 = .ok (.ireturn, 1) ∧ True := Jvm.Free.DS.facts (code := cRow_addBehind) 0 [(.iload_n 1, 1), (.sipush (-9999), 3), (.if_icmp .lt 26, 3), (.iload_n 1, 1), (.sipush 9999, 3), (.if_icmp .gt 19, 3), (.aload_n 0, 1), (.aload_n 0, 1), (.getfield 15, 3), (.iload_n 1, 1), (.invokevirtual 60, 3), (.ifCond .eq 7, 3), (.iconst 1, 1), (.goto 4, 3), (.iconst 0, 1), (.ireturn, 1)] (by decide +kernel) (by decide +kernel)
theorem dRow_addBehind_0 : decode cRow_addBehind 0 = .ok (.iload_n 1, 1) := zfRow_addBehind_0.1
theorem dRow_addBehind_1 : decode cRow_addBehind 1 = .ok (.sipush (-9999), 3) := zfRow_addBehind_0.2.1
theorem dRow_addBehind_4 : decode cRow_addBehind 4 = .ok (.if_icmp .lt 26, 3) := zfRow_addBehind_0.2.2.1
theorem dRow_addBehind_7 : decode cRow_addBehind 7 = .ok (.iload_n 1, 1) := zfRow_addBehind_0.2.2.2.1
theorem dRow_addBehind_8 : decode cRow_addBehind 8 = .ok (.sipush 9999, 3) := zfRow_addBehind_0.2.2.2.2.1
theorem dRow_addBehind_11 : decode cRow_addBehind 11 = .ok (.if_icmp .gt 19, 3) := zfRow_addBehind_0.2.2.2.2.2.1
theorem dRow_addBehind_14 : decode cRow_addBehind 14 = .ok (.aload_n 0, 1) := zfRow_addBehind_0.2.2.2.2.2.2.1
theorem dRow_addBehind_15 : decode cRow_addBehind 15 = .ok (.aload_n 0, 1) := zfRow_addBehind_0.2.2.2.2.2.2.2.1
theorem dRow_addBehind_16 : decode cRow_addBehind 16 = .ok (.getfield 15, 3) := zfRow_addBehind_0.2.2.2.2.2.2.2.2.1
theorem dRow_addBehind_19 : decode cRow_addBehind 19 = .ok (.iload_n 1, 1) := zfRow_addBehind_0.2.2.2.2.2.2.2.2.2.1
theorem dRow_addBehind_20 : decode cRow_addBehind 20 = .ok (.invokevirtual 60, 3) := zfRow_addBehind_0.2.2.2.2.2.2.2.2.2.2.1
theorem dRow_addBehind_23 : decode cRow_addBehind 23 = .ok (.ifCond .eq 7, 3) := zfRow_addBehind_0.2.2.2.2.2.2.2.2.2.2.2.1
theorem dRow_addBehind_26 : decode cRow_addBehind 26 = .ok (.iconst 1, 1) := zfRow_addBehind_0.2.2.2.2.2.2.2.2.2.2.2.2.1
theorem dRow_addBehind_27 : decode cRow_addBehind 27 = .ok (.goto 4, 3) := zfRow_addBehind_0.2.2.2.2.2.2.2.2.2.2.2.2.2.1
theorem dRow_addBehind_30 : decode cRow_addBehind 30 = .ok (.iconst 0, 1) := zfRow_addBehind_0.2.2.2.2.2.2.2.2.2.2.2.2.2.2.1
theorem dRow_addBehind_31 : decode cRow_addBehind 31 = .ok (.ireturn, 1) := zfRow_addBehind_0.2.2.2.2.2.2.2.2.2.2.2.2.2.2.2.1
theorem zfRow_becomeJoined_0 : decode cRow_becomeJoined 0 = .ok (.aload_n 1, 1) ∧ decode cRow_becomeJoined 1 = .ok (.getfield 15, 3) ∧ decode cRow_becomeJoined 4 = .ok (.aload_n 3, 1) ∧ decode cRow_becomeJoined 5 = .ok (.getfield 15, 3) ∧ decode cRow_becomeJoined 8 = .ok (.iadd, 1) ∧ decode cRow_becomeJoined 9 = .ok (.bipush 16, 2) ∧ decode cRow_becomeJoined 11 = .ok (.if_icmp .le 5, 3) ∧ decode cRow_becomeJoined 14 = .ok (.iconst 0, 1) ∧ decode cRow_becomeJoined 15 = .ok (.ireturn, 1) ∧ decode cRow_becomeJoined 16 = .ok (.aload_n 0, 1) ∧ decode cRow_becomeJoined 17 = .ok (.aload_n 1, 1) ∧ decode cRow_becomeJoined 18 = .ok (.invokevirtual 67, 3) ∧ decode cRow_becomeJoined 21 = .ok (.iconst 0, 1) ∧ decode cRow_becomeJoined 22 = .ok (.istore 4, 2) ∧ decode cRow_becomeJoined 24 = .ok (.iload 4, 2) ∧ decode cRow_becomeJoined 26 = .ok (.aload_n 3, 1) ∧ decode cRow_becomeJoined 27 = .ok (.getfield 15, 3) ∧ decode cRow_becomeJoined 30 = .ok (.if_icmp .ge 24, 3) ∧ decode cRow_becomeJoined 33 = .ok (.aload_n 0, 1) ∧ decode cRow_becomeJoined 34 = .ok (.iload_n 2, 1) ∧ decode cRow_becomeJoined 35 = .ok (.iload 4, 2) ∧ decode cRow_becomeJoined 37 = .ok (.iadd, 1) ∧ decode cRow_becomeJoined 38 = .ok (.aload_n 3, 1) ∧ decode cRow_becomeJoined 39 = .ok (.iload 4, 2) ∧ decode cRow_becomeJoined 41 = .ok (.invokevirtual 40, 3) ∧ decode cRow_becomeJoined 44 = .ok (.invokevirtual 60, 3) ∧ decode cRow_becomeJoined 47 = .ok (.pop, 1) ∧ decode cRow_becomeJoined 48 = .ok (.iinc 4 1, 3) ∧ decode cRow_becomeJoined 51 = .ok (.goto (-27), 3) ∧ decode cRow_becomeJoined 54 = .ok (.iconst 1, 1) ∧ decode cRow_becomeJoined 55 = .ok (.ireturn, 1) ∧ True := Jvm.Free.DS.facts (code := cRow_becomeJoined) 0 [(.aload_n 1, 1), (.getfield 15, 3), (.aload_n 3, 1), (.getfield 15, 3), (.iadd, 1), (.bipush 16, 2), (.if_icmp .le 5, 3), (.iconst 0, 1), (.ireturn, 1), (.aload_n 0, 1), (.aload_n 1, 1), (.invokevirtual 67, 3), (.iconst 0, 1), (.istore 4, 2), (.iload 4, 2), (.aload_n 3, 1), (.getfield 15, 3), (.if_icmp .ge 24, 3), (.aload_n 0, 1), (.iload_n 2, 1), (.iload 4, 2), (.iadd, 1), (.aload_n 3, 1), (.iload 4, 2), (.invokevirtual 40, 3), (.invokevirtual 60, 3), (.pop, 1), (.iinc 4 1, 3), (.goto (-27), 3), (.iconst 1, 1), (.ireturn, 1)] (by decide +kernel) (by decide +kernel)
theorem dRow_becomeJoined_0 : decode cRow_becomeJoined 0 = .ok (.aload_n 1, 1) := zfRow_becomeJoined_0.1
theorem dRow_becomeJoined_1 : decode cRow_becomeJoined 1 = .ok (.getfield 15, 3) := zfRow_becomeJoined_0.2.1
theorem dRow_becomeJoined_4 : decode cRow_becomeJoined 4 = .ok (.aload_n 3, 1) := zfRow_becomeJoined_0.2.2.1
theorem dRow_becomeJoined_5 : decode cRow_becomeJoined 5 = .ok (.getfield 15, 3) := zfRow_becomeJoined_0.2.2.2.1
theorem dRow_becomeJoined_8 : decode cRow_becomeJoined 8 = .ok (.iadd, 1) := zfRow_becomeJoined_0.2.2.2.2.1
theorem dRow_becomeJoined_9 : decode cRow_becomeJoined 9 = .ok (.bipush 16, 2) := zfRow_becomeJoined_0.2.2.2.2.2.1
theorem dRow_becomeJoined_11 : decode cRow_becomeJoined 11 = .ok (.if_icmp .le 5, 3) := zfRow_becomeJoined_0.2.2.2.2.2.2.1
theorem dRow_becomeJoined_14 : decode cRow_becomeJoined 14 = .ok (.iconst 0, 1) := zfRow_becomeJoined_0.2.2.2.2.2.2.2.1
theorem dRow_becomeJoined_15 : decode cRow_becomeJoined 15 = .ok (.ireturn, 1) := zfRow_becomeJoined_0.2.2.2.2.2.2.2.2.1
theorem dRow_becomeJoined_16 : decode cRow_becomeJoined 16 = .ok (.aload_n 0, 1) := zfRow_becomeJoined_0.2.2.2.2.2.2.2.2.2.1
theorem dRow_becomeJoined_17 : decode cRow_becomeJoined 17 = .ok (.aload_n 1, 1) := zfRow_becomeJoined_0.2.2.2.2.2.2.2.2.2.2.1
theorem dRow_becomeJoined_18 : decode cRow_becomeJoined 18 = .ok (.invokevirtual 67, 3) := zfRow_becomeJoined_0.2.2.2.2.2.2.2.2.2.2.2.1
theorem dRow_becomeJoined_21 : decode cRow_becomeJoined 21 = .ok (.iconst 0, 1) := zfRow_becomeJoined_0.2.2.2.2.2.2.2.2.2.2.2.2.1
theorem dRow_becomeJoined_22 : decode cRow_becomeJoined 22 = .ok (.istore 4, 2) := zfRow_becomeJoined_0.2.2.2.2.2.2.2.2.2.2.2.2.2.1
theorem dRow_becomeJoined_24 : decode cRow_becomeJoined 24 = .ok (.iload 4, 2) := zfRow_becomeJoined_0.2.2.2.2.2.2.2.2.2.2.2.2.2.2.1
theorem dRow_becomeJoined_26 : decode cRow_becomeJoined 26 = .ok (.aload_n 3, 1) := zfRow_becomeJoined_0.2.2.2.2.2.2.2.2.2.2.2.2.2.2.2.1
theorem dRow_becomeJoined_27 : decode cRow_becomeJoined 27 = .ok (.getfield 15, 3) := zfRow_becomeJoined_0.2.2.2.2.2.2.2.2.2.2.2.2.2.2.2.2.1
theorem dRow_becomeJoined_30 : decode cRow_becomeJoined 30 = .ok (.if_icmp .ge 24, 3) := zfRow_becomeJoined_0.2.2.2.2.2.2.2.2.2.2.2.2.2.2.2.2.2.1
theorem dRow_becomeJoined_33 : decode cRow_becomeJoined 33 = .ok (.aload_n 0, 1) := zfRow_becomeJoined_0.2.2.2.2.2.2.2.2.2.2.2.2.2.2.2.2.2.2.1
theorem dRow_becomeJoined_34 : decode cRow_becomeJoined 34 = .ok (.iload_n 2, 1) := zfRow_becomeJoined_0.2.2.2.2.2.2.2.2.2.2.2.2.2.2.2.2.2.2.2.1
theorem dRow_becomeJoined_35 : decode cRow_becomeJoined 35 = .ok (.iload 4, 2) := zfRow_becomeJoined_0.2.2.2.2.2.2.2.2.2.2.2.2.2.2.2.2.2.2.2.2.1
theorem dRow_becomeJoined_37 : decode cRow_becomeJoined 37 = .ok (.iadd, 1) := zfRow_becomeJoined_0.2.2.2.2.2.2.2.2.2.2.2.2.2.2.2.2.2.2.2.2.2.1
theorem dRow_becomeJoined_38 : decode cRow_becomeJoined 38 = .ok (.aload_n 3, 1) := zfRow_becomeJoined_0.2.2.2.2.2.2.2.2.2.2.2.2.2.2.2.2.2.2.2.2.2.2.1
theorem dRow_becomeJoined_39 : decode cRow_becomeJoined 39 = .ok (.iload 4, 2) := zfRow_becomeJoined_0.2.2.2.2.2.2.2.2.2.2.2.2.2.2.2.2.2.2.2.2.2.2.2.1
theorem dRow_becomeJoined_41 : decode cRow_becomeJoined 41 = .ok (.invokevirtual 40, 3) := zfRow_becomeJoined_0.2.2.2.2.2.2.2.2.2.2.2.2.2.2.2.2.2.2.2.2.2.2.2.2.1
theorem dRow_becomeJoined_44 : decode cRow_becomeJoined 44 = .ok (.invokevirtual 60, 3) := zfRow_becomeJoined_0.2.2.2.2.2.2.2.2.2.2.2.2.2.2.2.2.2.2.2.2.2.2.2.2.2.1
theorem dRow_becomeJoined_47 : decode cRow_becomeJoined 47 = .ok (.pop, 1) := zfRow_becomeJoined_0.2.2.2.2.2.2.2.2.2.2.2.2.2.2.2.2.2.2.2.2.2.2.2.2.2.2.1
theorem dRow_becomeJoined_48 : decode cRow_becomeJoined 48 = .ok (.iinc 4 1, 3) := zfRow_becomeJoined_0.2.2.2.2.2.2.2.2.2.2.2.2.2.2.2.2.2.2.2.2.2.2.2.2.2.2.2.1
theorem dRow_becomeJoined_51 : decode cRow_becomeJoined 51 = .ok (.goto (-27), 3) := zfRow_becomeJoined_0.2.2.2.2.2.2.2.2.2.2.2.2.2.2.2.2.2.2.2.2.2.2.2.2.2.2.2.2.1
theorem dRow_becomeJoined_54 : decode cRow_becomeJoined 54 = .ok (.iconst 1, 1) := zfRow_becomeJoined_0.2.2.2.2.2.2.2.2.2.2.2.2.2.2.2.2.2.2.2.2.2.2.2.2.2.2.2.2.2.1
theorem dRow_becomeJoined_55 : decode cRow_becomeJoined 55 = .ok (.ireturn, 1) := zfRow_becomeJoined_0.2.2.2.2.2.2.2.2.2.2.2.2.2.2.2.2.2.2.2.2.2.2.2.2.2.2.2.2.2.2.1
theorem zfRow_becomeThrough_0 : decode cRow_becomeThrough 0 = .ok (.aload_n 0, 1) ∧ decode cRow_becomeThrough 1 = .ok (.iconst 0, 1) ∧ decode cRow_becomeThrough 2 = .ok (.putfield 15, 3) ∧ decode cRow_becomeThrough 5 = .ok (.iconst 0, 1) ∧ decode cRow_becomeThrough 6 = .ok (.istore_n 3, 1) ∧ decode cRow_becomeThrough 7 = .ok (.iload_n 3, 1) ∧ decode cRow_becomeThrough 8 = .ok (.aload_n 2, 1) ∧ decode cRow_becomeThrough 9 = .ok (.getfield 15, 3) ∧ decode cRow_becomeThrough 12 = .ok (.if_icmp .ge 38, 3) ∧ decode cRow_becomeThrough 15 = .ok (.aload_n 2, 1) ∧ decode cRow_becomeThrough 16 = .ok (.iload_n 3, 1) ∧ decode cRow_becomeThrough 17 = .ok (.invokevirtual 40, 3) ∧ decode cRow_becomeThrough 20 = .ok (.istore 4, 2) ∧ decode cRow_becomeThrough 22 = .ok (.aload_n 1, 1) ∧ decode cRow_becomeThrough 23 = .ok (.iload 4, 2) ∧ decode cRow_becomeThrough 25 = .ok (.invokevirtual 19, 3) ∧ decode cRow_becomeThrough 28 = .ok (.ifCond .ne 5, 3) ∧ decode cRow_becomeThrough 31 = .ok (.iconst 0, 1) ∧ decode cRow_becomeThrough 32 = .ok (.ireturn, 1) ∧ decode cRow_becomeThrough 33 = .ok (.aload_n 0, 1) ∧ decode cRow_becomeThrough 34 = .ok (.aload_n 1, 1) ∧ decode cRow_becomeThrough 35 = .ok (.iload 4, 2) ∧ decode cRow_becomeThrough 37 = .ok (.invokevirtual 40, 3) ∧ decode cRow_becomeThrough 40 = .ok (.invokevirtual 64, 3) ∧ decode cRow_becomeThrough 43 = .ok (.pop, 1) ∧ decode cRow_becomeThrough 44 = .ok (.iinc 3 1, 3) ∧ decode cRow_becomeThrough 47 = .ok (.goto (-40), 3) ∧ decode cRow_becomeThrough 50 = .ok (.iconst 1, 1) ∧ decode cRow_becomeThrough 51 = .ok (.ireturn, 1) ∧ True := Jvm.Free.DS.facts (code := cRow_becomeThrough) 0 [(.aload_n 0, 1), (.iconst 0, 1), (.putfield 15, 3), (.iconst 0, 1), (.istore_n 3, 1), (.iload_n 3, 1), (.aload_n 2, 1), (.getfield 15, 3), (.if_icmp .ge 38, 3), (.aload_n 2, 1), (.iload_n 3, 1), (.invokevirtual 40, 3), (.istore 4, 2), (.aload_n 1, 1), (.iload 4, 2), (.invokevirtual 19, 3), (.ifCond .ne 5, 3), (.iconst 0, 1), (.ireturn, 1), (.aload_n 0, 1), (.aload_n 1, 1), (.iload 4, 2), (.invokevirtual 40, 3), (.invokevirtual 64, 3), (.pop, 1), (.iinc 3 1, 3), (.goto (-40), 3), (.iconst 1, 1), (.ireturn, 1)] (by decide +kernel) (by decide +kernel)
theorem dRow_becomeThrough_0 : decode cRow_becomeThrough 0 = .ok (.aload_n 0, 1) := zfRow_becomeThrough_0.1
theorem dRow_becomeThrough_1 : decode cRow_becomeThrough 1 = .ok (.iconst 0, 1) := zfRow_becomeThrough_0.2.1
theorem dRow_becomeThrough_2 : decode cRow_becomeThrough 2 = .ok (.putfield 15, 3) := zfRow_becomeThrough_0.2.2.1
theorem dRow_becomeThrough_5 : decode cRow_becomeThrough 5 = .ok (.iconst 0, 1) := zfRow_becomeThrough_0.2.2.2.1
theorem dRow_becomeThrough_6 : decode cRow_becomeThrough 6 = .ok (.istore_n 3, 1) := zfRow_becomeThrough_0.2.2.2.2.1
theorem dRow_becomeThrough_7 : decode cRow_becomeThrough 7 = .ok (.iload_n 3, 1) := zfRow_becomeThrough_0.2.2.2.2.2.1
theorem dRow_becomeThrough_8 : decode cRow_becomeThrough 8 = .ok (.aload_n 2, 1) := zfRow_becomeThrough_0.2.2.2.2.2.2.1
theorem dRow_becomeThrough_9 : decode cRow_becomeThrough 9 = .ok (.getfield 15, 3) := zfRow_becomeThrough_0.2.2.2.2.2.2.2.1
theorem dRow_becomeThrough_12 : decode cRow_becomeThrough 12 = .ok (.if_icmp .ge 38, 3) := zfRow_becomeThrough_0.2.2.2.2.2.2.2.2.1
theorem dRow_becomeThrough_15 : decode cRow_becomeThrough 15 = .ok (.aload_n 2, 1) := zfRow_becomeThrough_0.2.2.2.2.2.2.2.2.2.1
theorem dRow_becomeThrough_16 : decode cRow_becomeThrough 16 = .ok (.iload_n 3, 1) := zfRow_becomeThrough_0.2.2.2.2.2.2.2.2.2.2.1
theorem dRow_becomeThrough_17 : decode cRow_becomeThrough 17 = .ok (.invokevirtual 40, 3) := zfRow_becomeThrough_0.2.2.2.2.2.2.2.2.2.2.2.1
theorem dRow_becomeThrough_20 : decode cRow_becomeThrough 20 = .ok (.istore 4, 2) := zfRow_becomeThrough_0.2.2.2.2.2.2.2.2.2.2.2.2.1
theorem dRow_becomeThrough_22 : decode cRow_becomeThrough 22 = .ok (.aload_n 1, 1) := zfRow_becomeThrough_0.2.2.2.2.2.2.2.2.2.2.2.2.2.1
theorem dRow_becomeThrough_23 : decode cRow_becomeThrough 23 = .ok (.iload 4, 2) := zfRow_becomeThrough_0.2.2.2.2.2.2.2.2.2.2.2.2.2.2.1
theorem dRow_becomeThrough_25 : decode cRow_becomeThrough 25 = .ok (.invokevirtual 19, 3) := zfRow_becomeThrough_0.2.2.2.2.2.2.2.2.2.2.2.2.2.2.2.1
theorem dRow_becomeThrough_28 : decode cRow_becomeThrough 28 = .ok (.ifCond .ne 5, 3) := zfRow_becomeThrough_0.2.2.2.2.2.2.2.2.2.2.2.2.2.2.2.2.1
theorem dRow_becomeThrough_31 : decode cRow_becomeThrough 31 = .ok (.iconst 0, 1) := zfRow_becomeThrough_0.2.2.2.2.2.2.2.2.2.2.2.2.2.2.2.2.2.1
theorem dRow_becomeThrough_32 : decode cRow_becomeThrough 32 = .ok (.ireturn, 1) := zfRow_becomeThrough_0.2.2.2.2.2.2.2.2.2.2.2.2.2.2.2.2.2.2.1
theorem dRow_becomeThrough_33 : decode cRow_becomeThrough 33 = .ok (.aload_n 0, 1) := zfRow_becomeThrough_0.2.2.2.2.2.2.2.2.2.2.2.2.2.2.2.2.2.2.2.1
theorem dRow_becomeThrough_34 : decode cRow_becomeThrough 34 = .ok (.aload_n 1, 1) := zfRow_becomeThrough_0.2.2.2.2.2.2.2.2.2.2.2.2.2.2.2.2.2.2.2.2.1
theorem dRow_becomeThrough_35 : decode cRow_becomeThrough 35 = .ok (.iload 4, 2) := zfRow_becomeThrough_0.2.2.2.2.2.2.2.2.2.2.2.2.2.2.2.2.2.2.2.2.2.1
theorem dRow_becomeThrough_37 : decode cRow_becomeThrough 37 = .ok (.invokevirtual 40, 3) := zfRow_becomeThrough_0.2.2.2.2.2.2.2.2.2.2.2.2.2.2.2.2.2.2.2.2.2.2.1
theorem dRow_becomeThrough_40 : decode cRow_becomeThrough 40 = .ok (.invokevirtual 64, 3) := zfRow_becomeThrough_0.2.2.2.2.2.2.2.2.2.2.2.2.2.2.2.2.2.2.2.2.2.2.2.1
theorem dRow_becomeThrough_43 : decode cRow_becomeThrough 43 = .ok (.pop, 1) := zfRow_becomeThrough_0.2.2.2.2.2.2.2.2.2.2.2.2.2.2.2.2.2.2.2.2.2.2.2.2.1
theorem dRow_becomeThrough_44 : decode cRow_becomeThrough 44 = .ok (.iinc 3 1, 3) := zfRow_becomeThrough_0.2.2.2.2.2.2.2.2.2.2.2.2.2.2.2.2.2.2.2.2.2.2.2.2.2.1
theorem dRow_becomeThrough_47 : decode cRow_becomeThrough 47 = .ok (.goto (-40), 3) := zfRow_becomeThrough_0.2.2.2.2.2.2.2.2.2.2.2.2.2.2.2.2.2.2.2.2.2.2.2.2.2.2.1
theorem dRow_becomeThrough_50 : decode cRow_becomeThrough 50 = .ok (.iconst 1, 1) := zfRow_becomeThrough_0.2.2.2.2.2.2.2.2.2.2.2.2.2.2.2.2.2.2.2.2.2.2.2.2.2.2.2.1
theorem dRow_becomeThrough_51 : decode cRow_becomeThrough 51 = .ok (.ireturn, 1) := zfRow_becomeThrough_0.2.2.2.2.2.2.2.2.2.2.2.2.2.2.2.2.2.2.2.2.2.2.2.2.2.2.2.2.1
theorem zfRow_becomeSum_0 : decode cRow_becomeSum 0 = .ok (.aload_n 0, 1) ∧ decode cRow_becomeSum 1 = .ok (.iconst 0, 1) ∧ decode cRow_becomeSum 2 = .ok (.putfield 15, 3) ∧ decode cRow_becomeSum 5 = .ok (.aload_n 1, 1) ∧ decode cRow_becomeSum 6 = .ok (.getfield 15, 3) ∧ decode cRow_becomeSum 9 = .ok (.aload_n 2, 1) ∧ decode cRow_becomeSum 10 = .ok (.getfield 15, 3) ∧ decode cRow_becomeSum 13 = .ok (.invokestatic 71, 3) ∧ decode cRow_becomeSum 16 = .ok (.istore_n 3, 1) ∧ decode cRow_becomeSum 17 = .ok (.iconst 0, 1) ∧ decode cRow_becomeSum 18 = .ok (.istore 4, 2) ∧ decode cRow_becomeSum 20 = .ok (.iload 4, 2) ∧ decode cRow_becomeSum 22 = .ok (.iload_n 3, 1) ∧ decode cRow_becomeSum 23 = .ok (.if_icmp .ge 31, 3) ∧ decode cRow_becomeSum 26 = .ok (.aload_n 0, 1) ∧ decode cRow_becomeSum 27 = .ok (.aload_n 1, 1) ∧ decode cRow_becomeSum 28 = .ok (.iload 4, 2) ∧ decode cRow_becomeSum 30 = .ok (.invokevirtual 40, 3) ∧ decode cRow_becomeSum 33 = .ok (.aload_n 2, 1) ∧ decode cRow_becomeSum 34 = .ok (.iload 4, 2) ∧ decode cRow_becomeSum 36 = .ok (.invokevirtual 40, 3) ∧ decode cRow_becomeSum 39 = .ok (.iadd, 1) ∧ decode cRow_becomeSum 40 = .ok (.invokevirtual 64, 3) ∧ decode cRow_becomeSum 43 = .ok (.ifCond .ne 5, 3) ∧ decode cRow_becomeSum 46 = .ok (.iconst 0, 1) ∧ decode cRow_becomeSum 47 = .ok (.ireturn, 1) ∧ decode cRow_becomeSum 48 = .ok (.iinc 4 1, 3) ∧ decode cRow_becomeSum 51 = .ok (.goto (-31), 3) ∧ decode cRow_becomeSum 54 = .ok (.iconst 1, 1) ∧ decode cRow_becomeSum 55 = .ok (.ireturn, 1) ∧ True := Jvm.Free.DS.facts (code := cRow_becomeSum) 0 [(.aload_n 0, 1), (.iconst 0, 1), (.putfield 15, 3), (.aload_n 1, 1), (.getfield 15, 3), (.aload_n 2, 1), (.getfield 15, 3), (.invokestatic 71, 3), (.istore_n 3, 1), (.iconst 0, 1), (.istore 4, 2), (.iload 4, 2), (.iload_n 3, 1), (.if_icmp .ge 31, 3), (.aload_n 0, 1), (.aload_n 1, 1), (.iload 4, 2), (.invokevirtual 40, 3), (.aload_n 2, 1), (.iload 4, 2), (.invokevirtual 40, 3), (.iadd, 1), (.invokevirtual 64, 3), (.ifCond .ne 5, 3), (.iconst 0, 1), (.ireturn, 1), (.iinc 4 1, 3), (.goto (-31), 3), (.iconst 1, 1), (.ireturn, 1)] (by decide +kernel) (by decide +kernel)
theorem dRow_becomeSum_0 : decode cRow_becomeSum 0 = .ok (.aload_n 0, 1) := zfRow_becomeSum_0.1
theorem dRow_becomeSum_1 : decode cRow_becomeSum 1 = .ok (.iconst 0, 1) := zfRow_becomeSum_0.2.1
theorem dRow_becomeSum_2 : decode cRow_becomeSum 2 = .ok (.putfield 15, 3) := zfRow_becomeSum_0.2.2.1
theorem dRow_becomeSum_5 : decode cRow_becomeSum 5 = .ok (.aload_n 1, 1) := zfRow_becomeSum_0.2.2.2.1
theorem dRow_becomeSum_6 : decode cRow_becomeSum 6 = .ok (.getfield 15, 3) := zfRow_becomeSum_0.2.2.2.2.1
theorem dRow_becomeSum_9 : decode cRow_becomeSum 9 = .ok (.aload_n 2, 1) := zfRow_becomeSum_0.2.2.2.2.2.1
theorem dRow_becomeSum_10 : decode cRow_becomeSum 10 = .ok (.getfield 15, 3) := zfRow_becomeSum_0.2.2.2.2.2.2.1
theorem dRow_becomeSum_13 : decode cRow_becomeSum 13 = .ok (.invokestatic 71, 3) := zfRow_becomeSum_0.2.2.2.2.2.2.2.1
theorem dRow_becomeSum_16 : decode cRow_becomeSum 16 = .ok (.istore_n 3, 1) := zfRow_becomeSum_0.2.2.2.2.2.2.2.2.1
theorem dRow_becomeSum_17 : decode cRow_becomeSum 17 = .ok (.iconst 0, 1) := zfRow_becomeSum_0.2.2.2.2.2.2.2.2.2.1
theorem dRow_becomeSum_18 : decode cRow_becomeSum 18 = .ok (.istore 4, 2) := zfRow_becomeSum_0.2.2.2.2.2.2.2.2.2.2.1
theorem dRow_becomeSum_20 : decode cRow_becomeSum 20 = .ok (.iload 4, 2) := zfRow_becomeSum_0.2.2.2.2.2.2.2.2.2.2.2.1
theorem dRow_becomeSum_22 : decode cRow_becomeSum 22 = .ok (.iload_n 3, 1) := zfRow_becomeSum_0.2.2.2.2.2.2.2.2.2.2.2.2.1
theorem dRow_becomeSum_23 : decode cRow_becomeSum 23 = .ok (.if_icmp .ge 31, 3) := zfRow_becomeSum_0.2.2.2.2.2.2.2.2.2.2.2.2.2.1
theorem dRow_becomeSum_26 : decode cRow_becomeSum 26 = .ok (.aload_n 0, 1) := zfRow_becomeSum_0.2.2.2.2.2.2.2.2.2.2.2.2.2.2.1
theorem dRow_becomeSum_27 : decode cRow_becomeSum 27 = .ok (.aload_n 1, 1) := zfRow_becomeSum_0.2.2.2.2.2.2.2.2.2.2.2.2.2.2.2.1
theorem dRow_becomeSum_28 : decode cRow_becomeSum 28 = .ok (.iload 4, 2) := zfRow_becomeSum_0.2.2.2.2.2.2.2.2.2.2.2.2.2.2.2.2.1
theorem dRow_becomeSum_30 : decode cRow_becomeSum 30 = .ok (.invokevirtual 40, 3) := zfRow_becomeSum_0.2.2.2.2.2.2.2.2.2.2.2.2.2.2.2.2.2.1
theorem dRow_becomeSum_33 : decode cRow_becomeSum 33 = .ok (.aload_n 2, 1) := zfRow_becomeSum_0.2.2.2.2.2.2.2.2.2.2.2.2.2.2.2.2.2.2.1
theorem dRow_becomeSum_34 : decode cRow_becomeSum 34 = .ok (.iload 4, 2) := zfRow_becomeSum_0.2.2.2.2.2.2.2.2.2.2.2.2.2.2.2.2.2.2.2.1
theorem dRow_becomeSum_36 : decode cRow_becomeSum 36 = .ok (.invokevirtual 40, 3) := zfRow_becomeSum_0.2.2.2.2.2.2.2.2.2.2.2.2.2.2.2.2.2.2.2.2.1
theorem dRow_becomeSum_39 : decode cRow_becomeSum 39 = .ok (.iadd, 1) := zfRow_becomeSum_0.2.2.2.2.2.2.2.2.2.2.2.2.2.2.2.2.2.2.2.2.2.1
theorem dRow_becomeSum_40 : decode cRow_becomeSum 40 = .ok (.invokevirtual 64, 3) := zfRow_becomeSum_0.2.2.2.2.2.2.2.2.2.2.2.2.2.2.2.2.2.2.2.2.2.2.1
theorem dRow_becomeSum_43 : decode cRow_becomeSum 43 = .ok (.ifCond .ne 5, 3) := zfRow_becomeSum_0.2.2.2.2.2.2.2.2.2.2.2.2.2.2.2.2.2.2.2.2.2.2.2.1
theorem dRow_becomeSum_46 : decode cRow_becomeSum 46 = .ok (.iconst 0, 1) := zfRow_becomeSum_0.2.2.2.2.2.2.2.2.2.2.2.2.2.2.2.2.2.2.2.2.2.2.2.2.1
theorem dRow_becomeSum_47 : decode cRow_becomeSum 47 = .ok (.ireturn, 1) := zfRow_becomeSum_0.2.2.2.2.2.2.2.2.2.2.2.2.2.2.2.2.2.2.2.2.2.2.2.2.2.1
theorem dRow_becomeSum_48 : decode cRow_becomeSum 48 = .ok (.iinc 4 1, 3) := zfRow_becomeSum_0.2.2.2.2.2.2.2.2.2.2.2.2.2.2.2.2.2.2.2.2.2.2.2.2.2.2.1
theorem dRow_becomeSum_51 : decode cRow_becomeSum 51 = .ok (.goto (-31), 3) := zfRow_becomeSum_0.2.2.2.2.2.2.2.2.2.2.2.2.2.2.2.2.2.2.2.2.2.2.2.2.2.2.2.1
theorem dRow_becomeSum_54 : decode cRow_becomeSum 54 = .ok (.iconst 1, 1) := zfRow_becomeSum_0.2.2.2.2.2.2.2.2.2.2.2.2.2.2.2.2.2.2.2.2.2.2.2.2.2.2.2.2.1
theorem dRow_becomeSum_55 : decode cRow_becomeSum 55 = .ok (.ireturn, 1) := zfRow_becomeSum_0.2.2.2.2.2.2.2.2.2.2.2.2.2.2.2.2.2.2.2.2.2.2.2.2.2.2.2.2.2.1
theorem zfRow_becomeProduct_0 : decode cRow_becomeProduct 0 = .ok (.aload_n 0, 1) ∧ decode cRow_becomeProduct 1 = .ok (.iconst 0, 1) ∧ decode cRow_becomeProduct 2 = .ok (.putfield 15, 3) ∧ decode cRow_becomeProduct 5 = .ok (.aload_n 1, 1) ∧ decode cRow_becomeProduct 6 = .ok (.getfield 15, 3) ∧ decode cRow_becomeProduct 9 = .ok (.ifCond .eq 10, 3) ∧ decode cRow_becomeProduct 12 = .ok (.aload_n 2, 1) ∧ decode cRow_becomeProduct 13 = .ok (.getfield 15, 3) ∧ decode cRow_becomeProduct 16 = .ok (.ifCond .ne 7, 3) ∧ decode cRow_becomeProduct 19 = .ok (.iconst 0, 1) ∧ decode cRow_becomeProduct 20 = .ok (.goto 14, 3) ∧ decode cRow_becomeProduct 23 = .ok (.aload_n 1, 1) ∧ decode cRow_becomeProduct 24 = .ok (.getfield 15, 3) ∧ decode cRow_becomeProduct 27 = .ok (.aload_n 2, 1) ∧ decode cRow_becomeProduct 28 = .ok (.getfield 15, 3) ∧ decode cRow_becomeProduct 31 = .ok (.iadd, 1) ∧ decode cRow_becomeProduct 32 = .ok (.iconst 1, 1) ∧ decode cRow_becomeProduct 33 = .ok (.isub, 1) ∧ decode cRow_becomeProduct 34 = .ok (.istore_n 3, 1) ∧ decode cRow_becomeProduct 35 = .ok (.iload_n 3, 1) ∧ decode cRow_becomeProduct 36 = .ok (.bipush 16, 2) ∧ decode cRow_becomeProduct 38 = .ok (.if_icmp .le 5, 3) ∧ decode cRow_becomeProduct 41 = .ok (.iconst 0, 1) ∧ decode cRow_becomeProduct 42 = .ok (.ireturn, 1) ∧ decode cRow_becomeProduct 43 = .ok (.iconst 0, 1) ∧ decode cRow_becomeProduct 44 = .ok (.istore 4, 2) ∧ decode cRow_becomeProduct 46 = .ok (.iload 4, 2) ∧ decode cRow_becomeProduct 48 = .ok (.iload_n 3, 1) ∧ decode cRow_becomeProduct 49 = .ok (.if_icmp .ge 25, 3) ∧ decode cRow_becomeProduct 52 = .ok (.aload_n 0, 1) ∧ decode cRow_becomeProduct 53 = .ok (.aload_n 1, 1) ∧ decode cRow_becomeProduct 54 = .ok (.aload_n 2, 1) ∧ True := Jvm.Free.DS.facts (code := cRow_becomeProduct) 0 [(.aload_n 0, 1), (.iconst 0, 1), (.putfield 15, 3), (.aload_n 1, 1), (.getfield 15, 3), (.ifCond .eq 10, 3), (.aload_n 2, 1), (.getfield 15, 3), (.ifCond .ne 7, 3), (.iconst 0, 1), (.goto 14, 3), (.aload_n 1, 1), (.getfield 15, 3), (.aload_n 2, 1), (.getfield 15, 3), (.iadd, 1), (.iconst 1, 1), (.isub, 1), (.istore_n 3, 1), (.iload_n 3, 1), (.bipush 16, 2), (.if_icmp .le 5, 3), (.iconst 0, 1), (.ireturn, 1), (.iconst 0, 1), (.istore 4, 2), (.iload 4, 2), (.iload_n 3, 1), (.if_icmp .ge 25, 3), (.aload_n 0, 1), (.aload_n 1, 1), (.aload_n 2, 1)] (by decide +kernel) (by decide +kernel)
theorem dRow_becomeProduct_0 : decode cRow_becomeProduct 0 = .ok (.aload_n 0, 1) := zfRow_becomeProduct_0.1
theorem dRow_becomeProduct_1 : decode cRow_becomeProduct 1 = .ok (.iconst 0, 1) := zfRow_becomeProduct_0.2.1
theorem dRow_becomeProduct_2 : decode cRow_becomeProduct 2 = .ok (.putfield 15, 3) := zfRow_becomeProduct_0.2.2.1
theorem dRow_becomeProduct_5 : decode cRow_becomeProduct 5 = .ok (.aload_n 1, 1) := zfRow_becomeProduct_0.2.2.2.1
theorem dRow_becomeProduct_6 : decode cRow_becomeProduct 6 = .ok (.getfield 15, 3) := zfRow_becomeProduct_0.2.2.2.2.1
theorem dRow_becomeProduct_9 : decode cRow_becomeProduct 9 = .ok (.ifCond .eq 10, 3) := zfRow_becomeProduct_0.2.2.2.2.2.1
theorem dRow_becomeProduct_12 : decode cRow_becomeProduct 12 = .ok (.aload_n 2, 1) := zfRow_becomeProduct_0.2.2.2.2.2.2.1
theorem dRow_becomeProduct_13 : decode cRow_becomeProduct 13 = .ok (.getfield 15, 3) := zfRow_becomeProduct_0.2.2.2.2.2.2.2.1
theorem dRow_becomeProduct_16 : decode cRow_becomeProduct 16 = .ok (.ifCond .ne 7, 3) := zfRow_becomeProduct_0.2.2.2.2.2.2.2.2.1
theorem dRow_becomeProduct_19 : decode cRow_becomeProduct 19 = .ok (.iconst 0, 1) := zfRow_becomeProduct_0.2.2.2.2.2.2.2.2.2.1
theorem dRow_becomeProduct_20 : decode cRow_becomeProduct 20 = .ok (.goto 14, 3) := zfRow_becomeProduct_0.2.2.2.2.2.2.2.2.2.2.1
theorem dRow_becomeProduct_23 : decode cRow_becomeProduct 23 = .ok (.aload_n 1, 1) := zfRow_becomeProduct_0.2.2.2.2.2.2.2.2.2.2.2.1
theorem dRow_becomeProduct_24 : decode cRow_becomeProduct 24 = .ok (.getfield 15, 3) := zfRow_becomeProduct_0.2.2.2.2.2.2.2.2.2.2.2.2.1
theorem dRow_becomeProduct_27 : decode cRow_becomeProduct 27 = .ok (.aload_n 2, 1) := zfRow_becomeProduct_0.2.2.2.2.2.2.2.2.2.2.2.2.2.1
theorem dRow_becomeProduct_28 : decode cRow_becomeProduct 28 = .ok (.getfield 15, 3) := zfRow_becomeProduct_0.2.2.2.2.2.2.2.2.2.2.2.2.2.2.1
theorem dRow_becomeProduct_31 : decode cRow_becomeProduct 31 = .ok (.iadd, 1) := zfRow_becomeProduct_0.2.2.2.2.2.2.2.2.2.2.2.2.2.2.2.1
theorem dRow_becomeProduct_32 : decode cRow_becomeProduct 32 = .ok (.iconst 1, 1) := zfRow_becomeProduct_0.2.2.2.2.2.2.2.2.2.2.2.2.2.2.2.2.1
theorem dRow_becomeProduct_33 : decode cRow_becomeProduct 33 = .ok (.isub, 1) := zfRow_becomeProduct_0.2.2.2.2.2.2.2.2.2.2.2.2.2.2.2.2.2.1
theorem dRow_becomeProduct_34 : decode cRow_becomeProduct 34 = .ok (.istore_n 3, 1) := zfRow_becomeProduct_0.2.2.2.2.2.2.2.2.2.2.2.2.2.2.2.2.2.2.1
theorem dRow_becomeProduct_35 : decode cRow_becomeProduct 35 = .ok (.iload_n 3, 1) := zfRow_becomeProduct_0.2.2.2.2.2.2.2.2.2.2.2.2.2.2.2.2.2.2.2.1
theorem dRow_becomeProduct_36 : decode cRow_becomeProduct 36 = .ok (.bipush 16, 2) := zfRow_becomeProduct_0.2.2.2.2.2.2.2.2.2.2.2.2.2.2.2.2.2.2.2.2.1
theorem dRow_becomeProduct_38 : decode cRow_becomeProduct 38 = .ok (.if_icmp .le 5, 3) := zfRow_becomeProduct_0.2.2.2.2.2.2.2.2.2.2.2.2.2.2.2.2.2.2.2.2.2.1
theorem dRow_becomeProduct_41 : decode cRow_becomeProduct 41 = .ok (.iconst 0, 1) := zfRow_becomeProduct_0.2.2.2.2.2.2.2.2.2.2.2.2.2.2.2.2.2.2.2.2.2.2.1
theorem dRow_becomeProduct_42 : decode cRow_becomeProduct 42 = .ok (.ireturn, 1) := zfRow_becomeProduct_0.2.2.2.2.2.2.2.2.2.2.2.2.2.2.2.2.2.2.2.2.2.2.2.1
theorem dRow_becomeProduct_43 : decode cRow_becomeProduct 43 = .ok (.iconst 0, 1) := zfRow_becomeProduct_0.2.2.2.2.2.2.2.2.2.2.2.2.2.2.2.2.2.2.2.2.2.2.2.2.1
theorem dRow_becomeProduct_44 : decode cRow_becomeProduct 44 = .ok (.istore 4, 2) := zfRow_becomeProduct_0.2.2.2.2.2.2.2.2.2.2.2.2.2.2.2.2.2.2.2.2.2.2.2.2.2.1
theorem dRow_becomeProduct_46 : decode cRow_becomeProduct 46 = .ok (.iload 4, 2) := zfRow_becomeProduct_0.2.2.2.2.2.2.2.2.2.2.2.2.2.2.2.2.2.2.2.2.2.2.2.2.2.2.1
theorem dRow_becomeProduct_48 : decode cRow_becomeProduct 48 = .ok (.iload_n 3, 1) := zfRow_becomeProduct_0.2.2.2.2.2.2.2.2.2.2.2.2.2.2.2.2.2.2.2.2.2.2.2.2.2.2.2.1
theorem dRow_becomeProduct_49 : decode cRow_becomeProduct 49 = .ok (.if_icmp .ge 25, 3) := zfRow_becomeProduct_0.2.2.2.2.2.2.2.2.2.2.2.2.2.2.2.2.2.2.2.2.2.2.2.2.2.2.2.2.1
theorem dRow_becomeProduct_52 : decode cRow_becomeProduct 52 = .ok (.aload_n 0, 1) := zfRow_becomeProduct_0.2.2.2.2.2.2.2.2.2.2.2.2.2.2.2.2.2.2.2.2.2.2.2.2.2.2.2.2.2.1
theorem dRow_becomeProduct_53 : decode cRow_becomeProduct 53 = .ok (.aload_n 1, 1) := zfRow_becomeProduct_0.2.2.2.2.2.2.2.2.2.2.2.2.2.2.2.2.2.2.2.2.2.2.2.2.2.2.2.2.2.2.1
theorem dRow_becomeProduct_54 : decode cRow_becomeProduct 54 = .ok (.aload_n 2, 1) := zfRow_becomeProduct_0.2.2.2.2.2.2.2.2.2.2.2.2.2.2.2.2.2.2.2.2.2.2.2.2.2.2.2.2.2.2.2.1
theorem zfRow_becomeProduct_55 : decode cRow_becomeProduct 55 = .ok (.iload 4, 2) ∧ decode cRow_becomeProduct 57 = .ok (.invokestatic 74, 3) ∧ decode cRow_becomeProduct 60 = .ok (.invokevirtual 64, 3) ∧ decode cRow_becomeProduct 63 = .ok (.ifCond .ne 5, 3) ∧ decode cRow_becomeProduct 66 = .ok (.iconst 0, 1) ∧ decode cRow_becomeProduct 67 = .ok (.ireturn, 1) ∧ decode cRow_becomeProduct 68 = .ok (.iinc 4 1, 3) ∧ decode cRow_becomeProduct 71 = .ok (.goto (-25), 3) ∧ decode cRow_becomeProduct 74 = .ok (.iconst 1, 1) ∧ decode cRow_becomeProduct 75 = .ok (.ireturn, 1) ∧ True := Jvm.Free.DS.facts (code := cRow_becomeProduct) 55 [(.iload 4, 2), (.invokestatic 74, 3), (.invokevirtual 64, 3), (.ifCond .ne 5, 3), (.iconst 0, 1), (.ireturn, 1), (.iinc 4 1, 3), (.goto (-25), 3), (.iconst 1, 1), (.ireturn, 1)] (by decide +kernel) (by decide +kernel)
theorem dRow_becomeProduct_55 : decode cRow_becomeProduct 55 = .ok (.iload 4, 2) := zfRow_becomeProduct_55.1
theorem dRow_becomeProduct_57 : decode cRow_becomeProduct 57 = .ok (.invokestatic 74, 3) := zfRow_becomeProduct_55.2.1
theorem dRow_becomeProduct_60 : decode cRow_becomeProduct 60 = .ok (.invokevirtual 64, 3) := zfRow_becomeProduct_55.2.2.1
theorem dRow_becomeProduct_63 : decode cRow_becomeProduct 63 = .ok (.ifCond .ne 5, 3) := zfRow_becomeProduct_55.2.2.2.1
theorem dRow_becomeProduct_66 : decode cRow_becomeProduct 66 = .ok (.iconst 0, 1) := zfRow_becomeProduct_55.2.2.2.2.1
theorem dRow_becomeProduct_67 : decode cRow_becomeProduct 67 = .ok (.ireturn, 1) := zfRow_becomeProduct_55.2.2.2.2.2.1
theorem dRow_becomeProduct_68 : decode cRow_becomeProduct 68 = .ok (.iinc 4 1, 3) := zfRow_becomeProduct_55.2.2.2.2.2.2.1
theorem dRow_becomeProduct_71 : decode cRow_becomeProduct 71 = .ok (.goto (-25), 3) := zfRow_becomeProduct_55.2.2.2.2.2.2.2.1
theorem dRow_becomeProduct_74 : decode cRow_becomeProduct 74 = .ok (.iconst 1, 1) := zfRow_becomeProduct_55.2.2.2.2.2.2.2.2.1
theorem dRow_becomeProduct_75 : decode cRow_becomeProduct 75 = .ok (.ireturn, 1) := zfRow_becomeProduct_55.2.2.2.2.2.2.2.2.2.1
theorem zfRow_coefficientOfProduct_0 : decode cRow_coefficientOfProduct 0 = .ok (.iconst 0, 1) ∧ decode cRow_coefficientOfProduct 1 = .ok (.istore_n 3, 1) ∧ decode cRow_coefficientOfProduct 2 = .ok (.iconst 0, 1) ∧ decode cRow_coefficientOfProduct 3 = .ok (.istore 4, 2) ∧ decode cRow_coefficientOfProduct 5 = .ok (.iload 4, 2) ∧ decode cRow_coefficientOfProduct 7 = .ok (.iload_n 2, 1) ∧ decode cRow_coefficientOfProduct 8 = .ok (.if_icmp .gt 27, 3) ∧ decode cRow_coefficientOfProduct 11 = .ok (.iload_n 3, 1) ∧ decode cRow_coefficientOfProduct 12 = .ok (.aload_n 0, 1) ∧ decode cRow_coefficientOfProduct 13 = .ok (.iload 4, 2) ∧ decode cRow_coefficientOfProduct 15 = .ok (.invokevirtual 40, 3) ∧ decode cRow_coefficientOfProduct 18 = .ok (.aload_n 1, 1) ∧ decode cRow_coefficientOfProduct 19 = .ok (.iload_n 2, 1) ∧ decode cRow_coefficientOfProduct 20 = .ok (.iload 4, 2) ∧ decode cRow_coefficientOfProduct 22 = .ok (.isub, 1) ∧ decode cRow_coefficientOfProduct 23 = .ok (.invokevirtual 40, 3) ∧ decode cRow_coefficientOfProduct 26 = .ok (.imul, 1) ∧ decode cRow_coefficientOfProduct 27 = .ok (.iadd, 1) ∧ decode cRow_coefficientOfProduct 28 = .ok (.istore_n 3, 1) ∧ decode cRow_coefficientOfProduct 29 = .ok (.iinc 4 1, 3) ∧ decode cRow_coefficientOfProduct 32 = .ok (.goto (-27), 3) ∧ decode cRow_coefficientOfProduct 35 = .ok (.iload_n 3, 1) ∧ decode cRow_coefficientOfProduct 36 = .ok (.ireturn, 1) ∧ True := Jvm.Free.DS.facts (code := cRow_coefficientOfProduct) 0 [(.iconst 0, 1), (.istore_n 3, 1), (.iconst 0, 1), (.istore 4, 2), (.iload 4, 2), (.iload_n 2, 1), (.if_icmp .gt 27, 3), (.iload_n 3, 1), (.aload_n 0, 1), (.iload 4, 2), (.invokevirtual 40, 3), (.aload_n 1, 1), (.iload_n 2, 1), (.iload 4, 2), (.isub, 1), (.invokevirtual 40, 3), (.imul, 1), (.iadd, 1), (.istore_n 3, 1), (.iinc 4 1, 3), (.goto (-27), 3), (.iload_n 3, 1), (.ireturn, 1)] (by decide +kernel) (by decide +kernel)
theorem dRow_coefficientOfProduct_0 : decode cRow_coefficientOfProduct 0 = .ok (.iconst 0, 1) := zfRow_coefficientOfProduct_0.1
theorem dRow_coefficientOfProduct_1 : decode cRow_coefficientOfProduct 1 = .ok (.istore_n 3, 1) := zfRow_coefficientOfProduct_0.2.1
theorem dRow_coefficientOfProduct_2 : decode cRow_coefficientOfProduct 2 = .ok (.iconst 0, 1) := zfRow_coefficientOfProduct_0.2.2.1
theorem dRow_coefficientOfProduct_3 : decode cRow_coefficientOfProduct 3 = .ok (.istore 4, 2) := zfRow_coefficientOfProduct_0.2.2.2.1
theorem dRow_coefficientOfProduct_5 : decode cRow_coefficientOfProduct 5 = .ok (.iload 4, 2) := zfRow_coefficientOfProduct_0.2.2.2.2.1
theorem dRow_coefficientOfProduct_7 : decode cRow_coefficientOfProduct 7 = .ok (.iload_n 2, 1) := zfRow_coefficientOfProduct_0.2.2.2.2.2.1
theorem dRow_coefficientOfProduct_8 : decode cRow_coefficientOfProduct 8 = .ok (.if_icmp .gt 27, 3) := zfRow_coefficientOfProduct_0.2.2.2.2.2.2.1
theorem dRow_coefficientOfProduct_11 : decode cRow_coefficientOfProduct 11 = .ok (.iload_n 3, 1) := zfRow_coefficientOfProduct_0.2.2.2.2.2.2.2.1
theorem dRow_coefficientOfProduct_12 : decode cRow_coefficientOfProduct 12 = .ok (.aload_n 0, 1) := zfRow_coefficientOfProduct_0.2.2.2.2.2.2.2.2.1
theorem dRow_coefficientOfProduct_13 : decode cRow_coefficientOfProduct 13 = .ok (.iload 4, 2) := zfRow_coefficientOfProduct_0.2.2.2.2.2.2.2.2.2.1
theorem dRow_coefficientOfProduct_15 : decode cRow_coefficientOfProduct 15 = .ok (.invokevirtual 40, 3) := zfRow_coefficientOfProduct_0.2.2.2.2.2.2.2.2.2.2.1
theorem dRow_coefficientOfProduct_18 : decode cRow_coefficientOfProduct 18 = .ok (.aload_n 1, 1) := zfRow_coefficientOfProduct_0.2.2.2.2.2.2.2.2.2.2.2.1
theorem dRow_coefficientOfProduct_19 : decode cRow_coefficientOfProduct 19 = .ok (.iload_n 2, 1) := zfRow_coefficientOfProduct_0.2.2.2.2.2.2.2.2.2.2.2.2.1
theorem dRow_coefficientOfProduct_20 : decode cRow_coefficientOfProduct 20 = .ok (.iload 4, 2) := zfRow_coefficientOfProduct_0.2.2.2.2.2.2.2.2.2.2.2.2.2.1
theorem dRow_coefficientOfProduct_22 : decode cRow_coefficientOfProduct 22 = .ok (.isub, 1) := zfRow_coefficientOfProduct_0.2.2.2.2.2.2.2.2.2.2.2.2.2.2.1
theorem dRow_coefficientOfProduct_23 : decode cRow_coefficientOfProduct 23 = .ok (.invokevirtual 40, 3) := zfRow_coefficientOfProduct_0.2.2.2.2.2.2.2.2.2.2.2.2.2.2.2.1
theorem dRow_coefficientOfProduct_26 : decode cRow_coefficientOfProduct 26 = .ok (.imul, 1) := zfRow_coefficientOfProduct_0.2.2.2.2.2.2.2.2.2.2.2.2.2.2.2.2.1
theorem dRow_coefficientOfProduct_27 : decode cRow_coefficientOfProduct 27 = .ok (.iadd, 1) := zfRow_coefficientOfProduct_0.2.2.2.2.2.2.2.2.2.2.2.2.2.2.2.2.2.1
theorem dRow_coefficientOfProduct_28 : decode cRow_coefficientOfProduct 28 = .ok (.istore_n 3, 1) := zfRow_coefficientOfProduct_0.2.2.2.2.2.2.2.2.2.2.2.2.2.2.2.2.2.2.1
theorem dRow_coefficientOfProduct_29 : decode cRow_coefficientOfProduct 29 = .ok (.iinc 4 1, 3) := zfRow_coefficientOfProduct_0.2.2.2.2.2.2.2.2.2.2.2.2.2.2.2.2.2.2.2.1
theorem dRow_coefficientOfProduct_32 : decode cRow_coefficientOfProduct 32 = .ok (.goto (-27), 3) := zfRow_coefficientOfProduct_0.2.2.2.2.2.2.2.2.2.2.2.2.2.2.2.2.2.2.2.2.1
theorem dRow_coefficientOfProduct_35 : decode cRow_coefficientOfProduct 35 = .ok (.iload_n 3, 1) := zfRow_coefficientOfProduct_0.2.2.2.2.2.2.2.2.2.2.2.2.2.2.2.2.2.2.2.2.2.1
theorem dRow_coefficientOfProduct_36 : decode cRow_coefficientOfProduct 36 = .ok (.ireturn, 1) := zfRow_coefficientOfProduct_0.2.2.2.2.2.2.2.2.2.2.2.2.2.2.2.2.2.2.2.2.2.2.1
theorem zfRow_becomeDerived_0 : decode cRow_becomeDerived 0 = .ok (.aload_n 0, 1) ∧ decode cRow_becomeDerived 1 = .ok (.iconst 0, 1) ∧ decode cRow_becomeDerived 2 = .ok (.putfield 15, 3) ∧ decode cRow_becomeDerived 5 = .ok (.iconst 1, 1) ∧ decode cRow_becomeDerived 6 = .ok (.istore_n 2, 1) ∧ decode cRow_becomeDerived 7 = .ok (.iload_n 2, 1) ∧ decode cRow_becomeDerived 8 = .ok (.aload_n 1, 1) ∧ decode cRow_becomeDerived 9 = .ok (.getfield 15, 3) ∧ decode cRow_becomeDerived 12 = .ok (.if_icmp .ge 25, 3) ∧ decode cRow_becomeDerived 15 = .ok (.aload_n 0, 1) ∧ decode cRow_becomeDerived 16 = .ok (.aload_n 1, 1) ∧ decode cRow_becomeDerived 17 = .ok (.iload_n 2, 1) ∧ decode cRow_becomeDerived 18 = .ok (.invokevirtual 40, 3) ∧ decode cRow_becomeDerived 21 = .ok (.iload_n 2, 1) ∧ decode cRow_becomeDerived 22 = .ok (.imul, 1) ∧ decode cRow_becomeDerived 23 = .ok (.invokevirtual 64, 3) ∧ decode cRow_becomeDerived 26 = .ok (.ifCond .ne 5, 3) ∧ decode cRow_becomeDerived 29 = .ok (.iconst 0, 1) ∧ decode cRow_becomeDerived 30 = .ok (.ireturn, 1) ∧ decode cRow_becomeDerived 31 = .ok (.iinc 2 1, 3) ∧ decode cRow_becomeDerived 34 = .ok (.goto (-27), 3) ∧ decode cRow_becomeDerived 37 = .ok (.iconst 1, 1) ∧ decode cRow_becomeDerived 38 = .ok (.ireturn, 1) ∧ True := Jvm.Free.DS.facts (code := cRow_becomeDerived) 0 [(.aload_n 0, 1), (.iconst 0, 1), (.putfield 15, 3), (.iconst 1, 1), (.istore_n 2, 1), (.iload_n 2, 1), (.aload_n 1, 1), (.getfield 15, 3), (.if_icmp .ge 25, 3), (.aload_n 0, 1), (.aload_n 1, 1), (.iload_n 2, 1), (.invokevirtual 40, 3), (.iload_n 2, 1), (.imul, 1), (.invokevirtual 64, 3), (.ifCond .ne 5, 3), (.iconst 0, 1), (.ireturn, 1), (.iinc 2 1, 3), (.goto (-27), 3), (.iconst 1, 1), (.ireturn, 1)] (by decide +kernel) (by decide +kernel)
theorem dRow_becomeDerived_0 : decode cRow_becomeDerived 0 = .ok (.aload_n 0, 1) := zfRow_becomeDerived_0.1
theorem dRow_becomeDerived_1 : decode cRow_becomeDerived 1 = .ok (.iconst 0, 1) := zfRow_becomeDerived_0.2.1
theorem dRow_becomeDerived_2 : decode cRow_becomeDerived 2 = .ok (.putfield 15, 3) := zfRow_becomeDerived_0.2.2.1
theorem dRow_becomeDerived_5 : decode cRow_becomeDerived 5 = .ok (.iconst 1, 1) := zfRow_becomeDerived_0.2.2.2.1
theorem dRow_becomeDerived_6 : decode cRow_becomeDerived 6 = .ok (.istore_n 2, 1) := zfRow_becomeDerived_0.2.2.2.2.1
theorem dRow_becomeDerived_7 : decode cRow_becomeDerived 7 = .ok (.iload_n 2, 1) := zfRow_becomeDerived_0.2.2.2.2.2.1
theorem dRow_becomeDerived_8 : decode cRow_becomeDerived 8 = .ok (.aload_n 1, 1) := zfRow_becomeDerived_0.2.2.2.2.2.2.1
theorem dRow_becomeDerived_9 : decode cRow_becomeDerived 9 = .ok (.getfield 15, 3) := zfRow_becomeDerived_0.2.2.2.2.2.2.2.1
theorem dRow_becomeDerived_12 : decode cRow_becomeDerived 12 = .ok (.if_icmp .ge 25, 3) := zfRow_becomeDerived_0.2.2.2.2.2.2.2.2.1
theorem dRow_becomeDerived_15 : decode cRow_becomeDerived 15 = .ok (.aload_n 0, 1) := zfRow_becomeDerived_0.2.2.2.2.2.2.2.2.2.1
theorem dRow_becomeDerived_16 : decode cRow_becomeDerived 16 = .ok (.aload_n 1, 1) := zfRow_becomeDerived_0.2.2.2.2.2.2.2.2.2.2.1
theorem dRow_becomeDerived_17 : decode cRow_becomeDerived 17 = .ok (.iload_n 2, 1) := zfRow_becomeDerived_0.2.2.2.2.2.2.2.2.2.2.2.1
theorem dRow_becomeDerived_18 : decode cRow_becomeDerived 18 = .ok (.invokevirtual 40, 3) := zfRow_becomeDerived_0.2.2.2.2.2.2.2.2.2.2.2.2.1
theorem dRow_becomeDerived_21 : decode cRow_becomeDerived 21 = .ok (.iload_n 2, 1) := zfRow_becomeDerived_0.2.2.2.2.2.2.2.2.2.2.2.2.2.1
theorem dRow_becomeDerived_22 : decode cRow_becomeDerived 22 = .ok (.imul, 1) := zfRow_becomeDerived_0.2.2.2.2.2.2.2.2.2.2.2.2.2.2.1
theorem dRow_becomeDerived_23 : decode cRow_becomeDerived 23 = .ok (.invokevirtual 64, 3) := zfRow_becomeDerived_0.2.2.2.2.2.2.2.2.2.2.2.2.2.2.2.1
theorem dRow_becomeDerived_26 : decode cRow_becomeDerived 26 = .ok (.ifCond .ne 5, 3) := zfRow_becomeDerived_0.2.2.2.2.2.2.2.2.2.2.2.2.2.2.2.2.1
theorem dRow_becomeDerived_29 : decode cRow_becomeDerived 29 = .ok (.iconst 0, 1) := zfRow_becomeDerived_0.2.2.2.2.2.2.2.2.2.2.2.2.2.2.2.2.2.1
theorem dRow_becomeDerived_30 : decode cRow_becomeDerived 30 = .ok (.ireturn, 1) := zfRow_becomeDerived_0.2.2.2.2.2.2.2.2.2.2.2.2.2.2.2.2.2.2.1
theorem dRow_becomeDerived_31 : decode cRow_becomeDerived 31 = .ok (.iinc 2 1, 3) := zfRow_becomeDerived_0.2.2.2.2.2.2.2.2.2.2.2.2.2.2.2.2.2.2.2.1
theorem dRow_becomeDerived_34 : decode cRow_becomeDerived 34 = .ok (.goto (-27), 3) := zfRow_becomeDerived_0.2.2.2.2.2.2.2.2.2.2.2.2.2.2.2.2.2.2.2.2.1
theorem dRow_becomeDerived_37 : decode cRow_becomeDerived 37 = .ok (.iconst 1, 1) := zfRow_becomeDerived_0.2.2.2.2.2.2.2.2.2.2.2.2.2.2.2.2.2.2.2.2.2.1
theorem dRow_becomeDerived_38 : decode cRow_becomeDerived 38 = .ok (.ireturn, 1) := zfRow_becomeDerived_0.2.2.2.2.2.2.2.2.2.2.2.2.2.2.2.2.2.2.2.2.2.2.1
theorem zfRow_restAt_0 : decode cRow_restAt 0 = .ok (.iconst 0, 1) ∧ decode cRow_restAt 1 = .ok (.istore_n 2, 1) ∧ decode cRow_restAt 2 = .ok (.aload_n 0, 1) ∧ decode cRow_restAt 3 = .ok (.getfield 15, 3) ∧ decode cRow_restAt 6 = .ok (.iconst 1, 1) ∧ decode cRow_restAt 7 = .ok (.isub, 1) ∧ decode cRow_restAt 8 = .ok (.istore_n 3, 1) ∧ decode cRow_restAt 9 = .ok (.iload_n 3, 1) ∧ decode cRow_restAt 10 = .ok (.ifCond .lt 26, 3) ∧ decode cRow_restAt 13 = .ok (.iload_n 2, 1) ∧ decode cRow_restAt 14 = .ok (.iload_n 1, 1) ∧ decode cRow_restAt 15 = .ok (.imul, 1) ∧ decode cRow_restAt 16 = .ok (.aload_n 0, 1) ∧ decode cRow_restAt 17 = .ok (.getfield 9, 3) ∧ decode cRow_restAt 20 = .ok (.iload_n 3, 1) ∧ decode cRow_restAt 21 = .ok (.iaload, 1) ∧ decode cRow_restAt 22 = .ok (.iadd, 1) ∧ decode cRow_restAt 23 = .ok (.sipush 9973, 3) ∧ decode cRow_restAt 26 = .ok (.invokestatic 51, 3) ∧ decode cRow_restAt 29 = .ok (.istore_n 2, 1) ∧ decode cRow_restAt 30 = .ok (.iinc 3 (-1), 3) ∧ decode cRow_restAt 33 = .ok (.goto (-24), 3) ∧ decode cRow_restAt 36 = .ok (.iload_n 2, 1) ∧ decode cRow_restAt 37 = .ok (.ireturn, 1) ∧ True := Jvm.Free.DS.facts (code := cRow_restAt) 0 [(.iconst 0, 1), (.istore_n 2, 1), (.aload_n 0, 1), (.getfield 15, 3), (.iconst 1, 1), (.isub, 1), (.istore_n 3, 1), (.iload_n 3, 1), (.ifCond .lt 26, 3), (.iload_n 2, 1), (.iload_n 1, 1), (.imul, 1), (.aload_n 0, 1), (.getfield 9, 3), (.iload_n 3, 1), (.iaload, 1), (.iadd, 1), (.sipush 9973, 3), (.invokestatic 51, 3), (.istore_n 2, 1), (.iinc 3 (-1), 3), (.goto (-24), 3), (.iload_n 2, 1), (.ireturn, 1)] (by decide +kernel) (by decide +kernel)
theorem dRow_restAt_0 : decode cRow_restAt 0 = .ok (.iconst 0, 1) := zfRow_restAt_0.1
theorem dRow_restAt_1 : decode cRow_restAt 1 = .ok (.istore_n 2, 1) := zfRow_restAt_0.2.1
theorem dRow_restAt_2 : decode cRow_restAt 2 = .ok (.aload_n 0, 1) := zfRow_restAt_0.2.2.1
theorem dRow_restAt_3 : decode cRow_restAt 3 = .ok (.getfield 15, 3) := zfRow_restAt_0.2.2.2.1
theorem dRow_restAt_6 : decode cRow_restAt 6 = .ok (.iconst 1, 1) := zfRow_restAt_0.2.2.2.2.1
theorem dRow_restAt_7 : decode cRow_restAt 7 = .ok (.isub, 1) := zfRow_restAt_0.2.2.2.2.2.1
theorem dRow_restAt_8 : decode cRow_restAt 8 = .ok (.istore_n 3, 1) := zfRow_restAt_0.2.2.2.2.2.2.1
theorem dRow_restAt_9 : decode cRow_restAt 9 = .ok (.iload_n 3, 1) := zfRow_restAt_0.2.2.2.2.2.2.2.1
theorem dRow_restAt_10 : decode cRow_restAt 10 = .ok (.ifCond .lt 26, 3) := zfRow_restAt_0.2.2.2.2.2.2.2.2.1
theorem dRow_restAt_13 : decode cRow_restAt 13 = .ok (.iload_n 2, 1) := zfRow_restAt_0.2.2.2.2.2.2.2.2.2.1
theorem dRow_restAt_14 : decode cRow_restAt 14 = .ok (.iload_n 1, 1) := zfRow_restAt_0.2.2.2.2.2.2.2.2.2.2.1
theorem dRow_restAt_15 : decode cRow_restAt 15 = .ok (.imul, 1) := zfRow_restAt_0.2.2.2.2.2.2.2.2.2.2.2.1
theorem dRow_restAt_16 : decode cRow_restAt 16 = .ok (.aload_n 0, 1) := zfRow_restAt_0.2.2.2.2.2.2.2.2.2.2.2.2.1
theorem dRow_restAt_17 : decode cRow_restAt 17 = .ok (.getfield 9, 3) := zfRow_restAt_0.2.2.2.2.2.2.2.2.2.2.2.2.2.1
theorem dRow_restAt_20 : decode cRow_restAt 20 = .ok (.iload_n 3, 1) := zfRow_restAt_0.2.2.2.2.2.2.2.2.2.2.2.2.2.2.1
theorem dRow_restAt_21 : decode cRow_restAt 21 = .ok (.iaload, 1) := zfRow_restAt_0.2.2.2.2.2.2.2.2.2.2.2.2.2.2.2.1
theorem dRow_restAt_22 : decode cRow_restAt 22 = .ok (.iadd, 1) := zfRow_restAt_0.2.2.2.2.2.2.2.2.2.2.2.2.2.2.2.2.1
theorem dRow_restAt_23 : decode cRow_restAt 23 = .ok (.sipush 9973, 3) := zfRow_restAt_0.2.2.2.2.2.2.2.2.2.2.2.2.2.2.2.2.2.1
theorem dRow_restAt_26 : decode cRow_restAt 26 = .ok (.invokestatic 51, 3) := zfRow_restAt_0.2.2.2.2.2.2.2.2.2.2.2.2.2.2.2.2.2.2.1
theorem dRow_restAt_29 : decode cRow_restAt 29 = .ok (.istore_n 2, 1) := zfRow_restAt_0.2.2.2.2.2.2.2.2.2.2.2.2.2.2.2.2.2.2.2.1
theorem dRow_restAt_30 : decode cRow_restAt 30 = .ok (.iinc 3 (-1), 3) := zfRow_restAt_0.2.2.2.2.2.2.2.2.2.2.2.2.2.2.2.2.2.2.2.2.1
theorem dRow_restAt_33 : decode cRow_restAt 33 = .ok (.goto (-24), 3) := zfRow_restAt_0.2.2.2.2.2.2.2.2.2.2.2.2.2.2.2.2.2.2.2.2.2.1
theorem dRow_restAt_36 : decode cRow_restAt 36 = .ok (.iload_n 2, 1) := zfRow_restAt_0.2.2.2.2.2.2.2.2.2.2.2.2.2.2.2.2.2.2.2.2.2.2.1
theorem dRow_restAt_37 : decode cRow_restAt 37 = .ok (.ireturn, 1) := zfRow_restAt_0.2.2.2.2.2.2.2.2.2.2.2.2.2.2.2.2.2.2.2.2.2.2.2.1
theorem zfRow_isOrder_0 : decode cRow_isOrder 0 = .ok (.aload_n 0, 1) ∧ decode cRow_isOrder 1 = .ok (.getfield 15, 3) ∧ decode cRow_isOrder 4 = .ok (.bipush 8, 2) ∧ decode cRow_isOrder 6 = .ok (.if_icmp .eq 5, 3) ∧ decode cRow_isOrder 9 = .ok (.iconst 0, 1) ∧ decode cRow_isOrder 10 = .ok (.ireturn, 1) ∧ decode cRow_isOrder 11 = .ok (.iconst 0, 1) ∧ decode cRow_isOrder 12 = .ok (.istore_n 1, 1) ∧ decode cRow_isOrder 13 = .ok (.iload_n 1, 1) ∧ decode cRow_isOrder 14 = .ok (.bipush 8, 2) ∧ decode cRow_isOrder 16 = .ok (.if_icmp .ge 21, 3) ∧ decode cRow_isOrder 19 = .ok (.aload_n 0, 1) ∧ decode cRow_isOrder 20 = .ok (.iload_n 1, 1) ∧ decode cRow_isOrder 21 = .ok (.iconst 0, 1) ∧ decode cRow_isOrder 22 = .ok (.invokevirtual 78, 3) ∧ decode cRow_isOrder 25 = .ok (.iconst (-1), 1) ∧ decode cRow_isOrder 26 = .ok (.if_icmp .ne 5, 3) ∧ decode cRow_isOrder 29 = .ok (.iconst 0, 1) ∧ decode cRow_isOrder 30 = .ok (.ireturn, 1) ∧ decode cRow_isOrder 31 = .ok (.iinc 1 1, 3) ∧ decode cRow_isOrder 34 = .ok (.goto (-21), 3) ∧ decode cRow_isOrder 37 = .ok (.iconst 1, 1) ∧ decode cRow_isOrder 38 = .ok (.ireturn, 1) ∧ True := Jvm.Free.DS.facts (code := cRow_isOrder) 0 [(.aload_n 0, 1), (.getfield 15, 3), (.bipush 8, 2), (.if_icmp .eq 5, 3), (.iconst 0, 1), (.ireturn, 1), (.iconst 0, 1), (.istore_n 1, 1), (.iload_n 1, 1), (.bipush 8, 2), (.if_icmp .ge 21, 3), (.aload_n 0, 1), (.iload_n 1, 1), (.iconst 0, 1), (.invokevirtual 78, 3), (.iconst (-1), 1), (.if_icmp .ne 5, 3), (.iconst 0, 1), (.ireturn, 1), (.iinc 1 1, 3), (.goto (-21), 3), (.iconst 1, 1), (.ireturn, 1)] (by decide +kernel) (by decide +kernel)
theorem dRow_isOrder_0 : decode cRow_isOrder 0 = .ok (.aload_n 0, 1) := zfRow_isOrder_0.1
theorem dRow_isOrder_1 : decode cRow_isOrder 1 = .ok (.getfield 15, 3) := zfRow_isOrder_0.2.1
theorem dRow_isOrder_4 : decode cRow_isOrder 4 = .ok (.bipush 8, 2) := zfRow_isOrder_0.2.2.1
theorem dRow_isOrder_6 : decode cRow_isOrder 6 = .ok (.if_icmp .eq 5, 3) := zfRow_isOrder_0.2.2.2.1
theorem dRow_isOrder_9 : decode cRow_isOrder 9 = .ok (.iconst 0, 1) := zfRow_isOrder_0.2.2.2.2.1
theorem dRow_isOrder_10 : decode cRow_isOrder 10 = .ok (.ireturn, 1) := zfRow_isOrder_0.2.2.2.2.2.1
theorem dRow_isOrder_11 : decode cRow_isOrder 11 = .ok (.iconst 0, 1) := zfRow_isOrder_0.2.2.2.2.2.2.1
theorem dRow_isOrder_12 : decode cRow_isOrder 12 = .ok (.istore_n 1, 1) := zfRow_isOrder_0.2.2.2.2.2.2.2.1
theorem dRow_isOrder_13 : decode cRow_isOrder 13 = .ok (.iload_n 1, 1) := zfRow_isOrder_0.2.2.2.2.2.2.2.2.1
theorem dRow_isOrder_14 : decode cRow_isOrder 14 = .ok (.bipush 8, 2) := zfRow_isOrder_0.2.2.2.2.2.2.2.2.2.1
theorem dRow_isOrder_16 : decode cRow_isOrder 16 = .ok (.if_icmp .ge 21, 3) := zfRow_isOrder_0.2.2.2.2.2.2.2.2.2.2.1
theorem dRow_isOrder_19 : decode cRow_isOrder 19 = .ok (.aload_n 0, 1) := zfRow_isOrder_0.2.2.2.2.2.2.2.2.2.2.2.1
theorem dRow_isOrder_20 : decode cRow_isOrder 20 = .ok (.iload_n 1, 1) := zfRow_isOrder_0.2.2.2.2.2.2.2.2.2.2.2.2.1
theorem dRow_isOrder_21 : decode cRow_isOrder 21 = .ok (.iconst 0, 1) := zfRow_isOrder_0.2.2.2.2.2.2.2.2.2.2.2.2.2.1
theorem dRow_isOrder_22 : decode cRow_isOrder 22 = .ok (.invokevirtual 78, 3) := zfRow_isOrder_0.2.2.2.2.2.2.2.2.2.2.2.2.2.2.1
theorem dRow_isOrder_25 : decode cRow_isOrder 25 = .ok (.iconst (-1), 1) := zfRow_isOrder_0.2.2.2.2.2.2.2.2.2.2.2.2.2.2.2.1
theorem dRow_isOrder_26 : decode cRow_isOrder 26 = .ok (.if_icmp .ne 5, 3) := zfRow_isOrder_0.2.2.2.2.2.2.2.2.2.2.2.2.2.2.2.2.1
theorem dRow_isOrder_29 : decode cRow_isOrder 29 = .ok (.iconst 0, 1) := zfRow_isOrder_0.2.2.2.2.2.2.2.2.2.2.2.2.2.2.2.2.2.1
theorem dRow_isOrder_30 : decode cRow_isOrder 30 = .ok (.ireturn, 1) := zfRow_isOrder_0.2.2.2.2.2.2.2.2.2.2.2.2.2.2.2.2.2.2.1
theorem dRow_isOrder_31 : decode cRow_isOrder 31 = .ok (.iinc 1 1, 3) := zfRow_isOrder_0.2.2.2.2.2.2.2.2.2.2.2.2.2.2.2.2.2.2.2.1
theorem dRow_isOrder_34 : decode cRow_isOrder 34 = .ok (.goto (-21), 3) := zfRow_isOrder_0.2.2.2.2.2.2.2.2.2.2.2.2.2.2.2.2.2.2.2.2.1
theorem dRow_isOrder_37 : decode cRow_isOrder 37 = .ok (.iconst 1, 1) := zfRow_isOrder_0.2.2.2.2.2.2.2.2.2.2.2.2.2.2.2.2.2.2.2.2.2.1
theorem dRow_isOrder_38 : decode cRow_isOrder 38 = .ok (.ireturn, 1) := zfRow_isOrder_0.2.2.2.2.2.2.2.2.2.2.2.2.2.2.2.2.2.2.2.2.2.2.1
theorem zfRow_inversions_0 : decode cRow_inversions 0 = .ok (.iconst 0, 1) ∧ decode cRow_inversions 1 = .ok (.istore_n 1, 1) ∧ decode cRow_inversions 2 = .ok (.iconst 0, 1) ∧ decode cRow_inversions 3 = .ok (.istore_n 2, 1) ∧ decode cRow_inversions 4 = .ok (.iload_n 2, 1) ∧ decode cRow_inversions 5 = .ok (.aload_n 0, 1) ∧ decode cRow_inversions 6 = .ok (.getfield 15, 3) ∧ decode cRow_inversions 9 = .ok (.if_icmp .ge 45, 3) ∧ decode cRow_inversions 12 = .ok (.iload_n 2, 1) ∧ decode cRow_inversions 13 = .ok (.iconst 1, 1) ∧ decode cRow_inversions 14 = .ok (.iadd, 1) ∧ decode cRow_inversions 15 = .ok (.istore_n 3, 1) ∧ decode cRow_inversions 16 = .ok (.iload_n 3, 1) ∧ decode cRow_inversions 17 = .ok (.aload_n 0, 1) ∧ decode cRow_inversions 18 = .ok (.getfield 15, 3) ∧ decode cRow_inversions 21 = .ok (.if_icmp .ge 27, 3) ∧ decode cRow_inversions 24 = .ok (.aload_n 0, 1) ∧ decode cRow_inversions 25 = .ok (.getfield 9, 3) ∧ decode cRow_inversions 28 = .ok (.iload_n 2, 1) ∧ decode cRow_inversions 29 = .ok (.iaload, 1) ∧ decode cRow_inversions 30 = .ok (.aload_n 0, 1) ∧ decode cRow_inversions 31 = .ok (.getfield 9, 3) ∧ decode cRow_inversions 34 = .ok (.iload_n 3, 1) ∧ decode cRow_inversions 35 = .ok (.iaload, 1) ∧ decode cRow_inversions 36 = .ok (.if_icmp .le 6, 3) ∧ decode cRow_inversions 39 = .ok (.iinc 1 1, 3) ∧ decode cRow_inversions 42 = .ok (.iinc 3 1, 3) ∧ decode cRow_inversions 45 = .ok (.goto (-29), 3) ∧ decode cRow_inversions 48 = .ok (.iinc 2 1, 3) ∧ decode cRow_inversions 51 = .ok (.goto (-47), 3) ∧ decode cRow_inversions 54 = .ok (.iload_n 1, 1) ∧ decode cRow_inversions 55 = .ok (.ireturn, 1) ∧ True := Jvm.Free.DS.facts (code := cRow_inversions) 0 [(.iconst 0, 1), (.istore_n 1, 1), (.iconst 0, 1), (.istore_n 2, 1), (.iload_n 2, 1), (.aload_n 0, 1), (.getfield 15, 3), (.if_icmp .ge 45, 3), (.iload_n 2, 1), (.iconst 1, 1), (.iadd, 1), (.istore_n 3, 1), (.iload_n 3, 1), (.aload_n 0, 1), (.getfield 15, 3), (.if_icmp .ge 27, 3), (.aload_n 0, 1), (.getfield 9, 3), (.iload_n 2, 1), (.iaload, 1), (.aload_n 0, 1), (.getfield 9, 3), (.iload_n 3, 1), (.iaload, 1), (.if_icmp .le 6, 3), (.iinc 1 1, 3), (.iinc 3 1, 3), (.goto (-29), 3), (.iinc 2 1, 3), (.goto (-47), 3), (.iload_n 1, 1), (.ireturn, 1)] (by decide +kernel) (by decide +kernel)
theorem dRow_inversions_0 : decode cRow_inversions 0 = .ok (.iconst 0, 1) := zfRow_inversions_0.1
theorem dRow_inversions_1 : decode cRow_inversions 1 = .ok (.istore_n 1, 1) := zfRow_inversions_0.2.1
theorem dRow_inversions_2 : decode cRow_inversions 2 = .ok (.iconst 0, 1) := zfRow_inversions_0.2.2.1
theorem dRow_inversions_3 : decode cRow_inversions 3 = .ok (.istore_n 2, 1) := zfRow_inversions_0.2.2.2.1
theorem dRow_inversions_4 : decode cRow_inversions 4 = .ok (.iload_n 2, 1) := zfRow_inversions_0.2.2.2.2.1
theorem dRow_inversions_5 : decode cRow_inversions 5 = .ok (.aload_n 0, 1) := zfRow_inversions_0.2.2.2.2.2.1
theorem dRow_inversions_6 : decode cRow_inversions 6 = .ok (.getfield 15, 3) := zfRow_inversions_0.2.2.2.2.2.2.1
theorem dRow_inversions_9 : decode cRow_inversions 9 = .ok (.if_icmp .ge 45, 3) := zfRow_inversions_0.2.2.2.2.2.2.2.1
theorem dRow_inversions_12 : decode cRow_inversions 12 = .ok (.iload_n 2, 1) := zfRow_inversions_0.2.2.2.2.2.2.2.2.1
theorem dRow_inversions_13 : decode cRow_inversions 13 = .ok (.iconst 1, 1) := zfRow_inversions_0.2.2.2.2.2.2.2.2.2.1
theorem dRow_inversions_14 : decode cRow_inversions 14 = .ok (.iadd, 1) := zfRow_inversions_0.2.2.2.2.2.2.2.2.2.2.1
theorem dRow_inversions_15 : decode cRow_inversions 15 = .ok (.istore_n 3, 1) := zfRow_inversions_0.2.2.2.2.2.2.2.2.2.2.2.1
theorem dRow_inversions_16 : decode cRow_inversions 16 = .ok (.iload_n 3, 1) := zfRow_inversions_0.2.2.2.2.2.2.2.2.2.2.2.2.1
theorem dRow_inversions_17 : decode cRow_inversions 17 = .ok (.aload_n 0, 1) := zfRow_inversions_0.2.2.2.2.2.2.2.2.2.2.2.2.2.1
theorem dRow_inversions_18 : decode cRow_inversions 18 = .ok (.getfield 15, 3) := zfRow_inversions_0.2.2.2.2.2.2.2.2.2.2.2.2.2.2.1
theorem dRow_inversions_21 : decode cRow_inversions 21 = .ok (.if_icmp .ge 27, 3) := zfRow_inversions_0.2.2.2.2.2.2.2.2.2.2.2.2.2.2.2.1
theorem dRow_inversions_24 : decode cRow_inversions 24 = .ok (.aload_n 0, 1) := zfRow_inversions_0.2.2.2.2.2.2.2.2.2.2.2.2.2.2.2.2.1
theorem dRow_inversions_25 : decode cRow_inversions 25 = .ok (.getfield 9, 3) := zfRow_inversions_0.2.2.2.2.2.2.2.2.2.2.2.2.2.2.2.2.2.1
theorem dRow_inversions_28 : decode cRow_inversions 28 = .ok (.iload_n 2, 1) := zfRow_inversions_0.2.2.2.2.2.2.2.2.2.2.2.2.2.2.2.2.2.2.1
theorem dRow_inversions_29 : decode cRow_inversions 29 = .ok (.iaload, 1) := zfRow_inversions_0.2.2.2.2.2.2.2.2.2.2.2.2.2.2.2.2.2.2.2.1
theorem dRow_inversions_30 : decode cRow_inversions 30 = .ok (.aload_n 0, 1) := zfRow_inversions_0.2.2.2.2.2.2.2.2.2.2.2.2.2.2.2.2.2.2.2.2.1
theorem dRow_inversions_31 : decode cRow_inversions 31 = .ok (.getfield 9, 3) := zfRow_inversions_0.2.2.2.2.2.2.2.2.2.2.2.2.2.2.2.2.2.2.2.2.2.1
theorem dRow_inversions_34 : decode cRow_inversions 34 = .ok (.iload_n 3, 1) := zfRow_inversions_0.2.2.2.2.2.2.2.2.2.2.2.2.2.2.2.2.2.2.2.2.2.2.1
theorem dRow_inversions_35 : decode cRow_inversions 35 = .ok (.iaload, 1) := zfRow_inversions_0.2.2.2.2.2.2.2.2.2.2.2.2.2.2.2.2.2.2.2.2.2.2.2.1
theorem dRow_inversions_36 : decode cRow_inversions 36 = .ok (.if_icmp .le 6, 3) := zfRow_inversions_0.2.2.2.2.2.2.2.2.2.2.2.2.2.2.2.2.2.2.2.2.2.2.2.2.1
theorem dRow_inversions_39 : decode cRow_inversions 39 = .ok (.iinc 1 1, 3) := zfRow_inversions_0.2.2.2.2.2.2.2.2.2.2.2.2.2.2.2.2.2.2.2.2.2.2.2.2.2.1
theorem dRow_inversions_42 : decode cRow_inversions 42 = .ok (.iinc 3 1, 3) := zfRow_inversions_0.2.2.2.2.2.2.2.2.2.2.2.2.2.2.2.2.2.2.2.2.2.2.2.2.2.2.1
theorem dRow_inversions_45 : decode cRow_inversions 45 = .ok (.goto (-29), 3) := zfRow_inversions_0.2.2.2.2.2.2.2.2.2.2.2.2.2.2.2.2.2.2.2.2.2.2.2.2.2.2.2.1
theorem dRow_inversions_48 : decode cRow_inversions 48 = .ok (.iinc 2 1, 3) := zfRow_inversions_0.2.2.2.2.2.2.2.2.2.2.2.2.2.2.2.2.2.2.2.2.2.2.2.2.2.2.2.2.1
theorem dRow_inversions_51 : decode cRow_inversions 51 = .ok (.goto (-47), 3) := zfRow_inversions_0.2.2.2.2.2.2.2.2.2.2.2.2.2.2.2.2.2.2.2.2.2.2.2.2.2.2.2.2.2.1
theorem dRow_inversions_54 : decode cRow_inversions 54 = .ok (.iload_n 1, 1) := zfRow_inversions_0.2.2.2.2.2.2.2.2.2.2.2.2.2.2.2.2.2.2.2.2.2.2.2.2.2.2.2.2.2.2.1
theorem dRow_inversions_55 : decode cRow_inversions 55 = .ok (.ireturn, 1) := zfRow_inversions_0.2.2.2.2.2.2.2.2.2.2.2.2.2.2.2.2.2.2.2.2.2.2.2.2.2.2.2.2.2.2.2.1
theorem zfCls_init_0 : decode cCls_init 0 = .ok (.aload_n 0, 1) ∧ decode cCls_init 1 = .ok (.invokespecial 1, 3) ∧ decode cCls_init 4 = .ok (.aload_n 0, 1) ∧ decode cCls_init 5 = .ok (.iconst 4, 1) ∧ decode cCls_init 6 = .ok (.anewarray 9, 3) ∧ decode cCls_init 9 = .ok (.putfield 11, 3) ∧ decode cCls_init 12 = .ok (.aload_n 0, 1) ∧ decode cCls_init 13 = .ok (.iconst 3, 1) ∧ decode cCls_init 14 = .ok (.anewarray 15, 3) ∧ decode cCls_init 17 = .ok (.putfield 17, 3) ∧ decode cCls_init 20 = .ok (.aload_n 0, 1) ∧ decode cCls_init 21 = .ok (.new 21, 3) ∧ decode cCls_init 24 = .ok (.dup, 1) ∧ decode cCls_init 25 = .ok (.invokespecial 23, 3) ∧ decode cCls_init 28 = .ok (.putfield 24, 3) ∧ decode cCls_init 31 = .ok (.aload_n 0, 1) ∧ decode cCls_init 32 = .ok (.new 9, 3) ∧ decode cCls_init 35 = .ok (.dup, 1) ∧ decode cCls_init 36 = .ok (.invokespecial 28, 3) ∧ decode cCls_init 39 = .ok (.putfield 29, 3) ∧ decode cCls_init 42 = .ok (.iconst 0, 1) ∧ decode cCls_init 43 = .ok (.istore_n 1, 1) ∧ decode cCls_init 44 = .ok (.iload_n 1, 1) ∧ decode cCls_init 45 = .ok (.iconst 4, 1) ∧ decode cCls_init 46 = .ok (.if_icmp .ge 22, 3) ∧ decode cCls_init 49 = .ok (.aload_n 0, 1) ∧ decode cCls_init 50 = .ok (.getfield 11, 3) ∧ decode cCls_init 53 = .ok (.iload_n 1, 1) ∧ decode cCls_init 54 = .ok (.new 9, 3) ∧ decode cCls_init 57 = .ok (.dup, 1) ∧ decode cCls_init 58 = .ok (.invokespecial 28, 3) ∧ decode cCls_init 61 = .ok (.aastore, 1) ∧ True := Jvm.Free.DS.facts (code := cCls_init) 0 [(.aload_n 0, 1), (.invokespecial 1, 3), (.aload_n 0, 1), (.iconst 4, 1), (.anewarray 9, 3), (.putfield 11, 3), (.aload_n 0, 1), (.iconst 3, 1), (.anewarray 15, 3), (.putfield 17, 3), (.aload_n 0, 1), (.new 21, 3), (.dup, 1), (.invokespecial 23, 3), (.putfield 24, 3), (.aload_n 0, 1), (.new 9, 3), (.dup, 1), (.invokespecial 28, 3), (.putfield 29, 3), (.iconst 0, 1), (.istore_n 1, 1), (.iload_n 1, 1), (.iconst 4, 1), (.if_icmp .ge 22, 3), (.aload_n 0, 1), (.getfield 11, 3), (.iload_n 1, 1), (.new 9, 3), (.dup, 1), (.invokespecial 28, 3), (.aastore, 1)] (by decide +kernel) (by decide +kernel)
theorem dCls_init_0 : decode cCls_init 0 = .ok (.aload_n 0, 1) := zfCls_init_0.1
theorem dCls_init_1 : decode cCls_init 1 = .ok (.invokespecial 1, 3) := zfCls_init_0.2.1
theorem dCls_init_4 : decode cCls_init 4 = .ok (.aload_n 0, 1) := zfCls_init_0.2.2.1
theorem dCls_init_5 : decode cCls_init 5 = .ok (.iconst 4, 1) := zfCls_init_0.2.2.2.1
theorem dCls_init_6 : decode cCls_init 6 = .ok (.anewarray 9, 3) := zfCls_init_0.2.2.2.2.1
theorem dCls_init_9 : decode cCls_init 9 = .ok (.putfield 11, 3) := zfCls_init_0.2.2.2.2.2.1
theorem dCls_init_12 : decode cCls_init 12 = .ok (.aload_n 0, 1) := zfCls_init_0.2.2.2.2.2.2.1
theorem dCls_init_13 : decode cCls_init 13 = .ok (.iconst 3, 1) := zfCls_init_0.2.2.2.2.2.2.2.1
theorem dCls_init_14 : decode cCls_init 14 = .ok (.anewarray 15, 3) := zfCls_init_0.2.2.2.2.2.2.2.2.1
theorem dCls_init_17 : decode cCls_init 17 = .ok (.putfield 17, 3) := zfCls_init_0.2.2.2.2.2.2.2.2.2.1
theorem dCls_init_20 : decode cCls_init 20 = .ok (.aload_n 0, 1) := zfCls_init_0.2.2.2.2.2.2.2.2.2.2.1
theorem dCls_init_21 : decode cCls_init 21 = .ok (.new 21, 3) := zfCls_init_0.2.2.2.2.2.2.2.2.2.2.2.1
theorem dCls_init_24 : decode cCls_init 24 = .ok (.dup, 1) := zfCls_init_0.2.2.2.2.2.2.2.2.2.2.2.2.1
theorem dCls_init_25 : decode cCls_init 25 = .ok (.invokespecial 23, 3) := zfCls_init_0.2.2.2.2.2.2.2.2.2.2.2.2.2.1
theorem dCls_init_28 : decode cCls_init 28 = .ok (.putfield 24, 3) := zfCls_init_0.2.2.2.2.2.2.2.2.2.2.2.2.2.2.1
theorem dCls_init_31 : decode cCls_init 31 = .ok (.aload_n 0, 1) := zfCls_init_0.2.2.2.2.2.2.2.2.2.2.2.2.2.2.2.1
theorem dCls_init_32 : decode cCls_init 32 = .ok (.new 9, 3) := zfCls_init_0.2.2.2.2.2.2.2.2.2.2.2.2.2.2.2.2.1
theorem dCls_init_35 : decode cCls_init 35 = .ok (.dup, 1) := zfCls_init_0.2.2.2.2.2.2.2.2.2.2.2.2.2.2.2.2.2.1
theorem dCls_init_36 : decode cCls_init 36 = .ok (.invokespecial 28, 3) := zfCls_init_0.2.2.2.2.2.2.2.2.2.2.2.2.2.2.2.2.2.2.1
theorem dCls_init_39 : decode cCls_init 39 = .ok (.putfield 29, 3) := zfCls_init_0.2.2.2.2.2.2.2.2.2.2.2.2.2.2.2.2.2.2.2.1
theorem dCls_init_42 : decode cCls_init 42 = .ok (.iconst 0, 1) := zfCls_init_0.2.2.2.2.2.2.2.2.2.2.2.2.2.2.2.2.2.2.2.2.1
theorem dCls_init_43 : decode cCls_init 43 = .ok (.istore_n 1, 1) := zfCls_init_0.2.2.2.2.2.2.2.2.2.2.2.2.2.2.2.2.2.2.2.2.2.1
theorem dCls_init_44 : decode cCls_init 44 = .ok (.iload_n 1, 1) := zfCls_init_0.2.2.2.2.2.2.2.2.2.2.2.2.2.2.2.2.2.2.2.2.2.2.1
theorem dCls_init_45 : decode cCls_init 45 = .ok (.iconst 4, 1) := zfCls_init_0.2.2.2.2.2.2.2.2.2.2.2.2.2.2.2.2.2.2.2.2.2.2.2.1
theorem dCls_init_46 : decode cCls_init 46 = .ok (.if_icmp .ge 22, 3) := zfCls_init_0.2.2.2.2.2.2.2.2.2.2.2.2.2.2.2.2.2.2.2.2.2.2.2.2.1
theorem dCls_init_49 : decode cCls_init 49 = .ok (.aload_n 0, 1) := zfCls_init_0.2.2.2.2.2.2.2.2.2.2.2.2.2.2.2.2.2.2.2.2.2.2.2.2.2.1
theorem dCls_init_50 : decode cCls_init 50 = .ok (.getfield 11, 3) := zfCls_init_0.2.2.2.2.2.2.2.2.2.2.2.2.2.2.2.2.2.2.2.2.2.2.2.2.2.2.1
theorem dCls_init_53 : decode cCls_init 53 = .ok (.iload_n 1, 1) := zfCls_init_0.2.2.2.2.2.2.2.2.2.2.2.2.2.2.2.2.2.2.2.2.2.2.2.2.2.2.2.1
theorem dCls_init_54 : decode cCls_init 54 = .ok (.new 9, 3) := zfCls_init_0.2.2.2.2.2.2.2.2.2.2.2.2.2.2.2.2.2.2.2.2.2.2.2.2.2.2.2.2.1
theorem dCls_init_57 : decode cCls_init 57 = .ok (.dup, 1) := zfCls_init_0.2.2.2.2.2.2.2.2.2.2.2.2.2.2.2.2.2.2.2.2.2.2.2.2.2.2.2.2.2.1
theorem dCls_init_58 : decode cCls_init 58 = .ok (.invokespecial 28, 3) := zfCls_init_0.2.2.2.2.2.2.2.2.2.2.2.2.2.2.2.2.2.2.2.2.2.2.2.2.2.2.2.2.2.2.1
theorem dCls_init_61 : decode cCls_init 61 = .ok (.aastore, 1) := zfCls_init_0.2.2.2.2.2.2.2.2.2.2.2.2.2.2.2.2.2.2.2.2.2.2.2.2.2.2.2.2.2.2.2.1
theorem zfCls_init_62 : decode cCls_init 62 = .ok (.iinc 1 1, 3) ∧ decode cCls_init 65 = .ok (.goto (-21), 3) ∧ decode cCls_init 68 = .ok (.iconst 0, 1) ∧ decode cCls_init 69 = .ok (.istore_n 1, 1) ∧ decode cCls_init 70 = .ok (.iload_n 1, 1) ∧ decode cCls_init 71 = .ok (.iconst 3, 1) ∧ decode cCls_init 72 = .ok (.if_icmp .ge 22, 3) ∧ decode cCls_init 75 = .ok (.aload_n 0, 1) ∧ decode cCls_init 76 = .ok (.getfield 17, 3) ∧ decode cCls_init 79 = .ok (.iload_n 1, 1) ∧ decode cCls_init 80 = .ok (.new 15, 3) ∧ decode cCls_init 83 = .ok (.dup, 1) ∧ decode cCls_init 84 = .ok (.invokespecial 33, 3) ∧ decode cCls_init 87 = .ok (.aastore, 1) ∧ decode cCls_init 88 = .ok (.iinc 1 1, 3) ∧ decode cCls_init 91 = .ok (.goto (-21), 3) ∧ decode cCls_init 94 = .ok (.return_, 1) ∧ True := Jvm.Free.DS.facts (code := cCls_init) 62 [(.iinc 1 1, 3), (.goto (-21), 3), (.iconst 0, 1), (.istore_n 1, 1), (.iload_n 1, 1), (.iconst 3, 1), (.if_icmp .ge 22, 3), (.aload_n 0, 1), (.getfield 17, 3), (.iload_n 1, 1), (.new 15, 3), (.dup, 1), (.invokespecial 33, 3), (.aastore, 1), (.iinc 1 1, 3), (.goto (-21), 3), (.return_, 1)] (by decide +kernel) (by decide +kernel)
theorem dCls_init_62 : decode cCls_init 62 = .ok (.iinc 1 1, 3) := zfCls_init_62.1
theorem dCls_init_65 : decode cCls_init 65 = .ok (.goto (-21), 3) := zfCls_init_62.2.1
theorem dCls_init_68 : decode cCls_init 68 = .ok (.iconst 0, 1) := zfCls_init_62.2.2.1
theorem dCls_init_69 : decode cCls_init 69 = .ok (.istore_n 1, 1) := zfCls_init_62.2.2.2.1
theorem dCls_init_70 : decode cCls_init 70 = .ok (.iload_n 1, 1) := zfCls_init_62.2.2.2.2.1
theorem dCls_init_71 : decode cCls_init 71 = .ok (.iconst 3, 1) := zfCls_init_62.2.2.2.2.2.1
theorem dCls_init_72 : decode cCls_init 72 = .ok (.if_icmp .ge 22, 3) := zfCls_init_62.2.2.2.2.2.2.1
theorem dCls_init_75 : decode cCls_init 75 = .ok (.aload_n 0, 1) := zfCls_init_62.2.2.2.2.2.2.2.1
theorem dCls_init_76 : decode cCls_init 76 = .ok (.getfield 17, 3) := zfCls_init_62.2.2.2.2.2.2.2.2.1
theorem dCls_init_79 : decode cCls_init 79 = .ok (.iload_n 1, 1) := zfCls_init_62.2.2.2.2.2.2.2.2.2.1
theorem dCls_init_80 : decode cCls_init 80 = .ok (.new 15, 3) := zfCls_init_62.2.2.2.2.2.2.2.2.2.2.1
theorem dCls_init_83 : decode cCls_init 83 = .ok (.dup, 1) := zfCls_init_62.2.2.2.2.2.2.2.2.2.2.2.1
theorem dCls_init_84 : decode cCls_init 84 = .ok (.invokespecial 33, 3) := zfCls_init_62.2.2.2.2.2.2.2.2.2.2.2.2.1
theorem dCls_init_87 : decode cCls_init 87 = .ok (.aastore, 1) := zfCls_init_62.2.2.2.2.2.2.2.2.2.2.2.2.2.1
theorem dCls_init_88 : decode cCls_init 88 = .ok (.iinc 1 1, 3) := zfCls_init_62.2.2.2.2.2.2.2.2.2.2.2.2.2.2.1
theorem dCls_init_91 : decode cCls_init 91 = .ok (.goto (-21), 3) := zfCls_init_62.2.2.2.2.2.2.2.2.2.2.2.2.2.2.2.1
theorem dCls_init_94 : decode cCls_init 94 = .ok (.return_, 1) := zfCls_init_62.2.2.2.2.2.2.2.2.2.2.2.2.2.2.2.2.1
theorem zfCls_put_0 : decode cCls_put 0 = .ok (.aload_n 0, 1) ∧ decode cCls_put 1 = .ok (.iload_n 1, 1) ∧ decode cCls_put 2 = .ok (.invokevirtual 34, 3) ∧ decode cCls_put 5 = .ok (.astore 4, 2) ∧ decode cCls_put 7 = .ok (.iload_n 2, 1) ∧ decode cCls_put 8 = .ok (.iconst 0, 1) ∧ decode cCls_put 9 = .ok (.iconst 5, 1) ∧ decode cCls_put 10 = .ok (.invokestatic 38, 3) ∧ decode cCls_put 13 = .ok (.iload_n 3, 1) ∧ decode cCls_put 14 = .ok (.invokestatic 42, 3) ∧ decode cCls_put 17 = .ok (.iload_n 2, 1) ∧ decode cCls_put 18 = .ok (.iconst 1, 1) ∧ decode cCls_put 19 = .ok (.if_icmp .eq 13, 3) ∧ decode cCls_put 22 = .ok (.iload_n 2, 1) ∧ decode cCls_put 23 = .ok (.iconst 3, 1) ∧ decode cCls_put 24 = .ok (.if_icmp .eq 8, 3) ∧ decode cCls_put 27 = .ok (.iload_n 2, 1) ∧ decode cCls_put 28 = .ok (.iconst 5, 1) ∧ decode cCls_put 29 = .ok (.if_icmp .ne 7, 3) ∧ decode cCls_put 32 = .ok (.iconst 1, 1) ∧ decode cCls_put 33 = .ok (.goto 4, 3) ∧ decode cCls_put 36 = .ok (.iconst 0, 1) ∧ decode cCls_put 37 = .ok (.istore 5, 2) ∧ decode cCls_put 39 = .ok (.aload_n 0, 1) ∧ decode cCls_put 40 = .ok (.iload_n 1, 1) ∧ decode cCls_put 41 = .ok (.iload 5, 2) ∧ decode cCls_put 43 = .ok (.ifCond .eq 11, 3) ∧ decode cCls_put 46 = .ok (.aload 4, 2) ∧ decode cCls_put 48 = .ok (.getfield 46, 3) ∧ decode cCls_put 51 = .ok (.goto 4, 3) ∧ decode cCls_put 54 = .ok (.iconst 0, 1) ∧ decode cCls_put 55 = .ok (.iload_n 3, 1) ∧ True := Jvm.Free.DS.facts (code := cCls_put) 0 [(.aload_n 0, 1), (.iload_n 1, 1), (.invokevirtual 34, 3), (.astore 4, 2), (.iload_n 2, 1), (.iconst 0, 1), (.iconst 5, 1), (.invokestatic 38, 3), (.iload_n 3, 1), (.invokestatic 42, 3), (.iload_n 2, 1), (.iconst 1, 1), (.if_icmp .eq 13, 3), (.iload_n 2, 1), (.iconst 3, 1), (.if_icmp .eq 8, 3), (.iload_n 2, 1), (.iconst 5, 1), (.if_icmp .ne 7, 3), (.iconst 1, 1), (.goto 4, 3), (.iconst 0, 1), (.istore 5, 2), (.aload_n 0, 1), (.iload_n 1, 1), (.iload 5, 2), (.ifCond .eq 11, 3), (.aload 4, 2), (.getfield 46, 3), (.goto 4, 3), (.iconst 0, 1), (.iload_n 3, 1)] (by decide +kernel) (by decide +kernel)
theorem dCls_put_0 : decode cCls_put 0 = .ok (.aload_n 0, 1) := zfCls_put_0.1
theorem dCls_put_1 : decode cCls_put 1 = .ok (.iload_n 1, 1) := zfCls_put_0.2.1
theorem dCls_put_2 : decode cCls_put 2 = .ok (.invokevirtual 34, 3) := zfCls_put_0.2.2.1
theorem dCls_put_5 : decode cCls_put 5 = .ok (.astore 4, 2) := zfCls_put_0.2.2.2.1
theorem dCls_put_7 : decode cCls_put 7 = .ok (.iload_n 2, 1) := zfCls_put_0.2.2.2.2.1
theorem dCls_put_8 : decode cCls_put 8 = .ok (.iconst 0, 1) := zfCls_put_0.2.2.2.2.2.1
theorem dCls_put_9 : decode cCls_put 9 = .ok (.iconst 5, 1) := zfCls_put_0.2.2.2.2.2.2.1
theorem dCls_put_10 : decode cCls_put 10 = .ok (.invokestatic 38, 3) := zfCls_put_0.2.2.2.2.2.2.2.1
theorem dCls_put_13 : decode cCls_put 13 = .ok (.iload_n 3, 1) := zfCls_put_0.2.2.2.2.2.2.2.2.1
theorem dCls_put_14 : decode cCls_put 14 = .ok (.invokestatic 42, 3) := zfCls_put_0.2.2.2.2.2.2.2.2.2.1
theorem dCls_put_17 : decode cCls_put 17 = .ok (.iload_n 2, 1) := zfCls_put_0.2.2.2.2.2.2.2.2.2.2.1
theorem dCls_put_18 : decode cCls_put 18 = .ok (.iconst 1, 1) := zfCls_put_0.2.2.2.2.2.2.2.2.2.2.2.1
theorem dCls_put_19 : decode cCls_put 19 = .ok (.if_icmp .eq 13, 3) := zfCls_put_0.2.2.2.2.2.2.2.2.2.2.2.2.1
theorem dCls_put_22 : decode cCls_put 22 = .ok (.iload_n 2, 1) := zfCls_put_0.2.2.2.2.2.2.2.2.2.2.2.2.2.1
theorem dCls_put_23 : decode cCls_put 23 = .ok (.iconst 3, 1) := zfCls_put_0.2.2.2.2.2.2.2.2.2.2.2.2.2.2.1
theorem dCls_put_24 : decode cCls_put 24 = .ok (.if_icmp .eq 8, 3) := zfCls_put_0.2.2.2.2.2.2.2.2.2.2.2.2.2.2.2.1
theorem dCls_put_27 : decode cCls_put 27 = .ok (.iload_n 2, 1) := zfCls_put_0.2.2.2.2.2.2.2.2.2.2.2.2.2.2.2.2.1
theorem dCls_put_28 : decode cCls_put 28 = .ok (.iconst 5, 1) := zfCls_put_0.2.2.2.2.2.2.2.2.2.2.2.2.2.2.2.2.2.1
theorem dCls_put_29 : decode cCls_put 29 = .ok (.if_icmp .ne 7, 3) := zfCls_put_0.2.2.2.2.2.2.2.2.2.2.2.2.2.2.2.2.2.2.1
theorem dCls_put_32 : decode cCls_put 32 = .ok (.iconst 1, 1) := zfCls_put_0.2.2.2.2.2.2.2.2.2.2.2.2.2.2.2.2.2.2.2.1
theorem dCls_put_33 : decode cCls_put 33 = .ok (.goto 4, 3) := zfCls_put_0.2.2.2.2.2.2.2.2.2.2.2.2.2.2.2.2.2.2.2.2.1
theorem dCls_put_36 : decode cCls_put 36 = .ok (.iconst 0, 1) := zfCls_put_0.2.2.2.2.2.2.2.2.2.2.2.2.2.2.2.2.2.2.2.2.2.1
theorem dCls_put_37 : decode cCls_put 37 = .ok (.istore 5, 2) := zfCls_put_0.2.2.2.2.2.2.2.2.2.2.2.2.2.2.2.2.2.2.2.2.2.2.1
theorem dCls_put_39 : decode cCls_put 39 = .ok (.aload_n 0, 1) := zfCls_put_0.2.2.2.2.2.2.2.2.2.2.2.2.2.2.2.2.2.2.2.2.2.2.2.1
theorem dCls_put_40 : decode cCls_put 40 = .ok (.iload_n 1, 1) := zfCls_put_0.2.2.2.2.2.2.2.2.2.2.2.2.2.2.2.2.2.2.2.2.2.2.2.2.1
theorem dCls_put_41 : decode cCls_put 41 = .ok (.iload 5, 2) := zfCls_put_0.2.2.2.2.2.2.2.2.2.2.2.2.2.2.2.2.2.2.2.2.2.2.2.2.2.1
theorem dCls_put_43 : decode cCls_put 43 = .ok (.ifCond .eq 11, 3) := zfCls_put_0.2.2.2.2.2.2.2.2.2.2.2.2.2.2.2.2.2.2.2.2.2.2.2.2.2.2.1
theorem dCls_put_46 : decode cCls_put 46 = .ok (.aload 4, 2) := zfCls_put_0.2.2.2.2.2.2.2.2.2.2.2.2.2.2.2.2.2.2.2.2.2.2.2.2.2.2.2.1
theorem dCls_put_48 : decode cCls_put 48 = .ok (.getfield 46, 3) := zfCls_put_0.2.2.2.2.2.2.2.2.2.2.2.2.2.2.2.2.2.2.2.2.2.2.2.2.2.2.2.2.1
theorem dCls_put_51 : decode cCls_put 51 = .ok (.goto 4, 3) := zfCls_put_0.2.2.2.2.2.2.2.2.2.2.2.2.2.2.2.2.2.2.2.2.2.2.2.2.2.2.2.2.2.1
theorem dCls_put_54 : decode cCls_put 54 = .ok (.iconst 0, 1) := zfCls_put_0.2.2.2.2.2.2.2.2.2.2.2.2.2.2.2.2.2.2.2.2.2.2.2.2.2.2.2.2.2.2.1
theorem dCls_put_55 : decode cCls_put 55 = .ok (.iload_n 3, 1) := zfCls_put_0.2.2.2.2.2.2.2.2.2.2.2.2.2.2.2.2.2.2.2.2.2.2.2.2.2.2.2.2.2.2.2.1
theorem zfCls_put_56 : decode cCls_put 56 = .ok (.invokevirtual 50, 3) ∧ decode cCls_put 59 = .ok (.ireturn, 1) ∧ True := Jvm.Free.DS.facts (code := cCls_put) 56 [(.invokevirtual 50, 3), (.ireturn, 1)] (by decide +kernel) (by decide +kernel)
theorem dCls_put_56 : decode cCls_put 56 = .ok (.invokevirtual 50, 3) := zfCls_put_56.1
theorem dCls_put_59 : decode cCls_put 59 = .ok (.ireturn, 1) := zfCls_put_56.2.1
theorem zfCls_take_0 : decode cCls_take 0 = .ok (.aload_n 0, 1) ∧ decode cCls_take 1 = .ok (.iload_n 1, 1) ∧ decode cCls_take 2 = .ok (.invokevirtual 34, 3) ∧ decode cCls_take 5 = .ok (.astore_n 3, 1) ∧ decode cCls_take 6 = .ok (.iload_n 2, 1) ∧ decode cCls_take 7 = .ok (.iconst 0, 1) ∧ decode cCls_take 8 = .ok (.bipush 6, 2) ∧ decode cCls_take 10 = .ok (.invokestatic 38, 3) ∧ decode cCls_take 13 = .ok (.aload_n 3, 1) ∧ decode cCls_take 14 = .ok (.getfield 46, 3) ∧ decode cCls_take 17 = .ok (.ifCond .ne 37, 3) ∧ decode cCls_take 20 = .ok (.iload_n 2, 1) ∧ decode cCls_take 21 = .ok (.ifCond .eq 18, 3) ∧ decode cCls_take 24 = .ok (.iload_n 2, 1) ∧ decode cCls_take 25 = .ok (.iconst 1, 1) ∧ decode cCls_take 26 = .ok (.if_icmp .eq 13, 3) ∧ decode cCls_take 29 = .ok (.iload_n 2, 1) ∧ decode cCls_take 30 = .ok (.iconst 4, 1) ∧ decode cCls_take 31 = .ok (.if_icmp .eq 8, 3) ∧ decode cCls_take 34 = .ok (.iload_n 2, 1) ∧ decode cCls_take 35 = .ok (.iconst 5, 1) ∧ decode cCls_take 36 = .ok (.if_icmp .ne 8, 3) ∧ decode cCls_take 39 = .ok (.aload_n 0, 1) ∧ decode cCls_take 40 = .ok (.invokevirtual 54, 3) ∧ decode cCls_take 43 = .ok (.ireturn, 1) ∧ decode cCls_take 44 = .ok (.aload_n 0, 1) ∧ decode cCls_take 45 = .ok (.iload_n 1, 1) ∧ decode cCls_take 46 = .ok (.iconst (-1), 1) ∧ decode cCls_take 47 = .ok (.invokevirtual 58, 3) ∧ decode cCls_take 50 = .ok (.sipush 10000, 3) ∧ decode cCls_take 53 = .ok (.ireturn, 1) ∧ decode cCls_take 54 = .ok (.aload_n 0, 1) ∧ True := Jvm.Free.DS.facts (code := cCls_take) 0 [(.aload_n 0, 1), (.iload_n 1, 1), (.invokevirtual 34, 3), (.astore_n 3, 1), (.iload_n 2, 1), (.iconst 0, 1), (.bipush 6, 2), (.invokestatic 38, 3), (.aload_n 3, 1), (.getfield 46, 3), (.ifCond .ne 37, 3), (.iload_n 2, 1), (.ifCond .eq 18, 3), (.iload_n 2, 1), (.iconst 1, 1), (.if_icmp .eq 13, 3), (.iload_n 2, 1), (.iconst 4, 1), (.if_icmp .eq 8, 3), (.iload_n 2, 1), (.iconst 5, 1), (.if_icmp .ne 8, 3), (.aload_n 0, 1), (.invokevirtual 54, 3), (.ireturn, 1), (.aload_n 0, 1), (.iload_n 1, 1), (.iconst (-1), 1), (.invokevirtual 58, 3), (.sipush 10000, 3), (.ireturn, 1), (.aload_n 0, 1)] (by decide +kernel) (by decide +kernel)
theorem dCls_take_0 : decode cCls_take 0 = .ok (.aload_n 0, 1) := zfCls_take_0.1
theorem dCls_take_1 : decode cCls_take 1 = .ok (.iload_n 1, 1) := zfCls_take_0.2.1
theorem dCls_take_2 : decode cCls_take 2 = .ok (.invokevirtual 34, 3) := zfCls_take_0.2.2.1
theorem dCls_take_5 : decode cCls_take 5 = .ok (.astore_n 3, 1) := zfCls_take_0.2.2.2.1
theorem dCls_take_6 : decode cCls_take 6 = .ok (.iload_n 2, 1) := zfCls_take_0.2.2.2.2.1
theorem dCls_take_7 : decode cCls_take 7 = .ok (.iconst 0, 1) := zfCls_take_0.2.2.2.2.2.1
theorem dCls_take_8 : decode cCls_take 8 = .ok (.bipush 6, 2) := zfCls_take_0.2.2.2.2.2.2.1
theorem dCls_take_10 : decode cCls_take 10 = .ok (.invokestatic 38, 3) := zfCls_take_0.2.2.2.2.2.2.2.1
theorem dCls_take_13 : decode cCls_take 13 = .ok (.aload_n 3, 1) := zfCls_take_0.2.2.2.2.2.2.2.2.1
theorem dCls_take_14 : decode cCls_take 14 = .ok (.getfield 46, 3) := zfCls_take_0.2.2.2.2.2.2.2.2.2.1
theorem dCls_take_17 : decode cCls_take 17 = .ok (.ifCond .ne 37, 3) := zfCls_take_0.2.2.2.2.2.2.2.2.2.2.1
theorem dCls_take_20 : decode cCls_take 20 = .ok (.iload_n 2, 1) := zfCls_take_0.2.2.2.2.2.2.2.2.2.2.2.1
theorem dCls_take_21 : decode cCls_take 21 = .ok (.ifCond .eq 18, 3) := zfCls_take_0.2.2.2.2.2.2.2.2.2.2.2.2.1
theorem dCls_take_24 : decode cCls_take 24 = .ok (.iload_n 2, 1) := zfCls_take_0.2.2.2.2.2.2.2.2.2.2.2.2.2.1
theorem dCls_take_25 : decode cCls_take 25 = .ok (.iconst 1, 1) := zfCls_take_0.2.2.2.2.2.2.2.2.2.2.2.2.2.2.1
theorem dCls_take_26 : decode cCls_take 26 = .ok (.if_icmp .eq 13, 3) := zfCls_take_0.2.2.2.2.2.2.2.2.2.2.2.2.2.2.2.1
theorem dCls_take_29 : decode cCls_take 29 = .ok (.iload_n 2, 1) := zfCls_take_0.2.2.2.2.2.2.2.2.2.2.2.2.2.2.2.2.1
theorem dCls_take_30 : decode cCls_take 30 = .ok (.iconst 4, 1) := zfCls_take_0.2.2.2.2.2.2.2.2.2.2.2.2.2.2.2.2.2.1
theorem dCls_take_31 : decode cCls_take 31 = .ok (.if_icmp .eq 8, 3) := zfCls_take_0.2.2.2.2.2.2.2.2.2.2.2.2.2.2.2.2.2.2.1
theorem dCls_take_34 : decode cCls_take 34 = .ok (.iload_n 2, 1) := zfCls_take_0.2.2.2.2.2.2.2.2.2.2.2.2.2.2.2.2.2.2.2.1
theorem dCls_take_35 : decode cCls_take 35 = .ok (.iconst 5, 1) := zfCls_take_0.2.2.2.2.2.2.2.2.2.2.2.2.2.2.2.2.2.2.2.2.1
theorem dCls_take_36 : decode cCls_take 36 = .ok (.if_icmp .ne 8, 3) := zfCls_take_0.2.2.2.2.2.2.2.2.2.2.2.2.2.2.2.2.2.2.2.2.2.1
theorem dCls_take_39 : decode cCls_take 39 = .ok (.aload_n 0, 1) := zfCls_take_0.2.2.2.2.2.2.2.2.2.2.2.2.2.2.2.2.2.2.2.2.2.2.1
theorem dCls_take_40 : decode cCls_take 40 = .ok (.invokevirtual 54, 3) := zfCls_take_0.2.2.2.2.2.2.2.2.2.2.2.2.2.2.2.2.2.2.2.2.2.2.2.1
theorem dCls_take_43 : decode cCls_take 43 = .ok (.ireturn, 1) := zfCls_take_0.2.2.2.2.2.2.2.2.2.2.2.2.2.2.2.2.2.2.2.2.2.2.2.2.1
theorem dCls_take_44 : decode cCls_take 44 = .ok (.aload_n 0, 1) := zfCls_take_0.2.2.2.2.2.2.2.2.2.2.2.2.2.2.2.2.2.2.2.2.2.2.2.2.2.1
theorem dCls_take_45 : decode cCls_take 45 = .ok (.iload_n 1, 1) := zfCls_take_0.2.2.2.2.2.2.2.2.2.2.2.2.2.2.2.2.2.2.2.2.2.2.2.2.2.2.1
theorem dCls_take_46 : decode cCls_take 46 = .ok (.iconst (-1), 1) := zfCls_take_0.2.2.2.2.2.2.2.2.2.2.2.2.2.2.2.2.2.2.2.2.2.2.2.2.2.2.2.1
theorem dCls_take_47 : decode cCls_take 47 = .ok (.invokevirtual 58, 3) := zfCls_take_0.2.2.2.2.2.2.2.2.2.2.2.2.2.2.2.2.2.2.2.2.2.2.2.2.2.2.2.2.1
theorem dCls_take_50 : decode cCls_take 50 = .ok (.sipush 10000, 3) := zfCls_take_0.2.2.2.2.2.2.2.2.2.2.2.2.2.2.2.2.2.2.2.2.2.2.2.2.2.2.2.2.2.1
theorem dCls_take_53 : decode cCls_take 53 = .ok (.ireturn, 1) := zfCls_take_0.2.2.2.2.2.2.2.2.2.2.2.2.2.2.2.2.2.2.2.2.2.2.2.2.2.2.2.2.2.2.1
theorem dCls_take_54 : decode cCls_take 54 = .ok (.aload_n 0, 1) := zfCls_take_0.2.2.2.2.2.2.2.2.2.2.2.2.2.2.2.2.2.2.2.2.2.2.2.2.2.2.2.2.2.2.2.1
theorem zfCls_take_55 : decode cCls_take 55 = .ok (.iload_n 1, 1) ∧ decode cCls_take 56 = .ok (.aload_n 3, 1) ∧ decode cCls_take 57 = .ok (.iload_n 2, 1) ∧ decode cCls_take 58 = .ok (.invokestatic 62, 3) ∧ decode cCls_take 61 = .ok (.invokevirtual 66, 3) ∧ decode cCls_take 64 = .ok (.ireturn, 1) ∧ True := Jvm.Free.DS.facts (code := cCls_take) 55 [(.iload_n 1, 1), (.aload_n 3, 1), (.iload_n 2, 1), (.invokestatic 62, 3), (.invokevirtual 66, 3), (.ireturn, 1)] (by decide +kernel) (by decide +kernel)
theorem dCls_take_55 : decode cCls_take 55 = .ok (.iload_n 1, 1) := zfCls_take_55.1
theorem dCls_take_56 : decode cCls_take 56 = .ok (.aload_n 3, 1) := zfCls_take_55.2.1
theorem dCls_take_57 : decode cCls_take 57 = .ok (.iload_n 2, 1) := zfCls_take_55.2.2.1
theorem dCls_take_58 : decode cCls_take 58 = .ok (.invokestatic 62, 3) := zfCls_take_55.2.2.2.1
theorem dCls_take_61 : decode cCls_take 61 = .ok (.invokevirtual 66, 3) := zfCls_take_55.2.2.2.2.1
theorem dCls_take_64 : decode cCls_take 64 = .ok (.ireturn, 1) := zfCls_take_55.2.2.2.2.2.1
theorem zfCls_look_0 : decode cCls_look 0 = .ok (.aload_n 0, 1) ∧ decode cCls_look 1 = .ok (.iload_n 1, 1) ∧ decode cCls_look 2 = .ok (.invokevirtual 34, 3) ∧ decode cCls_look 5 = .ok (.astore_n 3, 1) ∧ decode cCls_look 6 = .ok (.iload_n 2, 1) ∧ decode cCls_look 7 = .ok (.iconst 0, 1) ∧ decode cCls_look 8 = .ok (.iconst 5, 1) ∧ decode cCls_look 9 = .ok (.invokestatic 38, 3) ∧ decode cCls_look 12 = .ok (.aload_n 3, 1) ∧ decode cCls_look 13 = .ok (.getfield 46, 3) ∧ decode cCls_look 16 = .ok (.ifCond .ne 28, 3) ∧ decode cCls_look 19 = .ok (.iload_n 2, 1) ∧ decode cCls_look 20 = .ok (.ifCond .eq 13, 3) ∧ decode cCls_look 23 = .ok (.iload_n 2, 1) ∧ decode cCls_look 24 = .ok (.iconst 1, 1) ∧ decode cCls_look 25 = .ok (.if_icmp .eq 8, 3) ∧ decode cCls_look 28 = .ok (.iload_n 2, 1) ∧ decode cCls_look 29 = .ok (.iconst 4, 1) ∧ decode cCls_look 30 = .ok (.if_icmp .ne 10, 3) ∧ decode cCls_look 33 = .ok (.aload_n 0, 1) ∧ decode cCls_look 34 = .ok (.invokevirtual 54, 3) ∧ decode cCls_look 37 = .ok (.goto 6, 3) ∧ decode cCls_look 40 = .ok (.sipush 10000, 3) ∧ decode cCls_look 43 = .ok (.ireturn, 1) ∧ decode cCls_look 44 = .ok (.aload_n 3, 1) ∧ decode cCls_look 45 = .ok (.aload_n 3, 1) ∧ decode cCls_look 46 = .ok (.iload_n 2, 1) ∧ decode cCls_look 47 = .ok (.invokestatic 62, 3) ∧ decode cCls_look 50 = .ok (.invokevirtual 70, 3) ∧ decode cCls_look 53 = .ok (.ireturn, 1) ∧ True := Jvm.Free.DS.facts (code := cCls_look) 0 [(.aload_n 0, 1), (.iload_n 1, 1), (.invokevirtual 34, 3), (.astore_n 3, 1), (.iload_n 2, 1), (.iconst 0, 1), (.iconst 5, 1), (.invokestatic 38, 3), (.aload_n 3, 1), (.getfield 46, 3), (.ifCond .ne 28, 3), (.iload_n 2, 1), (.ifCond .eq 13, 3), (.iload_n 2, 1), (.iconst 1, 1), (.if_icmp .eq 8, 3), (.iload_n 2, 1), (.iconst 4, 1), (.if_icmp .ne 10, 3), (.aload_n 0, 1), (.invokevirtual 54, 3), (.goto 6, 3), (.sipush 10000, 3), (.ireturn, 1), (.aload_n 3, 1), (.aload_n 3, 1), (.iload_n 2, 1), (.invokestatic 62, 3), (.invokevirtual 70, 3), (.ireturn, 1)] (by decide +kernel) (by decide +kernel)
theorem dCls_look_0 : decode cCls_look 0 = .ok (.aload_n 0, 1) := zfCls_look_0.1
theorem dCls_look_1 : decode cCls_look 1 = .ok (.iload_n 1, 1) := zfCls_look_0.2.1
theorem dCls_look_2 : decode cCls_look 2 = .ok (.invokevirtual 34, 3) := zfCls_look_0.2.2.1
theorem dCls_look_5 : decode cCls_look 5 = .ok (.astore_n 3, 1) := zfCls_look_0.2.2.2.1
theorem dCls_look_6 : decode cCls_look 6 = .ok (.iload_n 2, 1) := zfCls_look_0.2.2.2.2.1
theorem dCls_look_7 : decode cCls_look 7 = .ok (.iconst 0, 1) := zfCls_look_0.2.2.2.2.2.1
theorem dCls_look_8 : decode cCls_look 8 = .ok (.iconst 5, 1) := zfCls_look_0.2.2.2.2.2.2.1
theorem dCls_look_9 : decode cCls_look 9 = .ok (.invokestatic 38, 3) := zfCls_look_0.2.2.2.2.2.2.2.1
theorem dCls_look_12 : decode cCls_look 12 = .ok (.aload_n 3, 1) := zfCls_look_0.2.2.2.2.2.2.2.2.1
theorem dCls_look_13 : decode cCls_look 13 = .ok (.getfield 46, 3) := zfCls_look_0.2.2.2.2.2.2.2.2.2.1
theorem dCls_look_16 : decode cCls_look 16 = .ok (.ifCond .ne 28, 3) := zfCls_look_0.2.2.2.2.2.2.2.2.2.2.1
theorem dCls_look_19 : decode cCls_look 19 = .ok (.iload_n 2, 1) := zfCls_look_0.2.2.2.2.2.2.2.2.2.2.2.1
theorem dCls_look_20 : decode cCls_look 20 = .ok (.ifCond .eq 13, 3) := zfCls_look_0.2.2.2.2.2.2.2.2.2.2.2.2.1
theorem dCls_look_23 : decode cCls_look 23 = .ok (.iload_n 2, 1) := zfCls_look_0.2.2.2.2.2.2.2.2.2.2.2.2.2.1
theorem dCls_look_24 : decode cCls_look 24 = .ok (.iconst 1, 1) := zfCls_look_0.2.2.2.2.2.2.2.2.2.2.2.2.2.2.1
theorem dCls_look_25 : decode cCls_look 25 = .ok (.if_icmp .eq 8, 3) := zfCls_look_0.2.2.2.2.2.2.2.2.2.2.2.2.2.2.2.1
theorem dCls_look_28 : decode cCls_look 28 = .ok (.iload_n 2, 1) := zfCls_look_0.2.2.2.2.2.2.2.2.2.2.2.2.2.2.2.2.1
theorem dCls_look_29 : decode cCls_look 29 = .ok (.iconst 4, 1) := zfCls_look_0.2.2.2.2.2.2.2.2.2.2.2.2.2.2.2.2.2.1
theorem dCls_look_30 : decode cCls_look 30 = .ok (.if_icmp .ne 10, 3) := zfCls_look_0.2.2.2.2.2.2.2.2.2.2.2.2.2.2.2.2.2.2.1
theorem dCls_look_33 : decode cCls_look 33 = .ok (.aload_n 0, 1) := zfCls_look_0.2.2.2.2.2.2.2.2.2.2.2.2.2.2.2.2.2.2.2.1
theorem dCls_look_34 : decode cCls_look 34 = .ok (.invokevirtual 54, 3) := zfCls_look_0.2.2.2.2.2.2.2.2.2.2.2.2.2.2.2.2.2.2.2.2.1
theorem dCls_look_37 : decode cCls_look 37 = .ok (.goto 6, 3) := zfCls_look_0.2.2.2.2.2.2.2.2.2.2.2.2.2.2.2.2.2.2.2.2.2.1
theorem dCls_look_40 : decode cCls_look 40 = .ok (.sipush 10000, 3) := zfCls_look_0.2.2.2.2.2.2.2.2.2.2.2.2.2.2.2.2.2.2.2.2.2.2.1
theorem dCls_look_43 : decode cCls_look 43 = .ok (.ireturn, 1) := zfCls_look_0.2.2.2.2.2.2.2.2.2.2.2.2.2.2.2.2.2.2.2.2.2.2.2.1
theorem dCls_look_44 : decode cCls_look 44 = .ok (.aload_n 3, 1) := zfCls_look_0.2.2.2.2.2.2.2.2.2.2.2.2.2.2.2.2.2.2.2.2.2.2.2.2.1
theorem dCls_look_45 : decode cCls_look 45 = .ok (.aload_n 3, 1) := zfCls_look_0.2.2.2.2.2.2.2.2.2.2.2.2.2.2.2.2.2.2.2.2.2.2.2.2.2.1
theorem dCls_look_46 : decode cCls_look 46 = .ok (.iload_n 2, 1) := zfCls_look_0.2.2.2.2.2.2.2.2.2.2.2.2.2.2.2.2.2.2.2.2.2.2.2.2.2.2.1
theorem dCls_look_47 : decode cCls_look 47 = .ok (.invokestatic 62, 3) := zfCls_look_0.2.2.2.2.2.2.2.2.2.2.2.2.2.2.2.2.2.2.2.2.2.2.2.2.2.2.2.1
theorem dCls_look_50 : decode cCls_look 50 = .ok (.invokevirtual 70, 3) := zfCls_look_0.2.2.2.2.2.2.2.2.2.2.2.2.2.2.2.2.2.2.2.2.2.2.2.2.2.2.2.2.1
theorem dCls_look_53 : decode cCls_look 53 = .ok (.ireturn, 1) := zfCls_look_0.2.2.2.2.2.2.2.2.2.2.2.2.2.2.2.2.2.2.2.2.2.2.2.2.2.2.2.2.2.1
theorem zfCls_get_0 : decode cCls_get 0 = .ok (.aload_n 0, 1) ∧ decode cCls_get 1 = .ok (.iload_n 1, 1) ∧ decode cCls_get 2 = .ok (.invokevirtual 34, 3) ∧ decode cCls_get 5 = .ok (.astore_n 3, 1) ∧ decode cCls_get 6 = .ok (.aload_n 3, 1) ∧ decode cCls_get 7 = .ok (.iload_n 2, 1) ∧ decode cCls_get 8 = .ok (.invokestatic 74, 3) ∧ decode cCls_get 11 = .ok (.aload_n 3, 1) ∧ decode cCls_get 12 = .ok (.iload_n 2, 1) ∧ decode cCls_get 13 = .ok (.invokevirtual 70, 3) ∧ decode cCls_get 16 = .ok (.ireturn, 1) ∧ True := Jvm.Free.DS.facts (code := cCls_get) 0 [(.aload_n 0, 1), (.iload_n 1, 1), (.invokevirtual 34, 3), (.astore_n 3, 1), (.aload_n 3, 1), (.iload_n 2, 1), (.invokestatic 74, 3), (.aload_n 3, 1), (.iload_n 2, 1), (.invokevirtual 70, 3), (.ireturn, 1)] (by decide +kernel) (by decide +kernel)
theorem dCls_get_0 : decode cCls_get 0 = .ok (.aload_n 0, 1) := zfCls_get_0.1
theorem dCls_get_1 : decode cCls_get 1 = .ok (.iload_n 1, 1) := zfCls_get_0.2.1
theorem dCls_get_2 : decode cCls_get 2 = .ok (.invokevirtual 34, 3) := zfCls_get_0.2.2.1
theorem dCls_get_5 : decode cCls_get 5 = .ok (.astore_n 3, 1) := zfCls_get_0.2.2.2.1
theorem dCls_get_6 : decode cCls_get 6 = .ok (.aload_n 3, 1) := zfCls_get_0.2.2.2.2.1
theorem dCls_get_7 : decode cCls_get 7 = .ok (.iload_n 2, 1) := zfCls_get_0.2.2.2.2.2.1
theorem dCls_get_8 : decode cCls_get 8 = .ok (.invokestatic 74, 3) := zfCls_get_0.2.2.2.2.2.2.1
theorem dCls_get_11 : decode cCls_get 11 = .ok (.aload_n 3, 1) := zfCls_get_0.2.2.2.2.2.2.2.1
theorem dCls_get_12 : decode cCls_get 12 = .ok (.iload_n 2, 1) := zfCls_get_0.2.2.2.2.2.2.2.2.1
theorem dCls_get_13 : decode cCls_get 13 = .ok (.invokevirtual 70, 3) := zfCls_get_0.2.2.2.2.2.2.2.2.2.1
theorem dCls_get_16 : decode cCls_get 16 = .ok (.ireturn, 1) := zfCls_get_0.2.2.2.2.2.2.2.2.2.2.1
theorem zfCls_set_0 : decode cCls_set 0 = .ok (.aload_n 0, 1) ∧ decode cCls_set 1 = .ok (.iload_n 1, 1) ∧ decode cCls_set 2 = .ok (.invokevirtual 34, 3) ∧ decode cCls_set 5 = .ok (.astore 4, 2) ∧ decode cCls_set 7 = .ok (.aload 4, 2) ∧ decode cCls_set 9 = .ok (.iload_n 2, 1) ∧ decode cCls_set 10 = .ok (.invokestatic 74, 3) ∧ decode cCls_set 13 = .ok (.iload_n 3, 1) ∧ decode cCls_set 14 = .ok (.invokestatic 42, 3) ∧ decode cCls_set 17 = .ok (.aload 4, 2) ∧ decode cCls_set 19 = .ok (.iload_n 2, 1) ∧ decode cCls_set 20 = .ok (.invokevirtual 70, 3) ∧ decode cCls_set 23 = .ok (.istore 5, 2) ∧ decode cCls_set 25 = .ok (.aload 4, 2) ∧ decode cCls_set 27 = .ok (.iload_n 2, 1) ∧ decode cCls_set 28 = .ok (.iload_n 3, 1) ∧ decode cCls_set 29 = .ok (.invokevirtual 78, 3) ∧ decode cCls_set 32 = .ok (.iload 5, 2) ∧ decode cCls_set 34 = .ok (.ireturn, 1) ∧ True := Jvm.Free.DS.facts (code := cCls_set) 0 [(.aload_n 0, 1), (.iload_n 1, 1), (.invokevirtual 34, 3), (.astore 4, 2), (.aload 4, 2), (.iload_n 2, 1), (.invokestatic 74, 3), (.iload_n 3, 1), (.invokestatic 42, 3), (.aload 4, 2), (.iload_n 2, 1), (.invokevirtual 70, 3), (.istore 5, 2), (.aload 4, 2), (.iload_n 2, 1), (.iload_n 3, 1), (.invokevirtual 78, 3), (.iload 5, 2), (.ireturn, 1)] (by decide +kernel) (by decide +kernel)
theorem dCls_set_0 : decode cCls_set 0 = .ok (.aload_n 0, 1) := zfCls_set_0.1
theorem dCls_set_1 : decode cCls_set 1 = .ok (.iload_n 1, 1) := zfCls_set_0.2.1
theorem dCls_set_2 : decode cCls_set 2 = .ok (.invokevirtual 34, 3) := zfCls_set_0.2.2.1
theorem dCls_set_5 : decode cCls_set 5 = .ok (.astore 4, 2) := zfCls_set_0.2.2.2.1
theorem dCls_set_7 : decode cCls_set 7 = .ok (.aload 4, 2) := zfCls_set_0.2.2.2.2.1
theorem dCls_set_9 : decode cCls_set 9 = .ok (.iload_n 2, 1) := zfCls_set_0.2.2.2.2.2.1
theorem dCls_set_10 : decode cCls_set 10 = .ok (.invokestatic 74, 3) := zfCls_set_0.2.2.2.2.2.2.1
theorem dCls_set_13 : decode cCls_set 13 = .ok (.iload_n 3, 1) := zfCls_set_0.2.2.2.2.2.2.2.1
theorem dCls_set_14 : decode cCls_set 14 = .ok (.invokestatic 42, 3) := zfCls_set_0.2.2.2.2.2.2.2.2.1
theorem dCls_set_17 : decode cCls_set 17 = .ok (.aload 4, 2) := zfCls_set_0.2.2.2.2.2.2.2.2.2.1
theorem dCls_set_19 : decode cCls_set 19 = .ok (.iload_n 2, 1) := zfCls_set_0.2.2.2.2.2.2.2.2.2.2.1
theorem dCls_set_20 : decode cCls_set 20 = .ok (.invokevirtual 70, 3) := zfCls_set_0.2.2.2.2.2.2.2.2.2.2.2.1
theorem dCls_set_23 : decode cCls_set 23 = .ok (.istore 5, 2) := zfCls_set_0.2.2.2.2.2.2.2.2.2.2.2.2.1
theorem dCls_set_25 : decode cCls_set 25 = .ok (.aload 4, 2) := zfCls_set_0.2.2.2.2.2.2.2.2.2.2.2.2.2.1
theorem dCls_set_27 : decode cCls_set 27 = .ok (.iload_n 2, 1) := zfCls_set_0.2.2.2.2.2.2.2.2.2.2.2.2.2.2.1
theorem dCls_set_28 : decode cCls_set 28 = .ok (.iload_n 3, 1) := zfCls_set_0.2.2.2.2.2.2.2.2.2.2.2.2.2.2.2.1
theorem dCls_set_29 : decode cCls_set 29 = .ok (.invokevirtual 78, 3) := zfCls_set_0.2.2.2.2.2.2.2.2.2.2.2.2.2.2.2.2.1
theorem dCls_set_32 : decode cCls_set 32 = .ok (.iload 5, 2) := zfCls_set_0.2.2.2.2.2.2.2.2.2.2.2.2.2.2.2.2.2.1
theorem dCls_set_34 : decode cCls_set 34 = .ok (.ireturn, 1) := zfCls_set_0.2.2.2.2.2.2.2.2.2.2.2.2.2.2.2.2.2.2.1
theorem zfCls_insert_0 : decode cCls_insert 0 = .ok (.aload_n 0, 1) ∧ decode cCls_insert 1 = .ok (.iload_n 1, 1) ∧ decode cCls_insert 2 = .ok (.invokevirtual 34, 3) ∧ decode cCls_insert 5 = .ok (.iload_n 2, 1) ∧ decode cCls_insert 6 = .ok (.invokestatic 81, 3) ∧ decode cCls_insert 9 = .ok (.iload_n 3, 1) ∧ decode cCls_insert 10 = .ok (.invokestatic 42, 3) ∧ decode cCls_insert 13 = .ok (.aload_n 0, 1) ∧ decode cCls_insert 14 = .ok (.iload_n 1, 1) ∧ decode cCls_insert 15 = .ok (.iload_n 2, 1) ∧ decode cCls_insert 16 = .ok (.iload_n 3, 1) ∧ decode cCls_insert 17 = .ok (.invokevirtual 50, 3) ∧ decode cCls_insert 20 = .ok (.ireturn, 1) ∧ True := Jvm.Free.DS.facts (code := cCls_insert) 0 [(.aload_n 0, 1), (.iload_n 1, 1), (.invokevirtual 34, 3), (.iload_n 2, 1), (.invokestatic 81, 3), (.iload_n 3, 1), (.invokestatic 42, 3), (.aload_n 0, 1), (.iload_n 1, 1), (.iload_n 2, 1), (.iload_n 3, 1), (.invokevirtual 50, 3), (.ireturn, 1)] (by decide +kernel) (by decide +kernel)
theorem dCls_insert_0 : decode cCls_insert 0 = .ok (.aload_n 0, 1) := zfCls_insert_0.1
theorem dCls_insert_1 : decode cCls_insert 1 = .ok (.iload_n 1, 1) := zfCls_insert_0.2.1
theorem dCls_insert_2 : decode cCls_insert 2 = .ok (.invokevirtual 34, 3) := zfCls_insert_0.2.2.1
theorem dCls_insert_5 : decode cCls_insert 5 = .ok (.iload_n 2, 1) := zfCls_insert_0.2.2.2.1
theorem dCls_insert_6 : decode cCls_insert 6 = .ok (.invokestatic 81, 3) := zfCls_insert_0.2.2.2.2.1
theorem dCls_insert_9 : decode cCls_insert 9 = .ok (.iload_n 3, 1) := zfCls_insert_0.2.2.2.2.2.1
theorem dCls_insert_10 : decode cCls_insert 10 = .ok (.invokestatic 42, 3) := zfCls_insert_0.2.2.2.2.2.2.1
theorem dCls_insert_13 : decode cCls_insert 13 = .ok (.aload_n 0, 1) := zfCls_insert_0.2.2.2.2.2.2.2.1
theorem dCls_insert_14 : decode cCls_insert 14 = .ok (.iload_n 1, 1) := zfCls_insert_0.2.2.2.2.2.2.2.2.1
theorem dCls_insert_15 : decode cCls_insert 15 = .ok (.iload_n 2, 1) := zfCls_insert_0.2.2.2.2.2.2.2.2.2.1
theorem dCls_insert_16 : decode cCls_insert 16 = .ok (.iload_n 3, 1) := zfCls_insert_0.2.2.2.2.2.2.2.2.2.2.1
theorem dCls_insert_17 : decode cCls_insert 17 = .ok (.invokevirtual 50, 3) := zfCls_insert_0.2.2.2.2.2.2.2.2.2.2.2.1
theorem dCls_insert_20 : decode cCls_insert 20 = .ok (.ireturn, 1) := zfCls_insert_0.2.2.2.2.2.2.2.2.2.2.2.2.1
theorem zfCls_removeAt_0 : decode cCls_removeAt 0 = .ok (.aload_n 0, 1) ∧ decode cCls_removeAt 1 = .ok (.iload_n 1, 1) ∧ decode cCls_removeAt 2 = .ok (.invokevirtual 34, 3) ∧ decode cCls_removeAt 5 = .ok (.iload_n 2, 1) ∧ decode cCls_removeAt 6 = .ok (.invokestatic 74, 3) ∧ decode cCls_removeAt 9 = .ok (.aload_n 0, 1) ∧ decode cCls_removeAt 10 = .ok (.iload_n 1, 1) ∧ decode cCls_removeAt 11 = .ok (.iload_n 2, 1) ∧ decode cCls_removeAt 12 = .ok (.invokevirtual 66, 3) ∧ decode cCls_removeAt 15 = .ok (.ireturn, 1) ∧ True := Jvm.Free.DS.facts (code := cCls_removeAt) 0 [(.aload_n 0, 1), (.iload_n 1, 1), (.invokevirtual 34, 3), (.iload_n 2, 1), (.invokestatic 74, 3), (.aload_n 0, 1), (.iload_n 1, 1), (.iload_n 2, 1), (.invokevirtual 66, 3), (.ireturn, 1)] (by decide +kernel) (by decide +kernel)
theorem dCls_removeAt_0 : decode cCls_removeAt 0 = .ok (.aload_n 0, 1) := zfCls_removeAt_0.1
theorem dCls_removeAt_1 : decode cCls_removeAt 1 = .ok (.iload_n 1, 1) := zfCls_removeAt_0.2.1
theorem dCls_removeAt_2 : decode cCls_removeAt 2 = .ok (.invokevirtual 34, 3) := zfCls_removeAt_0.2.2.1
theorem dCls_removeAt_5 : decode cCls_removeAt 5 = .ok (.iload_n 2, 1) := zfCls_removeAt_0.2.2.2.1
theorem dCls_removeAt_6 : decode cCls_removeAt 6 = .ok (.invokestatic 74, 3) := zfCls_removeAt_0.2.2.2.2.1
theorem dCls_removeAt_9 : decode cCls_removeAt 9 = .ok (.aload_n 0, 1) := zfCls_removeAt_0.2.2.2.2.2.1
theorem dCls_removeAt_10 : decode cCls_removeAt 10 = .ok (.iload_n 1, 1) := zfCls_removeAt_0.2.2.2.2.2.2.1
theorem dCls_removeAt_11 : decode cCls_removeAt 11 = .ok (.iload_n 2, 1) := zfCls_removeAt_0.2.2.2.2.2.2.2.1
theorem dCls_removeAt_12 : decode cCls_removeAt 12 = .ok (.invokevirtual 66, 3) := zfCls_removeAt_0.2.2.2.2.2.2.2.2.1
theorem dCls_removeAt_15 : decode cCls_removeAt 15 = .ok (.ireturn, 1) := zfCls_removeAt_0.2.2.2.2.2.2.2.2.2.1
theorem zfCls_drop_0 : decode cCls_drop 0 = .ok (.aload_n 0, 1) ∧ decode cCls_drop 1 = .ok (.iload_n 1, 1) ∧ decode cCls_drop 2 = .ok (.invokevirtual 34, 3) ∧ decode cCls_drop 5 = .ok (.astore 4, 2) ∧ decode cCls_drop 7 = .ok (.aload 4, 2) ∧ decode cCls_drop 9 = .ok (.iload_n 2, 1) ∧ decode cCls_drop 10 = .ok (.iload_n 3, 1) ∧ decode cCls_drop 11 = .ok (.invokevirtual 84, 3) ∧ decode cCls_drop 14 = .ok (.istore 5, 2) ∧ decode cCls_drop 16 = .ok (.aload 4, 2) ∧ decode cCls_drop 18 = .ok (.iload 5, 2) ∧ decode cCls_drop 20 = .ok (.invokevirtual 88, 3) ∧ decode cCls_drop 23 = .ok (.pop, 1) ∧ decode cCls_drop 24 = .ok (.aload_n 0, 1) ∧ decode cCls_drop 25 = .ok (.iload_n 1, 1) ∧ decode cCls_drop 26 = .ok (.iconst (-1), 1) ∧ decode cCls_drop 27 = .ok (.invokevirtual 58, 3) ∧ decode cCls_drop 30 = .ok (.iload 5, 2) ∧ decode cCls_drop 32 = .ok (.iconst (-1), 1) ∧ decode cCls_drop 33 = .ok (.if_icmp .eq 7, 3) ∧ decode cCls_drop 36 = .ok (.iconst 1, 1) ∧ decode cCls_drop 37 = .ok (.goto 4, 3) ∧ decode cCls_drop 40 = .ok (.iconst 0, 1) ∧ decode cCls_drop 41 = .ok (.ireturn, 1) ∧ True := Jvm.Free.DS.facts (code := cCls_drop) 0 [(.aload_n 0, 1), (.iload_n 1, 1), (.invokevirtual 34, 3), (.astore 4, 2), (.aload 4, 2), (.iload_n 2, 1), (.iload_n 3, 1), (.invokevirtual 84, 3), (.istore 5, 2), (.aload 4, 2), (.iload 5, 2), (.invokevirtual 88, 3), (.pop, 1), (.aload_n 0, 1), (.iload_n 1, 1), (.iconst (-1), 1), (.invokevirtual 58, 3), (.iload 5, 2), (.iconst (-1), 1), (.if_icmp .eq 7, 3), (.iconst 1, 1), (.goto 4, 3), (.iconst 0, 1), (.ireturn, 1)] (by decide +kernel) (by decide +kernel)
theorem dCls_drop_0 : decode cCls_drop 0 = .ok (.aload_n 0, 1) := zfCls_drop_0.1
theorem dCls_drop_1 : decode cCls_drop 1 = .ok (.iload_n 1, 1) := zfCls_drop_0.2.1
theorem dCls_drop_2 : decode cCls_drop 2 = .ok (.invokevirtual 34, 3) := zfCls_drop_0.2.2.1
theorem dCls_drop_5 : decode cCls_drop 5 = .ok (.astore 4, 2) := zfCls_drop_0.2.2.2.1
theorem dCls_drop_7 : decode cCls_drop 7 = .ok (.aload 4, 2) := zfCls_drop_0.2.2.2.2.1
theorem dCls_drop_9 : decode cCls_drop 9 = .ok (.iload_n 2, 1) := zfCls_drop_0.2.2.2.2.2.1
theorem dCls_drop_10 : decode cCls_drop 10 = .ok (.iload_n 3, 1) := zfCls_drop_0.2.2.2.2.2.2.1
theorem dCls_drop_11 : decode cCls_drop 11 = .ok (.invokevirtual 84, 3) := zfCls_drop_0.2.2.2.2.2.2.2.1
theorem dCls_drop_14 : decode cCls_drop 14 = .ok (.istore 5, 2) := zfCls_drop_0.2.2.2.2.2.2.2.2.1
theorem dCls_drop_16 : decode cCls_drop 16 = .ok (.aload 4, 2) := zfCls_drop_0.2.2.2.2.2.2.2.2.2.1
theorem dCls_drop_18 : decode cCls_drop 18 = .ok (.iload 5, 2) := zfCls_drop_0.2.2.2.2.2.2.2.2.2.2.1
theorem dCls_drop_20 : decode cCls_drop 20 = .ok (.invokevirtual 88, 3) := zfCls_drop_0.2.2.2.2.2.2.2.2.2.2.2.1
theorem dCls_drop_23 : decode cCls_drop 23 = .ok (.pop, 1) := zfCls_drop_0.2.2.2.2.2.2.2.2.2.2.2.2.1
theorem dCls_drop_24 : decode cCls_drop 24 = .ok (.aload_n 0, 1) := zfCls_drop_0.2.2.2.2.2.2.2.2.2.2.2.2.2.1
theorem dCls_drop_25 : decode cCls_drop 25 = .ok (.iload_n 1, 1) := zfCls_drop_0.2.2.2.2.2.2.2.2.2.2.2.2.2.2.1
theorem dCls_drop_26 : decode cCls_drop 26 = .ok (.iconst (-1), 1) := zfCls_drop_0.2.2.2.2.2.2.2.2.2.2.2.2.2.2.2.1
theorem dCls_drop_27 : decode cCls_drop 27 = .ok (.invokevirtual 58, 3) := zfCls_drop_0.2.2.2.2.2.2.2.2.2.2.2.2.2.2.2.2.1
theorem dCls_drop_30 : decode cCls_drop 30 = .ok (.iload 5, 2) := zfCls_drop_0.2.2.2.2.2.2.2.2.2.2.2.2.2.2.2.2.2.1
theorem dCls_drop_32 : decode cCls_drop 32 = .ok (.iconst (-1), 1) := zfCls_drop_0.2.2.2.2.2.2.2.2.2.2.2.2.2.2.2.2.2.2.1
theorem dCls_drop_33 : decode cCls_drop 33 = .ok (.if_icmp .eq 7, 3) := zfCls_drop_0.2.2.2.2.2.2.2.2.2.2.2.2.2.2.2.2.2.2.2.1
theorem dCls_drop_36 : decode cCls_drop 36 = .ok (.iconst 1, 1) := zfCls_drop_0.2.2.2.2.2.2.2.2.2.2.2.2.2.2.2.2.2.2.2.2.1
theorem dCls_drop_37 : decode cCls_drop 37 = .ok (.goto 4, 3) := zfCls_drop_0.2.2.2.2.2.2.2.2.2.2.2.2.2.2.2.2.2.2.2.2.2.1
theorem dCls_drop_40 : decode cCls_drop 40 = .ok (.iconst 0, 1) := zfCls_drop_0.2.2.2.2.2.2.2.2.2.2.2.2.2.2.2.2.2.2.2.2.2.2.1
theorem dCls_drop_41 : decode cCls_drop 41 = .ok (.ireturn, 1) := zfCls_drop_0.2.2.2.2.2.2.2.2.2.2.2.2.2.2.2.2.2.2.2.2.2.2.2.1
theorem zfCls_thin_0 : decode cCls_thin 0 = .ok (.aload_n 0, 1) ∧ decode cCls_thin 1 = .ok (.iload_n 1, 1) ∧ decode cCls_thin 2 = .ok (.invokevirtual 34, 3) ∧ decode cCls_thin 5 = .ok (.iload_n 2, 1) ∧ decode cCls_thin 6 = .ok (.invokevirtual 91, 3) ∧ decode cCls_thin 9 = .ok (.istore_n 3, 1) ∧ decode cCls_thin 10 = .ok (.aload_n 0, 1) ∧ decode cCls_thin 11 = .ok (.iload_n 1, 1) ∧ decode cCls_thin 12 = .ok (.iconst (-1), 1) ∧ decode cCls_thin 13 = .ok (.invokevirtual 58, 3) ∧ decode cCls_thin 16 = .ok (.iload_n 3, 1) ∧ decode cCls_thin 17 = .ok (.ireturn, 1) ∧ True := Jvm.Free.DS.facts (code := cCls_thin) 0 [(.aload_n 0, 1), (.iload_n 1, 1), (.invokevirtual 34, 3), (.iload_n 2, 1), (.invokevirtual 91, 3), (.istore_n 3, 1), (.aload_n 0, 1), (.iload_n 1, 1), (.iconst (-1), 1), (.invokevirtual 58, 3), (.iload_n 3, 1), (.ireturn, 1)] (by decide +kernel) (by decide +kernel)
theorem dCls_thin_0 : decode cCls_thin 0 = .ok (.aload_n 0, 1) := zfCls_thin_0.1
theorem dCls_thin_1 : decode cCls_thin 1 = .ok (.iload_n 1, 1) := zfCls_thin_0.2.1
theorem dCls_thin_2 : decode cCls_thin 2 = .ok (.invokevirtual 34, 3) := zfCls_thin_0.2.2.1
theorem dCls_thin_5 : decode cCls_thin 5 = .ok (.iload_n 2, 1) := zfCls_thin_0.2.2.2.1
theorem dCls_thin_6 : decode cCls_thin 6 = .ok (.invokevirtual 91, 3) := zfCls_thin_0.2.2.2.2.1
theorem dCls_thin_9 : decode cCls_thin 9 = .ok (.istore_n 3, 1) := zfCls_thin_0.2.2.2.2.2.1
theorem dCls_thin_10 : decode cCls_thin 10 = .ok (.aload_n 0, 1) := zfCls_thin_0.2.2.2.2.2.2.1
theorem dCls_thin_11 : decode cCls_thin 11 = .ok (.iload_n 1, 1) := zfCls_thin_0.2.2.2.2.2.2.2.1
theorem dCls_thin_12 : decode cCls_thin 12 = .ok (.iconst (-1), 1) := zfCls_thin_0.2.2.2.2.2.2.2.2.1
theorem dCls_thin_13 : decode cCls_thin 13 = .ok (.invokevirtual 58, 3) := zfCls_thin_0.2.2.2.2.2.2.2.2.2.1
theorem dCls_thin_16 : decode cCls_thin 16 = .ok (.iload_n 3, 1) := zfCls_thin_0.2.2.2.2.2.2.2.2.2.2.1
theorem dCls_thin_17 : decode cCls_thin 17 = .ok (.ireturn, 1) := zfCls_thin_0.2.2.2.2.2.2.2.2.2.2.2.1
theorem zfCls_indexOf_0 : decode cCls_indexOf 0 = .ok (.aload_n 0, 1) ∧ decode cCls_indexOf 1 = .ok (.iload_n 1, 1) ∧ decode cCls_indexOf 2 = .ok (.invokevirtual 34, 3) ∧ decode cCls_indexOf 5 = .ok (.iload_n 2, 1) ∧ decode cCls_indexOf 6 = .ok (.iload_n 3, 1) ∧ decode cCls_indexOf 7 = .ok (.invokevirtual 84, 3) ∧ decode cCls_indexOf 10 = .ok (.ireturn, 1) ∧ True := Jvm.Free.DS.facts (code := cCls_indexOf) 0 [(.aload_n 0, 1), (.iload_n 1, 1), (.invokevirtual 34, 3), (.iload_n 2, 1), (.iload_n 3, 1), (.invokevirtual 84, 3), (.ireturn, 1)] (by decide +kernel) (by decide +kernel)
theorem dCls_indexOf_0 : decode cCls_indexOf 0 = .ok (.aload_n 0, 1) := zfCls_indexOf_0.1
theorem dCls_indexOf_1 : decode cCls_indexOf 1 = .ok (.iload_n 1, 1) := zfCls_indexOf_0.2.1
theorem dCls_indexOf_2 : decode cCls_indexOf 2 = .ok (.invokevirtual 34, 3) := zfCls_indexOf_0.2.2.1
theorem dCls_indexOf_5 : decode cCls_indexOf 5 = .ok (.iload_n 2, 1) := zfCls_indexOf_0.2.2.2.1
theorem dCls_indexOf_6 : decode cCls_indexOf 6 = .ok (.iload_n 3, 1) := zfCls_indexOf_0.2.2.2.2.1
theorem dCls_indexOf_7 : decode cCls_indexOf 7 = .ok (.invokevirtual 84, 3) := zfCls_indexOf_0.2.2.2.2.2.1
theorem dCls_indexOf_10 : decode cCls_indexOf 10 = .ok (.ireturn, 1) := zfCls_indexOf_0.2.2.2.2.2.2.1
theorem zfCls_has_0 : decode cCls_has 0 = .ok (.aload_n 0, 1) ∧ decode cCls_has 1 = .ok (.iload_n 1, 1) ∧ decode cCls_has 2 = .ok (.invokevirtual 34, 3) ∧ decode cCls_has 5 = .ok (.iload_n 2, 1) ∧ decode cCls_has 6 = .ok (.iconst 0, 1) ∧ decode cCls_has 7 = .ok (.invokevirtual 84, 3) ∧ decode cCls_has 10 = .ok (.iconst (-1), 1) ∧ decode cCls_has 11 = .ok (.if_icmp .eq 7, 3) ∧ decode cCls_has 14 = .ok (.iconst 1, 1) ∧ decode cCls_has 15 = .ok (.goto 4, 3) ∧ decode cCls_has 18 = .ok (.iconst 0, 1) ∧ decode cCls_has 19 = .ok (.ireturn, 1) ∧ True := Jvm.Free.DS.facts (code := cCls_has) 0 [(.aload_n 0, 1), (.iload_n 1, 1), (.invokevirtual 34, 3), (.iload_n 2, 1), (.iconst 0, 1), (.invokevirtual 84, 3), (.iconst (-1), 1), (.if_icmp .eq 7, 3), (.iconst 1, 1), (.goto 4, 3), (.iconst 0, 1), (.ireturn, 1)] (by decide +kernel) (by decide +kernel)
theorem dCls_has_0 : decode cCls_has 0 = .ok (.aload_n 0, 1) := zfCls_has_0.1
theorem dCls_has_1 : decode cCls_has 1 = .ok (.iload_n 1, 1) := zfCls_has_0.2.1
theorem dCls_has_2 : decode cCls_has 2 = .ok (.invokevirtual 34, 3) := zfCls_has_0.2.2.1
theorem dCls_has_5 : decode cCls_has 5 = .ok (.iload_n 2, 1) := zfCls_has_0.2.2.2.1
theorem dCls_has_6 : decode cCls_has 6 = .ok (.iconst 0, 1) := zfCls_has_0.2.2.2.2.1
theorem dCls_has_7 : decode cCls_has 7 = .ok (.invokevirtual 84, 3) := zfCls_has_0.2.2.2.2.2.1
theorem dCls_has_10 : decode cCls_has 10 = .ok (.iconst (-1), 1) := zfCls_has_0.2.2.2.2.2.2.1
theorem dCls_has_11 : decode cCls_has 11 = .ok (.if_icmp .eq 7, 3) := zfCls_has_0.2.2.2.2.2.2.2.1
theorem dCls_has_14 : decode cCls_has 14 = .ok (.iconst 1, 1) := zfCls_has_0.2.2.2.2.2.2.2.2.1
theorem dCls_has_15 : decode cCls_has 15 = .ok (.goto 4, 3) := zfCls_has_0.2.2.2.2.2.2.2.2.2.1
theorem dCls_has_18 : decode cCls_has 18 = .ok (.iconst 0, 1) := zfCls_has_0.2.2.2.2.2.2.2.2.2.2.1
theorem dCls_has_19 : decode cCls_has 19 = .ok (.ireturn, 1) := zfCls_has_0.2.2.2.2.2.2.2.2.2.2.2.1
theorem zfCls_size_0 : decode cCls_size 0 = .ok (.aload_n 0, 1) ∧ decode cCls_size 1 = .ok (.iload_n 1, 1) ∧ decode cCls_size 2 = .ok (.invokevirtual 34, 3) ∧ decode cCls_size 5 = .ok (.getfield 46, 3) ∧ decode cCls_size 8 = .ok (.ireturn, 1) ∧ True := Jvm.Free.DS.facts (code := cCls_size) 0 [(.aload_n 0, 1), (.iload_n 1, 1), (.invokevirtual 34, 3), (.getfield 46, 3), (.ireturn, 1)] (by decide +kernel) (by decide +kernel)
theorem dCls_size_0 : decode cCls_size 0 = .ok (.aload_n 0, 1) := zfCls_size_0.1
theorem dCls_size_1 : decode cCls_size 1 = .ok (.iload_n 1, 1) := zfCls_size_0.2.1
theorem dCls_size_2 : decode cCls_size 2 = .ok (.invokevirtual 34, 3) := zfCls_size_0.2.2.1
theorem dCls_size_5 : decode cCls_size 5 = .ok (.getfield 46, 3) := zfCls_size_0.2.2.2.1
theorem dCls_size_8 : decode cCls_size 8 = .ok (.ireturn, 1) := zfCls_size_0.2.2.2.2.1
theorem zfCls_text_0 : decode cCls_text 0 = .ok (.aload_n 0, 1) ∧ decode cCls_text 1 = .ok (.iload_n 1, 1) ∧ decode cCls_text 2 = .ok (.invokevirtual 34, 3) ∧ decode cCls_text 5 = .ok (.iload_n 2, 1) ∧ decode cCls_text 6 = .ok (.invokevirtual 94, 3) ∧ decode cCls_text 9 = .ok (.areturn, 1) ∧ True := Jvm.Free.DS.facts (code := cCls_text) 0 [(.aload_n 0, 1), (.iload_n 1, 1), (.invokevirtual 34, 3), (.iload_n 2, 1), (.invokevirtual 94, 3), (.areturn, 1)] (by decide +kernel) (by decide +kernel)
theorem dCls_text_0 : decode cCls_text 0 = .ok (.aload_n 0, 1) := zfCls_text_0.1
theorem dCls_text_1 : decode cCls_text 1 = .ok (.iload_n 1, 1) := zfCls_text_0.2.1
theorem dCls_text_2 : decode cCls_text 2 = .ok (.invokevirtual 34, 3) := zfCls_text_0.2.2.1
theorem dCls_text_5 : decode cCls_text 5 = .ok (.iload_n 2, 1) := zfCls_text_0.2.2.2.1
theorem dCls_text_6 : decode cCls_text 6 = .ok (.invokevirtual 94, 3) := zfCls_text_0.2.2.2.2.1
theorem dCls_text_9 : decode cCls_text 9 = .ok (.areturn, 1) := zfCls_text_0.2.2.2.2.2.1
theorem zfCls_clear_0 : decode cCls_clear 0 = .ok (.aload_n 0, 1) ∧ decode cCls_clear 1 = .ok (.iload_n 1, 1) ∧ decode cCls_clear 2 = .ok (.invokevirtual 34, 3) ∧ decode cCls_clear 5 = .ok (.astore_n 2, 1) ∧ decode cCls_clear 6 = .ok (.aload_n 2, 1) ∧ decode cCls_clear 7 = .ok (.getfield 46, 3) ∧ decode cCls_clear 10 = .ok (.istore_n 3, 1) ∧ decode cCls_clear 11 = .ok (.aload_n 2, 1) ∧ decode cCls_clear 12 = .ok (.iconst 0, 1) ∧ decode cCls_clear 13 = .ok (.putfield 46, 3) ∧ decode cCls_clear 16 = .ok (.aload_n 0, 1) ∧ decode cCls_clear 17 = .ok (.iload_n 1, 1) ∧ decode cCls_clear 18 = .ok (.iconst (-1), 1) ∧ decode cCls_clear 19 = .ok (.invokevirtual 58, 3) ∧ decode cCls_clear 22 = .ok (.iload_n 3, 1) ∧ decode cCls_clear 23 = .ok (.ireturn, 1) ∧ True := Jvm.Free.DS.facts (code := cCls_clear) 0 [(.aload_n 0, 1), (.iload_n 1, 1), (.invokevirtual 34, 3), (.astore_n 2, 1), (.aload_n 2, 1), (.getfield 46, 3), (.istore_n 3, 1), (.aload_n 2, 1), (.iconst 0, 1), (.putfield 46, 3), (.aload_n 0, 1), (.iload_n 1, 1), (.iconst (-1), 1), (.invokevirtual 58, 3), (.iload_n 3, 1), (.ireturn, 1)] (by decide +kernel) (by decide +kernel)
theorem dCls_clear_0 : decode cCls_clear 0 = .ok (.aload_n 0, 1) := zfCls_clear_0.1
theorem dCls_clear_1 : decode cCls_clear 1 = .ok (.iload_n 1, 1) := zfCls_clear_0.2.1
theorem dCls_clear_2 : decode cCls_clear 2 = .ok (.invokevirtual 34, 3) := zfCls_clear_0.2.2.1
theorem dCls_clear_5 : decode cCls_clear 5 = .ok (.astore_n 2, 1) := zfCls_clear_0.2.2.2.1
theorem dCls_clear_6 : decode cCls_clear 6 = .ok (.aload_n 2, 1) := zfCls_clear_0.2.2.2.2.1
theorem dCls_clear_7 : decode cCls_clear 7 = .ok (.getfield 46, 3) := zfCls_clear_0.2.2.2.2.2.1
theorem dCls_clear_10 : decode cCls_clear 10 = .ok (.istore_n 3, 1) := zfCls_clear_0.2.2.2.2.2.2.1
theorem dCls_clear_11 : decode cCls_clear 11 = .ok (.aload_n 2, 1) := zfCls_clear_0.2.2.2.2.2.2.2.1
theorem dCls_clear_12 : decode cCls_clear 12 = .ok (.iconst 0, 1) := zfCls_clear_0.2.2.2.2.2.2.2.2.1
theorem dCls_clear_13 : decode cCls_clear 13 = .ok (.putfield 46, 3) := zfCls_clear_0.2.2.2.2.2.2.2.2.2.1
theorem dCls_clear_16 : decode cCls_clear 16 = .ok (.aload_n 0, 1) := zfCls_clear_0.2.2.2.2.2.2.2.2.2.2.1
theorem dCls_clear_17 : decode cCls_clear 17 = .ok (.iload_n 1, 1) := zfCls_clear_0.2.2.2.2.2.2.2.2.2.2.2.1
theorem dCls_clear_18 : decode cCls_clear 18 = .ok (.iconst (-1), 1) := zfCls_clear_0.2.2.2.2.2.2.2.2.2.2.2.2.1
theorem dCls_clear_19 : decode cCls_clear 19 = .ok (.invokevirtual 58, 3) := zfCls_clear_0.2.2.2.2.2.2.2.2.2.2.2.2.2.1
theorem dCls_clear_22 : decode cCls_clear 22 = .ok (.iload_n 3, 1) := zfCls_clear_0.2.2.2.2.2.2.2.2.2.2.2.2.2.2.1
theorem dCls_clear_23 : decode cCls_clear 23 = .ok (.ireturn, 1) := zfCls_clear_0.2.2.2.2.2.2.2.2.2.2.2.2.2.2.2.1
theorem zfCls_append_0 : decode cCls_append 0 = .ok (.aload_n 0, 1) ∧ decode cCls_append 1 = .ok (.iload_n 1, 1) ∧ decode cCls_append 2 = .ok (.invokevirtual 34, 3) ∧ decode cCls_append 5 = .ok (.astore_n 3, 1) ∧ decode cCls_append 6 = .ok (.aload_n 0, 1) ∧ decode cCls_append 7 = .ok (.iload_n 2, 1) ∧ decode cCls_append 8 = .ok (.invokevirtual 34, 3) ∧ decode cCls_append 11 = .ok (.astore 4, 2) ∧ decode cCls_append 13 = .ok (.aload_n 0, 1) ∧ decode cCls_append 14 = .ok (.iload_n 1, 1) ∧ decode cCls_append 15 = .ok (.aload_n 0, 1) ∧ decode cCls_append 16 = .ok (.getfield 29, 3) ∧ decode cCls_append 19 = .ok (.aload_n 3, 1) ∧ decode cCls_append 20 = .ok (.aload_n 3, 1) ∧ decode cCls_append 21 = .ok (.getfield 46, 3) ∧ decode cCls_append 24 = .ok (.aload 4, 2) ∧ decode cCls_append 26 = .ok (.invokevirtual 98, 3) ∧ decode cCls_append 29 = .ok (.invokevirtual 102, 3) ∧ decode cCls_append 32 = .ok (.ireturn, 1) ∧ True := Jvm.Free.DS.facts (code := cCls_append) 0 [(.aload_n 0, 1), (.iload_n 1, 1), (.invokevirtual 34, 3), (.astore_n 3, 1), (.aload_n 0, 1), (.iload_n 2, 1), (.invokevirtual 34, 3), (.astore 4, 2), (.aload_n 0, 1), (.iload_n 1, 1), (.aload_n 0, 1), (.getfield 29, 3), (.aload_n 3, 1), (.aload_n 3, 1), (.getfield 46, 3), (.aload 4, 2), (.invokevirtual 98, 3), (.invokevirtual 102, 3), (.ireturn, 1)] (by decide +kernel) (by decide +kernel)
theorem dCls_append_0 : decode cCls_append 0 = .ok (.aload_n 0, 1) := zfCls_append_0.1
theorem dCls_append_1 : decode cCls_append 1 = .ok (.iload_n 1, 1) := zfCls_append_0.2.1
theorem dCls_append_2 : decode cCls_append 2 = .ok (.invokevirtual 34, 3) := zfCls_append_0.2.2.1
theorem dCls_append_5 : decode cCls_append 5 = .ok (.astore_n 3, 1) := zfCls_append_0.2.2.2.1
theorem dCls_append_6 : decode cCls_append 6 = .ok (.aload_n 0, 1) := zfCls_append_0.2.2.2.2.1
theorem dCls_append_7 : decode cCls_append 7 = .ok (.iload_n 2, 1) := zfCls_append_0.2.2.2.2.2.1
theorem dCls_append_8 : decode cCls_append 8 = .ok (.invokevirtual 34, 3) := zfCls_append_0.2.2.2.2.2.2.1
theorem dCls_append_11 : decode cCls_append 11 = .ok (.astore 4, 2) := zfCls_append_0.2.2.2.2.2.2.2.1
theorem dCls_append_13 : decode cCls_append 13 = .ok (.aload_n 0, 1) := zfCls_append_0.2.2.2.2.2.2.2.2.1
theorem dCls_append_14 : decode cCls_append 14 = .ok (.iload_n 1, 1) := zfCls_append_0.2.2.2.2.2.2.2.2.2.1
theorem dCls_append_15 : decode cCls_append 15 = .ok (.aload_n 0, 1) := zfCls_append_0.2.2.2.2.2.2.2.2.2.2.1
theorem dCls_append_16 : decode cCls_append 16 = .ok (.getfield 29, 3) := zfCls_append_0.2.2.2.2.2.2.2.2.2.2.2.1
theorem dCls_append_19 : decode cCls_append 19 = .ok (.aload_n 3, 1) := zfCls_append_0.2.2.2.2.2.2.2.2.2.2.2.2.1
theorem dCls_append_20 : decode cCls_append 20 = .ok (.aload_n 3, 1) := zfCls_append_0.2.2.2.2.2.2.2.2.2.2.2.2.2.1
theorem dCls_append_21 : decode cCls_append 21 = .ok (.getfield 46, 3) := zfCls_append_0.2.2.2.2.2.2.2.2.2.2.2.2.2.2.1
theorem dCls_append_24 : decode cCls_append 24 = .ok (.aload 4, 2) := zfCls_append_0.2.2.2.2.2.2.2.2.2.2.2.2.2.2.2.1
theorem dCls_append_26 : decode cCls_append 26 = .ok (.invokevirtual 98, 3) := zfCls_append_0.2.2.2.2.2.2.2.2.2.2.2.2.2.2.2.2.1
theorem dCls_append_29 : decode cCls_append 29 = .ok (.invokevirtual 102, 3) := zfCls_append_0.2.2.2.2.2.2.2.2.2.2.2.2.2.2.2.2.2.1
theorem dCls_append_32 : decode cCls_append 32 = .ok (.ireturn, 1) := zfCls_append_0.2.2.2.2.2.2.2.2.2.2.2.2.2.2.2.2.2.2.1
theorem zfCls_appendAt_0 : decode cCls_appendAt 0 = .ok (.aload_n 0, 1) ∧ decode cCls_appendAt 1 = .ok (.iload_n 1, 1) ∧ decode cCls_appendAt 2 = .ok (.invokevirtual 34, 3) ∧ decode cCls_appendAt 5 = .ok (.astore 4, 2) ∧ decode cCls_appendAt 7 = .ok (.aload_n 0, 1) ∧ decode cCls_appendAt 8 = .ok (.iload_n 3, 1) ∧ decode cCls_appendAt 9 = .ok (.invokevirtual 34, 3) ∧ decode cCls_appendAt 12 = .ok (.astore 5, 2) ∧ decode cCls_appendAt 14 = .ok (.aload 4, 2) ∧ decode cCls_appendAt 16 = .ok (.iload_n 2, 1) ∧ decode cCls_appendAt 17 = .ok (.invokestatic 81, 3) ∧ decode cCls_appendAt 20 = .ok (.aload_n 0, 1) ∧ decode cCls_appendAt 21 = .ok (.iload_n 1, 1) ∧ decode cCls_appendAt 22 = .ok (.aload_n 0, 1) ∧ decode cCls_appendAt 23 = .ok (.getfield 29, 3) ∧ decode cCls_appendAt 26 = .ok (.aload 4, 2) ∧ decode cCls_appendAt 28 = .ok (.iload_n 2, 1) ∧ decode cCls_appendAt 29 = .ok (.aload 5, 2) ∧ decode cCls_appendAt 31 = .ok (.invokevirtual 98, 3) ∧ decode cCls_appendAt 34 = .ok (.invokevirtual 102, 3) ∧ decode cCls_appendAt 37 = .ok (.ireturn, 1) ∧ True := Jvm.Free.DS.facts (code := cCls_appendAt) 0 [(.aload_n 0, 1), (.iload_n 1, 1), (.invokevirtual 34, 3), (.astore 4, 2), (.aload_n 0, 1), (.iload_n 3, 1), (.invokevirtual 34, 3), (.astore 5, 2), (.aload 4, 2), (.iload_n 2, 1), (.invokestatic 81, 3), (.aload_n 0, 1), (.iload_n 1, 1), (.aload_n 0, 1), (.getfield 29, 3), (.aload 4, 2), (.iload_n 2, 1), (.aload 5, 2), (.invokevirtual 98, 3), (.invokevirtual 102, 3), (.ireturn, 1)] (by decide +kernel) (by decide +kernel)
theorem dCls_appendAt_0 : decode cCls_appendAt 0 = .ok (.aload_n 0, 1) := zfCls_appendAt_0.1
theorem dCls_appendAt_1 : decode cCls_appendAt 1 = .ok (.iload_n 1, 1) := zfCls_appendAt_0.2.1
theorem dCls_appendAt_2 : decode cCls_appendAt 2 = .ok (.invokevirtual 34, 3) := zfCls_appendAt_0.2.2.1
theorem dCls_appendAt_5 : decode cCls_appendAt 5 = .ok (.astore 4, 2) := zfCls_appendAt_0.2.2.2.1
theorem dCls_appendAt_7 : decode cCls_appendAt 7 = .ok (.aload_n 0, 1) := zfCls_appendAt_0.2.2.2.2.1
theorem dCls_appendAt_8 : decode cCls_appendAt 8 = .ok (.iload_n 3, 1) := zfCls_appendAt_0.2.2.2.2.2.1
theorem dCls_appendAt_9 : decode cCls_appendAt 9 = .ok (.invokevirtual 34, 3) := zfCls_appendAt_0.2.2.2.2.2.2.1
theorem dCls_appendAt_12 : decode cCls_appendAt 12 = .ok (.astore 5, 2) := zfCls_appendAt_0.2.2.2.2.2.2.2.1
theorem dCls_appendAt_14 : decode cCls_appendAt 14 = .ok (.aload 4, 2) := zfCls_appendAt_0.2.2.2.2.2.2.2.2.1
theorem dCls_appendAt_16 : decode cCls_appendAt 16 = .ok (.iload_n 2, 1) := zfCls_appendAt_0.2.2.2.2.2.2.2.2.2.1
theorem dCls_appendAt_17 : decode cCls_appendAt 17 = .ok (.invokestatic 81, 3) := zfCls_appendAt_0.2.2.2.2.2.2.2.2.2.2.1
theorem dCls_appendAt_20 : decode cCls_appendAt 20 = .ok (.aload_n 0, 1) := zfCls_appendAt_0.2.2.2.2.2.2.2.2.2.2.2.1
theorem dCls_appendAt_21 : decode cCls_appendAt 21 = .ok (.iload_n 1, 1) := zfCls_appendAt_0.2.2.2.2.2.2.2.2.2.2.2.2.1
theorem dCls_appendAt_22 : decode cCls_appendAt 22 = .ok (.aload_n 0, 1) := zfCls_appendAt_0.2.2.2.2.2.2.2.2.2.2.2.2.2.1
theorem dCls_appendAt_23 : decode cCls_appendAt 23 = .ok (.getfield 29, 3) := zfCls_appendAt_0.2.2.2.2.2.2.2.2.2.2.2.2.2.2.1
theorem dCls_appendAt_26 : decode cCls_appendAt 26 = .ok (.aload 4, 2) := zfCls_appendAt_0.2.2.2.2.2.2.2.2.2.2.2.2.2.2.2.1
theorem dCls_appendAt_28 : decode cCls_appendAt 28 = .ok (.iload_n 2, 1) := zfCls_appendAt_0.2.2.2.2.2.2.2.2.2.2.2.2.2.2.2.2.1
theorem dCls_appendAt_29 : decode cCls_appendAt 29 = .ok (.aload 5, 2) := zfCls_appendAt_0.2.2.2.2.2.2.2.2.2.2.2.2.2.2.2.2.2.1
theorem dCls_appendAt_31 : decode cCls_appendAt 31 = .ok (.invokevirtual 98, 3) := zfCls_appendAt_0.2.2.2.2.2.2.2.2.2.2.2.2.2.2.2.2.2.2.1
theorem dCls_appendAt_34 : decode cCls_appendAt 34 = .ok (.invokevirtual 102, 3) := zfCls_appendAt_0.2.2.2.2.2.2.2.2.2.2.2.2.2.2.2.2.2.2.2.1
theorem dCls_appendAt_37 : decode cCls_appendAt 37 = .ok (.ireturn, 1) := zfCls_appendAt_0.2.2.2.2.2.2.2.2.2.2.2.2.2.2.2.2.2.2.2.2.1
theorem zfCls_copy_0 : decode cCls_copy 0 = .ok (.aload_n 0, 1) ∧ decode cCls_copy 1 = .ok (.iload_n 1, 1) ∧ decode cCls_copy 2 = .ok (.invokevirtual 34, 3) ∧ decode cCls_copy 5 = .ok (.astore_n 3, 1) ∧ decode cCls_copy 6 = .ok (.aload_n 0, 1) ∧ decode cCls_copy 7 = .ok (.iload_n 2, 1) ∧ decode cCls_copy 8 = .ok (.invokevirtual 34, 3) ∧ decode cCls_copy 11 = .ok (.astore 4, 2) ∧ decode cCls_copy 13 = .ok (.aload 4, 2) ∧ decode cCls_copy 15 = .ok (.aload_n 3, 1) ∧ decode cCls_copy 16 = .ok (.invokevirtual 105, 3) ∧ decode cCls_copy 19 = .ok (.aload_n 0, 1) ∧ decode cCls_copy 20 = .ok (.iload_n 2, 1) ∧ decode cCls_copy 21 = .ok (.iconst (-1), 1) ∧ decode cCls_copy 22 = .ok (.invokevirtual 58, 3) ∧ decode cCls_copy 25 = .ok (.aload 4, 2) ∧ decode cCls_copy 27 = .ok (.getfield 46, 3) ∧ decode cCls_copy 30 = .ok (.ireturn, 1) ∧ True := Jvm.Free.DS.facts (code := cCls_copy) 0 [(.aload_n 0, 1), (.iload_n 1, 1), (.invokevirtual 34, 3), (.astore_n 3, 1), (.aload_n 0, 1), (.iload_n 2, 1), (.invokevirtual 34, 3), (.astore 4, 2), (.aload 4, 2), (.aload_n 3, 1), (.invokevirtual 105, 3), (.aload_n 0, 1), (.iload_n 2, 1), (.iconst (-1), 1), (.invokevirtual 58, 3), (.aload 4, 2), (.getfield 46, 3), (.ireturn, 1)] (by decide +kernel) (by decide +kernel)
theorem dCls_copy_0 : decode cCls_copy 0 = .ok (.aload_n 0, 1) := zfCls_copy_0.1
theorem dCls_copy_1 : decode cCls_copy 1 = .ok (.iload_n 1, 1) := zfCls_copy_0.2.1
theorem dCls_copy_2 : decode cCls_copy 2 = .ok (.invokevirtual 34, 3) := zfCls_copy_0.2.2.1
theorem dCls_copy_5 : decode cCls_copy 5 = .ok (.astore_n 3, 1) := zfCls_copy_0.2.2.2.1
theorem dCls_copy_6 : decode cCls_copy 6 = .ok (.aload_n 0, 1) := zfCls_copy_0.2.2.2.2.1
theorem dCls_copy_7 : decode cCls_copy 7 = .ok (.iload_n 2, 1) := zfCls_copy_0.2.2.2.2.2.1
theorem dCls_copy_8 : decode cCls_copy 8 = .ok (.invokevirtual 34, 3) := zfCls_copy_0.2.2.2.2.2.2.1
theorem dCls_copy_11 : decode cCls_copy 11 = .ok (.astore 4, 2) := zfCls_copy_0.2.2.2.2.2.2.2.1
theorem dCls_copy_13 : decode cCls_copy 13 = .ok (.aload 4, 2) := zfCls_copy_0.2.2.2.2.2.2.2.2.1
theorem dCls_copy_15 : decode cCls_copy 15 = .ok (.aload_n 3, 1) := zfCls_copy_0.2.2.2.2.2.2.2.2.2.1
theorem dCls_copy_16 : decode cCls_copy 16 = .ok (.invokevirtual 105, 3) := zfCls_copy_0.2.2.2.2.2.2.2.2.2.2.1
theorem dCls_copy_19 : decode cCls_copy 19 = .ok (.aload_n 0, 1) := zfCls_copy_0.2.2.2.2.2.2.2.2.2.2.2.1
theorem dCls_copy_20 : decode cCls_copy 20 = .ok (.iload_n 2, 1) := zfCls_copy_0.2.2.2.2.2.2.2.2.2.2.2.2.1
theorem dCls_copy_21 : decode cCls_copy 21 = .ok (.iconst (-1), 1) := zfCls_copy_0.2.2.2.2.2.2.2.2.2.2.2.2.2.1
theorem dCls_copy_22 : decode cCls_copy 22 = .ok (.invokevirtual 58, 3) := zfCls_copy_0.2.2.2.2.2.2.2.2.2.2.2.2.2.2.1
theorem dCls_copy_25 : decode cCls_copy 25 = .ok (.aload 4, 2) := zfCls_copy_0.2.2.2.2.2.2.2.2.2.2.2.2.2.2.2.1
theorem dCls_copy_27 : decode cCls_copy 27 = .ok (.getfield 46, 3) := zfCls_copy_0.2.2.2.2.2.2.2.2.2.2.2.2.2.2.2.2.1
theorem dCls_copy_30 : decode cCls_copy 30 = .ok (.ireturn, 1) := zfCls_copy_0.2.2.2.2.2.2.2.2.2.2.2.2.2.2.2.2.2.1
theorem zfCls_places_0 : decode cCls_places 0 = .ok (.aload_n 0, 1) ∧ decode cCls_places 1 = .ok (.iload_n 1, 1) ∧ decode cCls_places 2 = .ok (.invokevirtual 34, 3) ∧ decode cCls_places 5 = .ok (.astore_n 3, 1) ∧ decode cCls_places 6 = .ok (.iload_n 2, 1) ∧ decode cCls_places 7 = .ok (.iconst 0, 1) ∧ decode cCls_places 8 = .ok (.bipush 16, 2) ∧ decode cCls_places 10 = .ok (.invokestatic 38, 3) ∧ decode cCls_places 13 = .ok (.aload_n 3, 1) ∧ decode cCls_places 14 = .ok (.iload_n 2, 1) ∧ decode cCls_places 15 = .ok (.invokevirtual 109, 3) ∧ decode cCls_places 18 = .ok (.aload_n 0, 1) ∧ decode cCls_places 19 = .ok (.iload_n 1, 1) ∧ decode cCls_places 20 = .ok (.iconst (-1), 1) ∧ decode cCls_places 21 = .ok (.invokevirtual 58, 3) ∧ decode cCls_places 24 = .ok (.aload_n 3, 1) ∧ decode cCls_places 25 = .ok (.getfield 46, 3) ∧ decode cCls_places 28 = .ok (.ireturn, 1) ∧ True := Jvm.Free.DS.facts (code := cCls_places) 0 [(.aload_n 0, 1), (.iload_n 1, 1), (.invokevirtual 34, 3), (.astore_n 3, 1), (.iload_n 2, 1), (.iconst 0, 1), (.bipush 16, 2), (.invokestatic 38, 3), (.aload_n 3, 1), (.iload_n 2, 1), (.invokevirtual 109, 3), (.aload_n 0, 1), (.iload_n 1, 1), (.iconst (-1), 1), (.invokevirtual 58, 3), (.aload_n 3, 1), (.getfield 46, 3), (.ireturn, 1)] (by decide +kernel) (by decide +kernel)
theorem dCls_places_0 : decode cCls_places 0 = .ok (.aload_n 0, 1) := zfCls_places_0.1
theorem dCls_places_1 : decode cCls_places 1 = .ok (.iload_n 1, 1) := zfCls_places_0.2.1
theorem dCls_places_2 : decode cCls_places 2 = .ok (.invokevirtual 34, 3) := zfCls_places_0.2.2.1
theorem dCls_places_5 : decode cCls_places 5 = .ok (.astore_n 3, 1) := zfCls_places_0.2.2.2.1
theorem dCls_places_6 : decode cCls_places 6 = .ok (.iload_n 2, 1) := zfCls_places_0.2.2.2.2.1
theorem dCls_places_7 : decode cCls_places 7 = .ok (.iconst 0, 1) := zfCls_places_0.2.2.2.2.2.1
theorem dCls_places_8 : decode cCls_places 8 = .ok (.bipush 16, 2) := zfCls_places_0.2.2.2.2.2.2.1
theorem dCls_places_10 : decode cCls_places 10 = .ok (.invokestatic 38, 3) := zfCls_places_0.2.2.2.2.2.2.2.1
theorem dCls_places_13 : decode cCls_places 13 = .ok (.aload_n 3, 1) := zfCls_places_0.2.2.2.2.2.2.2.2.1
theorem dCls_places_14 : decode cCls_places 14 = .ok (.iload_n 2, 1) := zfCls_places_0.2.2.2.2.2.2.2.2.2.1
theorem dCls_places_15 : decode cCls_places 15 = .ok (.invokevirtual 109, 3) := zfCls_places_0.2.2.2.2.2.2.2.2.2.2.1
theorem dCls_places_18 : decode cCls_places 18 = .ok (.aload_n 0, 1) := zfCls_places_0.2.2.2.2.2.2.2.2.2.2.2.1
theorem dCls_places_19 : decode cCls_places 19 = .ok (.iload_n 1, 1) := zfCls_places_0.2.2.2.2.2.2.2.2.2.2.2.2.1
theorem dCls_places_20 : decode cCls_places 20 = .ok (.iconst (-1), 1) := zfCls_places_0.2.2.2.2.2.2.2.2.2.2.2.2.2.1
theorem dCls_places_21 : decode cCls_places 21 = .ok (.invokevirtual 58, 3) := zfCls_places_0.2.2.2.2.2.2.2.2.2.2.2.2.2.2.1
theorem dCls_places_24 : decode cCls_places 24 = .ok (.aload_n 3, 1) := zfCls_places_0.2.2.2.2.2.2.2.2.2.2.2.2.2.2.2.1
theorem dCls_places_25 : decode cCls_places 25 = .ok (.getfield 46, 3) := zfCls_places_0.2.2.2.2.2.2.2.2.2.2.2.2.2.2.2.2.1
theorem dCls_places_28 : decode cCls_places 28 = .ok (.ireturn, 1) := zfCls_places_0.2.2.2.2.2.2.2.2.2.2.2.2.2.2.2.2.2.1
theorem zfCls_rotate_0 : decode cCls_rotate 0 = .ok (.aload_n 0, 1) ∧ decode cCls_rotate 1 = .ok (.iload_n 1, 1) ∧ decode cCls_rotate 2 = .ok (.invokevirtual 34, 3) ∧ decode cCls_rotate 5 = .ok (.astore_n 3, 1) ∧ decode cCls_rotate 6 = .ok (.iload_n 2, 1) ∧ decode cCls_rotate 7 = .ok (.bipush (-99), 2) ∧ decode cCls_rotate 9 = .ok (.bipush 99, 2) ∧ decode cCls_rotate 11 = .ok (.invokestatic 38, 3) ∧ decode cCls_rotate 14 = .ok (.aload_n 3, 1) ∧ decode cCls_rotate 15 = .ok (.iload_n 2, 1) ∧ decode cCls_rotate 16 = .ok (.invokevirtual 112, 3) ∧ decode cCls_rotate 19 = .ok (.aload_n 0, 1) ∧ decode cCls_rotate 20 = .ok (.iload_n 1, 1) ∧ decode cCls_rotate 21 = .ok (.iconst (-1), 1) ∧ decode cCls_rotate 22 = .ok (.invokevirtual 58, 3) ∧ decode cCls_rotate 25 = .ok (.aload_n 3, 1) ∧ decode cCls_rotate 26 = .ok (.invokestatic 115, 3) ∧ decode cCls_rotate 29 = .ok (.ireturn, 1) ∧ True := Jvm.Free.DS.facts (code := cCls_rotate) 0 [(.aload_n 0, 1), (.iload_n 1, 1), (.invokevirtual 34, 3), (.astore_n 3, 1), (.iload_n 2, 1), (.bipush (-99), 2), (.bipush 99, 2), (.invokestatic 38, 3), (.aload_n 3, 1), (.iload_n 2, 1), (.invokevirtual 112, 3), (.aload_n 0, 1), (.iload_n 1, 1), (.iconst (-1), 1), (.invokevirtual 58, 3), (.aload_n 3, 1), (.invokestatic 115, 3), (.ireturn, 1)] (by decide +kernel) (by decide +kernel)
theorem dCls_rotate_0 : decode cCls_rotate 0 = .ok (.aload_n 0, 1) := zfCls_rotate_0.1
theorem dCls_rotate_1 : decode cCls_rotate 1 = .ok (.iload_n 1, 1) := zfCls_rotate_0.2.1
theorem dCls_rotate_2 : decode cCls_rotate 2 = .ok (.invokevirtual 34, 3) := zfCls_rotate_0.2.2.1
theorem dCls_rotate_5 : decode cCls_rotate 5 = .ok (.astore_n 3, 1) := zfCls_rotate_0.2.2.2.1
theorem dCls_rotate_6 : decode cCls_rotate 6 = .ok (.iload_n 2, 1) := zfCls_rotate_0.2.2.2.2.1
theorem dCls_rotate_7 : decode cCls_rotate 7 = .ok (.bipush (-99), 2) := zfCls_rotate_0.2.2.2.2.2.1
theorem dCls_rotate_9 : decode cCls_rotate 9 = .ok (.bipush 99, 2) := zfCls_rotate_0.2.2.2.2.2.2.1
theorem dCls_rotate_11 : decode cCls_rotate 11 = .ok (.invokestatic 38, 3) := zfCls_rotate_0.2.2.2.2.2.2.2.1
theorem dCls_rotate_14 : decode cCls_rotate 14 = .ok (.aload_n 3, 1) := zfCls_rotate_0.2.2.2.2.2.2.2.2.1
theorem dCls_rotate_15 : decode cCls_rotate 15 = .ok (.iload_n 2, 1) := zfCls_rotate_0.2.2.2.2.2.2.2.2.2.1
theorem dCls_rotate_16 : decode cCls_rotate 16 = .ok (.invokevirtual 112, 3) := zfCls_rotate_0.2.2.2.2.2.2.2.2.2.2.1
theorem dCls_rotate_19 : decode cCls_rotate 19 = .ok (.aload_n 0, 1) := zfCls_rotate_0.2.2.2.2.2.2.2.2.2.2.2.1
theorem dCls_rotate_20 : decode cCls_rotate 20 = .ok (.iload_n 1, 1) := zfCls_rotate_0.2.2.2.2.2.2.2.2.2.2.2.2.1
theorem dCls_rotate_21 : decode cCls_rotate 21 = .ok (.iconst (-1), 1) := zfCls_rotate_0.2.2.2.2.2.2.2.2.2.2.2.2.2.1
theorem dCls_rotate_22 : decode cCls_rotate 22 = .ok (.invokevirtual 58, 3) := zfCls_rotate_0.2.2.2.2.2.2.2.2.2.2.2.2.2.2.1
theorem dCls_rotate_25 : decode cCls_rotate 25 = .ok (.aload_n 3, 1) := zfCls_rotate_0.2.2.2.2.2.2.2.2.2.2.2.2.2.2.2.1
theorem dCls_rotate_26 : decode cCls_rotate 26 = .ok (.invokestatic 115, 3) := zfCls_rotate_0.2.2.2.2.2.2.2.2.2.2.2.2.2.2.2.2.1
theorem dCls_rotate_29 : decode cCls_rotate 29 = .ok (.ireturn, 1) := zfCls_rotate_0.2.2.2.2.2.2.2.2.2.2.2.2.2.2.2.2.2.1
theorem zfCls_move_0 : decode cCls_move 0 = .ok (.aload_n 0, 1) ∧ decode cCls_move 1 = .ok (.iload_n 1, 1) ∧ decode cCls_move 2 = .ok (.invokevirtual 34, 3) ∧ decode cCls_move 5 = .ok (.astore 4, 2) ∧ decode cCls_move 7 = .ok (.aload 4, 2) ∧ decode cCls_move 9 = .ok (.iload_n 2, 1) ∧ decode cCls_move 10 = .ok (.invokestatic 74, 3) ∧ decode cCls_move 13 = .ok (.aload 4, 2) ∧ decode cCls_move 15 = .ok (.iload_n 3, 1) ∧ decode cCls_move 16 = .ok (.invokestatic 74, 3) ∧ decode cCls_move 19 = .ok (.aload 4, 2) ∧ decode cCls_move 21 = .ok (.iload_n 2, 1) ∧ decode cCls_move 22 = .ok (.invokevirtual 88, 3) ∧ decode cCls_move 25 = .ok (.istore 5, 2) ∧ decode cCls_move 27 = .ok (.aload 4, 2) ∧ decode cCls_move 29 = .ok (.iload_n 3, 1) ∧ decode cCls_move 30 = .ok (.iload 5, 2) ∧ decode cCls_move 32 = .ok (.invokevirtual 119, 3) ∧ decode cCls_move 35 = .ok (.pop, 1) ∧ decode cCls_move 36 = .ok (.aload_n 0, 1) ∧ decode cCls_move 37 = .ok (.iload_n 1, 1) ∧ decode cCls_move 38 = .ok (.iconst (-1), 1) ∧ decode cCls_move 39 = .ok (.invokevirtual 58, 3) ∧ decode cCls_move 42 = .ok (.iload 5, 2) ∧ decode cCls_move 44 = .ok (.ireturn, 1) ∧ True := Jvm.Free.DS.facts (code := cCls_move) 0 [(.aload_n 0, 1), (.iload_n 1, 1), (.invokevirtual 34, 3), (.astore 4, 2), (.aload 4, 2), (.iload_n 2, 1), (.invokestatic 74, 3), (.aload 4, 2), (.iload_n 3, 1), (.invokestatic 74, 3), (.aload 4, 2), (.iload_n 2, 1), (.invokevirtual 88, 3), (.istore 5, 2), (.aload 4, 2), (.iload_n 3, 1), (.iload 5, 2), (.invokevirtual 119, 3), (.pop, 1), (.aload_n 0, 1), (.iload_n 1, 1), (.iconst (-1), 1), (.invokevirtual 58, 3), (.iload 5, 2), (.ireturn, 1)] (by decide +kernel) (by decide +kernel)
theorem dCls_move_0 : decode cCls_move 0 = .ok (.aload_n 0, 1) := zfCls_move_0.1
theorem dCls_move_1 : decode cCls_move 1 = .ok (.iload_n 1, 1) := zfCls_move_0.2.1
theorem dCls_move_2 : decode cCls_move 2 = .ok (.invokevirtual 34, 3) := zfCls_move_0.2.2.1
theorem dCls_move_5 : decode cCls_move 5 = .ok (.astore 4, 2) := zfCls_move_0.2.2.2.1
theorem dCls_move_7 : decode cCls_move 7 = .ok (.aload 4, 2) := zfCls_move_0.2.2.2.2.1
theorem dCls_move_9 : decode cCls_move 9 = .ok (.iload_n 2, 1) := zfCls_move_0.2.2.2.2.2.1
theorem dCls_move_10 : decode cCls_move 10 = .ok (.invokestatic 74, 3) := zfCls_move_0.2.2.2.2.2.2.1
theorem dCls_move_13 : decode cCls_move 13 = .ok (.aload 4, 2) := zfCls_move_0.2.2.2.2.2.2.2.1
theorem dCls_move_15 : decode cCls_move 15 = .ok (.iload_n 3, 1) := zfCls_move_0.2.2.2.2.2.2.2.2.1
theorem dCls_move_16 : decode cCls_move 16 = .ok (.invokestatic 74, 3) := zfCls_move_0.2.2.2.2.2.2.2.2.2.1
theorem dCls_move_19 : decode cCls_move 19 = .ok (.aload 4, 2) := zfCls_move_0.2.2.2.2.2.2.2.2.2.2.1
theorem dCls_move_21 : decode cCls_move 21 = .ok (.iload_n 2, 1) := zfCls_move_0.2.2.2.2.2.2.2.2.2.2.2.1
theorem dCls_move_22 : decode cCls_move 22 = .ok (.invokevirtual 88, 3) := zfCls_move_0.2.2.2.2.2.2.2.2.2.2.2.2.1
theorem dCls_move_25 : decode cCls_move 25 = .ok (.istore 5, 2) := zfCls_move_0.2.2.2.2.2.2.2.2.2.2.2.2.2.1
theorem dCls_move_27 : decode cCls_move 27 = .ok (.aload 4, 2) := zfCls_move_0.2.2.2.2.2.2.2.2.2.2.2.2.2.2.1
theorem dCls_move_29 : decode cCls_move 29 = .ok (.iload_n 3, 1) := zfCls_move_0.2.2.2.2.2.2.2.2.2.2.2.2.2.2.2.1
theorem dCls_move_30 : decode cCls_move 30 = .ok (.iload 5, 2) := zfCls_move_0.2.2.2.2.2.2.2.2.2.2.2.2.2.2.2.2.1
theorem dCls_move_32 : decode cCls_move 32 = .ok (.invokevirtual 119, 3) := zfCls_move_0.2.2.2.2.2.2.2.2.2.2.2.2.2.2.2.2.2.1
theorem dCls_move_35 : decode cCls_move 35 = .ok (.pop, 1) := zfCls_move_0.2.2.2.2.2.2.2.2.2.2.2.2.2.2.2.2.2.2.1
theorem dCls_move_36 : decode cCls_move 36 = .ok (.aload_n 0, 1) := zfCls_move_0.2.2.2.2.2.2.2.2.2.2.2.2.2.2.2.2.2.2.2.1
theorem dCls_move_37 : decode cCls_move 37 = .ok (.iload_n 1, 1) := zfCls_move_0.2.2.2.2.2.2.2.2.2.2.2.2.2.2.2.2.2.2.2.2.1
theorem dCls_move_38 : decode cCls_move 38 = .ok (.iconst (-1), 1) := zfCls_move_0.2.2.2.2.2.2.2.2.2.2.2.2.2.2.2.2.2.2.2.2.2.1
theorem dCls_move_39 : decode cCls_move 39 = .ok (.invokevirtual 58, 3) := zfCls_move_0.2.2.2.2.2.2.2.2.2.2.2.2.2.2.2.2.2.2.2.2.2.2.1
theorem dCls_move_42 : decode cCls_move 42 = .ok (.iload 5, 2) := zfCls_move_0.2.2.2.2.2.2.2.2.2.2.2.2.2.2.2.2.2.2.2.2.2.2.2.1
theorem dCls_move_44 : decode cCls_move 44 = .ok (.ireturn, 1) := zfCls_move_0.2.2.2.2.2.2.2.2.2.2.2.2.2.2.2.2.2.2.2.2.2.2.2.2.1
theorem zfCls_swap_0 : decode cCls_swap 0 = .ok (.aload_n 0, 1) ∧ decode cCls_swap 1 = .ok (.iload_n 1, 1) ∧ decode cCls_swap 2 = .ok (.invokevirtual 34, 3) ∧ decode cCls_swap 5 = .ok (.astore 4, 2) ∧ decode cCls_swap 7 = .ok (.aload 4, 2) ∧ decode cCls_swap 9 = .ok (.iload_n 2, 1) ∧ decode cCls_swap 10 = .ok (.invokestatic 74, 3) ∧ decode cCls_swap 13 = .ok (.aload 4, 2) ∧ decode cCls_swap 15 = .ok (.iload_n 3, 1) ∧ decode cCls_swap 16 = .ok (.invokestatic 74, 3) ∧ decode cCls_swap 19 = .ok (.aload 4, 2) ∧ decode cCls_swap 21 = .ok (.iload_n 2, 1) ∧ decode cCls_swap 22 = .ok (.iload_n 3, 1) ∧ decode cCls_swap 23 = .ok (.invokevirtual 123, 3) ∧ decode cCls_swap 26 = .ok (.aload 4, 2) ∧ decode cCls_swap 28 = .ok (.iload_n 2, 1) ∧ decode cCls_swap 29 = .ok (.invokevirtual 70, 3) ∧ decode cCls_swap 32 = .ok (.ireturn, 1) ∧ True := Jvm.Free.DS.facts (code := cCls_swap) 0 [(.aload_n 0, 1), (.iload_n 1, 1), (.invokevirtual 34, 3), (.astore 4, 2), (.aload 4, 2), (.iload_n 2, 1), (.invokestatic 74, 3), (.aload 4, 2), (.iload_n 3, 1), (.invokestatic 74, 3), (.aload 4, 2), (.iload_n 2, 1), (.iload_n 3, 1), (.invokevirtual 123, 3), (.aload 4, 2), (.iload_n 2, 1), (.invokevirtual 70, 3), (.ireturn, 1)] (by decide +kernel) (by decide +kernel)
theorem dCls_swap_0 : decode cCls_swap 0 = .ok (.aload_n 0, 1) := zfCls_swap_0.1
theorem dCls_swap_1 : decode cCls_swap 1 = .ok (.iload_n 1, 1) := zfCls_swap_0.2.1
theorem dCls_swap_2 : decode cCls_swap 2 = .ok (.invokevirtual 34, 3) := zfCls_swap_0.2.2.1
theorem dCls_swap_5 : decode cCls_swap 5 = .ok (.astore 4, 2) := zfCls_swap_0.2.2.2.1
theorem dCls_swap_7 : decode cCls_swap 7 = .ok (.aload 4, 2) := zfCls_swap_0.2.2.2.2.1
theorem dCls_swap_9 : decode cCls_swap 9 = .ok (.iload_n 2, 1) := zfCls_swap_0.2.2.2.2.2.1
theorem dCls_swap_10 : decode cCls_swap 10 = .ok (.invokestatic 74, 3) := zfCls_swap_0.2.2.2.2.2.2.1
theorem dCls_swap_13 : decode cCls_swap 13 = .ok (.aload 4, 2) := zfCls_swap_0.2.2.2.2.2.2.2.1
theorem dCls_swap_15 : decode cCls_swap 15 = .ok (.iload_n 3, 1) := zfCls_swap_0.2.2.2.2.2.2.2.2.1
theorem dCls_swap_16 : decode cCls_swap 16 = .ok (.invokestatic 74, 3) := zfCls_swap_0.2.2.2.2.2.2.2.2.2.1
theorem dCls_swap_19 : decode cCls_swap 19 = .ok (.aload 4, 2) := zfCls_swap_0.2.2.2.2.2.2.2.2.2.2.1
theorem dCls_swap_21 : decode cCls_swap 21 = .ok (.iload_n 2, 1) := zfCls_swap_0.2.2.2.2.2.2.2.2.2.2.2.1
theorem dCls_swap_22 : decode cCls_swap 22 = .ok (.iload_n 3, 1) := zfCls_swap_0.2.2.2.2.2.2.2.2.2.2.2.2.1
theorem dCls_swap_23 : decode cCls_swap 23 = .ok (.invokevirtual 123, 3) := zfCls_swap_0.2.2.2.2.2.2.2.2.2.2.2.2.2.1
theorem dCls_swap_26 : decode cCls_swap 26 = .ok (.aload 4, 2) := zfCls_swap_0.2.2.2.2.2.2.2.2.2.2.2.2.2.2.1
theorem dCls_swap_28 : decode cCls_swap 28 = .ok (.iload_n 2, 1) := zfCls_swap_0.2.2.2.2.2.2.2.2.2.2.2.2.2.2.2.1
theorem dCls_swap_29 : decode cCls_swap 29 = .ok (.invokevirtual 70, 3) := zfCls_swap_0.2.2.2.2.2.2.2.2.2.2.2.2.2.2.2.2.1
theorem dCls_swap_32 : decode cCls_swap 32 = .ok (.ireturn, 1) := zfCls_swap_0.2.2.2.2.2.2.2.2.2.2.2.2.2.2.2.2.2.1
theorem zfCls_reverse_0 : decode cCls_reverse 0 = .ok (.aload_n 0, 1) ∧ decode cCls_reverse 1 = .ok (.iload_n 1, 1) ∧ decode cCls_reverse 2 = .ok (.invokevirtual 34, 3) ∧ decode cCls_reverse 5 = .ok (.astore_n 2, 1) ∧ decode cCls_reverse 6 = .ok (.aload_n 2, 1) ∧ decode cCls_reverse 7 = .ok (.invokevirtual 126, 3) ∧ decode cCls_reverse 10 = .ok (.aload_n 2, 1) ∧ decode cCls_reverse 11 = .ok (.invokestatic 115, 3) ∧ decode cCls_reverse 14 = .ok (.ireturn, 1) ∧ True := Jvm.Free.DS.facts (code := cCls_reverse) 0 [(.aload_n 0, 1), (.iload_n 1, 1), (.invokevirtual 34, 3), (.astore_n 2, 1), (.aload_n 2, 1), (.invokevirtual 126, 3), (.aload_n 2, 1), (.invokestatic 115, 3), (.ireturn, 1)] (by decide +kernel) (by decide +kernel)
theorem dCls_reverse_0 : decode cCls_reverse 0 = .ok (.aload_n 0, 1) := zfCls_reverse_0.1
theorem dCls_reverse_1 : decode cCls_reverse 1 = .ok (.iload_n 1, 1) := zfCls_reverse_0.2.1
theorem dCls_reverse_2 : decode cCls_reverse 2 = .ok (.invokevirtual 34, 3) := zfCls_reverse_0.2.2.1
theorem dCls_reverse_5 : decode cCls_reverse 5 = .ok (.astore_n 2, 1) := zfCls_reverse_0.2.2.2.1
theorem dCls_reverse_6 : decode cCls_reverse 6 = .ok (.aload_n 2, 1) := zfCls_reverse_0.2.2.2.2.1
theorem dCls_reverse_7 : decode cCls_reverse 7 = .ok (.invokevirtual 126, 3) := zfCls_reverse_0.2.2.2.2.2.1
theorem dCls_reverse_10 : decode cCls_reverse 10 = .ok (.aload_n 2, 1) := zfCls_reverse_0.2.2.2.2.2.2.1
theorem dCls_reverse_11 : decode cCls_reverse 11 = .ok (.invokestatic 115, 3) := zfCls_reverse_0.2.2.2.2.2.2.2.1
theorem dCls_reverse_14 : decode cCls_reverse 14 = .ok (.ireturn, 1) := zfCls_reverse_0.2.2.2.2.2.2.2.2.1
theorem zfCls_through_0 : decode cCls_through 0 = .ok (.aload_n 0, 1) ∧ decode cCls_through 1 = .ok (.iload_n 1, 1) ∧ decode cCls_through 2 = .ok (.invokevirtual 34, 3) ∧ decode cCls_through 5 = .ok (.astore 4, 2) ∧ decode cCls_through 7 = .ok (.aload_n 0, 1) ∧ decode cCls_through 8 = .ok (.iload_n 2, 1) ∧ decode cCls_through 9 = .ok (.invokevirtual 34, 3) ∧ decode cCls_through 12 = .ok (.astore 5, 2) ∧ decode cCls_through 14 = .ok (.aload_n 0, 1) ∧ decode cCls_through 15 = .ok (.iload_n 3, 1) ∧ decode cCls_through 16 = .ok (.invokevirtual 34, 3) ∧ decode cCls_through 19 = .ok (.pop, 1) ∧ decode cCls_through 20 = .ok (.aload_n 0, 1) ∧ decode cCls_through 21 = .ok (.iload_n 3, 1) ∧ decode cCls_through 22 = .ok (.aload_n 0, 1) ∧ decode cCls_through 23 = .ok (.getfield 29, 3) ∧ decode cCls_through 26 = .ok (.aload 4, 2) ∧ decode cCls_through 28 = .ok (.aload 5, 2) ∧ decode cCls_through 30 = .ok (.invokevirtual 129, 3) ∧ decode cCls_through 33 = .ok (.invokevirtual 102, 3) ∧ decode cCls_through 36 = .ok (.ireturn, 1) ∧ True := Jvm.Free.DS.facts (code := cCls_through) 0 [(.aload_n 0, 1), (.iload_n 1, 1), (.invokevirtual 34, 3), (.astore 4, 2), (.aload_n 0, 1), (.iload_n 2, 1), (.invokevirtual 34, 3), (.astore 5, 2), (.aload_n 0, 1), (.iload_n 3, 1), (.invokevirtual 34, 3), (.pop, 1), (.aload_n 0, 1), (.iload_n 3, 1), (.aload_n 0, 1), (.getfield 29, 3), (.aload 4, 2), (.aload 5, 2), (.invokevirtual 129, 3), (.invokevirtual 102, 3), (.ireturn, 1)] (by decide +kernel) (by decide +kernel)
theorem dCls_through_0 : decode cCls_through 0 = .ok (.aload_n 0, 1) := zfCls_through_0.1
theorem dCls_through_1 : decode cCls_through 1 = .ok (.iload_n 1, 1) := zfCls_through_0.2.1
theorem dCls_through_2 : decode cCls_through 2 = .ok (.invokevirtual 34, 3) := zfCls_through_0.2.2.1
theorem dCls_through_5 : decode cCls_through 5 = .ok (.astore 4, 2) := zfCls_through_0.2.2.2.1
theorem dCls_through_7 : decode cCls_through 7 = .ok (.aload_n 0, 1) := zfCls_through_0.2.2.2.2.1
theorem dCls_through_8 : decode cCls_through 8 = .ok (.iload_n 2, 1) := zfCls_through_0.2.2.2.2.2.1
theorem dCls_through_9 : decode cCls_through 9 = .ok (.invokevirtual 34, 3) := zfCls_through_0.2.2.2.2.2.2.1
theorem dCls_through_12 : decode cCls_through 12 = .ok (.astore 5, 2) := zfCls_through_0.2.2.2.2.2.2.2.1
theorem dCls_through_14 : decode cCls_through 14 = .ok (.aload_n 0, 1) := zfCls_through_0.2.2.2.2.2.2.2.2.1
theorem dCls_through_15 : decode cCls_through 15 = .ok (.iload_n 3, 1) := zfCls_through_0.2.2.2.2.2.2.2.2.2.1
theorem dCls_through_16 : decode cCls_through 16 = .ok (.invokevirtual 34, 3) := zfCls_through_0.2.2.2.2.2.2.2.2.2.2.1
theorem dCls_through_19 : decode cCls_through 19 = .ok (.pop, 1) := zfCls_through_0.2.2.2.2.2.2.2.2.2.2.2.1
theorem dCls_through_20 : decode cCls_through 20 = .ok (.aload_n 0, 1) := zfCls_through_0.2.2.2.2.2.2.2.2.2.2.2.2.1
theorem dCls_through_21 : decode cCls_through 21 = .ok (.iload_n 3, 1) := zfCls_through_0.2.2.2.2.2.2.2.2.2.2.2.2.2.1
theorem dCls_through_22 : decode cCls_through 22 = .ok (.aload_n 0, 1) := zfCls_through_0.2.2.2.2.2.2.2.2.2.2.2.2.2.2.1
theorem dCls_through_23 : decode cCls_through 23 = .ok (.getfield 29, 3) := zfCls_through_0.2.2.2.2.2.2.2.2.2.2.2.2.2.2.2.1
theorem dCls_through_26 : decode cCls_through 26 = .ok (.aload 4, 2) := zfCls_through_0.2.2.2.2.2.2.2.2.2.2.2.2.2.2.2.2.1
theorem dCls_through_28 : decode cCls_through 28 = .ok (.aload 5, 2) := zfCls_through_0.2.2.2.2.2.2.2.2.2.2.2.2.2.2.2.2.2.1
theorem dCls_through_30 : decode cCls_through 30 = .ok (.invokevirtual 129, 3) := zfCls_through_0.2.2.2.2.2.2.2.2.2.2.2.2.2.2.2.2.2.2.1
theorem dCls_through_33 : decode cCls_through 33 = .ok (.invokevirtual 102, 3) := zfCls_through_0.2.2.2.2.2.2.2.2.2.2.2.2.2.2.2.2.2.2.2.1
theorem dCls_through_36 : decode cCls_through 36 = .ok (.ireturn, 1) := zfCls_through_0.2.2.2.2.2.2.2.2.2.2.2.2.2.2.2.2.2.2.2.2.1
theorem zfCls_areSame_0 : decode cCls_areSame 0 = .ok (.aload_n 0, 1) ∧ decode cCls_areSame 1 = .ok (.iload_n 1, 1) ∧ decode cCls_areSame 2 = .ok (.invokevirtual 34, 3) ∧ decode cCls_areSame 5 = .ok (.aload_n 0, 1) ∧ decode cCls_areSame 6 = .ok (.iload_n 2, 1) ∧ decode cCls_areSame 7 = .ok (.invokevirtual 34, 3) ∧ decode cCls_areSame 10 = .ok (.invokevirtual 133, 3) ∧ decode cCls_areSame 13 = .ok (.ireturn, 1) ∧ True := Jvm.Free.DS.facts (code := cCls_areSame) 0 [(.aload_n 0, 1), (.iload_n 1, 1), (.invokevirtual 34, 3), (.aload_n 0, 1), (.iload_n 2, 1), (.invokevirtual 34, 3), (.invokevirtual 133, 3), (.ireturn, 1)] (by decide +kernel) (by decide +kernel)
theorem dCls_areSame_0 : decode cCls_areSame 0 = .ok (.aload_n 0, 1) := zfCls_areSame_0.1
theorem dCls_areSame_1 : decode cCls_areSame 1 = .ok (.iload_n 1, 1) := zfCls_areSame_0.2.1
theorem dCls_areSame_2 : decode cCls_areSame 2 = .ok (.invokevirtual 34, 3) := zfCls_areSame_0.2.2.1
theorem dCls_areSame_5 : decode cCls_areSame 5 = .ok (.aload_n 0, 1) := zfCls_areSame_0.2.2.2.1
theorem dCls_areSame_6 : decode cCls_areSame 6 = .ok (.iload_n 2, 1) := zfCls_areSame_0.2.2.2.2.1
theorem dCls_areSame_7 : decode cCls_areSame 7 = .ok (.invokevirtual 34, 3) := zfCls_areSame_0.2.2.2.2.2.1
theorem dCls_areSame_10 : decode cCls_areSame 10 = .ok (.invokevirtual 133, 3) := zfCls_areSame_0.2.2.2.2.2.2.1
theorem dCls_areSame_13 : decode cCls_areSame 13 = .ok (.ireturn, 1) := zfCls_areSame_0.2.2.2.2.2.2.2.1
theorem zfCls_isMirror_0 : decode cCls_isMirror 0 = .ok (.aload_n 0, 1) ∧ decode cCls_isMirror 1 = .ok (.iload_n 1, 1) ∧ decode cCls_isMirror 2 = .ok (.invokevirtual 34, 3) ∧ decode cCls_isMirror 5 = .ok (.astore_n 2, 1) ∧ decode cCls_isMirror 6 = .ok (.aload_n 0, 1) ∧ decode cCls_isMirror 7 = .ok (.getfield 29, 3) ∧ decode cCls_isMirror 10 = .ok (.aload_n 2, 1) ∧ decode cCls_isMirror 11 = .ok (.invokevirtual 105, 3) ∧ decode cCls_isMirror 14 = .ok (.aload_n 0, 1) ∧ decode cCls_isMirror 15 = .ok (.getfield 29, 3) ∧ decode cCls_isMirror 18 = .ok (.invokevirtual 126, 3) ∧ decode cCls_isMirror 21 = .ok (.aload_n 0, 1) ∧ decode cCls_isMirror 22 = .ok (.getfield 29, 3) ∧ decode cCls_isMirror 25 = .ok (.aload_n 2, 1) ∧ decode cCls_isMirror 26 = .ok (.invokevirtual 133, 3) ∧ decode cCls_isMirror 29 = .ok (.ireturn, 1) ∧ True := Jvm.Free.DS.facts (code := cCls_isMirror) 0 [(.aload_n 0, 1), (.iload_n 1, 1), (.invokevirtual 34, 3), (.astore_n 2, 1), (.aload_n 0, 1), (.getfield 29, 3), (.aload_n 2, 1), (.invokevirtual 105, 3), (.aload_n 0, 1), (.getfield 29, 3), (.invokevirtual 126, 3), (.aload_n 0, 1), (.getfield 29, 3), (.aload_n 2, 1), (.invokevirtual 133, 3), (.ireturn, 1)] (by decide +kernel) (by decide +kernel)
theorem dCls_isMirror_0 : decode cCls_isMirror 0 = .ok (.aload_n 0, 1) := zfCls_isMirror_0.1
theorem dCls_isMirror_1 : decode cCls_isMirror 1 = .ok (.iload_n 1, 1) := zfCls_isMirror_0.2.1
theorem dCls_isMirror_2 : decode cCls_isMirror 2 = .ok (.invokevirtual 34, 3) := zfCls_isMirror_0.2.2.1
theorem dCls_isMirror_5 : decode cCls_isMirror 5 = .ok (.astore_n 2, 1) := zfCls_isMirror_0.2.2.2.1
theorem dCls_isMirror_6 : decode cCls_isMirror 6 = .ok (.aload_n 0, 1) := zfCls_isMirror_0.2.2.2.2.1
theorem dCls_isMirror_7 : decode cCls_isMirror 7 = .ok (.getfield 29, 3) := zfCls_isMirror_0.2.2.2.2.2.1
theorem dCls_isMirror_10 : decode cCls_isMirror 10 = .ok (.aload_n 2, 1) := zfCls_isMirror_0.2.2.2.2.2.2.1
theorem dCls_isMirror_11 : decode cCls_isMirror 11 = .ok (.invokevirtual 105, 3) := zfCls_isMirror_0.2.2.2.2.2.2.2.1
theorem dCls_isMirror_14 : decode cCls_isMirror 14 = .ok (.aload_n 0, 1) := zfCls_isMirror_0.2.2.2.2.2.2.2.2.1
theorem dCls_isMirror_15 : decode cCls_isMirror 15 = .ok (.getfield 29, 3) := zfCls_isMirror_0.2.2.2.2.2.2.2.2.2.1
theorem dCls_isMirror_18 : decode cCls_isMirror 18 = .ok (.invokevirtual 126, 3) := zfCls_isMirror_0.2.2.2.2.2.2.2.2.2.2.1
theorem dCls_isMirror_21 : decode cCls_isMirror 21 = .ok (.aload_n 0, 1) := zfCls_isMirror_0.2.2.2.2.2.2.2.2.2.2.2.1
theorem dCls_isMirror_22 : decode cCls_isMirror 22 = .ok (.getfield 29, 3) := zfCls_isMirror_0.2.2.2.2.2.2.2.2.2.2.2.2.1
theorem dCls_isMirror_25 : decode cCls_isMirror 25 = .ok (.aload_n 2, 1) := zfCls_isMirror_0.2.2.2.2.2.2.2.2.2.2.2.2.2.1
theorem dCls_isMirror_26 : decode cCls_isMirror 26 = .ok (.invokevirtual 133, 3) := zfCls_isMirror_0.2.2.2.2.2.2.2.2.2.2.2.2.2.2.1
theorem dCls_isMirror_29 : decode cCls_isMirror 29 = .ok (.ireturn, 1) := zfCls_isMirror_0.2.2.2.2.2.2.2.2.2.2.2.2.2.2.2.1
theorem zfCls_open_0 : decode cCls_open 0 = .ok (.aload_n 0, 1) ∧ decode cCls_open 1 = .ok (.iload_n 1, 1) ∧ decode cCls_open 2 = .ok (.invokevirtual 137, 3) ∧ decode cCls_open 5 = .ok (.astore 4, 2) ∧ decode cCls_open 7 = .ok (.aload_n 0, 1) ∧ decode cCls_open 8 = .ok (.iload_n 2, 1) ∧ decode cCls_open 9 = .ok (.invokevirtual 34, 3) ∧ decode cCls_open 12 = .ok (.astore 5, 2) ∧ decode cCls_open 14 = .ok (.aload 5, 2) ∧ decode cCls_open 16 = .ok (.iload_n 3, 1) ∧ decode cCls_open 17 = .ok (.invokestatic 81, 3) ∧ decode cCls_open 20 = .ok (.aload 4, 2) ∧ decode cCls_open 22 = .ok (.iload_n 2, 1) ∧ decode cCls_open 23 = .ok (.iload_n 3, 1) ∧ decode cCls_open 24 = .ok (.invokevirtual 141, 3) ∧ decode cCls_open 27 = .ok (.aload 5, 2) ∧ decode cCls_open 29 = .ok (.getfield 46, 3) ∧ decode cCls_open 32 = .ok (.iload_n 3, 1) ∧ decode cCls_open 33 = .ok (.isub, 1) ∧ decode cCls_open 34 = .ok (.ireturn, 1) ∧ True := Jvm.Free.DS.facts (code := cCls_open) 0 [(.aload_n 0, 1), (.iload_n 1, 1), (.invokevirtual 137, 3), (.astore 4, 2), (.aload_n 0, 1), (.iload_n 2, 1), (.invokevirtual 34, 3), (.astore 5, 2), (.aload 5, 2), (.iload_n 3, 1), (.invokestatic 81, 3), (.aload 4, 2), (.iload_n 2, 1), (.iload_n 3, 1), (.invokevirtual 141, 3), (.aload 5, 2), (.getfield 46, 3), (.iload_n 3, 1), (.isub, 1), (.ireturn, 1)] (by decide +kernel) (by decide +kernel)
theorem dCls_open_0 : decode cCls_open 0 = .ok (.aload_n 0, 1) := zfCls_open_0.1
theorem dCls_open_1 : decode cCls_open 1 = .ok (.iload_n 1, 1) := zfCls_open_0.2.1
theorem dCls_open_2 : decode cCls_open 2 = .ok (.invokevirtual 137, 3) := zfCls_open_0.2.2.1
theorem dCls_open_5 : decode cCls_open 5 = .ok (.astore 4, 2) := zfCls_open_0.2.2.2.1
theorem dCls_open_7 : decode cCls_open 7 = .ok (.aload_n 0, 1) := zfCls_open_0.2.2.2.2.1
theorem dCls_open_8 : decode cCls_open 8 = .ok (.iload_n 2, 1) := zfCls_open_0.2.2.2.2.2.1
theorem dCls_open_9 : decode cCls_open 9 = .ok (.invokevirtual 34, 3) := zfCls_open_0.2.2.2.2.2.2.1
theorem dCls_open_12 : decode cCls_open 12 = .ok (.astore 5, 2) := zfCls_open_0.2.2.2.2.2.2.2.1
theorem dCls_open_14 : decode cCls_open 14 = .ok (.aload 5, 2) := zfCls_open_0.2.2.2.2.2.2.2.2.1
theorem dCls_open_16 : decode cCls_open 16 = .ok (.iload_n 3, 1) := zfCls_open_0.2.2.2.2.2.2.2.2.2.1
theorem dCls_open_17 : decode cCls_open 17 = .ok (.invokestatic 81, 3) := zfCls_open_0.2.2.2.2.2.2.2.2.2.2.1
theorem dCls_open_20 : decode cCls_open 20 = .ok (.aload 4, 2) := zfCls_open_0.2.2.2.2.2.2.2.2.2.2.2.1
theorem dCls_open_22 : decode cCls_open 22 = .ok (.iload_n 2, 1) := zfCls_open_0.2.2.2.2.2.2.2.2.2.2.2.2.1
theorem dCls_open_23 : decode cCls_open 23 = .ok (.iload_n 3, 1) := zfCls_open_0.2.2.2.2.2.2.2.2.2.2.2.2.2.1
theorem dCls_open_24 : decode cCls_open 24 = .ok (.invokevirtual 141, 3) := zfCls_open_0.2.2.2.2.2.2.2.2.2.2.2.2.2.2.1
theorem dCls_open_27 : decode cCls_open 27 = .ok (.aload 5, 2) := zfCls_open_0.2.2.2.2.2.2.2.2.2.2.2.2.2.2.2.1
theorem dCls_open_29 : decode cCls_open 29 = .ok (.getfield 46, 3) := zfCls_open_0.2.2.2.2.2.2.2.2.2.2.2.2.2.2.2.2.1
theorem dCls_open_32 : decode cCls_open 32 = .ok (.iload_n 3, 1) := zfCls_open_0.2.2.2.2.2.2.2.2.2.2.2.2.2.2.2.2.2.1
theorem dCls_open_33 : decode cCls_open 33 = .ok (.isub, 1) := zfCls_open_0.2.2.2.2.2.2.2.2.2.2.2.2.2.2.2.2.2.2.1
theorem dCls_open_34 : decode cCls_open 34 = .ok (.ireturn, 1) := zfCls_open_0.2.2.2.2.2.2.2.2.2.2.2.2.2.2.2.2.2.2.2.1
theorem zfCls_shut_0 : decode cCls_shut 0 = .ok (.aload_n 0, 1) ∧ decode cCls_shut 1 = .ok (.iload_n 1, 1) ∧ decode cCls_shut 2 = .ok (.invokevirtual 137, 3) ∧ decode cCls_shut 5 = .ok (.astore_n 2, 1) ∧ decode cCls_shut 6 = .ok (.aload_n 2, 1) ∧ decode cCls_shut 7 = .ok (.getfield 144, 3) ∧ decode cCls_shut 10 = .ok (.istore_n 3, 1) ∧ decode cCls_shut 11 = .ok (.aload_n 2, 1) ∧ decode cCls_shut 12 = .ok (.iconst 0, 1) ∧ decode cCls_shut 13 = .ok (.putfield 144, 3) ∧ decode cCls_shut 16 = .ok (.iload_n 3, 1) ∧ decode cCls_shut 17 = .ok (.ireturn, 1) ∧ True := Jvm.Free.DS.facts (code := cCls_shut) 0 [(.aload_n 0, 1), (.iload_n 1, 1), (.invokevirtual 137, 3), (.astore_n 2, 1), (.aload_n 2, 1), (.getfield 144, 3), (.istore_n 3, 1), (.aload_n 2, 1), (.iconst 0, 1), (.putfield 144, 3), (.iload_n 3, 1), (.ireturn, 1)] (by decide +kernel) (by decide +kernel)
theorem dCls_shut_0 : decode cCls_shut 0 = .ok (.aload_n 0, 1) := zfCls_shut_0.1
theorem dCls_shut_1 : decode cCls_shut 1 = .ok (.iload_n 1, 1) := zfCls_shut_0.2.1
theorem dCls_shut_2 : decode cCls_shut 2 = .ok (.invokevirtual 137, 3) := zfCls_shut_0.2.2.1
theorem dCls_shut_5 : decode cCls_shut 5 = .ok (.astore_n 2, 1) := zfCls_shut_0.2.2.2.1
theorem dCls_shut_6 : decode cCls_shut 6 = .ok (.aload_n 2, 1) := zfCls_shut_0.2.2.2.2.1
theorem dCls_shut_7 : decode cCls_shut 7 = .ok (.getfield 144, 3) := zfCls_shut_0.2.2.2.2.2.1
theorem dCls_shut_10 : decode cCls_shut 10 = .ok (.istore_n 3, 1) := zfCls_shut_0.2.2.2.2.2.2.1
theorem dCls_shut_11 : decode cCls_shut 11 = .ok (.aload_n 2, 1) := zfCls_shut_0.2.2.2.2.2.2.2.1
theorem dCls_shut_12 : decode cCls_shut 12 = .ok (.iconst 0, 1) := zfCls_shut_0.2.2.2.2.2.2.2.2.1
theorem dCls_shut_13 : decode cCls_shut 13 = .ok (.putfield 144, 3) := zfCls_shut_0.2.2.2.2.2.2.2.2.2.1
theorem dCls_shut_16 : decode cCls_shut 16 = .ok (.iload_n 3, 1) := zfCls_shut_0.2.2.2.2.2.2.2.2.2.2.1
theorem dCls_shut_17 : decode cCls_shut 17 = .ok (.ireturn, 1) := zfCls_shut_0.2.2.2.2.2.2.2.2.2.2.2.1
theorem zfCls_forth_0 : decode cCls_forth 0 = .ok (.aload_n 0, 1) ∧ decode cCls_forth 1 = .ok (.iload_n 1, 1) ∧ decode cCls_forth 2 = .ok (.invokevirtual 137, 3) ∧ decode cCls_forth 5 = .ok (.astore_n 2, 1) ∧ decode cCls_forth 6 = .ok (.aload_n 2, 1) ∧ decode cCls_forth 7 = .ok (.invokestatic 148, 3) ∧ decode cCls_forth 10 = .ok (.aload_n 2, 1) ∧ decode cCls_forth 11 = .ok (.getfield 152, 3) ∧ decode cCls_forth 14 = .ok (.ifCond .eq 10, 3) ∧ decode cCls_forth 17 = .ok (.aload_n 0, 1) ∧ decode cCls_forth 18 = .ok (.invokevirtual 54, 3) ∧ decode cCls_forth 21 = .ok (.goto 12, 3) ∧ decode cCls_forth 24 = .ok (.aload_n 2, 1) ∧ decode cCls_forth 25 = .ok (.aload_n 0, 1) ∧ decode cCls_forth 26 = .ok (.aload_n 2, 1) ∧ decode cCls_forth 27 = .ok (.invokevirtual 155, 3) ∧ decode cCls_forth 30 = .ok (.invokevirtual 159, 3) ∧ decode cCls_forth 33 = .ok (.ireturn, 1) ∧ True := Jvm.Free.DS.facts (code := cCls_forth) 0 [(.aload_n 0, 1), (.iload_n 1, 1), (.invokevirtual 137, 3), (.astore_n 2, 1), (.aload_n 2, 1), (.invokestatic 148, 3), (.aload_n 2, 1), (.getfield 152, 3), (.ifCond .eq 10, 3), (.aload_n 0, 1), (.invokevirtual 54, 3), (.goto 12, 3), (.aload_n 2, 1), (.aload_n 0, 1), (.aload_n 2, 1), (.invokevirtual 155, 3), (.invokevirtual 159, 3), (.ireturn, 1)] (by decide +kernel) (by decide +kernel)
theorem dCls_forth_0 : decode cCls_forth 0 = .ok (.aload_n 0, 1) := zfCls_forth_0.1
theorem dCls_forth_1 : decode cCls_forth 1 = .ok (.iload_n 1, 1) := zfCls_forth_0.2.1
theorem dCls_forth_2 : decode cCls_forth 2 = .ok (.invokevirtual 137, 3) := zfCls_forth_0.2.2.1
theorem dCls_forth_5 : decode cCls_forth 5 = .ok (.astore_n 2, 1) := zfCls_forth_0.2.2.2.1
theorem dCls_forth_6 : decode cCls_forth 6 = .ok (.aload_n 2, 1) := zfCls_forth_0.2.2.2.2.1
theorem dCls_forth_7 : decode cCls_forth 7 = .ok (.invokestatic 148, 3) := zfCls_forth_0.2.2.2.2.2.1
theorem dCls_forth_10 : decode cCls_forth 10 = .ok (.aload_n 2, 1) := zfCls_forth_0.2.2.2.2.2.2.1
theorem dCls_forth_11 : decode cCls_forth 11 = .ok (.getfield 152, 3) := zfCls_forth_0.2.2.2.2.2.2.2.1
theorem dCls_forth_14 : decode cCls_forth 14 = .ok (.ifCond .eq 10, 3) := zfCls_forth_0.2.2.2.2.2.2.2.2.1
theorem dCls_forth_17 : decode cCls_forth 17 = .ok (.aload_n 0, 1) := zfCls_forth_0.2.2.2.2.2.2.2.2.2.1
theorem dCls_forth_18 : decode cCls_forth 18 = .ok (.invokevirtual 54, 3) := zfCls_forth_0.2.2.2.2.2.2.2.2.2.2.1
theorem dCls_forth_21 : decode cCls_forth 21 = .ok (.goto 12, 3) := zfCls_forth_0.2.2.2.2.2.2.2.2.2.2.2.1
theorem dCls_forth_24 : decode cCls_forth 24 = .ok (.aload_n 2, 1) := zfCls_forth_0.2.2.2.2.2.2.2.2.2.2.2.2.1
theorem dCls_forth_25 : decode cCls_forth 25 = .ok (.aload_n 0, 1) := zfCls_forth_0.2.2.2.2.2.2.2.2.2.2.2.2.2.1
theorem dCls_forth_26 : decode cCls_forth 26 = .ok (.aload_n 2, 1) := zfCls_forth_0.2.2.2.2.2.2.2.2.2.2.2.2.2.2.1
theorem dCls_forth_27 : decode cCls_forth 27 = .ok (.invokevirtual 155, 3) := zfCls_forth_0.2.2.2.2.2.2.2.2.2.2.2.2.2.2.2.1
theorem dCls_forth_30 : decode cCls_forth 30 = .ok (.invokevirtual 159, 3) := zfCls_forth_0.2.2.2.2.2.2.2.2.2.2.2.2.2.2.2.2.1
theorem dCls_forth_33 : decode cCls_forth 33 = .ok (.ireturn, 1) := zfCls_forth_0.2.2.2.2.2.2.2.2.2.2.2.2.2.2.2.2.2.1
theorem zfCls_back_0 : decode cCls_back 0 = .ok (.aload_n 0, 1) ∧ decode cCls_back 1 = .ok (.iload_n 1, 1) ∧ decode cCls_back 2 = .ok (.invokevirtual 137, 3) ∧ decode cCls_back 5 = .ok (.astore_n 2, 1) ∧ decode cCls_back 6 = .ok (.aload_n 2, 1) ∧ decode cCls_back 7 = .ok (.invokestatic 148, 3) ∧ decode cCls_back 10 = .ok (.aload_n 2, 1) ∧ decode cCls_back 11 = .ok (.getfield 152, 3) ∧ decode cCls_back 14 = .ok (.ifCond .eq 10, 3) ∧ decode cCls_back 17 = .ok (.aload_n 0, 1) ∧ decode cCls_back 18 = .ok (.invokevirtual 54, 3) ∧ decode cCls_back 21 = .ok (.goto 12, 3) ∧ decode cCls_back 24 = .ok (.aload_n 2, 1) ∧ decode cCls_back 25 = .ok (.aload_n 0, 1) ∧ decode cCls_back 26 = .ok (.aload_n 2, 1) ∧ decode cCls_back 27 = .ok (.invokevirtual 155, 3) ∧ decode cCls_back 30 = .ok (.invokevirtual 162, 3) ∧ decode cCls_back 33 = .ok (.ireturn, 1) ∧ True := Jvm.Free.DS.facts (code := cCls_back) 0 [(.aload_n 0, 1), (.iload_n 1, 1), (.invokevirtual 137, 3), (.astore_n 2, 1), (.aload_n 2, 1), (.invokestatic 148, 3), (.aload_n 2, 1), (.getfield 152, 3), (.ifCond .eq 10, 3), (.aload_n 0, 1), (.invokevirtual 54, 3), (.goto 12, 3), (.aload_n 2, 1), (.aload_n 0, 1), (.aload_n 2, 1), (.invokevirtual 155, 3), (.invokevirtual 162, 3), (.ireturn, 1)] (by decide +kernel) (by decide +kernel)
theorem dCls_back_0 : decode cCls_back 0 = .ok (.aload_n 0, 1) := zfCls_back_0.1
theorem dCls_back_1 : decode cCls_back 1 = .ok (.iload_n 1, 1) := zfCls_back_0.2.1
theorem dCls_back_2 : decode cCls_back 2 = .ok (.invokevirtual 137, 3) := zfCls_back_0.2.2.1
theorem dCls_back_5 : decode cCls_back 5 = .ok (.astore_n 2, 1) := zfCls_back_0.2.2.2.1
theorem dCls_back_6 : decode cCls_back 6 = .ok (.aload_n 2, 1) := zfCls_back_0.2.2.2.2.1
theorem dCls_back_7 : decode cCls_back 7 = .ok (.invokestatic 148, 3) := zfCls_back_0.2.2.2.2.2.1
theorem dCls_back_10 : decode cCls_back 10 = .ok (.aload_n 2, 1) := zfCls_back_0.2.2.2.2.2.2.1
theorem dCls_back_11 : decode cCls_back 11 = .ok (.getfield 152, 3) := zfCls_back_0.2.2.2.2.2.2.2.1
theorem dCls_back_14 : decode cCls_back 14 = .ok (.ifCond .eq 10, 3) := zfCls_back_0.2.2.2.2.2.2.2.2.1
theorem dCls_back_17 : decode cCls_back 17 = .ok (.aload_n 0, 1) := zfCls_back_0.2.2.2.2.2.2.2.2.2.1
theorem dCls_back_18 : decode cCls_back 18 = .ok (.invokevirtual 54, 3) := zfCls_back_0.2.2.2.2.2.2.2.2.2.2.1
theorem dCls_back_21 : decode cCls_back 21 = .ok (.goto 12, 3) := zfCls_back_0.2.2.2.2.2.2.2.2.2.2.2.1
theorem dCls_back_24 : decode cCls_back 24 = .ok (.aload_n 2, 1) := zfCls_back_0.2.2.2.2.2.2.2.2.2.2.2.2.1
theorem dCls_back_25 : decode cCls_back 25 = .ok (.aload_n 0, 1) := zfCls_back_0.2.2.2.2.2.2.2.2.2.2.2.2.2.1
theorem dCls_back_26 : decode cCls_back 26 = .ok (.aload_n 2, 1) := zfCls_back_0.2.2.2.2.2.2.2.2.2.2.2.2.2.2.1
theorem dCls_back_27 : decode cCls_back 27 = .ok (.invokevirtual 155, 3) := zfCls_back_0.2.2.2.2.2.2.2.2.2.2.2.2.2.2.2.1
theorem dCls_back_30 : decode cCls_back 30 = .ok (.invokevirtual 162, 3) := zfCls_back_0.2.2.2.2.2.2.2.2.2.2.2.2.2.2.2.2.1
theorem dCls_back_33 : decode cCls_back 33 = .ok (.ireturn, 1) := zfCls_back_0.2.2.2.2.2.2.2.2.2.2.2.2.2.2.2.2.2.1
theorem zfCls_puts_0 : decode cCls_puts 0 = .ok (.aload_n 0, 1) ∧ decode cCls_puts 1 = .ok (.iload_n 1, 1) ∧ decode cCls_puts 2 = .ok (.invokevirtual 137, 3) ∧ decode cCls_puts 5 = .ok (.astore_n 3, 1) ∧ decode cCls_puts 6 = .ok (.iload_n 2, 1) ∧ decode cCls_puts 7 = .ok (.invokestatic 42, 3) ∧ decode cCls_puts 10 = .ok (.aload_n 3, 1) ∧ decode cCls_puts 11 = .ok (.invokestatic 148, 3) ∧ decode cCls_puts 14 = .ok (.aload_n 3, 1) ∧ decode cCls_puts 15 = .ok (.getfield 152, 3) ∧ decode cCls_puts 18 = .ok (.ifCond .ne 16, 3) ∧ decode cCls_puts 21 = .ok (.aload_n 3, 1) ∧ decode cCls_puts 22 = .ok (.aload_n 0, 1) ∧ decode cCls_puts 23 = .ok (.aload_n 3, 1) ∧ decode cCls_puts 24 = .ok (.invokevirtual 155, 3) ∧ decode cCls_puts 27 = .ok (.iload_n 2, 1) ∧ decode cCls_puts 28 = .ok (.invokevirtual 165, 3) ∧ decode cCls_puts 31 = .ok (.ifCond .ne 8, 3) ∧ decode cCls_puts 34 = .ok (.aload_n 0, 1) ∧ decode cCls_puts 35 = .ok (.invokevirtual 54, 3) ∧ decode cCls_puts 38 = .ok (.ireturn, 1) ∧ decode cCls_puts 39 = .ok (.aload_n 0, 1) ∧ decode cCls_puts 40 = .ok (.aload_n 3, 1) ∧ decode cCls_puts 41 = .ok (.getfield 169, 3) ∧ decode cCls_puts 44 = .ok (.iload_n 1, 1) ∧ decode cCls_puts 45 = .ok (.invokevirtual 58, 3) ∧ decode cCls_puts 48 = .ok (.aload_n 3, 1) ∧ decode cCls_puts 49 = .ok (.getfield 172, 3) ∧ decode cCls_puts 52 = .ok (.ireturn, 1) ∧ True := Jvm.Free.DS.facts (code := cCls_puts) 0 [(.aload_n 0, 1), (.iload_n 1, 1), (.invokevirtual 137, 3), (.astore_n 3, 1), (.iload_n 2, 1), (.invokestatic 42, 3), (.aload_n 3, 1), (.invokestatic 148, 3), (.aload_n 3, 1), (.getfield 152, 3), (.ifCond .ne 16, 3), (.aload_n 3, 1), (.aload_n 0, 1), (.aload_n 3, 1), (.invokevirtual 155, 3), (.iload_n 2, 1), (.invokevirtual 165, 3), (.ifCond .ne 8, 3), (.aload_n 0, 1), (.invokevirtual 54, 3), (.ireturn, 1), (.aload_n 0, 1), (.aload_n 3, 1), (.getfield 169, 3), (.iload_n 1, 1), (.invokevirtual 58, 3), (.aload_n 3, 1), (.getfield 172, 3), (.ireturn, 1)] (by decide +kernel) (by decide +kernel)
theorem dCls_puts_0 : decode cCls_puts 0 = .ok (.aload_n 0, 1) := zfCls_puts_0.1
theorem dCls_puts_1 : decode cCls_puts 1 = .ok (.iload_n 1, 1) := zfCls_puts_0.2.1
theorem dCls_puts_2 : decode cCls_puts 2 = .ok (.invokevirtual 137, 3) := zfCls_puts_0.2.2.1
theorem dCls_puts_5 : decode cCls_puts 5 = .ok (.astore_n 3, 1) := zfCls_puts_0.2.2.2.1
theorem dCls_puts_6 : decode cCls_puts 6 = .ok (.iload_n 2, 1) := zfCls_puts_0.2.2.2.2.1
theorem dCls_puts_7 : decode cCls_puts 7 = .ok (.invokestatic 42, 3) := zfCls_puts_0.2.2.2.2.2.1
theorem dCls_puts_10 : decode cCls_puts 10 = .ok (.aload_n 3, 1) := zfCls_puts_0.2.2.2.2.2.2.1
theorem dCls_puts_11 : decode cCls_puts 11 = .ok (.invokestatic 148, 3) := zfCls_puts_0.2.2.2.2.2.2.2.1
theorem dCls_puts_14 : decode cCls_puts 14 = .ok (.aload_n 3, 1) := zfCls_puts_0.2.2.2.2.2.2.2.2.1
theorem dCls_puts_15 : decode cCls_puts 15 = .ok (.getfield 152, 3) := zfCls_puts_0.2.2.2.2.2.2.2.2.2.1
theorem dCls_puts_18 : decode cCls_puts 18 = .ok (.ifCond .ne 16, 3) := zfCls_puts_0.2.2.2.2.2.2.2.2.2.2.1
theorem dCls_puts_21 : decode cCls_puts 21 = .ok (.aload_n 3, 1) := zfCls_puts_0.2.2.2.2.2.2.2.2.2.2.2.1
theorem dCls_puts_22 : decode cCls_puts 22 = .ok (.aload_n 0, 1) := zfCls_puts_0.2.2.2.2.2.2.2.2.2.2.2.2.1
theorem dCls_puts_23 : decode cCls_puts 23 = .ok (.aload_n 3, 1) := zfCls_puts_0.2.2.2.2.2.2.2.2.2.2.2.2.2.1
theorem dCls_puts_24 : decode cCls_puts 24 = .ok (.invokevirtual 155, 3) := zfCls_puts_0.2.2.2.2.2.2.2.2.2.2.2.2.2.2.1
theorem dCls_puts_27 : decode cCls_puts 27 = .ok (.iload_n 2, 1) := zfCls_puts_0.2.2.2.2.2.2.2.2.2.2.2.2.2.2.2.1
theorem dCls_puts_28 : decode cCls_puts 28 = .ok (.invokevirtual 165, 3) := zfCls_puts_0.2.2.2.2.2.2.2.2.2.2.2.2.2.2.2.2.1
theorem dCls_puts_31 : decode cCls_puts 31 = .ok (.ifCond .ne 8, 3) := zfCls_puts_0.2.2.2.2.2.2.2.2.2.2.2.2.2.2.2.2.2.1
theorem dCls_puts_34 : decode cCls_puts 34 = .ok (.aload_n 0, 1) := zfCls_puts_0.2.2.2.2.2.2.2.2.2.2.2.2.2.2.2.2.2.2.1
theorem dCls_puts_35 : decode cCls_puts 35 = .ok (.invokevirtual 54, 3) := zfCls_puts_0.2.2.2.2.2.2.2.2.2.2.2.2.2.2.2.2.2.2.2.1
theorem dCls_puts_38 : decode cCls_puts 38 = .ok (.ireturn, 1) := zfCls_puts_0.2.2.2.2.2.2.2.2.2.2.2.2.2.2.2.2.2.2.2.2.1
theorem dCls_puts_39 : decode cCls_puts 39 = .ok (.aload_n 0, 1) := zfCls_puts_0.2.2.2.2.2.2.2.2.2.2.2.2.2.2.2.2.2.2.2.2.2.1
theorem dCls_puts_40 : decode cCls_puts 40 = .ok (.aload_n 3, 1) := zfCls_puts_0.2.2.2.2.2.2.2.2.2.2.2.2.2.2.2.2.2.2.2.2.2.2.1
theorem dCls_puts_41 : decode cCls_puts 41 = .ok (.getfield 169, 3) := zfCls_puts_0.2.2.2.2.2.2.2.2.2.2.2.2.2.2.2.2.2.2.2.2.2.2.2.1
theorem dCls_puts_44 : decode cCls_puts 44 = .ok (.iload_n 1, 1) := zfCls_puts_0.2.2.2.2.2.2.2.2.2.2.2.2.2.2.2.2.2.2.2.2.2.2.2.2.1
theorem dCls_puts_45 : decode cCls_puts 45 = .ok (.invokevirtual 58, 3) := zfCls_puts_0.2.2.2.2.2.2.2.2.2.2.2.2.2.2.2.2.2.2.2.2.2.2.2.2.2.1
theorem dCls_puts_48 : decode cCls_puts 48 = .ok (.aload_n 3, 1) := zfCls_puts_0.2.2.2.2.2.2.2.2.2.2.2.2.2.2.2.2.2.2.2.2.2.2.2.2.2.2.1
theorem dCls_puts_49 : decode cCls_puts 49 = .ok (.getfield 172, 3) := zfCls_puts_0.2.2.2.2.2.2.2.2.2.2.2.2.2.2.2.2.2.2.2.2.2.2.2.2.2.2.2.1
theorem dCls_puts_52 : decode cCls_puts 52 = .ok (.ireturn, 1) := zfCls_puts_0.2.2.2.2.2.2.2.2.2.2.2.2.2.2.2.2.2.2.2.2.2.2.2.2.2.2.2.2.1
theorem zfCls_cuts_0 : decode cCls_cuts 0 = .ok (.aload_n 0, 1) ∧ decode cCls_cuts 1 = .ok (.iload_n 1, 1) ∧ decode cCls_cuts 2 = .ok (.invokevirtual 137, 3) ∧ decode cCls_cuts 5 = .ok (.astore_n 2, 1) ∧ decode cCls_cuts 6 = .ok (.aload_n 2, 1) ∧ decode cCls_cuts 7 = .ok (.invokestatic 148, 3) ∧ decode cCls_cuts 10 = .ok (.aload_n 2, 1) ∧ decode cCls_cuts 11 = .ok (.getfield 152, 3) ∧ decode cCls_cuts 14 = .ok (.ifCond .ne 11, 3) ∧ decode cCls_cuts 17 = .ok (.aload_n 2, 1) ∧ decode cCls_cuts 18 = .ok (.getfield 175, 3) ∧ decode cCls_cuts 21 = .ok (.iconst (-1), 1) ∧ decode cCls_cuts 22 = .ok (.if_icmp .ne 8, 3) ∧ decode cCls_cuts 25 = .ok (.aload_n 0, 1) ∧ decode cCls_cuts 26 = .ok (.invokevirtual 54, 3) ∧ decode cCls_cuts 29 = .ok (.ireturn, 1) ∧ decode cCls_cuts 30 = .ok (.aload_n 2, 1) ∧ decode cCls_cuts 31 = .ok (.aload_n 0, 1) ∧ decode cCls_cuts 32 = .ok (.aload_n 2, 1) ∧ decode cCls_cuts 33 = .ok (.invokevirtual 155, 3) ∧ decode cCls_cuts 36 = .ok (.invokevirtual 178, 3) ∧ decode cCls_cuts 39 = .ok (.aload_n 0, 1) ∧ decode cCls_cuts 40 = .ok (.aload_n 2, 1) ∧ decode cCls_cuts 41 = .ok (.getfield 169, 3) ∧ decode cCls_cuts 44 = .ok (.iload_n 1, 1) ∧ decode cCls_cuts 45 = .ok (.invokevirtual 58, 3) ∧ decode cCls_cuts 48 = .ok (.aload_n 2, 1) ∧ decode cCls_cuts 49 = .ok (.getfield 172, 3) ∧ decode cCls_cuts 52 = .ok (.ireturn, 1) ∧ True := Jvm.Free.DS.facts (code := cCls_cuts) 0 [(.aload_n 0, 1), (.iload_n 1, 1), (.invokevirtual 137, 3), (.astore_n 2, 1), (.aload_n 2, 1), (.invokestatic 148, 3), (.aload_n 2, 1), (.getfield 152, 3), (.ifCond .ne 11, 3), (.aload_n 2, 1), (.getfield 175, 3), (.iconst (-1), 1), (.if_icmp .ne 8, 3), (.aload_n 0, 1), (.invokevirtual 54, 3), (.ireturn, 1), (.aload_n 2, 1), (.aload_n 0, 1), (.aload_n 2, 1), (.invokevirtual 155, 3), (.invokevirtual 178, 3), (.aload_n 0, 1), (.aload_n 2, 1), (.getfield 169, 3), (.iload_n 1, 1), (.invokevirtual 58, 3), (.aload_n 2, 1), (.getfield 172, 3), (.ireturn, 1)] (by decide +kernel) (by decide +kernel)
theorem dCls_cuts_0 : decode cCls_cuts 0 = .ok (.aload_n 0, 1) := zfCls_cuts_0.1
theorem dCls_cuts_1 : decode cCls_cuts 1 = .ok (.iload_n 1, 1) := zfCls_cuts_0.2.1
theorem dCls_cuts_2 : decode cCls_cuts 2 = .ok (.invokevirtual 137, 3) := zfCls_cuts_0.2.2.1
theorem dCls_cuts_5 : decode cCls_cuts 5 = .ok (.astore_n 2, 1) := zfCls_cuts_0.2.2.2.1
theorem dCls_cuts_6 : decode cCls_cuts 6 = .ok (.aload_n 2, 1) := zfCls_cuts_0.2.2.2.2.1
theorem dCls_cuts_7 : decode cCls_cuts 7 = .ok (.invokestatic 148, 3) := zfCls_cuts_0.2.2.2.2.2.1
theorem dCls_cuts_10 : decode cCls_cuts 10 = .ok (.aload_n 2, 1) := zfCls_cuts_0.2.2.2.2.2.2.1
theorem dCls_cuts_11 : decode cCls_cuts 11 = .ok (.getfield 152, 3) := zfCls_cuts_0.2.2.2.2.2.2.2.1
theorem dCls_cuts_14 : decode cCls_cuts 14 = .ok (.ifCond .ne 11, 3) := zfCls_cuts_0.2.2.2.2.2.2.2.2.1
theorem dCls_cuts_17 : decode cCls_cuts 17 = .ok (.aload_n 2, 1) := zfCls_cuts_0.2.2.2.2.2.2.2.2.2.1
theorem dCls_cuts_18 : decode cCls_cuts 18 = .ok (.getfield 175, 3) := zfCls_cuts_0.2.2.2.2.2.2.2.2.2.2.1
theorem dCls_cuts_21 : decode cCls_cuts 21 = .ok (.iconst (-1), 1) := zfCls_cuts_0.2.2.2.2.2.2.2.2.2.2.2.1
theorem dCls_cuts_22 : decode cCls_cuts 22 = .ok (.if_icmp .ne 8, 3) := zfCls_cuts_0.2.2.2.2.2.2.2.2.2.2.2.2.1
theorem dCls_cuts_25 : decode cCls_cuts 25 = .ok (.aload_n 0, 1) := zfCls_cuts_0.2.2.2.2.2.2.2.2.2.2.2.2.2.1
theorem dCls_cuts_26 : decode cCls_cuts 26 = .ok (.invokevirtual 54, 3) := zfCls_cuts_0.2.2.2.2.2.2.2.2.2.2.2.2.2.2.1
theorem dCls_cuts_29 : decode cCls_cuts 29 = .ok (.ireturn, 1) := zfCls_cuts_0.2.2.2.2.2.2.2.2.2.2.2.2.2.2.2.1
theorem dCls_cuts_30 : decode cCls_cuts 30 = .ok (.aload_n 2, 1) := zfCls_cuts_0.2.2.2.2.2.2.2.2.2.2.2.2.2.2.2.2.1
theorem dCls_cuts_31 : decode cCls_cuts 31 = .ok (.aload_n 0, 1) := zfCls_cuts_0.2.2.2.2.2.2.2.2.2.2.2.2.2.2.2.2.2.1
theorem dCls_cuts_32 : decode cCls_cuts 32 = .ok (.aload_n 2, 1) := zfCls_cuts_0.2.2.2.2.2.2.2.2.2.2.2.2.2.2.2.2.2.2.1
theorem dCls_cuts_33 : decode cCls_cuts 33 = .ok (.invokevirtual 155, 3) := zfCls_cuts_0.2.2.2.2.2.2.2.2.2.2.2.2.2.2.2.2.2.2.2.1
theorem dCls_cuts_36 : decode cCls_cuts 36 = .ok (.invokevirtual 178, 3) := zfCls_cuts_0.2.2.2.2.2.2.2.2.2.2.2.2.2.2.2.2.2.2.2.2.1
theorem dCls_cuts_39 : decode cCls_cuts 39 = .ok (.aload_n 0, 1) := zfCls_cuts_0.2.2.2.2.2.2.2.2.2.2.2.2.2.2.2.2.2.2.2.2.2.1
theorem dCls_cuts_40 : decode cCls_cuts 40 = .ok (.aload_n 2, 1) := zfCls_cuts_0.2.2.2.2.2.2.2.2.2.2.2.2.2.2.2.2.2.2.2.2.2.2.1
theorem dCls_cuts_41 : decode cCls_cuts 41 = .ok (.getfield 169, 3) := zfCls_cuts_0.2.2.2.2.2.2.2.2.2.2.2.2.2.2.2.2.2.2.2.2.2.2.2.1
theorem dCls_cuts_44 : decode cCls_cuts 44 = .ok (.iload_n 1, 1) := zfCls_cuts_0.2.2.2.2.2.2.2.2.2.2.2.2.2.2.2.2.2.2.2.2.2.2.2.2.1
theorem dCls_cuts_45 : decode cCls_cuts 45 = .ok (.invokevirtual 58, 3) := zfCls_cuts_0.2.2.2.2.2.2.2.2.2.2.2.2.2.2.2.2.2.2.2.2.2.2.2.2.2.1
theorem dCls_cuts_48 : decode cCls_cuts 48 = .ok (.aload_n 2, 1) := zfCls_cuts_0.2.2.2.2.2.2.2.2.2.2.2.2.2.2.2.2.2.2.2.2.2.2.2.2.2.2.1
theorem dCls_cuts_49 : decode cCls_cuts 49 = .ok (.getfield 172, 3) := zfCls_cuts_0.2.2.2.2.2.2.2.2.2.2.2.2.2.2.2.2.2.2.2.2.2.2.2.2.2.2.2.1
theorem dCls_cuts_52 : decode cCls_cuts 52 = .ok (.ireturn, 1) := zfCls_cuts_0.2.2.2.2.2.2.2.2.2.2.2.2.2.2.2.2.2.2.2.2.2.2.2.2.2.2.2.2.1
theorem zfCls_changes_0 : decode cCls_changes 0 = .ok (.aload_n 0, 1) ∧ decode cCls_changes 1 = .ok (.iload_n 1, 1) ∧ decode cCls_changes 2 = .ok (.invokevirtual 137, 3) ∧ decode cCls_changes 5 = .ok (.astore_n 3, 1) ∧ decode cCls_changes 6 = .ok (.iload_n 2, 1) ∧ decode cCls_changes 7 = .ok (.invokestatic 42, 3) ∧ decode cCls_changes 10 = .ok (.aload_n 3, 1) ∧ decode cCls_changes 11 = .ok (.invokestatic 148, 3) ∧ decode cCls_changes 14 = .ok (.aload_n 3, 1) ∧ decode cCls_changes 15 = .ok (.getfield 152, 3) ∧ decode cCls_changes 18 = .ok (.ifCond .ne 11, 3) ∧ decode cCls_changes 21 = .ok (.aload_n 3, 1) ∧ decode cCls_changes 22 = .ok (.getfield 175, 3) ∧ decode cCls_changes 25 = .ok (.iconst (-1), 1) ∧ decode cCls_changes 26 = .ok (.if_icmp .ne 8, 3) ∧ decode cCls_changes 29 = .ok (.aload_n 0, 1) ∧ decode cCls_changes 30 = .ok (.invokevirtual 54, 3) ∧ decode cCls_changes 33 = .ok (.ireturn, 1) ∧ decode cCls_changes 34 = .ok (.aload_n 0, 1) ∧ True := Jvm.Free.DS.facts (code := cCls_changes) 0 [(.aload_n 0, 1), (.iload_n 1, 1), (.invokevirtual 137, 3), (.astore_n 3, 1), (.iload_n 2, 1), (.invokestatic 42, 3), (.aload_n 3, 1), (.invokestatic 148, 3), (.aload_n 3, 1), (.getfield 152, 3), (.ifCond .ne 11, 3), (.aload_n 3, 1), (.getfield 175, 3), (.iconst (-1), 1), (.if_icmp .ne 8, 3), (.aload_n 0, 1), (.invokevirtual 54, 3), (.ireturn, 1), (.aload_n 0, 1)] (by decide +kernel) (by decide +kernel)
theorem dCls_changes_0 : decode cCls_changes 0 = .ok (.aload_n 0, 1) := zfCls_changes_0.1
theorem dCls_changes_1 : decode cCls_changes 1 = .ok (.iload_n 1, 1) := zfCls_changes_0.2.1
theorem dCls_changes_2 : decode cCls_changes 2 = .ok (.invokevirtual 137, 3) := zfCls_changes_0.2.2.1
theorem dCls_changes_5 : decode cCls_changes 5 = .ok (.astore_n 3, 1) := zfCls_changes_0.2.2.2.1
theorem dCls_changes_6 : decode cCls_changes 6 = .ok (.iload_n 2, 1) := zfCls_changes_0.2.2.2.2.1
theorem dCls_changes_7 : decode cCls_changes 7 = .ok (.invokestatic 42, 3) := zfCls_changes_0.2.2.2.2.2.1
theorem dCls_changes_10 : decode cCls_changes 10 = .ok (.aload_n 3, 1) := zfCls_changes_0.2.2.2.2.2.2.1
theorem dCls_changes_11 : decode cCls_changes 11 = .ok (.invokestatic 148, 3) := zfCls_changes_0.2.2.2.2.2.2.2.1
theorem dCls_changes_14 : decode cCls_changes 14 = .ok (.aload_n 3, 1) := zfCls_changes_0.2.2.2.2.2.2.2.2.1
theorem dCls_changes_15 : decode cCls_changes 15 = .ok (.getfield 152, 3) := zfCls_changes_0.2.2.2.2.2.2.2.2.2.1
theorem dCls_changes_18 : decode cCls_changes 18 = .ok (.ifCond .ne 11, 3) := zfCls_changes_0.2.2.2.2.2.2.2.2.2.2.1
theorem dCls_changes_21 : decode cCls_changes 21 = .ok (.aload_n 3, 1) := zfCls_changes_0.2.2.2.2.2.2.2.2.2.2.2.1
theorem dCls_changes_22 : decode cCls_changes 22 = .ok (.getfield 175, 3) := zfCls_changes_0.2.2.2.2.2.2.2.2.2.2.2.2.1
theorem dCls_changes_25 : decode cCls_changes 25 = .ok (.iconst (-1), 1) := zfCls_changes_0.2.2.2.2.2.2.2.2.2.2.2.2.2.1
theorem dCls_changes_26 : decode cCls_changes 26 = .ok (.if_icmp .ne 8, 3) := zfCls_changes_0.2.2.2.2.2.2.2.2.2.2.2.2.2.2.1
theorem dCls_changes_29 : decode cCls_changes 29 = .ok (.aload_n 0, 1) := zfCls_changes_0.2.2.2.2.2.2.2.2.2.2.2.2.2.2.2.1
theorem dCls_changes_30 : decode cCls_changes 30 = .ok (.invokevirtual 54, 3) := zfCls_changes_0.2.2.2.2.2.2.2.2.2.2.2.2.2.2.2.2.1
theorem dCls_changes_33 : decode cCls_changes 33 = .ok (.ireturn, 1) := zfCls_changes_0.2.2.2.2.2.2.2.2.2.2.2.2.2.2.2.2.2.1
theorem dCls_changes_34 : decode cCls_changes 34 = .ok (.aload_n 0, 1) := zfCls_changes_0.2.2.2.2.2.2.2.2.2.2.2.2.2.2.2.2.2.2.1
