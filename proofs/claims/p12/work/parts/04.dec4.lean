theorem zfSbd_append_bf812_2 : decode cSbd_append_bf812 2 = .ok (.invokespecial 53, 3) ∧ decode cSbd_append_bf812 5 = .ok (.pop, 1) ∧ decode cSbd_append_bf812 6 = .ok (.aload_n 0, 1) ∧ decode cSbd_append_bf812 7 = .ok (.areturn, 1) ∧ True := Jvm.Free.DS.facts (code := cSbd_append_bf812) 2 [(.invokespecial 53, 3), (.pop, 1), (.aload_n 0, 1), (.areturn, 1)] (by decide +kernel) (by decide +kernel)
theorem dSbd_append_bf812_2 : decode cSbd_append_bf812 2 = .ok (.invokespecial 53, 3) := zfSbd_append_bf812_2.1
theorem dSbd_append_bf812_5 : decode cSbd_append_bf812 5 = .ok (.pop, 1) := zfSbd_append_bf812_2.2.1
theorem dSbd_append_bf812_6 : decode cSbd_append_bf812 6 = .ok (.aload_n 0, 1) := zfSbd_append_bf812_2.2.2.1
theorem dSbd_append_bf812_7 : decode cSbd_append_bf812 7 = .ok (.areturn, 1) := zfSbd_append_bf812_2.2.2.2.1
theorem zfSbd_toString_0e30d_0 : decode cSbd_toString_0e30d 0 = .ok (.new 18, 3) ∧ decode cSbd_toString_0e30d 3 = .ok (.dup, 1) ∧ decode cSbd_toString_0e30d 4 = .ok (.aload_n 0, 1) ∧ decode cSbd_toString_0e30d 5 = .ok (.invokespecial 137, 3) ∧ decode cSbd_toString_0e30d 8 = .ok (.areturn, 1) ∧ True := Jvm.Free.DS.facts (code := cSbd_toString_0e30d) 0 [(.new 18, 3), (.dup, 1), (.aload_n 0, 1), (.invokespecial 137, 3), (.areturn, 1)] (by decide +kernel) (by decide +kernel)
theorem dSbd_toString_0e30d_0 : decode cSbd_toString_0e30d 0 = .ok (.new 18, 3) := zfSbd_toString_0e30d_0.1
theorem dSbd_toString_0e30d_3 : decode cSbd_toString_0e30d 3 = .ok (.dup, 1) := zfSbd_toString_0e30d_0.2.1
theorem dSbd_toString_0e30d_4 : decode cSbd_toString_0e30d 4 = .ok (.aload_n 0, 1) := zfSbd_toString_0e30d_0.2.2.1
theorem dSbd_toString_0e30d_5 : decode cSbd_toString_0e30d 5 = .ok (.invokespecial 137, 3) := zfSbd_toString_0e30d_0.2.2.2.1
theorem dSbd_toString_0e30d_8 : decode cSbd_toString_0e30d 8 = .ok (.areturn, 1) := zfSbd_toString_0e30d_0.2.2.2.2.1
theorem zfSbd_length_8abf5_0 : decode cSbd_length_8abf5 0 = .ok (.aload_n 0, 1) ∧ decode cSbd_length_8abf5 1 = .ok (.invokespecial 343, 3) ∧ decode cSbd_length_8abf5 4 = .ok (.ireturn, 1) ∧ True := Jvm.Free.DS.facts (code := cSbd_length_8abf5) 0 [(.aload_n 0, 1), (.invokespecial 343, 3), (.ireturn, 1)] (by decide +kernel) (by decide +kernel)
theorem dSbd_length_8abf5_0 : decode cSbd_length_8abf5 0 = .ok (.aload_n 0, 1) := zfSbd_length_8abf5_0.1
theorem dSbd_length_8abf5_1 : decode cSbd_length_8abf5 1 = .ok (.invokespecial 343, 3) := zfSbd_length_8abf5_0.2.1
theorem dSbd_length_8abf5_4 : decode cSbd_length_8abf5 4 = .ok (.ireturn, 1) := zfSbd_length_8abf5_0.2.2.1
theorem zfLat_canEncode_fc78d_0 : decode cLat_canEncode_fc78d 0 = .ok (.iload_n 0, 1) ∧ decode cLat_canEncode_fc78d 1 = .ok (.sipush 255, 3) ∧ decode cLat_canEncode_fc78d 4 = .ok (.if_icmp .gt 7, 3) ∧ decode cLat_canEncode_fc78d 7 = .ok (.iconst 1, 1) ∧ decode cLat_canEncode_fc78d 8 = .ok (.goto 4, 3) ∧ decode cLat_canEncode_fc78d 11 = .ok (.iconst 0, 1) ∧ decode cLat_canEncode_fc78d 12 = .ok (.ireturn, 1) ∧ True := Jvm.Free.DS.facts (code := cLat_canEncode_fc78d) 0 [(.iload_n 0, 1), (.sipush 255, 3), (.if_icmp .gt 7, 3), (.iconst 1, 1), (.goto 4, 3), (.iconst 0, 1), (.ireturn, 1)] (by decide +kernel) (by decide +kernel)
theorem dLat_canEncode_fc78d_0 : decode cLat_canEncode_fc78d 0 = .ok (.iload_n 0, 1) := zfLat_canEncode_fc78d_0.1
theorem dLat_canEncode_fc78d_1 : decode cLat_canEncode_fc78d 1 = .ok (.sipush 255, 3) := zfLat_canEncode_fc78d_0.2.1
theorem dLat_canEncode_fc78d_4 : decode cLat_canEncode_fc78d 4 = .ok (.if_icmp .gt 7, 3) := zfLat_canEncode_fc78d_0.2.2.1
theorem dLat_canEncode_fc78d_7 : decode cLat_canEncode_fc78d 7 = .ok (.iconst 1, 1) := zfLat_canEncode_fc78d_0.2.2.2.1
theorem dLat_canEncode_fc78d_8 : decode cLat_canEncode_fc78d 8 = .ok (.goto 4, 3) := zfLat_canEncode_fc78d_0.2.2.2.2.1
theorem dLat_canEncode_fc78d_11 : decode cLat_canEncode_fc78d 11 = .ok (.iconst 0, 1) := zfLat_canEncode_fc78d_0.2.2.2.2.2.1
theorem dLat_canEncode_fc78d_12 : decode cLat_canEncode_fc78d 12 = .ok (.ireturn, 1) := zfLat_canEncode_fc78d_0.2.2.2.2.2.2.1
theorem zfLat_inflate_0e8fd_0 : decode cLat_inflate_0e8fd 0 = .ok (.aload_n 0, 1) ∧ decode cLat_inflate_0e8fd 1 = .ok (.iload_n 1, 1) ∧ decode cLat_inflate_0e8fd 2 = .ok (.aload_n 2, 1) ∧ decode cLat_inflate_0e8fd 3 = .ok (.iload_n 3, 1) ∧ decode cLat_inflate_0e8fd 4 = .ok (.iload 4, 2) ∧ decode cLat_inflate_0e8fd 6 = .ok (.invokestatic 240, 3) ∧ decode cLat_inflate_0e8fd 9 = .ok (.return_, 1) ∧ True := Jvm.Free.DS.facts (code := cLat_inflate_0e8fd) 0 [(.aload_n 0, 1), (.iload_n 1, 1), (.aload_n 2, 1), (.iload_n 3, 1), (.iload 4, 2), (.invokestatic 240, 3), (.return_, 1)] (by decide +kernel) (by decide +kernel)
theorem dLat_inflate_0e8fd_0 : decode cLat_inflate_0e8fd 0 = .ok (.aload_n 0, 1) := zfLat_inflate_0e8fd_0.1
theorem dLat_inflate_0e8fd_1 : decode cLat_inflate_0e8fd 1 = .ok (.iload_n 1, 1) := zfLat_inflate_0e8fd_0.2.1
theorem dLat_inflate_0e8fd_2 : decode cLat_inflate_0e8fd 2 = .ok (.aload_n 2, 1) := zfLat_inflate_0e8fd_0.2.2.1
theorem dLat_inflate_0e8fd_3 : decode cLat_inflate_0e8fd 3 = .ok (.iload_n 3, 1) := zfLat_inflate_0e8fd_0.2.2.2.1
theorem dLat_inflate_0e8fd_4 : decode cLat_inflate_0e8fd 4 = .ok (.iload 4, 2) := zfLat_inflate_0e8fd_0.2.2.2.2.1
theorem dLat_inflate_0e8fd_6 : decode cLat_inflate_0e8fd 6 = .ok (.invokestatic 240, 3) := zfLat_inflate_0e8fd_0.2.2.2.2.2.1
theorem dLat_inflate_0e8fd_9 : decode cLat_inflate_0e8fd 9 = .ok (.return_, 1) := zfLat_inflate_0e8fd_0.2.2.2.2.2.2.1
theorem zfUtf_newBytesFor_77867_0 : decode cUtf_newBytesFor_77867 0 = .ok (.iload_n 0, 1) ∧ decode cUtf_newBytesFor_77867 1 = .ok (.invokestatic 11, 3) ∧ decode cUtf_newBytesFor_77867 4 = .ok (.newarray .byte, 2) ∧ decode cUtf_newBytesFor_77867 6 = .ok (.areturn, 1) ∧ True := Jvm.Free.DS.facts (code := cUtf_newBytesFor_77867) 0 [(.iload_n 0, 1), (.invokestatic 11, 3), (.newarray .byte, 2), (.areturn, 1)] (by decide +kernel) (by decide +kernel)
theorem dUtf_newBytesFor_77867_0 : decode cUtf_newBytesFor_77867 0 = .ok (.iload_n 0, 1) := zfUtf_newBytesFor_77867_0.1
theorem dUtf_newBytesFor_77867_1 : decode cUtf_newBytesFor_77867 1 = .ok (.invokestatic 11, 3) := zfUtf_newBytesFor_77867_0.2.1
theorem dUtf_newBytesFor_77867_4 : decode cUtf_newBytesFor_77867 4 = .ok (.newarray .byte, 2) := zfUtf_newBytesFor_77867_0.2.2.1
theorem dUtf_newBytesFor_77867_6 : decode cUtf_newBytesFor_77867 6 = .ok (.areturn, 1) := zfUtf_newBytesFor_77867_0.2.2.2.1
theorem zfUtf_newBytesLength_0f7a4_0 : decode cUtf_newBytesLength_0f7a4 0 = .ok (.iload_n 0, 1) ∧ decode cUtf_newBytesLength_0f7a4 1 = .ok (.ifCond .ge 11, 3) ∧ decode cUtf_newBytesLength_0f7a4 4 = .ok (.new 17, 3) ∧ decode cUtf_newBytesLength_0f7a4 7 = .ok (.dup, 1) ∧ decode cUtf_newBytesLength_0f7a4 8 = .ok (.invokespecial 19, 3) ∧ decode cUtf_newBytesLength_0f7a4 11 = .ok (.athrow, 1) ∧ decode cUtf_newBytesLength_0f7a4 12 = .ok (.iload_n 0, 1) ∧ decode cUtf_newBytesLength_0f7a4 13 = .ok (.ldc 20, 2) ∧ decode cUtf_newBytesLength_0f7a4 15 = .ok (.if_icmp .lt 40, 3) ∧ decode cUtf_newBytesLength_0f7a4 18 = .ok (.new 21, 3) ∧ decode cUtf_newBytesLength_0f7a4 21 = .ok (.dup, 1) ∧ decode cUtf_newBytesLength_0f7a4 22 = .ok (.new 23, 3) ∧ decode cUtf_newBytesLength_0f7a4 25 = .ok (.dup, 1) ∧ decode cUtf_newBytesLength_0f7a4 26 = .ok (.invokespecial 25, 3) ∧ decode cUtf_newBytesLength_0f7a4 29 = .ok (.ldc 26, 2) ∧ decode cUtf_newBytesLength_0f7a4 31 = .ok (.invokevirtual 28, 3) ∧ decode cUtf_newBytesLength_0f7a4 34 = .ok (.iload_n 0, 1) ∧ decode cUtf_newBytesLength_0f7a4 35 = .ok (.invokevirtual 32, 3) ∧ decode cUtf_newBytesLength_0f7a4 38 = .ok (.ldc 35, 2) ∧ decode cUtf_newBytesLength_0f7a4 40 = .ok (.invokevirtual 28, 3) ∧ decode cUtf_newBytesLength_0f7a4 43 = .ok (.ldc 20, 2) ∧ decode cUtf_newBytesLength_0f7a4 45 = .ok (.invokevirtual 32, 3) ∧ decode cUtf_newBytesLength_0f7a4 48 = .ok (.invokevirtual 37, 3) ∧ decode cUtf_newBytesLength_0f7a4 51 = .ok (.invokespecial 41, 3) ∧ decode cUtf_newBytesLength_0f7a4 54 = .ok (.athrow, 1) ∧ decode cUtf_newBytesLength_0f7a4 55 = .ok (.iload_n 0, 1) ∧ decode cUtf_newBytesLength_0f7a4 56 = .ok (.iconst 1, 1) ∧ decode cUtf_newBytesLength_0f7a4 57 = .ok (.ishl, 1) ∧ decode cUtf_newBytesLength_0f7a4 58 = .ok (.ireturn, 1) ∧ True := Jvm.Free.DS.facts (code := cUtf_newBytesLength_0f7a4) 0 [(.iload_n 0, 1), (.ifCond .ge 11, 3), (.new 17, 3), (.dup, 1), (.invokespecial 19, 3), (.athrow, 1), (.iload_n 0, 1), (.ldc 20, 2), (.if_icmp .lt 40, 3), (.new 21, 3), (.dup, 1), (.new 23, 3), (.dup, 1), (.invokespecial 25, 3), (.ldc 26, 2), (.invokevirtual 28, 3), (.iload_n 0, 1), (.invokevirtual 32, 3), (.ldc 35, 2), (.invokevirtual 28, 3), (.ldc 20, 2), (.invokevirtual 32, 3), (.invokevirtual 37, 3), (.invokespecial 41, 3), (.athrow, 1), (.iload_n 0, 1), (.iconst 1, 1), (.ishl, 1), (.ireturn, 1)] (by decide +kernel) (by decide +kernel)
theorem dUtf_newBytesLength_0f7a4_0 : decode cUtf_newBytesLength_0f7a4 0 = .ok (.iload_n 0, 1) := zfUtf_newBytesLength_0f7a4_0.1
theorem dUtf_newBytesLength_0f7a4_1 : decode cUtf_newBytesLength_0f7a4 1 = .ok (.ifCond .ge 11, 3) := zfUtf_newBytesLength_0f7a4_0.2.1
theorem dUtf_newBytesLength_0f7a4_4 : decode cUtf_newBytesLength_0f7a4 4 = .ok (.new 17, 3) := zfUtf_newBytesLength_0f7a4_0.2.2.1
theorem dUtf_newBytesLength_0f7a4_7 : decode cUtf_newBytesLength_0f7a4 7 = .ok (.dup, 1) := zfUtf_newBytesLength_0f7a4_0.2.2.2.1
theorem dUtf_newBytesLength_0f7a4_8 : decode cUtf_newBytesLength_0f7a4 8 = .ok (.invokespecial 19, 3) := zfUtf_newBytesLength_0f7a4_0.2.2.2.2.1
theorem dUtf_newBytesLength_0f7a4_11 : decode cUtf_newBytesLength_0f7a4 11 = .ok (.athrow, 1) := zfUtf_newBytesLength_0f7a4_0.2.2.2.2.2.1
theorem dUtf_newBytesLength_0f7a4_12 : decode cUtf_newBytesLength_0f7a4 12 = .ok (.iload_n 0, 1) := zfUtf_newBytesLength_0f7a4_0.2.2.2.2.2.2.1
theorem dUtf_newBytesLength_0f7a4_13 : decode cUtf_newBytesLength_0f7a4 13 = .ok (.ldc 20, 2) := zfUtf_newBytesLength_0f7a4_0.2.2.2.2.2.2.2.1
theorem dUtf_newBytesLength_0f7a4_15 : decode cUtf_newBytesLength_0f7a4 15 = .ok (.if_icmp .lt 40, 3) := zfUtf_newBytesLength_0f7a4_0.2.2.2.2.2.2.2.2.1
theorem dUtf_newBytesLength_0f7a4_18 : decode cUtf_newBytesLength_0f7a4 18 = .ok (.new 21, 3) := zfUtf_newBytesLength_0f7a4_0.2.2.2.2.2.2.2.2.2.1
theorem dUtf_newBytesLength_0f7a4_21 : decode cUtf_newBytesLength_0f7a4 21 = .ok (.dup, 1) := zfUtf_newBytesLength_0f7a4_0.2.2.2.2.2.2.2.2.2.2.1
theorem dUtf_newBytesLength_0f7a4_22 : decode cUtf_newBytesLength_0f7a4 22 = .ok (.new 23, 3) := zfUtf_newBytesLength_0f7a4_0.2.2.2.2.2.2.2.2.2.2.2.1
theorem dUtf_newBytesLength_0f7a4_25 : decode cUtf_newBytesLength_0f7a4 25 = .ok (.dup, 1) := zfUtf_newBytesLength_0f7a4_0.2.2.2.2.2.2.2.2.2.2.2.2.1
theorem dUtf_newBytesLength_0f7a4_26 : decode cUtf_newBytesLength_0f7a4 26 = .ok (.invokespecial 25, 3) := zfUtf_newBytesLength_0f7a4_0.2.2.2.2.2.2.2.2.2.2.2.2.2.1
theorem dUtf_newBytesLength_0f7a4_29 : decode cUtf_newBytesLength_0f7a4 29 = .ok (.ldc 26, 2) := zfUtf_newBytesLength_0f7a4_0.2.2.2.2.2.2.2.2.2.2.2.2.2.2.1
theorem dUtf_newBytesLength_0f7a4_31 : decode cUtf_newBytesLength_0f7a4 31 = .ok (.invokevirtual 28, 3) := zfUtf_newBytesLength_0f7a4_0.2.2.2.2.2.2.2.2.2.2.2.2.2.2.2.1
theorem dUtf_newBytesLength_0f7a4_34 : decode cUtf_newBytesLength_0f7a4 34 = .ok (.iload_n 0, 1) := zfUtf_newBytesLength_0f7a4_0.2.2.2.2.2.2.2.2.2.2.2.2.2.2.2.2.1
theorem dUtf_newBytesLength_0f7a4_35 : decode cUtf_newBytesLength_0f7a4 35 = .ok (.invokevirtual 32, 3) := zfUtf_newBytesLength_0f7a4_0.2.2.2.2.2.2.2.2.2.2.2.2.2.2.2.2.2.1
theorem dUtf_newBytesLength_0f7a4_38 : decode cUtf_newBytesLength_0f7a4 38 = .ok (.ldc 35, 2) := zfUtf_newBytesLength_0f7a4_0.2.2.2.2.2.2.2.2.2.2.2.2.2.2.2.2.2.2.1
theorem dUtf_newBytesLength_0f7a4_40 : decode cUtf_newBytesLength_0f7a4 40 = .ok (.invokevirtual 28, 3) := zfUtf_newBytesLength_0f7a4_0.2.2.2.2.2.2.2.2.2.2.2.2.2.2.2.2.2.2.2.1
theorem dUtf_newBytesLength_0f7a4_43 : decode cUtf_newBytesLength_0f7a4 43 = .ok (.ldc 20, 2) := zfUtf_newBytesLength_0f7a4_0.2.2.2.2.2.2.2.2.2.2.2.2.2.2.2.2.2.2.2.2.1
theorem dUtf_newBytesLength_0f7a4_45 : decode cUtf_newBytesLength_0f7a4 45 = .ok (.invokevirtual 32, 3) := zfUtf_newBytesLength_0f7a4_0.2.2.2.2.2.2.2.2.2.2.2.2.2.2.2.2.2.2.2.2.2.1
theorem dUtf_newBytesLength_0f7a4_48 : decode cUtf_newBytesLength_0f7a4 48 = .ok (.invokevirtual 37, 3) := zfUtf_newBytesLength_0f7a4_0.2.2.2.2.2.2.2.2.2.2.2.2.2.2.2.2.2.2.2.2.2.2.1
theorem dUtf_newBytesLength_0f7a4_51 : decode cUtf_newBytesLength_0f7a4 51 = .ok (.invokespecial 41, 3) := zfUtf_newBytesLength_0f7a4_0.2.2.2.2.2.2.2.2.2.2.2.2.2.2.2.2.2.2.2.2.2.2.2.1
theorem dUtf_newBytesLength_0f7a4_54 : decode cUtf_newBytesLength_0f7a4 54 = .ok (.athrow, 1) := zfUtf_newBytesLength_0f7a4_0.2.2.2.2.2.2.2.2.2.2.2.2.2.2.2.2.2.2.2.2.2.2.2.2.1
theorem dUtf_newBytesLength_0f7a4_55 : decode cUtf_newBytesLength_0f7a4 55 = .ok (.iload_n 0, 1) := zfUtf_newBytesLength_0f7a4_0.2.2.2.2.2.2.2.2.2.2.2.2.2.2.2.2.2.2.2.2.2.2.2.2.2.1
theorem dUtf_newBytesLength_0f7a4_56 : decode cUtf_newBytesLength_0f7a4 56 = .ok (.iconst 1, 1) := zfUtf_newBytesLength_0f7a4_0.2.2.2.2.2.2.2.2.2.2.2.2.2.2.2.2.2.2.2.2.2.2.2.2.2.2.1
theorem dUtf_newBytesLength_0f7a4_57 : decode cUtf_newBytesLength_0f7a4 57 = .ok (.ishl, 1) := zfUtf_newBytesLength_0f7a4_0.2.2.2.2.2.2.2.2.2.2.2.2.2.2.2.2.2.2.2.2.2.2.2.2.2.2.2.1
theorem dUtf_newBytesLength_0f7a4_58 : decode cUtf_newBytesLength_0f7a4 58 = .ok (.ireturn, 1) := zfUtf_newBytesLength_0f7a4_0.2.2.2.2.2.2.2.2.2.2.2.2.2.2.2.2.2.2.2.2.2.2.2.2.2.2.2.2.1
theorem zfUtf_putChar_b72d1_0 : decode cUtf_putChar_b72d1 0 = .ok (.getstatic 44, 3) ∧ decode cUtf_putChar_b72d1 3 = .ok (.ifCond .ne 25, 3) ∧ decode cUtf_putChar_b72d1 6 = .ok (.iload_n 1, 1) ∧ decode cUtf_putChar_b72d1 7 = .ok (.ifCond .lt 11, 3) ∧ decode cUtf_putChar_b72d1 10 = .ok (.iload_n 1, 1) ∧ decode cUtf_putChar_b72d1 11 = .ok (.aload_n 0, 1) ∧ decode cUtf_putChar_b72d1 12 = .ok (.invokestatic 48, 3) ∧ decode cUtf_putChar_b72d1 15 = .ok (.if_icmp .lt 13, 3) ∧ decode cUtf_putChar_b72d1 18 = .ok (.new 52, 3) ∧ decode cUtf_putChar_b72d1 21 = .ok (.dup, 1) ∧ decode cUtf_putChar_b72d1 22 = .ok (.ldc 54, 2) ∧ decode cUtf_putChar_b72d1 24 = .ok (.invokespecial 56, 3) ∧ decode cUtf_putChar_b72d1 27 = .ok (.athrow, 1) ∧ decode cUtf_putChar_b72d1 28 = .ok (.iload_n 1, 1) ∧ decode cUtf_putChar_b72d1 29 = .ok (.iconst 1, 1) ∧ decode cUtf_putChar_b72d1 30 = .ok (.ishl, 1) ∧ decode cUtf_putChar_b72d1 31 = .ok (.istore_n 1, 1) ∧ decode cUtf_putChar_b72d1 32 = .ok (.aload_n 0, 1) ∧ decode cUtf_putChar_b72d1 33 = .ok (.iload_n 1, 1) ∧ decode cUtf_putChar_b72d1 34 = .ok (.iinc 1 1, 3) ∧ decode cUtf_putChar_b72d1 37 = .ok (.iload_n 2, 1) ∧ decode cUtf_putChar_b72d1 38 = .ok (.getstatic 59, 3) ∧ decode cUtf_putChar_b72d1 41 = .ok (.ishr, 1) ∧ decode cUtf_putChar_b72d1 42 = .ok (.i2b, 1) ∧ decode cUtf_putChar_b72d1 43 = .ok (.bastore, 1) ∧ decode cUtf_putChar_b72d1 44 = .ok (.aload_n 0, 1) ∧ decode cUtf_putChar_b72d1 45 = .ok (.iload_n 1, 1) ∧ decode cUtf_putChar_b72d1 46 = .ok (.iload_n 2, 1) ∧ decode cUtf_putChar_b72d1 47 = .ok (.getstatic 63, 3) ∧ decode cUtf_putChar_b72d1 50 = .ok (.ishr, 1) ∧ decode cUtf_putChar_b72d1 51 = .ok (.i2b, 1) ∧ decode cUtf_putChar_b72d1 52 = .ok (.bastore, 1) ∧ True := Jvm.Free.DS.facts (code := cUtf_putChar_b72d1) 0 [(.getstatic 44, 3), (.ifCond .ne 25, 3), (.iload_n 1, 1), (.ifCond .lt 11, 3), (.iload_n 1, 1), (.aload_n 0, 1), (.invokestatic 48, 3), (.if_icmp .lt 13, 3), (.new 52, 3), (.dup, 1), (.ldc 54, 2), (.invokespecial 56, 3), (.athrow, 1), (.iload_n 1, 1), (.iconst 1, 1), (.ishl, 1), (.istore_n 1, 1), (.aload_n 0, 1), (.iload_n 1, 1), (.iinc 1 1, 3), (.iload_n 2, 1), (.getstatic 59, 3), (.ishr, 1), (.i2b, 1), (.bastore, 1), (.aload_n 0, 1), (.iload_n 1, 1), (.iload_n 2, 1), (.getstatic 63, 3), (.ishr, 1), (.i2b, 1), (.bastore, 1)] (by decide +kernel) (by decide +kernel)
theorem dUtf_putChar_b72d1_0 : decode cUtf_putChar_b72d1 0 = .ok (.getstatic 44, 3) := zfUtf_putChar_b72d1_0.1
theorem dUtf_putChar_b72d1_3 : decode cUtf_putChar_b72d1 3 = .ok (.ifCond .ne 25, 3) := zfUtf_putChar_b72d1_0.2.1
theorem dUtf_putChar_b72d1_6 : decode cUtf_putChar_b72d1 6 = .ok (.iload_n 1, 1) := zfUtf_putChar_b72d1_0.2.2.1
theorem dUtf_putChar_b72d1_7 : decode cUtf_putChar_b72d1 7 = .ok (.ifCond .lt 11, 3) := zfUtf_putChar_b72d1_0.2.2.2.1
theorem dUtf_putChar_b72d1_10 : decode cUtf_putChar_b72d1 10 = .ok (.iload_n 1, 1) := zfUtf_putChar_b72d1_0.2.2.2.2.1
theorem dUtf_putChar_b72d1_11 : decode cUtf_putChar_b72d1 11 = .ok (.aload_n 0, 1) := zfUtf_putChar_b72d1_0.2.2.2.2.2.1
theorem dUtf_putChar_b72d1_12 : decode cUtf_putChar_b72d1 12 = .ok (.invokestatic 48, 3) := zfUtf_putChar_b72d1_0.2.2.2.2.2.2.1
theorem dUtf_putChar_b72d1_15 : decode cUtf_putChar_b72d1 15 = .ok (.if_icmp .lt 13, 3) := zfUtf_putChar_b72d1_0.2.2.2.2.2.2.2.1
theorem dUtf_putChar_b72d1_18 : decode cUtf_putChar_b72d1 18 = .ok (.new 52, 3) := zfUtf_putChar_b72d1_0.2.2.2.2.2.2.2.2.1
theorem dUtf_putChar_b72d1_21 : decode cUtf_putChar_b72d1 21 = .ok (.dup, 1) := zfUtf_putChar_b72d1_0.2.2.2.2.2.2.2.2.2.1
theorem dUtf_putChar_b72d1_22 : decode cUtf_putChar_b72d1 22 = .ok (.ldc 54, 2) := zfUtf_putChar_b72d1_0.2.2.2.2.2.2.2.2.2.2.1
theorem dUtf_putChar_b72d1_24 : decode cUtf_putChar_b72d1 24 = .ok (.invokespecial 56, 3) := zfUtf_putChar_b72d1_0.2.2.2.2.2.2.2.2.2.2.2.1
theorem dUtf_putChar_b72d1_27 : decode cUtf_putChar_b72d1 27 = .ok (.athrow, 1) := zfUtf_putChar_b72d1_0.2.2.2.2.2.2.2.2.2.2.2.2.1
theorem dUtf_putChar_b72d1_28 : decode cUtf_putChar_b72d1 28 = .ok (.iload_n 1, 1) := zfUtf_putChar_b72d1_0.2.2.2.2.2.2.2.2.2.2.2.2.2.1
theorem dUtf_putChar_b72d1_29 : decode cUtf_putChar_b72d1 29 = .ok (.iconst 1, 1) := zfUtf_putChar_b72d1_0.2.2.2.2.2.2.2.2.2.2.2.2.2.2.1
theorem dUtf_putChar_b72d1_30 : decode cUtf_putChar_b72d1 30 = .ok (.ishl, 1) := zfUtf_putChar_b72d1_0.2.2.2.2.2.2.2.2.2.2.2.2.2.2.2.1
theorem dUtf_putChar_b72d1_31 : decode cUtf_putChar_b72d1 31 = .ok (.istore_n 1, 1) := zfUtf_putChar_b72d1_0.2.2.2.2.2.2.2.2.2.2.2.2.2.2.2.2.1
theorem dUtf_putChar_b72d1_32 : decode cUtf_putChar_b72d1 32 = .ok (.aload_n 0, 1) := zfUtf_putChar_b72d1_0.2.2.2.2.2.2.2.2.2.2.2.2.2.2.2.2.2.1
theorem dUtf_putChar_b72d1_33 : decode cUtf_putChar_b72d1 33 = .ok (.iload_n 1, 1) := zfUtf_putChar_b72d1_0.2.2.2.2.2.2.2.2.2.2.2.2.2.2.2.2.2.2.1
theorem dUtf_putChar_b72d1_34 : decode cUtf_putChar_b72d1 34 = .ok (.iinc 1 1, 3) := zfUtf_putChar_b72d1_0.2.2.2.2.2.2.2.2.2.2.2.2.2.2.2.2.2.2.2.1
theorem dUtf_putChar_b72d1_37 : decode cUtf_putChar_b72d1 37 = .ok (.iload_n 2, 1) := zfUtf_putChar_b72d1_0.2.2.2.2.2.2.2.2.2.2.2.2.2.2.2.2.2.2.2.2.1
theorem dUtf_putChar_b72d1_38 : decode cUtf_putChar_b72d1 38 = .ok (.getstatic 59, 3) := zfUtf_putChar_b72d1_0.2.2.2.2.2.2.2.2.2.2.2.2.2.2.2.2.2.2.2.2.2.1
theorem dUtf_putChar_b72d1_41 : decode cUtf_putChar_b72d1 41 = .ok (.ishr, 1) := zfUtf_putChar_b72d1_0.2.2.2.2.2.2.2.2.2.2.2.2.2.2.2.2.2.2.2.2.2.2.1
theorem dUtf_putChar_b72d1_42 : decode cUtf_putChar_b72d1 42 = .ok (.i2b, 1) := zfUtf_putChar_b72d1_0.2.2.2.2.2.2.2.2.2.2.2.2.2.2.2.2.2.2.2.2.2.2.2.1
theorem dUtf_putChar_b72d1_43 : decode cUtf_putChar_b72d1 43 = .ok (.bastore, 1) := zfUtf_putChar_b72d1_0.2.2.2.2.2.2.2.2.2.2.2.2.2.2.2.2.2.2.2.2.2.2.2.2.1
theorem dUtf_putChar_b72d1_44 : decode cUtf_putChar_b72d1 44 = .ok (.aload_n 0, 1) := zfUtf_putChar_b72d1_0.2.2.2.2.2.2.2.2.2.2.2.2.2.2.2.2.2.2.2.2.2.2.2.2.2.1
theorem dUtf_putChar_b72d1_45 : decode cUtf_putChar_b72d1 45 = .ok (.iload_n 1, 1) := zfUtf_putChar_b72d1_0.2.2.2.2.2.2.2.2.2.2.2.2.2.2.2.2.2.2.2.2.2.2.2.2.2.2.1
theorem dUtf_putChar_b72d1_46 : decode cUtf_putChar_b72d1 46 = .ok (.iload_n 2, 1) := zfUtf_putChar_b72d1_0.2.2.2.2.2.2.2.2.2.2.2.2.2.2.2.2.2.2.2.2.2.2.2.2.2.2.2.1
theorem dUtf_putChar_b72d1_47 : decode cUtf_putChar_b72d1 47 = .ok (.getstatic 63, 3) := zfUtf_putChar_b72d1_0.2.2.2.2.2.2.2.2.2.2.2.2.2.2.2.2.2.2.2.2.2.2.2.2.2.2.2.2.1
theorem dUtf_putChar_b72d1_50 : decode cUtf_putChar_b72d1 50 = .ok (.ishr, 1) := zfUtf_putChar_b72d1_0.2.2.2.2.2.2.2.2.2.2.2.2.2.2.2.2.2.2.2.2.2.2.2.2.2.2.2.2.2.1
theorem dUtf_putChar_b72d1_51 : decode cUtf_putChar_b72d1 51 = .ok (.i2b, 1) := zfUtf_putChar_b72d1_0.2.2.2.2.2.2.2.2.2.2.2.2.2.2.2.2.2.2.2.2.2.2.2.2.2.2.2.2.2.2.1
theorem dUtf_putChar_b72d1_52 : decode cUtf_putChar_b72d1 52 = .ok (.bastore, 1) := zfUtf_putChar_b72d1_0.2.2.2.2.2.2.2.2.2.2.2.2.2.2.2.2.2.2.2.2.2.2.2.2.2.2.2.2.2.2.2.1
theorem dUtf_putChar_b72d1_53 : decode cUtf_putChar_b72d1 53 = .ok (.return_, 1) := by decide +kernel
theorem zfUtf_getChar_3b067_0 : decode cUtf_getChar_3b067 0 = .ok (.getstatic 44, 3) ∧ decode cUtf_getChar_3b067 3 = .ok (.ifCond .ne 25, 3) ∧ decode cUtf_getChar_3b067 6 = .ok (.iload_n 1, 1) ∧ decode cUtf_getChar_3b067 7 = .ok (.ifCond .lt 11, 3) ∧ decode cUtf_getChar_3b067 10 = .ok (.iload_n 1, 1) ∧ decode cUtf_getChar_3b067 11 = .ok (.aload_n 0, 1) ∧ decode cUtf_getChar_3b067 12 = .ok (.invokestatic 48, 3) ∧ decode cUtf_getChar_3b067 15 = .ok (.if_icmp .lt 13, 3) ∧ decode cUtf_getChar_3b067 18 = .ok (.new 52, 3) ∧ decode cUtf_getChar_3b067 21 = .ok (.dup, 1) ∧ decode cUtf_getChar_3b067 22 = .ok (.ldc 54, 2) ∧ decode cUtf_getChar_3b067 24 = .ok (.invokespecial 56, 3) ∧ decode cUtf_getChar_3b067 27 = .ok (.athrow, 1) ∧ decode cUtf_getChar_3b067 28 = .ok (.iload_n 1, 1) ∧ decode cUtf_getChar_3b067 29 = .ok (.iconst 1, 1) ∧ decode cUtf_getChar_3b067 30 = .ok (.ishl, 1) ∧ decode cUtf_getChar_3b067 31 = .ok (.istore_n 1, 1) ∧ decode cUtf_getChar_3b067 32 = .ok (.aload_n 0, 1) ∧ decode cUtf_getChar_3b067 33 = .ok (.iload_n 1, 1) ∧ decode cUtf_getChar_3b067 34 = .ok (.iinc 1 1, 3) ∧ decode cUtf_getChar_3b067 37 = .ok (.baload, 1) ∧ decode cUtf_getChar_3b067 38 = .ok (.sipush 255, 3) ∧ decode cUtf_getChar_3b067 41 = .ok (.iand, 1) ∧ decode cUtf_getChar_3b067 42 = .ok (.getstatic 59, 3) ∧ decode cUtf_getChar_3b067 45 = .ok (.ishl, 1) ∧ decode cUtf_getChar_3b067 46 = .ok (.aload_n 0, 1) ∧ decode cUtf_getChar_3b067 47 = .ok (.iload_n 1, 1) ∧ decode cUtf_getChar_3b067 48 = .ok (.baload, 1) ∧ decode cUtf_getChar_3b067 49 = .ok (.sipush 255, 3) ∧ decode cUtf_getChar_3b067 52 = .ok (.iand, 1) ∧ decode cUtf_getChar_3b067 53 = .ok (.getstatic 63, 3) ∧ decode cUtf_getChar_3b067 56 = .ok (.ishl, 1) ∧ True := Jvm.Free.DS.facts (code := cUtf_getChar_3b067) 0 [(.getstatic 44, 3), (.ifCond .ne 25, 3), (.iload_n 1, 1), (.ifCond .lt 11, 3), (.iload_n 1, 1), (.aload_n 0, 1), (.invokestatic 48, 3), (.if_icmp .lt 13, 3), (.new 52, 3), (.dup, 1), (.ldc 54, 2), (.invokespecial 56, 3), (.athrow, 1), (.iload_n 1, 1), (.iconst 1, 1), (.ishl, 1), (.istore_n 1, 1), (.aload_n 0, 1), (.iload_n 1, 1), (.iinc 1 1, 3), (.baload, 1), (.sipush 255, 3), (.iand, 1), (.getstatic 59, 3), (.ishl, 1), (.aload_n 0, 1), (.iload_n 1, 1), (.baload, 1), (.sipush 255, 3), (.iand, 1), (.getstatic 63, 3), (.ishl, 1)] (by decide +kernel) (by decide +kernel)
theorem dUtf_getChar_3b067_0 : decode cUtf_getChar_3b067 0 = .ok (.getstatic 44, 3) := zfUtf_getChar_3b067_0.1
theorem dUtf_getChar_3b067_3 : decode cUtf_getChar_3b067 3 = .ok (.ifCond .ne 25, 3) := zfUtf_getChar_3b067_0.2.1
theorem dUtf_getChar_3b067_6 : decode cUtf_getChar_3b067 6 = .ok (.iload_n 1, 1) := zfUtf_getChar_3b067_0.2.2.1
theorem dUtf_getChar_3b067_7 : decode cUtf_getChar_3b067 7 = .ok (.ifCond .lt 11, 3) := zfUtf_getChar_3b067_0.2.2.2.1
theorem dUtf_getChar_3b067_10 : decode cUtf_getChar_3b067 10 = .ok (.iload_n 1, 1) := zfUtf_getChar_3b067_0.2.2.2.2.1
theorem dUtf_getChar_3b067_11 : decode cUtf_getChar_3b067 11 = .ok (.aload_n 0, 1) := zfUtf_getChar_3b067_0.2.2.2.2.2.1
theorem dUtf_getChar_3b067_12 : decode cUtf_getChar_3b067 12 = .ok (.invokestatic 48, 3) := zfUtf_getChar_3b067_0.2.2.2.2.2.2.1
theorem dUtf_getChar_3b067_15 : decode cUtf_getChar_3b067 15 = .ok (.if_icmp .lt 13, 3) := zfUtf_getChar_3b067_0.2.2.2.2.2.2.2.1
theorem dUtf_getChar_3b067_18 : decode cUtf_getChar_3b067 18 = .ok (.new 52, 3) := zfUtf_getChar_3b067_0.2.2.2.2.2.2.2.2.1
theorem dUtf_getChar_3b067_21 : decode cUtf_getChar_3b067 21 = .ok (.dup, 1) := zfUtf_getChar_3b067_0.2.2.2.2.2.2.2.2.2.1
theorem dUtf_getChar_3b067_22 : decode cUtf_getChar_3b067 22 = .ok (.ldc 54, 2) := zfUtf_getChar_3b067_0.2.2.2.2.2.2.2.2.2.2.1
theorem dUtf_getChar_3b067_24 : decode cUtf_getChar_3b067 24 = .ok (.invokespecial 56, 3) := zfUtf_getChar_3b067_0.2.2.2.2.2.2.2.2.2.2.2.1
theorem dUtf_getChar_3b067_27 : decode cUtf_getChar_3b067 27 = .ok (.athrow, 1) := zfUtf_getChar_3b067_0.2.2.2.2.2.2.2.2.2.2.2.2.1
theorem dUtf_getChar_3b067_28 : decode cUtf_getChar_3b067 28 = .ok (.iload_n 1, 1) := zfUtf_getChar_3b067_0.2.2.2.2.2.2.2.2.2.2.2.2.2.1
theorem dUtf_getChar_3b067_29 : decode cUtf_getChar_3b067 29 = .ok (.iconst 1, 1) := zfUtf_getChar_3b067_0.2.2.2.2.2.2.2.2.2.2.2.2.2.2.1
theorem dUtf_getChar_3b067_30 : decode cUtf_getChar_3b067 30 = .ok (.ishl, 1) := zfUtf_getChar_3b067_0.2.2.2.2.2.2.2.2.2.2.2.2.2.2.2.1
theorem dUtf_getChar_3b067_31 : decode cUtf_getChar_3b067 31 = .ok (.istore_n 1, 1) := zfUtf_getChar_3b067_0.2.2.2.2.2.2.2.2.2.2.2.2.2.2.2.2.1
theorem dUtf_getChar_3b067_32 : decode cUtf_getChar_3b067 32 = .ok (.aload_n 0, 1) := zfUtf_getChar_3b067_0.2.2.2.2.2.2.2.2.2.2.2.2.2.2.2.2.2.1
theorem dUtf_getChar_3b067_33 : decode cUtf_getChar_3b067 33 = .ok (.iload_n 1, 1) := zfUtf_getChar_3b067_0.2.2.2.2.2.2.2.2.2.2.2.2.2.2.2.2.2.2.1
theorem dUtf_getChar_3b067_34 : decode cUtf_getChar_3b067 34 = .ok (.iinc 1 1, 3) := zfUtf_getChar_3b067_0.2.2.2.2.2.2.2.2.2.2.2.2.2.2.2.2.2.2.2.1
theorem dUtf_getChar_3b067_37 : decode cUtf_getChar_3b067 37 = .ok (.baload, 1) := zfUtf_getChar_3b067_0.2.2.2.2.2.2.2.2.2.2.2.2.2.2.2.2.2.2.2.2.1
theorem dUtf_getChar_3b067_38 : decode cUtf_getChar_3b067 38 = .ok (.sipush 255, 3) := zfUtf_getChar_3b067_0.2.2.2.2.2.2.2.2.2.2.2.2.2.2.2.2.2.2.2.2.2.1
theorem dUtf_getChar_3b067_41 : decode cUtf_getChar_3b067 41 = .ok (.iand, 1) := zfUtf_getChar_3b067_0.2.2.2.2.2.2.2.2.2.2.2.2.2.2.2.2.2.2.2.2.2.2.1
theorem dUtf_getChar_3b067_42 : decode cUtf_getChar_3b067 42 = .ok (.getstatic 59, 3) := zfUtf_getChar_3b067_0.2.2.2.2.2.2.2.2.2.2.2.2.2.2.2.2.2.2.2.2.2.2.2.1
theorem dUtf_getChar_3b067_45 : decode cUtf_getChar_3b067 45 = .ok (.ishl, 1) := zfUtf_getChar_3b067_0.2.2.2.2.2.2.2.2.2.2.2.2.2.2.2.2.2.2.2.2.2.2.2.2.1
theorem dUtf_getChar_3b067_46 : decode cUtf_getChar_3b067 46 = .ok (.aload_n 0, 1) := zfUtf_getChar_3b067_0.2.2.2.2.2.2.2.2.2.2.2.2.2.2.2.2.2.2.2.2.2.2.2.2.2.1
theorem dUtf_getChar_3b067_47 : decode cUtf_getChar_3b067 47 = .ok (.iload_n 1, 1) := zfUtf_getChar_3b067_0.2.2.2.2.2.2.2.2.2.2.2.2.2.2.2.2.2.2.2.2.2.2.2.2.2.2.1
theorem dUtf_getChar_3b067_48 : decode cUtf_getChar_3b067 48 = .ok (.baload, 1) := zfUtf_getChar_3b067_0.2.2.2.2.2.2.2.2.2.2.2.2.2.2.2.2.2.2.2.2.2.2.2.2.2.2.2.1
theorem dUtf_getChar_3b067_49 : decode cUtf_getChar_3b067 49 = .ok (.sipush 255, 3) := zfUtf_getChar_3b067_0.2.2.2.2.2.2.2.2.2.2.2.2.2.2.2.2.2.2.2.2.2.2.2.2.2.2.2.2.1
theorem dUtf_getChar_3b067_52 : decode cUtf_getChar_3b067 52 = .ok (.iand, 1) := zfUtf_getChar_3b067_0.2.2.2.2.2.2.2.2.2.2.2.2.2.2.2.2.2.2.2.2.2.2.2.2.2.2.2.2.2.1
theorem dUtf_getChar_3b067_53 : decode cUtf_getChar_3b067 53 = .ok (.getstatic 63, 3) := zfUtf_getChar_3b067_0.2.2.2.2.2.2.2.2.2.2.2.2.2.2.2.2.2.2.2.2.2.2.2.2.2.2.2.2.2.2.1
theorem dUtf_getChar_3b067_56 : decode cUtf_getChar_3b067 56 = .ok (.ishl, 1) := zfUtf_getChar_3b067_0.2.2.2.2.2.2.2.2.2.2.2.2.2.2.2.2.2.2.2.2.2.2.2.2.2.2.2.2.2.2.2.1
theorem zfUtf_getChar_3b067_57 : decode cUtf_getChar_3b067 57 = .ok (.ior, 1) ∧ decode cUtf_getChar_3b067 58 = .ok (.i2c, 1) ∧ decode cUtf_getChar_3b067 59 = .ok (.ireturn, 1) ∧ True := Jvm.Free.DS.facts (code := cUtf_getChar_3b067) 57 [(.ior, 1), (.i2c, 1), (.ireturn, 1)] (by decide +kernel) (by decide +kernel)
theorem dUtf_getChar_3b067_57 : decode cUtf_getChar_3b067 57 = .ok (.ior, 1) := zfUtf_getChar_3b067_57.1
theorem dUtf_getChar_3b067_58 : decode cUtf_getChar_3b067 58 = .ok (.i2c, 1) := zfUtf_getChar_3b067_57.2.1
theorem dUtf_getChar_3b067_59 : decode cUtf_getChar_3b067 59 = .ok (.ireturn, 1) := zfUtf_getChar_3b067_57.2.2.1
theorem zfUtf_length_9d52b_0 : decode cUtf_length_9d52b 0 = .ok (.aload_n 0, 1) ∧ decode cUtf_length_9d52b 1 = .ok (.arraylength, 1) ∧ decode cUtf_length_9d52b 2 = .ok (.iconst 1, 1) ∧ decode cUtf_length_9d52b 3 = .ok (.ishr, 1) ∧ decode cUtf_length_9d52b 4 = .ok (.ireturn, 1) ∧ True := Jvm.Free.DS.facts (code := cUtf_length_9d52b) 0 [(.aload_n 0, 1), (.arraylength, 1), (.iconst 1, 1), (.ishr, 1), (.ireturn, 1)] (by decide +kernel) (by decide +kernel)
theorem dUtf_length_9d52b_0 : decode cUtf_length_9d52b 0 = .ok (.aload_n 0, 1) := zfUtf_length_9d52b_0.1
theorem dUtf_length_9d52b_1 : decode cUtf_length_9d52b 1 = .ok (.arraylength, 1) := zfUtf_length_9d52b_0.2.1
theorem dUtf_length_9d52b_2 : decode cUtf_length_9d52b 2 = .ok (.iconst 1, 1) := zfUtf_length_9d52b_0.2.2.1
theorem dUtf_length_9d52b_3 : decode cUtf_length_9d52b 3 = .ok (.ishr, 1) := zfUtf_length_9d52b_0.2.2.2.1
theorem dUtf_length_9d52b_4 : decode cUtf_length_9d52b 4 = .ok (.ireturn, 1) := zfUtf_length_9d52b_0.2.2.2.2.1
theorem zfUtf_coderFromArrayLen_85cad_0 : decode cUtf_coderFromArrayLen_85cad 0 = .ok (.iload_n 1, 1) ∧ decode cUtf_coderFromArrayLen_85cad 1 = .ok (.aload_n 0, 1) ∧ decode cUtf_coderFromArrayLen_85cad 2 = .ok (.arraylength, 1) ∧ decode cUtf_coderFromArrayLen_85cad 3 = .ok (.isub, 1) ∧ decode cUtf_coderFromArrayLen_85cad 4 = .ok (.bipush 31, 2) ∧ decode cUtf_coderFromArrayLen_85cad 6 = .ok (.iushr, 1) ∧ decode cUtf_coderFromArrayLen_85cad 7 = .ok (.i2b, 1) ∧ decode cUtf_coderFromArrayLen_85cad 8 = .ok (.ireturn, 1) ∧ True := Jvm.Free.DS.facts (code := cUtf_coderFromArrayLen_85cad) 0 [(.iload_n 1, 1), (.aload_n 0, 1), (.arraylength, 1), (.isub, 1), (.bipush 31, 2), (.iushr, 1), (.i2b, 1), (.ireturn, 1)] (by decide +kernel) (by decide +kernel)
theorem dUtf_coderFromArrayLen_85cad_0 : decode cUtf_coderFromArrayLen_85cad 0 = .ok (.iload_n 1, 1) := zfUtf_coderFromArrayLen_85cad_0.1
theorem dUtf_coderFromArrayLen_85cad_1 : decode cUtf_coderFromArrayLen_85cad 1 = .ok (.aload_n 0, 1) := zfUtf_coderFromArrayLen_85cad_0.2.1
theorem dUtf_coderFromArrayLen_85cad_2 : decode cUtf_coderFromArrayLen_85cad 2 = .ok (.arraylength, 1) := zfUtf_coderFromArrayLen_85cad_0.2.2.1
theorem dUtf_coderFromArrayLen_85cad_3 : decode cUtf_coderFromArrayLen_85cad 3 = .ok (.isub, 1) := zfUtf_coderFromArrayLen_85cad_0.2.2.2.1
theorem dUtf_coderFromArrayLen_85cad_4 : decode cUtf_coderFromArrayLen_85cad 4 = .ok (.bipush 31, 2) := zfUtf_coderFromArrayLen_85cad_0.2.2.2.2.1
theorem dUtf_coderFromArrayLen_85cad_6 : decode cUtf_coderFromArrayLen_85cad 6 = .ok (.iushr, 1) := zfUtf_coderFromArrayLen_85cad_0.2.2.2.2.2.1
theorem dUtf_coderFromArrayLen_85cad_7 : decode cUtf_coderFromArrayLen_85cad 7 = .ok (.i2b, 1) := zfUtf_coderFromArrayLen_85cad_0.2.2.2.2.2.2.1
theorem dUtf_coderFromArrayLen_85cad_8 : decode cUtf_coderFromArrayLen_85cad 8 = .ok (.ireturn, 1) := zfUtf_coderFromArrayLen_85cad_0.2.2.2.2.2.2.2.1
theorem zfUtf_compress_39247_0 : decode cUtf_compress_39247 0 = .ok (.iload_n 2, 1) ∧ decode cUtf_compress_39247 1 = .ok (.newarray .byte, 2) ∧ decode cUtf_compress_39247 3 = .ok (.astore_n 3, 1) ∧ decode cUtf_compress_39247 4 = .ok (.aload_n 0, 1) ∧ decode cUtf_compress_39247 5 = .ok (.iload_n 1, 1) ∧ decode cUtf_compress_39247 6 = .ok (.aload_n 3, 1) ∧ decode cUtf_compress_39247 7 = .ok (.iconst 0, 1) ∧ decode cUtf_compress_39247 8 = .ok (.iload_n 2, 1) ∧ decode cUtf_compress_39247 9 = .ok (.invokestatic 123, 3) ∧ decode cUtf_compress_39247 12 = .ok (.istore 4, 2) ∧ decode cUtf_compress_39247 14 = .ok (.iload 4, 2) ∧ decode cUtf_compress_39247 16 = .ok (.iload_n 2, 1) ∧ decode cUtf_compress_39247 17 = .ok (.if_icmp .eq 47, 3) ∧ decode cUtf_compress_39247 20 = .ok (.aload_n 0, 1) ∧ decode cUtf_compress_39247 21 = .ok (.iload_n 1, 1) ∧ decode cUtf_compress_39247 22 = .ok (.iconst 1, 1) ∧ decode cUtf_compress_39247 23 = .ok (.ishl, 1) ∧ decode cUtf_compress_39247 24 = .ok (.iload_n 1, 1) ∧ decode cUtf_compress_39247 25 = .ok (.iload_n 2, 1) ∧ decode cUtf_compress_39247 26 = .ok (.iadd, 1) ∧ decode cUtf_compress_39247 27 = .ok (.invokestatic 11, 3) ∧ decode cUtf_compress_39247 30 = .ok (.invokestatic 126, 3) ∧ decode cUtf_compress_39247 33 = .ok (.astore 5, 2) ∧ decode cUtf_compress_39247 35 = .ok (.aload 5, 2) ∧ decode cUtf_compress_39247 37 = .ok (.iload 4, 2) ∧ decode cUtf_compress_39247 39 = .ok (.invokestatic 71, 3) ∧ decode cUtf_compress_39247 42 = .ok (.sipush 255, 3) ∧ decode cUtf_compress_39247 45 = .ok (.if_icmp .gt 16, 3) ∧ decode cUtf_compress_39247 48 = .ok (.aload 5, 2) ∧ decode cUtf_compress_39247 50 = .ok (.iconst 0, 1) ∧ decode cUtf_compress_39247 51 = .ok (.aload_n 3, 1) ∧ decode cUtf_compress_39247 52 = .ok (.iconst 0, 1) ∧ True := Jvm.Free.DS.facts (code := cUtf_compress_39247) 0 [(.iload_n 2, 1), (.newarray .byte, 2), (.astore_n 3, 1), (.aload_n 0, 1), (.iload_n 1, 1), (.aload_n 3, 1), (.iconst 0, 1), (.iload_n 2, 1), (.invokestatic 123, 3), (.istore 4, 2), (.iload 4, 2), (.iload_n 2, 1), (.if_icmp .eq 47, 3), (.aload_n 0, 1), (.iload_n 1, 1), (.iconst 1, 1), (.ishl, 1), (.iload_n 1, 1), (.iload_n 2, 1), (.iadd, 1), (.invokestatic 11, 3), (.invokestatic 126, 3), (.astore 5, 2), (.aload 5, 2), (.iload 4, 2), (.invokestatic 71, 3), (.sipush 255, 3), (.if_icmp .gt 16, 3), (.aload 5, 2), (.iconst 0, 1), (.aload_n 3, 1), (.iconst 0, 1)] (by decide +kernel) (by decide +kernel)
theorem dUtf_compress_39247_0 : decode cUtf_compress_39247 0 = .ok (.iload_n 2, 1) := zfUtf_compress_39247_0.1
theorem dUtf_compress_39247_1 : decode cUtf_compress_39247 1 = .ok (.newarray .byte, 2) := zfUtf_compress_39247_0.2.1
theorem dUtf_compress_39247_3 : decode cUtf_compress_39247 3 = .ok (.astore_n 3, 1) := zfUtf_compress_39247_0.2.2.1
theorem dUtf_compress_39247_4 : decode cUtf_compress_39247 4 = .ok (.aload_n 0, 1) := zfUtf_compress_39247_0.2.2.2.1
theorem dUtf_compress_39247_5 : decode cUtf_compress_39247 5 = .ok (.iload_n 1, 1) := zfUtf_compress_39247_0.2.2.2.2.1
theorem dUtf_compress_39247_6 : decode cUtf_compress_39247 6 = .ok (.aload_n 3, 1) := zfUtf_compress_39247_0.2.2.2.2.2.1
theorem dUtf_compress_39247_7 : decode cUtf_compress_39247 7 = .ok (.iconst 0, 1) := zfUtf_compress_39247_0.2.2.2.2.2.2.1
theorem dUtf_compress_39247_8 : decode cUtf_compress_39247 8 = .ok (.iload_n 2, 1) := zfUtf_compress_39247_0.2.2.2.2.2.2.2.1
theorem dUtf_compress_39247_9 : decode cUtf_compress_39247 9 = .ok (.invokestatic 123, 3) := zfUtf_compress_39247_0.2.2.2.2.2.2.2.2.1
theorem dUtf_compress_39247_12 : decode cUtf_compress_39247 12 = .ok (.istore 4, 2) := zfUtf_compress_39247_0.2.2.2.2.2.2.2.2.2.1
theorem dUtf_compress_39247_14 : decode cUtf_compress_39247 14 = .ok (.iload 4, 2) := zfUtf_compress_39247_0.2.2.2.2.2.2.2.2.2.2.1
theorem dUtf_compress_39247_16 : decode cUtf_compress_39247 16 = .ok (.iload_n 2, 1) := zfUtf_compress_39247_0.2.2.2.2.2.2.2.2.2.2.2.1
theorem dUtf_compress_39247_17 : decode cUtf_compress_39247 17 = .ok (.if_icmp .eq 47, 3) := zfUtf_compress_39247_0.2.2.2.2.2.2.2.2.2.2.2.2.1
theorem dUtf_compress_39247_20 : decode cUtf_compress_39247 20 = .ok (.aload_n 0, 1) := zfUtf_compress_39247_0.2.2.2.2.2.2.2.2.2.2.2.2.2.1
theorem dUtf_compress_39247_21 : decode cUtf_compress_39247 21 = .ok (.iload_n 1, 1) := zfUtf_compress_39247_0.2.2.2.2.2.2.2.2.2.2.2.2.2.2.1
theorem dUtf_compress_39247_22 : decode cUtf_compress_39247 22 = .ok (.iconst 1, 1) := zfUtf_compress_39247_0.2.2.2.2.2.2.2.2.2.2.2.2.2.2.2.1
theorem dUtf_compress_39247_23 : decode cUtf_compress_39247 23 = .ok (.ishl, 1) := zfUtf_compress_39247_0.2.2.2.2.2.2.2.2.2.2.2.2.2.2.2.2.1
theorem dUtf_compress_39247_24 : decode cUtf_compress_39247 24 = .ok (.iload_n 1, 1) := zfUtf_compress_39247_0.2.2.2.2.2.2.2.2.2.2.2.2.2.2.2.2.2.1
theorem dUtf_compress_39247_25 : decode cUtf_compress_39247 25 = .ok (.iload_n 2, 1) := zfUtf_compress_39247_0.2.2.2.2.2.2.2.2.2.2.2.2.2.2.2.2.2.2.1
theorem dUtf_compress_39247_26 : decode cUtf_compress_39247 26 = .ok (.iadd, 1) := zfUtf_compress_39247_0.2.2.2.2.2.2.2.2.2.2.2.2.2.2.2.2.2.2.2.1
theorem dUtf_compress_39247_27 : decode cUtf_compress_39247 27 = .ok (.invokestatic 11, 3) := zfUtf_compress_39247_0.2.2.2.2.2.2.2.2.2.2.2.2.2.2.2.2.2.2.2.2.1
theorem dUtf_compress_39247_30 : decode cUtf_compress_39247 30 = .ok (.invokestatic 126, 3) := zfUtf_compress_39247_0.2.2.2.2.2.2.2.2.2.2.2.2.2.2.2.2.2.2.2.2.2.1
theorem dUtf_compress_39247_33 : decode cUtf_compress_39247 33 = .ok (.astore 5, 2) := zfUtf_compress_39247_0.2.2.2.2.2.2.2.2.2.2.2.2.2.2.2.2.2.2.2.2.2.2.1
theorem dUtf_compress_39247_35 : decode cUtf_compress_39247 35 = .ok (.aload 5, 2) := zfUtf_compress_39247_0.2.2.2.2.2.2.2.2.2.2.2.2.2.2.2.2.2.2.2.2.2.2.2.1
theorem dUtf_compress_39247_37 : decode cUtf_compress_39247 37 = .ok (.iload 4, 2) := zfUtf_compress_39247_0.2.2.2.2.2.2.2.2.2.2.2.2.2.2.2.2.2.2.2.2.2.2.2.2.1
theorem dUtf_compress_39247_39 : decode cUtf_compress_39247 39 = .ok (.invokestatic 71, 3) := zfUtf_compress_39247_0.2.2.2.2.2.2.2.2.2.2.2.2.2.2.2.2.2.2.2.2.2.2.2.2.2.1
theorem dUtf_compress_39247_42 : decode cUtf_compress_39247 42 = .ok (.sipush 255, 3) := zfUtf_compress_39247_0.2.2.2.2.2.2.2.2.2.2.2.2.2.2.2.2.2.2.2.2.2.2.2.2.2.2.1
theorem dUtf_compress_39247_45 : decode cUtf_compress_39247 45 = .ok (.if_icmp .gt 16, 3) := zfUtf_compress_39247_0.2.2.2.2.2.2.2.2.2.2.2.2.2.2.2.2.2.2.2.2.2.2.2.2.2.2.2.1
theorem dUtf_compress_39247_48 : decode cUtf_compress_39247 48 = .ok (.aload 5, 2) := zfUtf_compress_39247_0.2.2.2.2.2.2.2.2.2.2.2.2.2.2.2.2.2.2.2.2.2.2.2.2.2.2.2.2.1
theorem dUtf_compress_39247_50 : decode cUtf_compress_39247 50 = .ok (.iconst 0, 1) := zfUtf_compress_39247_0.2.2.2.2.2.2.2.2.2.2.2.2.2.2.2.2.2.2.2.2.2.2.2.2.2.2.2.2.2.1
theorem dUtf_compress_39247_51 : decode cUtf_compress_39247 51 = .ok (.aload_n 3, 1) := zfUtf_compress_39247_0.2.2.2.2.2.2.2.2.2.2.2.2.2.2.2.2.2.2.2.2.2.2.2.2.2.2.2.2.2.2.1
theorem dUtf_compress_39247_52 : decode cUtf_compress_39247 52 = .ok (.iconst 0, 1) := zfUtf_compress_39247_0.2.2.2.2.2.2.2.2.2.2.2.2.2.2.2.2.2.2.2.2.2.2.2.2.2.2.2.2.2.2.2.1
theorem zfUtf_compress_39247_53 : decode cUtf_compress_39247 53 = .ok (.iload_n 2, 1) ∧ decode cUtf_compress_39247 54 = .ok (.invokestatic 123, 3) ∧ decode cUtf_compress_39247 57 = .ok (.iload_n 2, 1) ∧ decode cUtf_compress_39247 58 = .ok (.if_icmp .eq 6, 3) ∧ decode cUtf_compress_39247 61 = .ok (.aload 5, 2) ∧ decode cUtf_compress_39247 63 = .ok (.areturn, 1) ∧ decode cUtf_compress_39247 64 = .ok (.aload_n 3, 1) ∧ decode cUtf_compress_39247 65 = .ok (.areturn, 1) ∧ True := Jvm.Free.DS.facts (code := cUtf_compress_39247) 53 [(.iload_n 2, 1), (.invokestatic 123, 3), (.iload_n 2, 1), (.if_icmp .eq 6, 3), (.aload 5, 2), (.areturn, 1), (.aload_n 3, 1), (.areturn, 1)] (by decide +kernel) (by decide +kernel)
theorem dUtf_compress_39247_53 : decode cUtf_compress_39247 53 = .ok (.iload_n 2, 1) := zfUtf_compress_39247_53.1
theorem dUtf_compress_39247_54 : decode cUtf_compress_39247 54 = .ok (.invokestatic 123, 3) := zfUtf_compress_39247_53.2.1
theorem dUtf_compress_39247_57 : decode cUtf_compress_39247 57 = .ok (.iload_n 2, 1) := zfUtf_compress_39247_53.2.2.1
theorem dUtf_compress_39247_58 : decode cUtf_compress_39247 58 = .ok (.if_icmp .eq 6, 3) := zfUtf_compress_39247_53.2.2.2.1
theorem dUtf_compress_39247_61 : decode cUtf_compress_39247 61 = .ok (.aload 5, 2) := zfUtf_compress_39247_53.2.2.2.2.1
theorem dUtf_compress_39247_63 : decode cUtf_compress_39247 63 = .ok (.areturn, 1) := zfUtf_compress_39247_53.2.2.2.2.2.1
theorem dUtf_compress_39247_64 : decode cUtf_compress_39247 64 = .ok (.aload_n 3, 1) := zfUtf_compress_39247_53.2.2.2.2.2.2.1
theorem dUtf_compress_39247_65 : decode cUtf_compress_39247 65 = .ok (.areturn, 1) := zfUtf_compress_39247_53.2.2.2.2.2.2.2.1
theorem zfUtf_compress_5af95_0 : decode cUtf_compress_5af95 0 = .ok (.iload_n 1, 1) ∧ decode cUtf_compress_5af95 1 = .ok (.iload 4, 2) ∧ decode cUtf_compress_5af95 3 = .ok (.aload_n 0, 1) ∧ decode cUtf_compress_5af95 4 = .ok (.invokestatic 173, 3) ∧ decode cUtf_compress_5af95 7 = .ok (.iconst 0, 1) ∧ decode cUtf_compress_5af95 8 = .ok (.istore 5, 2) ∧ decode cUtf_compress_5af95 10 = .ok (.iload 5, 2) ∧ decode cUtf_compress_5af95 12 = .ok (.iload 4, 2) ∧ decode cUtf_compress_5af95 14 = .ok (.if_icmp .ge 39, 3) ∧ decode cUtf_compress_5af95 17 = .ok (.aload_n 0, 1) ∧ decode cUtf_compress_5af95 18 = .ok (.iload_n 1, 1) ∧ decode cUtf_compress_5af95 19 = .ok (.invokestatic 71, 3) ∧ decode cUtf_compress_5af95 22 = .ok (.istore 6, 2) ∧ decode cUtf_compress_5af95 24 = .ok (.iload 6, 2) ∧ decode cUtf_compress_5af95 26 = .ok (.sipush 255, 3) ∧ decode cUtf_compress_5af95 29 = .ok (.if_icmp .le 6, 3) ∧ decode cUtf_compress_5af95 32 = .ok (.iload 5, 2) ∧ decode cUtf_compress_5af95 34 = .ok (.ireturn, 1) ∧ decode cUtf_compress_5af95 35 = .ok (.aload_n 2, 1) ∧ decode cUtf_compress_5af95 36 = .ok (.iload_n 3, 1) ∧ decode cUtf_compress_5af95 37 = .ok (.iload 6, 2) ∧ decode cUtf_compress_5af95 39 = .ok (.i2b, 1) ∧ decode cUtf_compress_5af95 40 = .ok (.bastore, 1) ∧ decode cUtf_compress_5af95 41 = .ok (.iinc 1 1, 3) ∧ decode cUtf_compress_5af95 44 = .ok (.iinc 3 1, 3) ∧ decode cUtf_compress_5af95 47 = .ok (.iinc 5 1, 3) ∧ decode cUtf_compress_5af95 50 = .ok (.goto (-40), 3) ∧ decode cUtf_compress_5af95 53 = .ok (.iload 4, 2) ∧ decode cUtf_compress_5af95 55 = .ok (.ireturn, 1) ∧ True := Jvm.Free.DS.facts (code := cUtf_compress_5af95) 0 [(.iload_n 1, 1), (.iload 4, 2), (.aload_n 0, 1), (.invokestatic 173, 3), (.iconst 0, 1), (.istore 5, 2), (.iload 5, 2), (.iload 4, 2), (.if_icmp .ge 39, 3), (.aload_n 0, 1), (.iload_n 1, 1), (.invokestatic 71, 3), (.istore 6, 2), (.iload 6, 2), (.sipush 255, 3), (.if_icmp .le 6, 3), (.iload 5, 2), (.ireturn, 1), (.aload_n 2, 1), (.iload_n 3, 1), (.iload 6, 2), (.i2b, 1), (.bastore, 1), (.iinc 1 1, 3), (.iinc 3 1, 3), (.iinc 5 1, 3), (.goto (-40), 3), (.iload 4, 2), (.ireturn, 1)] (by decide +kernel) (by decide +kernel)
theorem dUtf_compress_5af95_0 : decode cUtf_compress_5af95 0 = .ok (.iload_n 1, 1) := zfUtf_compress_5af95_0.1
theorem dUtf_compress_5af95_1 : decode cUtf_compress_5af95 1 = .ok (.iload 4, 2) := zfUtf_compress_5af95_0.2.1
theorem dUtf_compress_5af95_3 : decode cUtf_compress_5af95 3 = .ok (.aload_n 0, 1) := zfUtf_compress_5af95_0.2.2.1
theorem dUtf_compress_5af95_4 : decode cUtf_compress_5af95 4 = .ok (.invokestatic 173, 3) := zfUtf_compress_5af95_0.2.2.2.1
theorem dUtf_compress_5af95_7 : decode cUtf_compress_5af95 7 = .ok (.iconst 0, 1) := zfUtf_compress_5af95_0.2.2.2.2.1
theorem dUtf_compress_5af95_8 : decode cUtf_compress_5af95 8 = .ok (.istore 5, 2) := zfUtf_compress_5af95_0.2.2.2.2.2.1
theorem dUtf_compress_5af95_10 : decode cUtf_compress_5af95 10 = .ok (.iload 5, 2) := zfUtf_compress_5af95_0.2.2.2.2.2.2.1
theorem dUtf_compress_5af95_12 : decode cUtf_compress_5af95 12 = .ok (.iload 4, 2) := zfUtf_compress_5af95_0.2.2.2.2.2.2.2.1
theorem dUtf_compress_5af95_14 : decode cUtf_compress_5af95 14 = .ok (.if_icmp .ge 39, 3) := zfUtf_compress_5af95_0.2.2.2.2.2.2.2.2.1
theorem dUtf_compress_5af95_17 : decode cUtf_compress_5af95 17 = .ok (.aload_n 0, 1) := zfUtf_compress_5af95_0.2.2.2.2.2.2.2.2.2.1
theorem dUtf_compress_5af95_18 : decode cUtf_compress_5af95 18 = .ok (.iload_n 1, 1) := zfUtf_compress_5af95_0.2.2.2.2.2.2.2.2.2.2.1
theorem dUtf_compress_5af95_19 : decode cUtf_compress_5af95 19 = .ok (.invokestatic 71, 3) := zfUtf_compress_5af95_0.2.2.2.2.2.2.2.2.2.2.2.1
theorem dUtf_compress_5af95_22 : decode cUtf_compress_5af95 22 = .ok (.istore 6, 2) := zfUtf_compress_5af95_0.2.2.2.2.2.2.2.2.2.2.2.2.1
theorem dUtf_compress_5af95_24 : decode cUtf_compress_5af95 24 = .ok (.iload 6, 2) := zfUtf_compress_5af95_0.2.2.2.2.2.2.2.2.2.2.2.2.2.1
theorem dUtf_compress_5af95_26 : decode cUtf_compress_5af95 26 = .ok (.sipush 255, 3) := zfUtf_compress_5af95_0.2.2.2.2.2.2.2.2.2.2.2.2.2.2.1
theorem dUtf_compress_5af95_29 : decode cUtf_compress_5af95 29 = .ok (.if_icmp .le 6, 3) := zfUtf_compress_5af95_0.2.2.2.2.2.2.2.2.2.2.2.2.2.2.2.1
theorem dUtf_compress_5af95_32 : decode cUtf_compress_5af95 32 = .ok (.iload 5, 2) := zfUtf_compress_5af95_0.2.2.2.2.2.2.2.2.2.2.2.2.2.2.2.2.1
theorem dUtf_compress_5af95_34 : decode cUtf_compress_5af95 34 = .ok (.ireturn, 1) := zfUtf_compress_5af95_0.2.2.2.2.2.2.2.2.2.2.2.2.2.2.2.2.2.1
theorem dUtf_compress_5af95_35 : decode cUtf_compress_5af95 35 = .ok (.aload_n 2, 1) := zfUtf_compress_5af95_0.2.2.2.2.2.2.2.2.2.2.2.2.2.2.2.2.2.2.1
theorem dUtf_compress_5af95_36 : decode cUtf_compress_5af95 36 = .ok (.iload_n 3, 1) := zfUtf_compress_5af95_0.2.2.2.2.2.2.2.2.2.2.2.2.2.2.2.2.2.2.2.1
theorem dUtf_compress_5af95_37 : decode cUtf_compress_5af95 37 = .ok (.iload 6, 2) := zfUtf_compress_5af95_0.2.2.2.2.2.2.2.2.2.2.2.2.2.2.2.2.2.2.2.2.1
theorem dUtf_compress_5af95_39 : decode cUtf_compress_5af95 39 = .ok (.i2b, 1) := zfUtf_compress_5af95_0.2.2.2.2.2.2.2.2.2.2.2.2.2.2.2.2.2.2.2.2.2.1
theorem dUtf_compress_5af95_40 : decode cUtf_compress_5af95 40 = .ok (.bastore, 1) := zfUtf_compress_5af95_0.2.2.2.2.2.2.2.2.2.2.2.2.2.2.2.2.2.2.2.2.2.2.1
theorem dUtf_compress_5af95_41 : decode cUtf_compress_5af95 41 = .ok (.iinc 1 1, 3) := zfUtf_compress_5af95_0.2.2.2.2.2.2.2.2.2.2.2.2.2.2.2.2.2.2.2.2.2.2.2.1
theorem dUtf_compress_5af95_44 : decode cUtf_compress_5af95 44 = .ok (.iinc 3 1, 3) := zfUtf_compress_5af95_0.2.2.2.2.2.2.2.2.2.2.2.2.2.2.2.2.2.2.2.2.2.2.2.2.1
theorem dUtf_compress_5af95_47 : decode cUtf_compress_5af95 47 = .ok (.iinc 5 1, 3) := zfUtf_compress_5af95_0.2.2.2.2.2.2.2.2.2.2.2.2.2.2.2.2.2.2.2.2.2.2.2.2.2.1
theorem dUtf_compress_5af95_50 : decode cUtf_compress_5af95 50 = .ok (.goto (-40), 3) := zfUtf_compress_5af95_0.2.2.2.2.2.2.2.2.2.2.2.2.2.2.2.2.2.2.2.2.2.2.2.2.2.2.1
theorem dUtf_compress_5af95_53 : decode cUtf_compress_5af95 53 = .ok (.iload 4, 2) := zfUtf_compress_5af95_0.2.2.2.2.2.2.2.2.2.2.2.2.2.2.2.2.2.2.2.2.2.2.2.2.2.2.2.1
theorem dUtf_compress_5af95_55 : decode cUtf_compress_5af95 55 = .ok (.ireturn, 1) := zfUtf_compress_5af95_0.2.2.2.2.2.2.2.2.2.2.2.2.2.2.2.2.2.2.2.2.2.2.2.2.2.2.2.2.1
theorem zfUtf_putCharSB_b72d1_0 : decode cUtf_putCharSB_b72d1 0 = .ok (.iload_n 1, 1) ∧ decode cUtf_putCharSB_b72d1 1 = .ok (.aload_n 0, 1) ∧ decode cUtf_putCharSB_b72d1 2 = .ok (.invokestatic 67, 3) ∧ decode cUtf_putCharSB_b72d1 5 = .ok (.aload_n 0, 1) ∧ decode cUtf_putCharSB_b72d1 6 = .ok (.iload_n 1, 1) ∧ decode cUtf_putCharSB_b72d1 7 = .ok (.iload_n 2, 1) ∧ decode cUtf_putCharSB_b72d1 8 = .ok (.invokestatic 111, 3) ∧ decode cUtf_putCharSB_b72d1 11 = .ok (.return_, 1) ∧ True := Jvm.Free.DS.facts (code := cUtf_putCharSB_b72d1) 0 [(.iload_n 1, 1), (.aload_n 0, 1), (.invokestatic 67, 3), (.aload_n 0, 1), (.iload_n 1, 1), (.iload_n 2, 1), (.invokestatic 111, 3), (.return_, 1)] (by decide +kernel) (by decide +kernel)
theorem dUtf_putCharSB_b72d1_0 : decode cUtf_putCharSB_b72d1 0 = .ok (.iload_n 1, 1) := zfUtf_putCharSB_b72d1_0.1
theorem dUtf_putCharSB_b72d1_1 : decode cUtf_putCharSB_b72d1 1 = .ok (.aload_n 0, 1) := zfUtf_putCharSB_b72d1_0.2.1
theorem dUtf_putCharSB_b72d1_2 : decode cUtf_putCharSB_b72d1 2 = .ok (.invokestatic 67, 3) := zfUtf_putCharSB_b72d1_0.2.2.1
theorem dUtf_putCharSB_b72d1_5 : decode cUtf_putCharSB_b72d1 5 = .ok (.aload_n 0, 1) := zfUtf_putCharSB_b72d1_0.2.2.2.1
theorem dUtf_putCharSB_b72d1_6 : decode cUtf_putCharSB_b72d1 6 = .ok (.iload_n 1, 1) := zfUtf_putCharSB_b72d1_0.2.2.2.2.1
theorem dUtf_putCharSB_b72d1_7 : decode cUtf_putCharSB_b72d1 7 = .ok (.iload_n 2, 1) := zfUtf_putCharSB_b72d1_0.2.2.2.2.2.1
theorem dUtf_putCharSB_b72d1_8 : decode cUtf_putCharSB_b72d1 8 = .ok (.invokestatic 111, 3) := zfUtf_putCharSB_b72d1_0.2.2.2.2.2.2.1
theorem dUtf_putCharSB_b72d1_11 : decode cUtf_putCharSB_b72d1 11 = .ok (.return_, 1) := zfUtf_putCharSB_b72d1_0.2.2.2.2.2.2.2.1
theorem zfUtf_getChars_46870_0 : decode cUtf_getChars_46870 0 = .ok (.iload_n 1, 1) ∧ decode cUtf_getChars_46870 1 = .ok (.iload_n 2, 1) ∧ decode cUtf_getChars_46870 2 = .ok (.aload_n 3, 1) ∧ decode cUtf_getChars_46870 3 = .ok (.invokestatic 96, 3) ∧ decode cUtf_getChars_46870 6 = .ok (.iload_n 0, 1) ∧ decode cUtf_getChars_46870 7 = .ok (.iload_n 2, 1) ∧ decode cUtf_getChars_46870 8 = .ok (.aload_n 3, 1) ∧ decode cUtf_getChars_46870 9 = .ok (.invokestatic 393, 3) ∧ decode cUtf_getChars_46870 12 = .ok (.istore 4, 2) ∧ decode cUtf_getChars_46870 14 = .ok (.getstatic 44, 3) ∧ decode cUtf_getChars_46870 17 = .ok (.ifCond .ne 17, 3) ∧ decode cUtf_getChars_46870 20 = .ok (.iload_n 1, 1) ∧ decode cUtf_getChars_46870 21 = .ok (.iload 4, 2) ∧ decode cUtf_getChars_46870 23 = .ok (.if_icmp .eq 11, 3) ∧ decode cUtf_getChars_46870 26 = .ok (.new 52, 3) ∧ decode cUtf_getChars_46870 29 = .ok (.dup, 1) ∧ decode cUtf_getChars_46870 30 = .ok (.invokespecial 66, 3) ∧ decode cUtf_getChars_46870 33 = .ok (.athrow, 1) ∧ decode cUtf_getChars_46870 34 = .ok (.iload 4, 2) ∧ decode cUtf_getChars_46870 36 = .ok (.ireturn, 1) ∧ True := Jvm.Free.DS.facts (code := cUtf_getChars_46870) 0 [(.iload_n 1, 1), (.iload_n 2, 1), (.aload_n 3, 1), (.invokestatic 96, 3), (.iload_n 0, 1), (.iload_n 2, 1), (.aload_n 3, 1), (.invokestatic 393, 3), (.istore 4, 2), (.getstatic 44, 3), (.ifCond .ne 17, 3), (.iload_n 1, 1), (.iload 4, 2), (.if_icmp .eq 11, 3), (.new 52, 3), (.dup, 1), (.invokespecial 66, 3), (.athrow, 1), (.iload 4, 2), (.ireturn, 1)] (by decide +kernel) (by decide +kernel)
theorem dUtf_getChars_46870_0 : decode cUtf_getChars_46870 0 = .ok (.iload_n 1, 1) := zfUtf_getChars_46870_0.1
theorem dUtf_getChars_46870_1 : decode cUtf_getChars_46870 1 = .ok (.iload_n 2, 1) := zfUtf_getChars_46870_0.2.1
theorem dUtf_getChars_46870_2 : decode cUtf_getChars_46870 2 = .ok (.aload_n 3, 1) := zfUtf_getChars_46870_0.2.2.1
theorem dUtf_getChars_46870_3 : decode cUtf_getChars_46870 3 = .ok (.invokestatic 96, 3) := zfUtf_getChars_46870_0.2.2.2.1
theorem dUtf_getChars_46870_6 : decode cUtf_getChars_46870 6 = .ok (.iload_n 0, 1) := zfUtf_getChars_46870_0.2.2.2.2.1
theorem dUtf_getChars_46870_7 : decode cUtf_getChars_46870 7 = .ok (.iload_n 2, 1) := zfUtf_getChars_46870_0.2.2.2.2.2.1
theorem dUtf_getChars_46870_8 : decode cUtf_getChars_46870 8 = .ok (.aload_n 3, 1) := zfUtf_getChars_46870_0.2.2.2.2.2.2.1
theorem dUtf_getChars_46870_9 : decode cUtf_getChars_46870 9 = .ok (.invokestatic 393, 3) := zfUtf_getChars_46870_0.2.2.2.2.2.2.2.1
theorem dUtf_getChars_46870_12 : decode cUtf_getChars_46870 12 = .ok (.istore 4, 2) := zfUtf_getChars_46870_0.2.2.2.2.2.2.2.2.1
theorem dUtf_getChars_46870_14 : decode cUtf_getChars_46870 14 = .ok (.getstatic 44, 3) := zfUtf_getChars_46870_0.2.2.2.2.2.2.2.2.2.1
theorem dUtf_getChars_46870_17 : decode cUtf_getChars_46870 17 = .ok (.ifCond .ne 17, 3) := zfUtf_getChars_46870_0.2.2.2.2.2.2.2.2.2.2.1
theorem dUtf_getChars_46870_20 : decode cUtf_getChars_46870 20 = .ok (.iload_n 1, 1) := zfUtf_getChars_46870_0.2.2.2.2.2.2.2.2.2.2.2.1
theorem dUtf_getChars_46870_21 : decode cUtf_getChars_46870 21 = .ok (.iload 4, 2) := zfUtf_getChars_46870_0.2.2.2.2.2.2.2.2.2.2.2.2.1
theorem dUtf_getChars_46870_23 : decode cUtf_getChars_46870 23 = .ok (.if_icmp .eq 11, 3) := zfUtf_getChars_46870_0.2.2.2.2.2.2.2.2.2.2.2.2.2.1
theorem dUtf_getChars_46870_26 : decode cUtf_getChars_46870 26 = .ok (.new 52, 3) := zfUtf_getChars_46870_0.2.2.2.2.2.2.2.2.2.2.2.2.2.2.1
theorem dUtf_getChars_46870_29 : decode cUtf_getChars_46870 29 = .ok (.dup, 1) := zfUtf_getChars_46870_0.2.2.2.2.2.2.2.2.2.2.2.2.2.2.2.1
theorem dUtf_getChars_46870_30 : decode cUtf_getChars_46870 30 = .ok (.invokespecial 66, 3) := zfUtf_getChars_46870_0.2.2.2.2.2.2.2.2.2.2.2.2.2.2.2.2.1
theorem dUtf_getChars_46870_33 : decode cUtf_getChars_46870 33 = .ok (.athrow, 1) := zfUtf_getChars_46870_0.2.2.2.2.2.2.2.2.2.2.2.2.2.2.2.2.2.1
theorem dUtf_getChars_46870_34 : decode cUtf_getChars_46870 34 = .ok (.iload 4, 2) := zfUtf_getChars_46870_0.2.2.2.2.2.2.2.2.2.2.2.2.2.2.2.2.2.2.1
theorem dUtf_getChars_46870_36 : decode cUtf_getChars_46870 36 = .ok (.ireturn, 1) := zfUtf_getChars_46870_0.2.2.2.2.2.2.2.2.2.2.2.2.2.2.2.2.2.2.2.1
theorem zfUtf_putCharsAt_cd4e5_0 : decode cUtf_putCharsAt_cd4e5 0 = .ok (.iload_n 1, 1) ∧ decode cUtf_putCharsAt_cd4e5 1 = .ok (.iconst 4, 1) ∧ decode cUtf_putCharsAt_cd4e5 2 = .ok (.iadd, 1) ∧ decode cUtf_putCharsAt_cd4e5 3 = .ok (.istore 6, 2) ∧ decode cUtf_putCharsAt_cd4e5 5 = .ok (.iload_n 1, 1) ∧ decode cUtf_putCharsAt_cd4e5 6 = .ok (.iload 6, 2) ∧ decode cUtf_putCharsAt_cd4e5 8 = .ok (.aload_n 0, 1) ∧ decode cUtf_putCharsAt_cd4e5 9 = .ok (.invokestatic 96, 3) ∧ decode cUtf_putCharsAt_cd4e5 12 = .ok (.aload_n 0, 1) ∧ decode cUtf_putCharsAt_cd4e5 13 = .ok (.iload_n 1, 1) ∧ decode cUtf_putCharsAt_cd4e5 14 = .ok (.iinc 1 1, 3) ∧ decode cUtf_putCharsAt_cd4e5 17 = .ok (.iload_n 2, 1) ∧ decode cUtf_putCharsAt_cd4e5 18 = .ok (.invokestatic 111, 3) ∧ decode cUtf_putCharsAt_cd4e5 21 = .ok (.aload_n 0, 1) ∧ decode cUtf_putCharsAt_cd4e5 22 = .ok (.iload_n 1, 1) ∧ decode cUtf_putCharsAt_cd4e5 23 = .ok (.iinc 1 1, 3) ∧ decode cUtf_putCharsAt_cd4e5 26 = .ok (.iload_n 3, 1) ∧ decode cUtf_putCharsAt_cd4e5 27 = .ok (.invokestatic 111, 3) ∧ decode cUtf_putCharsAt_cd4e5 30 = .ok (.aload_n 0, 1) ∧ decode cUtf_putCharsAt_cd4e5 31 = .ok (.iload_n 1, 1) ∧ decode cUtf_putCharsAt_cd4e5 32 = .ok (.iinc 1 1, 3) ∧ decode cUtf_putCharsAt_cd4e5 35 = .ok (.iload 4, 2) ∧ decode cUtf_putCharsAt_cd4e5 37 = .ok (.invokestatic 111, 3) ∧ decode cUtf_putCharsAt_cd4e5 40 = .ok (.aload_n 0, 1) ∧ decode cUtf_putCharsAt_cd4e5 41 = .ok (.iload_n 1, 1) ∧ decode cUtf_putCharsAt_cd4e5 42 = .ok (.iinc 1 1, 3) ∧ decode cUtf_putCharsAt_cd4e5 45 = .ok (.iload 5, 2) ∧ decode cUtf_putCharsAt_cd4e5 47 = .ok (.invokestatic 111, 3) ∧ decode cUtf_putCharsAt_cd4e5 50 = .ok (.getstatic 44, 3) ∧ decode cUtf_putCharsAt_cd4e5 53 = .ok (.ifCond .ne 17, 3) ∧ decode cUtf_putCharsAt_cd4e5 56 = .ok (.iload_n 1, 1) ∧ decode cUtf_putCharsAt_cd4e5 57 = .ok (.iload 6, 2) ∧ True := Jvm.Free.DS.facts (code := cUtf_putCharsAt_cd4e5) 0 [(.iload_n 1, 1), (.iconst 4, 1), (.iadd, 1), (.istore 6, 2), (.iload_n 1, 1), (.iload 6, 2), (.aload_n 0, 1), (.invokestatic 96, 3), (.aload_n 0, 1), (.iload_n 1, 1), (.iinc 1 1, 3), (.iload_n 2, 1), (.invokestatic 111, 3), (.aload_n 0, 1), (.iload_n 1, 1), (.iinc 1 1, 3), (.iload_n 3, 1), (.invokestatic 111, 3), (.aload_n 0, 1), (.iload_n 1, 1), (.iinc 1 1, 3), (.iload 4, 2), (.invokestatic 111, 3), (.aload_n 0, 1), (.iload_n 1, 1), (.iinc 1 1, 3), (.iload 5, 2), (.invokestatic 111, 3), (.getstatic 44, 3), (.ifCond .ne 17, 3), (.iload_n 1, 1), (.iload 6, 2)] (by decide +kernel) (by decide +kernel)
theorem dUtf_putCharsAt_cd4e5_0 : decode cUtf_putCharsAt_cd4e5 0 = .ok (.iload_n 1, 1) := zfUtf_putCharsAt_cd4e5_0.1
theorem dUtf_putCharsAt_cd4e5_1 : decode cUtf_putCharsAt_cd4e5 1 = .ok (.iconst 4, 1) := zfUtf_putCharsAt_cd4e5_0.2.1
theorem dUtf_putCharsAt_cd4e5_2 : decode cUtf_putCharsAt_cd4e5 2 = .ok (.iadd, 1) := zfUtf_putCharsAt_cd4e5_0.2.2.1
theorem dUtf_putCharsAt_cd4e5_3 : decode cUtf_putCharsAt_cd4e5 3 = .ok (.istore 6, 2) := zfUtf_putCharsAt_cd4e5_0.2.2.2.1
theorem dUtf_putCharsAt_cd4e5_5 : decode cUtf_putCharsAt_cd4e5 5 = .ok (.iload_n 1, 1) := zfUtf_putCharsAt_cd4e5_0.2.2.2.2.1
theorem dUtf_putCharsAt_cd4e5_6 : decode cUtf_putCharsAt_cd4e5 6 = .ok (.iload 6, 2) := zfUtf_putCharsAt_cd4e5_0.2.2.2.2.2.1
theorem dUtf_putCharsAt_cd4e5_8 : decode cUtf_putCharsAt_cd4e5 8 = .ok (.aload_n 0, 1) := zfUtf_putCharsAt_cd4e5_0.2.2.2.2.2.2.1
theorem dUtf_putCharsAt_cd4e5_9 : decode cUtf_putCharsAt_cd4e5 9 = .ok (.invokestatic 96, 3) := zfUtf_putCharsAt_cd4e5_0.2.2.2.2.2.2.2.1
theorem dUtf_putCharsAt_cd4e5_12 : decode cUtf_putCharsAt_cd4e5 12 = .ok (.aload_n 0, 1) := zfUtf_putCharsAt_cd4e5_0.2.2.2.2.2.2.2.2.1
theorem dUtf_putCharsAt_cd4e5_13 : decode cUtf_putCharsAt_cd4e5 13 = .ok (.iload_n 1, 1) := zfUtf_putCharsAt_cd4e5_0.2.2.2.2.2.2.2.2.2.1
theorem dUtf_putCharsAt_cd4e5_14 : decode cUtf_putCharsAt_cd4e5 14 = .ok (.iinc 1 1, 3) := zfUtf_putCharsAt_cd4e5_0.2.2.2.2.2.2.2.2.2.2.1
theorem dUtf_putCharsAt_cd4e5_17 : decode cUtf_putCharsAt_cd4e5 17 = .ok (.iload_n 2, 1) := zfUtf_putCharsAt_cd4e5_0.2.2.2.2.2.2.2.2.2.2.2.1
theorem dUtf_putCharsAt_cd4e5_18 : decode cUtf_putCharsAt_cd4e5 18 = .ok (.invokestatic 111, 3) := zfUtf_putCharsAt_cd4e5_0.2.2.2.2.2.2.2.2.2.2.2.2.1
theorem dUtf_putCharsAt_cd4e5_21 : decode cUtf_putCharsAt_cd4e5 21 = .ok (.aload_n 0, 1) := zfUtf_putCharsAt_cd4e5_0.2.2.2.2.2.2.2.2.2.2.2.2.2.1
theorem dUtf_putCharsAt_cd4e5_22 : decode cUtf_putCharsAt_cd4e5 22 = .ok (.iload_n 1, 1) := zfUtf_putCharsAt_cd4e5_0.2.2.2.2.2.2.2.2.2.2.2.2.2.2.1
theorem dUtf_putCharsAt_cd4e5_23 : decode cUtf_putCharsAt_cd4e5 23 = .ok (.iinc 1 1, 3) := zfUtf_putCharsAt_cd4e5_0.2.2.2.2.2.2.2.2.2.2.2.2.2.2.2.1
theorem dUtf_putCharsAt_cd4e5_26 : decode cUtf_putCharsAt_cd4e5 26 = .ok (.iload_n 3, 1) := zfUtf_putCharsAt_cd4e5_0.2.2.2.2.2.2.2.2.2.2.2.2.2.2.2.2.1
theorem dUtf_putCharsAt_cd4e5_27 : decode cUtf_putCharsAt_cd4e5 27 = .ok (.invokestatic 111, 3) := zfUtf_putCharsAt_cd4e5_0.2.2.2.2.2.2.2.2.2.2.2.2.2.2.2.2.2.1
theorem dUtf_putCharsAt_cd4e5_30 : decode cUtf_putCharsAt_cd4e5 30 = .ok (.aload_n 0, 1) := zfUtf_putCharsAt_cd4e5_0.2.2.2.2.2.2.2.2.2.2.2.2.2.2.2.2.2.2.1
theorem dUtf_putCharsAt_cd4e5_31 : decode cUtf_putCharsAt_cd4e5 31 = .ok (.iload_n 1, 1) := zfUtf_putCharsAt_cd4e5_0.2.2.2.2.2.2.2.2.2.2.2.2.2.2.2.2.2.2.2.1
theorem dUtf_putCharsAt_cd4e5_32 : decode cUtf_putCharsAt_cd4e5 32 = .ok (.iinc 1 1, 3) := zfUtf_putCharsAt_cd4e5_0.2.2.2.2.2.2.2.2.2.2.2.2.2.2.2.2.2.2.2.2.1
theorem dUtf_putCharsAt_cd4e5_35 : decode cUtf_putCharsAt_cd4e5 35 = .ok (.iload 4, 2) := zfUtf_putCharsAt_cd4e5_0.2.2.2.2.2.2.2.2.2.2.2.2.2.2.2.2.2.2.2.2.2.1
theorem dUtf_putCharsAt_cd4e5_37 : decode cUtf_putCharsAt_cd4e5 37 = .ok (.invokestatic 111, 3) := zfUtf_putCharsAt_cd4e5_0.2.2.2.2.2.2.2.2.2.2.2.2.2.2.2.2.2.2.2.2.2.2.1
theorem dUtf_putCharsAt_cd4e5_40 : decode cUtf_putCharsAt_cd4e5 40 = .ok (.aload_n 0, 1) := zfUtf_putCharsAt_cd4e5_0.2.2.2.2.2.2.2.2.2.2.2.2.2.2.2.2.2.2.2.2.2.2.2.1
theorem dUtf_putCharsAt_cd4e5_41 : decode cUtf_putCharsAt_cd4e5 41 = .ok (.iload_n 1, 1) := zfUtf_putCharsAt_cd4e5_0.2.2.2.2.2.2.2.2.2.2.2.2.2.2.2.2.2.2.2.2.2.2.2.2.1
theorem dUtf_putCharsAt_cd4e5_42 : decode cUtf_putCharsAt_cd4e5 42 = .ok (.iinc 1 1, 3) := zfUtf_putCharsAt_cd4e5_0.2.2.2.2.2.2.2.2.2.2.2.2.2.2.2.2.2.2.2.2.2.2.2.2.2.1
theorem dUtf_putCharsAt_cd4e5_45 : decode cUtf_putCharsAt_cd4e5 45 = .ok (.iload 5, 2) := zfUtf_putCharsAt_cd4e5_0.2.2.2.2.2.2.2.2.2.2.2.2.2.2.2.2.2.2.2.2.2.2.2.2.2.2.1
theorem dUtf_putCharsAt_cd4e5_47 : decode cUtf_putCharsAt_cd4e5 47 = .ok (.invokestatic 111, 3) := zfUtf_putCharsAt_cd4e5_0.2.2.2.2.2.2.2.2.2.2.2.2.2.2.2.2.2.2.2.2.2.2.2.2.2.2.2.1
theorem dUtf_putCharsAt_cd4e5_50 : decode cUtf_putCharsAt_cd4e5 50 = .ok (.getstatic 44, 3) := zfUtf_putCharsAt_cd4e5_0.2.2.2.2.2.2.2.2.2.2.2.2.2.2.2.2.2.2.2.2.2.2.2.2.2.2.2.2.1
theorem dUtf_putCharsAt_cd4e5_53 : decode cUtf_putCharsAt_cd4e5 53 = .ok (.ifCond .ne 17, 3) := zfUtf_putCharsAt_cd4e5_0.2.2.2.2.2.2.2.2.2.2.2.2.2.2.2.2.2.2.2.2.2.2.2.2.2.2.2.2.2.1
theorem dUtf_putCharsAt_cd4e5_56 : decode cUtf_putCharsAt_cd4e5 56 = .ok (.iload_n 1, 1) := zfUtf_putCharsAt_cd4e5_0.2.2.2.2.2.2.2.2.2.2.2.2.2.2.2.2.2.2.2.2.2.2.2.2.2.2.2.2.2.2.1
theorem dUtf_putCharsAt_cd4e5_57 : decode cUtf_putCharsAt_cd4e5 57 = .ok (.iload 6, 2) := zfUtf_putCharsAt_cd4e5_0.2.2.2.2.2.2.2.2.2.2.2.2.2.2.2.2.2.2.2.2.2.2.2.2.2.2.2.2.2.2.2.1
theorem zfUtf_putCharsAt_cd4e5_59 : decode cUtf_putCharsAt_cd4e5 59 = .ok (.if_icmp .eq 11, 3) ∧ decode cUtf_putCharsAt_cd4e5 62 = .ok (.new 52, 3) ∧ decode cUtf_putCharsAt_cd4e5 65 = .ok (.dup, 1) ∧ decode cUtf_putCharsAt_cd4e5 66 = .ok (.invokespecial 66, 3) ∧ decode cUtf_putCharsAt_cd4e5 69 = .ok (.athrow, 1) ∧ decode cUtf_putCharsAt_cd4e5 70 = .ok (.iload 6, 2) ∧ decode cUtf_putCharsAt_cd4e5 72 = .ok (.ireturn, 1) ∧ True := Jvm.Free.DS.facts (code := cUtf_putCharsAt_cd4e5) 59 [(.if_icmp .eq 11, 3), (.new 52, 3), (.dup, 1), (.invokespecial 66, 3), (.athrow, 1), (.iload 6, 2), (.ireturn, 1)] (by decide +kernel) (by decide +kernel)
theorem dUtf_putCharsAt_cd4e5_59 : decode cUtf_putCharsAt_cd4e5 59 = .ok (.if_icmp .eq 11, 3) := zfUtf_putCharsAt_cd4e5_59.1
theorem dUtf_putCharsAt_cd4e5_62 : decode cUtf_putCharsAt_cd4e5 62 = .ok (.new 52, 3) := zfUtf_putCharsAt_cd4e5_59.2.1
theorem dUtf_putCharsAt_cd4e5_65 : decode cUtf_putCharsAt_cd4e5 65 = .ok (.dup, 1) := zfUtf_putCharsAt_cd4e5_59.2.2.1
theorem dUtf_putCharsAt_cd4e5_66 : decode cUtf_putCharsAt_cd4e5 66 = .ok (.invokespecial 66, 3) := zfUtf_putCharsAt_cd4e5_59.2.2.2.1
theorem dUtf_putCharsAt_cd4e5_69 : decode cUtf_putCharsAt_cd4e5 69 = .ok (.athrow, 1) := zfUtf_putCharsAt_cd4e5_59.2.2.2.2.1
theorem dUtf_putCharsAt_cd4e5_70 : decode cUtf_putCharsAt_cd4e5 70 = .ok (.iload 6, 2) := zfUtf_putCharsAt_cd4e5_59.2.2.2.2.2.1
theorem dUtf_putCharsAt_cd4e5_72 : decode cUtf_putCharsAt_cd4e5 72 = .ok (.ireturn, 1) := zfUtf_putCharsAt_cd4e5_59.2.2.2.2.2.2.1
theorem zfUtf_inflate_0e8fd_0 : decode cUtf_inflate_0e8fd 0 = .ok (.iload_n 3, 1) ∧ decode cUtf_inflate_0e8fd 1 = .ok (.iload 4, 2) ∧ decode cUtf_inflate_0e8fd 3 = .ok (.aload_n 2, 1) ∧ decode cUtf_inflate_0e8fd 4 = .ok (.invokestatic 173, 3) ∧ decode cUtf_inflate_0e8fd 7 = .ok (.iconst 0, 1) ∧ decode cUtf_inflate_0e8fd 8 = .ok (.istore 5, 2) ∧ decode cUtf_inflate_0e8fd 10 = .ok (.iload 5, 2) ∧ decode cUtf_inflate_0e8fd 12 = .ok (.iload 4, 2) ∧ decode cUtf_inflate_0e8fd 14 = .ok (.if_icmp .ge 27, 3) ∧ decode cUtf_inflate_0e8fd 17 = .ok (.aload_n 2, 1) ∧ decode cUtf_inflate_0e8fd 18 = .ok (.iload_n 3, 1) ∧ decode cUtf_inflate_0e8fd 19 = .ok (.iinc 3 1, 3) ∧ decode cUtf_inflate_0e8fd 22 = .ok (.aload_n 0, 1) ∧ decode cUtf_inflate_0e8fd 23 = .ok (.iload_n 1, 1) ∧ decode cUtf_inflate_0e8fd 24 = .ok (.iinc 1 1, 3) ∧ decode cUtf_inflate_0e8fd 27 = .ok (.baload, 1) ∧ decode cUtf_inflate_0e8fd 28 = .ok (.sipush 255, 3) ∧ decode cUtf_inflate_0e8fd 31 = .ok (.iand, 1) ∧ decode cUtf_inflate_0e8fd 32 = .ok (.invokestatic 111, 3) ∧ decode cUtf_inflate_0e8fd 35 = .ok (.iinc 5 1, 3) ∧ decode cUtf_inflate_0e8fd 38 = .ok (.goto (-28), 3) ∧ decode cUtf_inflate_0e8fd 41 = .ok (.return_, 1) ∧ True := Jvm.Free.DS.facts (code := cUtf_inflate_0e8fd) 0 [(.iload_n 3, 1), (.iload 4, 2), (.aload_n 2, 1), (.invokestatic 173, 3), (.iconst 0, 1), (.istore 5, 2), (.iload 5, 2), (.iload 4, 2), (.if_icmp .ge 27, 3), (.aload_n 2, 1), (.iload_n 3, 1), (.iinc 3 1, 3), (.aload_n 0, 1), (.iload_n 1, 1), (.iinc 1 1, 3), (.baload, 1), (.sipush 255, 3), (.iand, 1), (.invokestatic 111, 3), (.iinc 5 1, 3), (.goto (-28), 3), (.return_, 1)] (by decide +kernel) (by decide +kernel)
theorem dUtf_inflate_0e8fd_0 : decode cUtf_inflate_0e8fd 0 = .ok (.iload_n 3, 1) := zfUtf_inflate_0e8fd_0.1
theorem dUtf_inflate_0e8fd_1 : decode cUtf_inflate_0e8fd 1 = .ok (.iload 4, 2) := zfUtf_inflate_0e8fd_0.2.1
theorem dUtf_inflate_0e8fd_3 : decode cUtf_inflate_0e8fd 3 = .ok (.aload_n 2, 1) := zfUtf_inflate_0e8fd_0.2.2.1
theorem dUtf_inflate_0e8fd_4 : decode cUtf_inflate_0e8fd 4 = .ok (.invokestatic 173, 3) := zfUtf_inflate_0e8fd_0.2.2.2.1
theorem dUtf_inflate_0e8fd_7 : decode cUtf_inflate_0e8fd 7 = .ok (.iconst 0, 1) := zfUtf_inflate_0e8fd_0.2.2.2.2.1
theorem dUtf_inflate_0e8fd_8 : decode cUtf_inflate_0e8fd 8 = .ok (.istore 5, 2) := zfUtf_inflate_0e8fd_0.2.2.2.2.2.1
theorem dUtf_inflate_0e8fd_10 : decode cUtf_inflate_0e8fd 10 = .ok (.iload 5, 2) := zfUtf_inflate_0e8fd_0.2.2.2.2.2.2.1
theorem dUtf_inflate_0e8fd_12 : decode cUtf_inflate_0e8fd 12 = .ok (.iload 4, 2) := zfUtf_inflate_0e8fd_0.2.2.2.2.2.2.2.1
theorem dUtf_inflate_0e8fd_14 : decode cUtf_inflate_0e8fd 14 = .ok (.if_icmp .ge 27, 3) := zfUtf_inflate_0e8fd_0.2.2.2.2.2.2.2.2.1
theorem dUtf_inflate_0e8fd_17 : decode cUtf_inflate_0e8fd 17 = .ok (.aload_n 2, 1) := zfUtf_inflate_0e8fd_0.2.2.2.2.2.2.2.2.2.1
theorem dUtf_inflate_0e8fd_18 : decode cUtf_inflate_0e8fd 18 = .ok (.iload_n 3, 1) := zfUtf_inflate_0e8fd_0.2.2.2.2.2.2.2.2.2.2.1
theorem dUtf_inflate_0e8fd_19 : decode cUtf_inflate_0e8fd 19 = .ok (.iinc 3 1, 3) := zfUtf_inflate_0e8fd_0.2.2.2.2.2.2.2.2.2.2.2.1
theorem dUtf_inflate_0e8fd_22 : decode cUtf_inflate_0e8fd 22 = .ok (.aload_n 0, 1) := zfUtf_inflate_0e8fd_0.2.2.2.2.2.2.2.2.2.2.2.2.1
theorem dUtf_inflate_0e8fd_23 : decode cUtf_inflate_0e8fd 23 = .ok (.iload_n 1, 1) := zfUtf_inflate_0e8fd_0.2.2.2.2.2.2.2.2.2.2.2.2.2.1
theorem dUtf_inflate_0e8fd_24 : decode cUtf_inflate_0e8fd 24 = .ok (.iinc 1 1, 3) := zfUtf_inflate_0e8fd_0.2.2.2.2.2.2.2.2.2.2.2.2.2.2.1
theorem dUtf_inflate_0e8fd_27 : decode cUtf_inflate_0e8fd 27 = .ok (.baload, 1) := zfUtf_inflate_0e8fd_0.2.2.2.2.2.2.2.2.2.2.2.2.2.2.2.1
theorem dUtf_inflate_0e8fd_28 : decode cUtf_inflate_0e8fd 28 = .ok (.sipush 255, 3) := zfUtf_inflate_0e8fd_0.2.2.2.2.2.2.2.2.2.2.2.2.2.2.2.2.1
theorem dUtf_inflate_0e8fd_31 : decode cUtf_inflate_0e8fd 31 = .ok (.iand, 1) := zfUtf_inflate_0e8fd_0.2.2.2.2.2.2.2.2.2.2.2.2.2.2.2.2.2.1
theorem dUtf_inflate_0e8fd_32 : decode cUtf_inflate_0e8fd 32 = .ok (.invokestatic 111, 3) := zfUtf_inflate_0e8fd_0.2.2.2.2.2.2.2.2.2.2.2.2.2.2.2.2.2.2.1
theorem dUtf_inflate_0e8fd_35 : decode cUtf_inflate_0e8fd 35 = .ok (.iinc 5 1, 3) := zfUtf_inflate_0e8fd_0.2.2.2.2.2.2.2.2.2.2.2.2.2.2.2.2.2.2.2.1
theorem dUtf_inflate_0e8fd_38 : decode cUtf_inflate_0e8fd 38 = .ok (.goto (-28), 3) := zfUtf_inflate_0e8fd_0.2.2.2.2.2.2.2.2.2.2.2.2.2.2.2.2.2.2.2.2.1
theorem dUtf_inflate_0e8fd_41 : decode cUtf_inflate_0e8fd 41 = .ok (.return_, 1) := zfUtf_inflate_0e8fd_0.2.2.2.2.2.2.2.2.2.2.2.2.2.2.2.2.2.2.2.2.2.1
theorem zfUtf_getChars_ba4f3_0 : decode cUtf_getChars_ba4f3 0 = .ok (.iload_n 1, 1) ∧ decode cUtf_getChars_ba4f3 1 = .ok (.istore 5, 2) ∧ decode cUtf_getChars_ba4f3 3 = .ok (.iload_n 0, 1) ∧ decode cUtf_getChars_ba4f3 4 = .ok (.ifCond .ge 7, 3) ∧ decode cUtf_getChars_ba4f3 7 = .ok (.iconst 1, 1) ∧ decode cUtf_getChars_ba4f3 8 = .ok (.goto 4, 3) ∧ decode cUtf_getChars_ba4f3 11 = .ok (.iconst 0, 1) ∧ decode cUtf_getChars_ba4f3 12 = .ok (.istore 6, 2) ∧ decode cUtf_getChars_ba4f3 14 = .ok (.iload 6, 2) ∧ decode cUtf_getChars_ba4f3 16 = .ok (.ifCond .ne 6, 3) ∧ decode cUtf_getChars_ba4f3 19 = .ok (.iload_n 0, 1) ∧ decode cUtf_getChars_ba4f3 20 = .ok (.ineg, 1) ∧ decode cUtf_getChars_ba4f3 21 = .ok (.istore_n 0, 1) ∧ decode cUtf_getChars_ba4f3 22 = .ok (.iload_n 0, 1) ∧ decode cUtf_getChars_ba4f3 23 = .ok (.bipush (-100), 2) ∧ decode cUtf_getChars_ba4f3 25 = .ok (.if_icmp .gt 51, 3) ∧ decode cUtf_getChars_ba4f3 28 = .ok (.iload_n 0, 1) ∧ decode cUtf_getChars_ba4f3 29 = .ok (.bipush 100, 2) ∧ decode cUtf_getChars_ba4f3 31 = .ok (.idiv, 1) ∧ decode cUtf_getChars_ba4f3 32 = .ok (.istore_n 3, 1) ∧ decode cUtf_getChars_ba4f3 33 = .ok (.iload_n 3, 1) ∧ decode cUtf_getChars_ba4f3 34 = .ok (.bipush 100, 2) ∧ decode cUtf_getChars_ba4f3 36 = .ok (.imul, 1) ∧ decode cUtf_getChars_ba4f3 37 = .ok (.iload_n 0, 1) ∧ decode cUtf_getChars_ba4f3 38 = .ok (.isub, 1) ∧ decode cUtf_getChars_ba4f3 39 = .ok (.istore 4, 2) ∧ decode cUtf_getChars_ba4f3 41 = .ok (.iload_n 3, 1) ∧ decode cUtf_getChars_ba4f3 42 = .ok (.istore_n 0, 1) ∧ decode cUtf_getChars_ba4f3 43 = .ok (.aload_n 2, 1) ∧ decode cUtf_getChars_ba4f3 44 = .ok (.iinc 5 (-1), 3) ∧ decode cUtf_getChars_ba4f3 47 = .ok (.iload 5, 2) ∧ decode cUtf_getChars_ba4f3 49 = .ok (.getstatic 403, 3) ∧ True := Jvm.Free.DS.facts (code := cUtf_getChars_ba4f3) 0 [(.iload_n 1, 1), (.istore 5, 2), (.iload_n 0, 1), (.ifCond .ge 7, 3), (.iconst 1, 1), (.goto 4, 3), (.iconst 0, 1), (.istore 6, 2), (.iload 6, 2), (.ifCond .ne 6, 3), (.iload_n 0, 1), (.ineg, 1), (.istore_n 0, 1), (.iload_n 0, 1), (.bipush (-100), 2), (.if_icmp .gt 51, 3), (.iload_n 0, 1), (.bipush 100, 2), (.idiv, 1), (.istore_n 3, 1), (.iload_n 3, 1), (.bipush 100, 2), (.imul, 1), (.iload_n 0, 1), (.isub, 1), (.istore 4, 2), (.iload_n 3, 1), (.istore_n 0, 1), (.aload_n 2, 1), (.iinc 5 (-1), 3), (.iload 5, 2), (.getstatic 403, 3)] (by decide +kernel) (by decide +kernel)
theorem dUtf_getChars_ba4f3_0 : decode cUtf_getChars_ba4f3 0 = .ok (.iload_n 1, 1) := zfUtf_getChars_ba4f3_0.1
theorem dUtf_getChars_ba4f3_1 : decode cUtf_getChars_ba4f3 1 = .ok (.istore 5, 2) := zfUtf_getChars_ba4f3_0.2.1
theorem dUtf_getChars_ba4f3_3 : decode cUtf_getChars_ba4f3 3 = .ok (.iload_n 0, 1) := zfUtf_getChars_ba4f3_0.2.2.1
theorem dUtf_getChars_ba4f3_4 : decode cUtf_getChars_ba4f3 4 = .ok (.ifCond .ge 7, 3) := zfUtf_getChars_ba4f3_0.2.2.2.1
theorem dUtf_getChars_ba4f3_7 : decode cUtf_getChars_ba4f3 7 = .ok (.iconst 1, 1) := zfUtf_getChars_ba4f3_0.2.2.2.2.1
theorem dUtf_getChars_ba4f3_8 : decode cUtf_getChars_ba4f3 8 = .ok (.goto 4, 3) := zfUtf_getChars_ba4f3_0.2.2.2.2.2.1
theorem dUtf_getChars_ba4f3_11 : decode cUtf_getChars_ba4f3 11 = .ok (.iconst 0, 1) := zfUtf_getChars_ba4f3_0.2.2.2.2.2.2.1
theorem dUtf_getChars_ba4f3_12 : decode cUtf_getChars_ba4f3 12 = .ok (.istore 6, 2) := zfUtf_getChars_ba4f3_0.2.2.2.2.2.2.2.1
theorem dUtf_getChars_ba4f3_14 : decode cUtf_getChars_ba4f3 14 = .ok (.iload 6, 2) := zfUtf_getChars_ba4f3_0.2.2.2.2.2.2.2.2.1
theorem dUtf_getChars_ba4f3_16 : decode cUtf_getChars_ba4f3 16 = .ok (.ifCond .ne 6, 3) := zfUtf_getChars_ba4f3_0.2.2.2.2.2.2.2.2.2.1
theorem dUtf_getChars_ba4f3_19 : decode cUtf_getChars_ba4f3 19 = .ok (.iload_n 0, 1) := zfUtf_getChars_ba4f3_0.2.2.2.2.2.2.2.2.2.2.1
theorem dUtf_getChars_ba4f3_20 : decode cUtf_getChars_ba4f3 20 = .ok (.ineg, 1) := zfUtf_getChars_ba4f3_0.2.2.2.2.2.2.2.2.2.2.2.1
theorem dUtf_getChars_ba4f3_21 : decode cUtf_getChars_ba4f3 21 = .ok (.istore_n 0, 1) := zfUtf_getChars_ba4f3_0.2.2.2.2.2.2.2.2.2.2.2.2.1
theorem dUtf_getChars_ba4f3_22 : decode cUtf_getChars_ba4f3 22 = .ok (.iload_n 0, 1) := zfUtf_getChars_ba4f3_0.2.2.2.2.2.2.2.2.2.2.2.2.2.1
theorem dUtf_getChars_ba4f3_23 : decode cUtf_getChars_ba4f3 23 = .ok (.bipush (-100), 2) := zfUtf_getChars_ba4f3_0.2.2.2.2.2.2.2.2.2.2.2.2.2.2.1
theorem dUtf_getChars_ba4f3_25 : decode cUtf_getChars_ba4f3 25 = .ok (.if_icmp .gt 51, 3) := zfUtf_getChars_ba4f3_0.2.2.2.2.2.2.2.2.2.2.2.2.2.2.2.1
theorem dUtf_getChars_ba4f3_28 : decode cUtf_getChars_ba4f3 28 = .ok (.iload_n 0, 1) := zfUtf_getChars_ba4f3_0.2.2.2.2.2.2.2.2.2.2.2.2.2.2.2.2.1
theorem dUtf_getChars_ba4f3_29 : decode cUtf_getChars_ba4f3 29 = .ok (.bipush 100, 2) := zfUtf_getChars_ba4f3_0.2.2.2.2.2.2.2.2.2.2.2.2.2.2.2.2.2.1
theorem dUtf_getChars_ba4f3_31 : decode cUtf_getChars_ba4f3 31 = .ok (.idiv, 1) := zfUtf_getChars_ba4f3_0.2.2.2.2.2.2.2.2.2.2.2.2.2.2.2.2.2.2.1
theorem dUtf_getChars_ba4f3_32 : decode cUtf_getChars_ba4f3 32 = .ok (.istore_n 3, 1) := zfUtf_getChars_ba4f3_0.2.2.2.2.2.2.2.2.2.2.2.2.2.2.2.2.2.2.2.1
theorem dUtf_getChars_ba4f3_33 : decode cUtf_getChars_ba4f3 33 = .ok (.iload_n 3, 1) := zfUtf_getChars_ba4f3_0.2.2.2.2.2.2.2.2.2.2.2.2.2.2.2.2.2.2.2.2.1
theorem dUtf_getChars_ba4f3_34 : decode cUtf_getChars_ba4f3 34 = .ok (.bipush 100, 2) := zfUtf_getChars_ba4f3_0.2.2.2.2.2.2.2.2.2.2.2.2.2.2.2.2.2.2.2.2.2.1
theorem dUtf_getChars_ba4f3_36 : decode cUtf_getChars_ba4f3 36 = .ok (.imul, 1) := zfUtf_getChars_ba4f3_0.2.2.2.2.2.2.2.2.2.2.2.2.2.2.2.2.2.2.2.2.2.2.1
theorem dUtf_getChars_ba4f3_37 : decode cUtf_getChars_ba4f3 37 = .ok (.iload_n 0, 1) := zfUtf_getChars_ba4f3_0.2.2.2.2.2.2.2.2.2.2.2.2.2.2.2.2.2.2.2.2.2.2.2.1
theorem dUtf_getChars_ba4f3_38 : decode cUtf_getChars_ba4f3 38 = .ok (.isub, 1) := zfUtf_getChars_ba4f3_0.2.2.2.2.2.2.2.2.2.2.2.2.2.2.2.2.2.2.2.2.2.2.2.2.1
theorem dUtf_getChars_ba4f3_39 : decode cUtf_getChars_ba4f3 39 = .ok (.istore 4, 2) := zfUtf_getChars_ba4f3_0.2.2.2.2.2.2.2.2.2.2.2.2.2.2.2.2.2.2.2.2.2.2.2.2.2.1
theorem dUtf_getChars_ba4f3_41 : decode cUtf_getChars_ba4f3 41 = .ok (.iload_n 3, 1) := zfUtf_getChars_ba4f3_0.2.2.2.2.2.2.2.2.2.2.2.2.2.2.2.2.2.2.2.2.2.2.2.2.2.2.1
theorem dUtf_getChars_ba4f3_42 : decode cUtf_getChars_ba4f3 42 = .ok (.istore_n 0, 1) := zfUtf_getChars_ba4f3_0.2.2.2.2.2.2.2.2.2.2.2.2.2.2.2.2.2.2.2.2.2.2.2.2.2.2.2.1
theorem dUtf_getChars_ba4f3_43 : decode cUtf_getChars_ba4f3 43 = .ok (.aload_n 2, 1) := zfUtf_getChars_ba4f3_0.2.2.2.2.2.2.2.2.2.2.2.2.2.2.2.2.2.2.2.2.2.2.2.2.2.2.2.2.1
theorem dUtf_getChars_ba4f3_44 : decode cUtf_getChars_ba4f3 44 = .ok (.iinc 5 (-1), 3) := zfUtf_getChars_ba4f3_0.2.2.2.2.2.2.2.2.2.2.2.2.2.2.2.2.2.2.2.2.2.2.2.2.2.2.2.2.2.1
theorem dUtf_getChars_ba4f3_47 : decode cUtf_getChars_ba4f3 47 = .ok (.iload 5, 2) := zfUtf_getChars_ba4f3_0.2.2.2.2.2.2.2.2.2.2.2.2.2.2.2.2.2.2.2.2.2.2.2.2.2.2.2.2.2.2.1
theorem dUtf_getChars_ba4f3_49 : decode cUtf_getChars_ba4f3 49 = .ok (.getstatic 403, 3) := zfUtf_getChars_ba4f3_0.2.2.2.2.2.2.2.2.2.2.2.2.2.2.2.2.2.2.2.2.2.2.2.2.2.2.2.2.2.2.2.1
theorem zfUtf_getChars_ba4f3_52 : decode cUtf_getChars_ba4f3 52 = .ok (.iload 4, 2) ∧ decode cUtf_getChars_ba4f3 54 = .ok (.baload, 1) ∧ decode cUtf_getChars_ba4f3 55 = .ok (.invokestatic 111, 3) ∧ decode cUtf_getChars_ba4f3 58 = .ok (.aload_n 2, 1) ∧ decode cUtf_getChars_ba4f3 59 = .ok (.iinc 5 (-1), 3) ∧ decode cUtf_getChars_ba4f3 62 = .ok (.iload 5, 2) ∧ decode cUtf_getChars_ba4f3 64 = .ok (.getstatic 407, 3) ∧ decode cUtf_getChars_ba4f3 67 = .ok (.iload 4, 2) ∧ decode cUtf_getChars_ba4f3 69 = .ok (.baload, 1) ∧ decode cUtf_getChars_ba4f3 70 = .ok (.invokestatic 111, 3) ∧ decode cUtf_getChars_ba4f3 73 = .ok (.goto (-51), 3) ∧ decode cUtf_getChars_ba4f3 76 = .ok (.aload_n 2, 1) ∧ decode cUtf_getChars_ba4f3 77 = .ok (.iinc 5 (-1), 3) ∧ decode cUtf_getChars_ba4f3 80 = .ok (.iload 5, 2) ∧ decode cUtf_getChars_ba4f3 82 = .ok (.getstatic 403, 3) ∧ decode cUtf_getChars_ba4f3 85 = .ok (.iload_n 0, 1) ∧ decode cUtf_getChars_ba4f3 86 = .ok (.ineg, 1) ∧ decode cUtf_getChars_ba4f3 87 = .ok (.baload, 1) ∧ decode cUtf_getChars_ba4f3 88 = .ok (.invokestatic 111, 3) ∧ decode cUtf_getChars_ba4f3 91 = .ok (.iload_n 0, 1) ∧ decode cUtf_getChars_ba4f3 92 = .ok (.bipush (-9), 2) ∧ decode cUtf_getChars_ba4f3 94 = .ok (.if_icmp .ge 18, 3) ∧ decode cUtf_getChars_ba4f3 97 = .ok (.aload_n 2, 1) ∧ decode cUtf_getChars_ba4f3 98 = .ok (.iinc 5 (-1), 3) ∧ decode cUtf_getChars_ba4f3 101 = .ok (.iload 5, 2) ∧ decode cUtf_getChars_ba4f3 103 = .ok (.getstatic 407, 3) ∧ decode cUtf_getChars_ba4f3 106 = .ok (.iload_n 0, 1) ∧ decode cUtf_getChars_ba4f3 107 = .ok (.ineg, 1) ∧ decode cUtf_getChars_ba4f3 108 = .ok (.baload, 1) ∧ decode cUtf_getChars_ba4f3 109 = .ok (.invokestatic 111, 3) ∧ decode cUtf_getChars_ba4f3 112 = .ok (.iload 6, 2) ∧ decode cUtf_getChars_ba4f3 114 = .ok (.ifCond .eq 14, 3) ∧ True := Jvm.Free.DS.facts (code := cUtf_getChars_ba4f3) 52 [(.iload 4, 2), (.baload, 1), (.invokestatic 111, 3), (.aload_n 2, 1), (.iinc 5 (-1), 3), (.iload 5, 2), (.getstatic 407, 3), (.iload 4, 2), (.baload, 1), (.invokestatic 111, 3), (.goto (-51), 3), (.aload_n 2, 1), (.iinc 5 (-1), 3), (.iload 5, 2), (.getstatic 403, 3), (.iload_n 0, 1), (.ineg, 1), (.baload, 1), (.invokestatic 111, 3), (.iload_n 0, 1), (.bipush (-9), 2), (.if_icmp .ge 18, 3), (.aload_n 2, 1), (.iinc 5 (-1), 3), (.iload 5, 2), (.getstatic 407, 3), (.iload_n 0, 1), (.ineg, 1), (.baload, 1), (.invokestatic 111, 3), (.iload 6, 2), (.ifCond .eq 14, 3)] (by decide +kernel) (by decide +kernel)
theorem dUtf_getChars_ba4f3_52 : decode cUtf_getChars_ba4f3 52 = .ok (.iload 4, 2) := zfUtf_getChars_ba4f3_52.1
theorem dUtf_getChars_ba4f3_54 : decode cUtf_getChars_ba4f3 54 = .ok (.baload, 1) := zfUtf_getChars_ba4f3_52.2.1
theorem dUtf_getChars_ba4f3_55 : decode cUtf_getChars_ba4f3 55 = .ok (.invokestatic 111, 3) := zfUtf_getChars_ba4f3_52.2.2.1
theorem dUtf_getChars_ba4f3_58 : decode cUtf_getChars_ba4f3 58 = .ok (.aload_n 2, 1) := zfUtf_getChars_ba4f3_52.2.2.2.1
theorem dUtf_getChars_ba4f3_59 : decode cUtf_getChars_ba4f3 59 = .ok (.iinc 5 (-1), 3) := zfUtf_getChars_ba4f3_52.2.2.2.2.1
theorem dUtf_getChars_ba4f3_62 : decode cUtf_getChars_ba4f3 62 = .ok (.iload 5, 2) := zfUtf_getChars_ba4f3_52.2.2.2.2.2.1
theorem dUtf_getChars_ba4f3_64 : decode cUtf_getChars_ba4f3 64 = .ok (.getstatic 407, 3) := zfUtf_getChars_ba4f3_52.2.2.2.2.2.2.1
theorem dUtf_getChars_ba4f3_67 : decode cUtf_getChars_ba4f3 67 = .ok (.iload 4, 2) := zfUtf_getChars_ba4f3_52.2.2.2.2.2.2.2.1
theorem dUtf_getChars_ba4f3_69 : decode cUtf_getChars_ba4f3 69 = .ok (.baload, 1) := zfUtf_getChars_ba4f3_52.2.2.2.2.2.2.2.2.1
theorem dUtf_getChars_ba4f3_70 : decode cUtf_getChars_ba4f3 70 = .ok (.invokestatic 111, 3) := zfUtf_getChars_ba4f3_52.2.2.2.2.2.2.2.2.2.1
theorem dUtf_getChars_ba4f3_73 : decode cUtf_getChars_ba4f3 73 = .ok (.goto (-51), 3) := zfUtf_getChars_ba4f3_52.2.2.2.2.2.2.2.2.2.2.1
theorem dUtf_getChars_ba4f3_76 : decode cUtf_getChars_ba4f3 76 = .ok (.aload_n 2, 1) := zfUtf_getChars_ba4f3_52.2.2.2.2.2.2.2.2.2.2.2.1
theorem dUtf_getChars_ba4f3_77 : decode cUtf_getChars_ba4f3 77 = .ok (.iinc 5 (-1), 3) := zfUtf_getChars_ba4f3_52.2.2.2.2.2.2.2.2.2.2.2.2.1
theorem dUtf_getChars_ba4f3_80 : decode cUtf_getChars_ba4f3 80 = .ok (.iload 5, 2) := zfUtf_getChars_ba4f3_52.2.2.2.2.2.2.2.2.2.2.2.2.2.1
theorem dUtf_getChars_ba4f3_82 : decode cUtf_getChars_ba4f3 82 = .ok (.getstatic 403, 3) := zfUtf_getChars_ba4f3_52.2.2.2.2.2.2.2.2.2.2.2.2.2.2.1
theorem dUtf_getChars_ba4f3_85 : decode cUtf_getChars_ba4f3 85 = .ok (.iload_n 0, 1) := zfUtf_getChars_ba4f3_52.2.2.2.2.2.2.2.2.2.2.2.2.2.2.2.1
theorem dUtf_getChars_ba4f3_86 : decode cUtf_getChars_ba4f3 86 = .ok (.ineg, 1) := zfUtf_getChars_ba4f3_52.2.2.2.2.2.2.2.2.2.2.2.2.2.2.2.2.1
theorem dUtf_getChars_ba4f3_87 : decode cUtf_getChars_ba4f3 87 = .ok (.baload, 1) := zfUtf_getChars_ba4f3_52.2.2.2.2.2.2.2.2.2.2.2.2.2.2.2.2.2.1
theorem dUtf_getChars_ba4f3_88 : decode cUtf_getChars_ba4f3 88 = .ok (.invokestatic 111, 3) := zfUtf_getChars_ba4f3_52.2.2.2.2.2.2.2.2.2.2.2.2.2.2.2.2.2.2.1
theorem dUtf_getChars_ba4f3_91 : decode cUtf_getChars_ba4f3 91 = .ok (.iload_n 0, 1) := zfUtf_getChars_ba4f3_52.2.2.2.2.2.2.2.2.2.2.2.2.2.2.2.2.2.2.2.1
theorem dUtf_getChars_ba4f3_92 : decode cUtf_getChars_ba4f3 92 = .ok (.bipush (-9), 2) := zfUtf_getChars_ba4f3_52.2.2.2.2.2.2.2.2.2.2.2.2.2.2.2.2.2.2.2.2.1
theorem dUtf_getChars_ba4f3_94 : decode cUtf_getChars_ba4f3 94 = .ok (.if_icmp .ge 18, 3) := zfUtf_getChars_ba4f3_52.2.2.2.2.2.2.2.2.2.2.2.2.2.2.2.2.2.2.2.2.2.1
theorem dUtf_getChars_ba4f3_97 : decode cUtf_getChars_ba4f3 97 = .ok (.aload_n 2, 1) := zfUtf_getChars_ba4f3_52.2.2.2.2.2.2.2.2.2.2.2.2.2.2.2.2.2.2.2.2.2.2.1
theorem dUtf_getChars_ba4f3_98 : decode cUtf_getChars_ba4f3 98 = .ok (.iinc 5 (-1), 3) := zfUtf_getChars_ba4f3_52.2.2.2.2.2.2.2.2.2.2.2.2.2.2.2.2.2.2.2.2.2.2.2.1
theorem dUtf_getChars_ba4f3_101 : decode cUtf_getChars_ba4f3 101 = .ok (.iload 5, 2) := zfUtf_getChars_ba4f3_52.2.2.2.2.2.2.2.2.2.2.2.2.2.2.2.2.2.2.2.2.2.2.2.2.1
theorem dUtf_getChars_ba4f3_103 : decode cUtf_getChars_ba4f3 103 = .ok (.getstatic 407, 3) := zfUtf_getChars_ba4f3_52.2.2.2.2.2.2.2.2.2.2.2.2.2.2.2.2.2.2.2.2.2.2.2.2.2.1
theorem dUtf_getChars_ba4f3_106 : decode cUtf_getChars_ba4f3 106 = .ok (.iload_n 0, 1) := zfUtf_getChars_ba4f3_52.2.2.2.2.2.2.2.2.2.2.2.2.2.2.2.2.2.2.2.2.2.2.2.2.2.2.1
theorem dUtf_getChars_ba4f3_107 : decode cUtf_getChars_ba4f3 107 = .ok (.ineg, 1) := zfUtf_getChars_ba4f3_52.2.2.2.2.2.2.2.2.2.2.2.2.2.2.2.2.2.2.2.2.2.2.2.2.2.2.2.1
theorem dUtf_getChars_ba4f3_108 : decode cUtf_getChars_ba4f3 108 = .ok (.baload, 1) := zfUtf_getChars_ba4f3_52.2.2.2.2.2.2.2.2.2.2.2.2.2.2.2.2.2.2.2.2.2.2.2.2.2.2.2.2.1
theorem dUtf_getChars_ba4f3_109 : decode cUtf_getChars_ba4f3 109 = .ok (.invokestatic 111, 3) := zfUtf_getChars_ba4f3_52.2.2.2.2.2.2.2.2.2.2.2.2.2.2.2.2.2.2.2.2.2.2.2.2.2.2.2.2.2.1
theorem dUtf_getChars_ba4f3_112 : decode cUtf_getChars_ba4f3 112 = .ok (.iload 6, 2) := zfUtf_getChars_ba4f3_52.2.2.2.2.2.2.2.2.2.2.2.2.2.2.2.2.2.2.2.2.2.2.2.2.2.2.2.2.2.2.1
theorem dUtf_getChars_ba4f3_114 : decode cUtf_getChars_ba4f3 114 = .ok (.ifCond .eq 14, 3) := zfUtf_getChars_ba4f3_52.2.2.2.2.2.2.2.2.2.2.2.2.2.2.2.2.2.2.2.2.2.2.2.2.2.2.2.2.2.2.2.1
theorem zfUtf_getChars_ba4f3_117 : decode cUtf_getChars_ba4f3 117 = .ok (.aload_n 2, 1) ∧ decode cUtf_getChars_ba4f3 118 = .ok (.iinc 5 (-1), 3) ∧ decode cUtf_getChars_ba4f3 121 = .ok (.iload 5, 2) ∧ decode cUtf_getChars_ba4f3 123 = .ok (.bipush 45, 2) ∧ decode cUtf_getChars_ba4f3 125 = .ok (.invokestatic 111, 3) ∧ decode cUtf_getChars_ba4f3 128 = .ok (.iload 5, 2) ∧ decode cUtf_getChars_ba4f3 130 = .ok (.ireturn, 1) ∧ True := Jvm.Free.DS.facts (code := cUtf_getChars_ba4f3) 117 [(.aload_n 2, 1), (.iinc 5 (-1), 3), (.iload 5, 2), (.bipush 45, 2), (.invokestatic 111, 3), (.iload 5, 2), (.ireturn, 1)] (by decide +kernel) (by decide +kernel)
theorem dUtf_getChars_ba4f3_117 : decode cUtf_getChars_ba4f3 117 = .ok (.aload_n 2, 1) := zfUtf_getChars_ba4f3_117.1
theorem dUtf_getChars_ba4f3_118 : decode cUtf_getChars_ba4f3 118 = .ok (.iinc 5 (-1), 3) := zfUtf_getChars_ba4f3_117.2.1
theorem dUtf_getChars_ba4f3_121 : decode cUtf_getChars_ba4f3 121 = .ok (.iload 5, 2) := zfUtf_getChars_ba4f3_117.2.2.1
theorem dUtf_getChars_ba4f3_123 : decode cUtf_getChars_ba4f3 123 = .ok (.bipush 45, 2) := zfUtf_getChars_ba4f3_117.2.2.2.1
theorem dUtf_getChars_ba4f3_125 : decode cUtf_getChars_ba4f3 125 = .ok (.invokestatic 111, 3) := zfUtf_getChars_ba4f3_117.2.2.2.2.1
theorem dUtf_getChars_ba4f3_128 : decode cUtf_getChars_ba4f3 128 = .ok (.iload 5, 2) := zfUtf_getChars_ba4f3_117.2.2.2.2.2.1
theorem dUtf_getChars_ba4f3_130 : decode cUtf_getChars_ba4f3 130 = .ok (.ireturn, 1) := zfUtf_getChars_ba4f3_117.2.2.2.2.2.2.1
theorem zfUtf_checkIndex_2214a_0 : decode cUtf_checkIndex_2214a 0 = .ok (.iload_n 0, 1) ∧ decode cUtf_checkIndex_2214a 1 = .ok (.aload_n 1, 1) ∧ decode cUtf_checkIndex_2214a 2 = .ok (.invokestatic 48, 3) ∧ decode cUtf_checkIndex_2214a 5 = .ok (.invokestatic 414, 3) ∧ decode cUtf_checkIndex_2214a 8 = .ok (.return_, 1) ∧ True := Jvm.Free.DS.facts (code := cUtf_checkIndex_2214a) 0 [(.iload_n 0, 1), (.aload_n 1, 1), (.invokestatic 48, 3), (.invokestatic 414, 3), (.return_, 1)] (by decide +kernel) (by decide +kernel)
theorem dUtf_checkIndex_2214a_0 : decode cUtf_checkIndex_2214a 0 = .ok (.iload_n 0, 1) := zfUtf_checkIndex_2214a_0.1
theorem dUtf_checkIndex_2214a_1 : decode cUtf_checkIndex_2214a 1 = .ok (.aload_n 1, 1) := zfUtf_checkIndex_2214a_0.2.1
theorem dUtf_checkIndex_2214a_2 : decode cUtf_checkIndex_2214a 2 = .ok (.invokestatic 48, 3) := zfUtf_checkIndex_2214a_0.2.2.1
theorem dUtf_checkIndex_2214a_5 : decode cUtf_checkIndex_2214a 5 = .ok (.invokestatic 414, 3) := zfUtf_checkIndex_2214a_0.2.2.2.1
theorem dUtf_checkIndex_2214a_8 : decode cUtf_checkIndex_2214a 8 = .ok (.return_, 1) := zfUtf_checkIndex_2214a_0.2.2.2.2.1
theorem zfUtf_checkBoundsBeginEnd_d044e_0 : decode cUtf_checkBoundsBeginEnd_d044e 0 = .ok (.iload_n 0, 1) ∧ decode cUtf_checkBoundsBeginEnd_d044e 1 = .ok (.iload_n 1, 1) ∧ decode cUtf_checkBoundsBeginEnd_d044e 2 = .ok (.aload_n 2, 1) ∧ decode cUtf_checkBoundsBeginEnd_d044e 3 = .ok (.invokestatic 48, 3) ∧ decode cUtf_checkBoundsBeginEnd_d044e 6 = .ok (.invokestatic 241, 3) ∧ decode cUtf_checkBoundsBeginEnd_d044e 9 = .ok (.return_, 1) ∧ True := Jvm.Free.DS.facts (code := cUtf_checkBoundsBeginEnd_d044e) 0 [(.iload_n 0, 1), (.iload_n 1, 1), (.aload_n 2, 1), (.invokestatic 48, 3), (.invokestatic 241, 3), (.return_, 1)] (by decide +kernel) (by decide +kernel)
theorem dUtf_checkBoundsBeginEnd_d044e_0 : decode cUtf_checkBoundsBeginEnd_d044e 0 = .ok (.iload_n 0, 1) := zfUtf_checkBoundsBeginEnd_d044e_0.1
theorem dUtf_checkBoundsBeginEnd_d044e_1 : decode cUtf_checkBoundsBeginEnd_d044e 1 = .ok (.iload_n 1, 1) := zfUtf_checkBoundsBeginEnd_d044e_0.2.1
theorem dUtf_checkBoundsBeginEnd_d044e_2 : decode cUtf_checkBoundsBeginEnd_d044e 2 = .ok (.aload_n 2, 1) := zfUtf_checkBoundsBeginEnd_d044e_0.2.2.1
theorem dUtf_checkBoundsBeginEnd_d044e_3 : decode cUtf_checkBoundsBeginEnd_d044e 3 = .ok (.invokestatic 48, 3) := zfUtf_checkBoundsBeginEnd_d044e_0.2.2.2.1
theorem dUtf_checkBoundsBeginEnd_d044e_6 : decode cUtf_checkBoundsBeginEnd_d044e 6 = .ok (.invokestatic 241, 3) := zfUtf_checkBoundsBeginEnd_d044e_0.2.2.2.2.1
theorem dUtf_checkBoundsBeginEnd_d044e_9 : decode cUtf_checkBoundsBeginEnd_d044e 9 = .ok (.return_, 1) := zfUtf_checkBoundsBeginEnd_d044e_0.2.2.2.2.2.1
theorem zfUtf_checkBoundsOffCount_d044e_0 : decode cUtf_checkBoundsOffCount_d044e 0 = .ok (.iload_n 0, 1) ∧ decode cUtf_checkBoundsOffCount_d044e 1 = .ok (.iload_n 1, 1) ∧ decode cUtf_checkBoundsOffCount_d044e 2 = .ok (.aload_n 2, 1) ∧ decode cUtf_checkBoundsOffCount_d044e 3 = .ok (.invokestatic 48, 3) ∧ decode cUtf_checkBoundsOffCount_d044e 6 = .ok (.invokestatic 419, 3) ∧ decode cUtf_checkBoundsOffCount_d044e 9 = .ok (.pop, 1) ∧ decode cUtf_checkBoundsOffCount_d044e 10 = .ok (.return_, 1) ∧ True := Jvm.Free.DS.facts (code := cUtf_checkBoundsOffCount_d044e) 0 [(.iload_n 0, 1), (.iload_n 1, 1), (.aload_n 2, 1), (.invokestatic 48, 3), (.invokestatic 419, 3), (.pop, 1), (.return_, 1)] (by decide +kernel) (by decide +kernel)
theorem dUtf_checkBoundsOffCount_d044e_0 : decode cUtf_checkBoundsOffCount_d044e 0 = .ok (.iload_n 0, 1) := zfUtf_checkBoundsOffCount_d044e_0.1
theorem dUtf_checkBoundsOffCount_d044e_1 : decode cUtf_checkBoundsOffCount_d044e 1 = .ok (.iload_n 1, 1) := zfUtf_checkBoundsOffCount_d044e_0.2.1
theorem dUtf_checkBoundsOffCount_d044e_2 : decode cUtf_checkBoundsOffCount_d044e 2 = .ok (.aload_n 2, 1) := zfUtf_checkBoundsOffCount_d044e_0.2.2.1
theorem dUtf_checkBoundsOffCount_d044e_3 : decode cUtf_checkBoundsOffCount_d044e 3 = .ok (.invokestatic 48, 3) := zfUtf_checkBoundsOffCount_d044e_0.2.2.2.1
theorem dUtf_checkBoundsOffCount_d044e_6 : decode cUtf_checkBoundsOffCount_d044e 6 = .ok (.invokestatic 419, 3) := zfUtf_checkBoundsOffCount_d044e_0.2.2.2.2.1
theorem dUtf_checkBoundsOffCount_d044e_9 : decode cUtf_checkBoundsOffCount_d044e 9 = .ok (.pop, 1) := zfUtf_checkBoundsOffCount_d044e_0.2.2.2.2.2.1
theorem dUtf_checkBoundsOffCount_d044e_10 : decode cUtf_checkBoundsOffCount_d044e 10 = .ok (.return_, 1) := zfUtf_checkBoundsOffCount_d044e_0.2.2.2.2.2.2.1
theorem zfArr_copyOf_9075b_0 : decode cArr_copyOf_9075b 0 = .ok (.iload_n 1, 1) ∧ decode cArr_copyOf_9075b 1 = .ok (.aload_n 0, 1) ∧ decode cArr_copyOf_9075b 2 = .ok (.arraylength, 1) ∧ decode cArr_copyOf_9075b 3 = .ok (.if_icmp .ne 11, 3) ∧ decode cArr_copyOf_9075b 6 = .ok (.aload_n 0, 1) ∧ decode cArr_copyOf_9075b 7 = .ok (.invokevirtual 310, 3) ∧ decode cArr_copyOf_9075b 10 = .ok (.checkcast 311, 3) ∧ decode cArr_copyOf_9075b 13 = .ok (.areturn, 1) ∧ decode cArr_copyOf_9075b 14 = .ok (.iload_n 1, 1) ∧ decode cArr_copyOf_9075b 15 = .ok (.newarray .byte, 2) ∧ decode cArr_copyOf_9075b 17 = .ok (.astore_n 2, 1) ∧ decode cArr_copyOf_9075b 18 = .ok (.aload_n 0, 1) ∧ decode cArr_copyOf_9075b 19 = .ok (.iconst 0, 1) ∧ decode cArr_copyOf_9075b 20 = .ok (.aload_n 2, 1) ∧ decode cArr_copyOf_9075b 21 = .ok (.iconst 0, 1) ∧ decode cArr_copyOf_9075b 22 = .ok (.aload_n 0, 1) ∧ decode cArr_copyOf_9075b 23 = .ok (.arraylength, 1) ∧ decode cArr_copyOf_9075b 24 = .ok (.iload_n 1, 1) ∧ decode cArr_copyOf_9075b 25 = .ok (.invokestatic 304, 3) ∧ decode cArr_copyOf_9075b 28 = .ok (.invokestatic 150, 3) ∧ decode cArr_copyOf_9075b 31 = .ok (.aload_n 2, 1) ∧ decode cArr_copyOf_9075b 32 = .ok (.areturn, 1) ∧ True := Jvm.Free.DS.facts (code := cArr_copyOf_9075b) 0 [(.iload_n 1, 1), (.aload_n 0, 1), (.arraylength, 1), (.if_icmp .ne 11, 3), (.aload_n 0, 1), (.invokevirtual 310, 3), (.checkcast 311, 3), (.areturn, 1), (.iload_n 1, 1), (.newarray .byte, 2), (.astore_n 2, 1), (.aload_n 0, 1), (.iconst 0, 1), (.aload_n 2, 1), (.iconst 0, 1), (.aload_n 0, 1), (.arraylength, 1), (.iload_n 1, 1), (.invokestatic 304, 3), (.invokestatic 150, 3), (.aload_n 2, 1), (.areturn, 1)] (by decide +kernel) (by decide +kernel)
theorem dArr_copyOf_9075b_0 : decode cArr_copyOf_9075b 0 = .ok (.iload_n 1, 1) := zfArr_copyOf_9075b_0.1
theorem dArr_copyOf_9075b_1 : decode cArr_copyOf_9075b 1 = .ok (.aload_n 0, 1) := zfArr_copyOf_9075b_0.2.1
theorem dArr_copyOf_9075b_2 : decode cArr_copyOf_9075b 2 = .ok (.arraylength, 1) := zfArr_copyOf_9075b_0.2.2.1
theorem dArr_copyOf_9075b_3 : decode cArr_copyOf_9075b 3 = .ok (.if_icmp .ne 11, 3) := zfArr_copyOf_9075b_0.2.2.2.1
theorem dArr_copyOf_9075b_6 : decode cArr_copyOf_9075b 6 = .ok (.aload_n 0, 1) := zfArr_copyOf_9075b_0.2.2.2.2.1
theorem dArr_copyOf_9075b_7 : decode cArr_copyOf_9075b 7 = .ok (.invokevirtual 310, 3) := zfArr_copyOf_9075b_0.2.2.2.2.2.1
theorem dArr_copyOf_9075b_10 : decode cArr_copyOf_9075b 10 = .ok (.checkcast 311, 3) := zfArr_copyOf_9075b_0.2.2.2.2.2.2.1
theorem dArr_copyOf_9075b_13 : decode cArr_copyOf_9075b 13 = .ok (.areturn, 1) := zfArr_copyOf_9075b_0.2.2.2.2.2.2.2.1
theorem dArr_copyOf_9075b_14 : decode cArr_copyOf_9075b 14 = .ok (.iload_n 1, 1) := zfArr_copyOf_9075b_0.2.2.2.2.2.2.2.2.1
theorem dArr_copyOf_9075b_15 : decode cArr_copyOf_9075b 15 = .ok (.newarray .byte, 2) := zfArr_copyOf_9075b_0.2.2.2.2.2.2.2.2.2.1
theorem dArr_copyOf_9075b_17 : decode cArr_copyOf_9075b 17 = .ok (.astore_n 2, 1) := zfArr_copyOf_9075b_0.2.2.2.2.2.2.2.2.2.2.1
theorem dArr_copyOf_9075b_18 : decode cArr_copyOf_9075b 18 = .ok (.aload_n 0, 1) := zfArr_copyOf_9075b_0.2.2.2.2.2.2.2.2.2.2.2.1
theorem dArr_copyOf_9075b_19 : decode cArr_copyOf_9075b 19 = .ok (.iconst 0, 1) := zfArr_copyOf_9075b_0.2.2.2.2.2.2.2.2.2.2.2.2.1
theorem dArr_copyOf_9075b_20 : decode cArr_copyOf_9075b 20 = .ok (.aload_n 2, 1) := zfArr_copyOf_9075b_0.2.2.2.2.2.2.2.2.2.2.2.2.2.1
theorem dArr_copyOf_9075b_21 : decode cArr_copyOf_9075b 21 = .ok (.iconst 0, 1) := zfArr_copyOf_9075b_0.2.2.2.2.2.2.2.2.2.2.2.2.2.2.1
theorem dArr_copyOf_9075b_22 : decode cArr_copyOf_9075b 22 = .ok (.aload_n 0, 1) := zfArr_copyOf_9075b_0.2.2.2.2.2.2.2.2.2.2.2.2.2.2.2.1
theorem dArr_copyOf_9075b_23 : decode cArr_copyOf_9075b 23 = .ok (.arraylength, 1) := zfArr_copyOf_9075b_0.2.2.2.2.2.2.2.2.2.2.2.2.2.2.2.2.1
theorem dArr_copyOf_9075b_24 : decode cArr_copyOf_9075b 24 = .ok (.iload_n 1, 1) := zfArr_copyOf_9075b_0.2.2.2.2.2.2.2.2.2.2.2.2.2.2.2.2.2.1
theorem dArr_copyOf_9075b_25 : decode cArr_copyOf_9075b 25 = .ok (.invokestatic 304, 3) := zfArr_copyOf_9075b_0.2.2.2.2.2.2.2.2.2.2.2.2.2.2.2.2.2.2.1
theorem dArr_copyOf_9075b_28 : decode cArr_copyOf_9075b 28 = .ok (.invokestatic 150, 3) := zfArr_copyOf_9075b_0.2.2.2.2.2.2.2.2.2.2.2.2.2.2.2.2.2.2.2.1
theorem dArr_copyOf_9075b_31 : decode cArr_copyOf_9075b 31 = .ok (.aload_n 2, 1) := zfArr_copyOf_9075b_0.2.2.2.2.2.2.2.2.2.2.2.2.2.2.2.2.2.2.2.2.1
theorem dArr_copyOf_9075b_32 : decode cArr_copyOf_9075b 32 = .ok (.areturn, 1) := zfArr_copyOf_9075b_0.2.2.2.2.2.2.2.2.2.2.2.2.2.2.2.2.2.2.2.2.2.1
theorem zfArr_checkLength_df160_0 : decode cArr_checkLength_df160 0 = .ok (.iload_n 1, 1) ∧ decode cArr_checkLength_df160 1 = .ok (.iload_n 0, 1) ∧ decode cArr_checkLength_df160 2 = .ok (.if_icmp .ge 35, 3) ∧ decode cArr_checkLength_df160 5 = .ok (.new 43, 3) ∧ decode cArr_checkLength_df160 8 = .ok (.dup, 1) ∧ decode cArr_checkLength_df160 9 = .ok (.new 45, 3) ∧ decode cArr_checkLength_df160 12 = .ok (.dup, 1) ∧ decode cArr_checkLength_df160 13 = .ok (.invokespecial 47, 3) ∧ decode cArr_checkLength_df160 16 = .ok (.iload_n 0, 1) ∧ decode cArr_checkLength_df160 17 = .ok (.invokevirtual 54, 3) ∧ decode cArr_checkLength_df160 20 = .ok (.ldc_w 337, 3) ∧ decode cArr_checkLength_df160 23 = .ok (.invokevirtual 50, 3) ∧ decode cArr_checkLength_df160 26 = .ok (.iload_n 1, 1) ∧ decode cArr_checkLength_df160 27 = .ok (.invokevirtual 54, 3) ∧ decode cArr_checkLength_df160 30 = .ok (.invokevirtual 61, 3) ∧ decode cArr_checkLength_df160 33 = .ok (.invokespecial 65, 3) ∧ decode cArr_checkLength_df160 36 = .ok (.athrow, 1) ∧ decode cArr_checkLength_df160 37 = .ok (.return_, 1) ∧ True := Jvm.Free.DS.facts (code := cArr_checkLength_df160) 0 [(.iload_n 1, 1), (.iload_n 0, 1), (.if_icmp .ge 35, 3), (.new 43, 3), (.dup, 1), (.new 45, 3), (.dup, 1), (.invokespecial 47, 3), (.iload_n 0, 1), (.invokevirtual 54, 3), (.ldc_w 337, 3), (.invokevirtual 50, 3), (.iload_n 1, 1), (.invokevirtual 54, 3), (.invokevirtual 61, 3), (.invokespecial 65, 3), (.athrow, 1), (.return_, 1)] (by decide +kernel) (by decide +kernel)
theorem dArr_checkLength_df160_0 : decode cArr_checkLength_df160 0 = .ok (.iload_n 1, 1) := zfArr_checkLength_df160_0.1
theorem dArr_checkLength_df160_1 : decode cArr_checkLength_df160 1 = .ok (.iload_n 0, 1) := zfArr_checkLength_df160_0.2.1
theorem dArr_checkLength_df160_2 : decode cArr_checkLength_df160 2 = .ok (.if_icmp .ge 35, 3) := zfArr_checkLength_df160_0.2.2.1
theorem dArr_checkLength_df160_5 : decode cArr_checkLength_df160 5 = .ok (.new 43, 3) := zfArr_checkLength_df160_0.2.2.2.1
theorem dArr_checkLength_df160_8 : decode cArr_checkLength_df160 8 = .ok (.dup, 1) := zfArr_checkLength_df160_0.2.2.2.2.1
theorem dArr_checkLength_df160_9 : decode cArr_checkLength_df160 9 = .ok (.new 45, 3) := zfArr_checkLength_df160_0.2.2.2.2.2.1
theorem dArr_checkLength_df160_12 : decode cArr_checkLength_df160 12 = .ok (.dup, 1) := zfArr_checkLength_df160_0.2.2.2.2.2.2.1
theorem dArr_checkLength_df160_13 : decode cArr_checkLength_df160 13 = .ok (.invokespecial 47, 3) := zfArr_checkLength_df160_0.2.2.2.2.2.2.2.1
theorem dArr_checkLength_df160_16 : decode cArr_checkLength_df160 16 = .ok (.iload_n 0, 1) := zfArr_checkLength_df160_0.2.2.2.2.2.2.2.2.1
theorem dArr_checkLength_df160_17 : decode cArr_checkLength_df160 17 = .ok (.invokevirtual 54, 3) := zfArr_checkLength_df160_0.2.2.2.2.2.2.2.2.2.1
theorem dArr_checkLength_df160_20 : decode cArr_checkLength_df160 20 = .ok (.ldc_w 337, 3) := zfArr_checkLength_df160_0.2.2.2.2.2.2.2.2.2.2.1
theorem dArr_checkLength_df160_23 : decode cArr_checkLength_df160 23 = .ok (.invokevirtual 50, 3) := zfArr_checkLength_df160_0.2.2.2.2.2.2.2.2.2.2.2.1
theorem dArr_checkLength_df160_26 : decode cArr_checkLength_df160 26 = .ok (.iload_n 1, 1) := zfArr_checkLength_df160_0.2.2.2.2.2.2.2.2.2.2.2.2.1
theorem dArr_checkLength_df160_27 : decode cArr_checkLength_df160 27 = .ok (.invokevirtual 54, 3) := zfArr_checkLength_df160_0.2.2.2.2.2.2.2.2.2.2.2.2.2.1
theorem dArr_checkLength_df160_30 : decode cArr_checkLength_df160 30 = .ok (.invokevirtual 61, 3) := zfArr_checkLength_df160_0.2.2.2.2.2.2.2.2.2.2.2.2.2.2.1
theorem dArr_checkLength_df160_33 : decode cArr_checkLength_df160 33 = .ok (.invokespecial 65, 3) := zfArr_checkLength_df160_0.2.2.2.2.2.2.2.2.2.2.2.2.2.2.2.1
theorem dArr_checkLength_df160_36 : decode cArr_checkLength_df160 36 = .ok (.athrow, 1) := zfArr_checkLength_df160_0.2.2.2.2.2.2.2.2.2.2.2.2.2.2.2.2.1
theorem dArr_checkLength_df160_37 : decode cArr_checkLength_df160 37 = .ok (.return_, 1) := zfArr_checkLength_df160_0.2.2.2.2.2.2.2.2.2.2.2.2.2.2.2.2.2.1
theorem zfArr_copyOfRange_39247_0 : decode cArr_copyOfRange_39247 0 = .ok (.iload_n 1, 1) ∧ decode cArr_copyOfRange_39247 1 = .ok (.ifCond .ne 9, 3) ∧ decode cArr_copyOfRange_39247 4 = .ok (.iload_n 2, 1) ∧ decode cArr_copyOfRange_39247 5 = .ok (.aload_n 0, 1) ∧ decode cArr_copyOfRange_39247 6 = .ok (.arraylength, 1) ∧ decode cArr_copyOfRange_39247 7 = .ok (.if_icmp .eq 10, 3) ∧ decode cArr_copyOfRange_39247 10 = .ok (.aload_n 0, 1) ∧ decode cArr_copyOfRange_39247 11 = .ok (.iload_n 1, 1) ∧ decode cArr_copyOfRange_39247 12 = .ok (.iload_n 2, 1) ∧ decode cArr_copyOfRange_39247 13 = .ok (.invokestatic 339, 3) ∧ decode cArr_copyOfRange_39247 16 = .ok (.areturn, 1) ∧ decode cArr_copyOfRange_39247 17 = .ok (.aload_n 0, 1) ∧ decode cArr_copyOfRange_39247 18 = .ok (.invokevirtual 310, 3) ∧ decode cArr_copyOfRange_39247 21 = .ok (.checkcast 311, 3) ∧ decode cArr_copyOfRange_39247 24 = .ok (.areturn, 1) ∧ True := Jvm.Free.DS.facts (code := cArr_copyOfRange_39247) 0 [(.iload_n 1, 1), (.ifCond .ne 9, 3), (.iload_n 2, 1), (.aload_n 0, 1), (.arraylength, 1), (.if_icmp .eq 10, 3), (.aload_n 0, 1), (.iload_n 1, 1), (.iload_n 2, 1), (.invokestatic 339, 3), (.areturn, 1), (.aload_n 0, 1), (.invokevirtual 310, 3), (.checkcast 311, 3), (.areturn, 1)] (by decide +kernel) (by decide +kernel)
theorem dArr_copyOfRange_39247_0 : decode cArr_copyOfRange_39247 0 = .ok (.iload_n 1, 1) := zfArr_copyOfRange_39247_0.1
theorem dArr_copyOfRange_39247_1 : decode cArr_copyOfRange_39247 1 = .ok (.ifCond .ne 9, 3) := zfArr_copyOfRange_39247_0.2.1
theorem dArr_copyOfRange_39247_4 : decode cArr_copyOfRange_39247 4 = .ok (.iload_n 2, 1) := zfArr_copyOfRange_39247_0.2.2.1
theorem dArr_copyOfRange_39247_5 : decode cArr_copyOfRange_39247 5 = .ok (.aload_n 0, 1) := zfArr_copyOfRange_39247_0.2.2.2.1
theorem dArr_copyOfRange_39247_6 : decode cArr_copyOfRange_39247 6 = .ok (.arraylength, 1) := zfArr_copyOfRange_39247_0.2.2.2.2.1
theorem dArr_copyOfRange_39247_7 : decode cArr_copyOfRange_39247 7 = .ok (.if_icmp .eq 10, 3) := zfArr_copyOfRange_39247_0.2.2.2.2.2.1
theorem dArr_copyOfRange_39247_10 : decode cArr_copyOfRange_39247 10 = .ok (.aload_n 0, 1) := zfArr_copyOfRange_39247_0.2.2.2.2.2.2.1
theorem dArr_copyOfRange_39247_11 : decode cArr_copyOfRange_39247 11 = .ok (.iload_n 1, 1) := zfArr_copyOfRange_39247_0.2.2.2.2.2.2.2.1
theorem dArr_copyOfRange_39247_12 : decode cArr_copyOfRange_39247 12 = .ok (.iload_n 2, 1) := zfArr_copyOfRange_39247_0.2.2.2.2.2.2.2.2.1
theorem dArr_copyOfRange_39247_13 : decode cArr_copyOfRange_39247 13 = .ok (.invokestatic 339, 3) := zfArr_copyOfRange_39247_0.2.2.2.2.2.2.2.2.2.1
theorem dArr_copyOfRange_39247_16 : decode cArr_copyOfRange_39247 16 = .ok (.areturn, 1) := zfArr_copyOfRange_39247_0.2.2.2.2.2.2.2.2.2.2.1
theorem dArr_copyOfRange_39247_17 : decode cArr_copyOfRange_39247 17 = .ok (.aload_n 0, 1) := zfArr_copyOfRange_39247_0.2.2.2.2.2.2.2.2.2.2.2.1
theorem dArr_copyOfRange_39247_18 : decode cArr_copyOfRange_39247 18 = .ok (.invokevirtual 310, 3) := zfArr_copyOfRange_39247_0.2.2.2.2.2.2.2.2.2.2.2.2.1
theorem dArr_copyOfRange_39247_21 : decode cArr_copyOfRange_39247 21 = .ok (.checkcast 311, 3) := zfArr_copyOfRange_39247_0.2.2.2.2.2.2.2.2.2.2.2.2.2.1
theorem dArr_copyOfRange_39247_24 : decode cArr_copyOfRange_39247 24 = .ok (.areturn, 1) := zfArr_copyOfRange_39247_0.2.2.2.2.2.2.2.2.2.2.2.2.2.2.1
theorem zfArr_copyOfRangeByte_39247_0 : decode cArr_copyOfRangeByte_39247 0 = .ok (.iload_n 1, 1) ∧ decode cArr_copyOfRangeByte_39247 1 = .ok (.iload_n 2, 1) ∧ decode cArr_copyOfRangeByte_39247 2 = .ok (.invokestatic 343, 3) ∧ decode cArr_copyOfRangeByte_39247 5 = .ok (.iload_n 2, 1) ∧ decode cArr_copyOfRangeByte_39247 6 = .ok (.iload_n 1, 1) ∧ decode cArr_copyOfRangeByte_39247 7 = .ok (.isub, 1) ∧ decode cArr_copyOfRangeByte_39247 8 = .ok (.istore_n 3, 1) ∧ decode cArr_copyOfRangeByte_39247 9 = .ok (.iload_n 3, 1) ∧ decode cArr_copyOfRangeByte_39247 10 = .ok (.newarray .byte, 2) ∧ decode cArr_copyOfRangeByte_39247 12 = .ok (.astore 4, 2) ∧ decode cArr_copyOfRangeByte_39247 14 = .ok (.aload_n 0, 1) ∧ decode cArr_copyOfRangeByte_39247 15 = .ok (.iload_n 1, 1) ∧ decode cArr_copyOfRangeByte_39247 16 = .ok (.aload 4, 2) ∧ decode cArr_copyOfRangeByte_39247 18 = .ok (.iconst 0, 1) ∧ decode cArr_copyOfRangeByte_39247 19 = .ok (.aload_n 0, 1) ∧ decode cArr_copyOfRangeByte_39247 20 = .ok (.arraylength, 1) ∧ decode cArr_copyOfRangeByte_39247 21 = .ok (.iload_n 1, 1) ∧ decode cArr_copyOfRangeByte_39247 22 = .ok (.isub, 1) ∧ decode cArr_copyOfRangeByte_39247 23 = .ok (.iload_n 3, 1) ∧ decode cArr_copyOfRangeByte_39247 24 = .ok (.invokestatic 304, 3) ∧ decode cArr_copyOfRangeByte_39247 27 = .ok (.invokestatic 150, 3) ∧ decode cArr_copyOfRangeByte_39247 30 = .ok (.aload 4, 2) ∧ decode cArr_copyOfRangeByte_39247 32 = .ok (.areturn, 1) ∧ True := Jvm.Free.DS.facts (code := cArr_copyOfRangeByte_39247) 0 [(.iload_n 1, 1), (.iload_n 2, 1), (.invokestatic 343, 3), (.iload_n 2, 1), (.iload_n 1, 1), (.isub, 1), (.istore_n 3, 1), (.iload_n 3, 1), (.newarray .byte, 2), (.astore 4, 2), (.aload_n 0, 1), (.iload_n 1, 1), (.aload 4, 2), (.iconst 0, 1), (.aload_n 0, 1), (.arraylength, 1), (.iload_n 1, 1), (.isub, 1), (.iload_n 3, 1), (.invokestatic 304, 3), (.invokestatic 150, 3), (.aload 4, 2), (.areturn, 1)] (by decide +kernel) (by decide +kernel)
theorem dArr_copyOfRangeByte_39247_0 : decode cArr_copyOfRangeByte_39247 0 = .ok (.iload_n 1, 1) := zfArr_copyOfRangeByte_39247_0.1
theorem dArr_copyOfRangeByte_39247_1 : decode cArr_copyOfRangeByte_39247 1 = .ok (.iload_n 2, 1) := zfArr_copyOfRangeByte_39247_0.2.1
theorem dArr_copyOfRangeByte_39247_2 : decode cArr_copyOfRangeByte_39247 2 = .ok (.invokestatic 343, 3) := zfArr_copyOfRangeByte_39247_0.2.2.1
theorem dArr_copyOfRangeByte_39247_5 : decode cArr_copyOfRangeByte_39247 5 = .ok (.iload_n 2, 1) := zfArr_copyOfRangeByte_39247_0.2.2.2.1
theorem dArr_copyOfRangeByte_39247_6 : decode cArr_copyOfRangeByte_39247 6 = .ok (.iload_n 1, 1) := zfArr_copyOfRangeByte_39247_0.2.2.2.2.1
theorem dArr_copyOfRangeByte_39247_7 : decode cArr_copyOfRangeByte_39247 7 = .ok (.isub, 1) := zfArr_copyOfRangeByte_39247_0.2.2.2.2.2.1
theorem dArr_copyOfRangeByte_39247_8 : decode cArr_copyOfRangeByte_39247 8 = .ok (.istore_n 3, 1) := zfArr_copyOfRangeByte_39247_0.2.2.2.2.2.2.1
theorem dArr_copyOfRangeByte_39247_9 : decode cArr_copyOfRangeByte_39247 9 = .ok (.iload_n 3, 1) := zfArr_copyOfRangeByte_39247_0.2.2.2.2.2.2.2.1
theorem dArr_copyOfRangeByte_39247_10 : decode cArr_copyOfRangeByte_39247 10 = .ok (.newarray .byte, 2) := zfArr_copyOfRangeByte_39247_0.2.2.2.2.2.2.2.2.1
theorem dArr_copyOfRangeByte_39247_12 : decode cArr_copyOfRangeByte_39247 12 = .ok (.astore 4, 2) := zfArr_copyOfRangeByte_39247_0.2.2.2.2.2.2.2.2.2.1
theorem dArr_copyOfRangeByte_39247_14 : decode cArr_copyOfRangeByte_39247 14 = .ok (.aload_n 0, 1) := zfArr_copyOfRangeByte_39247_0.2.2.2.2.2.2.2.2.2.2.1
theorem dArr_copyOfRangeByte_39247_15 : decode cArr_copyOfRangeByte_39247 15 = .ok (.iload_n 1, 1) := zfArr_copyOfRangeByte_39247_0.2.2.2.2.2.2.2.2.2.2.2.1
theorem dArr_copyOfRangeByte_39247_16 : decode cArr_copyOfRangeByte_39247 16 = .ok (.aload 4, 2) := zfArr_copyOfRangeByte_39247_0.2.2.2.2.2.2.2.2.2.2.2.2.1
theorem dArr_copyOfRangeByte_39247_18 : decode cArr_copyOfRangeByte_39247 18 = .ok (.iconst 0, 1) := zfArr_copyOfRangeByte_39247_0.2.2.2.2.2.2.2.2.2.2.2.2.2.1
theorem dArr_copyOfRangeByte_39247_19 : decode cArr_copyOfRangeByte_39247 19 = .ok (.aload_n 0, 1) := zfArr_copyOfRangeByte_39247_0.2.2.2.2.2.2.2.2.2.2.2.2.2.2.1
theorem dArr_copyOfRangeByte_39247_20 : decode cArr_copyOfRangeByte_39247 20 = .ok (.arraylength, 1) := zfArr_copyOfRangeByte_39247_0.2.2.2.2.2.2.2.2.2.2.2.2.2.2.2.1
theorem dArr_copyOfRangeByte_39247_21 : decode cArr_copyOfRangeByte_39247 21 = .ok (.iload_n 1, 1) := zfArr_copyOfRangeByte_39247_0.2.2.2.2.2.2.2.2.2.2.2.2.2.2.2.2.1
theorem dArr_copyOfRangeByte_39247_22 : decode cArr_copyOfRangeByte_39247 22 = .ok (.isub, 1) := zfArr_copyOfRangeByte_39247_0.2.2.2.2.2.2.2.2.2.2.2.2.2.2.2.2.2.1
theorem dArr_copyOfRangeByte_39247_23 : decode cArr_copyOfRangeByte_39247 23 = .ok (.iload_n 3, 1) := zfArr_copyOfRangeByte_39247_0.2.2.2.2.2.2.2.2.2.2.2.2.2.2.2.2.2.2.1
theorem dArr_copyOfRangeByte_39247_24 : decode cArr_copyOfRangeByte_39247 24 = .ok (.invokestatic 304, 3) := zfArr_copyOfRangeByte_39247_0.2.2.2.2.2.2.2.2.2.2.2.2.2.2.2.2.2.2.2.1
theorem dArr_copyOfRangeByte_39247_27 : decode cArr_copyOfRangeByte_39247 27 = .ok (.invokestatic 150, 3) := zfArr_copyOfRangeByte_39247_0.2.2.2.2.2.2.2.2.2.2.2.2.2.2.2.2.2.2.2.2.1
theorem dArr_copyOfRangeByte_39247_30 : decode cArr_copyOfRangeByte_39247 30 = .ok (.aload 4, 2) := zfArr_copyOfRangeByte_39247_0.2.2.2.2.2.2.2.2.2.2.2.2.2.2.2.2.2.2.2.2.2.1
theorem dArr_copyOfRangeByte_39247_32 : decode cArr_copyOfRangeByte_39247 32 = .ok (.areturn, 1) := zfArr_copyOfRangeByte_39247_0.2.2.2.2.2.2.2.2.2.2.2.2.2.2.2.2.2.2.2.2.2.2.1
theorem zfAsu_newLength_cabcc_0 : decode cAsu_newLength_cabcc 0 = .ok (.iload_n 0, 1) ∧ decode cAsu_newLength_cabcc 1 = .ok (.iload_n 1, 1) ∧ decode cAsu_newLength_cabcc 2 = .ok (.iload_n 2, 1) ∧ decode cAsu_newLength_cabcc 3 = .ok (.invokestatic 194, 3) ∧ decode cAsu_newLength_cabcc 6 = .ok (.iadd, 1) ∧ decode cAsu_newLength_cabcc 7 = .ok (.istore_n 3, 1) ∧ decode cAsu_newLength_cabcc 8 = .ok (.iconst 0, 1) ∧ decode cAsu_newLength_cabcc 9 = .ok (.iload_n 3, 1) ∧ decode cAsu_newLength_cabcc 10 = .ok (.if_icmp .ge 11, 3) ∧ decode cAsu_newLength_cabcc 13 = .ok (.iload_n 3, 1) ∧ decode cAsu_newLength_cabcc 14 = .ok (.ldc 200, 2) ∧ decode cAsu_newLength_cabcc 16 = .ok (.if_icmp .gt 5, 3) ∧ decode cAsu_newLength_cabcc 19 = .ok (.iload_n 3, 1) ∧ decode cAsu_newLength_cabcc 20 = .ok (.ireturn, 1) ∧ decode cAsu_newLength_cabcc 21 = .ok (.iload_n 0, 1) ∧ decode cAsu_newLength_cabcc 22 = .ok (.iload_n 1, 1) ∧ decode cAsu_newLength_cabcc 23 = .ok (.invokestatic 201, 3) ∧ decode cAsu_newLength_cabcc 26 = .ok (.ireturn, 1) ∧ True := Jvm.Free.DS.facts (code := cAsu_newLength_cabcc) 0 [(.iload_n 0, 1), (.iload_n 1, 1), (.iload_n 2, 1), (.invokestatic 194, 3), (.iadd, 1), (.istore_n 3, 1), (.iconst 0, 1), (.iload_n 3, 1), (.if_icmp .ge 11, 3), (.iload_n 3, 1), (.ldc 200, 2), (.if_icmp .gt 5, 3), (.iload_n 3, 1), (.ireturn, 1), (.iload_n 0, 1), (.iload_n 1, 1), (.invokestatic 201, 3), (.ireturn, 1)] (by decide +kernel) (by decide +kernel)
theorem dAsu_newLength_cabcc_0 : decode cAsu_newLength_cabcc 0 = .ok (.iload_n 0, 1) := zfAsu_newLength_cabcc_0.1
theorem dAsu_newLength_cabcc_1 : decode cAsu_newLength_cabcc 1 = .ok (.iload_n 1, 1) := zfAsu_newLength_cabcc_0.2.1
theorem dAsu_newLength_cabcc_2 : decode cAsu_newLength_cabcc 2 = .ok (.iload_n 2, 1) := zfAsu_newLength_cabcc_0.2.2.1
theorem dAsu_newLength_cabcc_3 : decode cAsu_newLength_cabcc 3 = .ok (.invokestatic 194, 3) := zfAsu_newLength_cabcc_0.2.2.2.1
theorem dAsu_newLength_cabcc_6 : decode cAsu_newLength_cabcc 6 = .ok (.iadd, 1) := zfAsu_newLength_cabcc_0.2.2.2.2.1
theorem dAsu_newLength_cabcc_7 : decode cAsu_newLength_cabcc 7 = .ok (.istore_n 3, 1) := zfAsu_newLength_cabcc_0.2.2.2.2.2.1
theorem dAsu_newLength_cabcc_8 : decode cAsu_newLength_cabcc 8 = .ok (.iconst 0, 1) := zfAsu_newLength_cabcc_0.2.2.2.2.2.2.1
theorem dAsu_newLength_cabcc_9 : decode cAsu_newLength_cabcc 9 = .ok (.iload_n 3, 1) := zfAsu_newLength_cabcc_0.2.2.2.2.2.2.2.1
theorem dAsu_newLength_cabcc_10 : decode cAsu_newLength_cabcc 10 = .ok (.if_icmp .ge 11, 3) := zfAsu_newLength_cabcc_0.2.2.2.2.2.2.2.2.1
theorem dAsu_newLength_cabcc_13 : decode cAsu_newLength_cabcc 13 = .ok (.iload_n 3, 1) := zfAsu_newLength_cabcc_0.2.2.2.2.2.2.2.2.2.1
theorem dAsu_newLength_cabcc_14 : decode cAsu_newLength_cabcc 14 = .ok (.ldc 200, 2) := zfAsu_newLength_cabcc_0.2.2.2.2.2.2.2.2.2.2.1
theorem dAsu_newLength_cabcc_16 : decode cAsu_newLength_cabcc 16 = .ok (.if_icmp .gt 5, 3) := zfAsu_newLength_cabcc_0.2.2.2.2.2.2.2.2.2.2.2.1
theorem dAsu_newLength_cabcc_19 : decode cAsu_newLength_cabcc 19 = .ok (.iload_n 3, 1) := zfAsu_newLength_cabcc_0.2.2.2.2.2.2.2.2.2.2.2.2.1
theorem dAsu_newLength_cabcc_20 : decode cAsu_newLength_cabcc 20 = .ok (.ireturn, 1) := zfAsu_newLength_cabcc_0.2.2.2.2.2.2.2.2.2.2.2.2.2.1
theorem dAsu_newLength_cabcc_21 : decode cAsu_newLength_cabcc 21 = .ok (.iload_n 0, 1) := zfAsu_newLength_cabcc_0.2.2.2.2.2.2.2.2.2.2.2.2.2.2.1
theorem dAsu_newLength_cabcc_22 : decode cAsu_newLength_cabcc 22 = .ok (.iload_n 1, 1) := zfAsu_newLength_cabcc_0.2.2.2.2.2.2.2.2.2.2.2.2.2.2.2.1
theorem dAsu_newLength_cabcc_23 : decode cAsu_newLength_cabcc 23 = .ok (.invokestatic 201, 3) := zfAsu_newLength_cabcc_0.2.2.2.2.2.2.2.2.2.2.2.2.2.2.2.2.1
theorem dAsu_newLength_cabcc_26 : decode cAsu_newLength_cabcc 26 = .ok (.ireturn, 1) := zfAsu_newLength_cabcc_0.2.2.2.2.2.2.2.2.2.2.2.2.2.2.2.2.2.1
theorem zfAsu_hugeLength_7cf53_0 : decode cAsu_hugeLength_7cf53 0 = .ok (.iload_n 0, 1) ∧ decode cAsu_hugeLength_7cf53 1 = .ok (.iload_n 1, 1) ∧ decode cAsu_hugeLength_7cf53 2 = .ok (.iadd, 1) ∧ decode cAsu_hugeLength_7cf53 3 = .ok (.istore_n 2, 1) ∧ decode cAsu_hugeLength_7cf53 4 = .ok (.iload_n 2, 1) ∧ decode cAsu_hugeLength_7cf53 5 = .ok (.ifCond .ge 44, 3) ∧ decode cAsu_hugeLength_7cf53 8 = .ok (.new 204, 3) ∧ decode cAsu_hugeLength_7cf53 11 = .ok (.dup, 1) ∧ decode cAsu_hugeLength_7cf53 12 = .ok (.new 89, 3) ∧ decode cAsu_hugeLength_7cf53 15 = .ok (.dup, 1) ∧ decode cAsu_hugeLength_7cf53 16 = .ok (.invokespecial 91, 3) ∧ decode cAsu_hugeLength_7cf53 19 = .ok (.ldc 206, 2) ∧ decode cAsu_hugeLength_7cf53 21 = .ok (.invokevirtual 94, 3) ∧ decode cAsu_hugeLength_7cf53 24 = .ok (.iload_n 0, 1) ∧ decode cAsu_hugeLength_7cf53 25 = .ok (.invokevirtual 98, 3) ∧ decode cAsu_hugeLength_7cf53 28 = .ok (.ldc 208, 2) ∧ decode cAsu_hugeLength_7cf53 30 = .ok (.invokevirtual 94, 3) ∧ decode cAsu_hugeLength_7cf53 33 = .ok (.iload_n 1, 1) ∧ decode cAsu_hugeLength_7cf53 34 = .ok (.invokevirtual 98, 3) ∧ decode cAsu_hugeLength_7cf53 37 = .ok (.ldc 210, 2) ∧ decode cAsu_hugeLength_7cf53 39 = .ok (.invokevirtual 94, 3) ∧ decode cAsu_hugeLength_7cf53 42 = .ok (.invokevirtual 101, 3) ∧ decode cAsu_hugeLength_7cf53 45 = .ok (.invokespecial 212, 3) ∧ decode cAsu_hugeLength_7cf53 48 = .ok (.athrow, 1) ∧ decode cAsu_hugeLength_7cf53 49 = .ok (.iload_n 2, 1) ∧ decode cAsu_hugeLength_7cf53 50 = .ok (.ldc 200, 2) ∧ decode cAsu_hugeLength_7cf53 52 = .ok (.if_icmp .gt 6, 3) ∧ decode cAsu_hugeLength_7cf53 55 = .ok (.ldc 200, 2) ∧ decode cAsu_hugeLength_7cf53 57 = .ok (.ireturn, 1) ∧ decode cAsu_hugeLength_7cf53 58 = .ok (.iload_n 2, 1) ∧ decode cAsu_hugeLength_7cf53 59 = .ok (.ireturn, 1) ∧ True := Jvm.Free.DS.facts (code := cAsu_hugeLength_7cf53) 0 [(.iload_n 0, 1), (.iload_n 1, 1), (.iadd, 1), (.istore_n 2, 1), (.iload_n 2, 1), (.ifCond .ge 44, 3), (.new 204, 3), (.dup, 1), (.new 89, 3), (.dup, 1), (.invokespecial 91, 3), (.ldc 206, 2), (.invokevirtual 94, 3), (.iload_n 0, 1), (.invokevirtual 98, 3), (.ldc 208, 2), (.invokevirtual 94, 3), (.iload_n 1, 1), (.invokevirtual 98, 3), (.ldc 210, 2), (.invokevirtual 94, 3), (.invokevirtual 101, 3), (.invokespecial 212, 3), (.athrow, 1), (.iload_n 2, 1), (.ldc 200, 2), (.if_icmp .gt 6, 3), (.ldc 200, 2), (.ireturn, 1), (.iload_n 2, 1), (.ireturn, 1)] (by decide +kernel) (by decide +kernel)
theorem dAsu_hugeLength_7cf53_0 : decode cAsu_hugeLength_7cf53 0 = .ok (.iload_n 0, 1) := zfAsu_hugeLength_7cf53_0.1
theorem dAsu_hugeLength_7cf53_1 : decode cAsu_hugeLength_7cf53 1 = .ok (.iload_n 1, 1) := zfAsu_hugeLength_7cf53_0.2.1
theorem dAsu_hugeLength_7cf53_2 : decode cAsu_hugeLength_7cf53 2 = .ok (.iadd, 1) := zfAsu_hugeLength_7cf53_0.2.2.1
theorem dAsu_hugeLength_7cf53_3 : decode cAsu_hugeLength_7cf53 3 = .ok (.istore_n 2, 1) := zfAsu_hugeLength_7cf53_0.2.2.2.1
theorem dAsu_hugeLength_7cf53_4 : decode cAsu_hugeLength_7cf53 4 = .ok (.iload_n 2, 1) := zfAsu_hugeLength_7cf53_0.2.2.2.2.1
theorem dAsu_hugeLength_7cf53_5 : decode cAsu_hugeLength_7cf53 5 = .ok (.ifCond .ge 44, 3) := zfAsu_hugeLength_7cf53_0.2.2.2.2.2.1
theorem dAsu_hugeLength_7cf53_8 : decode cAsu_hugeLength_7cf53 8 = .ok (.new 204, 3) := zfAsu_hugeLength_7cf53_0.2.2.2.2.2.2.1
theorem dAsu_hugeLength_7cf53_11 : decode cAsu_hugeLength_7cf53 11 = .ok (.dup, 1) := zfAsu_hugeLength_7cf53_0.2.2.2.2.2.2.2.1
theorem dAsu_hugeLength_7cf53_12 : decode cAsu_hugeLength_7cf53 12 = .ok (.new 89, 3) := zfAsu_hugeLength_7cf53_0.2.2.2.2.2.2.2.2.1
theorem dAsu_hugeLength_7cf53_15 : decode cAsu_hugeLength_7cf53 15 = .ok (.dup, 1) := zfAsu_hugeLength_7cf53_0.2.2.2.2.2.2.2.2.2.1
theorem dAsu_hugeLength_7cf53_16 : decode cAsu_hugeLength_7cf53 16 = .ok (.invokespecial 91, 3) := zfAsu_hugeLength_7cf53_0.2.2.2.2.2.2.2.2.2.2.1
theorem dAsu_hugeLength_7cf53_19 : decode cAsu_hugeLength_7cf53 19 = .ok (.ldc 206, 2) := zfAsu_hugeLength_7cf53_0.2.2.2.2.2.2.2.2.2.2.2.1
theorem dAsu_hugeLength_7cf53_21 : decode cAsu_hugeLength_7cf53 21 = .ok (.invokevirtual 94, 3) := zfAsu_hugeLength_7cf53_0.2.2.2.2.2.2.2.2.2.2.2.2.1
theorem dAsu_hugeLength_7cf53_24 : decode cAsu_hugeLength_7cf53 24 = .ok (.iload_n 0, 1) := zfAsu_hugeLength_7cf53_0.2.2.2.2.2.2.2.2.2.2.2.2.2.1
theorem dAsu_hugeLength_7cf53_25 : decode cAsu_hugeLength_7cf53 25 = .ok (.invokevirtual 98, 3) := zfAsu_hugeLength_7cf53_0.2.2.2.2.2.2.2.2.2.2.2.2.2.2.1
theorem dAsu_hugeLength_7cf53_28 : decode cAsu_hugeLength_7cf53 28 = .ok (.ldc 208, 2) := zfAsu_hugeLength_7cf53_0.2.2.2.2.2.2.2.2.2.2.2.2.2.2.2.1
theorem dAsu_hugeLength_7cf53_30 : decode cAsu_hugeLength_7cf53 30 = .ok (.invokevirtual 94, 3) := zfAsu_hugeLength_7cf53_0.2.2.2.2.2.2.2.2.2.2.2.2.2.2.2.2.1
theorem dAsu_hugeLength_7cf53_33 : decode cAsu_hugeLength_7cf53 33 = .ok (.iload_n 1, 1) := zfAsu_hugeLength_7cf53_0.2.2.2.2.2.2.2.2.2.2.2.2.2.2.2.2.2.1
theorem dAsu_hugeLength_7cf53_34 : decode cAsu_hugeLength_7cf53 34 = .ok (.invokevirtual 98, 3) := zfAsu_hugeLength_7cf53_0.2.2.2.2.2.2.2.2.2.2.2.2.2.2.2.2.2.2.1
theorem dAsu_hugeLength_7cf53_37 : decode cAsu_hugeLength_7cf53 37 = .ok (.ldc 210, 2) := zfAsu_hugeLength_7cf53_0.2.2.2.2.2.2.2.2.2.2.2.2.2.2.2.2.2.2.2.1
theorem dAsu_hugeLength_7cf53_39 : decode cAsu_hugeLength_7cf53 39 = .ok (.invokevirtual 94, 3) := zfAsu_hugeLength_7cf53_0.2.2.2.2.2.2.2.2.2.2.2.2.2.2.2.2.2.2.2.2.1
theorem dAsu_hugeLength_7cf53_42 : decode cAsu_hugeLength_7cf53 42 = .ok (.invokevirtual 101, 3) := zfAsu_hugeLength_7cf53_0.2.2.2.2.2.2.2.2.2.2.2.2.2.2.2.2.2.2.2.2.2.1
theorem dAsu_hugeLength_7cf53_45 : decode cAsu_hugeLength_7cf53 45 = .ok (.invokespecial 212, 3) := zfAsu_hugeLength_7cf53_0.2.2.2.2.2.2.2.2.2.2.2.2.2.2.2.2.2.2.2.2.2.2.1
theorem dAsu_hugeLength_7cf53_48 : decode cAsu_hugeLength_7cf53 48 = .ok (.athrow, 1) := zfAsu_hugeLength_7cf53_0.2.2.2.2.2.2.2.2.2.2.2.2.2.2.2.2.2.2.2.2.2.2.2.1
theorem dAsu_hugeLength_7cf53_49 : decode cAsu_hugeLength_7cf53 49 = .ok (.iload_n 2, 1) := zfAsu_hugeLength_7cf53_0.2.2.2.2.2.2.2.2.2.2.2.2.2.2.2.2.2.2.2.2.2.2.2.2.1
theorem dAsu_hugeLength_7cf53_50 : decode cAsu_hugeLength_7cf53 50 = .ok (.ldc 200, 2) := zfAsu_hugeLength_7cf53_0.2.2.2.2.2.2.2.2.2.2.2.2.2.2.2.2.2.2.2.2.2.2.2.2.2.1
theorem dAsu_hugeLength_7cf53_52 : decode cAsu_hugeLength_7cf53 52 = .ok (.if_icmp .gt 6, 3) := zfAsu_hugeLength_7cf53_0.2.2.2.2.2.2.2.2.2.2.2.2.2.2.2.2.2.2.2.2.2.2.2.2.2.2.1
theorem dAsu_hugeLength_7cf53_55 : decode cAsu_hugeLength_7cf53 55 = .ok (.ldc 200, 2) := zfAsu_hugeLength_7cf53_0.2.2.2.2.2.2.2.2.2.2.2.2.2.2.2.2.2.2.2.2.2.2.2.2.2.2.2.1
theorem dAsu_hugeLength_7cf53_57 : decode cAsu_hugeLength_7cf53 57 = .ok (.ireturn, 1) := zfAsu_hugeLength_7cf53_0.2.2.2.2.2.2.2.2.2.2.2.2.2.2.2.2.2.2.2.2.2.2.2.2.2.2.2.2.1
theorem dAsu_hugeLength_7cf53_58 : decode cAsu_hugeLength_7cf53 58 = .ok (.iload_n 2, 1) := zfAsu_hugeLength_7cf53_0.2.2.2.2.2.2.2.2.2.2.2.2.2.2.2.2.2.2.2.2.2.2.2.2.2.2.2.2.2.1
theorem dAsu_hugeLength_7cf53_59 : decode cAsu_hugeLength_7cf53 59 = .ok (.ireturn, 1) := zfAsu_hugeLength_7cf53_0.2.2.2.2.2.2.2.2.2.2.2.2.2.2.2.2.2.2.2.2.2.2.2.2.2.2.2.2.2.2.1
theorem zfPrc_checkIndex_8e157_0 : decode cPrc_checkIndex_8e157 0 = .ok (.iload_n 0, 1) ∧ decode cPrc_checkIndex_8e157 1 = .ok (.ifCond .lt 8, 3) ∧ decode cPrc_checkIndex_8e157 4 = .ok (.iload_n 0, 1) ∧ decode cPrc_checkIndex_8e157 5 = .ok (.iload_n 1, 1) ∧ decode cPrc_checkIndex_8e157 6 = .ok (.if_icmp .lt 10, 3) ∧ decode cPrc_checkIndex_8e157 9 = .ok (.aload_n 2, 1) ∧ decode cPrc_checkIndex_8e157 10 = .ok (.iload_n 0, 1) ∧ decode cPrc_checkIndex_8e157 11 = .ok (.iload_n 1, 1) ∧ decode cPrc_checkIndex_8e157 12 = .ok (.invokestatic 95, 3) ∧ decode cPrc_checkIndex_8e157 15 = .ok (.athrow, 1) ∧ decode cPrc_checkIndex_8e157 16 = .ok (.iload_n 0, 1) ∧ decode cPrc_checkIndex_8e157 17 = .ok (.ireturn, 1) ∧ True := Jvm.Free.DS.facts (code := cPrc_checkIndex_8e157) 0 [(.iload_n 0, 1), (.ifCond .lt 8, 3), (.iload_n 0, 1), (.iload_n 1, 1), (.if_icmp .lt 10, 3), (.aload_n 2, 1), (.iload_n 0, 1), (.iload_n 1, 1), (.invokestatic 95, 3), (.athrow, 1), (.iload_n 0, 1), (.ireturn, 1)] (by decide +kernel) (by decide +kernel)
theorem dPrc_checkIndex_8e157_0 : decode cPrc_checkIndex_8e157 0 = .ok (.iload_n 0, 1) := zfPrc_checkIndex_8e157_0.1
theorem dPrc_checkIndex_8e157_1 : decode cPrc_checkIndex_8e157 1 = .ok (.ifCond .lt 8, 3) := zfPrc_checkIndex_8e157_0.2.1
theorem dPrc_checkIndex_8e157_4 : decode cPrc_checkIndex_8e157 4 = .ok (.iload_n 0, 1) := zfPrc_checkIndex_8e157_0.2.2.1
theorem dPrc_checkIndex_8e157_5 : decode cPrc_checkIndex_8e157 5 = .ok (.iload_n 1, 1) := zfPrc_checkIndex_8e157_0.2.2.2.1
theorem dPrc_checkIndex_8e157_6 : decode cPrc_checkIndex_8e157 6 = .ok (.if_icmp .lt 10, 3) := zfPrc_checkIndex_8e157_0.2.2.2.2.1
theorem dPrc_checkIndex_8e157_9 : decode cPrc_checkIndex_8e157 9 = .ok (.aload_n 2, 1) := zfPrc_checkIndex_8e157_0.2.2.2.2.2.1
theorem dPrc_checkIndex_8e157_10 : decode cPrc_checkIndex_8e157 10 = .ok (.iload_n 0, 1) := zfPrc_checkIndex_8e157_0.2.2.2.2.2.2.1
theorem dPrc_checkIndex_8e157_11 : decode cPrc_checkIndex_8e157 11 = .ok (.iload_n 1, 1) := zfPrc_checkIndex_8e157_0.2.2.2.2.2.2.2.1
theorem dPrc_checkIndex_8e157_12 : decode cPrc_checkIndex_8e157 12 = .ok (.invokestatic 95, 3) := zfPrc_checkIndex_8e157_0.2.2.2.2.2.2.2.2.1
theorem dPrc_checkIndex_8e157_15 : decode cPrc_checkIndex_8e157 15 = .ok (.athrow, 1) := zfPrc_checkIndex_8e157_0.2.2.2.2.2.2.2.2.2.1
theorem dPrc_checkIndex_8e157_16 : decode cPrc_checkIndex_8e157 16 = .ok (.iload_n 0, 1) := zfPrc_checkIndex_8e157_0.2.2.2.2.2.2.2.2.2.2.1
theorem dPrc_checkIndex_8e157_17 : decode cPrc_checkIndex_8e157 17 = .ok (.ireturn, 1) := zfPrc_checkIndex_8e157_0.2.2.2.2.2.2.2.2.2.2.2.1
theorem zfPrc_checkFromToIndex_8c36e_0 : decode cPrc_checkFromToIndex_8c36e 0 = .ok (.iload_n 0, 1) ∧ decode cPrc_checkFromToIndex_8c36e 1 = .ok (.ifCond .lt 13, 3) ∧ decode cPrc_checkFromToIndex_8c36e 4 = .ok (.iload_n 0, 1) ∧ decode cPrc_checkFromToIndex_8c36e 5 = .ok (.iload_n 1, 1) ∧ decode cPrc_checkFromToIndex_8c36e 6 = .ok (.if_icmp .gt 8, 3) ∧ decode cPrc_checkFromToIndex_8c36e 9 = .ok (.iload_n 1, 1) ∧ decode cPrc_checkFromToIndex_8c36e 10 = .ok (.iload_n 2, 1) ∧ decode cPrc_checkFromToIndex_8c36e 11 = .ok (.if_icmp .le 11, 3) ∧ decode cPrc_checkFromToIndex_8c36e 14 = .ok (.aload_n 3, 1) ∧ decode cPrc_checkFromToIndex_8c36e 15 = .ok (.iload_n 0, 1) ∧ decode cPrc_checkFromToIndex_8c36e 16 = .ok (.iload_n 1, 1) ∧ decode cPrc_checkFromToIndex_8c36e 17 = .ok (.iload_n 2, 1) ∧ decode cPrc_checkFromToIndex_8c36e 18 = .ok (.invokestatic 99, 3) ∧ decode cPrc_checkFromToIndex_8c36e 21 = .ok (.athrow, 1) ∧ decode cPrc_checkFromToIndex_8c36e 22 = .ok (.iload_n 0, 1) ∧ decode cPrc_checkFromToIndex_8c36e 23 = .ok (.ireturn, 1) ∧ True := Jvm.Free.DS.facts (code := cPrc_checkFromToIndex_8c36e) 0 [(.iload_n 0, 1), (.ifCond .lt 13, 3), (.iload_n 0, 1), (.iload_n 1, 1), (.if_icmp .gt 8, 3), (.iload_n 1, 1), (.iload_n 2, 1), (.if_icmp .le 11, 3), (.aload_n 3, 1), (.iload_n 0, 1), (.iload_n 1, 1), (.iload_n 2, 1), (.invokestatic 99, 3), (.athrow, 1), (.iload_n 0, 1), (.ireturn, 1)] (by decide +kernel) (by decide +kernel)
theorem dPrc_checkFromToIndex_8c36e_0 : decode cPrc_checkFromToIndex_8c36e 0 = .ok (.iload_n 0, 1) := zfPrc_checkFromToIndex_8c36e_0.1
theorem dPrc_checkFromToIndex_8c36e_1 : decode cPrc_checkFromToIndex_8c36e 1 = .ok (.ifCond .lt 13, 3) := zfPrc_checkFromToIndex_8c36e_0.2.1
theorem dPrc_checkFromToIndex_8c36e_4 : decode cPrc_checkFromToIndex_8c36e 4 = .ok (.iload_n 0, 1) := zfPrc_checkFromToIndex_8c36e_0.2.2.1
theorem dPrc_checkFromToIndex_8c36e_5 : decode cPrc_checkFromToIndex_8c36e 5 = .ok (.iload_n 1, 1) := zfPrc_checkFromToIndex_8c36e_0.2.2.2.1
theorem dPrc_checkFromToIndex_8c36e_6 : decode cPrc_checkFromToIndex_8c36e 6 = .ok (.if_icmp .gt 8, 3) := zfPrc_checkFromToIndex_8c36e_0.2.2.2.2.1
theorem dPrc_checkFromToIndex_8c36e_9 : decode cPrc_checkFromToIndex_8c36e 9 = .ok (.iload_n 1, 1) := zfPrc_checkFromToIndex_8c36e_0.2.2.2.2.2.1
theorem dPrc_checkFromToIndex_8c36e_10 : decode cPrc_checkFromToIndex_8c36e 10 = .ok (.iload_n 2, 1) := zfPrc_checkFromToIndex_8c36e_0.2.2.2.2.2.2.1
theorem dPrc_checkFromToIndex_8c36e_11 : decode cPrc_checkFromToIndex_8c36e 11 = .ok (.if_icmp .le 11, 3) := zfPrc_checkFromToIndex_8c36e_0.2.2.2.2.2.2.2.1
theorem dPrc_checkFromToIndex_8c36e_14 : decode cPrc_checkFromToIndex_8c36e 14 = .ok (.aload_n 3, 1) := zfPrc_checkFromToIndex_8c36e_0.2.2.2.2.2.2.2.2.1
theorem dPrc_checkFromToIndex_8c36e_15 : decode cPrc_checkFromToIndex_8c36e 15 = .ok (.iload_n 0, 1) := zfPrc_checkFromToIndex_8c36e_0.2.2.2.2.2.2.2.2.2.1
theorem dPrc_checkFromToIndex_8c36e_16 : decode cPrc_checkFromToIndex_8c36e 16 = .ok (.iload_n 1, 1) := zfPrc_checkFromToIndex_8c36e_0.2.2.2.2.2.2.2.2.2.2.1
theorem dPrc_checkFromToIndex_8c36e_17 : decode cPrc_checkFromToIndex_8c36e 17 = .ok (.iload_n 2, 1) := zfPrc_checkFromToIndex_8c36e_0.2.2.2.2.2.2.2.2.2.2.2.1
theorem dPrc_checkFromToIndex_8c36e_18 : decode cPrc_checkFromToIndex_8c36e 18 = .ok (.invokestatic 99, 3) := zfPrc_checkFromToIndex_8c36e_0.2.2.2.2.2.2.2.2.2.2.2.2.1
theorem dPrc_checkFromToIndex_8c36e_21 : decode cPrc_checkFromToIndex_8c36e 21 = .ok (.athrow, 1) := zfPrc_checkFromToIndex_8c36e_0.2.2.2.2.2.2.2.2.2.2.2.2.2.1
theorem dPrc_checkFromToIndex_8c36e_22 : decode cPrc_checkFromToIndex_8c36e 22 = .ok (.iload_n 0, 1) := zfPrc_checkFromToIndex_8c36e_0.2.2.2.2.2.2.2.2.2.2.2.2.2.2.1
theorem dPrc_checkFromToIndex_8c36e_23 : decode cPrc_checkFromToIndex_8c36e 23 = .ok (.ireturn, 1) := zfPrc_checkFromToIndex_8c36e_0.2.2.2.2.2.2.2.2.2.2.2.2.2.2.2.1
theorem zfPrc_checkFromIndexSize_8c36e_0 : decode cPrc_checkFromIndexSize_8c36e 0 = .ok (.iload_n 2, 1) ∧ decode cPrc_checkFromIndexSize_8c36e 1 = .ok (.iload_n 0, 1) ∧ decode cPrc_checkFromIndexSize_8c36e 2 = .ok (.ior, 1) ∧ decode cPrc_checkFromIndexSize_8c36e 3 = .ok (.iload_n 1, 1) ∧ decode cPrc_checkFromIndexSize_8c36e 4 = .ok (.ior, 1) ∧ decode cPrc_checkFromIndexSize_8c36e 5 = .ok (.ifCond .lt 10, 3) ∧ decode cPrc_checkFromIndexSize_8c36e 8 = .ok (.iload_n 1, 1) ∧ decode cPrc_checkFromIndexSize_8c36e 9 = .ok (.iload_n 2, 1) ∧ decode cPrc_checkFromIndexSize_8c36e 10 = .ok (.iload_n 0, 1) ∧ decode cPrc_checkFromIndexSize_8c36e 11 = .ok (.isub, 1) ∧ decode cPrc_checkFromIndexSize_8c36e 12 = .ok (.if_icmp .le 11, 3) ∧ decode cPrc_checkFromIndexSize_8c36e 15 = .ok (.aload_n 3, 1) ∧ decode cPrc_checkFromIndexSize_8c36e 16 = .ok (.iload_n 0, 1) ∧ decode cPrc_checkFromIndexSize_8c36e 17 = .ok (.iload_n 1, 1) ∧ decode cPrc_checkFromIndexSize_8c36e 18 = .ok (.iload_n 2, 1) ∧ decode cPrc_checkFromIndexSize_8c36e 19 = .ok (.invokestatic 103, 3) ∧ decode cPrc_checkFromIndexSize_8c36e 22 = .ok (.athrow, 1) ∧ decode cPrc_checkFromIndexSize_8c36e 23 = .ok (.iload_n 0, 1) ∧ decode cPrc_checkFromIndexSize_8c36e 24 = .ok (.ireturn, 1) ∧ True := Jvm.Free.DS.facts (code := cPrc_checkFromIndexSize_8c36e) 0 [(.iload_n 2, 1), (.iload_n 0, 1), (.ior, 1), (.iload_n 1, 1), (.ior, 1), (.ifCond .lt 10, 3), (.iload_n 1, 1), (.iload_n 2, 1), (.iload_n 0, 1), (.isub, 1), (.if_icmp .le 11, 3), (.aload_n 3, 1), (.iload_n 0, 1), (.iload_n 1, 1), (.iload_n 2, 1), (.invokestatic 103, 3), (.athrow, 1), (.iload_n 0, 1), (.ireturn, 1)] (by decide +kernel) (by decide +kernel)
theorem dPrc_checkFromIndexSize_8c36e_0 : decode cPrc_checkFromIndexSize_8c36e 0 = .ok (.iload_n 2, 1) := zfPrc_checkFromIndexSize_8c36e_0.1
theorem dPrc_checkFromIndexSize_8c36e_1 : decode cPrc_checkFromIndexSize_8c36e 1 = .ok (.iload_n 0, 1) := zfPrc_checkFromIndexSize_8c36e_0.2.1
theorem dPrc_checkFromIndexSize_8c36e_2 : decode cPrc_checkFromIndexSize_8c36e 2 = .ok (.ior, 1) := zfPrc_checkFromIndexSize_8c36e_0.2.2.1
theorem dPrc_checkFromIndexSize_8c36e_3 : decode cPrc_checkFromIndexSize_8c36e 3 = .ok (.iload_n 1, 1) := zfPrc_checkFromIndexSize_8c36e_0.2.2.2.1
theorem dPrc_checkFromIndexSize_8c36e_4 : decode cPrc_checkFromIndexSize_8c36e 4 = .ok (.ior, 1) := zfPrc_checkFromIndexSize_8c36e_0.2.2.2.2.1
theorem dPrc_checkFromIndexSize_8c36e_5 : decode cPrc_checkFromIndexSize_8c36e 5 = .ok (.ifCond .lt 10, 3) := zfPrc_checkFromIndexSize_8c36e_0.2.2.2.2.2.1
theorem dPrc_checkFromIndexSize_8c36e_8 : decode cPrc_checkFromIndexSize_8c36e 8 = .ok (.iload_n 1, 1) := zfPrc_checkFromIndexSize_8c36e_0.2.2.2.2.2.2.1
theorem dPrc_checkFromIndexSize_8c36e_9 : decode cPrc_checkFromIndexSize_8c36e 9 = .ok (.iload_n 2, 1) := zfPrc_checkFromIndexSize_8c36e_0.2.2.2.2.2.2.2.1
theorem dPrc_checkFromIndexSize_8c36e_10 : decode cPrc_checkFromIndexSize_8c36e 10 = .ok (.iload_n 0, 1) := zfPrc_checkFromIndexSize_8c36e_0.2.2.2.2.2.2.2.2.1
theorem dPrc_checkFromIndexSize_8c36e_11 : decode cPrc_checkFromIndexSize_8c36e 11 = .ok (.isub, 1) := zfPrc_checkFromIndexSize_8c36e_0.2.2.2.2.2.2.2.2.2.1
theorem dPrc_checkFromIndexSize_8c36e_12 : decode cPrc_checkFromIndexSize_8c36e 12 = .ok (.if_icmp .le 11, 3) := zfPrc_checkFromIndexSize_8c36e_0.2.2.2.2.2.2.2.2.2.2.1
theorem dPrc_checkFromIndexSize_8c36e_15 : decode cPrc_checkFromIndexSize_8c36e 15 = .ok (.aload_n 3, 1) := zfPrc_checkFromIndexSize_8c36e_0.2.2.2.2.2.2.2.2.2.2.2.1
theorem dPrc_checkFromIndexSize_8c36e_16 : decode cPrc_checkFromIndexSize_8c36e 16 = .ok (.iload_n 0, 1) := zfPrc_checkFromIndexSize_8c36e_0.2.2.2.2.2.2.2.2.2.2.2.2.1
theorem dPrc_checkFromIndexSize_8c36e_17 : decode cPrc_checkFromIndexSize_8c36e 17 = .ok (.iload_n 1, 1) := zfPrc_checkFromIndexSize_8c36e_0.2.2.2.2.2.2.2.2.2.2.2.2.2.1
theorem dPrc_checkFromIndexSize_8c36e_18 : decode cPrc_checkFromIndexSize_8c36e 18 = .ok (.iload_n 2, 1) := zfPrc_checkFromIndexSize_8c36e_0.2.2.2.2.2.2.2.2.2.2.2.2.2.2.1
theorem dPrc_checkFromIndexSize_8c36e_19 : decode cPrc_checkFromIndexSize_8c36e 19 = .ok (.invokestatic 103, 3) := zfPrc_checkFromIndexSize_8c36e_0.2.2.2.2.2.2.2.2.2.2.2.2.2.2.2.1
theorem dPrc_checkFromIndexSize_8c36e_22 : decode cPrc_checkFromIndexSize_8c36e 22 = .ok (.athrow, 1) := zfPrc_checkFromIndexSize_8c36e_0.2.2.2.2.2.2.2.2.2.2.2.2.2.2.2.2.1
theorem dPrc_checkFromIndexSize_8c36e_23 : decode cPrc_checkFromIndexSize_8c36e 23 = .ok (.iload_n 0, 1) := zfPrc_checkFromIndexSize_8c36e_0.2.2.2.2.2.2.2.2.2.2.2.2.2.2.2.2.2.1
theorem dPrc_checkFromIndexSize_8c36e_24 : decode cPrc_checkFromIndexSize_8c36e 24 = .ok (.ireturn, 1) := zfPrc_checkFromIndexSize_8c36e_0.2.2.2.2.2.2.2.2.2.2.2.2.2.2.2.2.2.2.1
theorem zfLaw_put_0 : decode cLaw_put 0 = .ok (.aload 4, 2) ∧ decode cLaw_put 2 = .ok (.aload_n 0, 1) ∧ decode cLaw_put 3 = .ok (.iload_n 1, 1) ∧ decode cLaw_put 4 = .ok (.iload_n 2, 1) ∧ decode cLaw_put 5 = .ok (.iload_n 3, 1) ∧ decode cLaw_put 6 = .ok (.invokevirtual 7, 3) ∧ decode cLaw_put 9 = .ok (.i2l, 1) ∧ decode cLaw_put 10 = .ok (.putfield 13, 3) ∧ decode cLaw_put 13 = .ok (.goto 11, 3) ∧ decode cLaw_put 16 = .ok (.astore 5, 2) ∧ decode cLaw_put 18 = .ok (.iconst 1, 1) ∧ decode cLaw_put 19 = .ok (.ireturn, 1) ∧ decode cLaw_put 20 = .ok (.astore 5, 2) ∧ decode cLaw_put 22 = .ok (.iconst 2, 1) ∧ decode cLaw_put 23 = .ok (.ireturn, 1) ∧ decode cLaw_put 24 = .ok (.iconst 0, 1) ∧ decode cLaw_put 25 = .ok (.ireturn, 1) ∧ True := Jvm.Free.DS.facts (code := cLaw_put) 0 [(.aload 4, 2), (.aload_n 0, 1), (.iload_n 1, 1), (.iload_n 2, 1), (.iload_n 3, 1), (.invokevirtual 7, 3), (.i2l, 1), (.putfield 13, 3), (.goto 11, 3), (.astore 5, 2), (.iconst 1, 1), (.ireturn, 1), (.astore 5, 2), (.iconst 2, 1), (.ireturn, 1), (.iconst 0, 1), (.ireturn, 1)] (by decide +kernel) (by decide +kernel)
theorem dLaw_put_0 : decode cLaw_put 0 = .ok (.aload 4, 2) := zfLaw_put_0.1
theorem dLaw_put_2 : decode cLaw_put 2 = .ok (.aload_n 0, 1) := zfLaw_put_0.2.1
theorem dLaw_put_3 : decode cLaw_put 3 = .ok (.iload_n 1, 1) := zfLaw_put_0.2.2.1
theorem dLaw_put_4 : decode cLaw_put 4 = .ok (.iload_n 2, 1) := zfLaw_put_0.2.2.2.1
theorem dLaw_put_5 : decode cLaw_put 5 = .ok (.iload_n 3, 1) := zfLaw_put_0.2.2.2.2.1
theorem dLaw_put_6 : decode cLaw_put 6 = .ok (.invokevirtual 7, 3) := zfLaw_put_0.2.2.2.2.2.1
theorem dLaw_put_9 : decode cLaw_put 9 = .ok (.i2l, 1) := zfLaw_put_0.2.2.2.2.2.2.1
theorem dLaw_put_10 : decode cLaw_put 10 = .ok (.putfield 13, 3) := zfLaw_put_0.2.2.2.2.2.2.2.1
theorem dLaw_put_13 : decode cLaw_put 13 = .ok (.goto 11, 3) := zfLaw_put_0.2.2.2.2.2.2.2.2.1
theorem dLaw_put_16 : decode cLaw_put 16 = .ok (.astore 5, 2) := zfLaw_put_0.2.2.2.2.2.2.2.2.2.1
theorem dLaw_put_18 : decode cLaw_put 18 = .ok (.iconst 1, 1) := zfLaw_put_0.2.2.2.2.2.2.2.2.2.2.1
theorem dLaw_put_19 : decode cLaw_put 19 = .ok (.ireturn, 1) := zfLaw_put_0.2.2.2.2.2.2.2.2.2.2.2.1
theorem dLaw_put_20 : decode cLaw_put 20 = .ok (.astore 5, 2) := zfLaw_put_0.2.2.2.2.2.2.2.2.2.2.2.2.1
theorem dLaw_put_22 : decode cLaw_put 22 = .ok (.iconst 2, 1) := zfLaw_put_0.2.2.2.2.2.2.2.2.2.2.2.2.2.1
theorem dLaw_put_23 : decode cLaw_put 23 = .ok (.ireturn, 1) := zfLaw_put_0.2.2.2.2.2.2.2.2.2.2.2.2.2.2.1
theorem dLaw_put_24 : decode cLaw_put 24 = .ok (.iconst 0, 1) := zfLaw_put_0.2.2.2.2.2.2.2.2.2.2.2.2.2.2.2.1
theorem dLaw_put_25 : decode cLaw_put 25 = .ok (.ireturn, 1) := zfLaw_put_0.2.2.2.2.2.2.2.2.2.2.2.2.2.2.2.2.1
theorem zfLaw_take_0 : decode cLaw_take 0 = .ok (.aload_n 3, 1) ∧ decode cLaw_take 1 = .ok (.aload_n 0, 1) ∧ decode cLaw_take 2 = .ok (.iload_n 1, 1) ∧ decode cLaw_take 3 = .ok (.iload_n 2, 1) ∧ decode cLaw_take 4 = .ok (.invokevirtual 23, 3) ∧ decode cLaw_take 7 = .ok (.i2l, 1) ∧ decode cLaw_take 8 = .ok (.putfield 13, 3) ∧ decode cLaw_take 11 = .ok (.goto 11, 3) ∧ decode cLaw_take 14 = .ok (.astore 4, 2) ∧ decode cLaw_take 16 = .ok (.iconst 1, 1) ∧ decode cLaw_take 17 = .ok (.ireturn, 1) ∧ decode cLaw_take 18 = .ok (.astore 4, 2) ∧ decode cLaw_take 20 = .ok (.iconst 2, 1) ∧ decode cLaw_take 21 = .ok (.ireturn, 1) ∧ decode cLaw_take 22 = .ok (.iconst 0, 1) ∧ decode cLaw_take 23 = .ok (.ireturn, 1) ∧ True := Jvm.Free.DS.facts (code := cLaw_take) 0 [(.aload_n 3, 1), (.aload_n 0, 1), (.iload_n 1, 1), (.iload_n 2, 1), (.invokevirtual 23, 3), (.i2l, 1), (.putfield 13, 3), (.goto 11, 3), (.astore 4, 2), (.iconst 1, 1), (.ireturn, 1), (.astore 4, 2), (.iconst 2, 1), (.ireturn, 1), (.iconst 0, 1), (.ireturn, 1)] (by decide +kernel) (by decide +kernel)
theorem dLaw_take_0 : decode cLaw_take 0 = .ok (.aload_n 3, 1) := zfLaw_take_0.1
theorem dLaw_take_1 : decode cLaw_take 1 = .ok (.aload_n 0, 1) := zfLaw_take_0.2.1
theorem dLaw_take_2 : decode cLaw_take 2 = .ok (.iload_n 1, 1) := zfLaw_take_0.2.2.1
theorem dLaw_take_3 : decode cLaw_take 3 = .ok (.iload_n 2, 1) := zfLaw_take_0.2.2.2.1
theorem dLaw_take_4 : decode cLaw_take 4 = .ok (.invokevirtual 23, 3) := zfLaw_take_0.2.2.2.2.1
theorem dLaw_take_7 : decode cLaw_take 7 = .ok (.i2l, 1) := zfLaw_take_0.2.2.2.2.2.1
theorem dLaw_take_8 : decode cLaw_take 8 = .ok (.putfield 13, 3) := zfLaw_take_0.2.2.2.2.2.2.1
theorem dLaw_take_11 : decode cLaw_take 11 = .ok (.goto 11, 3) := zfLaw_take_0.2.2.2.2.2.2.2.1
theorem dLaw_take_14 : decode cLaw_take 14 = .ok (.astore 4, 2) := zfLaw_take_0.2.2.2.2.2.2.2.2.1
theorem dLaw_take_16 : decode cLaw_take 16 = .ok (.iconst 1, 1) := zfLaw_take_0.2.2.2.2.2.2.2.2.2.1
theorem dLaw_take_17 : decode cLaw_take 17 = .ok (.ireturn, 1) := zfLaw_take_0.2.2.2.2.2.2.2.2.2.2.1
theorem dLaw_take_18 : decode cLaw_take 18 = .ok (.astore 4, 2) := zfLaw_take_0.2.2.2.2.2.2.2.2.2.2.2.1
theorem dLaw_take_20 : decode cLaw_take 20 = .ok (.iconst 2, 1) := zfLaw_take_0.2.2.2.2.2.2.2.2.2.2.2.2.1
theorem dLaw_take_21 : decode cLaw_take 21 = .ok (.ireturn, 1) := zfLaw_take_0.2.2.2.2.2.2.2.2.2.2.2.2.2.1
theorem dLaw_take_22 : decode cLaw_take 22 = .ok (.iconst 0, 1) := zfLaw_take_0.2.2.2.2.2.2.2.2.2.2.2.2.2.2.1
theorem dLaw_take_23 : decode cLaw_take 23 = .ok (.ireturn, 1) := zfLaw_take_0.2.2.2.2.2.2.2.2.2.2.2.2.2.2.2.1
theorem zfLaw_look_0 : decode cLaw_look 0 = .ok (.aload_n 3, 1) ∧ decode cLaw_look 1 = .ok (.aload_n 0, 1) ∧ decode cLaw_look 2 = .ok (.iload_n 1, 1) ∧ decode cLaw_look 3 = .ok (.iload_n 2, 1) ∧ decode cLaw_look 4 = .ok (.invokevirtual 27, 3) ∧ decode cLaw_look 7 = .ok (.i2l, 1) ∧ decode cLaw_look 8 = .ok (.putfield 13, 3) ∧ decode cLaw_look 11 = .ok (.goto 11, 3) ∧ decode cLaw_look 14 = .ok (.astore 4, 2) ∧ decode cLaw_look 16 = .ok (.iconst 1, 1) ∧ decode cLaw_look 17 = .ok (.ireturn, 1) ∧ decode cLaw_look 18 = .ok (.astore 4, 2) ∧ decode cLaw_look 20 = .ok (.iconst 2, 1) ∧ decode cLaw_look 21 = .ok (.ireturn, 1) ∧ decode cLaw_look 22 = .ok (.iconst 0, 1) ∧ decode cLaw_look 23 = .ok (.ireturn, 1) ∧ True := Jvm.Free.DS.facts (code := cLaw_look) 0 [(.aload_n 3, 1), (.aload_n 0, 1), (.iload_n 1, 1), (.iload_n 2, 1), (.invokevirtual 27, 3), (.i2l, 1), (.putfield 13, 3), (.goto 11, 3), (.astore 4, 2), (.iconst 1, 1), (.ireturn, 1), (.astore 4, 2), (.iconst 2, 1), (.ireturn, 1), (.iconst 0, 1), (.ireturn, 1)] (by decide +kernel) (by decide +kernel)
theorem dLaw_look_0 : decode cLaw_look 0 = .ok (.aload_n 3, 1) := zfLaw_look_0.1
theorem dLaw_look_1 : decode cLaw_look 1 = .ok (.aload_n 0, 1) := zfLaw_look_0.2.1
theorem dLaw_look_2 : decode cLaw_look 2 = .ok (.iload_n 1, 1) := zfLaw_look_0.2.2.1
theorem dLaw_look_3 : decode cLaw_look 3 = .ok (.iload_n 2, 1) := zfLaw_look_0.2.2.2.1
theorem dLaw_look_4 : decode cLaw_look 4 = .ok (.invokevirtual 27, 3) := zfLaw_look_0.2.2.2.2.1
theorem dLaw_look_7 : decode cLaw_look 7 = .ok (.i2l, 1) := zfLaw_look_0.2.2.2.2.2.1
theorem dLaw_look_8 : decode cLaw_look 8 = .ok (.putfield 13, 3) := zfLaw_look_0.2.2.2.2.2.2.1
theorem dLaw_look_11 : decode cLaw_look 11 = .ok (.goto 11, 3) := zfLaw_look_0.2.2.2.2.2.2.2.1
theorem dLaw_look_14 : decode cLaw_look 14 = .ok (.astore 4, 2) := zfLaw_look_0.2.2.2.2.2.2.2.2.1
theorem dLaw_look_16 : decode cLaw_look 16 = .ok (.iconst 1, 1) := zfLaw_look_0.2.2.2.2.2.2.2.2.2.1
theorem dLaw_look_17 : decode cLaw_look 17 = .ok (.ireturn, 1) := zfLaw_look_0.2.2.2.2.2.2.2.2.2.2.1
theorem dLaw_look_18 : decode cLaw_look 18 = .ok (.astore 4, 2) := zfLaw_look_0.2.2.2.2.2.2.2.2.2.2.2.1
theorem dLaw_look_20 : decode cLaw_look 20 = .ok (.iconst 2, 1) := zfLaw_look_0.2.2.2.2.2.2.2.2.2.2.2.2.1
theorem dLaw_look_21 : decode cLaw_look 21 = .ok (.ireturn, 1) := zfLaw_look_0.2.2.2.2.2.2.2.2.2.2.2.2.2.1
theorem dLaw_look_22 : decode cLaw_look 22 = .ok (.iconst 0, 1) := zfLaw_look_0.2.2.2.2.2.2.2.2.2.2.2.2.2.2.1
theorem dLaw_look_23 : decode cLaw_look 23 = .ok (.ireturn, 1) := zfLaw_look_0.2.2.2.2.2.2.2.2.2.2.2.2.2.2.2.1
theorem zfLaw_get_0 : decode cLaw_get 0 = .ok (.aload_n 3, 1) ∧ decode cLaw_get 1 = .ok (.aload_n 0, 1) ∧ decode cLaw_get 2 = .ok (.iload_n 1, 1) ∧ decode cLaw_get 3 = .ok (.iload_n 2, 1) ∧ decode cLaw_get 4 = .ok (.invokevirtual 30, 3) ∧ decode cLaw_get 7 = .ok (.i2l, 1) ∧ decode cLaw_get 8 = .ok (.putfield 13, 3) ∧ decode cLaw_get 11 = .ok (.goto 7, 3) ∧ decode cLaw_get 14 = .ok (.astore 4, 2) ∧ decode cLaw_get 16 = .ok (.iconst 1, 1) ∧ decode cLaw_get 17 = .ok (.ireturn, 1) ∧ decode cLaw_get 18 = .ok (.iconst 0, 1) ∧ decode cLaw_get 19 = .ok (.ireturn, 1) ∧ True := Jvm.Free.DS.facts (code := cLaw_get) 0 [(.aload_n 3, 1), (.aload_n 0, 1), (.iload_n 1, 1), (.iload_n 2, 1), (.invokevirtual 30, 3), (.i2l, 1), (.putfield 13, 3), (.goto 7, 3), (.astore 4, 2), (.iconst 1, 1), (.ireturn, 1), (.iconst 0, 1), (.ireturn, 1)] (by decide +kernel) (by decide +kernel)
theorem dLaw_get_0 : decode cLaw_get 0 = .ok (.aload_n 3, 1) := zfLaw_get_0.1
theorem dLaw_get_1 : decode cLaw_get 1 = .ok (.aload_n 0, 1) := zfLaw_get_0.2.1
theorem dLaw_get_2 : decode cLaw_get 2 = .ok (.iload_n 1, 1) := zfLaw_get_0.2.2.1
theorem dLaw_get_3 : decode cLaw_get 3 = .ok (.iload_n 2, 1) := zfLaw_get_0.2.2.2.1
theorem dLaw_get_4 : decode cLaw_get 4 = .ok (.invokevirtual 30, 3) := zfLaw_get_0.2.2.2.2.1
theorem dLaw_get_7 : decode cLaw_get 7 = .ok (.i2l, 1) := zfLaw_get_0.2.2.2.2.2.1
theorem dLaw_get_8 : decode cLaw_get 8 = .ok (.putfield 13, 3) := zfLaw_get_0.2.2.2.2.2.2.1
theorem dLaw_get_11 : decode cLaw_get 11 = .ok (.goto 7, 3) := zfLaw_get_0.2.2.2.2.2.2.2.1
theorem dLaw_get_14 : decode cLaw_get 14 = .ok (.astore 4, 2) := zfLaw_get_0.2.2.2.2.2.2.2.2.1
theorem dLaw_get_16 : decode cLaw_get 16 = .ok (.iconst 1, 1) := zfLaw_get_0.2.2.2.2.2.2.2.2.2.1
theorem dLaw_get_17 : decode cLaw_get 17 = .ok (.ireturn, 1) := zfLaw_get_0.2.2.2.2.2.2.2.2.2.2.1
theorem dLaw_get_18 : decode cLaw_get 18 = .ok (.iconst 0, 1) := zfLaw_get_0.2.2.2.2.2.2.2.2.2.2.2.1
theorem dLaw_get_19 : decode cLaw_get 19 = .ok (.ireturn, 1) := zfLaw_get_0.2.2.2.2.2.2.2.2.2.2.2.2.1
theorem zfLaw_set_0 : decode cLaw_set 0 = .ok (.aload 4, 2) ∧ decode cLaw_set 2 = .ok (.aload_n 0, 1) ∧ decode cLaw_set 3 = .ok (.iload_n 1, 1) ∧ decode cLaw_set 4 = .ok (.iload_n 2, 1) ∧ decode cLaw_set 5 = .ok (.iload_n 3, 1) ∧ decode cLaw_set 6 = .ok (.invokevirtual 33, 3) ∧ decode cLaw_set 9 = .ok (.i2l, 1) ∧ decode cLaw_set 10 = .ok (.putfield 13, 3) ∧ decode cLaw_set 13 = .ok (.goto 11, 3) ∧ decode cLaw_set 16 = .ok (.astore 5, 2) ∧ decode cLaw_set 18 = .ok (.iconst 1, 1) ∧ decode cLaw_set 19 = .ok (.ireturn, 1) ∧ decode cLaw_set 20 = .ok (.astore 5, 2) ∧ decode cLaw_set 22 = .ok (.iconst 2, 1) ∧ decode cLaw_set 23 = .ok (.ireturn, 1) ∧ decode cLaw_set 24 = .ok (.iconst 0, 1) ∧ decode cLaw_set 25 = .ok (.ireturn, 1) ∧ True := Jvm.Free.DS.facts (code := cLaw_set) 0 [(.aload 4, 2), (.aload_n 0, 1), (.iload_n 1, 1), (.iload_n 2, 1), (.iload_n 3, 1), (.invokevirtual 33, 3), (.i2l, 1), (.putfield 13, 3), (.goto 11, 3), (.astore 5, 2), (.iconst 1, 1), (.ireturn, 1), (.astore 5, 2), (.iconst 2, 1), (.ireturn, 1), (.iconst 0, 1), (.ireturn, 1)] (by decide +kernel) (by decide +kernel)
theorem dLaw_set_0 : decode cLaw_set 0 = .ok (.aload 4, 2) := zfLaw_set_0.1
theorem dLaw_set_2 : decode cLaw_set 2 = .ok (.aload_n 0, 1) := zfLaw_set_0.2.1
theorem dLaw_set_3 : decode cLaw_set 3 = .ok (.iload_n 1, 1) := zfLaw_set_0.2.2.1
theorem dLaw_set_4 : decode cLaw_set 4 = .ok (.iload_n 2, 1) := zfLaw_set_0.2.2.2.1
theorem dLaw_set_5 : decode cLaw_set 5 = .ok (.iload_n 3, 1) := zfLaw_set_0.2.2.2.2.1
theorem dLaw_set_6 : decode cLaw_set 6 = .ok (.invokevirtual 33, 3) := zfLaw_set_0.2.2.2.2.2.1
theorem dLaw_set_9 : decode cLaw_set 9 = .ok (.i2l, 1) := zfLaw_set_0.2.2.2.2.2.2.1
theorem dLaw_set_10 : decode cLaw_set 10 = .ok (.putfield 13, 3) := zfLaw_set_0.2.2.2.2.2.2.2.1
theorem dLaw_set_13 : decode cLaw_set 13 = .ok (.goto 11, 3) := zfLaw_set_0.2.2.2.2.2.2.2.2.1
theorem dLaw_set_16 : decode cLaw_set 16 = .ok (.astore 5, 2) := zfLaw_set_0.2.2.2.2.2.2.2.2.2.1
theorem dLaw_set_18 : decode cLaw_set 18 = .ok (.iconst 1, 1) := zfLaw_set_0.2.2.2.2.2.2.2.2.2.2.1
theorem dLaw_set_19 : decode cLaw_set 19 = .ok (.ireturn, 1) := zfLaw_set_0.2.2.2.2.2.2.2.2.2.2.2.1
theorem dLaw_set_20 : decode cLaw_set 20 = .ok (.astore 5, 2) := zfLaw_set_0.2.2.2.2.2.2.2.2.2.2.2.2.1
theorem dLaw_set_22 : decode cLaw_set 22 = .ok (.iconst 2, 1) := zfLaw_set_0.2.2.2.2.2.2.2.2.2.2.2.2.2.1
theorem dLaw_set_23 : decode cLaw_set 23 = .ok (.ireturn, 1) := zfLaw_set_0.2.2.2.2.2.2.2.2.2.2.2.2.2.2.1
theorem dLaw_set_24 : decode cLaw_set 24 = .ok (.iconst 0, 1) := zfLaw_set_0.2.2.2.2.2.2.2.2.2.2.2.2.2.2.2.1
theorem dLaw_set_25 : decode cLaw_set 25 = .ok (.ireturn, 1) := zfLaw_set_0.2.2.2.2.2.2.2.2.2.2.2.2.2.2.2.2.1
theorem zfLaw_insert_0 : decode cLaw_insert 0 = .ok (.aload 4, 2) ∧ decode cLaw_insert 2 = .ok (.aload_n 0, 1) ∧ decode cLaw_insert 3 = .ok (.iload_n 1, 1) ∧ decode cLaw_insert 4 = .ok (.iload_n 2, 1) ∧ decode cLaw_insert 5 = .ok (.iload_n 3, 1) ∧ decode cLaw_insert 6 = .ok (.invokevirtual 36, 3) ∧ decode cLaw_insert 9 = .ok (.i2l, 1) ∧ decode cLaw_insert 10 = .ok (.putfield 13, 3) ∧ decode cLaw_insert 13 = .ok (.goto 11, 3) ∧ decode cLaw_insert 16 = .ok (.astore 5, 2) ∧ decode cLaw_insert 18 = .ok (.iconst 1, 1) ∧ decode cLaw_insert 19 = .ok (.ireturn, 1) ∧ decode cLaw_insert 20 = .ok (.astore 5, 2) ∧ decode cLaw_insert 22 = .ok (.iconst 2, 1) ∧ decode cLaw_insert 23 = .ok (.ireturn, 1) ∧ decode cLaw_insert 24 = .ok (.iconst 0, 1) ∧ decode cLaw_insert 25 = .ok (.ireturn, 1) ∧ True := Jvm.Free.DS.facts (code := cLaw_insert) 0 [(.aload 4, 2), (.aload_n 0, 1), (.iload_n 1, 1), (.iload_n 2, 1), (.iload_n 3, 1), (.invokevirtual 36, 3), (.i2l, 1), (.putfield 13, 3), (.goto 11, 3), (.astore 5, 2), (.iconst 1, 1), (.ireturn, 1), (.astore 5, 2), (.iconst 2, 1), (.ireturn, 1), (.iconst 0, 1), (.ireturn, 1)] (by decide +kernel) (by decide +kernel)
theorem dLaw_insert_0 : decode cLaw_insert 0 = .ok (.aload 4, 2) := zfLaw_insert_0.1
theorem dLaw_insert_2 : decode cLaw_insert 2 = .ok (.aload_n 0, 1) := zfLaw_insert_0.2.1
theorem dLaw_insert_3 : decode cLaw_insert 3 = .ok (.iload_n 1, 1) := zfLaw_insert_0.2.2.1
theorem dLaw_insert_4 : decode cLaw_insert 4 = .ok (.iload_n 2, 1) := zfLaw_insert_0.2.2.2.1
theorem dLaw_insert_5 : decode cLaw_insert 5 = .ok (.iload_n 3, 1) := zfLaw_insert_0.2.2.2.2.1
theorem dLaw_insert_6 : decode cLaw_insert 6 = .ok (.invokevirtual 36, 3) := zfLaw_insert_0.2.2.2.2.2.1
theorem dLaw_insert_9 : decode cLaw_insert 9 = .ok (.i2l, 1) := zfLaw_insert_0.2.2.2.2.2.2.1
theorem dLaw_insert_10 : decode cLaw_insert 10 = .ok (.putfield 13, 3) := zfLaw_insert_0.2.2.2.2.2.2.2.1
theorem dLaw_insert_13 : decode cLaw_insert 13 = .ok (.goto 11, 3) := zfLaw_insert_0.2.2.2.2.2.2.2.2.1
theorem dLaw_insert_16 : decode cLaw_insert 16 = .ok (.astore 5, 2) := zfLaw_insert_0.2.2.2.2.2.2.2.2.2.1
theorem dLaw_insert_18 : decode cLaw_insert 18 = .ok (.iconst 1, 1) := zfLaw_insert_0.2.2.2.2.2.2.2.2.2.2.1
theorem dLaw_insert_19 : decode cLaw_insert 19 = .ok (.ireturn, 1) := zfLaw_insert_0.2.2.2.2.2.2.2.2.2.2.2.1
theorem dLaw_insert_20 : decode cLaw_insert 20 = .ok (.astore 5, 2) := zfLaw_insert_0.2.2.2.2.2.2.2.2.2.2.2.2.1
theorem dLaw_insert_22 : decode cLaw_insert 22 = .ok (.iconst 2, 1) := zfLaw_insert_0.2.2.2.2.2.2.2.2.2.2.2.2.2.1
theorem dLaw_insert_23 : decode cLaw_insert 23 = .ok (.ireturn, 1) := zfLaw_insert_0.2.2.2.2.2.2.2.2.2.2.2.2.2.2.1
theorem dLaw_insert_24 : decode cLaw_insert 24 = .ok (.iconst 0, 1) := zfLaw_insert_0.2.2.2.2.2.2.2.2.2.2.2.2.2.2.2.1
theorem dLaw_insert_25 : decode cLaw_insert 25 = .ok (.ireturn, 1) := zfLaw_insert_0.2.2.2.2.2.2.2.2.2.2.2.2.2.2.2.2.1
theorem zfLaw_removeAt_0 : decode cLaw_removeAt 0 = .ok (.aload_n 3, 1) ∧ decode cLaw_removeAt 1 = .ok (.aload_n 0, 1) ∧ decode cLaw_removeAt 2 = .ok (.iload_n 1, 1) ∧ decode cLaw_removeAt 3 = .ok (.iload_n 2, 1) ∧ decode cLaw_removeAt 4 = .ok (.invokevirtual 39, 3) ∧ decode cLaw_removeAt 7 = .ok (.i2l, 1) ∧ decode cLaw_removeAt 8 = .ok (.putfield 13, 3) ∧ decode cLaw_removeAt 11 = .ok (.goto 7, 3) ∧ decode cLaw_removeAt 14 = .ok (.astore 4, 2) ∧ decode cLaw_removeAt 16 = .ok (.iconst 1, 1) ∧ decode cLaw_removeAt 17 = .ok (.ireturn, 1) ∧ decode cLaw_removeAt 18 = .ok (.iconst 0, 1) ∧ decode cLaw_removeAt 19 = .ok (.ireturn, 1) ∧ True := Jvm.Free.DS.facts (code := cLaw_removeAt) 0 [(.aload_n 3, 1), (.aload_n 0, 1), (.iload_n 1, 1), (.iload_n 2, 1), (.invokevirtual 39, 3), (.i2l, 1), (.putfield 13, 3), (.goto 7, 3), (.astore 4, 2), (.iconst 1, 1), (.ireturn, 1), (.iconst 0, 1), (.ireturn, 1)] (by decide +kernel) (by decide +kernel)
theorem dLaw_removeAt_0 : decode cLaw_removeAt 0 = .ok (.aload_n 3, 1) := zfLaw_removeAt_0.1
theorem dLaw_removeAt_1 : decode cLaw_removeAt 1 = .ok (.aload_n 0, 1) := zfLaw_removeAt_0.2.1
theorem dLaw_removeAt_2 : decode cLaw_removeAt 2 = .ok (.iload_n 1, 1) := zfLaw_removeAt_0.2.2.1
theorem dLaw_removeAt_3 : decode cLaw_removeAt 3 = .ok (.iload_n 2, 1) := zfLaw_removeAt_0.2.2.2.1
theorem dLaw_removeAt_4 : decode cLaw_removeAt 4 = .ok (.invokevirtual 39, 3) := zfLaw_removeAt_0.2.2.2.2.1
theorem dLaw_removeAt_7 : decode cLaw_removeAt 7 = .ok (.i2l, 1) := zfLaw_removeAt_0.2.2.2.2.2.1
theorem dLaw_removeAt_8 : decode cLaw_removeAt 8 = .ok (.putfield 13, 3) := zfLaw_removeAt_0.2.2.2.2.2.2.1
theorem dLaw_removeAt_11 : decode cLaw_removeAt 11 = .ok (.goto 7, 3) := zfLaw_removeAt_0.2.2.2.2.2.2.2.1
theorem dLaw_removeAt_14 : decode cLaw_removeAt 14 = .ok (.astore 4, 2) := zfLaw_removeAt_0.2.2.2.2.2.2.2.2.1
theorem dLaw_removeAt_16 : decode cLaw_removeAt 16 = .ok (.iconst 1, 1) := zfLaw_removeAt_0.2.2.2.2.2.2.2.2.2.1
theorem dLaw_removeAt_17 : decode cLaw_removeAt 17 = .ok (.ireturn, 1) := zfLaw_removeAt_0.2.2.2.2.2.2.2.2.2.2.1
theorem dLaw_removeAt_18 : decode cLaw_removeAt 18 = .ok (.iconst 0, 1) := zfLaw_removeAt_0.2.2.2.2.2.2.2.2.2.2.2.1
theorem dLaw_removeAt_19 : decode cLaw_removeAt 19 = .ok (.ireturn, 1) := zfLaw_removeAt_0.2.2.2.2.2.2.2.2.2.2.2.2.1
theorem zfLaw_drop_0 : decode cLaw_drop 0 = .ok (.aload 4, 2) ∧ decode cLaw_drop 2 = .ok (.aload_n 0, 1) ∧ decode cLaw_drop 3 = .ok (.iload_n 1, 1) ∧ decode cLaw_drop 4 = .ok (.iload_n 2, 1) ∧ decode cLaw_drop 5 = .ok (.iload_n 3, 1) ∧ decode cLaw_drop 6 = .ok (.invokevirtual 42, 3) ∧ decode cLaw_drop 9 = .ok (.ifCond .eq 7, 3) ∧ decode cLaw_drop 12 = .ok (.lconst 1, 1) ∧ decode cLaw_drop 13 = .ok (.goto 4, 3) ∧ decode cLaw_drop 16 = .ok (.lconst 0, 1) ∧ decode cLaw_drop 17 = .ok (.putfield 13, 3) ∧ decode cLaw_drop 20 = .ok (.goto 7, 3) ∧ decode cLaw_drop 23 = .ok (.astore 5, 2) ∧ decode cLaw_drop 25 = .ok (.iconst 1, 1) ∧ decode cLaw_drop 26 = .ok (.ireturn, 1) ∧ decode cLaw_drop 27 = .ok (.iconst 0, 1) ∧ decode cLaw_drop 28 = .ok (.ireturn, 1) ∧ True := Jvm.Free.DS.facts (code := cLaw_drop) 0 [(.aload 4, 2), (.aload_n 0, 1), (.iload_n 1, 1), (.iload_n 2, 1), (.iload_n 3, 1), (.invokevirtual 42, 3), (.ifCond .eq 7, 3), (.lconst 1, 1), (.goto 4, 3), (.lconst 0, 1), (.putfield 13, 3), (.goto 7, 3), (.astore 5, 2), (.iconst 1, 1), (.ireturn, 1), (.iconst 0, 1), (.ireturn, 1)] (by decide +kernel) (by decide +kernel)
theorem dLaw_drop_0 : decode cLaw_drop 0 = .ok (.aload 4, 2) := zfLaw_drop_0.1
theorem dLaw_drop_2 : decode cLaw_drop 2 = .ok (.aload_n 0, 1) := zfLaw_drop_0.2.1
theorem dLaw_drop_3 : decode cLaw_drop 3 = .ok (.iload_n 1, 1) := zfLaw_drop_0.2.2.1
theorem dLaw_drop_4 : decode cLaw_drop 4 = .ok (.iload_n 2, 1) := zfLaw_drop_0.2.2.2.1
theorem dLaw_drop_5 : decode cLaw_drop 5 = .ok (.iload_n 3, 1) := zfLaw_drop_0.2.2.2.2.1
theorem dLaw_drop_6 : decode cLaw_drop 6 = .ok (.invokevirtual 42, 3) := zfLaw_drop_0.2.2.2.2.2.1
theorem dLaw_drop_9 : decode cLaw_drop 9 = .ok (.ifCond .eq 7, 3) := zfLaw_drop_0.2.2.2.2.2.2.1
theorem dLaw_drop_12 : decode cLaw_drop 12 = .ok (.lconst 1, 1) := zfLaw_drop_0.2.2.2.2.2.2.2.1
theorem dLaw_drop_13 : decode cLaw_drop 13 = .ok (.goto 4, 3) := zfLaw_drop_0.2.2.2.2.2.2.2.2.1
theorem dLaw_drop_16 : decode cLaw_drop 16 = .ok (.lconst 0, 1) := zfLaw_drop_0.2.2.2.2.2.2.2.2.2.1
theorem dLaw_drop_17 : decode cLaw_drop 17 = .ok (.putfield 13, 3) := zfLaw_drop_0.2.2.2.2.2.2.2.2.2.2.1
theorem dLaw_drop_20 : decode cLaw_drop 20 = .ok (.goto 7, 3) := zfLaw_drop_0.2.2.2.2.2.2.2.2.2.2.2.1
theorem dLaw_drop_23 : decode cLaw_drop 23 = .ok (.astore 5, 2) := zfLaw_drop_0.2.2.2.2.2.2.2.2.2.2.2.2.1
theorem dLaw_drop_25 : decode cLaw_drop 25 = .ok (.iconst 1, 1) := zfLaw_drop_0.2.2.2.2.2.2.2.2.2.2.2.2.2.1
theorem dLaw_drop_26 : decode cLaw_drop 26 = .ok (.ireturn, 1) := zfLaw_drop_0.2.2.2.2.2.2.2.2.2.2.2.2.2.2.1
theorem dLaw_drop_27 : decode cLaw_drop 27 = .ok (.iconst 0, 1) := zfLaw_drop_0.2.2.2.2.2.2.2.2.2.2.2.2.2.2.2.1
theorem dLaw_drop_28 : decode cLaw_drop 28 = .ok (.ireturn, 1) := zfLaw_drop_0.2.2.2.2.2.2.2.2.2.2.2.2.2.2.2.2.1
theorem zfLaw_thin_0 : decode cLaw_thin 0 = .ok (.aload_n 3, 1) ∧ decode cLaw_thin 1 = .ok (.aload_n 0, 1) ∧ decode cLaw_thin 2 = .ok (.iload_n 1, 1) ∧ decode cLaw_thin 3 = .ok (.iload_n 2, 1) ∧ decode cLaw_thin 4 = .ok (.invokevirtual 46, 3) ∧ decode cLaw_thin 7 = .ok (.i2l, 1) ∧ decode cLaw_thin 8 = .ok (.putfield 13, 3) ∧ decode cLaw_thin 11 = .ok (.goto 7, 3) ∧ decode cLaw_thin 14 = .ok (.astore 4, 2) ∧ decode cLaw_thin 16 = .ok (.iconst 1, 1) ∧ decode cLaw_thin 17 = .ok (.ireturn, 1) ∧ decode cLaw_thin 18 = .ok (.iconst 0, 1) ∧ decode cLaw_thin 19 = .ok (.ireturn, 1) ∧ True := Jvm.Free.DS.facts (code := cLaw_thin) 0 [(.aload_n 3, 1), (.aload_n 0, 1), (.iload_n 1, 1), (.iload_n 2, 1), (.invokevirtual 46, 3), (.i2l, 1), (.putfield 13, 3), (.goto 7, 3), (.astore 4, 2), (.iconst 1, 1), (.ireturn, 1), (.iconst 0, 1), (.ireturn, 1)] (by decide +kernel) (by decide +kernel)
theorem dLaw_thin_0 : decode cLaw_thin 0 = .ok (.aload_n 3, 1) := zfLaw_thin_0.1
theorem dLaw_thin_1 : decode cLaw_thin 1 = .ok (.aload_n 0, 1) := zfLaw_thin_0.2.1
theorem dLaw_thin_2 : decode cLaw_thin 2 = .ok (.iload_n 1, 1) := zfLaw_thin_0.2.2.1
theorem dLaw_thin_3 : decode cLaw_thin 3 = .ok (.iload_n 2, 1) := zfLaw_thin_0.2.2.2.1
theorem dLaw_thin_4 : decode cLaw_thin 4 = .ok (.invokevirtual 46, 3) := zfLaw_thin_0.2.2.2.2.1
theorem dLaw_thin_7 : decode cLaw_thin 7 = .ok (.i2l, 1) := zfLaw_thin_0.2.2.2.2.2.1
theorem dLaw_thin_8 : decode cLaw_thin 8 = .ok (.putfield 13, 3) := zfLaw_thin_0.2.2.2.2.2.2.1
theorem dLaw_thin_11 : decode cLaw_thin 11 = .ok (.goto 7, 3) := zfLaw_thin_0.2.2.2.2.2.2.2.1
theorem dLaw_thin_14 : decode cLaw_thin 14 = .ok (.astore 4, 2) := zfLaw_thin_0.2.2.2.2.2.2.2.2.1
theorem dLaw_thin_16 : decode cLaw_thin 16 = .ok (.iconst 1, 1) := zfLaw_thin_0.2.2.2.2.2.2.2.2.2.1
theorem dLaw_thin_17 : decode cLaw_thin 17 = .ok (.ireturn, 1) := zfLaw_thin_0.2.2.2.2.2.2.2.2.2.2.1
theorem dLaw_thin_18 : decode cLaw_thin 18 = .ok (.iconst 0, 1) := zfLaw_thin_0.2.2.2.2.2.2.2.2.2.2.2.1
theorem dLaw_thin_19 : decode cLaw_thin 19 = .ok (.ireturn, 1) := zfLaw_thin_0.2.2.2.2.2.2.2.2.2.2.2.2.1
theorem zfLaw_indexOf_0 : decode cLaw_indexOf 0 = .ok (.aload 4, 2) ∧ decode cLaw_indexOf 2 = .ok (.aload_n 0, 1) ∧ decode cLaw_indexOf 3 = .ok (.iload_n 1, 1) ∧ decode cLaw_indexOf 4 = .ok (.iload_n 2, 1) ∧ decode cLaw_indexOf 5 = .ok (.iload_n 3, 1) ∧ decode cLaw_indexOf 6 = .ok (.invokevirtual 49, 3) ∧ decode cLaw_indexOf 9 = .ok (.i2l, 1) ∧ decode cLaw_indexOf 10 = .ok (.putfield 13, 3) ∧ decode cLaw_indexOf 13 = .ok (.goto 7, 3) ∧ decode cLaw_indexOf 16 = .ok (.astore 5, 2) ∧ decode cLaw_indexOf 18 = .ok (.iconst 1, 1) ∧ decode cLaw_indexOf 19 = .ok (.ireturn, 1) ∧ decode cLaw_indexOf 20 = .ok (.iconst 0, 1) ∧ decode cLaw_indexOf 21 = .ok (.ireturn, 1) ∧ True := Jvm.Free.DS.facts (code := cLaw_indexOf) 0 [(.aload 4, 2), (.aload_n 0, 1), (.iload_n 1, 1), (.iload_n 2, 1), (.iload_n 3, 1), (.invokevirtual 49, 3), (.i2l, 1), (.putfield 13, 3), (.goto 7, 3), (.astore 5, 2), (.iconst 1, 1), (.ireturn, 1), (.iconst 0, 1), (.ireturn, 1)] (by decide +kernel) (by decide +kernel)
theorem dLaw_indexOf_0 : decode cLaw_indexOf 0 = .ok (.aload 4, 2) := zfLaw_indexOf_0.1
theorem dLaw_indexOf_2 : decode cLaw_indexOf 2 = .ok (.aload_n 0, 1) := zfLaw_indexOf_0.2.1
theorem dLaw_indexOf_3 : decode cLaw_indexOf 3 = .ok (.iload_n 1, 1) := zfLaw_indexOf_0.2.2.1
theorem dLaw_indexOf_4 : decode cLaw_indexOf 4 = .ok (.iload_n 2, 1) := zfLaw_indexOf_0.2.2.2.1
theorem dLaw_indexOf_5 : decode cLaw_indexOf 5 = .ok (.iload_n 3, 1) := zfLaw_indexOf_0.2.2.2.2.1
theorem dLaw_indexOf_6 : decode cLaw_indexOf 6 = .ok (.invokevirtual 49, 3) := zfLaw_indexOf_0.2.2.2.2.2.1
theorem dLaw_indexOf_9 : decode cLaw_indexOf 9 = .ok (.i2l, 1) := zfLaw_indexOf_0.2.2.2.2.2.2.1
theorem dLaw_indexOf_10 : decode cLaw_indexOf 10 = .ok (.putfield 13, 3) := zfLaw_indexOf_0.2.2.2.2.2.2.2.1
theorem dLaw_indexOf_13 : decode cLaw_indexOf 13 = .ok (.goto 7, 3) := zfLaw_indexOf_0.2.2.2.2.2.2.2.2.1
theorem dLaw_indexOf_16 : decode cLaw_indexOf 16 = .ok (.astore 5, 2) := zfLaw_indexOf_0.2.2.2.2.2.2.2.2.2.1
theorem dLaw_indexOf_18 : decode cLaw_indexOf 18 = .ok (.iconst 1, 1) := zfLaw_indexOf_0.2.2.2.2.2.2.2.2.2.2.1
theorem dLaw_indexOf_19 : decode cLaw_indexOf 19 = .ok (.ireturn, 1) := zfLaw_indexOf_0.2.2.2.2.2.2.2.2.2.2.2.1
theorem dLaw_indexOf_20 : decode cLaw_indexOf 20 = .ok (.iconst 0, 1) := zfLaw_indexOf_0.2.2.2.2.2.2.2.2.2.2.2.2.1
theorem dLaw_indexOf_21 : decode cLaw_indexOf 21 = .ok (.ireturn, 1) := zfLaw_indexOf_0.2.2.2.2.2.2.2.2.2.2.2.2.2.1
theorem zfLaw_has_0 : decode cLaw_has 0 = .ok (.aload_n 3, 1) ∧ decode cLaw_has 1 = .ok (.aload_n 0, 1) ∧ decode cLaw_has 2 = .ok (.iload_n 1, 1) ∧ decode cLaw_has 3 = .ok (.iload_n 2, 1) ∧ decode cLaw_has 4 = .ok (.invokevirtual 53, 3) ∧ decode cLaw_has 7 = .ok (.ifCond .eq 7, 3) ∧ decode cLaw_has 10 = .ok (.lconst 1, 1) ∧ decode cLaw_has 11 = .ok (.goto 4, 3) ∧ decode cLaw_has 14 = .ok (.lconst 0, 1) ∧ decode cLaw_has 15 = .ok (.putfield 13, 3) ∧ decode cLaw_has 18 = .ok (.goto 7, 3) ∧ decode cLaw_has 21 = .ok (.astore 4, 2) ∧ decode cLaw_has 23 = .ok (.iconst 1, 1) ∧ decode cLaw_has 24 = .ok (.ireturn, 1) ∧ decode cLaw_has 25 = .ok (.iconst 0, 1) ∧ decode cLaw_has 26 = .ok (.ireturn, 1) ∧ True := Jvm.Free.DS.facts (code := cLaw_has) 0 [(.aload_n 3, 1), (.aload_n 0, 1), (.iload_n 1, 1), (.iload_n 2, 1), (.invokevirtual 53, 3), (.ifCond .eq 7, 3), (.lconst 1, 1), (.goto 4, 3), (.lconst 0, 1), (.putfield 13, 3), (.goto 7, 3), (.astore 4, 2), (.iconst 1, 1), (.ireturn, 1), (.iconst 0, 1), (.ireturn, 1)] (by decide +kernel) (by decide +kernel)
theorem dLaw_has_0 : decode cLaw_has 0 = .ok (.aload_n 3, 1) := zfLaw_has_0.1
theorem dLaw_has_1 : decode cLaw_has 1 = .ok (.aload_n 0, 1) := zfLaw_has_0.2.1
theorem dLaw_has_2 : decode cLaw_has 2 = .ok (.iload_n 1, 1) := zfLaw_has_0.2.2.1
theorem dLaw_has_3 : decode cLaw_has 3 = .ok (.iload_n 2, 1) := zfLaw_has_0.2.2.2.1
theorem dLaw_has_4 : decode cLaw_has 4 = .ok (.invokevirtual 53, 3) := zfLaw_has_0.2.2.2.2.1
theorem dLaw_has_7 : decode cLaw_has 7 = .ok (.ifCond .eq 7, 3) := zfLaw_has_0.2.2.2.2.2.1
theorem dLaw_has_10 : decode cLaw_has 10 = .ok (.lconst 1, 1) := zfLaw_has_0.2.2.2.2.2.2.1
theorem dLaw_has_11 : decode cLaw_has 11 = .ok (.goto 4, 3) := zfLaw_has_0.2.2.2.2.2.2.2.1
theorem dLaw_has_14 : decode cLaw_has 14 = .ok (.lconst 0, 1) := zfLaw_has_0.2.2.2.2.2.2.2.2.1
theorem dLaw_has_15 : decode cLaw_has 15 = .ok (.putfield 13, 3) := zfLaw_has_0.2.2.2.2.2.2.2.2.2.1
theorem dLaw_has_18 : decode cLaw_has 18 = .ok (.goto 7, 3) := zfLaw_has_0.2.2.2.2.2.2.2.2.2.2.1
theorem dLaw_has_21 : decode cLaw_has 21 = .ok (.astore 4, 2) := zfLaw_has_0.2.2.2.2.2.2.2.2.2.2.2.1
theorem dLaw_has_23 : decode cLaw_has 23 = .ok (.iconst 1, 1) := zfLaw_has_0.2.2.2.2.2.2.2.2.2.2.2.2.1
theorem dLaw_has_24 : decode cLaw_has 24 = .ok (.ireturn, 1) := zfLaw_has_0.2.2.2.2.2.2.2.2.2.2.2.2.2.1
theorem dLaw_has_25 : decode cLaw_has 25 = .ok (.iconst 0, 1) := zfLaw_has_0.2.2.2.2.2.2.2.2.2.2.2.2.2.2.1
theorem dLaw_has_26 : decode cLaw_has 26 = .ok (.ireturn, 1) := zfLaw_has_0.2.2.2.2.2.2.2.2.2.2.2.2.2.2.2.1
theorem zfLaw_size_0 : decode cLaw_size 0 = .ok (.aload_n 2, 1) ∧ decode cLaw_size 1 = .ok (.aload_n 0, 1) ∧ decode cLaw_size 2 = .ok (.iload_n 1, 1) ∧ decode cLaw_size 3 = .ok (.invokevirtual 57, 3) ∧ decode cLaw_size 6 = .ok (.i2l, 1) ∧ decode cLaw_size 7 = .ok (.putfield 13, 3) ∧ decode cLaw_size 10 = .ok (.goto 6, 3) ∧ decode cLaw_size 13 = .ok (.astore_n 3, 1) ∧ decode cLaw_size 14 = .ok (.iconst 1, 1) ∧ decode cLaw_size 15 = .ok (.ireturn, 1) ∧ decode cLaw_size 16 = .ok (.iconst 0, 1) ∧ decode cLaw_size 17 = .ok (.ireturn, 1) ∧ True := Jvm.Free.DS.facts (code := cLaw_size) 0 [(.aload_n 2, 1), (.aload_n 0, 1), (.iload_n 1, 1), (.invokevirtual 57, 3), (.i2l, 1), (.putfield 13, 3), (.goto 6, 3), (.astore_n 3, 1), (.iconst 1, 1), (.ireturn, 1), (.iconst 0, 1), (.ireturn, 1)] (by decide +kernel) (by decide +kernel)
theorem dLaw_size_0 : decode cLaw_size 0 = .ok (.aload_n 2, 1) := zfLaw_size_0.1
theorem dLaw_size_1 : decode cLaw_size 1 = .ok (.aload_n 0, 1) := zfLaw_size_0.2.1
theorem dLaw_size_2 : decode cLaw_size 2 = .ok (.iload_n 1, 1) := zfLaw_size_0.2.2.1
theorem dLaw_size_3 : decode cLaw_size 3 = .ok (.invokevirtual 57, 3) := zfLaw_size_0.2.2.2.1
theorem dLaw_size_6 : decode cLaw_size 6 = .ok (.i2l, 1) := zfLaw_size_0.2.2.2.2.1
theorem dLaw_size_7 : decode cLaw_size 7 = .ok (.putfield 13, 3) := zfLaw_size_0.2.2.2.2.2.1
theorem dLaw_size_10 : decode cLaw_size 10 = .ok (.goto 6, 3) := zfLaw_size_0.2.2.2.2.2.2.1
theorem dLaw_size_13 : decode cLaw_size 13 = .ok (.astore_n 3, 1) := zfLaw_size_0.2.2.2.2.2.2.2.1
theorem dLaw_size_14 : decode cLaw_size 14 = .ok (.iconst 1, 1) := zfLaw_size_0.2.2.2.2.2.2.2.2.1
theorem dLaw_size_15 : decode cLaw_size 15 = .ok (.ireturn, 1) := zfLaw_size_0.2.2.2.2.2.2.2.2.2.1
theorem dLaw_size_16 : decode cLaw_size 16 = .ok (.iconst 0, 1) := zfLaw_size_0.2.2.2.2.2.2.2.2.2.2.1
theorem dLaw_size_17 : decode cLaw_size 17 = .ok (.ireturn, 1) := zfLaw_size_0.2.2.2.2.2.2.2.2.2.2.2.1
theorem zfLaw_text_0 : decode cLaw_text 0 = .ok (.aload_n 3, 1) ∧ decode cLaw_text 1 = .ok (.aload_n 0, 1) ∧ decode cLaw_text 2 = .ok (.iload_n 1, 1) ∧ decode cLaw_text 3 = .ok (.iload_n 2, 1) ∧ decode cLaw_text 4 = .ok (.invokevirtual 61, 3) ∧ decode cLaw_text 7 = .ok (.putfield 65, 3) ∧ decode cLaw_text 10 = .ok (.goto 7, 3) ∧ decode cLaw_text 13 = .ok (.astore 4, 2) ∧ decode cLaw_text 15 = .ok (.iconst 1, 1) ∧ decode cLaw_text 16 = .ok (.ireturn, 1) ∧ decode cLaw_text 17 = .ok (.iconst 0, 1) ∧ decode cLaw_text 18 = .ok (.ireturn, 1) ∧ True := Jvm.Free.DS.facts (code := cLaw_text) 0 [(.aload_n 3, 1), (.aload_n 0, 1), (.iload_n 1, 1), (.iload_n 2, 1), (.invokevirtual 61, 3), (.putfield 65, 3), (.goto 7, 3), (.astore 4, 2), (.iconst 1, 1), (.ireturn, 1), (.iconst 0, 1), (.ireturn, 1)] (by decide +kernel) (by decide +kernel)
theorem dLaw_text_0 : decode cLaw_text 0 = .ok (.aload_n 3, 1) := zfLaw_text_0.1
theorem dLaw_text_1 : decode cLaw_text 1 = .ok (.aload_n 0, 1) := zfLaw_text_0.2.1
theorem dLaw_text_2 : decode cLaw_text 2 = .ok (.iload_n 1, 1) := zfLaw_text_0.2.2.1
theorem dLaw_text_3 : decode cLaw_text 3 = .ok (.iload_n 2, 1) := zfLaw_text_0.2.2.2.1
theorem dLaw_text_4 : decode cLaw_text 4 = .ok (.invokevirtual 61, 3) := zfLaw_text_0.2.2.2.2.1
theorem dLaw_text_7 : decode cLaw_text 7 = .ok (.putfield 65, 3) := zfLaw_text_0.2.2.2.2.2.1
theorem dLaw_text_10 : decode cLaw_text 10 = .ok (.goto 7, 3) := zfLaw_text_0.2.2.2.2.2.2.1
theorem dLaw_text_13 : decode cLaw_text 13 = .ok (.astore 4, 2) := zfLaw_text_0.2.2.2.2.2.2.2.1
theorem dLaw_text_15 : decode cLaw_text 15 = .ok (.iconst 1, 1) := zfLaw_text_0.2.2.2.2.2.2.2.2.1
theorem dLaw_text_16 : decode cLaw_text 16 = .ok (.ireturn, 1) := zfLaw_text_0.2.2.2.2.2.2.2.2.2.1
theorem dLaw_text_17 : decode cLaw_text 17 = .ok (.iconst 0, 1) := zfLaw_text_0.2.2.2.2.2.2.2.2.2.2.1
theorem dLaw_text_18 : decode cLaw_text 18 = .ok (.ireturn, 1) := zfLaw_text_0.2.2.2.2.2.2.2.2.2.2.2.1
theorem zfLaw_clear_0 : decode cLaw_clear 0 = .ok (.aload_n 2, 1) ∧ decode cLaw_clear 1 = .ok (.aload_n 0, 1) ∧ decode cLaw_clear 2 = .ok (.iload_n 1, 1) ∧ decode cLaw_clear 3 = .ok (.invokevirtual 69, 3) ∧ decode cLaw_clear 6 = .ok (.i2l, 1) ∧ decode cLaw_clear 7 = .ok (.putfield 13, 3) ∧ decode cLaw_clear 10 = .ok (.goto 6, 3) ∧ decode cLaw_clear 13 = .ok (.astore_n 3, 1) ∧ decode cLaw_clear 14 = .ok (.iconst 1, 1) ∧ decode cLaw_clear 15 = .ok (.ireturn, 1) ∧ decode cLaw_clear 16 = .ok (.iconst 0, 1) ∧ decode cLaw_clear 17 = .ok (.ireturn, 1) ∧ True := Jvm.Free.DS.facts (code := cLaw_clear) 0 [(.aload_n 2, 1), (.aload_n 0, 1), (.iload_n 1, 1), (.invokevirtual 69, 3), (.i2l, 1), (.putfield 13, 3), (.goto 6, 3), (.astore_n 3, 1), (.iconst 1, 1), (.ireturn, 1), (.iconst 0, 1), (.ireturn, 1)] (by decide +kernel) (by decide +kernel)
theorem dLaw_clear_0 : decode cLaw_clear 0 = .ok (.aload_n 2, 1) := zfLaw_clear_0.1
theorem dLaw_clear_1 : decode cLaw_clear 1 = .ok (.aload_n 0, 1) := zfLaw_clear_0.2.1
theorem dLaw_clear_2 : decode cLaw_clear 2 = .ok (.iload_n 1, 1) := zfLaw_clear_0.2.2.1
theorem dLaw_clear_3 : decode cLaw_clear 3 = .ok (.invokevirtual 69, 3) := zfLaw_clear_0.2.2.2.1
theorem dLaw_clear_6 : decode cLaw_clear 6 = .ok (.i2l, 1) := zfLaw_clear_0.2.2.2.2.1
theorem dLaw_clear_7 : decode cLaw_clear 7 = .ok (.putfield 13, 3) := zfLaw_clear_0.2.2.2.2.2.1
theorem dLaw_clear_10 : decode cLaw_clear 10 = .ok (.goto 6, 3) := zfLaw_clear_0.2.2.2.2.2.2.1
theorem dLaw_clear_13 : decode cLaw_clear 13 = .ok (.astore_n 3, 1) := zfLaw_clear_0.2.2.2.2.2.2.2.1
theorem dLaw_clear_14 : decode cLaw_clear 14 = .ok (.iconst 1, 1) := zfLaw_clear_0.2.2.2.2.2.2.2.2.1
theorem dLaw_clear_15 : decode cLaw_clear 15 = .ok (.ireturn, 1) := zfLaw_clear_0.2.2.2.2.2.2.2.2.2.1
theorem dLaw_clear_16 : decode cLaw_clear 16 = .ok (.iconst 0, 1) := zfLaw_clear_0.2.2.2.2.2.2.2.2.2.2.1
theorem dLaw_clear_17 : decode cLaw_clear 17 = .ok (.ireturn, 1) := zfLaw_clear_0.2.2.2.2.2.2.2.2.2.2.2.1
theorem zfLaw_append_0 : decode cLaw_append 0 = .ok (.aload_n 3, 1) ∧ decode cLaw_append 1 = .ok (.aload_n 0, 1) ∧ decode cLaw_append 2 = .ok (.iload_n 1, 1) ∧ decode cLaw_append 3 = .ok (.iload_n 2, 1) ∧ decode cLaw_append 4 = .ok (.invokevirtual 72, 3) ∧ decode cLaw_append 7 = .ok (.i2l, 1) ∧ decode cLaw_append 8 = .ok (.putfield 13, 3) ∧ decode cLaw_append 11 = .ok (.goto 7, 3) ∧ decode cLaw_append 14 = .ok (.astore 4, 2) ∧ decode cLaw_append 16 = .ok (.iconst 1, 1) ∧ decode cLaw_append 17 = .ok (.ireturn, 1) ∧ decode cLaw_append 18 = .ok (.iconst 0, 1) ∧ decode cLaw_append 19 = .ok (.ireturn, 1) ∧ True := Jvm.Free.DS.facts (code := cLaw_append) 0 [(.aload_n 3, 1), (.aload_n 0, 1), (.iload_n 1, 1), (.iload_n 2, 1), (.invokevirtual 72, 3), (.i2l, 1), (.putfield 13, 3), (.goto 7, 3), (.astore 4, 2), (.iconst 1, 1), (.ireturn, 1), (.iconst 0, 1), (.ireturn, 1)] (by decide +kernel) (by decide +kernel)
theorem dLaw_append_0 : decode cLaw_append 0 = .ok (.aload_n 3, 1) := zfLaw_append_0.1
theorem dLaw_append_1 : decode cLaw_append 1 = .ok (.aload_n 0, 1) := zfLaw_append_0.2.1
theorem dLaw_append_2 : decode cLaw_append 2 = .ok (.iload_n 1, 1) := zfLaw_append_0.2.2.1
theorem dLaw_append_3 : decode cLaw_append 3 = .ok (.iload_n 2, 1) := zfLaw_append_0.2.2.2.1
theorem dLaw_append_4 : decode cLaw_append 4 = .ok (.invokevirtual 72, 3) := zfLaw_append_0.2.2.2.2.1
theorem dLaw_append_7 : decode cLaw_append 7 = .ok (.i2l, 1) := zfLaw_append_0.2.2.2.2.2.1
theorem dLaw_append_8 : decode cLaw_append 8 = .ok (.putfield 13, 3) := zfLaw_append_0.2.2.2.2.2.2.1
theorem dLaw_append_11 : decode cLaw_append 11 = .ok (.goto 7, 3) := zfLaw_append_0.2.2.2.2.2.2.2.1
theorem dLaw_append_14 : decode cLaw_append 14 = .ok (.astore 4, 2) := zfLaw_append_0.2.2.2.2.2.2.2.2.1
theorem dLaw_append_16 : decode cLaw_append 16 = .ok (.iconst 1, 1) := zfLaw_append_0.2.2.2.2.2.2.2.2.2.1
theorem dLaw_append_17 : decode cLaw_append 17 = .ok (.ireturn, 1) := zfLaw_append_0.2.2.2.2.2.2.2.2.2.2.1
theorem dLaw_append_18 : decode cLaw_append 18 = .ok (.iconst 0, 1) := zfLaw_append_0.2.2.2.2.2.2.2.2.2.2.2.1
theorem dLaw_append_19 : decode cLaw_append 19 = .ok (.ireturn, 1) := zfLaw_append_0.2.2.2.2.2.2.2.2.2.2.2.2.1
theorem zfLaw_appendAt_0 : decode cLaw_appendAt 0 = .ok (.aload 4, 2) ∧ decode cLaw_appendAt 2 = .ok (.aload_n 0, 1) ∧ decode cLaw_appendAt 3 = .ok (.iload_n 1, 1) ∧ decode cLaw_appendAt 4 = .ok (.iload_n 2, 1) ∧ decode cLaw_appendAt 5 = .ok (.iload_n 3, 1) ∧ decode cLaw_appendAt 6 = .ok (.invokevirtual 75, 3) ∧ decode cLaw_appendAt 9 = .ok (.i2l, 1) ∧ decode cLaw_appendAt 10 = .ok (.putfield 13, 3) ∧ decode cLaw_appendAt 13 = .ok (.goto 7, 3) ∧ decode cLaw_appendAt 16 = .ok (.astore 5, 2) ∧ decode cLaw_appendAt 18 = .ok (.iconst 1, 1) ∧ decode cLaw_appendAt 19 = .ok (.ireturn, 1) ∧ decode cLaw_appendAt 20 = .ok (.iconst 0, 1) ∧ decode cLaw_appendAt 21 = .ok (.ireturn, 1) ∧ True := Jvm.Free.DS.facts (code := cLaw_appendAt) 0 [(.aload 4, 2), (.aload_n 0, 1), (.iload_n 1, 1), (.iload_n 2, 1), (.iload_n 3, 1), (.invokevirtual 75, 3), (.i2l, 1), (.putfield 13, 3), (.goto 7, 3), (.astore 5, 2), (.iconst 1, 1), (.ireturn, 1), (.iconst 0, 1), (.ireturn, 1)] (by decide +kernel) (by decide +kernel)
theorem dLaw_appendAt_0 : decode cLaw_appendAt 0 = .ok (.aload 4, 2) := zfLaw_appendAt_0.1
theorem dLaw_appendAt_2 : decode cLaw_appendAt 2 = .ok (.aload_n 0, 1) := zfLaw_appendAt_0.2.1
theorem dLaw_appendAt_3 : decode cLaw_appendAt 3 = .ok (.iload_n 1, 1) := zfLaw_appendAt_0.2.2.1
theorem dLaw_appendAt_4 : decode cLaw_appendAt 4 = .ok (.iload_n 2, 1) := zfLaw_appendAt_0.2.2.2.1
theorem dLaw_appendAt_5 : decode cLaw_appendAt 5 = .ok (.iload_n 3, 1) := zfLaw_appendAt_0.2.2.2.2.1
theorem dLaw_appendAt_6 : decode cLaw_appendAt 6 = .ok (.invokevirtual 75, 3) := zfLaw_appendAt_0.2.2.2.2.2.1
theorem dLaw_appendAt_9 : decode cLaw_appendAt 9 = .ok (.i2l, 1) := zfLaw_appendAt_0.2.2.2.2.2.2.1
theorem dLaw_appendAt_10 : decode cLaw_appendAt 10 = .ok (.putfield 13, 3) := zfLaw_appendAt_0.2.2.2.2.2.2.2.1
theorem dLaw_appendAt_13 : decode cLaw_appendAt 13 = .ok (.goto 7, 3) := zfLaw_appendAt_0.2.2.2.2.2.2.2.2.1
theorem dLaw_appendAt_16 : decode cLaw_appendAt 16 = .ok (.astore 5, 2) := zfLaw_appendAt_0.2.2.2.2.2.2.2.2.2.1
theorem dLaw_appendAt_18 : decode cLaw_appendAt 18 = .ok (.iconst 1, 1) := zfLaw_appendAt_0.2.2.2.2.2.2.2.2.2.2.1
theorem dLaw_appendAt_19 : decode cLaw_appendAt 19 = .ok (.ireturn, 1) := zfLaw_appendAt_0.2.2.2.2.2.2.2.2.2.2.2.1
theorem dLaw_appendAt_20 : decode cLaw_appendAt 20 = .ok (.iconst 0, 1) := zfLaw_appendAt_0.2.2.2.2.2.2.2.2.2.2.2.2.1
theorem dLaw_appendAt_21 : decode cLaw_appendAt 21 = .ok (.ireturn, 1) := zfLaw_appendAt_0.2.2.2.2.2.2.2.2.2.2.2.2.2.1
theorem zfLaw_copy_0 : decode cLaw_copy 0 = .ok (.aload_n 3, 1) ∧ decode cLaw_copy 1 = .ok (.aload_n 0, 1) ∧ decode cLaw_copy 2 = .ok (.iload_n 1, 1) ∧ decode cLaw_copy 3 = .ok (.iload_n 2, 1) ∧ decode cLaw_copy 4 = .ok (.invokevirtual 78, 3) ∧ decode cLaw_copy 7 = .ok (.i2l, 1) ∧ decode cLaw_copy 8 = .ok (.putfield 13, 3) ∧ decode cLaw_copy 11 = .ok (.goto 7, 3) ∧ decode cLaw_copy 14 = .ok (.astore 4, 2) ∧ decode cLaw_copy 16 = .ok (.iconst 1, 1) ∧ decode cLaw_copy 17 = .ok (.ireturn, 1) ∧ decode cLaw_copy 18 = .ok (.iconst 0, 1) ∧ decode cLaw_copy 19 = .ok (.ireturn, 1) ∧ True := Jvm.Free.DS.facts (code := cLaw_copy) 0 [(.aload_n 3, 1), (.aload_n 0, 1), (.iload_n 1, 1), (.iload_n 2, 1), (.invokevirtual 78, 3), (.i2l, 1), (.putfield 13, 3), (.goto 7, 3), (.astore 4, 2), (.iconst 1, 1), (.ireturn, 1), (.iconst 0, 1), (.ireturn, 1)] (by decide +kernel) (by decide +kernel)
theorem dLaw_copy_0 : decode cLaw_copy 0 = .ok (.aload_n 3, 1) := zfLaw_copy_0.1
theorem dLaw_copy_1 : decode cLaw_copy 1 = .ok (.aload_n 0, 1) := zfLaw_copy_0.2.1
theorem dLaw_copy_2 : decode cLaw_copy 2 = .ok (.iload_n 1, 1) := zfLaw_copy_0.2.2.1
theorem dLaw_copy_3 : decode cLaw_copy 3 = .ok (.iload_n 2, 1) := zfLaw_copy_0.2.2.2.1
theorem dLaw_copy_4 : decode cLaw_copy 4 = .ok (.invokevirtual 78, 3) := zfLaw_copy_0.2.2.2.2.1
theorem dLaw_copy_7 : decode cLaw_copy 7 = .ok (.i2l, 1) := zfLaw_copy_0.2.2.2.2.2.1
theorem dLaw_copy_8 : decode cLaw_copy 8 = .ok (.putfield 13, 3) := zfLaw_copy_0.2.2.2.2.2.2.1
theorem dLaw_copy_11 : decode cLaw_copy 11 = .ok (.goto 7, 3) := zfLaw_copy_0.2.2.2.2.2.2.2.1
theorem dLaw_copy_14 : decode cLaw_copy 14 = .ok (.astore 4, 2) := zfLaw_copy_0.2.2.2.2.2.2.2.2.1
theorem dLaw_copy_16 : decode cLaw_copy 16 = .ok (.iconst 1, 1) := zfLaw_copy_0.2.2.2.2.2.2.2.2.2.1
theorem dLaw_copy_17 : decode cLaw_copy 17 = .ok (.ireturn, 1) := zfLaw_copy_0.2.2.2.2.2.2.2.2.2.2.1
theorem dLaw_copy_18 : decode cLaw_copy 18 = .ok (.iconst 0, 1) := zfLaw_copy_0.2.2.2.2.2.2.2.2.2.2.2.1
theorem dLaw_copy_19 : decode cLaw_copy 19 = .ok (.ireturn, 1) := zfLaw_copy_0.2.2.2.2.2.2.2.2.2.2.2.2.1
theorem zfLaw_places_0 : decode cLaw_places 0 = .ok (.aload_n 3, 1) ∧ decode cLaw_places 1 = .ok (.aload_n 0, 1) ∧ decode cLaw_places 2 = .ok (.iload_n 1, 1) ∧ decode cLaw_places 3 = .ok (.iload_n 2, 1) ∧ decode cLaw_places 4 = .ok (.invokevirtual 81, 3) ∧ decode cLaw_places 7 = .ok (.i2l, 1) ∧ decode cLaw_places 8 = .ok (.putfield 13, 3) ∧ decode cLaw_places 11 = .ok (.goto 11, 3) ∧ decode cLaw_places 14 = .ok (.astore 4, 2) ∧ decode cLaw_places 16 = .ok (.iconst 1, 1) ∧ decode cLaw_places 17 = .ok (.ireturn, 1) ∧ decode cLaw_places 18 = .ok (.astore 4, 2) ∧ decode cLaw_places 20 = .ok (.iconst 2, 1) ∧ decode cLaw_places 21 = .ok (.ireturn, 1) ∧ decode cLaw_places 22 = .ok (.iconst 0, 1) ∧ decode cLaw_places 23 = .ok (.ireturn, 1) ∧ True := Jvm.Free.DS.facts (code := cLaw_places) 0 [(.aload_n 3, 1), (.aload_n 0, 1), (.iload_n 1, 1), (.iload_n 2, 1), (.invokevirtual 81, 3), (.i2l, 1), (.putfield 13, 3), (.goto 11, 3), (.astore 4, 2), (.iconst 1, 1), (.ireturn, 1), (.astore 4, 2), (.iconst 2, 1), (.ireturn, 1), (.iconst 0, 1), (.ireturn, 1)] (by decide +kernel) (by decide +kernel)
theorem dLaw_places_0 : decode cLaw_places 0 = .ok (.aload_n 3, 1) := zfLaw_places_0.1
theorem dLaw_places_1 : decode cLaw_places 1 = .ok (.aload_n 0, 1) := zfLaw_places_0.2.1
theorem dLaw_places_2 : decode cLaw_places 2 = .ok (.iload_n 1, 1) := zfLaw_places_0.2.2.1
theorem dLaw_places_3 : decode cLaw_places 3 = .ok (.iload_n 2, 1) := zfLaw_places_0.2.2.2.1
theorem dLaw_places_4 : decode cLaw_places 4 = .ok (.invokevirtual 81, 3) := zfLaw_places_0.2.2.2.2.1
theorem dLaw_places_7 : decode cLaw_places 7 = .ok (.i2l, 1) := zfLaw_places_0.2.2.2.2.2.1
theorem dLaw_places_8 : decode cLaw_places 8 = .ok (.putfield 13, 3) := zfLaw_places_0.2.2.2.2.2.2.1
theorem dLaw_places_11 : decode cLaw_places 11 = .ok (.goto 11, 3) := zfLaw_places_0.2.2.2.2.2.2.2.1
theorem dLaw_places_14 : decode cLaw_places 14 = .ok (.astore 4, 2) := zfLaw_places_0.2.2.2.2.2.2.2.2.1
theorem dLaw_places_16 : decode cLaw_places 16 = .ok (.iconst 1, 1) := zfLaw_places_0.2.2.2.2.2.2.2.2.2.1
theorem dLaw_places_17 : decode cLaw_places 17 = .ok (.ireturn, 1) := zfLaw_places_0.2.2.2.2.2.2.2.2.2.2.1
theorem dLaw_places_18 : decode cLaw_places 18 = .ok (.astore 4, 2) := zfLaw_places_0.2.2.2.2.2.2.2.2.2.2.2.1
theorem dLaw_places_20 : decode cLaw_places 20 = .ok (.iconst 2, 1) := zfLaw_places_0.2.2.2.2.2.2.2.2.2.2.2.2.1
theorem dLaw_places_21 : decode cLaw_places 21 = .ok (.ireturn, 1) := zfLaw_places_0.2.2.2.2.2.2.2.2.2.2.2.2.2.1
theorem dLaw_places_22 : decode cLaw_places 22 = .ok (.iconst 0, 1) := zfLaw_places_0.2.2.2.2.2.2.2.2.2.2.2.2.2.2.1
theorem dLaw_places_23 : decode cLaw_places 23 = .ok (.ireturn, 1) := zfLaw_places_0.2.2.2.2.2.2.2.2.2.2.2.2.2.2.2.1
theorem zfLaw_rotate_0 : decode cLaw_rotate 0 = .ok (.aload_n 3, 1) ∧ decode cLaw_rotate 1 = .ok (.aload_n 0, 1) ∧ decode cLaw_rotate 2 = .ok (.iload_n 1, 1) ∧ decode cLaw_rotate 3 = .ok (.iload_n 2, 1) ∧ decode cLaw_rotate 4 = .ok (.invokevirtual 84, 3) ∧ decode cLaw_rotate 7 = .ok (.i2l, 1) ∧ decode cLaw_rotate 8 = .ok (.putfield 13, 3) ∧ decode cLaw_rotate 11 = .ok (.goto 11, 3) ∧ decode cLaw_rotate 14 = .ok (.astore 4, 2) ∧ decode cLaw_rotate 16 = .ok (.iconst 1, 1) ∧ decode cLaw_rotate 17 = .ok (.ireturn, 1) ∧ decode cLaw_rotate 18 = .ok (.astore 4, 2) ∧ decode cLaw_rotate 20 = .ok (.iconst 2, 1) ∧ decode cLaw_rotate 21 = .ok (.ireturn, 1) ∧ decode cLaw_rotate 22 = .ok (.iconst 0, 1) ∧ decode cLaw_rotate 23 = .ok (.ireturn, 1) ∧ True := Jvm.Free.DS.facts (code := cLaw_rotate) 0 [(.aload_n 3, 1), (.aload_n 0, 1), (.iload_n 1, 1), (.iload_n 2, 1), (.invokevirtual 84, 3), (.i2l, 1), (.putfield 13, 3), (.goto 11, 3), (.astore 4, 2), (.iconst 1, 1), (.ireturn, 1), (.astore 4, 2), (.iconst 2, 1), (.ireturn, 1), (.iconst 0, 1), (.ireturn, 1)] (by decide +kernel) (by decide +kernel)
theorem dLaw_rotate_0 : decode cLaw_rotate 0 = .ok (.aload_n 3, 1) := zfLaw_rotate_0.1
theorem dLaw_rotate_1 : decode cLaw_rotate 1 = .ok (.aload_n 0, 1) := zfLaw_rotate_0.2.1
theorem dLaw_rotate_2 : decode cLaw_rotate 2 = .ok (.iload_n 1, 1) := zfLaw_rotate_0.2.2.1
theorem dLaw_rotate_3 : decode cLaw_rotate 3 = .ok (.iload_n 2, 1) := zfLaw_rotate_0.2.2.2.1
theorem dLaw_rotate_4 : decode cLaw_rotate 4 = .ok (.invokevirtual 84, 3) := zfLaw_rotate_0.2.2.2.2.1
theorem dLaw_rotate_7 : decode cLaw_rotate 7 = .ok (.i2l, 1) := zfLaw_rotate_0.2.2.2.2.2.1
theorem dLaw_rotate_8 : decode cLaw_rotate 8 = .ok (.putfield 13, 3) := zfLaw_rotate_0.2.2.2.2.2.2.1
theorem dLaw_rotate_11 : decode cLaw_rotate 11 = .ok (.goto 11, 3) := zfLaw_rotate_0.2.2.2.2.2.2.2.1
theorem dLaw_rotate_14 : decode cLaw_rotate 14 = .ok (.astore 4, 2) := zfLaw_rotate_0.2.2.2.2.2.2.2.2.1
theorem dLaw_rotate_16 : decode cLaw_rotate 16 = .ok (.iconst 1, 1) := zfLaw_rotate_0.2.2.2.2.2.2.2.2.2.1
theorem dLaw_rotate_17 : decode cLaw_rotate 17 = .ok (.ireturn, 1) := zfLaw_rotate_0.2.2.2.2.2.2.2.2.2.2.1
theorem dLaw_rotate_18 : decode cLaw_rotate 18 = .ok (.astore 4, 2) := zfLaw_rotate_0.2.2.2.2.2.2.2.2.2.2.2.1
theorem dLaw_rotate_20 : decode cLaw_rotate 20 = .ok (.iconst 2, 1) := zfLaw_rotate_0.2.2.2.2.2.2.2.2.2.2.2.2.1
theorem dLaw_rotate_21 : decode cLaw_rotate 21 = .ok (.ireturn, 1) := zfLaw_rotate_0.2.2.2.2.2.2.2.2.2.2.2.2.2.1
theorem dLaw_rotate_22 : decode cLaw_rotate 22 = .ok (.iconst 0, 1) := zfLaw_rotate_0.2.2.2.2.2.2.2.2.2.2.2.2.2.2.1
theorem dLaw_rotate_23 : decode cLaw_rotate 23 = .ok (.ireturn, 1) := zfLaw_rotate_0.2.2.2.2.2.2.2.2.2.2.2.2.2.2.2.1
theorem zfLaw_move_0 : decode cLaw_move 0 = .ok (.aload 4, 2) ∧ decode cLaw_move 2 = .ok (.aload_n 0, 1) ∧ decode cLaw_move 3 = .ok (.iload_n 1, 1) ∧ decode cLaw_move 4 = .ok (.iload_n 2, 1) ∧ decode cLaw_move 5 = .ok (.iload_n 3, 1) ∧ decode cLaw_move 6 = .ok (.invokevirtual 87, 3) ∧ decode cLaw_move 9 = .ok (.i2l, 1) ∧ decode cLaw_move 10 = .ok (.putfield 13, 3) ∧ decode cLaw_move 13 = .ok (.goto 7, 3) ∧ decode cLaw_move 16 = .ok (.astore 5, 2) ∧ decode cLaw_move 18 = .ok (.iconst 1, 1) ∧ decode cLaw_move 19 = .ok (.ireturn, 1) ∧ decode cLaw_move 20 = .ok (.iconst 0, 1) ∧ decode cLaw_move 21 = .ok (.ireturn, 1) ∧ True := Jvm.Free.DS.facts (code := cLaw_move) 0 [(.aload 4, 2), (.aload_n 0, 1), (.iload_n 1, 1), (.iload_n 2, 1), (.iload_n 3, 1), (.invokevirtual 87, 3), (.i2l, 1), (.putfield 13, 3), (.goto 7, 3), (.astore 5, 2), (.iconst 1, 1), (.ireturn, 1), (.iconst 0, 1), (.ireturn, 1)] (by decide +kernel) (by decide +kernel)
theorem dLaw_move_0 : decode cLaw_move 0 = .ok (.aload 4, 2) := zfLaw_move_0.1
theorem dLaw_move_2 : decode cLaw_move 2 = .ok (.aload_n 0, 1) := zfLaw_move_0.2.1
theorem dLaw_move_3 : decode cLaw_move 3 = .ok (.iload_n 1, 1) := zfLaw_move_0.2.2.1
theorem dLaw_move_4 : decode cLaw_move 4 = .ok (.iload_n 2, 1) := zfLaw_move_0.2.2.2.1
theorem dLaw_move_5 : decode cLaw_move 5 = .ok (.iload_n 3, 1) := zfLaw_move_0.2.2.2.2.1
theorem dLaw_move_6 : decode cLaw_move 6 = .ok (.invokevirtual 87, 3) := zfLaw_move_0.2.2.2.2.2.1
theorem dLaw_move_9 : decode cLaw_move 9 = .ok (.i2l, 1) := zfLaw_move_0.2.2.2.2.2.2.1
theorem dLaw_move_10 : decode cLaw_move 10 = .ok (.putfield 13, 3) := zfLaw_move_0.2.2.2.2.2.2.2.1
theorem dLaw_move_13 : decode cLaw_move 13 = .ok (.goto 7, 3) := zfLaw_move_0.2.2.2.2.2.2.2.2.1
theorem dLaw_move_16 : decode cLaw_move 16 = .ok (.astore 5, 2) := zfLaw_move_0.2.2.2.2.2.2.2.2.2.1
theorem dLaw_move_18 : decode cLaw_move 18 = .ok (.iconst 1, 1) := zfLaw_move_0.2.2.2.2.2.2.2.2.2.2.1
theorem dLaw_move_19 : decode cLaw_move 19 = .ok (.ireturn, 1) := zfLaw_move_0.2.2.2.2.2.2.2.2.2.2.2.1
theorem dLaw_move_20 : decode cLaw_move 20 = .ok (.iconst 0, 1) := zfLaw_move_0.2.2.2.2.2.2.2.2.2.2.2.2.1
theorem dLaw_move_21 : decode cLaw_move 21 = .ok (.ireturn, 1) := zfLaw_move_0.2.2.2.2.2.2.2.2.2.2.2.2.2.1
theorem zfLaw_swap_0 : decode cLaw_swap 0 = .ok (.aload 4, 2) ∧ decode cLaw_swap 2 = .ok (.aload_n 0, 1) ∧ decode cLaw_swap 3 = .ok (.iload_n 1, 1) ∧ decode cLaw_swap 4 = .ok (.iload_n 2, 1) ∧ decode cLaw_swap 5 = .ok (.iload_n 3, 1) ∧ decode cLaw_swap 6 = .ok (.invokevirtual 90, 3) ∧ decode cLaw_swap 9 = .ok (.i2l, 1) ∧ decode cLaw_swap 10 = .ok (.putfield 13, 3) ∧ decode cLaw_swap 13 = .ok (.goto 7, 3) ∧ decode cLaw_swap 16 = .ok (.astore 5, 2) ∧ decode cLaw_swap 18 = .ok (.iconst 1, 1) ∧ decode cLaw_swap 19 = .ok (.ireturn, 1) ∧ decode cLaw_swap 20 = .ok (.iconst 0, 1) ∧ decode cLaw_swap 21 = .ok (.ireturn, 1) ∧ True := Jvm.Free.DS.facts (code := cLaw_swap) 0 [(.aload 4, 2), (.aload_n 0, 1), (.iload_n 1, 1), (.iload_n 2, 1), (.iload_n 3, 1), (.invokevirtual 90, 3), (.i2l, 1), (.putfield 13, 3), (.goto 7, 3), (.astore 5, 2), (.iconst 1, 1), (.ireturn, 1), (.iconst 0, 1), (.ireturn, 1)] (by decide +kernel) (by decide +kernel)
theorem dLaw_swap_0 : decode cLaw_swap 0 = .ok (.aload 4, 2) := zfLaw_swap_0.1
theorem dLaw_swap_2 : decode cLaw_swap 2 = .ok (.aload_n 0, 1) := zfLaw_swap_0.2.1
theorem dLaw_swap_3 : decode cLaw_swap 3 = .ok (.iload_n 1, 1) := zfLaw_swap_0.2.2.1
theorem dLaw_swap_4 : decode cLaw_swap 4 = .ok (.iload_n 2, 1) := zfLaw_swap_0.2.2.2.1
theorem dLaw_swap_5 : decode cLaw_swap 5 = .ok (.iload_n 3, 1) := zfLaw_swap_0.2.2.2.2.1
theorem dLaw_swap_6 : decode cLaw_swap 6 = .ok (.invokevirtual 90, 3) := zfLaw_swap_0.2.2.2.2.2.1
theorem dLaw_swap_9 : decode cLaw_swap 9 = .ok (.i2l, 1) := zfLaw_swap_0.2.2.2.2.2.2.1
theorem dLaw_swap_10 : decode cLaw_swap 10 = .ok (.putfield 13, 3) := zfLaw_swap_0.2.2.2.2.2.2.2.1
theorem dLaw_swap_13 : decode cLaw_swap 13 = .ok (.goto 7, 3) := zfLaw_swap_0.2.2.2.2.2.2.2.2.1
theorem dLaw_swap_16 : decode cLaw_swap 16 = .ok (.astore 5, 2) := zfLaw_swap_0.2.2.2.2.2.2.2.2.2.1
theorem dLaw_swap_18 : decode cLaw_swap 18 = .ok (.iconst 1, 1) := zfLaw_swap_0.2.2.2.2.2.2.2.2.2.2.1
theorem dLaw_swap_19 : decode cLaw_swap 19 = .ok (.ireturn, 1) := zfLaw_swap_0.2.2.2.2.2.2.2.2.2.2.2.1
theorem dLaw_swap_20 : decode cLaw_swap 20 = .ok (.iconst 0, 1) := zfLaw_swap_0.2.2.2.2.2.2.2.2.2.2.2.2.1
theorem dLaw_swap_21 : decode cLaw_swap 21 = .ok (.ireturn, 1) := zfLaw_swap_0.2.2.2.2.2.2.2.2.2.2.2.2.2.1
theorem zfLaw_reverse_0 : decode cLaw_reverse 0 = .ok (.aload_n 2, 1) ∧ decode cLaw_reverse 1 = .ok (.aload_n 0, 1) ∧ decode cLaw_reverse 2 = .ok (.iload_n 1, 1) ∧ decode cLaw_reverse 3 = .ok (.invokevirtual 93, 3) ∧ decode cLaw_reverse 6 = .ok (.i2l, 1) ∧ decode cLaw_reverse 7 = .ok (.putfield 13, 3) ∧ decode cLaw_reverse 10 = .ok (.goto 6, 3) ∧ decode cLaw_reverse 13 = .ok (.astore_n 3, 1) ∧ decode cLaw_reverse 14 = .ok (.iconst 1, 1) ∧ decode cLaw_reverse 15 = .ok (.ireturn, 1) ∧ decode cLaw_reverse 16 = .ok (.iconst 0, 1) ∧ decode cLaw_reverse 17 = .ok (.ireturn, 1) ∧ True := Jvm.Free.DS.facts (code := cLaw_reverse) 0 [(.aload_n 2, 1), (.aload_n 0, 1), (.iload_n 1, 1), (.invokevirtual 93, 3), (.i2l, 1), (.putfield 13, 3), (.goto 6, 3), (.astore_n 3, 1), (.iconst 1, 1), (.ireturn, 1), (.iconst 0, 1), (.ireturn, 1)] (by decide +kernel) (by decide +kernel)
theorem dLaw_reverse_0 : decode cLaw_reverse 0 = .ok (.aload_n 2, 1) := zfLaw_reverse_0.1
theorem dLaw_reverse_1 : decode cLaw_reverse 1 = .ok (.aload_n 0, 1) := zfLaw_reverse_0.2.1
theorem dLaw_reverse_2 : decode cLaw_reverse 2 = .ok (.iload_n 1, 1) := zfLaw_reverse_0.2.2.1
theorem dLaw_reverse_3 : decode cLaw_reverse 3 = .ok (.invokevirtual 93, 3) := zfLaw_reverse_0.2.2.2.1
theorem dLaw_reverse_6 : decode cLaw_reverse 6 = .ok (.i2l, 1) := zfLaw_reverse_0.2.2.2.2.1
theorem dLaw_reverse_7 : decode cLaw_reverse 7 = .ok (.putfield 13, 3) := zfLaw_reverse_0.2.2.2.2.2.1
theorem dLaw_reverse_10 : decode cLaw_reverse 10 = .ok (.goto 6, 3) := zfLaw_reverse_0.2.2.2.2.2.2.1
theorem dLaw_reverse_13 : decode cLaw_reverse 13 = .ok (.astore_n 3, 1) := zfLaw_reverse_0.2.2.2.2.2.2.2.1
theorem dLaw_reverse_14 : decode cLaw_reverse 14 = .ok (.iconst 1, 1) := zfLaw_reverse_0.2.2.2.2.2.2.2.2.1
theorem dLaw_reverse_15 : decode cLaw_reverse 15 = .ok (.ireturn, 1) := zfLaw_reverse_0.2.2.2.2.2.2.2.2.2.1
theorem dLaw_reverse_16 : decode cLaw_reverse 16 = .ok (.iconst 0, 1) := zfLaw_reverse_0.2.2.2.2.2.2.2.2.2.2.1
theorem dLaw_reverse_17 : decode cLaw_reverse 17 = .ok (.ireturn, 1) := zfLaw_reverse_0.2.2.2.2.2.2.2.2.2.2.2.1
theorem zfLaw_through_0 : decode cLaw_through 0 = .ok (.aload 4, 2) ∧ decode cLaw_through 2 = .ok (.aload_n 0, 1) ∧ decode cLaw_through 3 = .ok (.iload_n 1, 1) ∧ decode cLaw_through 4 = .ok (.iload_n 2, 1) ∧ decode cLaw_through 5 = .ok (.iload_n 3, 1) ∧ decode cLaw_through 6 = .ok (.invokevirtual 96, 3) ∧ decode cLaw_through 9 = .ok (.i2l, 1) ∧ decode cLaw_through 10 = .ok (.putfield 13, 3) ∧ decode cLaw_through 13 = .ok (.goto 7, 3) ∧ decode cLaw_through 16 = .ok (.astore 5, 2) ∧ decode cLaw_through 18 = .ok (.iconst 1, 1) ∧ decode cLaw_through 19 = .ok (.ireturn, 1) ∧ decode cLaw_through 20 = .ok (.iconst 0, 1) ∧ decode cLaw_through 21 = .ok (.ireturn, 1) ∧ True := Jvm.Free.DS.facts (code := cLaw_through) 0 [(.aload 4, 2), (.aload_n 0, 1), (.iload_n 1, 1), (.iload_n 2, 1), (.iload_n 3, 1), (.invokevirtual 96, 3), (.i2l, 1), (.putfield 13, 3), (.goto 7, 3), (.astore 5, 2), (.iconst 1, 1), (.ireturn, 1), (.iconst 0, 1), (.ireturn, 1)] (by decide +kernel) (by decide +kernel)
theorem dLaw_through_0 : decode cLaw_through 0 = .ok (.aload 4, 2) := zfLaw_through_0.1
theorem dLaw_through_2 : decode cLaw_through 2 = .ok (.aload_n 0, 1) := zfLaw_through_0.2.1
theorem dLaw_through_3 : decode cLaw_through 3 = .ok (.iload_n 1, 1) := zfLaw_through_0.2.2.1
theorem dLaw_through_4 : decode cLaw_through 4 = .ok (.iload_n 2, 1) := zfLaw_through_0.2.2.2.1
theorem dLaw_through_5 : decode cLaw_through 5 = .ok (.iload_n 3, 1) := zfLaw_through_0.2.2.2.2.1
theorem dLaw_through_6 : decode cLaw_through 6 = .ok (.invokevirtual 96, 3) := zfLaw_through_0.2.2.2.2.2.1
theorem dLaw_through_9 : decode cLaw_through 9 = .ok (.i2l, 1) := zfLaw_through_0.2.2.2.2.2.2.1
theorem dLaw_through_10 : decode cLaw_through 10 = .ok (.putfield 13, 3) := zfLaw_through_0.2.2.2.2.2.2.2.1
theorem dLaw_through_13 : decode cLaw_through 13 = .ok (.goto 7, 3) := zfLaw_through_0.2.2.2.2.2.2.2.2.1
theorem dLaw_through_16 : decode cLaw_through 16 = .ok (.astore 5, 2) := zfLaw_through_0.2.2.2.2.2.2.2.2.2.1
theorem dLaw_through_18 : decode cLaw_through 18 = .ok (.iconst 1, 1) := zfLaw_through_0.2.2.2.2.2.2.2.2.2.2.1
theorem dLaw_through_19 : decode cLaw_through 19 = .ok (.ireturn, 1) := zfLaw_through_0.2.2.2.2.2.2.2.2.2.2.2.1
theorem dLaw_through_20 : decode cLaw_through 20 = .ok (.iconst 0, 1) := zfLaw_through_0.2.2.2.2.2.2.2.2.2.2.2.2.1
theorem dLaw_through_21 : decode cLaw_through 21 = .ok (.ireturn, 1) := zfLaw_through_0.2.2.2.2.2.2.2.2.2.2.2.2.2.1
theorem zfLaw_areSame_0 : decode cLaw_areSame 0 = .ok (.aload_n 3, 1) ∧ decode cLaw_areSame 1 = .ok (.aload_n 0, 1) ∧ decode cLaw_areSame 2 = .ok (.iload_n 1, 1) ∧ decode cLaw_areSame 3 = .ok (.iload_n 2, 1) ∧ decode cLaw_areSame 4 = .ok (.invokevirtual 99, 3) ∧ decode cLaw_areSame 7 = .ok (.ifCond .eq 7, 3) ∧ decode cLaw_areSame 10 = .ok (.lconst 1, 1) ∧ decode cLaw_areSame 11 = .ok (.goto 4, 3) ∧ decode cLaw_areSame 14 = .ok (.lconst 0, 1) ∧ decode cLaw_areSame 15 = .ok (.putfield 13, 3) ∧ decode cLaw_areSame 18 = .ok (.goto 7, 3) ∧ decode cLaw_areSame 21 = .ok (.astore 4, 2) ∧ decode cLaw_areSame 23 = .ok (.iconst 1, 1) ∧ decode cLaw_areSame 24 = .ok (.ireturn, 1) ∧ decode cLaw_areSame 25 = .ok (.iconst 0, 1) ∧ decode cLaw_areSame 26 = .ok (.ireturn, 1) ∧ True := Jvm.Free.DS.facts (code := cLaw_areSame) 0 [(.aload_n 3, 1), (.aload_n 0, 1), (.iload_n 1, 1), (.iload_n 2, 1), (.invokevirtual 99, 3), (.ifCond .eq 7, 3), (.lconst 1, 1), (.goto 4, 3), (.lconst 0, 1), (.putfield 13, 3), (.goto 7, 3), (.astore 4, 2), (.iconst 1, 1), (.ireturn, 1), (.iconst 0, 1), (.ireturn, 1)] (by decide +kernel) (by decide +kernel)
theorem dLaw_areSame_0 : decode cLaw_areSame 0 = .ok (.aload_n 3, 1) := zfLaw_areSame_0.1
theorem dLaw_areSame_1 : decode cLaw_areSame 1 = .ok (.aload_n 0, 1) := zfLaw_areSame_0.2.1
theorem dLaw_areSame_2 : decode cLaw_areSame 2 = .ok (.iload_n 1, 1) := zfLaw_areSame_0.2.2.1
theorem dLaw_areSame_3 : decode cLaw_areSame 3 = .ok (.iload_n 2, 1) := zfLaw_areSame_0.2.2.2.1
theorem dLaw_areSame_4 : decode cLaw_areSame 4 = .ok (.invokevirtual 99, 3) := zfLaw_areSame_0.2.2.2.2.1
theorem dLaw_areSame_7 : decode cLaw_areSame 7 = .ok (.ifCond .eq 7, 3) := zfLaw_areSame_0.2.2.2.2.2.1
theorem dLaw_areSame_10 : decode cLaw_areSame 10 = .ok (.lconst 1, 1) := zfLaw_areSame_0.2.2.2.2.2.2.1
theorem dLaw_areSame_11 : decode cLaw_areSame 11 = .ok (.goto 4, 3) := zfLaw_areSame_0.2.2.2.2.2.2.2.1
theorem dLaw_areSame_14 : decode cLaw_areSame 14 = .ok (.lconst 0, 1) := zfLaw_areSame_0.2.2.2.2.2.2.2.2.1
theorem dLaw_areSame_15 : decode cLaw_areSame 15 = .ok (.putfield 13, 3) := zfLaw_areSame_0.2.2.2.2.2.2.2.2.2.1
theorem dLaw_areSame_18 : decode cLaw_areSame 18 = .ok (.goto 7, 3) := zfLaw_areSame_0.2.2.2.2.2.2.2.2.2.2.1
theorem dLaw_areSame_21 : decode cLaw_areSame 21 = .ok (.astore 4, 2) := zfLaw_areSame_0.2.2.2.2.2.2.2.2.2.2.2.1
theorem dLaw_areSame_23 : decode cLaw_areSame 23 = .ok (.iconst 1, 1) := zfLaw_areSame_0.2.2.2.2.2.2.2.2.2.2.2.2.1
theorem dLaw_areSame_24 : decode cLaw_areSame 24 = .ok (.ireturn, 1) := zfLaw_areSame_0.2.2.2.2.2.2.2.2.2.2.2.2.2.1
theorem dLaw_areSame_25 : decode cLaw_areSame 25 = .ok (.iconst 0, 1) := zfLaw_areSame_0.2.2.2.2.2.2.2.2.2.2.2.2.2.2.1
theorem dLaw_areSame_26 : decode cLaw_areSame 26 = .ok (.ireturn, 1) := zfLaw_areSame_0.2.2.2.2.2.2.2.2.2.2.2.2.2.2.2.1
theorem zfLaw_isMirror_0 : decode cLaw_isMirror 0 = .ok (.aload_n 2, 1) ∧ decode cLaw_isMirror 1 = .ok (.aload_n 0, 1) ∧ decode cLaw_isMirror 2 = .ok (.iload_n 1, 1) ∧ decode cLaw_isMirror 3 = .ok (.invokevirtual 102, 3) ∧ decode cLaw_isMirror 6 = .ok (.ifCond .eq 7, 3) ∧ decode cLaw_isMirror 9 = .ok (.lconst 1, 1) ∧ decode cLaw_isMirror 10 = .ok (.goto 4, 3) ∧ decode cLaw_isMirror 13 = .ok (.lconst 0, 1) ∧ decode cLaw_isMirror 14 = .ok (.putfield 13, 3) ∧ decode cLaw_isMirror 17 = .ok (.goto 6, 3) ∧ decode cLaw_isMirror 20 = .ok (.astore_n 3, 1) ∧ decode cLaw_isMirror 21 = .ok (.iconst 1, 1) ∧ decode cLaw_isMirror 22 = .ok (.ireturn, 1) ∧ decode cLaw_isMirror 23 = .ok (.iconst 0, 1) ∧ decode cLaw_isMirror 24 = .ok (.ireturn, 1) ∧ True := Jvm.Free.DS.facts (code := cLaw_isMirror) 0 [(.aload_n 2, 1), (.aload_n 0, 1), (.iload_n 1, 1), (.invokevirtual 102, 3), (.ifCond .eq 7, 3), (.lconst 1, 1), (.goto 4, 3), (.lconst 0, 1), (.putfield 13, 3), (.goto 6, 3), (.astore_n 3, 1), (.iconst 1, 1), (.ireturn, 1), (.iconst 0, 1), (.ireturn, 1)] (by decide +kernel) (by decide +kernel)
theorem dLaw_isMirror_0 : decode cLaw_isMirror 0 = .ok (.aload_n 2, 1) := zfLaw_isMirror_0.1
theorem dLaw_isMirror_1 : decode cLaw_isMirror 1 = .ok (.aload_n 0, 1) := zfLaw_isMirror_0.2.1
theorem dLaw_isMirror_2 : decode cLaw_isMirror 2 = .ok (.iload_n 1, 1) := zfLaw_isMirror_0.2.2.1
theorem dLaw_isMirror_3 : decode cLaw_isMirror 3 = .ok (.invokevirtual 102, 3) := zfLaw_isMirror_0.2.2.2.1
theorem dLaw_isMirror_6 : decode cLaw_isMirror 6 = .ok (.ifCond .eq 7, 3) := zfLaw_isMirror_0.2.2.2.2.1
theorem dLaw_isMirror_9 : decode cLaw_isMirror 9 = .ok (.lconst 1, 1) := zfLaw_isMirror_0.2.2.2.2.2.1
theorem dLaw_isMirror_10 : decode cLaw_isMirror 10 = .ok (.goto 4, 3) := zfLaw_isMirror_0.2.2.2.2.2.2.1
theorem dLaw_isMirror_13 : decode cLaw_isMirror 13 = .ok (.lconst 0, 1) := zfLaw_isMirror_0.2.2.2.2.2.2.2.1
theorem dLaw_isMirror_14 : decode cLaw_isMirror 14 = .ok (.putfield 13, 3) := zfLaw_isMirror_0.2.2.2.2.2.2.2.2.1
theorem dLaw_isMirror_17 : decode cLaw_isMirror 17 = .ok (.goto 6, 3) := zfLaw_isMirror_0.2.2.2.2.2.2.2.2.2.1
theorem dLaw_isMirror_20 : decode cLaw_isMirror 20 = .ok (.astore_n 3, 1) := zfLaw_isMirror_0.2.2.2.2.2.2.2.2.2.2.1
theorem dLaw_isMirror_21 : decode cLaw_isMirror 21 = .ok (.iconst 1, 1) := zfLaw_isMirror_0.2.2.2.2.2.2.2.2.2.2.2.1
theorem dLaw_isMirror_22 : decode cLaw_isMirror 22 = .ok (.ireturn, 1) := zfLaw_isMirror_0.2.2.2.2.2.2.2.2.2.2.2.2.1
theorem dLaw_isMirror_23 : decode cLaw_isMirror 23 = .ok (.iconst 0, 1) := zfLaw_isMirror_0.2.2.2.2.2.2.2.2.2.2.2.2.2.1
theorem dLaw_isMirror_24 : decode cLaw_isMirror 24 = .ok (.ireturn, 1) := zfLaw_isMirror_0.2.2.2.2.2.2.2.2.2.2.2.2.2.2.1
theorem zfLaw_open_0 : decode cLaw_open 0 = .ok (.aload 4, 2) ∧ decode cLaw_open 2 = .ok (.aload_n 0, 1) ∧ decode cLaw_open 3 = .ok (.iload_n 1, 1) ∧ decode cLaw_open 4 = .ok (.iload_n 2, 1) ∧ decode cLaw_open 5 = .ok (.iload_n 3, 1) ∧ decode cLaw_open 6 = .ok (.invokevirtual 106, 3) ∧ decode cLaw_open 9 = .ok (.i2l, 1) ∧ decode cLaw_open 10 = .ok (.putfield 13, 3) ∧ decode cLaw_open 13 = .ok (.goto 7, 3) ∧ decode cLaw_open 16 = .ok (.astore 5, 2) ∧ decode cLaw_open 18 = .ok (.iconst 1, 1) ∧ decode cLaw_open 19 = .ok (.ireturn, 1) ∧ decode cLaw_open 20 = .ok (.iconst 0, 1) ∧ decode cLaw_open 21 = .ok (.ireturn, 1) ∧ True := Jvm.Free.DS.facts (code := cLaw_open) 0 [(.aload 4, 2), (.aload_n 0, 1), (.iload_n 1, 1), (.iload_n 2, 1), (.iload_n 3, 1), (.invokevirtual 106, 3), (.i2l, 1), (.putfield 13, 3), (.goto 7, 3), (.astore 5, 2), (.iconst 1, 1), (.ireturn, 1), (.iconst 0, 1), (.ireturn, 1)] (by decide +kernel) (by decide +kernel)
theorem dLaw_open_0 : decode cLaw_open 0 = .ok (.aload 4, 2) := zfLaw_open_0.1
theorem dLaw_open_2 : decode cLaw_open 2 = .ok (.aload_n 0, 1) := zfLaw_open_0.2.1
theorem dLaw_open_3 : decode cLaw_open 3 = .ok (.iload_n 1, 1) := zfLaw_open_0.2.2.1
theorem dLaw_open_4 : decode cLaw_open 4 = .ok (.iload_n 2, 1) := zfLaw_open_0.2.2.2.1
theorem dLaw_open_5 : decode cLaw_open 5 = .ok (.iload_n 3, 1) := zfLaw_open_0.2.2.2.2.1
theorem dLaw_open_6 : decode cLaw_open 6 = .ok (.invokevirtual 106, 3) := zfLaw_open_0.2.2.2.2.2.1
theorem dLaw_open_9 : decode cLaw_open 9 = .ok (.i2l, 1) := zfLaw_open_0.2.2.2.2.2.2.1
theorem dLaw_open_10 : decode cLaw_open 10 = .ok (.putfield 13, 3) := zfLaw_open_0.2.2.2.2.2.2.2.1
theorem dLaw_open_13 : decode cLaw_open 13 = .ok (.goto 7, 3) := zfLaw_open_0.2.2.2.2.2.2.2.2.1
theorem dLaw_open_16 : decode cLaw_open 16 = .ok (.astore 5, 2) := zfLaw_open_0.2.2.2.2.2.2.2.2.2.1
theorem dLaw_open_18 : decode cLaw_open 18 = .ok (.iconst 1, 1) := zfLaw_open_0.2.2.2.2.2.2.2.2.2.2.1
theorem dLaw_open_19 : decode cLaw_open 19 = .ok (.ireturn, 1) := zfLaw_open_0.2.2.2.2.2.2.2.2.2.2.2.1
theorem dLaw_open_20 : decode cLaw_open 20 = .ok (.iconst 0, 1) := zfLaw_open_0.2.2.2.2.2.2.2.2.2.2.2.2.1
theorem dLaw_open_21 : decode cLaw_open 21 = .ok (.ireturn, 1) := zfLaw_open_0.2.2.2.2.2.2.2.2.2.2.2.2.2.1
theorem zfLaw_shut_0 : decode cLaw_shut 0 = .ok (.aload_n 2, 1) ∧ decode cLaw_shut 1 = .ok (.aload_n 0, 1) ∧ decode cLaw_shut 2 = .ok (.iload_n 1, 1) ∧ decode cLaw_shut 3 = .ok (.invokevirtual 109, 3) ∧ decode cLaw_shut 6 = .ok (.ifCond .eq 7, 3) ∧ decode cLaw_shut 9 = .ok (.lconst 1, 1) ∧ decode cLaw_shut 10 = .ok (.goto 4, 3) ∧ decode cLaw_shut 13 = .ok (.lconst 0, 1) ∧ decode cLaw_shut 14 = .ok (.putfield 13, 3) ∧ decode cLaw_shut 17 = .ok (.goto 6, 3) ∧ decode cLaw_shut 20 = .ok (.astore_n 3, 1) ∧ decode cLaw_shut 21 = .ok (.iconst 1, 1) ∧ decode cLaw_shut 22 = .ok (.ireturn, 1) ∧ decode cLaw_shut 23 = .ok (.iconst 0, 1) ∧ decode cLaw_shut 24 = .ok (.ireturn, 1) ∧ True := Jvm.Free.DS.facts (code := cLaw_shut) 0 [(.aload_n 2, 1), (.aload_n 0, 1), (.iload_n 1, 1), (.invokevirtual 109, 3), (.ifCond .eq 7, 3), (.lconst 1, 1), (.goto 4, 3), (.lconst 0, 1), (.putfield 13, 3), (.goto 6, 3), (.astore_n 3, 1), (.iconst 1, 1), (.ireturn, 1), (.iconst 0, 1), (.ireturn, 1)] (by decide +kernel) (by decide +kernel)
theorem dLaw_shut_0 : decode cLaw_shut 0 = .ok (.aload_n 2, 1) := zfLaw_shut_0.1
theorem dLaw_shut_1 : decode cLaw_shut 1 = .ok (.aload_n 0, 1) := zfLaw_shut_0.2.1
theorem dLaw_shut_2 : decode cLaw_shut 2 = .ok (.iload_n 1, 1) := zfLaw_shut_0.2.2.1
theorem dLaw_shut_3 : decode cLaw_shut 3 = .ok (.invokevirtual 109, 3) := zfLaw_shut_0.2.2.2.1
theorem dLaw_shut_6 : decode cLaw_shut 6 = .ok (.ifCond .eq 7, 3) := zfLaw_shut_0.2.2.2.2.1
theorem dLaw_shut_9 : decode cLaw_shut 9 = .ok (.lconst 1, 1) := zfLaw_shut_0.2.2.2.2.2.1
theorem dLaw_shut_10 : decode cLaw_shut 10 = .ok (.goto 4, 3) := zfLaw_shut_0.2.2.2.2.2.2.1
theorem dLaw_shut_13 : decode cLaw_shut 13 = .ok (.lconst 0, 1) := zfLaw_shut_0.2.2.2.2.2.2.2.1
theorem dLaw_shut_14 : decode cLaw_shut 14 = .ok (.putfield 13, 3) := zfLaw_shut_0.2.2.2.2.2.2.2.2.1
theorem dLaw_shut_17 : decode cLaw_shut 17 = .ok (.goto 6, 3) := zfLaw_shut_0.2.2.2.2.2.2.2.2.2.1
theorem dLaw_shut_20 : decode cLaw_shut 20 = .ok (.astore_n 3, 1) := zfLaw_shut_0.2.2.2.2.2.2.2.2.2.2.1
theorem dLaw_shut_21 : decode cLaw_shut 21 = .ok (.iconst 1, 1) := zfLaw_shut_0.2.2.2.2.2.2.2.2.2.2.2.1
theorem dLaw_shut_22 : decode cLaw_shut 22 = .ok (.ireturn, 1) := zfLaw_shut_0.2.2.2.2.2.2.2.2.2.2.2.2.1
theorem dLaw_shut_23 : decode cLaw_shut 23 = .ok (.iconst 0, 1) := zfLaw_shut_0.2.2.2.2.2.2.2.2.2.2.2.2.2.1
theorem dLaw_shut_24 : decode cLaw_shut 24 = .ok (.ireturn, 1) := zfLaw_shut_0.2.2.2.2.2.2.2.2.2.2.2.2.2.2.1
theorem zfLaw_forth_0 : decode cLaw_forth 0 = .ok (.aload_n 2, 1) ∧ decode cLaw_forth 1 = .ok (.aload_n 0, 1) ∧ decode cLaw_forth 2 = .ok (.iload_n 1, 1) ∧ decode cLaw_forth 3 = .ok (.invokevirtual 112, 3) ∧ decode cLaw_forth 6 = .ok (.i2l, 1) ∧ decode cLaw_forth 7 = .ok (.putfield 13, 3) ∧ decode cLaw_forth 10 = .ok (.goto 9, 3) ∧ decode cLaw_forth 13 = .ok (.astore_n 3, 1) ∧ decode cLaw_forth 14 = .ok (.iconst 1, 1) ∧ decode cLaw_forth 15 = .ok (.ireturn, 1) ∧ decode cLaw_forth 16 = .ok (.astore_n 3, 1) ∧ decode cLaw_forth 17 = .ok (.iconst 2, 1) ∧ decode cLaw_forth 18 = .ok (.ireturn, 1) ∧ decode cLaw_forth 19 = .ok (.iconst 0, 1) ∧ decode cLaw_forth 20 = .ok (.ireturn, 1) ∧ True := Jvm.Free.DS.facts (code := cLaw_forth) 0 [(.aload_n 2, 1), (.aload_n 0, 1), (.iload_n 1, 1), (.invokevirtual 112, 3), (.i2l, 1), (.putfield 13, 3), (.goto 9, 3), (.astore_n 3, 1), (.iconst 1, 1), (.ireturn, 1), (.astore_n 3, 1), (.iconst 2, 1), (.ireturn, 1), (.iconst 0, 1), (.ireturn, 1)] (by decide +kernel) (by decide +kernel)
theorem dLaw_forth_0 : decode cLaw_forth 0 = .ok (.aload_n 2, 1) := zfLaw_forth_0.1
theorem dLaw_forth_1 : decode cLaw_forth 1 = .ok (.aload_n 0, 1) := zfLaw_forth_0.2.1
theorem dLaw_forth_2 : decode cLaw_forth 2 = .ok (.iload_n 1, 1) := zfLaw_forth_0.2.2.1
theorem dLaw_forth_3 : decode cLaw_forth 3 = .ok (.invokevirtual 112, 3) := zfLaw_forth_0.2.2.2.1
theorem dLaw_forth_6 : decode cLaw_forth 6 = .ok (.i2l, 1) := zfLaw_forth_0.2.2.2.2.1
theorem dLaw_forth_7 : decode cLaw_forth 7 = .ok (.putfield 13, 3) := zfLaw_forth_0.2.2.2.2.2.1
theorem dLaw_forth_10 : decode cLaw_forth 10 = .ok (.goto 9, 3) := zfLaw_forth_0.2.2.2.2.2.2.1
theorem dLaw_forth_13 : decode cLaw_forth 13 = .ok (.astore_n 3, 1) := zfLaw_forth_0.2.2.2.2.2.2.2.1
theorem dLaw_forth_14 : decode cLaw_forth 14 = .ok (.iconst 1, 1) := zfLaw_forth_0.2.2.2.2.2.2.2.2.1
theorem dLaw_forth_15 : decode cLaw_forth 15 = .ok (.ireturn, 1) := zfLaw_forth_0.2.2.2.2.2.2.2.2.2.1
theorem dLaw_forth_16 : decode cLaw_forth 16 = .ok (.astore_n 3, 1) := zfLaw_forth_0.2.2.2.2.2.2.2.2.2.2.1
theorem dLaw_forth_17 : decode cLaw_forth 17 = .ok (.iconst 2, 1) := zfLaw_forth_0.2.2.2.2.2.2.2.2.2.2.2.1
theorem dLaw_forth_18 : decode cLaw_forth 18 = .ok (.ireturn, 1) := zfLaw_forth_0.2.2.2.2.2.2.2.2.2.2.2.2.1
theorem dLaw_forth_19 : decode cLaw_forth 19 = .ok (.iconst 0, 1) := zfLaw_forth_0.2.2.2.2.2.2.2.2.2.2.2.2.2.1
theorem dLaw_forth_20 : decode cLaw_forth 20 = .ok (.ireturn, 1) := zfLaw_forth_0.2.2.2.2.2.2.2.2.2.2.2.2.2.2.1
theorem zfLaw_back_0 : decode cLaw_back 0 = .ok (.aload_n 2, 1) ∧ decode cLaw_back 1 = .ok (.aload_n 0, 1) ∧ decode cLaw_back 2 = .ok (.iload_n 1, 1) ∧ decode cLaw_back 3 = .ok (.invokevirtual 117, 3) ∧ decode cLaw_back 6 = .ok (.i2l, 1) ∧ decode cLaw_back 7 = .ok (.putfield 13, 3) ∧ decode cLaw_back 10 = .ok (.goto 9, 3) ∧ decode cLaw_back 13 = .ok (.astore_n 3, 1) ∧ decode cLaw_back 14 = .ok (.iconst 1, 1) ∧ decode cLaw_back 15 = .ok (.ireturn, 1) ∧ decode cLaw_back 16 = .ok (.astore_n 3, 1) ∧ decode cLaw_back 17 = .ok (.iconst 2, 1) ∧ decode cLaw_back 18 = .ok (.ireturn, 1) ∧ decode cLaw_back 19 = .ok (.iconst 0, 1) ∧ decode cLaw_back 20 = .ok (.ireturn, 1) ∧ True := Jvm.Free.DS.facts (code := cLaw_back) 0 [(.aload_n 2, 1), (.aload_n 0, 1), (.iload_n 1, 1), (.invokevirtual 117, 3), (.i2l, 1), (.putfield 13, 3), (.goto 9, 3), (.astore_n 3, 1), (.iconst 1, 1), (.ireturn, 1), (.astore_n 3, 1), (.iconst 2, 1), (.ireturn, 1), (.iconst 0, 1), (.ireturn, 1)] (by decide +kernel) (by decide +kernel)
theorem dLaw_back_0 : decode cLaw_back 0 = .ok (.aload_n 2, 1) := zfLaw_back_0.1
theorem dLaw_back_1 : decode cLaw_back 1 = .ok (.aload_n 0, 1) := zfLaw_back_0.2.1
theorem dLaw_back_2 : decode cLaw_back 2 = .ok (.iload_n 1, 1) := zfLaw_back_0.2.2.1
theorem dLaw_back_3 : decode cLaw_back 3 = .ok (.invokevirtual 117, 3) := zfLaw_back_0.2.2.2.1
theorem dLaw_back_6 : decode cLaw_back 6 = .ok (.i2l, 1) := zfLaw_back_0.2.2.2.2.1
theorem dLaw_back_7 : decode cLaw_back 7 = .ok (.putfield 13, 3) := zfLaw_back_0.2.2.2.2.2.1
theorem dLaw_back_10 : decode cLaw_back 10 = .ok (.goto 9, 3) := zfLaw_back_0.2.2.2.2.2.2.1
theorem dLaw_back_13 : decode cLaw_back 13 = .ok (.astore_n 3, 1) := zfLaw_back_0.2.2.2.2.2.2.2.1
theorem dLaw_back_14 : decode cLaw_back 14 = .ok (.iconst 1, 1) := zfLaw_back_0.2.2.2.2.2.2.2.2.1
theorem dLaw_back_15 : decode cLaw_back 15 = .ok (.ireturn, 1) := zfLaw_back_0.2.2.2.2.2.2.2.2.2.1
theorem dLaw_back_16 : decode cLaw_back 16 = .ok (.astore_n 3, 1) := zfLaw_back_0.2.2.2.2.2.2.2.2.2.2.1
theorem dLaw_back_17 : decode cLaw_back 17 = .ok (.iconst 2, 1) := zfLaw_back_0.2.2.2.2.2.2.2.2.2.2.2.1
theorem dLaw_back_18 : decode cLaw_back 18 = .ok (.ireturn, 1) := zfLaw_back_0.2.2.2.2.2.2.2.2.2.2.2.2.1
theorem dLaw_back_19 : decode cLaw_back 19 = .ok (.iconst 0, 1) := zfLaw_back_0.2.2.2.2.2.2.2.2.2.2.2.2.2.1
theorem dLaw_back_20 : decode cLaw_back 20 = .ok (.ireturn, 1) := zfLaw_back_0.2.2.2.2.2.2.2.2.2.2.2.2.2.2.1
theorem zfLaw_puts_0 : decode cLaw_puts 0 = .ok (.aload_n 3, 1) ∧ decode cLaw_puts 1 = .ok (.aload_n 0, 1) ∧ decode cLaw_puts 2 = .ok (.iload_n 1, 1) ∧ decode cLaw_puts 3 = .ok (.iload_n 2, 1) ∧ decode cLaw_puts 4 = .ok (.invokevirtual 120, 3) ∧ decode cLaw_puts 7 = .ok (.i2l, 1) ∧ decode cLaw_puts 8 = .ok (.putfield 13, 3) ∧ decode cLaw_puts 11 = .ok (.goto 15, 3) ∧ decode cLaw_puts 14 = .ok (.astore 4, 2) ∧ decode cLaw_puts 16 = .ok (.iconst 1, 1) ∧ decode cLaw_puts 17 = .ok (.ireturn, 1) ∧ decode cLaw_puts 18 = .ok (.astore 4, 2) ∧ decode cLaw_puts 20 = .ok (.iconst 2, 1) ∧ decode cLaw_puts 21 = .ok (.ireturn, 1) ∧ decode cLaw_puts 22 = .ok (.astore 4, 2) ∧ decode cLaw_puts 24 = .ok (.iconst 3, 1) ∧ decode cLaw_puts 25 = .ok (.ireturn, 1) ∧ decode cLaw_puts 26 = .ok (.iconst 0, 1) ∧ decode cLaw_puts 27 = .ok (.ireturn, 1) ∧ True := Jvm.Free.DS.facts (code := cLaw_puts) 0 [(.aload_n 3, 1), (.aload_n 0, 1), (.iload_n 1, 1), (.iload_n 2, 1), (.invokevirtual 120, 3), (.i2l, 1), (.putfield 13, 3), (.goto 15, 3), (.astore 4, 2), (.iconst 1, 1), (.ireturn, 1), (.astore 4, 2), (.iconst 2, 1), (.ireturn, 1), (.astore 4, 2), (.iconst 3, 1), (.ireturn, 1), (.iconst 0, 1), (.ireturn, 1)] (by decide +kernel) (by decide +kernel)
theorem dLaw_puts_0 : decode cLaw_puts 0 = .ok (.aload_n 3, 1) := zfLaw_puts_0.1
theorem dLaw_puts_1 : decode cLaw_puts 1 = .ok (.aload_n 0, 1) := zfLaw_puts_0.2.1
theorem dLaw_puts_2 : decode cLaw_puts 2 = .ok (.iload_n 1, 1) := zfLaw_puts_0.2.2.1
theorem dLaw_puts_3 : decode cLaw_puts 3 = .ok (.iload_n 2, 1) := zfLaw_puts_0.2.2.2.1
theorem dLaw_puts_4 : decode cLaw_puts 4 = .ok (.invokevirtual 120, 3) := zfLaw_puts_0.2.2.2.2.1
theorem dLaw_puts_7 : decode cLaw_puts 7 = .ok (.i2l, 1) := zfLaw_puts_0.2.2.2.2.2.1
theorem dLaw_puts_8 : decode cLaw_puts 8 = .ok (.putfield 13, 3) := zfLaw_puts_0.2.2.2.2.2.2.1
theorem dLaw_puts_11 : decode cLaw_puts 11 = .ok (.goto 15, 3) := zfLaw_puts_0.2.2.2.2.2.2.2.1
theorem dLaw_puts_14 : decode cLaw_puts 14 = .ok (.astore 4, 2) := zfLaw_puts_0.2.2.2.2.2.2.2.2.1
theorem dLaw_puts_16 : decode cLaw_puts 16 = .ok (.iconst 1, 1) := zfLaw_puts_0.2.2.2.2.2.2.2.2.2.1
theorem dLaw_puts_17 : decode cLaw_puts 17 = .ok (.ireturn, 1) := zfLaw_puts_0.2.2.2.2.2.2.2.2.2.2.1
theorem dLaw_puts_18 : decode cLaw_puts 18 = .ok (.astore 4, 2) := zfLaw_puts_0.2.2.2.2.2.2.2.2.2.2.2.1
theorem dLaw_puts_20 : decode cLaw_puts 20 = .ok (.iconst 2, 1) := zfLaw_puts_0.2.2.2.2.2.2.2.2.2.2.2.2.1
theorem dLaw_puts_21 : decode cLaw_puts 21 = .ok (.ireturn, 1) := zfLaw_puts_0.2.2.2.2.2.2.2.2.2.2.2.2.2.1
theorem dLaw_puts_22 : decode cLaw_puts 22 = .ok (.astore 4, 2) := zfLaw_puts_0.2.2.2.2.2.2.2.2.2.2.2.2.2.2.1
theorem dLaw_puts_24 : decode cLaw_puts 24 = .ok (.iconst 3, 1) := zfLaw_puts_0.2.2.2.2.2.2.2.2.2.2.2.2.2.2.2.1
theorem dLaw_puts_25 : decode cLaw_puts 25 = .ok (.ireturn, 1) := zfLaw_puts_0.2.2.2.2.2.2.2.2.2.2.2.2.2.2.2.2.1
theorem dLaw_puts_26 : decode cLaw_puts 26 = .ok (.iconst 0, 1) := zfLaw_puts_0.2.2.2.2.2.2.2.2.2.2.2.2.2.2.2.2.2.1
theorem dLaw_puts_27 : decode cLaw_puts 27 = .ok (.ireturn, 1) := zfLaw_puts_0.2.2.2.2.2.2.2.2.2.2.2.2.2.2.2.2.2.2.1
theorem zfLaw_cuts_0 : decode cLaw_cuts 0 = .ok (.aload_n 2, 1) ∧ decode cLaw_cuts 1 = .ok (.aload_n 0, 1) ∧ decode cLaw_cuts 2 = .ok (.iload_n 1, 1) ∧ decode cLaw_cuts 3 = .ok (.invokevirtual 123, 3) ∧ decode cLaw_cuts 6 = .ok (.i2l, 1) ∧ decode cLaw_cuts 7 = .ok (.putfield 13, 3) ∧ decode cLaw_cuts 10 = .ok (.goto 9, 3) ∧ decode cLaw_cuts 13 = .ok (.astore_n 3, 1) ∧ decode cLaw_cuts 14 = .ok (.iconst 1, 1) ∧ decode cLaw_cuts 15 = .ok (.ireturn, 1) ∧ decode cLaw_cuts 16 = .ok (.astore_n 3, 1) ∧ decode cLaw_cuts 17 = .ok (.iconst 2, 1) ∧ decode cLaw_cuts 18 = .ok (.ireturn, 1) ∧ decode cLaw_cuts 19 = .ok (.iconst 0, 1) ∧ decode cLaw_cuts 20 = .ok (.ireturn, 1) ∧ True := Jvm.Free.DS.facts (code := cLaw_cuts) 0 [(.aload_n 2, 1), (.aload_n 0, 1), (.iload_n 1, 1), (.invokevirtual 123, 3), (.i2l, 1), (.putfield 13, 3), (.goto 9, 3), (.astore_n 3, 1), (.iconst 1, 1), (.ireturn, 1), (.astore_n 3, 1), (.iconst 2, 1), (.ireturn, 1), (.iconst 0, 1), (.ireturn, 1)] (by decide +kernel) (by decide +kernel)
theorem dLaw_cuts_0 : decode cLaw_cuts 0 = .ok (.aload_n 2, 1) := zfLaw_cuts_0.1
theorem dLaw_cuts_1 : decode cLaw_cuts 1 = .ok (.aload_n 0, 1) := zfLaw_cuts_0.2.1
theorem dLaw_cuts_2 : decode cLaw_cuts 2 = .ok (.iload_n 1, 1) := zfLaw_cuts_0.2.2.1
theorem dLaw_cuts_3 : decode cLaw_cuts 3 = .ok (.invokevirtual 123, 3) := zfLaw_cuts_0.2.2.2.1
theorem dLaw_cuts_6 : decode cLaw_cuts 6 = .ok (.i2l, 1) := zfLaw_cuts_0.2.2.2.2.1
theorem dLaw_cuts_7 : decode cLaw_cuts 7 = .ok (.putfield 13, 3) := zfLaw_cuts_0.2.2.2.2.2.1
theorem dLaw_cuts_10 : decode cLaw_cuts 10 = .ok (.goto 9, 3) := zfLaw_cuts_0.2.2.2.2.2.2.1
theorem dLaw_cuts_13 : decode cLaw_cuts 13 = .ok (.astore_n 3, 1) := zfLaw_cuts_0.2.2.2.2.2.2.2.1
theorem dLaw_cuts_14 : decode cLaw_cuts 14 = .ok (.iconst 1, 1) := zfLaw_cuts_0.2.2.2.2.2.2.2.2.1
theorem dLaw_cuts_15 : decode cLaw_cuts 15 = .ok (.ireturn, 1) := zfLaw_cuts_0.2.2.2.2.2.2.2.2.2.1
theorem dLaw_cuts_16 : decode cLaw_cuts 16 = .ok (.astore_n 3, 1) := zfLaw_cuts_0.2.2.2.2.2.2.2.2.2.2.1
theorem dLaw_cuts_17 : decode cLaw_cuts 17 = .ok (.iconst 2, 1) := zfLaw_cuts_0.2.2.2.2.2.2.2.2.2.2.2.1
theorem dLaw_cuts_18 : decode cLaw_cuts 18 = .ok (.ireturn, 1) := zfLaw_cuts_0.2.2.2.2.2.2.2.2.2.2.2.2.1
theorem dLaw_cuts_19 : decode cLaw_cuts 19 = .ok (.iconst 0, 1) := zfLaw_cuts_0.2.2.2.2.2.2.2.2.2.2.2.2.2.1
theorem dLaw_cuts_20 : decode cLaw_cuts 20 = .ok (.ireturn, 1) := zfLaw_cuts_0.2.2.2.2.2.2.2.2.2.2.2.2.2.2.1
theorem zfLaw_changes_0 : decode cLaw_changes 0 = .ok (.aload_n 3, 1) ∧ decode cLaw_changes 1 = .ok (.aload_n 0, 1) ∧ decode cLaw_changes 2 = .ok (.iload_n 1, 1) ∧ decode cLaw_changes 3 = .ok (.iload_n 2, 1) ∧ decode cLaw_changes 4 = .ok (.invokevirtual 126, 3) ∧ decode cLaw_changes 7 = .ok (.i2l, 1) ∧ decode cLaw_changes 8 = .ok (.putfield 13, 3) ∧ decode cLaw_changes 11 = .ok (.goto 15, 3) ∧ decode cLaw_changes 14 = .ok (.astore 4, 2) ∧ decode cLaw_changes 16 = .ok (.iconst 1, 1) ∧ decode cLaw_changes 17 = .ok (.ireturn, 1) ∧ decode cLaw_changes 18 = .ok (.astore 4, 2) ∧ decode cLaw_changes 20 = .ok (.iconst 2, 1) ∧ decode cLaw_changes 21 = .ok (.ireturn, 1) ∧ decode cLaw_changes 22 = .ok (.astore 4, 2) ∧ decode cLaw_changes 24 = .ok (.iconst 3, 1) ∧ decode cLaw_changes 25 = .ok (.ireturn, 1) ∧ decode cLaw_changes 26 = .ok (.iconst 0, 1) ∧ decode cLaw_changes 27 = .ok (.ireturn, 1) ∧ True := Jvm.Free.DS.facts (code := cLaw_changes) 0 [(.aload_n 3, 1), (.aload_n 0, 1), (.iload_n 1, 1), (.iload_n 2, 1), (.invokevirtual 126, 3), (.i2l, 1), (.putfield 13, 3), (.goto 15, 3), (.astore 4, 2), (.iconst 1, 1), (.ireturn, 1), (.astore 4, 2), (.iconst 2, 1), (.ireturn, 1), (.astore 4, 2), (.iconst 3, 1), (.ireturn, 1), (.iconst 0, 1), (.ireturn, 1)] (by decide +kernel) (by decide +kernel)
theorem dLaw_changes_0 : decode cLaw_changes 0 = .ok (.aload_n 3, 1) := zfLaw_changes_0.1
theorem dLaw_changes_1 : decode cLaw_changes 1 = .ok (.aload_n 0, 1) := zfLaw_changes_0.2.1
theorem dLaw_changes_2 : decode cLaw_changes 2 = .ok (.iload_n 1, 1) := zfLaw_changes_0.2.2.1
theorem dLaw_changes_3 : decode cLaw_changes 3 = .ok (.iload_n 2, 1) := zfLaw_changes_0.2.2.2.1
theorem dLaw_changes_4 : decode cLaw_changes 4 = .ok (.invokevirtual 126, 3) := zfLaw_changes_0.2.2.2.2.1
theorem dLaw_changes_7 : decode cLaw_changes 7 = .ok (.i2l, 1) := zfLaw_changes_0.2.2.2.2.2.1
theorem dLaw_changes_8 : decode cLaw_changes 8 = .ok (.putfield 13, 3) := zfLaw_changes_0.2.2.2.2.2.2.1
theorem dLaw_changes_11 : decode cLaw_changes 11 = .ok (.goto 15, 3) := zfLaw_changes_0.2.2.2.2.2.2.2.1
theorem dLaw_changes_14 : decode cLaw_changes 14 = .ok (.astore 4, 2) := zfLaw_changes_0.2.2.2.2.2.2.2.2.1
theorem dLaw_changes_16 : decode cLaw_changes 16 = .ok (.iconst 1, 1) := zfLaw_changes_0.2.2.2.2.2.2.2.2.2.1
theorem dLaw_changes_17 : decode cLaw_changes 17 = .ok (.ireturn, 1) := zfLaw_changes_0.2.2.2.2.2.2.2.2.2.2.1
theorem dLaw_changes_18 : decode cLaw_changes 18 = .ok (.astore 4, 2) := zfLaw_changes_0.2.2.2.2.2.2.2.2.2.2.2.1
theorem dLaw_changes_20 : decode cLaw_changes 20 = .ok (.iconst 2, 1) := zfLaw_changes_0.2.2.2.2.2.2.2.2.2.2.2.2.1
theorem dLaw_changes_21 : decode cLaw_changes 21 = .ok (.ireturn, 1) := zfLaw_changes_0.2.2.2.2.2.2.2.2.2.2.2.2.2.1
theorem dLaw_changes_22 : decode cLaw_changes 22 = .ok (.astore 4, 2) := zfLaw_changes_0.2.2.2.2.2.2.2.2.2.2.2.2.2.2.1
theorem dLaw_changes_24 : decode cLaw_changes 24 = .ok (.iconst 3, 1) := zfLaw_changes_0.2.2.2.2.2.2.2.2.2.2.2.2.2.2.2.1
theorem dLaw_changes_25 : decode cLaw_changes 25 = .ok (.ireturn, 1) := zfLaw_changes_0.2.2.2.2.2.2.2.2.2.2.2.2.2.2.2.2.1
theorem dLaw_changes_26 : decode cLaw_changes 26 = .ok (.iconst 0, 1) := zfLaw_changes_0.2.2.2.2.2.2.2.2.2.2.2.2.2.2.2.2.2.1
theorem dLaw_changes_27 : decode cLaw_changes 27 = .ok (.ireturn, 1) := zfLaw_changes_0.2.2.2.2.2.2.2.2.2.2.2.2.2.2.2.2.2.2.1
theorem zfLaw_meet_0 : decode cLaw_meet 0 = .ok (.aload_n 3, 1) ∧ decode cLaw_meet 1 = .ok (.aload_n 0, 1) ∧ decode cLaw_meet 2 = .ok (.iload_n 1, 1) ∧ decode cLaw_meet 3 = .ok (.iload_n 2, 1) ∧ decode cLaw_meet 4 = .ok (.invokevirtual 129, 3) ∧ decode cLaw_meet 7 = .ok (.i2l, 1) ∧ decode cLaw_meet 8 = .ok (.putfield 13, 3) ∧ decode cLaw_meet 11 = .ok (.goto 15, 3) ∧ decode cLaw_meet 14 = .ok (.astore 4, 2) ∧ decode cLaw_meet 16 = .ok (.iconst 1, 1) ∧ decode cLaw_meet 17 = .ok (.ireturn, 1) ∧ decode cLaw_meet 18 = .ok (.astore 4, 2) ∧ decode cLaw_meet 20 = .ok (.iconst 2, 1) ∧ decode cLaw_meet 21 = .ok (.ireturn, 1) ∧ decode cLaw_meet 22 = .ok (.astore 4, 2) ∧ decode cLaw_meet 24 = .ok (.iconst 3, 1) ∧ decode cLaw_meet 25 = .ok (.ireturn, 1) ∧ decode cLaw_meet 26 = .ok (.iconst 0, 1) ∧ decode cLaw_meet 27 = .ok (.ireturn, 1) ∧ True := Jvm.Free.DS.facts (code := cLaw_meet) 0 [(.aload_n 3, 1), (.aload_n 0, 1), (.iload_n 1, 1), (.iload_n 2, 1), (.invokevirtual 129, 3), (.i2l, 1), (.putfield 13, 3), (.goto 15, 3), (.astore 4, 2), (.iconst 1, 1), (.ireturn, 1), (.astore 4, 2), (.iconst 2, 1), (.ireturn, 1), (.astore 4, 2), (.iconst 3, 1), (.ireturn, 1), (.iconst 0, 1), (.ireturn, 1)] (by decide +kernel) (by decide +kernel)
theorem dLaw_meet_0 : decode cLaw_meet 0 = .ok (.aload_n 3, 1) := zfLaw_meet_0.1
theorem dLaw_meet_1 : decode cLaw_meet 1 = .ok (.aload_n 0, 1) := zfLaw_meet_0.2.1
theorem dLaw_meet_2 : decode cLaw_meet 2 = .ok (.iload_n 1, 1) := zfLaw_meet_0.2.2.1
theorem dLaw_meet_3 : decode cLaw_meet 3 = .ok (.iload_n 2, 1) := zfLaw_meet_0.2.2.2.1
theorem dLaw_meet_4 : decode cLaw_meet 4 = .ok (.invokevirtual 129, 3) := zfLaw_meet_0.2.2.2.2.1
theorem dLaw_meet_7 : decode cLaw_meet 7 = .ok (.i2l, 1) := zfLaw_meet_0.2.2.2.2.2.1
theorem dLaw_meet_8 : decode cLaw_meet 8 = .ok (.putfield 13, 3) := zfLaw_meet_0.2.2.2.2.2.2.1
theorem dLaw_meet_11 : decode cLaw_meet 11 = .ok (.goto 15, 3) := zfLaw_meet_0.2.2.2.2.2.2.2.1
theorem dLaw_meet_14 : decode cLaw_meet 14 = .ok (.astore 4, 2) := zfLaw_meet_0.2.2.2.2.2.2.2.2.1
theorem dLaw_meet_16 : decode cLaw_meet 16 = .ok (.iconst 1, 1) := zfLaw_meet_0.2.2.2.2.2.2.2.2.2.1
theorem dLaw_meet_17 : decode cLaw_meet 17 = .ok (.ireturn, 1) := zfLaw_meet_0.2.2.2.2.2.2.2.2.2.2.1
theorem dLaw_meet_18 : decode cLaw_meet 18 = .ok (.astore 4, 2) := zfLaw_meet_0.2.2.2.2.2.2.2.2.2.2.2.1
theorem dLaw_meet_20 : decode cLaw_meet 20 = .ok (.iconst 2, 1) := zfLaw_meet_0.2.2.2.2.2.2.2.2.2.2.2.2.1
theorem dLaw_meet_21 : decode cLaw_meet 21 = .ok (.ireturn, 1) := zfLaw_meet_0.2.2.2.2.2.2.2.2.2.2.2.2.2.1
theorem dLaw_meet_22 : decode cLaw_meet 22 = .ok (.astore 4, 2) := zfLaw_meet_0.2.2.2.2.2.2.2.2.2.2.2.2.2.2.1
theorem dLaw_meet_24 : decode cLaw_meet 24 = .ok (.iconst 3, 1) := zfLaw_meet_0.2.2.2.2.2.2.2.2.2.2.2.2.2.2.2.1
theorem dLaw_meet_25 : decode cLaw_meet 25 = .ok (.ireturn, 1) := zfLaw_meet_0.2.2.2.2.2.2.2.2.2.2.2.2.2.2.2.2.1
theorem dLaw_meet_26 : decode cLaw_meet 26 = .ok (.iconst 0, 1) := zfLaw_meet_0.2.2.2.2.2.2.2.2.2.2.2.2.2.2.2.2.2.1
theorem dLaw_meet_27 : decode cLaw_meet 27 = .ok (.ireturn, 1) := zfLaw_meet_0.2.2.2.2.2.2.2.2.2.2.2.2.2.2.2.2.2.2.1
theorem zfLaw_ofCursor_0 : decode cLaw_ofCursor 0 = .ok (.aload_n 3, 1) ∧ decode cLaw_ofCursor 1 = .ok (.aload_n 0, 1) ∧ decode cLaw_ofCursor 2 = .ok (.iload_n 1, 1) ∧ decode cLaw_ofCursor 3 = .ok (.iload_n 2, 1) ∧ decode cLaw_ofCursor 4 = .ok (.invokevirtual 132, 3) ∧ decode cLaw_ofCursor 7 = .ok (.i2l, 1) ∧ decode cLaw_ofCursor 8 = .ok (.putfield 13, 3) ∧ decode cLaw_ofCursor 11 = .ok (.goto 11, 3) ∧ decode cLaw_ofCursor 14 = .ok (.astore 4, 2) ∧ decode cLaw_ofCursor 16 = .ok (.iconst 1, 1) ∧ decode cLaw_ofCursor 17 = .ok (.ireturn, 1) ∧ decode cLaw_ofCursor 18 = .ok (.astore 4, 2) ∧ decode cLaw_ofCursor 20 = .ok (.iconst 2, 1) ∧ decode cLaw_ofCursor 21 = .ok (.ireturn, 1) ∧ decode cLaw_ofCursor 22 = .ok (.iconst 0, 1) ∧ decode cLaw_ofCursor 23 = .ok (.ireturn, 1) ∧ True := Jvm.Free.DS.facts (code := cLaw_ofCursor) 0 [(.aload_n 3, 1), (.aload_n 0, 1), (.iload_n 1, 1), (.iload_n 2, 1), (.invokevirtual 132, 3), (.i2l, 1), (.putfield 13, 3), (.goto 11, 3), (.astore 4, 2), (.iconst 1, 1), (.ireturn, 1), (.astore 4, 2), (.iconst 2, 1), (.ireturn, 1), (.iconst 0, 1), (.ireturn, 1)] (by decide +kernel) (by decide +kernel)
theorem dLaw_ofCursor_0 : decode cLaw_ofCursor 0 = .ok (.aload_n 3, 1) := zfLaw_ofCursor_0.1
theorem dLaw_ofCursor_1 : decode cLaw_ofCursor 1 = .ok (.aload_n 0, 1) := zfLaw_ofCursor_0.2.1
theorem dLaw_ofCursor_2 : decode cLaw_ofCursor 2 = .ok (.iload_n 1, 1) := zfLaw_ofCursor_0.2.2.1
theorem dLaw_ofCursor_3 : decode cLaw_ofCursor 3 = .ok (.iload_n 2, 1) := zfLaw_ofCursor_0.2.2.2.1
theorem dLaw_ofCursor_4 : decode cLaw_ofCursor 4 = .ok (.invokevirtual 132, 3) := zfLaw_ofCursor_0.2.2.2.2.1
theorem dLaw_ofCursor_7 : decode cLaw_ofCursor 7 = .ok (.i2l, 1) := zfLaw_ofCursor_0.2.2.2.2.2.1
theorem dLaw_ofCursor_8 : decode cLaw_ofCursor 8 = .ok (.putfield 13, 3) := zfLaw_ofCursor_0.2.2.2.2.2.2.1
theorem dLaw_ofCursor_11 : decode cLaw_ofCursor 11 = .ok (.goto 11, 3) := zfLaw_ofCursor_0.2.2.2.2.2.2.2.1
theorem dLaw_ofCursor_14 : decode cLaw_ofCursor 14 = .ok (.astore 4, 2) := zfLaw_ofCursor_0.2.2.2.2.2.2.2.2.1
theorem dLaw_ofCursor_16 : decode cLaw_ofCursor 16 = .ok (.iconst 1, 1) := zfLaw_ofCursor_0.2.2.2.2.2.2.2.2.2.1
theorem dLaw_ofCursor_17 : decode cLaw_ofCursor 17 = .ok (.ireturn, 1) := zfLaw_ofCursor_0.2.2.2.2.2.2.2.2.2.2.1
theorem dLaw_ofCursor_18 : decode cLaw_ofCursor 18 = .ok (.astore 4, 2) := zfLaw_ofCursor_0.2.2.2.2.2.2.2.2.2.2.2.1
theorem dLaw_ofCursor_20 : decode cLaw_ofCursor 20 = .ok (.iconst 2, 1) := zfLaw_ofCursor_0.2.2.2.2.2.2.2.2.2.2.2.2.1
theorem dLaw_ofCursor_21 : decode cLaw_ofCursor 21 = .ok (.ireturn, 1) := zfLaw_ofCursor_0.2.2.2.2.2.2.2.2.2.2.2.2.2.1
theorem dLaw_ofCursor_22 : decode cLaw_ofCursor 22 = .ok (.iconst 0, 1) := zfLaw_ofCursor_0.2.2.2.2.2.2.2.2.2.2.2.2.2.2.1
theorem dLaw_ofCursor_23 : decode cLaw_ofCursor 23 = .ok (.ireturn, 1) := zfLaw_ofCursor_0.2.2.2.2.2.2.2.2.2.2.2.2.2.2.2.1
theorem zfLaw_plus_0 : decode cLaw_plus 0 = .ok (.aload_n 3, 1) ∧ decode cLaw_plus 1 = .ok (.aload_n 0, 1) ∧ decode cLaw_plus 2 = .ok (.iload_n 1, 1) ∧ decode cLaw_plus 3 = .ok (.iload_n 2, 1) ∧ decode cLaw_plus 4 = .ok (.invokevirtual 135, 3) ∧ decode cLaw_plus 7 = .ok (.i2l, 1) ∧ decode cLaw_plus 8 = .ok (.putfield 13, 3) ∧ decode cLaw_plus 11 = .ok (.goto 7, 3) ∧ decode cLaw_plus 14 = .ok (.astore 4, 2) ∧ decode cLaw_plus 16 = .ok (.iconst 1, 1) ∧ decode cLaw_plus 17 = .ok (.ireturn, 1) ∧ decode cLaw_plus 18 = .ok (.iconst 0, 1) ∧ decode cLaw_plus 19 = .ok (.ireturn, 1) ∧ True := Jvm.Free.DS.facts (code := cLaw_plus) 0 [(.aload_n 3, 1), (.aload_n 0, 1), (.iload_n 1, 1), (.iload_n 2, 1), (.invokevirtual 135, 3), (.i2l, 1), (.putfield 13, 3), (.goto 7, 3), (.astore 4, 2), (.iconst 1, 1), (.ireturn, 1), (.iconst 0, 1), (.ireturn, 1)] (by decide +kernel) (by decide +kernel)
theorem dLaw_plus_0 : decode cLaw_plus 0 = .ok (.aload_n 3, 1) := zfLaw_plus_0.1
theorem dLaw_plus_1 : decode cLaw_plus 1 = .ok (.aload_n 0, 1) := zfLaw_plus_0.2.1
theorem dLaw_plus_2 : decode cLaw_plus 2 = .ok (.iload_n 1, 1) := zfLaw_plus_0.2.2.1
theorem dLaw_plus_3 : decode cLaw_plus 3 = .ok (.iload_n 2, 1) := zfLaw_plus_0.2.2.2.1
theorem dLaw_plus_4 : decode cLaw_plus 4 = .ok (.invokevirtual 135, 3) := zfLaw_plus_0.2.2.2.2.1
theorem dLaw_plus_7 : decode cLaw_plus 7 = .ok (.i2l, 1) := zfLaw_plus_0.2.2.2.2.2.1
theorem dLaw_plus_8 : decode cLaw_plus 8 = .ok (.putfield 13, 3) := zfLaw_plus_0.2.2.2.2.2.2.1
theorem dLaw_plus_11 : decode cLaw_plus 11 = .ok (.goto 7, 3) := zfLaw_plus_0.2.2.2.2.2.2.2.1
theorem dLaw_plus_14 : decode cLaw_plus 14 = .ok (.astore 4, 2) := zfLaw_plus_0.2.2.2.2.2.2.2.2.1
theorem dLaw_plus_16 : decode cLaw_plus 16 = .ok (.iconst 1, 1) := zfLaw_plus_0.2.2.2.2.2.2.2.2.2.1
theorem dLaw_plus_17 : decode cLaw_plus 17 = .ok (.ireturn, 1) := zfLaw_plus_0.2.2.2.2.2.2.2.2.2.2.1
theorem dLaw_plus_18 : decode cLaw_plus 18 = .ok (.iconst 0, 1) := zfLaw_plus_0.2.2.2.2.2.2.2.2.2.2.2.1
theorem dLaw_plus_19 : decode cLaw_plus 19 = .ok (.ireturn, 1) := zfLaw_plus_0.2.2.2.2.2.2.2.2.2.2.2.2.1
theorem zfLaw_times_0 : decode cLaw_times 0 = .ok (.aload_n 3, 1) ∧ decode cLaw_times 1 = .ok (.aload_n 0, 1) ∧ decode cLaw_times 2 = .ok (.iload_n 1, 1) ∧ decode cLaw_times 3 = .ok (.iload_n 2, 1) ∧ decode cLaw_times 4 = .ok (.invokevirtual 138, 3) ∧ decode cLaw_times 7 = .ok (.i2l, 1) ∧ decode cLaw_times 8 = .ok (.putfield 13, 3) ∧ decode cLaw_times 11 = .ok (.goto 7, 3) ∧ decode cLaw_times 14 = .ok (.astore 4, 2) ∧ decode cLaw_times 16 = .ok (.iconst 1, 1) ∧ decode cLaw_times 17 = .ok (.ireturn, 1) ∧ decode cLaw_times 18 = .ok (.iconst 0, 1) ∧ decode cLaw_times 19 = .ok (.ireturn, 1) ∧ True := Jvm.Free.DS.facts (code := cLaw_times) 0 [(.aload_n 3, 1), (.aload_n 0, 1), (.iload_n 1, 1), (.iload_n 2, 1), (.invokevirtual 138, 3), (.i2l, 1), (.putfield 13, 3), (.goto 7, 3), (.astore 4, 2), (.iconst 1, 1), (.ireturn, 1), (.iconst 0, 1), (.ireturn, 1)] (by decide +kernel) (by decide +kernel)
theorem dLaw_times_0 : decode cLaw_times 0 = .ok (.aload_n 3, 1) := zfLaw_times_0.1
theorem dLaw_times_1 : decode cLaw_times 1 = .ok (.aload_n 0, 1) := zfLaw_times_0.2.1
theorem dLaw_times_2 : decode cLaw_times 2 = .ok (.iload_n 1, 1) := zfLaw_times_0.2.2.1
theorem dLaw_times_3 : decode cLaw_times 3 = .ok (.iload_n 2, 1) := zfLaw_times_0.2.2.2.1
theorem dLaw_times_4 : decode cLaw_times 4 = .ok (.invokevirtual 138, 3) := zfLaw_times_0.2.2.2.2.1
theorem dLaw_times_7 : decode cLaw_times 7 = .ok (.i2l, 1) := zfLaw_times_0.2.2.2.2.2.1
theorem dLaw_times_8 : decode cLaw_times 8 = .ok (.putfield 13, 3) := zfLaw_times_0.2.2.2.2.2.2.1
theorem dLaw_times_11 : decode cLaw_times 11 = .ok (.goto 7, 3) := zfLaw_times_0.2.2.2.2.2.2.2.1
theorem dLaw_times_14 : decode cLaw_times 14 = .ok (.astore 4, 2) := zfLaw_times_0.2.2.2.2.2.2.2.2.1
theorem dLaw_times_16 : decode cLaw_times 16 = .ok (.iconst 1, 1) := zfLaw_times_0.2.2.2.2.2.2.2.2.2.1
theorem dLaw_times_17 : decode cLaw_times 17 = .ok (.ireturn, 1) := zfLaw_times_0.2.2.2.2.2.2.2.2.2.2.1
theorem dLaw_times_18 : decode cLaw_times 18 = .ok (.iconst 0, 1) := zfLaw_times_0.2.2.2.2.2.2.2.2.2.2.2.1
theorem dLaw_times_19 : decode cLaw_times 19 = .ok (.ireturn, 1) := zfLaw_times_0.2.2.2.2.2.2.2.2.2.2.2.2.1
theorem zfLaw_shift_0 : decode cLaw_shift 0 = .ok (.aload_n 2, 1) ∧ decode cLaw_shift 1 = .ok (.aload_n 0, 1) ∧ decode cLaw_shift 2 = .ok (.iload_n 1, 1) ∧ decode cLaw_shift 3 = .ok (.invokevirtual 141, 3) ∧ decode cLaw_shift 6 = .ok (.i2l, 1) ∧ decode cLaw_shift 7 = .ok (.putfield 13, 3) ∧ decode cLaw_shift 10 = .ok (.goto 6, 3) ∧ decode cLaw_shift 13 = .ok (.astore_n 3, 1) ∧ decode cLaw_shift 14 = .ok (.iconst 1, 1) ∧ decode cLaw_shift 15 = .ok (.ireturn, 1) ∧ decode cLaw_shift 16 = .ok (.iconst 0, 1) ∧ decode cLaw_shift 17 = .ok (.ireturn, 1) ∧ True := Jvm.Free.DS.facts (code := cLaw_shift) 0 [(.aload_n 2, 1), (.aload_n 0, 1), (.iload_n 1, 1), (.invokevirtual 141, 3), (.i2l, 1), (.putfield 13, 3), (.goto 6, 3), (.astore_n 3, 1), (.iconst 1, 1), (.ireturn, 1), (.iconst 0, 1), (.ireturn, 1)] (by decide +kernel) (by decide +kernel)
theorem dLaw_shift_0 : decode cLaw_shift 0 = .ok (.aload_n 2, 1) := zfLaw_shift_0.1
theorem dLaw_shift_1 : decode cLaw_shift 1 = .ok (.aload_n 0, 1) := zfLaw_shift_0.2.1
theorem dLaw_shift_2 : decode cLaw_shift 2 = .ok (.iload_n 1, 1) := zfLaw_shift_0.2.2.1
theorem dLaw_shift_3 : decode cLaw_shift 3 = .ok (.invokevirtual 141, 3) := zfLaw_shift_0.2.2.2.1
theorem dLaw_shift_6 : decode cLaw_shift 6 = .ok (.i2l, 1) := zfLaw_shift_0.2.2.2.2.1
theorem dLaw_shift_7 : decode cLaw_shift 7 = .ok (.putfield 13, 3) := zfLaw_shift_0.2.2.2.2.2.1
theorem dLaw_shift_10 : decode cLaw_shift 10 = .ok (.goto 6, 3) := zfLaw_shift_0.2.2.2.2.2.2.1
theorem dLaw_shift_13 : decode cLaw_shift 13 = .ok (.astore_n 3, 1) := zfLaw_shift_0.2.2.2.2.2.2.2.1
theorem dLaw_shift_14 : decode cLaw_shift 14 = .ok (.iconst 1, 1) := zfLaw_shift_0.2.2.2.2.2.2.2.2.1
theorem dLaw_shift_15 : decode cLaw_shift 15 = .ok (.ireturn, 1) := zfLaw_shift_0.2.2.2.2.2.2.2.2.2.1
theorem dLaw_shift_16 : decode cLaw_shift 16 = .ok (.iconst 0, 1) := zfLaw_shift_0.2.2.2.2.2.2.2.2.2.2.1
theorem dLaw_shift_17 : decode cLaw_shift 17 = .ok (.ireturn, 1) := zfLaw_shift_0.2.2.2.2.2.2.2.2.2.2.2.1
theorem zfLaw_trim_0 : decode cLaw_trim 0 = .ok (.aload_n 2, 1) ∧ decode cLaw_trim 1 = .ok (.aload_n 0, 1) ∧ decode cLaw_trim 2 = .ok (.iload_n 1, 1) ∧ decode cLaw_trim 3 = .ok (.invokevirtual 144, 3) ∧ decode cLaw_trim 6 = .ok (.i2l, 1) ∧ decode cLaw_trim 7 = .ok (.putfield 13, 3) ∧ decode cLaw_trim 10 = .ok (.goto 6, 3) ∧ decode cLaw_trim 13 = .ok (.astore_n 3, 1) ∧ decode cLaw_trim 14 = .ok (.iconst 1, 1) ∧ decode cLaw_trim 15 = .ok (.ireturn, 1) ∧ decode cLaw_trim 16 = .ok (.iconst 0, 1) ∧ decode cLaw_trim 17 = .ok (.ireturn, 1) ∧ True := Jvm.Free.DS.facts (code := cLaw_trim) 0 [(.aload_n 2, 1), (.aload_n 0, 1), (.iload_n 1, 1), (.invokevirtual 144, 3), (.i2l, 1), (.putfield 13, 3), (.goto 6, 3), (.astore_n 3, 1), (.iconst 1, 1), (.ireturn, 1), (.iconst 0, 1), (.ireturn, 1)] (by decide +kernel) (by decide +kernel)
theorem dLaw_trim_0 : decode cLaw_trim 0 = .ok (.aload_n 2, 1) := zfLaw_trim_0.1
theorem dLaw_trim_1 : decode cLaw_trim 1 = .ok (.aload_n 0, 1) := zfLaw_trim_0.2.1
theorem dLaw_trim_2 : decode cLaw_trim 2 = .ok (.iload_n 1, 1) := zfLaw_trim_0.2.2.1
theorem dLaw_trim_3 : decode cLaw_trim 3 = .ok (.invokevirtual 144, 3) := zfLaw_trim_0.2.2.2.1
theorem dLaw_trim_6 : decode cLaw_trim 6 = .ok (.i2l, 1) := zfLaw_trim_0.2.2.2.2.1
theorem dLaw_trim_7 : decode cLaw_trim 7 = .ok (.putfield 13, 3) := zfLaw_trim_0.2.2.2.2.2.1
theorem dLaw_trim_10 : decode cLaw_trim 10 = .ok (.goto 6, 3) := zfLaw_trim_0.2.2.2.2.2.2.1
theorem dLaw_trim_13 : decode cLaw_trim 13 = .ok (.astore_n 3, 1) := zfLaw_trim_0.2.2.2.2.2.2.2.1
theorem dLaw_trim_14 : decode cLaw_trim 14 = .ok (.iconst 1, 1) := zfLaw_trim_0.2.2.2.2.2.2.2.2.1
theorem dLaw_trim_15 : decode cLaw_trim 15 = .ok (.ireturn, 1) := zfLaw_trim_0.2.2.2.2.2.2.2.2.2.1
theorem dLaw_trim_16 : decode cLaw_trim 16 = .ok (.iconst 0, 1) := zfLaw_trim_0.2.2.2.2.2.2.2.2.2.2.1
theorem dLaw_trim_17 : decode cLaw_trim 17 = .ok (.ireturn, 1) := zfLaw_trim_0.2.2.2.2.2.2.2.2.2.2.2.1
theorem zfLaw_derive_0 : decode cLaw_derive 0 = .ok (.aload_n 2, 1) ∧ decode cLaw_derive 1 = .ok (.aload_n 0, 1) ∧ decode cLaw_derive 2 = .ok (.iload_n 1, 1) ∧ decode cLaw_derive 3 = .ok (.invokevirtual 147, 3) ∧ decode cLaw_derive 6 = .ok (.i2l, 1) ∧ decode cLaw_derive 7 = .ok (.putfield 13, 3) ∧ decode cLaw_derive 10 = .ok (.goto 6, 3) ∧ decode cLaw_derive 13 = .ok (.astore_n 3, 1) ∧ decode cLaw_derive 14 = .ok (.iconst 1, 1) ∧ decode cLaw_derive 15 = .ok (.ireturn, 1) ∧ decode cLaw_derive 16 = .ok (.iconst 0, 1) ∧ decode cLaw_derive 17 = .ok (.ireturn, 1) ∧ True := Jvm.Free.DS.facts (code := cLaw_derive) 0 [(.aload_n 2, 1), (.aload_n 0, 1), (.iload_n 1, 1), (.invokevirtual 147, 3), (.i2l, 1), (.putfield 13, 3), (.goto 6, 3), (.astore_n 3, 1), (.iconst 1, 1), (.ireturn, 1), (.iconst 0, 1), (.ireturn, 1)] (by decide +kernel) (by decide +kernel)
theorem dLaw_derive_0 : decode cLaw_derive 0 = .ok (.aload_n 2, 1) := zfLaw_derive_0.1
theorem dLaw_derive_1 : decode cLaw_derive 1 = .ok (.aload_n 0, 1) := zfLaw_derive_0.2.1
theorem dLaw_derive_2 : decode cLaw_derive 2 = .ok (.iload_n 1, 1) := zfLaw_derive_0.2.2.1
theorem dLaw_derive_3 : decode cLaw_derive 3 = .ok (.invokevirtual 147, 3) := zfLaw_derive_0.2.2.2.1
theorem dLaw_derive_6 : decode cLaw_derive 6 = .ok (.i2l, 1) := zfLaw_derive_0.2.2.2.2.1
theorem dLaw_derive_7 : decode cLaw_derive 7 = .ok (.putfield 13, 3) := zfLaw_derive_0.2.2.2.2.2.1
theorem dLaw_derive_10 : decode cLaw_derive 10 = .ok (.goto 6, 3) := zfLaw_derive_0.2.2.2.2.2.2.1
theorem dLaw_derive_13 : decode cLaw_derive 13 = .ok (.astore_n 3, 1) := zfLaw_derive_0.2.2.2.2.2.2.2.1
theorem dLaw_derive_14 : decode cLaw_derive 14 = .ok (.iconst 1, 1) := zfLaw_derive_0.2.2.2.2.2.2.2.2.1
theorem dLaw_derive_15 : decode cLaw_derive 15 = .ok (.ireturn, 1) := zfLaw_derive_0.2.2.2.2.2.2.2.2.2.1
theorem dLaw_derive_16 : decode cLaw_derive 16 = .ok (.iconst 0, 1) := zfLaw_derive_0.2.2.2.2.2.2.2.2.2.2.1
theorem dLaw_derive_17 : decode cLaw_derive 17 = .ok (.ireturn, 1) := zfLaw_derive_0.2.2.2.2.2.2.2.2.2.2.2.1
theorem zfLaw_value_0 : decode cLaw_value 0 = .ok (.aload_n 3, 1) ∧ decode cLaw_value 1 = .ok (.aload_n 0, 1) ∧ decode cLaw_value 2 = .ok (.iload_n 1, 1) ∧ decode cLaw_value 3 = .ok (.iload_n 2, 1) ∧ decode cLaw_value 4 = .ok (.invokevirtual 150, 3) ∧ decode cLaw_value 7 = .ok (.i2l, 1) ∧ decode cLaw_value 8 = .ok (.putfield 13, 3) ∧ decode cLaw_value 11 = .ok (.goto 11, 3) ∧ decode cLaw_value 14 = .ok (.astore 4, 2) ∧ decode cLaw_value 16 = .ok (.iconst 1, 1) ∧ decode cLaw_value 17 = .ok (.ireturn, 1) ∧ decode cLaw_value 18 = .ok (.astore 4, 2) ∧ decode cLaw_value 20 = .ok (.iconst 2, 1) ∧ decode cLaw_value 21 = .ok (.ireturn, 1) ∧ decode cLaw_value 22 = .ok (.iconst 0, 1) ∧ decode cLaw_value 23 = .ok (.ireturn, 1) ∧ True := Jvm.Free.DS.facts (code := cLaw_value) 0 [(.aload_n 3, 1), (.aload_n 0, 1), (.iload_n 1, 1), (.iload_n 2, 1), (.invokevirtual 150, 3), (.i2l, 1), (.putfield 13, 3), (.goto 11, 3), (.astore 4, 2), (.iconst 1, 1), (.ireturn, 1), (.astore 4, 2), (.iconst 2, 1), (.ireturn, 1), (.iconst 0, 1), (.ireturn, 1)] (by decide +kernel) (by decide +kernel)
theorem dLaw_value_0 : decode cLaw_value 0 = .ok (.aload_n 3, 1) := zfLaw_value_0.1
theorem dLaw_value_1 : decode cLaw_value 1 = .ok (.aload_n 0, 1) := zfLaw_value_0.2.1
theorem dLaw_value_2 : decode cLaw_value 2 = .ok (.iload_n 1, 1) := zfLaw_value_0.2.2.1
theorem dLaw_value_3 : decode cLaw_value 3 = .ok (.iload_n 2, 1) := zfLaw_value_0.2.2.2.1
theorem dLaw_value_4 : decode cLaw_value 4 = .ok (.invokevirtual 150, 3) := zfLaw_value_0.2.2.2.2.1
theorem dLaw_value_7 : decode cLaw_value 7 = .ok (.i2l, 1) := zfLaw_value_0.2.2.2.2.2.1
theorem dLaw_value_8 : decode cLaw_value 8 = .ok (.putfield 13, 3) := zfLaw_value_0.2.2.2.2.2.2.1
theorem dLaw_value_11 : decode cLaw_value 11 = .ok (.goto 11, 3) := zfLaw_value_0.2.2.2.2.2.2.2.1
theorem dLaw_value_14 : decode cLaw_value 14 = .ok (.astore 4, 2) := zfLaw_value_0.2.2.2.2.2.2.2.2.1
theorem dLaw_value_16 : decode cLaw_value 16 = .ok (.iconst 1, 1) := zfLaw_value_0.2.2.2.2.2.2.2.2.2.1
theorem dLaw_value_17 : decode cLaw_value 17 = .ok (.ireturn, 1) := zfLaw_value_0.2.2.2.2.2.2.2.2.2.2.1
theorem dLaw_value_18 : decode cLaw_value 18 = .ok (.astore 4, 2) := zfLaw_value_0.2.2.2.2.2.2.2.2.2.2.2.1
theorem dLaw_value_20 : decode cLaw_value 20 = .ok (.iconst 2, 1) := zfLaw_value_0.2.2.2.2.2.2.2.2.2.2.2.2.1
theorem dLaw_value_21 : decode cLaw_value 21 = .ok (.ireturn, 1) := zfLaw_value_0.2.2.2.2.2.2.2.2.2.2.2.2.2.1
theorem dLaw_value_22 : decode cLaw_value 22 = .ok (.iconst 0, 1) := zfLaw_value_0.2.2.2.2.2.2.2.2.2.2.2.2.2.2.1
theorem dLaw_value_23 : decode cLaw_value 23 = .ok (.ireturn, 1) := zfLaw_value_0.2.2.2.2.2.2.2.2.2.2.2.2.2.2.2.1
theorem zfLaw_degree_0 : decode cLaw_degree 0 = .ok (.aload_n 2, 1) ∧ decode cLaw_degree 1 = .ok (.aload_n 0, 1) ∧ decode cLaw_degree 2 = .ok (.iload_n 1, 1) ∧ decode cLaw_degree 3 = .ok (.invokevirtual 153, 3) ∧ decode cLaw_degree 6 = .ok (.i2l, 1) ∧ decode cLaw_degree 7 = .ok (.putfield 13, 3) ∧ decode cLaw_degree 10 = .ok (.goto 6, 3) ∧ decode cLaw_degree 13 = .ok (.astore_n 3, 1) ∧ decode cLaw_degree 14 = .ok (.iconst 1, 1) ∧ decode cLaw_degree 15 = .ok (.ireturn, 1) ∧ decode cLaw_degree 16 = .ok (.iconst 0, 1) ∧ decode cLaw_degree 17 = .ok (.ireturn, 1) ∧ True := Jvm.Free.DS.facts (code := cLaw_degree) 0 [(.aload_n 2, 1), (.aload_n 0, 1), (.iload_n 1, 1), (.invokevirtual 153, 3), (.i2l, 1), (.putfield 13, 3), (.goto 6, 3), (.astore_n 3, 1), (.iconst 1, 1), (.ireturn, 1), (.iconst 0, 1), (.ireturn, 1)] (by decide +kernel) (by decide +kernel)
theorem dLaw_degree_0 : decode cLaw_degree 0 = .ok (.aload_n 2, 1) := zfLaw_degree_0.1
theorem dLaw_degree_1 : decode cLaw_degree 1 = .ok (.aload_n 0, 1) := zfLaw_degree_0.2.1
theorem dLaw_degree_2 : decode cLaw_degree 2 = .ok (.iload_n 1, 1) := zfLaw_degree_0.2.2.1
theorem dLaw_degree_3 : decode cLaw_degree 3 = .ok (.invokevirtual 153, 3) := zfLaw_degree_0.2.2.2.1
theorem dLaw_degree_6 : decode cLaw_degree 6 = .ok (.i2l, 1) := zfLaw_degree_0.2.2.2.2.1
theorem dLaw_degree_7 : decode cLaw_degree 7 = .ok (.putfield 13, 3) := zfLaw_degree_0.2.2.2.2.2.1
theorem dLaw_degree_10 : decode cLaw_degree 10 = .ok (.goto 6, 3) := zfLaw_degree_0.2.2.2.2.2.2.1
theorem dLaw_degree_13 : decode cLaw_degree 13 = .ok (.astore_n 3, 1) := zfLaw_degree_0.2.2.2.2.2.2.2.1
theorem dLaw_degree_14 : decode cLaw_degree 14 = .ok (.iconst 1, 1) := zfLaw_degree_0.2.2.2.2.2.2.2.2.1
theorem dLaw_degree_15 : decode cLaw_degree 15 = .ok (.ireturn, 1) := zfLaw_degree_0.2.2.2.2.2.2.2.2.2.1
theorem dLaw_degree_16 : decode cLaw_degree 16 = .ok (.iconst 0, 1) := zfLaw_degree_0.2.2.2.2.2.2.2.2.2.2.1
theorem dLaw_degree_17 : decode cLaw_degree 17 = .ok (.ireturn, 1) := zfLaw_degree_0.2.2.2.2.2.2.2.2.2.2.2.1
theorem zfLaw_ask_0 : decode cLaw_ask 0 = .ok (.aload_n 2, 1) ∧ decode cLaw_ask 1 = .ok (.aload_n 0, 1) ∧ decode cLaw_ask 2 = .ok (.iload_n 1, 1) ∧ decode cLaw_ask 3 = .ok (.invokevirtual 156, 3) ∧ decode cLaw_ask 6 = .ok (.i2l, 1) ∧ decode cLaw_ask 7 = .ok (.putfield 13, 3) ∧ decode cLaw_ask 10 = .ok (.goto 9, 3) ∧ decode cLaw_ask 13 = .ok (.astore_n 3, 1) ∧ decode cLaw_ask 14 = .ok (.iconst 1, 1) ∧ decode cLaw_ask 15 = .ok (.ireturn, 1) ∧ decode cLaw_ask 16 = .ok (.astore_n 3, 1) ∧ decode cLaw_ask 17 = .ok (.iconst 2, 1) ∧ decode cLaw_ask 18 = .ok (.ireturn, 1) ∧ decode cLaw_ask 19 = .ok (.iconst 0, 1) ∧ decode cLaw_ask 20 = .ok (.ireturn, 1) ∧ True := Jvm.Free.DS.facts (code := cLaw_ask) 0 [(.aload_n 2, 1), (.aload_n 0, 1), (.iload_n 1, 1), (.invokevirtual 156, 3), (.i2l, 1), (.putfield 13, 3), (.goto 9, 3), (.astore_n 3, 1), (.iconst 1, 1), (.ireturn, 1), (.astore_n 3, 1), (.iconst 2, 1), (.ireturn, 1), (.iconst 0, 1), (.ireturn, 1)] (by decide +kernel) (by decide +kernel)
theorem dLaw_ask_0 : decode cLaw_ask 0 = .ok (.aload_n 2, 1) := zfLaw_ask_0.1
theorem dLaw_ask_1 : decode cLaw_ask 1 = .ok (.aload_n 0, 1) := zfLaw_ask_0.2.1
theorem dLaw_ask_2 : decode cLaw_ask 2 = .ok (.iload_n 1, 1) := zfLaw_ask_0.2.2.1
theorem dLaw_ask_3 : decode cLaw_ask 3 = .ok (.invokevirtual 156, 3) := zfLaw_ask_0.2.2.2.1
theorem dLaw_ask_6 : decode cLaw_ask 6 = .ok (.i2l, 1) := zfLaw_ask_0.2.2.2.2.1
theorem dLaw_ask_7 : decode cLaw_ask 7 = .ok (.putfield 13, 3) := zfLaw_ask_0.2.2.2.2.2.1
theorem dLaw_ask_10 : decode cLaw_ask 10 = .ok (.goto 9, 3) := zfLaw_ask_0.2.2.2.2.2.2.1
theorem dLaw_ask_13 : decode cLaw_ask 13 = .ok (.astore_n 3, 1) := zfLaw_ask_0.2.2.2.2.2.2.2.1
theorem dLaw_ask_14 : decode cLaw_ask 14 = .ok (.iconst 1, 1) := zfLaw_ask_0.2.2.2.2.2.2.2.2.1
theorem dLaw_ask_15 : decode cLaw_ask 15 = .ok (.ireturn, 1) := zfLaw_ask_0.2.2.2.2.2.2.2.2.2.1
theorem dLaw_ask_16 : decode cLaw_ask 16 = .ok (.astore_n 3, 1) := zfLaw_ask_0.2.2.2.2.2.2.2.2.2.2.1
theorem dLaw_ask_17 : decode cLaw_ask 17 = .ok (.iconst 2, 1) := zfLaw_ask_0.2.2.2.2.2.2.2.2.2.2.2.1
theorem dLaw_ask_18 : decode cLaw_ask 18 = .ok (.ireturn, 1) := zfLaw_ask_0.2.2.2.2.2.2.2.2.2.2.2.2.1
theorem dLaw_ask_19 : decode cLaw_ask 19 = .ok (.iconst 0, 1) := zfLaw_ask_0.2.2.2.2.2.2.2.2.2.2.2.2.2.1
theorem dLaw_ask_20 : decode cLaw_ask 20 = .ok (.ireturn, 1) := zfLaw_ask_0.2.2.2.2.2.2.2.2.2.2.2.2.2.2.1
theorem zfLaw_asked_0 : decode cLaw_asked 0 = .ok (.aload_n 2, 1) ∧ decode cLaw_asked 1 = .ok (.aload_n 0, 1) ∧ decode cLaw_asked 2 = .ok (.iload_n 1, 1) ∧ decode cLaw_asked 3 = .ok (.invokevirtual 159, 3) ∧ decode cLaw_asked 6 = .ok (.i2l, 1) ∧ decode cLaw_asked 7 = .ok (.putfield 13, 3) ∧ decode cLaw_asked 10 = .ok (.goto 6, 3) ∧ decode cLaw_asked 13 = .ok (.astore_n 3, 1) ∧ decode cLaw_asked 14 = .ok (.iconst 1, 1) ∧ decode cLaw_asked 15 = .ok (.ireturn, 1) ∧ decode cLaw_asked 16 = .ok (.iconst 0, 1) ∧ decode cLaw_asked 17 = .ok (.ireturn, 1) ∧ True := Jvm.Free.DS.facts (code := cLaw_asked) 0 [(.aload_n 2, 1), (.aload_n 0, 1), (.iload_n 1, 1), (.invokevirtual 159, 3), (.i2l, 1), (.putfield 13, 3), (.goto 6, 3), (.astore_n 3, 1), (.iconst 1, 1), (.ireturn, 1), (.iconst 0, 1), (.ireturn, 1)] (by decide +kernel) (by decide +kernel)
theorem dLaw_asked_0 : decode cLaw_asked 0 = .ok (.aload_n 2, 1) := zfLaw_asked_0.1
theorem dLaw_asked_1 : decode cLaw_asked 1 = .ok (.aload_n 0, 1) := zfLaw_asked_0.2.1
theorem dLaw_asked_2 : decode cLaw_asked 2 = .ok (.iload_n 1, 1) := zfLaw_asked_0.2.2.1
theorem dLaw_asked_3 : decode cLaw_asked 3 = .ok (.invokevirtual 159, 3) := zfLaw_asked_0.2.2.2.1
theorem dLaw_asked_6 : decode cLaw_asked 6 = .ok (.i2l, 1) := zfLaw_asked_0.2.2.2.2.1
theorem dLaw_asked_7 : decode cLaw_asked 7 = .ok (.putfield 13, 3) := zfLaw_asked_0.2.2.2.2.2.1
theorem dLaw_asked_10 : decode cLaw_asked 10 = .ok (.goto 6, 3) := zfLaw_asked_0.2.2.2.2.2.2.1
theorem dLaw_asked_13 : decode cLaw_asked 13 = .ok (.astore_n 3, 1) := zfLaw_asked_0.2.2.2.2.2.2.2.1
theorem dLaw_asked_14 : decode cLaw_asked 14 = .ok (.iconst 1, 1) := zfLaw_asked_0.2.2.2.2.2.2.2.2.1
theorem dLaw_asked_15 : decode cLaw_asked 15 = .ok (.ireturn, 1) := zfLaw_asked_0.2.2.2.2.2.2.2.2.2.1
theorem dLaw_asked_16 : decode cLaw_asked 16 = .ok (.iconst 0, 1) := zfLaw_asked_0.2.2.2.2.2.2.2.2.2.2.1
theorem dLaw_asked_17 : decode cLaw_asked 17 = .ok (.ireturn, 1) := zfLaw_asked_0.2.2.2.2.2.2.2.2.2.2.2.1
theorem zfLaw_byOrder_0 : decode cLaw_byOrder 0 = .ok (.aload_n 3, 1) ∧ decode cLaw_byOrder 1 = .ok (.aload_n 0, 1) ∧ decode cLaw_byOrder 2 = .ok (.iload_n 1, 1) ∧ decode cLaw_byOrder 3 = .ok (.iload_n 2, 1) ∧ decode cLaw_byOrder 4 = .ok (.invokevirtual 162, 3) ∧ decode cLaw_byOrder 7 = .ok (.i2l, 1) ∧ decode cLaw_byOrder 8 = .ok (.putfield 13, 3) ∧ decode cLaw_byOrder 11 = .ok (.goto 11, 3) ∧ decode cLaw_byOrder 14 = .ok (.astore 4, 2) ∧ decode cLaw_byOrder 16 = .ok (.iconst 1, 1) ∧ decode cLaw_byOrder 17 = .ok (.ireturn, 1) ∧ decode cLaw_byOrder 18 = .ok (.astore 4, 2) ∧ decode cLaw_byOrder 20 = .ok (.iconst 2, 1) ∧ decode cLaw_byOrder 21 = .ok (.ireturn, 1) ∧ decode cLaw_byOrder 22 = .ok (.iconst 0, 1) ∧ decode cLaw_byOrder 23 = .ok (.ireturn, 1) ∧ True := Jvm.Free.DS.facts (code := cLaw_byOrder) 0 [(.aload_n 3, 1), (.aload_n 0, 1), (.iload_n 1, 1), (.iload_n 2, 1), (.invokevirtual 162, 3), (.i2l, 1), (.putfield 13, 3), (.goto 11, 3), (.astore 4, 2), (.iconst 1, 1), (.ireturn, 1), (.astore 4, 2), (.iconst 2, 1), (.ireturn, 1), (.iconst 0, 1), (.ireturn, 1)] (by decide +kernel) (by decide +kernel)
theorem dLaw_byOrder_0 : decode cLaw_byOrder 0 = .ok (.aload_n 3, 1) := zfLaw_byOrder_0.1
theorem dLaw_byOrder_1 : decode cLaw_byOrder 1 = .ok (.aload_n 0, 1) := zfLaw_byOrder_0.2.1
theorem dLaw_byOrder_2 : decode cLaw_byOrder 2 = .ok (.iload_n 1, 1) := zfLaw_byOrder_0.2.2.1
theorem dLaw_byOrder_3 : decode cLaw_byOrder 3 = .ok (.iload_n 2, 1) := zfLaw_byOrder_0.2.2.2.1
theorem dLaw_byOrder_4 : decode cLaw_byOrder 4 = .ok (.invokevirtual 162, 3) := zfLaw_byOrder_0.2.2.2.2.1
theorem dLaw_byOrder_7 : decode cLaw_byOrder 7 = .ok (.i2l, 1) := zfLaw_byOrder_0.2.2.2.2.2.1
theorem dLaw_byOrder_8 : decode cLaw_byOrder 8 = .ok (.putfield 13, 3) := zfLaw_byOrder_0.2.2.2.2.2.2.1
theorem dLaw_byOrder_11 : decode cLaw_byOrder 11 = .ok (.goto 11, 3) := zfLaw_byOrder_0.2.2.2.2.2.2.2.1
theorem dLaw_byOrder_14 : decode cLaw_byOrder 14 = .ok (.astore 4, 2) := zfLaw_byOrder_0.2.2.2.2.2.2.2.2.1
theorem dLaw_byOrder_16 : decode cLaw_byOrder 16 = .ok (.iconst 1, 1) := zfLaw_byOrder_0.2.2.2.2.2.2.2.2.2.1
theorem dLaw_byOrder_17 : decode cLaw_byOrder 17 = .ok (.ireturn, 1) := zfLaw_byOrder_0.2.2.2.2.2.2.2.2.2.2.1
theorem dLaw_byOrder_18 : decode cLaw_byOrder 18 = .ok (.astore 4, 2) := zfLaw_byOrder_0.2.2.2.2.2.2.2.2.2.2.2.1
theorem dLaw_byOrder_20 : decode cLaw_byOrder 20 = .ok (.iconst 2, 1) := zfLaw_byOrder_0.2.2.2.2.2.2.2.2.2.2.2.2.1
theorem dLaw_byOrder_21 : decode cLaw_byOrder 21 = .ok (.ireturn, 1) := zfLaw_byOrder_0.2.2.2.2.2.2.2.2.2.2.2.2.2.1
theorem dLaw_byOrder_22 : decode cLaw_byOrder 22 = .ok (.iconst 0, 1) := zfLaw_byOrder_0.2.2.2.2.2.2.2.2.2.2.2.2.2.2.1
theorem dLaw_byOrder_23 : decode cLaw_byOrder 23 = .ok (.ireturn, 1) := zfLaw_byOrder_0.2.2.2.2.2.2.2.2.2.2.2.2.2.2.2.1
theorem zfLaw_house_0 : decode cLaw_house 0 = .ok (.aload_n 2, 1) ∧ decode cLaw_house 1 = .ok (.aload_n 0, 1) ∧ decode cLaw_house 2 = .ok (.iload_n 1, 1) ∧ decode cLaw_house 3 = .ok (.invokevirtual 165, 3) ∧ decode cLaw_house 6 = .ok (.i2l, 1) ∧ decode cLaw_house 7 = .ok (.putfield 13, 3) ∧ decode cLaw_house 10 = .ok (.goto 6, 3) ∧ decode cLaw_house 13 = .ok (.astore_n 3, 1) ∧ decode cLaw_house 14 = .ok (.iconst 1, 1) ∧ decode cLaw_house 15 = .ok (.ireturn, 1) ∧ decode cLaw_house 16 = .ok (.iconst 0, 1) ∧ decode cLaw_house 17 = .ok (.ireturn, 1) ∧ True := Jvm.Free.DS.facts (code := cLaw_house) 0 [(.aload_n 2, 1), (.aload_n 0, 1), (.iload_n 1, 1), (.invokevirtual 165, 3), (.i2l, 1), (.putfield 13, 3), (.goto 6, 3), (.astore_n 3, 1), (.iconst 1, 1), (.ireturn, 1), (.iconst 0, 1), (.ireturn, 1)] (by decide +kernel) (by decide +kernel)
theorem dLaw_house_0 : decode cLaw_house 0 = .ok (.aload_n 2, 1) := zfLaw_house_0.1
theorem dLaw_house_1 : decode cLaw_house 1 = .ok (.aload_n 0, 1) := zfLaw_house_0.2.1
theorem dLaw_house_2 : decode cLaw_house 2 = .ok (.iload_n 1, 1) := zfLaw_house_0.2.2.1
theorem dLaw_house_3 : decode cLaw_house 3 = .ok (.invokevirtual 165, 3) := zfLaw_house_0.2.2.2.1
theorem dLaw_house_6 : decode cLaw_house 6 = .ok (.i2l, 1) := zfLaw_house_0.2.2.2.2.1
theorem dLaw_house_7 : decode cLaw_house 7 = .ok (.putfield 13, 3) := zfLaw_house_0.2.2.2.2.2.1
theorem dLaw_house_10 : decode cLaw_house 10 = .ok (.goto 6, 3) := zfLaw_house_0.2.2.2.2.2.2.1
theorem dLaw_house_13 : decode cLaw_house 13 = .ok (.astore_n 3, 1) := zfLaw_house_0.2.2.2.2.2.2.2.1
theorem dLaw_house_14 : decode cLaw_house 14 = .ok (.iconst 1, 1) := zfLaw_house_0.2.2.2.2.2.2.2.2.1
theorem dLaw_house_15 : decode cLaw_house 15 = .ok (.ireturn, 1) := zfLaw_house_0.2.2.2.2.2.2.2.2.2.1
theorem dLaw_house_16 : decode cLaw_house 16 = .ok (.iconst 0, 1) := zfLaw_house_0.2.2.2.2.2.2.2.2.2.2.1
theorem dLaw_house_17 : decode cLaw_house 17 = .ok (.ireturn, 1) := zfLaw_house_0.2.2.2.2.2.2.2.2.2.2.2.1
