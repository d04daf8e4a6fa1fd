theorem dX12_init_0 : decode cX12_init 0 = .ok (.aload_n 0, 1) := by decide +kernel
theorem dX12_init_1 : decode cX12_init 1 = .ok (.invokespecial 3, 3) := by decide +kernel
theorem dX12_init_4 : decode cX12_init 4 = .ok (.aload_n 0, 1) := by decide +kernel
theorem dX12_init_5 : decode cX12_init 5 = .ok (.bipush 106, 2) := by decide +kernel
theorem dX12_init_7 : decode cX12_init 7 = .ok (.newarray .int, 2) := by decide +kernel
theorem dX12_init_9 : decode cX12_init 9 = .ok (.putfield 9, 3) := by decide +kernel
theorem dX12_init_12 : decode cX12_init 12 = .ok (.aload_n 0, 1) := by decide +kernel
theorem dX12_init_13 : decode cX12_init 13 = .ok (.bipush 106, 2) := by decide +kernel
theorem dX12_init_15 : decode cX12_init 15 = .ok (.newarray .int, 2) := by decide +kernel
theorem dX12_init_17 : decode cX12_init 17 = .ok (.putfield 13, 3) := by decide +kernel
theorem dX12_init_20 : decode cX12_init 20 = .ok (.aload_n 0, 1) := by decide +kernel
theorem dX12_init_21 : decode cX12_init 21 = .ok (.bipush 106, 2) := by decide +kernel
theorem dX12_init_23 : decode cX12_init 23 = .ok (.newarray .int, 2) := by decide +kernel
theorem dX12_init_25 : decode cX12_init 25 = .ok (.putfield 16, 3) := by decide +kernel
theorem dX12_init_28 : decode cX12_init 28 = .ok (.aload_n 0, 1) := by decide +kernel
theorem dX12_init_29 : decode cX12_init 29 = .ok (.bipush 7, 2) := by decide +kernel
theorem dX12_init_31 : decode cX12_init 31 = .ok (.newarray .int, 2) := by decide +kernel
theorem dX12_init_33 : decode cX12_init 33 = .ok (.putfield 19, 3) := by decide +kernel
theorem dX12_init_36 : decode cX12_init 36 = .ok (.aload_n 0, 1) := by decide +kernel
theorem dX12_init_37 : decode cX12_init 37 = .ok (.bipush 120, 2) := by decide +kernel
theorem dX12_init_39 : decode cX12_init 39 = .ok (.newarray .int, 2) := by decide +kernel
theorem dX12_init_41 : decode cX12_init 41 = .ok (.putfield 22, 3) := by decide +kernel
theorem dX12_init_44 : decode cX12_init 44 = .ok (.aload_n 0, 1) := by decide +kernel
theorem dX12_init_45 : decode cX12_init 45 = .ok (.iconst 4, 1) := by decide +kernel
theorem dX12_init_46 : decode cX12_init 46 = .ok (.newarray .int, 2) := by decide +kernel
theorem dX12_init_48 : decode cX12_init 48 = .ok (.putfield 25, 3) := by decide +kernel
theorem dX12_init_51 : decode cX12_init 51 = .ok (.aload_n 0, 1) := by decide +kernel
theorem dX12_init_52 : decode cX12_init 52 = .ok (.iconst 4, 1) := by decide +kernel
theorem dX12_init_53 : decode cX12_init 53 = .ok (.newarray .int, 2) := by decide +kernel
theorem dX12_init_55 : decode cX12_init 55 = .ok (.putfield 28, 3) := by decide +kernel
theorem dX12_init_58 : decode cX12_init 58 = .ok (.aload_n 0, 1) := by decide +kernel
theorem dX12_init_59 : decode cX12_init 59 = .ok (.sipush 160, 3) := by decide +kernel
theorem dX12_init_62 : decode cX12_init 62 = .ok (.newarray .long, 2) := by decide +kernel
theorem dX12_init_64 : decode cX12_init 64 = .ok (.putfield 31, 3) := by decide +kernel
theorem dX12_init_67 : decode cX12_init 67 = .ok (.aload_n 0, 1) := by decide +kernel
theorem dX12_init_68 : decode cX12_init 68 = .ok (.getfield 9, 3) := by decide +kernel
theorem dX12_init_71 : decode cX12_init 71 = .ok (.iconst 1, 1) := by decide +kernel
theorem dX12_init_72 : decode cX12_init 72 = .ok (.iconst 3, 1) := by decide +kernel
theorem dX12_init_73 : decode cX12_init 73 = .ok (.iastore, 1) := by decide +kernel
theorem dX12_init_74 : decode cX12_init 74 = .ok (.return_, 1) := by decide +kernel
theorem dX12_finds_0 : decode cX12_finds 0 = .ok (.aload_n 0, 1) := by decide +kernel
theorem dX12_finds_1 : decode cX12_finds 1 = .ok (.getfield 19, 3) := by decide +kernel
theorem dX12_finds_4 : decode cX12_finds 4 = .ok (.ldc 35, 2) := by decide +kernel
theorem dX12_finds_6 : decode cX12_finds 6 = .ok (.iload_n 1, 1) := by decide +kernel
theorem dX12_finds_7 : decode cX12_finds 7 = .ok (.isub, 1) := by decide +kernel
theorem dX12_finds_8 : decode cX12_finds 8 = .ok (.dup2, 1) := by decide +kernel
theorem dX12_finds_9 : decode cX12_finds 9 = .ok (.iaload, 1) := by decide +kernel
theorem dX12_finds_10 : decode cX12_finds 10 = .ok (.iconst 1, 1) := by decide +kernel
theorem dX12_finds_11 : decode cX12_finds 11 = .ok (.iadd, 1) := by decide +kernel
theorem dX12_finds_12 : decode cX12_finds 12 = .ok (.iastore, 1) := by decide +kernel
theorem dX12_finds_13 : decode cX12_finds 13 = .ok (.iload_n 1, 1) := by decide +kernel
theorem dX12_finds_14 : decode cX12_finds 14 = .ok (.ireturn, 1) := by decide +kernel
theorem dX12_orNone_0 : decode cX12_orNone 0 = .ok (.iload_n 1, 1) := by decide +kernel
theorem dX12_orNone_1 : decode cX12_orNone 1 = .ok (.ifCond .ge 12, 3) := by decide +kernel
theorem dX12_orNone_4 : decode cX12_orNone 4 = .ok (.aload_n 0, 1) := by decide +kernel
theorem dX12_orNone_5 : decode cX12_orNone 5 = .ok (.ldc 36, 2) := by decide +kernel
theorem dX12_orNone_7 : decode cX12_orNone 7 = .ok (.invokevirtual 37, 3) := by decide +kernel
theorem dX12_orNone_10 : decode cX12_orNone 10 = .ok (.goto 4, 3) := by decide +kernel
theorem dX12_orNone_13 : decode cX12_orNone 13 = .ok (.iload_n 1, 1) := by decide +kernel
theorem dX12_orNone_14 : decode cX12_orNone 14 = .ok (.ireturn, 1) := by decide +kernel
theorem dX12_in_0 : decode cX12_in 0 = .ok (.lload_n 0, 1) := by decide +kernel
theorem dX12_in_1 : decode cX12_in 1 = .ok (.iload_n 2, 1) := by decide +kernel
theorem dX12_in_2 : decode cX12_in 2 = .ok (.i2l, 1) := by decide +kernel
theorem dX12_in_3 : decode cX12_in 3 = .ok (.lcmp, 1) := by decide +kernel
theorem dX12_in_4 : decode cX12_in 4 = .ok (.ifCond .lt 14, 3) := by decide +kernel
theorem dX12_in_7 : decode cX12_in 7 = .ok (.lload_n 0, 1) := by decide +kernel
theorem dX12_in_8 : decode cX12_in 8 = .ok (.iload_n 3, 1) := by decide +kernel
theorem dX12_in_9 : decode cX12_in 9 = .ok (.i2l, 1) := by decide +kernel
theorem dX12_in_10 : decode cX12_in 10 = .ok (.lcmp, 1) := by decide +kernel
theorem dX12_in_11 : decode cX12_in 11 = .ok (.ifCond .gt 7, 3) := by decide +kernel
theorem dX12_in_14 : decode cX12_in 14 = .ok (.iconst 1, 1) := by decide +kernel
theorem dX12_in_15 : decode cX12_in 15 = .ok (.goto 4, 3) := by decide +kernel
theorem dX12_in_18 : decode cX12_in 18 = .ok (.iconst 0, 1) := by decide +kernel
theorem dX12_in_19 : decode cX12_in 19 = .ok (.ireturn, 1) := by decide +kernel
theorem dX12_held_0 : decode cX12_held 0 = .ok (.iload_n 0, 1) := by decide +kernel
theorem dX12_held_1 : decode cX12_held 1 = .ok (.iload_n 1, 1) := by decide +kernel
theorem dX12_held_2 : decode cX12_held 2 = .ok (.if_icmp .ge 7, 3) := by decide +kernel
theorem dX12_held_5 : decode cX12_held 5 = .ok (.iload_n 1, 1) := by decide +kernel
theorem dX12_held_6 : decode cX12_held 6 = .ok (.goto 13, 3) := by decide +kernel
theorem dX12_held_9 : decode cX12_held 9 = .ok (.iload_n 0, 1) := by decide +kernel
theorem dX12_held_10 : decode cX12_held 10 = .ok (.iload_n 2, 1) := by decide +kernel
theorem dX12_held_11 : decode cX12_held 11 = .ok (.if_icmp .le 7, 3) := by decide +kernel
theorem dX12_held_14 : decode cX12_held 14 = .ok (.iload_n 2, 1) := by decide +kernel
theorem dX12_held_15 : decode cX12_held 15 = .ok (.goto 4, 3) := by decide +kernel
theorem dX12_held_18 : decode cX12_held 18 = .ok (.iload_n 0, 1) := by decide +kernel
theorem dX12_held_19 : decode cX12_held 19 = .ok (.ireturn, 1) := by decide +kernel
theorem dX12_copyAll_0 : decode cX12_copyAll 0 = .ok (.iconst 0, 1) := by decide +kernel
theorem dX12_copyAll_1 : decode cX12_copyAll 1 = .ok (.istore_n 2, 1) := by decide +kernel
theorem dX12_copyAll_2 : decode cX12_copyAll 2 = .ok (.iload_n 2, 1) := by decide +kernel
theorem dX12_copyAll_3 : decode cX12_copyAll 3 = .ok (.bipush 106, 2) := by decide +kernel
theorem dX12_copyAll_5 : decode cX12_copyAll 5 = .ok (.if_icmp .ge 15, 3) := by decide +kernel
theorem dX12_copyAll_8 : decode cX12_copyAll 8 = .ok (.aload_n 1, 1) := by decide +kernel
theorem dX12_copyAll_9 : decode cX12_copyAll 9 = .ok (.iload_n 2, 1) := by decide +kernel
theorem dX12_copyAll_10 : decode cX12_copyAll 10 = .ok (.aload_n 0, 1) := by decide +kernel
theorem dX12_copyAll_11 : decode cX12_copyAll 11 = .ok (.iload_n 2, 1) := by decide +kernel
theorem dX12_copyAll_12 : decode cX12_copyAll 12 = .ok (.iaload, 1) := by decide +kernel
theorem dX12_copyAll_13 : decode cX12_copyAll 13 = .ok (.iastore, 1) := by decide +kernel
theorem dX12_copyAll_14 : decode cX12_copyAll 14 = .ok (.iinc 2 1, 3) := by decide +kernel
theorem dX12_copyAll_17 : decode cX12_copyAll 17 = .ok (.goto (-15), 3) := by decide +kernel
theorem dX12_copyAll_20 : decode cX12_copyAll 20 = .ok (.return_, 1) := by decide +kernel
theorem dX12_bits_0 : decode cX12_bits 0 = .ok (.iconst 0, 1) := by decide +kernel
theorem dX12_bits_1 : decode cX12_bits 1 = .ok (.istore_n 1, 1) := by decide +kernel
theorem dX12_bits_2 : decode cX12_bits 2 = .ok (.iload_n 0, 1) := by decide +kernel
theorem dX12_bits_3 : decode cX12_bits 3 = .ok (.istore_n 2, 1) := by decide +kernel
theorem dX12_bits_4 : decode cX12_bits 4 = .ok (.iload_n 2, 1) := by decide +kernel
theorem dX12_bits_5 : decode cX12_bits 5 = .ok (.ifCond .eq 15, 3) := by decide +kernel
theorem dX12_bits_8 : decode cX12_bits 8 = .ok (.iinc 1 1, 3) := by decide +kernel
theorem dX12_bits_11 : decode cX12_bits 11 = .ok (.iload_n 2, 1) := by decide +kernel
theorem dX12_bits_12 : decode cX12_bits 12 = .ok (.iload_n 2, 1) := by decide +kernel
theorem dX12_bits_13 : decode cX12_bits 13 = .ok (.iconst 1, 1) := by decide +kernel
theorem dX12_bits_14 : decode cX12_bits 14 = .ok (.isub, 1) := by decide +kernel
theorem dX12_bits_15 : decode cX12_bits 15 = .ok (.iand, 1) := by decide +kernel
theorem dX12_bits_16 : decode cX12_bits 16 = .ok (.istore_n 2, 1) := by decide +kernel
theorem dX12_bits_17 : decode cX12_bits 17 = .ok (.goto (-13), 3) := by decide +kernel
theorem dX12_bits_20 : decode cX12_bits 20 = .ok (.iload_n 1, 1) := by decide +kernel
theorem dX12_bits_21 : decode cX12_bits 21 = .ok (.ireturn, 1) := by decide +kernel
theorem dX12_becomes_0 : decode cX12_becomes 0 = .ok (.aload_n 0, 1) := by decide +kernel
theorem dX12_becomes_1 : decode cX12_becomes 1 = .ok (.getfield 9, 3) := by decide +kernel
theorem dX12_becomes_4 : decode cX12_becomes 4 = .ok (.iload_n 1, 1) := by decide +kernel
theorem dX12_becomes_5 : decode cX12_becomes 5 = .ok (.iaload, 1) := by decide +kernel
theorem dX12_becomes_6 : decode cX12_becomes 6 = .ok (.istore_n 3, 1) := by decide +kernel
theorem dX12_becomes_7 : decode cX12_becomes 7 = .ok (.aload_n 0, 1) := by decide +kernel
theorem dX12_becomes_8 : decode cX12_becomes 8 = .ok (.getfield 9, 3) := by decide +kernel
theorem dX12_becomes_11 : decode cX12_becomes 11 = .ok (.iload_n 1, 1) := by decide +kernel
theorem dX12_becomes_12 : decode cX12_becomes 12 = .ok (.iload_n 2, 1) := by decide +kernel
theorem dX12_becomes_13 : decode cX12_becomes 13 = .ok (.iastore, 1) := by decide +kernel
theorem dX12_becomes_14 : decode cX12_becomes 14 = .ok (.iload_n 3, 1) := by decide +kernel
theorem dX12_becomes_15 : decode cX12_becomes 15 = .ok (.ireturn, 1) := by decide +kernel
theorem dX12_isSlip_0 : decode cX12_isSlip 0 = .ok (.iload_n 1, 1) := by decide +kernel
theorem dX12_isSlip_1 : decode cX12_isSlip 1 = .ok (.i2l, 1) := by decide +kernel
theorem dX12_isSlip_2 : decode cX12_isSlip 2 = .ok (.iconst 0, 1) := by decide +kernel
theorem dX12_isSlip_3 : decode cX12_isSlip 3 = .ok (.aload_n 0, 1) := by decide +kernel
theorem dX12_isSlip_4 : decode cX12_isSlip 4 = .ok (.getfield 9, 3) := by decide +kernel
theorem dX12_isSlip_7 : decode cX12_isSlip 7 = .ok (.iconst 2, 1) := by decide +kernel
theorem dX12_isSlip_8 : decode cX12_isSlip 8 = .ok (.iaload, 1) := by decide +kernel
theorem dX12_isSlip_9 : decode cX12_isSlip 9 = .ok (.iconst 1, 1) := by decide +kernel
theorem dX12_isSlip_10 : decode cX12_isSlip 10 = .ok (.isub, 1) := by decide +kernel
theorem dX12_isSlip_11 : decode cX12_isSlip 11 = .ok (.invokestatic 41, 3) := by decide +kernel
theorem dX12_isSlip_14 : decode cX12_isSlip 14 = .ok (.ireturn, 1) := by decide +kernel
theorem dX12_isPerson_0 : decode cX12_isPerson 0 = .ok (.iload_n 1, 1) := by decide +kernel
theorem dX12_isPerson_1 : decode cX12_isPerson 1 = .ok (.i2l, 1) := by decide +kernel
theorem dX12_isPerson_2 : decode cX12_isPerson 2 = .ok (.iconst 0, 1) := by decide +kernel
theorem dX12_isPerson_3 : decode cX12_isPerson 3 = .ok (.aload_n 0, 1) := by decide +kernel
theorem dX12_isPerson_4 : decode cX12_isPerson 4 = .ok (.getfield 9, 3) := by decide +kernel
theorem dX12_isPerson_7 : decode cX12_isPerson 7 = .ok (.iconst 3, 1) := by decide +kernel
theorem dX12_isPerson_8 : decode cX12_isPerson 8 = .ok (.iaload, 1) := by decide +kernel
theorem dX12_isPerson_9 : decode cX12_isPerson 9 = .ok (.iconst 1, 1) := by decide +kernel
theorem dX12_isPerson_10 : decode cX12_isPerson 10 = .ok (.isub, 1) := by decide +kernel
theorem dX12_isPerson_11 : decode cX12_isPerson 11 = .ok (.invokestatic 41, 3) := by decide +kernel
theorem dX12_isPerson_14 : decode cX12_isPerson 14 = .ok (.ireturn, 1) := by decide +kernel
theorem dX12_it_0 : decode cX12_it 0 = .ok (.aload_n 0, 1) := by decide +kernel
theorem dX12_it_1 : decode cX12_it 1 = .ok (.getfield 9, 3) := by decide +kernel
theorem dX12_it_4 : decode cX12_it 4 = .ok (.iconst 4, 1) := by decide +kernel
theorem dX12_it_5 : decode cX12_it 5 = .ok (.iconst 3, 1) := by decide +kernel
theorem dX12_it_6 : decode cX12_it 6 = .ok (.iload_n 1, 1) := by decide +kernel
theorem dX12_it_7 : decode cX12_it 7 = .ok (.imul, 1) := by decide +kernel
theorem dX12_it_8 : decode cX12_it 8 = .ok (.iadd, 1) := by decide +kernel
theorem dX12_it_9 : decode cX12_it 9 = .ok (.iload_n 2, 1) := by decide +kernel
theorem dX12_it_10 : decode cX12_it 10 = .ok (.iadd, 1) := by decide +kernel
theorem dX12_it_11 : decode cX12_it 11 = .ok (.iaload, 1) := by decide +kernel
theorem dX12_it_12 : decode cX12_it 12 = .ok (.ireturn, 1) := by decide +kernel
theorem dX12_put_0 : decode cX12_put 0 = .ok (.aload_n 0, 1) := by decide +kernel
theorem dX12_put_1 : decode cX12_put 1 = .ok (.getfield 9, 3) := by decide +kernel
theorem dX12_put_4 : decode cX12_put 4 = .ok (.iconst 4, 1) := by decide +kernel
theorem dX12_put_5 : decode cX12_put 5 = .ok (.iconst 3, 1) := by decide +kernel
theorem dX12_put_6 : decode cX12_put 6 = .ok (.iload_n 1, 1) := by decide +kernel
theorem dX12_put_7 : decode cX12_put 7 = .ok (.imul, 1) := by decide +kernel
theorem dX12_put_8 : decode cX12_put 8 = .ok (.iadd, 1) := by decide +kernel
theorem dX12_put_9 : decode cX12_put 9 = .ok (.iload_n 2, 1) := by decide +kernel
theorem dX12_put_10 : decode cX12_put 10 = .ok (.iadd, 1) := by decide +kernel
theorem dX12_put_11 : decode cX12_put 11 = .ok (.iload_n 3, 1) := by decide +kernel
theorem dX12_put_12 : decode cX12_put 12 = .ok (.iastore, 1) := by decide +kernel
theorem dX12_put_13 : decode cX12_put 13 = .ok (.return_, 1) := by decide +kernel
theorem dX12_who_0 : decode cX12_who 0 = .ok (.aload_n 0, 1) := by decide +kernel
theorem dX12_who_1 : decode cX12_who 1 = .ok (.getfield 9, 3) := by decide +kernel
theorem dX12_who_4 : decode cX12_who 4 = .ok (.bipush 34, 2) := by decide +kernel
theorem dX12_who_6 : decode cX12_who 6 = .ok (.bipush 12, 2) := by decide +kernel
theorem dX12_who_8 : decode cX12_who 8 = .ok (.iload_n 1, 1) := by decide +kernel
theorem dX12_who_9 : decode cX12_who 9 = .ok (.imul, 1) := by decide +kernel
theorem dX12_who_10 : decode cX12_who 10 = .ok (.iadd, 1) := by decide +kernel
theorem dX12_who_11 : decode cX12_who 11 = .ok (.iload_n 2, 1) := by decide +kernel
theorem dX12_who_12 : decode cX12_who 12 = .ok (.iadd, 1) := by decide +kernel
theorem dX12_who_13 : decode cX12_who 13 = .ok (.iaload, 1) := by decide +kernel
theorem dX12_who_14 : decode cX12_who 14 = .ok (.ireturn, 1) := by decide +kernel
theorem dX12_wish_0 : decode cX12_wish 0 = .ok (.aload_n 0, 1) := by decide +kernel
theorem dX12_wish_1 : decode cX12_wish 1 = .ok (.iload_n 1, 1) := by decide +kernel
theorem dX12_wish_2 : decode cX12_wish 2 = .ok (.iconst 2, 1) := by decide +kernel
theorem dX12_wish_3 : decode cX12_wish 3 = .ok (.iload_n 2, 1) := by decide +kernel
theorem dX12_wish_4 : decode cX12_wish 4 = .ok (.iadd, 1) := by decide +kernel
theorem dX12_wish_5 : decode cX12_wish 5 = .ok (.invokevirtual 45, 3) := by decide +kernel
theorem dX12_wish_8 : decode cX12_wish 8 = .ok (.ireturn, 1) := by decide +kernel
theorem dX12_mayTouch_0 : decode cX12_mayTouch 0 = .ok (.aload_n 0, 1) := by decide +kernel
theorem dX12_mayTouch_1 : decode cX12_mayTouch 1 = .ok (.iload_n 2, 1) := by decide +kernel
theorem dX12_mayTouch_2 : decode cX12_mayTouch 2 = .ok (.iconst 1, 1) := by decide +kernel
theorem dX12_mayTouch_3 : decode cX12_mayTouch 3 = .ok (.invokevirtual 49, 3) := by decide +kernel
theorem dX12_mayTouch_6 : decode cX12_mayTouch 6 = .ok (.istore_n 3, 1) := by decide +kernel
theorem dX12_mayTouch_7 : decode cX12_mayTouch 7 = .ok (.iload_n 3, 1) := by decide +kernel
theorem dX12_mayTouch_8 : decode cX12_mayTouch 8 = .ok (.aload_n 0, 1) := by decide +kernel
theorem dX12_mayTouch_9 : decode cX12_mayTouch 9 = .ok (.getfield 9, 3) := by decide +kernel
theorem dX12_mayTouch_12 : decode cX12_mayTouch 12 = .ok (.iconst 1, 1) := by decide +kernel
theorem dX12_mayTouch_13 : decode cX12_mayTouch 13 = .ok (.iaload, 1) := by decide +kernel
theorem dX12_mayTouch_14 : decode cX12_mayTouch 14 = .ok (.if_icmp .ge 7, 3) := by decide +kernel
theorem dX12_mayTouch_17 : decode cX12_mayTouch 17 = .ok (.iconst 1, 1) := by decide +kernel
theorem dX12_mayTouch_18 : decode cX12_mayTouch 18 = .ok (.goto 4, 3) := by decide +kernel
theorem dX12_mayTouch_21 : decode cX12_mayTouch 21 = .ok (.iconst 0, 1) := by decide +kernel
theorem dX12_mayTouch_22 : decode cX12_mayTouch 22 = .ok (.istore 4, 2) := by decide +kernel
theorem dX12_mayTouch_24 : decode cX12_mayTouch 24 = .ok (.iload 4, 2) := by decide +kernel
theorem dX12_mayTouch_26 : decode cX12_mayTouch 26 = .ok (.ifCond .eq 11, 3) := by decide +kernel
theorem dX12_mayTouch_29 : decode cX12_mayTouch 29 = .ok (.iload_n 3, 1) := by decide +kernel
theorem dX12_mayTouch_30 : decode cX12_mayTouch 30 = .ok (.ifCond .ne 7, 3) := by decide +kernel
theorem dX12_mayTouch_33 : decode cX12_mayTouch 33 = .ok (.iconst 1, 1) := by decide +kernel
theorem dX12_mayTouch_34 : decode cX12_mayTouch 34 = .ok (.goto 4, 3) := by decide +kernel
theorem dX12_mayTouch_37 : decode cX12_mayTouch 37 = .ok (.iconst 0, 1) := by decide +kernel
theorem dX12_mayTouch_38 : decode cX12_mayTouch 38 = .ok (.istore 5, 2) := by decide +kernel
theorem dX12_mayTouch_40 : decode cX12_mayTouch 40 = .ok (.aload_n 0, 1) := by decide +kernel
theorem dX12_mayTouch_41 : decode cX12_mayTouch 41 = .ok (.iload_n 2, 1) := by decide +kernel
theorem dX12_mayTouch_42 : decode cX12_mayTouch 42 = .ok (.iconst 2, 1) := by decide +kernel
theorem dX12_mayTouch_43 : decode cX12_mayTouch 43 = .ok (.invokevirtual 49, 3) := by decide +kernel
theorem dX12_mayTouch_46 : decode cX12_mayTouch 46 = .ok (.iconst 1, 1) := by decide +kernel
theorem dX12_mayTouch_47 : decode cX12_mayTouch 47 = .ok (.if_icmp .ne 5, 3) := by decide +kernel
theorem dX12_mayTouch_50 : decode cX12_mayTouch 50 = .ok (.iconst 0, 1) := by decide +kernel
theorem dX12_mayTouch_51 : decode cX12_mayTouch 51 = .ok (.ireturn, 1) := by decide +kernel
theorem dX12_mayTouch_52 : decode cX12_mayTouch 52 = .ok (.aload_n 0, 1) := by decide +kernel
theorem dX12_mayTouch_53 : decode cX12_mayTouch 53 = .ok (.iload_n 1, 1) := by decide +kernel
theorem dX12_mayTouch_54 : decode cX12_mayTouch 54 = .ok (.iconst 0, 1) := by decide +kernel
theorem dX12_mayTouch_55 : decode cX12_mayTouch 55 = .ok (.invokevirtual 45, 3) := by decide +kernel
theorem dX12_mayTouch_58 : decode cX12_mayTouch 58 = .ok (.tableswitch 83 1 5 #[34, 50, 53, 34, 55], 34) := by decide +kernel
theorem dX12_mayTouch_92 : decode cX12_mayTouch 92 = .ok (.iload 4, 2) := by decide +kernel
theorem dX12_mayTouch_94 : decode cX12_mayTouch 94 = .ok (.ifCond .ne 8, 3) := by decide +kernel
theorem dX12_mayTouch_97 : decode cX12_mayTouch 97 = .ok (.iload_n 3, 1) := by decide +kernel
theorem dX12_mayTouch_98 : decode cX12_mayTouch 98 = .ok (.iconst 2, 1) := by decide +kernel
theorem dX12_mayTouch_99 : decode cX12_mayTouch 99 = .ok (.if_icmp .ge 7, 3) := by decide +kernel
theorem dX12_mayTouch_102 : decode cX12_mayTouch 102 = .ok (.iconst 1, 1) := by decide +kernel
theorem dX12_mayTouch_103 : decode cX12_mayTouch 103 = .ok (.goto 4, 3) := by decide +kernel
theorem dX12_mayTouch_106 : decode cX12_mayTouch 106 = .ok (.iconst 0, 1) := by decide +kernel
theorem dX12_mayTouch_107 : decode cX12_mayTouch 107 = .ok (.ireturn, 1) := by decide +kernel
theorem dX12_mayTouch_108 : decode cX12_mayTouch 108 = .ok (.iload 5, 2) := by decide +kernel
theorem dX12_mayTouch_110 : decode cX12_mayTouch 110 = .ok (.ireturn, 1) := by decide +kernel
theorem dX12_mayTouch_111 : decode cX12_mayTouch 111 = .ok (.iconst 1, 1) := by decide +kernel
theorem dX12_mayTouch_112 : decode cX12_mayTouch 112 = .ok (.ireturn, 1) := by decide +kernel
theorem dX12_mayTouch_113 : decode cX12_mayTouch 113 = .ok (.iload 5, 2) := by decide +kernel
theorem dX12_mayTouch_115 : decode cX12_mayTouch 115 = .ok (.ifCond .ne 20, 3) := by decide +kernel
theorem dX12_mayTouch_118 : decode cX12_mayTouch 118 = .ok (.aload_n 0, 1) := by decide +kernel
theorem dX12_mayTouch_119 : decode cX12_mayTouch 119 = .ok (.getfield 9, 3) := by decide +kernel
theorem dX12_mayTouch_122 : decode cX12_mayTouch 122 = .ok (.iconst 0, 1) := by decide +kernel
theorem dX12_mayTouch_123 : decode cX12_mayTouch 123 = .ok (.iaload, 1) := by decide +kernel
theorem dX12_mayTouch_124 : decode cX12_mayTouch 124 = .ok (.iconst 2, 1) := by decide +kernel
theorem dX12_mayTouch_125 : decode cX12_mayTouch 125 = .ok (.irem, 1) := by decide +kernel
theorem dX12_mayTouch_126 : decode cX12_mayTouch 126 = .ok (.iconst 1, 1) := by decide +kernel
theorem dX12_mayTouch_127 : decode cX12_mayTouch 127 = .ok (.if_icmp .ne 12, 3) := by decide +kernel
theorem dX12_mayTouch_130 : decode cX12_mayTouch 130 = .ok (.iload 4, 2) := by decide +kernel
theorem dX12_mayTouch_132 : decode cX12_mayTouch 132 = .ok (.ifCond .eq 7, 3) := by decide +kernel
theorem dX12_mayTouch_135 : decode cX12_mayTouch 135 = .ok (.iconst 1, 1) := by decide +kernel
theorem dX12_mayTouch_136 : decode cX12_mayTouch 136 = .ok (.goto 4, 3) := by decide +kernel
theorem dX12_mayTouch_139 : decode cX12_mayTouch 139 = .ok (.iconst 0, 1) := by decide +kernel
theorem dX12_mayTouch_140 : decode cX12_mayTouch 140 = .ok (.ireturn, 1) := by decide +kernel
theorem dX12_mayTouch_141 : decode cX12_mayTouch 141 = .ok (.iload 4, 2) := by decide +kernel
theorem dX12_mayTouch_143 : decode cX12_mayTouch 143 = .ok (.ireturn, 1) := by decide +kernel
theorem dX12_prefers_0 : decode cX12_prefers 0 = .ok (.aload_n 0, 1) := by decide +kernel
theorem dX12_prefers_1 : decode cX12_prefers 1 = .ok (.iload_n 1, 1) := by decide +kernel
theorem dX12_prefers_2 : decode cX12_prefers 2 = .ok (.iconst 0, 1) := by decide +kernel
theorem dX12_prefers_3 : decode cX12_prefers 3 = .ok (.invokevirtual 45, 3) := by decide +kernel
theorem dX12_prefers_6 : decode cX12_prefers 6 = .ok (.tableswitch 53 1 4 #[30, 53, 32, 30], 30) := by decide +kernel
theorem dX12_prefers_36 : decode cX12_prefers 36 = .ok (.iconst 1, 1) := by decide +kernel
theorem dX12_prefers_37 : decode cX12_prefers 37 = .ok (.ireturn, 1) := by decide +kernel
theorem dX12_prefers_38 : decode cX12_prefers 38 = .ok (.aload_n 0, 1) := by decide +kernel
theorem dX12_prefers_39 : decode cX12_prefers 39 = .ok (.iload_n 2, 1) := by decide +kernel
theorem dX12_prefers_40 : decode cX12_prefers 40 = .ok (.iconst 1, 1) := by decide +kernel
theorem dX12_prefers_41 : decode cX12_prefers 41 = .ok (.invokevirtual 49, 3) := by decide +kernel
theorem dX12_prefers_44 : decode cX12_prefers 44 = .ok (.aload_n 0, 1) := by decide +kernel
theorem dX12_prefers_45 : decode cX12_prefers 45 = .ok (.iload_n 3, 1) := by decide +kernel
theorem dX12_prefers_46 : decode cX12_prefers 46 = .ok (.iconst 1, 1) := by decide +kernel
theorem dX12_prefers_47 : decode cX12_prefers 47 = .ok (.invokevirtual 49, 3) := by decide +kernel
theorem dX12_prefers_50 : decode cX12_prefers 50 = .ok (.if_icmp .le 7, 3) := by decide +kernel
theorem dX12_prefers_53 : decode cX12_prefers 53 = .ok (.iconst 1, 1) := by decide +kernel
theorem dX12_prefers_54 : decode cX12_prefers 54 = .ok (.goto 4, 3) := by decide +kernel
theorem dX12_prefers_57 : decode cX12_prefers 57 = .ok (.iconst 0, 1) := by decide +kernel
theorem dX12_prefers_58 : decode cX12_prefers 58 = .ok (.ireturn, 1) := by decide +kernel
theorem dX12_prefers_59 : decode cX12_prefers 59 = .ok (.iconst 0, 1) := by decide +kernel
theorem dX12_prefers_60 : decode cX12_prefers 60 = .ok (.ireturn, 1) := by decide +kernel
theorem dX12_picked_0 : decode cX12_picked 0 = .ok (.iconst (-1), 1) := by decide +kernel
theorem dX12_picked_1 : decode cX12_picked 1 = .ok (.istore_n 2, 1) := by decide +kernel
theorem dX12_picked_2 : decode cX12_picked 2 = .ok (.iconst 0, 1) := by decide +kernel
theorem dX12_picked_3 : decode cX12_picked 3 = .ok (.istore_n 3, 1) := by decide +kernel
theorem dX12_picked_4 : decode cX12_picked 4 = .ok (.iload_n 3, 1) := by decide +kernel
theorem dX12_picked_5 : decode cX12_picked 5 = .ok (.aload_n 0, 1) := by decide +kernel
theorem dX12_picked_6 : decode cX12_picked 6 = .ok (.getfield 9, 3) := by decide +kernel
theorem dX12_picked_9 : decode cX12_picked 9 = .ok (.iconst 2, 1) := by decide +kernel
theorem dX12_picked_10 : decode cX12_picked 10 = .ok (.iaload, 1) := by decide +kernel
theorem dX12_picked_11 : decode cX12_picked 11 = .ok (.if_icmp .ge 65, 3) := by decide +kernel
theorem dX12_picked_14 : decode cX12_picked 14 = .ok (.aload_n 0, 1) := by decide +kernel
theorem dX12_picked_15 : decode cX12_picked 15 = .ok (.iload_n 3, 1) := by decide +kernel
theorem dX12_picked_16 : decode cX12_picked 16 = .ok (.iconst 0, 1) := by decide +kernel
theorem dX12_picked_17 : decode cX12_picked 17 = .ok (.invokevirtual 49, 3) := by decide +kernel
theorem dX12_picked_20 : decode cX12_picked 20 = .ok (.aload_n 0, 1) := by decide +kernel
theorem dX12_picked_21 : decode cX12_picked 21 = .ok (.iload_n 1, 1) := by decide +kernel
theorem dX12_picked_22 : decode cX12_picked 22 = .ok (.iload_n 3, 1) := by decide +kernel
theorem dX12_picked_23 : decode cX12_picked 23 = .ok (.invokevirtual 52, 3) := by decide +kernel
theorem dX12_picked_26 : decode cX12_picked 26 = .ok (.if_icmp .eq 16, 3) := by decide +kernel
theorem dX12_picked_29 : decode cX12_picked 29 = .ok (.aload_n 0, 1) := by decide +kernel
theorem dX12_picked_30 : decode cX12_picked 30 = .ok (.iload_n 1, 1) := by decide +kernel
theorem dX12_picked_31 : decode cX12_picked 31 = .ok (.iload_n 3, 1) := by decide +kernel
theorem dX12_picked_32 : decode cX12_picked 32 = .ok (.invokevirtual 55, 3) := by decide +kernel
theorem dX12_picked_35 : decode cX12_picked 35 = .ok (.ifCond .eq 7, 3) := by decide +kernel
theorem dX12_picked_38 : decode cX12_picked 38 = .ok (.iconst 1, 1) := by decide +kernel
theorem dX12_picked_39 : decode cX12_picked 39 = .ok (.goto 4, 3) := by decide +kernel
theorem dX12_picked_42 : decode cX12_picked 42 = .ok (.iconst 0, 1) := by decide +kernel
theorem dX12_picked_43 : decode cX12_picked 43 = .ok (.istore 4, 2) := by decide +kernel
theorem dX12_picked_45 : decode cX12_picked 45 = .ok (.iload 4, 2) := by decide +kernel
theorem dX12_picked_47 : decode cX12_picked 47 = .ok (.ifCond .eq 21, 3) := by decide +kernel
theorem dX12_picked_50 : decode cX12_picked 50 = .ok (.iload_n 2, 1) := by decide +kernel
theorem dX12_picked_51 : decode cX12_picked 51 = .ok (.ifCond .lt 13, 3) := by decide +kernel
theorem dX12_picked_54 : decode cX12_picked 54 = .ok (.aload_n 0, 1) := by decide +kernel
theorem dX12_picked_55 : decode cX12_picked 55 = .ok (.iload_n 1, 1) := by decide +kernel
theorem dX12_picked_56 : decode cX12_picked 56 = .ok (.iload_n 3, 1) := by decide +kernel
theorem dX12_picked_57 : decode cX12_picked 57 = .ok (.iload_n 2, 1) := by decide +kernel
theorem dX12_picked_58 : decode cX12_picked 58 = .ok (.invokevirtual 59, 3) := by decide +kernel
theorem dX12_picked_61 : decode cX12_picked 61 = .ok (.ifCond .eq 7, 3) := by decide +kernel
theorem dX12_picked_64 : decode cX12_picked 64 = .ok (.iload_n 3, 1) := by decide +kernel
theorem dX12_picked_65 : decode cX12_picked 65 = .ok (.goto 4, 3) := by decide +kernel
theorem dX12_picked_68 : decode cX12_picked 68 = .ok (.iload_n 2, 1) := by decide +kernel
theorem dX12_picked_69 : decode cX12_picked 69 = .ok (.istore_n 2, 1) := by decide +kernel
theorem dX12_picked_70 : decode cX12_picked 70 = .ok (.iinc 3 1, 3) := by decide +kernel
theorem dX12_picked_73 : decode cX12_picked 73 = .ok (.goto (-69), 3) := by decide +kernel
theorem dX12_picked_76 : decode cX12_picked 76 = .ok (.iload_n 2, 1) := by decide +kernel
theorem dX12_picked_77 : decode cX12_picked 77 = .ok (.ireturn, 1) := by decide +kernel
theorem dX12_turnsOf_0 : decode cX12_turnsOf 0 = .ok (.aload_n 0, 1) := by decide +kernel
theorem dX12_turnsOf_1 : decode cX12_turnsOf 1 = .ok (.iload_n 1, 1) := by decide +kernel
theorem dX12_turnsOf_2 : decode cX12_turnsOf 2 = .ok (.iconst 0, 1) := by decide +kernel
theorem dX12_turnsOf_3 : decode cX12_turnsOf 3 = .ok (.invokevirtual 45, 3) := by decide +kernel
theorem dX12_turnsOf_6 : decode cX12_turnsOf 6 = .ok (.iconst 1, 1) := by decide +kernel
theorem dX12_turnsOf_7 : decode cX12_turnsOf 7 = .ok (.if_icmp .ne 7, 3) := by decide +kernel
theorem dX12_turnsOf_10 : decode cX12_turnsOf 10 = .ok (.iconst 2, 1) := by decide +kernel
theorem dX12_turnsOf_11 : decode cX12_turnsOf 11 = .ok (.goto 18, 3) := by decide +kernel
theorem dX12_turnsOf_14 : decode cX12_turnsOf 14 = .ok (.aload_n 0, 1) := by decide +kernel
theorem dX12_turnsOf_15 : decode cX12_turnsOf 15 = .ok (.iload_n 1, 1) := by decide +kernel
theorem dX12_turnsOf_16 : decode cX12_turnsOf 16 = .ok (.iconst 0, 1) := by decide +kernel
theorem dX12_turnsOf_17 : decode cX12_turnsOf 17 = .ok (.invokevirtual 45, 3) := by decide +kernel
theorem dX12_turnsOf_20 : decode cX12_turnsOf 20 = .ok (.iconst 4, 1) := by decide +kernel
theorem dX12_turnsOf_21 : decode cX12_turnsOf 21 = .ok (.if_icmp .ne 7, 3) := by decide +kernel
theorem dX12_turnsOf_24 : decode cX12_turnsOf 24 = .ok (.iconst 3, 1) := by decide +kernel
theorem dX12_turnsOf_25 : decode cX12_turnsOf 25 = .ok (.goto 4, 3) := by decide +kernel
theorem dX12_turnsOf_28 : decode cX12_turnsOf 28 = .ok (.iconst 1, 1) := by decide +kernel
theorem dX12_turnsOf_29 : decode cX12_turnsOf 29 = .ok (.ireturn, 1) := by decide +kernel
theorem dX12_doesFix_0 : decode cX12_doesFix 0 = .ok (.aload_n 0, 1) := by decide +kernel
theorem dX12_doesFix_1 : decode cX12_doesFix 1 = .ok (.iload_n 1, 1) := by decide +kernel
theorem dX12_doesFix_2 : decode cX12_doesFix 2 = .ok (.iconst 0, 1) := by decide +kernel
theorem dX12_doesFix_3 : decode cX12_doesFix 3 = .ok (.invokevirtual 45, 3) := by decide +kernel
theorem dX12_doesFix_6 : decode cX12_doesFix 6 = .ok (.iconst 3, 1) := by decide +kernel
theorem dX12_doesFix_7 : decode cX12_doesFix 7 = .ok (.if_icmp .eq 23, 3) := by decide +kernel
theorem dX12_doesFix_10 : decode cX12_doesFix 10 = .ok (.aload_n 0, 1) := by decide +kernel
theorem dX12_doesFix_11 : decode cX12_doesFix 11 = .ok (.iload_n 1, 1) := by decide +kernel
theorem dX12_doesFix_12 : decode cX12_doesFix 12 = .ok (.iconst 0, 1) := by decide +kernel
theorem dX12_doesFix_13 : decode cX12_doesFix 13 = .ok (.invokevirtual 45, 3) := by decide +kernel
theorem dX12_doesFix_16 : decode cX12_doesFix 16 = .ok (.iconst 4, 1) := by decide +kernel
theorem dX12_doesFix_17 : decode cX12_doesFix 17 = .ok (.if_icmp .ne 17, 3) := by decide +kernel
theorem dX12_doesFix_20 : decode cX12_doesFix 20 = .ok (.aload_n 0, 1) := by decide +kernel
theorem dX12_doesFix_21 : decode cX12_doesFix 21 = .ok (.iload_n 2, 1) := by decide +kernel
theorem dX12_doesFix_22 : decode cX12_doesFix 22 = .ok (.iconst 1, 1) := by decide +kernel
theorem dX12_doesFix_23 : decode cX12_doesFix 23 = .ok (.invokevirtual 49, 3) := by decide +kernel
theorem dX12_doesFix_26 : decode cX12_doesFix 26 = .ok (.iconst 5, 1) := by decide +kernel
theorem dX12_doesFix_27 : decode cX12_doesFix 27 = .ok (.if_icmp .lt 7, 3) := by decide +kernel
theorem dX12_doesFix_30 : decode cX12_doesFix 30 = .ok (.iconst 1, 1) := by decide +kernel
theorem dX12_doesFix_31 : decode cX12_doesFix 31 = .ok (.goto 4, 3) := by decide +kernel
theorem dX12_doesFix_34 : decode cX12_doesFix 34 = .ok (.iconst 0, 1) := by decide +kernel
theorem dX12_doesFix_35 : decode cX12_doesFix 35 = .ok (.ireturn, 1) := by decide +kernel
theorem dX12_wayOf_0 : decode cX12_wayOf 0 = .ok (.iconst 0, 1) := by decide +kernel
theorem dX12_wayOf_1 : decode cX12_wayOf 1 = .ok (.istore_n 2, 1) := by decide +kernel
theorem dX12_wayOf_2 : decode cX12_wayOf 2 = .ok (.iconst 0, 1) := by decide +kernel
theorem dX12_wayOf_3 : decode cX12_wayOf 3 = .ok (.istore_n 3, 1) := by decide +kernel
theorem dX12_wayOf_4 : decode cX12_wayOf 4 = .ok (.iload_n 3, 1) := by decide +kernel
theorem dX12_wayOf_5 : decode cX12_wayOf 5 = .ok (.aload_n 0, 1) := by decide +kernel
theorem dX12_wayOf_6 : decode cX12_wayOf 6 = .ok (.getfield 9, 3) := by decide +kernel
theorem dX12_wayOf_9 : decode cX12_wayOf 9 = .ok (.iconst 2, 1) := by decide +kernel
theorem dX12_wayOf_10 : decode cX12_wayOf 10 = .ok (.iaload, 1) := by decide +kernel
theorem dX12_wayOf_11 : decode cX12_wayOf 11 = .ok (.if_icmp .ge 34, 3) := by decide +kernel
theorem dX12_wayOf_14 : decode cX12_wayOf 14 = .ok (.iload_n 2, 1) := by decide +kernel
theorem dX12_wayOf_15 : decode cX12_wayOf 15 = .ok (.aload_n 0, 1) := by decide +kernel
theorem dX12_wayOf_16 : decode cX12_wayOf 16 = .ok (.iload_n 3, 1) := by decide +kernel
theorem dX12_wayOf_17 : decode cX12_wayOf 17 = .ok (.iconst 0, 1) := by decide +kernel
theorem dX12_wayOf_18 : decode cX12_wayOf 18 = .ok (.invokevirtual 49, 3) := by decide +kernel
theorem dX12_wayOf_21 : decode cX12_wayOf 21 = .ok (.aload_n 0, 1) := by decide +kernel
theorem dX12_wayOf_22 : decode cX12_wayOf 22 = .ok (.iload_n 1, 1) := by decide +kernel
theorem dX12_wayOf_23 : decode cX12_wayOf 23 = .ok (.iload_n 3, 1) := by decide +kernel
theorem dX12_wayOf_24 : decode cX12_wayOf 24 = .ok (.invokevirtual 52, 3) := by decide +kernel
theorem dX12_wayOf_27 : decode cX12_wayOf 27 = .ok (.if_icmp .ne 9, 3) := by decide +kernel
theorem dX12_wayOf_30 : decode cX12_wayOf 30 = .ok (.iconst 1, 1) := by decide +kernel
theorem dX12_wayOf_31 : decode cX12_wayOf 31 = .ok (.iload_n 3, 1) := by decide +kernel
theorem dX12_wayOf_32 : decode cX12_wayOf 32 = .ok (.ishl, 1) := by decide +kernel
theorem dX12_wayOf_33 : decode cX12_wayOf 33 = .ok (.goto 4, 3) := by decide +kernel
theorem dX12_wayOf_36 : decode cX12_wayOf 36 = .ok (.iconst 0, 1) := by decide +kernel
theorem dX12_wayOf_37 : decode cX12_wayOf 37 = .ok (.ior, 1) := by decide +kernel
theorem dX12_wayOf_38 : decode cX12_wayOf 38 = .ok (.istore_n 2, 1) := by decide +kernel
theorem dX12_wayOf_39 : decode cX12_wayOf 39 = .ok (.iinc 3 1, 3) := by decide +kernel
theorem dX12_wayOf_42 : decode cX12_wayOf 42 = .ok (.goto (-38), 3) := by decide +kernel
theorem dX12_wayOf_45 : decode cX12_wayOf 45 = .ok (.iload_n 2, 1) := by decide +kernel
theorem dX12_wayOf_46 : decode cX12_wayOf 46 = .ok (.ireturn, 1) := by decide +kernel
theorem dX12_moves_0 : decode cX12_moves 0 = .ok (.iload_n 1, 1) := by decide +kernel
theorem dX12_moves_1 : decode cX12_moves 1 = .ok (.i2l, 1) := by decide +kernel
theorem dX12_moves_2 : decode cX12_moves 2 = .ok (.iconst 0, 1) := by decide +kernel
theorem dX12_moves_3 : decode cX12_moves 3 = .ok (.bipush 99, 2) := by decide +kernel
theorem dX12_moves_5 : decode cX12_moves 5 = .ok (.invokestatic 41, 3) := by decide +kernel
theorem dX12_moves_8 : decode cX12_moves 8 = .ok (.ifCond .eq 12, 3) := by decide +kernel
theorem dX12_moves_11 : decode cX12_moves 11 = .ok (.aload_n 0, 1) := by decide +kernel
theorem dX12_moves_12 : decode cX12_moves 12 = .ok (.iconst 1, 1) := by decide +kernel
theorem dX12_moves_13 : decode cX12_moves 13 = .ok (.iload_n 1, 1) := by decide +kernel
theorem dX12_moves_14 : decode cX12_moves 14 = .ok (.invokevirtual 63, 3) := by decide +kernel
theorem dX12_moves_17 : decode cX12_moves 17 = .ok (.goto 9, 3) := by decide +kernel
theorem dX12_moves_20 : decode cX12_moves 20 = .ok (.aload_n 0, 1) := by decide +kernel
theorem dX12_moves_21 : decode cX12_moves 21 = .ok (.ldc 35, 2) := by decide +kernel
theorem dX12_moves_23 : decode cX12_moves 23 = .ok (.invokevirtual 37, 3) := by decide +kernel
theorem dX12_moves_26 : decode cX12_moves 26 = .ok (.ireturn, 1) := by decide +kernel
theorem dX12_comesTo_0 : decode cX12_comesTo 0 = .ok (.aload_n 0, 1) := by decide +kernel
theorem dX12_comesTo_1 : decode cX12_comesTo 1 = .ok (.getfield 9, 3) := by decide +kernel
theorem dX12_comesTo_4 : decode cX12_comesTo 4 = .ok (.iconst 2, 1) := by decide +kernel
theorem dX12_comesTo_5 : decode cX12_comesTo 5 = .ok (.iaload, 1) := by decide +kernel
theorem dX12_comesTo_6 : decode cX12_comesTo 6 = .ok (.istore_n 3, 1) := by decide +kernel
theorem dX12_comesTo_7 : decode cX12_comesTo 7 = .ok (.aload_n 0, 1) := by decide +kernel
theorem dX12_comesTo_8 : decode cX12_comesTo 8 = .ok (.getfield 9, 3) := by decide +kernel
theorem dX12_comesTo_11 : decode cX12_comesTo 11 = .ok (.iconst 2, 1) := by decide +kernel
theorem dX12_comesTo_12 : decode cX12_comesTo 12 = .ok (.dup2, 1) := by decide +kernel
theorem dX12_comesTo_13 : decode cX12_comesTo 13 = .ok (.iaload, 1) := by decide +kernel
theorem dX12_comesTo_14 : decode cX12_comesTo 14 = .ok (.iconst 1, 1) := by decide +kernel
theorem dX12_comesTo_15 : decode cX12_comesTo 15 = .ok (.iadd, 1) := by decide +kernel
theorem dX12_comesTo_16 : decode cX12_comesTo 16 = .ok (.iastore, 1) := by decide +kernel
theorem dX12_comesTo_17 : decode cX12_comesTo 17 = .ok (.aload_n 0, 1) := by decide +kernel
theorem dX12_comesTo_18 : decode cX12_comesTo 18 = .ok (.iload_n 3, 1) := by decide +kernel
theorem dX12_comesTo_19 : decode cX12_comesTo 19 = .ok (.iconst 0, 1) := by decide +kernel
theorem dX12_comesTo_20 : decode cX12_comesTo 20 = .ok (.iload_n 1, 1) := by decide +kernel
theorem dX12_comesTo_21 : decode cX12_comesTo 21 = .ok (.invokevirtual 66, 3) := by decide +kernel
theorem dX12_comesTo_24 : decode cX12_comesTo 24 = .ok (.aload_n 0, 1) := by decide +kernel
theorem dX12_comesTo_25 : decode cX12_comesTo 25 = .ok (.iload_n 3, 1) := by decide +kernel
theorem dX12_comesTo_26 : decode cX12_comesTo 26 = .ok (.iconst 1, 1) := by decide +kernel
theorem dX12_comesTo_27 : decode cX12_comesTo 27 = .ok (.iconst 0, 1) := by decide +kernel
theorem dX12_comesTo_28 : decode cX12_comesTo 28 = .ok (.invokevirtual 66, 3) := by decide +kernel
theorem dX12_comesTo_31 : decode cX12_comesTo 31 = .ok (.aload_n 0, 1) := by decide +kernel
theorem dX12_comesTo_32 : decode cX12_comesTo 32 = .ok (.iload_n 3, 1) := by decide +kernel
theorem dX12_comesTo_33 : decode cX12_comesTo 33 = .ok (.iconst 2, 1) := by decide +kernel
theorem dX12_comesTo_34 : decode cX12_comesTo 34 = .ok (.iload_n 2, 1) := by decide +kernel
theorem dX12_comesTo_35 : decode cX12_comesTo 35 = .ok (.invokevirtual 66, 3) := by decide +kernel
theorem dX12_comesTo_38 : decode cX12_comesTo 38 = .ok (.iload_n 3, 1) := by decide +kernel
theorem dX12_comesTo_39 : decode cX12_comesTo 39 = .ok (.ireturn, 1) := by decide +kernel
theorem dX12_slip_0 : decode cX12_slip 0 = .ok (.iload_n 1, 1) := by decide +kernel
theorem dX12_slip_1 : decode cX12_slip 1 = .ok (.i2l, 1) := by decide +kernel
theorem dX12_slip_2 : decode cX12_slip 2 = .ok (.iconst (-1), 1) := by decide +kernel
theorem dX12_slip_3 : decode cX12_slip 3 = .ok (.iconst 5, 1) := by decide +kernel
theorem dX12_slip_4 : decode cX12_slip 4 = .ok (.invokestatic 41, 3) := by decide +kernel
theorem dX12_slip_7 : decode cX12_slip 7 = .ok (.ifCond .ne 10, 3) := by decide +kernel
theorem dX12_slip_10 : decode cX12_slip 10 = .ok (.aload_n 0, 1) := by decide +kernel
theorem dX12_slip_11 : decode cX12_slip 11 = .ok (.ldc 35, 2) := by decide +kernel
theorem dX12_slip_13 : decode cX12_slip 13 = .ok (.invokevirtual 37, 3) := by decide +kernel
theorem dX12_slip_16 : decode cX12_slip 16 = .ok (.ireturn, 1) := by decide +kernel
theorem dX12_slip_17 : decode cX12_slip 17 = .ok (.aload_n 0, 1) := by decide +kernel
theorem dX12_slip_18 : decode cX12_slip 18 = .ok (.getfield 9, 3) := by decide +kernel
theorem dX12_slip_21 : decode cX12_slip 21 = .ok (.iconst 2, 1) := by decide +kernel
theorem dX12_slip_22 : decode cX12_slip 22 = .ok (.iaload, 1) := by decide +kernel
theorem dX12_slip_23 : decode cX12_slip 23 = .ok (.bipush 10, 2) := by decide +kernel
theorem dX12_slip_25 : decode cX12_slip 25 = .ok (.if_icmp .ne 12, 3) := by decide +kernel
theorem dX12_slip_28 : decode cX12_slip 28 = .ok (.aload_n 0, 1) := by decide +kernel
theorem dX12_slip_29 : decode cX12_slip 29 = .ok (.ldc 70, 2) := by decide +kernel
theorem dX12_slip_31 : decode cX12_slip 31 = .ok (.invokevirtual 37, 3) := by decide +kernel
theorem dX12_slip_34 : decode cX12_slip 34 = .ok (.goto 9, 3) := by decide +kernel
theorem dX12_slip_37 : decode cX12_slip 37 = .ok (.aload_n 0, 1) := by decide +kernel
theorem dX12_slip_38 : decode cX12_slip 38 = .ok (.iload_n 1, 1) := by decide +kernel
theorem dX12_slip_39 : decode cX12_slip 39 = .ok (.iconst 0, 1) := by decide +kernel
theorem dX12_slip_40 : decode cX12_slip 40 = .ok (.invokevirtual 71, 3) := by decide +kernel
theorem dX12_slip_43 : decode cX12_slip 43 = .ok (.ireturn, 1) := by decide +kernel
theorem dX12_happyWith_0 : decode cX12_happyWith 0 = .ok (.iconst 0, 1) := by decide +kernel
theorem dX12_happyWith_1 : decode cX12_happyWith 1 = .ok (.istore_n 2, 1) := by decide +kernel
theorem dX12_happyWith_2 : decode cX12_happyWith 2 = .ok (.iconst 0, 1) := by decide +kernel
theorem dX12_happyWith_3 : decode cX12_happyWith 3 = .ok (.istore_n 3, 1) := by decide +kernel
theorem dX12_happyWith_4 : decode cX12_happyWith 4 = .ok (.iload_n 3, 1) := by decide +kernel
theorem dX12_happyWith_5 : decode cX12_happyWith 5 = .ok (.aload_n 0, 1) := by decide +kernel
theorem dX12_happyWith_6 : decode cX12_happyWith 6 = .ok (.getfield 9, 3) := by decide +kernel
theorem dX12_happyWith_9 : decode cX12_happyWith 9 = .ok (.iconst 3, 1) := by decide +kernel
theorem dX12_happyWith_10 : decode cX12_happyWith 10 = .ok (.iaload, 1) := by decide +kernel
theorem dX12_happyWith_11 : decode cX12_happyWith 11 = .ok (.if_icmp .ge 34, 3) := by decide +kernel
theorem dX12_happyWith_14 : decode cX12_happyWith 14 = .ok (.iload_n 2, 1) := by decide +kernel
theorem dX12_happyWith_15 : decode cX12_happyWith 15 = .ok (.aload_n 0, 1) := by decide +kernel
theorem dX12_happyWith_16 : decode cX12_happyWith 16 = .ok (.iload_n 3, 1) := by decide +kernel
theorem dX12_happyWith_17 : decode cX12_happyWith 17 = .ok (.iload_n 1, 1) := by decide +kernel
theorem dX12_happyWith_18 : decode cX12_happyWith 18 = .ok (.invokevirtual 52, 3) := by decide +kernel
theorem dX12_happyWith_21 : decode cX12_happyWith 21 = .ok (.aload_n 0, 1) := by decide +kernel
theorem dX12_happyWith_22 : decode cX12_happyWith 22 = .ok (.iload_n 1, 1) := by decide +kernel
theorem dX12_happyWith_23 : decode cX12_happyWith 23 = .ok (.iconst 0, 1) := by decide +kernel
theorem dX12_happyWith_24 : decode cX12_happyWith 24 = .ok (.invokevirtual 49, 3) := by decide +kernel
theorem dX12_happyWith_27 : decode cX12_happyWith 27 = .ok (.if_icmp .ne 9, 3) := by decide +kernel
theorem dX12_happyWith_30 : decode cX12_happyWith 30 = .ok (.iconst 1, 1) := by decide +kernel
theorem dX12_happyWith_31 : decode cX12_happyWith 31 = .ok (.iload_n 3, 1) := by decide +kernel
theorem dX12_happyWith_32 : decode cX12_happyWith 32 = .ok (.ishl, 1) := by decide +kernel
theorem dX12_happyWith_33 : decode cX12_happyWith 33 = .ok (.goto 4, 3) := by decide +kernel
theorem dX12_happyWith_36 : decode cX12_happyWith 36 = .ok (.iconst 0, 1) := by decide +kernel
theorem dX12_happyWith_37 : decode cX12_happyWith 37 = .ok (.ior, 1) := by decide +kernel
theorem dX12_happyWith_38 : decode cX12_happyWith 38 = .ok (.istore_n 2, 1) := by decide +kernel
theorem dX12_happyWith_39 : decode cX12_happyWith 39 = .ok (.iinc 3 1, 3) := by decide +kernel
theorem dX12_happyWith_42 : decode cX12_happyWith 42 = .ok (.goto (-38), 3) := by decide +kernel
theorem dX12_happyWith_45 : decode cX12_happyWith 45 = .ok (.iload_n 2, 1) := by decide +kernel
theorem dX12_happyWith_46 : decode cX12_happyWith 46 = .ok (.ireturn, 1) := by decide +kernel
theorem dX12_wantMost_0 : decode cX12_wantMost 0 = .ok (.iconst (-1), 1) := by decide +kernel
theorem dX12_wantMost_1 : decode cX12_wantMost 1 = .ok (.istore_n 2, 1) := by decide +kernel
theorem dX12_wantMost_2 : decode cX12_wantMost 2 = .ok (.iconst 0, 1) := by decide +kernel
theorem dX12_wantMost_3 : decode cX12_wantMost 3 = .ok (.istore_n 3, 1) := by decide +kernel
theorem dX12_wantMost_4 : decode cX12_wantMost 4 = .ok (.iconst 0, 1) := by decide +kernel
theorem dX12_wantMost_5 : decode cX12_wantMost 5 = .ok (.istore 4, 2) := by decide +kernel
theorem dX12_wantMost_7 : decode cX12_wantMost 7 = .ok (.iload 4, 2) := by decide +kernel
theorem dX12_wantMost_9 : decode cX12_wantMost 9 = .ok (.bipush 6, 2) := by decide +kernel
theorem dX12_wantMost_11 : decode cX12_wantMost 11 = .ok (.if_icmp .ge 80, 3) := by decide +kernel
theorem dX12_wantMost_14 : decode cX12_wantMost 14 = .ok (.iconst 0, 1) := by decide +kernel
theorem dX12_wantMost_15 : decode cX12_wantMost 15 = .ok (.istore 5, 2) := by decide +kernel
theorem dX12_wantMost_17 : decode cX12_wantMost 17 = .ok (.iconst 0, 1) := by decide +kernel
theorem dX12_wantMost_18 : decode cX12_wantMost 18 = .ok (.istore 6, 2) := by decide +kernel
theorem dX12_wantMost_20 : decode cX12_wantMost 20 = .ok (.iload 6, 2) := by decide +kernel
theorem dX12_wantMost_22 : decode cX12_wantMost 22 = .ok (.aload_n 0, 1) := by decide +kernel
theorem dX12_wantMost_23 : decode cX12_wantMost 23 = .ok (.getfield 9, 3) := by decide +kernel
theorem dX12_wantMost_26 : decode cX12_wantMost 26 = .ok (.iconst 3, 1) := by decide +kernel
theorem dX12_wantMost_27 : decode cX12_wantMost 27 = .ok (.iaload, 1) := by decide +kernel
theorem dX12_wantMost_28 : decode cX12_wantMost 28 = .ok (.if_icmp .ge 31, 3) := by decide +kernel
theorem dX12_wantMost_31 : decode cX12_wantMost 31 = .ok (.iload 5, 2) := by decide +kernel
theorem dX12_wantMost_33 : decode cX12_wantMost 33 = .ok (.aload_n 0, 1) := by decide +kernel
theorem dX12_wantMost_34 : decode cX12_wantMost 34 = .ok (.iload 6, 2) := by decide +kernel
theorem dX12_wantMost_36 : decode cX12_wantMost 36 = .ok (.iload_n 1, 1) := by decide +kernel
theorem dX12_wantMost_37 : decode cX12_wantMost 37 = .ok (.invokevirtual 52, 3) := by decide +kernel
theorem dX12_wantMost_40 : decode cX12_wantMost 40 = .ok (.iload 4, 2) := by decide +kernel
theorem dX12_wantMost_42 : decode cX12_wantMost 42 = .ok (.if_icmp .ne 7, 3) := by decide +kernel
theorem dX12_wantMost_45 : decode cX12_wantMost 45 = .ok (.iconst 1, 1) := by decide +kernel
theorem dX12_wantMost_46 : decode cX12_wantMost 46 = .ok (.goto 4, 3) := by decide +kernel
theorem dX12_wantMost_49 : decode cX12_wantMost 49 = .ok (.iconst 0, 1) := by decide +kernel
theorem dX12_wantMost_50 : decode cX12_wantMost 50 = .ok (.iadd, 1) := by decide +kernel
theorem dX12_wantMost_51 : decode cX12_wantMost 51 = .ok (.istore 5, 2) := by decide +kernel
theorem dX12_wantMost_53 : decode cX12_wantMost 53 = .ok (.iinc 6 1, 3) := by decide +kernel
theorem dX12_wantMost_56 : decode cX12_wantMost 56 = .ok (.goto (-36), 3) := by decide +kernel
theorem dX12_wantMost_59 : decode cX12_wantMost 59 = .ok (.iload 5, 2) := by decide +kernel
theorem dX12_wantMost_61 : decode cX12_wantMost 61 = .ok (.iload_n 3, 1) := by decide +kernel
theorem dX12_wantMost_62 : decode cX12_wantMost 62 = .ok (.if_icmp .le 8, 3) := by decide +kernel
theorem dX12_wantMost_65 : decode cX12_wantMost 65 = .ok (.iload 4, 2) := by decide +kernel
theorem dX12_wantMost_67 : decode cX12_wantMost 67 = .ok (.goto 4, 3) := by decide +kernel
theorem dX12_wantMost_70 : decode cX12_wantMost 70 = .ok (.iload_n 2, 1) := by decide +kernel
theorem dX12_wantMost_71 : decode cX12_wantMost 71 = .ok (.istore_n 2, 1) := by decide +kernel
theorem dX12_wantMost_72 : decode cX12_wantMost 72 = .ok (.iload 5, 2) := by decide +kernel
theorem dX12_wantMost_74 : decode cX12_wantMost 74 = .ok (.iload_n 3, 1) := by decide +kernel
theorem dX12_wantMost_75 : decode cX12_wantMost 75 = .ok (.if_icmp .le 8, 3) := by decide +kernel
theorem dX12_wantMost_78 : decode cX12_wantMost 78 = .ok (.iload 5, 2) := by decide +kernel
theorem dX12_wantMost_80 : decode cX12_wantMost 80 = .ok (.goto 4, 3) := by decide +kernel
theorem dX12_wantMost_83 : decode cX12_wantMost 83 = .ok (.iload_n 3, 1) := by decide +kernel
theorem dX12_wantMost_84 : decode cX12_wantMost 84 = .ok (.istore_n 3, 1) := by decide +kernel
theorem dX12_wantMost_85 : decode cX12_wantMost 85 = .ok (.iinc 4 1, 3) := by decide +kernel
theorem dX12_wantMost_88 : decode cX12_wantMost 88 = .ok (.goto (-81), 3) := by decide +kernel
theorem dX12_wantMost_91 : decode cX12_wantMost 91 = .ok (.iload_n 2, 1) := by decide +kernel
theorem dX12_wantMost_92 : decode cX12_wantMost 92 = .ok (.ireturn, 1) := by decide +kernel
theorem dX12_slipOf_0 : decode cX12_slipOf 0 = .ok (.aload_n 0, 1) := by decide +kernel
theorem dX12_slipOf_1 : decode cX12_slipOf 1 = .ok (.iload_n 1, 1) := by decide +kernel
theorem dX12_slipOf_2 : decode cX12_slipOf 2 = .ok (.invokevirtual 74, 3) := by decide +kernel
theorem dX12_slipOf_5 : decode cX12_slipOf 5 = .ok (.ifCond .eq 13, 3) := by decide +kernel
theorem dX12_slipOf_8 : decode cX12_slipOf 8 = .ok (.iload_n 2, 1) := by decide +kernel
theorem dX12_slipOf_9 : decode cX12_slipOf 9 = .ok (.i2l, 1) := by decide +kernel
theorem dX12_slipOf_10 : decode cX12_slipOf 10 = .ok (.iconst 0, 1) := by decide +kernel
theorem dX12_slipOf_11 : decode cX12_slipOf 11 = .ok (.iconst 4, 1) := by decide +kernel
theorem dX12_slipOf_12 : decode cX12_slipOf 12 = .ok (.invokestatic 41, 3) := by decide +kernel
theorem dX12_slipOf_15 : decode cX12_slipOf 15 = .ok (.ifCond .ne 10, 3) := by decide +kernel
theorem dX12_slipOf_18 : decode cX12_slipOf 18 = .ok (.aload_n 0, 1) := by decide +kernel
theorem dX12_slipOf_19 : decode cX12_slipOf 19 = .ok (.ldc 35, 2) := by decide +kernel
theorem dX12_slipOf_21 : decode cX12_slipOf 21 = .ok (.invokevirtual 37, 3) := by decide +kernel
theorem dX12_slipOf_24 : decode cX12_slipOf 24 = .ok (.ireturn, 1) := by decide +kernel
theorem dX12_slipOf_25 : decode cX12_slipOf 25 = .ok (.iload_n 2, 1) := by decide +kernel
theorem dX12_slipOf_26 : decode cX12_slipOf 26 = .ok (.iconst 3, 1) := by decide +kernel
theorem dX12_slipOf_27 : decode cX12_slipOf 27 = .ok (.if_icmp .ge 12, 3) := by decide +kernel
theorem dX12_slipOf_30 : decode cX12_slipOf 30 = .ok (.aload_n 0, 1) := by decide +kernel
theorem dX12_slipOf_31 : decode cX12_slipOf 31 = .ok (.iload_n 1, 1) := by decide +kernel
theorem dX12_slipOf_32 : decode cX12_slipOf 32 = .ok (.iload_n 2, 1) := by decide +kernel
theorem dX12_slipOf_33 : decode cX12_slipOf 33 = .ok (.invokevirtual 49, 3) := by decide +kernel
theorem dX12_slipOf_36 : decode cX12_slipOf 36 = .ok (.goto 21, 3) := by decide +kernel
theorem dX12_slipOf_39 : decode cX12_slipOf 39 = .ok (.iload_n 2, 1) := by decide +kernel
theorem dX12_slipOf_40 : decode cX12_slipOf 40 = .ok (.iconst 3, 1) := by decide +kernel
theorem dX12_slipOf_41 : decode cX12_slipOf 41 = .ok (.if_icmp .ne 11, 3) := by decide +kernel
theorem dX12_slipOf_44 : decode cX12_slipOf 44 = .ok (.aload_n 0, 1) := by decide +kernel
theorem dX12_slipOf_45 : decode cX12_slipOf 45 = .ok (.iload_n 1, 1) := by decide +kernel
theorem dX12_slipOf_46 : decode cX12_slipOf 46 = .ok (.invokevirtual 78, 3) := by decide +kernel
theorem dX12_slipOf_49 : decode cX12_slipOf 49 = .ok (.goto 8, 3) := by decide +kernel
theorem dX12_slipOf_52 : decode cX12_slipOf 52 = .ok (.aload_n 0, 1) := by decide +kernel
theorem dX12_slipOf_53 : decode cX12_slipOf 53 = .ok (.iload_n 1, 1) := by decide +kernel
theorem dX12_slipOf_54 : decode cX12_slipOf 54 = .ok (.invokevirtual 81, 3) := by decide +kernel
theorem dX12_slipOf_57 : decode cX12_slipOf 57 = .ok (.ireturn, 1) := by decide +kernel
theorem dX12_stick_0 : decode cX12_stick 0 = .ok (.aload_n 0, 1) := by decide +kernel
theorem dX12_stick_1 : decode cX12_stick 1 = .ok (.iload_n 1, 1) := by decide +kernel
theorem dX12_stick_2 : decode cX12_stick 2 = .ok (.invokevirtual 74, 3) := by decide +kernel
theorem dX12_stick_5 : decode cX12_stick 5 = .ok (.ifCond .eq 54, 3) := by decide +kernel
theorem dX12_stick_8 : decode cX12_stick 8 = .ok (.iload_n 2, 1) := by decide +kernel
theorem dX12_stick_9 : decode cX12_stick 9 = .ok (.i2l, 1) := by decide +kernel
theorem dX12_stick_10 : decode cX12_stick 10 = .ok (.iconst 0, 1) := by decide +kernel
theorem dX12_stick_11 : decode cX12_stick 11 = .ok (.iconst 2, 1) := by decide +kernel
theorem dX12_stick_12 : decode cX12_stick 12 = .ok (.invokestatic 41, 3) := by decide +kernel
theorem dX12_stick_15 : decode cX12_stick 15 = .ok (.ifCond .eq 44, 3) := by decide +kernel
theorem dX12_stick_18 : decode cX12_stick 18 = .ok (.iload_n 3, 1) := by decide +kernel
theorem dX12_stick_19 : decode cX12_stick 19 = .ok (.i2l, 1) := by decide +kernel
theorem dX12_stick_20 : decode cX12_stick 20 = .ok (.iload_n 2, 1) := by decide +kernel
theorem dX12_stick_21 : decode cX12_stick 21 = .ok (.ifCond .ne 7, 3) := by decide +kernel
theorem dX12_stick_24 : decode cX12_stick 24 = .ok (.iconst (-1), 1) := by decide +kernel
theorem dX12_stick_25 : decode cX12_stick 25 = .ok (.goto 4, 3) := by decide +kernel
theorem dX12_stick_28 : decode cX12_stick 28 = .ok (.iconst 0, 1) := by decide +kernel
theorem dX12_stick_29 : decode cX12_stick 29 = .ok (.iload_n 2, 1) := by decide +kernel
theorem dX12_stick_30 : decode cX12_stick 30 = .ok (.ifCond .ne 7, 3) := by decide +kernel
theorem dX12_stick_33 : decode cX12_stick 33 = .ok (.iconst 5, 1) := by decide +kernel
theorem dX12_stick_34 : decode cX12_stick 34 = .ok (.goto 15, 3) := by decide +kernel
theorem dX12_stick_37 : decode cX12_stick 37 = .ok (.iload_n 2, 1) := by decide +kernel
theorem dX12_stick_38 : decode cX12_stick 38 = .ok (.iconst 1, 1) := by decide +kernel
theorem dX12_stick_39 : decode cX12_stick 39 = .ok (.if_icmp .ne 9, 3) := by decide +kernel
theorem dX12_stick_42 : decode cX12_stick 42 = .ok (.sipush 999, 3) := by decide +kernel
theorem dX12_stick_45 : decode cX12_stick 45 = .ok (.goto 4, 3) := by decide +kernel
theorem dX12_stick_48 : decode cX12_stick 48 = .ok (.iconst 1, 1) := by decide +kernel
theorem dX12_stick_49 : decode cX12_stick 49 = .ok (.invokestatic 41, 3) := by decide +kernel
theorem dX12_stick_52 : decode cX12_stick 52 = .ok (.ifCond .eq 7, 3) := by decide +kernel
theorem dX12_stick_55 : decode cX12_stick 55 = .ok (.iconst 1, 1) := by decide +kernel
theorem dX12_stick_56 : decode cX12_stick 56 = .ok (.goto 4, 3) := by decide +kernel
theorem dX12_stick_59 : decode cX12_stick 59 = .ok (.iconst 0, 1) := by decide +kernel
theorem dX12_stick_60 : decode cX12_stick 60 = .ok (.istore 4, 2) := by decide +kernel
theorem dX12_stick_62 : decode cX12_stick 62 = .ok (.iload 4, 2) := by decide +kernel
theorem dX12_stick_64 : decode cX12_stick 64 = .ok (.ifCond .eq 18, 3) := by decide +kernel
theorem dX12_stick_67 : decode cX12_stick 67 = .ok (.aload_n 0, 1) := by decide +kernel
theorem dX12_stick_68 : decode cX12_stick 68 = .ok (.iconst 4, 1) := by decide +kernel
theorem dX12_stick_69 : decode cX12_stick 69 = .ok (.iconst 3, 1) := by decide +kernel
theorem dX12_stick_70 : decode cX12_stick 70 = .ok (.iload_n 1, 1) := by decide +kernel
theorem dX12_stick_71 : decode cX12_stick 71 = .ok (.imul, 1) := by decide +kernel
theorem dX12_stick_72 : decode cX12_stick 72 = .ok (.iadd, 1) := by decide +kernel
theorem dX12_stick_73 : decode cX12_stick 73 = .ok (.iload_n 2, 1) := by decide +kernel
theorem dX12_stick_74 : decode cX12_stick 74 = .ok (.iadd, 1) := by decide +kernel
theorem dX12_stick_75 : decode cX12_stick 75 = .ok (.iload_n 3, 1) := by decide +kernel
theorem dX12_stick_76 : decode cX12_stick 76 = .ok (.invokevirtual 63, 3) := by decide +kernel
theorem dX12_stick_79 : decode cX12_stick 79 = .ok (.goto 9, 3) := by decide +kernel
theorem dX12_stick_82 : decode cX12_stick 82 = .ok (.aload_n 0, 1) := by decide +kernel
theorem dX12_stick_83 : decode cX12_stick 83 = .ok (.ldc 35, 2) := by decide +kernel
theorem dX12_stick_85 : decode cX12_stick 85 = .ok (.invokevirtual 37, 3) := by decide +kernel
theorem dX12_stick_88 : decode cX12_stick 88 = .ok (.ireturn, 1) := by decide +kernel
theorem dX12_slipsIn_0 : decode cX12_slipsIn 0 = .ok (.iconst 0, 1) := by decide +kernel
theorem dX12_slipsIn_1 : decode cX12_slipsIn 1 = .ok (.istore_n 2, 1) := by decide +kernel
theorem dX12_slipsIn_2 : decode cX12_slipsIn 2 = .ok (.iconst 0, 1) := by decide +kernel
theorem dX12_slipsIn_3 : decode cX12_slipsIn 3 = .ok (.istore_n 3, 1) := by decide +kernel
theorem dX12_slipsIn_4 : decode cX12_slipsIn 4 = .ok (.iload_n 3, 1) := by decide +kernel
theorem dX12_slipsIn_5 : decode cX12_slipsIn 5 = .ok (.aload_n 0, 1) := by decide +kernel
theorem dX12_slipsIn_6 : decode cX12_slipsIn 6 = .ok (.getfield 9, 3) := by decide +kernel
theorem dX12_slipsIn_9 : decode cX12_slipsIn 9 = .ok (.iconst 2, 1) := by decide +kernel
theorem dX12_slipsIn_10 : decode cX12_slipsIn 10 = .ok (.iaload, 1) := by decide +kernel
theorem dX12_slipsIn_11 : decode cX12_slipsIn 11 = .ok (.if_icmp .ge 29, 3) := by decide +kernel
theorem dX12_slipsIn_14 : decode cX12_slipsIn 14 = .ok (.iload_n 2, 1) := by decide +kernel
theorem dX12_slipsIn_15 : decode cX12_slipsIn 15 = .ok (.aload_n 0, 1) := by decide +kernel
theorem dX12_slipsIn_16 : decode cX12_slipsIn 16 = .ok (.iload_n 3, 1) := by decide +kernel
theorem dX12_slipsIn_17 : decode cX12_slipsIn 17 = .ok (.iconst 0, 1) := by decide +kernel
theorem dX12_slipsIn_18 : decode cX12_slipsIn 18 = .ok (.invokevirtual 49, 3) := by decide +kernel
theorem dX12_slipsIn_21 : decode cX12_slipsIn 21 = .ok (.iload_n 1, 1) := by decide +kernel
theorem dX12_slipsIn_22 : decode cX12_slipsIn 22 = .ok (.if_icmp .ne 9, 3) := by decide +kernel
theorem dX12_slipsIn_25 : decode cX12_slipsIn 25 = .ok (.iconst 1, 1) := by decide +kernel
theorem dX12_slipsIn_26 : decode cX12_slipsIn 26 = .ok (.iload_n 3, 1) := by decide +kernel
theorem dX12_slipsIn_27 : decode cX12_slipsIn 27 = .ok (.ishl, 1) := by decide +kernel
theorem dX12_slipsIn_28 : decode cX12_slipsIn 28 = .ok (.goto 4, 3) := by decide +kernel
theorem dX12_slipsIn_31 : decode cX12_slipsIn 31 = .ok (.iconst 0, 1) := by decide +kernel
theorem dX12_slipsIn_32 : decode cX12_slipsIn 32 = .ok (.ior, 1) := by decide +kernel
theorem dX12_slipsIn_33 : decode cX12_slipsIn 33 = .ok (.istore_n 2, 1) := by decide +kernel
theorem dX12_slipsIn_34 : decode cX12_slipsIn 34 = .ok (.iinc 3 1, 3) := by decide +kernel
theorem dX12_slipsIn_37 : decode cX12_slipsIn 37 = .ok (.goto (-33), 3) := by decide +kernel
theorem dX12_slipsIn_40 : decode cX12_slipsIn 40 = .ok (.iload_n 2, 1) := by decide +kernel
theorem dX12_slipsIn_41 : decode cX12_slipsIn 41 = .ok (.ireturn, 1) := by decide +kernel
theorem dX12_group_0 : decode cX12_group 0 = .ok (.iload_n 1, 1) := by decide +kernel
theorem dX12_group_1 : decode cX12_group 1 = .ok (.i2l, 1) := by decide +kernel
theorem dX12_group_2 : decode cX12_group 2 = .ok (.iconst (-1), 1) := by decide +kernel
theorem dX12_group_3 : decode cX12_group 3 = .ok (.iconst 5, 1) := by decide +kernel
theorem dX12_group_4 : decode cX12_group 4 = .ok (.invokestatic 41, 3) := by decide +kernel
theorem dX12_group_7 : decode cX12_group 7 = .ok (.ifCond .eq 11, 3) := by decide +kernel
theorem dX12_group_10 : decode cX12_group 10 = .ok (.aload_n 0, 1) := by decide +kernel
theorem dX12_group_11 : decode cX12_group 11 = .ok (.iload_n 1, 1) := by decide +kernel
theorem dX12_group_12 : decode cX12_group 12 = .ok (.invokevirtual 84, 3) := by decide +kernel
theorem dX12_group_15 : decode cX12_group 15 = .ok (.goto 9, 3) := by decide +kernel
theorem dX12_group_18 : decode cX12_group 18 = .ok (.aload_n 0, 1) := by decide +kernel
theorem dX12_group_19 : decode cX12_group 19 = .ok (.ldc 35, 2) := by decide +kernel
theorem dX12_group_21 : decode cX12_group 21 = .ok (.invokevirtual 37, 3) := by decide +kernel
theorem dX12_group_24 : decode cX12_group 24 = .ok (.ireturn, 1) := by decide +kernel
theorem dX12_groupsHad_0 : decode cX12_groupsHad 0 = .ok (.iconst 0, 1) := by decide +kernel
theorem dX12_groupsHad_1 : decode cX12_groupsHad 1 = .ok (.istore_n 1, 1) := by decide +kernel
theorem dX12_groupsHad_2 : decode cX12_groupsHad 2 = .ok (.iconst 0, 1) := by decide +kernel
theorem dX12_groupsHad_3 : decode cX12_groupsHad 3 = .ok (.istore_n 2, 1) := by decide +kernel
theorem dX12_groupsHad_4 : decode cX12_groupsHad 4 = .ok (.iload_n 2, 1) := by decide +kernel
theorem dX12_groupsHad_5 : decode cX12_groupsHad 5 = .ok (.bipush 6, 2) := by decide +kernel
theorem dX12_groupsHad_7 : decode cX12_groupsHad 7 = .ok (.if_icmp .ge 27, 3) := by decide +kernel
theorem dX12_groupsHad_10 : decode cX12_groupsHad 10 = .ok (.iload_n 1, 1) := by decide +kernel
theorem dX12_groupsHad_11 : decode cX12_groupsHad 11 = .ok (.aload_n 0, 1) := by decide +kernel
theorem dX12_groupsHad_12 : decode cX12_groupsHad 12 = .ok (.iload_n 2, 1) := by decide +kernel
theorem dX12_groupsHad_13 : decode cX12_groupsHad 13 = .ok (.invokevirtual 84, 3) := by decide +kernel
theorem dX12_groupsHad_16 : decode cX12_groupsHad 16 = .ok (.ifCond .ne 7, 3) := by decide +kernel
theorem dX12_groupsHad_19 : decode cX12_groupsHad 19 = .ok (.iconst 0, 1) := by decide +kernel
theorem dX12_groupsHad_20 : decode cX12_groupsHad 20 = .ok (.goto 6, 3) := by decide +kernel
theorem dX12_groupsHad_23 : decode cX12_groupsHad 23 = .ok (.iconst 1, 1) := by decide +kernel
theorem dX12_groupsHad_24 : decode cX12_groupsHad 24 = .ok (.iload_n 2, 1) := by decide +kernel
theorem dX12_groupsHad_25 : decode cX12_groupsHad 25 = .ok (.ishl, 1) := by decide +kernel
theorem dX12_groupsHad_26 : decode cX12_groupsHad 26 = .ok (.ior, 1) := by decide +kernel
theorem dX12_groupsHad_27 : decode cX12_groupsHad 27 = .ok (.istore_n 1, 1) := by decide +kernel
theorem dX12_groupsHad_28 : decode cX12_groupsHad 28 = .ok (.iinc 2 1, 3) := by decide +kernel
theorem dX12_groupsHad_31 : decode cX12_groupsHad 31 = .ok (.goto (-27), 3) := by decide +kernel
theorem dX12_groupsHad_34 : decode cX12_groupsHad 34 = .ok (.iload_n 1, 1) := by decide +kernel
theorem dX12_groupsHad_35 : decode cX12_groupsHad 35 = .ok (.ireturn, 1) := by decide +kernel
theorem dX12_fixedOnes_0 : decode cX12_fixedOnes 0 = .ok (.iconst 0, 1) := by decide +kernel
theorem dX12_fixedOnes_1 : decode cX12_fixedOnes 1 = .ok (.istore_n 1, 1) := by decide +kernel
theorem dX12_fixedOnes_2 : decode cX12_fixedOnes 2 = .ok (.iconst 0, 1) := by decide +kernel
theorem dX12_fixedOnes_3 : decode cX12_fixedOnes 3 = .ok (.istore_n 2, 1) := by decide +kernel
theorem dX12_fixedOnes_4 : decode cX12_fixedOnes 4 = .ok (.iload_n 2, 1) := by decide +kernel
theorem dX12_fixedOnes_5 : decode cX12_fixedOnes 5 = .ok (.aload_n 0, 1) := by decide +kernel
theorem dX12_fixedOnes_6 : decode cX12_fixedOnes 6 = .ok (.getfield 9, 3) := by decide +kernel
theorem dX12_fixedOnes_9 : decode cX12_fixedOnes 9 = .ok (.iconst 2, 1) := by decide +kernel
theorem dX12_fixedOnes_10 : decode cX12_fixedOnes 10 = .ok (.iaload, 1) := by decide +kernel
theorem dX12_fixedOnes_11 : decode cX12_fixedOnes 11 = .ok (.if_icmp .ge 20, 3) := by decide +kernel
theorem dX12_fixedOnes_14 : decode cX12_fixedOnes 14 = .ok (.iload_n 1, 1) := by decide +kernel
theorem dX12_fixedOnes_15 : decode cX12_fixedOnes 15 = .ok (.aload_n 0, 1) := by decide +kernel
theorem dX12_fixedOnes_16 : decode cX12_fixedOnes 16 = .ok (.iload_n 2, 1) := by decide +kernel
theorem dX12_fixedOnes_17 : decode cX12_fixedOnes 17 = .ok (.iconst 2, 1) := by decide +kernel
theorem dX12_fixedOnes_18 : decode cX12_fixedOnes 18 = .ok (.invokevirtual 49, 3) := by decide +kernel
theorem dX12_fixedOnes_21 : decode cX12_fixedOnes 21 = .ok (.iload_n 2, 1) := by decide +kernel
theorem dX12_fixedOnes_22 : decode cX12_fixedOnes 22 = .ok (.ishl, 1) := by decide +kernel
theorem dX12_fixedOnes_23 : decode cX12_fixedOnes 23 = .ok (.ior, 1) := by decide +kernel
theorem dX12_fixedOnes_24 : decode cX12_fixedOnes 24 = .ok (.istore_n 1, 1) := by decide +kernel
theorem dX12_fixedOnes_25 : decode cX12_fixedOnes 25 = .ok (.iinc 2 1, 3) := by decide +kernel
theorem dX12_fixedOnes_28 : decode cX12_fixedOnes 28 = .ok (.goto (-24), 3) := by decide +kernel
theorem dX12_fixedOnes_31 : decode cX12_fixedOnes 31 = .ok (.iload_n 1, 1) := by decide +kernel
theorem dX12_fixedOnes_32 : decode cX12_fixedOnes 32 = .ok (.ireturn, 1) := by decide +kernel
theorem dX12_allMoved_0 : decode cX12_allMoved 0 = .ok (.iconst 0, 1) := by decide +kernel
theorem dX12_allMoved_1 : decode cX12_allMoved 1 = .ok (.istore_n 1, 1) := by decide +kernel
theorem dX12_allMoved_2 : decode cX12_allMoved 2 = .ok (.iconst 0, 1) := by decide +kernel
theorem dX12_allMoved_3 : decode cX12_allMoved 3 = .ok (.istore_n 2, 1) := by decide +kernel
theorem dX12_allMoved_4 : decode cX12_allMoved 4 = .ok (.iload_n 2, 1) := by decide +kernel
theorem dX12_allMoved_5 : decode cX12_allMoved 5 = .ok (.aload_n 0, 1) := by decide +kernel
theorem dX12_allMoved_6 : decode cX12_allMoved 6 = .ok (.getfield 9, 3) := by decide +kernel
theorem dX12_allMoved_9 : decode cX12_allMoved 9 = .ok (.iconst 2, 1) := by decide +kernel
theorem dX12_allMoved_10 : decode cX12_allMoved 10 = .ok (.iaload, 1) := by decide +kernel
theorem dX12_allMoved_11 : decode cX12_allMoved 11 = .ok (.if_icmp .ge 18, 3) := by decide +kernel
theorem dX12_allMoved_14 : decode cX12_allMoved 14 = .ok (.iload_n 1, 1) := by decide +kernel
theorem dX12_allMoved_15 : decode cX12_allMoved 15 = .ok (.aload_n 0, 1) := by decide +kernel
theorem dX12_allMoved_16 : decode cX12_allMoved 16 = .ok (.iload_n 2, 1) := by decide +kernel
theorem dX12_allMoved_17 : decode cX12_allMoved 17 = .ok (.iconst 1, 1) := by decide +kernel
theorem dX12_allMoved_18 : decode cX12_allMoved 18 = .ok (.invokevirtual 49, 3) := by decide +kernel
theorem dX12_allMoved_21 : decode cX12_allMoved 21 = .ok (.iadd, 1) := by decide +kernel
theorem dX12_allMoved_22 : decode cX12_allMoved 22 = .ok (.istore_n 1, 1) := by decide +kernel
theorem dX12_allMoved_23 : decode cX12_allMoved 23 = .ok (.iinc 2 1, 3) := by decide +kernel
theorem dX12_allMoved_26 : decode cX12_allMoved 26 = .ok (.goto (-22), 3) := by decide +kernel
theorem dX12_allMoved_29 : decode cX12_allMoved 29 = .ok (.iload_n 1, 1) := by decide +kernel
theorem dX12_allMoved_30 : decode cX12_allMoved 30 = .ok (.ireturn, 1) := by decide +kernel
theorem dX12_now_0 : decode cX12_now 0 = .ok (.iload_n 1, 1) := by decide +kernel
theorem dX12_now_1 : decode cX12_now 1 = .ok (.tableswitch 90 0 5 #[39, 39, 48, 75, 80, 85], 39) := by decide +kernel
theorem dX12_now_40 : decode cX12_now 40 = .ok (.aload_n 0, 1) := by decide +kernel
theorem dX12_now_41 : decode cX12_now 41 = .ok (.getfield 9, 3) := by decide +kernel
theorem dX12_now_44 : decode cX12_now 44 = .ok (.iconst 0, 1) := by decide +kernel
theorem dX12_now_45 : decode cX12_now 45 = .ok (.iload_n 1, 1) := by decide +kernel
theorem dX12_now_46 : decode cX12_now 46 = .ok (.iadd, 1) := by decide +kernel
theorem dX12_now_47 : decode cX12_now 47 = .ok (.iaload, 1) := by decide +kernel
theorem dX12_now_48 : decode cX12_now 48 = .ok (.ireturn, 1) := by decide +kernel
theorem dX12_now_49 : decode cX12_now 49 = .ok (.aload_n 0, 1) := by decide +kernel
theorem dX12_now_50 : decode cX12_now 50 = .ok (.getfield 9, 3) := by decide +kernel
theorem dX12_now_53 : decode cX12_now 53 = .ok (.iconst 3, 1) := by decide +kernel
theorem dX12_now_54 : decode cX12_now 54 = .ok (.iaload, 1) := by decide +kernel
theorem dX12_now_55 : decode cX12_now 55 = .ok (.ifCond .ne 7, 3) := by decide +kernel
theorem dX12_now_58 : decode cX12_now 58 = .ok (.iconst (-1), 1) := by decide +kernel
theorem dX12_now_59 : decode cX12_now 59 = .ok (.goto 16, 3) := by decide +kernel
theorem dX12_now_62 : decode cX12_now 62 = .ok (.aload_n 0, 1) := by decide +kernel
theorem dX12_now_63 : decode cX12_now 63 = .ok (.getfield 9, 3) := by decide +kernel
theorem dX12_now_66 : decode cX12_now 66 = .ok (.iconst 0, 1) := by decide +kernel
theorem dX12_now_67 : decode cX12_now 67 = .ok (.iaload, 1) := by decide +kernel
theorem dX12_now_68 : decode cX12_now 68 = .ok (.aload_n 0, 1) := by decide +kernel
theorem dX12_now_69 : decode cX12_now 69 = .ok (.getfield 9, 3) := by decide +kernel
theorem dX12_now_72 : decode cX12_now 72 = .ok (.iconst 3, 1) := by decide +kernel
theorem dX12_now_73 : decode cX12_now 73 = .ok (.iaload, 1) := by decide +kernel
theorem dX12_now_74 : decode cX12_now 74 = .ok (.irem, 1) := by decide +kernel
theorem dX12_now_75 : decode cX12_now 75 = .ok (.ireturn, 1) := by decide +kernel
theorem dX12_now_76 : decode cX12_now 76 = .ok (.aload_n 0, 1) := by decide +kernel
theorem dX12_now_77 : decode cX12_now 77 = .ok (.invokevirtual 87, 3) := by decide +kernel
theorem dX12_now_80 : decode cX12_now 80 = .ok (.ireturn, 1) := by decide +kernel
theorem dX12_now_81 : decode cX12_now 81 = .ok (.aload_n 0, 1) := by decide +kernel
theorem dX12_now_82 : decode cX12_now 82 = .ok (.invokevirtual 91, 3) := by decide +kernel
theorem dX12_now_85 : decode cX12_now 85 = .ok (.ireturn, 1) := by decide +kernel
theorem dX12_now_86 : decode cX12_now 86 = .ok (.aload_n 0, 1) := by decide +kernel
theorem dX12_now_87 : decode cX12_now 87 = .ok (.invokevirtual 94, 3) := by decide +kernel
theorem dX12_now_90 : decode cX12_now 90 = .ok (.ireturn, 1) := by decide +kernel
theorem dX12_now_91 : decode cX12_now 91 = .ok (.aload_n 0, 1) := by decide +kernel
theorem dX12_now_92 : decode cX12_now 92 = .ok (.ldc 35, 2) := by decide +kernel
theorem dX12_now_94 : decode cX12_now 94 = .ok (.invokevirtual 37, 3) := by decide +kernel
theorem dX12_now_97 : decode cX12_now 97 = .ok (.ireturn, 1) := by decide +kernel
theorem dX12_comesAs_0 : decode cX12_comesAs 0 = .ok (.aload_n 0, 1) := by decide +kernel
theorem dX12_comesAs_1 : decode cX12_comesAs 1 = .ok (.getfield 9, 3) := by decide +kernel
theorem dX12_comesAs_4 : decode cX12_comesAs 4 = .ok (.iconst 3, 1) := by decide +kernel
theorem dX12_comesAs_5 : decode cX12_comesAs 5 = .ok (.iaload, 1) := by decide +kernel
theorem dX12_comesAs_6 : decode cX12_comesAs 6 = .ok (.istore_n 2, 1) := by decide +kernel
theorem dX12_comesAs_7 : decode cX12_comesAs 7 = .ok (.aload_n 0, 1) := by decide +kernel
theorem dX12_comesAs_8 : decode cX12_comesAs 8 = .ok (.getfield 9, 3) := by decide +kernel
theorem dX12_comesAs_11 : decode cX12_comesAs 11 = .ok (.iconst 3, 1) := by decide +kernel
theorem dX12_comesAs_12 : decode cX12_comesAs 12 = .ok (.dup2, 1) := by decide +kernel
theorem dX12_comesAs_13 : decode cX12_comesAs 13 = .ok (.iaload, 1) := by decide +kernel
theorem dX12_comesAs_14 : decode cX12_comesAs 14 = .ok (.iconst 1, 1) := by decide +kernel
theorem dX12_comesAs_15 : decode cX12_comesAs 15 = .ok (.iadd, 1) := by decide +kernel
theorem dX12_comesAs_16 : decode cX12_comesAs 16 = .ok (.iastore, 1) := by decide +kernel
theorem dX12_comesAs_17 : decode cX12_comesAs 17 = .ok (.aload_n 0, 1) := by decide +kernel
theorem dX12_comesAs_18 : decode cX12_comesAs 18 = .ok (.getfield 9, 3) := by decide +kernel
theorem dX12_comesAs_21 : decode cX12_comesAs 21 = .ok (.bipush 34, 2) := by decide +kernel
theorem dX12_comesAs_23 : decode cX12_comesAs 23 = .ok (.bipush 12, 2) := by decide +kernel
theorem dX12_comesAs_25 : decode cX12_comesAs 25 = .ok (.iload_n 2, 1) := by decide +kernel
theorem dX12_comesAs_26 : decode cX12_comesAs 26 = .ok (.imul, 1) := by decide +kernel
theorem dX12_comesAs_27 : decode cX12_comesAs 27 = .ok (.iadd, 1) := by decide +kernel
theorem dX12_comesAs_28 : decode cX12_comesAs 28 = .ok (.iload_n 1, 1) := by decide +kernel
theorem dX12_comesAs_29 : decode cX12_comesAs 29 = .ok (.iastore, 1) := by decide +kernel
theorem dX12_comesAs_30 : decode cX12_comesAs 30 = .ok (.aload_n 0, 1) := by decide +kernel
theorem dX12_comesAs_31 : decode cX12_comesAs 31 = .ok (.getfield 9, 3) := by decide +kernel
theorem dX12_comesAs_34 : decode cX12_comesAs 34 = .ok (.bipush 34, 2) := by decide +kernel
theorem dX12_comesAs_36 : decode cX12_comesAs 36 = .ok (.bipush 12, 2) := by decide +kernel
theorem dX12_comesAs_38 : decode cX12_comesAs 38 = .ok (.iload_n 2, 1) := by decide +kernel
theorem dX12_comesAs_39 : decode cX12_comesAs 39 = .ok (.imul, 1) := by decide +kernel
theorem dX12_comesAs_40 : decode cX12_comesAs 40 = .ok (.iadd, 1) := by decide +kernel
theorem dX12_comesAs_41 : decode cX12_comesAs 41 = .ok (.iconst 1, 1) := by decide +kernel
theorem dX12_comesAs_42 : decode cX12_comesAs 42 = .ok (.iadd, 1) := by decide +kernel
theorem dX12_comesAs_43 : decode cX12_comesAs 43 = .ok (.iconst 0, 1) := by decide +kernel
theorem dX12_comesAs_44 : decode cX12_comesAs 44 = .ok (.iastore, 1) := by decide +kernel
theorem dX12_comesAs_45 : decode cX12_comesAs 45 = .ok (.iconst 0, 1) := by decide +kernel
theorem dX12_comesAs_46 : decode cX12_comesAs 46 = .ok (.istore_n 3, 1) := by decide +kernel
theorem dX12_comesAs_47 : decode cX12_comesAs 47 = .ok (.iload_n 3, 1) := by decide +kernel
theorem dX12_comesAs_48 : decode cX12_comesAs 48 = .ok (.bipush 10, 2) := by decide +kernel
theorem dX12_comesAs_50 : decode cX12_comesAs 50 = .ok (.if_icmp .ge 29, 3) := by decide +kernel
theorem dX12_comesAs_53 : decode cX12_comesAs 53 = .ok (.aload_n 0, 1) := by decide +kernel
theorem dX12_comesAs_54 : decode cX12_comesAs 54 = .ok (.getfield 9, 3) := by decide +kernel
theorem dX12_comesAs_57 : decode cX12_comesAs 57 = .ok (.bipush 34, 2) := by decide +kernel
theorem dX12_comesAs_59 : decode cX12_comesAs 59 = .ok (.bipush 12, 2) := by decide +kernel
theorem dX12_comesAs_61 : decode cX12_comesAs 61 = .ok (.iload_n 2, 1) := by decide +kernel
theorem dX12_comesAs_62 : decode cX12_comesAs 62 = .ok (.imul, 1) := by decide +kernel
theorem dX12_comesAs_63 : decode cX12_comesAs 63 = .ok (.iadd, 1) := by decide +kernel
theorem dX12_comesAs_64 : decode cX12_comesAs 64 = .ok (.iconst 2, 1) := by decide +kernel
theorem dX12_comesAs_65 : decode cX12_comesAs 65 = .ok (.iadd, 1) := by decide +kernel
theorem dX12_comesAs_66 : decode cX12_comesAs 66 = .ok (.iload_n 3, 1) := by decide +kernel
theorem dX12_comesAs_67 : decode cX12_comesAs 67 = .ok (.iadd, 1) := by decide +kernel
theorem dX12_comesAs_68 : decode cX12_comesAs 68 = .ok (.iload_n 3, 1) := by decide +kernel
theorem dX12_comesAs_69 : decode cX12_comesAs 69 = .ok (.bipush 6, 2) := by decide +kernel
theorem dX12_comesAs_71 : decode cX12_comesAs 71 = .ok (.irem, 1) := by decide +kernel
theorem dX12_comesAs_72 : decode cX12_comesAs 72 = .ok (.iastore, 1) := by decide +kernel
theorem dX12_comesAs_73 : decode cX12_comesAs 73 = .ok (.iinc 3 1, 3) := by decide +kernel
theorem dX12_comesAs_76 : decode cX12_comesAs 76 = .ok (.goto (-29), 3) := by decide +kernel
theorem dX12_comesAs_79 : decode cX12_comesAs 79 = .ok (.iload_n 2, 1) := by decide +kernel
theorem dX12_comesAs_80 : decode cX12_comesAs 80 = .ok (.ireturn, 1) := by decide +kernel
theorem dX12_person_0 : decode cX12_person 0 = .ok (.iload_n 1, 1) := by decide +kernel
theorem dX12_person_1 : decode cX12_person 1 = .ok (.i2l, 1) := by decide +kernel
theorem dX12_person_2 : decode cX12_person 2 = .ok (.iconst 0, 1) := by decide +kernel
theorem dX12_person_3 : decode cX12_person 3 = .ok (.iconst 5, 1) := by decide +kernel
theorem dX12_person_4 : decode cX12_person 4 = .ok (.invokestatic 41, 3) := by decide +kernel
theorem dX12_person_7 : decode cX12_person 7 = .ok (.ifCond .ne 10, 3) := by decide +kernel
theorem dX12_person_10 : decode cX12_person 10 = .ok (.aload_n 0, 1) := by decide +kernel
theorem dX12_person_11 : decode cX12_person 11 = .ok (.ldc 35, 2) := by decide +kernel
theorem dX12_person_13 : decode cX12_person 13 = .ok (.invokevirtual 37, 3) := by decide +kernel
theorem dX12_person_16 : decode cX12_person 16 = .ok (.ireturn, 1) := by decide +kernel
theorem dX12_person_17 : decode cX12_person 17 = .ok (.aload_n 0, 1) := by decide +kernel
theorem dX12_person_18 : decode cX12_person 18 = .ok (.getfield 9, 3) := by decide +kernel
theorem dX12_person_21 : decode cX12_person 21 = .ok (.iconst 3, 1) := by decide +kernel
theorem dX12_person_22 : decode cX12_person 22 = .ok (.iaload, 1) := by decide +kernel
theorem dX12_person_23 : decode cX12_person 23 = .ok (.bipush 6, 2) := by decide +kernel
theorem dX12_person_25 : decode cX12_person 25 = .ok (.if_icmp .ne 12, 3) := by decide +kernel
theorem dX12_person_28 : decode cX12_person 28 = .ok (.aload_n 0, 1) := by decide +kernel
theorem dX12_person_29 : decode cX12_person 29 = .ok (.ldc 70, 2) := by decide +kernel
theorem dX12_person_31 : decode cX12_person 31 = .ok (.invokevirtual 37, 3) := by decide +kernel
theorem dX12_person_34 : decode cX12_person 34 = .ok (.goto 8, 3) := by decide +kernel
theorem dX12_person_37 : decode cX12_person 37 = .ok (.aload_n 0, 1) := by decide +kernel
theorem dX12_person_38 : decode cX12_person 38 = .ok (.iload_n 1, 1) := by decide +kernel
theorem dX12_person_39 : decode cX12_person 39 = .ok (.invokevirtual 97, 3) := by decide +kernel
theorem dX12_person_42 : decode cX12_person 42 = .ok (.ireturn, 1) := by decide +kernel
theorem dX12_of_0 : decode cX12_of 0 = .ok (.aload_n 0, 1) := by decide +kernel
theorem dX12_of_1 : decode cX12_of 1 = .ok (.iload_n 1, 1) := by decide +kernel
theorem dX12_of_2 : decode cX12_of 2 = .ok (.invokevirtual 100, 3) := by decide +kernel
theorem dX12_of_5 : decode cX12_of 5 = .ok (.ifCond .ne 10, 3) := by decide +kernel
theorem dX12_of_8 : decode cX12_of 8 = .ok (.aload_n 0, 1) := by decide +kernel
theorem dX12_of_9 : decode cX12_of 9 = .ok (.ldc 35, 2) := by decide +kernel
theorem dX12_of_11 : decode cX12_of 11 = .ok (.invokevirtual 37, 3) := by decide +kernel
theorem dX12_of_14 : decode cX12_of 14 = .ok (.ireturn, 1) := by decide +kernel
theorem dX12_of_15 : decode cX12_of 15 = .ok (.iload_n 2, 1) := by decide +kernel
theorem dX12_of_16 : decode cX12_of 16 = .ok (.tableswitch 61 0 4 #[36, 36, 43, 49, 55], 36) := by decide +kernel
theorem dX12_of_52 : decode cX12_of 52 = .ok (.aload_n 0, 1) := by decide +kernel
theorem dX12_of_53 : decode cX12_of 53 = .ok (.iload_n 1, 1) := by decide +kernel
theorem dX12_of_54 : decode cX12_of 54 = .ok (.iload_n 2, 1) := by decide +kernel
theorem dX12_of_55 : decode cX12_of 55 = .ok (.invokevirtual 45, 3) := by decide +kernel
theorem dX12_of_58 : decode cX12_of 58 = .ok (.ireturn, 1) := by decide +kernel
theorem dX12_of_59 : decode cX12_of 59 = .ok (.aload_n 0, 1) := by decide +kernel
theorem dX12_of_60 : decode cX12_of 60 = .ok (.iload_n 1, 1) := by decide +kernel
theorem dX12_of_61 : decode cX12_of 61 = .ok (.invokevirtual 103, 3) := by decide +kernel
theorem dX12_of_64 : decode cX12_of 64 = .ok (.ireturn, 1) := by decide +kernel
theorem dX12_of_65 : decode cX12_of 65 = .ok (.aload_n 0, 1) := by decide +kernel
theorem dX12_of_66 : decode cX12_of 66 = .ok (.iload_n 1, 1) := by decide +kernel
theorem dX12_of_67 : decode cX12_of 67 = .ok (.invokevirtual 106, 3) := by decide +kernel
theorem dX12_of_70 : decode cX12_of 70 = .ok (.ireturn, 1) := by decide +kernel
theorem dX12_of_71 : decode cX12_of 71 = .ok (.aload_n 0, 1) := by decide +kernel
theorem dX12_of_72 : decode cX12_of 72 = .ok (.iload_n 1, 1) := by decide +kernel
theorem dX12_of_73 : decode cX12_of 73 = .ok (.invokevirtual 109, 3) := by decide +kernel
theorem dX12_of_76 : decode cX12_of 76 = .ok (.ireturn, 1) := by decide +kernel
theorem dX12_of_77 : decode cX12_of 77 = .ok (.aload_n 0, 1) := by decide +kernel
theorem dX12_of_78 : decode cX12_of 78 = .ok (.ldc 35, 2) := by decide +kernel
theorem dX12_of_80 : decode cX12_of 80 = .ok (.invokevirtual 37, 3) := by decide +kernel
theorem dX12_of_83 : decode cX12_of 83 = .ok (.ireturn, 1) := by decide +kernel
theorem dX12_wants_0 : decode cX12_wants 0 = .ok (.aload_n 0, 1) := by decide +kernel
theorem dX12_wants_1 : decode cX12_wants 1 = .ok (.iload_n 1, 1) := by decide +kernel
theorem dX12_wants_2 : decode cX12_wants 2 = .ok (.invokevirtual 100, 3) := by decide +kernel
theorem dX12_wants_5 : decode cX12_wants 5 = .ok (.ifCond .eq 28, 3) := by decide +kernel
theorem dX12_wants_8 : decode cX12_wants 8 = .ok (.iload_n 2, 1) := by decide +kernel
theorem dX12_wants_9 : decode cX12_wants 9 = .ok (.i2l, 1) := by decide +kernel
theorem dX12_wants_10 : decode cX12_wants 10 = .ok (.iconst 0, 1) := by decide +kernel
theorem dX12_wants_11 : decode cX12_wants 11 = .ok (.bipush 9, 2) := by decide +kernel
theorem dX12_wants_13 : decode cX12_wants 13 = .ok (.invokestatic 41, 3) := by decide +kernel
theorem dX12_wants_16 : decode cX12_wants 16 = .ok (.ifCond .eq 17, 3) := by decide +kernel
theorem dX12_wants_19 : decode cX12_wants 19 = .ok (.iload_n 3, 1) := by decide +kernel
theorem dX12_wants_20 : decode cX12_wants 20 = .ok (.i2l, 1) := by decide +kernel
theorem dX12_wants_21 : decode cX12_wants 21 = .ok (.iconst 0, 1) := by decide +kernel
theorem dX12_wants_22 : decode cX12_wants 22 = .ok (.iconst 5, 1) := by decide +kernel
theorem dX12_wants_23 : decode cX12_wants 23 = .ok (.invokestatic 41, 3) := by decide +kernel
theorem dX12_wants_26 : decode cX12_wants 26 = .ok (.ifCond .eq 7, 3) := by decide +kernel
theorem dX12_wants_29 : decode cX12_wants 29 = .ok (.iconst 1, 1) := by decide +kernel
theorem dX12_wants_30 : decode cX12_wants 30 = .ok (.goto 4, 3) := by decide +kernel
theorem dX12_wants_33 : decode cX12_wants 33 = .ok (.iconst 0, 1) := by decide +kernel
theorem dX12_wants_34 : decode cX12_wants 34 = .ok (.istore 4, 2) := by decide +kernel
theorem dX12_wants_36 : decode cX12_wants 36 = .ok (.iload 4, 2) := by decide +kernel
theorem dX12_wants_38 : decode cX12_wants 38 = .ok (.ifCond .eq 22, 3) := by decide +kernel
theorem dX12_wants_41 : decode cX12_wants 41 = .ok (.aload_n 0, 1) := by decide +kernel
theorem dX12_wants_42 : decode cX12_wants 42 = .ok (.bipush 34, 2) := by decide +kernel
theorem dX12_wants_44 : decode cX12_wants 44 = .ok (.bipush 12, 2) := by decide +kernel
theorem dX12_wants_46 : decode cX12_wants 46 = .ok (.iload_n 1, 1) := by decide +kernel
theorem dX12_wants_47 : decode cX12_wants 47 = .ok (.imul, 1) := by decide +kernel
theorem dX12_wants_48 : decode cX12_wants 48 = .ok (.iadd, 1) := by decide +kernel
theorem dX12_wants_49 : decode cX12_wants 49 = .ok (.iconst 2, 1) := by decide +kernel
theorem dX12_wants_50 : decode cX12_wants 50 = .ok (.iadd, 1) := by decide +kernel
theorem dX12_wants_51 : decode cX12_wants 51 = .ok (.iload_n 2, 1) := by decide +kernel
theorem dX12_wants_52 : decode cX12_wants 52 = .ok (.iadd, 1) := by decide +kernel
theorem dX12_wants_53 : decode cX12_wants 53 = .ok (.iload_n 3, 1) := by decide +kernel
theorem dX12_wants_54 : decode cX12_wants 54 = .ok (.invokevirtual 63, 3) := by decide +kernel
theorem dX12_wants_57 : decode cX12_wants 57 = .ok (.goto 9, 3) := by decide +kernel
theorem dX12_wants_60 : decode cX12_wants 60 = .ok (.aload_n 0, 1) := by decide +kernel
theorem dX12_wants_61 : decode cX12_wants 61 = .ok (.ldc 35, 2) := by decide +kernel
theorem dX12_wants_63 : decode cX12_wants 63 = .ok (.invokevirtual 37, 3) := by decide +kernel
theorem dX12_wants_66 : decode cX12_wants 66 = .ok (.ireturn, 1) := by decide +kernel
theorem dX12_out_0 : decode cX12_out 0 = .ok (.aload_n 0, 1) := by decide +kernel
theorem dX12_out_1 : decode cX12_out 1 = .ok (.iload_n 1, 1) := by decide +kernel
theorem dX12_out_2 : decode cX12_out 2 = .ok (.invokevirtual 100, 3) := by decide +kernel
theorem dX12_out_5 : decode cX12_out 5 = .ok (.ifCond .eq 30, 3) := by decide +kernel
theorem dX12_out_8 : decode cX12_out 8 = .ok (.iload_n 2, 1) := by decide +kernel
theorem dX12_out_9 : decode cX12_out 9 = .ok (.i2l, 1) := by decide +kernel
theorem dX12_out_10 : decode cX12_out 10 = .ok (.iconst 0, 1) := by decide +kernel
theorem dX12_out_11 : decode cX12_out 11 = .ok (.iconst 1, 1) := by decide +kernel
theorem dX12_out_12 : decode cX12_out 12 = .ok (.invokestatic 41, 3) := by decide +kernel
theorem dX12_out_15 : decode cX12_out 15 = .ok (.ifCond .eq 20, 3) := by decide +kernel
theorem dX12_out_18 : decode cX12_out 18 = .ok (.aload_n 0, 1) := by decide +kernel
theorem dX12_out_19 : decode cX12_out 19 = .ok (.bipush 34, 2) := by decide +kernel
theorem dX12_out_21 : decode cX12_out 21 = .ok (.bipush 12, 2) := by decide +kernel
theorem dX12_out_23 : decode cX12_out 23 = .ok (.iload_n 1, 1) := by decide +kernel
theorem dX12_out_24 : decode cX12_out 24 = .ok (.imul, 1) := by decide +kernel
theorem dX12_out_25 : decode cX12_out 25 = .ok (.iadd, 1) := by decide +kernel
theorem dX12_out_26 : decode cX12_out 26 = .ok (.iconst 1, 1) := by decide +kernel
theorem dX12_out_27 : decode cX12_out 27 = .ok (.iadd, 1) := by decide +kernel
theorem dX12_out_28 : decode cX12_out 28 = .ok (.iload_n 2, 1) := by decide +kernel
theorem dX12_out_29 : decode cX12_out 29 = .ok (.invokevirtual 63, 3) := by decide +kernel
theorem dX12_out_32 : decode cX12_out 32 = .ok (.goto 9, 3) := by decide +kernel
theorem dX12_out_35 : decode cX12_out 35 = .ok (.aload_n 0, 1) := by decide +kernel
theorem dX12_out_36 : decode cX12_out 36 = .ok (.ldc 35, 2) := by decide +kernel
theorem dX12_out_38 : decode cX12_out 38 = .ok (.invokevirtual 37, 3) := by decide +kernel
theorem dX12_out_41 : decode cX12_out 41 = .ok (.ireturn, 1) := by decide +kernel
theorem dX12_turn_0 : decode cX12_turn 0 = .ok (.aload_n 0, 1) := by decide +kernel
theorem dX12_turn_1 : decode cX12_turn 1 = .ok (.iload_n 1, 1) := by decide +kernel
theorem dX12_turn_2 : decode cX12_turn 2 = .ok (.invokevirtual 100, 3) := by decide +kernel
theorem dX12_turn_5 : decode cX12_turn 5 = .ok (.ifCond .eq 28, 3) := by decide +kernel
theorem dX12_turn_8 : decode cX12_turn 8 = .ok (.iload_n 2, 1) := by decide +kernel
theorem dX12_turn_9 : decode cX12_turn 9 = .ok (.i2l, 1) := by decide +kernel
theorem dX12_turn_10 : decode cX12_turn 10 = .ok (.iconst 0, 1) := by decide +kernel
theorem dX12_turn_11 : decode cX12_turn 11 = .ok (.iconst 5, 1) := by decide +kernel
theorem dX12_turn_12 : decode cX12_turn 12 = .ok (.invokestatic 41, 3) := by decide +kernel
theorem dX12_turn_15 : decode cX12_turn 15 = .ok (.ifCond .eq 18, 3) := by decide +kernel
theorem dX12_turn_18 : decode cX12_turn 18 = .ok (.aload_n 0, 1) := by decide +kernel
theorem dX12_turn_19 : decode cX12_turn 19 = .ok (.bipush 34, 2) := by decide +kernel
theorem dX12_turn_21 : decode cX12_turn 21 = .ok (.bipush 12, 2) := by decide +kernel
theorem dX12_turn_23 : decode cX12_turn 23 = .ok (.iload_n 1, 1) := by decide +kernel
theorem dX12_turn_24 : decode cX12_turn 24 = .ok (.imul, 1) := by decide +kernel
theorem dX12_turn_25 : decode cX12_turn 25 = .ok (.iadd, 1) := by decide +kernel
theorem dX12_turn_26 : decode cX12_turn 26 = .ok (.iload_n 2, 1) := by decide +kernel
theorem dX12_turn_27 : decode cX12_turn 27 = .ok (.invokevirtual 63, 3) := by decide +kernel
theorem dX12_turn_30 : decode cX12_turn 30 = .ok (.goto 9, 3) := by decide +kernel
theorem dX12_turn_33 : decode cX12_turn 33 = .ok (.aload_n 0, 1) := by decide +kernel
theorem dX12_turn_34 : decode cX12_turn 34 = .ok (.ldc 35, 2) := by decide +kernel
theorem dX12_turn_36 : decode cX12_turn 36 = .ok (.invokevirtual 37, 3) := by decide +kernel
theorem dX12_turn_39 : decode cX12_turn 39 = .ok (.ireturn, 1) := by decide +kernel
theorem dX12_as_0 : decode cX12_as 0 = .ok (.aload_n 0, 1) := by decide +kernel
theorem dX12_as_1 : decode cX12_as 1 = .ok (.iload_n 1, 1) := by decide +kernel
theorem dX12_as_2 : decode cX12_as 2 = .ok (.invokevirtual 100, 3) := by decide +kernel
theorem dX12_as_5 : decode cX12_as 5 = .ok (.ifCond .eq 13, 3) := by decide +kernel
theorem dX12_as_8 : decode cX12_as 8 = .ok (.iload_n 2, 1) := by decide +kernel
theorem dX12_as_9 : decode cX12_as 9 = .ok (.i2l, 1) := by decide +kernel
theorem dX12_as_10 : decode cX12_as 10 = .ok (.iconst 0, 1) := by decide +kernel
theorem dX12_as_11 : decode cX12_as 11 = .ok (.iconst 5, 1) := by decide +kernel
theorem dX12_as_12 : decode cX12_as 12 = .ok (.invokestatic 41, 3) := by decide +kernel
theorem dX12_as_15 : decode cX12_as 15 = .ok (.ifCond .ne 10, 3) := by decide +kernel
theorem dX12_as_18 : decode cX12_as 18 = .ok (.aload_n 0, 1) := by decide +kernel
theorem dX12_as_19 : decode cX12_as 19 = .ok (.ldc 35, 2) := by decide +kernel
theorem dX12_as_21 : decode cX12_as 21 = .ok (.invokevirtual 37, 3) := by decide +kernel
theorem dX12_as_24 : decode cX12_as 24 = .ok (.ireturn, 1) := by decide +kernel
theorem dX12_as_25 : decode cX12_as 25 = .ok (.aload_n 0, 1) := by decide +kernel
theorem dX12_as_26 : decode cX12_as 26 = .ok (.iload_n 1, 1) := by decide +kernel
theorem dX12_as_27 : decode cX12_as 27 = .ok (.iconst 0, 1) := by decide +kernel
theorem dX12_as_28 : decode cX12_as 28 = .ok (.invokevirtual 45, 3) := by decide +kernel
theorem dX12_as_31 : decode cX12_as 31 = .ok (.istore_n 3, 1) := by decide +kernel
theorem dX12_as_32 : decode cX12_as 32 = .ok (.iload_n 2, 1) := by decide +kernel
theorem dX12_as_33 : decode cX12_as 33 = .ok (.ifCond .eq 28, 3) := by decide +kernel
theorem dX12_as_36 : decode cX12_as 36 = .ok (.iload_n 2, 1) := by decide +kernel
theorem dX12_as_37 : decode cX12_as 37 = .ok (.iload_n 3, 1) := by decide +kernel
theorem dX12_as_38 : decode cX12_as 38 = .ok (.if_icmp .eq 23, 3) := by decide +kernel
theorem dX12_as_41 : decode cX12_as 41 = .ok (.iload_n 2, 1) := by decide +kernel
theorem dX12_as_42 : decode cX12_as 42 = .ok (.iconst 1, 1) := by decide +kernel
theorem dX12_as_43 : decode cX12_as 43 = .ok (.if_icmp .ne 8, 3) := by decide +kernel
theorem dX12_as_46 : decode cX12_as 46 = .ok (.iload_n 3, 1) := by decide +kernel
theorem dX12_as_47 : decode cX12_as 47 = .ok (.iconst 4, 1) := by decide +kernel
theorem dX12_as_48 : decode cX12_as 48 = .ok (.if_icmp .eq 13, 3) := by decide +kernel
theorem dX12_as_51 : decode cX12_as 51 = .ok (.iload_n 2, 1) := by decide +kernel
theorem dX12_as_52 : decode cX12_as 52 = .ok (.iconst 2, 1) := by decide +kernel
theorem dX12_as_53 : decode cX12_as 53 = .ok (.if_icmp .ne 12, 3) := by decide +kernel
theorem dX12_as_56 : decode cX12_as 56 = .ok (.iload_n 3, 1) := by decide +kernel
theorem dX12_as_57 : decode cX12_as 57 = .ok (.iconst 5, 1) := by decide +kernel
theorem dX12_as_58 : decode cX12_as 58 = .ok (.if_icmp .ne 7, 3) := by decide +kernel
theorem dX12_as_61 : decode cX12_as 61 = .ok (.iconst 1, 1) := by decide +kernel
theorem dX12_as_62 : decode cX12_as 62 = .ok (.goto 4, 3) := by decide +kernel
theorem dX12_as_65 : decode cX12_as 65 = .ok (.iconst 0, 1) := by decide +kernel
theorem dX12_as_66 : decode cX12_as 66 = .ok (.istore 4, 2) := by decide +kernel
theorem dX12_as_68 : decode cX12_as 68 = .ok (.iload 4, 2) := by decide +kernel
theorem dX12_as_70 : decode cX12_as 70 = .ok (.ifCond .eq 14, 3) := by decide +kernel
theorem dX12_as_73 : decode cX12_as 73 = .ok (.aload_n 0, 1) := by decide +kernel
theorem dX12_as_74 : decode cX12_as 74 = .ok (.iload_n 1, 1) := by decide +kernel
theorem dX12_as_75 : decode cX12_as 75 = .ok (.invokevirtual 103, 3) := by decide +kernel
theorem dX12_as_78 : decode cX12_as 78 = .ok (.invokestatic 112, 3) := by decide +kernel
theorem dX12_as_81 : decode cX12_as 81 = .ok (.goto 9, 3) := by decide +kernel
theorem dX12_as_84 : decode cX12_as 84 = .ok (.aload_n 0, 1) := by decide +kernel
theorem dX12_as_85 : decode cX12_as 85 = .ok (.ldc 115, 2) := by decide +kernel
theorem dX12_as_87 : decode cX12_as 87 = .ok (.invokevirtual 37, 3) := by decide +kernel
theorem dX12_as_90 : decode cX12_as 90 = .ok (.ireturn, 1) := by decide +kernel
theorem dX12_sameOf_0 : decode cX12_sameOf 0 = .ok (.iconst 0, 1) := by decide +kernel
theorem dX12_sameOf_1 : decode cX12_sameOf 1 = .ok (.istore_n 3, 1) := by decide +kernel
theorem dX12_sameOf_2 : decode cX12_sameOf 2 = .ok (.iconst 0, 1) := by decide +kernel
theorem dX12_sameOf_3 : decode cX12_sameOf 3 = .ok (.istore 4, 2) := by decide +kernel
theorem dX12_sameOf_5 : decode cX12_sameOf 5 = .ok (.iload 4, 2) := by decide +kernel
theorem dX12_sameOf_7 : decode cX12_sameOf 7 = .ok (.aload_n 0, 1) := by decide +kernel
theorem dX12_sameOf_8 : decode cX12_sameOf 8 = .ok (.getfield 9, 3) := by decide +kernel
theorem dX12_sameOf_11 : decode cX12_sameOf 11 = .ok (.iconst 2, 1) := by decide +kernel
theorem dX12_sameOf_12 : decode cX12_sameOf 12 = .ok (.iaload, 1) := by decide +kernel
theorem dX12_sameOf_13 : decode cX12_sameOf 13 = .ok (.if_icmp .ge 34, 3) := by decide +kernel
theorem dX12_sameOf_16 : decode cX12_sameOf 16 = .ok (.iload_n 3, 1) := by decide +kernel
theorem dX12_sameOf_17 : decode cX12_sameOf 17 = .ok (.aload_n 0, 1) := by decide +kernel
theorem dX12_sameOf_18 : decode cX12_sameOf 18 = .ok (.iload_n 1, 1) := by decide +kernel
theorem dX12_sameOf_19 : decode cX12_sameOf 19 = .ok (.iload 4, 2) := by decide +kernel
theorem dX12_sameOf_21 : decode cX12_sameOf 21 = .ok (.invokevirtual 52, 3) := by decide +kernel
theorem dX12_sameOf_24 : decode cX12_sameOf 24 = .ok (.aload_n 0, 1) := by decide +kernel
theorem dX12_sameOf_25 : decode cX12_sameOf 25 = .ok (.iload_n 2, 1) := by decide +kernel
theorem dX12_sameOf_26 : decode cX12_sameOf 26 = .ok (.iload 4, 2) := by decide +kernel
theorem dX12_sameOf_28 : decode cX12_sameOf 28 = .ok (.invokevirtual 52, 3) := by decide +kernel
theorem dX12_sameOf_31 : decode cX12_sameOf 31 = .ok (.if_icmp .ne 7, 3) := by decide +kernel
theorem dX12_sameOf_34 : decode cX12_sameOf 34 = .ok (.iconst 1, 1) := by decide +kernel
theorem dX12_sameOf_35 : decode cX12_sameOf 35 = .ok (.goto 4, 3) := by decide +kernel
theorem dX12_sameOf_38 : decode cX12_sameOf 38 = .ok (.iconst 0, 1) := by decide +kernel
theorem dX12_sameOf_39 : decode cX12_sameOf 39 = .ok (.iadd, 1) := by decide +kernel
theorem dX12_sameOf_40 : decode cX12_sameOf 40 = .ok (.istore_n 3, 1) := by decide +kernel
theorem dX12_sameOf_41 : decode cX12_sameOf 41 = .ok (.iinc 4 1, 3) := by decide +kernel
theorem dX12_sameOf_44 : decode cX12_sameOf 44 = .ok (.goto (-39), 3) := by decide +kernel
theorem dX12_sameOf_47 : decode cX12_sameOf 47 = .ok (.iload_n 3, 1) := by decide +kernel
theorem dX12_sameOf_48 : decode cX12_sameOf 48 = .ok (.ireturn, 1) := by decide +kernel
theorem dX12_alike_0 : decode cX12_alike 0 = .ok (.aload_n 0, 1) := by decide +kernel
theorem dX12_alike_1 : decode cX12_alike 1 = .ok (.iload_n 1, 1) := by decide +kernel
theorem dX12_alike_2 : decode cX12_alike 2 = .ok (.invokevirtual 100, 3) := by decide +kernel
theorem dX12_alike_5 : decode cX12_alike 5 = .ok (.ifCond .eq 25, 3) := by decide +kernel
theorem dX12_alike_8 : decode cX12_alike 8 = .ok (.aload_n 0, 1) := by decide +kernel
theorem dX12_alike_9 : decode cX12_alike 9 = .ok (.iload_n 2, 1) := by decide +kernel
theorem dX12_alike_10 : decode cX12_alike 10 = .ok (.invokevirtual 100, 3) := by decide +kernel
theorem dX12_alike_13 : decode cX12_alike 13 = .ok (.ifCond .eq 17, 3) := by decide +kernel
theorem dX12_alike_16 : decode cX12_alike 16 = .ok (.iload_n 1, 1) := by decide +kernel
theorem dX12_alike_17 : decode cX12_alike 17 = .ok (.iload_n 2, 1) := by decide +kernel
theorem dX12_alike_18 : decode cX12_alike 18 = .ok (.if_icmp .eq 12, 3) := by decide +kernel
theorem dX12_alike_21 : decode cX12_alike 21 = .ok (.aload_n 0, 1) := by decide +kernel
theorem dX12_alike_22 : decode cX12_alike 22 = .ok (.iload_n 1, 1) := by decide +kernel
theorem dX12_alike_23 : decode cX12_alike 23 = .ok (.iload_n 2, 1) := by decide +kernel
theorem dX12_alike_24 : decode cX12_alike 24 = .ok (.invokevirtual 116, 3) := by decide +kernel
theorem dX12_alike_27 : decode cX12_alike 27 = .ok (.goto 9, 3) := by decide +kernel
theorem dX12_alike_30 : decode cX12_alike 30 = .ok (.aload_n 0, 1) := by decide +kernel
theorem dX12_alike_31 : decode cX12_alike 31 = .ok (.ldc 35, 2) := by decide +kernel
theorem dX12_alike_33 : decode cX12_alike 33 = .ok (.invokevirtual 37, 3) := by decide +kernel
theorem dX12_alike_36 : decode cX12_alike 36 = .ok (.ireturn, 1) := by decide +kernel
theorem dX12_movesOne_0 : decode cX12_movesOne 0 = .ok (.aload_n 0, 1) := by decide +kernel
theorem dX12_movesOne_1 : decode cX12_movesOne 1 = .ok (.iload_n 1, 1) := by decide +kernel
theorem dX12_movesOne_2 : decode cX12_movesOne 2 = .ok (.invokevirtual 106, 3) := by decide +kernel
theorem dX12_movesOne_5 : decode cX12_movesOne 5 = .ok (.istore_n 2, 1) := by decide +kernel
theorem dX12_movesOne_6 : decode cX12_movesOne 6 = .ok (.iload_n 2, 1) := by decide +kernel
theorem dX12_movesOne_7 : decode cX12_movesOne 7 = .ok (.ifCond .lt 68, 3) := by decide +kernel
theorem dX12_movesOne_10 : decode cX12_movesOne 10 = .ok (.aload_n 0, 1) := by decide +kernel
theorem dX12_movesOne_11 : decode cX12_movesOne 11 = .ok (.iload_n 2, 1) := by decide +kernel
theorem dX12_movesOne_12 : decode cX12_movesOne 12 = .ok (.iconst 0, 1) := by decide +kernel
theorem dX12_movesOne_13 : decode cX12_movesOne 13 = .ok (.aload_n 0, 1) := by decide +kernel
theorem dX12_movesOne_14 : decode cX12_movesOne 14 = .ok (.iload_n 1, 1) := by decide +kernel
theorem dX12_movesOne_15 : decode cX12_movesOne 15 = .ok (.iload_n 2, 1) := by decide +kernel
theorem dX12_movesOne_16 : decode cX12_movesOne 16 = .ok (.invokevirtual 52, 3) := by decide +kernel
theorem dX12_movesOne_19 : decode cX12_movesOne 19 = .ok (.invokevirtual 66, 3) := by decide +kernel
theorem dX12_movesOne_22 : decode cX12_movesOne 22 = .ok (.aload_n 0, 1) := by decide +kernel
theorem dX12_movesOne_23 : decode cX12_movesOne 23 = .ok (.iload_n 2, 1) := by decide +kernel
theorem dX12_movesOne_24 : decode cX12_movesOne 24 = .ok (.iconst 1, 1) := by decide +kernel
theorem dX12_movesOne_25 : decode cX12_movesOne 25 = .ok (.aload_n 0, 1) := by decide +kernel
theorem dX12_movesOne_26 : decode cX12_movesOne 26 = .ok (.iload_n 2, 1) := by decide +kernel
theorem dX12_movesOne_27 : decode cX12_movesOne 27 = .ok (.iconst 1, 1) := by decide +kernel
theorem dX12_movesOne_28 : decode cX12_movesOne 28 = .ok (.invokevirtual 49, 3) := by decide +kernel
theorem dX12_movesOne_31 : decode cX12_movesOne 31 = .ok (.iconst 1, 1) := by decide +kernel
theorem dX12_movesOne_32 : decode cX12_movesOne 32 = .ok (.iadd, 1) := by decide +kernel
theorem dX12_movesOne_33 : decode cX12_movesOne 33 = .ok (.iconst 0, 1) := by decide +kernel
theorem dX12_movesOne_34 : decode cX12_movesOne 34 = .ok (.sipush 999, 3) := by decide +kernel
theorem dX12_movesOne_37 : decode cX12_movesOne 37 = .ok (.invokestatic 119, 3) := by decide +kernel
theorem dX12_movesOne_40 : decode cX12_movesOne 40 = .ok (.invokevirtual 66, 3) := by decide +kernel
theorem dX12_movesOne_43 : decode cX12_movesOne 43 = .ok (.aload_n 0, 1) := by decide +kernel
theorem dX12_movesOne_44 : decode cX12_movesOne 44 = .ok (.iload_n 2, 1) := by decide +kernel
theorem dX12_movesOne_45 : decode cX12_movesOne 45 = .ok (.iconst 2, 1) := by decide +kernel
theorem dX12_movesOne_46 : decode cX12_movesOne 46 = .ok (.aload_n 0, 1) := by decide +kernel
theorem dX12_movesOne_47 : decode cX12_movesOne 47 = .ok (.iload_n 1, 1) := by decide +kernel
theorem dX12_movesOne_48 : decode cX12_movesOne 48 = .ok (.iload_n 2, 1) := by decide +kernel
theorem dX12_movesOne_49 : decode cX12_movesOne 49 = .ok (.invokevirtual 123, 3) := by decide +kernel
theorem dX12_movesOne_52 : decode cX12_movesOne 52 = .ok (.ifCond .eq 7, 3) := by decide +kernel
theorem dX12_movesOne_55 : decode cX12_movesOne 55 = .ok (.iconst 1, 1) := by decide +kernel
theorem dX12_movesOne_56 : decode cX12_movesOne 56 = .ok (.goto 4, 3) := by decide +kernel
theorem dX12_movesOne_59 : decode cX12_movesOne 59 = .ok (.iconst 0, 1) := by decide +kernel
theorem dX12_movesOne_60 : decode cX12_movesOne 60 = .ok (.invokevirtual 66, 3) := by decide +kernel
theorem dX12_movesOne_63 : decode cX12_movesOne 63 = .ok (.aload_n 0, 1) := by decide +kernel
theorem dX12_movesOne_64 : decode cX12_movesOne 64 = .ok (.dup, 1) := by decide +kernel
theorem dX12_movesOne_65 : decode cX12_movesOne 65 = .ok (.getfield 126, 3) := by decide +kernel
theorem dX12_movesOne_68 : decode cX12_movesOne 68 = .ok (.iconst 1, 1) := by decide +kernel
theorem dX12_movesOne_69 : decode cX12_movesOne 69 = .ok (.iload_n 2, 1) := by decide +kernel
theorem dX12_movesOne_70 : decode cX12_movesOne 70 = .ok (.ishl, 1) := by decide +kernel
theorem dX12_movesOne_71 : decode cX12_movesOne 71 = .ok (.ior, 1) := by decide +kernel
theorem dX12_movesOne_72 : decode cX12_movesOne 72 = .ok (.putfield 126, 3) := by decide +kernel
theorem dX12_movesOne_75 : decode cX12_movesOne 75 = .ok (.return_, 1) := by decide +kernel
theorem dX12_goes_0 : decode cX12_goes 0 = .ok (.aload_n 0, 1) := by decide +kernel
theorem dX12_goes_1 : decode cX12_goes 1 = .ok (.iconst 0, 1) := by decide +kernel
theorem dX12_goes_2 : decode cX12_goes 2 = .ok (.putfield 126, 3) := by decide +kernel
theorem dX12_goes_5 : decode cX12_goes 5 = .ok (.aload_n 0, 1) := by decide +kernel
theorem dX12_goes_6 : decode cX12_goes 6 = .ok (.getfield 9, 3) := by decide +kernel
theorem dX12_goes_9 : decode cX12_goes 9 = .ok (.iconst 3, 1) := by decide +kernel
theorem dX12_goes_10 : decode cX12_goes 10 = .ok (.iaload, 1) := by decide +kernel
theorem dX12_goes_11 : decode cX12_goes 11 = .ok (.ifCond .ne 7, 3) := by decide +kernel
theorem dX12_goes_14 : decode cX12_goes 14 = .ok (.iconst (-1), 1) := by decide +kernel
theorem dX12_goes_15 : decode cX12_goes 15 = .ok (.goto 16, 3) := by decide +kernel
theorem dX12_goes_18 : decode cX12_goes 18 = .ok (.aload_n 0, 1) := by decide +kernel
theorem dX12_goes_19 : decode cX12_goes 19 = .ok (.getfield 9, 3) := by decide +kernel
theorem dX12_goes_22 : decode cX12_goes 22 = .ok (.iconst 0, 1) := by decide +kernel
theorem dX12_goes_23 : decode cX12_goes 23 = .ok (.iaload, 1) := by decide +kernel
theorem dX12_goes_24 : decode cX12_goes 24 = .ok (.aload_n 0, 1) := by decide +kernel
theorem dX12_goes_25 : decode cX12_goes 25 = .ok (.getfield 9, 3) := by decide +kernel
theorem dX12_goes_28 : decode cX12_goes 28 = .ok (.iconst 3, 1) := by decide +kernel
theorem dX12_goes_29 : decode cX12_goes 29 = .ok (.iaload, 1) := by decide +kernel
theorem dX12_goes_30 : decode cX12_goes 30 = .ok (.irem, 1) := by decide +kernel
theorem dX12_goes_31 : decode cX12_goes 31 = .ok (.istore_n 1, 1) := by decide +kernel
theorem dX12_goes_32 : decode cX12_goes 32 = .ok (.iload_n 1, 1) := by decide +kernel
theorem dX12_goes_33 : decode cX12_goes 33 = .ok (.ifCond .lt 34, 3) := by decide +kernel
theorem dX12_goes_36 : decode cX12_goes 36 = .ok (.aload_n 0, 1) := by decide +kernel
theorem dX12_goes_37 : decode cX12_goes 37 = .ok (.iload_n 1, 1) := by decide +kernel
theorem dX12_goes_38 : decode cX12_goes 38 = .ok (.iconst 1, 1) := by decide +kernel
theorem dX12_goes_39 : decode cX12_goes 39 = .ok (.invokevirtual 45, 3) := by decide +kernel
theorem dX12_goes_42 : decode cX12_goes 42 = .ok (.ifCond .ne 25, 3) := by decide +kernel
theorem dX12_goes_45 : decode cX12_goes 45 = .ok (.iconst 0, 1) := by decide +kernel
theorem dX12_goes_46 : decode cX12_goes 46 = .ok (.istore_n 2, 1) := by decide +kernel
theorem dX12_goes_47 : decode cX12_goes 47 = .ok (.iload_n 2, 1) := by decide +kernel
theorem dX12_goes_48 : decode cX12_goes 48 = .ok (.aload_n 0, 1) := by decide +kernel
theorem dX12_goes_49 : decode cX12_goes 49 = .ok (.iload_n 1, 1) := by decide +kernel
theorem dX12_goes_50 : decode cX12_goes 50 = .ok (.invokevirtual 109, 3) := by decide +kernel
theorem dX12_goes_53 : decode cX12_goes 53 = .ok (.if_icmp .ge 14, 3) := by decide +kernel
theorem dX12_goes_56 : decode cX12_goes 56 = .ok (.aload_n 0, 1) := by decide +kernel
theorem dX12_goes_57 : decode cX12_goes 57 = .ok (.iload_n 1, 1) := by decide +kernel
theorem dX12_goes_58 : decode cX12_goes 58 = .ok (.invokevirtual 130, 3) := by decide +kernel
theorem dX12_goes_61 : decode cX12_goes 61 = .ok (.iinc 2 1, 3) := by decide +kernel
theorem dX12_goes_64 : decode cX12_goes 64 = .ok (.goto (-17), 3) := by decide +kernel
theorem dX12_goes_67 : decode cX12_goes 67 = .ok (.aload_n 0, 1) := by decide +kernel
theorem dX12_goes_68 : decode cX12_goes 68 = .ok (.getfield 9, 3) := by decide +kernel
theorem dX12_goes_71 : decode cX12_goes 71 = .ok (.iconst 0, 1) := by decide +kernel
theorem dX12_goes_72 : decode cX12_goes 72 = .ok (.dup2, 1) := by decide +kernel
theorem dX12_goes_73 : decode cX12_goes 73 = .ok (.iaload, 1) := by decide +kernel
theorem dX12_goes_74 : decode cX12_goes 74 = .ok (.iconst 1, 1) := by decide +kernel
theorem dX12_goes_75 : decode cX12_goes 75 = .ok (.iadd, 1) := by decide +kernel
theorem dX12_goes_76 : decode cX12_goes 76 = .ok (.iastore, 1) := by decide +kernel
theorem dX12_goes_77 : decode cX12_goes 77 = .ok (.return_, 1) := by decide +kernel
theorem dX12_goesFor_0 : decode cX12_goesFor 0 = .ok (.iconst 0, 1) := by decide +kernel
theorem dX12_goesFor_1 : decode cX12_goesFor 1 = .ok (.istore_n 2, 1) := by decide +kernel
theorem dX12_goesFor_2 : decode cX12_goesFor 2 = .ok (.iload_n 2, 1) := by decide +kernel
theorem dX12_goesFor_3 : decode cX12_goesFor 3 = .ok (.iload_n 1, 1) := by decide +kernel
theorem dX12_goesFor_4 : decode cX12_goesFor 4 = .ok (.if_icmp .ge 13, 3) := by decide +kernel
theorem dX12_goesFor_7 : decode cX12_goesFor 7 = .ok (.aload_n 0, 1) := by decide +kernel
theorem dX12_goesFor_8 : decode cX12_goesFor 8 = .ok (.invokevirtual 134, 3) := by decide +kernel
theorem dX12_goesFor_11 : decode cX12_goesFor 11 = .ok (.iinc 2 1, 3) := by decide +kernel
theorem dX12_goesFor_14 : decode cX12_goesFor 14 = .ok (.goto (-12), 3) := by decide +kernel
theorem dX12_goesFor_17 : decode cX12_goesFor 17 = .ok (.return_, 1) := by decide +kernel
theorem dX12_minutes_0 : decode cX12_minutes 0 = .ok (.iload_n 1, 1) := by decide +kernel
theorem dX12_minutes_1 : decode cX12_minutes 1 = .ok (.i2l, 1) := by decide +kernel
theorem dX12_minutes_2 : decode cX12_minutes 2 = .ok (.iconst 1, 1) := by decide +kernel
theorem dX12_minutes_3 : decode cX12_minutes 3 = .ok (.bipush 100, 2) := by decide +kernel
theorem dX12_minutes_5 : decode cX12_minutes 5 = .ok (.invokestatic 41, 3) := by decide +kernel
theorem dX12_minutes_8 : decode cX12_minutes 8 = .ok (.ifCond .ne 10, 3) := by decide +kernel
theorem dX12_minutes_11 : decode cX12_minutes 11 = .ok (.aload_n 0, 1) := by decide +kernel
theorem dX12_minutes_12 : decode cX12_minutes 12 = .ok (.ldc 35, 2) := by decide +kernel
theorem dX12_minutes_14 : decode cX12_minutes 14 = .ok (.invokevirtual 37, 3) := by decide +kernel
theorem dX12_minutes_17 : decode cX12_minutes 17 = .ok (.ireturn, 1) := by decide +kernel
theorem dX12_minutes_18 : decode cX12_minutes 18 = .ok (.aload_n 0, 1) := by decide +kernel
theorem dX12_minutes_19 : decode cX12_minutes 19 = .ok (.getfield 9, 3) := by decide +kernel
theorem dX12_minutes_22 : decode cX12_minutes 22 = .ok (.iconst 0, 1) := by decide +kernel
theorem dX12_minutes_23 : decode cX12_minutes 23 = .ok (.iaload, 1) := by decide +kernel
theorem dX12_minutes_24 : decode cX12_minutes 24 = .ok (.iload_n 1, 1) := by decide +kernel
theorem dX12_minutes_25 : decode cX12_minutes 25 = .ok (.iadd, 1) := by decide +kernel
theorem dX12_minutes_26 : decode cX12_minutes 26 = .ok (.ldc 137, 2) := by decide +kernel
theorem dX12_minutes_28 : decode cX12_minutes 28 = .ok (.if_icmp .le 10, 3) := by decide +kernel
theorem dX12_minutes_31 : decode cX12_minutes 31 = .ok (.aload_n 0, 1) := by decide +kernel
theorem dX12_minutes_32 : decode cX12_minutes 32 = .ok (.ldc 138, 2) := by decide +kernel
theorem dX12_minutes_34 : decode cX12_minutes 34 = .ok (.invokevirtual 37, 3) := by decide +kernel
theorem dX12_minutes_37 : decode cX12_minutes 37 = .ok (.ireturn, 1) := by decide +kernel
theorem dX12_minutes_38 : decode cX12_minutes 38 = .ok (.aload_n 0, 1) := by decide +kernel
theorem dX12_minutes_39 : decode cX12_minutes 39 = .ok (.iload_n 1, 1) := by decide +kernel
theorem dX12_minutes_40 : decode cX12_minutes 40 = .ok (.invokevirtual 139, 3) := by decide +kernel
theorem dX12_minutes_43 : decode cX12_minutes 43 = .ok (.aload_n 0, 1) := by decide +kernel
theorem dX12_minutes_44 : decode cX12_minutes 44 = .ok (.invokevirtual 94, 3) := by decide +kernel
theorem dX12_minutes_47 : decode cX12_minutes 47 = .ok (.ireturn, 1) := by decide +kernel
theorem dX12_thinks_0 : decode cX12_thinks 0 = .ok (.aload_n 0, 1) := by decide +kernel
theorem dX12_thinks_1 : decode cX12_thinks 1 = .ok (.getfield 9, 3) := by decide +kernel
theorem dX12_thinks_4 : decode cX12_thinks 4 = .ok (.aload_n 0, 1) := by decide +kernel
theorem dX12_thinks_5 : decode cX12_thinks 5 = .ok (.getfield 16, 3) := by decide +kernel
theorem dX12_thinks_8 : decode cX12_thinks 8 = .ok (.invokestatic 142, 3) := by decide +kernel
theorem dX12_thinks_11 : decode cX12_thinks 11 = .ok (.return_, 1) := by decide +kernel
theorem dX12_putsBack_0 : decode cX12_putsBack 0 = .ok (.aload_n 0, 1) := by decide +kernel
theorem dX12_putsBack_1 : decode cX12_putsBack 1 = .ok (.getfield 16, 3) := by decide +kernel
theorem dX12_putsBack_4 : decode cX12_putsBack 4 = .ok (.aload_n 0, 1) := by decide +kernel
theorem dX12_putsBack_5 : decode cX12_putsBack 5 = .ok (.getfield 9, 3) := by decide +kernel
theorem dX12_putsBack_8 : decode cX12_putsBack 8 = .ok (.invokestatic 142, 3) := by decide +kernel
theorem dX12_putsBack_11 : decode cX12_putsBack 11 = .ok (.return_, 1) := by decide +kernel
theorem dX12_on_0 : decode cX12_on 0 = .ok (.aload_n 0, 1) := by decide +kernel
theorem dX12_on_1 : decode cX12_on 1 = .ok (.iload_n 1, 1) := by decide +kernel
theorem dX12_on_2 : decode cX12_on 2 = .ok (.invokevirtual 74, 3) := by decide +kernel
theorem dX12_on_5 : decode cX12_on 5 = .ok (.ifCond .eq 25, 3) := by decide +kernel
theorem dX12_on_8 : decode cX12_on 8 = .ok (.iload_n 2, 1) := by decide +kernel
theorem dX12_on_9 : decode cX12_on 9 = .ok (.i2l, 1) := by decide +kernel
theorem dX12_on_10 : decode cX12_on 10 = .ok (.iconst 0, 1) := by decide +kernel
theorem dX12_on_11 : decode cX12_on 11 = .ok (.sipush 200, 3) := by decide +kernel
theorem dX12_on_14 : decode cX12_on 14 = .ok (.invokestatic 41, 3) := by decide +kernel
theorem dX12_on_17 : decode cX12_on 17 = .ok (.ifCond .eq 13, 3) := by decide +kernel
theorem dX12_on_20 : decode cX12_on 20 = .ok (.iload_n 3, 1) := by decide +kernel
theorem dX12_on_21 : decode cX12_on 21 = .ok (.i2l, 1) := by decide +kernel
theorem dX12_on_22 : decode cX12_on 22 = .ok (.iconst 0, 1) := by decide +kernel
theorem dX12_on_23 : decode cX12_on 23 = .ok (.iconst 2, 1) := by decide +kernel
theorem dX12_on_24 : decode cX12_on 24 = .ok (.invokestatic 41, 3) := by decide +kernel
theorem dX12_on_27 : decode cX12_on 27 = .ok (.ifCond .ne 10, 3) := by decide +kernel
theorem dX12_on_30 : decode cX12_on 30 = .ok (.aload_n 0, 1) := by decide +kernel
theorem dX12_on_31 : decode cX12_on 31 = .ok (.ldc 35, 2) := by decide +kernel
theorem dX12_on_33 : decode cX12_on 33 = .ok (.invokevirtual 37, 3) := by decide +kernel
theorem dX12_on_36 : decode cX12_on 36 = .ok (.ireturn, 1) := by decide +kernel
theorem dX12_on_37 : decode cX12_on 37 = .ok (.aload_n 0, 1) := by decide +kernel
theorem dX12_on_38 : decode cX12_on 38 = .ok (.invokevirtual 146, 3) := by decide +kernel
theorem dX12_on_41 : decode cX12_on 41 = .ok (.aload_n 0, 1) := by decide +kernel
theorem dX12_on_42 : decode cX12_on 42 = .ok (.iload_n 2, 1) := by decide +kernel
theorem dX12_on_43 : decode cX12_on 43 = .ok (.invokevirtual 139, 3) := by decide +kernel
theorem dX12_on_46 : decode cX12_on 46 = .ok (.aload_n 0, 1) := by decide +kernel
theorem dX12_on_47 : decode cX12_on 47 = .ok (.iload_n 1, 1) := by decide +kernel
theorem dX12_on_48 : decode cX12_on 48 = .ok (.iload_n 3, 1) := by decide +kernel
theorem dX12_on_49 : decode cX12_on 49 = .ok (.invokevirtual 49, 3) := by decide +kernel
theorem dX12_on_52 : decode cX12_on 52 = .ok (.istore 4, 2) := by decide +kernel
theorem dX12_on_54 : decode cX12_on 54 = .ok (.aload_n 0, 1) := by decide +kernel
theorem dX12_on_55 : decode cX12_on 55 = .ok (.invokevirtual 149, 3) := by decide +kernel
theorem dX12_on_58 : decode cX12_on 58 = .ok (.iload 4, 2) := by decide +kernel
theorem dX12_on_60 : decode cX12_on 60 = .ok (.ireturn, 1) := by decide +kernel
theorem dX12_way_0 : decode cX12_way 0 = .ok (.aload_n 0, 1) := by decide +kernel
theorem dX12_way_1 : decode cX12_way 1 = .ok (.iload_n 1, 1) := by decide +kernel
theorem dX12_way_2 : decode cX12_way 2 = .ok (.invokevirtual 100, 3) := by decide +kernel
theorem dX12_way_5 : decode cX12_way 5 = .ok (.ifCond .eq 15, 3) := by decide +kernel
theorem dX12_way_8 : decode cX12_way 8 = .ok (.iload_n 2, 1) := by decide +kernel
theorem dX12_way_9 : decode cX12_way 9 = .ok (.i2l, 1) := by decide +kernel
theorem dX12_way_10 : decode cX12_way 10 = .ok (.iconst 0, 1) := by decide +kernel
theorem dX12_way_11 : decode cX12_way 11 = .ok (.sipush 200, 3) := by decide +kernel
theorem dX12_way_14 : decode cX12_way 14 = .ok (.invokestatic 41, 3) := by decide +kernel
theorem dX12_way_17 : decode cX12_way 17 = .ok (.ifCond .ne 10, 3) := by decide +kernel
theorem dX12_way_20 : decode cX12_way 20 = .ok (.aload_n 0, 1) := by decide +kernel
theorem dX12_way_21 : decode cX12_way 21 = .ok (.ldc 35, 2) := by decide +kernel
theorem dX12_way_23 : decode cX12_way 23 = .ok (.invokevirtual 37, 3) := by decide +kernel
theorem dX12_way_26 : decode cX12_way 26 = .ok (.ireturn, 1) := by decide +kernel
theorem dX12_way_27 : decode cX12_way 27 = .ok (.aload_n 0, 1) := by decide +kernel
theorem dX12_way_28 : decode cX12_way 28 = .ok (.invokevirtual 146, 3) := by decide +kernel
theorem dX12_way_31 : decode cX12_way 31 = .ok (.aload_n 0, 1) := by decide +kernel
theorem dX12_way_32 : decode cX12_way 32 = .ok (.iload_n 1, 1) := by decide +kernel
theorem dX12_way_33 : decode cX12_way 33 = .ok (.iload_n 2, 1) := by decide +kernel
theorem dX12_way_34 : decode cX12_way 34 = .ok (.invokevirtual 152, 3) := by decide +kernel
theorem dX12_way_37 : decode cX12_way 37 = .ok (.ireturn, 1) := by decide +kernel
theorem dX12_done_0 : decode cX12_done 0 = .ok (.aload_n 0, 1) := by decide +kernel
theorem dX12_done_1 : decode cX12_done 1 = .ok (.invokevirtual 146, 3) := by decide +kernel
theorem dX12_done_4 : decode cX12_done 4 = .ok (.iconst 0, 1) := by decide +kernel
theorem dX12_done_5 : decode cX12_done 5 = .ok (.istore_n 1, 1) := by decide +kernel
theorem dX12_done_6 : decode cX12_done 6 = .ok (.iconst 0, 1) := by decide +kernel
theorem dX12_done_7 : decode cX12_done 7 = .ok (.istore_n 2, 1) := by decide +kernel
theorem dX12_done_8 : decode cX12_done 8 = .ok (.iload_n 1, 1) := by decide +kernel
theorem dX12_done_9 : decode cX12_done 9 = .ok (.sipush 200, 3) := by decide +kernel
theorem dX12_done_12 : decode cX12_done 12 = .ok (.if_icmp .gt 38, 3) := by decide +kernel
theorem dX12_done_15 : decode cX12_done 15 = .ok (.iload_n 2, 1) := by decide +kernel
theorem dX12_done_16 : decode cX12_done 16 = .ok (.iload_n 1, 1) := by decide +kernel
theorem dX12_done_17 : decode cX12_done 17 = .ok (.isub, 1) := by decide +kernel
theorem dX12_done_18 : decode cX12_done 18 = .ok (.aload_n 0, 1) := by decide +kernel
theorem dX12_done_19 : decode cX12_done 19 = .ok (.getfield 9, 3) := by decide +kernel
theorem dX12_done_22 : decode cX12_done 22 = .ok (.iconst 3, 1) := by decide +kernel
theorem dX12_done_23 : decode cX12_done 23 = .ok (.iaload, 1) := by decide +kernel
theorem dX12_done_24 : decode cX12_done 24 = .ok (.if_icmp .ge 26, 3) := by decide +kernel
theorem dX12_done_27 : decode cX12_done 27 = .ok (.aload_n 0, 1) := by decide +kernel
theorem dX12_done_28 : decode cX12_done 28 = .ok (.invokevirtual 134, 3) := by decide +kernel
theorem dX12_done_31 : decode cX12_done 31 = .ok (.iinc 2 1, 3) := by decide +kernel
theorem dX12_done_34 : decode cX12_done 34 = .ok (.aload_n 0, 1) := by decide +kernel
theorem dX12_done_35 : decode cX12_done 35 = .ok (.getfield 126, 3) := by decide +kernel
theorem dX12_done_38 : decode cX12_done 38 = .ok (.ifCond .ne 7, 3) := by decide +kernel
theorem dX12_done_41 : decode cX12_done 41 = .ok (.iload_n 1, 1) := by decide +kernel
theorem dX12_done_42 : decode cX12_done 42 = .ok (.goto 4, 3) := by decide +kernel
theorem dX12_done_45 : decode cX12_done 45 = .ok (.iload_n 2, 1) := by decide +kernel
theorem dX12_done_46 : decode cX12_done 46 = .ok (.istore_n 1, 1) := by decide +kernel
theorem dX12_done_47 : decode cX12_done 47 = .ok (.goto (-39), 3) := by decide +kernel
theorem dX12_done_50 : decode cX12_done 50 = .ok (.aload_n 0, 1) := by decide +kernel
theorem dX12_done_51 : decode cX12_done 51 = .ok (.invokevirtual 149, 3) := by decide +kernel
theorem dX12_done_54 : decode cX12_done 54 = .ok (.iload_n 1, 1) := by decide +kernel
theorem dX12_done_55 : decode cX12_done 55 = .ok (.sipush 200, 3) := by decide +kernel
theorem dX12_done_58 : decode cX12_done 58 = .ok (.if_icmp .le 12, 3) := by decide +kernel
theorem dX12_done_61 : decode cX12_done 61 = .ok (.aload_n 0, 1) := by decide +kernel
theorem dX12_done_62 : decode cX12_done 62 = .ok (.ldc 36, 2) := by decide +kernel
theorem dX12_done_64 : decode cX12_done 64 = .ok (.invokevirtual 37, 3) := by decide +kernel
theorem dX12_done_67 : decode cX12_done 67 = .ok (.goto 4, 3) := by decide +kernel
theorem dX12_done_70 : decode cX12_done 70 = .ok (.iload_n 1, 1) := by decide +kernel
theorem dX12_done_71 : decode cX12_done 71 = .ok (.ireturn, 1) := by decide +kernel
theorem dX12_moved_0 : decode cX12_moved 0 = .ok (.aload_n 0, 1) := by decide +kernel
theorem dX12_moved_1 : decode cX12_moved 1 = .ok (.iload_n 1, 1) := by decide +kernel
theorem dX12_moved_2 : decode cX12_moved 2 = .ok (.invokevirtual 74, 3) := by decide +kernel
theorem dX12_moved_5 : decode cX12_moved 5 = .ok (.ifCond .ne 10, 3) := by decide +kernel
theorem dX12_moved_8 : decode cX12_moved 8 = .ok (.aload_n 0, 1) := by decide +kernel
theorem dX12_moved_9 : decode cX12_moved 9 = .ok (.ldc 35, 2) := by decide +kernel
theorem dX12_moved_11 : decode cX12_moved 11 = .ok (.invokevirtual 37, 3) := by decide +kernel
theorem dX12_moved_14 : decode cX12_moved 14 = .ok (.ireturn, 1) := by decide +kernel
theorem dX12_moved_15 : decode cX12_moved 15 = .ok (.aload_n 0, 1) := by decide +kernel
theorem dX12_moved_16 : decode cX12_moved 16 = .ok (.invokevirtual 146, 3) := by decide +kernel
theorem dX12_moved_19 : decode cX12_moved 19 = .ok (.iconst 1, 1) := by decide +kernel
theorem dX12_moved_20 : decode cX12_moved 20 = .ok (.istore_n 2, 1) := by decide +kernel
theorem dX12_moved_21 : decode cX12_moved 21 = .ok (.aload_n 0, 1) := by decide +kernel
theorem dX12_moved_22 : decode cX12_moved 22 = .ok (.invokevirtual 134, 3) := by decide +kernel
theorem dX12_moved_25 : decode cX12_moved 25 = .ok (.iload_n 2, 1) := by decide +kernel
theorem dX12_moved_26 : decode cX12_moved 26 = .ok (.sipush 200, 3) := by decide +kernel
theorem dX12_moved_29 : decode cX12_moved 29 = .ok (.if_icmp .gt 24, 3) := by decide +kernel
theorem dX12_moved_32 : decode cX12_moved 32 = .ok (.aload_n 0, 1) := by decide +kernel
theorem dX12_moved_33 : decode cX12_moved 33 = .ok (.getfield 126, 3) := by decide +kernel
theorem dX12_moved_36 : decode cX12_moved 36 = .ok (.iload_n 1, 1) := by decide +kernel
theorem dX12_moved_37 : decode cX12_moved 37 = .ok (.ishr, 1) := by decide +kernel
theorem dX12_moved_38 : decode cX12_moved 38 = .ok (.iconst 1, 1) := by decide +kernel
theorem dX12_moved_39 : decode cX12_moved 39 = .ok (.iand, 1) := by decide +kernel
theorem dX12_moved_40 : decode cX12_moved 40 = .ok (.ifCond .ne 13, 3) := by decide +kernel
theorem dX12_moved_43 : decode cX12_moved 43 = .ok (.aload_n 0, 1) := by decide +kernel
theorem dX12_moved_44 : decode cX12_moved 44 = .ok (.invokevirtual 134, 3) := by decide +kernel
theorem dX12_moved_47 : decode cX12_moved 47 = .ok (.iinc 2 1, 3) := by decide +kernel
theorem dX12_moved_50 : decode cX12_moved 50 = .ok (.goto (-25), 3) := by decide +kernel
theorem dX12_moved_53 : decode cX12_moved 53 = .ok (.aload_n 0, 1) := by decide +kernel
theorem dX12_moved_54 : decode cX12_moved 54 = .ok (.invokevirtual 149, 3) := by decide +kernel
theorem dX12_moved_57 : decode cX12_moved 57 = .ok (.iload_n 2, 1) := by decide +kernel
theorem dX12_moved_58 : decode cX12_moved 58 = .ok (.sipush 200, 3) := by decide +kernel
theorem dX12_moved_61 : decode cX12_moved 61 = .ok (.if_icmp .le 12, 3) := by decide +kernel
theorem dX12_moved_64 : decode cX12_moved 64 = .ok (.aload_n 0, 1) := by decide +kernel
theorem dX12_moved_65 : decode cX12_moved 65 = .ok (.ldc 36, 2) := by decide +kernel
theorem dX12_moved_67 : decode cX12_moved 67 = .ok (.invokevirtual 37, 3) := by decide +kernel
theorem dX12_moved_70 : decode cX12_moved 70 = .ok (.goto 4, 3) := by decide +kernel
theorem dX12_moved_73 : decode cX12_moved 73 = .ok (.iload_n 2, 1) := by decide +kernel
theorem dX12_moved_74 : decode cX12_moved 74 = .ok (.ireturn, 1) := by decide +kernel
theorem dX12_wayOn_0 : decode cX12_wayOn 0 = .ok (.aload_n 0, 1) := by decide +kernel
theorem dX12_wayOn_1 : decode cX12_wayOn 1 = .ok (.iload_n 2, 1) := by decide +kernel
theorem dX12_wayOn_2 : decode cX12_wayOn 2 = .ok (.invokevirtual 139, 3) := by decide +kernel
theorem dX12_wayOn_5 : decode cX12_wayOn 5 = .ok (.aload_n 0, 1) := by decide +kernel
theorem dX12_wayOn_6 : decode cX12_wayOn 6 = .ok (.iload_n 1, 1) := by decide +kernel
theorem dX12_wayOn_7 : decode cX12_wayOn 7 = .ok (.invokevirtual 103, 3) := by decide +kernel
theorem dX12_wayOn_10 : decode cX12_wayOn 10 = .ok (.invokestatic 112, 3) := by decide +kernel
theorem dX12_wayOn_13 : decode cX12_wayOn 13 = .ok (.istore_n 3, 1) := by decide +kernel
theorem dX12_wayOn_14 : decode cX12_wayOn 14 = .ok (.aload_n 0, 1) := by decide +kernel
theorem dX12_wayOn_15 : decode cX12_wayOn 15 = .ok (.invokevirtual 149, 3) := by decide +kernel
theorem dX12_wayOn_18 : decode cX12_wayOn 18 = .ok (.iload_n 3, 1) := by decide +kernel
theorem dX12_wayOn_19 : decode cX12_wayOn 19 = .ok (.ireturn, 1) := by decide +kernel
theorem dX12_bestAt_0 : decode cX12_bestAt 0 = .ok (.aload_n 0, 1) := by decide +kernel
theorem dX12_bestAt_1 : decode cX12_bestAt 1 = .ok (.invokevirtual 146, 3) := by decide +kernel
theorem dX12_bestAt_4 : decode cX12_bestAt 4 = .ok (.iconst 0, 1) := by decide +kernel
theorem dX12_bestAt_5 : decode cX12_bestAt 5 = .ok (.istore 5, 2) := by decide +kernel
theorem dX12_bestAt_7 : decode cX12_bestAt 7 = .ok (.iconst (-1), 1) := by decide +kernel
theorem dX12_bestAt_8 : decode cX12_bestAt 8 = .ok (.istore 6, 2) := by decide +kernel
theorem dX12_bestAt_10 : decode cX12_bestAt 10 = .ok (.iconst 0, 1) := by decide +kernel
theorem dX12_bestAt_11 : decode cX12_bestAt 11 = .ok (.istore 7, 2) := by decide +kernel
theorem dX12_bestAt_13 : decode cX12_bestAt 13 = .ok (.iload 7, 2) := by decide +kernel
theorem dX12_bestAt_15 : decode cX12_bestAt 15 = .ok (.iload_n 2, 1) := by decide +kernel
theorem dX12_bestAt_16 : decode cX12_bestAt 16 = .ok (.if_icmp .ge 58, 3) := by decide +kernel
theorem dX12_bestAt_19 : decode cX12_bestAt 19 = .ok (.aload_n 0, 1) := by decide +kernel
theorem dX12_bestAt_20 : decode cX12_bestAt 20 = .ok (.getfield 9, 3) := by decide +kernel
theorem dX12_bestAt_23 : decode cX12_bestAt 23 = .ok (.iload_n 1, 1) := by decide +kernel
theorem dX12_bestAt_24 : decode cX12_bestAt 24 = .ok (.iload 7, 2) := by decide +kernel
theorem dX12_bestAt_26 : decode cX12_bestAt 26 = .ok (.iastore, 1) := by decide +kernel
theorem dX12_bestAt_27 : decode cX12_bestAt 27 = .ok (.aload_n 0, 1) := by decide +kernel
theorem dX12_bestAt_28 : decode cX12_bestAt 28 = .ok (.iload_n 3, 1) := by decide +kernel
theorem dX12_bestAt_29 : decode cX12_bestAt 29 = .ok (.iload 4, 2) := by decide +kernel
theorem dX12_bestAt_31 : decode cX12_bestAt 31 = .ok (.invokevirtual 152, 3) := by decide +kernel
theorem dX12_bestAt_34 : decode cX12_bestAt 34 = .ok (.istore 8, 2) := by decide +kernel
theorem dX12_bestAt_36 : decode cX12_bestAt 36 = .ok (.iload 8, 2) := by decide +kernel
theorem dX12_bestAt_38 : decode cX12_bestAt 38 = .ok (.iload 6, 2) := by decide +kernel
theorem dX12_bestAt_40 : decode cX12_bestAt 40 = .ok (.if_icmp .le 8, 3) := by decide +kernel
theorem dX12_bestAt_43 : decode cX12_bestAt 43 = .ok (.iload 7, 2) := by decide +kernel
theorem dX12_bestAt_45 : decode cX12_bestAt 45 = .ok (.goto 5, 3) := by decide +kernel
theorem dX12_bestAt_48 : decode cX12_bestAt 48 = .ok (.iload 5, 2) := by decide +kernel
theorem dX12_bestAt_50 : decode cX12_bestAt 50 = .ok (.istore 5, 2) := by decide +kernel
theorem dX12_bestAt_52 : decode cX12_bestAt 52 = .ok (.iload 8, 2) := by decide +kernel
theorem dX12_bestAt_54 : decode cX12_bestAt 54 = .ok (.iload 6, 2) := by decide +kernel
theorem dX12_bestAt_56 : decode cX12_bestAt 56 = .ok (.if_icmp .le 8, 3) := by decide +kernel
theorem dX12_bestAt_59 : decode cX12_bestAt 59 = .ok (.iload 8, 2) := by decide +kernel
theorem dX12_bestAt_61 : decode cX12_bestAt 61 = .ok (.goto 5, 3) := by decide +kernel
theorem dX12_bestAt_64 : decode cX12_bestAt 64 = .ok (.iload 6, 2) := by decide +kernel
theorem dX12_bestAt_66 : decode cX12_bestAt 66 = .ok (.istore 6, 2) := by decide +kernel
theorem dX12_bestAt_68 : decode cX12_bestAt 68 = .ok (.iinc 7 1, 3) := by decide +kernel
theorem dX12_bestAt_71 : decode cX12_bestAt 71 = .ok (.goto (-58), 3) := by decide +kernel
theorem dX12_bestAt_74 : decode cX12_bestAt 74 = .ok (.iload 5, 2) := by decide +kernel
theorem dX12_bestAt_76 : decode cX12_bestAt 76 = .ok (.ireturn, 1) := by decide +kernel
theorem dX12_rule_0 : decode cX12_rule 0 = .ok (.aload_n 0, 1) := by decide +kernel
theorem dX12_rule_1 : decode cX12_rule 1 = .ok (.iload_n 1, 1) := by decide +kernel
theorem dX12_rule_2 : decode cX12_rule 2 = .ok (.invokevirtual 100, 3) := by decide +kernel
theorem dX12_rule_5 : decode cX12_rule 5 = .ok (.ifCond .eq 26, 3) := by decide +kernel
theorem dX12_rule_8 : decode cX12_rule 8 = .ok (.iload_n 2, 1) := by decide +kernel
theorem dX12_rule_9 : decode cX12_rule 9 = .ok (.i2l, 1) := by decide +kernel
theorem dX12_rule_10 : decode cX12_rule 10 = .ok (.iconst 1, 1) := by decide +kernel
theorem dX12_rule_11 : decode cX12_rule 11 = .ok (.bipush 100, 2) := by decide +kernel
theorem dX12_rule_13 : decode cX12_rule 13 = .ok (.invokestatic 41, 3) := by decide +kernel
theorem dX12_rule_16 : decode cX12_rule 16 = .ok (.ifCond .eq 15, 3) := by decide +kernel
theorem dX12_rule_19 : decode cX12_rule 19 = .ok (.aload_n 0, 1) := by decide +kernel
theorem dX12_rule_20 : decode cX12_rule 20 = .ok (.iconst 1, 1) := by decide +kernel
theorem dX12_rule_21 : decode cX12_rule 21 = .ok (.bipush 21, 2) := by decide +kernel
theorem dX12_rule_23 : decode cX12_rule 23 = .ok (.iload_n 1, 1) := by decide +kernel
theorem dX12_rule_24 : decode cX12_rule 24 = .ok (.iload_n 2, 1) := by decide +kernel
theorem dX12_rule_25 : decode cX12_rule 25 = .ok (.invokevirtual 155, 3) := by decide +kernel
theorem dX12_rule_28 : decode cX12_rule 28 = .ok (.goto 9, 3) := by decide +kernel
theorem dX12_rule_31 : decode cX12_rule 31 = .ok (.aload_n 0, 1) := by decide +kernel
theorem dX12_rule_32 : decode cX12_rule 32 = .ok (.ldc 35, 2) := by decide +kernel
theorem dX12_rule_34 : decode cX12_rule 34 = .ok (.invokevirtual 37, 3) := by decide +kernel
theorem dX12_rule_37 : decode cX12_rule 37 = .ok (.ireturn, 1) := by decide +kernel
theorem dX12_send_0 : decode cX12_send 0 = .ok (.aload_n 0, 1) := by decide +kernel
theorem dX12_send_1 : decode cX12_send 1 = .ok (.iload_n 1, 1) := by decide +kernel
theorem dX12_send_2 : decode cX12_send 2 = .ok (.invokevirtual 100, 3) := by decide +kernel
theorem dX12_send_5 : decode cX12_send 5 = .ok (.ifCond .eq 14, 3) := by decide +kernel
theorem dX12_send_8 : decode cX12_send 8 = .ok (.iload_n 2, 1) := by decide +kernel
theorem dX12_send_9 : decode cX12_send 9 = .ok (.i2l, 1) := by decide +kernel
theorem dX12_send_10 : decode cX12_send 10 = .ok (.iconst 1, 1) := by decide +kernel
theorem dX12_send_11 : decode cX12_send 11 = .ok (.bipush 100, 2) := by decide +kernel
theorem dX12_send_13 : decode cX12_send 13 = .ok (.invokestatic 41, 3) := by decide +kernel
theorem dX12_send_16 : decode cX12_send 16 = .ok (.ifCond .ne 10, 3) := by decide +kernel
theorem dX12_send_19 : decode cX12_send 19 = .ok (.aload_n 0, 1) := by decide +kernel
theorem dX12_send_20 : decode cX12_send 20 = .ok (.ldc 35, 2) := by decide +kernel
theorem dX12_send_22 : decode cX12_send 22 = .ok (.invokevirtual 37, 3) := by decide +kernel
theorem dX12_send_25 : decode cX12_send 25 = .ok (.ireturn, 1) := by decide +kernel
theorem dX12_send_26 : decode cX12_send 26 = .ok (.aload_n 0, 1) := by decide +kernel
theorem dX12_send_27 : decode cX12_send 27 = .ok (.invokevirtual 146, 3) := by decide +kernel
theorem dX12_send_30 : decode cX12_send 30 = .ok (.iconst (-1), 1) := by decide +kernel
theorem dX12_send_31 : decode cX12_send 31 = .ok (.istore_n 3, 1) := by decide +kernel
theorem dX12_send_32 : decode cX12_send 32 = .ok (.iconst (-1), 1) := by decide +kernel
theorem dX12_send_33 : decode cX12_send 33 = .ok (.istore 4, 2) := by decide +kernel
theorem dX12_send_35 : decode cX12_send 35 = .ok (.iconst 0, 1) := by decide +kernel
theorem dX12_send_36 : decode cX12_send 36 = .ok (.istore 5, 2) := by decide +kernel
theorem dX12_send_38 : decode cX12_send 38 = .ok (.iload 5, 2) := by decide +kernel
theorem dX12_send_40 : decode cX12_send 40 = .ok (.aload_n 0, 1) := by decide +kernel
theorem dX12_send_41 : decode cX12_send 41 = .ok (.getfield 9, 3) := by decide +kernel
theorem dX12_send_44 : decode cX12_send 44 = .ok (.iconst 3, 1) := by decide +kernel
theorem dX12_send_45 : decode cX12_send 45 = .ok (.iaload, 1) := by decide +kernel
theorem dX12_send_46 : decode cX12_send 46 = .ok (.if_icmp .ge 79, 3) := by decide +kernel
theorem dX12_send_49 : decode cX12_send 49 = .ok (.iload 5, 2) := by decide +kernel
theorem dX12_send_51 : decode cX12_send 51 = .ok (.iload_n 1, 1) := by decide +kernel
theorem dX12_send_52 : decode cX12_send 52 = .ok (.if_icmp .eq 67, 3) := by decide +kernel
theorem dX12_send_55 : decode cX12_send 55 = .ok (.aload_n 0, 1) := by decide +kernel
theorem dX12_send_56 : decode cX12_send 56 = .ok (.iload 5, 2) := by decide +kernel
theorem dX12_send_58 : decode cX12_send 58 = .ok (.iconst 1, 1) := by decide +kernel
theorem dX12_send_59 : decode cX12_send 59 = .ok (.invokevirtual 45, 3) := by decide +kernel
theorem dX12_send_62 : decode cX12_send 62 = .ok (.ifCond .ne 57, 3) := by decide +kernel
theorem dX12_send_65 : decode cX12_send 65 = .ok (.aload_n 0, 1) := by decide +kernel
theorem dX12_send_66 : decode cX12_send 66 = .ok (.getfield 9, 3) := by decide +kernel
theorem dX12_send_69 : decode cX12_send 69 = .ok (.bipush 34, 2) := by decide +kernel
theorem dX12_send_71 : decode cX12_send 71 = .ok (.bipush 12, 2) := by decide +kernel
theorem dX12_send_73 : decode cX12_send 73 = .ok (.iload 5, 2) := by decide +kernel
theorem dX12_send_75 : decode cX12_send 75 = .ok (.imul, 1) := by decide +kernel
theorem dX12_send_76 : decode cX12_send 76 = .ok (.iadd, 1) := by decide +kernel
theorem dX12_send_77 : decode cX12_send 77 = .ok (.iconst 1, 1) := by decide +kernel
theorem dX12_send_78 : decode cX12_send 78 = .ok (.iadd, 1) := by decide +kernel
theorem dX12_send_79 : decode cX12_send 79 = .ok (.iconst 1, 1) := by decide +kernel
theorem dX12_send_80 : decode cX12_send 80 = .ok (.iastore, 1) := by decide +kernel
theorem dX12_send_81 : decode cX12_send 81 = .ok (.aload_n 0, 1) := by decide +kernel
theorem dX12_send_82 : decode cX12_send 82 = .ok (.iload_n 1, 1) := by decide +kernel
theorem dX12_send_83 : decode cX12_send 83 = .ok (.iload_n 2, 1) := by decide +kernel
theorem dX12_send_84 : decode cX12_send 84 = .ok (.invokevirtual 152, 3) := by decide +kernel
theorem dX12_send_87 : decode cX12_send 87 = .ok (.istore 6, 2) := by decide +kernel
theorem dX12_send_89 : decode cX12_send 89 = .ok (.iload 6, 2) := by decide +kernel
theorem dX12_send_91 : decode cX12_send 91 = .ok (.iload 4, 2) := by decide +kernel
theorem dX12_send_93 : decode cX12_send 93 = .ok (.if_icmp .le 8, 3) := by decide +kernel
theorem dX12_send_96 : decode cX12_send 96 = .ok (.iload 5, 2) := by decide +kernel
theorem dX12_send_98 : decode cX12_send 98 = .ok (.goto 4, 3) := by decide +kernel
theorem dX12_send_101 : decode cX12_send 101 = .ok (.iload_n 3, 1) := by decide +kernel
theorem dX12_send_102 : decode cX12_send 102 = .ok (.istore_n 3, 1) := by decide +kernel
theorem dX12_send_103 : decode cX12_send 103 = .ok (.iload 6, 2) := by decide +kernel
theorem dX12_send_105 : decode cX12_send 105 = .ok (.iload 4, 2) := by decide +kernel
theorem dX12_send_107 : decode cX12_send 107 = .ok (.if_icmp .le 8, 3) := by decide +kernel
theorem dX12_send_110 : decode cX12_send 110 = .ok (.iload 6, 2) := by decide +kernel
theorem dX12_send_112 : decode cX12_send 112 = .ok (.goto 5, 3) := by decide +kernel
theorem dX12_send_115 : decode cX12_send 115 = .ok (.iload 4, 2) := by decide +kernel
theorem dX12_send_117 : decode cX12_send 117 = .ok (.istore 4, 2) := by decide +kernel
theorem dX12_send_119 : decode cX12_send 119 = .ok (.iinc 5 1, 3) := by decide +kernel
theorem dX12_send_122 : decode cX12_send 122 = .ok (.goto (-84), 3) := by decide +kernel
theorem dX12_send_125 : decode cX12_send 125 = .ok (.aload_n 0, 1) := by decide +kernel
theorem dX12_send_126 : decode cX12_send 126 = .ok (.iload_n 3, 1) := by decide +kernel
theorem dX12_send_127 : decode cX12_send 127 = .ok (.invokevirtual 159, 3) := by decide +kernel
theorem dX12_send_130 : decode cX12_send 130 = .ok (.ireturn, 1) := by decide +kernel
theorem dX12_kind_0 : decode cX12_kind 0 = .ok (.aload_n 0, 1) := by decide +kernel
theorem dX12_kind_1 : decode cX12_kind 1 = .ok (.iload_n 1, 1) := by decide +kernel
theorem dX12_kind_2 : decode cX12_kind 2 = .ok (.invokevirtual 100, 3) := by decide +kernel
theorem dX12_kind_5 : decode cX12_kind 5 = .ok (.ifCond .eq 32, 3) := by decide +kernel
theorem dX12_kind_8 : decode cX12_kind 8 = .ok (.iload_n 2, 1) := by decide +kernel
theorem dX12_kind_9 : decode cX12_kind 9 = .ok (.i2l, 1) := by decide +kernel
theorem dX12_kind_10 : decode cX12_kind 10 = .ok (.iconst 1, 1) := by decide +kernel
theorem dX12_kind_11 : decode cX12_kind 11 = .ok (.bipush 100, 2) := by decide +kernel
theorem dX12_kind_13 : decode cX12_kind 13 = .ok (.invokestatic 41, 3) := by decide +kernel
theorem dX12_kind_16 : decode cX12_kind 16 = .ok (.ifCond .eq 21, 3) := by decide +kernel
theorem dX12_kind_19 : decode cX12_kind 19 = .ok (.aload_n 0, 1) := by decide +kernel
theorem dX12_kind_20 : decode cX12_kind 20 = .ok (.bipush 34, 2) := by decide +kernel
theorem dX12_kind_22 : decode cX12_kind 22 = .ok (.bipush 12, 2) := by decide +kernel
theorem dX12_kind_24 : decode cX12_kind 24 = .ok (.iload_n 1, 1) := by decide +kernel
theorem dX12_kind_25 : decode cX12_kind 25 = .ok (.imul, 1) := by decide +kernel
theorem dX12_kind_26 : decode cX12_kind 26 = .ok (.iadd, 1) := by decide +kernel
theorem dX12_kind_27 : decode cX12_kind 27 = .ok (.bipush 6, 2) := by decide +kernel
theorem dX12_kind_29 : decode cX12_kind 29 = .ok (.iload_n 1, 1) := by decide +kernel
theorem dX12_kind_30 : decode cX12_kind 30 = .ok (.iload_n 2, 1) := by decide +kernel
theorem dX12_kind_31 : decode cX12_kind 31 = .ok (.invokevirtual 155, 3) := by decide +kernel
theorem dX12_kind_34 : decode cX12_kind 34 = .ok (.goto 9, 3) := by decide +kernel
theorem dX12_kind_37 : decode cX12_kind 37 = .ok (.aload_n 0, 1) := by decide +kernel
theorem dX12_kind_38 : decode cX12_kind 38 = .ok (.ldc 35, 2) := by decide +kernel
theorem dX12_kind_40 : decode cX12_kind 40 = .ok (.invokevirtual 37, 3) := by decide +kernel
theorem dX12_kind_43 : decode cX12_kind 43 = .ok (.ireturn, 1) := by decide +kernel
theorem dX12_pair_0 : decode cX12_pair 0 = .ok (.iconst (-1), 1) := by decide +kernel
theorem dX12_pair_1 : decode cX12_pair 1 = .ok (.istore_n 1, 1) := by decide +kernel
theorem dX12_pair_2 : decode cX12_pair 2 = .ok (.iconst (-1), 1) := by decide +kernel
theorem dX12_pair_3 : decode cX12_pair 3 = .ok (.istore_n 2, 1) := by decide +kernel
theorem dX12_pair_4 : decode cX12_pair 4 = .ok (.iconst 0, 1) := by decide +kernel
theorem dX12_pair_5 : decode cX12_pair 5 = .ok (.istore_n 3, 1) := by decide +kernel
theorem dX12_pair_6 : decode cX12_pair 6 = .ok (.iload_n 3, 1) := by decide +kernel
theorem dX12_pair_7 : decode cX12_pair 7 = .ok (.aload_n 0, 1) := by decide +kernel
theorem dX12_pair_8 : decode cX12_pair 8 = .ok (.getfield 9, 3) := by decide +kernel
theorem dX12_pair_11 : decode cX12_pair 11 = .ok (.iconst 3, 1) := by decide +kernel
theorem dX12_pair_12 : decode cX12_pair 12 = .ok (.iaload, 1) := by decide +kernel
theorem dX12_pair_13 : decode cX12_pair 13 = .ok (.if_icmp .ge 71, 3) := by decide +kernel
theorem dX12_pair_16 : decode cX12_pair 16 = .ok (.iload_n 3, 1) := by decide +kernel
theorem dX12_pair_17 : decode cX12_pair 17 = .ok (.iconst 1, 1) := by decide +kernel
theorem dX12_pair_18 : decode cX12_pair 18 = .ok (.iadd, 1) := by decide +kernel
theorem dX12_pair_19 : decode cX12_pair 19 = .ok (.istore 4, 2) := by decide +kernel
theorem dX12_pair_21 : decode cX12_pair 21 = .ok (.iload 4, 2) := by decide +kernel
theorem dX12_pair_23 : decode cX12_pair 23 = .ok (.aload_n 0, 1) := by decide +kernel
theorem dX12_pair_24 : decode cX12_pair 24 = .ok (.getfield 9, 3) := by decide +kernel
theorem dX12_pair_27 : decode cX12_pair 27 = .ok (.iconst 3, 1) := by decide +kernel
theorem dX12_pair_28 : decode cX12_pair 28 = .ok (.iaload, 1) := by decide +kernel
theorem dX12_pair_29 : decode cX12_pair 29 = .ok (.if_icmp .ge 49, 3) := by decide +kernel
theorem dX12_pair_32 : decode cX12_pair 32 = .ok (.aload_n 0, 1) := by decide +kernel
theorem dX12_pair_33 : decode cX12_pair 33 = .ok (.iload_n 3, 1) := by decide +kernel
theorem dX12_pair_34 : decode cX12_pair 34 = .ok (.iload 4, 2) := by decide +kernel
theorem dX12_pair_36 : decode cX12_pair 36 = .ok (.invokevirtual 116, 3) := by decide +kernel
theorem dX12_pair_39 : decode cX12_pair 39 = .ok (.istore 5, 2) := by decide +kernel
theorem dX12_pair_41 : decode cX12_pair 41 = .ok (.iload 5, 2) := by decide +kernel
theorem dX12_pair_43 : decode cX12_pair 43 = .ok (.iload_n 2, 1) := by decide +kernel
theorem dX12_pair_44 : decode cX12_pair 44 = .ok (.if_icmp .le 13, 3) := by decide +kernel
theorem dX12_pair_47 : decode cX12_pair 47 = .ok (.bipush 10, 2) := by decide +kernel
theorem dX12_pair_49 : decode cX12_pair 49 = .ok (.iload_n 3, 1) := by decide +kernel
theorem dX12_pair_50 : decode cX12_pair 50 = .ok (.imul, 1) := by decide +kernel
theorem dX12_pair_51 : decode cX12_pair 51 = .ok (.iload 4, 2) := by decide +kernel
theorem dX12_pair_53 : decode cX12_pair 53 = .ok (.iadd, 1) := by decide +kernel
theorem dX12_pair_54 : decode cX12_pair 54 = .ok (.goto 4, 3) := by decide +kernel
theorem dX12_pair_57 : decode cX12_pair 57 = .ok (.iload_n 1, 1) := by decide +kernel
theorem dX12_pair_58 : decode cX12_pair 58 = .ok (.istore_n 1, 1) := by decide +kernel
theorem dX12_pair_59 : decode cX12_pair 59 = .ok (.iload 5, 2) := by decide +kernel
theorem dX12_pair_61 : decode cX12_pair 61 = .ok (.iload_n 2, 1) := by decide +kernel
theorem dX12_pair_62 : decode cX12_pair 62 = .ok (.if_icmp .le 8, 3) := by decide +kernel
theorem dX12_pair_65 : decode cX12_pair 65 = .ok (.iload 5, 2) := by decide +kernel
theorem dX12_pair_67 : decode cX12_pair 67 = .ok (.goto 4, 3) := by decide +kernel
theorem dX12_pair_70 : decode cX12_pair 70 = .ok (.iload_n 2, 1) := by decide +kernel
theorem dX12_pair_71 : decode cX12_pair 71 = .ok (.istore_n 2, 1) := by decide +kernel
theorem dX12_pair_72 : decode cX12_pair 72 = .ok (.iinc 4 1, 3) := by decide +kernel
theorem dX12_pair_75 : decode cX12_pair 75 = .ok (.goto (-54), 3) := by decide +kernel
theorem dX12_pair_78 : decode cX12_pair 78 = .ok (.iinc 3 1, 3) := by decide +kernel
theorem dX12_pair_81 : decode cX12_pair 81 = .ok (.goto (-75), 3) := by decide +kernel
theorem dX12_pair_84 : decode cX12_pair 84 = .ok (.aload_n 0, 1) := by decide +kernel
theorem dX12_pair_85 : decode cX12_pair 85 = .ok (.iload_n 1, 1) := by decide +kernel
theorem dX12_pair_86 : decode cX12_pair 86 = .ok (.invokevirtual 159, 3) := by decide +kernel
theorem dX12_pair_89 : decode cX12_pair 89 = .ok (.ireturn, 1) := by decide +kernel
theorem dX12_fix_0 : decode cX12_fix 0 = .ok (.iload_n 1, 1) := by decide +kernel
theorem dX12_fix_1 : decode cX12_fix 1 = .ok (.i2l, 1) := by decide +kernel
theorem dX12_fix_2 : decode cX12_fix 2 = .ok (.iconst 1, 1) := by decide +kernel
theorem dX12_fix_3 : decode cX12_fix 3 = .ok (.bipush 60, 2) := by decide +kernel
theorem dX12_fix_5 : decode cX12_fix 5 = .ok (.invokestatic 41, 3) := by decide +kernel
theorem dX12_fix_8 : decode cX12_fix 8 = .ok (.ifCond .ne 10, 3) := by decide +kernel
theorem dX12_fix_11 : decode cX12_fix 11 = .ok (.aload_n 0, 1) := by decide +kernel
theorem dX12_fix_12 : decode cX12_fix 12 = .ok (.ldc 35, 2) := by decide +kernel
theorem dX12_fix_14 : decode cX12_fix 14 = .ok (.invokevirtual 37, 3) := by decide +kernel
theorem dX12_fix_17 : decode cX12_fix 17 = .ok (.ireturn, 1) := by decide +kernel
theorem dX12_fix_18 : decode cX12_fix 18 = .ok (.aload_n 0, 1) := by decide +kernel
theorem dX12_fix_19 : decode cX12_fix 19 = .ok (.invokevirtual 146, 3) := by decide +kernel
theorem dX12_fix_22 : decode cX12_fix 22 = .ok (.iconst (-1), 1) := by decide +kernel
theorem dX12_fix_23 : decode cX12_fix 23 = .ok (.istore_n 2, 1) := by decide +kernel
theorem dX12_fix_24 : decode cX12_fix 24 = .ok (.iconst 0, 1) := by decide +kernel
theorem dX12_fix_25 : decode cX12_fix 25 = .ok (.istore_n 3, 1) := by decide +kernel
theorem dX12_fix_26 : decode cX12_fix 26 = .ok (.iconst 0, 1) := by decide +kernel
theorem dX12_fix_27 : decode cX12_fix 27 = .ok (.istore 4, 2) := by decide +kernel
theorem dX12_fix_29 : decode cX12_fix 29 = .ok (.iload 4, 2) := by decide +kernel
theorem dX12_fix_31 : decode cX12_fix 31 = .ok (.aload_n 0, 1) := by decide +kernel
theorem dX12_fix_32 : decode cX12_fix 32 = .ok (.getfield 9, 3) := by decide +kernel
theorem dX12_fix_35 : decode cX12_fix 35 = .ok (.iconst 2, 1) := by decide +kernel
theorem dX12_fix_36 : decode cX12_fix 36 = .ok (.iaload, 1) := by decide +kernel
theorem dX12_fix_37 : decode cX12_fix 37 = .ok (.if_icmp .ge 83, 3) := by decide +kernel
theorem dX12_fix_40 : decode cX12_fix 40 = .ok (.aload_n 0, 1) := by decide +kernel
theorem dX12_fix_41 : decode cX12_fix 41 = .ok (.iload 4, 2) := by decide +kernel
theorem dX12_fix_43 : decode cX12_fix 43 = .ok (.iconst 2, 1) := by decide +kernel
theorem dX12_fix_44 : decode cX12_fix 44 = .ok (.invokevirtual 49, 3) := by decide +kernel
theorem dX12_fix_47 : decode cX12_fix 47 = .ok (.ifCond .ne 67, 3) := by decide +kernel
theorem dX12_fix_50 : decode cX12_fix 50 = .ok (.aload_n 0, 1) := by decide +kernel
theorem dX12_fix_51 : decode cX12_fix 51 = .ok (.iload 4, 2) := by decide +kernel
theorem dX12_fix_53 : decode cX12_fix 53 = .ok (.iconst 2, 1) := by decide +kernel
theorem dX12_fix_54 : decode cX12_fix 54 = .ok (.iconst 1, 1) := by decide +kernel
theorem dX12_fix_55 : decode cX12_fix 55 = .ok (.invokevirtual 66, 3) := by decide +kernel
theorem dX12_fix_58 : decode cX12_fix 58 = .ok (.aload_n 0, 1) := by decide +kernel
theorem dX12_fix_59 : decode cX12_fix 59 = .ok (.iload_n 1, 1) := by decide +kernel
theorem dX12_fix_60 : decode cX12_fix 60 = .ok (.invokevirtual 139, 3) := by decide +kernel
theorem dX12_fix_63 : decode cX12_fix 63 = .ok (.aload_n 0, 1) := by decide +kernel
theorem dX12_fix_64 : decode cX12_fix 64 = .ok (.invokevirtual 94, 3) := by decide +kernel
theorem dX12_fix_67 : decode cX12_fix 67 = .ok (.istore 5, 2) := by decide +kernel
theorem dX12_fix_69 : decode cX12_fix 69 = .ok (.aload_n 0, 1) := by decide +kernel
theorem dX12_fix_70 : decode cX12_fix 70 = .ok (.invokevirtual 149, 3) := by decide +kernel
theorem dX12_fix_73 : decode cX12_fix 73 = .ok (.iload_n 2, 1) := by decide +kernel
theorem dX12_fix_74 : decode cX12_fix 74 = .ok (.ifCond .lt 9, 3) := by decide +kernel
theorem dX12_fix_77 : decode cX12_fix 77 = .ok (.iload 5, 2) := by decide +kernel
theorem dX12_fix_79 : decode cX12_fix 79 = .ok (.iload_n 3, 1) := by decide +kernel
theorem dX12_fix_80 : decode cX12_fix 80 = .ok (.if_icmp .ge 7, 3) := by decide +kernel
theorem dX12_fix_83 : decode cX12_fix 83 = .ok (.iconst 1, 1) := by decide +kernel
theorem dX12_fix_84 : decode cX12_fix 84 = .ok (.goto 4, 3) := by decide +kernel
theorem dX12_fix_87 : decode cX12_fix 87 = .ok (.iconst 0, 1) := by decide +kernel
theorem dX12_fix_88 : decode cX12_fix 88 = .ok (.istore 6, 2) := by decide +kernel
theorem dX12_fix_90 : decode cX12_fix 90 = .ok (.iload 6, 2) := by decide +kernel
theorem dX12_fix_92 : decode cX12_fix 92 = .ok (.ifCond .eq 8, 3) := by decide +kernel
theorem dX12_fix_95 : decode cX12_fix 95 = .ok (.iload 4, 2) := by decide +kernel
theorem dX12_fix_97 : decode cX12_fix 97 = .ok (.goto 4, 3) := by decide +kernel
theorem dX12_fix_100 : decode cX12_fix 100 = .ok (.iload_n 2, 1) := by decide +kernel
theorem dX12_fix_101 : decode cX12_fix 101 = .ok (.istore_n 2, 1) := by decide +kernel
theorem dX12_fix_102 : decode cX12_fix 102 = .ok (.iload 6, 2) := by decide +kernel
theorem dX12_fix_104 : decode cX12_fix 104 = .ok (.ifCond .eq 8, 3) := by decide +kernel
theorem dX12_fix_107 : decode cX12_fix 107 = .ok (.iload 5, 2) := by decide +kernel
theorem dX12_fix_109 : decode cX12_fix 109 = .ok (.goto 4, 3) := by decide +kernel
theorem dX12_fix_112 : decode cX12_fix 112 = .ok (.iload_n 3, 1) := by decide +kernel
theorem dX12_fix_113 : decode cX12_fix 113 = .ok (.istore_n 3, 1) := by decide +kernel
theorem dX12_fix_114 : decode cX12_fix 114 = .ok (.iinc 4 1, 3) := by decide +kernel
theorem dX12_fix_117 : decode cX12_fix 117 = .ok (.goto (-88), 3) := by decide +kernel
theorem dX12_fix_120 : decode cX12_fix 120 = .ok (.aload_n 0, 1) := by decide +kernel
theorem dX12_fix_121 : decode cX12_fix 121 = .ok (.iload_n 2, 1) := by decide +kernel
theorem dX12_fix_122 : decode cX12_fix 122 = .ok (.invokevirtual 159, 3) := by decide +kernel
theorem dX12_fix_125 : decode cX12_fix 125 = .ok (.ireturn, 1) := by decide +kernel
theorem dX12_winner_0 : decode cX12_winner 0 = .ok (.iload_n 1, 1) := by decide +kernel
theorem dX12_winner_1 : decode cX12_winner 1 = .ok (.i2l, 1) := by decide +kernel
theorem dX12_winner_2 : decode cX12_winner 2 = .ok (.iconst 0, 1) := by decide +kernel
theorem dX12_winner_3 : decode cX12_winner 3 = .ok (.sipush 200, 3) := by decide +kernel
theorem dX12_winner_6 : decode cX12_winner 6 = .ok (.invokestatic 41, 3) := by decide +kernel
theorem dX12_winner_9 : decode cX12_winner 9 = .ok (.ifCond .ne 10, 3) := by decide +kernel
theorem dX12_winner_12 : decode cX12_winner 12 = .ok (.aload_n 0, 1) := by decide +kernel
theorem dX12_winner_13 : decode cX12_winner 13 = .ok (.ldc 35, 2) := by decide +kernel
theorem dX12_winner_15 : decode cX12_winner 15 = .ok (.invokevirtual 37, 3) := by decide +kernel
theorem dX12_winner_18 : decode cX12_winner 18 = .ok (.ireturn, 1) := by decide +kernel
theorem dX12_winner_19 : decode cX12_winner 19 = .ok (.aload_n 0, 1) := by decide +kernel
theorem dX12_winner_20 : decode cX12_winner 20 = .ok (.invokevirtual 146, 3) := by decide +kernel
theorem dX12_winner_23 : decode cX12_winner 23 = .ok (.aload_n 0, 1) := by decide +kernel
theorem dX12_winner_24 : decode cX12_winner 24 = .ok (.iload_n 1, 1) := by decide +kernel
theorem dX12_winner_25 : decode cX12_winner 25 = .ok (.invokevirtual 139, 3) := by decide +kernel
theorem dX12_winner_28 : decode cX12_winner 28 = .ok (.iconst (-1), 1) := by decide +kernel
theorem dX12_winner_29 : decode cX12_winner 29 = .ok (.istore_n 2, 1) := by decide +kernel
theorem dX12_winner_30 : decode cX12_winner 30 = .ok (.iconst 0, 1) := by decide +kernel
theorem dX12_winner_31 : decode cX12_winner 31 = .ok (.istore_n 3, 1) := by decide +kernel
theorem dX12_winner_32 : decode cX12_winner 32 = .ok (.iload_n 3, 1) := by decide +kernel
theorem dX12_winner_33 : decode cX12_winner 33 = .ok (.aload_n 0, 1) := by decide +kernel
theorem dX12_winner_34 : decode cX12_winner 34 = .ok (.getfield 9, 3) := by decide +kernel
theorem dX12_winner_37 : decode cX12_winner 37 = .ok (.iconst 3, 1) := by decide +kernel
theorem dX12_winner_38 : decode cX12_winner 38 = .ok (.iaload, 1) := by decide +kernel
theorem dX12_winner_39 : decode cX12_winner 39 = .ok (.if_icmp .ge 38, 3) := by decide +kernel
theorem dX12_winner_42 : decode cX12_winner 42 = .ok (.iload_n 2, 1) := by decide +kernel
theorem dX12_winner_43 : decode cX12_winner 43 = .ok (.ifCond .lt 22, 3) := by decide +kernel
theorem dX12_winner_46 : decode cX12_winner 46 = .ok (.aload_n 0, 1) := by decide +kernel
theorem dX12_winner_47 : decode cX12_winner 47 = .ok (.iload_n 3, 1) := by decide +kernel
theorem dX12_winner_48 : decode cX12_winner 48 = .ok (.invokevirtual 103, 3) := by decide +kernel
theorem dX12_winner_51 : decode cX12_winner 51 = .ok (.invokestatic 112, 3) := by decide +kernel
theorem dX12_winner_54 : decode cX12_winner 54 = .ok (.aload_n 0, 1) := by decide +kernel
theorem dX12_winner_55 : decode cX12_winner 55 = .ok (.iload_n 2, 1) := by decide +kernel
theorem dX12_winner_56 : decode cX12_winner 56 = .ok (.invokevirtual 103, 3) := by decide +kernel
theorem dX12_winner_59 : decode cX12_winner 59 = .ok (.invokestatic 112, 3) := by decide +kernel
theorem dX12_winner_62 : decode cX12_winner 62 = .ok (.if_icmp .le 7, 3) := by decide +kernel
theorem dX12_winner_65 : decode cX12_winner 65 = .ok (.iload_n 3, 1) := by decide +kernel
theorem dX12_winner_66 : decode cX12_winner 66 = .ok (.goto 4, 3) := by decide +kernel
theorem dX12_winner_69 : decode cX12_winner 69 = .ok (.iload_n 2, 1) := by decide +kernel
theorem dX12_winner_70 : decode cX12_winner 70 = .ok (.istore_n 2, 1) := by decide +kernel
theorem dX12_winner_71 : decode cX12_winner 71 = .ok (.iinc 3 1, 3) := by decide +kernel
theorem dX12_winner_74 : decode cX12_winner 74 = .ok (.goto (-42), 3) := by decide +kernel
theorem dX12_winner_77 : decode cX12_winner 77 = .ok (.aload_n 0, 1) := by decide +kernel
theorem dX12_winner_78 : decode cX12_winner 78 = .ok (.invokevirtual 149, 3) := by decide +kernel
theorem dX12_winner_81 : decode cX12_winner 81 = .ok (.aload_n 0, 1) := by decide +kernel
theorem dX12_winner_82 : decode cX12_winner 82 = .ok (.iload_n 2, 1) := by decide +kernel
theorem dX12_winner_83 : decode cX12_winner 83 = .ok (.invokevirtual 159, 3) := by decide +kernel
theorem dX12_winner_86 : decode cX12_winner 86 = .ok (.ireturn, 1) := by decide +kernel
theorem dX12_largest_0 : decode cX12_largest 0 = .ok (.iload_n 1, 1) := by decide +kernel
theorem dX12_largest_1 : decode cX12_largest 1 = .ok (.i2l, 1) := by decide +kernel
theorem dX12_largest_2 : decode cX12_largest 2 = .ok (.iconst 0, 1) := by decide +kernel
theorem dX12_largest_3 : decode cX12_largest 3 = .ok (.sipush 200, 3) := by decide +kernel
theorem dX12_largest_6 : decode cX12_largest 6 = .ok (.invokestatic 41, 3) := by decide +kernel
theorem dX12_largest_9 : decode cX12_largest 9 = .ok (.ifCond .ne 10, 3) := by decide +kernel
theorem dX12_largest_12 : decode cX12_largest 12 = .ok (.aload_n 0, 1) := by decide +kernel
theorem dX12_largest_13 : decode cX12_largest 13 = .ok (.ldc 35, 2) := by decide +kernel
theorem dX12_largest_15 : decode cX12_largest 15 = .ok (.invokevirtual 37, 3) := by decide +kernel
theorem dX12_largest_18 : decode cX12_largest 18 = .ok (.ireturn, 1) := by decide +kernel
theorem dX12_largest_19 : decode cX12_largest 19 = .ok (.aload_n 0, 1) := by decide +kernel
theorem dX12_largest_20 : decode cX12_largest 20 = .ok (.invokevirtual 146, 3) := by decide +kernel
theorem dX12_largest_23 : decode cX12_largest 23 = .ok (.aload_n 0, 1) := by decide +kernel
theorem dX12_largest_24 : decode cX12_largest 24 = .ok (.iload_n 1, 1) := by decide +kernel
theorem dX12_largest_25 : decode cX12_largest 25 = .ok (.invokevirtual 139, 3) := by decide +kernel
theorem dX12_largest_28 : decode cX12_largest 28 = .ok (.iconst 0, 1) := by decide +kernel
theorem dX12_largest_29 : decode cX12_largest 29 = .ok (.istore_n 2, 1) := by decide +kernel
theorem dX12_largest_30 : decode cX12_largest 30 = .ok (.iconst 1, 1) := by decide +kernel
theorem dX12_largest_31 : decode cX12_largest 31 = .ok (.istore_n 3, 1) := by decide +kernel
theorem dX12_largest_32 : decode cX12_largest 32 = .ok (.iload_n 3, 1) := by decide +kernel
theorem dX12_largest_33 : decode cX12_largest 33 = .ok (.bipush 6, 2) := by decide +kernel
theorem dX12_largest_35 : decode cX12_largest 35 = .ok (.if_icmp .ge 34, 3) := by decide +kernel
theorem dX12_largest_38 : decode cX12_largest 38 = .ok (.aload_n 0, 1) := by decide +kernel
theorem dX12_largest_39 : decode cX12_largest 39 = .ok (.iload_n 3, 1) := by decide +kernel
theorem dX12_largest_40 : decode cX12_largest 40 = .ok (.invokevirtual 84, 3) := by decide +kernel
theorem dX12_largest_43 : decode cX12_largest 43 = .ok (.invokestatic 112, 3) := by decide +kernel
theorem dX12_largest_46 : decode cX12_largest 46 = .ok (.aload_n 0, 1) := by decide +kernel
theorem dX12_largest_47 : decode cX12_largest 47 = .ok (.iload_n 2, 1) := by decide +kernel
theorem dX12_largest_48 : decode cX12_largest 48 = .ok (.invokevirtual 84, 3) := by decide +kernel
theorem dX12_largest_51 : decode cX12_largest 51 = .ok (.invokestatic 112, 3) := by decide +kernel
theorem dX12_largest_54 : decode cX12_largest 54 = .ok (.if_icmp .le 7, 3) := by decide +kernel
theorem dX12_largest_57 : decode cX12_largest 57 = .ok (.iload_n 3, 1) := by decide +kernel
theorem dX12_largest_58 : decode cX12_largest 58 = .ok (.goto 4, 3) := by decide +kernel
theorem dX12_largest_61 : decode cX12_largest 61 = .ok (.iload_n 2, 1) := by decide +kernel
theorem dX12_largest_62 : decode cX12_largest 62 = .ok (.istore_n 2, 1) := by decide +kernel
theorem dX12_largest_63 : decode cX12_largest 63 = .ok (.iinc 3 1, 3) := by decide +kernel
theorem dX12_largest_66 : decode cX12_largest 66 = .ok (.goto (-34), 3) := by decide +kernel
theorem dX12_largest_69 : decode cX12_largest 69 = .ok (.aload_n 0, 1) := by decide +kernel
theorem dX12_largest_70 : decode cX12_largest 70 = .ok (.invokevirtual 149, 3) := by decide +kernel
theorem dX12_largest_73 : decode cX12_largest 73 = .ok (.iload_n 2, 1) := by decide +kernel
theorem dX12_largest_74 : decode cX12_largest 74 = .ok (.ireturn, 1) := by decide +kernel
theorem dX12_feed_0 : decode cX12_feed 0 = .ok (.iload_n 2, 1) := by decide +kernel
theorem dX12_feed_1 : decode cX12_feed 1 = .ok (.i2l, 1) := by decide +kernel
theorem dX12_feed_2 : decode cX12_feed 2 = .ok (.iconst 1, 1) := by decide +kernel
theorem dX12_feed_3 : decode cX12_feed 3 = .ok (.iconst 4, 1) := by decide +kernel
theorem dX12_feed_4 : decode cX12_feed 4 = .ok (.invokestatic 41, 3) := by decide +kernel
theorem dX12_feed_7 : decode cX12_feed 7 = .ok (.ifCond .ne 10, 3) := by decide +kernel
theorem dX12_feed_10 : decode cX12_feed 10 = .ok (.aload_n 0, 1) := by decide +kernel
theorem dX12_feed_11 : decode cX12_feed 11 = .ok (.ldc 35, 2) := by decide +kernel
theorem dX12_feed_13 : decode cX12_feed 13 = .ok (.invokevirtual 37, 3) := by decide +kernel
theorem dX12_feed_16 : decode cX12_feed 16 = .ok (.ireturn, 1) := by decide +kernel
theorem dX12_feed_17 : decode cX12_feed 17 = .ok (.aload_n 0, 1) := by decide +kernel
theorem dX12_feed_18 : decode cX12_feed 18 = .ok (.getfield 162, 3) := by decide +kernel
theorem dX12_feed_21 : decode cX12_feed 21 = .ok (.iload_n 2, 1) := by decide +kernel
theorem dX12_feed_22 : decode cX12_feed 22 = .ok (.iadd, 1) := by decide +kernel
theorem dX12_feed_23 : decode cX12_feed 23 = .ok (.bipush 120, 2) := by decide +kernel
theorem dX12_feed_25 : decode cX12_feed 25 = .ok (.if_icmp .le 10, 3) := by decide +kernel
theorem dX12_feed_28 : decode cX12_feed 28 = .ok (.aload_n 0, 1) := by decide +kernel
theorem dX12_feed_29 : decode cX12_feed 29 = .ok (.ldc 70, 2) := by decide +kernel
theorem dX12_feed_31 : decode cX12_feed 31 = .ok (.invokevirtual 37, 3) := by decide +kernel
theorem dX12_feed_34 : decode cX12_feed 34 = .ok (.ireturn, 1) := by decide +kernel
theorem dX12_feed_35 : decode cX12_feed 35 = .ok (.iload_n 2, 1) := by decide +kernel
theorem dX12_feed_36 : decode cX12_feed 36 = .ok (.iconst 1, 1) := by decide +kernel
theorem dX12_feed_37 : decode cX12_feed 37 = .ok (.isub, 1) := by decide +kernel
theorem dX12_feed_38 : decode cX12_feed 38 = .ok (.istore_n 3, 1) := by decide +kernel
theorem dX12_feed_39 : decode cX12_feed 39 = .ok (.iload_n 3, 1) := by decide +kernel
theorem dX12_feed_40 : decode cX12_feed 40 = .ok (.ifCond .lt 38, 3) := by decide +kernel
theorem dX12_feed_43 : decode cX12_feed 43 = .ok (.aload_n 0, 1) := by decide +kernel
theorem dX12_feed_44 : decode cX12_feed 44 = .ok (.getfield 22, 3) := by decide +kernel
theorem dX12_feed_47 : decode cX12_feed 47 = .ok (.aload_n 0, 1) := by decide +kernel
theorem dX12_feed_48 : decode cX12_feed 48 = .ok (.getfield 162, 3) := by decide +kernel
theorem dX12_feed_51 : decode cX12_feed 51 = .ok (.iload_n 1, 1) := by decide +kernel
theorem dX12_feed_52 : decode cX12_feed 52 = .ok (.bipush 8, 2) := by decide +kernel
theorem dX12_feed_54 : decode cX12_feed 54 = .ok (.iload_n 3, 1) := by decide +kernel
theorem dX12_feed_55 : decode cX12_feed 55 = .ok (.imul, 1) := by decide +kernel
theorem dX12_feed_56 : decode cX12_feed 56 = .ok (.ishr, 1) := by decide +kernel
theorem dX12_feed_57 : decode cX12_feed 57 = .ok (.sipush 255, 3) := by decide +kernel
theorem dX12_feed_60 : decode cX12_feed 60 = .ok (.iand, 1) := by decide +kernel
theorem dX12_feed_61 : decode cX12_feed 61 = .ok (.iastore, 1) := by decide +kernel
theorem dX12_feed_62 : decode cX12_feed 62 = .ok (.aload_n 0, 1) := by decide +kernel
theorem dX12_feed_63 : decode cX12_feed 63 = .ok (.dup, 1) := by decide +kernel
theorem dX12_feed_64 : decode cX12_feed 64 = .ok (.getfield 162, 3) := by decide +kernel
theorem dX12_feed_67 : decode cX12_feed 67 = .ok (.iconst 1, 1) := by decide +kernel
theorem dX12_feed_68 : decode cX12_feed 68 = .ok (.iadd, 1) := by decide +kernel
theorem dX12_feed_69 : decode cX12_feed 69 = .ok (.putfield 162, 3) := by decide +kernel
theorem dX12_feed_72 : decode cX12_feed 72 = .ok (.iinc 3 (-1), 3) := by decide +kernel
theorem dX12_feed_75 : decode cX12_feed 75 = .ok (.goto (-36), 3) := by decide +kernel
theorem dX12_feed_78 : decode cX12_feed 78 = .ok (.aload_n 0, 1) := by decide +kernel
theorem dX12_feed_79 : decode cX12_feed 79 = .ok (.getfield 162, 3) := by decide +kernel
theorem dX12_feed_82 : decode cX12_feed 82 = .ok (.ireturn, 1) := by decide +kernel
theorem dX12_wipe_0 : decode cX12_wipe 0 = .ok (.aload_n 0, 1) := by decide +kernel
theorem dX12_wipe_1 : decode cX12_wipe 1 = .ok (.getfield 162, 3) := by decide +kernel
theorem dX12_wipe_4 : decode cX12_wipe 4 = .ok (.istore_n 1, 1) := by decide +kernel
theorem dX12_wipe_5 : decode cX12_wipe 5 = .ok (.aload_n 0, 1) := by decide +kernel
theorem dX12_wipe_6 : decode cX12_wipe 6 = .ok (.iconst 0, 1) := by decide +kernel
theorem dX12_wipe_7 : decode cX12_wipe 7 = .ok (.putfield 162, 3) := by decide +kernel
theorem dX12_wipe_10 : decode cX12_wipe 10 = .ok (.iload_n 1, 1) := by decide +kernel
theorem dX12_wipe_11 : decode cX12_wipe 11 = .ok (.ireturn, 1) := by decide +kernel
theorem dX12_isByte_0 : decode cX12_isByte 0 = .ok (.iload_n 1, 1) := by decide +kernel
theorem dX12_isByte_1 : decode cX12_isByte 1 = .ok (.aload_n 0, 1) := by decide +kernel
theorem dX12_isByte_2 : decode cX12_isByte 2 = .ok (.getfield 162, 3) := by decide +kernel
theorem dX12_isByte_5 : decode cX12_isByte 5 = .ok (.if_icmp .ge 22, 3) := by decide +kernel
theorem dX12_isByte_8 : decode cX12_isByte 8 = .ok (.aload_n 0, 1) := by decide +kernel
theorem dX12_isByte_9 : decode cX12_isByte 9 = .ok (.getfield 22, 3) := by decide +kernel
theorem dX12_isByte_12 : decode cX12_isByte 12 = .ok (.iload_n 1, 1) := by decide +kernel
theorem dX12_isByte_13 : decode cX12_isByte 13 = .ok (.iaload, 1) := by decide +kernel
theorem dX12_isByte_14 : decode cX12_isByte 14 = .ok (.i2l, 1) := by decide +kernel
theorem dX12_isByte_15 : decode cX12_isByte 15 = .ok (.iload_n 2, 1) := by decide +kernel
theorem dX12_isByte_16 : decode cX12_isByte 16 = .ok (.iload_n 3, 1) := by decide +kernel
theorem dX12_isByte_17 : decode cX12_isByte 17 = .ok (.invokestatic 41, 3) := by decide +kernel
theorem dX12_isByte_20 : decode cX12_isByte 20 = .ok (.ifCond .eq 7, 3) := by decide +kernel
theorem dX12_isByte_23 : decode cX12_isByte 23 = .ok (.iconst 1, 1) := by decide +kernel
theorem dX12_isByte_24 : decode cX12_isByte 24 = .ok (.goto 4, 3) := by decide +kernel
theorem dX12_isByte_27 : decode cX12_isByte 27 = .ok (.iconst 0, 1) := by decide +kernel
theorem dX12_isByte_28 : decode cX12_isByte 28 = .ok (.ireturn, 1) := by decide +kernel
theorem dX12_isName_0 : decode cX12_isName 0 = .ok (.iload_n 2, 1) := by decide +kernel
theorem dX12_isName_1 : decode cX12_isName 1 = .ok (.bipush 7, 2) := by decide +kernel
theorem dX12_isName_3 : decode cX12_isName 3 = .ok (.if_icmp .gt 26, 3) := by decide +kernel
theorem dX12_isName_6 : decode cX12_isName 6 = .ok (.iload_n 2, 1) := by decide +kernel
theorem dX12_isName_7 : decode cX12_isName 7 = .ok (.bipush 7, 2) := by decide +kernel
theorem dX12_isName_9 : decode cX12_isName 9 = .ok (.if_icmp .eq 16, 3) := by decide +kernel
theorem dX12_isName_12 : decode cX12_isName 12 = .ok (.getstatic 165, 3) := by decide +kernel
theorem dX12_isName_15 : decode cX12_isName 15 = .ok (.bipush 7, 2) := by decide +kernel
theorem dX12_isName_17 : decode cX12_isName 17 = .ok (.iload_n 1, 1) := by decide +kernel
theorem dX12_isName_18 : decode cX12_isName 18 = .ok (.imul, 1) := by decide +kernel
theorem dX12_isName_19 : decode cX12_isName 19 = .ok (.iload_n 2, 1) := by decide +kernel
theorem dX12_isName_20 : decode cX12_isName 20 = .ok (.iadd, 1) := by decide +kernel
theorem dX12_isName_21 : decode cX12_isName 21 = .ok (.iaload, 1) := by decide +kernel
theorem dX12_isName_22 : decode cX12_isName 22 = .ok (.ifCond .ne 7, 3) := by decide +kernel
theorem dX12_isName_25 : decode cX12_isName 25 = .ok (.iconst 1, 1) := by decide +kernel
theorem dX12_isName_26 : decode cX12_isName 26 = .ok (.goto 4, 3) := by decide +kernel
theorem dX12_isName_29 : decode cX12_isName 29 = .ok (.iconst 0, 1) := by decide +kernel
theorem dX12_isName_30 : decode cX12_isName 30 = .ok (.istore_n 3, 1) := by decide +kernel
theorem dX12_isName_31 : decode cX12_isName 31 = .ok (.iconst 0, 1) := by decide +kernel
theorem dX12_isName_32 : decode cX12_isName 32 = .ok (.istore 4, 2) := by decide +kernel
theorem dX12_isName_34 : decode cX12_isName 34 = .ok (.iload 4, 2) := by decide +kernel
theorem dX12_isName_36 : decode cX12_isName 36 = .ok (.iload_n 2, 1) := by decide +kernel
theorem dX12_isName_37 : decode cX12_isName 37 = .ok (.if_icmp .ge 45, 3) := by decide +kernel
theorem dX12_isName_40 : decode cX12_isName 40 = .ok (.iload_n 3, 1) := by decide +kernel
theorem dX12_isName_41 : decode cX12_isName 41 = .ok (.ifCond .eq 41, 3) := by decide +kernel
theorem dX12_isName_44 : decode cX12_isName 44 = .ok (.getstatic 165, 3) := by decide +kernel
theorem dX12_isName_47 : decode cX12_isName 47 = .ok (.bipush 7, 2) := by decide +kernel
theorem dX12_isName_49 : decode cX12_isName 49 = .ok (.iload_n 1, 1) := by decide +kernel
theorem dX12_isName_50 : decode cX12_isName 50 = .ok (.imul, 1) := by decide +kernel
theorem dX12_isName_51 : decode cX12_isName 51 = .ok (.iload 4, 2) := by decide +kernel
theorem dX12_isName_53 : decode cX12_isName 53 = .ok (.iadd, 1) := by decide +kernel
theorem dX12_isName_54 : decode cX12_isName 54 = .ok (.iaload, 1) := by decide +kernel
theorem dX12_isName_55 : decode cX12_isName 55 = .ok (.aload_n 0, 1) := by decide +kernel
theorem dX12_isName_56 : decode cX12_isName 56 = .ok (.getfield 22, 3) := by decide +kernel
theorem dX12_isName_59 : decode cX12_isName 59 = .ok (.aload_n 0, 1) := by decide +kernel
theorem dX12_isName_60 : decode cX12_isName 60 = .ok (.getfield 168, 3) := by decide +kernel
theorem dX12_isName_63 : decode cX12_isName 63 = .ok (.iload 4, 2) := by decide +kernel
theorem dX12_isName_65 : decode cX12_isName 65 = .ok (.iadd, 1) := by decide +kernel
theorem dX12_isName_66 : decode cX12_isName 66 = .ok (.iaload, 1) := by decide +kernel
theorem dX12_isName_67 : decode cX12_isName 67 = .ok (.if_icmp .ne 7, 3) := by decide +kernel
theorem dX12_isName_70 : decode cX12_isName 70 = .ok (.iconst 1, 1) := by decide +kernel
theorem dX12_isName_71 : decode cX12_isName 71 = .ok (.goto 4, 3) := by decide +kernel
theorem dX12_isName_74 : decode cX12_isName 74 = .ok (.iconst 0, 1) := by decide +kernel
theorem dX12_isName_75 : decode cX12_isName 75 = .ok (.istore_n 3, 1) := by decide +kernel
theorem dX12_isName_76 : decode cX12_isName 76 = .ok (.iinc 4 1, 3) := by decide +kernel
theorem dX12_isName_79 : decode cX12_isName 79 = .ok (.goto (-45), 3) := by decide +kernel
theorem dX12_isName_82 : decode cX12_isName 82 = .ok (.iload_n 3, 1) := by decide +kernel
theorem dX12_isName_83 : decode cX12_isName 83 = .ok (.ireturn, 1) := by decide +kernel
theorem dX12_wordHere_0 : decode cX12_wordHere 0 = .ok (.iconst 0, 1) := by decide +kernel
theorem dX12_wordHere_1 : decode cX12_wordHere 1 = .ok (.istore_n 1, 1) := by decide +kernel
theorem dX12_wordHere_2 : decode cX12_wordHere 2 = .ok (.iload_n 1, 1) := by decide +kernel
theorem dX12_wordHere_3 : decode cX12_wordHere 3 = .ok (.bipush 11, 2) := by decide +kernel
theorem dX12_wordHere_5 : decode cX12_wordHere 5 = .ok (.if_icmp .ge 26, 3) := by decide +kernel
theorem dX12_wordHere_8 : decode cX12_wordHere 8 = .ok (.aload_n 0, 1) := by decide +kernel
theorem dX12_wordHere_9 : decode cX12_wordHere 9 = .ok (.iload_n 1, 1) := by decide +kernel
theorem dX12_wordHere_10 : decode cX12_wordHere 10 = .ok (.aload_n 0, 1) := by decide +kernel
theorem dX12_wordHere_11 : decode cX12_wordHere 11 = .ok (.getfield 171, 3) := by decide +kernel
theorem dX12_wordHere_14 : decode cX12_wordHere 14 = .ok (.aload_n 0, 1) := by decide +kernel
theorem dX12_wordHere_15 : decode cX12_wordHere 15 = .ok (.getfield 168, 3) := by decide +kernel
theorem dX12_wordHere_18 : decode cX12_wordHere 18 = .ok (.isub, 1) := by decide +kernel
theorem dX12_wordHere_19 : decode cX12_wordHere 19 = .ok (.invokevirtual 174, 3) := by decide +kernel
theorem dX12_wordHere_22 : decode cX12_wordHere 22 = .ok (.ifCond .ne 9, 3) := by decide +kernel
theorem dX12_wordHere_25 : decode cX12_wordHere 25 = .ok (.iinc 1 1, 3) := by decide +kernel
theorem dX12_wordHere_28 : decode cX12_wordHere 28 = .ok (.goto (-26), 3) := by decide +kernel
theorem dX12_wordHere_31 : decode cX12_wordHere 31 = .ok (.iload_n 1, 1) := by decide +kernel
theorem dX12_wordHere_32 : decode cX12_wordHere 32 = .ok (.bipush 11, 2) := by decide +kernel
theorem dX12_wordHere_34 : decode cX12_wordHere 34 = .ok (.if_icmp .ge 7, 3) := by decide +kernel
theorem dX12_wordHere_37 : decode cX12_wordHere 37 = .ok (.iload_n 1, 1) := by decide +kernel
theorem dX12_wordHere_38 : decode cX12_wordHere 38 = .ok (.goto 5, 3) := by decide +kernel
theorem dX12_wordHere_41 : decode cX12_wordHere 41 = .ok (.bipush 23, 2) := by decide +kernel
theorem dX12_wordHere_43 : decode cX12_wordHere 43 = .ok (.ireturn, 1) := by decide +kernel
theorem dX12_reads_0 : decode cX12_reads 0 = .ok (.aload_n 0, 1) := by decide +kernel
theorem dX12_reads_1 : decode cX12_reads 1 = .ok (.aload_n 0, 1) := by decide +kernel
theorem dX12_reads_2 : decode cX12_reads 2 = .ok (.getfield 171, 3) := by decide +kernel
theorem dX12_reads_5 : decode cX12_reads 5 = .ok (.bipush 32, 2) := by decide +kernel
theorem dX12_reads_7 : decode cX12_reads 7 = .ok (.bipush 32, 2) := by decide +kernel
theorem dX12_reads_9 : decode cX12_reads 9 = .ok (.invokevirtual 177, 3) := by decide +kernel
theorem dX12_reads_12 : decode cX12_reads 12 = .ok (.ifCond .eq 16, 3) := by decide +kernel
theorem dX12_reads_15 : decode cX12_reads 15 = .ok (.aload_n 0, 1) := by decide +kernel
theorem dX12_reads_16 : decode cX12_reads 16 = .ok (.dup, 1) := by decide +kernel
theorem dX12_reads_17 : decode cX12_reads 17 = .ok (.getfield 171, 3) := by decide +kernel
theorem dX12_reads_20 : decode cX12_reads 20 = .ok (.iconst 1, 1) := by decide +kernel
theorem dX12_reads_21 : decode cX12_reads 21 = .ok (.iadd, 1) := by decide +kernel
theorem dX12_reads_22 : decode cX12_reads 22 = .ok (.putfield 171, 3) := by decide +kernel
theorem dX12_reads_25 : decode cX12_reads 25 = .ok (.goto (-25), 3) := by decide +kernel
theorem dX12_reads_28 : decode cX12_reads 28 = .ok (.aload_n 0, 1) := by decide +kernel
theorem dX12_reads_29 : decode cX12_reads 29 = .ok (.aload_n 0, 1) := by decide +kernel
theorem dX12_reads_30 : decode cX12_reads 30 = .ok (.getfield 171, 3) := by decide +kernel
theorem dX12_reads_33 : decode cX12_reads 33 = .ok (.putfield 168, 3) := by decide +kernel
theorem dX12_reads_36 : decode cX12_reads 36 = .ok (.aload_n 0, 1) := by decide +kernel
theorem dX12_reads_37 : decode cX12_reads 37 = .ok (.iconst 0, 1) := by decide +kernel
theorem dX12_reads_38 : decode cX12_reads 38 = .ok (.putfield 180, 3) := by decide +kernel
theorem dX12_reads_41 : decode cX12_reads 41 = .ok (.aload_n 0, 1) := by decide +kernel
theorem dX12_reads_42 : decode cX12_reads 42 = .ok (.getfield 171, 3) := by decide +kernel
theorem dX12_reads_45 : decode cX12_reads 45 = .ok (.aload_n 0, 1) := by decide +kernel
theorem dX12_reads_46 : decode cX12_reads 46 = .ok (.getfield 162, 3) := by decide +kernel
theorem dX12_reads_49 : decode cX12_reads 49 = .ok (.if_icmp .ne 12, 3) := by decide +kernel
theorem dX12_reads_52 : decode cX12_reads 52 = .ok (.aload_n 0, 1) := by decide +kernel
theorem dX12_reads_53 : decode cX12_reads 53 = .ok (.bipush 22, 2) := by decide +kernel
theorem dX12_reads_55 : decode cX12_reads 55 = .ok (.putfield 183, 3) := by decide +kernel
theorem dX12_reads_58 : decode cX12_reads 58 = .ok (.goto 186, 3) := by decide +kernel
theorem dX12_reads_61 : decode cX12_reads 61 = .ok (.aload_n 0, 1) := by decide +kernel
theorem dX12_reads_62 : decode cX12_reads 62 = .ok (.aload_n 0, 1) := by decide +kernel
theorem dX12_reads_63 : decode cX12_reads 63 = .ok (.getfield 171, 3) := by decide +kernel
theorem dX12_reads_66 : decode cX12_reads 66 = .ok (.bipush 97, 2) := by decide +kernel
theorem dX12_reads_68 : decode cX12_reads 68 = .ok (.bipush 122, 2) := by decide +kernel
theorem dX12_reads_70 : decode cX12_reads 70 = .ok (.invokevirtual 177, 3) := by decide +kernel
theorem dX12_reads_73 : decode cX12_reads 73 = .ok (.ifCond .eq 42, 3) := by decide +kernel
theorem dX12_reads_76 : decode cX12_reads 76 = .ok (.aload_n 0, 1) := by decide +kernel
theorem dX12_reads_77 : decode cX12_reads 77 = .ok (.aload_n 0, 1) := by decide +kernel
theorem dX12_reads_78 : decode cX12_reads 78 = .ok (.getfield 171, 3) := by decide +kernel
theorem dX12_reads_81 : decode cX12_reads 81 = .ok (.bipush 97, 2) := by decide +kernel
theorem dX12_reads_83 : decode cX12_reads 83 = .ok (.bipush 122, 2) := by decide +kernel
theorem dX12_reads_85 : decode cX12_reads 85 = .ok (.invokevirtual 177, 3) := by decide +kernel
theorem dX12_reads_88 : decode cX12_reads 88 = .ok (.ifCond .eq 16, 3) := by decide +kernel
theorem dX12_reads_91 : decode cX12_reads 91 = .ok (.aload_n 0, 1) := by decide +kernel
theorem dX12_reads_92 : decode cX12_reads 92 = .ok (.dup, 1) := by decide +kernel
theorem dX12_reads_93 : decode cX12_reads 93 = .ok (.getfield 171, 3) := by decide +kernel
theorem dX12_reads_96 : decode cX12_reads 96 = .ok (.iconst 1, 1) := by decide +kernel
theorem dX12_reads_97 : decode cX12_reads 97 = .ok (.iadd, 1) := by decide +kernel
theorem dX12_reads_98 : decode cX12_reads 98 = .ok (.putfield 171, 3) := by decide +kernel
theorem dX12_reads_101 : decode cX12_reads 101 = .ok (.goto (-25), 3) := by decide +kernel
theorem dX12_reads_104 : decode cX12_reads 104 = .ok (.aload_n 0, 1) := by decide +kernel
theorem dX12_reads_105 : decode cX12_reads 105 = .ok (.aload_n 0, 1) := by decide +kernel
theorem dX12_reads_106 : decode cX12_reads 106 = .ok (.invokevirtual 186, 3) := by decide +kernel
theorem dX12_reads_109 : decode cX12_reads 109 = .ok (.putfield 183, 3) := by decide +kernel
theorem dX12_reads_112 : decode cX12_reads 112 = .ok (.goto 132, 3) := by decide +kernel
theorem dX12_reads_115 : decode cX12_reads 115 = .ok (.aload_n 0, 1) := by decide +kernel
theorem dX12_reads_116 : decode cX12_reads 116 = .ok (.aload_n 0, 1) := by decide +kernel
theorem dX12_reads_117 : decode cX12_reads 117 = .ok (.getfield 171, 3) := by decide +kernel
theorem dX12_reads_120 : decode cX12_reads 120 = .ok (.bipush 48, 2) := by decide +kernel
theorem dX12_reads_122 : decode cX12_reads 122 = .ok (.bipush 57, 2) := by decide +kernel
theorem dX12_reads_124 : decode cX12_reads 124 = .ok (.invokevirtual 177, 3) := by decide +kernel
theorem dX12_reads_127 : decode cX12_reads 127 = .ok (.ifCond .eq 81, 3) := by decide +kernel
theorem dX12_reads_130 : decode cX12_reads 130 = .ok (.aload_n 0, 1) := by decide +kernel
theorem dX12_reads_131 : decode cX12_reads 131 = .ok (.aload_n 0, 1) := by decide +kernel
theorem dX12_reads_132 : decode cX12_reads 132 = .ok (.getfield 171, 3) := by decide +kernel
theorem dX12_reads_135 : decode cX12_reads 135 = .ok (.bipush 48, 2) := by decide +kernel
theorem dX12_reads_137 : decode cX12_reads 137 = .ok (.bipush 57, 2) := by decide +kernel
theorem dX12_reads_139 : decode cX12_reads 139 = .ok (.invokevirtual 177, 3) := by decide +kernel
theorem dX12_reads_142 : decode cX12_reads 142 = .ok (.ifCond .eq 57, 3) := by decide +kernel
theorem dX12_reads_145 : decode cX12_reads 145 = .ok (.aload_n 0, 1) := by decide +kernel
theorem dX12_reads_146 : decode cX12_reads 146 = .ok (.aload_n 0, 1) := by decide +kernel
theorem dX12_reads_147 : decode cX12_reads 147 = .ok (.getfield 180, 3) := by decide +kernel
theorem dX12_reads_150 : decode cX12_reads 150 = .ok (.sipush 999, 3) := by decide +kernel
theorem dX12_reads_153 : decode cX12_reads 153 = .ok (.if_icmp .le 10, 3) := by decide +kernel
theorem dX12_reads_156 : decode cX12_reads 156 = .ok (.aload_n 0, 1) := by decide +kernel
theorem dX12_reads_157 : decode cX12_reads 157 = .ok (.getfield 180, 3) := by decide +kernel
theorem dX12_reads_160 : decode cX12_reads 160 = .ok (.goto 23, 3) := by decide +kernel
theorem dX12_reads_163 : decode cX12_reads 163 = .ok (.bipush 10, 2) := by decide +kernel
theorem dX12_reads_165 : decode cX12_reads 165 = .ok (.aload_n 0, 1) := by decide +kernel
theorem dX12_reads_166 : decode cX12_reads 166 = .ok (.getfield 180, 3) := by decide +kernel
theorem dX12_reads_169 : decode cX12_reads 169 = .ok (.imul, 1) := by decide +kernel
theorem dX12_reads_170 : decode cX12_reads 170 = .ok (.aload_n 0, 1) := by decide +kernel
theorem dX12_reads_171 : decode cX12_reads 171 = .ok (.getfield 22, 3) := by decide +kernel
theorem dX12_reads_174 : decode cX12_reads 174 = .ok (.aload_n 0, 1) := by decide +kernel
theorem dX12_reads_175 : decode cX12_reads 175 = .ok (.getfield 171, 3) := by decide +kernel
theorem dX12_reads_178 : decode cX12_reads 178 = .ok (.iaload, 1) := by decide +kernel
theorem dX12_reads_179 : decode cX12_reads 179 = .ok (.iadd, 1) := by decide +kernel
theorem dX12_reads_180 : decode cX12_reads 180 = .ok (.bipush 48, 2) := by decide +kernel
theorem dX12_reads_182 : decode cX12_reads 182 = .ok (.isub, 1) := by decide +kernel
theorem dX12_reads_183 : decode cX12_reads 183 = .ok (.putfield 180, 3) := by decide +kernel
theorem dX12_reads_186 : decode cX12_reads 186 = .ok (.aload_n 0, 1) := by decide +kernel
theorem dX12_reads_187 : decode cX12_reads 187 = .ok (.dup, 1) := by decide +kernel
theorem dX12_reads_188 : decode cX12_reads 188 = .ok (.getfield 171, 3) := by decide +kernel
theorem dX12_reads_191 : decode cX12_reads 191 = .ok (.iconst 1, 1) := by decide +kernel
theorem dX12_reads_192 : decode cX12_reads 192 = .ok (.iadd, 1) := by decide +kernel
theorem dX12_reads_193 : decode cX12_reads 193 = .ok (.putfield 171, 3) := by decide +kernel
theorem dX12_reads_196 : decode cX12_reads 196 = .ok (.goto (-66), 3) := by decide +kernel
theorem dX12_reads_199 : decode cX12_reads 199 = .ok (.aload_n 0, 1) := by decide +kernel
theorem dX12_reads_200 : decode cX12_reads 200 = .ok (.bipush 20, 2) := by decide +kernel
theorem dX12_reads_202 : decode cX12_reads 202 = .ok (.putfield 183, 3) := by decide +kernel
theorem dX12_reads_205 : decode cX12_reads 205 = .ok (.goto 39, 3) := by decide +kernel
theorem dX12_reads_208 : decode cX12_reads 208 = .ok (.aload_n 0, 1) := by decide +kernel
theorem dX12_reads_209 : decode cX12_reads 209 = .ok (.aload_n 0, 1) := by decide +kernel
theorem dX12_reads_210 : decode cX12_reads 210 = .ok (.aload_n 0, 1) := by decide +kernel
theorem dX12_reads_211 : decode cX12_reads 211 = .ok (.getfield 171, 3) := by decide +kernel
theorem dX12_reads_214 : decode cX12_reads 214 = .ok (.bipush 59, 2) := by decide +kernel
theorem dX12_reads_216 : decode cX12_reads 216 = .ok (.bipush 59, 2) := by decide +kernel
theorem dX12_reads_218 : decode cX12_reads 218 = .ok (.invokevirtual 177, 3) := by decide +kernel
theorem dX12_reads_221 : decode cX12_reads 221 = .ok (.ifCond .eq 8, 3) := by decide +kernel
theorem dX12_reads_224 : decode cX12_reads 224 = .ok (.bipush 21, 2) := by decide +kernel
theorem dX12_reads_226 : decode cX12_reads 226 = .ok (.goto 5, 3) := by decide +kernel
theorem dX12_reads_229 : decode cX12_reads 229 = .ok (.bipush 23, 2) := by decide +kernel
theorem dX12_reads_231 : decode cX12_reads 231 = .ok (.putfield 183, 3) := by decide +kernel
theorem dX12_reads_234 : decode cX12_reads 234 = .ok (.aload_n 0, 1) := by decide +kernel
theorem dX12_reads_235 : decode cX12_reads 235 = .ok (.dup, 1) := by decide +kernel
theorem dX12_reads_236 : decode cX12_reads 236 = .ok (.getfield 171, 3) := by decide +kernel
theorem dX12_reads_239 : decode cX12_reads 239 = .ok (.iconst 1, 1) := by decide +kernel
theorem dX12_reads_240 : decode cX12_reads 240 = .ok (.iadd, 1) := by decide +kernel
theorem dX12_reads_241 : decode cX12_reads 241 = .ok (.putfield 171, 3) := by decide +kernel
theorem dX12_reads_244 : decode cX12_reads 244 = .ok (.return_, 1) := by decide +kernel
theorem dX12_passes_0 : decode cX12_passes 0 = .ok (.aload_n 0, 1) := by decide +kernel
theorem dX12_passes_1 : decode cX12_passes 1 = .ok (.getfield 189, 3) := by decide +kernel
theorem dX12_passes_4 : decode cX12_passes 4 = .ok (.ifCond .ne 11, 3) := by decide +kernel
theorem dX12_passes_7 : decode cX12_passes 7 = .ok (.aload_n 0, 1) := by decide +kernel
theorem dX12_passes_8 : decode cX12_passes 8 = .ok (.getfield 183, 3) := by decide +kernel
theorem dX12_passes_11 : decode cX12_passes 11 = .ok (.iload_n 1, 1) := by decide +kernel
theorem dX12_passes_12 : decode cX12_passes 12 = .ok (.if_icmp .eq 5, 3) := by decide +kernel
theorem dX12_passes_15 : decode cX12_passes 15 = .ok (.iconst 0, 1) := by decide +kernel
theorem dX12_passes_16 : decode cX12_passes 16 = .ok (.ireturn, 1) := by decide +kernel
theorem dX12_passes_17 : decode cX12_passes 17 = .ok (.aload_n 0, 1) := by decide +kernel
theorem dX12_passes_18 : decode cX12_passes 18 = .ok (.invokevirtual 193, 3) := by decide +kernel
theorem dX12_passes_21 : decode cX12_passes 21 = .ok (.iconst 1, 1) := by decide +kernel
theorem dX12_passes_22 : decode cX12_passes 22 = .ok (.ireturn, 1) := by decide +kernel
theorem dX12_number_0 : decode cX12_number 0 = .ok (.aload_n 0, 1) := by decide +kernel
theorem dX12_number_1 : decode cX12_number 1 = .ok (.getfield 180, 3) := by decide +kernel
theorem dX12_number_4 : decode cX12_number 4 = .ok (.istore_n 3, 1) := by decide +kernel
theorem dX12_number_5 : decode cX12_number 5 = .ok (.aload_n 0, 1) := by decide +kernel
theorem dX12_number_6 : decode cX12_number 6 = .ok (.aload_n 0, 1) := by decide +kernel
theorem dX12_number_7 : decode cX12_number 7 = .ok (.getfield 189, 3) := by decide +kernel
theorem dX12_number_10 : decode cX12_number 10 = .ok (.ifCond .ne 22, 3) := by decide +kernel
theorem dX12_number_13 : decode cX12_number 13 = .ok (.aload_n 0, 1) := by decide +kernel
theorem dX12_number_14 : decode cX12_number 14 = .ok (.getfield 183, 3) := by decide +kernel
theorem dX12_number_17 : decode cX12_number 17 = .ok (.bipush 20, 2) := by decide +kernel
theorem dX12_number_19 : decode cX12_number 19 = .ok (.if_icmp .ne 13, 3) := by decide +kernel
theorem dX12_number_22 : decode cX12_number 22 = .ok (.iload_n 3, 1) := by decide +kernel
theorem dX12_number_23 : decode cX12_number 23 = .ok (.i2l, 1) := by decide +kernel
theorem dX12_number_24 : decode cX12_number 24 = .ok (.iload_n 1, 1) := by decide +kernel
theorem dX12_number_25 : decode cX12_number 25 = .ok (.iload_n 2, 1) := by decide +kernel
theorem dX12_number_26 : decode cX12_number 26 = .ok (.invokestatic 41, 3) := by decide +kernel
theorem dX12_number_29 : decode cX12_number 29 = .ok (.ifCond .ne 7, 3) := by decide +kernel
theorem dX12_number_32 : decode cX12_number 32 = .ok (.iconst 1, 1) := by decide +kernel
theorem dX12_number_33 : decode cX12_number 33 = .ok (.goto 4, 3) := by decide +kernel
theorem dX12_number_36 : decode cX12_number 36 = .ok (.iconst 0, 1) := by decide +kernel
theorem dX12_number_37 : decode cX12_number 37 = .ok (.putfield 189, 3) := by decide +kernel
theorem dX12_number_40 : decode cX12_number 40 = .ok (.aload_n 0, 1) := by decide +kernel
theorem dX12_number_41 : decode cX12_number 41 = .ok (.getfield 189, 3) := by decide +kernel
theorem dX12_number_44 : decode cX12_number 44 = .ok (.ifCond .ne 7, 3) := by decide +kernel
theorem dX12_number_47 : decode cX12_number 47 = .ok (.aload_n 0, 1) := by decide +kernel
theorem dX12_number_48 : decode cX12_number 48 = .ok (.invokevirtual 193, 3) := by decide +kernel
theorem dX12_number_51 : decode cX12_number 51 = .ok (.iload_n 3, 1) := by decide +kernel
theorem dX12_number_52 : decode cX12_number 52 = .ok (.ireturn, 1) := by decide +kernel
theorem dX12_slipItem_0 : decode cX12_slipItem 0 = .ok (.aload_n 0, 1) := by decide +kernel
theorem dX12_slipItem_1 : decode cX12_slipItem 1 = .ok (.aload_n 0, 1) := by decide +kernel
theorem dX12_slipItem_2 : decode cX12_slipItem 2 = .ok (.getfield 9, 3) := by decide +kernel
theorem dX12_slipItem_5 : decode cX12_slipItem 5 = .ok (.iconst 2, 1) := by decide +kernel
theorem dX12_slipItem_6 : decode cX12_slipItem 6 = .ok (.iaload, 1) := by decide +kernel
theorem dX12_slipItem_7 : decode cX12_slipItem 7 = .ok (.bipush 10, 2) := by decide +kernel
theorem dX12_slipItem_9 : decode cX12_slipItem 9 = .ok (.if_icmp .ne 7, 3) := by decide +kernel
theorem dX12_slipItem_12 : decode cX12_slipItem 12 = .ok (.iconst 1, 1) := by decide +kernel
theorem dX12_slipItem_13 : decode cX12_slipItem 13 = .ok (.goto 4, 3) := by decide +kernel
theorem dX12_slipItem_16 : decode cX12_slipItem 16 = .ok (.iconst 0, 1) := by decide +kernel
theorem dX12_slipItem_17 : decode cX12_slipItem 17 = .ok (.putfield 189, 3) := by decide +kernel
theorem dX12_slipItem_20 : decode cX12_slipItem 20 = .ok (.aload_n 0, 1) := by decide +kernel
theorem dX12_slipItem_21 : decode cX12_slipItem 21 = .ok (.getfield 189, 3) := by decide +kernel
theorem dX12_slipItem_24 : decode cX12_slipItem 24 = .ok (.ifCond .eq 4, 3) := by decide +kernel
theorem dX12_slipItem_27 : decode cX12_slipItem 27 = .ok (.return_, 1) := by decide +kernel
theorem dX12_slipItem_28 : decode cX12_slipItem 28 = .ok (.aload_n 0, 1) := by decide +kernel
theorem dX12_slipItem_29 : decode cX12_slipItem 29 = .ok (.invokevirtual 193, 3) := by decide +kernel
theorem dX12_slipItem_32 : decode cX12_slipItem 32 = .ok (.aload_n 0, 1) := by decide +kernel
theorem dX12_slipItem_33 : decode cX12_slipItem 33 = .ok (.bipush 7, 2) := by decide +kernel
theorem dX12_slipItem_35 : decode cX12_slipItem 35 = .ok (.invokevirtual 196, 3) := by decide +kernel
theorem dX12_slipItem_38 : decode cX12_slipItem 38 = .ok (.ifCond .eq 7, 3) := by decide +kernel
theorem dX12_slipItem_41 : decode cX12_slipItem 41 = .ok (.iconst (-1), 1) := by decide +kernel
theorem dX12_slipItem_42 : decode cX12_slipItem 42 = .ok (.goto 9, 3) := by decide +kernel
theorem dX12_slipItem_45 : decode cX12_slipItem 45 = .ok (.aload_n 0, 1) := by decide +kernel
theorem dX12_slipItem_46 : decode cX12_slipItem 46 = .ok (.iconst 0, 1) := by decide +kernel
theorem dX12_slipItem_47 : decode cX12_slipItem 47 = .ok (.iconst 5, 1) := by decide +kernel
theorem dX12_slipItem_48 : decode cX12_slipItem 48 = .ok (.invokevirtual 199, 3) := by decide +kernel
theorem dX12_slipItem_51 : decode cX12_slipItem 51 = .ok (.istore_n 1, 1) := by decide +kernel
theorem dX12_slipItem_52 : decode cX12_slipItem 52 = .ok (.aload_n 0, 1) := by decide +kernel
theorem dX12_slipItem_53 : decode cX12_slipItem 53 = .ok (.bipush 8, 2) := by decide +kernel
theorem dX12_slipItem_55 : decode cX12_slipItem 55 = .ok (.invokevirtual 196, 3) := by decide +kernel
theorem dX12_slipItem_58 : decode cX12_slipItem 58 = .ok (.ifCond .eq 7, 3) := by decide +kernel
theorem dX12_slipItem_61 : decode cX12_slipItem 61 = .ok (.iconst 1, 1) := by decide +kernel
theorem dX12_slipItem_62 : decode cX12_slipItem 62 = .ok (.goto 4, 3) := by decide +kernel
theorem dX12_slipItem_65 : decode cX12_slipItem 65 = .ok (.iconst 0, 1) := by decide +kernel
theorem dX12_slipItem_66 : decode cX12_slipItem 66 = .ok (.istore_n 2, 1) := by decide +kernel
theorem dX12_slipItem_67 : decode cX12_slipItem 67 = .ok (.aload_n 0, 1) := by decide +kernel
theorem dX12_slipItem_68 : decode cX12_slipItem 68 = .ok (.getfield 189, 3) := by decide +kernel
theorem dX12_slipItem_71 : decode cX12_slipItem 71 = .ok (.ifCond .ne 10, 3) := by decide +kernel
theorem dX12_slipItem_74 : decode cX12_slipItem 74 = .ok (.aload_n 0, 1) := by decide +kernel
theorem dX12_slipItem_75 : decode cX12_slipItem 75 = .ok (.iload_n 1, 1) := by decide +kernel
theorem dX12_slipItem_76 : decode cX12_slipItem 76 = .ok (.iload_n 2, 1) := by decide +kernel
theorem dX12_slipItem_77 : decode cX12_slipItem 77 = .ok (.invokevirtual 71, 3) := by decide +kernel
theorem dX12_slipItem_80 : decode cX12_slipItem 80 = .ok (.istore_n 3, 1) := by decide +kernel
theorem dX12_slipItem_81 : decode cX12_slipItem 81 = .ok (.return_, 1) := by decide +kernel
theorem dX12_personItem_0 : decode cX12_personItem 0 = .ok (.aload_n 0, 1) := by decide +kernel
theorem dX12_personItem_1 : decode cX12_personItem 1 = .ok (.getfield 183, 3) := by decide +kernel
theorem dX12_personItem_4 : decode cX12_personItem 4 = .ok (.istore_n 1, 1) := by decide +kernel
theorem dX12_personItem_5 : decode cX12_personItem 5 = .ok (.aload_n 0, 1) := by decide +kernel
theorem dX12_personItem_6 : decode cX12_personItem 6 = .ok (.aload_n 0, 1) := by decide +kernel
theorem dX12_personItem_7 : decode cX12_personItem 7 = .ok (.getfield 9, 3) := by decide +kernel
theorem dX12_personItem_10 : decode cX12_personItem 10 = .ok (.iconst 3, 1) := by decide +kernel
theorem dX12_personItem_11 : decode cX12_personItem 11 = .ok (.iaload, 1) := by decide +kernel
theorem dX12_personItem_12 : decode cX12_personItem 12 = .ok (.bipush 6, 2) := by decide +kernel
theorem dX12_personItem_14 : decode cX12_personItem 14 = .ok (.if_icmp .ne 7, 3) := by decide +kernel
theorem dX12_personItem_17 : decode cX12_personItem 17 = .ok (.iconst 1, 1) := by decide +kernel
theorem dX12_personItem_18 : decode cX12_personItem 18 = .ok (.goto 4, 3) := by decide +kernel
theorem dX12_personItem_21 : decode cX12_personItem 21 = .ok (.iconst 0, 1) := by decide +kernel
theorem dX12_personItem_22 : decode cX12_personItem 22 = .ok (.putfield 189, 3) := by decide +kernel
theorem dX12_personItem_25 : decode cX12_personItem 25 = .ok (.aload_n 0, 1) := by decide +kernel
theorem dX12_personItem_26 : decode cX12_personItem 26 = .ok (.getfield 189, 3) := by decide +kernel
theorem dX12_personItem_29 : decode cX12_personItem 29 = .ok (.ifCond .eq 4, 3) := by decide +kernel
theorem dX12_personItem_32 : decode cX12_personItem 32 = .ok (.return_, 1) := by decide +kernel
theorem dX12_personItem_33 : decode cX12_personItem 33 = .ok (.aload_n 0, 1) := by decide +kernel
theorem dX12_personItem_34 : decode cX12_personItem 34 = .ok (.invokevirtual 193, 3) := by decide +kernel
theorem dX12_personItem_37 : decode cX12_personItem 37 = .ok (.aload_n 0, 1) := by decide +kernel
theorem dX12_personItem_38 : decode cX12_personItem 38 = .ok (.iload_n 1, 1) := by decide +kernel
theorem dX12_personItem_39 : decode cX12_personItem 39 = .ok (.invokevirtual 97, 3) := by decide +kernel
theorem dX12_personItem_42 : decode cX12_personItem 42 = .ok (.istore_n 2, 1) := by decide +kernel
theorem dX12_personItem_43 : decode cX12_personItem 43 = .ok (.aload_n 0, 1) := by decide +kernel
theorem dX12_personItem_44 : decode cX12_personItem 44 = .ok (.bipush 9, 2) := by decide +kernel
theorem dX12_personItem_46 : decode cX12_personItem 46 = .ok (.invokevirtual 196, 3) := by decide +kernel
theorem dX12_personItem_49 : decode cX12_personItem 49 = .ok (.istore_n 3, 1) := by decide +kernel
theorem dX12_personItem_50 : decode cX12_personItem 50 = .ok (.iconst 0, 1) := by decide +kernel
theorem dX12_personItem_51 : decode cX12_personItem 51 = .ok (.istore 4, 2) := by decide +kernel
theorem dX12_personItem_53 : decode cX12_personItem 53 = .ok (.iload 4, 2) := by decide +kernel
theorem dX12_personItem_55 : decode cX12_personItem 55 = .ok (.iconst 5, 1) := by decide +kernel
theorem dX12_personItem_56 : decode cX12_personItem 56 = .ok (.if_icmp .ge 57, 3) := by decide +kernel
theorem dX12_personItem_59 : decode cX12_personItem 59 = .ok (.iload_n 3, 1) := by decide +kernel
theorem dX12_personItem_60 : decode cX12_personItem 60 = .ok (.ifCond .eq 53, 3) := by decide +kernel
theorem dX12_personItem_63 : decode cX12_personItem 63 = .ok (.aload_n 0, 1) := by decide +kernel
theorem dX12_personItem_64 : decode cX12_personItem 64 = .ok (.getfield 189, 3) := by decide +kernel
theorem dX12_personItem_67 : decode cX12_personItem 67 = .ok (.ifCond .ne 46, 3) := by decide +kernel
theorem dX12_personItem_70 : decode cX12_personItem 70 = .ok (.iload 4, 2) := by decide +kernel
theorem dX12_personItem_72 : decode cX12_personItem 72 = .ok (.ifCond .eq 12, 3) := by decide +kernel
theorem dX12_personItem_75 : decode cX12_personItem 75 = .ok (.aload_n 0, 1) := by decide +kernel
theorem dX12_personItem_76 : decode cX12_personItem 76 = .ok (.getfield 183, 3) := by decide +kernel
theorem dX12_personItem_79 : decode cX12_personItem 79 = .ok (.bipush 20, 2) := by decide +kernel
theorem dX12_personItem_81 : decode cX12_personItem 81 = .ok (.if_icmp .ne 32, 3) := by decide +kernel
theorem dX12_personItem_84 : decode cX12_personItem 84 = .ok (.aload_n 0, 1) := by decide +kernel
theorem dX12_personItem_85 : decode cX12_personItem 85 = .ok (.getfield 9, 3) := by decide +kernel
theorem dX12_personItem_88 : decode cX12_personItem 88 = .ok (.bipush 34, 2) := by decide +kernel
theorem dX12_personItem_90 : decode cX12_personItem 90 = .ok (.bipush 12, 2) := by decide +kernel
theorem dX12_personItem_92 : decode cX12_personItem 92 = .ok (.iload_n 2, 1) := by decide +kernel
theorem dX12_personItem_93 : decode cX12_personItem 93 = .ok (.imul, 1) := by decide +kernel
theorem dX12_personItem_94 : decode cX12_personItem 94 = .ok (.iadd, 1) := by decide +kernel
theorem dX12_personItem_95 : decode cX12_personItem 95 = .ok (.iconst 2, 1) := by decide +kernel
theorem dX12_personItem_96 : decode cX12_personItem 96 = .ok (.iadd, 1) := by decide +kernel
theorem dX12_personItem_97 : decode cX12_personItem 97 = .ok (.iload 4, 2) := by decide +kernel
theorem dX12_personItem_99 : decode cX12_personItem 99 = .ok (.iadd, 1) := by decide +kernel
theorem dX12_personItem_100 : decode cX12_personItem 100 = .ok (.aload_n 0, 1) := by decide +kernel
theorem dX12_personItem_101 : decode cX12_personItem 101 = .ok (.iconst 0, 1) := by decide +kernel
theorem dX12_personItem_102 : decode cX12_personItem 102 = .ok (.iconst 5, 1) := by decide +kernel
theorem dX12_personItem_103 : decode cX12_personItem 103 = .ok (.invokevirtual 199, 3) := by decide +kernel
theorem dX12_personItem_106 : decode cX12_personItem 106 = .ok (.iastore, 1) := by decide +kernel
theorem dX12_personItem_107 : decode cX12_personItem 107 = .ok (.iinc 4 1, 3) := by decide +kernel
theorem dX12_personItem_110 : decode cX12_personItem 110 = .ok (.goto (-57), 3) := by decide +kernel
theorem dX12_personItem_113 : decode cX12_personItem 113 = .ok (.return_, 1) := by decide +kernel
theorem dX12_item_0 : decode cX12_item 0 = .ok (.aload_n 0, 1) := by decide +kernel
theorem dX12_item_1 : decode cX12_item 1 = .ok (.getfield 183, 3) := by decide +kernel
theorem dX12_item_4 : decode cX12_item 4 = .ok (.iconst 5, 1) := by decide +kernel
theorem dX12_item_5 : decode cX12_item 5 = .ok (.if_icmp .gt 10, 3) := by decide +kernel
theorem dX12_item_8 : decode cX12_item 8 = .ok (.aload_n 0, 1) := by decide +kernel
theorem dX12_item_9 : decode cX12_item 9 = .ok (.invokevirtual 202, 3) := by decide +kernel
theorem dX12_item_12 : decode cX12_item 12 = .ok (.goto 49, 3) := by decide +kernel
theorem dX12_item_15 : decode cX12_item 15 = .ok (.aload_n 0, 1) := by decide +kernel
theorem dX12_item_16 : decode cX12_item 16 = .ok (.getfield 183, 3) := by decide +kernel
theorem dX12_item_19 : decode cX12_item 19 = .ok (.bipush 6, 2) := by decide +kernel
theorem dX12_item_21 : decode cX12_item 21 = .ok (.if_icmp .ne 10, 3) := by decide +kernel
theorem dX12_item_24 : decode cX12_item 24 = .ok (.aload_n 0, 1) := by decide +kernel
theorem dX12_item_25 : decode cX12_item 25 = .ok (.invokevirtual 205, 3) := by decide +kernel
theorem dX12_item_28 : decode cX12_item 28 = .ok (.goto 33, 3) := by decide +kernel
theorem dX12_item_31 : decode cX12_item 31 = .ok (.aload_n 0, 1) := by decide +kernel
theorem dX12_item_32 : decode cX12_item 32 = .ok (.bipush 10, 2) := by decide +kernel
theorem dX12_item_34 : decode cX12_item 34 = .ok (.invokevirtual 196, 3) := by decide +kernel
theorem dX12_item_37 : decode cX12_item 37 = .ok (.ifCond .eq 19, 3) := by decide +kernel
theorem dX12_item_40 : decode cX12_item 40 = .ok (.aload_n 0, 1) := by decide +kernel
theorem dX12_item_41 : decode cX12_item 41 = .ok (.getfield 9, 3) := by decide +kernel
theorem dX12_item_44 : decode cX12_item 44 = .ok (.iconst 1, 1) := by decide +kernel
theorem dX12_item_45 : decode cX12_item 45 = .ok (.aload_n 0, 1) := by decide +kernel
theorem dX12_item_46 : decode cX12_item 46 = .ok (.iconst 0, 1) := by decide +kernel
theorem dX12_item_47 : decode cX12_item 47 = .ok (.bipush 99, 2) := by decide +kernel
theorem dX12_item_49 : decode cX12_item 49 = .ok (.invokevirtual 199, 3) := by decide +kernel
theorem dX12_item_52 : decode cX12_item 52 = .ok (.iastore, 1) := by decide +kernel
theorem dX12_item_53 : decode cX12_item 53 = .ok (.goto 8, 3) := by decide +kernel
theorem dX12_item_56 : decode cX12_item 56 = .ok (.aload_n 0, 1) := by decide +kernel
theorem dX12_item_57 : decode cX12_item 57 = .ok (.iconst 1, 1) := by decide +kernel
theorem dX12_item_58 : decode cX12_item 58 = .ok (.putfield 189, 3) := by decide +kernel
theorem dX12_item_61 : decode cX12_item 61 = .ok (.return_, 1) := by decide +kernel
theorem dX12_wall_0 : decode cX12_wall 0 = .ok (.aload_n 0, 1) := by decide +kernel
theorem dX12_wall_1 : decode cX12_wall 1 = .ok (.invokevirtual 146, 3) := by decide +kernel
theorem dX12_wall_4 : decode cX12_wall 4 = .ok (.aload_n 0, 1) := by decide +kernel
theorem dX12_wall_5 : decode cX12_wall 5 = .ok (.iconst 0, 1) := by decide +kernel
theorem dX12_wall_6 : decode cX12_wall 6 = .ok (.putfield 171, 3) := by decide +kernel
theorem dX12_wall_9 : decode cX12_wall 9 = .ok (.aload_n 0, 1) := by decide +kernel
theorem dX12_wall_10 : decode cX12_wall 10 = .ok (.iconst 0, 1) := by decide +kernel
theorem dX12_wall_11 : decode cX12_wall 11 = .ok (.putfield 189, 3) := by decide +kernel
theorem dX12_wall_14 : decode cX12_wall 14 = .ok (.aload_n 0, 1) := by decide +kernel
theorem dX12_wall_15 : decode cX12_wall 15 = .ok (.invokevirtual 193, 3) := by decide +kernel
theorem dX12_wall_18 : decode cX12_wall 18 = .ok (.aload_n 0, 1) := by decide +kernel
theorem dX12_wall_19 : decode cX12_wall 19 = .ok (.invokevirtual 208, 3) := by decide +kernel
theorem dX12_wall_22 : decode cX12_wall 22 = .ok (.iconst 1, 1) := by decide +kernel
theorem dX12_wall_23 : decode cX12_wall 23 = .ok (.istore_n 1, 1) := by decide +kernel
theorem dX12_wall_24 : decode cX12_wall 24 = .ok (.aload_n 0, 1) := by decide +kernel
theorem dX12_wall_25 : decode cX12_wall 25 = .ok (.bipush 21, 2) := by decide +kernel
theorem dX12_wall_27 : decode cX12_wall 27 = .ok (.invokevirtual 196, 3) := by decide +kernel
theorem dX12_wall_30 : decode cX12_wall 30 = .ok (.ifCond .eq 13, 3) := by decide +kernel
theorem dX12_wall_33 : decode cX12_wall 33 = .ok (.aload_n 0, 1) := by decide +kernel
theorem dX12_wall_34 : decode cX12_wall 34 = .ok (.invokevirtual 208, 3) := by decide +kernel
theorem dX12_wall_37 : decode cX12_wall 37 = .ok (.iinc 1 1, 3) := by decide +kernel
theorem dX12_wall_40 : decode cX12_wall 40 = .ok (.goto (-16), 3) := by decide +kernel
theorem dX12_wall_43 : decode cX12_wall 43 = .ok (.aload_n 0, 1) := by decide +kernel
theorem dX12_wall_44 : decode cX12_wall 44 = .ok (.aload_n 0, 1) := by decide +kernel
theorem dX12_wall_45 : decode cX12_wall 45 = .ok (.getfield 189, 3) := by decide +kernel
theorem dX12_wall_48 : decode cX12_wall 48 = .ok (.ifCond .ne 12, 3) := by decide +kernel
theorem dX12_wall_51 : decode cX12_wall 51 = .ok (.aload_n 0, 1) := by decide +kernel
theorem dX12_wall_52 : decode cX12_wall 52 = .ok (.getfield 183, 3) := by decide +kernel
theorem dX12_wall_55 : decode cX12_wall 55 = .ok (.bipush 22, 2) := by decide +kernel
theorem dX12_wall_57 : decode cX12_wall 57 = .ok (.if_icmp .eq 7, 3) := by decide +kernel
theorem dX12_wall_60 : decode cX12_wall 60 = .ok (.iconst 1, 1) := by decide +kernel
theorem dX12_wall_61 : decode cX12_wall 61 = .ok (.goto 4, 3) := by decide +kernel
theorem dX12_wall_64 : decode cX12_wall 64 = .ok (.iconst 0, 1) := by decide +kernel
theorem dX12_wall_65 : decode cX12_wall 65 = .ok (.putfield 189, 3) := by decide +kernel
theorem dX12_wall_68 : decode cX12_wall 68 = .ok (.aload_n 0, 1) := by decide +kernel
theorem dX12_wall_69 : decode cX12_wall 69 = .ok (.iconst 0, 1) := by decide +kernel
theorem dX12_wall_70 : decode cX12_wall 70 = .ok (.putfield 162, 3) := by decide +kernel
theorem dX12_wall_73 : decode cX12_wall 73 = .ok (.aload_n 0, 1) := by decide +kernel
theorem dX12_wall_74 : decode cX12_wall 74 = .ok (.getfield 189, 3) := by decide +kernel
theorem dX12_wall_77 : decode cX12_wall 77 = .ok (.ifCond .ne 5, 3) := by decide +kernel
theorem dX12_wall_80 : decode cX12_wall 80 = .ok (.iload_n 1, 1) := by decide +kernel
theorem dX12_wall_81 : decode cX12_wall 81 = .ok (.ireturn, 1) := by decide +kernel
theorem dX12_wall_82 : decode cX12_wall 82 = .ok (.aload_n 0, 1) := by decide +kernel
theorem dX12_wall_83 : decode cX12_wall 83 = .ok (.invokevirtual 149, 3) := by decide +kernel
theorem dX12_wall_86 : decode cX12_wall 86 = .ok (.iconst (-1), 1) := by decide +kernel
theorem dX12_wall_87 : decode cX12_wall 87 = .ok (.aload_n 0, 1) := by decide +kernel
theorem dX12_wall_88 : decode cX12_wall 88 = .ok (.getfield 168, 3) := by decide +kernel
theorem dX12_wall_91 : decode cX12_wall 91 = .ok (.isub, 1) := by decide +kernel
theorem dX12_wall_92 : decode cX12_wall 92 = .ok (.ireturn, 1) := by decide +kernel
theorem dX12_isSheet_0 : decode cX12_isSheet 0 = .ok (.iload_n 0, 1) := by decide +kernel
theorem dX12_isSheet_1 : decode cX12_isSheet 1 = .ok (.i2l, 1) := by decide +kernel
theorem dX12_isSheet_2 : decode cX12_isSheet 2 = .ok (.iconst 0, 1) := by decide +kernel
theorem dX12_isSheet_3 : decode cX12_isSheet 3 = .ok (.iconst 3, 1) := by decide +kernel
theorem dX12_isSheet_4 : decode cX12_isSheet 4 = .ok (.invokestatic 41, 3) := by decide +kernel
theorem dX12_isSheet_7 : decode cX12_isSheet 7 = .ok (.ireturn, 1) := by decide +kernel
theorem dX12_sheet_0 : decode cX12_sheet 0 = .ok (.iload_n 1, 1) := by decide +kernel
theorem dX12_sheet_1 : decode cX12_sheet 1 = .ok (.invokestatic 211, 3) := by decide +kernel
theorem dX12_sheet_4 : decode cX12_sheet 4 = .ok (.ifCond .eq 25, 3) := by decide +kernel
theorem dX12_sheet_7 : decode cX12_sheet 7 = .ok (.iload_n 2, 1) := by decide +kernel
theorem dX12_sheet_8 : decode cX12_sheet 8 = .ok (.ifCond .eq 28, 3) := by decide +kernel
theorem dX12_sheet_11 : decode cX12_sheet 11 = .ok (.iload_n 2, 1) := by decide +kernel
theorem dX12_sheet_12 : decode cX12_sheet 12 = .ok (.bipush 8, 2) := by decide +kernel
theorem dX12_sheet_14 : decode cX12_sheet 14 = .ok (.if_icmp .eq 22, 3) := by decide +kernel
theorem dX12_sheet_17 : decode cX12_sheet 17 = .ok (.iload_n 2, 1) := by decide +kernel
theorem dX12_sheet_18 : decode cX12_sheet 18 = .ok (.bipush 16, 2) := by decide +kernel
theorem dX12_sheet_20 : decode cX12_sheet 20 = .ok (.if_icmp .eq 16, 3) := by decide +kernel
theorem dX12_sheet_23 : decode cX12_sheet 23 = .ok (.iload_n 2, 1) := by decide +kernel
theorem dX12_sheet_24 : decode cX12_sheet 24 = .ok (.bipush 64, 2) := by decide +kernel
theorem dX12_sheet_26 : decode cX12_sheet 26 = .ok (.if_icmp .eq 10, 3) := by decide +kernel
theorem dX12_sheet_29 : decode cX12_sheet 29 = .ok (.aload_n 0, 1) := by decide +kernel
theorem dX12_sheet_30 : decode cX12_sheet 30 = .ok (.ldc 35, 2) := by decide +kernel
theorem dX12_sheet_32 : decode cX12_sheet 32 = .ok (.invokevirtual 37, 3) := by decide +kernel
theorem dX12_sheet_35 : decode cX12_sheet 35 = .ok (.ireturn, 1) := by decide +kernel
theorem dX12_sheet_36 : decode cX12_sheet 36 = .ok (.iload_n 3, 1) := by decide +kernel
theorem dX12_sheet_37 : decode cX12_sheet 37 = .ok (.ifCond .ge 10, 3) := by decide +kernel
theorem dX12_sheet_40 : decode cX12_sheet 40 = .ok (.aload_n 0, 1) := by decide +kernel
theorem dX12_sheet_41 : decode cX12_sheet 41 = .ok (.ldc 214, 2) := by decide +kernel
theorem dX12_sheet_43 : decode cX12_sheet 43 = .ok (.invokevirtual 37, 3) := by decide +kernel
theorem dX12_sheet_46 : decode cX12_sheet 46 = .ok (.ireturn, 1) := by decide +kernel
theorem dX12_sheet_47 : decode cX12_sheet 47 = .ok (.iload_n 3, 1) := by decide +kernel
theorem dX12_sheet_48 : decode cX12_sheet 48 = .ok (.bipush 40, 2) := by decide +kernel
theorem dX12_sheet_50 : decode cX12_sheet 50 = .ok (.if_icmp .le 10, 3) := by decide +kernel
theorem dX12_sheet_53 : decode cX12_sheet 53 = .ok (.aload_n 0, 1) := by decide +kernel
theorem dX12_sheet_54 : decode cX12_sheet 54 = .ok (.ldc 35, 2) := by decide +kernel
theorem dX12_sheet_56 : decode cX12_sheet 56 = .ok (.invokevirtual 37, 3) := by decide +kernel
theorem dX12_sheet_59 : decode cX12_sheet 59 = .ok (.ireturn, 1) := by decide +kernel
theorem dX12_sheet_60 : decode cX12_sheet 60 = .ok (.aload_n 0, 1) := by decide +kernel
theorem dX12_sheet_61 : decode cX12_sheet 61 = .ok (.getfield 25, 3) := by decide +kernel
theorem dX12_sheet_64 : decode cX12_sheet 64 = .ok (.iload_n 1, 1) := by decide +kernel
theorem dX12_sheet_65 : decode cX12_sheet 65 = .ok (.iload_n 2, 1) := by decide +kernel
theorem dX12_sheet_66 : decode cX12_sheet 66 = .ok (.iastore, 1) := by decide +kernel
theorem dX12_sheet_67 : decode cX12_sheet 67 = .ok (.aload_n 0, 1) := by decide +kernel
theorem dX12_sheet_68 : decode cX12_sheet 68 = .ok (.getfield 28, 3) := by decide +kernel
theorem dX12_sheet_71 : decode cX12_sheet 71 = .ok (.iload_n 1, 1) := by decide +kernel
theorem dX12_sheet_72 : decode cX12_sheet 72 = .ok (.iload_n 2, 1) := by decide +kernel
theorem dX12_sheet_73 : decode cX12_sheet 73 = .ok (.ifCond .ne 7, 3) := by decide +kernel
theorem dX12_sheet_76 : decode cX12_sheet 76 = .ok (.iconst 0, 1) := by decide +kernel
theorem dX12_sheet_77 : decode cX12_sheet 77 = .ok (.goto 4, 3) := by decide +kernel
theorem dX12_sheet_80 : decode cX12_sheet 80 = .ok (.iload_n 3, 1) := by decide +kernel
theorem dX12_sheet_81 : decode cX12_sheet 81 = .ok (.iastore, 1) := by decide +kernel
theorem dX12_sheet_82 : decode cX12_sheet 82 = .ok (.iconst 0, 1) := by decide +kernel
theorem dX12_sheet_83 : decode cX12_sheet 83 = .ok (.istore 4, 2) := by decide +kernel
theorem dX12_sheet_85 : decode cX12_sheet 85 = .ok (.iload 4, 2) := by decide +kernel
theorem dX12_sheet_87 : decode cX12_sheet 87 = .ok (.bipush 40, 2) := by decide +kernel
theorem dX12_sheet_89 : decode cX12_sheet 89 = .ok (.if_icmp .ge 22, 3) := by decide +kernel
theorem dX12_sheet_92 : decode cX12_sheet 92 = .ok (.aload_n 0, 1) := by decide +kernel
theorem dX12_sheet_93 : decode cX12_sheet 93 = .ok (.getfield 31, 3) := by decide +kernel
theorem dX12_sheet_96 : decode cX12_sheet 96 = .ok (.bipush 40, 2) := by decide +kernel
theorem dX12_sheet_98 : decode cX12_sheet 98 = .ok (.iload_n 1, 1) := by decide +kernel
theorem dX12_sheet_99 : decode cX12_sheet 99 = .ok (.imul, 1) := by decide +kernel
theorem dX12_sheet_100 : decode cX12_sheet 100 = .ok (.iload 4, 2) := by decide +kernel
theorem dX12_sheet_102 : decode cX12_sheet 102 = .ok (.iadd, 1) := by decide +kernel
theorem dX12_sheet_103 : decode cX12_sheet 103 = .ok (.lconst 0, 1) := by decide +kernel
theorem dX12_sheet_104 : decode cX12_sheet 104 = .ok (.lastore, 1) := by decide +kernel
theorem dX12_sheet_105 : decode cX12_sheet 105 = .ok (.iinc 4 1, 3) := by decide +kernel
theorem dX12_sheet_108 : decode cX12_sheet 108 = .ok (.goto (-23), 3) := by decide +kernel
theorem dX12_sheet_111 : decode cX12_sheet 111 = .ok (.aload_n 0, 1) := by decide +kernel
theorem dX12_sheet_112 : decode cX12_sheet 112 = .ok (.getfield 28, 3) := by decide +kernel
theorem dX12_sheet_115 : decode cX12_sheet 115 = .ok (.iload_n 1, 1) := by decide +kernel
theorem dX12_sheet_116 : decode cX12_sheet 116 = .ok (.iaload, 1) := by decide +kernel
theorem dX12_sheet_117 : decode cX12_sheet 117 = .ok (.ireturn, 1) := by decide +kernel
theorem dX12_notThere_0 : decode cX12_notThere 0 = .ok (.iload_n 1, 1) := by decide +kernel
theorem dX12_notThere_1 : decode cX12_notThere 1 = .ok (.invokestatic 211, 3) := by decide +kernel
theorem dX12_notThere_4 : decode cX12_notThere 4 = .ok (.ifCond .ne 8, 3) := by decide +kernel
theorem dX12_notThere_7 : decode cX12_notThere 7 = .ok (.ldc 35, 2) := by decide +kernel
theorem dX12_notThere_9 : decode cX12_notThere 9 = .ok (.goto 18, 3) := by decide +kernel
theorem dX12_notThere_12 : decode cX12_notThere 12 = .ok (.aload_n 0, 1) := by decide +kernel
theorem dX12_notThere_13 : decode cX12_notThere 13 = .ok (.getfield 25, 3) := by decide +kernel
theorem dX12_notThere_16 : decode cX12_notThere 16 = .ok (.iload_n 1, 1) := by decide +kernel
theorem dX12_notThere_17 : decode cX12_notThere 17 = .ok (.iaload, 1) := by decide +kernel
theorem dX12_notThere_18 : decode cX12_notThere 18 = .ok (.ifCond .ne 8, 3) := by decide +kernel
theorem dX12_notThere_21 : decode cX12_notThere 21 = .ok (.ldc 215, 2) := by decide +kernel
theorem dX12_notThere_23 : decode cX12_notThere 23 = .ok (.goto 4, 3) := by decide +kernel
theorem dX12_notThere_26 : decode cX12_notThere 26 = .ok (.iconst 0, 1) := by decide +kernel
theorem dX12_notThere_27 : decode cX12_notThere 27 = .ok (.ireturn, 1) := by decide +kernel
theorem dX12_cutTo_0 : decode cX12_cutTo 0 = .ok (.iload_n 0, 1) := by decide +kernel
theorem dX12_cutTo_1 : decode cX12_cutTo 1 = .ok (.bipush 8, 2) := by decide +kernel
theorem dX12_cutTo_3 : decode cX12_cutTo 3 = .ok (.if_icmp .ne 10, 3) := by decide +kernel
theorem dX12_cutTo_6 : decode cX12_cutTo 6 = .ok (.lload_n 1, 1) := by decide +kernel
theorem dX12_cutTo_7 : decode cX12_cutTo 7 = .ok (.l2i, 1) := by decide +kernel
theorem dX12_cutTo_8 : decode cX12_cutTo 8 = .ok (.i2b, 1) := by decide +kernel
theorem dX12_cutTo_9 : decode cX12_cutTo 9 = .ok (.i2l, 1) := by decide +kernel
theorem dX12_cutTo_10 : decode cX12_cutTo 10 = .ok (.goto 17, 3) := by decide +kernel
theorem dX12_cutTo_13 : decode cX12_cutTo 13 = .ok (.iload_n 0, 1) := by decide +kernel
theorem dX12_cutTo_14 : decode cX12_cutTo 14 = .ok (.bipush 16, 2) := by decide +kernel
theorem dX12_cutTo_16 : decode cX12_cutTo 16 = .ok (.if_icmp .ne 10, 3) := by decide +kernel
theorem dX12_cutTo_19 : decode cX12_cutTo 19 = .ok (.lload_n 1, 1) := by decide +kernel
theorem dX12_cutTo_20 : decode cX12_cutTo 20 = .ok (.l2i, 1) := by decide +kernel
theorem dX12_cutTo_21 : decode cX12_cutTo 21 = .ok (.i2s, 1) := by decide +kernel
theorem dX12_cutTo_22 : decode cX12_cutTo 22 = .ok (.i2l, 1) := by decide +kernel
theorem dX12_cutTo_23 : decode cX12_cutTo 23 = .ok (.goto 4, 3) := by decide +kernel
theorem dX12_cutTo_26 : decode cX12_cutTo 26 = .ok (.lload_n 1, 1) := by decide +kernel
theorem dX12_cutTo_27 : decode cX12_cutTo 27 = .ok (.lreturn, 1) := by decide +kernel
theorem dX12_write_0 : decode cX12_write 0 = .ok (.aload_n 0, 1) := by decide +kernel
theorem dX12_write_1 : decode cX12_write 1 = .ok (.iload_n 1, 1) := by decide +kernel
theorem dX12_write_2 : decode cX12_write 2 = .ok (.invokevirtual 216, 3) := by decide +kernel
theorem dX12_write_5 : decode cX12_write 5 = .ok (.istore 5, 2) := by decide +kernel
theorem dX12_write_7 : decode cX12_write 7 = .ok (.iload 5, 2) := by decide +kernel
theorem dX12_write_9 : decode cX12_write 9 = .ok (.ifCond .ne 24, 3) := by decide +kernel
theorem dX12_write_12 : decode cX12_write 12 = .ok (.iload_n 2, 1) := by decide +kernel
theorem dX12_write_13 : decode cX12_write 13 = .ok (.i2l, 1) := by decide +kernel
theorem dX12_write_14 : decode cX12_write 14 = .ok (.iconst 0, 1) := by decide +kernel
theorem dX12_write_15 : decode cX12_write 15 = .ok (.aload_n 0, 1) := by decide +kernel
theorem dX12_write_16 : decode cX12_write 16 = .ok (.getfield 28, 3) := by decide +kernel
theorem dX12_write_19 : decode cX12_write 19 = .ok (.iload_n 1, 1) := by decide +kernel
theorem dX12_write_20 : decode cX12_write 20 = .ok (.iaload, 1) := by decide +kernel
theorem dX12_write_21 : decode cX12_write 21 = .ok (.iconst 1, 1) := by decide +kernel
theorem dX12_write_22 : decode cX12_write 22 = .ok (.isub, 1) := by decide +kernel
theorem dX12_write_23 : decode cX12_write 23 = .ok (.invokestatic 41, 3) := by decide +kernel
theorem dX12_write_26 : decode cX12_write 26 = .ok (.ifCond .ne 7, 3) := by decide +kernel
theorem dX12_write_29 : decode cX12_write 29 = .ok (.ldc 35, 2) := by decide +kernel
theorem dX12_write_31 : decode cX12_write 31 = .ok (.istore 5, 2) := by decide +kernel
theorem dX12_write_33 : decode cX12_write 33 = .ok (.iload 5, 2) := by decide +kernel
theorem dX12_write_35 : decode cX12_write 35 = .ok (.ifCond .eq 11, 3) := by decide +kernel
theorem dX12_write_38 : decode cX12_write 38 = .ok (.aload_n 0, 1) := by decide +kernel
theorem dX12_write_39 : decode cX12_write 39 = .ok (.iload 5, 2) := by decide +kernel
theorem dX12_write_41 : decode cX12_write 41 = .ok (.invokevirtual 37, 3) := by decide +kernel
theorem dX12_write_44 : decode cX12_write 44 = .ok (.i2l, 1) := by decide +kernel
theorem dX12_write_45 : decode cX12_write 45 = .ok (.lreturn, 1) := by decide +kernel
theorem dX12_write_46 : decode cX12_write 46 = .ok (.aload_n 0, 1) := by decide +kernel
theorem dX12_write_47 : decode cX12_write 47 = .ok (.getfield 31, 3) := by decide +kernel
theorem dX12_write_50 : decode cX12_write 50 = .ok (.bipush 40, 2) := by decide +kernel
theorem dX12_write_52 : decode cX12_write 52 = .ok (.iload_n 1, 1) := by decide +kernel
theorem dX12_write_53 : decode cX12_write 53 = .ok (.imul, 1) := by decide +kernel
theorem dX12_write_54 : decode cX12_write 54 = .ok (.iload_n 2, 1) := by decide +kernel
theorem dX12_write_55 : decode cX12_write 55 = .ok (.iadd, 1) := by decide +kernel
theorem dX12_write_56 : decode cX12_write 56 = .ok (.laload, 1) := by decide +kernel
theorem dX12_write_57 : decode cX12_write 57 = .ok (.lstore 6, 2) := by decide +kernel
theorem dX12_write_59 : decode cX12_write 59 = .ok (.aload_n 0, 1) := by decide +kernel
theorem dX12_write_60 : decode cX12_write 60 = .ok (.getfield 31, 3) := by decide +kernel
theorem dX12_write_63 : decode cX12_write 63 = .ok (.bipush 40, 2) := by decide +kernel
theorem dX12_write_65 : decode cX12_write 65 = .ok (.iload_n 1, 1) := by decide +kernel
theorem dX12_write_66 : decode cX12_write 66 = .ok (.imul, 1) := by decide +kernel
theorem dX12_write_67 : decode cX12_write 67 = .ok (.iload_n 2, 1) := by decide +kernel
theorem dX12_write_68 : decode cX12_write 68 = .ok (.iadd, 1) := by decide +kernel
theorem dX12_write_69 : decode cX12_write 69 = .ok (.aload_n 0, 1) := by decide +kernel
theorem dX12_write_70 : decode cX12_write 70 = .ok (.getfield 25, 3) := by decide +kernel
theorem dX12_write_73 : decode cX12_write 73 = .ok (.iload_n 1, 1) := by decide +kernel
theorem dX12_write_74 : decode cX12_write 74 = .ok (.iaload, 1) := by decide +kernel
theorem dX12_write_75 : decode cX12_write 75 = .ok (.lload_n 3, 1) := by decide +kernel
theorem dX12_write_76 : decode cX12_write 76 = .ok (.invokestatic 219, 3) := by decide +kernel
theorem dX12_write_79 : decode cX12_write 79 = .ok (.lastore, 1) := by decide +kernel
theorem dX12_write_80 : decode cX12_write 80 = .ok (.lload 6, 2) := by decide +kernel
theorem dX12_write_82 : decode cX12_write 82 = .ok (.lreturn, 1) := by decide +kernel
theorem dX12_notCopied_0 : decode cX12_notCopied 0 = .ok (.iload_n 1, 1) := by decide +kernel
theorem dX12_notCopied_1 : decode cX12_notCopied 1 = .ok (.invokestatic 211, 3) := by decide +kernel
theorem dX12_notCopied_4 : decode cX12_notCopied 4 = .ok (.ifCond .eq 10, 3) := by decide +kernel
theorem dX12_notCopied_7 : decode cX12_notCopied 7 = .ok (.iload_n 3, 1) := by decide +kernel
theorem dX12_notCopied_8 : decode cX12_notCopied 8 = .ok (.invokestatic 211, 3) := by decide +kernel
theorem dX12_notCopied_11 : decode cX12_notCopied 11 = .ok (.ifCond .ne 6, 3) := by decide +kernel
theorem dX12_notCopied_14 : decode cX12_notCopied 14 = .ok (.ldc 35, 2) := by decide +kernel
theorem dX12_notCopied_16 : decode cX12_notCopied 16 = .ok (.ireturn, 1) := by decide +kernel
theorem dX12_notCopied_17 : decode cX12_notCopied 17 = .ok (.aload_n 0, 1) := by decide +kernel
theorem dX12_notCopied_18 : decode cX12_notCopied 18 = .ok (.getfield 25, 3) := by decide +kernel
theorem dX12_notCopied_21 : decode cX12_notCopied 21 = .ok (.iload_n 1, 1) := by decide +kernel
theorem dX12_notCopied_22 : decode cX12_notCopied 22 = .ok (.iaload, 1) := by decide +kernel
theorem dX12_notCopied_23 : decode cX12_notCopied 23 = .ok (.ifCond .eq 12, 3) := by decide +kernel
theorem dX12_notCopied_26 : decode cX12_notCopied 26 = .ok (.aload_n 0, 1) := by decide +kernel
theorem dX12_notCopied_27 : decode cX12_notCopied 27 = .ok (.getfield 25, 3) := by decide +kernel
theorem dX12_notCopied_30 : decode cX12_notCopied 30 = .ok (.iload_n 3, 1) := by decide +kernel
theorem dX12_notCopied_31 : decode cX12_notCopied 31 = .ok (.iaload, 1) := by decide +kernel
theorem dX12_notCopied_32 : decode cX12_notCopied 32 = .ok (.ifCond .ne 6, 3) := by decide +kernel
theorem dX12_notCopied_35 : decode cX12_notCopied 35 = .ok (.ldc 215, 2) := by decide +kernel
theorem dX12_notCopied_37 : decode cX12_notCopied 37 = .ok (.ireturn, 1) := by decide +kernel
theorem dX12_notCopied_38 : decode cX12_notCopied 38 = .ok (.aload_n 0, 1) := by decide +kernel
theorem dX12_notCopied_39 : decode cX12_notCopied 39 = .ok (.getfield 25, 3) := by decide +kernel
theorem dX12_notCopied_42 : decode cX12_notCopied 42 = .ok (.iload_n 1, 1) := by decide +kernel
theorem dX12_notCopied_43 : decode cX12_notCopied 43 = .ok (.iaload, 1) := by decide +kernel
theorem dX12_notCopied_44 : decode cX12_notCopied 44 = .ok (.aload_n 0, 1) := by decide +kernel
theorem dX12_notCopied_45 : decode cX12_notCopied 45 = .ok (.getfield 25, 3) := by decide +kernel
theorem dX12_notCopied_48 : decode cX12_notCopied 48 = .ok (.iload_n 3, 1) := by decide +kernel
theorem dX12_notCopied_49 : decode cX12_notCopied 49 = .ok (.iaload, 1) := by decide +kernel
theorem dX12_notCopied_50 : decode cX12_notCopied 50 = .ok (.if_icmp .eq 6, 3) := by decide +kernel
theorem dX12_notCopied_53 : decode cX12_notCopied 53 = .ok (.ldc 115, 2) := by decide +kernel
theorem dX12_notCopied_55 : decode cX12_notCopied 55 = .ok (.ireturn, 1) := by decide +kernel
theorem dX12_notCopied_56 : decode cX12_notCopied 56 = .ok (.iload 5, 2) := by decide +kernel
theorem dX12_notCopied_58 : decode cX12_notCopied 58 = .ok (.ifCond .lt 43, 3) := by decide +kernel
theorem dX12_notCopied_61 : decode cX12_notCopied 61 = .ok (.iload_n 2, 1) := by decide +kernel
theorem dX12_notCopied_62 : decode cX12_notCopied 62 = .ok (.ifCond .lt 39, 3) := by decide +kernel
theorem dX12_notCopied_65 : decode cX12_notCopied 65 = .ok (.iload 4, 2) := by decide +kernel
theorem dX12_notCopied_67 : decode cX12_notCopied 67 = .ok (.ifCond .lt 34, 3) := by decide +kernel
theorem dX12_notCopied_70 : decode cX12_notCopied 70 = .ok (.iload 5, 2) := by decide +kernel
theorem dX12_notCopied_72 : decode cX12_notCopied 72 = .ok (.aload_n 0, 1) := by decide +kernel
theorem dX12_notCopied_73 : decode cX12_notCopied 73 = .ok (.getfield 28, 3) := by decide +kernel
theorem dX12_notCopied_76 : decode cX12_notCopied 76 = .ok (.iload_n 1, 1) := by decide +kernel
theorem dX12_notCopied_77 : decode cX12_notCopied 77 = .ok (.iaload, 1) := by decide +kernel
theorem dX12_notCopied_78 : decode cX12_notCopied 78 = .ok (.iload_n 2, 1) := by decide +kernel
theorem dX12_notCopied_79 : decode cX12_notCopied 79 = .ok (.isub, 1) := by decide +kernel
theorem dX12_notCopied_80 : decode cX12_notCopied 80 = .ok (.if_icmp .gt 21, 3) := by decide +kernel
theorem dX12_notCopied_83 : decode cX12_notCopied 83 = .ok (.iload 5, 2) := by decide +kernel
theorem dX12_notCopied_85 : decode cX12_notCopied 85 = .ok (.aload_n 0, 1) := by decide +kernel
theorem dX12_notCopied_86 : decode cX12_notCopied 86 = .ok (.getfield 28, 3) := by decide +kernel
theorem dX12_notCopied_89 : decode cX12_notCopied 89 = .ok (.iload_n 3, 1) := by decide +kernel
theorem dX12_notCopied_90 : decode cX12_notCopied 90 = .ok (.iaload, 1) := by decide +kernel
theorem dX12_notCopied_91 : decode cX12_notCopied 91 = .ok (.iload 4, 2) := by decide +kernel
theorem dX12_notCopied_93 : decode cX12_notCopied 93 = .ok (.isub, 1) := by decide +kernel
theorem dX12_notCopied_94 : decode cX12_notCopied 94 = .ok (.if_icmp .gt 7, 3) := by decide +kernel
theorem dX12_notCopied_97 : decode cX12_notCopied 97 = .ok (.iconst 1, 1) := by decide +kernel
theorem dX12_notCopied_98 : decode cX12_notCopied 98 = .ok (.goto 4, 3) := by decide +kernel
theorem dX12_notCopied_101 : decode cX12_notCopied 101 = .ok (.iconst 0, 1) := by decide +kernel
theorem dX12_notCopied_102 : decode cX12_notCopied 102 = .ok (.istore 6, 2) := by decide +kernel
theorem dX12_notCopied_104 : decode cX12_notCopied 104 = .ok (.iload 6, 2) := by decide +kernel
theorem dX12_notCopied_106 : decode cX12_notCopied 106 = .ok (.ifCond .eq 7, 3) := by decide +kernel
theorem dX12_notCopied_109 : decode cX12_notCopied 109 = .ok (.iconst 0, 1) := by decide +kernel
theorem dX12_notCopied_110 : decode cX12_notCopied 110 = .ok (.goto 5, 3) := by decide +kernel
theorem dX12_notCopied_113 : decode cX12_notCopied 113 = .ok (.ldc 35, 2) := by decide +kernel
theorem dX12_notCopied_115 : decode cX12_notCopied 115 = .ok (.ireturn, 1) := by decide +kernel
theorem dX12_copy_0 : decode cX12_copy 0 = .ok (.aload_n 0, 1) := by decide +kernel
theorem dX12_copy_1 : decode cX12_copy 1 = .ok (.iload_n 1, 1) := by decide +kernel
theorem dX12_copy_2 : decode cX12_copy 2 = .ok (.iload_n 2, 1) := by decide +kernel
theorem dX12_copy_3 : decode cX12_copy 3 = .ok (.iload_n 3, 1) := by decide +kernel
theorem dX12_copy_4 : decode cX12_copy 4 = .ok (.iload 4, 2) := by decide +kernel
theorem dX12_copy_6 : decode cX12_copy 6 = .ok (.iload 5, 2) := by decide +kernel
theorem dX12_copy_8 : decode cX12_copy 8 = .ok (.invokevirtual 223, 3) := by decide +kernel
theorem dX12_copy_11 : decode cX12_copy 11 = .ok (.istore 6, 2) := by decide +kernel
theorem dX12_copy_13 : decode cX12_copy 13 = .ok (.iload 6, 2) := by decide +kernel
theorem dX12_copy_15 : decode cX12_copy 15 = .ok (.ifCond .eq 10, 3) := by decide +kernel
theorem dX12_copy_18 : decode cX12_copy 18 = .ok (.aload_n 0, 1) := by decide +kernel
theorem dX12_copy_19 : decode cX12_copy 19 = .ok (.iload 6, 2) := by decide +kernel
theorem dX12_copy_21 : decode cX12_copy 21 = .ok (.invokevirtual 37, 3) := by decide +kernel
theorem dX12_copy_24 : decode cX12_copy 24 = .ok (.ireturn, 1) := by decide +kernel
theorem dX12_copy_25 : decode cX12_copy 25 = .ok (.iconst 0, 1) := by decide +kernel
theorem dX12_copy_26 : decode cX12_copy 26 = .ok (.istore 7, 2) := by decide +kernel
theorem dX12_copy_28 : decode cX12_copy 28 = .ok (.iload 7, 2) := by decide +kernel
theorem dX12_copy_30 : decode cX12_copy 30 = .ok (.iload 5, 2) := by decide +kernel
theorem dX12_copy_32 : decode cX12_copy 32 = .ok (.if_icmp .ge 58, 3) := by decide +kernel
theorem dX12_copy_35 : decode cX12_copy 35 = .ok (.iload_n 2, 1) := by decide +kernel
theorem dX12_copy_36 : decode cX12_copy 36 = .ok (.iload 4, 2) := by decide +kernel
theorem dX12_copy_38 : decode cX12_copy 38 = .ok (.if_icmp .ge 13, 3) := by decide +kernel
theorem dX12_copy_41 : decode cX12_copy 41 = .ok (.iload 5, 2) := by decide +kernel
theorem dX12_copy_43 : decode cX12_copy 43 = .ok (.iconst 1, 1) := by decide +kernel
theorem dX12_copy_44 : decode cX12_copy 44 = .ok (.isub, 1) := by decide +kernel
theorem dX12_copy_45 : decode cX12_copy 45 = .ok (.iload 7, 2) := by decide +kernel
theorem dX12_copy_47 : decode cX12_copy 47 = .ok (.isub, 1) := by decide +kernel
theorem dX12_copy_48 : decode cX12_copy 48 = .ok (.goto 5, 3) := by decide +kernel
theorem dX12_copy_51 : decode cX12_copy 51 = .ok (.iload 7, 2) := by decide +kernel
theorem dX12_copy_53 : decode cX12_copy 53 = .ok (.istore 8, 2) := by decide +kernel
theorem dX12_copy_55 : decode cX12_copy 55 = .ok (.aload_n 0, 1) := by decide +kernel
theorem dX12_copy_56 : decode cX12_copy 56 = .ok (.getfield 31, 3) := by decide +kernel
theorem dX12_copy_59 : decode cX12_copy 59 = .ok (.bipush 40, 2) := by decide +kernel
theorem dX12_copy_61 : decode cX12_copy 61 = .ok (.iload_n 3, 1) := by decide +kernel
theorem dX12_copy_62 : decode cX12_copy 62 = .ok (.imul, 1) := by decide +kernel
theorem dX12_copy_63 : decode cX12_copy 63 = .ok (.iload 4, 2) := by decide +kernel
theorem dX12_copy_65 : decode cX12_copy 65 = .ok (.iadd, 1) := by decide +kernel
theorem dX12_copy_66 : decode cX12_copy 66 = .ok (.iload 8, 2) := by decide +kernel
theorem dX12_copy_68 : decode cX12_copy 68 = .ok (.iadd, 1) := by decide +kernel
theorem dX12_copy_69 : decode cX12_copy 69 = .ok (.aload_n 0, 1) := by decide +kernel
theorem dX12_copy_70 : decode cX12_copy 70 = .ok (.getfield 31, 3) := by decide +kernel
theorem dX12_copy_73 : decode cX12_copy 73 = .ok (.bipush 40, 2) := by decide +kernel
theorem dX12_copy_75 : decode cX12_copy 75 = .ok (.iload_n 1, 1) := by decide +kernel
theorem dX12_copy_76 : decode cX12_copy 76 = .ok (.imul, 1) := by decide +kernel
theorem dX12_copy_77 : decode cX12_copy 77 = .ok (.iload_n 2, 1) := by decide +kernel
theorem dX12_copy_78 : decode cX12_copy 78 = .ok (.iadd, 1) := by decide +kernel
theorem dX12_copy_79 : decode cX12_copy 79 = .ok (.iload 8, 2) := by decide +kernel
theorem dX12_copy_81 : decode cX12_copy 81 = .ok (.iadd, 1) := by decide +kernel
theorem dX12_copy_82 : decode cX12_copy 82 = .ok (.laload, 1) := by decide +kernel
theorem dX12_copy_83 : decode cX12_copy 83 = .ok (.lastore, 1) := by decide +kernel
theorem dX12_copy_84 : decode cX12_copy 84 = .ok (.iinc 7 1, 3) := by decide +kernel
theorem dX12_copy_87 : decode cX12_copy 87 = .ok (.goto (-59), 3) := by decide +kernel
theorem dX12_copy_90 : decode cX12_copy 90 = .ok (.iload 5, 2) := by decide +kernel
theorem dX12_copy_92 : decode cX12_copy 92 = .ok (.ireturn, 1) := by decide +kernel
theorem dX12_lays_0 : decode cX12_lays 0 = .ok (.aload_n 0, 1) := by decide +kernel
theorem dX12_lays_1 : decode cX12_lays 1 = .ok (.iload_n 1, 1) := by decide +kernel
theorem dX12_lays_2 : decode cX12_lays 2 = .ok (.invokevirtual 216, 3) := by decide +kernel
theorem dX12_lays_5 : decode cX12_lays 5 = .ok (.istore_n 3, 1) := by decide +kernel
theorem dX12_lays_6 : decode cX12_lays 6 = .ok (.iload_n 3, 1) := by decide +kernel
theorem dX12_lays_7 : decode cX12_lays 7 = .ok (.ifCond .ne 16, 3) := by decide +kernel
theorem dX12_lays_10 : decode cX12_lays 10 = .ok (.aload_n 0, 1) := by decide +kernel
theorem dX12_lays_11 : decode cX12_lays 11 = .ok (.iload_n 2, 1) := by decide +kernel
theorem dX12_lays_12 : decode cX12_lays 12 = .ok (.invokevirtual 100, 3) := by decide +kernel
theorem dX12_lays_15 : decode cX12_lays 15 = .ok (.ifCond .ne 8, 3) := by decide +kernel
theorem dX12_lays_18 : decode cX12_lays 18 = .ok (.ldc 35, 2) := by decide +kernel
theorem dX12_lays_20 : decode cX12_lays 20 = .ok (.goto 4, 3) := by decide +kernel
theorem dX12_lays_23 : decode cX12_lays 23 = .ok (.iload_n 3, 1) := by decide +kernel
theorem dX12_lays_24 : decode cX12_lays 24 = .ok (.istore_n 3, 1) := by decide +kernel
theorem dX12_lays_25 : decode cX12_lays 25 = .ok (.iload_n 3, 1) := by decide +kernel
theorem dX12_lays_26 : decode cX12_lays 26 = .ok (.ifCond .eq 9, 3) := by decide +kernel
theorem dX12_lays_29 : decode cX12_lays 29 = .ok (.aload_n 0, 1) := by decide +kernel
theorem dX12_lays_30 : decode cX12_lays 30 = .ok (.iload_n 3, 1) := by decide +kernel
theorem dX12_lays_31 : decode cX12_lays 31 = .ok (.invokevirtual 37, 3) := by decide +kernel
theorem dX12_lays_34 : decode cX12_lays 34 = .ok (.ireturn, 1) := by decide +kernel
theorem dX12_lays_35 : decode cX12_lays 35 = .ok (.iconst 0, 1) := by decide +kernel
theorem dX12_lays_36 : decode cX12_lays 36 = .ok (.istore 4, 2) := by decide +kernel
theorem dX12_lays_38 : decode cX12_lays 38 = .ok (.iconst 0, 1) := by decide +kernel
theorem dX12_lays_39 : decode cX12_lays 39 = .ok (.istore 5, 2) := by decide +kernel
theorem dX12_lays_41 : decode cX12_lays 41 = .ok (.iload 5, 2) := by decide +kernel
theorem dX12_lays_43 : decode cX12_lays 43 = .ok (.aload_n 0, 1) := by decide +kernel
theorem dX12_lays_44 : decode cX12_lays 44 = .ok (.getfield 28, 3) := by decide +kernel
theorem dX12_lays_47 : decode cX12_lays 47 = .ok (.iload_n 1, 1) := by decide +kernel
theorem dX12_lays_48 : decode cX12_lays 48 = .ok (.iaload, 1) := by decide +kernel
theorem dX12_lays_49 : decode cX12_lays 49 = .ok (.if_icmp .ge 69, 3) := by decide +kernel
theorem dX12_lays_52 : decode cX12_lays 52 = .ok (.iload 5, 2) := by decide +kernel
theorem dX12_lays_54 : decode cX12_lays 54 = .ok (.bipush 10, 2) := by decide +kernel
theorem dX12_lays_56 : decode cX12_lays 56 = .ok (.if_icmp .ge 62, 3) := by decide +kernel
theorem dX12_lays_59 : decode cX12_lays 59 = .ok (.aload_n 0, 1) := by decide +kernel
theorem dX12_lays_60 : decode cX12_lays 60 = .ok (.getfield 31, 3) := by decide +kernel
theorem dX12_lays_63 : decode cX12_lays 63 = .ok (.bipush 40, 2) := by decide +kernel
theorem dX12_lays_65 : decode cX12_lays 65 = .ok (.iload_n 1, 1) := by decide +kernel
theorem dX12_lays_66 : decode cX12_lays 66 = .ok (.imul, 1) := by decide +kernel
theorem dX12_lays_67 : decode cX12_lays 67 = .ok (.iload 5, 2) := by decide +kernel
theorem dX12_lays_69 : decode cX12_lays 69 = .ok (.iadd, 1) := by decide +kernel
theorem dX12_lays_70 : decode cX12_lays 70 = .ok (.laload, 1) := by decide +kernel
theorem dX12_lays_71 : decode cX12_lays 71 = .ok (.iconst 0, 1) := by decide +kernel
theorem dX12_lays_72 : decode cX12_lays 72 = .ok (.iconst 5, 1) := by decide +kernel
theorem dX12_lays_73 : decode cX12_lays 73 = .ok (.invokestatic 41, 3) := by decide +kernel
theorem dX12_lays_76 : decode cX12_lays 76 = .ok (.ifCond .eq 36, 3) := by decide +kernel
theorem dX12_lays_79 : decode cX12_lays 79 = .ok (.aload_n 0, 1) := by decide +kernel
theorem dX12_lays_80 : decode cX12_lays 80 = .ok (.getfield 9, 3) := by decide +kernel
theorem dX12_lays_83 : decode cX12_lays 83 = .ok (.bipush 34, 2) := by decide +kernel
theorem dX12_lays_85 : decode cX12_lays 85 = .ok (.bipush 12, 2) := by decide +kernel
theorem dX12_lays_87 : decode cX12_lays 87 = .ok (.iload_n 2, 1) := by decide +kernel
theorem dX12_lays_88 : decode cX12_lays 88 = .ok (.imul, 1) := by decide +kernel
theorem dX12_lays_89 : decode cX12_lays 89 = .ok (.iadd, 1) := by decide +kernel
theorem dX12_lays_90 : decode cX12_lays 90 = .ok (.iconst 2, 1) := by decide +kernel
theorem dX12_lays_91 : decode cX12_lays 91 = .ok (.iadd, 1) := by decide +kernel
theorem dX12_lays_92 : decode cX12_lays 92 = .ok (.iload 5, 2) := by decide +kernel
theorem dX12_lays_94 : decode cX12_lays 94 = .ok (.iadd, 1) := by decide +kernel
theorem dX12_lays_95 : decode cX12_lays 95 = .ok (.aload_n 0, 1) := by decide +kernel
theorem dX12_lays_96 : decode cX12_lays 96 = .ok (.getfield 31, 3) := by decide +kernel
theorem dX12_lays_99 : decode cX12_lays 99 = .ok (.bipush 40, 2) := by decide +kernel
theorem dX12_lays_101 : decode cX12_lays 101 = .ok (.iload_n 1, 1) := by decide +kernel
theorem dX12_lays_102 : decode cX12_lays 102 = .ok (.imul, 1) := by decide +kernel
theorem dX12_lays_103 : decode cX12_lays 103 = .ok (.iload 5, 2) := by decide +kernel
theorem dX12_lays_105 : decode cX12_lays 105 = .ok (.iadd, 1) := by decide +kernel
theorem dX12_lays_106 : decode cX12_lays 106 = .ok (.laload, 1) := by decide +kernel
theorem dX12_lays_107 : decode cX12_lays 107 = .ok (.l2i, 1) := by decide +kernel
theorem dX12_lays_108 : decode cX12_lays 108 = .ok (.iastore, 1) := by decide +kernel
theorem dX12_lays_109 : decode cX12_lays 109 = .ok (.iinc 4 1, 3) := by decide +kernel
theorem dX12_lays_112 : decode cX12_lays 112 = .ok (.iinc 5 1, 3) := by decide +kernel
theorem dX12_lays_115 : decode cX12_lays 115 = .ok (.goto (-74), 3) := by decide +kernel
theorem dX12_lays_118 : decode cX12_lays 118 = .ok (.iload 4, 2) := by decide +kernel
theorem dX12_lays_120 : decode cX12_lays 120 = .ok (.ireturn, 1) := by decide +kernel
theorem dX12_book_0 : decode cX12_book 0 = .ok (.aload_n 0, 1) := by decide +kernel
theorem dX12_book_1 : decode cX12_book 1 = .ok (.iload_n 1, 1) := by decide +kernel
theorem dX12_book_2 : decode cX12_book 2 = .ok (.invokevirtual 216, 3) := by decide +kernel
theorem dX12_book_5 : decode cX12_book 5 = .ok (.istore_n 3, 1) := by decide +kernel
theorem dX12_book_6 : decode cX12_book 6 = .ok (.iload_n 3, 1) := by decide +kernel
theorem dX12_book_7 : decode cX12_book 7 = .ok (.ifCond .ne 16, 3) := by decide +kernel
theorem dX12_book_10 : decode cX12_book 10 = .ok (.aload_n 0, 1) := by decide +kernel
theorem dX12_book_11 : decode cX12_book 11 = .ok (.iload_n 2, 1) := by decide +kernel
theorem dX12_book_12 : decode cX12_book 12 = .ok (.invokevirtual 74, 3) := by decide +kernel
theorem dX12_book_15 : decode cX12_book 15 = .ok (.ifCond .ne 8, 3) := by decide +kernel
theorem dX12_book_18 : decode cX12_book 18 = .ok (.ldc 35, 2) := by decide +kernel
theorem dX12_book_20 : decode cX12_book 20 = .ok (.goto 4, 3) := by decide +kernel
theorem dX12_book_23 : decode cX12_book 23 = .ok (.iload_n 3, 1) := by decide +kernel
theorem dX12_book_24 : decode cX12_book 24 = .ok (.istore_n 3, 1) := by decide +kernel
theorem dX12_book_25 : decode cX12_book 25 = .ok (.iload_n 3, 1) := by decide +kernel
theorem dX12_book_26 : decode cX12_book 26 = .ok (.ifCond .eq 9, 3) := by decide +kernel
theorem dX12_book_29 : decode cX12_book 29 = .ok (.aload_n 0, 1) := by decide +kernel
theorem dX12_book_30 : decode cX12_book 30 = .ok (.iload_n 3, 1) := by decide +kernel
theorem dX12_book_31 : decode cX12_book 31 = .ok (.invokevirtual 37, 3) := by decide +kernel
theorem dX12_book_34 : decode cX12_book 34 = .ok (.ireturn, 1) := by decide +kernel
theorem dX12_book_35 : decode cX12_book 35 = .ok (.aload_n 0, 1) := by decide +kernel
theorem dX12_book_36 : decode cX12_book 36 = .ok (.invokevirtual 146, 3) := by decide +kernel
theorem dX12_book_39 : decode cX12_book 39 = .ok (.iconst 0, 1) := by decide +kernel
theorem dX12_book_40 : decode cX12_book 40 = .ok (.istore 4, 2) := by decide +kernel
theorem dX12_book_42 : decode cX12_book 42 = .ok (.iload 4, 2) := by decide +kernel
theorem dX12_book_44 : decode cX12_book 44 = .ok (.aload_n 0, 1) := by decide +kernel
theorem dX12_book_45 : decode cX12_book 45 = .ok (.getfield 28, 3) := by decide +kernel
theorem dX12_book_48 : decode cX12_book 48 = .ok (.iload_n 1, 1) := by decide +kernel
theorem dX12_book_49 : decode cX12_book 49 = .ok (.iaload, 1) := by decide +kernel
theorem dX12_book_50 : decode cX12_book 50 = .ok (.if_icmp .ge 41, 3) := by decide +kernel
theorem dX12_book_53 : decode cX12_book 53 = .ok (.aload_n 0, 1) := by decide +kernel
theorem dX12_book_54 : decode cX12_book 54 = .ok (.getfield 31, 3) := by decide +kernel
theorem dX12_book_57 : decode cX12_book 57 = .ok (.bipush 40, 2) := by decide +kernel
theorem dX12_book_59 : decode cX12_book 59 = .ok (.iload_n 1, 1) := by decide +kernel
theorem dX12_book_60 : decode cX12_book 60 = .ok (.imul, 1) := by decide +kernel
theorem dX12_book_61 : decode cX12_book 61 = .ok (.iload 4, 2) := by decide +kernel
theorem dX12_book_63 : decode cX12_book 63 = .ok (.iadd, 1) := by decide +kernel
theorem dX12_book_64 : decode cX12_book 64 = .ok (.aload_n 0, 1) := by decide +kernel
theorem dX12_book_65 : decode cX12_book 65 = .ok (.getfield 25, 3) := by decide +kernel
theorem dX12_book_68 : decode cX12_book 68 = .ok (.iload_n 1, 1) := by decide +kernel
theorem dX12_book_69 : decode cX12_book 69 = .ok (.iaload, 1) := by decide +kernel
theorem dX12_book_70 : decode cX12_book 70 = .ok (.aload_n 0, 1) := by decide +kernel
theorem dX12_book_71 : decode cX12_book 71 = .ok (.iload_n 2, 1) := by decide +kernel
theorem dX12_book_72 : decode cX12_book 72 = .ok (.iconst 0, 1) := by decide +kernel
theorem dX12_book_73 : decode cX12_book 73 = .ok (.invokevirtual 49, 3) := by decide +kernel
theorem dX12_book_76 : decode cX12_book 76 = .ok (.i2l, 1) := by decide +kernel
theorem dX12_book_77 : decode cX12_book 77 = .ok (.invokestatic 219, 3) := by decide +kernel
theorem dX12_book_80 : decode cX12_book 80 = .ok (.lastore, 1) := by decide +kernel
theorem dX12_book_81 : decode cX12_book 81 = .ok (.aload_n 0, 1) := by decide +kernel
theorem dX12_book_82 : decode cX12_book 82 = .ok (.invokevirtual 134, 3) := by decide +kernel
theorem dX12_book_85 : decode cX12_book 85 = .ok (.iinc 4 1, 3) := by decide +kernel
theorem dX12_book_88 : decode cX12_book 88 = .ok (.goto (-46), 3) := by decide +kernel
theorem dX12_book_91 : decode cX12_book 91 = .ok (.aload_n 0, 1) := by decide +kernel
theorem dX12_book_92 : decode cX12_book 92 = .ok (.invokevirtual 149, 3) := by decide +kernel
theorem dX12_book_95 : decode cX12_book 95 = .ok (.aload_n 0, 1) := by decide +kernel
theorem dX12_book_96 : decode cX12_book 96 = .ok (.getfield 28, 3) := by decide +kernel
theorem dX12_book_99 : decode cX12_book 99 = .ok (.iload_n 1, 1) := by decide +kernel
theorem dX12_book_100 : decode cX12_book 100 = .ok (.iaload, 1) := by decide +kernel
theorem dX12_book_101 : decode cX12_book 101 = .ok (.ireturn, 1) := by decide +kernel
theorem dX12_isBook_0 : decode cX12_isBook 0 = .ok (.iconst 1, 1) := by decide +kernel
theorem dX12_isBook_1 : decode cX12_isBook 1 = .ok (.istore_n 3, 1) := by decide +kernel
theorem dX12_isBook_2 : decode cX12_isBook 2 = .ok (.iconst 0, 1) := by decide +kernel
theorem dX12_isBook_3 : decode cX12_isBook 3 = .ok (.istore 4, 2) := by decide +kernel
theorem dX12_isBook_5 : decode cX12_isBook 5 = .ok (.iload 4, 2) := by decide +kernel
theorem dX12_isBook_7 : decode cX12_isBook 7 = .ok (.aload_n 0, 1) := by decide +kernel
theorem dX12_isBook_8 : decode cX12_isBook 8 = .ok (.getfield 28, 3) := by decide +kernel
theorem dX12_isBook_11 : decode cX12_isBook 11 = .ok (.iload_n 1, 1) := by decide +kernel
theorem dX12_isBook_12 : decode cX12_isBook 12 = .ok (.iaload, 1) := by decide +kernel
theorem dX12_isBook_13 : decode cX12_isBook 13 = .ok (.if_icmp .ge 46, 3) := by decide +kernel
theorem dX12_isBook_16 : decode cX12_isBook 16 = .ok (.iload_n 3, 1) := by decide +kernel
theorem dX12_isBook_17 : decode cX12_isBook 17 = .ok (.ifCond .eq 42, 3) := by decide +kernel
theorem dX12_isBook_20 : decode cX12_isBook 20 = .ok (.aload_n 0, 1) := by decide +kernel
theorem dX12_isBook_21 : decode cX12_isBook 21 = .ok (.getfield 31, 3) := by decide +kernel
theorem dX12_isBook_24 : decode cX12_isBook 24 = .ok (.bipush 40, 2) := by decide +kernel
theorem dX12_isBook_26 : decode cX12_isBook 26 = .ok (.iload_n 1, 1) := by decide +kernel
theorem dX12_isBook_27 : decode cX12_isBook 27 = .ok (.imul, 1) := by decide +kernel
theorem dX12_isBook_28 : decode cX12_isBook 28 = .ok (.iload 4, 2) := by decide +kernel
theorem dX12_isBook_30 : decode cX12_isBook 30 = .ok (.iadd, 1) := by decide +kernel
theorem dX12_isBook_31 : decode cX12_isBook 31 = .ok (.laload, 1) := by decide +kernel
theorem dX12_isBook_32 : decode cX12_isBook 32 = .ok (.aload_n 0, 1) := by decide +kernel
theorem dX12_isBook_33 : decode cX12_isBook 33 = .ok (.iload_n 2, 1) := by decide +kernel
theorem dX12_isBook_34 : decode cX12_isBook 34 = .ok (.iconst 0, 1) := by decide +kernel
theorem dX12_isBook_35 : decode cX12_isBook 35 = .ok (.invokevirtual 49, 3) := by decide +kernel
theorem dX12_isBook_38 : decode cX12_isBook 38 = .ok (.i2l, 1) := by decide +kernel
theorem dX12_isBook_39 : decode cX12_isBook 39 = .ok (.lcmp, 1) := by decide +kernel
theorem dX12_isBook_40 : decode cX12_isBook 40 = .ok (.ifCond .ne 7, 3) := by decide +kernel
theorem dX12_isBook_43 : decode cX12_isBook 43 = .ok (.iconst 1, 1) := by decide +kernel
theorem dX12_isBook_44 : decode cX12_isBook 44 = .ok (.goto 4, 3) := by decide +kernel
theorem dX12_isBook_47 : decode cX12_isBook 47 = .ok (.iconst 0, 1) := by decide +kernel
theorem dX12_isBook_48 : decode cX12_isBook 48 = .ok (.istore_n 3, 1) := by decide +kernel
theorem dX12_isBook_49 : decode cX12_isBook 49 = .ok (.aload_n 0, 1) := by decide +kernel
theorem dX12_isBook_50 : decode cX12_isBook 50 = .ok (.invokevirtual 134, 3) := by decide +kernel
theorem dX12_isBook_53 : decode cX12_isBook 53 = .ok (.iinc 4 1, 3) := by decide +kernel
theorem dX12_isBook_56 : decode cX12_isBook 56 = .ok (.goto (-51), 3) := by decide +kernel
theorem dX12_isBook_59 : decode cX12_isBook 59 = .ok (.aload_n 0, 1) := by decide +kernel
theorem dX12_isBook_60 : decode cX12_isBook 60 = .ok (.invokevirtual 149, 3) := by decide +kernel
theorem dX12_isBook_63 : decode cX12_isBook 63 = .ok (.iload_n 3, 1) := by decide +kernel
theorem dX12_isBook_64 : decode cX12_isBook 64 = .ok (.ireturn, 1) := by decide +kernel
theorem dX12_read_0 : decode cX12_read 0 = .ok (.aload_n 0, 1) := by decide +kernel
theorem dX12_read_1 : decode cX12_read 1 = .ok (.iload_n 1, 1) := by decide +kernel
theorem dX12_read_2 : decode cX12_read 2 = .ok (.invokevirtual 216, 3) := by decide +kernel
theorem dX12_read_5 : decode cX12_read 5 = .ok (.istore 4, 2) := by decide +kernel
theorem dX12_read_7 : decode cX12_read 7 = .ok (.iload 4, 2) := by decide +kernel
theorem dX12_read_9 : decode cX12_read 9 = .ok (.ifCond .ne 24, 3) := by decide +kernel
theorem dX12_read_12 : decode cX12_read 12 = .ok (.aload_n 0, 1) := by decide +kernel
theorem dX12_read_13 : decode cX12_read 13 = .ok (.iload_n 2, 1) := by decide +kernel
theorem dX12_read_14 : decode cX12_read 14 = .ok (.invokevirtual 74, 3) := by decide +kernel
theorem dX12_read_17 : decode cX12_read 17 = .ok (.ifCond .eq 11, 3) := by decide +kernel
theorem dX12_read_20 : decode cX12_read 20 = .ok (.aload_n 0, 1) := by decide +kernel
theorem dX12_read_21 : decode cX12_read 21 = .ok (.iload_n 3, 1) := by decide +kernel
theorem dX12_read_22 : decode cX12_read 22 = .ok (.invokevirtual 100, 3) := by decide +kernel
theorem dX12_read_25 : decode cX12_read 25 = .ok (.ifCond .ne 8, 3) := by decide +kernel
theorem dX12_read_28 : decode cX12_read 28 = .ok (.ldc 35, 2) := by decide +kernel
theorem dX12_read_30 : decode cX12_read 30 = .ok (.goto 5, 3) := by decide +kernel
theorem dX12_read_33 : decode cX12_read 33 = .ok (.iload 4, 2) := by decide +kernel
theorem dX12_read_35 : decode cX12_read 35 = .ok (.istore 4, 2) := by decide +kernel
theorem dX12_read_37 : decode cX12_read 37 = .ok (.iload 4, 2) := by decide +kernel
theorem dX12_read_39 : decode cX12_read 39 = .ok (.ifCond .eq 10, 3) := by decide +kernel
theorem dX12_read_42 : decode cX12_read 42 = .ok (.aload_n 0, 1) := by decide +kernel
theorem dX12_read_43 : decode cX12_read 43 = .ok (.iload 4, 2) := by decide +kernel
theorem dX12_read_45 : decode cX12_read 45 = .ok (.invokevirtual 37, 3) := by decide +kernel
theorem dX12_read_48 : decode cX12_read 48 = .ok (.ireturn, 1) := by decide +kernel
theorem dX12_read_49 : decode cX12_read 49 = .ok (.aload_n 0, 1) := by decide +kernel
theorem dX12_read_50 : decode cX12_read 50 = .ok (.invokevirtual 146, 3) := by decide +kernel
theorem dX12_read_53 : decode cX12_read 53 = .ok (.iconst 0, 1) := by decide +kernel
theorem dX12_read_54 : decode cX12_read 54 = .ok (.istore 5, 2) := by decide +kernel
theorem dX12_read_56 : decode cX12_read 56 = .ok (.iconst 0, 1) := by decide +kernel
theorem dX12_read_57 : decode cX12_read 57 = .ok (.istore 6, 2) := by decide +kernel
theorem dX12_read_59 : decode cX12_read 59 = .ok (.iload 6, 2) := by decide +kernel
theorem dX12_read_61 : decode cX12_read 61 = .ok (.bipush 36, 2) := by decide +kernel
theorem dX12_read_63 : decode cX12_read 63 = .ok (.if_icmp .ge 66, 3) := by decide +kernel
theorem dX12_read_66 : decode cX12_read 66 = .ok (.aload_n 0, 1) := by decide +kernel
theorem dX12_read_67 : decode cX12_read 67 = .ok (.getfield 9, 3) := by decide +kernel
theorem dX12_read_70 : decode cX12_read 70 = .ok (.bipush 34, 2) := by decide +kernel
theorem dX12_read_72 : decode cX12_read 72 = .ok (.bipush 12, 2) := by decide +kernel
theorem dX12_read_74 : decode cX12_read 74 = .ok (.iload_n 3, 1) := by decide +kernel
theorem dX12_read_75 : decode cX12_read 75 = .ok (.imul, 1) := by decide +kernel
theorem dX12_read_76 : decode cX12_read 76 = .ok (.iadd, 1) := by decide +kernel
theorem dX12_read_77 : decode cX12_read 77 = .ok (.iload 6, 2) := by decide +kernel
theorem dX12_read_79 : decode cX12_read 79 = .ok (.bipush 6, 2) := by decide +kernel
theorem dX12_read_81 : decode cX12_read 81 = .ok (.idiv, 1) := by decide +kernel
theorem dX12_read_82 : decode cX12_read 82 = .ok (.iastore, 1) := by decide +kernel
theorem dX12_read_83 : decode cX12_read 83 = .ok (.aload_n 0, 1) := by decide +kernel
theorem dX12_read_84 : decode cX12_read 84 = .ok (.getfield 9, 3) := by decide +kernel
theorem dX12_read_87 : decode cX12_read 87 = .ok (.bipush 34, 2) := by decide +kernel
theorem dX12_read_89 : decode cX12_read 89 = .ok (.bipush 12, 2) := by decide +kernel
theorem dX12_read_91 : decode cX12_read 91 = .ok (.iload_n 3, 1) := by decide +kernel
theorem dX12_read_92 : decode cX12_read 92 = .ok (.imul, 1) := by decide +kernel
theorem dX12_read_93 : decode cX12_read 93 = .ok (.iadd, 1) := by decide +kernel
theorem dX12_read_94 : decode cX12_read 94 = .ok (.iconst 2, 1) := by decide +kernel
theorem dX12_read_95 : decode cX12_read 95 = .ok (.iadd, 1) := by decide +kernel
theorem dX12_read_96 : decode cX12_read 96 = .ok (.iload_n 2, 1) := by decide +kernel
theorem dX12_read_97 : decode cX12_read 97 = .ok (.iadd, 1) := by decide +kernel
theorem dX12_read_98 : decode cX12_read 98 = .ok (.iload 6, 2) := by decide +kernel
theorem dX12_read_100 : decode cX12_read 100 = .ok (.bipush 6, 2) := by decide +kernel
theorem dX12_read_102 : decode cX12_read 102 = .ok (.irem, 1) := by decide +kernel
theorem dX12_read_103 : decode cX12_read 103 = .ok (.iastore, 1) := by decide +kernel
theorem dX12_read_104 : decode cX12_read 104 = .ok (.iload 5, 2) := by decide +kernel
theorem dX12_read_106 : decode cX12_read 106 = .ok (.aload_n 0, 1) := by decide +kernel
theorem dX12_read_107 : decode cX12_read 107 = .ok (.iload_n 1, 1) := by decide +kernel
theorem dX12_read_108 : decode cX12_read 108 = .ok (.iload_n 2, 1) := by decide +kernel
theorem dX12_read_109 : decode cX12_read 109 = .ok (.invokevirtual 227, 3) := by decide +kernel
theorem dX12_read_112 : decode cX12_read 112 = .ok (.ifCond .eq 7, 3) := by decide +kernel
theorem dX12_read_115 : decode cX12_read 115 = .ok (.iconst 1, 1) := by decide +kernel
theorem dX12_read_116 : decode cX12_read 116 = .ok (.goto 4, 3) := by decide +kernel
theorem dX12_read_119 : decode cX12_read 119 = .ok (.iconst 0, 1) := by decide +kernel
theorem dX12_read_120 : decode cX12_read 120 = .ok (.iadd, 1) := by decide +kernel
theorem dX12_read_121 : decode cX12_read 121 = .ok (.istore 5, 2) := by decide +kernel
theorem dX12_read_123 : decode cX12_read 123 = .ok (.iinc 6 1, 3) := by decide +kernel
theorem dX12_read_126 : decode cX12_read 126 = .ok (.goto (-67), 3) := by decide +kernel
theorem dX12_read_129 : decode cX12_read 129 = .ok (.iload 5, 2) := by decide +kernel
theorem dX12_read_131 : decode cX12_read 131 = .ok (.ireturn, 1) := by decide +kernel
theorem dX12_image_0 : decode cX12_image 0 = .ok (.aload_n 0, 1) := by decide +kernel
theorem dX12_image_1 : decode cX12_image 1 = .ok (.getfield 9, 3) := by decide +kernel
theorem dX12_image_4 : decode cX12_image 4 = .ok (.aload_n 0, 1) := by decide +kernel
theorem dX12_image_5 : decode cX12_image 5 = .ok (.getfield 13, 3) := by decide +kernel
theorem dX12_image_8 : decode cX12_image 8 = .ok (.invokestatic 142, 3) := by decide +kernel
theorem dX12_image_11 : decode cX12_image 11 = .ok (.aload_n 0, 1) := by decide +kernel
theorem dX12_image_12 : decode cX12_image 12 = .ok (.iconst 1, 1) := by decide +kernel
theorem dX12_image_13 : decode cX12_image 13 = .ok (.putfield 230, 3) := by decide +kernel
theorem dX12_image_16 : decode cX12_image 16 = .ok (.iconst 1, 1) := by decide +kernel
theorem dX12_image_17 : decode cX12_image 17 = .ok (.ireturn, 1) := by decide +kernel
theorem dX12_undo_0 : decode cX12_undo 0 = .ok (.aload_n 0, 1) := by decide +kernel
theorem dX12_undo_1 : decode cX12_undo 1 = .ok (.getfield 230, 3) := by decide +kernel
theorem dX12_undo_4 : decode cX12_undo 4 = .ok (.ifCond .ne 10, 3) := by decide +kernel
theorem dX12_undo_7 : decode cX12_undo 7 = .ok (.aload_n 0, 1) := by decide +kernel
theorem dX12_undo_8 : decode cX12_undo 8 = .ok (.ldc 36, 2) := by decide +kernel
theorem dX12_undo_10 : decode cX12_undo 10 = .ok (.invokevirtual 37, 3) := by decide +kernel
theorem dX12_undo_13 : decode cX12_undo 13 = .ok (.ireturn, 1) := by decide +kernel
theorem dX12_undo_14 : decode cX12_undo 14 = .ok (.aload_n 0, 1) := by decide +kernel
theorem dX12_undo_15 : decode cX12_undo 15 = .ok (.getfield 13, 3) := by decide +kernel
theorem dX12_undo_18 : decode cX12_undo 18 = .ok (.aload_n 0, 1) := by decide +kernel
theorem dX12_undo_19 : decode cX12_undo 19 = .ok (.getfield 9, 3) := by decide +kernel
theorem dX12_undo_22 : decode cX12_undo 22 = .ok (.invokestatic 142, 3) := by decide +kernel
theorem dX12_undo_25 : decode cX12_undo 25 = .ok (.aload_n 0, 1) := by decide +kernel
theorem dX12_undo_26 : decode cX12_undo 26 = .ok (.getfield 9, 3) := by decide +kernel
theorem dX12_undo_29 : decode cX12_undo 29 = .ok (.iconst 2, 1) := by decide +kernel
theorem dX12_undo_30 : decode cX12_undo 30 = .ok (.iaload, 1) := by decide +kernel
theorem dX12_undo_31 : decode cX12_undo 31 = .ok (.ireturn, 1) := by decide +kernel
theorem dX12_tear_0 : decode cX12_tear 0 = .ok (.aload_n 0, 1) := by decide +kernel
theorem dX12_tear_1 : decode cX12_tear 1 = .ok (.getfield 230, 3) := by decide +kernel
theorem dX12_tear_4 : decode cX12_tear 4 = .ok (.ifCond .eq 7, 3) := by decide +kernel
theorem dX12_tear_7 : decode cX12_tear 7 = .ok (.iconst 1, 1) := by decide +kernel
theorem dX12_tear_8 : decode cX12_tear 8 = .ok (.goto 4, 3) := by decide +kernel
theorem dX12_tear_11 : decode cX12_tear 11 = .ok (.iconst 0, 1) := by decide +kernel
theorem dX12_tear_12 : decode cX12_tear 12 = .ok (.istore_n 1, 1) := by decide +kernel
theorem dX12_tear_13 : decode cX12_tear 13 = .ok (.aload_n 0, 1) := by decide +kernel
theorem dX12_tear_14 : decode cX12_tear 14 = .ok (.iconst 0, 1) := by decide +kernel
theorem dX12_tear_15 : decode cX12_tear 15 = .ok (.putfield 230, 3) := by decide +kernel
theorem dX12_tear_18 : decode cX12_tear 18 = .ok (.iload_n 1, 1) := by decide +kernel
theorem dX12_tear_19 : decode cX12_tear 19 = .ok (.ireturn, 1) := by decide +kernel
theorem dX12_count_0 : decode cX12_count 0 = .ok (.iload_n 1, 1) := by decide +kernel
theorem dX12_count_1 : decode cX12_count 1 = .ok (.tableswitch 54 0 3 #[31, 31, 40, 45], 31) := by decide +kernel
theorem dX12_count_32 : decode cX12_count 32 = .ok (.aload_n 0, 1) := by decide +kernel
theorem dX12_count_33 : decode cX12_count 33 = .ok (.getfield 9, 3) := by decide +kernel
theorem dX12_count_36 : decode cX12_count 36 = .ok (.iconst 2, 1) := by decide +kernel
theorem dX12_count_37 : decode cX12_count 37 = .ok (.iload_n 1, 1) := by decide +kernel
theorem dX12_count_38 : decode cX12_count 38 = .ok (.iadd, 1) := by decide +kernel
theorem dX12_count_39 : decode cX12_count 39 = .ok (.iaload, 1) := by decide +kernel
theorem dX12_count_40 : decode cX12_count 40 = .ok (.ireturn, 1) := by decide +kernel
theorem dX12_count_41 : decode cX12_count 41 = .ok (.aload_n 0, 1) := by decide +kernel
theorem dX12_count_42 : decode cX12_count 42 = .ok (.getfield 162, 3) := by decide +kernel
theorem dX12_count_45 : decode cX12_count 45 = .ok (.ireturn, 1) := by decide +kernel
theorem dX12_count_46 : decode cX12_count 46 = .ok (.aload_n 0, 1) := by decide +kernel
theorem dX12_count_47 : decode cX12_count 47 = .ok (.iconst (-1), 1) := by decide +kernel
theorem dX12_count_48 : decode cX12_count 48 = .ok (.invokevirtual 84, 3) := by decide +kernel
theorem dX12_count_51 : decode cX12_count 51 = .ok (.invokestatic 112, 3) := by decide +kernel
theorem dX12_count_54 : decode cX12_count 54 = .ok (.ireturn, 1) := by decide +kernel
theorem dX12_count_55 : decode cX12_count 55 = .ok (.aload_n 0, 1) := by decide +kernel
theorem dX12_count_56 : decode cX12_count 56 = .ok (.ldc 35, 2) := by decide +kernel
theorem dX12_count_58 : decode cX12_count 58 = .ok (.invokevirtual 37, 3) := by decide +kernel
theorem dX12_count_61 : decode cX12_count 61 = .ok (.ireturn, 1) := by decide +kernel
theorem dX12_status_0 : decode cX12_status 0 = .ok (.iload_n 1, 1) := by decide +kernel
theorem dX12_status_1 : decode cX12_status 1 = .ok (.i2l, 1) := by decide +kernel
theorem dX12_status_2 : decode cX12_status 2 = .ok (.iconst (-1), 1) := by decide +kernel
theorem dX12_status_3 : decode cX12_status 3 = .ok (.bipush 6, 2) := by decide +kernel
theorem dX12_status_5 : decode cX12_status 5 = .ok (.invokestatic 41, 3) := by decide +kernel
theorem dX12_status_8 : decode cX12_status 8 = .ok (.ifCond .ne 10, 3) := by decide +kernel
theorem dX12_status_11 : decode cX12_status 11 = .ok (.aload_n 0, 1) := by decide +kernel
theorem dX12_status_12 : decode cX12_status 12 = .ok (.ldc 35, 2) := by decide +kernel
theorem dX12_status_14 : decode cX12_status 14 = .ok (.invokevirtual 37, 3) := by decide +kernel
theorem dX12_status_17 : decode cX12_status 17 = .ok (.ireturn, 1) := by decide +kernel
theorem dX12_status_18 : decode cX12_status 18 = .ok (.iconst 0, 1) := by decide +kernel
theorem dX12_status_19 : decode cX12_status 19 = .ok (.istore_n 2, 1) := by decide +kernel
theorem dX12_status_20 : decode cX12_status 20 = .ok (.iconst 0, 1) := by decide +kernel
theorem dX12_status_21 : decode cX12_status 21 = .ok (.istore_n 3, 1) := by decide +kernel
theorem dX12_status_22 : decode cX12_status 22 = .ok (.iload_n 3, 1) := by decide +kernel
theorem dX12_status_23 : decode cX12_status 23 = .ok (.bipush 7, 2) := by decide +kernel
theorem dX12_status_25 : decode cX12_status 25 = .ok (.if_icmp .ge 31, 3) := by decide +kernel
theorem dX12_status_28 : decode cX12_status 28 = .ok (.iload_n 2, 1) := by decide +kernel
theorem dX12_status_29 : decode cX12_status 29 = .ok (.iload_n 1, 1) := by decide +kernel
theorem dX12_status_30 : decode cX12_status 30 = .ok (.ifCond .lt 8, 3) := by decide +kernel
theorem dX12_status_33 : decode cX12_status 33 = .ok (.iload_n 1, 1) := by decide +kernel
theorem dX12_status_34 : decode cX12_status 34 = .ok (.iload_n 3, 1) := by decide +kernel
theorem dX12_status_35 : decode cX12_status 35 = .ok (.if_icmp .ne 12, 3) := by decide +kernel
theorem dX12_status_38 : decode cX12_status 38 = .ok (.aload_n 0, 1) := by decide +kernel
theorem dX12_status_39 : decode cX12_status 39 = .ok (.getfield 19, 3) := by decide +kernel
theorem dX12_status_42 : decode cX12_status 42 = .ok (.iload_n 3, 1) := by decide +kernel
theorem dX12_status_43 : decode cX12_status 43 = .ok (.iaload, 1) := by decide +kernel
theorem dX12_status_44 : decode cX12_status 44 = .ok (.goto 4, 3) := by decide +kernel
theorem dX12_status_47 : decode cX12_status 47 = .ok (.iconst 0, 1) := by decide +kernel
theorem dX12_status_48 : decode cX12_status 48 = .ok (.iadd, 1) := by decide +kernel
theorem dX12_status_49 : decode cX12_status 49 = .ok (.istore_n 2, 1) := by decide +kernel
theorem dX12_status_50 : decode cX12_status 50 = .ok (.iinc 3 1, 3) := by decide +kernel
theorem dX12_status_53 : decode cX12_status 53 = .ok (.goto (-31), 3) := by decide +kernel
theorem dX12_status_56 : decode cX12_status 56 = .ok (.iload_n 2, 1) := by decide +kernel
theorem dX12_status_57 : decode cX12_status 57 = .ok (.ireturn, 1) := by decide +kernel
