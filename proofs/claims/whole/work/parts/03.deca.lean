theorem dX0_init_0 : decode cX0_init 0 = .ok (.aload_n 0, 1) := by decide +kernel
theorem dX0_init_1 : decode cX0_init 1 = .ok (.invokespecial 1, 3) := by decide +kernel
theorem dX0_init_4 : decode cX0_init 4 = .ok (.aload_n 0, 1) := by decide +kernel
theorem dX0_init_5 : decode cX0_init 5 = .ok (.iconst 0, 1) := by decide +kernel
theorem dX0_init_6 : decode cX0_init 6 = .ok (.putfield 7, 3) := by decide +kernel
theorem dX0_init_9 : decode cX0_init 9 = .ok (.aload_n 0, 1) := by decide +kernel
theorem dX0_init_10 : decode cX0_init 10 = .ok (.iconst 0, 1) := by decide +kernel
theorem dX0_init_11 : decode cX0_init 11 = .ok (.putfield 13, 3) := by decide +kernel
theorem dX0_init_14 : decode cX0_init 14 = .ok (.aload_n 0, 1) := by decide +kernel
theorem dX0_init_15 : decode cX0_init 15 = .ok (.iconst 0, 1) := by decide +kernel
theorem dX0_init_16 : decode cX0_init 16 = .ok (.putfield 16, 3) := by decide +kernel
theorem dX0_init_19 : decode cX0_init 19 = .ok (.aload_n 0, 1) := by decide +kernel
theorem dX0_init_20 : decode cX0_init 20 = .ok (.iconst 0, 1) := by decide +kernel
theorem dX0_init_21 : decode cX0_init 21 = .ok (.putfield 19, 3) := by decide +kernel
theorem dX0_init_24 : decode cX0_init 24 = .ok (.return_, 1) := by decide +kernel
theorem dX0_set_0 : decode cX0_set 0 = .ok (.aload_n 0, 1) := by decide +kernel
theorem dX0_set_1 : decode cX0_set 1 = .ok (.iload_n 1, 1) := by decide +kernel
theorem dX0_set_2 : decode cX0_set 2 = .ok (.putfield 7, 3) := by decide +kernel
theorem dX0_set_5 : decode cX0_set 5 = .ok (.aload_n 0, 1) := by decide +kernel
theorem dX0_set_6 : decode cX0_set 6 = .ok (.iload_n 2, 1) := by decide +kernel
theorem dX0_set_7 : decode cX0_set 7 = .ok (.putfield 13, 3) := by decide +kernel
theorem dX0_set_10 : decode cX0_set 10 = .ok (.aload_n 0, 1) := by decide +kernel
theorem dX0_set_11 : decode cX0_set 11 = .ok (.iload_n 3, 1) := by decide +kernel
theorem dX0_set_12 : decode cX0_set 12 = .ok (.putfield 16, 3) := by decide +kernel
theorem dX0_set_15 : decode cX0_set 15 = .ok (.aload_n 0, 1) := by decide +kernel
theorem dX0_set_16 : decode cX0_set 16 = .ok (.iload 4, 2) := by decide +kernel
theorem dX0_set_18 : decode cX0_set 18 = .ok (.putfield 19, 3) := by decide +kernel
theorem dX0_set_21 : decode cX0_set 21 = .ok (.return_, 1) := by decide +kernel
theorem dX0_copy_0 : decode cX0_copy 0 = .ok (.aload_n 0, 1) := by decide +kernel
theorem dX0_copy_1 : decode cX0_copy 1 = .ok (.aload_n 1, 1) := by decide +kernel
theorem dX0_copy_2 : decode cX0_copy 2 = .ok (.getfield 7, 3) := by decide +kernel
theorem dX0_copy_5 : decode cX0_copy 5 = .ok (.aload_n 1, 1) := by decide +kernel
theorem dX0_copy_6 : decode cX0_copy 6 = .ok (.getfield 13, 3) := by decide +kernel
theorem dX0_copy_9 : decode cX0_copy 9 = .ok (.aload_n 1, 1) := by decide +kernel
theorem dX0_copy_10 : decode cX0_copy 10 = .ok (.getfield 16, 3) := by decide +kernel
theorem dX0_copy_13 : decode cX0_copy 13 = .ok (.aload_n 1, 1) := by decide +kernel
theorem dX0_copy_14 : decode cX0_copy 14 = .ok (.getfield 19, 3) := by decide +kernel
theorem dX0_copy_17 : decode cX0_copy 17 = .ok (.invokevirtual 22, 3) := by decide +kernel
theorem dX0_copy_20 : decode cX0_copy 20 = .ok (.return_, 1) := by decide +kernel
theorem dX0_value_0 : decode cX0_value 0 = .ok (.iload_n 1, 1) := by decide +kernel
theorem dX0_value_1 : decode cX0_value 1 = .ok (.tableswitch 42 0 2 #[27, 32, 37], 27) := by decide +kernel
theorem dX0_value_28 : decode cX0_value 28 = .ok (.aload_n 0, 1) := by decide +kernel
theorem dX0_value_29 : decode cX0_value 29 = .ok (.getfield 7, 3) := by decide +kernel
theorem dX0_value_32 : decode cX0_value 32 = .ok (.ireturn, 1) := by decide +kernel
theorem dX0_value_33 : decode cX0_value 33 = .ok (.aload_n 0, 1) := by decide +kernel
theorem dX0_value_34 : decode cX0_value 34 = .ok (.getfield 13, 3) := by decide +kernel
theorem dX0_value_37 : decode cX0_value 37 = .ok (.ireturn, 1) := by decide +kernel
theorem dX0_value_38 : decode cX0_value 38 = .ok (.aload_n 0, 1) := by decide +kernel
theorem dX0_value_39 : decode cX0_value 39 = .ok (.getfield 16, 3) := by decide +kernel
theorem dX0_value_42 : decode cX0_value 42 = .ok (.ireturn, 1) := by decide +kernel
theorem dX0_value_43 : decode cX0_value 43 = .ok (.aload_n 0, 1) := by decide +kernel
theorem dX0_value_44 : decode cX0_value 44 = .ok (.getfield 19, 3) := by decide +kernel
theorem dX0_value_47 : decode cX0_value 47 = .ok (.ireturn, 1) := by decide +kernel
theorem dX1_init_0 : decode cX1_init 0 = .ok (.aload_n 0, 1) := by decide +kernel
theorem dX1_init_1 : decode cX1_init 1 = .ok (.invokespecial 3, 3) := by decide +kernel
theorem dX1_init_4 : decode cX1_init 4 = .ok (.aload_n 0, 1) := by decide +kernel
theorem dX1_init_5 : decode cX1_init 5 = .ok (.bipush 16, 2) := by decide +kernel
theorem dX1_init_7 : decode cX1_init 7 = .ok (.newarray .int, 2) := by decide +kernel
theorem dX1_init_9 : decode cX1_init 9 = .ok (.putfield 9, 3) := by decide +kernel
theorem dX1_init_12 : decode cX1_init 12 = .ok (.aload_n 0, 1) := by decide +kernel
theorem dX1_init_13 : decode cX1_init 13 = .ok (.iconst (-1), 1) := by decide +kernel
theorem dX1_init_14 : decode cX1_init 14 = .ok (.putfield 15, 3) := by decide +kernel
theorem dX1_init_17 : decode cX1_init 17 = .ok (.aload_n 0, 1) := by decide +kernel
theorem dX1_init_18 : decode cX1_init 18 = .ok (.iconst 0, 1) := by decide +kernel
theorem dX1_init_19 : decode cX1_init 19 = .ok (.putfield 19, 3) := by decide +kernel
theorem dX1_init_22 : decode cX1_init 22 = .ok (.aload_n 0, 1) := by decide +kernel
theorem dX1_init_23 : decode cX1_init 23 = .ok (.iconst 0, 1) := by decide +kernel
theorem dX1_init_24 : decode cX1_init 24 = .ok (.putfield 22, 3) := by decide +kernel
theorem dX1_init_27 : decode cX1_init 27 = .ok (.aload_n 0, 1) := by decide +kernel
theorem dX1_init_28 : decode cX1_init 28 = .ok (.iconst 0, 1) := by decide +kernel
theorem dX1_init_29 : decode cX1_init 29 = .ok (.putfield 26, 3) := by decide +kernel
theorem dX1_init_32 : decode cX1_init 32 = .ok (.return_, 1) := by decide +kernel
theorem dX1_empty_0 : decode cX1_empty 0 = .ok (.iconst 0, 1) := by decide +kernel
theorem dX1_empty_1 : decode cX1_empty 1 = .ok (.istore_n 1, 1) := by decide +kernel
theorem dX1_empty_2 : decode cX1_empty 2 = .ok (.iload_n 1, 1) := by decide +kernel
theorem dX1_empty_3 : decode cX1_empty 3 = .ok (.bipush 16, 2) := by decide +kernel
theorem dX1_empty_5 : decode cX1_empty 5 = .ok (.if_icmp .ge 16, 3) := by decide +kernel
theorem dX1_empty_8 : decode cX1_empty 8 = .ok (.aload_n 0, 1) := by decide +kernel
theorem dX1_empty_9 : decode cX1_empty 9 = .ok (.getfield 9, 3) := by decide +kernel
theorem dX1_empty_12 : decode cX1_empty 12 = .ok (.iload_n 1, 1) := by decide +kernel
theorem dX1_empty_13 : decode cX1_empty 13 = .ok (.iconst 0, 1) := by decide +kernel
theorem dX1_empty_14 : decode cX1_empty 14 = .ok (.iastore, 1) := by decide +kernel
theorem dX1_empty_15 : decode cX1_empty 15 = .ok (.iinc 1 1, 3) := by decide +kernel
theorem dX1_empty_18 : decode cX1_empty 18 = .ok (.goto (-16), 3) := by decide +kernel
theorem dX1_empty_21 : decode cX1_empty 21 = .ok (.aload_n 0, 1) := by decide +kernel
theorem dX1_empty_22 : decode cX1_empty 22 = .ok (.iconst (-1), 1) := by decide +kernel
theorem dX1_empty_23 : decode cX1_empty 23 = .ok (.putfield 15, 3) := by decide +kernel
theorem dX1_empty_26 : decode cX1_empty 26 = .ok (.aload_n 0, 1) := by decide +kernel
theorem dX1_empty_27 : decode cX1_empty 27 = .ok (.iconst 0, 1) := by decide +kernel
theorem dX1_empty_28 : decode cX1_empty 28 = .ok (.putfield 19, 3) := by decide +kernel
theorem dX1_empty_31 : decode cX1_empty 31 = .ok (.aload_n 0, 1) := by decide +kernel
theorem dX1_empty_32 : decode cX1_empty 32 = .ok (.iconst 0, 1) := by decide +kernel
theorem dX1_empty_33 : decode cX1_empty 33 = .ok (.putfield 22, 3) := by decide +kernel
theorem dX1_empty_36 : decode cX1_empty 36 = .ok (.aload_n 0, 1) := by decide +kernel
theorem dX1_empty_37 : decode cX1_empty 37 = .ok (.iconst 0, 1) := by decide +kernel
theorem dX1_empty_38 : decode cX1_empty 38 = .ok (.putfield 26, 3) := by decide +kernel
theorem dX1_empty_41 : decode cX1_empty 41 = .ok (.return_, 1) := by decide +kernel
theorem dX1_fill_0 : decode cX1_fill 0 = .ok (.iconst 0, 1) := by decide +kernel
theorem dX1_fill_1 : decode cX1_fill 1 = .ok (.istore_n 3, 1) := by decide +kernel
theorem dX1_fill_2 : decode cX1_fill 2 = .ok (.iload_n 3, 1) := by decide +kernel
theorem dX1_fill_3 : decode cX1_fill 3 = .ok (.bipush 16, 2) := by decide +kernel
theorem dX1_fill_5 : decode cX1_fill 5 = .ok (.if_icmp .ge 21, 3) := by decide +kernel
theorem dX1_fill_8 : decode cX1_fill 8 = .ok (.aload_n 0, 1) := by decide +kernel
theorem dX1_fill_9 : decode cX1_fill 9 = .ok (.getfield 9, 3) := by decide +kernel
theorem dX1_fill_12 : decode cX1_fill 12 = .ok (.iload_n 3, 1) := by decide +kernel
theorem dX1_fill_13 : decode cX1_fill 13 = .ok (.aload_n 2, 1) := by decide +kernel
theorem dX1_fill_14 : decode cX1_fill 14 = .ok (.getfield 29, 3) := by decide +kernel
theorem dX1_fill_17 : decode cX1_fill 17 = .ok (.iload_n 3, 1) := by decide +kernel
theorem dX1_fill_18 : decode cX1_fill 18 = .ok (.iaload, 1) := by decide +kernel
theorem dX1_fill_19 : decode cX1_fill 19 = .ok (.iastore, 1) := by decide +kernel
theorem dX1_fill_20 : decode cX1_fill 20 = .ok (.iinc 3 1, 3) := by decide +kernel
theorem dX1_fill_23 : decode cX1_fill 23 = .ok (.goto (-21), 3) := by decide +kernel
theorem dX1_fill_26 : decode cX1_fill 26 = .ok (.aload_n 0, 1) := by decide +kernel
theorem dX1_fill_27 : decode cX1_fill 27 = .ok (.iload_n 1, 1) := by decide +kernel
theorem dX1_fill_28 : decode cX1_fill 28 = .ok (.putfield 15, 3) := by decide +kernel
theorem dX1_fill_31 : decode cX1_fill 31 = .ok (.aload_n 0, 1) := by decide +kernel
theorem dX1_fill_32 : decode cX1_fill 32 = .ok (.aload_n 2, 1) := by decide +kernel
theorem dX1_fill_33 : decode cX1_fill 33 = .ok (.getfield 32, 3) := by decide +kernel
theorem dX1_fill_36 : decode cX1_fill 36 = .ok (.iconst 0, 1) := by decide +kernel
theorem dX1_fill_37 : decode cX1_fill 37 = .ok (.iaload, 1) := by decide +kernel
theorem dX1_fill_38 : decode cX1_fill 38 = .ok (.putfield 19, 3) := by decide +kernel
theorem dX1_fill_41 : decode cX1_fill 41 = .ok (.aload_n 0, 1) := by decide +kernel
theorem dX1_fill_42 : decode cX1_fill 42 = .ok (.iconst 0, 1) := by decide +kernel
theorem dX1_fill_43 : decode cX1_fill 43 = .ok (.putfield 22, 3) := by decide +kernel
theorem dX1_fill_46 : decode cX1_fill 46 = .ok (.return_, 1) := by decide +kernel
theorem dX1_changeWord_0 : decode cX1_changeWord 0 = .ok (.aload_n 0, 1) := by decide +kernel
theorem dX1_changeWord_1 : decode cX1_changeWord 1 = .ok (.getfield 9, 3) := by decide +kernel
theorem dX1_changeWord_4 : decode cX1_changeWord 4 = .ok (.iload_n 1, 1) := by decide +kernel
theorem dX1_changeWord_5 : decode cX1_changeWord 5 = .ok (.iload_n 2, 1) := by decide +kernel
theorem dX1_changeWord_6 : decode cX1_changeWord 6 = .ok (.iastore, 1) := by decide +kernel
theorem dX1_changeWord_7 : decode cX1_changeWord 7 = .ok (.aload_n 0, 1) := by decide +kernel
theorem dX1_changeWord_8 : decode cX1_changeWord 8 = .ok (.iload_n 3, 1) := by decide +kernel
theorem dX1_changeWord_9 : decode cX1_changeWord 9 = .ok (.putfield 19, 3) := by decide +kernel
theorem dX1_changeWord_12 : decode cX1_changeWord 12 = .ok (.aload_n 0, 1) := by decide +kernel
theorem dX1_changeWord_13 : decode cX1_changeWord 13 = .ok (.iconst 1, 1) := by decide +kernel
theorem dX1_changeWord_14 : decode cX1_changeWord 14 = .ok (.putfield 22, 3) := by decide +kernel
theorem dX1_changeWord_17 : decode cX1_changeWord 17 = .ok (.return_, 1) := by decide +kernel
theorem dX1_value_0 : decode cX1_value 0 = .ok (.iload_n 1, 1) := by decide +kernel
theorem dX1_value_1 : decode cX1_value 1 = .ok (.tableswitch 50 0 2 #[27, 32, 37], 27) := by decide +kernel
theorem dX1_value_28 : decode cX1_value 28 = .ok (.aload_n 0, 1) := by decide +kernel
theorem dX1_value_29 : decode cX1_value 29 = .ok (.getfield 15, 3) := by decide +kernel
theorem dX1_value_32 : decode cX1_value 32 = .ok (.ireturn, 1) := by decide +kernel
theorem dX1_value_33 : decode cX1_value 33 = .ok (.aload_n 0, 1) := by decide +kernel
theorem dX1_value_34 : decode cX1_value 34 = .ok (.getfield 19, 3) := by decide +kernel
theorem dX1_value_37 : decode cX1_value 37 = .ok (.ireturn, 1) := by decide +kernel
theorem dX1_value_38 : decode cX1_value 38 = .ok (.aload_n 0, 1) := by decide +kernel
theorem dX1_value_39 : decode cX1_value 39 = .ok (.getfield 22, 3) := by decide +kernel
theorem dX1_value_42 : decode cX1_value 42 = .ok (.ifCond .eq 7, 3) := by decide +kernel
theorem dX1_value_45 : decode cX1_value 45 = .ok (.iconst 1, 1) := by decide +kernel
theorem dX1_value_46 : decode cX1_value 46 = .ok (.goto 4, 3) := by decide +kernel
theorem dX1_value_49 : decode cX1_value 49 = .ok (.iconst 0, 1) := by decide +kernel
theorem dX1_value_50 : decode cX1_value 50 = .ok (.ireturn, 1) := by decide +kernel
theorem dX1_value_51 : decode cX1_value 51 = .ok (.aload_n 0, 1) := by decide +kernel
theorem dX1_value_52 : decode cX1_value 52 = .ok (.getfield 9, 3) := by decide +kernel
theorem dX1_value_55 : decode cX1_value 55 = .ok (.iload_n 1, 1) := by decide +kernel
theorem dX1_value_56 : decode cX1_value 56 = .ok (.iconst 3, 1) := by decide +kernel
theorem dX1_value_57 : decode cX1_value 57 = .ok (.isub, 1) := by decide +kernel
theorem dX1_value_58 : decode cX1_value 58 = .ok (.iaload, 1) := by decide +kernel
theorem dX1_value_59 : decode cX1_value 59 = .ok (.ireturn, 1) := by decide +kernel
theorem dX2_init_0 : decode cX2_init 0 = .ok (.aload_n 0, 1) := by decide +kernel
theorem dX2_init_1 : decode cX2_init 1 = .ok (.invokespecial 3, 3) := by decide +kernel
theorem dX2_init_4 : decode cX2_init 4 = .ok (.aload_n 0, 1) := by decide +kernel
theorem dX2_init_5 : decode cX2_init 5 = .ok (.bipush 16, 2) := by decide +kernel
theorem dX2_init_7 : decode cX2_init 7 = .ok (.newarray .int, 2) := by decide +kernel
theorem dX2_init_9 : decode cX2_init 9 = .ok (.putfield 9, 3) := by decide +kernel
theorem dX2_init_12 : decode cX2_init 12 = .ok (.aload_n 0, 1) := by decide +kernel
theorem dX2_init_13 : decode cX2_init 13 = .ok (.iconst 4, 1) := by decide +kernel
theorem dX2_init_14 : decode cX2_init 14 = .ok (.newarray .int, 2) := by decide +kernel
theorem dX2_init_16 : decode cX2_init 16 = .ok (.putfield 15, 3) := by decide +kernel
theorem dX2_init_19 : decode cX2_init 19 = .ok (.aload_n 0, 1) := by decide +kernel
theorem dX2_init_20 : decode cX2_init 20 = .ok (.iconst 4, 1) := by decide +kernel
theorem dX2_init_21 : decode cX2_init 21 = .ok (.newarray .int, 2) := by decide +kernel
theorem dX2_init_23 : decode cX2_init 23 = .ok (.putfield 18, 3) := by decide +kernel
theorem dX2_init_26 : decode cX2_init 26 = .ok (.iconst 0, 1) := by decide +kernel
theorem dX2_init_27 : decode cX2_init 27 = .ok (.istore_n 2, 1) := by decide +kernel
theorem dX2_init_28 : decode cX2_init 28 = .ok (.iload_n 2, 1) := by decide +kernel
theorem dX2_init_29 : decode cX2_init 29 = .ok (.iconst 4, 1) := by decide +kernel
theorem dX2_init_30 : decode cX2_init 30 = .ok (.if_icmp .ge 16, 3) := by decide +kernel
theorem dX2_init_33 : decode cX2_init 33 = .ok (.aload_n 0, 1) := by decide +kernel
theorem dX2_init_34 : decode cX2_init 34 = .ok (.getfield 18, 3) := by decide +kernel
theorem dX2_init_37 : decode cX2_init 37 = .ok (.iload_n 2, 1) := by decide +kernel
theorem dX2_init_38 : decode cX2_init 38 = .ok (.iload_n 1, 1) := by decide +kernel
theorem dX2_init_39 : decode cX2_init 39 = .ok (.iastore, 1) := by decide +kernel
theorem dX2_init_40 : decode cX2_init 40 = .ok (.iinc 2 1, 3) := by decide +kernel
theorem dX2_init_43 : decode cX2_init 43 = .ok (.goto (-15), 3) := by decide +kernel
theorem dX2_init_46 : decode cX2_init 46 = .ok (.return_, 1) := by decide +kernel
theorem dX2_putSector_0 : decode cX2_putSector 0 = .ok (.iload_n 1, 1) := by decide +kernel
theorem dX2_putSector_1 : decode cX2_putSector 1 = .ok (.iconst 4, 1) := by decide +kernel
theorem dX2_putSector_2 : decode cX2_putSector 2 = .ok (.imul, 1) := by decide +kernel
theorem dX2_putSector_3 : decode cX2_putSector 3 = .ok (.istore 5, 2) := by decide +kernel
theorem dX2_putSector_5 : decode cX2_putSector 5 = .ok (.iload 5, 2) := by decide +kernel
theorem dX2_putSector_7 : decode cX2_putSector 7 = .ok (.istore 6, 2) := by decide +kernel
theorem dX2_putSector_9 : decode cX2_putSector 9 = .ok (.iload 6, 2) := by decide +kernel
theorem dX2_putSector_11 : decode cX2_putSector 11 = .ok (.iload 5, 2) := by decide +kernel
theorem dX2_putSector_13 : decode cX2_putSector 13 = .ok (.iconst 4, 1) := by decide +kernel
theorem dX2_putSector_14 : decode cX2_putSector 14 = .ok (.iadd, 1) := by decide +kernel
theorem dX2_putSector_15 : decode cX2_putSector 15 = .ok (.if_icmp .ge 21, 3) := by decide +kernel
theorem dX2_putSector_18 : decode cX2_putSector 18 = .ok (.aload_n 0, 1) := by decide +kernel
theorem dX2_putSector_19 : decode cX2_putSector 19 = .ok (.getfield 9, 3) := by decide +kernel
theorem dX2_putSector_22 : decode cX2_putSector 22 = .ok (.iload 6, 2) := by decide +kernel
theorem dX2_putSector_24 : decode cX2_putSector 24 = .ok (.aload 4, 2) := by decide +kernel
theorem dX2_putSector_26 : decode cX2_putSector 26 = .ok (.iload 6, 2) := by decide +kernel
theorem dX2_putSector_28 : decode cX2_putSector 28 = .ok (.iaload, 1) := by decide +kernel
theorem dX2_putSector_29 : decode cX2_putSector 29 = .ok (.iastore, 1) := by decide +kernel
theorem dX2_putSector_30 : decode cX2_putSector 30 = .ok (.iinc 6 1, 3) := by decide +kernel
theorem dX2_putSector_33 : decode cX2_putSector 33 = .ok (.goto (-24), 3) := by decide +kernel
theorem dX2_putSector_36 : decode cX2_putSector 36 = .ok (.aload_n 0, 1) := by decide +kernel
theorem dX2_putSector_37 : decode cX2_putSector 37 = .ok (.getfield 15, 3) := by decide +kernel
theorem dX2_putSector_40 : decode cX2_putSector 40 = .ok (.iload_n 1, 1) := by decide +kernel
theorem dX2_putSector_41 : decode cX2_putSector 41 = .ok (.iload_n 3, 1) := by decide +kernel
theorem dX2_putSector_42 : decode cX2_putSector 42 = .ok (.iastore, 1) := by decide +kernel
theorem dX2_putSector_43 : decode cX2_putSector 43 = .ok (.aload_n 0, 1) := by decide +kernel
theorem dX2_putSector_44 : decode cX2_putSector 44 = .ok (.getfield 18, 3) := by decide +kernel
theorem dX2_putSector_47 : decode cX2_putSector 47 = .ok (.iload_n 1, 1) := by decide +kernel
theorem dX2_putSector_48 : decode cX2_putSector 48 = .ok (.iload_n 2, 1) := by decide +kernel
theorem dX2_putSector_49 : decode cX2_putSector 49 = .ok (.iastore, 1) := by decide +kernel
theorem dX2_putSector_50 : decode cX2_putSector 50 = .ok (.return_, 1) := by decide +kernel
theorem dX2_isWhole_0 : decode cX2_isWhole 0 = .ok (.iconst 1, 1) := by decide +kernel
theorem dX2_isWhole_1 : decode cX2_isWhole 1 = .ok (.istore_n 1, 1) := by decide +kernel
theorem dX2_isWhole_2 : decode cX2_isWhole 2 = .ok (.iload_n 1, 1) := by decide +kernel
theorem dX2_isWhole_3 : decode cX2_isWhole 3 = .ok (.iconst 4, 1) := by decide +kernel
theorem dX2_isWhole_4 : decode cX2_isWhole 4 = .ok (.if_icmp .ge 41, 3) := by decide +kernel
theorem dX2_isWhole_7 : decode cX2_isWhole 7 = .ok (.aload_n 0, 1) := by decide +kernel
theorem dX2_isWhole_8 : decode cX2_isWhole 8 = .ok (.getfield 15, 3) := by decide +kernel
theorem dX2_isWhole_11 : decode cX2_isWhole 11 = .ok (.iload_n 1, 1) := by decide +kernel
theorem dX2_isWhole_12 : decode cX2_isWhole 12 = .ok (.iaload, 1) := by decide +kernel
theorem dX2_isWhole_13 : decode cX2_isWhole 13 = .ok (.aload_n 0, 1) := by decide +kernel
theorem dX2_isWhole_14 : decode cX2_isWhole 14 = .ok (.getfield 15, 3) := by decide +kernel
theorem dX2_isWhole_17 : decode cX2_isWhole 17 = .ok (.iconst 0, 1) := by decide +kernel
theorem dX2_isWhole_18 : decode cX2_isWhole 18 = .ok (.iaload, 1) := by decide +kernel
theorem dX2_isWhole_19 : decode cX2_isWhole 19 = .ok (.if_icmp .ne 18, 3) := by decide +kernel
theorem dX2_isWhole_22 : decode cX2_isWhole 22 = .ok (.aload_n 0, 1) := by decide +kernel
theorem dX2_isWhole_23 : decode cX2_isWhole 23 = .ok (.getfield 18, 3) := by decide +kernel
theorem dX2_isWhole_26 : decode cX2_isWhole 26 = .ok (.iload_n 1, 1) := by decide +kernel
theorem dX2_isWhole_27 : decode cX2_isWhole 27 = .ok (.iaload, 1) := by decide +kernel
theorem dX2_isWhole_28 : decode cX2_isWhole 28 = .ok (.aload_n 0, 1) := by decide +kernel
theorem dX2_isWhole_29 : decode cX2_isWhole 29 = .ok (.getfield 18, 3) := by decide +kernel
theorem dX2_isWhole_32 : decode cX2_isWhole 32 = .ok (.iconst 0, 1) := by decide +kernel
theorem dX2_isWhole_33 : decode cX2_isWhole 33 = .ok (.iaload, 1) := by decide +kernel
theorem dX2_isWhole_34 : decode cX2_isWhole 34 = .ok (.if_icmp .eq 5, 3) := by decide +kernel
theorem dX2_isWhole_37 : decode cX2_isWhole 37 = .ok (.iconst 0, 1) := by decide +kernel
theorem dX2_isWhole_38 : decode cX2_isWhole 38 = .ok (.ireturn, 1) := by decide +kernel
theorem dX2_isWhole_39 : decode cX2_isWhole 39 = .ok (.iinc 1 1, 3) := by decide +kernel
theorem dX2_isWhole_42 : decode cX2_isWhole 42 = .ok (.goto (-40), 3) := by decide +kernel
theorem dX2_isWhole_45 : decode cX2_isWhole 45 = .ok (.iconst 1, 1) := by decide +kernel
theorem dX2_isWhole_46 : decode cX2_isWhole 46 = .ok (.ireturn, 1) := by decide +kernel
theorem dX2_value_0 : decode cX2_value 0 = .ok (.iload_n 1, 1) := by decide +kernel
theorem dX2_value_1 : decode cX2_value 1 = .ok (.bipush 16, 2) := by decide +kernel
theorem dX2_value_3 : decode cX2_value 3 = .ok (.if_icmp .ge 10, 3) := by decide +kernel
theorem dX2_value_6 : decode cX2_value 6 = .ok (.aload_n 0, 1) := by decide +kernel
theorem dX2_value_7 : decode cX2_value 7 = .ok (.getfield 9, 3) := by decide +kernel
theorem dX2_value_10 : decode cX2_value 10 = .ok (.iload_n 1, 1) := by decide +kernel
theorem dX2_value_11 : decode cX2_value 11 = .ok (.iaload, 1) := by decide +kernel
theorem dX2_value_12 : decode cX2_value 12 = .ok (.ireturn, 1) := by decide +kernel
theorem dX2_value_13 : decode cX2_value 13 = .ok (.iload_n 1, 1) := by decide +kernel
theorem dX2_value_14 : decode cX2_value 14 = .ok (.bipush 20, 2) := by decide +kernel
theorem dX2_value_16 : decode cX2_value 16 = .ok (.if_icmp .ge 15, 3) := by decide +kernel
theorem dX2_value_19 : decode cX2_value 19 = .ok (.aload_n 0, 1) := by decide +kernel
theorem dX2_value_20 : decode cX2_value 20 = .ok (.getfield 15, 3) := by decide +kernel
theorem dX2_value_23 : decode cX2_value 23 = .ok (.iload_n 1, 1) := by decide +kernel
theorem dX2_value_24 : decode cX2_value 24 = .ok (.bipush 16, 2) := by decide +kernel
theorem dX2_value_26 : decode cX2_value 26 = .ok (.isub, 1) := by decide +kernel
theorem dX2_value_27 : decode cX2_value 27 = .ok (.iaload, 1) := by decide +kernel
theorem dX2_value_28 : decode cX2_value 28 = .ok (.goto 12, 3) := by decide +kernel
theorem dX2_value_31 : decode cX2_value 31 = .ok (.aload_n 0, 1) := by decide +kernel
theorem dX2_value_32 : decode cX2_value 32 = .ok (.getfield 18, 3) := by decide +kernel
theorem dX2_value_35 : decode cX2_value 35 = .ok (.iload_n 1, 1) := by decide +kernel
theorem dX2_value_36 : decode cX2_value 36 = .ok (.bipush 20, 2) := by decide +kernel
theorem dX2_value_38 : decode cX2_value 38 = .ok (.isub, 1) := by decide +kernel
theorem dX2_value_39 : decode cX2_value 39 = .ok (.iaload, 1) := by decide +kernel
theorem dX2_value_40 : decode cX2_value 40 = .ok (.ireturn, 1) := by decide +kernel
theorem dX3_init_0 : decode cX3_init 0 = .ok (.aload_n 0, 1) := by decide +kernel
theorem dX3_init_1 : decode cX3_init 1 = .ok (.invokespecial 3, 3) := by decide +kernel
theorem dX3_init_4 : decode cX3_init 4 = .ok (.aload_n 0, 1) := by decide +kernel
theorem dX3_init_5 : decode cX3_init 5 = .ok (.bipush 12, 2) := by decide +kernel
theorem dX3_init_7 : decode cX3_init 7 = .ok (.anewarray 9, 3) := by decide +kernel
theorem dX3_init_10 : decode cX3_init 10 = .ok (.putfield 11, 3) := by decide +kernel
theorem dX3_init_13 : decode cX3_init 13 = .ok (.aload_n 0, 1) := by decide +kernel
theorem dX3_init_14 : decode cX3_init 14 = .ok (.iconst 4, 1) := by decide +kernel
theorem dX3_init_15 : decode cX3_init 15 = .ok (.anewarray 9, 3) := by decide +kernel
theorem dX3_init_18 : decode cX3_init 18 = .ok (.putfield 15, 3) := by decide +kernel
theorem dX3_init_21 : decode cX3_init 21 = .ok (.aload_n 0, 1) := by decide +kernel
theorem dX3_init_22 : decode cX3_init 22 = .ok (.bipush 12, 2) := by decide +kernel
theorem dX3_init_24 : decode cX3_init 24 = .ok (.anewarray 18, 3) := by decide +kernel
theorem dX3_init_27 : decode cX3_init 27 = .ok (.putfield 20, 3) := by decide +kernel
theorem dX3_init_30 : decode cX3_init 30 = .ok (.aload_n 0, 1) := by decide +kernel
theorem dX3_init_31 : decode cX3_init 31 = .ok (.iconst 1, 1) := by decide +kernel
theorem dX3_init_32 : decode cX3_init 32 = .ok (.putfield 24, 3) := by decide +kernel
theorem dX3_init_35 : decode cX3_init 35 = .ok (.aload_n 0, 1) := by decide +kernel
theorem dX3_init_36 : decode cX3_init 36 = .ok (.iconst (-1), 1) := by decide +kernel
theorem dX3_init_37 : decode cX3_init 37 = .ok (.putfield 28, 3) := by decide +kernel
theorem dX3_init_40 : decode cX3_init 40 = .ok (.aload_n 0, 1) := by decide +kernel
theorem dX3_init_41 : decode cX3_init 41 = .ok (.iconst 0, 1) := by decide +kernel
theorem dX3_init_42 : decode cX3_init 42 = .ok (.putfield 31, 3) := by decide +kernel
theorem dX3_init_45 : decode cX3_init 45 = .ok (.aload_n 0, 1) := by decide +kernel
theorem dX3_init_46 : decode cX3_init 46 = .ok (.iconst 0, 1) := by decide +kernel
theorem dX3_init_47 : decode cX3_init 47 = .ok (.putfield 35, 3) := by decide +kernel
theorem dX3_init_50 : decode cX3_init 50 = .ok (.aload_n 0, 1) := by decide +kernel
theorem dX3_init_51 : decode cX3_init 51 = .ok (.iconst 0, 1) := by decide +kernel
theorem dX3_init_52 : decode cX3_init 52 = .ok (.putfield 38, 3) := by decide +kernel
theorem dX3_init_55 : decode cX3_init 55 = .ok (.aload_n 0, 1) := by decide +kernel
theorem dX3_init_56 : decode cX3_init 56 = .ok (.iconst 0, 1) := by decide +kernel
theorem dX3_init_57 : decode cX3_init 57 = .ok (.putfield 41, 3) := by decide +kernel
theorem dX3_init_60 : decode cX3_init 60 = .ok (.aload_n 0, 1) := by decide +kernel
theorem dX3_init_61 : decode cX3_init 61 = .ok (.iconst 4, 1) := by decide +kernel
theorem dX3_init_62 : decode cX3_init 62 = .ok (.anewarray 44, 3) := by decide +kernel
theorem dX3_init_65 : decode cX3_init 65 = .ok (.putfield 46, 3) := by decide +kernel
theorem dX3_init_68 : decode cX3_init 68 = .ok (.aload_n 0, 1) := by decide +kernel
theorem dX3_init_69 : decode cX3_init 69 = .ok (.bipush 12, 2) := by decide +kernel
theorem dX3_init_71 : decode cX3_init 71 = .ok (.anewarray 18, 3) := by decide +kernel
theorem dX3_init_74 : decode cX3_init 74 = .ok (.putfield 50, 3) := by decide +kernel
theorem dX3_init_77 : decode cX3_init 77 = .ok (.aload_n 0, 1) := by decide +kernel
theorem dX3_init_78 : decode cX3_init 78 = .ok (.iconst 0, 1) := by decide +kernel
theorem dX3_init_79 : decode cX3_init 79 = .ok (.putfield 53, 3) := by decide +kernel
theorem dX3_init_82 : decode cX3_init 82 = .ok (.aload_n 0, 1) := by decide +kernel
theorem dX3_init_83 : decode cX3_init 83 = .ok (.iconst 1, 1) := by decide +kernel
theorem dX3_init_84 : decode cX3_init 84 = .ok (.putfield 56, 3) := by decide +kernel
theorem dX3_init_87 : decode cX3_init 87 = .ok (.aload_n 0, 1) := by decide +kernel
theorem dX3_init_88 : decode cX3_init 88 = .ok (.iconst 0, 1) := by decide +kernel
theorem dX3_init_89 : decode cX3_init 89 = .ok (.putfield 59, 3) := by decide +kernel
theorem dX3_init_92 : decode cX3_init 92 = .ok (.aload_n 0, 1) := by decide +kernel
theorem dX3_init_93 : decode cX3_init 93 = .ok (.iconst 0, 1) := by decide +kernel
theorem dX3_init_94 : decode cX3_init 94 = .ok (.putfield 62, 3) := by decide +kernel
theorem dX3_init_97 : decode cX3_init 97 = .ok (.iconst 0, 1) := by decide +kernel
theorem dX3_init_98 : decode cX3_init 98 = .ok (.istore_n 1, 1) := by decide +kernel
theorem dX3_init_99 : decode cX3_init 99 = .ok (.iload_n 1, 1) := by decide +kernel
theorem dX3_init_100 : decode cX3_init 100 = .ok (.bipush 12, 2) := by decide +kernel
theorem dX3_init_102 : decode cX3_init 102 = .ok (.if_icmp .ge 23, 3) := by decide +kernel
theorem dX3_init_105 : decode cX3_init 105 = .ok (.aload_n 0, 1) := by decide +kernel
theorem dX3_init_106 : decode cX3_init 106 = .ok (.getfield 11, 3) := by decide +kernel
theorem dX3_init_109 : decode cX3_init 109 = .ok (.iload_n 1, 1) := by decide +kernel
theorem dX3_init_110 : decode cX3_init 110 = .ok (.new 9, 3) := by decide +kernel
theorem dX3_init_113 : decode cX3_init 113 = .ok (.dup, 1) := by decide +kernel
theorem dX3_init_114 : decode cX3_init 114 = .ok (.iload_n 1, 1) := by decide +kernel
theorem dX3_init_115 : decode cX3_init 115 = .ok (.invokespecial 65, 3) := by decide +kernel
theorem dX3_init_118 : decode cX3_init 118 = .ok (.aastore, 1) := by decide +kernel
theorem dX3_init_119 : decode cX3_init 119 = .ok (.iinc 1 1, 3) := by decide +kernel
theorem dX3_init_122 : decode cX3_init 122 = .ok (.goto (-23), 3) := by decide +kernel
theorem dX3_init_125 : decode cX3_init 125 = .ok (.iconst 0, 1) := by decide +kernel
theorem dX3_init_126 : decode cX3_init 126 = .ok (.istore_n 1, 1) := by decide +kernel
theorem dX3_init_127 : decode cX3_init 127 = .ok (.iload_n 1, 1) := by decide +kernel
theorem dX3_init_128 : decode cX3_init 128 = .ok (.iconst 4, 1) := by decide +kernel
theorem dX3_init_129 : decode cX3_init 129 = .ok (.if_icmp .ge 23, 3) := by decide +kernel
theorem dX3_init_132 : decode cX3_init 132 = .ok (.aload_n 0, 1) := by decide +kernel
theorem dX3_init_133 : decode cX3_init 133 = .ok (.getfield 15, 3) := by decide +kernel
theorem dX3_init_136 : decode cX3_init 136 = .ok (.iload_n 1, 1) := by decide +kernel
theorem dX3_init_137 : decode cX3_init 137 = .ok (.new 9, 3) := by decide +kernel
theorem dX3_init_140 : decode cX3_init 140 = .ok (.dup, 1) := by decide +kernel
theorem dX3_init_141 : decode cX3_init 141 = .ok (.iconst 0, 1) := by decide +kernel
theorem dX3_init_142 : decode cX3_init 142 = .ok (.invokespecial 65, 3) := by decide +kernel
theorem dX3_init_145 : decode cX3_init 145 = .ok (.aastore, 1) := by decide +kernel
theorem dX3_init_146 : decode cX3_init 146 = .ok (.iinc 1 1, 3) := by decide +kernel
theorem dX3_init_149 : decode cX3_init 149 = .ok (.goto (-22), 3) := by decide +kernel
theorem dX3_init_152 : decode cX3_init 152 = .ok (.iconst 0, 1) := by decide +kernel
theorem dX3_init_153 : decode cX3_init 153 = .ok (.istore_n 1, 1) := by decide +kernel
theorem dX3_init_154 : decode cX3_init 154 = .ok (.iload_n 1, 1) := by decide +kernel
theorem dX3_init_155 : decode cX3_init 155 = .ok (.bipush 12, 2) := by decide +kernel
theorem dX3_init_157 : decode cX3_init 157 = .ok (.if_icmp .ge 35, 3) := by decide +kernel
theorem dX3_init_160 : decode cX3_init 160 = .ok (.aload_n 0, 1) := by decide +kernel
theorem dX3_init_161 : decode cX3_init 161 = .ok (.getfield 20, 3) := by decide +kernel
theorem dX3_init_164 : decode cX3_init 164 = .ok (.iload_n 1, 1) := by decide +kernel
theorem dX3_init_165 : decode cX3_init 165 = .ok (.new 18, 3) := by decide +kernel
theorem dX3_init_168 : decode cX3_init 168 = .ok (.dup, 1) := by decide +kernel
theorem dX3_init_169 : decode cX3_init 169 = .ok (.invokespecial 68, 3) := by decide +kernel
theorem dX3_init_172 : decode cX3_init 172 = .ok (.aastore, 1) := by decide +kernel
theorem dX3_init_173 : decode cX3_init 173 = .ok (.aload_n 0, 1) := by decide +kernel
theorem dX3_init_174 : decode cX3_init 174 = .ok (.getfield 50, 3) := by decide +kernel
theorem dX3_init_177 : decode cX3_init 177 = .ok (.iload_n 1, 1) := by decide +kernel
theorem dX3_init_178 : decode cX3_init 178 = .ok (.new 18, 3) := by decide +kernel
theorem dX3_init_181 : decode cX3_init 181 = .ok (.dup, 1) := by decide +kernel
theorem dX3_init_182 : decode cX3_init 182 = .ok (.invokespecial 68, 3) := by decide +kernel
theorem dX3_init_185 : decode cX3_init 185 = .ok (.aastore, 1) := by decide +kernel
theorem dX3_init_186 : decode cX3_init 186 = .ok (.iinc 1 1, 3) := by decide +kernel
theorem dX3_init_189 : decode cX3_init 189 = .ok (.goto (-35), 3) := by decide +kernel
theorem dX3_init_192 : decode cX3_init 192 = .ok (.iconst 0, 1) := by decide +kernel
theorem dX3_init_193 : decode cX3_init 193 = .ok (.istore_n 1, 1) := by decide +kernel
theorem dX3_init_194 : decode cX3_init 194 = .ok (.iload_n 1, 1) := by decide +kernel
theorem dX3_init_195 : decode cX3_init 195 = .ok (.iconst 4, 1) := by decide +kernel
theorem dX3_init_196 : decode cX3_init 196 = .ok (.if_icmp .ge 22, 3) := by decide +kernel
theorem dX3_init_199 : decode cX3_init 199 = .ok (.aload_n 0, 1) := by decide +kernel
theorem dX3_init_200 : decode cX3_init 200 = .ok (.getfield 46, 3) := by decide +kernel
theorem dX3_init_203 : decode cX3_init 203 = .ok (.iload_n 1, 1) := by decide +kernel
theorem dX3_init_204 : decode cX3_init 204 = .ok (.new 44, 3) := by decide +kernel
theorem dX3_init_207 : decode cX3_init 207 = .ok (.dup, 1) := by decide +kernel
theorem dX3_init_208 : decode cX3_init 208 = .ok (.invokespecial 69, 3) := by decide +kernel
theorem dX3_init_211 : decode cX3_init 211 = .ok (.aastore, 1) := by decide +kernel
theorem dX3_init_212 : decode cX3_init 212 = .ok (.iinc 1 1, 3) := by decide +kernel
theorem dX3_init_215 : decode cX3_init 215 = .ok (.goto (-21), 3) := by decide +kernel
theorem dX3_init_218 : decode cX3_init 218 = .ok (.return_, 1) := by decide +kernel
theorem dX3_change_0 : decode cX3_change 0 = .ok (.iload_n 1, 1) := by decide +kernel
theorem dX3_change_1 : decode cX3_change 1 = .ok (.bipush 12, 2) := by decide +kernel
theorem dX3_change_3 : decode cX3_change 3 = .ok (.invokestatic 70, 3) := by decide +kernel
theorem dX3_change_6 : decode cX3_change 6 = .ok (.ifCond .eq 12, 3) := by decide +kernel
theorem dX3_change_9 : decode cX3_change 9 = .ok (.iload_n 2, 1) := by decide +kernel
theorem dX3_change_10 : decode cX3_change 10 = .ok (.bipush 16, 2) := by decide +kernel
theorem dX3_change_12 : decode cX3_change 12 = .ok (.invokestatic 70, 3) := by decide +kernel
theorem dX3_change_15 : decode cX3_change 15 = .ok (.ifCond .ne 13, 3) := by decide +kernel
theorem dX3_change_18 : decode cX3_change 18 = .ok (.new 74, 3) := by decide +kernel
theorem dX3_change_21 : decode cX3_change 21 = .ok (.dup, 1) := by decide +kernel
theorem dX3_change_22 : decode cX3_change 22 = .ok (.ldc 76, 2) := by decide +kernel
theorem dX3_change_24 : decode cX3_change 24 = .ok (.invokespecial 78, 3) := by decide +kernel
theorem dX3_change_27 : decode cX3_change 27 = .ok (.athrow, 1) := by decide +kernel
theorem dX3_change_28 : decode cX3_change 28 = .ok (.iload_n 3, 1) := by decide +kernel
theorem dX3_change_29 : decode cX3_change 29 = .ok (.iconst 1, 1) := by decide +kernel
theorem dX3_change_30 : decode cX3_change 30 = .ok (.if_icmp .lt 11, 3) := by decide +kernel
theorem dX3_change_33 : decode cX3_change 33 = .ok (.iload_n 3, 1) := by decide +kernel
theorem dX3_change_34 : decode cX3_change 34 = .ok (.bipush 16, 2) := by decide +kernel
theorem dX3_change_36 : decode cX3_change 36 = .ok (.iload_n 2, 1) := by decide +kernel
theorem dX3_change_37 : decode cX3_change 37 = .ok (.isub, 1) := by decide +kernel
theorem dX3_change_38 : decode cX3_change 38 = .ok (.if_icmp .le 13, 3) := by decide +kernel
theorem dX3_change_41 : decode cX3_change 41 = .ok (.new 74, 3) := by decide +kernel
theorem dX3_change_44 : decode cX3_change 44 = .ok (.dup, 1) := by decide +kernel
theorem dX3_change_45 : decode cX3_change 45 = .ok (.ldc 81, 2) := by decide +kernel
theorem dX3_change_47 : decode cX3_change 47 = .ok (.invokespecial 78, 3) := by decide +kernel
theorem dX3_change_50 : decode cX3_change 50 = .ok (.athrow, 1) := by decide +kernel
theorem dX3_change_51 : decode cX3_change 51 = .ok (.aload_n 0, 1) := by decide +kernel
theorem dX3_change_52 : decode cX3_change 52 = .ok (.getfield 31, 3) := by decide +kernel
theorem dX3_change_55 : decode cX3_change 55 = .ok (.ifCond .eq 13, 3) := by decide +kernel
theorem dX3_change_58 : decode cX3_change 58 = .ok (.new 83, 3) := by decide +kernel
theorem dX3_change_61 : decode cX3_change 61 = .ok (.dup, 1) := by decide +kernel
theorem dX3_change_62 : decode cX3_change 62 = .ok (.ldc 85, 2) := by decide +kernel
theorem dX3_change_64 : decode cX3_change 64 = .ok (.invokespecial 87, 3) := by decide +kernel
theorem dX3_change_67 : decode cX3_change 67 = .ok (.athrow, 1) := by decide +kernel
theorem dX3_change_68 : decode cX3_change 68 = .ok (.aload_n 0, 1) := by decide +kernel
theorem dX3_change_69 : decode cX3_change 69 = .ok (.invokevirtual 88, 3) := by decide +kernel
theorem dX3_change_72 : decode cX3_change 72 = .ok (.iload_n 3, 1) := by decide +kernel
theorem dX3_change_73 : decode cX3_change 73 = .ok (.if_icmp .ge 28, 3) := by decide +kernel
theorem dX3_change_76 : decode cX3_change 76 = .ok (.aload_n 0, 1) := by decide +kernel
theorem dX3_change_77 : decode cX3_change 77 = .ok (.invokevirtual 92, 3) := by decide +kernel
theorem dX3_change_80 : decode cX3_change 80 = .ok (.bipush (-3), 2) := by decide +kernel
theorem dX3_change_82 : decode cX3_change 82 = .ok (.if_icmp .ne 8, 3) := by decide +kernel
theorem dX3_change_85 : decode cX3_change 85 = .ok (.aload_n 0, 1) := by decide +kernel
theorem dX3_change_86 : decode cX3_change 86 = .ok (.invokevirtual 95, 3) := by decide +kernel
theorem dX3_change_89 : decode cX3_change 89 = .ok (.ireturn, 1) := by decide +kernel
theorem dX3_change_90 : decode cX3_change 90 = .ok (.aload_n 0, 1) := by decide +kernel
theorem dX3_change_91 : decode cX3_change 91 = .ok (.invokevirtual 88, 3) := by decide +kernel
theorem dX3_change_94 : decode cX3_change 94 = .ok (.iload_n 3, 1) := by decide +kernel
theorem dX3_change_95 : decode cX3_change 95 = .ok (.if_icmp .ge 6, 3) := by decide +kernel
theorem dX3_change_98 : decode cX3_change 98 = .ok (.bipush (-2), 2) := by decide +kernel
theorem dX3_change_100 : decode cX3_change 100 = .ok (.ireturn, 1) := by decide +kernel
theorem dX3_change_101 : decode cX3_change 101 = .ok (.aload_n 0, 1) := by decide +kernel
theorem dX3_change_102 : decode cX3_change 102 = .ok (.iload_n 1, 1) := by decide +kernel
theorem dX3_change_103 : decode cX3_change 103 = .ok (.invokevirtual 98, 3) := by decide +kernel
theorem dX3_change_106 : decode cX3_change 106 = .ok (.astore 6, 2) := by decide +kernel
theorem dX3_change_108 : decode cX3_change 108 = .ok (.aload 6, 2) := by decide +kernel
theorem dX3_change_110 : decode cX3_change 110 = .ok (.ifnonnull 8, 3) := by decide +kernel
theorem dX3_change_113 : decode cX3_change 113 = .ok (.aload_n 0, 1) := by decide +kernel
theorem dX3_change_114 : decode cX3_change 114 = .ok (.invokevirtual 95, 3) := by decide +kernel
theorem dX3_change_117 : decode cX3_change 117 = .ok (.ireturn, 1) := by decide +kernel
theorem dX3_change_118 : decode cX3_change 118 = .ok (.aload_n 0, 1) := by decide +kernel
theorem dX3_change_119 : decode cX3_change 119 = .ok (.aload 6, 2) := by decide +kernel
theorem dX3_change_121 : decode cX3_change 121 = .ok (.iload_n 2, 1) := by decide +kernel
theorem dX3_change_122 : decode cX3_change 122 = .ok (.iload_n 3, 1) := by decide +kernel
theorem dX3_change_123 : decode cX3_change 123 = .ok (.iload 4, 2) := by decide +kernel
theorem dX3_change_125 : decode cX3_change 125 = .ok (.iload 5, 2) := by decide +kernel
theorem dX3_change_127 : decode cX3_change 127 = .ok (.invokevirtual 102, 3) := by decide +kernel
theorem dX3_change_130 : decode cX3_change 130 = .ok (.aload_n 0, 1) := by decide +kernel
theorem dX3_change_131 : decode cX3_change 131 = .ok (.getfield 56, 3) := by decide +kernel
theorem dX3_change_134 : decode cX3_change 134 = .ok (.iconst 1, 1) := by decide +kernel
theorem dX3_change_135 : decode cX3_change 135 = .ok (.isub, 1) := by decide +kernel
theorem dX3_change_136 : decode cX3_change 136 = .ok (.ireturn, 1) := by decide +kernel
theorem dX3_read_0 : decode cX3_read 0 = .ok (.iload_n 1, 1) := by decide +kernel
theorem dX3_read_1 : decode cX3_read 1 = .ok (.bipush 12, 2) := by decide +kernel
theorem dX3_read_3 : decode cX3_read 3 = .ok (.invokestatic 70, 3) := by decide +kernel
theorem dX3_read_6 : decode cX3_read 6 = .ok (.ifCond .eq 12, 3) := by decide +kernel
theorem dX3_read_9 : decode cX3_read 9 = .ok (.iload_n 2, 1) := by decide +kernel
theorem dX3_read_10 : decode cX3_read 10 = .ok (.bipush 16, 2) := by decide +kernel
theorem dX3_read_12 : decode cX3_read 12 = .ok (.invokestatic 70, 3) := by decide +kernel
theorem dX3_read_15 : decode cX3_read 15 = .ok (.ifCond .ne 13, 3) := by decide +kernel
theorem dX3_read_18 : decode cX3_read 18 = .ok (.new 74, 3) := by decide +kernel
theorem dX3_read_21 : decode cX3_read 21 = .ok (.dup, 1) := by decide +kernel
theorem dX3_read_22 : decode cX3_read 22 = .ok (.ldc 76, 2) := by decide +kernel
theorem dX3_read_24 : decode cX3_read 24 = .ok (.invokespecial 78, 3) := by decide +kernel
theorem dX3_read_27 : decode cX3_read 27 = .ok (.athrow, 1) := by decide +kernel
theorem dX3_read_28 : decode cX3_read 28 = .ok (.aload_n 0, 1) := by decide +kernel
theorem dX3_read_29 : decode cX3_read 29 = .ok (.getfield 31, 3) := by decide +kernel
theorem dX3_read_32 : decode cX3_read 32 = .ok (.ifCond .eq 13, 3) := by decide +kernel
theorem dX3_read_35 : decode cX3_read 35 = .ok (.new 83, 3) := by decide +kernel
theorem dX3_read_38 : decode cX3_read 38 = .ok (.dup, 1) := by decide +kernel
theorem dX3_read_39 : decode cX3_read 39 = .ok (.ldc 85, 2) := by decide +kernel
theorem dX3_read_41 : decode cX3_read 41 = .ok (.invokespecial 87, 3) := by decide +kernel
theorem dX3_read_44 : decode cX3_read 44 = .ok (.athrow, 1) := by decide +kernel
theorem dX3_read_45 : decode cX3_read 45 = .ok (.aload_n 0, 1) := by decide +kernel
theorem dX3_read_46 : decode cX3_read 46 = .ok (.iload_n 1, 1) := by decide +kernel
theorem dX3_read_47 : decode cX3_read 47 = .ok (.invokevirtual 98, 3) := by decide +kernel
theorem dX3_read_50 : decode cX3_read 50 = .ok (.astore_n 3, 1) := by decide +kernel
theorem dX3_read_51 : decode cX3_read 51 = .ok (.aload_n 3, 1) := by decide +kernel
theorem dX3_read_52 : decode cX3_read 52 = .ok (.ifnonnull 13, 3) := by decide +kernel
theorem dX3_read_55 : decode cX3_read 55 = .ok (.aload_n 0, 1) := by decide +kernel
theorem dX3_read_56 : decode cX3_read 56 = .ok (.iconst 0, 1) := by decide +kernel
theorem dX3_read_57 : decode cX3_read 57 = .ok (.putfield 62, 3) := by decide +kernel
theorem dX3_read_60 : decode cX3_read 60 = .ok (.aload_n 0, 1) := by decide +kernel
theorem dX3_read_61 : decode cX3_read 61 = .ok (.invokevirtual 95, 3) := by decide +kernel
theorem dX3_read_64 : decode cX3_read 64 = .ok (.ireturn, 1) := by decide +kernel
theorem dX3_read_65 : decode cX3_read 65 = .ok (.aload_n 0, 1) := by decide +kernel
theorem dX3_read_66 : decode cX3_read 66 = .ok (.aload_n 3, 1) := by decide +kernel
theorem dX3_read_67 : decode cX3_read 67 = .ok (.getfield 106, 3) := by decide +kernel
theorem dX3_read_70 : decode cX3_read 70 = .ok (.iload_n 2, 1) := by decide +kernel
theorem dX3_read_71 : decode cX3_read 71 = .ok (.iaload, 1) := by decide +kernel
theorem dX3_read_72 : decode cX3_read 72 = .ok (.putfield 62, 3) := by decide +kernel
theorem dX3_read_75 : decode cX3_read 75 = .ok (.iconst 1, 1) := by decide +kernel
theorem dX3_read_76 : decode cX3_read 76 = .ok (.ireturn, 1) := by decide +kernel
theorem dX3_got_0 : decode cX3_got 0 = .ok (.aload_n 0, 1) := by decide +kernel
theorem dX3_got_1 : decode cX3_got 1 = .ok (.getfield 62, 3) := by decide +kernel
theorem dX3_got_4 : decode cX3_got 4 = .ok (.ireturn, 1) := by decide +kernel
theorem dX3_sync_0 : decode cX3_sync 0 = .ok (.aload_n 0, 1) := by decide +kernel
theorem dX3_sync_1 : decode cX3_sync 1 = .ok (.getfield 31, 3) := by decide +kernel
theorem dX3_sync_4 : decode cX3_sync 4 = .ok (.ifCond .eq 13, 3) := by decide +kernel
theorem dX3_sync_7 : decode cX3_sync 7 = .ok (.new 83, 3) := by decide +kernel
theorem dX3_sync_10 : decode cX3_sync 10 = .ok (.dup, 1) := by decide +kernel
theorem dX3_sync_11 : decode cX3_sync 11 = .ok (.ldc 85, 2) := by decide +kernel
theorem dX3_sync_13 : decode cX3_sync 13 = .ok (.invokespecial 87, 3) := by decide +kernel
theorem dX3_sync_16 : decode cX3_sync 16 = .ok (.athrow, 1) := by decide +kernel
theorem dX3_sync_17 : decode cX3_sync 17 = .ok (.aload_n 0, 1) := by decide +kernel
theorem dX3_sync_18 : decode cX3_sync 18 = .ok (.invokevirtual 110, 3) := by decide +kernel
theorem dX3_sync_21 : decode cX3_sync 21 = .ok (.istore_n 1, 1) := by decide +kernel
theorem dX3_sync_22 : decode cX3_sync 22 = .ok (.iload_n 1, 1) := by decide +kernel
theorem dX3_sync_23 : decode cX3_sync 23 = .ok (.bipush (-3), 2) := by decide +kernel
theorem dX3_sync_25 : decode cX3_sync 25 = .ok (.if_icmp .ne 10, 3) := by decide +kernel
theorem dX3_sync_28 : decode cX3_sync 28 = .ok (.aload_n 0, 1) := by decide +kernel
theorem dX3_sync_29 : decode cX3_sync 29 = .ok (.invokevirtual 95, 3) := by decide +kernel
theorem dX3_sync_32 : decode cX3_sync 32 = .ok (.goto 4, 3) := by decide +kernel
theorem dX3_sync_35 : decode cX3_sync 35 = .ok (.iload_n 1, 1) := by decide +kernel
theorem dX3_sync_36 : decode cX3_sync 36 = .ok (.ireturn, 1) := by decide +kernel
theorem dX3_checkpoint_0 : decode cX3_checkpoint 0 = .ok (.aload_n 0, 1) := by decide +kernel
theorem dX3_checkpoint_1 : decode cX3_checkpoint 1 = .ok (.getfield 31, 3) := by decide +kernel
theorem dX3_checkpoint_4 : decode cX3_checkpoint 4 = .ok (.ifCond .eq 13, 3) := by decide +kernel
theorem dX3_checkpoint_7 : decode cX3_checkpoint 7 = .ok (.new 83, 3) := by decide +kernel
theorem dX3_checkpoint_10 : decode cX3_checkpoint 10 = .ok (.dup, 1) := by decide +kernel
theorem dX3_checkpoint_11 : decode cX3_checkpoint 11 = .ok (.ldc 85, 2) := by decide +kernel
theorem dX3_checkpoint_13 : decode cX3_checkpoint 13 = .ok (.invokespecial 87, 3) := by decide +kernel
theorem dX3_checkpoint_16 : decode cX3_checkpoint 16 = .ok (.athrow, 1) := by decide +kernel
theorem dX3_checkpoint_17 : decode cX3_checkpoint 17 = .ok (.aload_n 0, 1) := by decide +kernel
theorem dX3_checkpoint_18 : decode cX3_checkpoint 18 = .ok (.invokevirtual 92, 3) := by decide +kernel
theorem dX3_checkpoint_21 : decode cX3_checkpoint 21 = .ok (.istore_n 1, 1) := by decide +kernel
theorem dX3_checkpoint_22 : decode cX3_checkpoint 22 = .ok (.iload_n 1, 1) := by decide +kernel
theorem dX3_checkpoint_23 : decode cX3_checkpoint 23 = .ok (.bipush (-3), 2) := by decide +kernel
theorem dX3_checkpoint_25 : decode cX3_checkpoint 25 = .ok (.if_icmp .ne 10, 3) := by decide +kernel
theorem dX3_checkpoint_28 : decode cX3_checkpoint 28 = .ok (.aload_n 0, 1) := by decide +kernel
theorem dX3_checkpoint_29 : decode cX3_checkpoint 29 = .ok (.invokevirtual 95, 3) := by decide +kernel
theorem dX3_checkpoint_32 : decode cX3_checkpoint 32 = .ok (.goto 4, 3) := by decide +kernel
theorem dX3_checkpoint_35 : decode cX3_checkpoint 35 = .ok (.iload_n 1, 1) := by decide +kernel
theorem dX3_checkpoint_36 : decode cX3_checkpoint 36 = .ok (.ireturn, 1) := by decide +kernel
theorem dX3_power_0 : decode cX3_power 0 = .ok (.iload_n 1, 1) := by decide +kernel
theorem dX3_power_1 : decode cX3_power 1 = .ok (.iconst (-1), 1) := by decide +kernel
theorem dX3_power_2 : decode cX3_power 2 = .ok (.if_icmp .lt 10, 3) := by decide +kernel
theorem dX3_power_5 : decode cX3_power 5 = .ok (.iload_n 1, 1) := by decide +kernel
theorem dX3_power_6 : decode cX3_power 6 = .ok (.sipush 10000, 3) := by decide +kernel
theorem dX3_power_9 : decode cX3_power 9 = .ok (.if_icmp .le 13, 3) := by decide +kernel
theorem dX3_power_12 : decode cX3_power 12 = .ok (.new 74, 3) := by decide +kernel
theorem dX3_power_15 : decode cX3_power 15 = .ok (.dup, 1) := by decide +kernel
theorem dX3_power_16 : decode cX3_power 16 = .ok (.ldc 113, 2) := by decide +kernel
theorem dX3_power_18 : decode cX3_power 18 = .ok (.invokespecial 78, 3) := by decide +kernel
theorem dX3_power_21 : decode cX3_power 21 = .ok (.athrow, 1) := by decide +kernel
theorem dX3_power_22 : decode cX3_power 22 = .ok (.aload_n 0, 1) := by decide +kernel
theorem dX3_power_23 : decode cX3_power 23 = .ok (.iload_n 1, 1) := by decide +kernel
theorem dX3_power_24 : decode cX3_power 24 = .ok (.putfield 28, 3) := by decide +kernel
theorem dX3_power_27 : decode cX3_power 27 = .ok (.return_, 1) := by decide +kernel
theorem dX3_recover_0 : decode cX3_recover 0 = .ok (.aload_n 0, 1) := by decide +kernel
theorem dX3_recover_1 : decode cX3_recover 1 = .ok (.getfield 31, 3) := by decide +kernel
theorem dX3_recover_4 : decode cX3_recover 4 = .ok (.ifCond .ne 13, 3) := by decide +kernel
theorem dX3_recover_7 : decode cX3_recover 7 = .ok (.new 83, 3) := by decide +kernel
theorem dX3_recover_10 : decode cX3_recover 10 = .ok (.dup, 1) := by decide +kernel
theorem dX3_recover_11 : decode cX3_recover 11 = .ok (.ldc 115, 2) := by decide +kernel
theorem dX3_recover_13 : decode cX3_recover 13 = .ok (.invokespecial 87, 3) := by decide +kernel
theorem dX3_recover_16 : decode cX3_recover 16 = .ok (.athrow, 1) := by decide +kernel
theorem dX3_recover_17 : decode cX3_recover 17 = .ok (.aload_n 0, 1) := by decide +kernel
theorem dX3_recover_18 : decode cX3_recover 18 = .ok (.invokevirtual 117, 3) := by decide +kernel
theorem dX3_recover_21 : decode cX3_recover 21 = .ok (.ifCond .ne 8, 3) := by decide +kernel
theorem dX3_recover_24 : decode cX3_recover 24 = .ok (.aload_n 0, 1) := by decide +kernel
theorem dX3_recover_25 : decode cX3_recover 25 = .ok (.invokevirtual 95, 3) := by decide +kernel
theorem dX3_recover_28 : decode cX3_recover 28 = .ok (.ireturn, 1) := by decide +kernel
theorem dX3_recover_29 : decode cX3_recover 29 = .ok (.aload_n 0, 1) := by decide +kernel
theorem dX3_recover_30 : decode cX3_recover 30 = .ok (.invokevirtual 121, 3) := by decide +kernel
theorem dX3_recover_33 : decode cX3_recover 33 = .ok (.istore_n 1, 1) := by decide +kernel
theorem dX3_recover_34 : decode cX3_recover 34 = .ok (.iload_n 1, 1) := by decide +kernel
theorem dX3_recover_35 : decode cX3_recover 35 = .ok (.bipush (-3), 2) := by decide +kernel
theorem dX3_recover_37 : decode cX3_recover 37 = .ok (.if_icmp .ne 8, 3) := by decide +kernel
theorem dX3_recover_40 : decode cX3_recover 40 = .ok (.aload_n 0, 1) := by decide +kernel
theorem dX3_recover_41 : decode cX3_recover 41 = .ok (.invokevirtual 95, 3) := by decide +kernel
theorem dX3_recover_44 : decode cX3_recover 44 = .ok (.ireturn, 1) := by decide +kernel
theorem dX3_recover_45 : decode cX3_recover 45 = .ok (.aload_n 0, 1) := by decide +kernel
theorem dX3_recover_46 : decode cX3_recover 46 = .ok (.iload_n 1, 1) := by decide +kernel
theorem dX3_recover_47 : decode cX3_recover 47 = .ok (.putfield 56, 3) := by decide +kernel
theorem dX3_recover_50 : decode cX3_recover 50 = .ok (.aload_n 0, 1) := by decide +kernel
theorem dX3_recover_51 : decode cX3_recover 51 = .ok (.iconst 0, 1) := by decide +kernel
theorem dX3_recover_52 : decode cX3_recover 52 = .ok (.putfield 31, 3) := by decide +kernel
theorem dX3_recover_55 : decode cX3_recover 55 = .ok (.aload_n 0, 1) := by decide +kernel
theorem dX3_recover_56 : decode cX3_recover 56 = .ok (.getfield 56, 3) := by decide +kernel
theorem dX3_recover_59 : decode cX3_recover 59 = .ok (.iconst 1, 1) := by decide +kernel
theorem dX3_recover_60 : decode cX3_recover 60 = .ok (.isub, 1) := by decide +kernel
theorem dX3_recover_61 : decode cX3_recover 61 = .ok (.ireturn, 1) := by decide +kernel
theorem dX3_cut_0 : decode cX3_cut 0 = .ok (.aload_n 0, 1) := by decide +kernel
theorem dX3_cut_1 : decode cX3_cut 1 = .ok (.getfield 31, 3) := by decide +kernel
theorem dX3_cut_4 : decode cX3_cut 4 = .ok (.ifCond .eq 13, 3) := by decide +kernel
theorem dX3_cut_7 : decode cX3_cut 7 = .ok (.new 83, 3) := by decide +kernel
theorem dX3_cut_10 : decode cX3_cut 10 = .ok (.dup, 1) := by decide +kernel
theorem dX3_cut_11 : decode cX3_cut 11 = .ok (.ldc 85, 2) := by decide +kernel
theorem dX3_cut_13 : decode cX3_cut 13 = .ok (.invokespecial 87, 3) := by decide +kernel
theorem dX3_cut_16 : decode cX3_cut 16 = .ok (.athrow, 1) := by decide +kernel
theorem dX3_cut_17 : decode cX3_cut 17 = .ok (.aload_n 0, 1) := by decide +kernel
theorem dX3_cut_18 : decode cX3_cut 18 = .ok (.getfield 53, 3) := by decide +kernel
theorem dX3_cut_21 : decode cX3_cut 21 = .ok (.istore_n 1, 1) := by decide +kernel
theorem dX3_cut_22 : decode cX3_cut 22 = .ok (.aload_n 0, 1) := by decide +kernel
theorem dX3_cut_23 : decode cX3_cut 23 = .ok (.invokevirtual 124, 3) := by decide +kernel
theorem dX3_cut_26 : decode cX3_cut 26 = .ok (.iload_n 1, 1) := by decide +kernel
theorem dX3_cut_27 : decode cX3_cut 27 = .ok (.ireturn, 1) := by decide +kernel
theorem dX3_disk_0 : decode cX3_disk 0 = .ok (.iload_n 1, 1) := by decide +kernel
theorem dX3_disk_1 : decode cX3_disk 1 = .ok (.tableswitch 69 0 3 #[31, 43, 55, 62], 31) := by decide +kernel
theorem dX3_disk_32 : decode cX3_disk 32 = .ok (.aload_n 0, 1) := by decide +kernel
theorem dX3_disk_33 : decode cX3_disk 33 = .ok (.getfield 11, 3) := by decide +kernel
theorem dX3_disk_36 : decode cX3_disk 36 = .ok (.iload_n 2, 1) := by decide +kernel
theorem dX3_disk_37 : decode cX3_disk 37 = .ok (.iload_n 3, 1) := by decide +kernel
theorem dX3_disk_38 : decode cX3_disk 38 = .ok (.bipush 20, 2) := by decide +kernel
theorem dX3_disk_40 : decode cX3_disk 40 = .ok (.invokestatic 127, 3) := by decide +kernel
theorem dX3_disk_43 : decode cX3_disk 43 = .ok (.ireturn, 1) := by decide +kernel
theorem dX3_disk_44 : decode cX3_disk 44 = .ok (.aload_n 0, 1) := by decide +kernel
theorem dX3_disk_45 : decode cX3_disk 45 = .ok (.getfield 15, 3) := by decide +kernel
theorem dX3_disk_48 : decode cX3_disk 48 = .ok (.iload_n 2, 1) := by decide +kernel
theorem dX3_disk_49 : decode cX3_disk 49 = .ok (.iload_n 3, 1) := by decide +kernel
theorem dX3_disk_50 : decode cX3_disk 50 = .ok (.bipush 24, 2) := by decide +kernel
theorem dX3_disk_52 : decode cX3_disk 52 = .ok (.invokestatic 127, 3) := by decide +kernel
theorem dX3_disk_55 : decode cX3_disk 55 = .ok (.ireturn, 1) := by decide +kernel
theorem dX3_disk_56 : decode cX3_disk 56 = .ok (.aload_n 0, 1) := by decide +kernel
theorem dX3_disk_57 : decode cX3_disk 57 = .ok (.iload_n 2, 1) := by decide +kernel
theorem dX3_disk_58 : decode cX3_disk 58 = .ok (.iload_n 3, 1) := by decide +kernel
theorem dX3_disk_59 : decode cX3_disk 59 = .ok (.invokevirtual 131, 3) := by decide +kernel
theorem dX3_disk_62 : decode cX3_disk 62 = .ok (.ireturn, 1) := by decide +kernel
theorem dX3_disk_63 : decode cX3_disk 63 = .ok (.aload_n 0, 1) := by decide +kernel
theorem dX3_disk_64 : decode cX3_disk 64 = .ok (.iload_n 2, 1) := by decide +kernel
theorem dX3_disk_65 : decode cX3_disk 65 = .ok (.iload_n 3, 1) := by decide +kernel
theorem dX3_disk_66 : decode cX3_disk 66 = .ok (.invokevirtual 135, 3) := by decide +kernel
theorem dX3_disk_69 : decode cX3_disk 69 = .ok (.ireturn, 1) := by decide +kernel
theorem dX3_disk_70 : decode cX3_disk 70 = .ok (.new 74, 3) := by decide +kernel
theorem dX3_disk_73 : decode cX3_disk 73 = .ok (.dup, 1) := by decide +kernel
theorem dX3_disk_74 : decode cX3_disk 74 = .ok (.ldc 138, 2) := by decide +kernel
theorem dX3_disk_76 : decode cX3_disk 76 = .ok (.invokespecial 78, 3) := by decide +kernel
theorem dX3_disk_79 : decode cX3_disk 79 = .ok (.athrow, 1) := by decide +kernel
theorem dX3_frame_0 : decode cX3_frame 0 = .ok (.iload_n 1, 1) := by decide +kernel
theorem dX3_frame_1 : decode cX3_frame 1 = .ok (.iconst 4, 1) := by decide +kernel
theorem dX3_frame_2 : decode cX3_frame 2 = .ok (.invokestatic 70, 3) := by decide +kernel
theorem dX3_frame_5 : decode cX3_frame 5 = .ok (.ifCond .eq 12, 3) := by decide +kernel
theorem dX3_frame_8 : decode cX3_frame 8 = .ok (.iload_n 2, 1) := by decide +kernel
theorem dX3_frame_9 : decode cX3_frame 9 = .ok (.bipush 19, 2) := by decide +kernel
theorem dX3_frame_11 : decode cX3_frame 11 = .ok (.invokestatic 70, 3) := by decide +kernel
theorem dX3_frame_14 : decode cX3_frame 14 = .ok (.ifCond .ne 13, 3) := by decide +kernel
theorem dX3_frame_17 : decode cX3_frame 17 = .ok (.new 74, 3) := by decide +kernel
theorem dX3_frame_20 : decode cX3_frame 20 = .ok (.dup, 1) := by decide +kernel
theorem dX3_frame_21 : decode cX3_frame 21 = .ok (.ldc 140, 2) := by decide +kernel
theorem dX3_frame_23 : decode cX3_frame 23 = .ok (.invokespecial 78, 3) := by decide +kernel
theorem dX3_frame_26 : decode cX3_frame 26 = .ok (.athrow, 1) := by decide +kernel
theorem dX3_frame_27 : decode cX3_frame 27 = .ok (.aload_n 0, 1) := by decide +kernel
theorem dX3_frame_28 : decode cX3_frame 28 = .ok (.getfield 46, 3) := by decide +kernel
theorem dX3_frame_31 : decode cX3_frame 31 = .ok (.iload_n 1, 1) := by decide +kernel
theorem dX3_frame_32 : decode cX3_frame 32 = .ok (.aaload, 1) := by decide +kernel
theorem dX3_frame_33 : decode cX3_frame 33 = .ok (.iload_n 2, 1) := by decide +kernel
theorem dX3_frame_34 : decode cX3_frame 34 = .ok (.invokevirtual 142, 3) := by decide +kernel
theorem dX3_frame_37 : decode cX3_frame 37 = .ok (.ireturn, 1) := by decide +kernel
theorem dX3_count_0 : decode cX3_count 0 = .ok (.iload_n 1, 1) := by decide +kernel
theorem dX3_count_1 : decode cX3_count 1 = .ok (.tableswitch 110 0 6 #[43, 61, 66, 71, 84, 89, 94], 43) := by decide +kernel
theorem dX3_count_44 : decode cX3_count 44 = .ok (.aload_n 0, 1) := by decide +kernel
theorem dX3_count_45 : decode cX3_count 45 = .ok (.getfield 31, 3) := by decide +kernel
theorem dX3_count_48 : decode cX3_count 48 = .ok (.ifCond .eq 7, 3) := by decide +kernel
theorem dX3_count_51 : decode cX3_count 51 = .ok (.iconst 0, 1) := by decide +kernel
theorem dX3_count_52 : decode cX3_count 52 = .ok (.goto 9, 3) := by decide +kernel
theorem dX3_count_55 : decode cX3_count 55 = .ok (.aload_n 0, 1) := by decide +kernel
theorem dX3_count_56 : decode cX3_count 56 = .ok (.getfield 56, 3) := by decide +kernel
theorem dX3_count_59 : decode cX3_count 59 = .ok (.iconst 1, 1) := by decide +kernel
theorem dX3_count_60 : decode cX3_count 60 = .ok (.isub, 1) := by decide +kernel
theorem dX3_count_61 : decode cX3_count 61 = .ok (.ireturn, 1) := by decide +kernel
theorem dX3_count_62 : decode cX3_count 62 = .ok (.aload_n 0, 1) := by decide +kernel
theorem dX3_count_63 : decode cX3_count 63 = .ok (.getfield 53, 3) := by decide +kernel
theorem dX3_count_66 : decode cX3_count 66 = .ok (.ireturn, 1) := by decide +kernel
theorem dX3_count_67 : decode cX3_count 67 = .ok (.aload_n 0, 1) := by decide +kernel
theorem dX3_count_68 : decode cX3_count 68 = .ok (.getfield 35, 3) := by decide +kernel
theorem dX3_count_71 : decode cX3_count 71 = .ok (.ireturn, 1) := by decide +kernel
theorem dX3_count_72 : decode cX3_count 72 = .ok (.aload_n 0, 1) := by decide +kernel
theorem dX3_count_73 : decode cX3_count 73 = .ok (.getfield 31, 3) := by decide +kernel
theorem dX3_count_76 : decode cX3_count 76 = .ok (.ifCond .eq 7, 3) := by decide +kernel
theorem dX3_count_79 : decode cX3_count 79 = .ok (.iconst 1, 1) := by decide +kernel
theorem dX3_count_80 : decode cX3_count 80 = .ok (.goto 4, 3) := by decide +kernel
theorem dX3_count_83 : decode cX3_count 83 = .ok (.iconst 0, 1) := by decide +kernel
theorem dX3_count_84 : decode cX3_count 84 = .ok (.ireturn, 1) := by decide +kernel
theorem dX3_count_85 : decode cX3_count 85 = .ok (.aload_n 0, 1) := by decide +kernel
theorem dX3_count_86 : decode cX3_count 86 = .ok (.getfield 38, 3) := by decide +kernel
theorem dX3_count_89 : decode cX3_count 89 = .ok (.ireturn, 1) := by decide +kernel
theorem dX3_count_90 : decode cX3_count 90 = .ok (.aload_n 0, 1) := by decide +kernel
theorem dX3_count_91 : decode cX3_count 91 = .ok (.getfield 41, 3) := by decide +kernel
theorem dX3_count_94 : decode cX3_count 94 = .ok (.ireturn, 1) := by decide +kernel
theorem dX3_count_95 : decode cX3_count 95 = .ok (.aload_n 0, 1) := by decide +kernel
theorem dX3_count_96 : decode cX3_count 96 = .ok (.getfield 31, 3) := by decide +kernel
theorem dX3_count_99 : decode cX3_count 99 = .ok (.ifCond .eq 7, 3) := by decide +kernel
theorem dX3_count_102 : decode cX3_count 102 = .ok (.iconst 0, 1) := by decide +kernel
theorem dX3_count_103 : decode cX3_count 103 = .ok (.goto 7, 3) := by decide +kernel
theorem dX3_count_106 : decode cX3_count 106 = .ok (.aload_n 0, 1) := by decide +kernel
theorem dX3_count_107 : decode cX3_count 107 = .ok (.invokevirtual 88, 3) := by decide +kernel
theorem dX3_count_110 : decode cX3_count 110 = .ok (.ireturn, 1) := by decide +kernel
theorem dX3_count_111 : decode cX3_count 111 = .ok (.new 74, 3) := by decide +kernel
theorem dX3_count_114 : decode cX3_count 114 = .ok (.dup, 1) := by decide +kernel
theorem dX3_count_115 : decode cX3_count 115 = .ok (.ldc 146, 2) := by decide +kernel
theorem dX3_count_117 : decode cX3_count 117 = .ok (.invokespecial 78, 3) := by decide +kernel
theorem dX3_count_120 : decode cX3_count 120 = .ok (.athrow, 1) := by decide +kernel
theorem dX3_isIn_0 : decode cX3_isIn 0 = .ok (.iload_n 0, 1) := by decide +kernel
theorem dX3_isIn_1 : decode cX3_isIn 1 = .ok (.ifCond .lt 12, 3) := by decide +kernel
theorem dX3_isIn_4 : decode cX3_isIn 4 = .ok (.iload_n 0, 1) := by decide +kernel
theorem dX3_isIn_5 : decode cX3_isIn 5 = .ok (.iload_n 1, 1) := by decide +kernel
theorem dX3_isIn_6 : decode cX3_isIn 6 = .ok (.if_icmp .ge 7, 3) := by decide +kernel
theorem dX3_isIn_9 : decode cX3_isIn 9 = .ok (.iconst 1, 1) := by decide +kernel
theorem dX3_isIn_10 : decode cX3_isIn 10 = .ok (.goto 4, 3) := by decide +kernel
theorem dX3_isIn_13 : decode cX3_isIn 13 = .ok (.iconst 0, 1) := by decide +kernel
theorem dX3_isIn_14 : decode cX3_isIn 14 = .ok (.ireturn, 1) := by decide +kernel
theorem dX3_placeValue_0 : decode cX3_placeValue 0 = .ok (.iload_n 1, 1) := by decide +kernel
theorem dX3_placeValue_1 : decode cX3_placeValue 1 = .ok (.aload_n 0, 1) := by decide +kernel
theorem dX3_placeValue_2 : decode cX3_placeValue 2 = .ok (.arraylength, 1) := by decide +kernel
theorem dX3_placeValue_3 : decode cX3_placeValue 3 = .ok (.invokestatic 70, 3) := by decide +kernel
theorem dX3_placeValue_6 : decode cX3_placeValue 6 = .ok (.ifCond .eq 11, 3) := by decide +kernel
theorem dX3_placeValue_9 : decode cX3_placeValue 9 = .ok (.iload_n 2, 1) := by decide +kernel
theorem dX3_placeValue_10 : decode cX3_placeValue 10 = .ok (.iload_n 3, 1) := by decide +kernel
theorem dX3_placeValue_11 : decode cX3_placeValue 11 = .ok (.invokestatic 70, 3) := by decide +kernel
theorem dX3_placeValue_14 : decode cX3_placeValue 14 = .ok (.ifCond .ne 13, 3) := by decide +kernel
theorem dX3_placeValue_17 : decode cX3_placeValue 17 = .ok (.new 74, 3) := by decide +kernel
theorem dX3_placeValue_20 : decode cX3_placeValue 20 = .ok (.dup, 1) := by decide +kernel
theorem dX3_placeValue_21 : decode cX3_placeValue 21 = .ok (.ldc 148, 2) := by decide +kernel
theorem dX3_placeValue_23 : decode cX3_placeValue 23 = .ok (.invokespecial 78, 3) := by decide +kernel
theorem dX3_placeValue_26 : decode cX3_placeValue 26 = .ok (.athrow, 1) := by decide +kernel
theorem dX3_placeValue_27 : decode cX3_placeValue 27 = .ok (.aload_n 0, 1) := by decide +kernel
theorem dX3_placeValue_28 : decode cX3_placeValue 28 = .ok (.iload_n 1, 1) := by decide +kernel
theorem dX3_placeValue_29 : decode cX3_placeValue 29 = .ok (.aaload, 1) := by decide +kernel
theorem dX3_placeValue_30 : decode cX3_placeValue 30 = .ok (.iload_n 2, 1) := by decide +kernel
theorem dX3_placeValue_31 : decode cX3_placeValue 31 = .ok (.invokevirtual 150, 3) := by decide +kernel
theorem dX3_placeValue_34 : decode cX3_placeValue 34 = .ok (.ireturn, 1) := by decide +kernel
theorem dX3_recordValue_0 : decode cX3_recordValue 0 = .ok (.iload_n 1, 1) := by decide +kernel
theorem dX3_recordValue_1 : decode cX3_recordValue 1 = .ok (.bipush 12, 2) := by decide +kernel
theorem dX3_recordValue_3 : decode cX3_recordValue 3 = .ok (.invokestatic 70, 3) := by decide +kernel
theorem dX3_recordValue_6 : decode cX3_recordValue 6 = .ok (.ifCond .eq 11, 3) := by decide +kernel
theorem dX3_recordValue_9 : decode cX3_recordValue 9 = .ok (.iload_n 2, 1) := by decide +kernel
theorem dX3_recordValue_10 : decode cX3_recordValue 10 = .ok (.iconst 4, 1) := by decide +kernel
theorem dX3_recordValue_11 : decode cX3_recordValue 11 = .ok (.invokestatic 70, 3) := by decide +kernel
theorem dX3_recordValue_14 : decode cX3_recordValue 14 = .ok (.ifCond .ne 13, 3) := by decide +kernel
theorem dX3_recordValue_17 : decode cX3_recordValue 17 = .ok (.new 74, 3) := by decide +kernel
theorem dX3_recordValue_20 : decode cX3_recordValue 20 = .ok (.dup, 1) := by decide +kernel
theorem dX3_recordValue_21 : decode cX3_recordValue 21 = .ok (.ldc 151, 2) := by decide +kernel
theorem dX3_recordValue_23 : decode cX3_recordValue 23 = .ok (.invokespecial 78, 3) := by decide +kernel
theorem dX3_recordValue_26 : decode cX3_recordValue 26 = .ok (.athrow, 1) := by decide +kernel
theorem dX3_recordValue_27 : decode cX3_recordValue 27 = .ok (.aload_n 0, 1) := by decide +kernel
theorem dX3_recordValue_28 : decode cX3_recordValue 28 = .ok (.getfield 20, 3) := by decide +kernel
theorem dX3_recordValue_31 : decode cX3_recordValue 31 = .ok (.iload_n 1, 1) := by decide +kernel
theorem dX3_recordValue_32 : decode cX3_recordValue 32 = .ok (.aaload, 1) := by decide +kernel
theorem dX3_recordValue_33 : decode cX3_recordValue 33 = .ok (.iload_n 2, 1) := by decide +kernel
theorem dX3_recordValue_34 : decode cX3_recordValue 34 = .ok (.invokevirtual 153, 3) := by decide +kernel
theorem dX3_recordValue_37 : decode cX3_recordValue 37 = .ok (.ireturn, 1) := by decide +kernel
theorem dX3_markValue_0 : decode cX3_markValue 0 = .ok (.iload_n 1, 1) := by decide +kernel
theorem dX3_markValue_1 : decode cX3_markValue 1 = .ok (.ifCond .ne 7, 3) := by decide +kernel
theorem dX3_markValue_4 : decode cX3_markValue 4 = .ok (.iload_n 2, 1) := by decide +kernel
theorem dX3_markValue_5 : decode cX3_markValue 5 = .ok (.ifCond .eq 13, 3) := by decide +kernel
theorem dX3_markValue_8 : decode cX3_markValue 8 = .ok (.new 74, 3) := by decide +kernel
theorem dX3_markValue_11 : decode cX3_markValue 11 = .ok (.dup, 1) := by decide +kernel
theorem dX3_markValue_12 : decode cX3_markValue 12 = .ok (.ldc 154, 2) := by decide +kernel
theorem dX3_markValue_14 : decode cX3_markValue 14 = .ok (.invokespecial 78, 3) := by decide +kernel
theorem dX3_markValue_17 : decode cX3_markValue 17 = .ok (.athrow, 1) := by decide +kernel
theorem dX3_markValue_18 : decode cX3_markValue 18 = .ok (.aload_n 0, 1) := by decide +kernel
theorem dX3_markValue_19 : decode cX3_markValue 19 = .ok (.getfield 24, 3) := by decide +kernel
theorem dX3_markValue_22 : decode cX3_markValue 22 = .ok (.ireturn, 1) := by decide +kernel
theorem dX3_room_0 : decode cX3_room 0 = .ok (.aload_n 0, 1) := by decide +kernel
theorem dX3_room_1 : decode cX3_room 1 = .ok (.getfield 24, 3) := by decide +kernel
theorem dX3_room_4 : decode cX3_room 4 = .ok (.bipush 12, 2) := by decide +kernel
theorem dX3_room_6 : decode cX3_room 6 = .ok (.iadd, 1) := by decide +kernel
theorem dX3_room_7 : decode cX3_room 7 = .ok (.aload_n 0, 1) := by decide +kernel
theorem dX3_room_8 : decode cX3_room 8 = .ok (.getfield 56, 3) := by decide +kernel
theorem dX3_room_11 : decode cX3_room 11 = .ok (.isub, 1) := by decide +kernel
theorem dX3_room_12 : decode cX3_room 12 = .ok (.ireturn, 1) := by decide +kernel
theorem dX3_powerHolds_0 : decode cX3_powerHolds 0 = .ok (.aload_n 0, 1) := by decide +kernel
theorem dX3_powerHolds_1 : decode cX3_powerHolds 1 = .ok (.getfield 28, 3) := by decide +kernel
theorem dX3_powerHolds_4 : decode cX3_powerHolds 4 = .ok (.ifCond .ne 5, 3) := by decide +kernel
theorem dX3_powerHolds_7 : decode cX3_powerHolds 7 = .ok (.iconst 0, 1) := by decide +kernel
theorem dX3_powerHolds_8 : decode cX3_powerHolds 8 = .ok (.ireturn, 1) := by decide +kernel
theorem dX3_powerHolds_9 : decode cX3_powerHolds 9 = .ok (.aload_n 0, 1) := by decide +kernel
theorem dX3_powerHolds_10 : decode cX3_powerHolds 10 = .ok (.getfield 28, 3) := by decide +kernel
theorem dX3_powerHolds_13 : decode cX3_powerHolds 13 = .ok (.ifCond .le 13, 3) := by decide +kernel
theorem dX3_powerHolds_16 : decode cX3_powerHolds 16 = .ok (.aload_n 0, 1) := by decide +kernel
theorem dX3_powerHolds_17 : decode cX3_powerHolds 17 = .ok (.dup, 1) := by decide +kernel
theorem dX3_powerHolds_18 : decode cX3_powerHolds 18 = .ok (.getfield 28, 3) := by decide +kernel
theorem dX3_powerHolds_21 : decode cX3_powerHolds 21 = .ok (.iconst 1, 1) := by decide +kernel
theorem dX3_powerHolds_22 : decode cX3_powerHolds 22 = .ok (.isub, 1) := by decide +kernel
theorem dX3_powerHolds_23 : decode cX3_powerHolds 23 = .ok (.putfield 28, 3) := by decide +kernel
theorem dX3_powerHolds_26 : decode cX3_powerHolds 26 = .ok (.aload_n 0, 1) := by decide +kernel
theorem dX3_powerHolds_27 : decode cX3_powerHolds 27 = .ok (.dup, 1) := by decide +kernel
theorem dX3_powerHolds_28 : decode cX3_powerHolds 28 = .ok (.getfield 35, 3) := by decide +kernel
theorem dX3_powerHolds_31 : decode cX3_powerHolds 31 = .ok (.iconst 1, 1) := by decide +kernel
theorem dX3_powerHolds_32 : decode cX3_powerHolds 32 = .ok (.iadd, 1) := by decide +kernel
theorem dX3_powerHolds_33 : decode cX3_powerHolds 33 = .ok (.putfield 35, 3) := by decide +kernel
theorem dX3_powerHolds_36 : decode cX3_powerHolds 36 = .ok (.iconst 1, 1) := by decide +kernel
theorem dX3_powerHolds_37 : decode cX3_powerHolds 37 = .ok (.ireturn, 1) := by decide +kernel
theorem dX3_lose_0 : decode cX3_lose 0 = .ok (.aload_n 0, 1) := by decide +kernel
theorem dX3_lose_1 : decode cX3_lose 1 = .ok (.invokevirtual 124, 3) := by decide +kernel
theorem dX3_lose_4 : decode cX3_lose 4 = .ok (.bipush (-3), 2) := by decide +kernel
theorem dX3_lose_6 : decode cX3_lose 6 = .ok (.ireturn, 1) := by decide +kernel
theorem dX3_goDown_0 : decode cX3_goDown 0 = .ok (.iconst 0, 1) := by decide +kernel
theorem dX3_goDown_1 : decode cX3_goDown 1 = .ok (.istore_n 1, 1) := by decide +kernel
theorem dX3_goDown_2 : decode cX3_goDown 2 = .ok (.iload_n 1, 1) := by decide +kernel
theorem dX3_goDown_3 : decode cX3_goDown 3 = .ok (.iconst 4, 1) := by decide +kernel
theorem dX3_goDown_4 : decode cX3_goDown 4 = .ok (.if_icmp .ge 18, 3) := by decide +kernel
theorem dX3_goDown_7 : decode cX3_goDown 7 = .ok (.aload_n 0, 1) := by decide +kernel
theorem dX3_goDown_8 : decode cX3_goDown 8 = .ok (.getfield 46, 3) := by decide +kernel
theorem dX3_goDown_11 : decode cX3_goDown 11 = .ok (.iload_n 1, 1) := by decide +kernel
theorem dX3_goDown_12 : decode cX3_goDown 12 = .ok (.aaload, 1) := by decide +kernel
theorem dX3_goDown_13 : decode cX3_goDown 13 = .ok (.invokevirtual 156, 3) := by decide +kernel
theorem dX3_goDown_16 : decode cX3_goDown 16 = .ok (.iinc 1 1, 3) := by decide +kernel
theorem dX3_goDown_19 : decode cX3_goDown 19 = .ok (.goto (-17), 3) := by decide +kernel
theorem dX3_goDown_22 : decode cX3_goDown 22 = .ok (.aload_n 0, 1) := by decide +kernel
theorem dX3_goDown_23 : decode cX3_goDown 23 = .ok (.iconst 0, 1) := by decide +kernel
theorem dX3_goDown_24 : decode cX3_goDown 24 = .ok (.putfield 53, 3) := by decide +kernel
theorem dX3_goDown_27 : decode cX3_goDown 27 = .ok (.aload_n 0, 1) := by decide +kernel
theorem dX3_goDown_28 : decode cX3_goDown 28 = .ok (.iconst (-1), 1) := by decide +kernel
theorem dX3_goDown_29 : decode cX3_goDown 29 = .ok (.putfield 28, 3) := by decide +kernel
theorem dX3_goDown_32 : decode cX3_goDown 32 = .ok (.aload_n 0, 1) := by decide +kernel
theorem dX3_goDown_33 : decode cX3_goDown 33 = .ok (.iconst 1, 1) := by decide +kernel
theorem dX3_goDown_34 : decode cX3_goDown 34 = .ok (.putfield 31, 3) := by decide +kernel
theorem dX3_goDown_37 : decode cX3_goDown 37 = .ok (.return_, 1) := by decide +kernel
theorem dX3_logWaiting_0 : decode cX3_logWaiting 0 = .ok (.aload_n 0, 1) := by decide +kernel
theorem dX3_logWaiting_1 : decode cX3_logWaiting 1 = .ok (.getfield 53, 3) := by decide +kernel
theorem dX3_logWaiting_4 : decode cX3_logWaiting 4 = .ok (.istore_n 1, 1) := by decide +kernel
theorem dX3_logWaiting_5 : decode cX3_logWaiting 5 = .ok (.aload_n 0, 1) := by decide +kernel
theorem dX3_logWaiting_6 : decode cX3_logWaiting 6 = .ok (.getfield 56, 3) := by decide +kernel
theorem dX3_logWaiting_9 : decode cX3_logWaiting 9 = .ok (.istore_n 2, 1) := by decide +kernel
theorem dX3_logWaiting_10 : decode cX3_logWaiting 10 = .ok (.iload_n 2, 1) := by decide +kernel
theorem dX3_logWaiting_11 : decode cX3_logWaiting 11 = .ok (.iload_n 1, 1) := by decide +kernel
theorem dX3_logWaiting_12 : decode cX3_logWaiting 12 = .ok (.isub, 1) := by decide +kernel
theorem dX3_logWaiting_13 : decode cX3_logWaiting 13 = .ok (.istore_n 3, 1) := by decide +kernel
theorem dX3_logWaiting_14 : decode cX3_logWaiting 14 = .ok (.iload_n 3, 1) := by decide +kernel
theorem dX3_logWaiting_15 : decode cX3_logWaiting 15 = .ok (.iload_n 2, 1) := by decide +kernel
theorem dX3_logWaiting_16 : decode cX3_logWaiting 16 = .ok (.if_icmp .ge 44, 3) := by decide +kernel
theorem dX3_logWaiting_19 : decode cX3_logWaiting 19 = .ok (.aload_n 0, 1) := by decide +kernel
theorem dX3_logWaiting_20 : decode cX3_logWaiting 20 = .ok (.invokevirtual 159, 3) := by decide +kernel
theorem dX3_logWaiting_23 : decode cX3_logWaiting 23 = .ok (.ifCond .ne 6, 3) := by decide +kernel
theorem dX3_logWaiting_26 : decode cX3_logWaiting 26 = .ok (.bipush (-3), 2) := by decide +kernel
theorem dX3_logWaiting_28 : decode cX3_logWaiting 28 = .ok (.ireturn, 1) := by decide +kernel
theorem dX3_logWaiting_29 : decode cX3_logWaiting 29 = .ok (.iload_n 3, 1) := by decide +kernel
theorem dX3_logWaiting_30 : decode cX3_logWaiting 30 = .ok (.bipush 12, 2) := by decide +kernel
theorem dX3_logWaiting_32 : decode cX3_logWaiting 32 = .ok (.invokestatic 162, 3) := by decide +kernel
theorem dX3_logWaiting_35 : decode cX3_logWaiting 35 = .ok (.istore 4, 2) := by decide +kernel
theorem dX3_logWaiting_37 : decode cX3_logWaiting 37 = .ok (.aload_n 0, 1) := by decide +kernel
theorem dX3_logWaiting_38 : decode cX3_logWaiting 38 = .ok (.getfield 20, 3) := by decide +kernel
theorem dX3_logWaiting_41 : decode cX3_logWaiting 41 = .ok (.iload 4, 2) := by decide +kernel
theorem dX3_logWaiting_43 : decode cX3_logWaiting 43 = .ok (.aaload, 1) := by decide +kernel
theorem dX3_logWaiting_44 : decode cX3_logWaiting 44 = .ok (.aload_n 0, 1) := by decide +kernel
theorem dX3_logWaiting_45 : decode cX3_logWaiting 45 = .ok (.getfield 50, 3) := by decide +kernel
theorem dX3_logWaiting_48 : decode cX3_logWaiting 48 = .ok (.iload 4, 2) := by decide +kernel
theorem dX3_logWaiting_50 : decode cX3_logWaiting 50 = .ok (.aaload, 1) := by decide +kernel
theorem dX3_logWaiting_51 : decode cX3_logWaiting 51 = .ok (.invokevirtual 167, 3) := by decide +kernel
theorem dX3_logWaiting_54 : decode cX3_logWaiting 54 = .ok (.iinc 3 1, 3) := by decide +kernel
theorem dX3_logWaiting_57 : decode cX3_logWaiting 57 = .ok (.goto (-43), 3) := by decide +kernel
theorem dX3_logWaiting_60 : decode cX3_logWaiting 60 = .ok (.aload_n 0, 1) := by decide +kernel
theorem dX3_logWaiting_61 : decode cX3_logWaiting 61 = .ok (.iconst 0, 1) := by decide +kernel
theorem dX3_logWaiting_62 : decode cX3_logWaiting 62 = .ok (.putfield 53, 3) := by decide +kernel
theorem dX3_logWaiting_65 : decode cX3_logWaiting 65 = .ok (.iload_n 1, 1) := by decide +kernel
theorem dX3_logWaiting_66 : decode cX3_logWaiting 66 = .ok (.ireturn, 1) := by decide +kernel
theorem dX3_writePage_0 : decode cX3_writePage 0 = .ok (.iconst 0, 1) := by decide +kernel
theorem dX3_writePage_1 : decode cX3_writePage 1 = .ok (.istore 5, 2) := by decide +kernel
theorem dX3_writePage_3 : decode cX3_writePage 3 = .ok (.iload 5, 2) := by decide +kernel
theorem dX3_writePage_5 : decode cX3_writePage 5 = .ok (.iconst 4, 1) := by decide +kernel
theorem dX3_writePage_6 : decode cX3_writePage 6 = .ok (.if_icmp .ge 28, 3) := by decide +kernel
theorem dX3_writePage_9 : decode cX3_writePage 9 = .ok (.aload_n 0, 1) := by decide +kernel
theorem dX3_writePage_10 : decode cX3_writePage 10 = .ok (.invokevirtual 159, 3) := by decide +kernel
theorem dX3_writePage_13 : decode cX3_writePage 13 = .ok (.ifCond .ne 5, 3) := by decide +kernel
theorem dX3_writePage_16 : decode cX3_writePage 16 = .ok (.iconst 0, 1) := by decide +kernel
theorem dX3_writePage_17 : decode cX3_writePage 17 = .ok (.ireturn, 1) := by decide +kernel
theorem dX3_writePage_18 : decode cX3_writePage 18 = .ok (.aload_n 1, 1) := by decide +kernel
theorem dX3_writePage_19 : decode cX3_writePage 19 = .ok (.iload 5, 2) := by decide +kernel
theorem dX3_writePage_21 : decode cX3_writePage 21 = .ok (.iload_n 2, 1) := by decide +kernel
theorem dX3_writePage_22 : decode cX3_writePage 22 = .ok (.iload_n 3, 1) := by decide +kernel
theorem dX3_writePage_23 : decode cX3_writePage 23 = .ok (.aload 4, 2) := by decide +kernel
theorem dX3_writePage_25 : decode cX3_writePage 25 = .ok (.invokevirtual 171, 3) := by decide +kernel
theorem dX3_writePage_28 : decode cX3_writePage 28 = .ok (.iinc 5 1, 3) := by decide +kernel
theorem dX3_writePage_31 : decode cX3_writePage 31 = .ok (.goto (-28), 3) := by decide +kernel
theorem dX3_writePage_34 : decode cX3_writePage 34 = .ok (.iconst 1, 1) := by decide +kernel
theorem dX3_writePage_35 : decode cX3_writePage 35 = .ok (.ireturn, 1) := by decide +kernel
theorem dX3_cleanDirty_0 : decode cX3_cleanDirty 0 = .ok (.aload_n 0, 1) := by decide +kernel
theorem dX3_cleanDirty_1 : decode cX3_cleanDirty 1 = .ok (.invokevirtual 110, 3) := by decide +kernel
theorem dX3_cleanDirty_4 : decode cX3_cleanDirty 4 = .ok (.bipush (-3), 2) := by decide +kernel
theorem dX3_cleanDirty_6 : decode cX3_cleanDirty 6 = .ok (.if_icmp .ne 6, 3) := by decide +kernel
theorem dX3_cleanDirty_9 : decode cX3_cleanDirty 9 = .ok (.bipush (-3), 2) := by decide +kernel
theorem dX3_cleanDirty_11 : decode cX3_cleanDirty 11 = .ok (.ireturn, 1) := by decide +kernel
theorem dX3_cleanDirty_12 : decode cX3_cleanDirty 12 = .ok (.iconst 0, 1) := by decide +kernel
theorem dX3_cleanDirty_13 : decode cX3_cleanDirty 13 = .ok (.istore_n 3, 1) := by decide +kernel
theorem dX3_cleanDirty_14 : decode cX3_cleanDirty 14 = .ok (.iload_n 1, 1) := by decide +kernel
theorem dX3_cleanDirty_15 : decode cX3_cleanDirty 15 = .ok (.istore 4, 2) := by decide +kernel
theorem dX3_cleanDirty_17 : decode cX3_cleanDirty 17 = .ok (.iload 4, 2) := by decide +kernel
theorem dX3_cleanDirty_19 : decode cX3_cleanDirty 19 = .ok (.iload_n 2, 1) := by decide +kernel
theorem dX3_cleanDirty_20 : decode cX3_cleanDirty 20 = .ok (.if_icmp .gt 65, 3) := by decide +kernel
theorem dX3_cleanDirty_23 : decode cX3_cleanDirty 23 = .ok (.iload_n 3, 1) := by decide +kernel
theorem dX3_cleanDirty_24 : decode cX3_cleanDirty 24 = .ok (.iconst 4, 1) := by decide +kernel
theorem dX3_cleanDirty_25 : decode cX3_cleanDirty 25 = .ok (.if_icmp .ge 60, 3) := by decide +kernel
theorem dX3_cleanDirty_28 : decode cX3_cleanDirty 28 = .ok (.aload_n 0, 1) := by decide +kernel
theorem dX3_cleanDirty_29 : decode cX3_cleanDirty 29 = .ok (.getfield 46, 3) := by decide +kernel
theorem dX3_cleanDirty_32 : decode cX3_cleanDirty 32 = .ok (.iload 4, 2) := by decide +kernel
theorem dX3_cleanDirty_34 : decode cX3_cleanDirty 34 = .ok (.aaload, 1) := by decide +kernel
theorem dX3_cleanDirty_35 : decode cX3_cleanDirty 35 = .ok (.astore 5, 2) := by decide +kernel
theorem dX3_cleanDirty_37 : decode cX3_cleanDirty 37 = .ok (.aload 5, 2) := by decide +kernel
theorem dX3_cleanDirty_39 : decode cX3_cleanDirty 39 = .ok (.getfield 175, 3) := by decide +kernel
