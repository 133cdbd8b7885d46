theorem dX1_init_0 : decode cX1_init 0 = .ok (.aload_n 0, 1) := by decide +kernel
theorem dX1_init_1 : decode cX1_init 1 = .ok (.invokespecial 3, 3) := by decide +kernel
theorem dX1_init_4 : decode cX1_init 4 = .ok (.aload_n 0, 1) := by decide +kernel
theorem dX1_init_5 : decode cX1_init 5 = .ok (.iconst (-1), 1) := by decide +kernel
theorem dX1_init_6 : decode cX1_init 6 = .ok (.putfield 9, 3) := by decide +kernel
theorem dX1_init_9 : decode cX1_init 9 = .ok (.return_, 1) := by decide +kernel
theorem dX1_refuse_0 : decode cX1_refuse 0 = .ok (.aload_n 0, 1) := by decide +kernel
theorem dX1_refuse_1 : decode cX1_refuse 1 = .ok (.iload_n 1, 1) := by decide +kernel
theorem dX1_refuse_2 : decode cX1_refuse 2 = .ok (.putfield 15, 3) := by decide +kernel
theorem dX1_refuse_5 : decode cX1_refuse 5 = .ok (.aload_n 0, 1) := by decide +kernel
theorem dX1_refuse_6 : decode cX1_refuse 6 = .ok (.iload_n 2, 1) := by decide +kernel
theorem dX1_refuse_7 : decode cX1_refuse 7 = .ok (.putfield 9, 3) := by decide +kernel
theorem dX1_refuse_10 : decode cX1_refuse 10 = .ok (.iconst 0, 1) := by decide +kernel
theorem dX1_refuse_11 : decode cX1_refuse 11 = .ok (.ireturn, 1) := by decide +kernel
theorem dX3_init_0 : decode cX3_init 0 = .ok (.aload_n 0, 1) := by decide +kernel
theorem dX3_init_1 : decode cX3_init 1 = .ok (.invokespecial 3, 3) := by decide +kernel
theorem dX3_init_4 : decode cX3_init 4 = .ok (.aload_n 0, 1) := by decide +kernel
theorem dX3_init_5 : decode cX3_init 5 = .ok (.bipush 6, 2) := by decide +kernel
theorem dX3_init_7 : decode cX3_init 7 = .ok (.newarray .int, 2) := by decide +kernel
theorem dX3_init_9 : decode cX3_init 9 = .ok (.dup, 1) := by decide +kernel
theorem dX3_init_10 : decode cX3_init 10 = .ok (.iconst 0, 1) := by decide +kernel
theorem dX3_init_11 : decode cX3_init 11 = .ok (.iconst 0, 1) := by decide +kernel
theorem dX3_init_12 : decode cX3_init 12 = .ok (.iastore, 1) := by decide +kernel
theorem dX3_init_13 : decode cX3_init 13 = .ok (.dup, 1) := by decide +kernel
theorem dX3_init_14 : decode cX3_init 14 = .ok (.iconst 1, 1) := by decide +kernel
theorem dX3_init_15 : decode cX3_init 15 = .ok (.iconst 0, 1) := by decide +kernel
theorem dX3_init_16 : decode cX3_init 16 = .ok (.iastore, 1) := by decide +kernel
theorem dX3_init_17 : decode cX3_init 17 = .ok (.dup, 1) := by decide +kernel
theorem dX3_init_18 : decode cX3_init 18 = .ok (.iconst 2, 1) := by decide +kernel
theorem dX3_init_19 : decode cX3_init 19 = .ok (.iconst 0, 1) := by decide +kernel
theorem dX3_init_20 : decode cX3_init 20 = .ok (.iastore, 1) := by decide +kernel
theorem dX3_init_21 : decode cX3_init 21 = .ok (.dup, 1) := by decide +kernel
theorem dX3_init_22 : decode cX3_init 22 = .ok (.iconst 3, 1) := by decide +kernel
theorem dX3_init_23 : decode cX3_init 23 = .ok (.iconst 0, 1) := by decide +kernel
theorem dX3_init_24 : decode cX3_init 24 = .ok (.iastore, 1) := by decide +kernel
theorem dX3_init_25 : decode cX3_init 25 = .ok (.dup, 1) := by decide +kernel
theorem dX3_init_26 : decode cX3_init 26 = .ok (.iconst 4, 1) := by decide +kernel
theorem dX3_init_27 : decode cX3_init 27 = .ok (.iconst 4, 1) := by decide +kernel
theorem dX3_init_28 : decode cX3_init 28 = .ok (.iastore, 1) := by decide +kernel
theorem dX3_init_29 : decode cX3_init 29 = .ok (.dup, 1) := by decide +kernel
theorem dX3_init_30 : decode cX3_init 30 = .ok (.iconst 5, 1) := by decide +kernel
theorem dX3_init_31 : decode cX3_init 31 = .ok (.ldc 9, 2) := by decide +kernel
theorem dX3_init_33 : decode cX3_init 33 = .ok (.iastore, 1) := by decide +kernel
theorem dX3_init_34 : decode cX3_init 34 = .ok (.putfield 10, 3) := by decide +kernel
theorem dX3_init_37 : decode cX3_init 37 = .ok (.return_, 1) := by decide +kernel
theorem dX3_set_0 : decode cX3_set 0 = .ok (.iload_n 1, 1) := by decide +kernel
theorem dX3_set_1 : decode cX3_set 1 = .ok (.ifCond .lt 30, 3) := by decide +kernel
theorem dX3_set_4 : decode cX3_set 4 = .ok (.iload_n 1, 1) := by decide +kernel
theorem dX3_set_5 : decode cX3_set 5 = .ok (.aload_n 0, 1) := by decide +kernel
theorem dX3_set_6 : decode cX3_set 6 = .ok (.getfield 10, 3) := by decide +kernel
theorem dX3_set_9 : decode cX3_set 9 = .ok (.arraylength, 1) := by decide +kernel
theorem dX3_set_10 : decode cX3_set 10 = .ok (.if_icmp .ge 21, 3) := by decide +kernel
theorem dX3_set_13 : decode cX3_set 13 = .ok (.iload_n 2, 1) := by decide +kernel
theorem dX3_set_14 : decode cX3_set 14 = .ok (.getstatic 16, 3) := by decide +kernel
theorem dX3_set_17 : decode cX3_set 17 = .ok (.iload_n 1, 1) := by decide +kernel
theorem dX3_set_18 : decode cX3_set 18 = .ok (.iaload, 1) := by decide +kernel
theorem dX3_set_19 : decode cX3_set 19 = .ok (.if_icmp .lt 12, 3) := by decide +kernel
theorem dX3_set_22 : decode cX3_set 22 = .ok (.iload_n 2, 1) := by decide +kernel
theorem dX3_set_23 : decode cX3_set 23 = .ok (.getstatic 19, 3) := by decide +kernel
theorem dX3_set_26 : decode cX3_set 26 = .ok (.iload_n 1, 1) := by decide +kernel
theorem dX3_set_27 : decode cX3_set 27 = .ok (.iaload, 1) := by decide +kernel
theorem dX3_set_28 : decode cX3_set 28 = .ok (.if_icmp .le 5, 3) := by decide +kernel
theorem dX3_set_31 : decode cX3_set 31 = .ok (.iconst (-1), 1) := by decide +kernel
theorem dX3_set_32 : decode cX3_set 32 = .ok (.ireturn, 1) := by decide +kernel
theorem dX3_set_33 : decode cX3_set 33 = .ok (.aload_n 0, 1) := by decide +kernel
theorem dX3_set_34 : decode cX3_set 34 = .ok (.getfield 10, 3) := by decide +kernel
theorem dX3_set_37 : decode cX3_set 37 = .ok (.iload_n 1, 1) := by decide +kernel
theorem dX3_set_38 : decode cX3_set 38 = .ok (.iaload, 1) := by decide +kernel
theorem dX3_set_39 : decode cX3_set 39 = .ok (.istore_n 3, 1) := by decide +kernel
theorem dX3_set_40 : decode cX3_set 40 = .ok (.aload_n 0, 1) := by decide +kernel
theorem dX3_set_41 : decode cX3_set 41 = .ok (.getfield 10, 3) := by decide +kernel
theorem dX3_set_44 : decode cX3_set 44 = .ok (.iload_n 1, 1) := by decide +kernel
theorem dX3_set_45 : decode cX3_set 45 = .ok (.iload_n 2, 1) := by decide +kernel
theorem dX3_set_46 : decode cX3_set 46 = .ok (.iastore, 1) := by decide +kernel
theorem dX3_set_47 : decode cX3_set 47 = .ok (.iload_n 3, 1) := by decide +kernel
theorem dX3_set_48 : decode cX3_set 48 = .ok (.ireturn, 1) := by decide +kernel
theorem dX3_linked_0 : decode cX3_linked 0 = .ok (.aload_n 0, 1) := by decide +kernel
theorem dX3_linked_1 : decode cX3_linked 1 = .ok (.getfield 10, 3) := by decide +kernel
theorem dX3_linked_4 : decode cX3_linked 4 = .ok (.iconst 0, 1) := by decide +kernel
theorem dX3_linked_5 : decode cX3_linked 5 = .ok (.iaload, 1) := by decide +kernel
theorem dX3_linked_6 : decode cX3_linked 6 = .ok (.iconst 1, 1) := by decide +kernel
theorem dX3_linked_7 : decode cX3_linked 7 = .ok (.if_icmp .ne 7, 3) := by decide +kernel
theorem dX3_linked_10 : decode cX3_linked 10 = .ok (.iconst 1, 1) := by decide +kernel
theorem dX3_linked_11 : decode cX3_linked 11 = .ok (.goto 4, 3) := by decide +kernel
theorem dX3_linked_14 : decode cX3_linked 14 = .ok (.iconst 0, 1) := by decide +kernel
theorem dX3_linked_15 : decode cX3_linked 15 = .ok (.ireturn, 1) := by decide +kernel
theorem dX3_flags_0 : decode cX3_flags 0 = .ok (.bipush 64, 2) := by decide +kernel
theorem dX3_flags_2 : decode cX3_flags 2 = .ok (.aload_n 0, 1) := by decide +kernel
theorem dX3_flags_3 : decode cX3_flags 3 = .ok (.getfield 10, 3) := by decide +kernel
theorem dX3_flags_6 : decode cX3_flags 6 = .ok (.iconst 0, 1) := by decide +kernel
theorem dX3_flags_7 : decode cX3_flags 7 = .ok (.iaload, 1) := by decide +kernel
theorem dX3_flags_8 : decode cX3_flags 8 = .ok (.iconst 1, 1) := by decide +kernel
theorem dX3_flags_9 : decode cX3_flags 9 = .ok (.if_icmp .ne 7, 3) := by decide +kernel
theorem dX3_flags_12 : decode cX3_flags 12 = .ok (.iconst 0, 1) := by decide +kernel
theorem dX3_flags_13 : decode cX3_flags 13 = .ok (.goto 5, 3) := by decide +kernel
theorem dX3_flags_16 : decode cX3_flags 16 = .ok (.bipush 32, 2) := by decide +kernel
theorem dX3_flags_18 : decode cX3_flags 18 = .ok (.iadd, 1) := by decide +kernel
theorem dX3_flags_19 : decode cX3_flags 19 = .ok (.aload_n 0, 1) := by decide +kernel
theorem dX3_flags_20 : decode cX3_flags 20 = .ok (.getfield 10, 3) := by decide +kernel
theorem dX3_flags_23 : decode cX3_flags 23 = .ok (.iconst 1, 1) := by decide +kernel
theorem dX3_flags_24 : decode cX3_flags 24 = .ok (.iaload, 1) := by decide +kernel
theorem dX3_flags_25 : decode cX3_flags 25 = .ok (.iconst 1, 1) := by decide +kernel
theorem dX3_flags_26 : decode cX3_flags 26 = .ok (.if_icmp .ne 8, 3) := by decide +kernel
theorem dX3_flags_29 : decode cX3_flags 29 = .ok (.bipush 16, 2) := by decide +kernel
theorem dX3_flags_31 : decode cX3_flags 31 = .ok (.goto 4, 3) := by decide +kernel
theorem dX3_flags_34 : decode cX3_flags 34 = .ok (.iconst 0, 1) := by decide +kernel
theorem dX3_flags_35 : decode cX3_flags 35 = .ok (.iadd, 1) := by decide +kernel
theorem dX3_flags_36 : decode cX3_flags 36 = .ok (.aload_n 0, 1) := by decide +kernel
theorem dX3_flags_37 : decode cX3_flags 37 = .ok (.getfield 10, 3) := by decide +kernel
theorem dX3_flags_40 : decode cX3_flags 40 = .ok (.iconst 2, 1) := by decide +kernel
theorem dX3_flags_41 : decode cX3_flags 41 = .ok (.iaload, 1) := by decide +kernel
theorem dX3_flags_42 : decode cX3_flags 42 = .ok (.iconst 1, 1) := by decide +kernel
theorem dX3_flags_43 : decode cX3_flags 43 = .ok (.if_icmp .ne 8, 3) := by decide +kernel
theorem dX3_flags_46 : decode cX3_flags 46 = .ok (.bipush 8, 2) := by decide +kernel
theorem dX3_flags_48 : decode cX3_flags 48 = .ok (.goto 4, 3) := by decide +kernel
theorem dX3_flags_51 : decode cX3_flags 51 = .ok (.iconst 0, 1) := by decide +kernel
theorem dX3_flags_52 : decode cX3_flags 52 = .ok (.iadd, 1) := by decide +kernel
theorem dX3_flags_53 : decode cX3_flags 53 = .ok (.aload_n 0, 1) := by decide +kernel
theorem dX3_flags_54 : decode cX3_flags 54 = .ok (.getfield 10, 3) := by decide +kernel
theorem dX3_flags_57 : decode cX3_flags 57 = .ok (.iconst 3, 1) := by decide +kernel
theorem dX3_flags_58 : decode cX3_flags 58 = .ok (.iaload, 1) := by decide +kernel
theorem dX3_flags_59 : decode cX3_flags 59 = .ok (.iconst 1, 1) := by decide +kernel
theorem dX3_flags_60 : decode cX3_flags 60 = .ok (.if_icmp .ne 7, 3) := by decide +kernel
theorem dX3_flags_63 : decode cX3_flags 63 = .ok (.iconst 4, 1) := by decide +kernel
theorem dX3_flags_64 : decode cX3_flags 64 = .ok (.goto 4, 3) := by decide +kernel
theorem dX3_flags_67 : decode cX3_flags 67 = .ok (.iconst 0, 1) := by decide +kernel
theorem dX3_flags_68 : decode cX3_flags 68 = .ok (.iadd, 1) := by decide +kernel
theorem dX3_flags_69 : decode cX3_flags 69 = .ok (.ireturn, 1) := by decide +kernel
theorem dX3_code_0 : decode cX3_code 0 = .ok (.aload_n 0, 1) := by decide +kernel
theorem dX3_code_1 : decode cX3_code 1 = .ok (.getfield 10, 3) := by decide +kernel
theorem dX3_code_4 : decode cX3_code 4 = .ok (.iconst 4, 1) := by decide +kernel
theorem dX3_code_5 : decode cX3_code 5 = .ok (.iaload, 1) := by decide +kernel
theorem dX3_code_6 : decode cX3_code 6 = .ok (.ireturn, 1) := by decide +kernel
theorem dX3_part_0 : decode cX3_part 0 = .ok (.aload_n 0, 1) := by decide +kernel
theorem dX3_part_1 : decode cX3_part 1 = .ok (.getfield 10, 3) := by decide +kernel
theorem dX3_part_4 : decode cX3_part 4 = .ok (.iconst 5, 1) := by decide +kernel
theorem dX3_part_5 : decode cX3_part 5 = .ok (.iaload, 1) := by decide +kernel
theorem dX3_part_6 : decode cX3_part 6 = .ok (.ireturn, 1) := by decide +kernel
theorem dX5_init_0 : decode cX5_init 0 = .ok (.aload_n 0, 1) := by decide +kernel
theorem dX5_init_1 : decode cX5_init 1 = .ok (.invokespecial 3, 3) := by decide +kernel
theorem dX5_init_4 : decode cX5_init 4 = .ok (.aload_n 0, 1) := by decide +kernel
theorem dX5_init_5 : decode cX5_init 5 = .ok (.iconst 0, 1) := by decide +kernel
theorem dX5_init_6 : decode cX5_init 6 = .ok (.iload_n 1, 1) := by decide +kernel
theorem dX5_init_7 : decode cX5_init 7 = .ok (.invokestatic 9, 3) := by decide +kernel
theorem dX5_init_10 : decode cX5_init 10 = .ok (.newarray .byte, 2) := by decide +kernel
theorem dX5_init_12 : decode cX5_init 12 = .ok (.putfield 15, 3) := by decide +kernel
theorem dX5_init_15 : decode cX5_init 15 = .ok (.return_, 1) := by decide +kernel
theorem dX5_room_0 : decode cX5_room 0 = .ok (.aload_n 0, 1) := by decide +kernel
theorem dX5_room_1 : decode cX5_room 1 = .ok (.getfield 15, 3) := by decide +kernel
theorem dX5_room_4 : decode cX5_room 4 = .ok (.arraylength, 1) := by decide +kernel
theorem dX5_room_5 : decode cX5_room 5 = .ok (.aload_n 0, 1) := by decide +kernel
theorem dX5_room_6 : decode cX5_room 6 = .ok (.getfield 21, 3) := by decide +kernel
theorem dX5_room_9 : decode cX5_room 9 = .ok (.isub, 1) := by decide +kernel
theorem dX5_room_10 : decode cX5_room 10 = .ok (.ireturn, 1) := by decide +kernel
theorem dX5_hasPiece_0 : decode cX5_hasPiece 0 = .ok (.iload_n 1, 1) := by decide +kernel
theorem dX5_hasPiece_1 : decode cX5_hasPiece 1 = .ok (.ifCond .lt 29, 3) := by decide +kernel
theorem dX5_hasPiece_4 : decode cX5_hasPiece 4 = .ok (.iload_n 2, 1) := by decide +kernel
theorem dX5_hasPiece_5 : decode cX5_hasPiece 5 = .ok (.ifCond .lt 25, 3) := by decide +kernel
theorem dX5_hasPiece_8 : decode cX5_hasPiece 8 = .ok (.iload_n 1, 1) := by decide +kernel
theorem dX5_hasPiece_9 : decode cX5_hasPiece 9 = .ok (.aload_n 0, 1) := by decide +kernel
theorem dX5_hasPiece_10 : decode cX5_hasPiece 10 = .ok (.getfield 21, 3) := by decide +kernel
theorem dX5_hasPiece_13 : decode cX5_hasPiece 13 = .ok (.if_icmp .gt 17, 3) := by decide +kernel
theorem dX5_hasPiece_16 : decode cX5_hasPiece 16 = .ok (.iload_n 2, 1) := by decide +kernel
theorem dX5_hasPiece_17 : decode cX5_hasPiece 17 = .ok (.aload_n 0, 1) := by decide +kernel
theorem dX5_hasPiece_18 : decode cX5_hasPiece 18 = .ok (.getfield 21, 3) := by decide +kernel
theorem dX5_hasPiece_21 : decode cX5_hasPiece 21 = .ok (.iload_n 1, 1) := by decide +kernel
theorem dX5_hasPiece_22 : decode cX5_hasPiece 22 = .ok (.isub, 1) := by decide +kernel
theorem dX5_hasPiece_23 : decode cX5_hasPiece 23 = .ok (.if_icmp .gt 7, 3) := by decide +kernel
theorem dX5_hasPiece_26 : decode cX5_hasPiece 26 = .ok (.iconst 1, 1) := by decide +kernel
theorem dX5_hasPiece_27 : decode cX5_hasPiece 27 = .ok (.goto 4, 3) := by decide +kernel
theorem dX5_hasPiece_30 : decode cX5_hasPiece 30 = .ok (.iconst 0, 1) := by decide +kernel
theorem dX5_hasPiece_31 : decode cX5_hasPiece 31 = .ok (.ireturn, 1) := by decide +kernel
theorem dX5_get_0 : decode cX5_get 0 = .ok (.iload_n 1, 1) := by decide +kernel
theorem dX5_get_1 : decode cX5_get 1 = .ok (.ifCond .lt 24, 3) := by decide +kernel
theorem dX5_get_4 : decode cX5_get 4 = .ok (.iload_n 1, 1) := by decide +kernel
theorem dX5_get_5 : decode cX5_get 5 = .ok (.aload_n 0, 1) := by decide +kernel
theorem dX5_get_6 : decode cX5_get 6 = .ok (.getfield 21, 3) := by decide +kernel
theorem dX5_get_9 : decode cX5_get 9 = .ok (.if_icmp .ge 16, 3) := by decide +kernel
theorem dX5_get_12 : decode cX5_get 12 = .ok (.aload_n 0, 1) := by decide +kernel
theorem dX5_get_13 : decode cX5_get 13 = .ok (.getfield 15, 3) := by decide +kernel
theorem dX5_get_16 : decode cX5_get 16 = .ok (.iload_n 1, 1) := by decide +kernel
theorem dX5_get_17 : decode cX5_get 17 = .ok (.baload, 1) := by decide +kernel
theorem dX5_get_18 : decode cX5_get 18 = .ok (.sipush 255, 3) := by decide +kernel
theorem dX5_get_21 : decode cX5_get 21 = .ok (.iand, 1) := by decide +kernel
theorem dX5_get_22 : decode cX5_get 22 = .ok (.goto 4, 3) := by decide +kernel
theorem dX5_get_25 : decode cX5_get 25 = .ok (.iconst (-1), 1) := by decide +kernel
theorem dX5_get_26 : decode cX5_get 26 = .ok (.ireturn, 1) := by decide +kernel
set_option maxRecDepth 20000 in
theorem ggX5_set_X5_get : GoodIn wsX5_set wsX5_get := goodIn_r _ [6, 7, 1, 8, 9] (by decide +kernel) (by decide +kernel)
set_option maxRecDepth 20000 in
theorem gX5_set_X5_get : GoodIn wsX5_set (wsV RX5 25 RX5 yX5_get wsX5_get) := goodIn_app (goodIn_of _ (by decide +kernel)) ggX5_set_X5_get
theorem dX5_set_0 : decode cX5_set 0 = .ok (.aload_n 0, 1) := by decide +kernel
theorem dX5_set_1 : decode cX5_set 1 = .ok (.iload_n 1, 1) := by decide +kernel
theorem dX5_set_2 : decode cX5_set 2 = .ok (.invokevirtual 25, 3) := by decide +kernel
theorem dX5_set_5 : decode cX5_set 5 = .ok (.istore_n 3, 1) := by decide +kernel
theorem dX5_set_6 : decode cX5_set 6 = .ok (.iload_n 3, 1) := by decide +kernel
theorem dX5_set_7 : decode cX5_set 7 = .ok (.iconst (-1), 1) := by decide +kernel
theorem dX5_set_8 : decode cX5_set 8 = .ok (.if_icmp .eq 11, 3) := by decide +kernel
theorem dX5_set_11 : decode cX5_set 11 = .ok (.aload_n 0, 1) := by decide +kernel
theorem dX5_set_12 : decode cX5_set 12 = .ok (.getfield 15, 3) := by decide +kernel
theorem dX5_set_15 : decode cX5_set 15 = .ok (.iload_n 1, 1) := by decide +kernel
theorem dX5_set_16 : decode cX5_set 16 = .ok (.iload_n 2, 1) := by decide +kernel
theorem dX5_set_17 : decode cX5_set 17 = .ok (.i2b, 1) := by decide +kernel
theorem dX5_set_18 : decode cX5_set 18 = .ok (.bastore, 1) := by decide +kernel
theorem dX5_set_19 : decode cX5_set 19 = .ok (.iload_n 3, 1) := by decide +kernel
theorem dX5_set_20 : decode cX5_set 20 = .ok (.ireturn, 1) := by decide +kernel
theorem dX5_shorten_0 : decode cX5_shorten 0 = .ok (.iload_n 1, 1) := by decide +kernel
theorem dX5_shorten_1 : decode cX5_shorten 1 = .ok (.ifCond .lt 11, 3) := by decide +kernel
theorem dX5_shorten_4 : decode cX5_shorten 4 = .ok (.iload_n 1, 1) := by decide +kernel
theorem dX5_shorten_5 : decode cX5_shorten 5 = .ok (.aload_n 0, 1) := by decide +kernel
theorem dX5_shorten_6 : decode cX5_shorten 6 = .ok (.getfield 21, 3) := by decide +kernel
theorem dX5_shorten_9 : decode cX5_shorten 9 = .ok (.if_icmp .le 5, 3) := by decide +kernel
theorem dX5_shorten_12 : decode cX5_shorten 12 = .ok (.iconst (-1), 1) := by decide +kernel
theorem dX5_shorten_13 : decode cX5_shorten 13 = .ok (.ireturn, 1) := by decide +kernel
theorem dX5_shorten_14 : decode cX5_shorten 14 = .ok (.aload_n 0, 1) := by decide +kernel
theorem dX5_shorten_15 : decode cX5_shorten 15 = .ok (.getfield 21, 3) := by decide +kernel
theorem dX5_shorten_18 : decode cX5_shorten 18 = .ok (.istore_n 2, 1) := by decide +kernel
theorem dX5_shorten_19 : decode cX5_shorten 19 = .ok (.aload_n 0, 1) := by decide +kernel
theorem dX5_shorten_20 : decode cX5_shorten 20 = .ok (.iload_n 1, 1) := by decide +kernel
theorem dX5_shorten_21 : decode cX5_shorten 21 = .ok (.putfield 21, 3) := by decide +kernel
theorem dX5_shorten_24 : decode cX5_shorten 24 = .ok (.iload_n 2, 1) := by decide +kernel
theorem dX5_shorten_25 : decode cX5_shorten 25 = .ok (.ireturn, 1) := by decide +kernel
theorem dX5_add_0 : decode cX5_add 0 = .ok (.aload_n 0, 1) := by decide +kernel
theorem dX5_add_1 : decode cX5_add 1 = .ok (.getfield 21, 3) := by decide +kernel
theorem dX5_add_4 : decode cX5_add 4 = .ok (.aload_n 0, 1) := by decide +kernel
theorem dX5_add_5 : decode cX5_add 5 = .ok (.getfield 15, 3) := by decide +kernel
theorem dX5_add_8 : decode cX5_add 8 = .ok (.arraylength, 1) := by decide +kernel
theorem dX5_add_9 : decode cX5_add 9 = .ok (.if_icmp .ge 24, 3) := by decide +kernel
theorem dX5_add_12 : decode cX5_add 12 = .ok (.aload_n 0, 1) := by decide +kernel
theorem dX5_add_13 : decode cX5_add 13 = .ok (.getfield 15, 3) := by decide +kernel
theorem dX5_add_16 : decode cX5_add 16 = .ok (.aload_n 0, 1) := by decide +kernel
theorem dX5_add_17 : decode cX5_add 17 = .ok (.getfield 21, 3) := by decide +kernel
theorem dX5_add_20 : decode cX5_add 20 = .ok (.iload_n 1, 1) := by decide +kernel
theorem dX5_add_21 : decode cX5_add 21 = .ok (.i2b, 1) := by decide +kernel
theorem dX5_add_22 : decode cX5_add 22 = .ok (.bastore, 1) := by decide +kernel
theorem dX5_add_23 : decode cX5_add 23 = .ok (.aload_n 0, 1) := by decide +kernel
theorem dX5_add_24 : decode cX5_add 24 = .ok (.dup, 1) := by decide +kernel
theorem dX5_add_25 : decode cX5_add 25 = .ok (.getfield 21, 3) := by decide +kernel
theorem dX5_add_28 : decode cX5_add 28 = .ok (.iconst 1, 1) := by decide +kernel
theorem dX5_add_29 : decode cX5_add 29 = .ok (.iadd, 1) := by decide +kernel
theorem dX5_add_30 : decode cX5_add 30 = .ok (.putfield 21, 3) := by decide +kernel
theorem dX5_add_33 : decode cX5_add 33 = .ok (.return_, 1) := by decide +kernel
set_option maxRecDepth 20000 in
theorem ggX5_addRun_X5_add : GoodIn wsX5_addRun wsX5_add := goodIn_r _ [5, 6, 7, 8, 9] (by decide +kernel) (by decide +kernel)
set_option maxRecDepth 20000 in
theorem gX5_addRun_X5_add : GoodIn wsX5_addRun (wsV RX5 29 RX5 yX5_add wsX5_add) := goodIn_app (goodIn_of _ (by decide +kernel)) ggX5_addRun_X5_add
theorem dX5_addRun_0 : decode cX5_addRun 0 = .ok (.iconst 0, 1) := by decide +kernel
theorem dX5_addRun_1 : decode cX5_addRun 1 = .ok (.istore_n 3, 1) := by decide +kernel
theorem dX5_addRun_2 : decode cX5_addRun 2 = .ok (.iload_n 3, 1) := by decide +kernel
theorem dX5_addRun_3 : decode cX5_addRun 3 = .ok (.iload_n 2, 1) := by decide +kernel
theorem dX5_addRun_4 : decode cX5_addRun 4 = .ok (.if_icmp .ge 14, 3) := by decide +kernel
theorem dX5_addRun_7 : decode cX5_addRun 7 = .ok (.aload_n 0, 1) := by decide +kernel
theorem dX5_addRun_8 : decode cX5_addRun 8 = .ok (.iload_n 1, 1) := by decide +kernel
theorem dX5_addRun_9 : decode cX5_addRun 9 = .ok (.invokevirtual 29, 3) := by decide +kernel
theorem dX5_addRun_12 : decode cX5_addRun 12 = .ok (.iinc 3 1, 3) := by decide +kernel
theorem dX5_addRun_15 : decode cX5_addRun 15 = .ok (.goto (-13), 3) := by decide +kernel
theorem dX5_addRun_18 : decode cX5_addRun 18 = .ok (.return_, 1) := by decide +kernel
set_option maxRecDepth 20000 in
theorem ggX5_addHighestFirst_X5_room : GoodIn wsX5_addHighestFirst wsX5_room := goodIn_r _ [6, 7, 1, 12, 13] (by decide +kernel) (by decide +kernel)
set_option maxRecDepth 20000 in
theorem gX5_addHighestFirst_X5_room : GoodIn wsX5_addHighestFirst (wsV RX5 33 RX5 yX5_room wsX5_room) := goodIn_app (goodIn_of _ (by decide +kernel)) ggX5_addHighestFirst_X5_room
set_option maxRecDepth 20000 in
theorem ggX5_addHighestFirst_X5_add : GoodIn wsX5_addHighestFirst wsX5_add := goodIn_r _ [11, 1, 7, 12, 13] (by decide +kernel) (by decide +kernel)
set_option maxRecDepth 20000 in
theorem gX5_addHighestFirst_X5_add : GoodIn wsX5_addHighestFirst (wsV RX5 29 RX5 yX5_add wsX5_add) := goodIn_app (goodIn_of _ (by decide +kernel)) ggX5_addHighestFirst_X5_add
theorem dX5_addHighestFirst_0 : decode cX5_addHighestFirst 0 = .ok (.iload_n 3, 1) := by decide +kernel
theorem dX5_addHighestFirst_1 : decode cX5_addHighestFirst 1 = .ok (.iconst 1, 1) := by decide +kernel
theorem dX5_addHighestFirst_2 : decode cX5_addHighestFirst 2 = .ok (.if_icmp .lt 9, 3) := by decide +kernel
theorem dX5_addHighestFirst_5 : decode cX5_addHighestFirst 5 = .ok (.iload_n 3, 1) := by decide +kernel
theorem dX5_addHighestFirst_6 : decode cX5_addHighestFirst 6 = .ok (.bipush 8, 2) := by decide +kernel
theorem dX5_addHighestFirst_8 : decode cX5_addHighestFirst 8 = .ok (.if_icmp .le 5, 3) := by decide +kernel
theorem dX5_addHighestFirst_11 : decode cX5_addHighestFirst 11 = .ok (.iconst (-1), 1) := by decide +kernel
theorem dX5_addHighestFirst_12 : decode cX5_addHighestFirst 12 = .ok (.ireturn, 1) := by decide +kernel
theorem dX5_addHighestFirst_13 : decode cX5_addHighestFirst 13 = .ok (.iload_n 3, 1) := by decide +kernel
theorem dX5_addHighestFirst_14 : decode cX5_addHighestFirst 14 = .ok (.aload_n 0, 1) := by decide +kernel
theorem dX5_addHighestFirst_15 : decode cX5_addHighestFirst 15 = .ok (.invokevirtual 33, 3) := by decide +kernel
theorem dX5_addHighestFirst_18 : decode cX5_addHighestFirst 18 = .ok (.if_icmp .le 6, 3) := by decide +kernel
theorem dX5_addHighestFirst_21 : decode cX5_addHighestFirst 21 = .ok (.bipush (-2), 2) := by decide +kernel
theorem dX5_addHighestFirst_23 : decode cX5_addHighestFirst 23 = .ok (.ireturn, 1) := by decide +kernel
theorem dX5_addHighestFirst_24 : decode cX5_addHighestFirst 24 = .ok (.iload_n 3, 1) := by decide +kernel
theorem dX5_addHighestFirst_25 : decode cX5_addHighestFirst 25 = .ok (.iconst 1, 1) := by decide +kernel
theorem dX5_addHighestFirst_26 : decode cX5_addHighestFirst 26 = .ok (.isub, 1) := by decide +kernel
theorem dX5_addHighestFirst_27 : decode cX5_addHighestFirst 27 = .ok (.istore 4, 2) := by decide +kernel
theorem dX5_addHighestFirst_29 : decode cX5_addHighestFirst 29 = .ok (.iload 4, 2) := by decide +kernel
theorem dX5_addHighestFirst_31 : decode cX5_addHighestFirst 31 = .ok (.ifCond .lt 21, 3) := by decide +kernel
theorem dX5_addHighestFirst_34 : decode cX5_addHighestFirst 34 = .ok (.aload_n 0, 1) := by decide +kernel
theorem dX5_addHighestFirst_35 : decode cX5_addHighestFirst 35 = .ok (.lload_n 1, 1) := by decide +kernel
theorem dX5_addHighestFirst_36 : decode cX5_addHighestFirst 36 = .ok (.bipush 8, 2) := by decide +kernel
theorem dX5_addHighestFirst_38 : decode cX5_addHighestFirst 38 = .ok (.iload 4, 2) := by decide +kernel
theorem dX5_addHighestFirst_40 : decode cX5_addHighestFirst 40 = .ok (.imul, 1) := by decide +kernel
theorem dX5_addHighestFirst_41 : decode cX5_addHighestFirst 41 = .ok (.lushr, 1) := by decide +kernel
theorem dX5_addHighestFirst_42 : decode cX5_addHighestFirst 42 = .ok (.l2i, 1) := by decide +kernel
theorem dX5_addHighestFirst_43 : decode cX5_addHighestFirst 43 = .ok (.invokevirtual 29, 3) := by decide +kernel
theorem dX5_addHighestFirst_46 : decode cX5_addHighestFirst 46 = .ok (.iinc 4 (-1), 3) := by decide +kernel
theorem dX5_addHighestFirst_49 : decode cX5_addHighestFirst 49 = .ok (.goto (-20), 3) := by decide +kernel
theorem dX5_addHighestFirst_52 : decode cX5_addHighestFirst 52 = .ok (.aload_n 0, 1) := by decide +kernel
theorem dX5_addHighestFirst_53 : decode cX5_addHighestFirst 53 = .ok (.getfield 21, 3) := by decide +kernel
theorem dX5_addHighestFirst_56 : decode cX5_addHighestFirst 56 = .ok (.ireturn, 1) := by decide +kernel
set_option maxRecDepth 20000 in
theorem ggX5_addNumber_X5_add : GoodIn wsX5_addNumber wsX5_add := goodIn_r _ [5, 6, 7, 8, 9] (by decide +kernel) (by decide +kernel)
set_option maxRecDepth 20000 in
theorem gX5_addNumber_X5_add : GoodIn wsX5_addNumber (wsV RX5 29 RX5 yX5_add wsX5_add) := goodIn_app (goodIn_of _ (by decide +kernel)) ggX5_addNumber_X5_add
theorem dX5_addNumber_0 : decode cX5_addNumber 0 = .ok (.iconst 0, 1) := by decide +kernel
theorem dX5_addNumber_1 : decode cX5_addNumber 1 = .ok (.istore 4, 2) := by decide +kernel
theorem dX5_addNumber_3 : decode cX5_addNumber 3 = .ok (.iload 4, 2) := by decide +kernel
theorem dX5_addNumber_5 : decode cX5_addNumber 5 = .ok (.iload_n 3, 1) := by decide +kernel
theorem dX5_addNumber_6 : decode cX5_addNumber 6 = .ok (.if_icmp .ge 21, 3) := by decide +kernel
theorem dX5_addNumber_9 : decode cX5_addNumber 9 = .ok (.aload_n 0, 1) := by decide +kernel
theorem dX5_addNumber_10 : decode cX5_addNumber 10 = .ok (.lload_n 1, 1) := by decide +kernel
theorem dX5_addNumber_11 : decode cX5_addNumber 11 = .ok (.bipush 8, 2) := by decide +kernel
theorem dX5_addNumber_13 : decode cX5_addNumber 13 = .ok (.iload 4, 2) := by decide +kernel
theorem dX5_addNumber_15 : decode cX5_addNumber 15 = .ok (.imul, 1) := by decide +kernel
theorem dX5_addNumber_16 : decode cX5_addNumber 16 = .ok (.lushr, 1) := by decide +kernel
theorem dX5_addNumber_17 : decode cX5_addNumber 17 = .ok (.l2i, 1) := by decide +kernel
theorem dX5_addNumber_18 : decode cX5_addNumber 18 = .ok (.invokevirtual 29, 3) := by decide +kernel
theorem dX5_addNumber_21 : decode cX5_addNumber 21 = .ok (.iinc 4 1, 3) := by decide +kernel
theorem dX5_addNumber_24 : decode cX5_addNumber 24 = .ok (.goto (-21), 3) := by decide +kernel
theorem dX5_addNumber_27 : decode cX5_addNumber 27 = .ok (.return_, 1) := by decide +kernel
set_option maxRecDepth 20000 in
theorem ggX5_addPiece_X5_hasPiece : GoodIn wsX5_addPiece wsX5_hasPiece := goodIn_r _ [11, 2, 16, 17] (by decide +kernel) (by decide +kernel)
set_option maxRecDepth 20000 in
theorem gX5_addPiece_X5_hasPiece : GoodIn wsX5_addPiece (wsV RX5 37 RX5 yX5_hasPiece wsX5_hasPiece) := goodIn_app (goodIn_of _ (by decide +kernel)) ggX5_addPiece_X5_hasPiece
set_option maxRecDepth 20000 in
theorem ggX5_addPiece_X5_room : GoodIn wsX5_addPiece wsX5_room := goodIn_r _ [15, 1, 2, 16, 17] (by decide +kernel) (by decide +kernel)
set_option maxRecDepth 20000 in
theorem gX5_addPiece_X5_room : GoodIn wsX5_addPiece (wsV RX5 33 RX5 yX5_room wsX5_room) := goodIn_app (goodIn_of _ (by decide +kernel)) ggX5_addPiece_X5_room
theorem dX5_addPiece_0 : decode cX5_addPiece 0 = .ok (.aload_n 1, 1) := by decide +kernel
theorem dX5_addPiece_1 : decode cX5_addPiece 1 = .ok (.iload_n 2, 1) := by decide +kernel
theorem dX5_addPiece_2 : decode cX5_addPiece 2 = .ok (.iload_n 3, 1) := by decide +kernel
theorem dX5_addPiece_3 : decode cX5_addPiece 3 = .ok (.invokevirtual 37, 3) := by decide +kernel
theorem dX5_addPiece_6 : decode cX5_addPiece 6 = .ok (.ifCond .eq 38, 3) := by decide +kernel
theorem dX5_addPiece_9 : decode cX5_addPiece 9 = .ok (.iload_n 3, 1) := by decide +kernel
theorem dX5_addPiece_10 : decode cX5_addPiece 10 = .ok (.aload_n 0, 1) := by decide +kernel
theorem dX5_addPiece_11 : decode cX5_addPiece 11 = .ok (.invokevirtual 33, 3) := by decide +kernel
theorem dX5_addPiece_14 : decode cX5_addPiece 14 = .ok (.if_icmp .gt 30, 3) := by decide +kernel
theorem dX5_addPiece_17 : decode cX5_addPiece 17 = .ok (.aload_n 1, 1) := by decide +kernel
theorem dX5_addPiece_18 : decode cX5_addPiece 18 = .ok (.getfield 15, 3) := by decide +kernel
theorem dX5_addPiece_21 : decode cX5_addPiece 21 = .ok (.iload_n 2, 1) := by decide +kernel
theorem dX5_addPiece_22 : decode cX5_addPiece 22 = .ok (.aload_n 0, 1) := by decide +kernel
theorem dX5_addPiece_23 : decode cX5_addPiece 23 = .ok (.getfield 15, 3) := by decide +kernel
theorem dX5_addPiece_26 : decode cX5_addPiece 26 = .ok (.aload_n 0, 1) := by decide +kernel
theorem dX5_addPiece_27 : decode cX5_addPiece 27 = .ok (.getfield 21, 3) := by decide +kernel
theorem dX5_addPiece_30 : decode cX5_addPiece 30 = .ok (.iload_n 3, 1) := by decide +kernel
theorem dX5_addPiece_31 : decode cX5_addPiece 31 = .ok (.invokestatic 41, 3) := by decide +kernel
theorem dX5_addPiece_34 : decode cX5_addPiece 34 = .ok (.aload_n 0, 1) := by decide +kernel
theorem dX5_addPiece_35 : decode cX5_addPiece 35 = .ok (.dup, 1) := by decide +kernel
theorem dX5_addPiece_36 : decode cX5_addPiece 36 = .ok (.getfield 21, 3) := by decide +kernel
theorem dX5_addPiece_39 : decode cX5_addPiece 39 = .ok (.iload_n 3, 1) := by decide +kernel
theorem dX5_addPiece_40 : decode cX5_addPiece 40 = .ok (.iadd, 1) := by decide +kernel
theorem dX5_addPiece_41 : decode cX5_addPiece 41 = .ok (.putfield 21, 3) := by decide +kernel
theorem dX5_addPiece_44 : decode cX5_addPiece 44 = .ok (.return_, 1) := by decide +kernel
set_option maxRecDepth 20000 in
theorem ggX5_addAgain_X5_room : GoodIn wsX5_addAgain wsX5_room := goodIn_r _ [7, 2, 1, 8, 9] (by decide +kernel) (by decide +kernel)
set_option maxRecDepth 20000 in
theorem gX5_addAgain_X5_room : GoodIn wsX5_addAgain (wsV RX5 33 RX5 yX5_room wsX5_room) := goodIn_app (goodIn_of _ (by decide +kernel)) ggX5_addAgain_X5_room
theorem dX5_addAgain_0 : decode cX5_addAgain 0 = .ok (.iload_n 1, 1) := by decide +kernel
theorem dX5_addAgain_1 : decode cX5_addAgain 1 = .ok (.iconst 1, 1) := by decide +kernel
theorem dX5_addAgain_2 : decode cX5_addAgain 2 = .ok (.if_icmp .lt 19, 3) := by decide +kernel
theorem dX5_addAgain_5 : decode cX5_addAgain 5 = .ok (.iload_n 1, 1) := by decide +kernel
theorem dX5_addAgain_6 : decode cX5_addAgain 6 = .ok (.aload_n 0, 1) := by decide +kernel
theorem dX5_addAgain_7 : decode cX5_addAgain 7 = .ok (.getfield 21, 3) := by decide +kernel
theorem dX5_addAgain_10 : decode cX5_addAgain 10 = .ok (.if_icmp .gt 11, 3) := by decide +kernel
theorem dX5_addAgain_13 : decode cX5_addAgain 13 = .ok (.iload_n 2, 1) := by decide +kernel
theorem dX5_addAgain_14 : decode cX5_addAgain 14 = .ok (.aload_n 0, 1) := by decide +kernel
theorem dX5_addAgain_15 : decode cX5_addAgain 15 = .ok (.invokevirtual 33, 3) := by decide +kernel
theorem dX5_addAgain_18 : decode cX5_addAgain 18 = .ok (.if_icmp .le 4, 3) := by decide +kernel
theorem dX5_addAgain_21 : decode cX5_addAgain 21 = .ok (.return_, 1) := by decide +kernel
theorem dX5_addAgain_22 : decode cX5_addAgain 22 = .ok (.iconst 0, 1) := by decide +kernel
theorem dX5_addAgain_23 : decode cX5_addAgain 23 = .ok (.istore_n 3, 1) := by decide +kernel
theorem dX5_addAgain_24 : decode cX5_addAgain 24 = .ok (.iload_n 3, 1) := by decide +kernel
theorem dX5_addAgain_25 : decode cX5_addAgain 25 = .ok (.iload_n 2, 1) := by decide +kernel
theorem dX5_addAgain_26 : decode cX5_addAgain 26 = .ok (.if_icmp .ge 39, 3) := by decide +kernel
theorem dX5_addAgain_29 : decode cX5_addAgain 29 = .ok (.aload_n 0, 1) := by decide +kernel
theorem dX5_addAgain_30 : decode cX5_addAgain 30 = .ok (.getfield 15, 3) := by decide +kernel
theorem dX5_addAgain_33 : decode cX5_addAgain 33 = .ok (.aload_n 0, 1) := by decide +kernel
theorem dX5_addAgain_34 : decode cX5_addAgain 34 = .ok (.getfield 21, 3) := by decide +kernel
theorem dX5_addAgain_37 : decode cX5_addAgain 37 = .ok (.aload_n 0, 1) := by decide +kernel
theorem dX5_addAgain_38 : decode cX5_addAgain 38 = .ok (.getfield 15, 3) := by decide +kernel
theorem dX5_addAgain_41 : decode cX5_addAgain 41 = .ok (.aload_n 0, 1) := by decide +kernel
theorem dX5_addAgain_42 : decode cX5_addAgain 42 = .ok (.getfield 21, 3) := by decide +kernel
theorem dX5_addAgain_45 : decode cX5_addAgain 45 = .ok (.iload_n 1, 1) := by decide +kernel
theorem dX5_addAgain_46 : decode cX5_addAgain 46 = .ok (.isub, 1) := by decide +kernel
theorem dX5_addAgain_47 : decode cX5_addAgain 47 = .ok (.baload, 1) := by decide +kernel
theorem dX5_addAgain_48 : decode cX5_addAgain 48 = .ok (.bastore, 1) := by decide +kernel
theorem dX5_addAgain_49 : decode cX5_addAgain 49 = .ok (.aload_n 0, 1) := by decide +kernel
theorem dX5_addAgain_50 : decode cX5_addAgain 50 = .ok (.dup, 1) := by decide +kernel
theorem dX5_addAgain_51 : decode cX5_addAgain 51 = .ok (.getfield 21, 3) := by decide +kernel
theorem dX5_addAgain_54 : decode cX5_addAgain 54 = .ok (.iconst 1, 1) := by decide +kernel
theorem dX5_addAgain_55 : decode cX5_addAgain 55 = .ok (.iadd, 1) := by decide +kernel
theorem dX5_addAgain_56 : decode cX5_addAgain 56 = .ok (.putfield 21, 3) := by decide +kernel
theorem dX5_addAgain_59 : decode cX5_addAgain 59 = .ok (.iinc 3 1, 3) := by decide +kernel
theorem dX5_addAgain_62 : decode cX5_addAgain 62 = .ok (.goto (-38), 3) := by decide +kernel
theorem dX5_addAgain_65 : decode cX5_addAgain 65 = .ok (.return_, 1) := by decide +kernel
set_option maxRecDepth 20000 in
theorem ggX5_numberAt_X5_hasPiece : GoodIn wsX5_numberAt wsX5_hasPiece := goodIn_r _ [7, 8, 9, 10] (by decide +kernel) (by decide +kernel)
set_option maxRecDepth 20000 in
theorem gX5_numberAt_X5_hasPiece : GoodIn wsX5_numberAt (wsV RX5 37 RX5 yX5_hasPiece wsX5_hasPiece) := goodIn_app (goodIn_of _ (by decide +kernel)) ggX5_numberAt_X5_hasPiece
theorem dX5_numberAt_0 : decode cX5_numberAt 0 = .ok (.lconst 0, 1) := by decide +kernel
theorem dX5_numberAt_1 : decode cX5_numberAt 1 = .ok (.lstore_n 3, 1) := by decide +kernel
theorem dX5_numberAt_2 : decode cX5_numberAt 2 = .ok (.aload_n 0, 1) := by decide +kernel
theorem dX5_numberAt_3 : decode cX5_numberAt 3 = .ok (.iload_n 1, 1) := by decide +kernel
theorem dX5_numberAt_4 : decode cX5_numberAt 4 = .ok (.iload_n 2, 1) := by decide +kernel
theorem dX5_numberAt_5 : decode cX5_numberAt 5 = .ok (.invokevirtual 37, 3) := by decide +kernel
theorem dX5_numberAt_8 : decode cX5_numberAt 8 = .ok (.ifCond .eq 41, 3) := by decide +kernel
theorem dX5_numberAt_11 : decode cX5_numberAt 11 = .ok (.iconst 0, 1) := by decide +kernel
theorem dX5_numberAt_12 : decode cX5_numberAt 12 = .ok (.istore 5, 2) := by decide +kernel
theorem dX5_numberAt_14 : decode cX5_numberAt 14 = .ok (.iload 5, 2) := by decide +kernel
theorem dX5_numberAt_16 : decode cX5_numberAt 16 = .ok (.iload_n 2, 1) := by decide +kernel
theorem dX5_numberAt_17 : decode cX5_numberAt 17 = .ok (.if_icmp .ge 32, 3) := by decide +kernel
theorem dX5_numberAt_20 : decode cX5_numberAt 20 = .ok (.lload_n 3, 1) := by decide +kernel
theorem dX5_numberAt_21 : decode cX5_numberAt 21 = .ok (.aload_n 0, 1) := by decide +kernel
theorem dX5_numberAt_22 : decode cX5_numberAt 22 = .ok (.getfield 15, 3) := by decide +kernel
theorem dX5_numberAt_25 : decode cX5_numberAt 25 = .ok (.iload_n 1, 1) := by decide +kernel
theorem dX5_numberAt_26 : decode cX5_numberAt 26 = .ok (.iload 5, 2) := by decide +kernel
theorem dX5_numberAt_28 : decode cX5_numberAt 28 = .ok (.iadd, 1) := by decide +kernel
theorem dX5_numberAt_29 : decode cX5_numberAt 29 = .ok (.baload, 1) := by decide +kernel
theorem dX5_numberAt_30 : decode cX5_numberAt 30 = .ok (.i2l, 1) := by decide +kernel
theorem dX5_numberAt_31 : decode cX5_numberAt 31 = .ok (.ldc2_w 47, 3) := by decide +kernel
theorem dX5_numberAt_34 : decode cX5_numberAt 34 = .ok (.land, 1) := by decide +kernel
theorem dX5_numberAt_35 : decode cX5_numberAt 35 = .ok (.bipush 8, 2) := by decide +kernel
theorem dX5_numberAt_37 : decode cX5_numberAt 37 = .ok (.iload 5, 2) := by decide +kernel
theorem dX5_numberAt_39 : decode cX5_numberAt 39 = .ok (.imul, 1) := by decide +kernel
theorem dX5_numberAt_40 : decode cX5_numberAt 40 = .ok (.lshl, 1) := by decide +kernel
theorem dX5_numberAt_41 : decode cX5_numberAt 41 = .ok (.lor, 1) := by decide +kernel
theorem dX5_numberAt_42 : decode cX5_numberAt 42 = .ok (.lstore_n 3, 1) := by decide +kernel
theorem dX5_numberAt_43 : decode cX5_numberAt 43 = .ok (.iinc 5 1, 3) := by decide +kernel
theorem dX5_numberAt_46 : decode cX5_numberAt 46 = .ok (.goto (-32), 3) := by decide +kernel
theorem dX5_numberAt_49 : decode cX5_numberAt 49 = .ok (.lload_n 3, 1) := by decide +kernel
theorem dX5_numberAt_50 : decode cX5_numberAt 50 = .ok (.lreturn, 1) := by decide +kernel
theorem dX5_word_0 : decode cX5_word 0 = .ok (.iload_n 1, 1) := by decide +kernel
theorem dX5_word_1 : decode cX5_word 1 = .ok (.ifCond .lt 13, 3) := by decide +kernel
theorem dX5_word_4 : decode cX5_word 4 = .ok (.iload_n 1, 1) := by decide +kernel
theorem dX5_word_5 : decode cX5_word 5 = .ok (.aload_n 0, 1) := by decide +kernel
theorem dX5_word_6 : decode cX5_word 6 = .ok (.getfield 21, 3) := by decide +kernel
theorem dX5_word_9 : decode cX5_word 9 = .ok (.iconst 4, 1) := by decide +kernel
theorem dX5_word_10 : decode cX5_word 10 = .ok (.isub, 1) := by decide +kernel
theorem dX5_word_11 : decode cX5_word 11 = .ok (.if_icmp .le 5, 3) := by decide +kernel
theorem dX5_word_14 : decode cX5_word 14 = .ok (.iconst 0, 1) := by decide +kernel
theorem dX5_word_15 : decode cX5_word 15 = .ok (.ireturn, 1) := by decide +kernel
theorem dX5_word_16 : decode cX5_word 16 = .ok (.aload_n 0, 1) := by decide +kernel
theorem dX5_word_17 : decode cX5_word 17 = .ok (.getfield 15, 3) := by decide +kernel
theorem dX5_word_20 : decode cX5_word 20 = .ok (.iload_n 1, 1) := by decide +kernel
theorem dX5_word_21 : decode cX5_word 21 = .ok (.baload, 1) := by decide +kernel
theorem dX5_word_22 : decode cX5_word 22 = .ok (.sipush 255, 3) := by decide +kernel
theorem dX5_word_25 : decode cX5_word 25 = .ok (.iand, 1) := by decide +kernel
theorem dX5_word_26 : decode cX5_word 26 = .ok (.aload_n 0, 1) := by decide +kernel
theorem dX5_word_27 : decode cX5_word 27 = .ok (.getfield 15, 3) := by decide +kernel
theorem dX5_word_30 : decode cX5_word 30 = .ok (.iload_n 1, 1) := by decide +kernel
theorem dX5_word_31 : decode cX5_word 31 = .ok (.iconst 1, 1) := by decide +kernel
theorem dX5_word_32 : decode cX5_word 32 = .ok (.iadd, 1) := by decide +kernel
theorem dX5_word_33 : decode cX5_word 33 = .ok (.baload, 1) := by decide +kernel
theorem dX5_word_34 : decode cX5_word 34 = .ok (.sipush 255, 3) := by decide +kernel
theorem dX5_word_37 : decode cX5_word 37 = .ok (.iand, 1) := by decide +kernel
theorem dX5_word_38 : decode cX5_word 38 = .ok (.bipush 8, 2) := by decide +kernel
theorem dX5_word_40 : decode cX5_word 40 = .ok (.ishl, 1) := by decide +kernel
theorem dX5_word_41 : decode cX5_word 41 = .ok (.ior, 1) := by decide +kernel
theorem dX5_word_42 : decode cX5_word 42 = .ok (.aload_n 0, 1) := by decide +kernel
theorem dX5_word_43 : decode cX5_word 43 = .ok (.getfield 15, 3) := by decide +kernel
theorem dX5_word_46 : decode cX5_word 46 = .ok (.iload_n 1, 1) := by decide +kernel
theorem dX5_word_47 : decode cX5_word 47 = .ok (.iconst 2, 1) := by decide +kernel
theorem dX5_word_48 : decode cX5_word 48 = .ok (.iadd, 1) := by decide +kernel
theorem dX5_word_49 : decode cX5_word 49 = .ok (.baload, 1) := by decide +kernel
theorem dX5_word_50 : decode cX5_word 50 = .ok (.sipush 255, 3) := by decide +kernel
theorem dX5_word_53 : decode cX5_word 53 = .ok (.iand, 1) := by decide +kernel
theorem dX5_word_54 : decode cX5_word 54 = .ok (.bipush 16, 2) := by decide +kernel
theorem dX5_word_56 : decode cX5_word 56 = .ok (.ishl, 1) := by decide +kernel
theorem dX5_word_57 : decode cX5_word 57 = .ok (.ior, 1) := by decide +kernel
theorem dX5_word_58 : decode cX5_word 58 = .ok (.aload_n 0, 1) := by decide +kernel
theorem dX5_word_59 : decode cX5_word 59 = .ok (.getfield 15, 3) := by decide +kernel
theorem dX5_word_62 : decode cX5_word 62 = .ok (.iload_n 1, 1) := by decide +kernel
theorem dX5_word_63 : decode cX5_word 63 = .ok (.iconst 3, 1) := by decide +kernel
theorem dX5_word_64 : decode cX5_word 64 = .ok (.iadd, 1) := by decide +kernel
theorem dX5_word_65 : decode cX5_word 65 = .ok (.baload, 1) := by decide +kernel
theorem dX5_word_66 : decode cX5_word 66 = .ok (.sipush 255, 3) := by decide +kernel
theorem dX5_word_69 : decode cX5_word 69 = .ok (.iand, 1) := by decide +kernel
theorem dX5_word_70 : decode cX5_word 70 = .ok (.bipush 24, 2) := by decide +kernel
theorem dX5_word_72 : decode cX5_word 72 = .ok (.ishl, 1) := by decide +kernel
theorem dX5_word_73 : decode cX5_word 73 = .ok (.ior, 1) := by decide +kernel
theorem dX5_word_74 : decode cX5_word 74 = .ok (.ireturn, 1) := by decide +kernel
set_option maxRecDepth 20000 in
theorem ggX5_hashOf_X5_hasPiece : GoodIn wsX5_hashOf wsX5_hasPiece := goodIn_r _ [11, 12, 24, 25] (by decide +kernel) (by decide +kernel)
set_option maxRecDepth 20000 in
theorem gX5_hashOf_X5_hasPiece : GoodIn wsX5_hashOf (wsV RX5 37 RX5 yX5_hasPiece wsX5_hasPiece) := goodIn_app (goodIn_of _ (by decide +kernel)) ggX5_hashOf_X5_hasPiece
set_option maxRecDepth 20000 in
theorem ggX5_hashOf_X5_sixteens : GoodIn wsX5_hashOf wsX5_sixteens := goodIn_r _ [16, 5, 6, 17, 18, 19, 10, 20, 12, 4, 21, 22, 23, 24, 25] (by decide +kernel) (by decide +kernel)
set_option maxRecDepth 20000 in
theorem gX5_hashOf_X5_sixteens : GoodIn wsX5_hashOf (wsV RX5 49 RX5 yX5_sixteens wsX5_sixteens) := goodIn_app (goodIn_of _ (by decide +kernel)) ggX5_hashOf_X5_sixteens
set_option maxRecDepth 20000 in
theorem ggX5_hashOf_X5_word : GoodIn wsX5_hashOf wsX5_word := goodIn_r _ [20, 12, 4, 24, 25] (by decide +kernel) (by decide +kernel)
set_option maxRecDepth 20000 in
theorem gX5_hashOf_X5_word : GoodIn wsX5_hashOf (wsV RX5 55 RX5 yX5_word wsX5_word) := goodIn_app (goodIn_of _ (by decide +kernel)) ggX5_hashOf_X5_word
theorem dX5_hashOf_0 : decode cX5_hashOf 0 = .ok (.aload_n 0, 1) := by decide +kernel
theorem dX5_hashOf_1 : decode cX5_hashOf 1 = .ok (.iload_n 1, 1) := by decide +kernel
theorem dX5_hashOf_2 : decode cX5_hashOf 2 = .ok (.iload_n 2, 1) := by decide +kernel
theorem dX5_hashOf_3 : decode cX5_hashOf 3 = .ok (.invokevirtual 37, 3) := by decide +kernel
theorem dX5_hashOf_6 : decode cX5_hashOf 6 = .ok (.ifCond .ne 5, 3) := by decide +kernel
theorem dX5_hashOf_9 : decode cX5_hashOf 9 = .ok (.iconst 0, 1) := by decide +kernel
theorem dX5_hashOf_10 : decode cX5_hashOf 10 = .ok (.ireturn, 1) := by decide +kernel
theorem dX5_hashOf_11 : decode cX5_hashOf 11 = .ok (.iload_n 1, 1) := by decide +kernel
theorem dX5_hashOf_12 : decode cX5_hashOf 12 = .ok (.iload_n 2, 1) := by decide +kernel
theorem dX5_hashOf_13 : decode cX5_hashOf 13 = .ok (.iadd, 1) := by decide +kernel
theorem dX5_hashOf_14 : decode cX5_hashOf 14 = .ok (.istore 4, 2) := by decide +kernel
theorem dX5_hashOf_16 : decode cX5_hashOf 16 = .ok (.iload_n 1, 1) := by decide +kernel
theorem dX5_hashOf_17 : decode cX5_hashOf 17 = .ok (.iload_n 2, 1) := by decide +kernel
theorem dX5_hashOf_18 : decode cX5_hashOf 18 = .ok (.bipush 16, 2) := by decide +kernel
theorem dX5_hashOf_20 : decode cX5_hashOf 20 = .ok (.if_icmp .lt 10, 3) := by decide +kernel
theorem dX5_hashOf_23 : decode cX5_hashOf 23 = .ok (.iload_n 2, 1) := by decide +kernel
theorem dX5_hashOf_24 : decode cX5_hashOf 24 = .ok (.bipush (-16), 2) := by decide +kernel
theorem dX5_hashOf_26 : decode cX5_hashOf 26 = .ok (.iand, 1) := by decide +kernel
theorem dX5_hashOf_27 : decode cX5_hashOf 27 = .ok (.goto 4, 3) := by decide +kernel
theorem dX5_hashOf_30 : decode cX5_hashOf 30 = .ok (.iconst 0, 1) := by decide +kernel
theorem dX5_hashOf_31 : decode cX5_hashOf 31 = .ok (.iadd, 1) := by decide +kernel
theorem dX5_hashOf_32 : decode cX5_hashOf 32 = .ok (.istore 5, 2) := by decide +kernel
theorem dX5_hashOf_34 : decode cX5_hashOf 34 = .ok (.iload_n 2, 1) := by decide +kernel
theorem dX5_hashOf_35 : decode cX5_hashOf 35 = .ok (.bipush 16, 2) := by decide +kernel
theorem dX5_hashOf_37 : decode cX5_hashOf 37 = .ok (.if_icmp .lt 14, 3) := by decide +kernel
theorem dX5_hashOf_40 : decode cX5_hashOf 40 = .ok (.aload_n 0, 1) := by decide +kernel
theorem dX5_hashOf_41 : decode cX5_hashOf 41 = .ok (.iload_n 1, 1) := by decide +kernel
theorem dX5_hashOf_42 : decode cX5_hashOf 42 = .ok (.iload 5, 2) := by decide +kernel
theorem dX5_hashOf_44 : decode cX5_hashOf 44 = .ok (.iload_n 3, 1) := by decide +kernel
theorem dX5_hashOf_45 : decode cX5_hashOf 45 = .ok (.invokevirtual 49, 3) := by decide +kernel
theorem dX5_hashOf_48 : decode cX5_hashOf 48 = .ok (.goto 7, 3) := by decide +kernel
theorem dX5_hashOf_51 : decode cX5_hashOf 51 = .ok (.iload_n 3, 1) := by decide +kernel
theorem dX5_hashOf_52 : decode cX5_hashOf 52 = .ok (.ldc 53, 2) := by decide +kernel
theorem dX5_hashOf_54 : decode cX5_hashOf 54 = .ok (.iadd, 1) := by decide +kernel
theorem dX5_hashOf_55 : decode cX5_hashOf 55 = .ok (.iload_n 2, 1) := by decide +kernel
theorem dX5_hashOf_56 : decode cX5_hashOf 56 = .ok (.iadd, 1) := by decide +kernel
theorem dX5_hashOf_57 : decode cX5_hashOf 57 = .ok (.istore 6, 2) := by decide +kernel
theorem dX5_hashOf_59 : decode cX5_hashOf 59 = .ok (.iload 4, 2) := by decide +kernel
theorem dX5_hashOf_61 : decode cX5_hashOf 61 = .ok (.iload_n 2, 1) := by decide +kernel
theorem dX5_hashOf_62 : decode cX5_hashOf 62 = .ok (.iconst 3, 1) := by decide +kernel
theorem dX5_hashOf_63 : decode cX5_hashOf 63 = .ok (.iand, 1) := by decide +kernel
theorem dX5_hashOf_64 : decode cX5_hashOf 64 = .ok (.isub, 1) := by decide +kernel
theorem dX5_hashOf_65 : decode cX5_hashOf 65 = .ok (.istore 7, 2) := by decide +kernel
theorem dX5_hashOf_67 : decode cX5_hashOf 67 = .ok (.iload 5, 2) := by decide +kernel
theorem dX5_hashOf_69 : decode cX5_hashOf 69 = .ok (.istore 8, 2) := by decide +kernel
theorem dX5_hashOf_71 : decode cX5_hashOf 71 = .ok (.iload 8, 2) := by decide +kernel
theorem dX5_hashOf_73 : decode cX5_hashOf 73 = .ok (.iload 7, 2) := by decide +kernel
theorem dX5_hashOf_75 : decode cX5_hashOf 75 = .ok (.if_icmp .ge 39, 3) := by decide +kernel
theorem dX5_hashOf_78 : decode cX5_hashOf 78 = .ok (.iload 6, 2) := by decide +kernel
theorem dX5_hashOf_80 : decode cX5_hashOf 80 = .ok (.ldc 54, 2) := by decide +kernel
theorem dX5_hashOf_82 : decode cX5_hashOf 82 = .ok (.aload_n 0, 1) := by decide +kernel
theorem dX5_hashOf_83 : decode cX5_hashOf 83 = .ok (.iload 8, 2) := by decide +kernel
theorem dX5_hashOf_85 : decode cX5_hashOf 85 = .ok (.invokevirtual 55, 3) := by decide +kernel
theorem dX5_hashOf_88 : decode cX5_hashOf 88 = .ok (.imul, 1) := by decide +kernel
theorem dX5_hashOf_89 : decode cX5_hashOf 89 = .ok (.iadd, 1) := by decide +kernel
theorem dX5_hashOf_90 : decode cX5_hashOf 90 = .ok (.istore 9, 2) := by decide +kernel
theorem dX5_hashOf_92 : decode cX5_hashOf 92 = .ok (.iload 9, 2) := by decide +kernel
theorem dX5_hashOf_94 : decode cX5_hashOf 94 = .ok (.bipush 17, 2) := by decide +kernel
theorem dX5_hashOf_96 : decode cX5_hashOf 96 = .ok (.ishl, 1) := by decide +kernel
theorem dX5_hashOf_97 : decode cX5_hashOf 97 = .ok (.iload 9, 2) := by decide +kernel
theorem dX5_hashOf_99 : decode cX5_hashOf 99 = .ok (.bipush 15, 2) := by decide +kernel
theorem dX5_hashOf_101 : decode cX5_hashOf 101 = .ok (.iushr, 1) := by decide +kernel
theorem dX5_hashOf_102 : decode cX5_hashOf 102 = .ok (.ior, 1) := by decide +kernel
theorem dX5_hashOf_103 : decode cX5_hashOf 103 = .ok (.ldc 58, 2) := by decide +kernel
theorem dX5_hashOf_105 : decode cX5_hashOf 105 = .ok (.imul, 1) := by decide +kernel
theorem dX5_hashOf_106 : decode cX5_hashOf 106 = .ok (.istore 6, 2) := by decide +kernel
theorem dX5_hashOf_108 : decode cX5_hashOf 108 = .ok (.iinc 8 4, 3) := by decide +kernel
theorem dX5_hashOf_111 : decode cX5_hashOf 111 = .ok (.goto (-40), 3) := by decide +kernel
theorem dX5_hashOf_114 : decode cX5_hashOf 114 = .ok (.iload 7, 2) := by decide +kernel
theorem dX5_hashOf_116 : decode cX5_hashOf 116 = .ok (.istore 8, 2) := by decide +kernel
theorem dX5_hashOf_118 : decode cX5_hashOf 118 = .ok (.iload 8, 2) := by decide +kernel
theorem dX5_hashOf_120 : decode cX5_hashOf 120 = .ok (.iload 4, 2) := by decide +kernel
theorem dX5_hashOf_122 : decode cX5_hashOf 122 = .ok (.if_icmp .ge 44, 3) := by decide +kernel
theorem dX5_hashOf_125 : decode cX5_hashOf 125 = .ok (.iload 6, 2) := by decide +kernel
theorem dX5_hashOf_127 : decode cX5_hashOf 127 = .ok (.ldc 53, 2) := by decide +kernel
theorem dX5_hashOf_129 : decode cX5_hashOf 129 = .ok (.aload_n 0, 1) := by decide +kernel
theorem dX5_hashOf_130 : decode cX5_hashOf 130 = .ok (.getfield 15, 3) := by decide +kernel
theorem dX5_hashOf_133 : decode cX5_hashOf 133 = .ok (.iload 8, 2) := by decide +kernel
theorem dX5_hashOf_135 : decode cX5_hashOf 135 = .ok (.baload, 1) := by decide +kernel
theorem dX5_hashOf_136 : decode cX5_hashOf 136 = .ok (.sipush 255, 3) := by decide +kernel
theorem dX5_hashOf_139 : decode cX5_hashOf 139 = .ok (.iand, 1) := by decide +kernel
theorem dX5_hashOf_140 : decode cX5_hashOf 140 = .ok (.imul, 1) := by decide +kernel
theorem dX5_hashOf_141 : decode cX5_hashOf 141 = .ok (.iadd, 1) := by decide +kernel
theorem dX5_hashOf_142 : decode cX5_hashOf 142 = .ok (.istore 9, 2) := by decide +kernel
theorem dX5_hashOf_144 : decode cX5_hashOf 144 = .ok (.iload 9, 2) := by decide +kernel
theorem dX5_hashOf_146 : decode cX5_hashOf 146 = .ok (.bipush 11, 2) := by decide +kernel
theorem dX5_hashOf_148 : decode cX5_hashOf 148 = .ok (.ishl, 1) := by decide +kernel
theorem dX5_hashOf_149 : decode cX5_hashOf 149 = .ok (.iload 9, 2) := by decide +kernel
theorem dX5_hashOf_151 : decode cX5_hashOf 151 = .ok (.bipush 21, 2) := by decide +kernel
theorem dX5_hashOf_153 : decode cX5_hashOf 153 = .ok (.iushr, 1) := by decide +kernel
theorem dX5_hashOf_154 : decode cX5_hashOf 154 = .ok (.ior, 1) := by decide +kernel
theorem dX5_hashOf_155 : decode cX5_hashOf 155 = .ok (.ldc 59, 2) := by decide +kernel
theorem dX5_hashOf_157 : decode cX5_hashOf 157 = .ok (.imul, 1) := by decide +kernel
theorem dX5_hashOf_158 : decode cX5_hashOf 158 = .ok (.istore 6, 2) := by decide +kernel
theorem dX5_hashOf_160 : decode cX5_hashOf 160 = .ok (.iinc 8 1, 3) := by decide +kernel
theorem dX5_hashOf_163 : decode cX5_hashOf 163 = .ok (.goto (-45), 3) := by decide +kernel
theorem dX5_hashOf_166 : decode cX5_hashOf 166 = .ok (.iload 6, 2) := by decide +kernel
theorem dX5_hashOf_168 : decode cX5_hashOf 168 = .ok (.iload 6, 2) := by decide +kernel
theorem dX5_hashOf_170 : decode cX5_hashOf 170 = .ok (.bipush 15, 2) := by decide +kernel
theorem dX5_hashOf_172 : decode cX5_hashOf 172 = .ok (.iushr, 1) := by decide +kernel
theorem dX5_hashOf_173 : decode cX5_hashOf 173 = .ok (.ixor, 1) := by decide +kernel
theorem dX5_hashOf_174 : decode cX5_hashOf 174 = .ok (.ldc 60, 2) := by decide +kernel
theorem dX5_hashOf_176 : decode cX5_hashOf 176 = .ok (.imul, 1) := by decide +kernel
theorem dX5_hashOf_177 : decode cX5_hashOf 177 = .ok (.istore 6, 2) := by decide +kernel
theorem dX5_hashOf_179 : decode cX5_hashOf 179 = .ok (.iload 6, 2) := by decide +kernel
theorem dX5_hashOf_181 : decode cX5_hashOf 181 = .ok (.iload 6, 2) := by decide +kernel
theorem dX5_hashOf_183 : decode cX5_hashOf 183 = .ok (.bipush 13, 2) := by decide +kernel
theorem dX5_hashOf_185 : decode cX5_hashOf 185 = .ok (.iushr, 1) := by decide +kernel
theorem dX5_hashOf_186 : decode cX5_hashOf 186 = .ok (.ixor, 1) := by decide +kernel
theorem dX5_hashOf_187 : decode cX5_hashOf 187 = .ok (.ldc 54, 2) := by decide +kernel
theorem dX5_hashOf_189 : decode cX5_hashOf 189 = .ok (.imul, 1) := by decide +kernel
theorem dX5_hashOf_190 : decode cX5_hashOf 190 = .ok (.istore 6, 2) := by decide +kernel
theorem dX5_hashOf_192 : decode cX5_hashOf 192 = .ok (.iload 6, 2) := by decide +kernel
theorem dX5_hashOf_194 : decode cX5_hashOf 194 = .ok (.iload 6, 2) := by decide +kernel
theorem dX5_hashOf_196 : decode cX5_hashOf 196 = .ok (.bipush 16, 2) := by decide +kernel
theorem dX5_hashOf_198 : decode cX5_hashOf 198 = .ok (.iushr, 1) := by decide +kernel
theorem dX5_hashOf_199 : decode cX5_hashOf 199 = .ok (.ixor, 1) := by decide +kernel
theorem dX5_hashOf_200 : decode cX5_hashOf 200 = .ok (.ireturn, 1) := by decide +kernel
set_option maxRecDepth 20000 in
theorem ggX5_sixteens_X5_word : GoodIn wsX5_sixteens wsX5_word := goodIn_r _ [7, 8, 9, 13, 14] (by decide +kernel) (by decide +kernel)
set_option maxRecDepth 20000 in
theorem gX5_sixteens_X5_word : GoodIn wsX5_sixteens (wsV RX5 55 RX5 yX5_word wsX5_word) := goodIn_app (goodIn_of _ (by decide +kernel)) ggX5_sixteens_X5_word
set_option maxRecDepth 20000 in
theorem ggX5_sixteens_X5_withWord : GoodIn wsX5_sixteens wsX5_withWord := goodIn_r _ [12, 2, 1] (by decide +kernel) (by decide +kernel)
set_option maxRecDepth 20000 in
theorem gX5_sixteens_X5_withWord : GoodIn wsX5_sixteens (va_wsS RX5 61 yX5_withWord wsX5_withWord) := goodIn_app (goodIn_of _ (by decide +kernel)) ggX5_sixteens_X5_withWord
theorem dX5_sixteens_0 : decode cX5_sixteens 0 = .ok (.iload_n 3, 1) := by decide +kernel
theorem dX5_sixteens_1 : decode cX5_sixteens 1 = .ok (.ldc 59, 2) := by decide +kernel
theorem dX5_sixteens_3 : decode cX5_sixteens 3 = .ok (.iadd, 1) := by decide +kernel
theorem dX5_sixteens_4 : decode cX5_sixteens 4 = .ok (.ldc 60, 2) := by decide +kernel
theorem dX5_sixteens_6 : decode cX5_sixteens 6 = .ok (.iadd, 1) := by decide +kernel
theorem dX5_sixteens_7 : decode cX5_sixteens 7 = .ok (.istore 4, 2) := by decide +kernel
theorem dX5_sixteens_9 : decode cX5_sixteens 9 = .ok (.iload_n 3, 1) := by decide +kernel
theorem dX5_sixteens_10 : decode cX5_sixteens 10 = .ok (.ldc 60, 2) := by decide +kernel
theorem dX5_sixteens_12 : decode cX5_sixteens 12 = .ok (.iadd, 1) := by decide +kernel
theorem dX5_sixteens_13 : decode cX5_sixteens 13 = .ok (.istore 5, 2) := by decide +kernel
theorem dX5_sixteens_15 : decode cX5_sixteens 15 = .ok (.iload_n 3, 1) := by decide +kernel
theorem dX5_sixteens_16 : decode cX5_sixteens 16 = .ok (.istore 6, 2) := by decide +kernel
theorem dX5_sixteens_18 : decode cX5_sixteens 18 = .ok (.iload_n 3, 1) := by decide +kernel
theorem dX5_sixteens_19 : decode cX5_sixteens 19 = .ok (.ldc 59, 2) := by decide +kernel
theorem dX5_sixteens_21 : decode cX5_sixteens 21 = .ok (.isub, 1) := by decide +kernel
theorem dX5_sixteens_22 : decode cX5_sixteens 22 = .ok (.istore 7, 2) := by decide +kernel
theorem dX5_sixteens_24 : decode cX5_sixteens 24 = .ok (.iload_n 1, 1) := by decide +kernel
theorem dX5_sixteens_25 : decode cX5_sixteens 25 = .ok (.istore 8, 2) := by decide +kernel
theorem dX5_sixteens_27 : decode cX5_sixteens 27 = .ok (.iload 8, 2) := by decide +kernel
theorem dX5_sixteens_29 : decode cX5_sixteens 29 = .ok (.iload_n 2, 1) := by decide +kernel
theorem dX5_sixteens_30 : decode cX5_sixteens 30 = .ok (.if_icmp .ge 69, 3) := by decide +kernel
theorem dX5_sixteens_33 : decode cX5_sixteens 33 = .ok (.iload 4, 2) := by decide +kernel
theorem dX5_sixteens_35 : decode cX5_sixteens 35 = .ok (.aload_n 0, 1) := by decide +kernel
theorem dX5_sixteens_36 : decode cX5_sixteens 36 = .ok (.iload 8, 2) := by decide +kernel
theorem dX5_sixteens_38 : decode cX5_sixteens 38 = .ok (.invokevirtual 55, 3) := by decide +kernel
theorem dX5_sixteens_41 : decode cX5_sixteens 41 = .ok (.invokestatic 61, 3) := by decide +kernel
theorem dX5_sixteens_44 : decode cX5_sixteens 44 = .ok (.istore 4, 2) := by decide +kernel
theorem dX5_sixteens_46 : decode cX5_sixteens 46 = .ok (.iload 5, 2) := by decide +kernel
theorem dX5_sixteens_48 : decode cX5_sixteens 48 = .ok (.aload_n 0, 1) := by decide +kernel
theorem dX5_sixteens_49 : decode cX5_sixteens 49 = .ok (.iload 8, 2) := by decide +kernel
theorem dX5_sixteens_51 : decode cX5_sixteens 51 = .ok (.iconst 4, 1) := by decide +kernel
theorem dX5_sixteens_52 : decode cX5_sixteens 52 = .ok (.iadd, 1) := by decide +kernel
theorem dX5_sixteens_53 : decode cX5_sixteens 53 = .ok (.invokevirtual 55, 3) := by decide +kernel
theorem dX5_sixteens_56 : decode cX5_sixteens 56 = .ok (.invokestatic 61, 3) := by decide +kernel
theorem dX5_sixteens_59 : decode cX5_sixteens 59 = .ok (.istore 5, 2) := by decide +kernel
theorem dX5_sixteens_61 : decode cX5_sixteens 61 = .ok (.iload 6, 2) := by decide +kernel
theorem dX5_sixteens_63 : decode cX5_sixteens 63 = .ok (.aload_n 0, 1) := by decide +kernel
theorem dX5_sixteens_64 : decode cX5_sixteens 64 = .ok (.iload 8, 2) := by decide +kernel
theorem dX5_sixteens_66 : decode cX5_sixteens 66 = .ok (.bipush 8, 2) := by decide +kernel
theorem dX5_sixteens_68 : decode cX5_sixteens 68 = .ok (.iadd, 1) := by decide +kernel
theorem dX5_sixteens_69 : decode cX5_sixteens 69 = .ok (.invokevirtual 55, 3) := by decide +kernel
theorem dX5_sixteens_72 : decode cX5_sixteens 72 = .ok (.invokestatic 61, 3) := by decide +kernel
theorem dX5_sixteens_75 : decode cX5_sixteens 75 = .ok (.istore 6, 2) := by decide +kernel
theorem dX5_sixteens_77 : decode cX5_sixteens 77 = .ok (.iload 7, 2) := by decide +kernel
theorem dX5_sixteens_79 : decode cX5_sixteens 79 = .ok (.aload_n 0, 1) := by decide +kernel
theorem dX5_sixteens_80 : decode cX5_sixteens 80 = .ok (.iload 8, 2) := by decide +kernel
theorem dX5_sixteens_82 : decode cX5_sixteens 82 = .ok (.bipush 12, 2) := by decide +kernel
theorem dX5_sixteens_84 : decode cX5_sixteens 84 = .ok (.iadd, 1) := by decide +kernel
theorem dX5_sixteens_85 : decode cX5_sixteens 85 = .ok (.invokevirtual 55, 3) := by decide +kernel
theorem dX5_sixteens_88 : decode cX5_sixteens 88 = .ok (.invokestatic 61, 3) := by decide +kernel
theorem dX5_sixteens_91 : decode cX5_sixteens 91 = .ok (.istore 7, 2) := by decide +kernel
theorem dX5_sixteens_93 : decode cX5_sixteens 93 = .ok (.iinc 8 16, 3) := by decide +kernel
theorem dX5_sixteens_96 : decode cX5_sixteens 96 = .ok (.goto (-69), 3) := by decide +kernel
theorem dX5_sixteens_99 : decode cX5_sixteens 99 = .ok (.iload 4, 2) := by decide +kernel
theorem dX5_sixteens_101 : decode cX5_sixteens 101 = .ok (.iconst 1, 1) := by decide +kernel
theorem dX5_sixteens_102 : decode cX5_sixteens 102 = .ok (.ishl, 1) := by decide +kernel
theorem dX5_sixteens_103 : decode cX5_sixteens 103 = .ok (.iload 4, 2) := by decide +kernel
theorem dX5_sixteens_105 : decode cX5_sixteens 105 = .ok (.bipush 31, 2) := by decide +kernel
theorem dX5_sixteens_107 : decode cX5_sixteens 107 = .ok (.iushr, 1) := by decide +kernel
theorem dX5_sixteens_108 : decode cX5_sixteens 108 = .ok (.ior, 1) := by decide +kernel
theorem dX5_sixteens_109 : decode cX5_sixteens 109 = .ok (.iload 5, 2) := by decide +kernel
theorem dX5_sixteens_111 : decode cX5_sixteens 111 = .ok (.bipush 7, 2) := by decide +kernel
theorem dX5_sixteens_113 : decode cX5_sixteens 113 = .ok (.ishl, 1) := by decide +kernel
theorem dX5_sixteens_114 : decode cX5_sixteens 114 = .ok (.iload 5, 2) := by decide +kernel
theorem dX5_sixteens_116 : decode cX5_sixteens 116 = .ok (.bipush 25, 2) := by decide +kernel
theorem dX5_sixteens_118 : decode cX5_sixteens 118 = .ok (.iushr, 1) := by decide +kernel
theorem dX5_sixteens_119 : decode cX5_sixteens 119 = .ok (.ior, 1) := by decide +kernel
theorem dX5_sixteens_120 : decode cX5_sixteens 120 = .ok (.iadd, 1) := by decide +kernel
theorem dX5_sixteens_121 : decode cX5_sixteens 121 = .ok (.iload 6, 2) := by decide +kernel
theorem dX5_sixteens_123 : decode cX5_sixteens 123 = .ok (.bipush 12, 2) := by decide +kernel
theorem dX5_sixteens_125 : decode cX5_sixteens 125 = .ok (.ishl, 1) := by decide +kernel
theorem dX5_sixteens_126 : decode cX5_sixteens 126 = .ok (.iload 6, 2) := by decide +kernel
theorem dX5_sixteens_128 : decode cX5_sixteens 128 = .ok (.bipush 20, 2) := by decide +kernel
theorem dX5_sixteens_130 : decode cX5_sixteens 130 = .ok (.iushr, 1) := by decide +kernel
theorem dX5_sixteens_131 : decode cX5_sixteens 131 = .ok (.ior, 1) := by decide +kernel
theorem dX5_sixteens_132 : decode cX5_sixteens 132 = .ok (.iadd, 1) := by decide +kernel
theorem dX5_sixteens_133 : decode cX5_sixteens 133 = .ok (.iload 7, 2) := by decide +kernel
theorem dX5_sixteens_135 : decode cX5_sixteens 135 = .ok (.bipush 18, 2) := by decide +kernel
theorem dX5_sixteens_137 : decode cX5_sixteens 137 = .ok (.ishl, 1) := by decide +kernel
theorem dX5_sixteens_138 : decode cX5_sixteens 138 = .ok (.iload 7, 2) := by decide +kernel
theorem dX5_sixteens_140 : decode cX5_sixteens 140 = .ok (.bipush 14, 2) := by decide +kernel
theorem dX5_sixteens_142 : decode cX5_sixteens 142 = .ok (.iushr, 1) := by decide +kernel
theorem dX5_sixteens_143 : decode cX5_sixteens 143 = .ok (.ior, 1) := by decide +kernel
theorem dX5_sixteens_144 : decode cX5_sixteens 144 = .ok (.iadd, 1) := by decide +kernel
theorem dX5_sixteens_145 : decode cX5_sixteens 145 = .ok (.ireturn, 1) := by decide +kernel
theorem dX5_withWord_0 : decode cX5_withWord 0 = .ok (.iload_n 0, 1) := by decide +kernel
theorem dX5_withWord_1 : decode cX5_withWord 1 = .ok (.ldc 60, 2) := by decide +kernel
theorem dX5_withWord_3 : decode cX5_withWord 3 = .ok (.iload_n 1, 1) := by decide +kernel
theorem dX5_withWord_4 : decode cX5_withWord 4 = .ok (.imul, 1) := by decide +kernel
theorem dX5_withWord_5 : decode cX5_withWord 5 = .ok (.iadd, 1) := by decide +kernel
theorem dX5_withWord_6 : decode cX5_withWord 6 = .ok (.istore_n 2, 1) := by decide +kernel
theorem dX5_withWord_7 : decode cX5_withWord 7 = .ok (.iload_n 2, 1) := by decide +kernel
theorem dX5_withWord_8 : decode cX5_withWord 8 = .ok (.bipush 13, 2) := by decide +kernel
theorem dX5_withWord_10 : decode cX5_withWord 10 = .ok (.ishl, 1) := by decide +kernel
theorem dX5_withWord_11 : decode cX5_withWord 11 = .ok (.iload_n 2, 1) := by decide +kernel
theorem dX5_withWord_12 : decode cX5_withWord 12 = .ok (.bipush 19, 2) := by decide +kernel
theorem dX5_withWord_14 : decode cX5_withWord 14 = .ok (.iushr, 1) := by decide +kernel
theorem dX5_withWord_15 : decode cX5_withWord 15 = .ok (.ior, 1) := by decide +kernel
theorem dX5_withWord_16 : decode cX5_withWord 16 = .ok (.ldc 59, 2) := by decide +kernel
theorem dX5_withWord_18 : decode cX5_withWord 18 = .ok (.imul, 1) := by decide +kernel
theorem dX5_withWord_19 : decode cX5_withWord 19 = .ok (.ireturn, 1) := by decide +kernel
theorem dX6_init_0 : decode cX6_init 0 = .ok (.aload_n 0, 1) := by decide +kernel
theorem dX6_init_1 : decode cX6_init 1 = .ok (.invokespecial 3, 3) := by decide +kernel
theorem dX6_init_4 : decode cX6_init 4 = .ok (.aload_n 0, 1) := by decide +kernel
theorem dX6_init_5 : decode cX6_init 5 = .ok (.ldc 9, 2) := by decide +kernel
theorem dX6_init_7 : decode cX6_init 7 = .ok (.newarray .int, 2) := by decide +kernel
theorem dX6_init_9 : decode cX6_init 9 = .ok (.putfield 10, 3) := by decide +kernel
theorem dX6_init_12 : decode cX6_init 12 = .ok (.aload_n 0, 1) := by decide +kernel
theorem dX6_init_13 : decode cX6_init 13 = .ok (.ldc 16, 2) := by decide +kernel
theorem dX6_init_15 : decode cX6_init 15 = .ok (.newarray .int, 2) := by decide +kernel
theorem dX6_init_17 : decode cX6_init 17 = .ok (.putfield 17, 3) := by decide +kernel
theorem dX6_init_20 : decode cX6_init 20 = .ok (.aload_n 0, 1) := by decide +kernel
theorem dX6_init_21 : decode cX6_init 21 = .ok (.ldc 16, 2) := by decide +kernel
theorem dX6_init_23 : decode cX6_init 23 = .ok (.newarray .int, 2) := by decide +kernel
theorem dX6_init_25 : decode cX6_init 25 = .ok (.putfield 20, 3) := by decide +kernel
theorem dX6_init_28 : decode cX6_init 28 = .ok (.aload_n 0, 1) := by decide +kernel
theorem dX6_init_29 : decode cX6_init 29 = .ok (.iconst 1, 1) := by decide +kernel
theorem dX6_init_30 : decode cX6_init 30 = .ok (.putfield 23, 3) := by decide +kernel
theorem dX6_init_33 : decode cX6_init 33 = .ok (.return_, 1) := by decide +kernel
theorem dX6_clear_0 : decode cX6_clear 0 = .ok (.aload_n 0, 1) := by decide +kernel
theorem dX6_clear_1 : decode cX6_clear 1 = .ok (.iload_n 1, 1) := by decide +kernel
theorem dX6_clear_2 : decode cX6_clear 2 = .ok (.putfield 23, 3) := by decide +kernel
theorem dX6_clear_5 : decode cX6_clear 5 = .ok (.aload_n 0, 1) := by decide +kernel
theorem dX6_clear_6 : decode cX6_clear 6 = .ok (.iconst 0, 1) := by decide +kernel
theorem dX6_clear_7 : decode cX6_clear 7 = .ok (.putfield 27, 3) := by decide +kernel
theorem dX6_clear_10 : decode cX6_clear 10 = .ok (.aload_n 0, 1) := by decide +kernel
theorem dX6_clear_11 : decode cX6_clear 11 = .ok (.iconst 0, 1) := by decide +kernel
theorem dX6_clear_12 : decode cX6_clear 12 = .ok (.putfield 30, 3) := by decide +kernel
theorem dX6_clear_15 : decode cX6_clear 15 = .ok (.aload_n 0, 1) := by decide +kernel
theorem dX6_clear_16 : decode cX6_clear 16 = .ok (.getfield 10, 3) := by decide +kernel
theorem dX6_clear_19 : decode cX6_clear 19 = .ok (.iconst 0, 1) := by decide +kernel
theorem dX6_clear_20 : decode cX6_clear 20 = .ok (.iconst 0, 1) := by decide +kernel
theorem dX6_clear_21 : decode cX6_clear 21 = .ok (.iastore, 1) := by decide +kernel
theorem dX6_clear_22 : decode cX6_clear 22 = .ok (.return_, 1) := by decide +kernel
theorem dX6_add_0 : decode cX6_add 0 = .ok (.aload_n 0, 1) := by decide +kernel
theorem dX6_add_1 : decode cX6_add 1 = .ok (.getfield 27, 3) := by decide +kernel
theorem dX6_add_4 : decode cX6_add 4 = .ok (.ifCond .lt 12, 3) := by decide +kernel
theorem dX6_add_7 : decode cX6_add 7 = .ok (.aload_n 0, 1) := by decide +kernel
theorem dX6_add_8 : decode cX6_add 8 = .ok (.getfield 27, 3) := by decide +kernel
theorem dX6_add_11 : decode cX6_add 11 = .ok (.ldc 16, 2) := by decide +kernel
theorem dX6_add_13 : decode cX6_add 13 = .ok (.if_icmp .lt 4, 3) := by decide +kernel
theorem dX6_add_16 : decode cX6_add 16 = .ok (.return_, 1) := by decide +kernel
theorem dX6_add_17 : decode cX6_add 17 = .ok (.aload_n 0, 1) := by decide +kernel
theorem dX6_add_18 : decode cX6_add 18 = .ok (.getfield 17, 3) := by decide +kernel
theorem dX6_add_21 : decode cX6_add 21 = .ok (.aload_n 0, 1) := by decide +kernel
theorem dX6_add_22 : decode cX6_add 22 = .ok (.getfield 27, 3) := by decide +kernel
theorem dX6_add_25 : decode cX6_add 25 = .ok (.iload_n 1, 1) := by decide +kernel
theorem dX6_add_26 : decode cX6_add 26 = .ok (.iastore, 1) := by decide +kernel
theorem dX6_add_27 : decode cX6_add 27 = .ok (.aload_n 0, 1) := by decide +kernel
theorem dX6_add_28 : decode cX6_add 28 = .ok (.getfield 20, 3) := by decide +kernel
theorem dX6_add_31 : decode cX6_add 31 = .ok (.aload_n 0, 1) := by decide +kernel
theorem dX6_add_32 : decode cX6_add 32 = .ok (.getfield 27, 3) := by decide +kernel
theorem dX6_add_35 : decode cX6_add 35 = .ok (.iload_n 2, 1) := by decide +kernel
theorem dX6_add_36 : decode cX6_add 36 = .ok (.iastore, 1) := by decide +kernel
theorem dX6_add_37 : decode cX6_add 37 = .ok (.aload_n 0, 1) := by decide +kernel
theorem dX6_add_38 : decode cX6_add 38 = .ok (.getfield 10, 3) := by decide +kernel
theorem dX6_add_41 : decode cX6_add 41 = .ok (.aload_n 0, 1) := by decide +kernel
theorem dX6_add_42 : decode cX6_add 42 = .ok (.getfield 27, 3) := by decide +kernel
theorem dX6_add_45 : decode cX6_add 45 = .ok (.iconst 1, 1) := by decide +kernel
theorem dX6_add_46 : decode cX6_add 46 = .ok (.iadd, 1) := by decide +kernel
theorem dX6_add_47 : decode cX6_add 47 = .ok (.aload_n 0, 1) := by decide +kernel
theorem dX6_add_48 : decode cX6_add 48 = .ok (.getfield 10, 3) := by decide +kernel
theorem dX6_add_51 : decode cX6_add 51 = .ok (.aload_n 0, 1) := by decide +kernel
theorem dX6_add_52 : decode cX6_add 52 = .ok (.getfield 27, 3) := by decide +kernel
theorem dX6_add_55 : decode cX6_add 55 = .ok (.iaload, 1) := by decide +kernel
theorem dX6_add_56 : decode cX6_add 56 = .ok (.iload_n 1, 1) := by decide +kernel
theorem dX6_add_57 : decode cX6_add 57 = .ok (.iadd, 1) := by decide +kernel
theorem dX6_add_58 : decode cX6_add 58 = .ok (.iload_n 3, 1) := by decide +kernel
theorem dX6_add_59 : decode cX6_add 59 = .ok (.iadd, 1) := by decide +kernel
theorem dX6_add_60 : decode cX6_add 60 = .ok (.iastore, 1) := by decide +kernel
theorem dX6_add_61 : decode cX6_add 61 = .ok (.aload_n 0, 1) := by decide +kernel
theorem dX6_add_62 : decode cX6_add 62 = .ok (.dup, 1) := by decide +kernel
theorem dX6_add_63 : decode cX6_add 63 = .ok (.getfield 27, 3) := by decide +kernel
theorem dX6_add_66 : decode cX6_add 66 = .ok (.iconst 1, 1) := by decide +kernel
theorem dX6_add_67 : decode cX6_add 67 = .ok (.iadd, 1) := by decide +kernel
theorem dX6_add_68 : decode cX6_add 68 = .ok (.putfield 27, 3) := by decide +kernel
theorem dX6_add_71 : decode cX6_add 71 = .ok (.aload_n 0, 1) := by decide +kernel
theorem dX6_add_72 : decode cX6_add 72 = .ok (.dup, 1) := by decide +kernel
theorem dX6_add_73 : decode cX6_add 73 = .ok (.getfield 30, 3) := by decide +kernel
theorem dX6_add_76 : decode cX6_add 76 = .ok (.iload_n 3, 1) := by decide +kernel
theorem dX6_add_77 : decode cX6_add 77 = .ok (.iadd, 1) := by decide +kernel
theorem dX6_add_78 : decode cX6_add 78 = .ok (.putfield 30, 3) := by decide +kernel
theorem dX6_add_81 : decode cX6_add 81 = .ok (.return_, 1) := by decide +kernel
theorem dX6_has_0 : decode cX6_has 0 = .ok (.iload_n 1, 1) := by decide +kernel
theorem dX6_has_1 : decode cX6_has 1 = .ok (.ifCond .lt 21, 3) := by decide +kernel
theorem dX6_has_4 : decode cX6_has 4 = .ok (.iload_n 1, 1) := by decide +kernel
theorem dX6_has_5 : decode cX6_has 5 = .ok (.aload_n 0, 1) := by decide +kernel
theorem dX6_has_6 : decode cX6_has 6 = .ok (.getfield 27, 3) := by decide +kernel
theorem dX6_has_9 : decode cX6_has 9 = .ok (.if_icmp .ge 13, 3) := by decide +kernel
theorem dX6_has_12 : decode cX6_has 12 = .ok (.iload_n 1, 1) := by decide +kernel
theorem dX6_has_13 : decode cX6_has 13 = .ok (.ldc 16, 2) := by decide +kernel
theorem dX6_has_15 : decode cX6_has 15 = .ok (.if_icmp .ge 7, 3) := by decide +kernel
theorem dX6_has_18 : decode cX6_has 18 = .ok (.iconst 1, 1) := by decide +kernel
theorem dX6_has_19 : decode cX6_has 19 = .ok (.goto 4, 3) := by decide +kernel
theorem dX6_has_22 : decode cX6_has 22 = .ok (.iconst 0, 1) := by decide +kernel
theorem dX6_has_23 : decode cX6_has 23 = .ok (.ireturn, 1) := by decide +kernel
set_option maxRecDepth 20000 in
theorem ggX6_startOf_X6_has : GoodIn wsX6_startOf wsX6_has := goodIn_r _ [6, 7, 8, 9, 10, 11, 12, 13, 14] (by decide +kernel) (by decide +kernel)
set_option maxRecDepth 20000 in
theorem gX6_startOf_X6_has : GoodIn wsX6_startOf (wsV RX6 33 RX6 yX6_has wsX6_has) := goodIn_app (goodIn_of _ (by decide +kernel)) ggX6_startOf_X6_has
theorem dX6_startOf_0 : decode cX6_startOf 0 = .ok (.aload_n 0, 1) := by decide +kernel
theorem dX6_startOf_1 : decode cX6_startOf 1 = .ok (.iload_n 1, 1) := by decide +kernel
theorem dX6_startOf_2 : decode cX6_startOf 2 = .ok (.invokevirtual 33, 3) := by decide +kernel
theorem dX6_startOf_5 : decode cX6_startOf 5 = .ok (.ifCond .eq 12, 3) := by decide +kernel
theorem dX6_startOf_8 : decode cX6_startOf 8 = .ok (.aload_n 0, 1) := by decide +kernel
theorem dX6_startOf_9 : decode cX6_startOf 9 = .ok (.getfield 10, 3) := by decide +kernel
theorem dX6_startOf_12 : decode cX6_startOf 12 = .ok (.iload_n 1, 1) := by decide +kernel
theorem dX6_startOf_13 : decode cX6_startOf 13 = .ok (.iaload, 1) := by decide +kernel
theorem dX6_startOf_14 : decode cX6_startOf 14 = .ok (.goto 4, 3) := by decide +kernel
theorem dX6_startOf_17 : decode cX6_startOf 17 = .ok (.iconst (-1), 1) := by decide +kernel
theorem dX6_startOf_18 : decode cX6_startOf 18 = .ok (.ireturn, 1) := by decide +kernel
set_option maxRecDepth 20000 in
theorem ggX6_literalsOf_X6_has : GoodIn wsX6_literalsOf wsX6_has := goodIn_r _ [6, 7, 8, 9, 10, 11, 12, 13, 14] (by decide +kernel) (by decide +kernel)
set_option maxRecDepth 20000 in
theorem gX6_literalsOf_X6_has : GoodIn wsX6_literalsOf (wsV RX6 33 RX6 yX6_has wsX6_has) := goodIn_app (goodIn_of _ (by decide +kernel)) ggX6_literalsOf_X6_has
theorem dX6_literalsOf_0 : decode cX6_literalsOf 0 = .ok (.aload_n 0, 1) := by decide +kernel
theorem dX6_literalsOf_1 : decode cX6_literalsOf 1 = .ok (.iload_n 1, 1) := by decide +kernel
theorem dX6_literalsOf_2 : decode cX6_literalsOf 2 = .ok (.invokevirtual 33, 3) := by decide +kernel
theorem dX6_literalsOf_5 : decode cX6_literalsOf 5 = .ok (.ifCond .eq 12, 3) := by decide +kernel
theorem dX6_literalsOf_8 : decode cX6_literalsOf 8 = .ok (.aload_n 0, 1) := by decide +kernel
theorem dX6_literalsOf_9 : decode cX6_literalsOf 9 = .ok (.getfield 17, 3) := by decide +kernel
theorem dX6_literalsOf_12 : decode cX6_literalsOf 12 = .ok (.iload_n 1, 1) := by decide +kernel
theorem dX6_literalsOf_13 : decode cX6_literalsOf 13 = .ok (.iaload, 1) := by decide +kernel
theorem dX6_literalsOf_14 : decode cX6_literalsOf 14 = .ok (.goto 4, 3) := by decide +kernel
theorem dX6_literalsOf_17 : decode cX6_literalsOf 17 = .ok (.iconst (-1), 1) := by decide +kernel
theorem dX6_literalsOf_18 : decode cX6_literalsOf 18 = .ok (.ireturn, 1) := by decide +kernel
set_option maxRecDepth 20000 in
theorem ggX6_offsetOf_X6_has : GoodIn wsX6_offsetOf wsX6_has := goodIn_r _ [6, 7, 8, 9, 10, 11, 12, 13, 14] (by decide +kernel) (by decide +kernel)
set_option maxRecDepth 20000 in
theorem gX6_offsetOf_X6_has : GoodIn wsX6_offsetOf (wsV RX6 33 RX6 yX6_has wsX6_has) := goodIn_app (goodIn_of _ (by decide +kernel)) ggX6_offsetOf_X6_has
theorem dX6_offsetOf_0 : decode cX6_offsetOf 0 = .ok (.aload_n 0, 1) := by decide +kernel
theorem dX6_offsetOf_1 : decode cX6_offsetOf 1 = .ok (.iload_n 1, 1) := by decide +kernel
theorem dX6_offsetOf_2 : decode cX6_offsetOf 2 = .ok (.invokevirtual 33, 3) := by decide +kernel
theorem dX6_offsetOf_5 : decode cX6_offsetOf 5 = .ok (.ifCond .eq 12, 3) := by decide +kernel
theorem dX6_offsetOf_8 : decode cX6_offsetOf 8 = .ok (.aload_n 0, 1) := by decide +kernel
theorem dX6_offsetOf_9 : decode cX6_offsetOf 9 = .ok (.getfield 20, 3) := by decide +kernel
theorem dX6_offsetOf_12 : decode cX6_offsetOf 12 = .ok (.iload_n 1, 1) := by decide +kernel
theorem dX6_offsetOf_13 : decode cX6_offsetOf 13 = .ok (.iaload, 1) := by decide +kernel
theorem dX6_offsetOf_14 : decode cX6_offsetOf 14 = .ok (.goto 4, 3) := by decide +kernel
theorem dX6_offsetOf_17 : decode cX6_offsetOf 17 = .ok (.iconst (-1), 1) := by decide +kernel
theorem dX6_offsetOf_18 : decode cX6_offsetOf 18 = .ok (.ireturn, 1) := by decide +kernel
set_option maxRecDepth 20000 in
theorem ggX6_matchOf_X6_has : GoodIn wsX6_matchOf wsX6_has := goodIn_r _ [7, 8, 9, 10, 11, 12, 13, 14, 15] (by decide +kernel) (by decide +kernel)
set_option maxRecDepth 20000 in
theorem gX6_matchOf_X6_has : GoodIn wsX6_matchOf (wsV RX6 33 RX6 yX6_has wsX6_has) := goodIn_app (goodIn_of _ (by decide +kernel)) ggX6_matchOf_X6_has
theorem dX6_matchOf_0 : decode cX6_matchOf 0 = .ok (.aload_n 0, 1) := by decide +kernel
theorem dX6_matchOf_1 : decode cX6_matchOf 1 = .ok (.iload_n 1, 1) := by decide +kernel
theorem dX6_matchOf_2 : decode cX6_matchOf 2 = .ok (.invokevirtual 33, 3) := by decide +kernel
theorem dX6_matchOf_5 : decode cX6_matchOf 5 = .ok (.ifCond .eq 28, 3) := by decide +kernel
theorem dX6_matchOf_8 : decode cX6_matchOf 8 = .ok (.aload_n 0, 1) := by decide +kernel
theorem dX6_matchOf_9 : decode cX6_matchOf 9 = .ok (.getfield 10, 3) := by decide +kernel
theorem dX6_matchOf_12 : decode cX6_matchOf 12 = .ok (.iload_n 1, 1) := by decide +kernel
theorem dX6_matchOf_13 : decode cX6_matchOf 13 = .ok (.iconst 1, 1) := by decide +kernel
theorem dX6_matchOf_14 : decode cX6_matchOf 14 = .ok (.iadd, 1) := by decide +kernel
theorem dX6_matchOf_15 : decode cX6_matchOf 15 = .ok (.iaload, 1) := by decide +kernel
theorem dX6_matchOf_16 : decode cX6_matchOf 16 = .ok (.aload_n 0, 1) := by decide +kernel
theorem dX6_matchOf_17 : decode cX6_matchOf 17 = .ok (.getfield 10, 3) := by decide +kernel
theorem dX6_matchOf_20 : decode cX6_matchOf 20 = .ok (.iload_n 1, 1) := by decide +kernel
theorem dX6_matchOf_21 : decode cX6_matchOf 21 = .ok (.iaload, 1) := by decide +kernel
theorem dX6_matchOf_22 : decode cX6_matchOf 22 = .ok (.isub, 1) := by decide +kernel
theorem dX6_matchOf_23 : decode cX6_matchOf 23 = .ok (.aload_n 0, 1) := by decide +kernel
theorem dX6_matchOf_24 : decode cX6_matchOf 24 = .ok (.getfield 17, 3) := by decide +kernel
theorem dX6_matchOf_27 : decode cX6_matchOf 27 = .ok (.iload_n 1, 1) := by decide +kernel
theorem dX6_matchOf_28 : decode cX6_matchOf 28 = .ok (.iaload, 1) := by decide +kernel
theorem dX6_matchOf_29 : decode cX6_matchOf 29 = .ok (.isub, 1) := by decide +kernel
theorem dX6_matchOf_30 : decode cX6_matchOf 30 = .ok (.goto 4, 3) := by decide +kernel
theorem dX6_matchOf_33 : decode cX6_matchOf 33 = .ok (.iconst (-1), 1) := by decide +kernel
theorem dX6_matchOf_34 : decode cX6_matchOf 34 = .ok (.ireturn, 1) := by decide +kernel
set_option maxRecDepth 20000 in
theorem ggX6_blockOf_X6_has : GoodIn wsX6_blockOf wsX6_has := goodIn_r _ [7, 8, 9, 10, 11, 12, 13, 14, 15] (by decide +kernel) (by decide +kernel)
set_option maxRecDepth 20000 in
theorem gX6_blockOf_X6_has : GoodIn wsX6_blockOf (wsV RX6 33 RX6 yX6_has wsX6_has) := goodIn_app (goodIn_of _ (by decide +kernel)) ggX6_blockOf_X6_has
theorem dX6_blockOf_0 : decode cX6_blockOf 0 = .ok (.aload_n 0, 1) := by decide +kernel
theorem dX6_blockOf_1 : decode cX6_blockOf 1 = .ok (.iload_n 1, 1) := by decide +kernel
theorem dX6_blockOf_2 : decode cX6_blockOf 2 = .ok (.invokevirtual 33, 3) := by decide +kernel
theorem dX6_blockOf_5 : decode cX6_blockOf 5 = .ok (.ifCond .eq 24, 3) := by decide +kernel
theorem dX6_blockOf_8 : decode cX6_blockOf 8 = .ok (.aload_n 0, 1) := by decide +kernel
theorem dX6_blockOf_9 : decode cX6_blockOf 9 = .ok (.getfield 23, 3) := by decide +kernel
theorem dX6_blockOf_12 : decode cX6_blockOf 12 = .ok (.ifCond .le 17, 3) := by decide +kernel
theorem dX6_blockOf_15 : decode cX6_blockOf 15 = .ok (.aload_n 0, 1) := by decide +kernel
theorem dX6_blockOf_16 : decode cX6_blockOf 16 = .ok (.getfield 10, 3) := by decide +kernel
theorem dX6_blockOf_19 : decode cX6_blockOf 19 = .ok (.iload_n 1, 1) := by decide +kernel
theorem dX6_blockOf_20 : decode cX6_blockOf 20 = .ok (.iaload, 1) := by decide +kernel
theorem dX6_blockOf_21 : decode cX6_blockOf 21 = .ok (.aload_n 0, 1) := by decide +kernel
theorem dX6_blockOf_22 : decode cX6_blockOf 22 = .ok (.getfield 23, 3) := by decide +kernel
theorem dX6_blockOf_25 : decode cX6_blockOf 25 = .ok (.idiv, 1) := by decide +kernel
theorem dX6_blockOf_26 : decode cX6_blockOf 26 = .ok (.goto 4, 3) := by decide +kernel
theorem dX6_blockOf_29 : decode cX6_blockOf 29 = .ok (.iconst (-1), 1) := by decide +kernel
theorem dX6_blockOf_30 : decode cX6_blockOf 30 = .ok (.ireturn, 1) := by decide +kernel
set_option maxRecDepth 20000 in
theorem ggX6_tell_X6_blockOf : GoodIn wsX6_tell wsX6_blockOf := goodIn_r _ [5, 6, 7, 8, 9, 10, 4, 11, 12, 13, 32, 33, 34, 35, 36, 37] (by decide +kernel) (by decide +kernel)
set_option maxRecDepth 20000 in
theorem gX6_tell_X6_blockOf : GoodIn wsX6_tell (wsV RX6 37 RX6 yX6_blockOf wsX6_blockOf) := goodIn_app (goodIn_of _ (by decide +kernel)) ggX6_tell_X6_blockOf
set_option maxRecDepth 20000 in
theorem ggX6_tell_X6_startOf : GoodIn wsX6_tell wsX6_startOf := goodIn_r _ [17, 7, 8, 9, 10, 4, 11, 12, 13, 32, 33, 34, 35, 36, 37] (by decide +kernel) (by decide +kernel)
set_option maxRecDepth 20000 in
theorem gX6_tell_X6_startOf : GoodIn wsX6_tell (wsV RX6 41 RX6 yX6_startOf wsX6_startOf) := goodIn_app (goodIn_of _ (by decide +kernel)) ggX6_tell_X6_startOf
set_option maxRecDepth 20000 in
theorem ggX6_tell_X6_literalsOf : GoodIn wsX6_tell wsX6_literalsOf := goodIn_r _ [21, 22, 8, 9, 10, 4, 11, 12, 13, 32, 33, 34, 35, 36, 37] (by decide +kernel) (by decide +kernel)
set_option maxRecDepth 20000 in
theorem gX6_tell_X6_literalsOf : GoodIn wsX6_tell (wsV RX6 44 RX6 yX6_literalsOf wsX6_literalsOf) := goodIn_app (goodIn_of _ (by decide +kernel)) ggX6_tell_X6_literalsOf
set_option maxRecDepth 20000 in
theorem ggX6_tell_X6_offsetOf : GoodIn wsX6_tell wsX6_offsetOf := goodIn_r _ [26, 27, 8, 9, 10, 4, 11, 12, 13, 32, 33, 34, 35, 36, 37] (by decide +kernel) (by decide +kernel)
set_option maxRecDepth 20000 in
theorem gX6_tell_X6_offsetOf : GoodIn wsX6_tell (wsV RX6 47 RX6 yX6_offsetOf wsX6_offsetOf) := goodIn_app (goodIn_of _ (by decide +kernel)) ggX6_tell_X6_offsetOf
set_option maxRecDepth 20000 in
theorem ggX6_tell_X6_matchOf : GoodIn wsX6_tell wsX6_matchOf := goodIn_r _ [31, 7, 22, 8, 9, 10, 4, 11, 12, 13, 32, 33, 34, 35, 36, 37] (by decide +kernel) (by decide +kernel)
set_option maxRecDepth 20000 in
theorem gX6_tell_X6_matchOf : GoodIn wsX6_tell (wsV RX6 50 RX6 yX6_matchOf wsX6_matchOf) := goodIn_app (goodIn_of _ (by decide +kernel)) ggX6_tell_X6_matchOf
theorem dX6_tell_0 : decode cX6_tell 0 = .ok (.iload_n 2, 1) := by decide +kernel
theorem dX6_tell_1 : decode cX6_tell 1 = .ok (.tableswitch 65 0 4 #[35, 41, 47, 53, 59], 35) := by decide +kernel
theorem dX6_tell_36 : decode cX6_tell 36 = .ok (.aload_n 0, 1) := by decide +kernel
theorem dX6_tell_37 : decode cX6_tell 37 = .ok (.iload_n 1, 1) := by decide +kernel
theorem dX6_tell_38 : decode cX6_tell 38 = .ok (.invokevirtual 37, 3) := by decide +kernel
theorem dX6_tell_41 : decode cX6_tell 41 = .ok (.ireturn, 1) := by decide +kernel
theorem dX6_tell_42 : decode cX6_tell 42 = .ok (.aload_n 0, 1) := by decide +kernel
theorem dX6_tell_43 : decode cX6_tell 43 = .ok (.iload_n 1, 1) := by decide +kernel
theorem dX6_tell_44 : decode cX6_tell 44 = .ok (.invokevirtual 41, 3) := by decide +kernel
theorem dX6_tell_47 : decode cX6_tell 47 = .ok (.ireturn, 1) := by decide +kernel
theorem dX6_tell_48 : decode cX6_tell 48 = .ok (.aload_n 0, 1) := by decide +kernel
theorem dX6_tell_49 : decode cX6_tell 49 = .ok (.iload_n 1, 1) := by decide +kernel
theorem dX6_tell_50 : decode cX6_tell 50 = .ok (.invokevirtual 44, 3) := by decide +kernel
theorem dX6_tell_53 : decode cX6_tell 53 = .ok (.ireturn, 1) := by decide +kernel
theorem dX6_tell_54 : decode cX6_tell 54 = .ok (.aload_n 0, 1) := by decide +kernel
theorem dX6_tell_55 : decode cX6_tell 55 = .ok (.iload_n 1, 1) := by decide +kernel
theorem dX6_tell_56 : decode cX6_tell 56 = .ok (.invokevirtual 47, 3) := by decide +kernel
theorem dX6_tell_59 : decode cX6_tell 59 = .ok (.ireturn, 1) := by decide +kernel
theorem dX6_tell_60 : decode cX6_tell 60 = .ok (.aload_n 0, 1) := by decide +kernel
theorem dX6_tell_61 : decode cX6_tell 61 = .ok (.iload_n 1, 1) := by decide +kernel
theorem dX6_tell_62 : decode cX6_tell 62 = .ok (.invokevirtual 50, 3) := by decide +kernel
theorem dX6_tell_65 : decode cX6_tell 65 = .ok (.ireturn, 1) := by decide +kernel
theorem dX6_tell_66 : decode cX6_tell 66 = .ok (.iconst (-1), 1) := by decide +kernel
theorem dX6_tell_67 : decode cX6_tell 67 = .ok (.ireturn, 1) := by decide +kernel
set_option maxRecDepth 20000 in
theorem ggX6_packedSize_X6_literalsOf : GoodIn wsX6_packedSize wsX6_literalsOf := goodIn_r _ [5, 6, 7, 8, 9, 4, 10, 11, 12, 26, 27, 28, 29, 30, 31] (by decide +kernel) (by decide +kernel)
set_option maxRecDepth 20000 in
theorem gX6_packedSize_X6_literalsOf : GoodIn wsX6_packedSize (wsV RX6 44 RX6 yX6_literalsOf wsX6_literalsOf) := goodIn_app (goodIn_of _ (by decide +kernel)) ggX6_packedSize_X6_literalsOf
set_option maxRecDepth 20000 in
theorem ggX6_packedSize_X6_moreBytes : GoodIn wsX6_packedSize wsX6_moreBytes := goodIn_r _ [15] (by decide +kernel) (by decide +kernel)
set_option maxRecDepth 20000 in
theorem gX6_packedSize_X6_moreBytes : GoodIn wsX6_packedSize (va_wsS RX6 53 yX6_moreBytes wsX6_moreBytes) := goodIn_app (goodIn_of _ (by decide +kernel)) ggX6_packedSize_X6_moreBytes
set_option maxRecDepth 20000 in
theorem ggX6_packedSize_X6_offsetOf : GoodIn wsX6_packedSize wsX6_offsetOf := goodIn_r _ [19, 20, 7, 8, 9, 4, 10, 11, 12, 26, 27, 28, 29, 30, 31] (by decide +kernel) (by decide +kernel)
set_option maxRecDepth 20000 in
theorem gX6_packedSize_X6_offsetOf : GoodIn wsX6_packedSize (wsV RX6 47 RX6 yX6_offsetOf wsX6_offsetOf) := goodIn_app (goodIn_of _ (by decide +kernel)) ggX6_packedSize_X6_offsetOf
set_option maxRecDepth 20000 in
theorem ggX6_packedSize_X6_matchOf : GoodIn wsX6_packedSize wsX6_matchOf := goodIn_r _ [24, 25, 6, 7, 8, 9, 4, 10, 11, 12, 26, 27, 28, 29, 30, 31] (by decide +kernel) (by decide +kernel)
set_option maxRecDepth 20000 in
theorem gX6_packedSize_X6_matchOf : GoodIn wsX6_packedSize (wsV RX6 50 RX6 yX6_matchOf wsX6_matchOf) := goodIn_app (goodIn_of _ (by decide +kernel)) ggX6_packedSize_X6_matchOf
theorem dX6_packedSize_0 : decode cX6_packedSize 0 = .ok (.iconst 0, 1) := by decide +kernel
theorem dX6_packedSize_1 : decode cX6_packedSize 1 = .ok (.istore_n 3, 1) := by decide +kernel
theorem dX6_packedSize_2 : decode cX6_packedSize 2 = .ok (.iload_n 1, 1) := by decide +kernel
theorem dX6_packedSize_3 : decode cX6_packedSize 3 = .ok (.istore 4, 2) := by decide +kernel
theorem dX6_packedSize_5 : decode cX6_packedSize 5 = .ok (.iload 4, 2) := by decide +kernel
theorem dX6_packedSize_7 : decode cX6_packedSize 7 = .ok (.iload_n 2, 1) := by decide +kernel
theorem dX6_packedSize_8 : decode cX6_packedSize 8 = .ok (.if_icmp .ge 55, 3) := by decide +kernel
theorem dX6_packedSize_11 : decode cX6_packedSize 11 = .ok (.iload_n 3, 1) := by decide +kernel
theorem dX6_packedSize_12 : decode cX6_packedSize 12 = .ok (.iconst 1, 1) := by decide +kernel
theorem dX6_packedSize_13 : decode cX6_packedSize 13 = .ok (.aload_n 0, 1) := by decide +kernel
theorem dX6_packedSize_14 : decode cX6_packedSize 14 = .ok (.iload 4, 2) := by decide +kernel
theorem dX6_packedSize_16 : decode cX6_packedSize 16 = .ok (.invokevirtual 44, 3) := by decide +kernel
theorem dX6_packedSize_19 : decode cX6_packedSize 19 = .ok (.invokestatic 53, 3) := by decide +kernel
theorem dX6_packedSize_22 : decode cX6_packedSize 22 = .ok (.iadd, 1) := by decide +kernel
theorem dX6_packedSize_23 : decode cX6_packedSize 23 = .ok (.aload_n 0, 1) := by decide +kernel
theorem dX6_packedSize_24 : decode cX6_packedSize 24 = .ok (.iload 4, 2) := by decide +kernel
theorem dX6_packedSize_26 : decode cX6_packedSize 26 = .ok (.invokevirtual 44, 3) := by decide +kernel
theorem dX6_packedSize_29 : decode cX6_packedSize 29 = .ok (.iadd, 1) := by decide +kernel
theorem dX6_packedSize_30 : decode cX6_packedSize 30 = .ok (.iadd, 1) := by decide +kernel
theorem dX6_packedSize_31 : decode cX6_packedSize 31 = .ok (.istore_n 3, 1) := by decide +kernel
theorem dX6_packedSize_32 : decode cX6_packedSize 32 = .ok (.aload_n 0, 1) := by decide +kernel
theorem dX6_packedSize_33 : decode cX6_packedSize 33 = .ok (.iload 4, 2) := by decide +kernel
theorem dX6_packedSize_35 : decode cX6_packedSize 35 = .ok (.invokevirtual 47, 3) := by decide +kernel
theorem dX6_packedSize_38 : decode cX6_packedSize 38 = .ok (.ifCond .le 19, 3) := by decide +kernel
theorem dX6_packedSize_41 : decode cX6_packedSize 41 = .ok (.iload_n 3, 1) := by decide +kernel
theorem dX6_packedSize_42 : decode cX6_packedSize 42 = .ok (.iconst 2, 1) := by decide +kernel
theorem dX6_packedSize_43 : decode cX6_packedSize 43 = .ok (.aload_n 0, 1) := by decide +kernel
theorem dX6_packedSize_44 : decode cX6_packedSize 44 = .ok (.iload 4, 2) := by decide +kernel
theorem dX6_packedSize_46 : decode cX6_packedSize 46 = .ok (.invokevirtual 50, 3) := by decide +kernel
theorem dX6_packedSize_49 : decode cX6_packedSize 49 = .ok (.iconst 4, 1) := by decide +kernel
theorem dX6_packedSize_50 : decode cX6_packedSize 50 = .ok (.isub, 1) := by decide +kernel
theorem dX6_packedSize_51 : decode cX6_packedSize 51 = .ok (.invokestatic 53, 3) := by decide +kernel
theorem dX6_packedSize_54 : decode cX6_packedSize 54 = .ok (.iadd, 1) := by decide +kernel
theorem dX6_packedSize_55 : decode cX6_packedSize 55 = .ok (.iadd, 1) := by decide +kernel
theorem dX6_packedSize_56 : decode cX6_packedSize 56 = .ok (.istore_n 3, 1) := by decide +kernel
theorem dX6_packedSize_57 : decode cX6_packedSize 57 = .ok (.iinc 4 1, 3) := by decide +kernel
theorem dX6_packedSize_60 : decode cX6_packedSize 60 = .ok (.goto (-55), 3) := by decide +kernel
theorem dX6_packedSize_63 : decode cX6_packedSize 63 = .ok (.iload_n 3, 1) := by decide +kernel
theorem dX6_packedSize_64 : decode cX6_packedSize 64 = .ok (.ireturn, 1) := by decide +kernel
theorem dX6_moreBytes_0 : decode cX6_moreBytes 0 = .ok (.iload_n 0, 1) := by decide +kernel
theorem dX6_moreBytes_1 : decode cX6_moreBytes 1 = .ok (.bipush 15, 2) := by decide +kernel
theorem dX6_moreBytes_3 : decode cX6_moreBytes 3 = .ok (.if_icmp .ge 7, 3) := by decide +kernel
theorem dX6_moreBytes_6 : decode cX6_moreBytes 6 = .ok (.iconst 0, 1) := by decide +kernel
theorem dX6_moreBytes_7 : decode cX6_moreBytes 7 = .ok (.goto 13, 3) := by decide +kernel
theorem dX6_moreBytes_10 : decode cX6_moreBytes 10 = .ok (.iconst 1, 1) := by decide +kernel
theorem dX6_moreBytes_11 : decode cX6_moreBytes 11 = .ok (.iload_n 0, 1) := by decide +kernel
theorem dX6_moreBytes_12 : decode cX6_moreBytes 12 = .ok (.bipush 15, 2) := by decide +kernel
theorem dX6_moreBytes_14 : decode cX6_moreBytes 14 = .ok (.isub, 1) := by decide +kernel
theorem dX6_moreBytes_15 : decode cX6_moreBytes 15 = .ok (.sipush 255, 3) := by decide +kernel
theorem dX6_moreBytes_18 : decode cX6_moreBytes 18 = .ok (.idiv, 1) := by decide +kernel
theorem dX6_moreBytes_19 : decode cX6_moreBytes 19 = .ok (.iadd, 1) := by decide +kernel
theorem dX6_moreBytes_20 : decode cX6_moreBytes 20 = .ok (.ireturn, 1) := by decide +kernel
theorem dJ9_max_7cf53_0 : decode cJ9_max_7cf53 0 = .ok (.iload_n 0, 1) := by decide +kernel
theorem dJ9_max_7cf53_1 : decode cJ9_max_7cf53 1 = .ok (.iload_n 1, 1) := by decide +kernel
theorem dJ9_max_7cf53_2 : decode cJ9_max_7cf53 2 = .ok (.if_icmp .lt 7, 3) := by decide +kernel
theorem dJ9_max_7cf53_5 : decode cJ9_max_7cf53 5 = .ok (.iload_n 0, 1) := by decide +kernel
theorem dJ9_max_7cf53_6 : decode cJ9_max_7cf53 6 = .ok (.goto 4, 3) := by decide +kernel
theorem dJ9_max_7cf53_9 : decode cJ9_max_7cf53 9 = .ok (.iload_n 1, 1) := by decide +kernel
theorem dJ9_max_7cf53_10 : decode cJ9_max_7cf53 10 = .ok (.ireturn, 1) := by decide +kernel
theorem dJ9_min_7cf53_0 : decode cJ9_min_7cf53 0 = .ok (.iload_n 0, 1) := by decide +kernel
theorem dJ9_min_7cf53_1 : decode cJ9_min_7cf53 1 = .ok (.iload_n 1, 1) := by decide +kernel
theorem dJ9_min_7cf53_2 : decode cJ9_min_7cf53 2 = .ok (.if_icmp .gt 7, 3) := by decide +kernel
theorem dJ9_min_7cf53_5 : decode cJ9_min_7cf53 5 = .ok (.iload_n 0, 1) := by decide +kernel
theorem dJ9_min_7cf53_6 : decode cJ9_min_7cf53 6 = .ok (.goto 4, 3) := by decide +kernel
theorem dJ9_min_7cf53_9 : decode cJ9_min_7cf53 9 = .ok (.iload_n 1, 1) := by decide +kernel
theorem dJ9_min_7cf53_10 : decode cJ9_min_7cf53 10 = .ok (.ireturn, 1) := by decide +kernel
theorem dJ7_fill_53178_0 : decode cJ7_fill_53178 0 = .ok (.iconst 0, 1) := by decide +kernel
theorem dJ7_fill_53178_1 : decode cJ7_fill_53178 1 = .ok (.istore_n 2, 1) := by decide +kernel
theorem dJ7_fill_53178_2 : decode cJ7_fill_53178 2 = .ok (.aload_n 0, 1) := by decide +kernel
theorem dJ7_fill_53178_3 : decode cJ7_fill_53178 3 = .ok (.arraylength, 1) := by decide +kernel
theorem dJ7_fill_53178_4 : decode cJ7_fill_53178 4 = .ok (.istore_n 3, 1) := by decide +kernel
theorem dJ7_fill_53178_5 : decode cJ7_fill_53178 5 = .ok (.iload_n 2, 1) := by decide +kernel
theorem dJ7_fill_53178_6 : decode cJ7_fill_53178 6 = .ok (.iload_n 3, 1) := by decide +kernel
theorem dJ7_fill_53178_7 : decode cJ7_fill_53178 7 = .ok (.if_icmp .ge 13, 3) := by decide +kernel
theorem dJ7_fill_53178_10 : decode cJ7_fill_53178 10 = .ok (.aload_n 0, 1) := by decide +kernel
theorem dJ7_fill_53178_11 : decode cJ7_fill_53178 11 = .ok (.iload_n 2, 1) := by decide +kernel
theorem dJ7_fill_53178_12 : decode cJ7_fill_53178 12 = .ok (.iload_n 1, 1) := by decide +kernel
theorem dJ7_fill_53178_13 : decode cJ7_fill_53178 13 = .ok (.iastore, 1) := by decide +kernel
theorem dJ7_fill_53178_14 : decode cJ7_fill_53178 14 = .ok (.iinc 2 1, 3) := by decide +kernel
theorem dJ7_fill_53178_17 : decode cJ7_fill_53178 17 = .ok (.goto (-12), 3) := by decide +kernel
theorem dJ7_fill_53178_20 : decode cJ7_fill_53178 20 = .ok (.return_, 1) := by decide +kernel
