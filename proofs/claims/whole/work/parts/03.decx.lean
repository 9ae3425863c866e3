theorem dX0_init_0 : decode cX0_init 0 = .ok (.aload_n 0, 1) := by decide +kernel
theorem dX0_init_1 : decode cX0_init 1 = .ok (.invokespecial 3, 3) := by decide +kernel
theorem dX0_init_4 : decode cX0_init 4 = .ok (.aload_n 0, 1) := by decide +kernel
theorem dX0_init_5 : decode cX0_init 5 = .ok (.bipush 8, 2) := by decide +kernel
theorem dX0_init_7 : decode cX0_init 7 = .ok (.newarray .int, 2) := by decide +kernel
theorem dX0_init_9 : decode cX0_init 9 = .ok (.putfield 9, 3) := by decide +kernel
theorem dX0_init_12 : decode cX0_init 12 = .ok (.aload_n 0, 1) := by decide +kernel
theorem dX0_init_13 : decode cX0_init 13 = .ok (.bipush 8, 2) := by decide +kernel
theorem dX0_init_15 : decode cX0_init 15 = .ok (.newarray .int, 2) := by decide +kernel
theorem dX0_init_17 : decode cX0_init 17 = .ok (.putfield 15, 3) := by decide +kernel
theorem dX0_init_20 : decode cX0_init 20 = .ok (.aload_n 0, 1) := by decide +kernel
theorem dX0_init_21 : decode cX0_init 21 = .ok (.bipush 8, 2) := by decide +kernel
theorem dX0_init_23 : decode cX0_init 23 = .ok (.newarray .int, 2) := by decide +kernel
theorem dX0_init_25 : decode cX0_init 25 = .ok (.putfield 18, 3) := by decide +kernel
theorem dX0_init_28 : decode cX0_init 28 = .ok (.aload_n 0, 1) := by decide +kernel
theorem dX0_init_29 : decode cX0_init 29 = .ok (.iconst 0, 1) := by decide +kernel
theorem dX0_init_30 : decode cX0_init 30 = .ok (.putfield 21, 3) := by decide +kernel
theorem dX0_init_33 : decode cX0_init 33 = .ok (.return_, 1) := by decide +kernel
theorem dX0_has_0 : decode cX0_has 0 = .ok (.iload_n 1, 1) := by decide +kernel
theorem dX0_has_1 : decode cX0_has 1 = .ok (.ifCond .lt 15, 3) := by decide +kernel
theorem dX0_has_4 : decode cX0_has 4 = .ok (.iload_n 1, 1) := by decide +kernel
theorem dX0_has_5 : decode cX0_has 5 = .ok (.aload_n 0, 1) := by decide +kernel
theorem dX0_has_6 : decode cX0_has 6 = .ok (.getfield 21, 3) := by decide +kernel
theorem dX0_has_9 : decode cX0_has 9 = .ok (.if_icmp .ge 7, 3) := by decide +kernel
theorem dX0_has_12 : decode cX0_has 12 = .ok (.iconst 1, 1) := by decide +kernel
theorem dX0_has_13 : decode cX0_has 13 = .ok (.goto 4, 3) := by decide +kernel
theorem dX0_has_16 : decode cX0_has 16 = .ok (.iconst 0, 1) := by decide +kernel
theorem dX0_has_17 : decode cX0_has 17 = .ok (.ireturn, 1) := by decide +kernel
theorem dX0_strength_0 : decode cX0_strength 0 = .ok (.aload_n 0, 1) := by decide +kernel
theorem dX0_strength_1 : decode cX0_strength 1 = .ok (.getfield 9, 3) := by decide +kernel
theorem dX0_strength_4 : decode cX0_strength 4 = .ok (.iload_n 1, 1) := by decide +kernel
theorem dX0_strength_5 : decode cX0_strength 5 = .ok (.iaload, 1) := by decide +kernel
theorem dX0_strength_6 : decode cX0_strength 6 = .ok (.iconst 2, 1) := by decide +kernel
theorem dX0_strength_7 : decode cX0_strength 7 = .ok (.if_icmp .ne 17, 3) := by decide +kernel
theorem dX0_strength_10 : decode cX0_strength 10 = .ok (.iload_n 2, 1) := by decide +kernel
theorem dX0_strength_11 : decode cX0_strength 11 = .ok (.iconst 1, 1) := by decide +kernel
theorem dX0_strength_12 : decode cX0_strength 12 = .ok (.if_icmp .ne 12, 3) := by decide +kernel
theorem dX0_strength_15 : decode cX0_strength 15 = .ok (.aload_n 0, 1) := by decide +kernel
theorem dX0_strength_16 : decode cX0_strength 16 = .ok (.getfield 18, 3) := by decide +kernel
theorem dX0_strength_19 : decode cX0_strength 19 = .ok (.iload_n 1, 1) := by decide +kernel
theorem dX0_strength_20 : decode cX0_strength 20 = .ok (.iaload, 1) := by decide +kernel
theorem dX0_strength_21 : decode cX0_strength 21 = .ok (.goto 9, 3) := by decide +kernel
theorem dX0_strength_24 : decode cX0_strength 24 = .ok (.aload_n 0, 1) := by decide +kernel
theorem dX0_strength_25 : decode cX0_strength 25 = .ok (.getfield 15, 3) := by decide +kernel
theorem dX0_strength_28 : decode cX0_strength 28 = .ok (.iload_n 1, 1) := by decide +kernel
theorem dX0_strength_29 : decode cX0_strength 29 = .ok (.iaload, 1) := by decide +kernel
theorem dX0_strength_30 : decode cX0_strength 30 = .ok (.ireturn, 1) := by decide +kernel
theorem dX0_bending_0 : decode cX0_bending 0 = .ok (.iconst 0, 1) := by decide +kernel
theorem dX0_bending_1 : decode cX0_bending 1 = .ok (.istore_n 1, 1) := by decide +kernel
theorem dX0_bending_2 : decode cX0_bending 2 = .ok (.iconst 0, 1) := by decide +kernel
theorem dX0_bending_3 : decode cX0_bending 3 = .ok (.istore_n 2, 1) := by decide +kernel
theorem dX0_bending_4 : decode cX0_bending 4 = .ok (.iload_n 2, 1) := by decide +kernel
theorem dX0_bending_5 : decode cX0_bending 5 = .ok (.aload_n 0, 1) := by decide +kernel
theorem dX0_bending_6 : decode cX0_bending 6 = .ok (.getfield 21, 3) := by decide +kernel
theorem dX0_bending_9 : decode cX0_bending 9 = .ok (.if_icmp .ge 32, 3) := by decide +kernel
theorem dX0_bending_12 : decode cX0_bending 12 = .ok (.aload_n 0, 1) := by decide +kernel
theorem dX0_bending_13 : decode cX0_bending 13 = .ok (.getfield 9, 3) := by decide +kernel
theorem dX0_bending_16 : decode cX0_bending 16 = .ok (.iload_n 2, 1) := by decide +kernel
theorem dX0_bending_17 : decode cX0_bending 17 = .ok (.iaload, 1) := by decide +kernel
theorem dX0_bending_18 : decode cX0_bending 18 = .ok (.iconst 1, 1) := by decide +kernel
theorem dX0_bending_19 : decode cX0_bending 19 = .ok (.if_icmp .eq 13, 3) := by decide +kernel
theorem dX0_bending_22 : decode cX0_bending 22 = .ok (.aload_n 0, 1) := by decide +kernel
theorem dX0_bending_23 : decode cX0_bending 23 = .ok (.getfield 9, 3) := by decide +kernel
theorem dX0_bending_26 : decode cX0_bending 26 = .ok (.iload_n 2, 1) := by decide +kernel
theorem dX0_bending_27 : decode cX0_bending 27 = .ok (.iaload, 1) := by decide +kernel
theorem dX0_bending_28 : decode cX0_bending 28 = .ok (.iconst 2, 1) := by decide +kernel
theorem dX0_bending_29 : decode cX0_bending 29 = .ok (.if_icmp .ne 6, 3) := by decide +kernel
theorem dX0_bending_32 : decode cX0_bending 32 = .ok (.iinc 1 1, 3) := by decide +kernel
theorem dX0_bending_35 : decode cX0_bending 35 = .ok (.iinc 2 1, 3) := by decide +kernel
theorem dX0_bending_38 : decode cX0_bending 38 = .ok (.goto (-34), 3) := by decide +kernel
theorem dX0_bending_41 : decode cX0_bending 41 = .ok (.iload_n 1, 1) := by decide +kernel
theorem dX0_bending_42 : decode cX0_bending 42 = .ok (.ireturn, 1) := by decide +kernel
theorem dX0_tilts_0 : decode cX0_tilts 0 = .ok (.iconst 0, 1) := by decide +kernel
theorem dX0_tilts_1 : decode cX0_tilts 1 = .ok (.istore_n 1, 1) := by decide +kernel
theorem dX0_tilts_2 : decode cX0_tilts 2 = .ok (.iconst 0, 1) := by decide +kernel
theorem dX0_tilts_3 : decode cX0_tilts 3 = .ok (.istore_n 2, 1) := by decide +kernel
theorem dX0_tilts_4 : decode cX0_tilts 4 = .ok (.iload_n 2, 1) := by decide +kernel
theorem dX0_tilts_5 : decode cX0_tilts 5 = .ok (.aload_n 0, 1) := by decide +kernel
theorem dX0_tilts_6 : decode cX0_tilts 6 = .ok (.getfield 21, 3) := by decide +kernel
theorem dX0_tilts_9 : decode cX0_tilts 9 = .ok (.if_icmp .ge 22, 3) := by decide +kernel
theorem dX0_tilts_12 : decode cX0_tilts 12 = .ok (.aload_n 0, 1) := by decide +kernel
theorem dX0_tilts_13 : decode cX0_tilts 13 = .ok (.getfield 9, 3) := by decide +kernel
theorem dX0_tilts_16 : decode cX0_tilts 16 = .ok (.iload_n 2, 1) := by decide +kernel
theorem dX0_tilts_17 : decode cX0_tilts 17 = .ok (.iaload, 1) := by decide +kernel
theorem dX0_tilts_18 : decode cX0_tilts 18 = .ok (.iconst 3, 1) := by decide +kernel
theorem dX0_tilts_19 : decode cX0_tilts 19 = .ok (.if_icmp .ne 6, 3) := by decide +kernel
theorem dX0_tilts_22 : decode cX0_tilts 22 = .ok (.iinc 1 1, 3) := by decide +kernel
theorem dX0_tilts_25 : decode cX0_tilts 25 = .ok (.iinc 2 1, 3) := by decide +kernel
theorem dX0_tilts_28 : decode cX0_tilts 28 = .ok (.goto (-24), 3) := by decide +kernel
theorem dX0_tilts_31 : decode cX0_tilts 31 = .ok (.iload_n 1, 1) := by decide +kernel
theorem dX0_tilts_32 : decode cX0_tilts 32 = .ok (.ireturn, 1) := by decide +kernel
set_option maxRecDepth 20000 in
theorem ggX0_hasRoomFor_X0_bending : GoodIn wsX0_hasRoomFor wsX0_bending := goodIn_r _ [5, 6, 7, 12, 13, 14, 15] (by decide +kernel) (by decide +kernel)
set_option maxRecDepth 20000 in
theorem gX0_hasRoomFor_X0_bending : GoodIn wsX0_hasRoomFor (wsV RX0 25 RX0 yX0_bending wsX0_bending) := goodIn_app (goodIn_of _ (by decide +kernel)) ggX0_hasRoomFor_X0_bending
set_option maxRecDepth 20000 in
theorem ggX0_hasRoomFor_X0_tilts : GoodIn wsX0_hasRoomFor wsX0_tilts := goodIn_r _ [11, 6, 7, 12, 13, 14, 15] (by decide +kernel) (by decide +kernel)
set_option maxRecDepth 20000 in
theorem gX0_hasRoomFor_X0_tilts : GoodIn wsX0_hasRoomFor (wsV RX0 29 RX0 yX0_tilts wsX0_tilts) := goodIn_app (goodIn_of _ (by decide +kernel)) ggX0_hasRoomFor_X0_tilts
theorem dX0_hasRoomFor_0 : decode cX0_hasRoomFor 0 = .ok (.iload_n 1, 1) := by decide +kernel
theorem dX0_hasRoomFor_1 : decode cX0_hasRoomFor 1 = .ok (.iconst 1, 1) := by decide +kernel
theorem dX0_hasRoomFor_2 : decode cX0_hasRoomFor 2 = .ok (.if_icmp .eq 8, 3) := by decide +kernel
theorem dX0_hasRoomFor_5 : decode cX0_hasRoomFor 5 = .ok (.iload_n 1, 1) := by decide +kernel
theorem dX0_hasRoomFor_6 : decode cX0_hasRoomFor 6 = .ok (.iconst 2, 1) := by decide +kernel
theorem dX0_hasRoomFor_7 : decode cX0_hasRoomFor 7 = .ok (.if_icmp .ne 17, 3) := by decide +kernel
theorem dX0_hasRoomFor_10 : decode cX0_hasRoomFor 10 = .ok (.aload_n 0, 1) := by decide +kernel
theorem dX0_hasRoomFor_11 : decode cX0_hasRoomFor 11 = .ok (.invokevirtual 25, 3) := by decide +kernel
theorem dX0_hasRoomFor_14 : decode cX0_hasRoomFor 14 = .ok (.iconst 3, 1) := by decide +kernel
theorem dX0_hasRoomFor_15 : decode cX0_hasRoomFor 15 = .ok (.if_icmp .ge 7, 3) := by decide +kernel
theorem dX0_hasRoomFor_18 : decode cX0_hasRoomFor 18 = .ok (.iconst 1, 1) := by decide +kernel
theorem dX0_hasRoomFor_19 : decode cX0_hasRoomFor 19 = .ok (.goto 4, 3) := by decide +kernel
theorem dX0_hasRoomFor_22 : decode cX0_hasRoomFor 22 = .ok (.iconst 0, 1) := by decide +kernel
theorem dX0_hasRoomFor_23 : decode cX0_hasRoomFor 23 = .ok (.ireturn, 1) := by decide +kernel
theorem dX0_hasRoomFor_24 : decode cX0_hasRoomFor 24 = .ok (.iload_n 1, 1) := by decide +kernel
theorem dX0_hasRoomFor_25 : decode cX0_hasRoomFor 25 = .ok (.iconst 3, 1) := by decide +kernel
theorem dX0_hasRoomFor_26 : decode cX0_hasRoomFor 26 = .ok (.if_icmp .ne 11, 3) := by decide +kernel
theorem dX0_hasRoomFor_29 : decode cX0_hasRoomFor 29 = .ok (.aload_n 0, 1) := by decide +kernel
theorem dX0_hasRoomFor_30 : decode cX0_hasRoomFor 30 = .ok (.invokevirtual 29, 3) := by decide +kernel
theorem dX0_hasRoomFor_33 : decode cX0_hasRoomFor 33 = .ok (.iconst 2, 1) := by decide +kernel
theorem dX0_hasRoomFor_34 : decode cX0_hasRoomFor 34 = .ok (.if_icmp .ge 7, 3) := by decide +kernel
theorem dX0_hasRoomFor_37 : decode cX0_hasRoomFor 37 = .ok (.iconst 1, 1) := by decide +kernel
theorem dX0_hasRoomFor_38 : decode cX0_hasRoomFor 38 = .ok (.goto 4, 3) := by decide +kernel
theorem dX0_hasRoomFor_41 : decode cX0_hasRoomFor 41 = .ok (.iconst 0, 1) := by decide +kernel
theorem dX0_hasRoomFor_42 : decode cX0_hasRoomFor 42 = .ok (.ireturn, 1) := by decide +kernel
theorem dX0_write_0 : decode cX0_write 0 = .ok (.aload_n 0, 1) := by decide +kernel
theorem dX0_write_1 : decode cX0_write 1 = .ok (.getfield 9, 3) := by decide +kernel
theorem dX0_write_4 : decode cX0_write 4 = .ok (.iload_n 1, 1) := by decide +kernel
theorem dX0_write_5 : decode cX0_write 5 = .ok (.iload_n 2, 1) := by decide +kernel
theorem dX0_write_6 : decode cX0_write 6 = .ok (.iastore, 1) := by decide +kernel
theorem dX0_write_7 : decode cX0_write 7 = .ok (.aload_n 0, 1) := by decide +kernel
theorem dX0_write_8 : decode cX0_write 8 = .ok (.getfield 15, 3) := by decide +kernel
theorem dX0_write_11 : decode cX0_write 11 = .ok (.iload_n 1, 1) := by decide +kernel
theorem dX0_write_12 : decode cX0_write 12 = .ok (.iload_n 3, 1) := by decide +kernel
theorem dX0_write_13 : decode cX0_write 13 = .ok (.iastore, 1) := by decide +kernel
theorem dX0_write_14 : decode cX0_write 14 = .ok (.aload_n 0, 1) := by decide +kernel
theorem dX0_write_15 : decode cX0_write 15 = .ok (.getfield 18, 3) := by decide +kernel
theorem dX0_write_18 : decode cX0_write 18 = .ok (.iload_n 1, 1) := by decide +kernel
theorem dX0_write_19 : decode cX0_write 19 = .ok (.iload 4, 2) := by decide +kernel
theorem dX0_write_21 : decode cX0_write 21 = .ok (.iastore, 1) := by decide +kernel
theorem dX0_write_22 : decode cX0_write 22 = .ok (.return_, 1) := by decide +kernel
set_option maxRecDepth 20000 in
theorem ggX0_insert_X0_write : GoodIn wsX0_insert wsX0_write := goodIn_r _ [9, 2, 3, 4, 10, 11, 12, 13] (by decide +kernel) (by decide +kernel)
set_option maxRecDepth 20000 in
theorem gX0_insert_X0_write : GoodIn wsX0_insert (wsV RX0 32 RX0 yX0_write wsX0_write) := goodIn_app (goodIn_of _ (by decide +kernel)) ggX0_insert_X0_write
theorem dX0_insert_0 : decode cX0_insert 0 = .ok (.aload_n 0, 1) := by decide +kernel
theorem dX0_insert_1 : decode cX0_insert 1 = .ok (.getfield 21, 3) := by decide +kernel
theorem dX0_insert_4 : decode cX0_insert 4 = .ok (.istore 5, 2) := by decide +kernel
theorem dX0_insert_6 : decode cX0_insert 6 = .ok (.iload 5, 2) := by decide +kernel
theorem dX0_insert_8 : decode cX0_insert 8 = .ok (.iload_n 1, 1) := by decide +kernel
theorem dX0_insert_9 : decode cX0_insert 9 = .ok (.if_icmp .le 42, 3) := by decide +kernel
theorem dX0_insert_12 : decode cX0_insert 12 = .ok (.aload_n 0, 1) := by decide +kernel
theorem dX0_insert_13 : decode cX0_insert 13 = .ok (.iload 5, 2) := by decide +kernel
theorem dX0_insert_15 : decode cX0_insert 15 = .ok (.aload_n 0, 1) := by decide +kernel
theorem dX0_insert_16 : decode cX0_insert 16 = .ok (.getfield 9, 3) := by decide +kernel
theorem dX0_insert_19 : decode cX0_insert 19 = .ok (.iload 5, 2) := by decide +kernel
theorem dX0_insert_21 : decode cX0_insert 21 = .ok (.iconst 1, 1) := by decide +kernel
theorem dX0_insert_22 : decode cX0_insert 22 = .ok (.isub, 1) := by decide +kernel
theorem dX0_insert_23 : decode cX0_insert 23 = .ok (.iaload, 1) := by decide +kernel
theorem dX0_insert_24 : decode cX0_insert 24 = .ok (.aload_n 0, 1) := by decide +kernel
theorem dX0_insert_25 : decode cX0_insert 25 = .ok (.getfield 15, 3) := by decide +kernel
theorem dX0_insert_28 : decode cX0_insert 28 = .ok (.iload 5, 2) := by decide +kernel
theorem dX0_insert_30 : decode cX0_insert 30 = .ok (.iconst 1, 1) := by decide +kernel
theorem dX0_insert_31 : decode cX0_insert 31 = .ok (.isub, 1) := by decide +kernel
theorem dX0_insert_32 : decode cX0_insert 32 = .ok (.iaload, 1) := by decide +kernel
theorem dX0_insert_33 : decode cX0_insert 33 = .ok (.aload_n 0, 1) := by decide +kernel
theorem dX0_insert_34 : decode cX0_insert 34 = .ok (.getfield 18, 3) := by decide +kernel
theorem dX0_insert_37 : decode cX0_insert 37 = .ok (.iload 5, 2) := by decide +kernel
theorem dX0_insert_39 : decode cX0_insert 39 = .ok (.iconst 1, 1) := by decide +kernel
theorem dX0_insert_40 : decode cX0_insert 40 = .ok (.isub, 1) := by decide +kernel
theorem dX0_insert_41 : decode cX0_insert 41 = .ok (.iaload, 1) := by decide +kernel
theorem dX0_insert_42 : decode cX0_insert 42 = .ok (.invokevirtual 32, 3) := by decide +kernel
theorem dX0_insert_45 : decode cX0_insert 45 = .ok (.iinc 5 (-1), 3) := by decide +kernel
theorem dX0_insert_48 : decode cX0_insert 48 = .ok (.goto (-42), 3) := by decide +kernel
theorem dX0_insert_51 : decode cX0_insert 51 = .ok (.aload_n 0, 1) := by decide +kernel
theorem dX0_insert_52 : decode cX0_insert 52 = .ok (.iload_n 1, 1) := by decide +kernel
theorem dX0_insert_53 : decode cX0_insert 53 = .ok (.iload_n 2, 1) := by decide +kernel
theorem dX0_insert_54 : decode cX0_insert 54 = .ok (.iload_n 3, 1) := by decide +kernel
theorem dX0_insert_55 : decode cX0_insert 55 = .ok (.iload 4, 2) := by decide +kernel
theorem dX0_insert_57 : decode cX0_insert 57 = .ok (.invokevirtual 32, 3) := by decide +kernel
theorem dX0_insert_60 : decode cX0_insert 60 = .ok (.aload_n 0, 1) := by decide +kernel
theorem dX0_insert_61 : decode cX0_insert 61 = .ok (.dup, 1) := by decide +kernel
theorem dX0_insert_62 : decode cX0_insert 62 = .ok (.getfield 21, 3) := by decide +kernel
theorem dX0_insert_65 : decode cX0_insert 65 = .ok (.iconst 1, 1) := by decide +kernel
theorem dX0_insert_66 : decode cX0_insert 66 = .ok (.iadd, 1) := by decide +kernel
theorem dX0_insert_67 : decode cX0_insert 67 = .ok (.putfield 21, 3) := by decide +kernel
theorem dX0_insert_70 : decode cX0_insert 70 = .ok (.return_, 1) := by decide +kernel
set_option maxRecDepth 20000 in
theorem ggX0_remove_X0_write : GoodIn wsX0_remove wsX0_write := goodIn_r _ [9, 2, 3, 4, 10, 11, 12, 13] (by decide +kernel) (by decide +kernel)
set_option maxRecDepth 20000 in
theorem gX0_remove_X0_write : GoodIn wsX0_remove (wsV RX0 32 RX0 yX0_write wsX0_write) := goodIn_app (goodIn_of _ (by decide +kernel)) ggX0_remove_X0_write
theorem dX0_remove_0 : decode cX0_remove 0 = .ok (.iload_n 1, 1) := by decide +kernel
theorem dX0_remove_1 : decode cX0_remove 1 = .ok (.istore_n 2, 1) := by decide +kernel
theorem dX0_remove_2 : decode cX0_remove 2 = .ok (.iload_n 2, 1) := by decide +kernel
theorem dX0_remove_3 : decode cX0_remove 3 = .ok (.aload_n 0, 1) := by decide +kernel
theorem dX0_remove_4 : decode cX0_remove 4 = .ok (.getfield 21, 3) := by decide +kernel
theorem dX0_remove_7 : decode cX0_remove 7 = .ok (.iconst 1, 1) := by decide +kernel
theorem dX0_remove_8 : decode cX0_remove 8 = .ok (.isub, 1) := by decide +kernel
theorem dX0_remove_9 : decode cX0_remove 9 = .ok (.if_icmp .ge 38, 3) := by decide +kernel
theorem dX0_remove_12 : decode cX0_remove 12 = .ok (.aload_n 0, 1) := by decide +kernel
theorem dX0_remove_13 : decode cX0_remove 13 = .ok (.iload_n 2, 1) := by decide +kernel
theorem dX0_remove_14 : decode cX0_remove 14 = .ok (.aload_n 0, 1) := by decide +kernel
theorem dX0_remove_15 : decode cX0_remove 15 = .ok (.getfield 9, 3) := by decide +kernel
theorem dX0_remove_18 : decode cX0_remove 18 = .ok (.iload_n 2, 1) := by decide +kernel
theorem dX0_remove_19 : decode cX0_remove 19 = .ok (.iconst 1, 1) := by decide +kernel
theorem dX0_remove_20 : decode cX0_remove 20 = .ok (.iadd, 1) := by decide +kernel
theorem dX0_remove_21 : decode cX0_remove 21 = .ok (.iaload, 1) := by decide +kernel
theorem dX0_remove_22 : decode cX0_remove 22 = .ok (.aload_n 0, 1) := by decide +kernel
theorem dX0_remove_23 : decode cX0_remove 23 = .ok (.getfield 15, 3) := by decide +kernel
theorem dX0_remove_26 : decode cX0_remove 26 = .ok (.iload_n 2, 1) := by decide +kernel
theorem dX0_remove_27 : decode cX0_remove 27 = .ok (.iconst 1, 1) := by decide +kernel
theorem dX0_remove_28 : decode cX0_remove 28 = .ok (.iadd, 1) := by decide +kernel
theorem dX0_remove_29 : decode cX0_remove 29 = .ok (.iaload, 1) := by decide +kernel
theorem dX0_remove_30 : decode cX0_remove 30 = .ok (.aload_n 0, 1) := by decide +kernel
theorem dX0_remove_31 : decode cX0_remove 31 = .ok (.getfield 18, 3) := by decide +kernel
theorem dX0_remove_34 : decode cX0_remove 34 = .ok (.iload_n 2, 1) := by decide +kernel
theorem dX0_remove_35 : decode cX0_remove 35 = .ok (.iconst 1, 1) := by decide +kernel
theorem dX0_remove_36 : decode cX0_remove 36 = .ok (.iadd, 1) := by decide +kernel
theorem dX0_remove_37 : decode cX0_remove 37 = .ok (.iaload, 1) := by decide +kernel
theorem dX0_remove_38 : decode cX0_remove 38 = .ok (.invokevirtual 32, 3) := by decide +kernel
theorem dX0_remove_41 : decode cX0_remove 41 = .ok (.iinc 2 1, 3) := by decide +kernel
theorem dX0_remove_44 : decode cX0_remove 44 = .ok (.goto (-42), 3) := by decide +kernel
theorem dX0_remove_47 : decode cX0_remove 47 = .ok (.aload_n 0, 1) := by decide +kernel
theorem dX0_remove_48 : decode cX0_remove 48 = .ok (.dup, 1) := by decide +kernel
theorem dX0_remove_49 : decode cX0_remove 49 = .ok (.getfield 21, 3) := by decide +kernel
theorem dX0_remove_52 : decode cX0_remove 52 = .ok (.iconst 1, 1) := by decide +kernel
theorem dX0_remove_53 : decode cX0_remove 53 = .ok (.isub, 1) := by decide +kernel
theorem dX0_remove_54 : decode cX0_remove 54 = .ok (.putfield 21, 3) := by decide +kernel
theorem dX0_remove_57 : decode cX0_remove 57 = .ok (.return_, 1) := by decide +kernel
set_option maxRecDepth 20000 in
theorem ggX0_reverse_X0_write : GoodIn wsX0_reverse wsX0_write := goodIn_r _ [9, 2, 3, 4, 10, 11, 12, 13] (by decide +kernel) (by decide +kernel)
set_option maxRecDepth 20000 in
theorem gX0_reverse_X0_write : GoodIn wsX0_reverse (wsV RX0 32 RX0 yX0_write wsX0_write) := goodIn_app (goodIn_of _ (by decide +kernel)) ggX0_reverse_X0_write
theorem dX0_reverse_0 : decode cX0_reverse 0 = .ok (.iconst 0, 1) := by decide +kernel
theorem dX0_reverse_1 : decode cX0_reverse 1 = .ok (.istore_n 1, 1) := by decide +kernel
theorem dX0_reverse_2 : decode cX0_reverse 2 = .ok (.aload_n 0, 1) := by decide +kernel
theorem dX0_reverse_3 : decode cX0_reverse 3 = .ok (.getfield 21, 3) := by decide +kernel
theorem dX0_reverse_6 : decode cX0_reverse 6 = .ok (.iconst 1, 1) := by decide +kernel
theorem dX0_reverse_7 : decode cX0_reverse 7 = .ok (.isub, 1) := by decide +kernel
theorem dX0_reverse_8 : decode cX0_reverse 8 = .ok (.istore_n 2, 1) := by decide +kernel
theorem dX0_reverse_9 : decode cX0_reverse 9 = .ok (.iload_n 1, 1) := by decide +kernel
theorem dX0_reverse_10 : decode cX0_reverse 10 = .ok (.iload_n 2, 1) := by decide +kernel
theorem dX0_reverse_11 : decode cX0_reverse 11 = .ok (.if_icmp .ge 68, 3) := by decide +kernel
theorem dX0_reverse_14 : decode cX0_reverse 14 = .ok (.aload_n 0, 1) := by decide +kernel
theorem dX0_reverse_15 : decode cX0_reverse 15 = .ok (.getfield 9, 3) := by decide +kernel
theorem dX0_reverse_18 : decode cX0_reverse 18 = .ok (.iload_n 1, 1) := by decide +kernel
theorem dX0_reverse_19 : decode cX0_reverse 19 = .ok (.iaload, 1) := by decide +kernel
theorem dX0_reverse_20 : decode cX0_reverse 20 = .ok (.istore_n 3, 1) := by decide +kernel
theorem dX0_reverse_21 : decode cX0_reverse 21 = .ok (.aload_n 0, 1) := by decide +kernel
theorem dX0_reverse_22 : decode cX0_reverse 22 = .ok (.getfield 15, 3) := by decide +kernel
theorem dX0_reverse_25 : decode cX0_reverse 25 = .ok (.iload_n 1, 1) := by decide +kernel
theorem dX0_reverse_26 : decode cX0_reverse 26 = .ok (.iaload, 1) := by decide +kernel
theorem dX0_reverse_27 : decode cX0_reverse 27 = .ok (.istore 4, 2) := by decide +kernel
theorem dX0_reverse_29 : decode cX0_reverse 29 = .ok (.aload_n 0, 1) := by decide +kernel
theorem dX0_reverse_30 : decode cX0_reverse 30 = .ok (.getfield 18, 3) := by decide +kernel
theorem dX0_reverse_33 : decode cX0_reverse 33 = .ok (.iload_n 1, 1) := by decide +kernel
theorem dX0_reverse_34 : decode cX0_reverse 34 = .ok (.iaload, 1) := by decide +kernel
theorem dX0_reverse_35 : decode cX0_reverse 35 = .ok (.istore 5, 2) := by decide +kernel
theorem dX0_reverse_37 : decode cX0_reverse 37 = .ok (.aload_n 0, 1) := by decide +kernel
theorem dX0_reverse_38 : decode cX0_reverse 38 = .ok (.iload_n 1, 1) := by decide +kernel
theorem dX0_reverse_39 : decode cX0_reverse 39 = .ok (.aload_n 0, 1) := by decide +kernel
theorem dX0_reverse_40 : decode cX0_reverse 40 = .ok (.getfield 9, 3) := by decide +kernel
theorem dX0_reverse_43 : decode cX0_reverse 43 = .ok (.iload_n 2, 1) := by decide +kernel
theorem dX0_reverse_44 : decode cX0_reverse 44 = .ok (.iaload, 1) := by decide +kernel
theorem dX0_reverse_45 : decode cX0_reverse 45 = .ok (.aload_n 0, 1) := by decide +kernel
theorem dX0_reverse_46 : decode cX0_reverse 46 = .ok (.getfield 15, 3) := by decide +kernel
theorem dX0_reverse_49 : decode cX0_reverse 49 = .ok (.iload_n 2, 1) := by decide +kernel
theorem dX0_reverse_50 : decode cX0_reverse 50 = .ok (.iaload, 1) := by decide +kernel
theorem dX0_reverse_51 : decode cX0_reverse 51 = .ok (.aload_n 0, 1) := by decide +kernel
theorem dX0_reverse_52 : decode cX0_reverse 52 = .ok (.getfield 18, 3) := by decide +kernel
theorem dX0_reverse_55 : decode cX0_reverse 55 = .ok (.iload_n 2, 1) := by decide +kernel
theorem dX0_reverse_56 : decode cX0_reverse 56 = .ok (.iaload, 1) := by decide +kernel
theorem dX0_reverse_57 : decode cX0_reverse 57 = .ok (.invokevirtual 32, 3) := by decide +kernel
theorem dX0_reverse_60 : decode cX0_reverse 60 = .ok (.aload_n 0, 1) := by decide +kernel
theorem dX0_reverse_61 : decode cX0_reverse 61 = .ok (.iload_n 2, 1) := by decide +kernel
theorem dX0_reverse_62 : decode cX0_reverse 62 = .ok (.iload_n 3, 1) := by decide +kernel
theorem dX0_reverse_63 : decode cX0_reverse 63 = .ok (.iload 4, 2) := by decide +kernel
theorem dX0_reverse_65 : decode cX0_reverse 65 = .ok (.iload 5, 2) := by decide +kernel
theorem dX0_reverse_67 : decode cX0_reverse 67 = .ok (.invokevirtual 32, 3) := by decide +kernel
theorem dX0_reverse_70 : decode cX0_reverse 70 = .ok (.iinc 1 1, 3) := by decide +kernel
theorem dX0_reverse_73 : decode cX0_reverse 73 = .ok (.iinc 2 (-1), 3) := by decide +kernel
theorem dX0_reverse_76 : decode cX0_reverse 76 = .ok (.goto (-67), 3) := by decide +kernel
theorem dX0_reverse_79 : decode cX0_reverse 79 = .ok (.return_, 1) := by decide +kernel
set_option maxRecDepth 20000 in
theorem ggX0_append_X0_write : GoodIn wsX0_append wsX0_write := goodIn_r _ [9, 2, 3, 4, 10, 11, 12, 13] (by decide +kernel) (by decide +kernel)
set_option maxRecDepth 20000 in
theorem gX0_append_X0_write : GoodIn wsX0_append (wsV RX0 32 RX0 yX0_write wsX0_write) := goodIn_app (goodIn_of _ (by decide +kernel)) ggX0_append_X0_write
theorem dX0_append_0 : decode cX0_append 0 = .ok (.aload_n 1, 1) := by decide +kernel
theorem dX0_append_1 : decode cX0_append 1 = .ok (.getfield 21, 3) := by decide +kernel
theorem dX0_append_4 : decode cX0_append 4 = .ok (.istore_n 2, 1) := by decide +kernel
theorem dX0_append_5 : decode cX0_append 5 = .ok (.iconst 0, 1) := by decide +kernel
theorem dX0_append_6 : decode cX0_append 6 = .ok (.istore_n 3, 1) := by decide +kernel
theorem dX0_append_7 : decode cX0_append 7 = .ok (.iload_n 3, 1) := by decide +kernel
theorem dX0_append_8 : decode cX0_append 8 = .ok (.iload_n 2, 1) := by decide +kernel
theorem dX0_append_9 : decode cX0_append 9 = .ok (.if_icmp .ge 45, 3) := by decide +kernel
theorem dX0_append_12 : decode cX0_append 12 = .ok (.aload_n 0, 1) := by decide +kernel
theorem dX0_append_13 : decode cX0_append 13 = .ok (.aload_n 0, 1) := by decide +kernel
theorem dX0_append_14 : decode cX0_append 14 = .ok (.getfield 21, 3) := by decide +kernel
theorem dX0_append_17 : decode cX0_append 17 = .ok (.aload_n 1, 1) := by decide +kernel
theorem dX0_append_18 : decode cX0_append 18 = .ok (.getfield 9, 3) := by decide +kernel
theorem dX0_append_21 : decode cX0_append 21 = .ok (.iload_n 3, 1) := by decide +kernel
theorem dX0_append_22 : decode cX0_append 22 = .ok (.iaload, 1) := by decide +kernel
theorem dX0_append_23 : decode cX0_append 23 = .ok (.aload_n 1, 1) := by decide +kernel
theorem dX0_append_24 : decode cX0_append 24 = .ok (.getfield 15, 3) := by decide +kernel
theorem dX0_append_27 : decode cX0_append 27 = .ok (.iload_n 3, 1) := by decide +kernel
theorem dX0_append_28 : decode cX0_append 28 = .ok (.iaload, 1) := by decide +kernel
theorem dX0_append_29 : decode cX0_append 29 = .ok (.aload_n 1, 1) := by decide +kernel
theorem dX0_append_30 : decode cX0_append 30 = .ok (.getfield 18, 3) := by decide +kernel
theorem dX0_append_33 : decode cX0_append 33 = .ok (.iload_n 3, 1) := by decide +kernel
theorem dX0_append_34 : decode cX0_append 34 = .ok (.iaload, 1) := by decide +kernel
theorem dX0_append_35 : decode cX0_append 35 = .ok (.invokevirtual 32, 3) := by decide +kernel
theorem dX0_append_38 : decode cX0_append 38 = .ok (.aload_n 0, 1) := by decide +kernel
theorem dX0_append_39 : decode cX0_append 39 = .ok (.dup, 1) := by decide +kernel
theorem dX0_append_40 : decode cX0_append 40 = .ok (.getfield 21, 3) := by decide +kernel
theorem dX0_append_43 : decode cX0_append 43 = .ok (.iconst 1, 1) := by decide +kernel
theorem dX0_append_44 : decode cX0_append 44 = .ok (.iadd, 1) := by decide +kernel
theorem dX0_append_45 : decode cX0_append 45 = .ok (.putfield 21, 3) := by decide +kernel
theorem dX0_append_48 : decode cX0_append 48 = .ok (.iinc 3 1, 3) := by decide +kernel
theorem dX0_append_51 : decode cX0_append 51 = .ok (.goto (-44), 3) := by decide +kernel
theorem dX0_append_54 : decode cX0_append 54 = .ok (.return_, 1) := by decide +kernel
theorem dX1_init_0 : decode cX1_init 0 = .ok (.aload_n 0, 1) := by decide +kernel
theorem dX1_init_1 : decode cX1_init 1 = .ok (.invokespecial 3, 3) := by decide +kernel
theorem dX1_init_4 : decode cX1_init 4 = .ok (.return_, 1) := by decide +kernel
theorem dX1_clear_0 : decode cX1_clear 0 = .ok (.aload_n 0, 1) := by decide +kernel
theorem dX1_clear_1 : decode cX1_clear 1 = .ok (.lconst 1, 1) := by decide +kernel
theorem dX1_clear_2 : decode cX1_clear 2 = .ok (.putfield 9, 3) := by decide +kernel
theorem dX1_clear_5 : decode cX1_clear 5 = .ok (.aload_n 0, 1) := by decide +kernel
theorem dX1_clear_6 : decode cX1_clear 6 = .ok (.lconst 0, 1) := by decide +kernel
theorem dX1_clear_7 : decode cX1_clear 7 = .ok (.putfield 15, 3) := by decide +kernel
theorem dX1_clear_10 : decode cX1_clear 10 = .ok (.aload_n 0, 1) := by decide +kernel
theorem dX1_clear_11 : decode cX1_clear 11 = .ok (.lconst 0, 1) := by decide +kernel
theorem dX1_clear_12 : decode cX1_clear 12 = .ok (.putfield 18, 3) := by decide +kernel
theorem dX1_clear_15 : decode cX1_clear 15 = .ok (.aload_n 0, 1) := by decide +kernel
theorem dX1_clear_16 : decode cX1_clear 16 = .ok (.lconst 1, 1) := by decide +kernel
theorem dX1_clear_17 : decode cX1_clear 17 = .ok (.putfield 21, 3) := by decide +kernel
theorem dX1_clear_20 : decode cX1_clear 20 = .ok (.aload_n 0, 1) := by decide +kernel
theorem dX1_clear_21 : decode cX1_clear 21 = .ok (.lconst 0, 1) := by decide +kernel
theorem dX1_clear_22 : decode cX1_clear 22 = .ok (.putfield 24, 3) := by decide +kernel
theorem dX1_clear_25 : decode cX1_clear 25 = .ok (.aload_n 0, 1) := by decide +kernel
theorem dX1_clear_26 : decode cX1_clear 26 = .ok (.lconst 0, 1) := by decide +kernel
theorem dX1_clear_27 : decode cX1_clear 27 = .ok (.putfield 27, 3) := by decide +kernel
theorem dX1_clear_30 : decode cX1_clear 30 = .ok (.aload_n 0, 1) := by decide +kernel
theorem dX1_clear_31 : decode cX1_clear 31 = .ok (.lconst 1, 1) := by decide +kernel
theorem dX1_clear_32 : decode cX1_clear 32 = .ok (.putfield 30, 3) := by decide +kernel
theorem dX1_clear_35 : decode cX1_clear 35 = .ok (.return_, 1) := by decide +kernel
set_option maxRecDepth 20000 in
theorem ggX1_lead_X1_clear : GoodIn wsX1_lead wsX1_clear := goodIn_r _ [7, 8, 9, 10, 11, 12, 13, 14, 45, 46, 47, 48, 49, 50, 51] (by decide +kernel) (by decide +kernel)
set_option maxRecDepth 20000 in
theorem gX1_lead_X1_clear : GoodIn wsX1_lead (wsV RX1 33 RX1 yX1_clear wsX1_clear) := goodIn_app (goodIn_of _ (by decide +kernel)) ggX1_lead_X1_clear
set_option maxRecDepth 20000 in
theorem ggX1_lead_X0_has : GoodIn wsX1_lead wsX0_has := goodIn_r _ [19, 20, 41, 42, 43, 44] (by decide +kernel) (by decide +kernel)
set_option maxRecDepth 20000 in
theorem gX1_lead_X0_has : GoodIn wsX1_lead (wsV RX1 36 RX0 yX0_has wsX0_has) := goodIn_app (goodIn_of _ (by decide +kernel)) ggX1_lead_X0_has
set_option maxRecDepth 20000 in
theorem ggX1_lead_X0_strength : GoodIn wsX1_lead wsX0_strength := goodIn_r _ [24, 25, 26, 27, 41, 42, 43, 44] (by decide +kernel) (by decide +kernel)
set_option maxRecDepth 20000 in
theorem gX1_lead_X0_strength : GoodIn wsX1_lead (wsV RX1 46 RX0 yX0_strength wsX0_strength) := goodIn_app (goodIn_of _ (by decide +kernel)) ggX1_lead_X0_strength
set_option maxRecDepth 20000 in
theorem ggX1_lead_X1_go : GoodIn wsX1_lead wsX1_go := goodIn_r _ [31, 13, 14, 32, 33, 34, 6, 35, 8, 10, 9, 11, 12, 36, 37, 38, 39, 40, 45, 46, 47, 48, 49, 50, 51] (by decide +kernel) (by decide +kernel)
set_option maxRecDepth 20000 in
theorem gX1_lead_X1_go : GoodIn wsX1_lead (wsV RX1 50 RX1 yX1_go wsX1_go) := goodIn_app (goodIn_of _ (by decide +kernel)) ggX1_lead_X1_go
theorem dX1_lead_0 : decode cX1_lead 0 = .ok (.aload_n 0, 1) := by decide +kernel
theorem dX1_lead_1 : decode cX1_lead 1 = .ok (.invokevirtual 33, 3) := by decide +kernel
theorem dX1_lead_4 : decode cX1_lead 4 = .ok (.iload_n 3, 1) := by decide +kernel
theorem dX1_lead_5 : decode cX1_lead 5 = .ok (.istore 5, 2) := by decide +kernel
theorem dX1_lead_7 : decode cX1_lead 7 = .ok (.iconst 0, 1) := by decide +kernel
theorem dX1_lead_8 : decode cX1_lead 8 = .ok (.istore 6, 2) := by decide +kernel
theorem dX1_lead_10 : decode cX1_lead 10 = .ok (.iload 6, 2) := by decide +kernel
theorem dX1_lead_12 : decode cX1_lead 12 = .ok (.iload 4, 2) := by decide +kernel
theorem dX1_lead_14 : decode cX1_lead 14 = .ok (.if_icmp .ge 57, 3) := by decide +kernel
theorem dX1_lead_17 : decode cX1_lead 17 = .ok (.aload_n 1, 1) := by decide +kernel
theorem dX1_lead_18 : decode cX1_lead 18 = .ok (.iload 5, 2) := by decide +kernel
theorem dX1_lead_20 : decode cX1_lead 20 = .ok (.invokevirtual 36, 3) := by decide +kernel
theorem dX1_lead_23 : decode cX1_lead 23 = .ok (.ifCond .eq 21, 3) := by decide +kernel
theorem dX1_lead_26 : decode cX1_lead 26 = .ok (.aload_n 0, 1) := by decide +kernel
theorem dX1_lead_27 : decode cX1_lead 27 = .ok (.aload_n 1, 1) := by decide +kernel
theorem dX1_lead_28 : decode cX1_lead 28 = .ok (.getfield 42, 3) := by decide +kernel
theorem dX1_lead_31 : decode cX1_lead 31 = .ok (.iload 5, 2) := by decide +kernel
theorem dX1_lead_33 : decode cX1_lead 33 = .ok (.iaload, 1) := by decide +kernel
theorem dX1_lead_34 : decode cX1_lead 34 = .ok (.aload_n 1, 1) := by decide +kernel
theorem dX1_lead_35 : decode cX1_lead 35 = .ok (.iload 5, 2) := by decide +kernel
theorem dX1_lead_37 : decode cX1_lead 37 = .ok (.iload_n 2, 1) := by decide +kernel
theorem dX1_lead_38 : decode cX1_lead 38 = .ok (.invokevirtual 46, 3) := by decide +kernel
theorem dX1_lead_41 : decode cX1_lead 41 = .ok (.invokevirtual 50, 3) := by decide +kernel
theorem dX1_lead_44 : decode cX1_lead 44 = .ok (.iload 5, 2) := by decide +kernel
theorem dX1_lead_46 : decode cX1_lead 46 = .ok (.iconst 1, 1) := by decide +kernel
theorem dX1_lead_47 : decode cX1_lead 47 = .ok (.iadd, 1) := by decide +kernel
theorem dX1_lead_48 : decode cX1_lead 48 = .ok (.aload_n 1, 1) := by decide +kernel
theorem dX1_lead_49 : decode cX1_lead 49 = .ok (.getfield 54, 3) := by decide +kernel
theorem dX1_lead_52 : decode cX1_lead 52 = .ok (.if_icmp .ge 10, 3) := by decide +kernel
theorem dX1_lead_55 : decode cX1_lead 55 = .ok (.iload 5, 2) := by decide +kernel
theorem dX1_lead_57 : decode cX1_lead 57 = .ok (.iconst 1, 1) := by decide +kernel
theorem dX1_lead_58 : decode cX1_lead 58 = .ok (.iadd, 1) := by decide +kernel
theorem dX1_lead_59 : decode cX1_lead 59 = .ok (.goto 4, 3) := by decide +kernel
theorem dX1_lead_62 : decode cX1_lead 62 = .ok (.iconst 0, 1) := by decide +kernel
theorem dX1_lead_63 : decode cX1_lead 63 = .ok (.istore 5, 2) := by decide +kernel
theorem dX1_lead_65 : decode cX1_lead 65 = .ok (.iinc 6 1, 3) := by decide +kernel
theorem dX1_lead_68 : decode cX1_lead 68 = .ok (.goto (-58), 3) := by decide +kernel
theorem dX1_lead_71 : decode cX1_lead 71 = .ok (.return_, 1) := by decide +kernel
set_option maxRecDepth 20000 in
theorem ggX1_leadThrough_X1_lead : GoodIn wsX1_leadThrough wsX1_lead := goodIn_r _ [6, 7, 1, 8, 9, 10, 5, 11, 12, 13, 14, 15, 16, 17, 18, 19, 20, 21, 22, 23, 24, 25, 26, 27, 28, 29, 30, 31, 32, 33, 34, 35, 36, 37, 38, 39, 40, 41, 42, 43, 44, 45, 46, 47, 48, 49, 50, 51, 52, 53, 54, 55] (by decide +kernel) (by decide +kernel)
set_option maxRecDepth 20000 in
theorem gX1_leadThrough_X1_lead : GoodIn wsX1_leadThrough (wsV RX1 58 RX1 yX1_lead wsX1_lead) := goodIn_app (goodIn_of _ (by decide +kernel)) ggX1_leadThrough_X1_lead
theorem dX1_leadThrough_0 : decode cX1_leadThrough 0 = .ok (.aload_n 0, 1) := by decide +kernel
theorem dX1_leadThrough_1 : decode cX1_leadThrough 1 = .ok (.aload_n 1, 1) := by decide +kernel
theorem dX1_leadThrough_2 : decode cX1_leadThrough 2 = .ok (.iload_n 2, 1) := by decide +kernel
theorem dX1_leadThrough_3 : decode cX1_leadThrough 3 = .ok (.iconst 0, 1) := by decide +kernel
theorem dX1_leadThrough_4 : decode cX1_leadThrough 4 = .ok (.aload_n 1, 1) := by decide +kernel
theorem dX1_leadThrough_5 : decode cX1_leadThrough 5 = .ok (.getfield 54, 3) := by decide +kernel
theorem dX1_leadThrough_8 : decode cX1_leadThrough 8 = .ok (.invokevirtual 58, 3) := by decide +kernel
theorem dX1_leadThrough_11 : decode cX1_leadThrough 11 = .ok (.return_, 1) := by decide +kernel
set_option maxRecDepth 20000 in
theorem ggX1_go_X1_stretchBy : GoodIn wsX1_go wsX1_stretchBy := goodIn_r _ [7, 8, 9, 10, 11, 12, 1, 18, 19, 20, 21, 22, 23, 24] (by decide +kernel) (by decide +kernel)
set_option maxRecDepth 20000 in
theorem gX1_go_X1_stretchBy : GoodIn wsX1_go (wsV RX1 62 RX1 yX1_stretchBy wsX1_stretchBy) := goodIn_app (goodIn_of _ (by decide +kernel)) ggX1_go_X1_stretchBy
set_option maxRecDepth 20000 in
theorem ggX1_go_X1_bendBy : GoodIn wsX1_go wsX1_bendBy := goodIn_r _ [16, 17, 9, 8, 11, 10, 1, 12, 2, 18, 19, 20, 21, 22, 23, 24] (by decide +kernel) (by decide +kernel)
set_option maxRecDepth 20000 in
theorem gX1_go_X1_bendBy : GoodIn wsX1_go (wsV RX1 66 RX1 yX1_bendBy wsX1_bendBy) := goodIn_app (goodIn_of _ (by decide +kernel)) ggX1_go_X1_bendBy
theorem dX1_go_0 : decode cX1_go 0 = .ok (.iload_n 1, 1) := by decide +kernel
theorem dX1_go_1 : decode cX1_go 1 = .ok (.tableswitch 68 0 3 #[31, 40, 40, 49], 31) := by decide +kernel
theorem dX1_go_32 : decode cX1_go 32 = .ok (.aload_n 0, 1) := by decide +kernel
theorem dX1_go_33 : decode cX1_go 33 = .ok (.iload_n 2, 1) := by decide +kernel
theorem dX1_go_34 : decode cX1_go 34 = .ok (.i2l, 1) := by decide +kernel
theorem dX1_go_35 : decode cX1_go 35 = .ok (.invokevirtual 62, 3) := by decide +kernel
theorem dX1_go_38 : decode cX1_go 38 = .ok (.goto 31, 3) := by decide +kernel
theorem dX1_go_41 : decode cX1_go 41 = .ok (.aload_n 0, 1) := by decide +kernel
theorem dX1_go_42 : decode cX1_go 42 = .ok (.iload_n 2, 1) := by decide +kernel
theorem dX1_go_43 : decode cX1_go 43 = .ok (.i2l, 1) := by decide +kernel
theorem dX1_go_44 : decode cX1_go 44 = .ok (.invokevirtual 66, 3) := by decide +kernel
theorem dX1_go_47 : decode cX1_go 47 = .ok (.goto 22, 3) := by decide +kernel
theorem dX1_go_50 : decode cX1_go 50 = .ok (.aload_n 0, 1) := by decide +kernel
theorem dX1_go_51 : decode cX1_go 51 = .ok (.dup, 1) := by decide +kernel
theorem dX1_go_52 : decode cX1_go 52 = .ok (.getfield 27, 3) := by decide +kernel
theorem dX1_go_55 : decode cX1_go 55 = .ok (.iload_n 2, 1) := by decide +kernel
theorem dX1_go_56 : decode cX1_go 56 = .ok (.i2l, 1) := by decide +kernel
theorem dX1_go_57 : decode cX1_go 57 = .ok (.aload_n 0, 1) := by decide +kernel
theorem dX1_go_58 : decode cX1_go 58 = .ok (.getfield 30, 3) := by decide +kernel
theorem dX1_go_61 : decode cX1_go 61 = .ok (.lmul, 1) := by decide +kernel
theorem dX1_go_62 : decode cX1_go 62 = .ok (.ladd, 1) := by decide +kernel
theorem dX1_go_63 : decode cX1_go 63 = .ok (.putfield 27, 3) := by decide +kernel
theorem dX1_go_66 : decode cX1_go 66 = .ok (.goto 3, 3) := by decide +kernel
theorem dX1_go_69 : decode cX1_go 69 = .ok (.return_, 1) := by decide +kernel
theorem dX1_stretchBy_0 : decode cX1_stretchBy 0 = .ok (.aload_n 0, 1) := by decide +kernel
theorem dX1_stretchBy_1 : decode cX1_stretchBy 1 = .ok (.dup, 1) := by decide +kernel
theorem dX1_stretchBy_2 : decode cX1_stretchBy 2 = .ok (.getfield 9, 3) := by decide +kernel
theorem dX1_stretchBy_5 : decode cX1_stretchBy 5 = .ok (.lload_n 1, 1) := by decide +kernel
theorem dX1_stretchBy_6 : decode cX1_stretchBy 6 = .ok (.aload_n 0, 1) := by decide +kernel
theorem dX1_stretchBy_7 : decode cX1_stretchBy 7 = .ok (.getfield 18, 3) := by decide +kernel
theorem dX1_stretchBy_10 : decode cX1_stretchBy 10 = .ok (.lmul, 1) := by decide +kernel
theorem dX1_stretchBy_11 : decode cX1_stretchBy 11 = .ok (.ladd, 1) := by decide +kernel
theorem dX1_stretchBy_12 : decode cX1_stretchBy 12 = .ok (.putfield 9, 3) := by decide +kernel
theorem dX1_stretchBy_15 : decode cX1_stretchBy 15 = .ok (.aload_n 0, 1) := by decide +kernel
theorem dX1_stretchBy_16 : decode cX1_stretchBy 16 = .ok (.dup, 1) := by decide +kernel
theorem dX1_stretchBy_17 : decode cX1_stretchBy 17 = .ok (.getfield 15, 3) := by decide +kernel
theorem dX1_stretchBy_20 : decode cX1_stretchBy 20 = .ok (.lload_n 1, 1) := by decide +kernel
theorem dX1_stretchBy_21 : decode cX1_stretchBy 21 = .ok (.aload_n 0, 1) := by decide +kernel
theorem dX1_stretchBy_22 : decode cX1_stretchBy 22 = .ok (.getfield 21, 3) := by decide +kernel
theorem dX1_stretchBy_25 : decode cX1_stretchBy 25 = .ok (.lmul, 1) := by decide +kernel
theorem dX1_stretchBy_26 : decode cX1_stretchBy 26 = .ok (.ladd, 1) := by decide +kernel
theorem dX1_stretchBy_27 : decode cX1_stretchBy 27 = .ok (.putfield 15, 3) := by decide +kernel
theorem dX1_stretchBy_30 : decode cX1_stretchBy 30 = .ok (.aload_n 0, 1) := by decide +kernel
theorem dX1_stretchBy_31 : decode cX1_stretchBy 31 = .ok (.dup, 1) := by decide +kernel
theorem dX1_stretchBy_32 : decode cX1_stretchBy 32 = .ok (.getfield 24, 3) := by decide +kernel
theorem dX1_stretchBy_35 : decode cX1_stretchBy 35 = .ok (.lload_n 1, 1) := by decide +kernel
theorem dX1_stretchBy_36 : decode cX1_stretchBy 36 = .ok (.aload_n 0, 1) := by decide +kernel
theorem dX1_stretchBy_37 : decode cX1_stretchBy 37 = .ok (.getfield 27, 3) := by decide +kernel
theorem dX1_stretchBy_40 : decode cX1_stretchBy 40 = .ok (.lmul, 1) := by decide +kernel
theorem dX1_stretchBy_41 : decode cX1_stretchBy 41 = .ok (.ladd, 1) := by decide +kernel
theorem dX1_stretchBy_42 : decode cX1_stretchBy 42 = .ok (.putfield 24, 3) := by decide +kernel
theorem dX1_stretchBy_45 : decode cX1_stretchBy 45 = .ok (.return_, 1) := by decide +kernel
theorem dX1_bendBy_0 : decode cX1_bendBy 0 = .ok (.lload_n 1, 1) := by decide +kernel
theorem dX1_bendBy_1 : decode cX1_bendBy 1 = .ok (.lconst 0, 1) := by decide +kernel
theorem dX1_bendBy_2 : decode cX1_bendBy 2 = .ok (.lcmp, 1) := by decide +kernel
theorem dX1_bendBy_3 : decode cX1_bendBy 3 = .ok (.ifCond .ge 9, 3) := by decide +kernel
theorem dX1_bendBy_6 : decode cX1_bendBy 6 = .ok (.ldc2_w 69, 3) := by decide +kernel
theorem dX1_bendBy_9 : decode cX1_bendBy 9 = .ok (.goto 4, 3) := by decide +kernel
theorem dX1_bendBy_12 : decode cX1_bendBy 12 = .ok (.lconst 1, 1) := by decide +kernel
theorem dX1_bendBy_13 : decode cX1_bendBy 13 = .ok (.lstore_n 3, 1) := by decide +kernel
theorem dX1_bendBy_14 : decode cX1_bendBy 14 = .ok (.lload_n 3, 1) := by decide +kernel
theorem dX1_bendBy_15 : decode cX1_bendBy 15 = .ok (.lload_n 1, 1) := by decide +kernel
theorem dX1_bendBy_16 : decode cX1_bendBy 16 = .ok (.lmul, 1) := by decide +kernel
theorem dX1_bendBy_17 : decode cX1_bendBy 17 = .ok (.lstore 5, 2) := by decide +kernel
theorem dX1_bendBy_19 : decode cX1_bendBy 19 = .ok (.aload_n 0, 1) := by decide +kernel
theorem dX1_bendBy_20 : decode cX1_bendBy 20 = .ok (.lload 5, 2) := by decide +kernel
theorem dX1_bendBy_22 : decode cX1_bendBy 22 = .ok (.aload_n 0, 1) := by decide +kernel
theorem dX1_bendBy_23 : decode cX1_bendBy 23 = .ok (.getfield 18, 3) := by decide +kernel
theorem dX1_bendBy_26 : decode cX1_bendBy 26 = .ok (.lmul, 1) := by decide +kernel
theorem dX1_bendBy_27 : decode cX1_bendBy 27 = .ok (.lload_n 3, 1) := by decide +kernel
theorem dX1_bendBy_28 : decode cX1_bendBy 28 = .ok (.aload_n 0, 1) := by decide +kernel
theorem dX1_bendBy_29 : decode cX1_bendBy 29 = .ok (.getfield 9, 3) := by decide +kernel
theorem dX1_bendBy_32 : decode cX1_bendBy 32 = .ok (.lmul, 1) := by decide +kernel
theorem dX1_bendBy_33 : decode cX1_bendBy 33 = .ok (.lsub, 1) := by decide +kernel
theorem dX1_bendBy_34 : decode cX1_bendBy 34 = .ok (.putfield 18, 3) := by decide +kernel
theorem dX1_bendBy_37 : decode cX1_bendBy 37 = .ok (.aload_n 0, 1) := by decide +kernel
theorem dX1_bendBy_38 : decode cX1_bendBy 38 = .ok (.lload 5, 2) := by decide +kernel
theorem dX1_bendBy_40 : decode cX1_bendBy 40 = .ok (.aload_n 0, 1) := by decide +kernel
theorem dX1_bendBy_41 : decode cX1_bendBy 41 = .ok (.getfield 21, 3) := by decide +kernel
theorem dX1_bendBy_44 : decode cX1_bendBy 44 = .ok (.lmul, 1) := by decide +kernel
theorem dX1_bendBy_45 : decode cX1_bendBy 45 = .ok (.lload_n 3, 1) := by decide +kernel
theorem dX1_bendBy_46 : decode cX1_bendBy 46 = .ok (.aload_n 0, 1) := by decide +kernel
theorem dX1_bendBy_47 : decode cX1_bendBy 47 = .ok (.getfield 15, 3) := by decide +kernel
theorem dX1_bendBy_50 : decode cX1_bendBy 50 = .ok (.lmul, 1) := by decide +kernel
theorem dX1_bendBy_51 : decode cX1_bendBy 51 = .ok (.lsub, 1) := by decide +kernel
theorem dX1_bendBy_52 : decode cX1_bendBy 52 = .ok (.putfield 21, 3) := by decide +kernel
theorem dX1_bendBy_55 : decode cX1_bendBy 55 = .ok (.aload_n 0, 1) := by decide +kernel
theorem dX1_bendBy_56 : decode cX1_bendBy 56 = .ok (.lload 5, 2) := by decide +kernel
theorem dX1_bendBy_58 : decode cX1_bendBy 58 = .ok (.aload_n 0, 1) := by decide +kernel
theorem dX1_bendBy_59 : decode cX1_bendBy 59 = .ok (.getfield 27, 3) := by decide +kernel
theorem dX1_bendBy_62 : decode cX1_bendBy 62 = .ok (.lmul, 1) := by decide +kernel
theorem dX1_bendBy_63 : decode cX1_bendBy 63 = .ok (.lload_n 3, 1) := by decide +kernel
theorem dX1_bendBy_64 : decode cX1_bendBy 64 = .ok (.aload_n 0, 1) := by decide +kernel
theorem dX1_bendBy_65 : decode cX1_bendBy 65 = .ok (.getfield 24, 3) := by decide +kernel
theorem dX1_bendBy_68 : decode cX1_bendBy 68 = .ok (.lmul, 1) := by decide +kernel
theorem dX1_bendBy_69 : decode cX1_bendBy 69 = .ok (.lsub, 1) := by decide +kernel
theorem dX1_bendBy_70 : decode cX1_bendBy 70 = .ok (.putfield 27, 3) := by decide +kernel
theorem dX1_bendBy_73 : decode cX1_bendBy 73 = .ok (.aload_n 0, 1) := by decide +kernel
theorem dX1_bendBy_74 : decode cX1_bendBy 74 = .ok (.dup, 1) := by decide +kernel
theorem dX1_bendBy_75 : decode cX1_bendBy 75 = .ok (.getfield 9, 3) := by decide +kernel
theorem dX1_bendBy_78 : decode cX1_bendBy 78 = .ok (.lload 5, 2) := by decide +kernel
theorem dX1_bendBy_80 : decode cX1_bendBy 80 = .ok (.lmul, 1) := by decide +kernel
theorem dX1_bendBy_81 : decode cX1_bendBy 81 = .ok (.putfield 9, 3) := by decide +kernel
theorem dX1_bendBy_84 : decode cX1_bendBy 84 = .ok (.aload_n 0, 1) := by decide +kernel
theorem dX1_bendBy_85 : decode cX1_bendBy 85 = .ok (.dup, 1) := by decide +kernel
theorem dX1_bendBy_86 : decode cX1_bendBy 86 = .ok (.getfield 15, 3) := by decide +kernel
theorem dX1_bendBy_89 : decode cX1_bendBy 89 = .ok (.lload 5, 2) := by decide +kernel
theorem dX1_bendBy_91 : decode cX1_bendBy 91 = .ok (.lmul, 1) := by decide +kernel
theorem dX1_bendBy_92 : decode cX1_bendBy 92 = .ok (.putfield 15, 3) := by decide +kernel
theorem dX1_bendBy_95 : decode cX1_bendBy 95 = .ok (.aload_n 0, 1) := by decide +kernel
theorem dX1_bendBy_96 : decode cX1_bendBy 96 = .ok (.dup, 1) := by decide +kernel
theorem dX1_bendBy_97 : decode cX1_bendBy 97 = .ok (.getfield 24, 3) := by decide +kernel
theorem dX1_bendBy_100 : decode cX1_bendBy 100 = .ok (.lload 5, 2) := by decide +kernel
theorem dX1_bendBy_102 : decode cX1_bendBy 102 = .ok (.lmul, 1) := by decide +kernel
theorem dX1_bendBy_103 : decode cX1_bendBy 103 = .ok (.putfield 24, 3) := by decide +kernel
theorem dX1_bendBy_106 : decode cX1_bendBy 106 = .ok (.aload_n 0, 1) := by decide +kernel
theorem dX1_bendBy_107 : decode cX1_bendBy 107 = .ok (.dup, 1) := by decide +kernel
theorem dX1_bendBy_108 : decode cX1_bendBy 108 = .ok (.getfield 30, 3) := by decide +kernel
theorem dX1_bendBy_111 : decode cX1_bendBy 111 = .ok (.lload 5, 2) := by decide +kernel
theorem dX1_bendBy_113 : decode cX1_bendBy 113 = .ok (.lmul, 1) := by decide +kernel
theorem dX1_bendBy_114 : decode cX1_bendBy 114 = .ok (.putfield 30, 3) := by decide +kernel
theorem dX1_bendBy_117 : decode cX1_bendBy 117 = .ok (.return_, 1) := by decide +kernel
theorem dX1_above_0 : decode cX1_above 0 = .ok (.iload_n 1, 1) := by decide +kernel
theorem dX1_above_1 : decode cX1_above 1 = .ok (.tableswitch 60 0 4 #[35, 40, 45, 50, 55], 35) := by decide +kernel
theorem dX1_above_36 : decode cX1_above 36 = .ok (.aload_n 0, 1) := by decide +kernel
theorem dX1_above_37 : decode cX1_above 37 = .ok (.getfield 9, 3) := by decide +kernel
theorem dX1_above_40 : decode cX1_above 40 = .ok (.lreturn, 1) := by decide +kernel
theorem dX1_above_41 : decode cX1_above 41 = .ok (.aload_n 0, 1) := by decide +kernel
theorem dX1_above_42 : decode cX1_above 42 = .ok (.getfield 15, 3) := by decide +kernel
theorem dX1_above_45 : decode cX1_above 45 = .ok (.lreturn, 1) := by decide +kernel
theorem dX1_above_46 : decode cX1_above 46 = .ok (.aload_n 0, 1) := by decide +kernel
theorem dX1_above_47 : decode cX1_above 47 = .ok (.getfield 18, 3) := by decide +kernel
theorem dX1_above_50 : decode cX1_above 50 = .ok (.lreturn, 1) := by decide +kernel
theorem dX1_above_51 : decode cX1_above 51 = .ok (.aload_n 0, 1) := by decide +kernel
theorem dX1_above_52 : decode cX1_above 52 = .ok (.getfield 21, 3) := by decide +kernel
theorem dX1_above_55 : decode cX1_above 55 = .ok (.lreturn, 1) := by decide +kernel
theorem dX1_above_56 : decode cX1_above 56 = .ok (.aload_n 0, 1) := by decide +kernel
theorem dX1_above_57 : decode cX1_above 57 = .ok (.getfield 24, 3) := by decide +kernel
theorem dX1_above_60 : decode cX1_above 60 = .ok (.lreturn, 1) := by decide +kernel
theorem dX1_above_61 : decode cX1_above 61 = .ok (.aload_n 0, 1) := by decide +kernel
theorem dX1_above_62 : decode cX1_above 62 = .ok (.getfield 27, 3) := by decide +kernel
theorem dX1_above_65 : decode cX1_above 65 = .ok (.lreturn, 1) := by decide +kernel
theorem dX1_farAbove_0 : decode cX1_farAbove 0 = .ok (.aload_n 0, 1) := by decide +kernel
theorem dX1_farAbove_1 : decode cX1_farAbove 1 = .ok (.getfield 9, 3) := by decide +kernel
theorem dX1_farAbove_4 : decode cX1_farAbove 4 = .ok (.lload_n 1, 1) := by decide +kernel
theorem dX1_farAbove_5 : decode cX1_farAbove 5 = .ok (.lmul, 1) := by decide +kernel
theorem dX1_farAbove_6 : decode cX1_farAbove 6 = .ok (.aload_n 0, 1) := by decide +kernel
theorem dX1_farAbove_7 : decode cX1_farAbove 7 = .ok (.getfield 15, 3) := by decide +kernel
theorem dX1_farAbove_10 : decode cX1_farAbove 10 = .ok (.lload_n 3, 1) := by decide +kernel
theorem dX1_farAbove_11 : decode cX1_farAbove 11 = .ok (.lmul, 1) := by decide +kernel
theorem dX1_farAbove_12 : decode cX1_farAbove 12 = .ok (.ladd, 1) := by decide +kernel
theorem dX1_farAbove_13 : decode cX1_farAbove 13 = .ok (.aload_n 0, 1) := by decide +kernel
theorem dX1_farAbove_14 : decode cX1_farAbove 14 = .ok (.getfield 24, 3) := by decide +kernel
theorem dX1_farAbove_17 : decode cX1_farAbove 17 = .ok (.ladd, 1) := by decide +kernel
theorem dX1_farAbove_18 : decode cX1_farAbove 18 = .ok (.lreturn, 1) := by decide +kernel
theorem dX1_leanAbove_0 : decode cX1_leanAbove 0 = .ok (.aload_n 0, 1) := by decide +kernel
theorem dX1_leanAbove_1 : decode cX1_leanAbove 1 = .ok (.getfield 18, 3) := by decide +kernel
theorem dX1_leanAbove_4 : decode cX1_leanAbove 4 = .ok (.lload_n 1, 1) := by decide +kernel
theorem dX1_leanAbove_5 : decode cX1_leanAbove 5 = .ok (.lmul, 1) := by decide +kernel
theorem dX1_leanAbove_6 : decode cX1_leanAbove 6 = .ok (.aload_n 0, 1) := by decide +kernel
theorem dX1_leanAbove_7 : decode cX1_leanAbove 7 = .ok (.getfield 21, 3) := by decide +kernel
theorem dX1_leanAbove_10 : decode cX1_leanAbove 10 = .ok (.lload_n 3, 1) := by decide +kernel
theorem dX1_leanAbove_11 : decode cX1_leanAbove 11 = .ok (.lmul, 1) := by decide +kernel
theorem dX1_leanAbove_12 : decode cX1_leanAbove 12 = .ok (.ladd, 1) := by decide +kernel
theorem dX1_leanAbove_13 : decode cX1_leanAbove 13 = .ok (.aload_n 0, 1) := by decide +kernel
theorem dX1_leanAbove_14 : decode cX1_leanAbove 14 = .ok (.getfield 27, 3) := by decide +kernel
theorem dX1_leanAbove_17 : decode cX1_leanAbove 17 = .ok (.ladd, 1) := by decide +kernel
theorem dX1_leanAbove_18 : decode cX1_leanAbove 18 = .ok (.lreturn, 1) := by decide +kernel
theorem dX1_steepestWithin_0 : decode cX1_steepestWithin 0 = .ok (.lload_n 1, 1) := by decide +kernel
theorem dX1_steepestWithin_1 : decode cX1_steepestWithin 1 = .ok (.aload_n 0, 1) := by decide +kernel
theorem dX1_steepestWithin_2 : decode cX1_steepestWithin 2 = .ok (.getfield 30, 3) := by decide +kernel
theorem dX1_steepestWithin_5 : decode cX1_steepestWithin 5 = .ok (.lmul, 1) := by decide +kernel
theorem dX1_steepestWithin_6 : decode cX1_steepestWithin 6 = .ok (.lstore_n 3, 1) := by decide +kernel
theorem dX1_steepestWithin_7 : decode cX1_steepestWithin 7 = .ok (.aload_n 0, 1) := by decide +kernel
theorem dX1_steepestWithin_8 : decode cX1_steepestWithin 8 = .ok (.getfield 24, 3) := by decide +kernel
theorem dX1_steepestWithin_11 : decode cX1_steepestWithin 11 = .ok (.invokestatic 71, 3) := by decide +kernel
theorem dX1_steepestWithin_14 : decode cX1_steepestWithin 14 = .ok (.lload_n 3, 1) := by decide +kernel
theorem dX1_steepestWithin_15 : decode cX1_steepestWithin 15 = .ok (.lcmp, 1) := by decide +kernel
theorem dX1_steepestWithin_16 : decode cX1_steepestWithin 16 = .ok (.ifCond .le 7, 3) := by decide +kernel
theorem dX1_steepestWithin_19 : decode cX1_steepestWithin 19 = .ok (.ldc2_w 69, 3) := by decide +kernel
theorem dX1_steepestWithin_22 : decode cX1_steepestWithin 22 = .ok (.lreturn, 1) := by decide +kernel
theorem dX1_steepestWithin_23 : decode cX1_steepestWithin 23 = .ok (.aload_n 0, 1) := by decide +kernel
theorem dX1_steepestWithin_24 : decode cX1_steepestWithin 24 = .ok (.getfield 15, 3) := by decide +kernel
theorem dX1_steepestWithin_27 : decode cX1_steepestWithin 27 = .ok (.lconst 0, 1) := by decide +kernel
theorem dX1_steepestWithin_28 : decode cX1_steepestWithin 28 = .ok (.lcmp, 1) := by decide +kernel
theorem dX1_steepestWithin_29 : decode cX1_steepestWithin 29 = .ok (.ifCond .ne 7, 3) := by decide +kernel
theorem dX1_steepestWithin_32 : decode cX1_steepestWithin 32 = .ok (.ldc2_w 77, 3) := by decide +kernel
theorem dX1_steepestWithin_35 : decode cX1_steepestWithin 35 = .ok (.lreturn, 1) := by decide +kernel
theorem dX1_steepestWithin_36 : decode cX1_steepestWithin 36 = .ok (.aload_n 0, 1) := by decide +kernel
theorem dX1_steepestWithin_37 : decode cX1_steepestWithin 37 = .ok (.getfield 15, 3) := by decide +kernel
theorem dX1_steepestWithin_40 : decode cX1_steepestWithin 40 = .ok (.lconst 0, 1) := by decide +kernel
theorem dX1_steepestWithin_41 : decode cX1_steepestWithin 41 = .ok (.lcmp, 1) := by decide +kernel
theorem dX1_steepestWithin_42 : decode cX1_steepestWithin 42 = .ok (.ifCond .le 17, 3) := by decide +kernel
theorem dX1_steepestWithin_45 : decode cX1_steepestWithin 45 = .ok (.lload_n 3, 1) := by decide +kernel
theorem dX1_steepestWithin_46 : decode cX1_steepestWithin 46 = .ok (.aload_n 0, 1) := by decide +kernel
theorem dX1_steepestWithin_47 : decode cX1_steepestWithin 47 = .ok (.getfield 24, 3) := by decide +kernel
theorem dX1_steepestWithin_50 : decode cX1_steepestWithin 50 = .ok (.lsub, 1) := by decide +kernel
theorem dX1_steepestWithin_51 : decode cX1_steepestWithin 51 = .ok (.aload_n 0, 1) := by decide +kernel
theorem dX1_steepestWithin_52 : decode cX1_steepestWithin 52 = .ok (.getfield 15, 3) := by decide +kernel
theorem dX1_steepestWithin_55 : decode cX1_steepestWithin 55 = .ok (.ldiv, 1) := by decide +kernel
theorem dX1_steepestWithin_56 : decode cX1_steepestWithin 56 = .ok (.goto 15, 3) := by decide +kernel
theorem dX1_steepestWithin_59 : decode cX1_steepestWithin 59 = .ok (.lload_n 3, 1) := by decide +kernel
theorem dX1_steepestWithin_60 : decode cX1_steepestWithin 60 = .ok (.aload_n 0, 1) := by decide +kernel
theorem dX1_steepestWithin_61 : decode cX1_steepestWithin 61 = .ok (.getfield 24, 3) := by decide +kernel
theorem dX1_steepestWithin_64 : decode cX1_steepestWithin 64 = .ok (.ladd, 1) := by decide +kernel
theorem dX1_steepestWithin_65 : decode cX1_steepestWithin 65 = .ok (.aload_n 0, 1) := by decide +kernel
theorem dX1_steepestWithin_66 : decode cX1_steepestWithin 66 = .ok (.getfield 15, 3) := by decide +kernel
theorem dX1_steepestWithin_69 : decode cX1_steepestWithin 69 = .ok (.lneg, 1) := by decide +kernel
theorem dX1_steepestWithin_70 : decode cX1_steepestWithin 70 = .ok (.ldiv, 1) := by decide +kernel
theorem dX1_steepestWithin_71 : decode cX1_steepestWithin 71 = .ok (.lreturn, 1) := by decide +kernel
theorem dX1_sum_0 : decode cX1_sum 0 = .ok (.aload_n 0, 1) := by decide +kernel
theorem dX1_sum_1 : decode cX1_sum 1 = .ok (.getfield 9, 3) := by decide +kernel
theorem dX1_sum_4 : decode cX1_sum 4 = .ok (.aload_n 0, 1) := by decide +kernel
theorem dX1_sum_5 : decode cX1_sum 5 = .ok (.getfield 21, 3) := by decide +kernel
theorem dX1_sum_8 : decode cX1_sum 8 = .ok (.ladd, 1) := by decide +kernel
theorem dX1_sum_9 : decode cX1_sum 9 = .ok (.lreturn, 1) := by decide +kernel
set_option maxRecDepth 20000 in
theorem ggX1_isBetween_X1_sum : GoodIn wsX1_isBetween wsX1_sum := goodIn_r _ [8, 9, 10, 11, 12, 13, 14, 15, 16, 17] (by decide +kernel) (by decide +kernel)
set_option maxRecDepth 20000 in
theorem gX1_isBetween_X1_sum : GoodIn wsX1_isBetween (wsV RX1 79 RX1 yX1_sum wsX1_sum) := goodIn_app (goodIn_of _ (by decide +kernel)) ggX1_isBetween_X1_sum
theorem dX1_isBetween_0 : decode cX1_isBetween 0 = .ok (.aload_n 0, 1) := by decide +kernel
theorem dX1_isBetween_1 : decode cX1_isBetween 1 = .ok (.invokevirtual 79, 3) := by decide +kernel
theorem dX1_isBetween_4 : decode cX1_isBetween 4 = .ok (.ldc2_w 83, 3) := by decide +kernel
theorem dX1_isBetween_7 : decode cX1_isBetween 7 = .ok (.aload_n 0, 1) := by decide +kernel
theorem dX1_isBetween_8 : decode cX1_isBetween 8 = .ok (.getfield 30, 3) := by decide +kernel
theorem dX1_isBetween_11 : decode cX1_isBetween 11 = .ok (.lmul, 1) := by decide +kernel
theorem dX1_isBetween_12 : decode cX1_isBetween 12 = .ok (.lcmp, 1) := by decide +kernel
theorem dX1_isBetween_13 : decode cX1_isBetween 13 = .ok (.ifCond .le 23, 3) := by decide +kernel
theorem dX1_isBetween_16 : decode cX1_isBetween 16 = .ok (.aload_n 0, 1) := by decide +kernel
theorem dX1_isBetween_17 : decode cX1_isBetween 17 = .ok (.invokevirtual 79, 3) := by decide +kernel
theorem dX1_isBetween_20 : decode cX1_isBetween 20 = .ok (.ldc2_w 85, 3) := by decide +kernel
theorem dX1_isBetween_23 : decode cX1_isBetween 23 = .ok (.aload_n 0, 1) := by decide +kernel
theorem dX1_isBetween_24 : decode cX1_isBetween 24 = .ok (.getfield 30, 3) := by decide +kernel
theorem dX1_isBetween_27 : decode cX1_isBetween 27 = .ok (.lmul, 1) := by decide +kernel
theorem dX1_isBetween_28 : decode cX1_isBetween 28 = .ok (.lcmp, 1) := by decide +kernel
theorem dX1_isBetween_29 : decode cX1_isBetween 29 = .ok (.ifCond .ge 7, 3) := by decide +kernel
theorem dX1_isBetween_32 : decode cX1_isBetween 32 = .ok (.iconst 1, 1) := by decide +kernel
theorem dX1_isBetween_33 : decode cX1_isBetween 33 = .ok (.goto 4, 3) := by decide +kernel
theorem dX1_isBetween_36 : decode cX1_isBetween 36 = .ok (.iconst 0, 1) := by decide +kernel
theorem dX1_isBetween_37 : decode cX1_isBetween 37 = .ok (.ireturn, 1) := by decide +kernel
theorem dX1_isPlain_0 : decode cX1_isPlain 0 = .ok (.aload_n 0, 1) := by decide +kernel
theorem dX1_isPlain_1 : decode cX1_isPlain 1 = .ok (.getfield 9, 3) := by decide +kernel
theorem dX1_isPlain_4 : decode cX1_isPlain 4 = .ok (.lload_n 1, 1) := by decide +kernel
theorem dX1_isPlain_5 : decode cX1_isPlain 5 = .ok (.lcmp, 1) := by decide +kernel
theorem dX1_isPlain_6 : decode cX1_isPlain 6 = .ok (.ifCond .ne 34, 3) := by decide +kernel
theorem dX1_isPlain_9 : decode cX1_isPlain 9 = .ok (.aload_n 0, 1) := by decide +kernel
theorem dX1_isPlain_10 : decode cX1_isPlain 10 = .ok (.getfield 21, 3) := by decide +kernel
theorem dX1_isPlain_13 : decode cX1_isPlain 13 = .ok (.lload_n 1, 1) := by decide +kernel
theorem dX1_isPlain_14 : decode cX1_isPlain 14 = .ok (.lcmp, 1) := by decide +kernel
theorem dX1_isPlain_15 : decode cX1_isPlain 15 = .ok (.ifCond .ne 25, 3) := by decide +kernel
theorem dX1_isPlain_18 : decode cX1_isPlain 18 = .ok (.aload_n 0, 1) := by decide +kernel
theorem dX1_isPlain_19 : decode cX1_isPlain 19 = .ok (.getfield 15, 3) := by decide +kernel
theorem dX1_isPlain_22 : decode cX1_isPlain 22 = .ok (.lconst 0, 1) := by decide +kernel
theorem dX1_isPlain_23 : decode cX1_isPlain 23 = .ok (.lcmp, 1) := by decide +kernel
theorem dX1_isPlain_24 : decode cX1_isPlain 24 = .ok (.ifCond .ne 16, 3) := by decide +kernel
theorem dX1_isPlain_27 : decode cX1_isPlain 27 = .ok (.aload_n 0, 1) := by decide +kernel
theorem dX1_isPlain_28 : decode cX1_isPlain 28 = .ok (.getfield 18, 3) := by decide +kernel
theorem dX1_isPlain_31 : decode cX1_isPlain 31 = .ok (.lconst 0, 1) := by decide +kernel
theorem dX1_isPlain_32 : decode cX1_isPlain 32 = .ok (.lcmp, 1) := by decide +kernel
theorem dX1_isPlain_33 : decode cX1_isPlain 33 = .ok (.ifCond .ne 7, 3) := by decide +kernel
theorem dX1_isPlain_36 : decode cX1_isPlain 36 = .ok (.iconst 1, 1) := by decide +kernel
theorem dX1_isPlain_37 : decode cX1_isPlain 37 = .ok (.goto 4, 3) := by decide +kernel
theorem dX1_isPlain_40 : decode cX1_isPlain 40 = .ok (.iconst 0, 1) := by decide +kernel
theorem dX1_isPlain_41 : decode cX1_isPlain 41 = .ok (.ireturn, 1) := by decide +kernel
set_option maxRecDepth 20000 in
theorem ggX1_manner_X1_isBetween : GoodIn wsX1_manner wsX1_isBetween := goodIn_r _ [8, 3, 1, 2, 9, 10, 11, 7, 12, 13, 14, 21, 22, 23, 24, 25, 26, 27] (by decide +kernel) (by decide +kernel)
set_option maxRecDepth 20000 in
theorem gX1_manner_X1_isBetween : GoodIn wsX1_manner (wsV RX1 87 RX1 yX1_isBetween wsX1_isBetween) := goodIn_app (goodIn_of _ (by decide +kernel)) ggX1_manner_X1_isBetween
set_option maxRecDepth 20000 in
theorem ggX1_manner_X1_isPlain : GoodIn wsX1_manner wsX1_isPlain := goodIn_r _ [18, 13, 14, 19, 20, 21, 22, 23, 24, 25, 26, 27] (by decide +kernel) (by decide +kernel)
set_option maxRecDepth 20000 in
theorem gX1_manner_X1_isPlain : GoodIn wsX1_manner (wsV RX1 91 RX1 yX1_isPlain wsX1_isPlain) := goodIn_app (goodIn_of _ (by decide +kernel)) ggX1_manner_X1_isPlain
set_option maxRecDepth 20000 in
theorem ggX1_manner_X1_sum : GoodIn wsX1_manner wsX1_sum := goodIn_r _ [12, 13, 14, 21, 22, 23, 24, 25, 26, 27] (by decide +kernel) (by decide +kernel)
set_option maxRecDepth 20000 in
theorem gX1_manner_X1_sum : GoodIn wsX1_manner (wsV RX1 79 RX1 yX1_sum wsX1_sum) := goodIn_app (goodIn_of _ (by decide +kernel)) ggX1_manner_X1_sum
theorem dX1_manner_0 : decode cX1_manner 0 = .ok (.aload_n 0, 1) := by decide +kernel
theorem dX1_manner_1 : decode cX1_manner 1 = .ok (.invokevirtual 87, 3) := by decide +kernel
theorem dX1_manner_4 : decode cX1_manner 4 = .ok (.ifCond .ne 26, 3) := by decide +kernel
theorem dX1_manner_7 : decode cX1_manner 7 = .ok (.aload_n 0, 1) := by decide +kernel
theorem dX1_manner_8 : decode cX1_manner 8 = .ok (.aload_n 0, 1) := by decide +kernel
theorem dX1_manner_9 : decode cX1_manner 9 = .ok (.getfield 30, 3) := by decide +kernel
theorem dX1_manner_12 : decode cX1_manner 12 = .ok (.invokevirtual 91, 3) := by decide +kernel
theorem dX1_manner_15 : decode cX1_manner 15 = .ok (.ifCond .ne 15, 3) := by decide +kernel
theorem dX1_manner_18 : decode cX1_manner 18 = .ok (.aload_n 0, 1) := by decide +kernel
theorem dX1_manner_19 : decode cX1_manner 19 = .ok (.aload_n 0, 1) := by decide +kernel
theorem dX1_manner_20 : decode cX1_manner 20 = .ok (.getfield 30, 3) := by decide +kernel
theorem dX1_manner_23 : decode cX1_manner 23 = .ok (.lneg, 1) := by decide +kernel
theorem dX1_manner_24 : decode cX1_manner 24 = .ok (.invokevirtual 91, 3) := by decide +kernel
theorem dX1_manner_27 : decode cX1_manner 27 = .ok (.ifCond .eq 5, 3) := by decide +kernel
theorem dX1_manner_30 : decode cX1_manner 30 = .ok (.iconst 0, 1) := by decide +kernel
theorem dX1_manner_31 : decode cX1_manner 31 = .ok (.ireturn, 1) := by decide +kernel
theorem dX1_manner_32 : decode cX1_manner 32 = .ok (.aload_n 0, 1) := by decide +kernel
theorem dX1_manner_33 : decode cX1_manner 33 = .ok (.invokevirtual 79, 3) := by decide +kernel
theorem dX1_manner_36 : decode cX1_manner 36 = .ok (.ldc2_w 85, 3) := by decide +kernel
theorem dX1_manner_39 : decode cX1_manner 39 = .ok (.aload_n 0, 1) := by decide +kernel
theorem dX1_manner_40 : decode cX1_manner 40 = .ok (.getfield 30, 3) := by decide +kernel
theorem dX1_manner_43 : decode cX1_manner 43 = .ok (.lmul, 1) := by decide +kernel
theorem dX1_manner_44 : decode cX1_manner 44 = .ok (.lcmp, 1) := by decide +kernel
theorem dX1_manner_45 : decode cX1_manner 45 = .ok (.ifCond .eq 19, 3) := by decide +kernel
theorem dX1_manner_48 : decode cX1_manner 48 = .ok (.aload_n 0, 1) := by decide +kernel
theorem dX1_manner_49 : decode cX1_manner 49 = .ok (.invokevirtual 79, 3) := by decide +kernel
theorem dX1_manner_52 : decode cX1_manner 52 = .ok (.ldc2_w 83, 3) := by decide +kernel
theorem dX1_manner_55 : decode cX1_manner 55 = .ok (.aload_n 0, 1) := by decide +kernel
theorem dX1_manner_56 : decode cX1_manner 56 = .ok (.getfield 30, 3) := by decide +kernel
theorem dX1_manner_59 : decode cX1_manner 59 = .ok (.lmul, 1) := by decide +kernel
theorem dX1_manner_60 : decode cX1_manner 60 = .ok (.lcmp, 1) := by decide +kernel
theorem dX1_manner_61 : decode cX1_manner 61 = .ok (.ifCond .ne 7, 3) := by decide +kernel
theorem dX1_manner_64 : decode cX1_manner 64 = .ok (.iconst 1, 1) := by decide +kernel
theorem dX1_manner_65 : decode cX1_manner 65 = .ok (.goto 4, 3) := by decide +kernel
theorem dX1_manner_68 : decode cX1_manner 68 = .ok (.iconst 2, 1) := by decide +kernel
theorem dX1_manner_69 : decode cX1_manner 69 = .ok (.ireturn, 1) := by decide +kernel
set_option maxRecDepth 20000 in
theorem ggX1_roundsToComeBack_X1_isPlain : GoodIn wsX1_roundsToComeBack wsX1_isPlain := goodIn_r _ [6, 7, 8, 9, 10, 15, 16, 17, 18, 19, 20, 21] (by decide +kernel) (by decide +kernel)
set_option maxRecDepth 20000 in
theorem gX1_roundsToComeBack_X1_isPlain : GoodIn wsX1_roundsToComeBack (wsV RX1 91 RX1 yX1_isPlain wsX1_isPlain) := goodIn_app (goodIn_of _ (by decide +kernel)) ggX1_roundsToComeBack_X1_isPlain
set_option maxRecDepth 20000 in
theorem ggX1_roundsToComeBack_X1_sum : GoodIn wsX1_roundsToComeBack wsX1_sum := goodIn_r _ [14, 7, 8, 15, 16, 17, 18, 19, 20, 21] (by decide +kernel) (by decide +kernel)
set_option maxRecDepth 20000 in
theorem gX1_roundsToComeBack_X1_sum : GoodIn wsX1_roundsToComeBack (wsV RX1 79 RX1 yX1_sum wsX1_sum) := goodIn_app (goodIn_of _ (by decide +kernel)) ggX1_roundsToComeBack_X1_sum
theorem dX1_roundsToComeBack_0 : decode cX1_roundsToComeBack 0 = .ok (.aload_n 0, 1) := by decide +kernel
theorem dX1_roundsToComeBack_1 : decode cX1_roundsToComeBack 1 = .ok (.aload_n 0, 1) := by decide +kernel
theorem dX1_roundsToComeBack_2 : decode cX1_roundsToComeBack 2 = .ok (.getfield 30, 3) := by decide +kernel
theorem dX1_roundsToComeBack_5 : decode cX1_roundsToComeBack 5 = .ok (.invokevirtual 91, 3) := by decide +kernel
theorem dX1_roundsToComeBack_8 : decode cX1_roundsToComeBack 8 = .ok (.ifCond .eq 5, 3) := by decide +kernel
theorem dX1_roundsToComeBack_11 : decode cX1_roundsToComeBack 11 = .ok (.iconst 1, 1) := by decide +kernel
theorem dX1_roundsToComeBack_12 : decode cX1_roundsToComeBack 12 = .ok (.ireturn, 1) := by decide +kernel
theorem dX1_roundsToComeBack_13 : decode cX1_roundsToComeBack 13 = .ok (.aload_n 0, 1) := by decide +kernel
theorem dX1_roundsToComeBack_14 : decode cX1_roundsToComeBack 14 = .ok (.aload_n 0, 1) := by decide +kernel
theorem dX1_roundsToComeBack_15 : decode cX1_roundsToComeBack 15 = .ok (.getfield 30, 3) := by decide +kernel
theorem dX1_roundsToComeBack_18 : decode cX1_roundsToComeBack 18 = .ok (.lneg, 1) := by decide +kernel
theorem dX1_roundsToComeBack_19 : decode cX1_roundsToComeBack 19 = .ok (.invokevirtual 91, 3) := by decide +kernel
theorem dX1_roundsToComeBack_22 : decode cX1_roundsToComeBack 22 = .ok (.ifCond .eq 5, 3) := by decide +kernel
theorem dX1_roundsToComeBack_25 : decode cX1_roundsToComeBack 25 = .ok (.iconst 2, 1) := by decide +kernel
theorem dX1_roundsToComeBack_26 : decode cX1_roundsToComeBack 26 = .ok (.ireturn, 1) := by decide +kernel
theorem dX1_roundsToComeBack_27 : decode cX1_roundsToComeBack 27 = .ok (.aload_n 0, 1) := by decide +kernel
theorem dX1_roundsToComeBack_28 : decode cX1_roundsToComeBack 28 = .ok (.invokevirtual 79, 3) := by decide +kernel
theorem dX1_roundsToComeBack_31 : decode cX1_roundsToComeBack 31 = .ok (.aload_n 0, 1) := by decide +kernel
theorem dX1_roundsToComeBack_32 : decode cX1_roundsToComeBack 32 = .ok (.getfield 30, 3) := by decide +kernel
theorem dX1_roundsToComeBack_35 : decode cX1_roundsToComeBack 35 = .ok (.lneg, 1) := by decide +kernel
theorem dX1_roundsToComeBack_36 : decode cX1_roundsToComeBack 36 = .ok (.lcmp, 1) := by decide +kernel
theorem dX1_roundsToComeBack_37 : decode cX1_roundsToComeBack 37 = .ok (.ifCond .ne 5, 3) := by decide +kernel
theorem dX1_roundsToComeBack_40 : decode cX1_roundsToComeBack 40 = .ok (.iconst 3, 1) := by decide +kernel
theorem dX1_roundsToComeBack_41 : decode cX1_roundsToComeBack 41 = .ok (.ireturn, 1) := by decide +kernel
theorem dX1_roundsToComeBack_42 : decode cX1_roundsToComeBack 42 = .ok (.aload_n 0, 1) := by decide +kernel
theorem dX1_roundsToComeBack_43 : decode cX1_roundsToComeBack 43 = .ok (.invokevirtual 79, 3) := by decide +kernel
theorem dX1_roundsToComeBack_46 : decode cX1_roundsToComeBack 46 = .ok (.lconst 0, 1) := by decide +kernel
theorem dX1_roundsToComeBack_47 : decode cX1_roundsToComeBack 47 = .ok (.lcmp, 1) := by decide +kernel
theorem dX1_roundsToComeBack_48 : decode cX1_roundsToComeBack 48 = .ok (.ifCond .ne 5, 3) := by decide +kernel
theorem dX1_roundsToComeBack_51 : decode cX1_roundsToComeBack 51 = .ok (.iconst 4, 1) := by decide +kernel
theorem dX1_roundsToComeBack_52 : decode cX1_roundsToComeBack 52 = .ok (.ireturn, 1) := by decide +kernel
theorem dX1_roundsToComeBack_53 : decode cX1_roundsToComeBack 53 = .ok (.aload_n 0, 1) := by decide +kernel
theorem dX1_roundsToComeBack_54 : decode cX1_roundsToComeBack 54 = .ok (.invokevirtual 79, 3) := by decide +kernel
theorem dX1_roundsToComeBack_57 : decode cX1_roundsToComeBack 57 = .ok (.aload_n 0, 1) := by decide +kernel
theorem dX1_roundsToComeBack_58 : decode cX1_roundsToComeBack 58 = .ok (.getfield 30, 3) := by decide +kernel
theorem dX1_roundsToComeBack_61 : decode cX1_roundsToComeBack 61 = .ok (.lcmp, 1) := by decide +kernel
theorem dX1_roundsToComeBack_62 : decode cX1_roundsToComeBack 62 = .ok (.ifCond .ne 8, 3) := by decide +kernel
theorem dX1_roundsToComeBack_65 : decode cX1_roundsToComeBack 65 = .ok (.bipush 6, 2) := by decide +kernel
theorem dX1_roundsToComeBack_67 : decode cX1_roundsToComeBack 67 = .ok (.goto 4, 3) := by decide +kernel
theorem dX1_roundsToComeBack_70 : decode cX1_roundsToComeBack 70 = .ok (.iconst 0, 1) := by decide +kernel
theorem dX1_roundsToComeBack_71 : decode cX1_roundsToComeBack 71 = .ok (.ireturn, 1) := by decide +kernel
set_option maxRecDepth 20000 in
theorem ggX2_init_X1_init : GoodIn wsX2_init wsX1_init := goodIn_r _ [16, 17, 2, 3] (by decide +kernel) (by decide +kernel)
set_option maxRecDepth 20000 in
theorem gX2_init_X1_init_n30 : GoodIn wsX2_init (wsX1_init) := ggX2_init_X1_init
theorem dX2_init_0 : decode cX2_init 0 = .ok (.aload_n 0, 1) := by decide +kernel
theorem dX2_init_1 : decode cX2_init 1 = .ok (.invokespecial 3, 3) := by decide +kernel
theorem dX2_init_4 : decode cX2_init 4 = .ok (.aload_n 0, 1) := by decide +kernel
theorem dX2_init_5 : decode cX2_init 5 = .ok (.iconst 4, 1) := by decide +kernel
theorem dX2_init_6 : decode cX2_init 6 = .ok (.anewarray 11, 3) := by decide +kernel
theorem dX2_init_9 : decode cX2_init 9 = .ok (.putfield 13, 3) := by decide +kernel
theorem dX2_init_12 : decode cX2_init 12 = .ok (.aload_n 0, 1) := by decide +kernel
theorem dX2_init_13 : decode cX2_init 13 = .ok (.iconst 0, 1) := by decide +kernel
theorem dX2_init_14 : decode cX2_init 14 = .ok (.putfield 17, 3) := by decide +kernel
theorem dX2_init_17 : decode cX2_init 17 = .ok (.aload_n 0, 1) := by decide +kernel
theorem dX2_init_18 : decode cX2_init 18 = .ok (.bipush 12, 2) := by decide +kernel
theorem dX2_init_20 : decode cX2_init 20 = .ok (.newarray .int, 2) := by decide +kernel
theorem dX2_init_22 : decode cX2_init 22 = .ok (.putfield 21, 3) := by decide +kernel
theorem dX2_init_25 : decode cX2_init 25 = .ok (.aload_n 0, 1) := by decide +kernel
theorem dX2_init_26 : decode cX2_init 26 = .ok (.iconst 0, 1) := by decide +kernel
theorem dX2_init_27 : decode cX2_init 27 = .ok (.putfield 25, 3) := by decide +kernel
theorem dX2_init_30 : decode cX2_init 30 = .ok (.aload_n 0, 1) := by decide +kernel
theorem dX2_init_31 : decode cX2_init 31 = .ok (.new 28, 3) := by decide +kernel
theorem dX2_init_34 : decode cX2_init 34 = .ok (.dup, 1) := by decide +kernel
theorem dX2_init_35 : decode cX2_init 35 = .ok (.invokespecial 30, 3) := by decide +kernel
theorem dX2_init_38 : decode cX2_init 38 = .ok (.putfield 31, 3) := by decide +kernel
theorem dX2_init_41 : decode cX2_init 41 = .ok (.aload_n 0, 1) := by decide +kernel
theorem dX2_init_42 : decode cX2_init 42 = .ok (.new 28, 3) := by decide +kernel
theorem dX2_init_45 : decode cX2_init 45 = .ok (.dup, 1) := by decide +kernel
theorem dX2_init_46 : decode cX2_init 46 = .ok (.invokespecial 30, 3) := by decide +kernel
theorem dX2_init_49 : decode cX2_init 49 = .ok (.putfield 35, 3) := by decide +kernel
theorem dX2_init_52 : decode cX2_init 52 = .ok (.return_, 1) := by decide +kernel
set_option maxRecDepth 20000 in
theorem ggX2_bench_X0_init : GoodIn wsX2_bench wsX0_init := goodIn_r _ [8, 9, 10, 11, 12, 13, 14, 15, 16, 23, 24, 25, 26] (by decide +kernel) (by decide +kernel)
set_option maxRecDepth 20000 in
theorem gX2_bench_X0_init : GoodIn wsX2_bench (wsX0_init) := ggX2_bench_X0_init
theorem dX2_bench_0 : decode cX2_bench 0 = .ok (.aload_n 0, 1) := by decide +kernel
theorem dX2_bench_1 : decode cX2_bench 1 = .ok (.getfield 17, 3) := by decide +kernel
theorem dX2_bench_4 : decode cX2_bench 4 = .ok (.iconst 4, 1) := by decide +kernel
theorem dX2_bench_5 : decode cX2_bench 5 = .ok (.if_icmp .lt 6, 3) := by decide +kernel
theorem dX2_bench_8 : decode cX2_bench 8 = .ok (.bipush (-4), 2) := by decide +kernel
theorem dX2_bench_10 : decode cX2_bench 10 = .ok (.ireturn, 1) := by decide +kernel
theorem dX2_bench_11 : decode cX2_bench 11 = .ok (.aload_n 0, 1) := by decide +kernel
theorem dX2_bench_12 : decode cX2_bench 12 = .ok (.getfield 13, 3) := by decide +kernel
theorem dX2_bench_15 : decode cX2_bench 15 = .ok (.aload_n 0, 1) := by decide +kernel
theorem dX2_bench_16 : decode cX2_bench 16 = .ok (.getfield 17, 3) := by decide +kernel
theorem dX2_bench_19 : decode cX2_bench 19 = .ok (.new 11, 3) := by decide +kernel
theorem dX2_bench_22 : decode cX2_bench 22 = .ok (.dup, 1) := by decide +kernel
theorem dX2_bench_23 : decode cX2_bench 23 = .ok (.invokespecial 38, 3) := by decide +kernel
theorem dX2_bench_26 : decode cX2_bench 26 = .ok (.aastore, 1) := by decide +kernel
theorem dX2_bench_27 : decode cX2_bench 27 = .ok (.aload_n 0, 1) := by decide +kernel
theorem dX2_bench_28 : decode cX2_bench 28 = .ok (.dup, 1) := by decide +kernel
theorem dX2_bench_29 : decode cX2_bench 29 = .ok (.getfield 17, 3) := by decide +kernel
theorem dX2_bench_32 : decode cX2_bench 32 = .ok (.iconst 1, 1) := by decide +kernel
theorem dX2_bench_33 : decode cX2_bench 33 = .ok (.iadd, 1) := by decide +kernel
theorem dX2_bench_34 : decode cX2_bench 34 = .ok (.putfield 17, 3) := by decide +kernel
theorem dX2_bench_37 : decode cX2_bench 37 = .ok (.aload_n 0, 1) := by decide +kernel
theorem dX2_bench_38 : decode cX2_bench 38 = .ok (.getfield 17, 3) := by decide +kernel
theorem dX2_bench_41 : decode cX2_bench 41 = .ok (.iconst 1, 1) := by decide +kernel
theorem dX2_bench_42 : decode cX2_bench 42 = .ok (.isub, 1) := by decide +kernel
theorem dX2_bench_43 : decode cX2_bench 43 = .ok (.ireturn, 1) := by decide +kernel
set_option maxRecDepth 20000 in
theorem ggX2_put_X2_rowAt : GoodIn wsX2_put wsX2_rowAt := goodIn_r _ [6, 7, 8, 44, 45, 46, 47, 48, 49] (by decide +kernel) (by decide +kernel)
set_option maxRecDepth 20000 in
theorem gX2_put_X2_rowAt : GoodIn wsX2_put (wsV RX2 39 RX2 yX2_rowAt wsX2_rowAt) := goodIn_app (goodIn_of _ (by decide +kernel)) ggX2_put_X2_rowAt
set_option maxRecDepth 20000 in
theorem ggX2_put_X2_isPart : GoodIn wsX2_put wsX2_isPart := goodIn_r _ [11, 12, 13, 5, 14] (by decide +kernel) (by decide +kernel)
set_option maxRecDepth 20000 in
theorem gX2_put_X2_isPart : GoodIn wsX2_put (va_wsS RX2 46 yX2_isPart wsX2_isPart) := goodIn_app (goodIn_of _ (by decide +kernel)) ggX2_put_X2_isPart
set_option maxRecDepth 20000 in
theorem ggX2_put_X0_hasRoomFor : GoodIn wsX2_put wsX0_hasRoomFor := goodIn_r _ [19, 20, 21, 22, 18, 23, 24, 25, 26, 27, 28, 29, 40, 41, 42, 43] (by decide +kernel) (by decide +kernel)
set_option maxRecDepth 20000 in
theorem gX2_put_X0_hasRoomFor : GoodIn wsX2_put (wsV RX2 50 RX0 yX0_hasRoomFor wsX0_hasRoomFor) := goodIn_app (goodIn_of _ (by decide +kernel)) ggX2_put_X0_hasRoomFor
set_option maxRecDepth 20000 in
theorem ggX2_put_X0_insert : GoodIn wsX2_put wsX0_insert := goodIn_r _ [33, 24, 25, 34, 35, 36, 37, 38, 18, 39, 40, 41, 42, 43] (by decide +kernel) (by decide +kernel)
set_option maxRecDepth 20000 in
theorem gX2_put_X0_insert : GoodIn wsX2_put (wsV RX2 54 RX0 yX0_insert wsX0_insert) := goodIn_app (goodIn_of _ (by decide +kernel)) ggX2_put_X0_insert
theorem dX2_put_0 : decode cX2_put 0 = .ok (.aload_n 0, 1) := by decide +kernel
theorem dX2_put_1 : decode cX2_put 1 = .ok (.iload_n 1, 1) := by decide +kernel
theorem dX2_put_2 : decode cX2_put 2 = .ok (.invokevirtual 39, 3) := by decide +kernel
theorem dX2_put_5 : decode cX2_put 5 = .ok (.astore 6, 2) := by decide +kernel
theorem dX2_put_7 : decode cX2_put 7 = .ok (.aload 6, 2) := by decide +kernel
theorem dX2_put_9 : decode cX2_put 9 = .ok (.ifnull 16, 3) := by decide +kernel
theorem dX2_put_12 : decode cX2_put 12 = .ok (.iload_n 2, 1) := by decide +kernel
theorem dX2_put_13 : decode cX2_put 13 = .ok (.ifCond .lt 12, 3) := by decide +kernel
theorem dX2_put_16 : decode cX2_put 16 = .ok (.iload_n 2, 1) := by decide +kernel
theorem dX2_put_17 : decode cX2_put 17 = .ok (.aload 6, 2) := by decide +kernel
theorem dX2_put_19 : decode cX2_put 19 = .ok (.getfield 43, 3) := by decide +kernel
theorem dX2_put_22 : decode cX2_put 22 = .ok (.if_icmp .le 5, 3) := by decide +kernel
theorem dX2_put_25 : decode cX2_put 25 = .ok (.iconst (-1), 1) := by decide +kernel
theorem dX2_put_26 : decode cX2_put 26 = .ok (.ireturn, 1) := by decide +kernel
theorem dX2_put_27 : decode cX2_put 27 = .ok (.iload_n 3, 1) := by decide +kernel
theorem dX2_put_28 : decode cX2_put 28 = .ok (.iload 4, 2) := by decide +kernel
theorem dX2_put_30 : decode cX2_put 30 = .ok (.iload 5, 2) := by decide +kernel
theorem dX2_put_32 : decode cX2_put 32 = .ok (.invokestatic 46, 3) := by decide +kernel
theorem dX2_put_35 : decode cX2_put 35 = .ok (.ifCond .ne 6, 3) := by decide +kernel
theorem dX2_put_38 : decode cX2_put 38 = .ok (.bipush (-2), 2) := by decide +kernel
theorem dX2_put_40 : decode cX2_put 40 = .ok (.ireturn, 1) := by decide +kernel
theorem dX2_put_41 : decode cX2_put 41 = .ok (.aload 6, 2) := by decide +kernel
theorem dX2_put_43 : decode cX2_put 43 = .ok (.getfield 43, 3) := by decide +kernel
theorem dX2_put_46 : decode cX2_put 46 = .ok (.bipush 8, 2) := by decide +kernel
theorem dX2_put_48 : decode cX2_put 48 = .ok (.if_icmp .ge 12, 3) := by decide +kernel
theorem dX2_put_51 : decode cX2_put 51 = .ok (.aload 6, 2) := by decide +kernel
theorem dX2_put_53 : decode cX2_put 53 = .ok (.iload_n 3, 1) := by decide +kernel
theorem dX2_put_54 : decode cX2_put 54 = .ok (.invokevirtual 50, 3) := by decide +kernel
theorem dX2_put_57 : decode cX2_put 57 = .ok (.ifCond .ne 6, 3) := by decide +kernel
theorem dX2_put_60 : decode cX2_put 60 = .ok (.bipush (-4), 2) := by decide +kernel
theorem dX2_put_62 : decode cX2_put 62 = .ok (.ireturn, 1) := by decide +kernel
theorem dX2_put_63 : decode cX2_put 63 = .ok (.aload 6, 2) := by decide +kernel
theorem dX2_put_65 : decode cX2_put 65 = .ok (.iload_n 2, 1) := by decide +kernel
theorem dX2_put_66 : decode cX2_put 66 = .ok (.iload_n 3, 1) := by decide +kernel
theorem dX2_put_67 : decode cX2_put 67 = .ok (.iload 4, 2) := by decide +kernel
theorem dX2_put_69 : decode cX2_put 69 = .ok (.iload 5, 2) := by decide +kernel
theorem dX2_put_71 : decode cX2_put 71 = .ok (.invokevirtual 54, 3) := by decide +kernel
theorem dX2_put_74 : decode cX2_put 74 = .ok (.aload 6, 2) := by decide +kernel
theorem dX2_put_76 : decode cX2_put 76 = .ok (.getfield 43, 3) := by decide +kernel
theorem dX2_put_79 : decode cX2_put 79 = .ok (.ireturn, 1) := by decide +kernel
set_option maxRecDepth 20000 in
theorem ggX2_take_X2_rowAt : GoodIn wsX2_take wsX2_rowAt := goodIn_r _ [6, 7, 8, 30, 31, 32, 33, 34, 35] (by decide +kernel) (by decide +kernel)
set_option maxRecDepth 20000 in
theorem gX2_take_X2_rowAt : GoodIn wsX2_take (wsV RX2 39 RX2 yX2_rowAt wsX2_rowAt) := goodIn_app (goodIn_of _ (by decide +kernel)) ggX2_take_X2_rowAt
set_option maxRecDepth 20000 in
theorem ggX2_take_X0_has : GoodIn wsX2_take wsX0_has := goodIn_r _ [13, 14, 26, 27, 28, 29] (by decide +kernel) (by decide +kernel)
set_option maxRecDepth 20000 in
theorem gX2_take_X0_has : GoodIn wsX2_take (wsV RX2 58 RX0 yX0_has wsX0_has) := goodIn_app (goodIn_of _ (by decide +kernel)) ggX2_take_X0_has
set_option maxRecDepth 20000 in
theorem ggX2_take_X0_remove : GoodIn wsX2_take wsX0_remove := goodIn_r _ [18, 14, 19, 20, 21, 22, 23, 24, 12, 25, 26, 27, 28, 29] (by decide +kernel) (by decide +kernel)
set_option maxRecDepth 20000 in
theorem gX2_take_X0_remove : GoodIn wsX2_take (wsV RX2 64 RX0 yX0_remove wsX0_remove) := goodIn_app (goodIn_of _ (by decide +kernel)) ggX2_take_X0_remove
theorem dX2_take_0 : decode cX2_take 0 = .ok (.aload_n 0, 1) := by decide +kernel
theorem dX2_take_1 : decode cX2_take 1 = .ok (.iload_n 1, 1) := by decide +kernel
theorem dX2_take_2 : decode cX2_take 2 = .ok (.invokevirtual 39, 3) := by decide +kernel
theorem dX2_take_5 : decode cX2_take 5 = .ok (.astore_n 3, 1) := by decide +kernel
theorem dX2_take_6 : decode cX2_take 6 = .ok (.aload_n 3, 1) := by decide +kernel
theorem dX2_take_7 : decode cX2_take 7 = .ok (.ifnull 11, 3) := by decide +kernel
theorem dX2_take_10 : decode cX2_take 10 = .ok (.aload_n 3, 1) := by decide +kernel
theorem dX2_take_11 : decode cX2_take 11 = .ok (.iload_n 2, 1) := by decide +kernel
theorem dX2_take_12 : decode cX2_take 12 = .ok (.invokevirtual 58, 3) := by decide +kernel
theorem dX2_take_15 : decode cX2_take 15 = .ok (.ifCond .ne 5, 3) := by decide +kernel
theorem dX2_take_18 : decode cX2_take 18 = .ok (.iconst (-1), 1) := by decide +kernel
theorem dX2_take_19 : decode cX2_take 19 = .ok (.ireturn, 1) := by decide +kernel
theorem dX2_take_20 : decode cX2_take 20 = .ok (.aload_n 3, 1) := by decide +kernel
theorem dX2_take_21 : decode cX2_take 21 = .ok (.getfield 61, 3) := by decide +kernel
theorem dX2_take_24 : decode cX2_take 24 = .ok (.iload_n 2, 1) := by decide +kernel
theorem dX2_take_25 : decode cX2_take 25 = .ok (.iaload, 1) := by decide +kernel
theorem dX2_take_26 : decode cX2_take 26 = .ok (.istore 4, 2) := by decide +kernel
theorem dX2_take_28 : decode cX2_take 28 = .ok (.aload_n 3, 1) := by decide +kernel
theorem dX2_take_29 : decode cX2_take 29 = .ok (.iload_n 2, 1) := by decide +kernel
theorem dX2_take_30 : decode cX2_take 30 = .ok (.invokevirtual 64, 3) := by decide +kernel
theorem dX2_take_33 : decode cX2_take 33 = .ok (.iload 4, 2) := by decide +kernel
theorem dX2_take_35 : decode cX2_take 35 = .ok (.ireturn, 1) := by decide +kernel
set_option maxRecDepth 20000 in
theorem ggX2_set_X2_rowAt : GoodIn wsX2_set wsX2_rowAt := goodIn_r _ [8, 9, 10, 27, 28, 29, 30, 31, 32] (by decide +kernel) (by decide +kernel)
set_option maxRecDepth 20000 in
theorem gX2_set_X2_rowAt : GoodIn wsX2_set (wsV RX2 39 RX2 yX2_rowAt wsX2_rowAt) := goodIn_app (goodIn_of _ (by decide +kernel)) ggX2_set_X2_rowAt
set_option maxRecDepth 20000 in
theorem ggX2_set_X0_has : GoodIn wsX2_set wsX0_has := goodIn_r _ [15, 16, 23, 24, 25, 26] (by decide +kernel) (by decide +kernel)
set_option maxRecDepth 20000 in
theorem gX2_set_X0_has : GoodIn wsX2_set (wsV RX2 58 RX0 yX0_has wsX0_has) := goodIn_app (goodIn_of _ (by decide +kernel)) ggX2_set_X0_has
set_option maxRecDepth 20000 in
theorem ggX2_set_X2_isPart : GoodIn wsX2_set wsX2_isPart := goodIn_r _ [19, 20, 21, 7, 22] (by decide +kernel) (by decide +kernel)
set_option maxRecDepth 20000 in
theorem gX2_set_X2_isPart : GoodIn wsX2_set (va_wsS RX2 46 yX2_isPart wsX2_isPart) := goodIn_app (goodIn_of _ (by decide +kernel)) ggX2_set_X2_isPart
theorem dX2_set_0 : decode cX2_set 0 = .ok (.aload_n 0, 1) := by decide +kernel
theorem dX2_set_1 : decode cX2_set 1 = .ok (.iload_n 1, 1) := by decide +kernel
theorem dX2_set_2 : decode cX2_set 2 = .ok (.invokevirtual 39, 3) := by decide +kernel
theorem dX2_set_5 : decode cX2_set 5 = .ok (.astore 5, 2) := by decide +kernel
theorem dX2_set_7 : decode cX2_set 7 = .ok (.aload 5, 2) := by decide +kernel
theorem dX2_set_9 : decode cX2_set 9 = .ok (.ifnull 12, 3) := by decide +kernel
theorem dX2_set_12 : decode cX2_set 12 = .ok (.aload 5, 2) := by decide +kernel
theorem dX2_set_14 : decode cX2_set 14 = .ok (.iload_n 2, 1) := by decide +kernel
theorem dX2_set_15 : decode cX2_set 15 = .ok (.invokevirtual 58, 3) := by decide +kernel
theorem dX2_set_18 : decode cX2_set 18 = .ok (.ifCond .ne 5, 3) := by decide +kernel
theorem dX2_set_21 : decode cX2_set 21 = .ok (.iconst (-1), 1) := by decide +kernel
theorem dX2_set_22 : decode cX2_set 22 = .ok (.ireturn, 1) := by decide +kernel
theorem dX2_set_23 : decode cX2_set 23 = .ok (.aload 5, 2) := by decide +kernel
theorem dX2_set_25 : decode cX2_set 25 = .ok (.getfield 61, 3) := by decide +kernel
theorem dX2_set_28 : decode cX2_set 28 = .ok (.iload_n 2, 1) := by decide +kernel
theorem dX2_set_29 : decode cX2_set 29 = .ok (.iaload, 1) := by decide +kernel
theorem dX2_set_30 : decode cX2_set 30 = .ok (.iload_n 3, 1) := by decide +kernel
theorem dX2_set_31 : decode cX2_set 31 = .ok (.iload 4, 2) := by decide +kernel
theorem dX2_set_33 : decode cX2_set 33 = .ok (.invokestatic 46, 3) := by decide +kernel
theorem dX2_set_36 : decode cX2_set 36 = .ok (.ifCond .ne 6, 3) := by decide +kernel
theorem dX2_set_39 : decode cX2_set 39 = .ok (.bipush (-2), 2) := by decide +kernel
theorem dX2_set_41 : decode cX2_set 41 = .ok (.ireturn, 1) := by decide +kernel
theorem dX2_set_42 : decode cX2_set 42 = .ok (.aload 5, 2) := by decide +kernel
theorem dX2_set_44 : decode cX2_set 44 = .ok (.getfield 68, 3) := by decide +kernel
theorem dX2_set_47 : decode cX2_set 47 = .ok (.iload_n 2, 1) := by decide +kernel
theorem dX2_set_48 : decode cX2_set 48 = .ok (.iload_n 3, 1) := by decide +kernel
theorem dX2_set_49 : decode cX2_set 49 = .ok (.iastore, 1) := by decide +kernel
theorem dX2_set_50 : decode cX2_set 50 = .ok (.aload 5, 2) := by decide +kernel
theorem dX2_set_52 : decode cX2_set 52 = .ok (.getfield 71, 3) := by decide +kernel
theorem dX2_set_55 : decode cX2_set 55 = .ok (.iload_n 2, 1) := by decide +kernel
theorem dX2_set_56 : decode cX2_set 56 = .ok (.iload 4, 2) := by decide +kernel
theorem dX2_set_58 : decode cX2_set 58 = .ok (.iastore, 1) := by decide +kernel
theorem dX2_set_59 : decode cX2_set 59 = .ok (.iconst 0, 1) := by decide +kernel
theorem dX2_set_60 : decode cX2_set 60 = .ok (.ireturn, 1) := by decide +kernel
set_option maxRecDepth 20000 in
theorem ggX2_part_X2_rowAt : GoodIn wsX2_part wsX2_rowAt := goodIn_r _ [8, 9, 10, 21, 22, 23, 24, 25, 26] (by decide +kernel) (by decide +kernel)
set_option maxRecDepth 20000 in
theorem gX2_part_X2_rowAt : GoodIn wsX2_part (wsV RX2 39 RX2 yX2_rowAt wsX2_rowAt) := goodIn_app (goodIn_of _ (by decide +kernel)) ggX2_part_X2_rowAt
set_option maxRecDepth 20000 in
theorem ggX2_part_X0_has : GoodIn wsX2_part wsX0_has := goodIn_r _ [15, 16, 17, 18, 19, 20] (by decide +kernel) (by decide +kernel)
set_option maxRecDepth 20000 in
theorem gX2_part_X0_has : GoodIn wsX2_part (wsV RX2 58 RX0 yX0_has wsX0_has) := goodIn_app (goodIn_of _ (by decide +kernel)) ggX2_part_X0_has
theorem dX2_part_0 : decode cX2_part 0 = .ok (.aload_n 0, 1) := by decide +kernel
theorem dX2_part_1 : decode cX2_part 1 = .ok (.iload_n 1, 1) := by decide +kernel
theorem dX2_part_2 : decode cX2_part 2 = .ok (.invokevirtual 39, 3) := by decide +kernel
theorem dX2_part_5 : decode cX2_part 5 = .ok (.astore 4, 2) := by decide +kernel
theorem dX2_part_7 : decode cX2_part 7 = .ok (.aload 4, 2) := by decide +kernel
theorem dX2_part_9 : decode cX2_part 9 = .ok (.ifnull 12, 3) := by decide +kernel
theorem dX2_part_12 : decode cX2_part 12 = .ok (.aload 4, 2) := by decide +kernel
theorem dX2_part_14 : decode cX2_part 14 = .ok (.iload_n 2, 1) := by decide +kernel
theorem dX2_part_15 : decode cX2_part 15 = .ok (.invokevirtual 58, 3) := by decide +kernel
theorem dX2_part_18 : decode cX2_part 18 = .ok (.ifCond .ne 6, 3) := by decide +kernel
theorem dX2_part_21 : decode cX2_part 21 = .ok (.bipush (-100), 2) := by decide +kernel
theorem dX2_part_23 : decode cX2_part 23 = .ok (.ireturn, 1) := by decide +kernel
theorem dX2_part_24 : decode cX2_part 24 = .ok (.iload_n 3, 1) := by decide +kernel
theorem dX2_part_25 : decode cX2_part 25 = .ok (.tableswitch 51 0 2 #[27, 35, 43], 27) := by decide +kernel
theorem dX2_part_52 : decode cX2_part 52 = .ok (.aload 4, 2) := by decide +kernel
theorem dX2_part_54 : decode cX2_part 54 = .ok (.getfield 61, 3) := by decide +kernel
theorem dX2_part_57 : decode cX2_part 57 = .ok (.iload_n 2, 1) := by decide +kernel
theorem dX2_part_58 : decode cX2_part 58 = .ok (.iaload, 1) := by decide +kernel
theorem dX2_part_59 : decode cX2_part 59 = .ok (.ireturn, 1) := by decide +kernel
theorem dX2_part_60 : decode cX2_part 60 = .ok (.aload 4, 2) := by decide +kernel
theorem dX2_part_62 : decode cX2_part 62 = .ok (.getfield 68, 3) := by decide +kernel
theorem dX2_part_65 : decode cX2_part 65 = .ok (.iload_n 2, 1) := by decide +kernel
theorem dX2_part_66 : decode cX2_part 66 = .ok (.iaload, 1) := by decide +kernel
theorem dX2_part_67 : decode cX2_part 67 = .ok (.ireturn, 1) := by decide +kernel
theorem dX2_part_68 : decode cX2_part 68 = .ok (.aload 4, 2) := by decide +kernel
theorem dX2_part_70 : decode cX2_part 70 = .ok (.getfield 71, 3) := by decide +kernel
theorem dX2_part_73 : decode cX2_part 73 = .ok (.iload_n 2, 1) := by decide +kernel
theorem dX2_part_74 : decode cX2_part 74 = .ok (.iaload, 1) := by decide +kernel
theorem dX2_part_75 : decode cX2_part 75 = .ok (.ireturn, 1) := by decide +kernel
theorem dX2_part_76 : decode cX2_part 76 = .ok (.bipush (-100), 2) := by decide +kernel
theorem dX2_part_78 : decode cX2_part 78 = .ok (.ireturn, 1) := by decide +kernel
set_option maxRecDepth 20000 in
theorem ggX2_turn_X2_rowAt : GoodIn wsX2_turn wsX2_rowAt := goodIn_r _ [6, 7, 8, 26, 27, 28, 29, 30, 31] (by decide +kernel) (by decide +kernel)
set_option maxRecDepth 20000 in
theorem gX2_turn_X2_rowAt : GoodIn wsX2_turn (wsV RX2 39 RX2 yX2_rowAt wsX2_rowAt) := goodIn_app (goodIn_of _ (by decide +kernel)) ggX2_turn_X2_rowAt
set_option maxRecDepth 20000 in
theorem ggX2_turn_X0_reverse : GoodIn wsX2_turn wsX0_reverse := goodIn_r _ [13, 14, 15, 16, 17, 18, 19, 20, 12, 21, 22, 23, 24, 25] (by decide +kernel) (by decide +kernel)
set_option maxRecDepth 20000 in
theorem gX2_turn_X0_reverse : GoodIn wsX2_turn (wsV RX2 74 RX0 yX0_reverse wsX0_reverse) := goodIn_app (goodIn_of _ (by decide +kernel)) ggX2_turn_X0_reverse
theorem dX2_turn_0 : decode cX2_turn 0 = .ok (.aload_n 0, 1) := by decide +kernel
theorem dX2_turn_1 : decode cX2_turn 1 = .ok (.iload_n 1, 1) := by decide +kernel
theorem dX2_turn_2 : decode cX2_turn 2 = .ok (.invokevirtual 39, 3) := by decide +kernel
theorem dX2_turn_5 : decode cX2_turn 5 = .ok (.astore_n 2, 1) := by decide +kernel
theorem dX2_turn_6 : decode cX2_turn 6 = .ok (.aload_n 2, 1) := by decide +kernel
theorem dX2_turn_7 : decode cX2_turn 7 = .ok (.ifnonnull 5, 3) := by decide +kernel
theorem dX2_turn_10 : decode cX2_turn 10 = .ok (.iconst (-1), 1) := by decide +kernel
theorem dX2_turn_11 : decode cX2_turn 11 = .ok (.ireturn, 1) := by decide +kernel
theorem dX2_turn_12 : decode cX2_turn 12 = .ok (.aload_n 2, 1) := by decide +kernel
theorem dX2_turn_13 : decode cX2_turn 13 = .ok (.invokevirtual 74, 3) := by decide +kernel
theorem dX2_turn_16 : decode cX2_turn 16 = .ok (.aload_n 2, 1) := by decide +kernel
theorem dX2_turn_17 : decode cX2_turn 17 = .ok (.getfield 43, 3) := by decide +kernel
theorem dX2_turn_20 : decode cX2_turn 20 = .ok (.ireturn, 1) := by decide +kernel
set_option maxRecDepth 20000 in
theorem ggX2_join_X2_rowAt : GoodIn wsX2_join wsX2_rowAt := goodIn_r _ [6, 7, 8, 34, 35, 36, 37, 38, 39] (by decide +kernel) (by decide +kernel)
set_option maxRecDepth 20000 in
theorem gX2_join_X2_rowAt : GoodIn wsX2_join (wsV RX2 39 RX2 yX2_rowAt wsX2_rowAt) := goodIn_app (goodIn_of _ (by decide +kernel)) ggX2_join_X2_rowAt
set_option maxRecDepth 20000 in
theorem ggX2_join_X0_bending : GoodIn wsX2_join wsX0_bending := goodIn_r _ [13, 14, 15, 30, 31, 32, 33] (by decide +kernel) (by decide +kernel)
set_option maxRecDepth 20000 in
theorem gX2_join_X0_bending : GoodIn wsX2_join (wsV RX2 77 RX0 yX0_bending wsX0_bending) := goodIn_app (goodIn_of _ (by decide +kernel)) ggX2_join_X0_bending
set_option maxRecDepth 20000 in
theorem ggX2_join_X0_tilts : GoodIn wsX2_join wsX0_tilts := goodIn_r _ [19, 14, 15, 30, 31, 32, 33] (by decide +kernel) (by decide +kernel)
set_option maxRecDepth 20000 in
theorem gX2_join_X0_tilts : GoodIn wsX2_join (wsV RX2 81 RX0 yX0_tilts wsX0_tilts) := goodIn_app (goodIn_of _ (by decide +kernel)) ggX2_join_X0_tilts
set_option maxRecDepth 20000 in
theorem ggX2_join_X0_append : GoodIn wsX2_join wsX0_append := goodIn_r _ [23, 14, 15, 24, 25, 26, 27, 28, 12, 29, 30, 31, 32, 33] (by decide +kernel) (by decide +kernel)
set_option maxRecDepth 20000 in
theorem gX2_join_X0_append : GoodIn wsX2_join (wsV RX2 84 RX0 yX0_append wsX0_append) := goodIn_app (goodIn_of _ (by decide +kernel)) ggX2_join_X0_append
theorem dX2_join_0 : decode cX2_join 0 = .ok (.aload_n 0, 1) := by decide +kernel
theorem dX2_join_1 : decode cX2_join 1 = .ok (.iload_n 1, 1) := by decide +kernel
theorem dX2_join_2 : decode cX2_join 2 = .ok (.invokevirtual 39, 3) := by decide +kernel
theorem dX2_join_5 : decode cX2_join 5 = .ok (.astore_n 3, 1) := by decide +kernel
theorem dX2_join_6 : decode cX2_join 6 = .ok (.aload_n 0, 1) := by decide +kernel
theorem dX2_join_7 : decode cX2_join 7 = .ok (.iload_n 2, 1) := by decide +kernel
theorem dX2_join_8 : decode cX2_join 8 = .ok (.invokevirtual 39, 3) := by decide +kernel
theorem dX2_join_11 : decode cX2_join 11 = .ok (.astore 4, 2) := by decide +kernel
theorem dX2_join_13 : decode cX2_join 13 = .ok (.aload_n 3, 1) := by decide +kernel
theorem dX2_join_14 : decode cX2_join 14 = .ok (.ifnull 8, 3) := by decide +kernel
theorem dX2_join_17 : decode cX2_join 17 = .ok (.aload 4, 2) := by decide +kernel
theorem dX2_join_19 : decode cX2_join 19 = .ok (.ifnonnull 5, 3) := by decide +kernel
theorem dX2_join_22 : decode cX2_join 22 = .ok (.iconst (-1), 1) := by decide +kernel
theorem dX2_join_23 : decode cX2_join 23 = .ok (.ireturn, 1) := by decide +kernel
theorem dX2_join_24 : decode cX2_join 24 = .ok (.aload_n 3, 1) := by decide +kernel
theorem dX2_join_25 : decode cX2_join 25 = .ok (.getfield 43, 3) := by decide +kernel
theorem dX2_join_28 : decode cX2_join 28 = .ok (.aload 4, 2) := by decide +kernel
theorem dX2_join_30 : decode cX2_join 30 = .ok (.getfield 43, 3) := by decide +kernel
theorem dX2_join_33 : decode cX2_join 33 = .ok (.iadd, 1) := by decide +kernel
theorem dX2_join_34 : decode cX2_join 34 = .ok (.bipush 8, 2) := by decide +kernel
theorem dX2_join_36 : decode cX2_join 36 = .ok (.if_icmp .gt 31, 3) := by decide +kernel
theorem dX2_join_39 : decode cX2_join 39 = .ok (.aload_n 3, 1) := by decide +kernel
theorem dX2_join_40 : decode cX2_join 40 = .ok (.invokevirtual 77, 3) := by decide +kernel
theorem dX2_join_43 : decode cX2_join 43 = .ok (.aload 4, 2) := by decide +kernel
theorem dX2_join_45 : decode cX2_join 45 = .ok (.invokevirtual 77, 3) := by decide +kernel
theorem dX2_join_48 : decode cX2_join 48 = .ok (.iadd, 1) := by decide +kernel
theorem dX2_join_49 : decode cX2_join 49 = .ok (.iconst 3, 1) := by decide +kernel
theorem dX2_join_50 : decode cX2_join 50 = .ok (.if_icmp .gt 17, 3) := by decide +kernel
theorem dX2_join_53 : decode cX2_join 53 = .ok (.aload_n 3, 1) := by decide +kernel
theorem dX2_join_54 : decode cX2_join 54 = .ok (.invokevirtual 81, 3) := by decide +kernel
theorem dX2_join_57 : decode cX2_join 57 = .ok (.aload 4, 2) := by decide +kernel
theorem dX2_join_59 : decode cX2_join 59 = .ok (.invokevirtual 81, 3) := by decide +kernel
theorem dX2_join_62 : decode cX2_join 62 = .ok (.iadd, 1) := by decide +kernel
theorem dX2_join_63 : decode cX2_join 63 = .ok (.iconst 2, 1) := by decide +kernel
theorem dX2_join_64 : decode cX2_join 64 = .ok (.if_icmp .le 6, 3) := by decide +kernel
theorem dX2_join_67 : decode cX2_join 67 = .ok (.bipush (-4), 2) := by decide +kernel
theorem dX2_join_69 : decode cX2_join 69 = .ok (.ireturn, 1) := by decide +kernel
theorem dX2_join_70 : decode cX2_join 70 = .ok (.aload_n 3, 1) := by decide +kernel
theorem dX2_join_71 : decode cX2_join 71 = .ok (.aload 4, 2) := by decide +kernel
theorem dX2_join_73 : decode cX2_join 73 = .ok (.invokevirtual 84, 3) := by decide +kernel
theorem dX2_join_76 : decode cX2_join 76 = .ok (.aload_n 3, 1) := by decide +kernel
theorem dX2_join_77 : decode cX2_join 77 = .ok (.getfield 43, 3) := by decide +kernel
theorem dX2_join_80 : decode cX2_join 80 = .ok (.ireturn, 1) := by decide +kernel
set_option maxRecDepth 20000 in
theorem ggX2_table_X2_rowAt : GoodIn wsX2_table wsX2_rowAt := goodIn_r _ [8, 9, 10, 76, 77, 78, 79, 80, 81] (by decide +kernel) (by decide +kernel)
set_option maxRecDepth 20000 in
theorem gX2_table_X2_rowAt : GoodIn wsX2_table (wsV RX2 39 RX2 yX2_rowAt wsX2_rowAt) := goodIn_app (goodIn_of _ (by decide +kernel)) ggX2_table_X2_rowAt
set_option maxRecDepth 20000 in
theorem ggX2_table_X2_isEither : GoodIn wsX2_table wsX2_isEither := goodIn_r _ [13] (by decide +kernel) (by decide +kernel)
set_option maxRecDepth 20000 in
theorem gX2_table_X2_isEither : GoodIn wsX2_table (va_wsS RX2 88 yX2_isEither wsX2_isEither) := goodIn_app (goodIn_of _ (by decide +kernel)) ggX2_table_X2_isEither
set_option maxRecDepth 20000 in
theorem ggX2_table_X1_leadThrough : GoodIn wsX2_table wsX1_leadThrough := goodIn_r _ [18, 19, 20, 21, 22, 17, 23, 24, 25, 26, 27, 28, 29, 30, 31, 32, 33, 34, 35, 36, 37, 38, 39, 40, 41, 42, 43, 44, 45, 46, 47, 48, 49, 50, 51, 52, 53, 54, 55, 56, 57, 58, 59, 60, 61, 89, 90, 91, 92, 82, 83, 84, 85, 86, 87, 88] (by decide +kernel) (by decide +kernel)
set_option maxRecDepth 20000 in
theorem gX2_table_X1_leadThrough : GoodIn wsX2_table (wsV RX2 93 RX1 yX1_leadThrough wsX1_leadThrough) := goodIn_app (goodIn_of _ (by decide +kernel)) ggX2_table_X1_leadThrough
set_option maxRecDepth 20000 in
theorem ggX2_table_X1_above : GoodIn wsX2_table wsX1_above := goodIn_r _ [65, 29, 30, 31, 32, 33, 34, 82, 83, 84, 85, 86, 87, 88] (by decide +kernel) (by decide +kernel)
set_option maxRecDepth 20000 in
theorem gX2_table_X1_above : GoodIn wsX2_table (wsV RX2 97 RX1 yX1_above wsX1_above) := goodIn_app (goodIn_of _ (by decide +kernel)) ggX2_table_X1_above
set_option maxRecDepth 20000 in
theorem ggX2_table_X2_told : GoodIn wsX2_table wsX2_told := goodIn_r _ [68, 69, 70, 71, 72, 1, 73, 74, 7, 75] (by decide +kernel) (by decide +kernel)
set_option maxRecDepth 20000 in
theorem gX2_table_X2_told : GoodIn wsX2_table (va_wsS RX2 105 yX2_told wsX2_told) := goodIn_app (goodIn_of _ (by decide +kernel)) ggX2_table_X2_told
theorem dX2_table_0 : decode cX2_table 0 = .ok (.aload_n 0, 1) := by decide +kernel
theorem dX2_table_1 : decode cX2_table 1 = .ok (.iload_n 1, 1) := by decide +kernel
theorem dX2_table_2 : decode cX2_table 2 = .ok (.invokevirtual 39, 3) := by decide +kernel
theorem dX2_table_5 : decode cX2_table 5 = .ok (.astore 5, 2) := by decide +kernel
theorem dX2_table_7 : decode cX2_table 7 = .ok (.aload 5, 2) := by decide +kernel
theorem dX2_table_9 : decode cX2_table 9 = .ok (.ifnull 27, 3) := by decide +kernel
theorem dX2_table_12 : decode cX2_table 12 = .ok (.iload_n 2, 1) := by decide +kernel
theorem dX2_table_13 : decode cX2_table 13 = .ok (.invokestatic 88, 3) := by decide +kernel
theorem dX2_table_16 : decode cX2_table 16 = .ok (.ifCond .eq 20, 3) := by decide +kernel
theorem dX2_table_19 : decode cX2_table 19 = .ok (.iload 4, 2) := by decide +kernel
theorem dX2_table_21 : decode cX2_table 21 = .ok (.invokestatic 88, 3) := by decide +kernel
theorem dX2_table_24 : decode cX2_table 24 = .ok (.ifCond .eq 12, 3) := by decide +kernel
theorem dX2_table_27 : decode cX2_table 27 = .ok (.iload_n 3, 1) := by decide +kernel
theorem dX2_table_28 : decode cX2_table 28 = .ok (.ifCond .lt 8, 3) := by decide +kernel
theorem dX2_table_31 : decode cX2_table 31 = .ok (.iload_n 3, 1) := by decide +kernel
theorem dX2_table_32 : decode cX2_table 32 = .ok (.iconst 5, 1) := by decide +kernel
theorem dX2_table_33 : decode cX2_table 33 = .ok (.if_icmp .le 7, 3) := by decide +kernel
theorem dX2_table_36 : decode cX2_table 36 = .ok (.ldc2_w 91, 3) := by decide +kernel
theorem dX2_table_39 : decode cX2_table 39 = .ok (.lreturn, 1) := by decide +kernel
theorem dX2_table_40 : decode cX2_table 40 = .ok (.aload_n 0, 1) := by decide +kernel
theorem dX2_table_41 : decode cX2_table 41 = .ok (.getfield 31, 3) := by decide +kernel
theorem dX2_table_44 : decode cX2_table 44 = .ok (.aload 5, 2) := by decide +kernel
theorem dX2_table_46 : decode cX2_table 46 = .ok (.iload_n 2, 1) := by decide +kernel
theorem dX2_table_47 : decode cX2_table 47 = .ok (.invokevirtual 93, 3) := by decide +kernel
theorem dX2_table_50 : decode cX2_table 50 = .ok (.aload_n 0, 1) := by decide +kernel
theorem dX2_table_51 : decode cX2_table 51 = .ok (.getfield 31, 3) := by decide +kernel
theorem dX2_table_54 : decode cX2_table 54 = .ok (.iload_n 3, 1) := by decide +kernel
theorem dX2_table_55 : decode cX2_table 55 = .ok (.invokevirtual 97, 3) := by decide +kernel
theorem dX2_table_58 : decode cX2_table 58 = .ok (.aload_n 0, 1) := by decide +kernel
theorem dX2_table_59 : decode cX2_table 59 = .ok (.getfield 31, 3) := by decide +kernel
theorem dX2_table_62 : decode cX2_table 62 = .ok (.getfield 101, 3) := by decide +kernel
theorem dX2_table_65 : decode cX2_table 65 = .ok (.iload 4, 2) := by decide +kernel
theorem dX2_table_67 : decode cX2_table 67 = .ok (.invokestatic 105, 3) := by decide +kernel
theorem dX2_table_70 : decode cX2_table 70 = .ok (.lreturn, 1) := by decide +kernel
set_option maxRecDepth 20000 in
theorem ggX2_ray_X2_rowAt : GoodIn wsX2_ray wsX2_rowAt := goodIn_r _ [9, 10, 11, 84, 85, 86, 87, 88, 89] (by decide +kernel) (by decide +kernel)
set_option maxRecDepth 20000 in
theorem gX2_ray_X2_rowAt : GoodIn wsX2_ray (wsV RX2 39 RX2 yX2_rowAt wsX2_rowAt) := goodIn_app (goodIn_of _ (by decide +kernel)) ggX2_ray_X2_rowAt
set_option maxRecDepth 20000 in
theorem ggX2_ray_X2_isEither : GoodIn wsX2_ray wsX2_isEither := goodIn_r _ [14] (by decide +kernel) (by decide +kernel)
set_option maxRecDepth 20000 in
theorem gX2_ray_X2_isEither : GoodIn wsX2_ray (va_wsS RX2 88 yX2_isEither wsX2_isEither) := goodIn_app (goodIn_of _ (by decide +kernel)) ggX2_ray_X2_isEither
set_option maxRecDepth 20000 in
theorem ggX2_ray_X2_isNear : GoodIn wsX2_ray wsX2_isNear := goodIn_r _ [17] (by decide +kernel) (by decide +kernel)
set_option maxRecDepth 20000 in
theorem gX2_ray_X2_isNear : GoodIn wsX2_ray (va_wsS RX2 109 yX2_isNear wsX2_isNear) := goodIn_app (goodIn_of _ (by decide +kernel)) ggX2_ray_X2_isNear
set_option maxRecDepth 20000 in
theorem ggX2_ray_X1_lead : GoodIn wsX2_ray wsX1_lead := goodIn_r _ [22, 23, 24, 25, 26, 27, 21, 28, 29, 30, 31, 32, 33, 34, 35, 36, 37, 38, 39, 40, 41, 42, 43, 44, 45, 46, 47, 48, 49, 50, 51, 52, 53, 54, 55, 56, 57, 58, 59, 60, 61, 80, 81, 82, 83, 90, 91, 92, 93, 94, 95, 96] (by decide +kernel) (by decide +kernel)
set_option maxRecDepth 20000 in
theorem gX2_ray_X1_lead : GoodIn wsX2_ray (wsV RX2 112 RX1 yX1_lead wsX1_lead) := goodIn_app (goodIn_of _ (by decide +kernel)) ggX2_ray_X1_lead
set_option maxRecDepth 20000 in
theorem ggX2_ray_X1_farAbove : GoodIn wsX2_ray wsX1_farAbove := goodIn_r _ [65, 29, 30, 33, 90, 91, 92, 93, 94, 95, 96] (by decide +kernel) (by decide +kernel)
set_option maxRecDepth 20000 in
theorem gX2_ray_X1_farAbove : GoodIn wsX2_ray (wsV RX2 116 RX1 yX1_farAbove wsX1_farAbove) := goodIn_app (goodIn_of _ (by decide +kernel)) ggX2_ray_X1_farAbove
set_option maxRecDepth 20000 in
theorem ggX2_ray_X1_leanAbove : GoodIn wsX2_ray wsX1_leanAbove := goodIn_r _ [69, 31, 32, 34, 90, 91, 92, 93, 94, 95, 96] (by decide +kernel) (by decide +kernel)
set_option maxRecDepth 20000 in
theorem gX2_ray_X1_leanAbove : GoodIn wsX2_ray (wsV RX2 120 RX1 yX1_leanAbove wsX1_leanAbove) := goodIn_app (goodIn_of _ (by decide +kernel)) ggX2_ray_X1_leanAbove
set_option maxRecDepth 20000 in
theorem ggX2_ray_X2_told : GoodIn wsX2_ray wsX2_told := goodIn_r _ [72, 73, 74, 75, 76, 1, 77, 78, 8, 79] (by decide +kernel) (by decide +kernel)
set_option maxRecDepth 20000 in
theorem gX2_ray_X2_told : GoodIn wsX2_ray (va_wsS RX2 105 yX2_told wsX2_told) := goodIn_app (goodIn_of _ (by decide +kernel)) ggX2_ray_X2_told
theorem dX2_ray_0 : decode cX2_ray 0 = .ok (.aload_n 0, 1) := by decide +kernel
theorem dX2_ray_1 : decode cX2_ray 1 = .ok (.iload_n 1, 1) := by decide +kernel
theorem dX2_ray_2 : decode cX2_ray 2 = .ok (.invokevirtual 39, 3) := by decide +kernel
theorem dX2_ray_5 : decode cX2_ray 5 = .ok (.astore 8, 2) := by decide +kernel
theorem dX2_ray_7 : decode cX2_ray 7 = .ok (.aload 8, 2) := by decide +kernel
theorem dX2_ray_9 : decode cX2_ray 9 = .ok (.ifnull 26, 3) := by decide +kernel
theorem dX2_ray_12 : decode cX2_ray 12 = .ok (.iload_n 2, 1) := by decide +kernel
theorem dX2_ray_13 : decode cX2_ray 13 = .ok (.invokestatic 88, 3) := by decide +kernel
theorem dX2_ray_16 : decode cX2_ray 16 = .ok (.ifCond .eq 19, 3) := by decide +kernel
theorem dX2_ray_19 : decode cX2_ray 19 = .ok (.iload 6, 2) := by decide +kernel
theorem dX2_ray_21 : decode cX2_ray 21 = .ok (.invokestatic 88, 3) := by decide +kernel
theorem dX2_ray_24 : decode cX2_ray 24 = .ok (.ifCond .eq 11, 3) := by decide +kernel
theorem dX2_ray_27 : decode cX2_ray 27 = .ok (.iload 7, 2) := by decide +kernel
theorem dX2_ray_29 : decode cX2_ray 29 = .ok (.invokestatic 88, 3) := by decide +kernel
theorem dX2_ray_32 : decode cX2_ray 32 = .ok (.ifCond .ne 7, 3) := by decide +kernel
theorem dX2_ray_35 : decode cX2_ray 35 = .ok (.ldc2_w 91, 3) := by decide +kernel
theorem dX2_ray_38 : decode cX2_ray 38 = .ok (.lreturn, 1) := by decide +kernel
theorem dX2_ray_39 : decode cX2_ray 39 = .ok (.iload_n 3, 1) := by decide +kernel
theorem dX2_ray_40 : decode cX2_ray 40 = .ok (.invokestatic 109, 3) := by decide +kernel
theorem dX2_ray_43 : decode cX2_ray 43 = .ok (.ifCond .eq 26, 3) := by decide +kernel
theorem dX2_ray_46 : decode cX2_ray 46 = .ok (.iload 4, 2) := by decide +kernel
theorem dX2_ray_48 : decode cX2_ray 48 = .ok (.invokestatic 109, 3) := by decide +kernel
theorem dX2_ray_51 : decode cX2_ray 51 = .ok (.ifCond .eq 18, 3) := by decide +kernel
theorem dX2_ray_54 : decode cX2_ray 54 = .ok (.iload 5, 2) := by decide +kernel
theorem dX2_ray_56 : decode cX2_ray 56 = .ok (.ifCond .lt 13, 3) := by decide +kernel
theorem dX2_ray_59 : decode cX2_ray 59 = .ok (.iload 5, 2) := by decide +kernel
theorem dX2_ray_61 : decode cX2_ray 61 = .ok (.aload 8, 2) := by decide +kernel
theorem dX2_ray_63 : decode cX2_ray 63 = .ok (.getfield 43, 3) := by decide +kernel
theorem dX2_ray_66 : decode cX2_ray 66 = .ok (.if_icmp .le 7, 3) := by decide +kernel
theorem dX2_ray_69 : decode cX2_ray 69 = .ok (.ldc2_w 91, 3) := by decide +kernel
theorem dX2_ray_72 : decode cX2_ray 72 = .ok (.lreturn, 1) := by decide +kernel
theorem dX2_ray_73 : decode cX2_ray 73 = .ok (.aload_n 0, 1) := by decide +kernel
theorem dX2_ray_74 : decode cX2_ray 74 = .ok (.getfield 31, 3) := by decide +kernel
theorem dX2_ray_77 : decode cX2_ray 77 = .ok (.aload 8, 2) := by decide +kernel
theorem dX2_ray_79 : decode cX2_ray 79 = .ok (.iload_n 2, 1) := by decide +kernel
theorem dX2_ray_80 : decode cX2_ray 80 = .ok (.iconst 0, 1) := by decide +kernel
theorem dX2_ray_81 : decode cX2_ray 81 = .ok (.iload 5, 2) := by decide +kernel
theorem dX2_ray_83 : decode cX2_ray 83 = .ok (.invokevirtual 112, 3) := by decide +kernel
theorem dX2_ray_86 : decode cX2_ray 86 = .ok (.iload 6, 2) := by decide +kernel
theorem dX2_ray_88 : decode cX2_ray 88 = .ok (.ifCond .ne 18, 3) := by decide +kernel
theorem dX2_ray_91 : decode cX2_ray 91 = .ok (.aload_n 0, 1) := by decide +kernel
theorem dX2_ray_92 : decode cX2_ray 92 = .ok (.getfield 31, 3) := by decide +kernel
theorem dX2_ray_95 : decode cX2_ray 95 = .ok (.iload_n 3, 1) := by decide +kernel
theorem dX2_ray_96 : decode cX2_ray 96 = .ok (.i2l, 1) := by decide +kernel
theorem dX2_ray_97 : decode cX2_ray 97 = .ok (.iload 4, 2) := by decide +kernel
theorem dX2_ray_99 : decode cX2_ray 99 = .ok (.i2l, 1) := by decide +kernel
theorem dX2_ray_100 : decode cX2_ray 100 = .ok (.invokevirtual 116, 3) := by decide +kernel
theorem dX2_ray_103 : decode cX2_ray 103 = .ok (.goto 15, 3) := by decide +kernel
theorem dX2_ray_106 : decode cX2_ray 106 = .ok (.aload_n 0, 1) := by decide +kernel
theorem dX2_ray_107 : decode cX2_ray 107 = .ok (.getfield 31, 3) := by decide +kernel
theorem dX2_ray_110 : decode cX2_ray 110 = .ok (.iload_n 3, 1) := by decide +kernel
theorem dX2_ray_111 : decode cX2_ray 111 = .ok (.i2l, 1) := by decide +kernel
theorem dX2_ray_112 : decode cX2_ray 112 = .ok (.iload 4, 2) := by decide +kernel
theorem dX2_ray_114 : decode cX2_ray 114 = .ok (.i2l, 1) := by decide +kernel
theorem dX2_ray_115 : decode cX2_ray 115 = .ok (.invokevirtual 120, 3) := by decide +kernel
theorem dX2_ray_118 : decode cX2_ray 118 = .ok (.lstore 9, 2) := by decide +kernel
theorem dX2_ray_120 : decode cX2_ray 120 = .ok (.lload 9, 2) := by decide +kernel
theorem dX2_ray_122 : decode cX2_ray 122 = .ok (.aload_n 0, 1) := by decide +kernel
theorem dX2_ray_123 : decode cX2_ray 123 = .ok (.getfield 31, 3) := by decide +kernel
theorem dX2_ray_126 : decode cX2_ray 126 = .ok (.getfield 101, 3) := by decide +kernel
theorem dX2_ray_129 : decode cX2_ray 129 = .ok (.iload 7, 2) := by decide +kernel
theorem dX2_ray_131 : decode cX2_ray 131 = .ok (.invokestatic 105, 3) := by decide +kernel
theorem dX2_ray_134 : decode cX2_ray 134 = .ok (.lreturn, 1) := by decide +kernel
set_option maxRecDepth 20000 in
theorem ggX2_stops_X2_rowAt : GoodIn wsX2_stops wsX2_rowAt := goodIn_r _ [14, 15, 16, 60, 61, 62, 63, 64, 65] (by decide +kernel) (by decide +kernel)
set_option maxRecDepth 20000 in
theorem gX2_stops_X2_rowAt : GoodIn wsX2_stops (wsV RX2 39 RX2 yX2_rowAt wsX2_rowAt) := goodIn_app (goodIn_of _ (by decide +kernel)) ggX2_stops_X2_rowAt
set_option maxRecDepth 20000 in
theorem ggX2_stops_X2_isEither : GoodIn wsX2_stops wsX2_isEither := goodIn_r _ [19] (by decide +kernel) (by decide +kernel)
set_option maxRecDepth 20000 in
theorem gX2_stops_X2_isEither : GoodIn wsX2_stops (va_wsS RX2 88 yX2_isEither wsX2_isEither) := goodIn_app (goodIn_of _ (by decide +kernel)) ggX2_stops_X2_isEither
set_option maxRecDepth 20000 in
theorem ggX2_stops_X2_isNear : GoodIn wsX2_stops wsX2_isNear := goodIn_r _ [22] (by decide +kernel) (by decide +kernel)
set_option maxRecDepth 20000 in
theorem gX2_stops_X2_isNear : GoodIn wsX2_stops (va_wsS RX2 109 yX2_isNear wsX2_isNear) := goodIn_app (goodIn_of _ (by decide +kernel)) ggX2_stops_X2_isNear
set_option maxRecDepth 20000 in
theorem ggX2_stops_X1_clear : GoodIn wsX2_stops wsX1_clear := goodIn_r _ [27, 28, 29, 30, 31, 32, 33, 34, 70, 71, 72, 73, 74, 75, 76] (by decide +kernel) (by decide +kernel)
set_option maxRecDepth 20000 in
theorem gX2_stops_X1_clear : GoodIn wsX2_stops (wsV RX2 123 RX1 yX1_clear wsX1_clear) := goodIn_app (goodIn_of _ (by decide +kernel)) ggX2_stops_X1_clear
set_option maxRecDepth 20000 in
theorem ggX2_stops_X0_strength : GoodIn wsX2_stops wsX0_strength := goodIn_r _ [39, 40, 41, 42, 66, 67, 68, 69] (by decide +kernel) (by decide +kernel)
set_option maxRecDepth 20000 in
theorem gX2_stops_X0_strength : GoodIn wsX2_stops (wsV RX2 126 RX0 yX0_strength wsX0_strength) := goodIn_app (goodIn_of _ (by decide +kernel)) ggX2_stops_X0_strength
set_option maxRecDepth 20000 in
theorem ggX2_stops_X1_go : GoodIn wsX2_stops wsX1_go := goodIn_r _ [46, 33, 34, 47, 48, 49, 26, 50, 28, 30, 29, 31, 32, 51, 52, 53, 54, 55, 70, 71, 72, 73, 74, 75, 76] (by decide +kernel) (by decide +kernel)
set_option maxRecDepth 20000 in
theorem gX2_stops_X1_go : GoodIn wsX2_stops (wsV RX2 130 RX1 yX1_go wsX1_go) := goodIn_app (goodIn_of _ (by decide +kernel)) ggX2_stops_X1_go
set_option maxRecDepth 20000 in
theorem ggX2_stops_X1_farAbove : GoodIn wsX2_stops wsX1_farAbove := goodIn_r _ [59, 28, 29, 32, 70, 71, 72, 73, 74, 75, 76] (by decide +kernel) (by decide +kernel)
set_option maxRecDepth 20000 in
theorem gX2_stops_X1_farAbove : GoodIn wsX2_stops (wsV RX2 116 RX1 yX1_farAbove wsX1_farAbove) := goodIn_app (goodIn_of _ (by decide +kernel)) ggX2_stops_X1_farAbove
theorem dX2_stops_0 : decode cX2_stops 0 = .ok (.aload_n 0, 1) := by decide +kernel
theorem dX2_stops_1 : decode cX2_stops 1 = .ok (.iload_n 1, 1) := by decide +kernel
theorem dX2_stops_2 : decode cX2_stops 2 = .ok (.invokevirtual 39, 3) := by decide +kernel
theorem dX2_stops_5 : decode cX2_stops 5 = .ok (.astore 5, 2) := by decide +kernel
theorem dX2_stops_7 : decode cX2_stops 7 = .ok (.aload 5, 2) := by decide +kernel
theorem dX2_stops_9 : decode cX2_stops 9 = .ok (.ifnull 25, 3) := by decide +kernel
theorem dX2_stops_12 : decode cX2_stops 12 = .ok (.iload_n 2, 1) := by decide +kernel
theorem dX2_stops_13 : decode cX2_stops 13 = .ok (.invokestatic 88, 3) := by decide +kernel
theorem dX2_stops_16 : decode cX2_stops 16 = .ok (.ifCond .eq 18, 3) := by decide +kernel
theorem dX2_stops_19 : decode cX2_stops 19 = .ok (.iload_n 3, 1) := by decide +kernel
theorem dX2_stops_20 : decode cX2_stops 20 = .ok (.invokestatic 109, 3) := by decide +kernel
theorem dX2_stops_23 : decode cX2_stops 23 = .ok (.ifCond .eq 11, 3) := by decide +kernel
theorem dX2_stops_26 : decode cX2_stops 26 = .ok (.iload 4, 2) := by decide +kernel
theorem dX2_stops_28 : decode cX2_stops 28 = .ok (.invokestatic 109, 3) := by decide +kernel
theorem dX2_stops_31 : decode cX2_stops 31 = .ok (.ifCond .ne 5, 3) := by decide +kernel
theorem dX2_stops_34 : decode cX2_stops 34 = .ok (.iconst (-1), 1) := by decide +kernel
theorem dX2_stops_35 : decode cX2_stops 35 = .ok (.ireturn, 1) := by decide +kernel
theorem dX2_stops_36 : decode cX2_stops 36 = .ok (.aload_n 0, 1) := by decide +kernel
theorem dX2_stops_37 : decode cX2_stops 37 = .ok (.getfield 31, 3) := by decide +kernel
theorem dX2_stops_40 : decode cX2_stops 40 = .ok (.invokevirtual 123, 3) := by decide +kernel
theorem dX2_stops_43 : decode cX2_stops 43 = .ok (.iconst 0, 1) := by decide +kernel
theorem dX2_stops_44 : decode cX2_stops 44 = .ok (.istore 6, 2) := by decide +kernel
theorem dX2_stops_46 : decode cX2_stops 46 = .ok (.iload 6, 2) := by decide +kernel
theorem dX2_stops_48 : decode cX2_stops 48 = .ok (.aload 5, 2) := by decide +kernel
theorem dX2_stops_50 : decode cX2_stops 50 = .ok (.getfield 43, 3) := by decide +kernel
theorem dX2_stops_53 : decode cX2_stops 53 = .ok (.if_icmp .ge 83, 3) := by decide +kernel
theorem dX2_stops_56 : decode cX2_stops 56 = .ok (.aload_n 0, 1) := by decide +kernel
theorem dX2_stops_57 : decode cX2_stops 57 = .ok (.getfield 31, 3) := by decide +kernel
theorem dX2_stops_60 : decode cX2_stops 60 = .ok (.aload 5, 2) := by decide +kernel
theorem dX2_stops_62 : decode cX2_stops 62 = .ok (.getfield 61, 3) := by decide +kernel
theorem dX2_stops_65 : decode cX2_stops 65 = .ok (.iload 6, 2) := by decide +kernel
theorem dX2_stops_67 : decode cX2_stops 67 = .ok (.iaload, 1) := by decide +kernel
theorem dX2_stops_68 : decode cX2_stops 68 = .ok (.aload 5, 2) := by decide +kernel
theorem dX2_stops_70 : decode cX2_stops 70 = .ok (.iload 6, 2) := by decide +kernel
theorem dX2_stops_72 : decode cX2_stops 72 = .ok (.iload_n 2, 1) := by decide +kernel
theorem dX2_stops_73 : decode cX2_stops 73 = .ok (.invokevirtual 126, 3) := by decide +kernel
theorem dX2_stops_76 : decode cX2_stops 76 = .ok (.invokevirtual 130, 3) := by decide +kernel
theorem dX2_stops_79 : decode cX2_stops 79 = .ok (.aload 5, 2) := by decide +kernel
theorem dX2_stops_81 : decode cX2_stops 81 = .ok (.getfield 61, 3) := by decide +kernel
theorem dX2_stops_84 : decode cX2_stops 84 = .ok (.iload 6, 2) := by decide +kernel
theorem dX2_stops_86 : decode cX2_stops 86 = .ok (.iaload, 1) := by decide +kernel
theorem dX2_stops_87 : decode cX2_stops 87 = .ok (.iconst 4, 1) := by decide +kernel
theorem dX2_stops_88 : decode cX2_stops 88 = .ok (.if_icmp .ne 42, 3) := by decide +kernel
theorem dX2_stops_91 : decode cX2_stops 91 = .ok (.aload_n 0, 1) := by decide +kernel
theorem dX2_stops_92 : decode cX2_stops 92 = .ok (.getfield 31, 3) := by decide +kernel
theorem dX2_stops_95 : decode cX2_stops 95 = .ok (.iload_n 3, 1) := by decide +kernel
theorem dX2_stops_96 : decode cX2_stops 96 = .ok (.i2l, 1) := by decide +kernel
theorem dX2_stops_97 : decode cX2_stops 97 = .ok (.iload 4, 2) := by decide +kernel
theorem dX2_stops_99 : decode cX2_stops 99 = .ok (.i2l, 1) := by decide +kernel
theorem dX2_stops_100 : decode cX2_stops 100 = .ok (.invokevirtual 116, 3) := by decide +kernel
theorem dX2_stops_103 : decode cX2_stops 103 = .ok (.invokestatic 134, 3) := by decide +kernel
theorem dX2_stops_106 : decode cX2_stops 106 = .ok (.aload 5, 2) := by decide +kernel
theorem dX2_stops_108 : decode cX2_stops 108 = .ok (.getfield 68, 3) := by decide +kernel
theorem dX2_stops_111 : decode cX2_stops 111 = .ok (.iload 6, 2) := by decide +kernel
theorem dX2_stops_113 : decode cX2_stops 113 = .ok (.iaload, 1) := by decide +kernel
theorem dX2_stops_114 : decode cX2_stops 114 = .ok (.i2l, 1) := by decide +kernel
theorem dX2_stops_115 : decode cX2_stops 115 = .ok (.aload_n 0, 1) := by decide +kernel
theorem dX2_stops_116 : decode cX2_stops 116 = .ok (.getfield 31, 3) := by decide +kernel
theorem dX2_stops_119 : decode cX2_stops 119 = .ok (.getfield 101, 3) := by decide +kernel
theorem dX2_stops_122 : decode cX2_stops 122 = .ok (.lmul, 1) := by decide +kernel
theorem dX2_stops_123 : decode cX2_stops 123 = .ok (.lcmp, 1) := by decide +kernel
theorem dX2_stops_124 : decode cX2_stops 124 = .ok (.ifCond .le 6, 3) := by decide +kernel
theorem dX2_stops_127 : decode cX2_stops 127 = .ok (.iload 6, 2) := by decide +kernel
theorem dX2_stops_129 : decode cX2_stops 129 = .ok (.ireturn, 1) := by decide +kernel
theorem dX2_stops_130 : decode cX2_stops 130 = .ok (.iinc 6 1, 3) := by decide +kernel
theorem dX2_stops_133 : decode cX2_stops 133 = .ok (.goto (-87), 3) := by decide +kernel
theorem dX2_stops_136 : decode cX2_stops 136 = .ok (.iconst (-1), 1) := by decide +kernel
theorem dX2_stops_137 : decode cX2_stops 137 = .ok (.ireturn, 1) := by decide +kernel
set_option maxRecDepth 20000 in
theorem ggX2_full_X2_rowAt : GoodIn wsX2_full wsX2_rowAt := goodIn_r _ [14, 15, 16, 61, 62, 63, 64, 65, 66] (by decide +kernel) (by decide +kernel)
set_option maxRecDepth 20000 in
theorem gX2_full_X2_rowAt : GoodIn wsX2_full (wsV RX2 39 RX2 yX2_rowAt wsX2_rowAt) := goodIn_app (goodIn_of _ (by decide +kernel)) ggX2_full_X2_rowAt
set_option maxRecDepth 20000 in
theorem ggX2_full_X2_isEither : GoodIn wsX2_full wsX2_isEither := goodIn_r _ [19] (by decide +kernel) (by decide +kernel)
set_option maxRecDepth 20000 in
theorem gX2_full_X2_isEither : GoodIn wsX2_full (va_wsS RX2 88 yX2_isEither wsX2_isEither) := goodIn_app (goodIn_of _ (by decide +kernel)) ggX2_full_X2_isEither
set_option maxRecDepth 20000 in
theorem ggX2_full_X1_clear : GoodIn wsX2_full wsX1_clear := goodIn_r _ [24, 25, 26, 27, 28, 29, 30, 31, 71, 72, 73, 74, 75, 76, 77] (by decide +kernel) (by decide +kernel)
set_option maxRecDepth 20000 in
theorem gX2_full_X1_clear : GoodIn wsX2_full (wsV RX2 123 RX1 yX1_clear wsX1_clear) := goodIn_app (goodIn_of _ (by decide +kernel)) ggX2_full_X1_clear
set_option maxRecDepth 20000 in
theorem ggX2_full_X0_strength : GoodIn wsX2_full wsX0_strength := goodIn_r _ [36, 37, 38, 39, 67, 68, 69, 70] (by decide +kernel) (by decide +kernel)
set_option maxRecDepth 20000 in
theorem gX2_full_X0_strength : GoodIn wsX2_full (wsV RX2 126 RX0 yX0_strength wsX0_strength) := goodIn_app (goodIn_of _ (by decide +kernel)) ggX2_full_X0_strength
set_option maxRecDepth 20000 in
theorem ggX2_full_X1_go : GoodIn wsX2_full wsX1_go := goodIn_r _ [43, 30, 31, 44, 45, 46, 23, 47, 25, 27, 26, 28, 29, 48, 49, 50, 51, 52, 71, 72, 73, 74, 75, 76, 77] (by decide +kernel) (by decide +kernel)
set_option maxRecDepth 20000 in
theorem gX2_full_X1_go : GoodIn wsX2_full (wsV RX2 130 RX1 yX1_go wsX1_go) := goodIn_app (goodIn_of _ (by decide +kernel)) ggX2_full_X1_go
set_option maxRecDepth 20000 in
theorem ggX2_full_X1_steepestWithin : GoodIn wsX2_full wsX1_steepestWithin := goodIn_r _ [56, 31, 29, 57, 58, 8, 59, 52, 26, 60, 71, 72, 73, 74, 75, 76, 77] (by decide +kernel) (by decide +kernel)
set_option maxRecDepth 20000 in
theorem gX2_full_X1_steepestWithin : GoodIn wsX2_full (wsV RX2 142 RX1 yX1_steepestWithin wsX1_steepestWithin) := goodIn_app (goodIn_of _ (by decide +kernel)) ggX2_full_X1_steepestWithin
theorem dX2_full_0 : decode cX2_full 0 = .ok (.aload_n 0, 1) := by decide +kernel
theorem dX2_full_1 : decode cX2_full 1 = .ok (.iload_n 1, 1) := by decide +kernel
theorem dX2_full_2 : decode cX2_full 2 = .ok (.invokevirtual 39, 3) := by decide +kernel
theorem dX2_full_5 : decode cX2_full 5 = .ok (.astore_n 3, 1) := by decide +kernel
theorem dX2_full_6 : decode cX2_full 6 = .ok (.aload_n 3, 1) := by decide +kernel
theorem dX2_full_7 : decode cX2_full 7 = .ok (.ifnull 10, 3) := by decide +kernel
theorem dX2_full_10 : decode cX2_full 10 = .ok (.iload_n 2, 1) := by decide +kernel
theorem dX2_full_11 : decode cX2_full 11 = .ok (.invokestatic 88, 3) := by decide +kernel
theorem dX2_full_14 : decode cX2_full 14 = .ok (.ifCond .ne 5, 3) := by decide +kernel
theorem dX2_full_17 : decode cX2_full 17 = .ok (.iconst (-1), 1) := by decide +kernel
theorem dX2_full_18 : decode cX2_full 18 = .ok (.ireturn, 1) := by decide +kernel
theorem dX2_full_19 : decode cX2_full 19 = .ok (.ldc2_w 140, 3) := by decide +kernel
theorem dX2_full_22 : decode cX2_full 22 = .ok (.lstore 4, 2) := by decide +kernel
theorem dX2_full_24 : decode cX2_full 24 = .ok (.aload_n 0, 1) := by decide +kernel
theorem dX2_full_25 : decode cX2_full 25 = .ok (.getfield 31, 3) := by decide +kernel
theorem dX2_full_28 : decode cX2_full 28 = .ok (.invokevirtual 123, 3) := by decide +kernel
theorem dX2_full_31 : decode cX2_full 31 = .ok (.iconst 0, 1) := by decide +kernel
theorem dX2_full_32 : decode cX2_full 32 = .ok (.istore 6, 2) := by decide +kernel
theorem dX2_full_34 : decode cX2_full 34 = .ok (.iload 6, 2) := by decide +kernel
theorem dX2_full_36 : decode cX2_full 36 = .ok (.aload_n 3, 1) := by decide +kernel
theorem dX2_full_37 : decode cX2_full 37 = .ok (.getfield 43, 3) := by decide +kernel
theorem dX2_full_40 : decode cX2_full 40 = .ok (.if_icmp .ge 63, 3) := by decide +kernel
theorem dX2_full_43 : decode cX2_full 43 = .ok (.aload_n 0, 1) := by decide +kernel
theorem dX2_full_44 : decode cX2_full 44 = .ok (.getfield 31, 3) := by decide +kernel
theorem dX2_full_47 : decode cX2_full 47 = .ok (.aload_n 3, 1) := by decide +kernel
theorem dX2_full_48 : decode cX2_full 48 = .ok (.getfield 61, 3) := by decide +kernel
theorem dX2_full_51 : decode cX2_full 51 = .ok (.iload 6, 2) := by decide +kernel
theorem dX2_full_53 : decode cX2_full 53 = .ok (.iaload, 1) := by decide +kernel
theorem dX2_full_54 : decode cX2_full 54 = .ok (.aload_n 3, 1) := by decide +kernel
theorem dX2_full_55 : decode cX2_full 55 = .ok (.iload 6, 2) := by decide +kernel
theorem dX2_full_57 : decode cX2_full 57 = .ok (.iload_n 2, 1) := by decide +kernel
theorem dX2_full_58 : decode cX2_full 58 = .ok (.invokevirtual 126, 3) := by decide +kernel
theorem dX2_full_61 : decode cX2_full 61 = .ok (.invokevirtual 130, 3) := by decide +kernel
theorem dX2_full_64 : decode cX2_full 64 = .ok (.aload_n 3, 1) := by decide +kernel
theorem dX2_full_65 : decode cX2_full 65 = .ok (.getfield 61, 3) := by decide +kernel
theorem dX2_full_68 : decode cX2_full 68 = .ok (.iload 6, 2) := by decide +kernel
theorem dX2_full_70 : decode cX2_full 70 = .ok (.iaload, 1) := by decide +kernel
theorem dX2_full_71 : decode cX2_full 71 = .ok (.iconst 4, 1) := by decide +kernel
theorem dX2_full_72 : decode cX2_full 72 = .ok (.if_icmp .ne 25, 3) := by decide +kernel
theorem dX2_full_75 : decode cX2_full 75 = .ok (.lload 4, 2) := by decide +kernel
theorem dX2_full_77 : decode cX2_full 77 = .ok (.aload_n 0, 1) := by decide +kernel
theorem dX2_full_78 : decode cX2_full 78 = .ok (.getfield 31, 3) := by decide +kernel
theorem dX2_full_81 : decode cX2_full 81 = .ok (.aload_n 3, 1) := by decide +kernel
theorem dX2_full_82 : decode cX2_full 82 = .ok (.getfield 68, 3) := by decide +kernel
theorem dX2_full_85 : decode cX2_full 85 = .ok (.iload 6, 2) := by decide +kernel
theorem dX2_full_87 : decode cX2_full 87 = .ok (.iaload, 1) := by decide +kernel
theorem dX2_full_88 : decode cX2_full 88 = .ok (.i2l, 1) := by decide +kernel
theorem dX2_full_89 : decode cX2_full 89 = .ok (.invokevirtual 142, 3) := by decide +kernel
theorem dX2_full_92 : decode cX2_full 92 = .ok (.invokestatic 145, 3) := by decide +kernel
theorem dX2_full_95 : decode cX2_full 95 = .ok (.lstore 4, 2) := by decide +kernel
theorem dX2_full_97 : decode cX2_full 97 = .ok (.iinc 6 1, 3) := by decide +kernel
theorem dX2_full_100 : decode cX2_full 100 = .ok (.goto (-66), 3) := by decide +kernel
theorem dX2_full_103 : decode cX2_full 103 = .ok (.lload 4, 2) := by decide +kernel
theorem dX2_full_105 : decode cX2_full 105 = .ok (.l2i, 1) := by decide +kernel
theorem dX2_full_106 : decode cX2_full 106 = .ok (.ireturn, 1) := by decide +kernel
set_option maxRecDepth 20000 in
theorem ggX2_image_X2_rowAt : GoodIn wsX2_image wsX2_rowAt := goodIn_r _ [10, 11, 12, 74, 75, 76, 77, 78, 79] (by decide +kernel) (by decide +kernel)
set_option maxRecDepth 20000 in
theorem gX2_image_X2_rowAt : GoodIn wsX2_image (wsV RX2 39 RX2 yX2_rowAt wsX2_rowAt) := goodIn_app (goodIn_of _ (by decide +kernel)) ggX2_image_X2_rowAt
set_option maxRecDepth 20000 in
theorem ggX2_image_X2_isEither : GoodIn wsX2_image wsX2_isEither := goodIn_r _ [15] (by decide +kernel) (by decide +kernel)
set_option maxRecDepth 20000 in
theorem gX2_image_X2_isEither : GoodIn wsX2_image (va_wsS RX2 88 yX2_isEither wsX2_isEither) := goodIn_app (goodIn_of _ (by decide +kernel)) ggX2_image_X2_isEither
set_option maxRecDepth 20000 in
theorem ggX2_image_X1_leadThrough : GoodIn wsX2_image wsX1_leadThrough := goodIn_r _ [20, 21, 22, 23, 24, 19, 25, 26, 27, 28, 29, 30, 31, 32, 33, 34, 35, 36, 37, 38, 39, 40, 41, 42, 43, 44, 45, 46, 47, 48, 49, 50, 51, 52, 53, 54, 55, 56, 57, 58, 59, 60, 61, 62, 63, 87, 88, 89, 90, 80, 81, 82, 83, 84, 85, 86] (by decide +kernel) (by decide +kernel)
set_option maxRecDepth 20000 in
theorem gX2_image_X1_leadThrough : GoodIn wsX2_image (wsV RX2 93 RX1 yX1_leadThrough wsX1_leadThrough) := goodIn_app (goodIn_of _ (by decide +kernel)) ggX2_image_X1_leadThrough
set_option maxRecDepth 20000 in
theorem ggX2_image_X2_told : GoodIn wsX2_image wsX2_told := goodIn_r _ [66, 67, 68, 69, 70, 1, 71, 72, 9, 73] (by decide +kernel) (by decide +kernel)
set_option maxRecDepth 20000 in
theorem gX2_image_X2_told : GoodIn wsX2_image (va_wsS RX2 105 yX2_told wsX2_told) := goodIn_app (goodIn_of _ (by decide +kernel)) ggX2_image_X2_told
theorem dX2_image_0 : decode cX2_image 0 = .ok (.aload_n 0, 1) := by decide +kernel
theorem dX2_image_1 : decode cX2_image 1 = .ok (.iload_n 1, 1) := by decide +kernel
theorem dX2_image_2 : decode cX2_image 2 = .ok (.invokevirtual 39, 3) := by decide +kernel
theorem dX2_image_5 : decode cX2_image 5 = .ok (.astore 5, 2) := by decide +kernel
theorem dX2_image_7 : decode cX2_image 7 = .ok (.aload 5, 2) := by decide +kernel
theorem dX2_image_9 : decode cX2_image 9 = .ok (.ifnull 25, 3) := by decide +kernel
theorem dX2_image_12 : decode cX2_image 12 = .ok (.iload_n 2, 1) := by decide +kernel
theorem dX2_image_13 : decode cX2_image 13 = .ok (.invokestatic 88, 3) := by decide +kernel
theorem dX2_image_16 : decode cX2_image 16 = .ok (.ifCond .eq 18, 3) := by decide +kernel
theorem dX2_image_19 : decode cX2_image 19 = .ok (.iload_n 3, 1) := by decide +kernel
theorem dX2_image_20 : decode cX2_image 20 = .ok (.invokestatic 88, 3) := by decide +kernel
theorem dX2_image_23 : decode cX2_image 23 = .ok (.ifCond .eq 11, 3) := by decide +kernel
theorem dX2_image_26 : decode cX2_image 26 = .ok (.iload 4, 2) := by decide +kernel
theorem dX2_image_28 : decode cX2_image 28 = .ok (.invokestatic 88, 3) := by decide +kernel
theorem dX2_image_31 : decode cX2_image 31 = .ok (.ifCond .ne 7, 3) := by decide +kernel
theorem dX2_image_34 : decode cX2_image 34 = .ok (.ldc2_w 91, 3) := by decide +kernel
theorem dX2_image_37 : decode cX2_image 37 = .ok (.lreturn, 1) := by decide +kernel
theorem dX2_image_38 : decode cX2_image 38 = .ok (.aload_n 0, 1) := by decide +kernel
theorem dX2_image_39 : decode cX2_image 39 = .ok (.getfield 31, 3) := by decide +kernel
theorem dX2_image_42 : decode cX2_image 42 = .ok (.aload 5, 2) := by decide +kernel
theorem dX2_image_44 : decode cX2_image 44 = .ok (.iload_n 2, 1) := by decide +kernel
theorem dX2_image_45 : decode cX2_image 45 = .ok (.invokevirtual 93, 3) := by decide +kernel
theorem dX2_image_48 : decode cX2_image 48 = .ok (.iload_n 3, 1) := by decide +kernel
theorem dX2_image_49 : decode cX2_image 49 = .ok (.ifCond .ne 26, 3) := by decide +kernel
theorem dX2_image_52 : decode cX2_image 52 = .ok (.aload_n 0, 1) := by decide +kernel
theorem dX2_image_53 : decode cX2_image 53 = .ok (.getfield 31, 3) := by decide +kernel
theorem dX2_image_56 : decode cX2_image 56 = .ok (.getfield 148, 3) := by decide +kernel
theorem dX2_image_59 : decode cX2_image 59 = .ok (.lneg, 1) := by decide +kernel
theorem dX2_image_60 : decode cX2_image 60 = .ok (.aload_n 0, 1) := by decide +kernel
theorem dX2_image_61 : decode cX2_image 61 = .ok (.getfield 31, 3) := by decide +kernel
theorem dX2_image_64 : decode cX2_image 64 = .ok (.getfield 151, 3) := by decide +kernel
theorem dX2_image_67 : decode cX2_image 67 = .ok (.iload 4, 2) := by decide +kernel
theorem dX2_image_69 : decode cX2_image 69 = .ok (.invokestatic 105, 3) := by decide +kernel
theorem dX2_image_72 : decode cX2_image 72 = .ok (.goto 22, 3) := by decide +kernel
theorem dX2_image_75 : decode cX2_image 75 = .ok (.aload_n 0, 1) := by decide +kernel
theorem dX2_image_76 : decode cX2_image 76 = .ok (.getfield 31, 3) := by decide +kernel
theorem dX2_image_79 : decode cX2_image 79 = .ok (.getfield 101, 3) := by decide +kernel
theorem dX2_image_82 : decode cX2_image 82 = .ok (.aload_n 0, 1) := by decide +kernel
theorem dX2_image_83 : decode cX2_image 83 = .ok (.getfield 31, 3) := by decide +kernel
theorem dX2_image_86 : decode cX2_image 86 = .ok (.getfield 151, 3) := by decide +kernel
theorem dX2_image_89 : decode cX2_image 89 = .ok (.iload 4, 2) := by decide +kernel
theorem dX2_image_91 : decode cX2_image 91 = .ok (.invokestatic 105, 3) := by decide +kernel
theorem dX2_image_94 : decode cX2_image 94 = .ok (.lreturn, 1) := by decide +kernel
set_option maxRecDepth 20000 in
theorem ggX2_same_X2_rowAt : GoodIn wsX2_same wsX2_rowAt := goodIn_r _ [8, 9, 10, 66, 67, 68, 69, 70, 71] (by decide +kernel) (by decide +kernel)
set_option maxRecDepth 20000 in
theorem gX2_same_X2_rowAt : GoodIn wsX2_same (wsV RX2 39 RX2 yX2_rowAt wsX2_rowAt) := goodIn_app (goodIn_of _ (by decide +kernel)) ggX2_same_X2_rowAt
set_option maxRecDepth 20000 in
theorem ggX2_same_X2_isEither : GoodIn wsX2_same wsX2_isEither := goodIn_r _ [13] (by decide +kernel) (by decide +kernel)
set_option maxRecDepth 20000 in
theorem gX2_same_X2_isEither : GoodIn wsX2_same (va_wsS RX2 88 yX2_isEither wsX2_isEither) := goodIn_app (goodIn_of _ (by decide +kernel)) ggX2_same_X2_isEither
set_option maxRecDepth 20000 in
theorem ggX2_same_X1_leadThrough : GoodIn wsX2_same wsX1_leadThrough := goodIn_r _ [18, 19, 20, 21, 22, 17, 23, 24, 25, 26, 27, 28, 29, 30, 31, 32, 33, 34, 35, 36, 37, 38, 39, 40, 41, 42, 43, 44, 45, 46, 47, 48, 49, 50, 51, 52, 53, 54, 55, 56, 57, 58, 59, 60, 61, 79, 80, 81, 82, 72, 73, 74, 75, 76, 77, 78] (by decide +kernel) (by decide +kernel)
set_option maxRecDepth 20000 in
theorem gX2_same_X1_leadThrough : GoodIn wsX2_same (wsV RX2 93 RX1 yX1_leadThrough wsX1_leadThrough) := goodIn_app (goodIn_of _ (by decide +kernel)) ggX2_same_X1_leadThrough
set_option maxRecDepth 20000 in
theorem ggX2_same_X1_above : GoodIn wsX2_same wsX1_above := goodIn_r _ [65, 29, 30, 31, 32, 33, 34, 72, 73, 74, 75, 76, 77, 78] (by decide +kernel) (by decide +kernel)
set_option maxRecDepth 20000 in
theorem gX2_same_X1_above : GoodIn wsX2_same (wsV RX2 97 RX1 yX1_above wsX1_above) := goodIn_app (goodIn_of _ (by decide +kernel)) ggX2_same_X1_above
theorem dX2_same_0 : decode cX2_same 0 = .ok (.aload_n 0, 1) := by decide +kernel
theorem dX2_same_1 : decode cX2_same 1 = .ok (.iload_n 1, 1) := by decide +kernel
theorem dX2_same_2 : decode cX2_same 2 = .ok (.invokevirtual 39, 3) := by decide +kernel
theorem dX2_same_5 : decode cX2_same 5 = .ok (.astore 4, 2) := by decide +kernel
theorem dX2_same_7 : decode cX2_same 7 = .ok (.aload_n 0, 1) := by decide +kernel
theorem dX2_same_8 : decode cX2_same 8 = .ok (.iload_n 2, 1) := by decide +kernel
theorem dX2_same_9 : decode cX2_same 9 = .ok (.invokevirtual 39, 3) := by decide +kernel
theorem dX2_same_12 : decode cX2_same 12 = .ok (.astore 5, 2) := by decide +kernel
theorem dX2_same_14 : decode cX2_same 14 = .ok (.aload 4, 2) := by decide +kernel
theorem dX2_same_16 : decode cX2_same 16 = .ok (.ifnull 15, 3) := by decide +kernel
theorem dX2_same_19 : decode cX2_same 19 = .ok (.aload 5, 2) := by decide +kernel
theorem dX2_same_21 : decode cX2_same 21 = .ok (.ifnull 10, 3) := by decide +kernel
theorem dX2_same_24 : decode cX2_same 24 = .ok (.iload_n 3, 1) := by decide +kernel
theorem dX2_same_25 : decode cX2_same 25 = .ok (.invokestatic 88, 3) := by decide +kernel
theorem dX2_same_28 : decode cX2_same 28 = .ok (.ifCond .ne 5, 3) := by decide +kernel
theorem dX2_same_31 : decode cX2_same 31 = .ok (.iconst (-1), 1) := by decide +kernel
theorem dX2_same_32 : decode cX2_same 32 = .ok (.ireturn, 1) := by decide +kernel
theorem dX2_same_33 : decode cX2_same 33 = .ok (.aload_n 0, 1) := by decide +kernel
theorem dX2_same_34 : decode cX2_same 34 = .ok (.getfield 31, 3) := by decide +kernel
theorem dX2_same_37 : decode cX2_same 37 = .ok (.aload 4, 2) := by decide +kernel
theorem dX2_same_39 : decode cX2_same 39 = .ok (.iload_n 3, 1) := by decide +kernel
theorem dX2_same_40 : decode cX2_same 40 = .ok (.invokevirtual 93, 3) := by decide +kernel
theorem dX2_same_43 : decode cX2_same 43 = .ok (.aload_n 0, 1) := by decide +kernel
theorem dX2_same_44 : decode cX2_same 44 = .ok (.getfield 35, 3) := by decide +kernel
theorem dX2_same_47 : decode cX2_same 47 = .ok (.aload 5, 2) := by decide +kernel
theorem dX2_same_49 : decode cX2_same 49 = .ok (.iload_n 3, 1) := by decide +kernel
theorem dX2_same_50 : decode cX2_same 50 = .ok (.invokevirtual 93, 3) := by decide +kernel
theorem dX2_same_53 : decode cX2_same 53 = .ok (.iconst 0, 1) := by decide +kernel
theorem dX2_same_54 : decode cX2_same 54 = .ok (.istore 6, 2) := by decide +kernel
theorem dX2_same_56 : decode cX2_same 56 = .ok (.iload 6, 2) := by decide +kernel
theorem dX2_same_58 : decode cX2_same 58 = .ok (.bipush 6, 2) := by decide +kernel
theorem dX2_same_60 : decode cX2_same 60 = .ok (.if_icmp .ge 49, 3) := by decide +kernel
theorem dX2_same_63 : decode cX2_same 63 = .ok (.aload_n 0, 1) := by decide +kernel
theorem dX2_same_64 : decode cX2_same 64 = .ok (.getfield 31, 3) := by decide +kernel
theorem dX2_same_67 : decode cX2_same 67 = .ok (.iload 6, 2) := by decide +kernel
theorem dX2_same_69 : decode cX2_same 69 = .ok (.invokevirtual 97, 3) := by decide +kernel
theorem dX2_same_72 : decode cX2_same 72 = .ok (.aload_n 0, 1) := by decide +kernel
theorem dX2_same_73 : decode cX2_same 73 = .ok (.getfield 35, 3) := by decide +kernel
theorem dX2_same_76 : decode cX2_same 76 = .ok (.getfield 101, 3) := by decide +kernel
theorem dX2_same_79 : decode cX2_same 79 = .ok (.lmul, 1) := by decide +kernel
theorem dX2_same_80 : decode cX2_same 80 = .ok (.aload_n 0, 1) := by decide +kernel
theorem dX2_same_81 : decode cX2_same 81 = .ok (.getfield 35, 3) := by decide +kernel
theorem dX2_same_84 : decode cX2_same 84 = .ok (.iload 6, 2) := by decide +kernel
theorem dX2_same_86 : decode cX2_same 86 = .ok (.invokevirtual 97, 3) := by decide +kernel
theorem dX2_same_89 : decode cX2_same 89 = .ok (.aload_n 0, 1) := by decide +kernel
theorem dX2_same_90 : decode cX2_same 90 = .ok (.getfield 31, 3) := by decide +kernel
theorem dX2_same_93 : decode cX2_same 93 = .ok (.getfield 101, 3) := by decide +kernel
theorem dX2_same_96 : decode cX2_same 96 = .ok (.lmul, 1) := by decide +kernel
theorem dX2_same_97 : decode cX2_same 97 = .ok (.lcmp, 1) := by decide +kernel
theorem dX2_same_98 : decode cX2_same 98 = .ok (.ifCond .eq 5, 3) := by decide +kernel
theorem dX2_same_101 : decode cX2_same 101 = .ok (.iconst 0, 1) := by decide +kernel
theorem dX2_same_102 : decode cX2_same 102 = .ok (.ireturn, 1) := by decide +kernel
theorem dX2_same_103 : decode cX2_same 103 = .ok (.iinc 6 1, 3) := by decide +kernel
theorem dX2_same_106 : decode cX2_same 106 = .ok (.goto (-50), 3) := by decide +kernel
theorem dX2_same_109 : decode cX2_same 109 = .ok (.iconst 1, 1) := by decide +kernel
theorem dX2_same_110 : decode cX2_same 110 = .ok (.ireturn, 1) := by decide +kernel
set_option maxRecDepth 20000 in
theorem ggX2_round_X2_rowAt : GoodIn wsX2_round wsX2_rowAt := goodIn_r _ [6, 7, 8, 78, 79, 80, 81, 82, 83] (by decide +kernel) (by decide +kernel)
set_option maxRecDepth 20000 in
theorem gX2_round_X2_rowAt : GoodIn wsX2_round (wsV RX2 39 RX2 yX2_rowAt wsX2_rowAt) := goodIn_app (goodIn_of _ (by decide +kernel)) ggX2_round_X2_rowAt
set_option maxRecDepth 20000 in
theorem ggX2_round_X2_isEither : GoodIn wsX2_round wsX2_isEither := goodIn_r _ [11] (by decide +kernel) (by decide +kernel)
set_option maxRecDepth 20000 in
theorem gX2_round_X2_isEither : GoodIn wsX2_round (va_wsS RX2 88 yX2_isEither wsX2_isEither) := goodIn_app (goodIn_of _ (by decide +kernel)) ggX2_round_X2_isEither
set_option maxRecDepth 20000 in
theorem ggX2_round_X1_leadThrough : GoodIn wsX2_round wsX1_leadThrough := goodIn_r _ [16, 17, 18, 19, 20, 15, 21, 22, 23, 24, 25, 26, 27, 28, 29, 30, 31, 32, 33, 34, 35, 36, 37, 38, 39, 40, 41, 42, 43, 44, 45, 46, 47, 48, 49, 50, 51, 52, 53, 54, 55, 56, 57, 58, 59, 84, 85, 86, 87, 88, 89, 90, 91, 92, 93, 94] (by decide +kernel) (by decide +kernel)
set_option maxRecDepth 20000 in
theorem gX2_round_X1_leadThrough : GoodIn wsX2_round (wsV RX2 93 RX1 yX1_leadThrough wsX1_leadThrough) := goodIn_app (goodIn_of _ (by decide +kernel)) ggX2_round_X1_leadThrough
set_option maxRecDepth 20000 in
theorem ggX2_round_X1_manner : GoodIn wsX2_round wsX1_manner := goodIn_r _ [63, 33, 64, 65, 66, 67, 68, 15, 69, 70, 71, 72, 73, 27, 30, 74, 75, 76, 77, 28, 29, 88, 89, 90, 91, 92, 93, 94] (by decide +kernel) (by decide +kernel)
set_option maxRecDepth 20000 in
theorem gX2_round_X1_manner : GoodIn wsX2_round (wsV RX2 154 RX1 yX1_manner wsX1_manner) := goodIn_app (goodIn_of _ (by decide +kernel)) ggX2_round_X1_manner
theorem dX2_round_0 : decode cX2_round 0 = .ok (.aload_n 0, 1) := by decide +kernel
theorem dX2_round_1 : decode cX2_round 1 = .ok (.iload_n 1, 1) := by decide +kernel
theorem dX2_round_2 : decode cX2_round 2 = .ok (.invokevirtual 39, 3) := by decide +kernel
theorem dX2_round_5 : decode cX2_round 5 = .ok (.astore_n 3, 1) := by decide +kernel
theorem dX2_round_6 : decode cX2_round 6 = .ok (.aload_n 3, 1) := by decide +kernel
theorem dX2_round_7 : decode cX2_round 7 = .ok (.ifnull 10, 3) := by decide +kernel
theorem dX2_round_10 : decode cX2_round 10 = .ok (.iload_n 2, 1) := by decide +kernel
theorem dX2_round_11 : decode cX2_round 11 = .ok (.invokestatic 88, 3) := by decide +kernel
theorem dX2_round_14 : decode cX2_round 14 = .ok (.ifCond .ne 5, 3) := by decide +kernel
theorem dX2_round_17 : decode cX2_round 17 = .ok (.iconst (-1), 1) := by decide +kernel
theorem dX2_round_18 : decode cX2_round 18 = .ok (.ireturn, 1) := by decide +kernel
theorem dX2_round_19 : decode cX2_round 19 = .ok (.aload_n 0, 1) := by decide +kernel
theorem dX2_round_20 : decode cX2_round 20 = .ok (.getfield 31, 3) := by decide +kernel
theorem dX2_round_23 : decode cX2_round 23 = .ok (.aload_n 3, 1) := by decide +kernel
theorem dX2_round_24 : decode cX2_round 24 = .ok (.iload_n 2, 1) := by decide +kernel
theorem dX2_round_25 : decode cX2_round 25 = .ok (.invokevirtual 93, 3) := by decide +kernel
theorem dX2_round_28 : decode cX2_round 28 = .ok (.aload_n 0, 1) := by decide +kernel
theorem dX2_round_29 : decode cX2_round 29 = .ok (.getfield 31, 3) := by decide +kernel
theorem dX2_round_32 : decode cX2_round 32 = .ok (.invokevirtual 154, 3) := by decide +kernel
theorem dX2_round_35 : decode cX2_round 35 = .ok (.ireturn, 1) := by decide +kernel
set_option maxRecDepth 20000 in
theorem ggX2_trace_X2_rowAt : GoodIn wsX2_trace wsX2_rowAt := goodIn_r _ [8, 9, 10, 76, 77, 78, 79, 80, 81] (by decide +kernel) (by decide +kernel)
set_option maxRecDepth 20000 in
theorem gX2_trace_X2_rowAt : GoodIn wsX2_trace (wsV RX2 39 RX2 yX2_rowAt wsX2_rowAt) := goodIn_app (goodIn_of _ (by decide +kernel)) ggX2_trace_X2_rowAt
set_option maxRecDepth 20000 in
theorem ggX2_trace_X2_isEither : GoodIn wsX2_trace wsX2_isEither := goodIn_r _ [13] (by decide +kernel) (by decide +kernel)
set_option maxRecDepth 20000 in
theorem gX2_trace_X2_isEither : GoodIn wsX2_trace (va_wsS RX2 88 yX2_isEither wsX2_isEither) := goodIn_app (goodIn_of _ (by decide +kernel)) ggX2_trace_X2_isEither
set_option maxRecDepth 20000 in
theorem ggX2_trace_X1_leadThrough : GoodIn wsX2_trace wsX1_leadThrough := goodIn_r _ [18, 19, 20, 21, 22, 17, 23, 24, 25, 26, 27, 28, 29, 30, 31, 32, 33, 34, 35, 36, 37, 38, 39, 40, 41, 42, 43, 44, 45, 46, 47, 48, 49, 50, 51, 52, 53, 54, 55, 56, 57, 58, 59, 60, 61, 89, 90, 91, 92, 82, 83, 84, 85, 86, 87, 88] (by decide +kernel) (by decide +kernel)
set_option maxRecDepth 20000 in
theorem gX2_trace_X1_leadThrough : GoodIn wsX2_trace (wsV RX2 93 RX1 yX1_leadThrough wsX1_leadThrough) := goodIn_app (goodIn_of _ (by decide +kernel)) ggX2_trace_X1_leadThrough
set_option maxRecDepth 20000 in
theorem ggX2_trace_X1_sum : GoodIn wsX2_trace wsX1_sum := goodIn_r _ [65, 29, 32, 82, 83, 84, 85, 86, 87, 88] (by decide +kernel) (by decide +kernel)
set_option maxRecDepth 20000 in
theorem gX2_trace_X1_sum : GoodIn wsX2_trace (wsV RX2 157 RX1 yX1_sum wsX1_sum) := goodIn_app (goodIn_of _ (by decide +kernel)) ggX2_trace_X1_sum
set_option maxRecDepth 20000 in
theorem ggX2_trace_X2_told : GoodIn wsX2_trace wsX2_told := goodIn_r _ [68, 69, 70, 71, 72, 1, 73, 74, 7, 75] (by decide +kernel) (by decide +kernel)
set_option maxRecDepth 20000 in
theorem gX2_trace_X2_told : GoodIn wsX2_trace (va_wsS RX2 105 yX2_told wsX2_told) := goodIn_app (goodIn_of _ (by decide +kernel)) ggX2_trace_X2_told
theorem dX2_trace_0 : decode cX2_trace 0 = .ok (.aload_n 0, 1) := by decide +kernel
theorem dX2_trace_1 : decode cX2_trace 1 = .ok (.iload_n 1, 1) := by decide +kernel
theorem dX2_trace_2 : decode cX2_trace 2 = .ok (.invokevirtual 39, 3) := by decide +kernel
theorem dX2_trace_5 : decode cX2_trace 5 = .ok (.astore 4, 2) := by decide +kernel
theorem dX2_trace_7 : decode cX2_trace 7 = .ok (.aload 4, 2) := by decide +kernel
theorem dX2_trace_9 : decode cX2_trace 9 = .ok (.ifnull 17, 3) := by decide +kernel
theorem dX2_trace_12 : decode cX2_trace 12 = .ok (.iload_n 2, 1) := by decide +kernel
theorem dX2_trace_13 : decode cX2_trace 13 = .ok (.invokestatic 88, 3) := by decide +kernel
theorem dX2_trace_16 : decode cX2_trace 16 = .ok (.ifCond .eq 10, 3) := by decide +kernel
theorem dX2_trace_19 : decode cX2_trace 19 = .ok (.iload_n 3, 1) := by decide +kernel
theorem dX2_trace_20 : decode cX2_trace 20 = .ok (.invokestatic 88, 3) := by decide +kernel
theorem dX2_trace_23 : decode cX2_trace 23 = .ok (.ifCond .ne 7, 3) := by decide +kernel
theorem dX2_trace_26 : decode cX2_trace 26 = .ok (.ldc2_w 91, 3) := by decide +kernel
theorem dX2_trace_29 : decode cX2_trace 29 = .ok (.lreturn, 1) := by decide +kernel
theorem dX2_trace_30 : decode cX2_trace 30 = .ok (.aload_n 0, 1) := by decide +kernel
theorem dX2_trace_31 : decode cX2_trace 31 = .ok (.getfield 31, 3) := by decide +kernel
theorem dX2_trace_34 : decode cX2_trace 34 = .ok (.aload 4, 2) := by decide +kernel
theorem dX2_trace_36 : decode cX2_trace 36 = .ok (.iload_n 2, 1) := by decide +kernel
theorem dX2_trace_37 : decode cX2_trace 37 = .ok (.invokevirtual 93, 3) := by decide +kernel
theorem dX2_trace_40 : decode cX2_trace 40 = .ok (.aload_n 0, 1) := by decide +kernel
theorem dX2_trace_41 : decode cX2_trace 41 = .ok (.getfield 31, 3) := by decide +kernel
theorem dX2_trace_44 : decode cX2_trace 44 = .ok (.invokevirtual 157, 3) := by decide +kernel
theorem dX2_trace_47 : decode cX2_trace 47 = .ok (.aload_n 0, 1) := by decide +kernel
theorem dX2_trace_48 : decode cX2_trace 48 = .ok (.getfield 31, 3) := by decide +kernel
theorem dX2_trace_51 : decode cX2_trace 51 = .ok (.getfield 101, 3) := by decide +kernel
theorem dX2_trace_54 : decode cX2_trace 54 = .ok (.iload_n 3, 1) := by decide +kernel
theorem dX2_trace_55 : decode cX2_trace 55 = .ok (.invokestatic 105, 3) := by decide +kernel
theorem dX2_trace_58 : decode cX2_trace 58 = .ok (.lreturn, 1) := by decide +kernel
set_option maxRecDepth 20000 in
theorem ggX2_turns_X2_rowAt : GoodIn wsX2_turns wsX2_rowAt := goodIn_r _ [6, 7, 8, 72, 73, 74, 75, 76, 77] (by decide +kernel) (by decide +kernel)
set_option maxRecDepth 20000 in
theorem gX2_turns_X2_rowAt : GoodIn wsX2_turns (wsV RX2 39 RX2 yX2_rowAt wsX2_rowAt) := goodIn_app (goodIn_of _ (by decide +kernel)) ggX2_turns_X2_rowAt
set_option maxRecDepth 20000 in
theorem ggX2_turns_X2_isEither : GoodIn wsX2_turns wsX2_isEither := goodIn_r _ [11] (by decide +kernel) (by decide +kernel)
set_option maxRecDepth 20000 in
theorem gX2_turns_X2_isEither : GoodIn wsX2_turns (va_wsS RX2 88 yX2_isEither wsX2_isEither) := goodIn_app (goodIn_of _ (by decide +kernel)) ggX2_turns_X2_isEither
set_option maxRecDepth 20000 in
theorem ggX2_turns_X1_leadThrough : GoodIn wsX2_turns wsX1_leadThrough := goodIn_r _ [16, 17, 18, 19, 20, 15, 21, 22, 23, 24, 25, 26, 27, 28, 29, 30, 31, 32, 33, 34, 35, 36, 37, 38, 39, 40, 41, 42, 43, 44, 45, 46, 47, 48, 49, 50, 51, 52, 53, 54, 55, 56, 57, 58, 59, 78, 79, 80, 81, 82, 83, 84, 85, 86, 87, 88] (by decide +kernel) (by decide +kernel)
set_option maxRecDepth 20000 in
theorem gX2_turns_X1_leadThrough : GoodIn wsX2_turns (wsV RX2 93 RX1 yX1_leadThrough wsX1_leadThrough) := goodIn_app (goodIn_of _ (by decide +kernel)) ggX2_turns_X1_leadThrough
set_option maxRecDepth 20000 in
theorem ggX2_turns_X1_roundsToComeBack : GoodIn wsX2_turns wsX1_roundsToComeBack := goodIn_r _ [63, 33, 64, 65, 66, 15, 67, 27, 30, 28, 29, 68, 69, 70, 71, 82, 83, 84, 85, 86, 87, 88] (by decide +kernel) (by decide +kernel)
set_option maxRecDepth 20000 in
theorem gX2_turns_X1_roundsToComeBack : GoodIn wsX2_turns (wsV RX2 161 RX1 yX1_roundsToComeBack wsX1_roundsToComeBack) := goodIn_app (goodIn_of _ (by decide +kernel)) ggX2_turns_X1_roundsToComeBack
theorem dX2_turns_0 : decode cX2_turns 0 = .ok (.aload_n 0, 1) := by decide +kernel
theorem dX2_turns_1 : decode cX2_turns 1 = .ok (.iload_n 1, 1) := by decide +kernel
theorem dX2_turns_2 : decode cX2_turns 2 = .ok (.invokevirtual 39, 3) := by decide +kernel
theorem dX2_turns_5 : decode cX2_turns 5 = .ok (.astore_n 3, 1) := by decide +kernel
theorem dX2_turns_6 : decode cX2_turns 6 = .ok (.aload_n 3, 1) := by decide +kernel
theorem dX2_turns_7 : decode cX2_turns 7 = .ok (.ifnull 10, 3) := by decide +kernel
theorem dX2_turns_10 : decode cX2_turns 10 = .ok (.iload_n 2, 1) := by decide +kernel
theorem dX2_turns_11 : decode cX2_turns 11 = .ok (.invokestatic 88, 3) := by decide +kernel
theorem dX2_turns_14 : decode cX2_turns 14 = .ok (.ifCond .ne 5, 3) := by decide +kernel
theorem dX2_turns_17 : decode cX2_turns 17 = .ok (.iconst (-1), 1) := by decide +kernel
theorem dX2_turns_18 : decode cX2_turns 18 = .ok (.ireturn, 1) := by decide +kernel
theorem dX2_turns_19 : decode cX2_turns 19 = .ok (.aload_n 0, 1) := by decide +kernel
theorem dX2_turns_20 : decode cX2_turns 20 = .ok (.getfield 31, 3) := by decide +kernel
theorem dX2_turns_23 : decode cX2_turns 23 = .ok (.aload_n 3, 1) := by decide +kernel
theorem dX2_turns_24 : decode cX2_turns 24 = .ok (.iload_n 2, 1) := by decide +kernel
theorem dX2_turns_25 : decode cX2_turns 25 = .ok (.invokevirtual 93, 3) := by decide +kernel
theorem dX2_turns_28 : decode cX2_turns 28 = .ok (.aload_n 0, 1) := by decide +kernel
theorem dX2_turns_29 : decode cX2_turns 29 = .ok (.getfield 31, 3) := by decide +kernel
theorem dX2_turns_32 : decode cX2_turns 32 = .ok (.invokevirtual 161, 3) := by decide +kernel
theorem dX2_turns_35 : decode cX2_turns 35 = .ok (.ireturn, 1) := by decide +kernel
set_option maxRecDepth 20000 in
theorem ggX2_beam_X2_rowAt : GoodIn wsX2_beam wsX2_rowAt := goodIn_r _ [14, 15, 16, 86, 87, 88, 89, 90, 91] (by decide +kernel) (by decide +kernel)
set_option maxRecDepth 20000 in
theorem gX2_beam_X2_rowAt : GoodIn wsX2_beam (wsV RX2 39 RX2 yX2_rowAt wsX2_rowAt) := goodIn_app (goodIn_of _ (by decide +kernel)) ggX2_beam_X2_rowAt
set_option maxRecDepth 20000 in
theorem ggX2_beam_X0_has : GoodIn wsX2_beam wsX0_has := goodIn_r _ [21, 22, 92, 93, 94, 95] (by decide +kernel) (by decide +kernel)
set_option maxRecDepth 20000 in
theorem gX2_beam_X0_has : GoodIn wsX2_beam (wsV RX2 58 RX0 yX0_has wsX0_has) := goodIn_app (goodIn_of _ (by decide +kernel)) ggX2_beam_X0_has
set_option maxRecDepth 20000 in
theorem ggX2_beam_X2_isEither : GoodIn wsX2_beam wsX2_isEither := goodIn_r _ [25] (by decide +kernel) (by decide +kernel)
set_option maxRecDepth 20000 in
theorem gX2_beam_X2_isEither : GoodIn wsX2_beam (va_wsS RX2 88 yX2_isEither wsX2_isEither) := goodIn_app (goodIn_of _ (by decide +kernel)) ggX2_beam_X2_isEither
set_option maxRecDepth 20000 in
theorem ggX2_beam_X1_lead : GoodIn wsX2_beam wsX1_lead := goodIn_r _ [30, 31, 32, 33, 34, 35, 29, 36, 37, 38, 39, 40, 41, 42, 43, 44, 18, 19, 20, 21, 22, 45, 46, 47, 48, 49, 50, 51, 52, 53, 54, 55, 56, 57, 58, 59, 60, 61, 62, 63, 64, 92, 93, 94, 95, 96, 97, 98, 99, 100, 101, 102] (by decide +kernel) (by decide +kernel)
set_option maxRecDepth 20000 in
theorem gX2_beam_X1_lead : GoodIn wsX2_beam (wsV RX2 112 RX1 yX1_lead wsX1_lead) := goodIn_app (goodIn_of _ (by decide +kernel)) ggX2_beam_X1_lead
set_option maxRecDepth 20000 in
theorem ggX2_beam_X1_isBetween : GoodIn wsX2_beam wsX1_isBetween := goodIn_r _ [68, 69, 43, 70, 71, 72, 73, 29, 74, 37, 40, 96, 97, 98, 99, 100, 101, 102] (by decide +kernel) (by decide +kernel)
set_option maxRecDepth 20000 in
theorem gX2_beam_X1_isBetween : GoodIn wsX2_beam (wsV RX2 164 RX1 yX1_isBetween wsX1_isBetween) := goodIn_app (goodIn_of _ (by decide +kernel)) ggX2_beam_X1_isBetween
set_option maxRecDepth 20000 in
theorem ggX2_beam_X1_sum : GoodIn wsX2_beam wsX1_sum := goodIn_r _ [74, 37, 40, 96, 97, 98, 99, 100, 101, 102] (by decide +kernel) (by decide +kernel)
set_option maxRecDepth 20000 in
theorem gX2_beam_X1_sum : GoodIn wsX2_beam (wsV RX2 157 RX1 yX1_sum wsX1_sum) := goodIn_app (goodIn_of _ (by decide +kernel)) ggX2_beam_X1_sum
set_option maxRecDepth 20000 in
theorem ggX2_beam_X2_told : GoodIn wsX2_beam wsX2_told := goodIn_r _ [78, 79, 80, 81, 82, 1, 83, 84, 13, 85] (by decide +kernel) (by decide +kernel)
set_option maxRecDepth 20000 in
theorem gX2_beam_X2_told : GoodIn wsX2_beam (va_wsS RX2 105 yX2_told wsX2_told) := goodIn_app (goodIn_of _ (by decide +kernel)) ggX2_beam_X2_told
theorem dX2_beam_0 : decode cX2_beam 0 = .ok (.aload_n 0, 1) := by decide +kernel
theorem dX2_beam_1 : decode cX2_beam 1 = .ok (.iload_n 1, 1) := by decide +kernel
theorem dX2_beam_2 : decode cX2_beam 2 = .ok (.invokevirtual 39, 3) := by decide +kernel
theorem dX2_beam_5 : decode cX2_beam 5 = .ok (.astore 6, 2) := by decide +kernel
theorem dX2_beam_7 : decode cX2_beam 7 = .ok (.aload 6, 2) := by decide +kernel
theorem dX2_beam_9 : decode cX2_beam 9 = .ok (.ifnull 35, 3) := by decide +kernel
theorem dX2_beam_12 : decode cX2_beam 12 = .ok (.aload 6, 2) := by decide +kernel
theorem dX2_beam_14 : decode cX2_beam 14 = .ok (.iload_n 3, 1) := by decide +kernel
theorem dX2_beam_15 : decode cX2_beam 15 = .ok (.invokevirtual 58, 3) := by decide +kernel
theorem dX2_beam_18 : decode cX2_beam 18 = .ok (.ifCond .eq 26, 3) := by decide +kernel
theorem dX2_beam_21 : decode cX2_beam 21 = .ok (.iload_n 2, 1) := by decide +kernel
theorem dX2_beam_22 : decode cX2_beam 22 = .ok (.invokestatic 88, 3) := by decide +kernel
theorem dX2_beam_25 : decode cX2_beam 25 = .ok (.ifCond .eq 19, 3) := by decide +kernel
theorem dX2_beam_28 : decode cX2_beam 28 = .ok (.iload 4, 2) := by decide +kernel
theorem dX2_beam_30 : decode cX2_beam 30 = .ok (.invokestatic 88, 3) := by decide +kernel
theorem dX2_beam_33 : decode cX2_beam 33 = .ok (.ifCond .eq 11, 3) := by decide +kernel
theorem dX2_beam_36 : decode cX2_beam 36 = .ok (.iload 5, 2) := by decide +kernel
theorem dX2_beam_38 : decode cX2_beam 38 = .ok (.invokestatic 88, 3) := by decide +kernel
theorem dX2_beam_41 : decode cX2_beam 41 = .ok (.ifCond .ne 7, 3) := by decide +kernel
theorem dX2_beam_44 : decode cX2_beam 44 = .ok (.ldc2_w 91, 3) := by decide +kernel
theorem dX2_beam_47 : decode cX2_beam 47 = .ok (.lreturn, 1) := by decide +kernel
theorem dX2_beam_48 : decode cX2_beam 48 = .ok (.aload_n 0, 1) := by decide +kernel
theorem dX2_beam_49 : decode cX2_beam 49 = .ok (.getfield 31, 3) := by decide +kernel
theorem dX2_beam_52 : decode cX2_beam 52 = .ok (.aload 6, 2) := by decide +kernel
theorem dX2_beam_54 : decode cX2_beam 54 = .ok (.iload_n 2, 1) := by decide +kernel
theorem dX2_beam_55 : decode cX2_beam 55 = .ok (.iload_n 3, 1) := by decide +kernel
theorem dX2_beam_56 : decode cX2_beam 56 = .ok (.aload 6, 2) := by decide +kernel
theorem dX2_beam_58 : decode cX2_beam 58 = .ok (.getfield 43, 3) := by decide +kernel
theorem dX2_beam_61 : decode cX2_beam 61 = .ok (.invokevirtual 112, 3) := by decide +kernel
theorem dX2_beam_64 : decode cX2_beam 64 = .ok (.aload_n 0, 1) := by decide +kernel
theorem dX2_beam_65 : decode cX2_beam 65 = .ok (.getfield 31, 3) := by decide +kernel
theorem dX2_beam_68 : decode cX2_beam 68 = .ok (.invokevirtual 164, 3) := by decide +kernel
theorem dX2_beam_71 : decode cX2_beam 71 = .ok (.ifCond .ne 7, 3) := by decide +kernel
theorem dX2_beam_74 : decode cX2_beam 74 = .ok (.ldc2_w 91, 3) := by decide +kernel
theorem dX2_beam_77 : decode cX2_beam 77 = .ok (.lreturn, 1) := by decide +kernel
theorem dX2_beam_78 : decode cX2_beam 78 = .ok (.iload 4, 2) := by decide +kernel
theorem dX2_beam_80 : decode cX2_beam 80 = .ok (.ifCond .ne 62, 3) := by decide +kernel
theorem dX2_beam_83 : decode cX2_beam 83 = .ok (.aload_n 0, 1) := by decide +kernel
theorem dX2_beam_84 : decode cX2_beam 84 = .ok (.getfield 31, 3) := by decide +kernel
theorem dX2_beam_87 : decode cX2_beam 87 = .ok (.invokevirtual 157, 3) := by decide +kernel
theorem dX2_beam_90 : decode cX2_beam 90 = .ok (.lstore 7, 2) := by decide +kernel
theorem dX2_beam_92 : decode cX2_beam 92 = .ok (.ldc2_w 168, 3) := by decide +kernel
theorem dX2_beam_95 : decode cX2_beam 95 = .ok (.aload_n 0, 1) := by decide +kernel
theorem dX2_beam_96 : decode cX2_beam 96 = .ok (.getfield 31, 3) := by decide +kernel
theorem dX2_beam_99 : decode cX2_beam 99 = .ok (.getfield 148, 3) := by decide +kernel
theorem dX2_beam_102 : decode cX2_beam 102 = .ok (.lmul, 1) := by decide +kernel
theorem dX2_beam_103 : decode cX2_beam 103 = .ok (.aload_n 0, 1) := by decide +kernel
theorem dX2_beam_104 : decode cX2_beam 104 = .ok (.getfield 31, 3) := by decide +kernel
theorem dX2_beam_107 : decode cX2_beam 107 = .ok (.getfield 148, 3) := by decide +kernel
theorem dX2_beam_110 : decode cX2_beam 110 = .ok (.lmul, 1) := by decide +kernel
theorem dX2_beam_111 : decode cX2_beam 111 = .ok (.ldc2_w 168, 3) := by decide +kernel
theorem dX2_beam_114 : decode cX2_beam 114 = .ok (.aload_n 0, 1) := by decide +kernel
theorem dX2_beam_115 : decode cX2_beam 115 = .ok (.getfield 31, 3) := by decide +kernel
theorem dX2_beam_118 : decode cX2_beam 118 = .ok (.getfield 101, 3) := by decide +kernel
theorem dX2_beam_121 : decode cX2_beam 121 = .ok (.lmul, 1) := by decide +kernel
theorem dX2_beam_122 : decode cX2_beam 122 = .ok (.aload_n 0, 1) := by decide +kernel
theorem dX2_beam_123 : decode cX2_beam 123 = .ok (.getfield 31, 3) := by decide +kernel
theorem dX2_beam_126 : decode cX2_beam 126 = .ok (.getfield 101, 3) := by decide +kernel
theorem dX2_beam_129 : decode cX2_beam 129 = .ok (.lmul, 1) := by decide +kernel
theorem dX2_beam_130 : decode cX2_beam 130 = .ok (.lload 7, 2) := by decide +kernel
theorem dX2_beam_132 : decode cX2_beam 132 = .ok (.lload 7, 2) := by decide +kernel
theorem dX2_beam_134 : decode cX2_beam 134 = .ok (.lmul, 1) := by decide +kernel
theorem dX2_beam_135 : decode cX2_beam 135 = .ok (.lsub, 1) := by decide +kernel
theorem dX2_beam_136 : decode cX2_beam 136 = .ok (.iload 5, 2) := by decide +kernel
theorem dX2_beam_138 : decode cX2_beam 138 = .ok (.invokestatic 105, 3) := by decide +kernel
theorem dX2_beam_141 : decode cX2_beam 141 = .ok (.lreturn, 1) := by decide +kernel
theorem dX2_beam_142 : decode cX2_beam 142 = .ok (.aload_n 0, 1) := by decide +kernel
theorem dX2_beam_143 : decode cX2_beam 143 = .ok (.getfield 31, 3) := by decide +kernel
theorem dX2_beam_146 : decode cX2_beam 146 = .ok (.getfield 151, 3) := by decide +kernel
theorem dX2_beam_149 : decode cX2_beam 149 = .ok (.aload_n 0, 1) := by decide +kernel
theorem dX2_beam_150 : decode cX2_beam 150 = .ok (.getfield 31, 3) := by decide +kernel
theorem dX2_beam_153 : decode cX2_beam 153 = .ok (.getfield 170, 3) := by decide +kernel
theorem dX2_beam_156 : decode cX2_beam 156 = .ok (.lsub, 1) := by decide +kernel
theorem dX2_beam_157 : decode cX2_beam 157 = .ok (.ldc2_w 173, 3) := by decide +kernel
theorem dX2_beam_160 : decode cX2_beam 160 = .ok (.aload_n 0, 1) := by decide +kernel
theorem dX2_beam_161 : decode cX2_beam 161 = .ok (.getfield 31, 3) := by decide +kernel
theorem dX2_beam_164 : decode cX2_beam 164 = .ok (.getfield 148, 3) := by decide +kernel
theorem dX2_beam_167 : decode cX2_beam 167 = .ok (.lmul, 1) := by decide +kernel
theorem dX2_beam_168 : decode cX2_beam 168 = .ok (.iload 5, 2) := by decide +kernel
theorem dX2_beam_170 : decode cX2_beam 170 = .ok (.invokestatic 105, 3) := by decide +kernel
theorem dX2_beam_173 : decode cX2_beam 173 = .ok (.lreturn, 1) := by decide +kernel
set_option maxRecDepth 20000 in
theorem ggX2_waist_X2_rowAt : GoodIn wsX2_waist wsX2_rowAt := goodIn_r _ [12, 13, 14, 77, 78, 79, 80, 81, 82] (by decide +kernel) (by decide +kernel)
set_option maxRecDepth 20000 in
theorem gX2_waist_X2_rowAt : GoodIn wsX2_waist (wsV RX2 39 RX2 yX2_rowAt wsX2_rowAt) := goodIn_app (goodIn_of _ (by decide +kernel)) ggX2_waist_X2_rowAt
set_option maxRecDepth 20000 in
theorem ggX2_waist_X2_isEither : GoodIn wsX2_waist wsX2_isEither := goodIn_r _ [17] (by decide +kernel) (by decide +kernel)
set_option maxRecDepth 20000 in
theorem gX2_waist_X2_isEither : GoodIn wsX2_waist (va_wsS RX2 88 yX2_isEither wsX2_isEither) := goodIn_app (goodIn_of _ (by decide +kernel)) ggX2_waist_X2_isEither
set_option maxRecDepth 20000 in
theorem ggX2_waist_X1_leadThrough : GoodIn wsX2_waist wsX1_leadThrough := goodIn_r _ [22, 23, 24, 25, 26, 21, 27, 28, 29, 30, 31, 32, 33, 34, 35, 36, 37, 38, 39, 40, 41, 42, 43, 44, 45, 46, 47, 48, 49, 50, 51, 52, 53, 54, 55, 56, 57, 58, 59, 60, 61, 62, 63, 64, 65, 90, 91, 92, 93, 83, 84, 85, 86, 87, 88, 89] (by decide +kernel) (by decide +kernel)
set_option maxRecDepth 20000 in
theorem gX2_waist_X1_leadThrough : GoodIn wsX2_waist (wsV RX2 93 RX1 yX1_leadThrough wsX1_leadThrough) := goodIn_app (goodIn_of _ (by decide +kernel)) ggX2_waist_X1_leadThrough
set_option maxRecDepth 20000 in
theorem ggX2_waist_X1_isBetween : GoodIn wsX2_waist wsX1_isBetween := goodIn_r _ [69, 70, 39, 71, 72, 73, 74, 21, 75, 33, 36, 83, 84, 85, 86, 87, 88, 89] (by decide +kernel) (by decide +kernel)
set_option maxRecDepth 20000 in
theorem gX2_waist_X1_isBetween : GoodIn wsX2_waist (wsV RX2 164 RX1 yX1_isBetween wsX1_isBetween) := goodIn_app (goodIn_of _ (by decide +kernel)) ggX2_waist_X1_isBetween
set_option maxRecDepth 20000 in
theorem ggX2_waist_X1_lead : GoodIn wsX2_waist wsX1_lead := goodIn_r _ [27, 28, 23, 29, 30, 31, 21, 32, 33, 34, 35, 36, 37, 38, 39, 40, 41, 42, 43, 44, 45, 46, 47, 48, 49, 50, 51, 52, 53, 54, 55, 56, 57, 58, 59, 60, 61, 62, 63, 64, 65, 90, 91, 92, 93, 83, 84, 85, 86, 87, 88, 89] (by decide +kernel) (by decide +kernel)
set_option maxRecDepth 20000 in
theorem gX2_waist_X1_lead : GoodIn wsX2_waist (wsV RX2 112 RX1 yX1_lead wsX1_lead) := goodIn_app (goodIn_of _ (by decide +kernel)) ggX2_waist_X1_lead
theorem dX2_waist_0 : decode cX2_waist 0 = .ok (.aload_n 0, 1) := by decide +kernel
theorem dX2_waist_1 : decode cX2_waist 1 = .ok (.iload_n 1, 1) := by decide +kernel
theorem dX2_waist_2 : decode cX2_waist 2 = .ok (.invokevirtual 39, 3) := by decide +kernel
theorem dX2_waist_5 : decode cX2_waist 5 = .ok (.astore_n 3, 1) := by decide +kernel
theorem dX2_waist_6 : decode cX2_waist 6 = .ok (.aload_n 3, 1) := by decide +kernel
theorem dX2_waist_7 : decode cX2_waist 7 = .ok (.ifnull 10, 3) := by decide +kernel
theorem dX2_waist_10 : decode cX2_waist 10 = .ok (.iload_n 2, 1) := by decide +kernel
theorem dX2_waist_11 : decode cX2_waist 11 = .ok (.invokestatic 88, 3) := by decide +kernel
theorem dX2_waist_14 : decode cX2_waist 14 = .ok (.ifCond .ne 5, 3) := by decide +kernel
theorem dX2_waist_17 : decode cX2_waist 17 = .ok (.iconst (-1), 1) := by decide +kernel
theorem dX2_waist_18 : decode cX2_waist 18 = .ok (.ireturn, 1) := by decide +kernel
theorem dX2_waist_19 : decode cX2_waist 19 = .ok (.aload_n 0, 1) := by decide +kernel
theorem dX2_waist_20 : decode cX2_waist 20 = .ok (.getfield 31, 3) := by decide +kernel
theorem dX2_waist_23 : decode cX2_waist 23 = .ok (.aload_n 3, 1) := by decide +kernel
theorem dX2_waist_24 : decode cX2_waist 24 = .ok (.iload_n 2, 1) := by decide +kernel
theorem dX2_waist_25 : decode cX2_waist 25 = .ok (.invokevirtual 93, 3) := by decide +kernel
theorem dX2_waist_28 : decode cX2_waist 28 = .ok (.aload_n 0, 1) := by decide +kernel
theorem dX2_waist_29 : decode cX2_waist 29 = .ok (.getfield 31, 3) := by decide +kernel
theorem dX2_waist_32 : decode cX2_waist 32 = .ok (.invokevirtual 164, 3) := by decide +kernel
theorem dX2_waist_35 : decode cX2_waist 35 = .ok (.ifCond .ne 5, 3) := by decide +kernel
theorem dX2_waist_38 : decode cX2_waist 38 = .ok (.iconst (-1), 1) := by decide +kernel
theorem dX2_waist_39 : decode cX2_waist 39 = .ok (.ireturn, 1) := by decide +kernel
theorem dX2_waist_40 : decode cX2_waist 40 = .ok (.iconst 0, 1) := by decide +kernel
theorem dX2_waist_41 : decode cX2_waist 41 = .ok (.istore 4, 2) := by decide +kernel
theorem dX2_waist_43 : decode cX2_waist 43 = .ok (.aload_n 0, 1) := by decide +kernel
theorem dX2_waist_44 : decode cX2_waist 44 = .ok (.getfield 31, 3) := by decide +kernel
theorem dX2_waist_47 : decode cX2_waist 47 = .ok (.getfield 148, 3) := by decide +kernel
theorem dX2_waist_50 : decode cX2_waist 50 = .ok (.invokestatic 134, 3) := by decide +kernel
theorem dX2_waist_53 : decode cX2_waist 53 = .ok (.lstore 5, 2) := by decide +kernel
theorem dX2_waist_55 : decode cX2_waist 55 = .ok (.iconst 1, 1) := by decide +kernel
theorem dX2_waist_56 : decode cX2_waist 56 = .ok (.istore 7, 2) := by decide +kernel
theorem dX2_waist_58 : decode cX2_waist 58 = .ok (.iload 7, 2) := by decide +kernel
theorem dX2_waist_60 : decode cX2_waist 60 = .ok (.aload_n 3, 1) := by decide +kernel
theorem dX2_waist_61 : decode cX2_waist 61 = .ok (.getfield 43, 3) := by decide +kernel
theorem dX2_waist_64 : decode cX2_waist 64 = .ok (.if_icmp .ge 52, 3) := by decide +kernel
theorem dX2_waist_67 : decode cX2_waist 67 = .ok (.aload_n 0, 1) := by decide +kernel
theorem dX2_waist_68 : decode cX2_waist 68 = .ok (.getfield 31, 3) := by decide +kernel
theorem dX2_waist_71 : decode cX2_waist 71 = .ok (.aload_n 3, 1) := by decide +kernel
theorem dX2_waist_72 : decode cX2_waist 72 = .ok (.iload_n 2, 1) := by decide +kernel
theorem dX2_waist_73 : decode cX2_waist 73 = .ok (.iload 7, 2) := by decide +kernel
theorem dX2_waist_75 : decode cX2_waist 75 = .ok (.aload_n 3, 1) := by decide +kernel
theorem dX2_waist_76 : decode cX2_waist 76 = .ok (.getfield 43, 3) := by decide +kernel
theorem dX2_waist_79 : decode cX2_waist 79 = .ok (.invokevirtual 112, 3) := by decide +kernel
theorem dX2_waist_82 : decode cX2_waist 82 = .ok (.aload_n 0, 1) := by decide +kernel
theorem dX2_waist_83 : decode cX2_waist 83 = .ok (.getfield 31, 3) := by decide +kernel
theorem dX2_waist_86 : decode cX2_waist 86 = .ok (.getfield 148, 3) := by decide +kernel
theorem dX2_waist_89 : decode cX2_waist 89 = .ok (.invokestatic 134, 3) := by decide +kernel
theorem dX2_waist_92 : decode cX2_waist 92 = .ok (.lstore 8, 2) := by decide +kernel
theorem dX2_waist_94 : decode cX2_waist 94 = .ok (.lload 8, 2) := by decide +kernel
theorem dX2_waist_96 : decode cX2_waist 96 = .ok (.lload 5, 2) := by decide +kernel
theorem dX2_waist_98 : decode cX2_waist 98 = .ok (.lcmp, 1) := by decide +kernel
theorem dX2_waist_99 : decode cX2_waist 99 = .ok (.ifCond .ge 11, 3) := by decide +kernel
theorem dX2_waist_102 : decode cX2_waist 102 = .ok (.iload 7, 2) := by decide +kernel
theorem dX2_waist_104 : decode cX2_waist 104 = .ok (.istore 4, 2) := by decide +kernel
theorem dX2_waist_106 : decode cX2_waist 106 = .ok (.lload 8, 2) := by decide +kernel
theorem dX2_waist_108 : decode cX2_waist 108 = .ok (.lstore 5, 2) := by decide +kernel
theorem dX2_waist_110 : decode cX2_waist 110 = .ok (.iinc 7 1, 3) := by decide +kernel
theorem dX2_waist_113 : decode cX2_waist 113 = .ok (.goto (-55), 3) := by decide +kernel
theorem dX2_waist_116 : decode cX2_waist 116 = .ok (.iload 4, 2) := by decide +kernel
theorem dX2_waist_118 : decode cX2_waist 118 = .ok (.ireturn, 1) := by decide +kernel
set_option maxRecDepth 20000 in
theorem ggX2_axis_X2_rowAt : GoodIn wsX2_axis wsX2_rowAt := goodIn_r _ [16, 17, 18, 81, 82, 83, 84, 85, 86] (by decide +kernel) (by decide +kernel)
set_option maxRecDepth 20000 in
theorem gX2_axis_X2_rowAt : GoodIn wsX2_axis (wsV RX2 39 RX2 yX2_rowAt wsX2_rowAt) := goodIn_app (goodIn_of _ (by decide +kernel)) ggX2_axis_X2_rowAt
set_option maxRecDepth 20000 in
theorem ggX2_axis_X0_has : GoodIn wsX2_axis wsX0_has := goodIn_r _ [23, 24, 87, 88, 89, 90] (by decide +kernel) (by decide +kernel)
set_option maxRecDepth 20000 in
theorem gX2_axis_X0_has : GoodIn wsX2_axis (wsV RX2 58 RX0 yX0_has wsX0_has) := goodIn_app (goodIn_of _ (by decide +kernel)) ggX2_axis_X0_has
set_option maxRecDepth 20000 in
theorem ggX2_axis_X2_isEither : GoodIn wsX2_axis wsX2_isEither := goodIn_r _ [27] (by decide +kernel) (by decide +kernel)
set_option maxRecDepth 20000 in
theorem gX2_axis_X2_isEither : GoodIn wsX2_axis (va_wsS RX2 88 yX2_isEither wsX2_isEither) := goodIn_app (goodIn_of _ (by decide +kernel)) ggX2_axis_X2_isEither
set_option maxRecDepth 20000 in
theorem ggX2_axis_X1_lead : GoodIn wsX2_axis wsX1_lead := goodIn_r _ [32, 33, 34, 35, 36, 37, 31, 38, 39, 40, 41, 42, 43, 44, 45, 46, 20, 21, 22, 23, 24, 47, 48, 49, 50, 51, 52, 53, 54, 55, 56, 57, 58, 59, 60, 61, 62, 63, 64, 65, 66, 87, 88, 89, 90, 91, 92, 93, 94, 95, 96, 97] (by decide +kernel) (by decide +kernel)
set_option maxRecDepth 20000 in
theorem gX2_axis_X1_lead : GoodIn wsX2_axis (wsV RX2 112 RX1 yX1_lead wsX1_lead) := goodIn_app (goodIn_of _ (by decide +kernel)) ggX2_axis_X1_lead
set_option maxRecDepth 20000 in
theorem ggX2_axis_X1_sum : GoodIn wsX2_axis wsX1_sum := goodIn_r _ [70, 39, 42, 91, 92, 93, 94, 95, 96, 97] (by decide +kernel) (by decide +kernel)
set_option maxRecDepth 20000 in
theorem gX2_axis_X1_sum : GoodIn wsX2_axis (wsV RX2 157 RX1 yX1_sum wsX1_sum) := goodIn_app (goodIn_of _ (by decide +kernel)) ggX2_axis_X1_sum
set_option maxRecDepth 20000 in
theorem ggX2_axis_X2_told : GoodIn wsX2_axis wsX2_told := goodIn_r _ [73, 74, 75, 76, 77, 1, 78, 79, 15, 80] (by decide +kernel) (by decide +kernel)
set_option maxRecDepth 20000 in
theorem gX2_axis_X2_told : GoodIn wsX2_axis (va_wsS RX2 105 yX2_told wsX2_told) := goodIn_app (goodIn_of _ (by decide +kernel)) ggX2_axis_X2_told
theorem dX2_axis_0 : decode cX2_axis 0 = .ok (.aload_n 0, 1) := by decide +kernel
theorem dX2_axis_1 : decode cX2_axis 1 = .ok (.iload_n 1, 1) := by decide +kernel
theorem dX2_axis_2 : decode cX2_axis 2 = .ok (.invokevirtual 39, 3) := by decide +kernel
theorem dX2_axis_5 : decode cX2_axis 5 = .ok (.astore 6, 2) := by decide +kernel
theorem dX2_axis_7 : decode cX2_axis 7 = .ok (.aload 6, 2) := by decide +kernel
theorem dX2_axis_9 : decode cX2_axis 9 = .ok (.ifnull 35, 3) := by decide +kernel
theorem dX2_axis_12 : decode cX2_axis 12 = .ok (.aload 6, 2) := by decide +kernel
theorem dX2_axis_14 : decode cX2_axis 14 = .ok (.iload_n 3, 1) := by decide +kernel
theorem dX2_axis_15 : decode cX2_axis 15 = .ok (.invokevirtual 58, 3) := by decide +kernel
theorem dX2_axis_18 : decode cX2_axis 18 = .ok (.ifCond .eq 26, 3) := by decide +kernel
theorem dX2_axis_21 : decode cX2_axis 21 = .ok (.iload_n 2, 1) := by decide +kernel
theorem dX2_axis_22 : decode cX2_axis 22 = .ok (.invokestatic 88, 3) := by decide +kernel
theorem dX2_axis_25 : decode cX2_axis 25 = .ok (.ifCond .eq 19, 3) := by decide +kernel
theorem dX2_axis_28 : decode cX2_axis 28 = .ok (.iload 4, 2) := by decide +kernel
theorem dX2_axis_30 : decode cX2_axis 30 = .ok (.invokestatic 88, 3) := by decide +kernel
theorem dX2_axis_33 : decode cX2_axis 33 = .ok (.ifCond .eq 11, 3) := by decide +kernel
theorem dX2_axis_36 : decode cX2_axis 36 = .ok (.iload 5, 2) := by decide +kernel
theorem dX2_axis_38 : decode cX2_axis 38 = .ok (.invokestatic 88, 3) := by decide +kernel
theorem dX2_axis_41 : decode cX2_axis 41 = .ok (.ifCond .ne 7, 3) := by decide +kernel
theorem dX2_axis_44 : decode cX2_axis 44 = .ok (.ldc2_w 91, 3) := by decide +kernel
theorem dX2_axis_47 : decode cX2_axis 47 = .ok (.lreturn, 1) := by decide +kernel
theorem dX2_axis_48 : decode cX2_axis 48 = .ok (.aload_n 0, 1) := by decide +kernel
theorem dX2_axis_49 : decode cX2_axis 49 = .ok (.getfield 31, 3) := by decide +kernel
theorem dX2_axis_52 : decode cX2_axis 52 = .ok (.aload 6, 2) := by decide +kernel
theorem dX2_axis_54 : decode cX2_axis 54 = .ok (.iload_n 2, 1) := by decide +kernel
theorem dX2_axis_55 : decode cX2_axis 55 = .ok (.iload_n 3, 1) := by decide +kernel
theorem dX2_axis_56 : decode cX2_axis 56 = .ok (.aload 6, 2) := by decide +kernel
theorem dX2_axis_58 : decode cX2_axis 58 = .ok (.getfield 43, 3) := by decide +kernel
theorem dX2_axis_61 : decode cX2_axis 61 = .ok (.invokevirtual 112, 3) := by decide +kernel
theorem dX2_axis_64 : decode cX2_axis 64 = .ok (.aload_n 0, 1) := by decide +kernel
theorem dX2_axis_65 : decode cX2_axis 65 = .ok (.getfield 31, 3) := by decide +kernel
theorem dX2_axis_68 : decode cX2_axis 68 = .ok (.getfield 101, 3) := by decide +kernel
theorem dX2_axis_71 : decode cX2_axis 71 = .ok (.ldc2_w 173, 3) := by decide +kernel
theorem dX2_axis_74 : decode cX2_axis 74 = .ok (.aload_n 0, 1) := by decide +kernel
theorem dX2_axis_75 : decode cX2_axis 75 = .ok (.getfield 31, 3) := by decide +kernel
theorem dX2_axis_78 : decode cX2_axis 78 = .ok (.getfield 101, 3) := by decide +kernel
theorem dX2_axis_81 : decode cX2_axis 81 = .ok (.lmul, 1) := by decide +kernel
theorem dX2_axis_82 : decode cX2_axis 82 = .ok (.aload_n 0, 1) := by decide +kernel
theorem dX2_axis_83 : decode cX2_axis 83 = .ok (.getfield 31, 3) := by decide +kernel
theorem dX2_axis_86 : decode cX2_axis 86 = .ok (.invokevirtual 157, 3) := by decide +kernel
theorem dX2_axis_89 : decode cX2_axis 89 = .ok (.lsub, 1) := by decide +kernel
theorem dX2_axis_90 : decode cX2_axis 90 = .ok (.lmul, 1) := by decide +kernel
theorem dX2_axis_91 : decode cX2_axis 91 = .ok (.lstore 7, 2) := by decide +kernel
theorem dX2_axis_93 : decode cX2_axis 93 = .ok (.iload 4, 2) := by decide +kernel
theorem dX2_axis_95 : decode cX2_axis 95 = .ok (.ifCond .ne 45, 3) := by decide +kernel
theorem dX2_axis_98 : decode cX2_axis 98 = .ok (.aload_n 0, 1) := by decide +kernel
theorem dX2_axis_99 : decode cX2_axis 99 = .ok (.getfield 31, 3) := by decide +kernel
theorem dX2_axis_102 : decode cX2_axis 102 = .ok (.getfield 101, 3) := by decide +kernel
theorem dX2_axis_105 : decode cX2_axis 105 = .ok (.aload_n 0, 1) := by decide +kernel
theorem dX2_axis_106 : decode cX2_axis 106 = .ok (.getfield 31, 3) := by decide +kernel
theorem dX2_axis_109 : decode cX2_axis 109 = .ok (.getfield 151, 3) := by decide +kernel
theorem dX2_axis_112 : decode cX2_axis 112 = .ok (.lsub, 1) := by decide +kernel
theorem dX2_axis_113 : decode cX2_axis 113 = .ok (.aload_n 0, 1) := by decide +kernel
theorem dX2_axis_114 : decode cX2_axis 114 = .ok (.getfield 31, 3) := by decide +kernel
theorem dX2_axis_117 : decode cX2_axis 117 = .ok (.getfield 175, 3) := by decide +kernel
theorem dX2_axis_120 : decode cX2_axis 120 = .ok (.lmul, 1) := by decide +kernel
theorem dX2_axis_121 : decode cX2_axis 121 = .ok (.aload_n 0, 1) := by decide +kernel
theorem dX2_axis_122 : decode cX2_axis 122 = .ok (.getfield 31, 3) := by decide +kernel
theorem dX2_axis_125 : decode cX2_axis 125 = .ok (.getfield 148, 3) := by decide +kernel
theorem dX2_axis_128 : decode cX2_axis 128 = .ok (.aload_n 0, 1) := by decide +kernel
theorem dX2_axis_129 : decode cX2_axis 129 = .ok (.getfield 31, 3) := by decide +kernel
theorem dX2_axis_132 : decode cX2_axis 132 = .ok (.getfield 178, 3) := by decide +kernel
theorem dX2_axis_135 : decode cX2_axis 135 = .ok (.lmul, 1) := by decide +kernel
theorem dX2_axis_136 : decode cX2_axis 136 = .ok (.ladd, 1) := by decide +kernel
theorem dX2_axis_137 : decode cX2_axis 137 = .ok (.goto 42, 3) := by decide +kernel
theorem dX2_axis_140 : decode cX2_axis 140 = .ok (.aload_n 0, 1) := by decide +kernel
theorem dX2_axis_141 : decode cX2_axis 141 = .ok (.getfield 31, 3) := by decide +kernel
theorem dX2_axis_144 : decode cX2_axis 144 = .ok (.getfield 181, 3) := by decide +kernel
theorem dX2_axis_147 : decode cX2_axis 147 = .ok (.aload_n 0, 1) := by decide +kernel
theorem dX2_axis_148 : decode cX2_axis 148 = .ok (.getfield 31, 3) := by decide +kernel
theorem dX2_axis_151 : decode cX2_axis 151 = .ok (.getfield 175, 3) := by decide +kernel
theorem dX2_axis_154 : decode cX2_axis 154 = .ok (.lmul, 1) := by decide +kernel
theorem dX2_axis_155 : decode cX2_axis 155 = .ok (.aload_n 0, 1) := by decide +kernel
theorem dX2_axis_156 : decode cX2_axis 156 = .ok (.getfield 31, 3) := by decide +kernel
theorem dX2_axis_159 : decode cX2_axis 159 = .ok (.getfield 101, 3) := by decide +kernel
theorem dX2_axis_162 : decode cX2_axis 162 = .ok (.aload_n 0, 1) := by decide +kernel
theorem dX2_axis_163 : decode cX2_axis 163 = .ok (.getfield 31, 3) := by decide +kernel
theorem dX2_axis_166 : decode cX2_axis 166 = .ok (.getfield 170, 3) := by decide +kernel
theorem dX2_axis_169 : decode cX2_axis 169 = .ok (.lsub, 1) := by decide +kernel
theorem dX2_axis_170 : decode cX2_axis 170 = .ok (.aload_n 0, 1) := by decide +kernel
theorem dX2_axis_171 : decode cX2_axis 171 = .ok (.getfield 31, 3) := by decide +kernel
theorem dX2_axis_174 : decode cX2_axis 174 = .ok (.getfield 178, 3) := by decide +kernel
theorem dX2_axis_177 : decode cX2_axis 177 = .ok (.lmul, 1) := by decide +kernel
theorem dX2_axis_178 : decode cX2_axis 178 = .ok (.ladd, 1) := by decide +kernel
theorem dX2_axis_179 : decode cX2_axis 179 = .ok (.lstore 9, 2) := by decide +kernel
theorem dX2_axis_181 : decode cX2_axis 181 = .ok (.lload 9, 2) := by decide +kernel
theorem dX2_axis_183 : decode cX2_axis 183 = .ok (.lload 7, 2) := by decide +kernel
theorem dX2_axis_185 : decode cX2_axis 185 = .ok (.iload 5, 2) := by decide +kernel
theorem dX2_axis_187 : decode cX2_axis 187 = .ok (.invokestatic 105, 3) := by decide +kernel
theorem dX2_axis_190 : decode cX2_axis 190 = .ok (.lreturn, 1) := by decide +kernel
set_option maxRecDepth 20000 in
theorem ggX2_span_X2_rowAt : GoodIn wsX2_span wsX2_rowAt := goodIn_r _ [6, 7, 8, 91, 92, 93, 94, 95, 96] (by decide +kernel) (by decide +kernel)
set_option maxRecDepth 20000 in
theorem gX2_span_X2_rowAt : GoodIn wsX2_span (wsV RX2 39 RX2 yX2_rowAt wsX2_rowAt) := goodIn_app (goodIn_of _ (by decide +kernel)) ggX2_span_X2_rowAt
set_option maxRecDepth 20000 in
theorem ggX2_span_X0_has : GoodIn wsX2_span wsX0_has := goodIn_r _ [13, 14, 87, 88, 89, 90] (by decide +kernel) (by decide +kernel)
set_option maxRecDepth 20000 in
theorem gX2_span_X0_has : GoodIn wsX2_span (wsV RX2 58 RX0 yX0_has wsX0_has) := goodIn_app (goodIn_of _ (by decide +kernel)) ggX2_span_X0_has
set_option maxRecDepth 20000 in
theorem ggX2_span_X2_holdsWith : GoodIn wsX2_span wsX2_holdsWith := goodIn_r _ [18, 19, 20, 21, 22, 5, 23, 24, 25, 26, 27, 28, 29, 30, 31, 32, 33, 34, 35, 36, 37, 38, 39, 40, 41, 42, 43, 44, 45, 46, 47, 48, 10, 11, 12, 13, 14, 49, 50, 51, 52, 53, 54, 55, 56, 57, 58, 59, 60, 61, 62, 63, 64, 65, 66, 67, 68, 69, 70, 71, 72, 73, 74, 75, 76, 77, 78, 79, 80, 81, 82, 83, 84, 85, 86, 87, 88, 89, 90, 91, 92, 93, 94, 95, 96, 97, 98, 99, 100, 101, 102, 103] (by decide +kernel) (by decide +kernel)
set_option maxRecDepth 20000 in
theorem gX2_span_X2_holdsWith : GoodIn wsX2_span (wsV RX2 184 RX2 yX2_holdsWith wsX2_holdsWith) := goodIn_app (goodIn_of _ (by decide +kernel)) ggX2_span_X2_holdsWith
theorem dX2_span_0 : decode cX2_span 0 = .ok (.aload_n 0, 1) := by decide +kernel
theorem dX2_span_1 : decode cX2_span 1 = .ok (.iload_n 1, 1) := by decide +kernel
theorem dX2_span_2 : decode cX2_span 2 = .ok (.invokevirtual 39, 3) := by decide +kernel
theorem dX2_span_5 : decode cX2_span 5 = .ok (.astore 4, 2) := by decide +kernel
theorem dX2_span_7 : decode cX2_span 7 = .ok (.aload 4, 2) := by decide +kernel
theorem dX2_span_9 : decode cX2_span 9 = .ok (.ifnull 16, 3) := by decide +kernel
theorem dX2_span_12 : decode cX2_span 12 = .ok (.aload 4, 2) := by decide +kernel
theorem dX2_span_14 : decode cX2_span 14 = .ok (.iload_n 2, 1) := by decide +kernel
theorem dX2_span_15 : decode cX2_span 15 = .ok (.invokevirtual 58, 3) := by decide +kernel
theorem dX2_span_18 : decode cX2_span 18 = .ok (.ifCond .eq 7, 3) := by decide +kernel
theorem dX2_span_21 : decode cX2_span 21 = .ok (.iload_n 3, 1) := by decide +kernel
theorem dX2_span_22 : decode cX2_span 22 = .ok (.ifCond .ge 5, 3) := by decide +kernel
theorem dX2_span_25 : decode cX2_span 25 = .ok (.iconst (-1), 1) := by decide +kernel
theorem dX2_span_26 : decode cX2_span 26 = .ok (.ireturn, 1) := by decide +kernel
theorem dX2_span_27 : decode cX2_span 27 = .ok (.aload 4, 2) := by decide +kernel
theorem dX2_span_29 : decode cX2_span 29 = .ok (.getfield 61, 3) := by decide +kernel
theorem dX2_span_32 : decode cX2_span 32 = .ok (.iload_n 2, 1) := by decide +kernel
theorem dX2_span_33 : decode cX2_span 33 = .ok (.iaload, 1) := by decide +kernel
theorem dX2_span_34 : decode cX2_span 34 = .ok (.ifCond .eq 6, 3) := by decide +kernel
theorem dX2_span_37 : decode cX2_span 37 = .ok (.bipush (-3), 2) := by decide +kernel
theorem dX2_span_39 : decode cX2_span 39 = .ok (.ireturn, 1) := by decide +kernel
theorem dX2_span_40 : decode cX2_span 40 = .ok (.iconst 0, 1) := by decide +kernel
theorem dX2_span_41 : decode cX2_span 41 = .ok (.istore 5, 2) := by decide +kernel
theorem dX2_span_43 : decode cX2_span 43 = .ok (.iconst 0, 1) := by decide +kernel
theorem dX2_span_44 : decode cX2_span 44 = .ok (.istore 6, 2) := by decide +kernel
theorem dX2_span_46 : decode cX2_span 46 = .ok (.iload 6, 2) := by decide +kernel
theorem dX2_span_48 : decode cX2_span 48 = .ok (.bipush 20, 2) := by decide +kernel
theorem dX2_span_50 : decode cX2_span 50 = .ok (.if_icmp .gt 33, 3) := by decide +kernel
theorem dX2_span_53 : decode cX2_span 53 = .ok (.aload_n 0, 1) := by decide +kernel
theorem dX2_span_54 : decode cX2_span 54 = .ok (.aload 4, 2) := by decide +kernel
theorem dX2_span_56 : decode cX2_span 56 = .ok (.iload_n 2, 1) := by decide +kernel
theorem dX2_span_57 : decode cX2_span 57 = .ok (.iload 6, 2) := by decide +kernel
theorem dX2_span_59 : decode cX2_span 59 = .ok (.invokevirtual 184, 3) := by decide +kernel
theorem dX2_span_62 : decode cX2_span 62 = .ok (.ifCond .eq 15, 3) := by decide +kernel
theorem dX2_span_65 : decode cX2_span 65 = .ok (.iload 5, 2) := by decide +kernel
theorem dX2_span_67 : decode cX2_span 67 = .ok (.iload_n 3, 1) := by decide +kernel
theorem dX2_span_68 : decode cX2_span 68 = .ok (.if_icmp .ne 6, 3) := by decide +kernel
theorem dX2_span_71 : decode cX2_span 71 = .ok (.iload 6, 2) := by decide +kernel
theorem dX2_span_73 : decode cX2_span 73 = .ok (.ireturn, 1) := by decide +kernel
theorem dX2_span_74 : decode cX2_span 74 = .ok (.iinc 5 1, 3) := by decide +kernel
theorem dX2_span_77 : decode cX2_span 77 = .ok (.iinc 6 1, 3) := by decide +kernel
theorem dX2_span_80 : decode cX2_span 80 = .ok (.goto (-34), 3) := by decide +kernel
theorem dX2_span_83 : decode cX2_span 83 = .ok (.iconst (-1), 1) := by decide +kernel
theorem dX2_span_84 : decode cX2_span 84 = .ok (.ireturn, 1) := by decide +kernel
set_option maxRecDepth 20000 in
theorem ggX2_own_X2_isStrength : GoodIn wsX2_own wsX2_isStrength := goodIn_r _ [6] (by decide +kernel) (by decide +kernel)
set_option maxRecDepth 20000 in
theorem gX2_own_X2_isStrength : GoodIn wsX2_own (va_wsS RX2 188 yX2_isStrength wsX2_isStrength) := goodIn_app (goodIn_of _ (by decide +kernel)) ggX2_own_X2_isStrength
theorem dX2_own_0 : decode cX2_own 0 = .ok (.iload_n 1, 1) := by decide +kernel
theorem dX2_own_1 : decode cX2_own 1 = .ok (.invokestatic 188, 3) := by decide +kernel
theorem dX2_own_4 : decode cX2_own 4 = .ok (.ifCond .ne 6, 3) := by decide +kernel
theorem dX2_own_7 : decode cX2_own 7 = .ok (.bipush (-2), 2) := by decide +kernel
theorem dX2_own_9 : decode cX2_own 9 = .ok (.ireturn, 1) := by decide +kernel
theorem dX2_own_10 : decode cX2_own 10 = .ok (.aload_n 0, 1) := by decide +kernel
theorem dX2_own_11 : decode cX2_own 11 = .ok (.getfield 25, 3) := by decide +kernel
theorem dX2_own_14 : decode cX2_own 14 = .ok (.bipush 12, 2) := by decide +kernel
theorem dX2_own_16 : decode cX2_own 16 = .ok (.if_icmp .lt 6, 3) := by decide +kernel
theorem dX2_own_19 : decode cX2_own 19 = .ok (.bipush (-4), 2) := by decide +kernel
theorem dX2_own_21 : decode cX2_own 21 = .ok (.ireturn, 1) := by decide +kernel
theorem dX2_own_22 : decode cX2_own 22 = .ok (.aload_n 0, 1) := by decide +kernel
theorem dX2_own_23 : decode cX2_own 23 = .ok (.getfield 21, 3) := by decide +kernel
theorem dX2_own_26 : decode cX2_own 26 = .ok (.aload_n 0, 1) := by decide +kernel
theorem dX2_own_27 : decode cX2_own 27 = .ok (.getfield 25, 3) := by decide +kernel
theorem dX2_own_30 : decode cX2_own 30 = .ok (.iload_n 1, 1) := by decide +kernel
theorem dX2_own_31 : decode cX2_own 31 = .ok (.iastore, 1) := by decide +kernel
theorem dX2_own_32 : decode cX2_own 32 = .ok (.aload_n 0, 1) := by decide +kernel
theorem dX2_own_33 : decode cX2_own 33 = .ok (.dup, 1) := by decide +kernel
theorem dX2_own_34 : decode cX2_own 34 = .ok (.getfield 25, 3) := by decide +kernel
theorem dX2_own_37 : decode cX2_own 37 = .ok (.iconst 1, 1) := by decide +kernel
theorem dX2_own_38 : decode cX2_own 38 = .ok (.iadd, 1) := by decide +kernel
theorem dX2_own_39 : decode cX2_own 39 = .ok (.putfield 25, 3) := by decide +kernel
theorem dX2_own_42 : decode cX2_own 42 = .ok (.aload_n 0, 1) := by decide +kernel
theorem dX2_own_43 : decode cX2_own 43 = .ok (.getfield 25, 3) := by decide +kernel
theorem dX2_own_46 : decode cX2_own 46 = .ok (.ireturn, 1) := by decide +kernel
set_option maxRecDepth 20000 in
theorem ggX2_fit_X2_rowAt : GoodIn wsX2_fit wsX2_rowAt := goodIn_r _ [8, 9, 10, 93, 94, 95, 96, 97, 98] (by decide +kernel) (by decide +kernel)
set_option maxRecDepth 20000 in
theorem gX2_fit_X2_rowAt : GoodIn wsX2_fit (wsV RX2 39 RX2 yX2_rowAt wsX2_rowAt) := goodIn_app (goodIn_of _ (by decide +kernel)) ggX2_fit_X2_rowAt
set_option maxRecDepth 20000 in
theorem ggX2_fit_X0_has : GoodIn wsX2_fit wsX0_has := goodIn_r _ [15, 16, 89, 90, 91, 92] (by decide +kernel) (by decide +kernel)
set_option maxRecDepth 20000 in
theorem gX2_fit_X0_has : GoodIn wsX2_fit (wsV RX2 58 RX0 yX0_has wsX0_has) := goodIn_app (goodIn_of _ (by decide +kernel)) ggX2_fit_X0_has
set_option maxRecDepth 20000 in
theorem ggX2_fit_X2_holdsWith : GoodIn wsX2_fit wsX2_holdsWith := goodIn_r _ [20, 21, 22, 23, 24, 7, 25, 26, 27, 28, 29, 30, 31, 32, 33, 34, 35, 36, 37, 38, 39, 40, 41, 42, 43, 44, 45, 46, 47, 48, 49, 50, 12, 13, 14, 15, 16, 51, 52, 53, 54, 55, 56, 57, 58, 59, 60, 61, 62, 63, 64, 65, 66, 67, 68, 69, 70, 71, 72, 73, 74, 75, 76, 77, 78, 79, 80, 81, 82, 83, 84, 85, 86, 87, 88, 89, 90, 91, 92, 93, 94, 95, 96, 97, 98, 99, 100, 101, 102, 103, 104, 105] (by decide +kernel) (by decide +kernel)
set_option maxRecDepth 20000 in
theorem gX2_fit_X2_holdsWith : GoodIn wsX2_fit (wsV RX2 184 RX2 yX2_holdsWith wsX2_holdsWith) := goodIn_app (goodIn_of _ (by decide +kernel)) ggX2_fit_X2_holdsWith
theorem dX2_fit_0 : decode cX2_fit 0 = .ok (.aload_n 0, 1) := by decide +kernel
theorem dX2_fit_1 : decode cX2_fit 1 = .ok (.iload_n 1, 1) := by decide +kernel
theorem dX2_fit_2 : decode cX2_fit 2 = .ok (.invokevirtual 39, 3) := by decide +kernel
theorem dX2_fit_5 : decode cX2_fit 5 = .ok (.astore_n 3, 1) := by decide +kernel
theorem dX2_fit_6 : decode cX2_fit 6 = .ok (.aload_n 3, 1) := by decide +kernel
theorem dX2_fit_7 : decode cX2_fit 7 = .ok (.ifnull 11, 3) := by decide +kernel
theorem dX2_fit_10 : decode cX2_fit 10 = .ok (.aload_n 3, 1) := by decide +kernel
theorem dX2_fit_11 : decode cX2_fit 11 = .ok (.iload_n 2, 1) := by decide +kernel
theorem dX2_fit_12 : decode cX2_fit 12 = .ok (.invokevirtual 58, 3) := by decide +kernel
theorem dX2_fit_15 : decode cX2_fit 15 = .ok (.ifCond .ne 5, 3) := by decide +kernel
theorem dX2_fit_18 : decode cX2_fit 18 = .ok (.iconst (-1), 1) := by decide +kernel
theorem dX2_fit_19 : decode cX2_fit 19 = .ok (.ireturn, 1) := by decide +kernel
theorem dX2_fit_20 : decode cX2_fit 20 = .ok (.aload_n 3, 1) := by decide +kernel
theorem dX2_fit_21 : decode cX2_fit 21 = .ok (.getfield 61, 3) := by decide +kernel
theorem dX2_fit_24 : decode cX2_fit 24 = .ok (.iload_n 2, 1) := by decide +kernel
theorem dX2_fit_25 : decode cX2_fit 25 = .ok (.iaload, 1) := by decide +kernel
theorem dX2_fit_26 : decode cX2_fit 26 = .ok (.iconst 1, 1) := by decide +kernel
theorem dX2_fit_27 : decode cX2_fit 27 = .ok (.if_icmp .eq 6, 3) := by decide +kernel
theorem dX2_fit_30 : decode cX2_fit 30 = .ok (.bipush (-3), 2) := by decide +kernel
theorem dX2_fit_32 : decode cX2_fit 32 = .ok (.ireturn, 1) := by decide +kernel
theorem dX2_fit_33 : decode cX2_fit 33 = .ok (.iconst 0, 1) := by decide +kernel
theorem dX2_fit_34 : decode cX2_fit 34 = .ok (.istore 4, 2) := by decide +kernel
theorem dX2_fit_36 : decode cX2_fit 36 = .ok (.iload 4, 2) := by decide +kernel
theorem dX2_fit_38 : decode cX2_fit 38 = .ok (.aload_n 0, 1) := by decide +kernel
theorem dX2_fit_39 : decode cX2_fit 39 = .ok (.getfield 25, 3) := by decide +kernel
theorem dX2_fit_42 : decode cX2_fit 42 = .ok (.if_icmp .ge 28, 3) := by decide +kernel
theorem dX2_fit_45 : decode cX2_fit 45 = .ok (.aload_n 0, 1) := by decide +kernel
theorem dX2_fit_46 : decode cX2_fit 46 = .ok (.aload_n 3, 1) := by decide +kernel
theorem dX2_fit_47 : decode cX2_fit 47 = .ok (.iload_n 2, 1) := by decide +kernel
theorem dX2_fit_48 : decode cX2_fit 48 = .ok (.aload_n 0, 1) := by decide +kernel
theorem dX2_fit_49 : decode cX2_fit 49 = .ok (.getfield 21, 3) := by decide +kernel
theorem dX2_fit_52 : decode cX2_fit 52 = .ok (.iload 4, 2) := by decide +kernel
theorem dX2_fit_54 : decode cX2_fit 54 = .ok (.iaload, 1) := by decide +kernel
theorem dX2_fit_55 : decode cX2_fit 55 = .ok (.invokevirtual 184, 3) := by decide +kernel
theorem dX2_fit_58 : decode cX2_fit 58 = .ok (.ifCond .eq 6, 3) := by decide +kernel
theorem dX2_fit_61 : decode cX2_fit 61 = .ok (.iload 4, 2) := by decide +kernel
theorem dX2_fit_63 : decode cX2_fit 63 = .ok (.ireturn, 1) := by decide +kernel
theorem dX2_fit_64 : decode cX2_fit 64 = .ok (.iinc 4 1, 3) := by decide +kernel
theorem dX2_fit_67 : decode cX2_fit 67 = .ok (.goto (-31), 3) := by decide +kernel
theorem dX2_fit_70 : decode cX2_fit 70 = .ok (.iconst (-1), 1) := by decide +kernel
theorem dX2_fit_71 : decode cX2_fit 71 = .ok (.ireturn, 1) := by decide +kernel
set_option maxRecDepth 20000 in
theorem ggX2_swap_X2_rowAt : GoodIn wsX2_swap wsX2_rowAt := goodIn_r _ [8, 9, 10, 26, 27, 28, 29, 30, 31] (by decide +kernel) (by decide +kernel)
set_option maxRecDepth 20000 in
theorem gX2_swap_X2_rowAt : GoodIn wsX2_swap (wsV RX2 39 RX2 yX2_rowAt wsX2_rowAt) := goodIn_app (goodIn_of _ (by decide +kernel)) ggX2_swap_X2_rowAt
set_option maxRecDepth 20000 in
theorem ggX2_swap_X0_has : GoodIn wsX2_swap wsX0_has := goodIn_r _ [15, 16, 22, 23, 24, 25] (by decide +kernel) (by decide +kernel)
set_option maxRecDepth 20000 in
theorem gX2_swap_X0_has : GoodIn wsX2_swap (wsV RX2 58 RX0 yX0_has wsX0_has) := goodIn_app (goodIn_of _ (by decide +kernel)) ggX2_swap_X0_has
set_option maxRecDepth 20000 in
theorem ggX2_swap_X2_isPlace : GoodIn wsX2_swap wsX2_isPlace := goodIn_r _ [20, 21, 26, 27, 28, 29, 30, 31] (by decide +kernel) (by decide +kernel)
set_option maxRecDepth 20000 in
theorem gX2_swap_X2_isPlace : GoodIn wsX2_swap (wsV RX2 191 RX2 yX2_isPlace wsX2_isPlace) := goodIn_app (goodIn_of _ (by decide +kernel)) ggX2_swap_X2_isPlace
theorem dX2_swap_0 : decode cX2_swap 0 = .ok (.aload_n 0, 1) := by decide +kernel
theorem dX2_swap_1 : decode cX2_swap 1 = .ok (.iload_n 1, 1) := by decide +kernel
theorem dX2_swap_2 : decode cX2_swap 2 = .ok (.invokevirtual 39, 3) := by decide +kernel
theorem dX2_swap_5 : decode cX2_swap 5 = .ok (.astore 4, 2) := by decide +kernel
theorem dX2_swap_7 : decode cX2_swap 7 = .ok (.aload 4, 2) := by decide +kernel
theorem dX2_swap_9 : decode cX2_swap 9 = .ok (.ifnull 20, 3) := by decide +kernel
theorem dX2_swap_12 : decode cX2_swap 12 = .ok (.aload 4, 2) := by decide +kernel
theorem dX2_swap_14 : decode cX2_swap 14 = .ok (.iload_n 2, 1) := by decide +kernel
theorem dX2_swap_15 : decode cX2_swap 15 = .ok (.invokevirtual 58, 3) := by decide +kernel
theorem dX2_swap_18 : decode cX2_swap 18 = .ok (.ifCond .eq 11, 3) := by decide +kernel
theorem dX2_swap_21 : decode cX2_swap 21 = .ok (.aload_n 0, 1) := by decide +kernel
theorem dX2_swap_22 : decode cX2_swap 22 = .ok (.iload_n 3, 1) := by decide +kernel
theorem dX2_swap_23 : decode cX2_swap 23 = .ok (.invokevirtual 191, 3) := by decide +kernel
theorem dX2_swap_26 : decode cX2_swap 26 = .ok (.ifCond .ne 5, 3) := by decide +kernel
theorem dX2_swap_29 : decode cX2_swap 29 = .ok (.iconst (-1), 1) := by decide +kernel
theorem dX2_swap_30 : decode cX2_swap 30 = .ok (.ireturn, 1) := by decide +kernel
theorem dX2_swap_31 : decode cX2_swap 31 = .ok (.aload 4, 2) := by decide +kernel
theorem dX2_swap_33 : decode cX2_swap 33 = .ok (.getfield 61, 3) := by decide +kernel
theorem dX2_swap_36 : decode cX2_swap 36 = .ok (.iload_n 2, 1) := by decide +kernel
theorem dX2_swap_37 : decode cX2_swap 37 = .ok (.iaload, 1) := by decide +kernel
theorem dX2_swap_38 : decode cX2_swap 38 = .ok (.iconst 1, 1) := by decide +kernel
theorem dX2_swap_39 : decode cX2_swap 39 = .ok (.if_icmp .eq 6, 3) := by decide +kernel
theorem dX2_swap_42 : decode cX2_swap 42 = .ok (.bipush (-3), 2) := by decide +kernel
theorem dX2_swap_44 : decode cX2_swap 44 = .ok (.ireturn, 1) := by decide +kernel
theorem dX2_swap_45 : decode cX2_swap 45 = .ok (.aload 4, 2) := by decide +kernel
theorem dX2_swap_47 : decode cX2_swap 47 = .ok (.getfield 68, 3) := by decide +kernel
theorem dX2_swap_50 : decode cX2_swap 50 = .ok (.iload_n 2, 1) := by decide +kernel
theorem dX2_swap_51 : decode cX2_swap 51 = .ok (.iaload, 1) := by decide +kernel
theorem dX2_swap_52 : decode cX2_swap 52 = .ok (.istore 5, 2) := by decide +kernel
theorem dX2_swap_54 : decode cX2_swap 54 = .ok (.aload 4, 2) := by decide +kernel
theorem dX2_swap_56 : decode cX2_swap 56 = .ok (.getfield 68, 3) := by decide +kernel
theorem dX2_swap_59 : decode cX2_swap 59 = .ok (.iload_n 2, 1) := by decide +kernel
theorem dX2_swap_60 : decode cX2_swap 60 = .ok (.aload_n 0, 1) := by decide +kernel
theorem dX2_swap_61 : decode cX2_swap 61 = .ok (.getfield 21, 3) := by decide +kernel
theorem dX2_swap_64 : decode cX2_swap 64 = .ok (.iload_n 3, 1) := by decide +kernel
theorem dX2_swap_65 : decode cX2_swap 65 = .ok (.iaload, 1) := by decide +kernel
theorem dX2_swap_66 : decode cX2_swap 66 = .ok (.iastore, 1) := by decide +kernel
theorem dX2_swap_67 : decode cX2_swap 67 = .ok (.aload_n 0, 1) := by decide +kernel
theorem dX2_swap_68 : decode cX2_swap 68 = .ok (.getfield 21, 3) := by decide +kernel
theorem dX2_swap_71 : decode cX2_swap 71 = .ok (.iload_n 3, 1) := by decide +kernel
theorem dX2_swap_72 : decode cX2_swap 72 = .ok (.iload 5, 2) := by decide +kernel
theorem dX2_swap_74 : decode cX2_swap 74 = .ok (.iastore, 1) := by decide +kernel
theorem dX2_swap_75 : decode cX2_swap 75 = .ok (.iload 5, 2) := by decide +kernel
theorem dX2_swap_77 : decode cX2_swap 77 = .ok (.ireturn, 1) := by decide +kernel
set_option maxRecDepth 20000 in
theorem ggX2_count_X2_partsOfAll : GoodIn wsX2_count wsX2_partsOfAll := goodIn_r _ [7, 8, 9, 86, 87, 88, 89, 90, 91, 92, 93, 94, 95] (by decide +kernel) (by decide +kernel)
set_option maxRecDepth 20000 in
theorem gX2_count_X2_partsOfAll : GoodIn wsX2_count (wsV RX2 194 RX2 yX2_partsOfAll wsX2_partsOfAll) := goodIn_app (goodIn_of _ (by decide +kernel)) ggX2_count_X2_partsOfAll
set_option maxRecDepth 20000 in
theorem ggX2_count_X2_holdingRows : GoodIn wsX2_count wsX2_holdingRows := goodIn_r _ [13, 8, 14, 15, 16, 6, 17, 18, 19, 20, 21, 22, 23, 24, 25, 26, 27, 28, 29, 30, 31, 32, 33, 34, 35, 36, 37, 38, 39, 40, 41, 42, 43, 44, 45, 46, 47, 48, 49, 50, 51, 52, 53, 54, 55, 56, 57, 58, 59, 60, 61, 62, 63, 64, 65, 66, 67, 68, 69, 70, 71, 72, 73, 74, 75, 76, 77, 78, 79, 80, 81, 82, 83, 84, 85, 86, 87, 88, 89, 90, 91, 92, 93, 94, 95, 96, 97, 98, 99, 100, 101, 102] (by decide +kernel) (by decide +kernel)
set_option maxRecDepth 20000 in
theorem gX2_count_X2_holdingRows : GoodIn wsX2_count (wsV RX2 197 RX2 yX2_holdingRows wsX2_holdingRows) := goodIn_app (goodIn_of _ (by decide +kernel)) ggX2_count_X2_holdingRows
theorem dX2_count_0 : decode cX2_count 0 = .ok (.iload_n 1, 1) := by decide +kernel
theorem dX2_count_1 : decode cX2_count 1 = .ok (.tableswitch 51 0 3 #[31, 36, 41, 46], 31) := by decide +kernel
theorem dX2_count_32 : decode cX2_count 32 = .ok (.aload_n 0, 1) := by decide +kernel
theorem dX2_count_33 : decode cX2_count 33 = .ok (.getfield 17, 3) := by decide +kernel
theorem dX2_count_36 : decode cX2_count 36 = .ok (.ireturn, 1) := by decide +kernel
theorem dX2_count_37 : decode cX2_count 37 = .ok (.aload_n 0, 1) := by decide +kernel
theorem dX2_count_38 : decode cX2_count 38 = .ok (.invokevirtual 194, 3) := by decide +kernel
theorem dX2_count_41 : decode cX2_count 41 = .ok (.ireturn, 1) := by decide +kernel
theorem dX2_count_42 : decode cX2_count 42 = .ok (.aload_n 0, 1) := by decide +kernel
theorem dX2_count_43 : decode cX2_count 43 = .ok (.getfield 25, 3) := by decide +kernel
theorem dX2_count_46 : decode cX2_count 46 = .ok (.ireturn, 1) := by decide +kernel
theorem dX2_count_47 : decode cX2_count 47 = .ok (.aload_n 0, 1) := by decide +kernel
theorem dX2_count_48 : decode cX2_count 48 = .ok (.invokevirtual 197, 3) := by decide +kernel
theorem dX2_count_51 : decode cX2_count 51 = .ok (.ireturn, 1) := by decide +kernel
theorem dX2_count_52 : decode cX2_count 52 = .ok (.iconst (-1), 1) := by decide +kernel
theorem dX2_count_53 : decode cX2_count 53 = .ok (.ireturn, 1) := by decide +kernel
set_option maxRecDepth 20000 in
theorem ggX2_drawer_X2_isPlace : GoodIn wsX2_drawer wsX2_isPlace := goodIn_r _ [6, 7, 8, 9, 10, 11, 12, 13] (by decide +kernel) (by decide +kernel)
set_option maxRecDepth 20000 in
theorem gX2_drawer_X2_isPlace : GoodIn wsX2_drawer (wsV RX2 191 RX2 yX2_isPlace wsX2_isPlace) := goodIn_app (goodIn_of _ (by decide +kernel)) ggX2_drawer_X2_isPlace
theorem dX2_drawer_0 : decode cX2_drawer 0 = .ok (.aload_n 0, 1) := by decide +kernel
theorem dX2_drawer_1 : decode cX2_drawer 1 = .ok (.iload_n 1, 1) := by decide +kernel
theorem dX2_drawer_2 : decode cX2_drawer 2 = .ok (.invokevirtual 191, 3) := by decide +kernel
theorem dX2_drawer_5 : decode cX2_drawer 5 = .ok (.ifCond .eq 12, 3) := by decide +kernel
theorem dX2_drawer_8 : decode cX2_drawer 8 = .ok (.aload_n 0, 1) := by decide +kernel
theorem dX2_drawer_9 : decode cX2_drawer 9 = .ok (.getfield 21, 3) := by decide +kernel
theorem dX2_drawer_12 : decode cX2_drawer 12 = .ok (.iload_n 1, 1) := by decide +kernel
theorem dX2_drawer_13 : decode cX2_drawer 13 = .ok (.iaload, 1) := by decide +kernel
theorem dX2_drawer_14 : decode cX2_drawer 14 = .ok (.goto 4, 3) := by decide +kernel
theorem dX2_drawer_17 : decode cX2_drawer 17 = .ok (.iconst 0, 1) := by decide +kernel
theorem dX2_drawer_18 : decode cX2_drawer 18 = .ok (.ireturn, 1) := by decide +kernel
theorem dX2_rowAt_0 : decode cX2_rowAt 0 = .ok (.iload_n 1, 1) := by decide +kernel
theorem dX2_rowAt_1 : decode cX2_rowAt 1 = .ok (.ifCond .lt 20, 3) := by decide +kernel
theorem dX2_rowAt_4 : decode cX2_rowAt 4 = .ok (.iload_n 1, 1) := by decide +kernel
theorem dX2_rowAt_5 : decode cX2_rowAt 5 = .ok (.aload_n 0, 1) := by decide +kernel
theorem dX2_rowAt_6 : decode cX2_rowAt 6 = .ok (.getfield 17, 3) := by decide +kernel
theorem dX2_rowAt_9 : decode cX2_rowAt 9 = .ok (.if_icmp .ge 12, 3) := by decide +kernel
theorem dX2_rowAt_12 : decode cX2_rowAt 12 = .ok (.aload_n 0, 1) := by decide +kernel
theorem dX2_rowAt_13 : decode cX2_rowAt 13 = .ok (.getfield 13, 3) := by decide +kernel
theorem dX2_rowAt_16 : decode cX2_rowAt 16 = .ok (.iload_n 1, 1) := by decide +kernel
theorem dX2_rowAt_17 : decode cX2_rowAt 17 = .ok (.aaload, 1) := by decide +kernel
theorem dX2_rowAt_18 : decode cX2_rowAt 18 = .ok (.goto 4, 3) := by decide +kernel
theorem dX2_rowAt_21 : decode cX2_rowAt 21 = .ok (.aconst_null, 1) := by decide +kernel
theorem dX2_rowAt_22 : decode cX2_rowAt 22 = .ok (.areturn, 1) := by decide +kernel
theorem dX2_isPlace_0 : decode cX2_isPlace 0 = .ok (.iload_n 1, 1) := by decide +kernel
theorem dX2_isPlace_1 : decode cX2_isPlace 1 = .ok (.ifCond .lt 15, 3) := by decide +kernel
theorem dX2_isPlace_4 : decode cX2_isPlace 4 = .ok (.iload_n 1, 1) := by decide +kernel
theorem dX2_isPlace_5 : decode cX2_isPlace 5 = .ok (.aload_n 0, 1) := by decide +kernel
theorem dX2_isPlace_6 : decode cX2_isPlace 6 = .ok (.getfield 25, 3) := by decide +kernel
theorem dX2_isPlace_9 : decode cX2_isPlace 9 = .ok (.if_icmp .ge 7, 3) := by decide +kernel
theorem dX2_isPlace_12 : decode cX2_isPlace 12 = .ok (.iconst 1, 1) := by decide +kernel
theorem dX2_isPlace_13 : decode cX2_isPlace 13 = .ok (.goto 4, 3) := by decide +kernel
theorem dX2_isPlace_16 : decode cX2_isPlace 16 = .ok (.iconst 0, 1) := by decide +kernel
theorem dX2_isPlace_17 : decode cX2_isPlace 17 = .ok (.ireturn, 1) := by decide +kernel
theorem dX2_partsOfAll_0 : decode cX2_partsOfAll 0 = .ok (.iconst 0, 1) := by decide +kernel
theorem dX2_partsOfAll_1 : decode cX2_partsOfAll 1 = .ok (.istore_n 1, 1) := by decide +kernel
theorem dX2_partsOfAll_2 : decode cX2_partsOfAll 2 = .ok (.aload_n 0, 1) := by decide +kernel
theorem dX2_partsOfAll_3 : decode cX2_partsOfAll 3 = .ok (.getfield 13, 3) := by decide +kernel
theorem dX2_partsOfAll_6 : decode cX2_partsOfAll 6 = .ok (.astore_n 2, 1) := by decide +kernel
theorem dX2_partsOfAll_7 : decode cX2_partsOfAll 7 = .ok (.aload_n 2, 1) := by decide +kernel
theorem dX2_partsOfAll_8 : decode cX2_partsOfAll 8 = .ok (.arraylength, 1) := by decide +kernel
theorem dX2_partsOfAll_9 : decode cX2_partsOfAll 9 = .ok (.istore_n 3, 1) := by decide +kernel
theorem dX2_partsOfAll_10 : decode cX2_partsOfAll 10 = .ok (.iconst 0, 1) := by decide +kernel
theorem dX2_partsOfAll_11 : decode cX2_partsOfAll 11 = .ok (.istore 4, 2) := by decide +kernel
theorem dX2_partsOfAll_13 : decode cX2_partsOfAll 13 = .ok (.iload 4, 2) := by decide +kernel
theorem dX2_partsOfAll_15 : decode cX2_partsOfAll 15 = .ok (.iload_n 3, 1) := by decide +kernel
theorem dX2_partsOfAll_16 : decode cX2_partsOfAll 16 = .ok (.if_icmp .ge 28, 3) := by decide +kernel
theorem dX2_partsOfAll_19 : decode cX2_partsOfAll 19 = .ok (.aload_n 2, 1) := by decide +kernel
theorem dX2_partsOfAll_20 : decode cX2_partsOfAll 20 = .ok (.iload 4, 2) := by decide +kernel
theorem dX2_partsOfAll_22 : decode cX2_partsOfAll 22 = .ok (.aaload, 1) := by decide +kernel
theorem dX2_partsOfAll_23 : decode cX2_partsOfAll 23 = .ok (.astore 5, 2) := by decide +kernel
theorem dX2_partsOfAll_25 : decode cX2_partsOfAll 25 = .ok (.aload 5, 2) := by decide +kernel
theorem dX2_partsOfAll_27 : decode cX2_partsOfAll 27 = .ok (.ifnull 11, 3) := by decide +kernel
theorem dX2_partsOfAll_30 : decode cX2_partsOfAll 30 = .ok (.iload_n 1, 1) := by decide +kernel
theorem dX2_partsOfAll_31 : decode cX2_partsOfAll 31 = .ok (.aload 5, 2) := by decide +kernel
theorem dX2_partsOfAll_33 : decode cX2_partsOfAll 33 = .ok (.getfield 43, 3) := by decide +kernel
theorem dX2_partsOfAll_36 : decode cX2_partsOfAll 36 = .ok (.iadd, 1) := by decide +kernel
theorem dX2_partsOfAll_37 : decode cX2_partsOfAll 37 = .ok (.istore_n 1, 1) := by decide +kernel
theorem dX2_partsOfAll_38 : decode cX2_partsOfAll 38 = .ok (.iinc 4 1, 3) := by decide +kernel
theorem dX2_partsOfAll_41 : decode cX2_partsOfAll 41 = .ok (.goto (-28), 3) := by decide +kernel
theorem dX2_partsOfAll_44 : decode cX2_partsOfAll 44 = .ok (.iload_n 1, 1) := by decide +kernel
theorem dX2_partsOfAll_45 : decode cX2_partsOfAll 45 = .ok (.ireturn, 1) := by decide +kernel
set_option maxRecDepth 20000 in
theorem ggX2_holdingRows_X2_holdsBothWays : GoodIn wsX2_holdingRows wsX2_holdsBothWays := goodIn_r _ [6, 7, 8, 9, 10, 11, 12, 13, 14, 15, 16, 17, 18, 19, 20, 21, 22, 23, 24, 25, 26, 27, 28, 29, 30, 31, 32, 33, 34, 35, 36, 37, 38, 39, 40, 41, 42, 43, 44, 45, 46, 47, 48, 49, 50, 51, 52, 53, 54, 55, 56, 57, 58, 59, 60, 61, 62, 63, 64, 65, 66, 67, 68, 69, 70, 71, 72, 73, 74, 75, 76, 77, 78, 79, 80, 81, 82, 83, 84, 85, 86, 87, 88, 89, 90, 91] (by decide +kernel) (by decide +kernel)
set_option maxRecDepth 20000 in
theorem gX2_holdingRows_X2_holdsBothWays : GoodIn wsX2_holdingRows (wsV RX2 200 RX2 yX2_holdsBothWays wsX2_holdsBothWays) := goodIn_app (goodIn_of _ (by decide +kernel)) ggX2_holdingRows_X2_holdsBothWays
theorem dX2_holdingRows_0 : decode cX2_holdingRows 0 = .ok (.iconst 0, 1) := by decide +kernel
theorem dX2_holdingRows_1 : decode cX2_holdingRows 1 = .ok (.istore_n 1, 1) := by decide +kernel
theorem dX2_holdingRows_2 : decode cX2_holdingRows 2 = .ok (.aload_n 0, 1) := by decide +kernel
theorem dX2_holdingRows_3 : decode cX2_holdingRows 3 = .ok (.getfield 13, 3) := by decide +kernel
theorem dX2_holdingRows_6 : decode cX2_holdingRows 6 = .ok (.astore_n 2, 1) := by decide +kernel
theorem dX2_holdingRows_7 : decode cX2_holdingRows 7 = .ok (.aload_n 2, 1) := by decide +kernel
theorem dX2_holdingRows_8 : decode cX2_holdingRows 8 = .ok (.arraylength, 1) := by decide +kernel
theorem dX2_holdingRows_9 : decode cX2_holdingRows 9 = .ok (.istore_n 3, 1) := by decide +kernel
theorem dX2_holdingRows_10 : decode cX2_holdingRows 10 = .ok (.iconst 0, 1) := by decide +kernel
theorem dX2_holdingRows_11 : decode cX2_holdingRows 11 = .ok (.istore 4, 2) := by decide +kernel
theorem dX2_holdingRows_13 : decode cX2_holdingRows 13 = .ok (.iload 4, 2) := by decide +kernel
theorem dX2_holdingRows_15 : decode cX2_holdingRows 15 = .ok (.iload_n 3, 1) := by decide +kernel
theorem dX2_holdingRows_16 : decode cX2_holdingRows 16 = .ok (.if_icmp .ge 32, 3) := by decide +kernel
theorem dX2_holdingRows_19 : decode cX2_holdingRows 19 = .ok (.aload_n 2, 1) := by decide +kernel
theorem dX2_holdingRows_20 : decode cX2_holdingRows 20 = .ok (.iload 4, 2) := by decide +kernel
theorem dX2_holdingRows_22 : decode cX2_holdingRows 22 = .ok (.aaload, 1) := by decide +kernel
theorem dX2_holdingRows_23 : decode cX2_holdingRows 23 = .ok (.astore 5, 2) := by decide +kernel
theorem dX2_holdingRows_25 : decode cX2_holdingRows 25 = .ok (.aload 5, 2) := by decide +kernel
theorem dX2_holdingRows_27 : decode cX2_holdingRows 27 = .ok (.ifnull 15, 3) := by decide +kernel
theorem dX2_holdingRows_30 : decode cX2_holdingRows 30 = .ok (.aload_n 0, 1) := by decide +kernel
theorem dX2_holdingRows_31 : decode cX2_holdingRows 31 = .ok (.aload 5, 2) := by decide +kernel
theorem dX2_holdingRows_33 : decode cX2_holdingRows 33 = .ok (.invokevirtual 200, 3) := by decide +kernel
theorem dX2_holdingRows_36 : decode cX2_holdingRows 36 = .ok (.ifCond .eq 6, 3) := by decide +kernel
theorem dX2_holdingRows_39 : decode cX2_holdingRows 39 = .ok (.iinc 1 1, 3) := by decide +kernel
theorem dX2_holdingRows_42 : decode cX2_holdingRows 42 = .ok (.iinc 4 1, 3) := by decide +kernel
theorem dX2_holdingRows_45 : decode cX2_holdingRows 45 = .ok (.goto (-32), 3) := by decide +kernel
theorem dX2_holdingRows_48 : decode cX2_holdingRows 48 = .ok (.iload_n 1, 1) := by decide +kernel
theorem dX2_holdingRows_49 : decode cX2_holdingRows 49 = .ok (.ireturn, 1) := by decide +kernel
set_option maxRecDepth 20000 in
theorem ggX2_holdsBothWays_X1_leadThrough : GoodIn wsX2_holdsBothWays wsX1_leadThrough := goodIn_r _ [7, 8, 9, 10, 11, 6, 12, 13, 14, 15, 16, 17, 18, 19, 20, 21, 22, 23, 24, 25, 26, 27, 28, 29, 30, 31, 32, 33, 34, 35, 36, 37, 38, 39, 40, 41, 42, 43, 44, 45, 46, 47, 48, 49, 50, 75, 76, 77, 78, 79, 80, 81, 82, 83, 84, 85] (by decide +kernel) (by decide +kernel)
set_option maxRecDepth 20000 in
theorem gX2_holdsBothWays_X1_leadThrough : GoodIn wsX2_holdsBothWays (wsV RX2 93 RX1 yX1_leadThrough wsX1_leadThrough) := goodIn_app (goodIn_of _ (by decide +kernel)) ggX2_holdsBothWays_X1_leadThrough
set_option maxRecDepth 20000 in
theorem ggX2_holdsBothWays_X1_manner : GoodIn wsX2_holdsBothWays wsX1_manner := goodIn_r _ [54, 24, 55, 56, 57, 58, 59, 6, 60, 61, 62, 63, 64, 18, 21, 65, 66, 67, 68, 19, 20, 79, 80, 81, 82, 83, 84, 85] (by decide +kernel) (by decide +kernel)
set_option maxRecDepth 20000 in
theorem gX2_holdsBothWays_X1_manner : GoodIn wsX2_holdsBothWays (wsV RX2 154 RX1 yX1_manner wsX1_manner) := goodIn_app (goodIn_of _ (by decide +kernel)) ggX2_holdsBothWays_X1_manner
theorem dX2_holdsBothWays_0 : decode cX2_holdsBothWays 0 = .ok (.aload_n 0, 1) := by decide +kernel
theorem dX2_holdsBothWays_1 : decode cX2_holdsBothWays 1 = .ok (.getfield 31, 3) := by decide +kernel
theorem dX2_holdsBothWays_4 : decode cX2_holdsBothWays 4 = .ok (.aload_n 1, 1) := by decide +kernel
theorem dX2_holdsBothWays_5 : decode cX2_holdsBothWays 5 = .ok (.iconst 0, 1) := by decide +kernel
theorem dX2_holdsBothWays_6 : decode cX2_holdsBothWays 6 = .ok (.invokevirtual 93, 3) := by decide +kernel
theorem dX2_holdsBothWays_9 : decode cX2_holdsBothWays 9 = .ok (.aload_n 0, 1) := by decide +kernel
theorem dX2_holdsBothWays_10 : decode cX2_holdsBothWays 10 = .ok (.getfield 35, 3) := by decide +kernel
theorem dX2_holdsBothWays_13 : decode cX2_holdsBothWays 13 = .ok (.aload_n 1, 1) := by decide +kernel
theorem dX2_holdsBothWays_14 : decode cX2_holdsBothWays 14 = .ok (.iconst 1, 1) := by decide +kernel
theorem dX2_holdsBothWays_15 : decode cX2_holdsBothWays 15 = .ok (.invokevirtual 93, 3) := by decide +kernel
theorem dX2_holdsBothWays_18 : decode cX2_holdsBothWays 18 = .ok (.aload_n 0, 1) := by decide +kernel
theorem dX2_holdsBothWays_19 : decode cX2_holdsBothWays 19 = .ok (.getfield 31, 3) := by decide +kernel
theorem dX2_holdsBothWays_22 : decode cX2_holdsBothWays 22 = .ok (.invokevirtual 154, 3) := by decide +kernel
theorem dX2_holdsBothWays_25 : decode cX2_holdsBothWays 25 = .ok (.ifCond .ne 17, 3) := by decide +kernel
theorem dX2_holdsBothWays_28 : decode cX2_holdsBothWays 28 = .ok (.aload_n 0, 1) := by decide +kernel
theorem dX2_holdsBothWays_29 : decode cX2_holdsBothWays 29 = .ok (.getfield 35, 3) := by decide +kernel
theorem dX2_holdsBothWays_32 : decode cX2_holdsBothWays 32 = .ok (.invokevirtual 154, 3) := by decide +kernel
theorem dX2_holdsBothWays_35 : decode cX2_holdsBothWays 35 = .ok (.ifCond .ne 7, 3) := by decide +kernel
theorem dX2_holdsBothWays_38 : decode cX2_holdsBothWays 38 = .ok (.iconst 1, 1) := by decide +kernel
theorem dX2_holdsBothWays_39 : decode cX2_holdsBothWays 39 = .ok (.goto 4, 3) := by decide +kernel
theorem dX2_holdsBothWays_42 : decode cX2_holdsBothWays 42 = .ok (.iconst 0, 1) := by decide +kernel
theorem dX2_holdsBothWays_43 : decode cX2_holdsBothWays 43 = .ok (.ireturn, 1) := by decide +kernel
set_option maxRecDepth 20000 in
theorem ggX2_holdsWith_X2_holdsBothWays : GoodIn wsX2_holdsWith wsX2_holdsBothWays := goodIn_r _ [6, 7, 8, 9, 10, 11, 12, 13, 14, 15, 16, 17, 18, 19, 20, 21, 22, 23, 24, 25, 26, 27, 28, 29, 30, 31, 32, 33, 34, 35, 36, 37, 38, 39, 40, 41, 42, 43, 44, 45, 46, 47, 48, 49, 50, 51, 52, 53, 54, 55, 56, 57, 58, 59, 60, 61, 62, 63, 64, 65, 66, 67, 68, 69, 70, 71, 72, 73, 74, 79, 80, 81, 82, 83, 84, 75, 76, 77, 78, 85, 86, 87, 88, 89, 90, 91] (by decide +kernel) (by decide +kernel)
set_option maxRecDepth 20000 in
theorem gX2_holdsWith_X2_holdsBothWays : GoodIn wsX2_holdsWith (wsV RX2 200 RX2 yX2_holdsBothWays wsX2_holdsBothWays) := goodIn_app (goodIn_of _ (by decide +kernel)) ggX2_holdsWith_X2_holdsBothWays
theorem dX2_holdsWith_0 : decode cX2_holdsWith 0 = .ok (.aload_n 1, 1) := by decide +kernel
theorem dX2_holdsWith_1 : decode cX2_holdsWith 1 = .ok (.getfield 68, 3) := by decide +kernel
theorem dX2_holdsWith_4 : decode cX2_holdsWith 4 = .ok (.iload_n 2, 1) := by decide +kernel
theorem dX2_holdsWith_5 : decode cX2_holdsWith 5 = .ok (.iaload, 1) := by decide +kernel
theorem dX2_holdsWith_6 : decode cX2_holdsWith 6 = .ok (.istore 4, 2) := by decide +kernel
theorem dX2_holdsWith_8 : decode cX2_holdsWith 8 = .ok (.aload_n 1, 1) := by decide +kernel
theorem dX2_holdsWith_9 : decode cX2_holdsWith 9 = .ok (.getfield 68, 3) := by decide +kernel
theorem dX2_holdsWith_12 : decode cX2_holdsWith 12 = .ok (.iload_n 2, 1) := by decide +kernel
theorem dX2_holdsWith_13 : decode cX2_holdsWith 13 = .ok (.iload_n 3, 1) := by decide +kernel
theorem dX2_holdsWith_14 : decode cX2_holdsWith 14 = .ok (.iastore, 1) := by decide +kernel
theorem dX2_holdsWith_15 : decode cX2_holdsWith 15 = .ok (.aload_n 0, 1) := by decide +kernel
theorem dX2_holdsWith_16 : decode cX2_holdsWith 16 = .ok (.aload_n 1, 1) := by decide +kernel
theorem dX2_holdsWith_17 : decode cX2_holdsWith 17 = .ok (.invokevirtual 200, 3) := by decide +kernel
theorem dX2_holdsWith_20 : decode cX2_holdsWith 20 = .ok (.istore 5, 2) := by decide +kernel
theorem dX2_holdsWith_22 : decode cX2_holdsWith 22 = .ok (.aload_n 1, 1) := by decide +kernel
theorem dX2_holdsWith_23 : decode cX2_holdsWith 23 = .ok (.getfield 68, 3) := by decide +kernel
theorem dX2_holdsWith_26 : decode cX2_holdsWith 26 = .ok (.iload_n 2, 1) := by decide +kernel
theorem dX2_holdsWith_27 : decode cX2_holdsWith 27 = .ok (.iload 4, 2) := by decide +kernel
theorem dX2_holdsWith_29 : decode cX2_holdsWith 29 = .ok (.iastore, 1) := by decide +kernel
theorem dX2_holdsWith_30 : decode cX2_holdsWith 30 = .ok (.iload 5, 2) := by decide +kernel
theorem dX2_holdsWith_32 : decode cX2_holdsWith 32 = .ok (.ireturn, 1) := by decide +kernel
theorem dX2_isEither_0 : decode cX2_isEither 0 = .ok (.iload_n 0, 1) := by decide +kernel
theorem dX2_isEither_1 : decode cX2_isEither 1 = .ok (.ifCond .eq 8, 3) := by decide +kernel
theorem dX2_isEither_4 : decode cX2_isEither 4 = .ok (.iload_n 0, 1) := by decide +kernel
theorem dX2_isEither_5 : decode cX2_isEither 5 = .ok (.iconst 1, 1) := by decide +kernel
theorem dX2_isEither_6 : decode cX2_isEither 6 = .ok (.if_icmp .ne 7, 3) := by decide +kernel
theorem dX2_isEither_9 : decode cX2_isEither 9 = .ok (.iconst 1, 1) := by decide +kernel
theorem dX2_isEither_10 : decode cX2_isEither 10 = .ok (.goto 4, 3) := by decide +kernel
theorem dX2_isEither_13 : decode cX2_isEither 13 = .ok (.iconst 0, 1) := by decide +kernel
theorem dX2_isEither_14 : decode cX2_isEither 14 = .ok (.ireturn, 1) := by decide +kernel
theorem dX2_isNear_0 : decode cX2_isNear 0 = .ok (.iload_n 0, 1) := by decide +kernel
theorem dX2_isNear_1 : decode cX2_isNear 1 = .ok (.sipush (-1000), 3) := by decide +kernel
theorem dX2_isNear_4 : decode cX2_isNear 4 = .ok (.if_icmp .lt 14, 3) := by decide +kernel
theorem dX2_isNear_7 : decode cX2_isNear 7 = .ok (.iload_n 0, 1) := by decide +kernel
theorem dX2_isNear_8 : decode cX2_isNear 8 = .ok (.sipush 1000, 3) := by decide +kernel
theorem dX2_isNear_11 : decode cX2_isNear 11 = .ok (.if_icmp .gt 7, 3) := by decide +kernel
theorem dX2_isNear_14 : decode cX2_isNear 14 = .ok (.iconst 1, 1) := by decide +kernel
theorem dX2_isNear_15 : decode cX2_isNear 15 = .ok (.goto 4, 3) := by decide +kernel
theorem dX2_isNear_18 : decode cX2_isNear 18 = .ok (.iconst 0, 1) := by decide +kernel
theorem dX2_isNear_19 : decode cX2_isNear 19 = .ok (.ireturn, 1) := by decide +kernel
theorem dX2_isStrength_0 : decode cX2_isStrength 0 = .ok (.iload_n 0, 1) := by decide +kernel
theorem dX2_isStrength_1 : decode cX2_isStrength 1 = .ok (.bipush (-9), 2) := by decide +kernel
theorem dX2_isStrength_3 : decode cX2_isStrength 3 = .ok (.if_icmp .lt 17, 3) := by decide +kernel
theorem dX2_isStrength_6 : decode cX2_isStrength 6 = .ok (.iload_n 0, 1) := by decide +kernel
theorem dX2_isStrength_7 : decode cX2_isStrength 7 = .ok (.bipush 9, 2) := by decide +kernel
theorem dX2_isStrength_9 : decode cX2_isStrength 9 = .ok (.if_icmp .gt 11, 3) := by decide +kernel
theorem dX2_isStrength_12 : decode cX2_isStrength 12 = .ok (.iload_n 0, 1) := by decide +kernel
theorem dX2_isStrength_13 : decode cX2_isStrength 13 = .ok (.ifCond .eq 7, 3) := by decide +kernel
theorem dX2_isStrength_16 : decode cX2_isStrength 16 = .ok (.iconst 1, 1) := by decide +kernel
theorem dX2_isStrength_17 : decode cX2_isStrength 17 = .ok (.goto 4, 3) := by decide +kernel
theorem dX2_isStrength_20 : decode cX2_isStrength 20 = .ok (.iconst 0, 1) := by decide +kernel
theorem dX2_isStrength_21 : decode cX2_isStrength 21 = .ok (.ireturn, 1) := by decide +kernel
set_option maxRecDepth 20000 in
theorem ggX2_isPart_X2_isStrength : GoodIn wsX2_isPart wsX2_isStrength := goodIn_r _ [4] (by decide +kernel) (by decide +kernel)
set_option maxRecDepth 20000 in
theorem gX2_isPart_X2_isStrength : GoodIn wsX2_isPart (va_wsS RX2 188 yX2_isStrength wsX2_isStrength) := goodIn_app (goodIn_of _ (by decide +kernel)) ggX2_isPart_X2_isStrength
theorem dX2_isPart_0 : decode cX2_isPart 0 = .ok (.iload_n 0, 1) := by decide +kernel
theorem dX2_isPart_1 : decode cX2_isPart 1 = .ok (.iconst 2, 1) := by decide +kernel
theorem dX2_isPart_2 : decode cX2_isPart 2 = .ok (.if_icmp .ne 23, 3) := by decide +kernel
theorem dX2_isPart_5 : decode cX2_isPart 5 = .ok (.iload_n 1, 1) := by decide +kernel
theorem dX2_isPart_6 : decode cX2_isPart 6 = .ok (.invokestatic 188, 3) := by decide +kernel
theorem dX2_isPart_9 : decode cX2_isPart 9 = .ok (.ifCond .eq 14, 3) := by decide +kernel
theorem dX2_isPart_12 : decode cX2_isPart 12 = .ok (.iload_n 2, 1) := by decide +kernel
theorem dX2_isPart_13 : decode cX2_isPart 13 = .ok (.invokestatic 188, 3) := by decide +kernel
theorem dX2_isPart_16 : decode cX2_isPart 16 = .ok (.ifCond .eq 7, 3) := by decide +kernel
theorem dX2_isPart_19 : decode cX2_isPart 19 = .ok (.iconst 1, 1) := by decide +kernel
theorem dX2_isPart_20 : decode cX2_isPart 20 = .ok (.goto 4, 3) := by decide +kernel
theorem dX2_isPart_23 : decode cX2_isPart 23 = .ok (.iconst 0, 1) := by decide +kernel
theorem dX2_isPart_24 : decode cX2_isPart 24 = .ok (.ireturn, 1) := by decide +kernel
theorem dX2_isPart_25 : decode cX2_isPart 25 = .ok (.iload_n 2, 1) := by decide +kernel
theorem dX2_isPart_26 : decode cX2_isPart 26 = .ok (.ifCond .eq 5, 3) := by decide +kernel
theorem dX2_isPart_29 : decode cX2_isPart 29 = .ok (.iconst 0, 1) := by decide +kernel
theorem dX2_isPart_30 : decode cX2_isPart 30 = .ok (.ireturn, 1) := by decide +kernel
theorem dX2_isPart_31 : decode cX2_isPart 31 = .ok (.iload_n 0, 1) := by decide +kernel
theorem dX2_isPart_32 : decode cX2_isPart 32 = .ok (.tableswitch 92 0 4 #[36, 52, 92, 57, 74], 36) := by decide +kernel
theorem dX2_isPart_68 : decode cX2_isPart 68 = .ok (.iload_n 1, 1) := by decide +kernel
theorem dX2_isPart_69 : decode cX2_isPart 69 = .ok (.ifCond .lt 13, 3) := by decide +kernel
theorem dX2_isPart_72 : decode cX2_isPart 72 = .ok (.iload_n 1, 1) := by decide +kernel
theorem dX2_isPart_73 : decode cX2_isPart 73 = .ok (.bipush 20, 2) := by decide +kernel
theorem dX2_isPart_75 : decode cX2_isPart 75 = .ok (.if_icmp .gt 7, 3) := by decide +kernel
theorem dX2_isPart_78 : decode cX2_isPart 78 = .ok (.iconst 1, 1) := by decide +kernel
theorem dX2_isPart_79 : decode cX2_isPart 79 = .ok (.goto 4, 3) := by decide +kernel
theorem dX2_isPart_82 : decode cX2_isPart 82 = .ok (.iconst 0, 1) := by decide +kernel
theorem dX2_isPart_83 : decode cX2_isPart 83 = .ok (.ireturn, 1) := by decide +kernel
theorem dX2_isPart_84 : decode cX2_isPart 84 = .ok (.iload_n 1, 1) := by decide +kernel
theorem dX2_isPart_85 : decode cX2_isPart 85 = .ok (.invokestatic 188, 3) := by decide +kernel
theorem dX2_isPart_88 : decode cX2_isPart 88 = .ok (.ireturn, 1) := by decide +kernel
theorem dX2_isPart_89 : decode cX2_isPart 89 = .ok (.iload_n 1, 1) := by decide +kernel
theorem dX2_isPart_90 : decode cX2_isPart 90 = .ok (.bipush (-3), 2) := by decide +kernel
theorem dX2_isPart_92 : decode cX2_isPart 92 = .ok (.if_icmp .lt 12, 3) := by decide +kernel
theorem dX2_isPart_95 : decode cX2_isPart 95 = .ok (.iload_n 1, 1) := by decide +kernel
theorem dX2_isPart_96 : decode cX2_isPart 96 = .ok (.iconst 3, 1) := by decide +kernel
theorem dX2_isPart_97 : decode cX2_isPart 97 = .ok (.if_icmp .gt 7, 3) := by decide +kernel
theorem dX2_isPart_100 : decode cX2_isPart 100 = .ok (.iconst 1, 1) := by decide +kernel
theorem dX2_isPart_101 : decode cX2_isPart 101 = .ok (.goto 4, 3) := by decide +kernel
theorem dX2_isPart_104 : decode cX2_isPart 104 = .ok (.iconst 0, 1) := by decide +kernel
theorem dX2_isPart_105 : decode cX2_isPart 105 = .ok (.ireturn, 1) := by decide +kernel
theorem dX2_isPart_106 : decode cX2_isPart 106 = .ok (.iload_n 1, 1) := by decide +kernel
theorem dX2_isPart_107 : decode cX2_isPart 107 = .ok (.iconst 1, 1) := by decide +kernel
theorem dX2_isPart_108 : decode cX2_isPart 108 = .ok (.if_icmp .lt 14, 3) := by decide +kernel
theorem dX2_isPart_111 : decode cX2_isPart 111 = .ok (.iload_n 1, 1) := by decide +kernel
theorem dX2_isPart_112 : decode cX2_isPart 112 = .ok (.sipush 1000, 3) := by decide +kernel
theorem dX2_isPart_115 : decode cX2_isPart 115 = .ok (.if_icmp .gt 7, 3) := by decide +kernel
theorem dX2_isPart_118 : decode cX2_isPart 118 = .ok (.iconst 1, 1) := by decide +kernel
theorem dX2_isPart_119 : decode cX2_isPart 119 = .ok (.goto 4, 3) := by decide +kernel
theorem dX2_isPart_122 : decode cX2_isPart 122 = .ok (.iconst 0, 1) := by decide +kernel
theorem dX2_isPart_123 : decode cX2_isPart 123 = .ok (.ireturn, 1) := by decide +kernel
theorem dX2_isPart_124 : decode cX2_isPart 124 = .ok (.iconst 0, 1) := by decide +kernel
theorem dX2_isPart_125 : decode cX2_isPart 125 = .ok (.ireturn, 1) := by decide +kernel
set_option maxRecDepth 20000 in
theorem ggX2_told_X2_commonDivisor : GoodIn wsX2_told wsX2_commonDivisor := goodIn_r _ [9] (by decide +kernel) (by decide +kernel)
set_option maxRecDepth 20000 in
theorem gX2_told_X2_commonDivisor : GoodIn wsX2_told (va_wsS RX2 204 yX2_commonDivisor wsX2_commonDivisor) := goodIn_app (goodIn_of _ (by decide +kernel)) ggX2_told_X2_commonDivisor
theorem dX2_told_0 : decode cX2_told 0 = .ok (.lload_n 0, 1) := by decide +kernel
theorem dX2_told_1 : decode cX2_told 1 = .ok (.invokestatic 134, 3) := by decide +kernel
theorem dX2_told_4 : decode cX2_told 4 = .ok (.lload_n 2, 1) := by decide +kernel
theorem dX2_told_5 : decode cX2_told 5 = .ok (.invokestatic 134, 3) := by decide +kernel
theorem dX2_told_8 : decode cX2_told 8 = .ok (.invokestatic 204, 3) := by decide +kernel
theorem dX2_told_11 : decode cX2_told 11 = .ok (.lstore 5, 2) := by decide +kernel
theorem dX2_told_13 : decode cX2_told 13 = .ok (.lload_n 2, 1) := by decide +kernel
theorem dX2_told_14 : decode cX2_told 14 = .ok (.lconst 0, 1) := by decide +kernel
theorem dX2_told_15 : decode cX2_told 15 = .ok (.lcmp, 1) := by decide +kernel
theorem dX2_told_16 : decode cX2_told 16 = .ok (.ifCond .eq 10, 3) := by decide +kernel
theorem dX2_told_19 : decode cX2_told 19 = .ok (.lload 5, 2) := by decide +kernel
theorem dX2_told_21 : decode cX2_told 21 = .ok (.lconst 0, 1) := by decide +kernel
theorem dX2_told_22 : decode cX2_told 22 = .ok (.lcmp, 1) := by decide +kernel
theorem dX2_told_23 : decode cX2_told 23 = .ok (.ifCond .ne 7, 3) := by decide +kernel
theorem dX2_told_26 : decode cX2_told 26 = .ok (.ldc2_w 91, 3) := by decide +kernel
theorem dX2_told_29 : decode cX2_told 29 = .ok (.lreturn, 1) := by decide +kernel
theorem dX2_told_30 : decode cX2_told 30 = .ok (.iload 4, 2) := by decide +kernel
theorem dX2_told_32 : decode cX2_told 32 = .ok (.ifCond .ne 7, 3) := by decide +kernel
theorem dX2_told_35 : decode cX2_told 35 = .ok (.lload_n 0, 1) := by decide +kernel
theorem dX2_told_36 : decode cX2_told 36 = .ok (.goto 4, 3) := by decide +kernel
theorem dX2_told_39 : decode cX2_told 39 = .ok (.lload_n 2, 1) := by decide +kernel
theorem dX2_told_40 : decode cX2_told 40 = .ok (.lload 5, 2) := by decide +kernel
theorem dX2_told_42 : decode cX2_told 42 = .ok (.ldiv, 1) := by decide +kernel
theorem dX2_told_43 : decode cX2_told 43 = .ok (.lstore 7, 2) := by decide +kernel
theorem dX2_told_45 : decode cX2_told 45 = .ok (.lload_n 2, 1) := by decide +kernel
theorem dX2_told_46 : decode cX2_told 46 = .ok (.lconst 0, 1) := by decide +kernel
theorem dX2_told_47 : decode cX2_told 47 = .ok (.lcmp, 1) := by decide +kernel
theorem dX2_told_48 : decode cX2_told 48 = .ok (.ifCond .ge 9, 3) := by decide +kernel
theorem dX2_told_51 : decode cX2_told 51 = .ok (.lload 7, 2) := by decide +kernel
theorem dX2_told_53 : decode cX2_told 53 = .ok (.lneg, 1) := by decide +kernel
theorem dX2_told_54 : decode cX2_told 54 = .ok (.goto 5, 3) := by decide +kernel
theorem dX2_told_57 : decode cX2_told 57 = .ok (.lload 7, 2) := by decide +kernel
theorem dX2_told_59 : decode cX2_told 59 = .ok (.lreturn, 1) := by decide +kernel
theorem dX2_commonDivisor_0 : decode cX2_commonDivisor 0 = .ok (.lload_n 0, 1) := by decide +kernel
theorem dX2_commonDivisor_1 : decode cX2_commonDivisor 1 = .ok (.lstore 4, 2) := by decide +kernel
theorem dX2_commonDivisor_3 : decode cX2_commonDivisor 3 = .ok (.lload_n 2, 1) := by decide +kernel
theorem dX2_commonDivisor_4 : decode cX2_commonDivisor 4 = .ok (.lstore 6, 2) := by decide +kernel
theorem dX2_commonDivisor_6 : decode cX2_commonDivisor 6 = .ok (.iconst 0, 1) := by decide +kernel
theorem dX2_commonDivisor_7 : decode cX2_commonDivisor 7 = .ok (.istore 8, 2) := by decide +kernel
theorem dX2_commonDivisor_9 : decode cX2_commonDivisor 9 = .ok (.iload 8, 2) := by decide +kernel
theorem dX2_commonDivisor_11 : decode cX2_commonDivisor 11 = .ok (.bipush 100, 2) := by decide +kernel
theorem dX2_commonDivisor_13 : decode cX2_commonDivisor 13 = .ok (.if_icmp .ge 31, 3) := by decide +kernel
theorem dX2_commonDivisor_16 : decode cX2_commonDivisor 16 = .ok (.lload 6, 2) := by decide +kernel
theorem dX2_commonDivisor_18 : decode cX2_commonDivisor 18 = .ok (.lconst 0, 1) := by decide +kernel
theorem dX2_commonDivisor_19 : decode cX2_commonDivisor 19 = .ok (.lcmp, 1) := by decide +kernel
theorem dX2_commonDivisor_20 : decode cX2_commonDivisor 20 = .ok (.ifCond .eq 24, 3) := by decide +kernel
theorem dX2_commonDivisor_23 : decode cX2_commonDivisor 23 = .ok (.lload 4, 2) := by decide +kernel
theorem dX2_commonDivisor_25 : decode cX2_commonDivisor 25 = .ok (.lload 6, 2) := by decide +kernel
theorem dX2_commonDivisor_27 : decode cX2_commonDivisor 27 = .ok (.lrem, 1) := by decide +kernel
theorem dX2_commonDivisor_28 : decode cX2_commonDivisor 28 = .ok (.lstore 9, 2) := by decide +kernel
theorem dX2_commonDivisor_30 : decode cX2_commonDivisor 30 = .ok (.lload 6, 2) := by decide +kernel
theorem dX2_commonDivisor_32 : decode cX2_commonDivisor 32 = .ok (.lstore 4, 2) := by decide +kernel
theorem dX2_commonDivisor_34 : decode cX2_commonDivisor 34 = .ok (.lload 9, 2) := by decide +kernel
theorem dX2_commonDivisor_36 : decode cX2_commonDivisor 36 = .ok (.lstore 6, 2) := by decide +kernel
theorem dX2_commonDivisor_38 : decode cX2_commonDivisor 38 = .ok (.iinc 8 1, 3) := by decide +kernel
theorem dX2_commonDivisor_41 : decode cX2_commonDivisor 41 = .ok (.goto (-32), 3) := by decide +kernel
theorem dX2_commonDivisor_44 : decode cX2_commonDivisor 44 = .ok (.lload 4, 2) := by decide +kernel
theorem dX2_commonDivisor_46 : decode cX2_commonDivisor 46 = .ok (.lreturn, 1) := by decide +kernel
