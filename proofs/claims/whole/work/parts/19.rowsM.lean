theorem dX5_init_0 : decode cX5_init 0 = .ok (.aload_n 0, 1) := by decide +kernel
theorem dX5_init_1 : decode cX5_init 1 = .ok (.invokespecial 1, 3) := by decide +kernel
theorem dX5_init_4 : decode cX5_init 4 = .ok (.aload_n 0, 1) := by decide +kernel
theorem dX5_init_5 : decode cX5_init 5 = .ok (.bipush 8, 2) := by decide +kernel
theorem dX5_init_7 : decode cX5_init 7 = .ok (.newarray .int, 2) := by decide +kernel
theorem dX5_init_9 : decode cX5_init 9 = .ok (.putfield 7, 3) := by decide +kernel
theorem dX5_init_12 : decode cX5_init 12 = .ok (.aload_n 0, 1) := by decide +kernel
theorem dX5_init_13 : decode cX5_init 13 = .ok (.bipush 70, 2) := by decide +kernel
theorem dX5_init_15 : decode cX5_init 15 = .ok (.newarray .int, 2) := by decide +kernel
theorem dX5_init_17 : decode cX5_init 17 = .ok (.putfield 13, 3) := by decide +kernel
theorem dX5_init_20 : decode cX5_init 20 = .ok (.aload_n 0, 1) := by decide +kernel
theorem dX5_init_21 : decode cX5_init 21 = .ok (.bipush 70, 2) := by decide +kernel
theorem dX5_init_23 : decode cX5_init 23 = .ok (.newarray .int, 2) := by decide +kernel
theorem dX5_init_25 : decode cX5_init 25 = .ok (.putfield 16, 3) := by decide +kernel
theorem dX5_init_28 : decode cX5_init 28 = .ok (.aload_n 0, 1) := by decide +kernel
theorem dX5_init_29 : decode cX5_init 29 = .ok (.bipush 70, 2) := by decide +kernel
theorem dX5_init_31 : decode cX5_init 31 = .ok (.newarray .int, 2) := by decide +kernel
theorem dX5_init_33 : decode cX5_init 33 = .ok (.putfield 19, 3) := by decide +kernel
theorem dX5_init_36 : decode cX5_init 36 = .ok (.aload_n 0, 1) := by decide +kernel
theorem dX5_init_37 : decode cX5_init 37 = .ok (.bipush 70, 2) := by decide +kernel
theorem dX5_init_39 : decode cX5_init 39 = .ok (.newarray .int, 2) := by decide +kernel
theorem dX5_init_41 : decode cX5_init 41 = .ok (.putfield 22, 3) := by decide +kernel
theorem dX5_init_44 : decode cX5_init 44 = .ok (.aload_n 0, 1) := by decide +kernel
theorem dX5_init_45 : decode cX5_init 45 = .ok (.bipush 70, 2) := by decide +kernel
theorem dX5_init_47 : decode cX5_init 47 = .ok (.newarray .int, 2) := by decide +kernel
theorem dX5_init_49 : decode cX5_init 49 = .ok (.putfield 25, 3) := by decide +kernel
theorem dX5_init_52 : decode cX5_init 52 = .ok (.aload_n 0, 1) := by decide +kernel
theorem dX5_init_53 : decode cX5_init 53 = .ok (.bipush 70, 2) := by decide +kernel
theorem dX5_init_55 : decode cX5_init 55 = .ok (.newarray .int, 2) := by decide +kernel
theorem dX5_init_57 : decode cX5_init 57 = .ok (.putfield 28, 3) := by decide +kernel
theorem dX5_init_60 : decode cX5_init 60 = .ok (.aload_n 0, 1) := by decide +kernel
theorem dX5_init_61 : decode cX5_init 61 = .ok (.iconst 3, 1) := by decide +kernel
theorem dX5_init_62 : decode cX5_init 62 = .ok (.newarray .int, 2) := by decide +kernel
theorem dX5_init_64 : decode cX5_init 64 = .ok (.putfield 31, 3) := by decide +kernel
theorem dX5_init_67 : decode cX5_init 67 = .ok (.aload_n 0, 1) := by decide +kernel
theorem dX5_init_68 : decode cX5_init 68 = .ok (.sipush 400, 3) := by decide +kernel
theorem dX5_init_71 : decode cX5_init 71 = .ok (.newarray .int, 2) := by decide +kernel
theorem dX5_init_73 : decode cX5_init 73 = .ok (.putfield 34, 3) := by decide +kernel
theorem dX5_init_76 : decode cX5_init 76 = .ok (.return_, 1) := by decide +kernel
theorem dX5_in_0 : decode cX5_in 0 = .ok (.lload_n 0, 1) := by decide +kernel
theorem dX5_in_1 : decode cX5_in 1 = .ok (.lload_n 2, 1) := by decide +kernel
theorem dX5_in_2 : decode cX5_in 2 = .ok (.lcmp, 1) := by decide +kernel
theorem dX5_in_3 : decode cX5_in 3 = .ok (.ifCond .lt 14, 3) := by decide +kernel
theorem dX5_in_6 : decode cX5_in 6 = .ok (.lload_n 0, 1) := by decide +kernel
theorem dX5_in_7 : decode cX5_in 7 = .ok (.lload 4, 2) := by decide +kernel
theorem dX5_in_9 : decode cX5_in 9 = .ok (.lcmp, 1) := by decide +kernel
theorem dX5_in_10 : decode cX5_in 10 = .ok (.ifCond .gt 7, 3) := by decide +kernel
theorem dX5_in_13 : decode cX5_in 13 = .ok (.iconst 1, 1) := by decide +kernel
theorem dX5_in_14 : decode cX5_in 14 = .ok (.goto 4, 3) := by decide +kernel
theorem dX5_in_17 : decode cX5_in 17 = .ok (.iconst 0, 1) := by decide +kernel
theorem dX5_in_18 : decode cX5_in 18 = .ok (.ireturn, 1) := by decide +kernel
set_option maxRecDepth 20000 in
theorem ggX5_isVehicle_X5_in : GoodIn wsX5_isVehicle wsX5_in := goodIn_r _ [5] (by decide +kernel) (by decide +kernel)
set_option maxRecDepth 20000 in
theorem gX5_isVehicle_X5_in : GoodIn wsX5_isVehicle (va_wsS RX5 41 yX5_in wsX5_in) := goodIn_app (goodIn_of _ (by decide +kernel)) ggX5_isVehicle_X5_in
theorem dX5_isVehicle_0 : decode cX5_isVehicle 0 = .ok (.iload_n 1, 1) := by decide +kernel
theorem dX5_isVehicle_1 : decode cX5_isVehicle 1 = .ok (.i2l, 1) := by decide +kernel
theorem dX5_isVehicle_2 : decode cX5_isVehicle 2 = .ok (.lconst 0, 1) := by decide +kernel
theorem dX5_isVehicle_3 : decode cX5_isVehicle 3 = .ok (.aload_n 0, 1) := by decide +kernel
theorem dX5_isVehicle_4 : decode cX5_isVehicle 4 = .ok (.getfield 37, 3) := by decide +kernel
theorem dX5_isVehicle_7 : decode cX5_isVehicle 7 = .ok (.iconst 1, 1) := by decide +kernel
theorem dX5_isVehicle_8 : decode cX5_isVehicle 8 = .ok (.isub, 1) := by decide +kernel
theorem dX5_isVehicle_9 : decode cX5_isVehicle 9 = .ok (.i2l, 1) := by decide +kernel
theorem dX5_isVehicle_10 : decode cX5_isVehicle 10 = .ok (.invokestatic 41, 3) := by decide +kernel
theorem dX5_isVehicle_13 : decode cX5_isVehicle 13 = .ok (.ireturn, 1) := by decide +kernel
set_option maxRecDepth 20000 in
theorem ggX5_isDeck_X5_in : GoodIn wsX5_isDeck wsX5_in := goodIn_r _ [5] (by decide +kernel) (by decide +kernel)
set_option maxRecDepth 20000 in
theorem gX5_isDeck_X5_in : GoodIn wsX5_isDeck (va_wsS RX5 41 yX5_in wsX5_in) := goodIn_app (goodIn_of _ (by decide +kernel)) ggX5_isDeck_X5_in
theorem dX5_isDeck_0 : decode cX5_isDeck 0 = .ok (.iload_n 0, 1) := by decide +kernel
theorem dX5_isDeck_1 : decode cX5_isDeck 1 = .ok (.i2l, 1) := by decide +kernel
theorem dX5_isDeck_2 : decode cX5_isDeck 2 = .ok (.lconst 0, 1) := by decide +kernel
theorem dX5_isDeck_3 : decode cX5_isDeck 3 = .ok (.ldc2_w 45, 3) := by decide +kernel
theorem dX5_isDeck_6 : decode cX5_isDeck 6 = .ok (.invokestatic 41, 3) := by decide +kernel
theorem dX5_isDeck_9 : decode cX5_isDeck 9 = .ok (.ireturn, 1) := by decide +kernel
set_option maxRecDepth 20000 in
theorem ggX5_term_X5_in : GoodIn wsX5_term wsX5_in := goodIn_r _ [7] (by decide +kernel) (by decide +kernel)
set_option maxRecDepth 20000 in
theorem gX5_term_X5_in : GoodIn wsX5_term (va_wsS RX5 41 yX5_in wsX5_in) := goodIn_app (goodIn_of _ (by decide +kernel)) ggX5_term_X5_in
theorem dX5_term_0 : decode cX5_term 0 = .ok (.iload_n 1, 1) := by decide +kernel
theorem dX5_term_1 : decode cX5_term 1 = .ok (.i2l, 1) := by decide +kernel
theorem dX5_term_2 : decode cX5_term 2 = .ok (.lconst 0, 1) := by decide +kernel
theorem dX5_term_3 : decode cX5_term 3 = .ok (.ldc2_w 47, 3) := by decide +kernel
theorem dX5_term_6 : decode cX5_term 6 = .ok (.invokestatic 41, 3) := by decide +kernel
theorem dX5_term_9 : decode cX5_term 9 = .ok (.ifCond .eq 15, 3) := by decide +kernel
theorem dX5_term_12 : decode cX5_term 12 = .ok (.iload_n 2, 1) := by decide +kernel
theorem dX5_term_13 : decode cX5_term 13 = .ok (.i2l, 1) := by decide +kernel
theorem dX5_term_14 : decode cX5_term 14 = .ok (.lconst 0, 1) := by decide +kernel
theorem dX5_term_15 : decode cX5_term 15 = .ok (.ldc2_w 49, 3) := by decide +kernel
theorem dX5_term_18 : decode cX5_term 18 = .ok (.invokestatic 41, 3) := by decide +kernel
theorem dX5_term_21 : decode cX5_term 21 = .ok (.ifCond .ne 5, 3) := by decide +kernel
theorem dX5_term_24 : decode cX5_term 24 = .ok (.iconst (-1), 1) := by decide +kernel
theorem dX5_term_25 : decode cX5_term 25 = .ok (.ireturn, 1) := by decide +kernel
theorem dX5_term_26 : decode cX5_term 26 = .ok (.aload_n 0, 1) := by decide +kernel
theorem dX5_term_27 : decode cX5_term 27 = .ok (.getfield 7, 3) := by decide +kernel
theorem dX5_term_30 : decode cX5_term 30 = .ok (.iload_n 1, 1) := by decide +kernel
theorem dX5_term_31 : decode cX5_term 31 = .ok (.iaload, 1) := by decide +kernel
theorem dX5_term_32 : decode cX5_term 32 = .ok (.istore_n 3, 1) := by decide +kernel
theorem dX5_term_33 : decode cX5_term 33 = .ok (.aload_n 0, 1) := by decide +kernel
theorem dX5_term_34 : decode cX5_term 34 = .ok (.getfield 7, 3) := by decide +kernel
theorem dX5_term_37 : decode cX5_term 37 = .ok (.iload_n 1, 1) := by decide +kernel
theorem dX5_term_38 : decode cX5_term 38 = .ok (.iload_n 2, 1) := by decide +kernel
theorem dX5_term_39 : decode cX5_term 39 = .ok (.iastore, 1) := by decide +kernel
theorem dX5_term_40 : decode cX5_term 40 = .ok (.iload_n 3, 1) := by decide +kernel
theorem dX5_term_41 : decode cX5_term 41 = .ok (.ireturn, 1) := by decide +kernel
theorem dX5_takenOn_0 : decode cX5_takenOn 0 = .ok (.iconst 0, 1) := by decide +kernel
theorem dX5_takenOn_1 : decode cX5_takenOn 1 = .ok (.istore_n 2, 1) := by decide +kernel
theorem dX5_takenOn_2 : decode cX5_takenOn 2 = .ok (.iconst 0, 1) := by decide +kernel
theorem dX5_takenOn_3 : decode cX5_takenOn 3 = .ok (.istore_n 3, 1) := by decide +kernel
theorem dX5_takenOn_4 : decode cX5_takenOn 4 = .ok (.iload_n 3, 1) := by decide +kernel
theorem dX5_takenOn_5 : decode cX5_takenOn 5 = .ok (.aload_n 0, 1) := by decide +kernel
theorem dX5_takenOn_6 : decode cX5_takenOn 6 = .ok (.getfield 37, 3) := by decide +kernel
theorem dX5_takenOn_9 : decode cX5_takenOn 9 = .ok (.if_icmp .ge 32, 3) := by decide +kernel
theorem dX5_takenOn_12 : decode cX5_takenOn 12 = .ok (.iload_n 2, 1) := by decide +kernel
theorem dX5_takenOn_13 : decode cX5_takenOn 13 = .ok (.aload_n 0, 1) := by decide +kernel
theorem dX5_takenOn_14 : decode cX5_takenOn 14 = .ok (.getfield 25, 3) := by decide +kernel
theorem dX5_takenOn_17 : decode cX5_takenOn 17 = .ok (.iload_n 3, 1) := by decide +kernel
theorem dX5_takenOn_18 : decode cX5_takenOn 18 = .ok (.iaload, 1) := by decide +kernel
theorem dX5_takenOn_19 : decode cX5_takenOn 19 = .ok (.iload_n 1, 1) := by decide +kernel
theorem dX5_takenOn_20 : decode cX5_takenOn 20 = .ok (.if_icmp .ne 12, 3) := by decide +kernel
theorem dX5_takenOn_23 : decode cX5_takenOn 23 = .ok (.aload_n 0, 1) := by decide +kernel
theorem dX5_takenOn_24 : decode cX5_takenOn 24 = .ok (.getfield 28, 3) := by decide +kernel
theorem dX5_takenOn_27 : decode cX5_takenOn 27 = .ok (.iload_n 3, 1) := by decide +kernel
theorem dX5_takenOn_28 : decode cX5_takenOn 28 = .ok (.iaload, 1) := by decide +kernel
theorem dX5_takenOn_29 : decode cX5_takenOn 29 = .ok (.goto 4, 3) := by decide +kernel
theorem dX5_takenOn_32 : decode cX5_takenOn 32 = .ok (.iconst 0, 1) := by decide +kernel
theorem dX5_takenOn_33 : decode cX5_takenOn 33 = .ok (.iadd, 1) := by decide +kernel
theorem dX5_takenOn_34 : decode cX5_takenOn 34 = .ok (.istore_n 2, 1) := by decide +kernel
theorem dX5_takenOn_35 : decode cX5_takenOn 35 = .ok (.iinc 3 1, 3) := by decide +kernel
theorem dX5_takenOn_38 : decode cX5_takenOn 38 = .ok (.goto (-34), 3) := by decide +kernel
theorem dX5_takenOn_41 : decode cX5_takenOn 41 = .ok (.iload_n 2, 1) := by decide +kernel
theorem dX5_takenOn_42 : decode cX5_takenOn 42 = .ok (.ireturn, 1) := by decide +kernel
set_option maxRecDepth 20000 in
theorem ggX5_deck_X5_isDeck : GoodIn wsX5_deck wsX5_isDeck := goodIn_r _ [6, 7, 8, 9, 5, 10] (by decide +kernel) (by decide +kernel)
set_option maxRecDepth 20000 in
theorem gX5_deck_X5_isDeck : GoodIn wsX5_deck (va_wsS RX5 51 yX5_isDeck wsX5_isDeck) := goodIn_app (goodIn_of _ (by decide +kernel)) ggX5_deck_X5_isDeck
set_option maxRecDepth 20000 in
theorem ggX5_deck_X5_in : GoodIn wsX5_deck wsX5_in := goodIn_r _ [10] (by decide +kernel) (by decide +kernel)
set_option maxRecDepth 20000 in
theorem gX5_deck_X5_in : GoodIn wsX5_deck (va_wsS RX5 41 yX5_in wsX5_in) := goodIn_app (goodIn_of _ (by decide +kernel)) ggX5_deck_X5_in
set_option maxRecDepth 20000 in
theorem ggX5_deck_X5_takenOn : GoodIn wsX5_deck wsX5_takenOn := goodIn_r _ [14, 15, 16, 17, 18, 19, 20, 21, 22, 23, 24, 25, 26, 27, 28, 29, 30, 31, 32, 33, 34] (by decide +kernel) (by decide +kernel)
set_option maxRecDepth 20000 in
theorem gX5_deck_X5_takenOn : GoodIn wsX5_deck (wsV RX5 57 RX5 yX5_takenOn wsX5_takenOn) := goodIn_app (goodIn_of _ (by decide +kernel)) ggX5_deck_X5_takenOn
theorem dX5_deck_0 : decode cX5_deck 0 = .ok (.iload_n 1, 1) := by decide +kernel
theorem dX5_deck_1 : decode cX5_deck 1 = .ok (.invokestatic 51, 3) := by decide +kernel
theorem dX5_deck_4 : decode cX5_deck 4 = .ok (.ifCond .eq 15, 3) := by decide +kernel
theorem dX5_deck_7 : decode cX5_deck 7 = .ok (.iload_n 2, 1) := by decide +kernel
theorem dX5_deck_8 : decode cX5_deck 8 = .ok (.i2l, 1) := by decide +kernel
theorem dX5_deck_9 : decode cX5_deck 9 = .ok (.lconst 0, 1) := by decide +kernel
theorem dX5_deck_10 : decode cX5_deck 10 = .ok (.ldc2_w 55, 3) := by decide +kernel
theorem dX5_deck_13 : decode cX5_deck 13 = .ok (.invokestatic 41, 3) := by decide +kernel
theorem dX5_deck_16 : decode cX5_deck 16 = .ok (.ifCond .ne 5, 3) := by decide +kernel
theorem dX5_deck_19 : decode cX5_deck 19 = .ok (.iconst (-1), 1) := by decide +kernel
theorem dX5_deck_20 : decode cX5_deck 20 = .ok (.ireturn, 1) := by decide +kernel
theorem dX5_deck_21 : decode cX5_deck 21 = .ok (.aload_n 0, 1) := by decide +kernel
theorem dX5_deck_22 : decode cX5_deck 22 = .ok (.iload_n 1, 1) := by decide +kernel
theorem dX5_deck_23 : decode cX5_deck 23 = .ok (.invokevirtual 57, 3) := by decide +kernel
theorem dX5_deck_26 : decode cX5_deck 26 = .ok (.iload_n 2, 1) := by decide +kernel
theorem dX5_deck_27 : decode cX5_deck 27 = .ok (.if_icmp .le 6, 3) := by decide +kernel
theorem dX5_deck_30 : decode cX5_deck 30 = .ok (.bipush (-4), 2) := by decide +kernel
theorem dX5_deck_32 : decode cX5_deck 32 = .ok (.ireturn, 1) := by decide +kernel
theorem dX5_deck_33 : decode cX5_deck 33 = .ok (.aload_n 0, 1) := by decide +kernel
theorem dX5_deck_34 : decode cX5_deck 34 = .ok (.getfield 31, 3) := by decide +kernel
theorem dX5_deck_37 : decode cX5_deck 37 = .ok (.iload_n 1, 1) := by decide +kernel
theorem dX5_deck_38 : decode cX5_deck 38 = .ok (.iaload, 1) := by decide +kernel
theorem dX5_deck_39 : decode cX5_deck 39 = .ok (.istore_n 3, 1) := by decide +kernel
theorem dX5_deck_40 : decode cX5_deck 40 = .ok (.aload_n 0, 1) := by decide +kernel
theorem dX5_deck_41 : decode cX5_deck 41 = .ok (.getfield 31, 3) := by decide +kernel
theorem dX5_deck_44 : decode cX5_deck 44 = .ok (.iload_n 1, 1) := by decide +kernel
theorem dX5_deck_45 : decode cX5_deck 45 = .ok (.iload_n 2, 1) := by decide +kernel
theorem dX5_deck_46 : decode cX5_deck 46 = .ok (.iastore, 1) := by decide +kernel
theorem dX5_deck_47 : decode cX5_deck 47 = .ok (.iload_n 3, 1) := by decide +kernel
theorem dX5_deck_48 : decode cX5_deck 48 = .ok (.ireturn, 1) := by decide +kernel
set_option maxRecDepth 20000 in
theorem ggX5_vehicle_X5_in : GoodIn wsX5_vehicle wsX5_in := goodIn_r _ [12] (by decide +kernel) (by decide +kernel)
set_option maxRecDepth 20000 in
theorem gX5_vehicle_X5_in : GoodIn wsX5_vehicle (va_wsS RX5 41 yX5_in wsX5_in) := goodIn_app (goodIn_of _ (by decide +kernel)) ggX5_vehicle_X5_in
theorem dX5_vehicle_0 : decode cX5_vehicle 0 = .ok (.iload_n 1, 1) := by decide +kernel
theorem dX5_vehicle_1 : decode cX5_vehicle 1 = .ok (.i2l, 1) := by decide +kernel
theorem dX5_vehicle_2 : decode cX5_vehicle 2 = .ok (.lconst 1, 1) := by decide +kernel
theorem dX5_vehicle_3 : decode cX5_vehicle 3 = .ok (.ldc2_w 61, 3) := by decide +kernel
theorem dX5_vehicle_6 : decode cX5_vehicle 6 = .ok (.invokestatic 41, 3) := by decide +kernel
theorem dX5_vehicle_9 : decode cX5_vehicle 9 = .ok (.ifCond .eq 27, 3) := by decide +kernel
theorem dX5_vehicle_12 : decode cX5_vehicle 12 = .ok (.iload_n 2, 1) := by decide +kernel
theorem dX5_vehicle_13 : decode cX5_vehicle 13 = .ok (.i2l, 1) := by decide +kernel
theorem dX5_vehicle_14 : decode cX5_vehicle 14 = .ok (.lconst 1, 1) := by decide +kernel
theorem dX5_vehicle_15 : decode cX5_vehicle 15 = .ok (.ldc2_w 63, 3) := by decide +kernel
theorem dX5_vehicle_18 : decode cX5_vehicle 18 = .ok (.invokestatic 41, 3) := by decide +kernel
theorem dX5_vehicle_21 : decode cX5_vehicle 21 = .ok (.ifCond .eq 15, 3) := by decide +kernel
theorem dX5_vehicle_24 : decode cX5_vehicle 24 = .ok (.iload_n 3, 1) := by decide +kernel
theorem dX5_vehicle_25 : decode cX5_vehicle 25 = .ok (.i2l, 1) := by decide +kernel
theorem dX5_vehicle_26 : decode cX5_vehicle 26 = .ok (.lconst 0, 1) := by decide +kernel
theorem dX5_vehicle_27 : decode cX5_vehicle 27 = .ok (.ldc2_w 65, 3) := by decide +kernel
theorem dX5_vehicle_30 : decode cX5_vehicle 30 = .ok (.invokestatic 41, 3) := by decide +kernel
theorem dX5_vehicle_33 : decode cX5_vehicle 33 = .ok (.ifCond .ne 5, 3) := by decide +kernel
theorem dX5_vehicle_36 : decode cX5_vehicle 36 = .ok (.iconst (-1), 1) := by decide +kernel
theorem dX5_vehicle_37 : decode cX5_vehicle 37 = .ok (.ireturn, 1) := by decide +kernel
theorem dX5_vehicle_38 : decode cX5_vehicle 38 = .ok (.aload_n 0, 1) := by decide +kernel
theorem dX5_vehicle_39 : decode cX5_vehicle 39 = .ok (.getfield 37, 3) := by decide +kernel
theorem dX5_vehicle_42 : decode cX5_vehicle 42 = .ok (.bipush 70, 2) := by decide +kernel
theorem dX5_vehicle_44 : decode cX5_vehicle 44 = .ok (.if_icmp .ne 6, 3) := by decide +kernel
theorem dX5_vehicle_47 : decode cX5_vehicle 47 = .ok (.bipush (-2), 2) := by decide +kernel
theorem dX5_vehicle_49 : decode cX5_vehicle 49 = .ok (.ireturn, 1) := by decide +kernel
theorem dX5_vehicle_50 : decode cX5_vehicle 50 = .ok (.aload_n 0, 1) := by decide +kernel
theorem dX5_vehicle_51 : decode cX5_vehicle 51 = .ok (.getfield 13, 3) := by decide +kernel
theorem dX5_vehicle_54 : decode cX5_vehicle 54 = .ok (.aload_n 0, 1) := by decide +kernel
theorem dX5_vehicle_55 : decode cX5_vehicle 55 = .ok (.getfield 37, 3) := by decide +kernel
theorem dX5_vehicle_58 : decode cX5_vehicle 58 = .ok (.iload_n 1, 1) := by decide +kernel
theorem dX5_vehicle_59 : decode cX5_vehicle 59 = .ok (.iastore, 1) := by decide +kernel
theorem dX5_vehicle_60 : decode cX5_vehicle 60 = .ok (.aload_n 0, 1) := by decide +kernel
theorem dX5_vehicle_61 : decode cX5_vehicle 61 = .ok (.getfield 16, 3) := by decide +kernel
theorem dX5_vehicle_64 : decode cX5_vehicle 64 = .ok (.aload_n 0, 1) := by decide +kernel
theorem dX5_vehicle_65 : decode cX5_vehicle 65 = .ok (.getfield 37, 3) := by decide +kernel
theorem dX5_vehicle_68 : decode cX5_vehicle 68 = .ok (.iload_n 2, 1) := by decide +kernel
theorem dX5_vehicle_69 : decode cX5_vehicle 69 = .ok (.iastore, 1) := by decide +kernel
theorem dX5_vehicle_70 : decode cX5_vehicle 70 = .ok (.aload_n 0, 1) := by decide +kernel
theorem dX5_vehicle_71 : decode cX5_vehicle 71 = .ok (.getfield 19, 3) := by decide +kernel
theorem dX5_vehicle_74 : decode cX5_vehicle 74 = .ok (.aload_n 0, 1) := by decide +kernel
theorem dX5_vehicle_75 : decode cX5_vehicle 75 = .ok (.getfield 37, 3) := by decide +kernel
theorem dX5_vehicle_78 : decode cX5_vehicle 78 = .ok (.iload_n 3, 1) := by decide +kernel
theorem dX5_vehicle_79 : decode cX5_vehicle 79 = .ok (.iastore, 1) := by decide +kernel
theorem dX5_vehicle_80 : decode cX5_vehicle 80 = .ok (.aload_n 0, 1) := by decide +kernel
theorem dX5_vehicle_81 : decode cX5_vehicle 81 = .ok (.getfield 25, 3) := by decide +kernel
theorem dX5_vehicle_84 : decode cX5_vehicle 84 = .ok (.aload_n 0, 1) := by decide +kernel
theorem dX5_vehicle_85 : decode cX5_vehicle 85 = .ok (.getfield 37, 3) := by decide +kernel
theorem dX5_vehicle_88 : decode cX5_vehicle 88 = .ok (.iconst (-1), 1) := by decide +kernel
theorem dX5_vehicle_89 : decode cX5_vehicle 89 = .ok (.iastore, 1) := by decide +kernel
theorem dX5_vehicle_90 : decode cX5_vehicle 90 = .ok (.aload_n 0, 1) := by decide +kernel
theorem dX5_vehicle_91 : decode cX5_vehicle 91 = .ok (.dup, 1) := by decide +kernel
theorem dX5_vehicle_92 : decode cX5_vehicle 92 = .ok (.getfield 37, 3) := by decide +kernel
theorem dX5_vehicle_95 : decode cX5_vehicle 95 = .ok (.iconst 1, 1) := by decide +kernel
theorem dX5_vehicle_96 : decode cX5_vehicle 96 = .ok (.iadd, 1) := by decide +kernel
theorem dX5_vehicle_97 : decode cX5_vehicle 97 = .ok (.putfield 37, 3) := by decide +kernel
theorem dX5_vehicle_100 : decode cX5_vehicle 100 = .ok (.aload_n 0, 1) := by decide +kernel
theorem dX5_vehicle_101 : decode cX5_vehicle 101 = .ok (.getfield 37, 3) := by decide +kernel
theorem dX5_vehicle_104 : decode cX5_vehicle 104 = .ok (.iconst 1, 1) := by decide +kernel
theorem dX5_vehicle_105 : decode cX5_vehicle 105 = .ok (.isub, 1) := by decide +kernel
theorem dX5_vehicle_106 : decode cX5_vehicle 106 = .ok (.ireturn, 1) := by decide +kernel
theorem dX5_act_0 : decode cX5_act 0 = .ok (.aload_n 0, 1) := by decide +kernel
theorem dX5_act_1 : decode cX5_act 1 = .ok (.iconst 0, 1) := by decide +kernel
theorem dX5_act_2 : decode cX5_act 2 = .ok (.putfield 67, 3) := by decide +kernel
theorem dX5_act_5 : decode cX5_act 5 = .ok (.aload_n 0, 1) := by decide +kernel
theorem dX5_act_6 : decode cX5_act 6 = .ok (.dup, 1) := by decide +kernel
theorem dX5_act_7 : decode cX5_act 7 = .ok (.getfield 70, 3) := by decide +kernel
theorem dX5_act_10 : decode cX5_act 10 = .ok (.iconst 1, 1) := by decide +kernel
theorem dX5_act_11 : decode cX5_act 11 = .ok (.iadd, 1) := by decide +kernel
theorem dX5_act_12 : decode cX5_act 12 = .ok (.putfield 70, 3) := by decide +kernel
theorem dX5_act_15 : decode cX5_act 15 = .ok (.aload_n 0, 1) := by decide +kernel
theorem dX5_act_16 : decode cX5_act 16 = .ok (.iconst 0, 1) := by decide +kernel
theorem dX5_act_17 : decode cX5_act 17 = .ok (.putfield 73, 3) := by decide +kernel
theorem dX5_act_20 : decode cX5_act 20 = .ok (.return_, 1) := by decide +kernel
theorem dX5_began_0 : decode cX5_began 0 = .ok (.aload_n 0, 1) := by decide +kernel
theorem dX5_began_1 : decode cX5_began 1 = .ok (.getfield 67, 3) := by decide +kernel
theorem dX5_began_4 : decode cX5_began 4 = .ok (.sipush 400, 3) := by decide +kernel
theorem dX5_began_7 : decode cX5_began 7 = .ok (.if_icmp .ge 28, 3) := by decide +kernel
theorem dX5_began_10 : decode cX5_began 10 = .ok (.aload_n 0, 1) := by decide +kernel
theorem dX5_began_11 : decode cX5_began 11 = .ok (.getfield 34, 3) := by decide +kernel
theorem dX5_began_14 : decode cX5_began 14 = .ok (.aload_n 0, 1) := by decide +kernel
theorem dX5_began_15 : decode cX5_began 15 = .ok (.getfield 67, 3) := by decide +kernel
theorem dX5_began_18 : decode cX5_began 18 = .ok (.bipush 10, 2) := by decide +kernel
theorem dX5_began_20 : decode cX5_began 20 = .ok (.iload_n 1, 1) := by decide +kernel
theorem dX5_began_21 : decode cX5_began 21 = .ok (.imul, 1) := by decide +kernel
theorem dX5_began_22 : decode cX5_began 22 = .ok (.iload_n 2, 1) := by decide +kernel
theorem dX5_began_23 : decode cX5_began 23 = .ok (.iadd, 1) := by decide +kernel
theorem dX5_began_24 : decode cX5_began 24 = .ok (.iastore, 1) := by decide +kernel
theorem dX5_began_25 : decode cX5_began 25 = .ok (.aload_n 0, 1) := by decide +kernel
theorem dX5_began_26 : decode cX5_began 26 = .ok (.dup, 1) := by decide +kernel
theorem dX5_began_27 : decode cX5_began 27 = .ok (.getfield 67, 3) := by decide +kernel
theorem dX5_began_30 : decode cX5_began 30 = .ok (.iconst 1, 1) := by decide +kernel
theorem dX5_began_31 : decode cX5_began 31 = .ok (.iadd, 1) := by decide +kernel
theorem dX5_began_32 : decode cX5_began 32 = .ok (.putfield 67, 3) := by decide +kernel
theorem dX5_began_35 : decode cX5_began 35 = .ok (.return_, 1) := by decide +kernel
theorem dX5_isCar_0 : decode cX5_isCar 0 = .ok (.iload_n 0, 1) := by decide +kernel
theorem dX5_isCar_1 : decode cX5_isCar 1 = .ok (.bipush 6, 2) := by decide +kernel
theorem dX5_isCar_3 : decode cX5_isCar 3 = .ok (.if_icmp .ge 7, 3) := by decide +kernel
theorem dX5_isCar_6 : decode cX5_isCar 6 = .ok (.iconst 1, 1) := by decide +kernel
theorem dX5_isCar_7 : decode cX5_isCar 7 = .ok (.goto 4, 3) := by decide +kernel
theorem dX5_isCar_10 : decode cX5_isCar 10 = .ok (.iconst 0, 1) := by decide +kernel
theorem dX5_isCar_11 : decode cX5_isCar 11 = .ok (.ireturn, 1) := by decide +kernel
set_option maxRecDepth 20000 in
theorem ggX5_length_X5_isCar : GoodIn wsX5_length wsX5_isCar := goodIn_r _ [7] (by decide +kernel) (by decide +kernel)
set_option maxRecDepth 20000 in
theorem gX5_length_X5_isCar : GoodIn wsX5_length (va_wsS RX5 76 yX5_isCar wsX5_isCar) := goodIn_app (goodIn_of _ (by decide +kernel)) ggX5_length_X5_isCar
set_option maxRecDepth 20000 in
theorem ggX5_length_X5_began : GoodIn wsX5_length wsX5_began := goodIn_r _ [11, 12, 13, 14, 15, 16, 17, 18, 19, 20, 21, 22, 23, 24, 25, 26, 27, 28, 29, 30] (by decide +kernel) (by decide +kernel)
set_option maxRecDepth 20000 in
theorem gX5_length_X5_began : GoodIn wsX5_length (wsV RX5 79 RX5 yX5_began wsX5_began) := goodIn_app (goodIn_of _ (by decide +kernel)) ggX5_length_X5_began
theorem dX5_length_0 : decode cX5_length 0 = .ok (.aload_n 0, 1) := by decide +kernel
theorem dX5_length_1 : decode cX5_length 1 = .ok (.getfield 13, 3) := by decide +kernel
theorem dX5_length_4 : decode cX5_length 4 = .ok (.iload_n 1, 1) := by decide +kernel
theorem dX5_length_5 : decode cX5_length 5 = .ok (.iaload, 1) := by decide +kernel
theorem dX5_length_6 : decode cX5_length 6 = .ok (.istore_n 2, 1) := by decide +kernel
theorem dX5_length_7 : decode cX5_length 7 = .ok (.iload_n 2, 1) := by decide +kernel
theorem dX5_length_8 : decode cX5_length 8 = .ok (.invokestatic 76, 3) := by decide +kernel
theorem dX5_length_11 : decode cX5_length 11 = .ok (.istore_n 3, 1) := by decide +kernel
theorem dX5_length_12 : decode cX5_length 12 = .ok (.iload_n 2, 1) := by decide +kernel
theorem dX5_length_13 : decode cX5_length 13 = .ok (.bipush 9, 2) := by decide +kernel
theorem dX5_length_15 : decode cX5_length 15 = .ok (.if_icmp .ne 10, 3) := by decide +kernel
theorem dX5_length_18 : decode cX5_length 18 = .ok (.aload_n 0, 1) := by decide +kernel
theorem dX5_length_19 : decode cX5_length 19 = .ok (.bipush 9, 2) := by decide +kernel
theorem dX5_length_21 : decode cX5_length 21 = .ok (.iconst 0, 1) := by decide +kernel
theorem dX5_length_22 : decode cX5_length 22 = .ok (.invokevirtual 79, 3) := by decide +kernel
theorem dX5_length_25 : decode cX5_length 25 = .ok (.iload_n 3, 1) := by decide +kernel
theorem dX5_length_26 : decode cX5_length 26 = .ok (.ifCond .eq 14, 3) := by decide +kernel
theorem dX5_length_29 : decode cX5_length 29 = .ok (.iload_n 2, 1) := by decide +kernel
theorem dX5_length_30 : decode cX5_length 30 = .ok (.iconst 3, 1) := by decide +kernel
theorem dX5_length_31 : decode cX5_length 31 = .ok (.if_icmp .le 9, 3) := by decide +kernel
theorem dX5_length_34 : decode cX5_length 34 = .ok (.aload_n 0, 1) := by decide +kernel
theorem dX5_length_35 : decode cX5_length 35 = .ok (.iconst 4, 1) := by decide +kernel
theorem dX5_length_36 : decode cX5_length 36 = .ok (.iconst 0, 1) := by decide +kernel
theorem dX5_length_37 : decode cX5_length 37 = .ok (.invokevirtual 79, 3) := by decide +kernel
theorem dX5_length_40 : decode cX5_length 40 = .ok (.iload_n 2, 1) := by decide +kernel
theorem dX5_length_41 : decode cX5_length 41 = .ok (.iconst 1, 1) := by decide +kernel
theorem dX5_length_42 : decode cX5_length 42 = .ok (.if_icmp .le 18, 3) := by decide +kernel
theorem dX5_length_45 : decode cX5_length 45 = .ok (.aload_n 0, 1) := by decide +kernel
theorem dX5_length_46 : decode cX5_length 46 = .ok (.iload_n 3, 1) := by decide +kernel
theorem dX5_length_47 : decode cX5_length 47 = .ok (.ifCond .eq 7, 3) := by decide +kernel
theorem dX5_length_50 : decode cX5_length 50 = .ok (.iconst 2, 1) := by decide +kernel
theorem dX5_length_51 : decode cX5_length 51 = .ok (.goto 5, 3) := by decide +kernel
theorem dX5_length_54 : decode cX5_length 54 = .ok (.bipush 6, 2) := by decide +kernel
theorem dX5_length_56 : decode cX5_length 56 = .ok (.iconst 0, 1) := by decide +kernel
theorem dX5_length_57 : decode cX5_length 57 = .ok (.invokevirtual 79, 3) := by decide +kernel
theorem dX5_length_60 : decode cX5_length 60 = .ok (.aload_n 0, 1) := by decide +kernel
theorem dX5_length_61 : decode cX5_length 61 = .ok (.iconst 0, 1) := by decide +kernel
theorem dX5_length_62 : decode cX5_length 62 = .ok (.iconst 0, 1) := by decide +kernel
theorem dX5_length_63 : decode cX5_length 63 = .ok (.invokevirtual 79, 3) := by decide +kernel
theorem dX5_length_66 : decode cX5_length 66 = .ok (.aload_n 0, 1) := by decide +kernel
theorem dX5_length_67 : decode cX5_length 67 = .ok (.getfield 16, 3) := by decide +kernel
theorem dX5_length_70 : decode cX5_length 70 = .ok (.iload_n 1, 1) := by decide +kernel
theorem dX5_length_71 : decode cX5_length 71 = .ok (.iaload, 1) := by decide +kernel
theorem dX5_length_72 : decode cX5_length 72 = .ok (.istore 4, 2) := by decide +kernel
theorem dX5_length_74 : decode cX5_length 74 = .ok (.iload_n 3, 1) := by decide +kernel
theorem dX5_length_75 : decode cX5_length 75 = .ok (.ifCond .eq 39, 3) := by decide +kernel
theorem dX5_length_78 : decode cX5_length 78 = .ok (.iload_n 2, 1) := by decide +kernel
theorem dX5_length_79 : decode cX5_length 79 = .ok (.iconst 1, 1) := by decide +kernel
theorem dX5_length_80 : decode cX5_length 80 = .ok (.if_icmp .le 10, 3) := by decide +kernel
theorem dX5_length_83 : decode cX5_length 83 = .ok (.iload 4, 2) := by decide +kernel
theorem dX5_length_85 : decode cX5_length 85 = .ok (.iconst 1, 1) := by decide +kernel
theorem dX5_length_86 : decode cX5_length 86 = .ok (.iadd, 1) := by decide +kernel
theorem dX5_length_87 : decode cX5_length 87 = .ok (.goto 5, 3) := by decide +kernel
theorem dX5_length_90 : decode cX5_length 90 = .ok (.iload 4, 2) := by decide +kernel
theorem dX5_length_92 : decode cX5_length 92 = .ok (.istore 4, 2) := by decide +kernel
theorem dX5_length_94 : decode cX5_length 94 = .ok (.iload_n 2, 1) := by decide +kernel
theorem dX5_length_95 : decode cX5_length 95 = .ok (.iconst 3, 1) := by decide +kernel
theorem dX5_length_96 : decode cX5_length 96 = .ok (.if_icmp .le 15, 3) := by decide +kernel
theorem dX5_length_99 : decode cX5_length 99 = .ok (.iload 4, 2) := by decide +kernel
theorem dX5_length_101 : decode cX5_length 101 = .ok (.aload_n 0, 1) := by decide +kernel
theorem dX5_length_102 : decode cX5_length 102 = .ok (.getfield 7, 3) := by decide +kernel
theorem dX5_length_105 : decode cX5_length 105 = .ok (.iconst 0, 1) := by decide +kernel
theorem dX5_length_106 : decode cX5_length 106 = .ok (.iaload, 1) := by decide +kernel
theorem dX5_length_107 : decode cX5_length 107 = .ok (.iadd, 1) := by decide +kernel
theorem dX5_length_108 : decode cX5_length 108 = .ok (.goto 5, 3) := by decide +kernel
theorem dX5_length_111 : decode cX5_length 111 = .ok (.iload 4, 2) := by decide +kernel
theorem dX5_length_113 : decode cX5_length 113 = .ok (.ireturn, 1) := by decide +kernel
theorem dX5_length_114 : decode cX5_length 114 = .ok (.iload 4, 2) := by decide +kernel
theorem dX5_length_116 : decode cX5_length 116 = .ok (.iconst 2, 1) := by decide +kernel
theorem dX5_length_117 : decode cX5_length 117 = .ok (.iadd, 1) := by decide +kernel
theorem dX5_length_118 : decode cX5_length 118 = .ok (.istore 4, 2) := by decide +kernel
theorem dX5_length_120 : decode cX5_length 120 = .ok (.iload_n 2, 1) := by decide +kernel
theorem dX5_length_121 : decode cX5_length 121 = .ok (.bipush 9, 2) := by decide +kernel
theorem dX5_length_123 : decode cX5_length 123 = .ok (.if_icmp .ge 8, 3) := by decide +kernel
theorem dX5_length_126 : decode cX5_length 126 = .ok (.iload 4, 2) := by decide +kernel
theorem dX5_length_128 : decode cX5_length 128 = .ok (.goto 17, 3) := by decide +kernel
theorem dX5_length_131 : decode cX5_length 131 = .ok (.iload 4, 2) := by decide +kernel
theorem dX5_length_133 : decode cX5_length 133 = .ok (.iconst 2, 1) := by decide +kernel
theorem dX5_length_134 : decode cX5_length 134 = .ok (.if_icmp .ge 7, 3) := by decide +kernel
theorem dX5_length_137 : decode cX5_length 137 = .ok (.iconst 1, 1) := by decide +kernel
theorem dX5_length_138 : decode cX5_length 138 = .ok (.goto 7, 3) := by decide +kernel
theorem dX5_length_141 : decode cX5_length 141 = .ok (.iload 4, 2) := by decide +kernel
theorem dX5_length_143 : decode cX5_length 143 = .ok (.iconst 1, 1) := by decide +kernel
theorem dX5_length_144 : decode cX5_length 144 = .ok (.isub, 1) := by decide +kernel
theorem dX5_length_145 : decode cX5_length 145 = .ok (.ireturn, 1) := by decide +kernel
set_option maxRecDepth 20000 in
theorem ggX5_plainFee_X5_began : GoodIn wsX5_plainFee wsX5_began := goodIn_r _ [6, 7, 8, 9, 10, 11, 12, 13, 14, 15, 16, 17, 18, 19, 20, 21, 22, 23, 24, 25] (by decide +kernel) (by decide +kernel)
set_option maxRecDepth 20000 in
theorem gX5_plainFee_X5_began : GoodIn wsX5_plainFee (wsV RX5 79 RX5 yX5_began wsX5_began) := goodIn_app (goodIn_of _ (by decide +kernel)) ggX5_plainFee_X5_began
theorem dX5_plainFee_0 : decode cX5_plainFee 0 = .ok (.aload_n 0, 1) := by decide +kernel
theorem dX5_plainFee_1 : decode cX5_plainFee 1 = .ok (.iconst 0, 1) := by decide +kernel
theorem dX5_plainFee_2 : decode cX5_plainFee 2 = .ok (.iconst 1, 1) := by decide +kernel
theorem dX5_plainFee_3 : decode cX5_plainFee 3 = .ok (.invokevirtual 79, 3) := by decide +kernel
theorem dX5_plainFee_6 : decode cX5_plainFee 6 = .ok (.aload_n 0, 1) := by decide +kernel
theorem dX5_plainFee_7 : decode cX5_plainFee 7 = .ok (.getfield 7, 3) := by decide +kernel
theorem dX5_plainFee_10 : decode cX5_plainFee 10 = .ok (.iconst 1, 1) := by decide +kernel
theorem dX5_plainFee_11 : decode cX5_plainFee 11 = .ok (.iaload, 1) := by decide +kernel
theorem dX5_plainFee_12 : decode cX5_plainFee 12 = .ok (.iload_n 1, 1) := by decide +kernel
theorem dX5_plainFee_13 : decode cX5_plainFee 13 = .ok (.aload_n 0, 1) := by decide +kernel
theorem dX5_plainFee_14 : decode cX5_plainFee 14 = .ok (.getfield 7, 3) := by decide +kernel
theorem dX5_plainFee_17 : decode cX5_plainFee 17 = .ok (.iconst 2, 1) := by decide +kernel
theorem dX5_plainFee_18 : decode cX5_plainFee 18 = .ok (.iaload, 1) := by decide +kernel
theorem dX5_plainFee_19 : decode cX5_plainFee 19 = .ok (.imul, 1) := by decide +kernel
theorem dX5_plainFee_20 : decode cX5_plainFee 20 = .ok (.iadd, 1) := by decide +kernel
theorem dX5_plainFee_21 : decode cX5_plainFee 21 = .ok (.ireturn, 1) := by decide +kernel
set_option maxRecDepth 20000 in
theorem ggX5_carFee_X5_began : GoodIn wsX5_carFee wsX5_began := goodIn_r _ [6, 7, 8, 13, 14, 15, 16, 17, 18, 19, 20, 21, 22, 23, 24, 25, 26, 27, 28, 29] (by decide +kernel) (by decide +kernel)
set_option maxRecDepth 20000 in
theorem gX5_carFee_X5_began : GoodIn wsX5_carFee (wsV RX5 79 RX5 yX5_began wsX5_began) := goodIn_app (goodIn_of _ (by decide +kernel)) ggX5_carFee_X5_began
set_option maxRecDepth 20000 in
theorem ggX5_carFee_X5_plainFee : GoodIn wsX5_carFee wsX5_plainFee := goodIn_r _ [12, 1, 2, 3, 4, 5, 6, 7, 8, 13, 14, 15, 16, 17, 18, 19, 20, 21, 22, 23, 24, 25, 26, 27, 28, 29] (by decide +kernel) (by decide +kernel)
set_option maxRecDepth 20000 in
theorem gX5_carFee_X5_plainFee : GoodIn wsX5_carFee (wsV RX5 83 RX5 yX5_plainFee wsX5_plainFee) := goodIn_app (goodIn_of _ (by decide +kernel)) ggX5_carFee_X5_plainFee
theorem dX5_carFee_0 : decode cX5_carFee 0 = .ok (.aload_n 0, 1) := by decide +kernel
theorem dX5_carFee_1 : decode cX5_carFee 1 = .ok (.iconst 1, 1) := by decide +kernel
theorem dX5_carFee_2 : decode cX5_carFee 2 = .ok (.iconst 1, 1) := by decide +kernel
theorem dX5_carFee_3 : decode cX5_carFee 3 = .ok (.invokevirtual 79, 3) := by decide +kernel
theorem dX5_carFee_6 : decode cX5_carFee 6 = .ok (.aload_n 0, 1) := by decide +kernel
theorem dX5_carFee_7 : decode cX5_carFee 7 = .ok (.iload_n 1, 1) := by decide +kernel
theorem dX5_carFee_8 : decode cX5_carFee 8 = .ok (.invokevirtual 83, 3) := by decide +kernel
theorem dX5_carFee_11 : decode cX5_carFee 11 = .ok (.aload_n 0, 1) := by decide +kernel
theorem dX5_carFee_12 : decode cX5_carFee 12 = .ok (.getfield 7, 3) := by decide +kernel
theorem dX5_carFee_15 : decode cX5_carFee 15 = .ok (.iconst 3, 1) := by decide +kernel
theorem dX5_carFee_16 : decode cX5_carFee 16 = .ok (.iaload, 1) := by decide +kernel
theorem dX5_carFee_17 : decode cX5_carFee 17 = .ok (.isub, 1) := by decide +kernel
theorem dX5_carFee_18 : decode cX5_carFee 18 = .ok (.istore_n 2, 1) := by decide +kernel
theorem dX5_carFee_19 : decode cX5_carFee 19 = .ok (.iload_n 2, 1) := by decide +kernel
theorem dX5_carFee_20 : decode cX5_carFee 20 = .ok (.ifCond .ge 7, 3) := by decide +kernel
theorem dX5_carFee_23 : decode cX5_carFee 23 = .ok (.iconst 0, 1) := by decide +kernel
theorem dX5_carFee_24 : decode cX5_carFee 24 = .ok (.goto 4, 3) := by decide +kernel
theorem dX5_carFee_27 : decode cX5_carFee 27 = .ok (.iload_n 2, 1) := by decide +kernel
theorem dX5_carFee_28 : decode cX5_carFee 28 = .ok (.ireturn, 1) := by decide +kernel
set_option maxRecDepth 20000 in
theorem ggX5_camperFee_X5_began : GoodIn wsX5_camperFee wsX5_began := goodIn_r _ [5, 6, 7, 26, 27, 28, 29, 30, 31, 32, 33, 34, 35, 36, 37, 38, 39, 40, 41, 42] (by decide +kernel) (by decide +kernel)
set_option maxRecDepth 20000 in
theorem gX5_camperFee_X5_began : GoodIn wsX5_camperFee (wsV RX5 79 RX5 yX5_began wsX5_began) := goodIn_app (goodIn_of _ (by decide +kernel)) ggX5_camperFee_X5_began
set_option maxRecDepth 20000 in
theorem ggX5_camperFee_X5_carFee : GoodIn wsX5_camperFee wsX5_carFee := goodIn_r _ [11, 12, 1, 2, 3, 4, 5, 6, 7, 13, 14, 15, 16, 26, 27, 28, 29, 30, 31, 32, 33, 34, 35, 36, 37, 38, 39, 40, 41, 42] (by decide +kernel) (by decide +kernel)
set_option maxRecDepth 20000 in
theorem gX5_camperFee_X5_carFee : GoodIn wsX5_camperFee (wsV RX5 86 RX5 yX5_carFee wsX5_carFee) := goodIn_app (goodIn_of _ (by decide +kernel)) ggX5_camperFee_X5_carFee
set_option maxRecDepth 20000 in
theorem ggX5_camperFee_X5_length : GoodIn wsX5_camperFee wsX5_length := goodIn_r _ [20, 21, 22, 12, 23, 24, 4, 25, 1, 2, 3, 5, 6, 7, 26, 27, 28, 29, 30, 31, 32, 33, 34, 35, 36, 37, 38, 39, 40, 41, 42] (by decide +kernel) (by decide +kernel)
set_option maxRecDepth 20000 in
theorem gX5_camperFee_X5_length : GoodIn wsX5_camperFee (wsV RX5 89 RX5 yX5_length wsX5_length) := goodIn_app (goodIn_of _ (by decide +kernel)) ggX5_camperFee_X5_length
theorem dX5_camperFee_0 : decode cX5_camperFee 0 = .ok (.aload_n 0, 1) := by decide +kernel
theorem dX5_camperFee_1 : decode cX5_camperFee 1 = .ok (.iconst 3, 1) := by decide +kernel
theorem dX5_camperFee_2 : decode cX5_camperFee 2 = .ok (.iconst 1, 1) := by decide +kernel
theorem dX5_camperFee_3 : decode cX5_camperFee 3 = .ok (.invokevirtual 79, 3) := by decide +kernel
theorem dX5_camperFee_6 : decode cX5_camperFee 6 = .ok (.aload_n 0, 1) := by decide +kernel
theorem dX5_camperFee_7 : decode cX5_camperFee 7 = .ok (.iload_n 2, 1) := by decide +kernel
theorem dX5_camperFee_8 : decode cX5_camperFee 8 = .ok (.invokevirtual 86, 3) := by decide +kernel
theorem dX5_camperFee_11 : decode cX5_camperFee 11 = .ok (.istore_n 3, 1) := by decide +kernel
theorem dX5_camperFee_12 : decode cX5_camperFee 12 = .ok (.iload_n 3, 1) := by decide +kernel
theorem dX5_camperFee_13 : decode cX5_camperFee 13 = .ok (.aload_n 0, 1) := by decide +kernel
theorem dX5_camperFee_14 : decode cX5_camperFee 14 = .ok (.iload_n 1, 1) := by decide +kernel
theorem dX5_camperFee_15 : decode cX5_camperFee 15 = .ok (.invokevirtual 89, 3) := by decide +kernel
theorem dX5_camperFee_18 : decode cX5_camperFee 18 = .ok (.iadd, 1) := by decide +kernel
theorem dX5_camperFee_19 : decode cX5_camperFee 19 = .ok (.ireturn, 1) := by decide +kernel
set_option maxRecDepth 20000 in
theorem ggX5_tankerFee_X5_began : GoodIn wsX5_tankerFee wsX5_began := goodIn_r _ [5, 6, 7, 13, 14, 15, 16, 17, 18, 19, 20, 21, 22, 23, 24, 25, 26, 27, 28, 29] (by decide +kernel) (by decide +kernel)
set_option maxRecDepth 20000 in
theorem gX5_tankerFee_X5_began : GoodIn wsX5_tankerFee (wsV RX5 79 RX5 yX5_began wsX5_began) := goodIn_app (goodIn_of _ (by decide +kernel)) ggX5_tankerFee_X5_began
set_option maxRecDepth 20000 in
theorem ggX5_tankerFee_X5_plainFee : GoodIn wsX5_tankerFee wsX5_plainFee := goodIn_r _ [11, 12, 1, 2, 3, 4, 5, 6, 7, 13, 14, 15, 16, 17, 18, 19, 20, 21, 22, 23, 24, 25, 26, 27, 28, 29] (by decide +kernel) (by decide +kernel)
set_option maxRecDepth 20000 in
theorem gX5_tankerFee_X5_plainFee : GoodIn wsX5_tankerFee (wsV RX5 83 RX5 yX5_plainFee wsX5_plainFee) := goodIn_app (goodIn_of _ (by decide +kernel)) ggX5_tankerFee_X5_plainFee
theorem dX5_tankerFee_0 : decode cX5_tankerFee 0 = .ok (.aload_n 0, 1) := by decide +kernel
theorem dX5_tankerFee_1 : decode cX5_tankerFee 1 = .ok (.bipush 7, 2) := by decide +kernel
theorem dX5_tankerFee_3 : decode cX5_tankerFee 3 = .ok (.iconst 1, 1) := by decide +kernel
theorem dX5_tankerFee_4 : decode cX5_tankerFee 4 = .ok (.invokevirtual 79, 3) := by decide +kernel
theorem dX5_tankerFee_7 : decode cX5_tankerFee 7 = .ok (.iconst 2, 1) := by decide +kernel
theorem dX5_tankerFee_8 : decode cX5_tankerFee 8 = .ok (.aload_n 0, 1) := by decide +kernel
theorem dX5_tankerFee_9 : decode cX5_tankerFee 9 = .ok (.iload_n 1, 1) := by decide +kernel
theorem dX5_tankerFee_10 : decode cX5_tankerFee 10 = .ok (.invokevirtual 83, 3) := by decide +kernel
theorem dX5_tankerFee_13 : decode cX5_tankerFee 13 = .ok (.imul, 1) := by decide +kernel
theorem dX5_tankerFee_14 : decode cX5_tankerFee 14 = .ok (.ireturn, 1) := by decide +kernel
set_option maxRecDepth 20000 in
theorem ggX5_fee_X5_carFee : GoodIn wsX5_fee wsX5_carFee := goodIn_r _ [6, 7, 8, 9, 10, 5, 11, 12, 13, 14, 15, 16, 17, 60, 61, 62, 63, 64, 65, 66, 67, 68, 69, 70, 71, 72, 73, 74, 75, 76] (by decide +kernel) (by decide +kernel)
set_option maxRecDepth 20000 in
theorem gX5_fee_X5_carFee : GoodIn wsX5_fee (wsV RX5 86 RX5 yX5_carFee wsX5_carFee) := goodIn_app (goodIn_of _ (by decide +kernel)) ggX5_fee_X5_carFee
set_option maxRecDepth 20000 in
theorem ggX5_fee_X5_camperFee : GoodIn wsX5_fee wsX5_camperFee := goodIn_r _ [21, 8, 9, 10, 5, 11, 12, 13, 2, 3, 4, 6, 7, 14, 15, 16, 17, 22, 23, 24, 25, 1, 26, 27, 28, 29, 60, 61, 62, 63, 64, 65, 66, 67, 68, 69, 70, 71, 72, 73, 74, 75, 76] (by decide +kernel) (by decide +kernel)
set_option maxRecDepth 20000 in
theorem gX5_fee_X5_camperFee : GoodIn wsX5_fee (wsV RX5 92 RX5 yX5_camperFee wsX5_camperFee) := goodIn_app (goodIn_of _ (by decide +kernel)) ggX5_fee_X5_camperFee
set_option maxRecDepth 20000 in
theorem ggX5_fee_X5_began : GoodIn wsX5_fee wsX5_began := goodIn_r _ [11, 12, 13, 60, 61, 62, 63, 64, 65, 66, 67, 68, 69, 70, 71, 72, 73, 74, 75, 76] (by decide +kernel) (by decide +kernel)
set_option maxRecDepth 20000 in
theorem gX5_fee_X5_began : GoodIn wsX5_fee (wsV RX5 79 RX5 yX5_began wsX5_began) := goodIn_app (goodIn_of _ (by decide +kernel)) ggX5_fee_X5_began
set_option maxRecDepth 20000 in
theorem ggX5_fee_X5_plainFee : GoodIn wsX5_fee wsX5_plainFee := goodIn_r _ [17, 7, 8, 9, 10, 5, 11, 12, 13, 60, 61, 62, 63, 64, 65, 66, 67, 68, 69, 70, 71, 72, 73, 74, 75, 76] (by decide +kernel) (by decide +kernel)
set_option maxRecDepth 20000 in
theorem gX5_fee_X5_plainFee : GoodIn wsX5_fee (wsV RX5 83 RX5 yX5_plainFee wsX5_plainFee) := goodIn_app (goodIn_of _ (by decide +kernel)) ggX5_fee_X5_plainFee
set_option maxRecDepth 20000 in
theorem ggX5_fee_X5_tankerFee : GoodIn wsX5_fee wsX5_tankerFee := goodIn_r _ [33, 8, 9, 10, 5, 11, 12, 13, 14, 15, 16, 17, 7, 60, 61, 62, 63, 64, 65, 66, 67, 68, 69, 70, 71, 72, 73, 74, 75, 76] (by decide +kernel) (by decide +kernel)
set_option maxRecDepth 20000 in
theorem gX5_fee_X5_tankerFee : GoodIn wsX5_fee (wsV RX5 96 RX5 yX5_tankerFee wsX5_tankerFee) := goodIn_app (goodIn_of _ (by decide +kernel)) ggX5_fee_X5_tankerFee
set_option maxRecDepth 20000 in
theorem ggX5_fee_X5_riskOf : GoodIn wsX5_fee wsX5_riskOf := goodIn_r _ [37, 1, 38, 39, 40, 5, 41, 8, 9, 10, 11, 12, 13, 42, 43, 44, 45, 46, 47, 48, 49, 50, 51, 52, 53, 54, 55, 7, 56, 57, 58, 59, 60, 61, 62, 63, 64, 65, 66, 67, 68, 69, 70, 71, 72, 73, 74, 75, 76] (by decide +kernel) (by decide +kernel)
set_option maxRecDepth 20000 in
theorem gX5_fee_X5_riskOf : GoodIn wsX5_fee (wsV RX5 99 RX5 yX5_riskOf wsX5_riskOf) := goodIn_app (goodIn_of _ (by decide +kernel)) ggX5_fee_X5_riskOf
theorem dX5_fee_0 : decode cX5_fee 0 = .ok (.aload_n 0, 1) := by decide +kernel
theorem dX5_fee_1 : decode cX5_fee 1 = .ok (.getfield 13, 3) := by decide +kernel
theorem dX5_fee_4 : decode cX5_fee 4 = .ok (.iload_n 1, 1) := by decide +kernel
theorem dX5_fee_5 : decode cX5_fee 5 = .ok (.iaload, 1) := by decide +kernel
theorem dX5_fee_6 : decode cX5_fee 6 = .ok (.tableswitch 93 1 8 #[46, 46, 52, 52, 59, 81, 87, 87], 46) := by decide +kernel
theorem dX5_fee_52 : decode cX5_fee 52 = .ok (.aload_n 0, 1) := by decide +kernel
theorem dX5_fee_53 : decode cX5_fee 53 = .ok (.iload_n 2, 1) := by decide +kernel
theorem dX5_fee_54 : decode cX5_fee 54 = .ok (.invokevirtual 86, 3) := by decide +kernel
theorem dX5_fee_57 : decode cX5_fee 57 = .ok (.ireturn, 1) := by decide +kernel
theorem dX5_fee_58 : decode cX5_fee 58 = .ok (.aload_n 0, 1) := by decide +kernel
theorem dX5_fee_59 : decode cX5_fee 59 = .ok (.iload_n 1, 1) := by decide +kernel
theorem dX5_fee_60 : decode cX5_fee 60 = .ok (.iload_n 2, 1) := by decide +kernel
theorem dX5_fee_61 : decode cX5_fee 61 = .ok (.invokevirtual 92, 3) := by decide +kernel
theorem dX5_fee_64 : decode cX5_fee 64 = .ok (.ireturn, 1) := by decide +kernel
theorem dX5_fee_65 : decode cX5_fee 65 = .ok (.aload_n 0, 1) := by decide +kernel
theorem dX5_fee_66 : decode cX5_fee 66 = .ok (.iconst 5, 1) := by decide +kernel
theorem dX5_fee_67 : decode cX5_fee 67 = .ok (.iconst 1, 1) := by decide +kernel
theorem dX5_fee_68 : decode cX5_fee 68 = .ok (.invokevirtual 79, 3) := by decide +kernel
theorem dX5_fee_71 : decode cX5_fee 71 = .ok (.aload_n 0, 1) := by decide +kernel
theorem dX5_fee_72 : decode cX5_fee 72 = .ok (.iload_n 1, 1) := by decide +kernel
theorem dX5_fee_73 : decode cX5_fee 73 = .ok (.iload_n 2, 1) := by decide +kernel
theorem dX5_fee_74 : decode cX5_fee 74 = .ok (.invokevirtual 92, 3) := by decide +kernel
theorem dX5_fee_77 : decode cX5_fee 77 = .ok (.istore_n 3, 1) := by decide +kernel
theorem dX5_fee_78 : decode cX5_fee 78 = .ok (.iload_n 3, 1) := by decide +kernel
theorem dX5_fee_79 : decode cX5_fee 79 = .ok (.aload_n 0, 1) := by decide +kernel
theorem dX5_fee_80 : decode cX5_fee 80 = .ok (.iload_n 1, 1) := by decide +kernel
theorem dX5_fee_81 : decode cX5_fee 81 = .ok (.iconst 0, 1) := by decide +kernel
theorem dX5_fee_82 : decode cX5_fee 82 = .ok (.invokevirtual 92, 3) := by decide +kernel
theorem dX5_fee_85 : decode cX5_fee 85 = .ok (.iadd, 1) := by decide +kernel
theorem dX5_fee_86 : decode cX5_fee 86 = .ok (.ireturn, 1) := by decide +kernel
theorem dX5_fee_87 : decode cX5_fee 87 = .ok (.aload_n 0, 1) := by decide +kernel
theorem dX5_fee_88 : decode cX5_fee 88 = .ok (.iload_n 2, 1) := by decide +kernel
theorem dX5_fee_89 : decode cX5_fee 89 = .ok (.invokevirtual 83, 3) := by decide +kernel
theorem dX5_fee_92 : decode cX5_fee 92 = .ok (.ireturn, 1) := by decide +kernel
theorem dX5_fee_93 : decode cX5_fee 93 = .ok (.aload_n 0, 1) := by decide +kernel
theorem dX5_fee_94 : decode cX5_fee 94 = .ok (.iload_n 2, 1) := by decide +kernel
theorem dX5_fee_95 : decode cX5_fee 95 = .ok (.invokevirtual 96, 3) := by decide +kernel
theorem dX5_fee_98 : decode cX5_fee 98 = .ok (.ireturn, 1) := by decide +kernel
theorem dX5_fee_99 : decode cX5_fee 99 = .ok (.aload_n 0, 1) := by decide +kernel
theorem dX5_fee_100 : decode cX5_fee 100 = .ok (.bipush 9, 2) := by decide +kernel
theorem dX5_fee_102 : decode cX5_fee 102 = .ok (.iconst 1, 1) := by decide +kernel
theorem dX5_fee_103 : decode cX5_fee 103 = .ok (.invokevirtual 79, 3) := by decide +kernel
theorem dX5_fee_106 : decode cX5_fee 106 = .ok (.aload_n 0, 1) := by decide +kernel
theorem dX5_fee_107 : decode cX5_fee 107 = .ok (.iload_n 2, 1) := by decide +kernel
theorem dX5_fee_108 : decode cX5_fee 108 = .ok (.invokevirtual 96, 3) := by decide +kernel
theorem dX5_fee_111 : decode cX5_fee 111 = .ok (.istore_n 3, 1) := by decide +kernel
theorem dX5_fee_112 : decode cX5_fee 112 = .ok (.iload_n 3, 1) := by decide +kernel
theorem dX5_fee_113 : decode cX5_fee 113 = .ok (.aload_n 0, 1) := by decide +kernel
theorem dX5_fee_114 : decode cX5_fee 114 = .ok (.iload_n 1, 1) := by decide +kernel
theorem dX5_fee_115 : decode cX5_fee 115 = .ok (.iconst 0, 1) := by decide +kernel
theorem dX5_fee_116 : decode cX5_fee 116 = .ok (.invokevirtual 99, 3) := by decide +kernel
theorem dX5_fee_119 : decode cX5_fee 119 = .ok (.iadd, 1) := by decide +kernel
theorem dX5_fee_120 : decode cX5_fee 120 = .ok (.ireturn, 1) := by decide +kernel
theorem dX5_fails_0 : decode cX5_fails 0 = .ok (.aload_n 0, 1) := by decide +kernel
theorem dX5_fails_1 : decode cX5_fails 1 = .ok (.iload_n 1, 1) := by decide +kernel
theorem dX5_fails_2 : decode cX5_fails 2 = .ok (.putfield 73, 3) := by decide +kernel
theorem dX5_fails_5 : decode cX5_fails 5 = .ok (.iconst 0, 1) := by decide +kernel
theorem dX5_fails_6 : decode cX5_fails 6 = .ok (.ireturn, 1) := by decide +kernel
set_option maxRecDepth 20000 in
theorem ggX5_plainRisk_X5_began : GoodIn wsX5_plainRisk wsX5_began := goodIn_r _ [5, 6, 7, 13, 14, 15, 16, 17, 18, 19, 20, 21, 22, 23, 24, 25, 26, 27, 28, 29] (by decide +kernel) (by decide +kernel)
set_option maxRecDepth 20000 in
theorem gX5_plainRisk_X5_began : GoodIn wsX5_plainRisk (wsV RX5 79 RX5 yX5_began wsX5_began) := goodIn_app (goodIn_of _ (by decide +kernel)) ggX5_plainRisk_X5_began
set_option maxRecDepth 20000 in
theorem ggX5_plainRisk_X5_fails : GoodIn wsX5_plainRisk wsX5_fails := goodIn_r _ [11, 12, 13, 14, 15, 16, 17, 18, 19, 20, 21, 22, 23, 24, 25, 26, 27, 28, 29] (by decide +kernel) (by decide +kernel)
set_option maxRecDepth 20000 in
theorem gX5_plainRisk_X5_fails : GoodIn wsX5_plainRisk (wsV RX5 102 RX5 yX5_fails wsX5_fails) := goodIn_app (goodIn_of _ (by decide +kernel)) ggX5_plainRisk_X5_fails
theorem dX5_plainRisk_0 : decode cX5_plainRisk 0 = .ok (.aload_n 0, 1) := by decide +kernel
theorem dX5_plainRisk_1 : decode cX5_plainRisk 1 = .ok (.iconst 0, 1) := by decide +kernel
theorem dX5_plainRisk_2 : decode cX5_plainRisk 2 = .ok (.iconst 2, 1) := by decide +kernel
theorem dX5_plainRisk_3 : decode cX5_plainRisk 3 = .ok (.invokevirtual 79, 3) := by decide +kernel
theorem dX5_plainRisk_6 : decode cX5_plainRisk 6 = .ok (.iload_n 1, 1) := by decide +kernel
theorem dX5_plainRisk_7 : decode cX5_plainRisk 7 = .ok (.bipush 9, 2) := by decide +kernel
theorem dX5_plainRisk_9 : decode cX5_plainRisk 9 = .ok (.if_icmp .le 11, 3) := by decide +kernel
theorem dX5_plainRisk_12 : decode cX5_plainRisk 12 = .ok (.aload_n 0, 1) := by decide +kernel
theorem dX5_plainRisk_13 : decode cX5_plainRisk 13 = .ok (.iconst 1, 1) := by decide +kernel
theorem dX5_plainRisk_14 : decode cX5_plainRisk 14 = .ok (.invokevirtual 102, 3) := by decide +kernel
theorem dX5_plainRisk_17 : decode cX5_plainRisk 17 = .ok (.goto 4, 3) := by decide +kernel
theorem dX5_plainRisk_20 : decode cX5_plainRisk 20 = .ok (.iload_n 1, 1) := by decide +kernel
theorem dX5_plainRisk_21 : decode cX5_plainRisk 21 = .ok (.ireturn, 1) := by decide +kernel
set_option maxRecDepth 20000 in
theorem ggX5_truckRisk_X5_began : GoodIn wsX5_truckRisk wsX5_began := goodIn_r _ [7, 8, 9, 19, 20, 21, 22, 23, 24, 25, 26, 27, 28, 29, 30, 31, 32, 33, 34, 35] (by decide +kernel) (by decide +kernel)
set_option maxRecDepth 20000 in
theorem gX5_truckRisk_X5_began : GoodIn wsX5_truckRisk (wsV RX5 79 RX5 yX5_began wsX5_began) := goodIn_app (goodIn_of _ (by decide +kernel)) ggX5_truckRisk_X5_began
set_option maxRecDepth 20000 in
theorem ggX5_truckRisk_X5_fails : GoodIn wsX5_truckRisk wsX5_fails := goodIn_r _ [13, 14, 19, 20, 21, 22, 23, 24, 25, 26, 27, 28, 29, 30, 31, 32, 33, 34, 35] (by decide +kernel) (by decide +kernel)
set_option maxRecDepth 20000 in
theorem gX5_truckRisk_X5_fails : GoodIn wsX5_truckRisk (wsV RX5 102 RX5 yX5_fails wsX5_fails) := goodIn_app (goodIn_of _ (by decide +kernel)) ggX5_truckRisk_X5_fails
set_option maxRecDepth 20000 in
theorem ggX5_truckRisk_X5_plainRisk : GoodIn wsX5_truckRisk wsX5_plainRisk := goodIn_r _ [18, 3, 4, 5, 6, 7, 8, 9, 10, 11, 12, 13, 14, 19, 20, 21, 22, 23, 24, 25, 26, 27, 28, 29, 30, 31, 32, 33, 34, 35] (by decide +kernel) (by decide +kernel)
set_option maxRecDepth 20000 in
theorem gX5_truckRisk_X5_plainRisk : GoodIn wsX5_truckRisk (wsV RX5 105 RX5 yX5_plainRisk wsX5_plainRisk) := goodIn_app (goodIn_of _ (by decide +kernel)) ggX5_truckRisk_X5_plainRisk
theorem dX5_truckRisk_0 : decode cX5_truckRisk 0 = .ok (.aload_n 0, 1) := by decide +kernel
theorem dX5_truckRisk_1 : decode cX5_truckRisk 1 = .ok (.bipush 6, 2) := by decide +kernel
theorem dX5_truckRisk_3 : decode cX5_truckRisk 3 = .ok (.iconst 2, 1) := by decide +kernel
theorem dX5_truckRisk_4 : decode cX5_truckRisk 4 = .ok (.invokevirtual 79, 3) := by decide +kernel
theorem dX5_truckRisk_7 : decode cX5_truckRisk 7 = .ok (.aload_n 0, 1) := by decide +kernel
theorem dX5_truckRisk_8 : decode cX5_truckRisk 8 = .ok (.getfield 19, 3) := by decide +kernel
theorem dX5_truckRisk_11 : decode cX5_truckRisk 11 = .ok (.iload_n 1, 1) := by decide +kernel
theorem dX5_truckRisk_12 : decode cX5_truckRisk 12 = .ok (.iaload, 1) := by decide +kernel
theorem dX5_truckRisk_13 : decode cX5_truckRisk 13 = .ok (.aload_n 0, 1) := by decide +kernel
theorem dX5_truckRisk_14 : decode cX5_truckRisk 14 = .ok (.getfield 7, 3) := by decide +kernel
theorem dX5_truckRisk_17 : decode cX5_truckRisk 17 = .ok (.iconst 4, 1) := by decide +kernel
theorem dX5_truckRisk_18 : decode cX5_truckRisk 18 = .ok (.iaload, 1) := by decide +kernel
theorem dX5_truckRisk_19 : decode cX5_truckRisk 19 = .ok (.if_icmp .le 11, 3) := by decide +kernel
theorem dX5_truckRisk_22 : decode cX5_truckRisk 22 = .ok (.aload_n 0, 1) := by decide +kernel
theorem dX5_truckRisk_23 : decode cX5_truckRisk 23 = .ok (.iconst 2, 1) := by decide +kernel
theorem dX5_truckRisk_24 : decode cX5_truckRisk 24 = .ok (.invokevirtual 102, 3) := by decide +kernel
theorem dX5_truckRisk_27 : decode cX5_truckRisk 27 = .ok (.goto 8, 3) := by decide +kernel
theorem dX5_truckRisk_30 : decode cX5_truckRisk 30 = .ok (.aload_n 0, 1) := by decide +kernel
theorem dX5_truckRisk_31 : decode cX5_truckRisk 31 = .ok (.iload_n 2, 1) := by decide +kernel
theorem dX5_truckRisk_32 : decode cX5_truckRisk 32 = .ok (.invokevirtual 105, 3) := by decide +kernel
theorem dX5_truckRisk_35 : decode cX5_truckRisk 35 = .ok (.ireturn, 1) := by decide +kernel
set_option maxRecDepth 20000 in
theorem ggX5_gasRisk_X5_began : GoodIn wsX5_gasRisk wsX5_began := goodIn_r _ [6, 7, 8, 23, 24, 25, 26, 27, 28, 29, 30, 31, 32, 33, 34, 35, 36, 37, 38, 39] (by decide +kernel) (by decide +kernel)
set_option maxRecDepth 20000 in
theorem gX5_gasRisk_X5_began : GoodIn wsX5_gasRisk (wsV RX5 79 RX5 yX5_began wsX5_began) := goodIn_app (goodIn_of _ (by decide +kernel)) ggX5_gasRisk_X5_began
set_option maxRecDepth 20000 in
theorem ggX5_gasRisk_X5_truckRisk : GoodIn wsX5_gasRisk wsX5_truckRisk := goodIn_r _ [12, 13, 14, 2, 3, 4, 5, 6, 7, 8, 15, 16, 17, 18, 1, 19, 20, 21, 22, 23, 24, 25, 26, 27, 28, 29, 30, 31, 32, 33, 34, 35, 36, 37, 38, 39] (by decide +kernel) (by decide +kernel)
set_option maxRecDepth 20000 in
theorem gX5_gasRisk_X5_truckRisk : GoodIn wsX5_gasRisk (wsV RX5 108 RX5 yX5_truckRisk wsX5_truckRisk) := goodIn_app (goodIn_of _ (by decide +kernel)) ggX5_gasRisk_X5_truckRisk
set_option maxRecDepth 20000 in
theorem ggX5_gasRisk_X5_fails : GoodIn wsX5_gasRisk wsX5_fails := goodIn_r _ [18, 1, 23, 24, 25, 26, 27, 28, 29, 30, 31, 32, 33, 34, 35, 36, 37, 38, 39] (by decide +kernel) (by decide +kernel)
set_option maxRecDepth 20000 in
theorem gX5_gasRisk_X5_fails : GoodIn wsX5_gasRisk (wsV RX5 102 RX5 yX5_fails wsX5_fails) := goodIn_app (goodIn_of _ (by decide +kernel)) ggX5_gasRisk_X5_fails
theorem dX5_gasRisk_0 : decode cX5_gasRisk 0 = .ok (.aload_n 0, 1) := by decide +kernel
theorem dX5_gasRisk_1 : decode cX5_gasRisk 1 = .ok (.bipush 8, 2) := by decide +kernel
theorem dX5_gasRisk_3 : decode cX5_gasRisk 3 = .ok (.iconst 2, 1) := by decide +kernel
theorem dX5_gasRisk_4 : decode cX5_gasRisk 4 = .ok (.invokevirtual 79, 3) := by decide +kernel
theorem dX5_gasRisk_7 : decode cX5_gasRisk 7 = .ok (.aload_n 0, 1) := by decide +kernel
theorem dX5_gasRisk_8 : decode cX5_gasRisk 8 = .ok (.iload_n 1, 1) := by decide +kernel
theorem dX5_gasRisk_9 : decode cX5_gasRisk 9 = .ok (.iload_n 2, 1) := by decide +kernel
theorem dX5_gasRisk_10 : decode cX5_gasRisk 10 = .ok (.invokevirtual 108, 3) := by decide +kernel
theorem dX5_gasRisk_13 : decode cX5_gasRisk 13 = .ok (.istore_n 3, 1) := by decide +kernel
theorem dX5_gasRisk_14 : decode cX5_gasRisk 14 = .ok (.aload_n 0, 1) := by decide +kernel
theorem dX5_gasRisk_15 : decode cX5_gasRisk 15 = .ok (.getfield 73, 3) := by decide +kernel
theorem dX5_gasRisk_18 : decode cX5_gasRisk 18 = .ok (.ifCond .ne 18, 3) := by decide +kernel
theorem dX5_gasRisk_21 : decode cX5_gasRisk 21 = .ok (.iload_n 3, 1) := by decide +kernel
theorem dX5_gasRisk_22 : decode cX5_gasRisk 22 = .ok (.iconst 1, 1) := by decide +kernel
theorem dX5_gasRisk_23 : decode cX5_gasRisk 23 = .ok (.iand, 1) := by decide +kernel
theorem dX5_gasRisk_24 : decode cX5_gasRisk 24 = .ok (.iconst 1, 1) := by decide +kernel
theorem dX5_gasRisk_25 : decode cX5_gasRisk 25 = .ok (.if_icmp .ne 11, 3) := by decide +kernel
theorem dX5_gasRisk_28 : decode cX5_gasRisk 28 = .ok (.aload_n 0, 1) := by decide +kernel
theorem dX5_gasRisk_29 : decode cX5_gasRisk 29 = .ok (.iconst 3, 1) := by decide +kernel
theorem dX5_gasRisk_30 : decode cX5_gasRisk 30 = .ok (.invokevirtual 102, 3) := by decide +kernel
theorem dX5_gasRisk_33 : decode cX5_gasRisk 33 = .ok (.goto 4, 3) := by decide +kernel
theorem dX5_gasRisk_36 : decode cX5_gasRisk 36 = .ok (.iload_n 3, 1) := by decide +kernel
theorem dX5_gasRisk_37 : decode cX5_gasRisk 37 = .ok (.ireturn, 1) := by decide +kernel
theorem dX5_taken_0 : decode cX5_taken 0 = .ok (.aload_n 0, 1) := by decide +kernel
theorem dX5_taken_1 : decode cX5_taken 1 = .ok (.getfield 73, 3) := by decide +kernel
theorem dX5_taken_4 : decode cX5_taken 4 = .ok (.iload_n 1, 1) := by decide +kernel
theorem dX5_taken_5 : decode cX5_taken 5 = .ok (.if_icmp .eq 5, 3) := by decide +kernel
theorem dX5_taken_8 : decode cX5_taken 8 = .ok (.iload_n 2, 1) := by decide +kernel
theorem dX5_taken_9 : decode cX5_taken 9 = .ok (.ireturn, 1) := by decide +kernel
theorem dX5_taken_10 : decode cX5_taken 10 = .ok (.aload_n 0, 1) := by decide +kernel
theorem dX5_taken_11 : decode cX5_taken 11 = .ok (.iconst 0, 1) := by decide +kernel
theorem dX5_taken_12 : decode cX5_taken 12 = .ok (.putfield 73, 3) := by decide +kernel
theorem dX5_taken_15 : decode cX5_taken 15 = .ok (.iload_n 3, 1) := by decide +kernel
theorem dX5_taken_16 : decode cX5_taken 16 = .ok (.ireturn, 1) := by decide +kernel
set_option maxRecDepth 20000 in
theorem ggX5_riskOf_X5_plainRisk : GoodIn wsX5_riskOf wsX5_plainRisk := goodIn_r _ [6, 7, 8, 9, 5, 10, 11, 12, 13, 14, 15, 16, 17, 32, 33, 34, 35, 36, 37, 38, 39, 40, 41, 42, 43, 44, 45, 46, 47, 48] (by decide +kernel) (by decide +kernel)
set_option maxRecDepth 20000 in
theorem gX5_riskOf_X5_plainRisk : GoodIn wsX5_riskOf (wsV RX5 105 RX5 yX5_plainRisk wsX5_plainRisk) := goodIn_app (goodIn_of _ (by decide +kernel)) ggX5_riskOf_X5_plainRisk
set_option maxRecDepth 20000 in
theorem ggX5_riskOf_X5_began : GoodIn wsX5_riskOf wsX5_began := goodIn_r _ [10, 11, 12, 32, 33, 34, 35, 36, 37, 38, 39, 40, 41, 42, 43, 44, 45, 46, 47, 48] (by decide +kernel) (by decide +kernel)
set_option maxRecDepth 20000 in
theorem gX5_riskOf_X5_began : GoodIn wsX5_riskOf (wsV RX5 79 RX5 yX5_began wsX5_began) := goodIn_app (goodIn_of _ (by decide +kernel)) ggX5_riskOf_X5_began
set_option maxRecDepth 20000 in
theorem ggX5_riskOf_X5_taken : GoodIn wsX5_riskOf wsX5_taken := goodIn_r _ [21, 17, 32, 33, 34, 35, 36, 37, 38, 39, 40, 41, 42, 43, 44, 45, 46, 47, 48] (by decide +kernel) (by decide +kernel)
set_option maxRecDepth 20000 in
theorem gX5_riskOf_X5_taken : GoodIn wsX5_riskOf (wsV RX5 111 RX5 yX5_taken wsX5_taken) := goodIn_app (goodIn_of _ (by decide +kernel)) ggX5_riskOf_X5_taken
set_option maxRecDepth 20000 in
theorem ggX5_riskOf_X5_truckRisk : GoodIn wsX5_riskOf wsX5_truckRisk := goodIn_r _ [25, 26, 27, 7, 8, 9, 5, 10, 11, 12, 13, 14, 15, 16, 17, 2, 3, 4, 6, 32, 33, 34, 35, 36, 37, 38, 39, 40, 41, 42, 43, 44, 45, 46, 47, 48] (by decide +kernel) (by decide +kernel)
set_option maxRecDepth 20000 in
theorem gX5_riskOf_X5_truckRisk : GoodIn wsX5_riskOf (wsV RX5 108 RX5 yX5_truckRisk wsX5_truckRisk) := goodIn_app (goodIn_of _ (by decide +kernel)) ggX5_riskOf_X5_truckRisk
set_option maxRecDepth 20000 in
theorem ggX5_riskOf_X5_gasRisk : GoodIn wsX5_riskOf wsX5_gasRisk := goodIn_r _ [31, 17, 7, 8, 9, 5, 10, 11, 12, 22, 23, 24, 25, 26, 27, 13, 14, 15, 16, 2, 3, 4, 6, 32, 33, 34, 35, 36, 37, 38, 39, 40, 41, 42, 43, 44, 45, 46, 47, 48] (by decide +kernel) (by decide +kernel)
set_option maxRecDepth 20000 in
theorem gX5_riskOf_X5_gasRisk : GoodIn wsX5_riskOf (wsV RX5 114 RX5 yX5_gasRisk wsX5_gasRisk) := goodIn_app (goodIn_of _ (by decide +kernel)) ggX5_riskOf_X5_gasRisk
theorem dX5_riskOf_0 : decode cX5_riskOf 0 = .ok (.aload_n 0, 1) := by decide +kernel
theorem dX5_riskOf_1 : decode cX5_riskOf 1 = .ok (.getfield 13, 3) := by decide +kernel
theorem dX5_riskOf_4 : decode cX5_riskOf 4 = .ok (.iload_n 1, 1) := by decide +kernel
theorem dX5_riskOf_5 : decode cX5_riskOf 5 = .ok (.iaload, 1) := by decide +kernel
theorem dX5_riskOf_6 : decode cX5_riskOf 6 = .ok (.istore_n 3, 1) := by decide +kernel
theorem dX5_riskOf_7 : decode cX5_riskOf 7 = .ok (.iload_n 3, 1) := by decide +kernel
theorem dX5_riskOf_8 : decode cX5_riskOf 8 = .ok (.tableswitch 109 1 8 #[48, 54, 54, 68, 68, 95, 95, 102], 48) := by decide +kernel
theorem dX5_riskOf_56 : decode cX5_riskOf 56 = .ok (.aload_n 0, 1) := by decide +kernel
theorem dX5_riskOf_57 : decode cX5_riskOf 57 = .ok (.iload_n 2, 1) := by decide +kernel
theorem dX5_riskOf_58 : decode cX5_riskOf 58 = .ok (.invokevirtual 105, 3) := by decide +kernel
theorem dX5_riskOf_61 : decode cX5_riskOf 61 = .ok (.ireturn, 1) := by decide +kernel
theorem dX5_riskOf_62 : decode cX5_riskOf 62 = .ok (.aload_n 0, 1) := by decide +kernel
theorem dX5_riskOf_63 : decode cX5_riskOf 63 = .ok (.iconst 2, 1) := by decide +kernel
theorem dX5_riskOf_64 : decode cX5_riskOf 64 = .ok (.iconst 2, 1) := by decide +kernel
theorem dX5_riskOf_65 : decode cX5_riskOf 65 = .ok (.invokevirtual 79, 3) := by decide +kernel
theorem dX5_riskOf_68 : decode cX5_riskOf 68 = .ok (.aload_n 0, 1) := by decide +kernel
theorem dX5_riskOf_69 : decode cX5_riskOf 69 = .ok (.iload_n 2, 1) := by decide +kernel
theorem dX5_riskOf_70 : decode cX5_riskOf 70 = .ok (.iconst 2, 1) := by decide +kernel
theorem dX5_riskOf_71 : decode cX5_riskOf 71 = .ok (.iadd, 1) := by decide +kernel
theorem dX5_riskOf_72 : decode cX5_riskOf 72 = .ok (.invokevirtual 105, 3) := by decide +kernel
theorem dX5_riskOf_75 : decode cX5_riskOf 75 = .ok (.ireturn, 1) := by decide +kernel
theorem dX5_riskOf_76 : decode cX5_riskOf 76 = .ok (.aload_n 0, 1) := by decide +kernel
theorem dX5_riskOf_77 : decode cX5_riskOf 77 = .ok (.iconst 4, 1) := by decide +kernel
theorem dX5_riskOf_78 : decode cX5_riskOf 78 = .ok (.iconst 2, 1) := by decide +kernel
theorem dX5_riskOf_79 : decode cX5_riskOf 79 = .ok (.invokevirtual 79, 3) := by decide +kernel
theorem dX5_riskOf_82 : decode cX5_riskOf 82 = .ok (.aload_n 0, 1) := by decide +kernel
theorem dX5_riskOf_83 : decode cX5_riskOf 83 = .ok (.iconst 2, 1) := by decide +kernel
theorem dX5_riskOf_84 : decode cX5_riskOf 84 = .ok (.iconst 2, 1) := by decide +kernel
theorem dX5_riskOf_85 : decode cX5_riskOf 85 = .ok (.invokevirtual 79, 3) := by decide +kernel
theorem dX5_riskOf_88 : decode cX5_riskOf 88 = .ok (.aload_n 0, 1) := by decide +kernel
theorem dX5_riskOf_89 : decode cX5_riskOf 89 = .ok (.iconst 1, 1) := by decide +kernel
theorem dX5_riskOf_90 : decode cX5_riskOf 90 = .ok (.aload_n 0, 1) := by decide +kernel
theorem dX5_riskOf_91 : decode cX5_riskOf 91 = .ok (.iload_n 2, 1) := by decide +kernel
theorem dX5_riskOf_92 : decode cX5_riskOf 92 = .ok (.iconst 2, 1) := by decide +kernel
theorem dX5_riskOf_93 : decode cX5_riskOf 93 = .ok (.iadd, 1) := by decide +kernel
theorem dX5_riskOf_94 : decode cX5_riskOf 94 = .ok (.invokevirtual 105, 3) := by decide +kernel
theorem dX5_riskOf_97 : decode cX5_riskOf 97 = .ok (.bipush 20, 2) := by decide +kernel
theorem dX5_riskOf_99 : decode cX5_riskOf 99 = .ok (.invokevirtual 111, 3) := by decide +kernel
theorem dX5_riskOf_102 : decode cX5_riskOf 102 = .ok (.ireturn, 1) := by decide +kernel
theorem dX5_riskOf_103 : decode cX5_riskOf 103 = .ok (.aload_n 0, 1) := by decide +kernel
theorem dX5_riskOf_104 : decode cX5_riskOf 104 = .ok (.iload_n 1, 1) := by decide +kernel
theorem dX5_riskOf_105 : decode cX5_riskOf 105 = .ok (.iload_n 2, 1) := by decide +kernel
theorem dX5_riskOf_106 : decode cX5_riskOf 106 = .ok (.invokevirtual 108, 3) := by decide +kernel
theorem dX5_riskOf_109 : decode cX5_riskOf 109 = .ok (.ireturn, 1) := by decide +kernel
theorem dX5_riskOf_110 : decode cX5_riskOf 110 = .ok (.aload_n 0, 1) := by decide +kernel
theorem dX5_riskOf_111 : decode cX5_riskOf 111 = .ok (.iload_n 1, 1) := by decide +kernel
theorem dX5_riskOf_112 : decode cX5_riskOf 112 = .ok (.iload_n 2, 1) := by decide +kernel
theorem dX5_riskOf_113 : decode cX5_riskOf 113 = .ok (.invokevirtual 114, 3) := by decide +kernel
theorem dX5_riskOf_116 : decode cX5_riskOf 116 = .ok (.ireturn, 1) := by decide +kernel
theorem dX5_riskOf_117 : decode cX5_riskOf 117 = .ok (.aload_n 0, 1) := by decide +kernel
theorem dX5_riskOf_118 : decode cX5_riskOf 118 = .ok (.bipush 9, 2) := by decide +kernel
theorem dX5_riskOf_120 : decode cX5_riskOf 120 = .ok (.iconst 2, 1) := by decide +kernel
theorem dX5_riskOf_121 : decode cX5_riskOf 121 = .ok (.invokevirtual 79, 3) := by decide +kernel
theorem dX5_riskOf_124 : decode cX5_riskOf 124 = .ok (.aload_n 0, 1) := by decide +kernel
theorem dX5_riskOf_125 : decode cX5_riskOf 125 = .ok (.iconst 3, 1) := by decide +kernel
theorem dX5_riskOf_126 : decode cX5_riskOf 126 = .ok (.aload_n 0, 1) := by decide +kernel
theorem dX5_riskOf_127 : decode cX5_riskOf 127 = .ok (.iload_n 1, 1) := by decide +kernel
theorem dX5_riskOf_128 : decode cX5_riskOf 128 = .ok (.iload_n 2, 1) := by decide +kernel
theorem dX5_riskOf_129 : decode cX5_riskOf 129 = .ok (.invokevirtual 114, 3) := by decide +kernel
theorem dX5_riskOf_132 : decode cX5_riskOf 132 = .ok (.bipush 50, 2) := by decide +kernel
theorem dX5_riskOf_134 : decode cX5_riskOf 134 = .ok (.invokevirtual 111, 3) := by decide +kernel
theorem dX5_riskOf_137 : decode cX5_riskOf 137 = .ok (.ireturn, 1) := by decide +kernel
set_option maxRecDepth 20000 in
theorem ggX5_plainLash_X5_began : GoodIn wsX5_plainLash wsX5_began := goodIn_r _ [6, 7, 8, 9, 10, 11, 12, 13, 14, 15, 16, 17, 18, 19, 20, 21, 22, 23, 24, 25] (by decide +kernel) (by decide +kernel)
set_option maxRecDepth 20000 in
theorem gX5_plainLash_X5_began : GoodIn wsX5_plainLash (wsV RX5 79 RX5 yX5_began wsX5_began) := goodIn_app (goodIn_of _ (by decide +kernel)) ggX5_plainLash_X5_began
theorem dX5_plainLash_0 : decode cX5_plainLash 0 = .ok (.aload_n 0, 1) := by decide +kernel
theorem dX5_plainLash_1 : decode cX5_plainLash 1 = .ok (.iconst 0, 1) := by decide +kernel
theorem dX5_plainLash_2 : decode cX5_plainLash 2 = .ok (.iconst 3, 1) := by decide +kernel
theorem dX5_plainLash_3 : decode cX5_plainLash 3 = .ok (.invokevirtual 79, 3) := by decide +kernel
theorem dX5_plainLash_6 : decode cX5_plainLash 6 = .ok (.aload_n 0, 1) := by decide +kernel
theorem dX5_plainLash_7 : decode cX5_plainLash 7 = .ok (.getfield 22, 3) := by decide +kernel
theorem dX5_plainLash_10 : decode cX5_plainLash 10 = .ok (.iload_n 1, 1) := by decide +kernel
theorem dX5_plainLash_11 : decode cX5_plainLash 11 = .ok (.aload_n 0, 1) := by decide +kernel
theorem dX5_plainLash_12 : decode cX5_plainLash 12 = .ok (.getfield 22, 3) := by decide +kernel
theorem dX5_plainLash_15 : decode cX5_plainLash 15 = .ok (.iload_n 1, 1) := by decide +kernel
theorem dX5_plainLash_16 : decode cX5_plainLash 16 = .ok (.iaload, 1) := by decide +kernel
theorem dX5_plainLash_17 : decode cX5_plainLash 17 = .ok (.iload_n 2, 1) := by decide +kernel
theorem dX5_plainLash_18 : decode cX5_plainLash 18 = .ok (.iadd, 1) := by decide +kernel
theorem dX5_plainLash_19 : decode cX5_plainLash 19 = .ok (.iastore, 1) := by decide +kernel
theorem dX5_plainLash_20 : decode cX5_plainLash 20 = .ok (.aload_n 0, 1) := by decide +kernel
theorem dX5_plainLash_21 : decode cX5_plainLash 21 = .ok (.getfield 22, 3) := by decide +kernel
theorem dX5_plainLash_24 : decode cX5_plainLash 24 = .ok (.iload_n 1, 1) := by decide +kernel
theorem dX5_plainLash_25 : decode cX5_plainLash 25 = .ok (.iaload, 1) := by decide +kernel
theorem dX5_plainLash_26 : decode cX5_plainLash 26 = .ok (.ireturn, 1) := by decide +kernel
set_option maxRecDepth 20000 in
theorem ggX5_vanLash_X5_began : GoodIn wsX5_vanLash wsX5_began := goodIn_r _ [5, 6, 7, 13, 14, 15, 16, 17, 18, 19, 20, 21, 22, 23, 24, 25, 26, 27, 28, 29] (by decide +kernel) (by decide +kernel)
set_option maxRecDepth 20000 in
theorem gX5_vanLash_X5_began : GoodIn wsX5_vanLash (wsV RX5 79 RX5 yX5_began wsX5_began) := goodIn_app (goodIn_of _ (by decide +kernel)) ggX5_vanLash_X5_began
set_option maxRecDepth 20000 in
theorem ggX5_vanLash_X5_plainLash : GoodIn wsX5_vanLash wsX5_plainLash := goodIn_r _ [11, 12, 1, 2, 3, 4, 5, 6, 7, 13, 14, 15, 16, 17, 18, 19, 20, 21, 22, 23, 24, 25, 26, 27, 28, 29] (by decide +kernel) (by decide +kernel)
set_option maxRecDepth 20000 in
theorem gX5_vanLash_X5_plainLash : GoodIn wsX5_vanLash (wsV RX5 117 RX5 yX5_plainLash wsX5_plainLash) := goodIn_app (goodIn_of _ (by decide +kernel)) ggX5_vanLash_X5_plainLash
theorem dX5_vanLash_0 : decode cX5_vanLash 0 = .ok (.aload_n 0, 1) := by decide +kernel
theorem dX5_vanLash_1 : decode cX5_vanLash 1 = .ok (.iconst 2, 1) := by decide +kernel
theorem dX5_vanLash_2 : decode cX5_vanLash 2 = .ok (.iconst 3, 1) := by decide +kernel
theorem dX5_vanLash_3 : decode cX5_vanLash 3 = .ok (.invokevirtual 79, 3) := by decide +kernel
theorem dX5_vanLash_6 : decode cX5_vanLash 6 = .ok (.aload_n 0, 1) := by decide +kernel
theorem dX5_vanLash_7 : decode cX5_vanLash 7 = .ok (.iload_n 1, 1) := by decide +kernel
theorem dX5_vanLash_8 : decode cX5_vanLash 8 = .ok (.iload_n 2, 1) := by decide +kernel
theorem dX5_vanLash_9 : decode cX5_vanLash 9 = .ok (.invokevirtual 117, 3) := by decide +kernel
theorem dX5_vanLash_12 : decode cX5_vanLash 12 = .ok (.pop, 1) := by decide +kernel
theorem dX5_vanLash_13 : decode cX5_vanLash 13 = .ok (.aload_n 0, 1) := by decide +kernel
theorem dX5_vanLash_14 : decode cX5_vanLash 14 = .ok (.iload_n 1, 1) := by decide +kernel
theorem dX5_vanLash_15 : decode cX5_vanLash 15 = .ok (.iconst 1, 1) := by decide +kernel
theorem dX5_vanLash_16 : decode cX5_vanLash 16 = .ok (.invokevirtual 117, 3) := by decide +kernel
theorem dX5_vanLash_19 : decode cX5_vanLash 19 = .ok (.ireturn, 1) := by decide +kernel
set_option maxRecDepth 20000 in
theorem ggX5_tankerLash_X5_began : GoodIn wsX5_tankerLash wsX5_began := goodIn_r _ [5, 6, 7, 13, 14, 15, 16, 17, 18, 19, 20, 21, 22, 23, 24, 25, 26, 27, 28, 29] (by decide +kernel) (by decide +kernel)
set_option maxRecDepth 20000 in
theorem gX5_tankerLash_X5_began : GoodIn wsX5_tankerLash (wsV RX5 79 RX5 yX5_began wsX5_began) := goodIn_app (goodIn_of _ (by decide +kernel)) ggX5_tankerLash_X5_began
set_option maxRecDepth 20000 in
theorem ggX5_tankerLash_X5_plainLash : GoodIn wsX5_tankerLash wsX5_plainLash := goodIn_r _ [11, 12, 1, 2, 3, 4, 5, 6, 7, 13, 14, 15, 16, 17, 18, 19, 20, 21, 22, 23, 24, 25, 26, 27, 28, 29] (by decide +kernel) (by decide +kernel)
set_option maxRecDepth 20000 in
theorem gX5_tankerLash_X5_plainLash : GoodIn wsX5_tankerLash (wsV RX5 117 RX5 yX5_plainLash wsX5_plainLash) := goodIn_app (goodIn_of _ (by decide +kernel)) ggX5_tankerLash_X5_plainLash
theorem dX5_tankerLash_0 : decode cX5_tankerLash 0 = .ok (.aload_n 0, 1) := by decide +kernel
theorem dX5_tankerLash_1 : decode cX5_tankerLash 1 = .ok (.bipush 7, 2) := by decide +kernel
theorem dX5_tankerLash_3 : decode cX5_tankerLash 3 = .ok (.iconst 3, 1) := by decide +kernel
theorem dX5_tankerLash_4 : decode cX5_tankerLash 4 = .ok (.invokevirtual 79, 3) := by decide +kernel
theorem dX5_tankerLash_7 : decode cX5_tankerLash 7 = .ok (.aload_n 0, 1) := by decide +kernel
theorem dX5_tankerLash_8 : decode cX5_tankerLash 8 = .ok (.iload_n 1, 1) := by decide +kernel
theorem dX5_tankerLash_9 : decode cX5_tankerLash 9 = .ok (.iload_n 2, 1) := by decide +kernel
theorem dX5_tankerLash_10 : decode cX5_tankerLash 10 = .ok (.iload_n 2, 1) := by decide +kernel
theorem dX5_tankerLash_11 : decode cX5_tankerLash 11 = .ok (.iadd, 1) := by decide +kernel
theorem dX5_tankerLash_12 : decode cX5_tankerLash 12 = .ok (.invokevirtual 117, 3) := by decide +kernel
theorem dX5_tankerLash_15 : decode cX5_tankerLash 15 = .ok (.ireturn, 1) := by decide +kernel
set_option maxRecDepth 20000 in
theorem ggX5_gasLash_X5_began : GoodIn wsX5_gasLash wsX5_began := goodIn_r _ [7, 8, 9, 23, 24, 25, 26, 27, 28, 29, 30, 31, 32, 33, 34, 35, 36, 37, 38, 39] (by decide +kernel) (by decide +kernel)
set_option maxRecDepth 20000 in
theorem gX5_gasLash_X5_began : GoodIn wsX5_gasLash (wsV RX5 79 RX5 yX5_began wsX5_began) := goodIn_app (goodIn_of _ (by decide +kernel)) ggX5_gasLash_X5_began
set_option maxRecDepth 20000 in
theorem ggX5_gasLash_X5_fails : GoodIn wsX5_gasLash wsX5_fails := goodIn_r _ [13, 14, 23, 24, 25, 26, 27, 28, 29, 30, 31, 32, 33, 34, 35, 36, 37, 38, 39] (by decide +kernel) (by decide +kernel)
set_option maxRecDepth 20000 in
theorem gX5_gasLash_X5_fails : GoodIn wsX5_gasLash (wsV RX5 102 RX5 yX5_fails wsX5_fails) := goodIn_app (goodIn_of _ (by decide +kernel)) ggX5_gasLash_X5_fails
set_option maxRecDepth 20000 in
theorem ggX5_gasLash_X5_tankerLash : GoodIn wsX5_gasLash wsX5_tankerLash := goodIn_r _ [18, 3, 4, 5, 6, 7, 8, 9, 19, 20, 21, 22, 1, 23, 24, 25, 26, 27, 28, 29, 30, 31, 32, 33, 34, 35, 36, 37, 38, 39] (by decide +kernel) (by decide +kernel)
set_option maxRecDepth 20000 in
theorem gX5_gasLash_X5_tankerLash : GoodIn wsX5_gasLash (wsV RX5 120 RX5 yX5_tankerLash wsX5_tankerLash) := goodIn_app (goodIn_of _ (by decide +kernel)) ggX5_gasLash_X5_tankerLash
theorem dX5_gasLash_0 : decode cX5_gasLash 0 = .ok (.aload_n 0, 1) := by decide +kernel
theorem dX5_gasLash_1 : decode cX5_gasLash 1 = .ok (.bipush 8, 2) := by decide +kernel
theorem dX5_gasLash_3 : decode cX5_gasLash 3 = .ok (.iconst 3, 1) := by decide +kernel
theorem dX5_gasLash_4 : decode cX5_gasLash 4 = .ok (.invokevirtual 79, 3) := by decide +kernel
theorem dX5_gasLash_7 : decode cX5_gasLash 7 = .ok (.aload_n 0, 1) := by decide +kernel
theorem dX5_gasLash_8 : decode cX5_gasLash 8 = .ok (.getfield 22, 3) := by decide +kernel
theorem dX5_gasLash_11 : decode cX5_gasLash 11 = .ok (.iload_n 1, 1) := by decide +kernel
theorem dX5_gasLash_12 : decode cX5_gasLash 12 = .ok (.iaload, 1) := by decide +kernel
theorem dX5_gasLash_13 : decode cX5_gasLash 13 = .ok (.aload_n 0, 1) := by decide +kernel
theorem dX5_gasLash_14 : decode cX5_gasLash 14 = .ok (.getfield 7, 3) := by decide +kernel
theorem dX5_gasLash_17 : decode cX5_gasLash 17 = .ok (.iconst 5, 1) := by decide +kernel
theorem dX5_gasLash_18 : decode cX5_gasLash 18 = .ok (.iaload, 1) := by decide +kernel
theorem dX5_gasLash_19 : decode cX5_gasLash 19 = .ok (.if_icmp .le 11, 3) := by decide +kernel
theorem dX5_gasLash_22 : decode cX5_gasLash 22 = .ok (.aload_n 0, 1) := by decide +kernel
theorem dX5_gasLash_23 : decode cX5_gasLash 23 = .ok (.iconst 4, 1) := by decide +kernel
theorem dX5_gasLash_24 : decode cX5_gasLash 24 = .ok (.invokevirtual 102, 3) := by decide +kernel
theorem dX5_gasLash_27 : decode cX5_gasLash 27 = .ok (.goto 9, 3) := by decide +kernel
theorem dX5_gasLash_30 : decode cX5_gasLash 30 = .ok (.aload_n 0, 1) := by decide +kernel
theorem dX5_gasLash_31 : decode cX5_gasLash 31 = .ok (.iload_n 1, 1) := by decide +kernel
theorem dX5_gasLash_32 : decode cX5_gasLash 32 = .ok (.iload_n 2, 1) := by decide +kernel
theorem dX5_gasLash_33 : decode cX5_gasLash 33 = .ok (.invokevirtual 120, 3) := by decide +kernel
theorem dX5_gasLash_36 : decode cX5_gasLash 36 = .ok (.ireturn, 1) := by decide +kernel
set_option maxRecDepth 20000 in
theorem ggX5_lash_X5_plainLash : GoodIn wsX5_lash wsX5_plainLash := goodIn_r _ [8, 3, 9, 10, 11, 7, 12, 13, 14, 32, 33, 34, 35, 36, 37, 38, 39, 40, 41, 42, 43, 44, 45, 46, 47, 48] (by decide +kernel) (by decide +kernel)
set_option maxRecDepth 20000 in
theorem gX5_lash_X5_plainLash : GoodIn wsX5_lash (wsV RX5 117 RX5 yX5_plainLash wsX5_plainLash) := goodIn_app (goodIn_of _ (by decide +kernel)) ggX5_lash_X5_plainLash
set_option maxRecDepth 20000 in
theorem ggX5_lash_X5_vanLash : GoodIn wsX5_lash wsX5_vanLash := goodIn_r _ [18, 9, 10, 11, 7, 12, 13, 14, 4, 5, 6, 8, 3, 32, 33, 34, 35, 36, 37, 38, 39, 40, 41, 42, 43, 44, 45, 46, 47, 48] (by decide +kernel) (by decide +kernel)
set_option maxRecDepth 20000 in
theorem gX5_lash_X5_vanLash : GoodIn wsX5_lash (wsV RX5 123 RX5 yX5_vanLash wsX5_vanLash) := goodIn_app (goodIn_of _ (by decide +kernel)) ggX5_lash_X5_vanLash
set_option maxRecDepth 20000 in
theorem ggX5_lash_X5_began : GoodIn wsX5_lash wsX5_began := goodIn_r _ [12, 13, 14, 32, 33, 34, 35, 36, 37, 38, 39, 40, 41, 42, 43, 44, 45, 46, 47, 48] (by decide +kernel) (by decide +kernel)
set_option maxRecDepth 20000 in
theorem gX5_lash_X5_began : GoodIn wsX5_lash (wsV RX5 79 RX5 yX5_began wsX5_began) := goodIn_app (goodIn_of _ (by decide +kernel)) ggX5_lash_X5_began
set_option maxRecDepth 20000 in
theorem ggX5_lash_X5_tankerLash : GoodIn wsX5_lash wsX5_tankerLash := goodIn_r _ [22, 9, 10, 11, 7, 12, 13, 14, 4, 5, 6, 8, 3, 32, 33, 34, 35, 36, 37, 38, 39, 40, 41, 42, 43, 44, 45, 46, 47, 48] (by decide +kernel) (by decide +kernel)
set_option maxRecDepth 20000 in
theorem gX5_lash_X5_tankerLash : GoodIn wsX5_lash (wsV RX5 120 RX5 yX5_tankerLash wsX5_tankerLash) := goodIn_app (goodIn_of _ (by decide +kernel)) ggX5_lash_X5_tankerLash
set_option maxRecDepth 20000 in
theorem ggX5_lash_X5_gasLash : GoodIn wsX5_lash wsX5_gasLash := goodIn_r _ [26, 3, 27, 9, 10, 11, 7, 12, 13, 14, 28, 29, 30, 31, 2, 19, 20, 21, 22, 4, 5, 6, 8, 32, 33, 34, 35, 36, 37, 38, 39, 40, 41, 42, 43, 44, 45, 46, 47, 48] (by decide +kernel) (by decide +kernel)
set_option maxRecDepth 20000 in
theorem gX5_lash_X5_gasLash : GoodIn wsX5_lash (wsV RX5 126 RX5 yX5_gasLash wsX5_gasLash) := goodIn_app (goodIn_of _ (by decide +kernel)) ggX5_lash_X5_gasLash
theorem dX5_lash_0 : decode cX5_lash 0 = .ok (.aload_n 0, 1) := by decide +kernel
theorem dX5_lash_1 : decode cX5_lash 1 = .ok (.getfield 13, 3) := by decide +kernel
theorem dX5_lash_4 : decode cX5_lash 4 = .ok (.iload_n 1, 1) := by decide +kernel
theorem dX5_lash_5 : decode cX5_lash 5 = .ok (.iaload, 1) := by decide +kernel
theorem dX5_lash_6 : decode cX5_lash 6 = .ok (.tableswitch 89 1 8 #[46, 53, 53, 60, 60, 46, 75, 82], 46) := by decide +kernel
theorem dX5_lash_52 : decode cX5_lash 52 = .ok (.aload_n 0, 1) := by decide +kernel
theorem dX5_lash_53 : decode cX5_lash 53 = .ok (.iload_n 1, 1) := by decide +kernel
theorem dX5_lash_54 : decode cX5_lash 54 = .ok (.iload_n 2, 1) := by decide +kernel
theorem dX5_lash_55 : decode cX5_lash 55 = .ok (.invokevirtual 117, 3) := by decide +kernel
theorem dX5_lash_58 : decode cX5_lash 58 = .ok (.ireturn, 1) := by decide +kernel
theorem dX5_lash_59 : decode cX5_lash 59 = .ok (.aload_n 0, 1) := by decide +kernel
theorem dX5_lash_60 : decode cX5_lash 60 = .ok (.iload_n 1, 1) := by decide +kernel
theorem dX5_lash_61 : decode cX5_lash 61 = .ok (.iload_n 2, 1) := by decide +kernel
theorem dX5_lash_62 : decode cX5_lash 62 = .ok (.invokevirtual 123, 3) := by decide +kernel
theorem dX5_lash_65 : decode cX5_lash 65 = .ok (.ireturn, 1) := by decide +kernel
theorem dX5_lash_66 : decode cX5_lash 66 = .ok (.aload_n 0, 1) := by decide +kernel
theorem dX5_lash_67 : decode cX5_lash 67 = .ok (.iconst 4, 1) := by decide +kernel
theorem dX5_lash_68 : decode cX5_lash 68 = .ok (.iconst 3, 1) := by decide +kernel
theorem dX5_lash_69 : decode cX5_lash 69 = .ok (.invokevirtual 79, 3) := by decide +kernel
theorem dX5_lash_72 : decode cX5_lash 72 = .ok (.aload_n 0, 1) := by decide +kernel
theorem dX5_lash_73 : decode cX5_lash 73 = .ok (.iload_n 1, 1) := by decide +kernel
theorem dX5_lash_74 : decode cX5_lash 74 = .ok (.iload_n 2, 1) := by decide +kernel
theorem dX5_lash_75 : decode cX5_lash 75 = .ok (.iconst 2, 1) := by decide +kernel
theorem dX5_lash_76 : decode cX5_lash 76 = .ok (.idiv, 1) := by decide +kernel
theorem dX5_lash_77 : decode cX5_lash 77 = .ok (.invokevirtual 123, 3) := by decide +kernel
theorem dX5_lash_80 : decode cX5_lash 80 = .ok (.ireturn, 1) := by decide +kernel
theorem dX5_lash_81 : decode cX5_lash 81 = .ok (.aload_n 0, 1) := by decide +kernel
theorem dX5_lash_82 : decode cX5_lash 82 = .ok (.iload_n 1, 1) := by decide +kernel
theorem dX5_lash_83 : decode cX5_lash 83 = .ok (.iload_n 2, 1) := by decide +kernel
theorem dX5_lash_84 : decode cX5_lash 84 = .ok (.invokevirtual 120, 3) := by decide +kernel
theorem dX5_lash_87 : decode cX5_lash 87 = .ok (.ireturn, 1) := by decide +kernel
theorem dX5_lash_88 : decode cX5_lash 88 = .ok (.aload_n 0, 1) := by decide +kernel
theorem dX5_lash_89 : decode cX5_lash 89 = .ok (.iload_n 1, 1) := by decide +kernel
theorem dX5_lash_90 : decode cX5_lash 90 = .ok (.iload_n 2, 1) := by decide +kernel
theorem dX5_lash_91 : decode cX5_lash 91 = .ok (.invokevirtual 126, 3) := by decide +kernel
theorem dX5_lash_94 : decode cX5_lash 94 = .ok (.ireturn, 1) := by decide +kernel
theorem dX5_lash_95 : decode cX5_lash 95 = .ok (.aload_n 0, 1) := by decide +kernel
theorem dX5_lash_96 : decode cX5_lash 96 = .ok (.bipush 9, 2) := by decide +kernel
theorem dX5_lash_98 : decode cX5_lash 98 = .ok (.iconst 3, 1) := by decide +kernel
theorem dX5_lash_99 : decode cX5_lash 99 = .ok (.invokevirtual 79, 3) := by decide +kernel
theorem dX5_lash_102 : decode cX5_lash 102 = .ok (.aload_n 0, 1) := by decide +kernel
theorem dX5_lash_103 : decode cX5_lash 103 = .ok (.iload_n 1, 1) := by decide +kernel
theorem dX5_lash_104 : decode cX5_lash 104 = .ok (.iload_n 2, 1) := by decide +kernel
theorem dX5_lash_105 : decode cX5_lash 105 = .ok (.invokevirtual 126, 3) := by decide +kernel
theorem dX5_lash_108 : decode cX5_lash 108 = .ok (.istore_n 3, 1) := by decide +kernel
theorem dX5_lash_109 : decode cX5_lash 109 = .ok (.aload_n 0, 1) := by decide +kernel
theorem dX5_lash_110 : decode cX5_lash 110 = .ok (.getfield 73, 3) := by decide +kernel
theorem dX5_lash_113 : decode cX5_lash 113 = .ok (.ifCond .ne 5, 3) := by decide +kernel
theorem dX5_lash_116 : decode cX5_lash 116 = .ok (.iload_n 3, 1) := by decide +kernel
theorem dX5_lash_117 : decode cX5_lash 117 = .ok (.ireturn, 1) := by decide +kernel
theorem dX5_lash_118 : decode cX5_lash 118 = .ok (.aload_n 0, 1) := by decide +kernel
theorem dX5_lash_119 : decode cX5_lash 119 = .ok (.iconst 0, 1) := by decide +kernel
theorem dX5_lash_120 : decode cX5_lash 120 = .ok (.putfield 73, 3) := by decide +kernel
theorem dX5_lash_123 : decode cX5_lash 123 = .ok (.aload_n 0, 1) := by decide +kernel
theorem dX5_lash_124 : decode cX5_lash 124 = .ok (.getfield 22, 3) := by decide +kernel
theorem dX5_lash_127 : decode cX5_lash 127 = .ok (.iload_n 1, 1) := by decide +kernel
theorem dX5_lash_128 : decode cX5_lash 128 = .ok (.iconst 0, 1) := by decide +kernel
theorem dX5_lash_129 : decode cX5_lash 129 = .ok (.iastore, 1) := by decide +kernel
theorem dX5_lash_130 : decode cX5_lash 130 = .ok (.aload_n 0, 1) := by decide +kernel
theorem dX5_lash_131 : decode cX5_lash 131 = .ok (.iload_n 1, 1) := by decide +kernel
theorem dX5_lash_132 : decode cX5_lash 132 = .ok (.iload_n 2, 1) := by decide +kernel
theorem dX5_lash_133 : decode cX5_lash 133 = .ok (.invokevirtual 126, 3) := by decide +kernel
theorem dX5_lash_136 : decode cX5_lash 136 = .ok (.ireturn, 1) := by decide +kernel
set_option maxRecDepth 20000 in
theorem ggX5_mark_X5_began : GoodIn wsX5_mark wsX5_began := goodIn_r _ [10, 11, 12, 16, 17, 18, 19, 20, 21, 22, 23, 24, 25, 26, 27, 28, 29, 30, 31, 32] (by decide +kernel) (by decide +kernel)
set_option maxRecDepth 20000 in
theorem gX5_mark_X5_began : GoodIn wsX5_mark (wsV RX5 79 RX5 yX5_began wsX5_began) := goodIn_app (goodIn_of _ (by decide +kernel)) ggX5_mark_X5_began
set_option maxRecDepth 20000 in
theorem ggX5_mark_X5_in : GoodIn wsX5_mark wsX5_in := goodIn_r _ [15] (by decide +kernel) (by decide +kernel)
set_option maxRecDepth 20000 in
theorem gX5_mark_X5_in : GoodIn wsX5_mark (va_wsS RX5 41 yX5_in wsX5_in) := goodIn_app (goodIn_of _ (by decide +kernel)) ggX5_mark_X5_in
theorem dX5_mark_0 : decode cX5_mark 0 = .ok (.aload_n 0, 1) := by decide +kernel
theorem dX5_mark_1 : decode cX5_mark 1 = .ok (.getfield 13, 3) := by decide +kernel
theorem dX5_mark_4 : decode cX5_mark 4 = .ok (.iload_n 1, 1) := by decide +kernel
theorem dX5_mark_5 : decode cX5_mark 5 = .ok (.iaload, 1) := by decide +kernel
theorem dX5_mark_6 : decode cX5_mark 6 = .ok (.istore_n 2, 1) := by decide +kernel
theorem dX5_mark_7 : decode cX5_mark 7 = .ok (.iload_n 2, 1) := by decide +kernel
theorem dX5_mark_8 : decode cX5_mark 8 = .ok (.iconst 5, 1) := by decide +kernel
theorem dX5_mark_9 : decode cX5_mark 9 = .ok (.if_icmp .ne 9, 3) := by decide +kernel
theorem dX5_mark_12 : decode cX5_mark 12 = .ok (.aload_n 0, 1) := by decide +kernel
theorem dX5_mark_13 : decode cX5_mark 13 = .ok (.iconst 5, 1) := by decide +kernel
theorem dX5_mark_14 : decode cX5_mark 14 = .ok (.iconst 4, 1) := by decide +kernel
theorem dX5_mark_15 : decode cX5_mark 15 = .ok (.invokevirtual 79, 3) := by decide +kernel
theorem dX5_mark_18 : decode cX5_mark 18 = .ok (.iload_n 2, 1) := by decide +kernel
theorem dX5_mark_19 : decode cX5_mark 19 = .ok (.i2l, 1) := by decide +kernel
theorem dX5_mark_20 : decode cX5_mark 20 = .ok (.ldc2_w 129, 3) := by decide +kernel
theorem dX5_mark_23 : decode cX5_mark 23 = .ok (.ldc2_w 131, 3) := by decide +kernel
theorem dX5_mark_26 : decode cX5_mark 26 = .ok (.invokestatic 41, 3) := by decide +kernel
theorem dX5_mark_29 : decode cX5_mark 29 = .ok (.istore_n 3, 1) := by decide +kernel
theorem dX5_mark_30 : decode cX5_mark 30 = .ok (.iload_n 3, 1) := by decide +kernel
theorem dX5_mark_31 : decode cX5_mark 31 = .ok (.ifCond .ne 9, 3) := by decide +kernel
theorem dX5_mark_34 : decode cX5_mark 34 = .ok (.iload_n 2, 1) := by decide +kernel
theorem dX5_mark_35 : decode cX5_mark 35 = .ok (.bipush 7, 2) := by decide +kernel
theorem dX5_mark_37 : decode cX5_mark 37 = .ok (.if_icmp .le 18, 3) := by decide +kernel
theorem dX5_mark_40 : decode cX5_mark 40 = .ok (.aload_n 0, 1) := by decide +kernel
theorem dX5_mark_41 : decode cX5_mark 41 = .ok (.iload_n 3, 1) := by decide +kernel
theorem dX5_mark_42 : decode cX5_mark 42 = .ok (.ifCond .eq 7, 3) := by decide +kernel
theorem dX5_mark_45 : decode cX5_mark 45 = .ok (.iconst 3, 1) := by decide +kernel
theorem dX5_mark_46 : decode cX5_mark 46 = .ok (.goto 5, 3) := by decide +kernel
theorem dX5_mark_49 : decode cX5_mark 49 = .ok (.bipush 8, 2) := by decide +kernel
theorem dX5_mark_51 : decode cX5_mark 51 = .ok (.iconst 4, 1) := by decide +kernel
theorem dX5_mark_52 : decode cX5_mark 52 = .ok (.invokevirtual 79, 3) := by decide +kernel
theorem dX5_mark_55 : decode cX5_mark 55 = .ok (.aload_n 0, 1) := by decide +kernel
theorem dX5_mark_56 : decode cX5_mark 56 = .ok (.iconst 0, 1) := by decide +kernel
theorem dX5_mark_57 : decode cX5_mark 57 = .ok (.iconst 4, 1) := by decide +kernel
theorem dX5_mark_58 : decode cX5_mark 58 = .ok (.invokevirtual 79, 3) := by decide +kernel
theorem dX5_mark_61 : decode cX5_mark 61 = .ok (.aload_n 0, 1) := by decide +kernel
theorem dX5_mark_62 : decode cX5_mark 62 = .ok (.getfield 16, 3) := by decide +kernel
theorem dX5_mark_65 : decode cX5_mark 65 = .ok (.iload_n 1, 1) := by decide +kernel
theorem dX5_mark_66 : decode cX5_mark 66 = .ok (.iaload, 1) := by decide +kernel
theorem dX5_mark_67 : decode cX5_mark 67 = .ok (.bipush 10, 2) := by decide +kernel
theorem dX5_mark_69 : decode cX5_mark 69 = .ok (.irem, 1) := by decide +kernel
theorem dX5_mark_70 : decode cX5_mark 70 = .ok (.istore 4, 2) := by decide +kernel
theorem dX5_mark_72 : decode cX5_mark 72 = .ok (.iload_n 3, 1) := by decide +kernel
theorem dX5_mark_73 : decode cX5_mark 73 = .ok (.ifCond .eq 18, 3) := by decide +kernel
theorem dX5_mark_76 : decode cX5_mark 76 = .ok (.iload 4, 2) := by decide +kernel
theorem dX5_mark_78 : decode cX5_mark 78 = .ok (.aload_n 0, 1) := by decide +kernel
theorem dX5_mark_79 : decode cX5_mark 79 = .ok (.getfield 19, 3) := by decide +kernel
theorem dX5_mark_82 : decode cX5_mark 82 = .ok (.iload_n 1, 1) := by decide +kernel
theorem dX5_mark_83 : decode cX5_mark 83 = .ok (.iaload, 1) := by decide +kernel
theorem dX5_mark_84 : decode cX5_mark 84 = .ok (.bipush 7, 2) := by decide +kernel
theorem dX5_mark_86 : decode cX5_mark 86 = .ok (.irem, 1) := by decide +kernel
theorem dX5_mark_87 : decode cX5_mark 87 = .ok (.iadd, 1) := by decide +kernel
theorem dX5_mark_88 : decode cX5_mark 88 = .ok (.goto 18, 3) := by decide +kernel
theorem dX5_mark_91 : decode cX5_mark 91 = .ok (.iload_n 2, 1) := by decide +kernel
theorem dX5_mark_92 : decode cX5_mark 92 = .ok (.bipush 7, 2) := by decide +kernel
theorem dX5_mark_94 : decode cX5_mark 94 = .ok (.if_icmp .le 10, 3) := by decide +kernel
theorem dX5_mark_97 : decode cX5_mark 97 = .ok (.iload 4, 2) := by decide +kernel
theorem dX5_mark_99 : decode cX5_mark 99 = .ok (.iconst 5, 1) := by decide +kernel
theorem dX5_mark_100 : decode cX5_mark 100 = .ok (.iadd, 1) := by decide +kernel
theorem dX5_mark_101 : decode cX5_mark 101 = .ok (.goto 5, 3) := by decide +kernel
theorem dX5_mark_104 : decode cX5_mark 104 = .ok (.iload 4, 2) := by decide +kernel
theorem dX5_mark_106 : decode cX5_mark 106 = .ok (.istore 4, 2) := by decide +kernel
theorem dX5_mark_108 : decode cX5_mark 108 = .ok (.iload_n 2, 1) := by decide +kernel
theorem dX5_mark_109 : decode cX5_mark 109 = .ok (.iconst 5, 1) := by decide +kernel
theorem dX5_mark_110 : decode cX5_mark 110 = .ok (.if_icmp .ne 10, 3) := by decide +kernel
theorem dX5_mark_113 : decode cX5_mark 113 = .ok (.iconst 2, 1) := by decide +kernel
theorem dX5_mark_114 : decode cX5_mark 114 = .ok (.iload 4, 2) := by decide +kernel
theorem dX5_mark_116 : decode cX5_mark 116 = .ok (.imul, 1) := by decide +kernel
theorem dX5_mark_117 : decode cX5_mark 117 = .ok (.goto 5, 3) := by decide +kernel
theorem dX5_mark_120 : decode cX5_mark 120 = .ok (.iload 4, 2) := by decide +kernel
theorem dX5_mark_122 : decode cX5_mark 122 = .ok (.ireturn, 1) := by decide +kernel
set_option maxRecDepth 20000 in
theorem ggX5_isHooked_X5_in : GoodIn wsX5_isHooked wsX5_in := goodIn_r _ [6] (by decide +kernel) (by decide +kernel)
set_option maxRecDepth 20000 in
theorem gX5_isHooked_X5_in : GoodIn wsX5_isHooked (va_wsS RX5 41 yX5_in wsX5_in) := goodIn_app (goodIn_of _ (by decide +kernel)) ggX5_isHooked_X5_in
theorem dX5_isHooked_0 : decode cX5_isHooked 0 = .ok (.iload_n 0, 1) := by decide +kernel
theorem dX5_isHooked_1 : decode cX5_isHooked 1 = .ok (.i2l, 1) := by decide +kernel
theorem dX5_isHooked_2 : decode cX5_isHooked 2 = .ok (.ldc2_w 129, 3) := by decide +kernel
theorem dX5_isHooked_5 : decode cX5_isHooked 5 = .ok (.ldc2_w 131, 3) := by decide +kernel
theorem dX5_isHooked_8 : decode cX5_isHooked 8 = .ok (.invokestatic 41, 3) := by decide +kernel
theorem dX5_isHooked_11 : decode cX5_isHooked 11 = .ok (.ifCond .ne 9, 3) := by decide +kernel
theorem dX5_isHooked_14 : decode cX5_isHooked 14 = .ok (.iload_n 0, 1) := by decide +kernel
theorem dX5_isHooked_15 : decode cX5_isHooked 15 = .ok (.bipush 6, 2) := by decide +kernel
theorem dX5_isHooked_17 : decode cX5_isHooked 17 = .ok (.if_icmp .le 7, 3) := by decide +kernel
theorem dX5_isHooked_20 : decode cX5_isHooked 20 = .ok (.iconst 1, 1) := by decide +kernel
theorem dX5_isHooked_21 : decode cX5_isHooked 21 = .ok (.goto 4, 3) := by decide +kernel
theorem dX5_isHooked_24 : decode cX5_isHooked 24 = .ok (.iconst 0, 1) := by decide +kernel
theorem dX5_isHooked_25 : decode cX5_isHooked 25 = .ok (.ireturn, 1) := by decide +kernel
set_option maxRecDepth 20000 in
theorem ggX5_hook_X5_began : GoodIn wsX5_hook wsX5_began := goodIn_r _ [8, 9, 10, 14, 15, 16, 17, 18, 19, 20, 21, 22, 23, 24, 25, 26, 27, 28, 29, 30] (by decide +kernel) (by decide +kernel)
set_option maxRecDepth 20000 in
theorem gX5_hook_X5_began : GoodIn wsX5_hook (wsV RX5 79 RX5 yX5_began wsX5_began) := goodIn_app (goodIn_of _ (by decide +kernel)) ggX5_hook_X5_began
set_option maxRecDepth 20000 in
theorem ggX5_hook_X5_isCar : GoodIn wsX5_hook wsX5_isCar := goodIn_r _ [13] (by decide +kernel) (by decide +kernel)
set_option maxRecDepth 20000 in
theorem gX5_hook_X5_isCar : GoodIn wsX5_hook (va_wsS RX5 76 yX5_isCar wsX5_isCar) := goodIn_app (goodIn_of _ (by decide +kernel)) ggX5_hook_X5_isCar
theorem dX5_hook_0 : decode cX5_hook 0 = .ok (.aload_n 0, 1) := by decide +kernel
theorem dX5_hook_1 : decode cX5_hook 1 = .ok (.getfield 13, 3) := by decide +kernel
theorem dX5_hook_4 : decode cX5_hook 4 = .ok (.iload_n 1, 1) := by decide +kernel
theorem dX5_hook_5 : decode cX5_hook 5 = .ok (.iaload, 1) := by decide +kernel
theorem dX5_hook_6 : decode cX5_hook 6 = .ok (.istore_n 2, 1) := by decide +kernel
theorem dX5_hook_7 : decode cX5_hook 7 = .ok (.iload_n 2, 1) := by decide +kernel
theorem dX5_hook_8 : decode cX5_hook 8 = .ok (.iconst 5, 1) := by decide +kernel
theorem dX5_hook_9 : decode cX5_hook 9 = .ok (.if_icmp .eq 9, 3) := by decide +kernel
theorem dX5_hook_12 : decode cX5_hook 12 = .ok (.iload_n 2, 1) := by decide +kernel
theorem dX5_hook_13 : decode cX5_hook 13 = .ok (.bipush 9, 2) := by decide +kernel
theorem dX5_hook_15 : decode cX5_hook 15 = .ok (.if_icmp .ne 10, 3) := by decide +kernel
theorem dX5_hook_18 : decode cX5_hook 18 = .ok (.aload_n 0, 1) := by decide +kernel
theorem dX5_hook_19 : decode cX5_hook 19 = .ok (.iload_n 2, 1) := by decide +kernel
theorem dX5_hook_20 : decode cX5_hook 20 = .ok (.bipush 6, 2) := by decide +kernel
theorem dX5_hook_22 : decode cX5_hook 22 = .ok (.invokevirtual 79, 3) := by decide +kernel
theorem dX5_hook_25 : decode cX5_hook 25 = .ok (.aload_n 0, 1) := by decide +kernel
theorem dX5_hook_26 : decode cX5_hook 26 = .ok (.iload_n 2, 1) := by decide +kernel
theorem dX5_hook_27 : decode cX5_hook 27 = .ok (.invokestatic 76, 3) := by decide +kernel
theorem dX5_hook_30 : decode cX5_hook 30 = .ok (.ifCond .eq 7, 3) := by decide +kernel
theorem dX5_hook_33 : decode cX5_hook 33 = .ok (.iconst 3, 1) := by decide +kernel
theorem dX5_hook_34 : decode cX5_hook 34 = .ok (.goto 5, 3) := by decide +kernel
theorem dX5_hook_37 : decode cX5_hook 37 = .ok (.bipush 7, 2) := by decide +kernel
theorem dX5_hook_39 : decode cX5_hook 39 = .ok (.bipush 6, 2) := by decide +kernel
theorem dX5_hook_41 : decode cX5_hook 41 = .ok (.invokevirtual 79, 3) := by decide +kernel
theorem dX5_hook_44 : decode cX5_hook 44 = .ok (.iload_n 2, 1) := by decide +kernel
theorem dX5_hook_45 : decode cX5_hook 45 = .ok (.bipush 9, 2) := by decide +kernel
theorem dX5_hook_47 : decode cX5_hook 47 = .ok (.if_icmp .ne 11, 3) := by decide +kernel
theorem dX5_hook_50 : decode cX5_hook 50 = .ok (.aload_n 0, 1) := by decide +kernel
theorem dX5_hook_51 : decode cX5_hook 51 = .ok (.bipush 7, 2) := by decide +kernel
theorem dX5_hook_53 : decode cX5_hook 53 = .ok (.bipush 6, 2) := by decide +kernel
theorem dX5_hook_55 : decode cX5_hook 55 = .ok (.invokevirtual 79, 3) := by decide +kernel
theorem dX5_hook_58 : decode cX5_hook 58 = .ok (.iload_n 2, 1) := by decide +kernel
theorem dX5_hook_59 : decode cX5_hook 59 = .ok (.iconst 5, 1) := by decide +kernel
theorem dX5_hook_60 : decode cX5_hook 60 = .ok (.if_icmp .ne 15, 3) := by decide +kernel
theorem dX5_hook_63 : decode cX5_hook 63 = .ok (.iconst 3, 1) := by decide +kernel
theorem dX5_hook_64 : decode cX5_hook 64 = .ok (.aload_n 0, 1) := by decide +kernel
theorem dX5_hook_65 : decode cX5_hook 65 = .ok (.getfield 7, 3) := by decide +kernel
theorem dX5_hook_68 : decode cX5_hook 68 = .ok (.bipush 6, 2) := by decide +kernel
theorem dX5_hook_70 : decode cX5_hook 70 = .ok (.iaload, 1) := by decide +kernel
theorem dX5_hook_71 : decode cX5_hook 71 = .ok (.iadd, 1) := by decide +kernel
theorem dX5_hook_72 : decode cX5_hook 72 = .ok (.goto 54, 3) := by decide +kernel
theorem dX5_hook_75 : decode cX5_hook 75 = .ok (.iload_n 2, 1) := by decide +kernel
theorem dX5_hook_76 : decode cX5_hook 76 = .ok (.invokestatic 76, 3) := by decide +kernel
theorem dX5_hook_79 : decode cX5_hook 79 = .ok (.ifCond .eq 7, 3) := by decide +kernel
theorem dX5_hook_82 : decode cX5_hook 82 = .ok (.iconst 3, 1) := by decide +kernel
theorem dX5_hook_83 : decode cX5_hook 83 = .ok (.goto 43, 3) := by decide +kernel
theorem dX5_hook_86 : decode cX5_hook 86 = .ok (.iload_n 2, 1) := by decide +kernel
theorem dX5_hook_87 : decode cX5_hook 87 = .ok (.bipush 9, 2) := by decide +kernel
theorem dX5_hook_89 : decode cX5_hook 89 = .ok (.if_icmp .ne 27, 3) := by decide +kernel
theorem dX5_hook_92 : decode cX5_hook 92 = .ok (.aload_n 0, 1) := by decide +kernel
theorem dX5_hook_93 : decode cX5_hook 93 = .ok (.getfield 19, 3) := by decide +kernel
theorem dX5_hook_96 : decode cX5_hook 96 = .ok (.iload_n 1, 1) := by decide +kernel
theorem dX5_hook_97 : decode cX5_hook 97 = .ok (.iaload, 1) := by decide +kernel
theorem dX5_hook_98 : decode cX5_hook 98 = .ok (.sipush 1000, 3) := by decide +kernel
theorem dX5_hook_101 : decode cX5_hook 101 = .ok (.idiv, 1) := by decide +kernel
theorem dX5_hook_102 : decode cX5_hook 102 = .ok (.aload_n 0, 1) := by decide +kernel
theorem dX5_hook_103 : decode cX5_hook 103 = .ok (.getfield 19, 3) := by decide +kernel
theorem dX5_hook_106 : decode cX5_hook 106 = .ok (.iload_n 1, 1) := by decide +kernel
theorem dX5_hook_107 : decode cX5_hook 107 = .ok (.iaload, 1) := by decide +kernel
theorem dX5_hook_108 : decode cX5_hook 108 = .ok (.sipush 1000, 3) := by decide +kernel
theorem dX5_hook_111 : decode cX5_hook 111 = .ok (.idiv, 1) := by decide +kernel
theorem dX5_hook_112 : decode cX5_hook 112 = .ok (.iadd, 1) := by decide +kernel
theorem dX5_hook_113 : decode cX5_hook 113 = .ok (.goto 13, 3) := by decide +kernel
theorem dX5_hook_116 : decode cX5_hook 116 = .ok (.aload_n 0, 1) := by decide +kernel
theorem dX5_hook_117 : decode cX5_hook 117 = .ok (.getfield 19, 3) := by decide +kernel
theorem dX5_hook_120 : decode cX5_hook 120 = .ok (.iload_n 1, 1) := by decide +kernel
theorem dX5_hook_121 : decode cX5_hook 121 = .ok (.iaload, 1) := by decide +kernel
theorem dX5_hook_122 : decode cX5_hook 122 = .ok (.sipush 1000, 3) := by decide +kernel
theorem dX5_hook_125 : decode cX5_hook 125 = .ok (.idiv, 1) := by decide +kernel
theorem dX5_hook_126 : decode cX5_hook 126 = .ok (.ireturn, 1) := by decide +kernel
set_option maxRecDepth 20000 in
theorem ggX5_pulls_X5_began : GoodIn wsX5_pulls wsX5_began := goodIn_r _ [6, 7, 8, 28, 29, 30, 31, 32, 33, 34, 35, 36, 37, 38, 39, 40, 41, 42, 43, 44] (by decide +kernel) (by decide +kernel)
set_option maxRecDepth 20000 in
theorem gX5_pulls_X5_began : GoodIn wsX5_pulls (wsV RX5 79 RX5 yX5_began wsX5_began) := goodIn_app (goodIn_of _ (by decide +kernel)) ggX5_pulls_X5_began
set_option maxRecDepth 20000 in
theorem ggX5_pulls_X5_hook : GoodIn wsX5_pulls wsX5_hook := goodIn_r _ [12, 1, 13, 14, 2, 3, 4, 5, 6, 7, 8, 15, 16, 17, 28, 29, 30, 31, 32, 33, 34, 35, 36, 37, 38, 39, 40, 41, 42, 43, 44] (by decide +kernel) (by decide +kernel)
set_option maxRecDepth 20000 in
theorem gX5_pulls_X5_hook : GoodIn wsX5_pulls (wsV RX5 133 RX5 yX5_hook wsX5_hook) := goodIn_app (goodIn_of _ (by decide +kernel)) ggX5_pulls_X5_hook
set_option maxRecDepth 20000 in
theorem ggX5_pulls_X5_mark : GoodIn wsX5_pulls wsX5_mark := goodIn_r _ [21, 1, 22, 23, 24, 14, 2, 3, 4, 5, 6, 7, 8, 25, 26, 27, 28, 29, 30, 31, 32, 33, 34, 35, 36, 37, 38, 39, 40, 41, 42, 43, 44] (by decide +kernel) (by decide +kernel)
set_option maxRecDepth 20000 in
theorem gX5_pulls_X5_mark : GoodIn wsX5_pulls (wsV RX5 136 RX5 yX5_mark wsX5_mark) := goodIn_app (goodIn_of _ (by decide +kernel)) ggX5_pulls_X5_mark
theorem dX5_pulls_0 : decode cX5_pulls 0 = .ok (.iload_n 2, 1) := by decide +kernel
theorem dX5_pulls_1 : decode cX5_pulls 1 = .ok (.istore_n 3, 1) := by decide +kernel
theorem dX5_pulls_2 : decode cX5_pulls 2 = .ok (.aload_n 0, 1) := by decide +kernel
theorem dX5_pulls_3 : decode cX5_pulls 3 = .ok (.getfield 13, 3) := by decide +kernel
theorem dX5_pulls_6 : decode cX5_pulls 6 = .ok (.iload_n 1, 1) := by decide +kernel
theorem dX5_pulls_7 : decode cX5_pulls 7 = .ok (.iaload, 1) := by decide +kernel
theorem dX5_pulls_8 : decode cX5_pulls 8 = .ok (.iconst 5, 1) := by decide +kernel
theorem dX5_pulls_9 : decode cX5_pulls 9 = .ok (.if_icmp .ne 13, 3) := by decide +kernel
theorem dX5_pulls_12 : decode cX5_pulls 12 = .ok (.aload_n 0, 1) := by decide +kernel
theorem dX5_pulls_13 : decode cX5_pulls 13 = .ok (.iconst 5, 1) := by decide +kernel
theorem dX5_pulls_14 : decode cX5_pulls 14 = .ok (.iconst 5, 1) := by decide +kernel
theorem dX5_pulls_15 : decode cX5_pulls 15 = .ok (.invokevirtual 79, 3) := by decide +kernel
theorem dX5_pulls_18 : decode cX5_pulls 18 = .ok (.iload_n 2, 1) := by decide +kernel
theorem dX5_pulls_19 : decode cX5_pulls 19 = .ok (.iconst 1, 1) := by decide +kernel
theorem dX5_pulls_20 : decode cX5_pulls 20 = .ok (.iadd, 1) := by decide +kernel
theorem dX5_pulls_21 : decode cX5_pulls 21 = .ok (.istore_n 3, 1) := by decide +kernel
theorem dX5_pulls_22 : decode cX5_pulls 22 = .ok (.aload_n 0, 1) := by decide +kernel
theorem dX5_pulls_23 : decode cX5_pulls 23 = .ok (.iconst 0, 1) := by decide +kernel
theorem dX5_pulls_24 : decode cX5_pulls 24 = .ok (.iconst 5, 1) := by decide +kernel
theorem dX5_pulls_25 : decode cX5_pulls 25 = .ok (.invokevirtual 79, 3) := by decide +kernel
theorem dX5_pulls_28 : decode cX5_pulls 28 = .ok (.aload_n 0, 1) := by decide +kernel
theorem dX5_pulls_29 : decode cX5_pulls 29 = .ok (.iload_n 1, 1) := by decide +kernel
theorem dX5_pulls_30 : decode cX5_pulls 30 = .ok (.invokevirtual 133, 3) := by decide +kernel
theorem dX5_pulls_33 : decode cX5_pulls 33 = .ok (.iload_n 3, 1) := by decide +kernel
theorem dX5_pulls_34 : decode cX5_pulls 34 = .ok (.imul, 1) := by decide +kernel
theorem dX5_pulls_35 : decode cX5_pulls 35 = .ok (.istore 4, 2) := by decide +kernel
theorem dX5_pulls_37 : decode cX5_pulls 37 = .ok (.iload 4, 2) := by decide +kernel
theorem dX5_pulls_39 : decode cX5_pulls 39 = .ok (.aload_n 0, 1) := by decide +kernel
theorem dX5_pulls_40 : decode cX5_pulls 40 = .ok (.iload_n 1, 1) := by decide +kernel
theorem dX5_pulls_41 : decode cX5_pulls 41 = .ok (.invokevirtual 136, 3) := by decide +kernel
theorem dX5_pulls_44 : decode cX5_pulls 44 = .ok (.iadd, 1) := by decide +kernel
theorem dX5_pulls_45 : decode cX5_pulls 45 = .ok (.ireturn, 1) := by decide +kernel
set_option maxRecDepth 20000 in
theorem ggX5_asked_X5_length : GoodIn wsX5_asked wsX5_length := goodIn_r _ [5, 6, 7, 8, 9, 10, 4, 11, 12, 13, 14, 15, 16, 17, 102, 103, 104, 105, 106, 107, 108, 109, 110, 111, 112, 113, 114, 115, 116, 117, 118] (by decide +kernel) (by decide +kernel)
set_option maxRecDepth 20000 in
theorem gX5_asked_X5_length : GoodIn wsX5_asked (wsV RX5 89 RX5 yX5_length wsX5_length) := goodIn_app (goodIn_of _ (by decide +kernel)) ggX5_asked_X5_length
set_option maxRecDepth 20000 in
theorem ggX5_asked_X5_fee : GoodIn wsX5_asked wsX5_fee := goodIn_r _ [21, 6, 22, 23, 24, 4, 25, 8, 12, 13, 14, 15, 16, 17, 26, 27, 28, 29, 30, 31, 32, 33, 1, 2, 3, 5, 7, 9, 10, 11, 34, 35, 36, 37, 38, 39, 40, 41, 42, 43, 44, 45, 46, 47, 48, 49, 50, 51, 52, 53, 54, 55, 56, 57, 58, 59, 60, 61, 62, 63, 102, 103, 104, 105, 106, 107, 108, 109, 110, 111, 112, 113, 114, 115, 116, 117, 118] (by decide +kernel) (by decide +kernel)
set_option maxRecDepth 20000 in
theorem gX5_asked_X5_fee : GoodIn wsX5_asked (wsV RX5 139 RX5 yX5_fee wsX5_fee) := goodIn_app (goodIn_of _ (by decide +kernel)) ggX5_asked_X5_fee
set_option maxRecDepth 20000 in
theorem ggX5_asked_X5_riskOf : GoodIn wsX5_asked wsX5_riskOf := goodIn_r _ [41, 6, 42, 43, 44, 4, 45, 12, 13, 14, 15, 16, 17, 46, 47, 48, 49, 50, 51, 52, 53, 54, 55, 56, 57, 58, 59, 8, 60, 61, 62, 63, 102, 103, 104, 105, 106, 107, 108, 109, 110, 111, 112, 113, 114, 115, 116, 117, 118] (by decide +kernel) (by decide +kernel)
set_option maxRecDepth 20000 in
theorem gX5_asked_X5_riskOf : GoodIn wsX5_asked (wsV RX5 99 RX5 yX5_riskOf wsX5_riskOf) := goodIn_app (goodIn_of _ (by decide +kernel)) ggX5_asked_X5_riskOf
set_option maxRecDepth 20000 in
theorem ggX5_asked_X5_lash : GoodIn wsX5_asked wsX5_lash := goodIn_r _ [67, 6, 50, 68, 69, 70, 71, 4, 72, 12, 13, 14, 15, 16, 17, 73, 74, 75, 76, 77, 78, 79, 80, 81, 82, 83, 84, 8, 46, 47, 48, 49, 102, 103, 104, 105, 106, 107, 108, 109, 110, 111, 112, 113, 114, 115, 116, 117, 118] (by decide +kernel) (by decide +kernel)
set_option maxRecDepth 20000 in
theorem gX5_asked_X5_lash : GoodIn wsX5_asked (wsV RX5 142 RX5 yX5_lash wsX5_lash) := goodIn_app (goodIn_of _ (by decide +kernel)) ggX5_asked_X5_lash
set_option maxRecDepth 20000 in
theorem ggX5_asked_X5_mark : GoodIn wsX5_asked wsX5_mark := goodIn_r _ [88, 6, 89, 90, 7, 59, 12, 13, 14, 4, 15, 16, 17, 91, 92, 93, 102, 103, 104, 105, 106, 107, 108, 109, 110, 111, 112, 113, 114, 115, 116, 117, 118] (by decide +kernel) (by decide +kernel)
set_option maxRecDepth 20000 in
theorem gX5_asked_X5_mark : GoodIn wsX5_asked (wsV RX5 136 RX5 yX5_mark wsX5_mark) := goodIn_app (goodIn_of _ (by decide +kernel)) ggX5_asked_X5_mark
set_option maxRecDepth 20000 in
theorem ggX5_asked_X5_pulls : GoodIn wsX5_asked wsX5_pulls := goodIn_r _ [97, 6, 12, 13, 14, 4, 15, 16, 17, 98, 99, 100, 101, 8, 59, 9, 10, 11, 85, 86, 87, 88, 89, 90, 7, 91, 92, 93, 102, 103, 104, 105, 106, 107, 108, 109, 110, 111, 112, 113, 114, 115, 116, 117, 118] (by decide +kernel) (by decide +kernel)
set_option maxRecDepth 20000 in
theorem gX5_asked_X5_pulls : GoodIn wsX5_asked (wsV RX5 145 RX5 yX5_pulls wsX5_pulls) := goodIn_app (goodIn_of _ (by decide +kernel)) ggX5_asked_X5_pulls
set_option maxRecDepth 20000 in
theorem ggX5_asked_X5_hook : GoodIn wsX5_asked wsX5_hook := goodIn_r _ [101, 6, 8, 59, 12, 13, 14, 4, 15, 16, 17, 9, 10, 11, 102, 103, 104, 105, 106, 107, 108, 109, 110, 111, 112, 113, 114, 115, 116, 117, 118] (by decide +kernel) (by decide +kernel)
set_option maxRecDepth 20000 in
theorem gX5_asked_X5_hook : GoodIn wsX5_asked (wsV RX5 133 RX5 yX5_hook wsX5_hook) := goodIn_app (goodIn_of _ (by decide +kernel)) ggX5_asked_X5_hook
theorem dX5_asked_0 : decode cX5_asked 0 = .ok (.iload_n 2, 1) := by decide +kernel
theorem dX5_asked_1 : decode cX5_asked 1 = .ok (.tableswitch 79 0 5 #[39, 45, 52, 59, 66, 72], 39) := by decide +kernel
theorem dX5_asked_40 : decode cX5_asked 40 = .ok (.aload_n 0, 1) := by decide +kernel
theorem dX5_asked_41 : decode cX5_asked 41 = .ok (.iload_n 1, 1) := by decide +kernel
theorem dX5_asked_42 : decode cX5_asked 42 = .ok (.invokevirtual 89, 3) := by decide +kernel
theorem dX5_asked_45 : decode cX5_asked 45 = .ok (.ireturn, 1) := by decide +kernel
theorem dX5_asked_46 : decode cX5_asked 46 = .ok (.aload_n 0, 1) := by decide +kernel
theorem dX5_asked_47 : decode cX5_asked 47 = .ok (.iload_n 1, 1) := by decide +kernel
theorem dX5_asked_48 : decode cX5_asked 48 = .ok (.iload_n 3, 1) := by decide +kernel
theorem dX5_asked_49 : decode cX5_asked 49 = .ok (.invokevirtual 139, 3) := by decide +kernel
theorem dX5_asked_52 : decode cX5_asked 52 = .ok (.ireturn, 1) := by decide +kernel
theorem dX5_asked_53 : decode cX5_asked 53 = .ok (.aload_n 0, 1) := by decide +kernel
theorem dX5_asked_54 : decode cX5_asked 54 = .ok (.iload_n 1, 1) := by decide +kernel
theorem dX5_asked_55 : decode cX5_asked 55 = .ok (.iload_n 3, 1) := by decide +kernel
theorem dX5_asked_56 : decode cX5_asked 56 = .ok (.invokevirtual 99, 3) := by decide +kernel
theorem dX5_asked_59 : decode cX5_asked 59 = .ok (.ireturn, 1) := by decide +kernel
theorem dX5_asked_60 : decode cX5_asked 60 = .ok (.aload_n 0, 1) := by decide +kernel
theorem dX5_asked_61 : decode cX5_asked 61 = .ok (.iload_n 1, 1) := by decide +kernel
theorem dX5_asked_62 : decode cX5_asked 62 = .ok (.iload_n 3, 1) := by decide +kernel
theorem dX5_asked_63 : decode cX5_asked 63 = .ok (.invokevirtual 142, 3) := by decide +kernel
theorem dX5_asked_66 : decode cX5_asked 66 = .ok (.ireturn, 1) := by decide +kernel
theorem dX5_asked_67 : decode cX5_asked 67 = .ok (.aload_n 0, 1) := by decide +kernel
theorem dX5_asked_68 : decode cX5_asked 68 = .ok (.iload_n 1, 1) := by decide +kernel
theorem dX5_asked_69 : decode cX5_asked 69 = .ok (.invokevirtual 136, 3) := by decide +kernel
theorem dX5_asked_72 : decode cX5_asked 72 = .ok (.ireturn, 1) := by decide +kernel
theorem dX5_asked_73 : decode cX5_asked 73 = .ok (.aload_n 0, 1) := by decide +kernel
theorem dX5_asked_74 : decode cX5_asked 74 = .ok (.iload_n 1, 1) := by decide +kernel
theorem dX5_asked_75 : decode cX5_asked 75 = .ok (.iload_n 3, 1) := by decide +kernel
theorem dX5_asked_76 : decode cX5_asked 76 = .ok (.invokevirtual 145, 3) := by decide +kernel
theorem dX5_asked_79 : decode cX5_asked 79 = .ok (.ireturn, 1) := by decide +kernel
theorem dX5_asked_80 : decode cX5_asked 80 = .ok (.aload_n 0, 1) := by decide +kernel
theorem dX5_asked_81 : decode cX5_asked 81 = .ok (.iload_n 1, 1) := by decide +kernel
theorem dX5_asked_82 : decode cX5_asked 82 = .ok (.invokevirtual 133, 3) := by decide +kernel
theorem dX5_asked_85 : decode cX5_asked 85 = .ok (.ireturn, 1) := by decide +kernel
set_option maxRecDepth 20000 in
theorem ggX5_ask_X5_isVehicle : GoodIn wsX5_ask wsX5_isVehicle := goodIn_r _ [12, 13, 14, 15, 11, 16, 124, 125, 126, 127, 128, 129, 130, 131, 132, 133, 134, 135, 136, 137, 138, 139, 140] (by decide +kernel) (by decide +kernel)
set_option maxRecDepth 20000 in
theorem gX5_ask_X5_isVehicle : GoodIn wsX5_ask (wsV RX5 148 RX5 yX5_isVehicle wsX5_isVehicle) := goodIn_app (goodIn_of _ (by decide +kernel)) ggX5_ask_X5_isVehicle
set_option maxRecDepth 20000 in
theorem ggX5_ask_X5_in : GoodIn wsX5_ask wsX5_in := goodIn_r _ [16] (by decide +kernel) (by decide +kernel)
set_option maxRecDepth 20000 in
theorem gX5_ask_X5_in : GoodIn wsX5_ask (va_wsS RX5 41 yX5_in wsX5_in) := goodIn_app (goodIn_of _ (by decide +kernel)) ggX5_ask_X5_in
set_option maxRecDepth 20000 in
theorem ggX5_ask_X5_act : GoodIn wsX5_ask wsX5_act := goodIn_r _ [20, 21, 22, 5, 124, 125, 126, 127, 128, 129, 130, 131, 132, 133, 134, 135, 136, 137, 138, 139, 140] (by decide +kernel) (by decide +kernel)
set_option maxRecDepth 20000 in
theorem gX5_ask_X5_act : GoodIn wsX5_ask (wsV RX5 155 RX5 yX5_act wsX5_act) := goodIn_app (goodIn_of _ (by decide +kernel)) ggX5_ask_X5_act
set_option maxRecDepth 20000 in
theorem ggX5_ask_X5_isHooked : GoodIn wsX5_ask wsX5_isHooked := goodIn_r _ [25, 26, 27, 14, 15, 11, 16] (by decide +kernel) (by decide +kernel)
set_option maxRecDepth 20000 in
theorem gX5_ask_X5_isHooked : GoodIn wsX5_ask (va_wsS RX5 158 yX5_isHooked wsX5_isHooked) := goodIn_app (goodIn_of _ (by decide +kernel)) ggX5_ask_X5_isHooked
set_option maxRecDepth 20000 in
theorem ggX5_ask_X5_asked : GoodIn wsX5_ask wsX5_asked := goodIn_r _ [31, 32, 33, 34, 11, 35, 3, 36, 37, 38, 39, 40, 41, 42, 43, 44, 21, 45, 46, 47, 48, 49, 50, 51, 52, 53, 54, 55, 56, 57, 58, 59, 60, 61, 62, 63, 64, 65, 66, 67, 68, 69, 70, 71, 72, 73, 74, 75, 76, 77, 5, 78, 79, 80, 81, 82, 83, 84, 85, 86, 87, 88, 89, 90, 91, 92, 93, 94, 95, 96, 97, 98, 99, 100, 101, 102, 103, 104, 105, 106, 107, 108, 109, 110, 111, 112, 113, 114, 115, 26, 27, 14, 15, 16, 116, 117, 118, 119, 120, 121, 122, 123, 124, 125, 126, 127, 128, 129, 130, 131, 132, 133, 134, 135, 136, 137, 138, 139, 140] (by decide +kernel) (by decide +kernel)
set_option maxRecDepth 20000 in
theorem gX5_ask_X5_asked : GoodIn wsX5_ask (wsV RX5 163 RX5 yX5_asked wsX5_asked) := goodIn_app (goodIn_of _ (by decide +kernel)) ggX5_ask_X5_asked
theorem dX5_ask_0 : decode cX5_ask 0 = .ok (.aload_n 0, 1) := by decide +kernel
theorem dX5_ask_1 : decode cX5_ask 1 = .ok (.iload_n 1, 1) := by decide +kernel
theorem dX5_ask_2 : decode cX5_ask 2 = .ok (.invokevirtual 148, 3) := by decide +kernel
theorem dX5_ask_5 : decode cX5_ask 5 = .ok (.ifCond .eq 15, 3) := by decide +kernel
theorem dX5_ask_8 : decode cX5_ask 8 = .ok (.iload_n 2, 1) := by decide +kernel
theorem dX5_ask_9 : decode cX5_ask 9 = .ok (.i2l, 1) := by decide +kernel
theorem dX5_ask_10 : decode cX5_ask 10 = .ok (.lconst 0, 1) := by decide +kernel
theorem dX5_ask_11 : decode cX5_ask 11 = .ok (.ldc2_w 151, 3) := by decide +kernel
theorem dX5_ask_14 : decode cX5_ask 14 = .ok (.invokestatic 41, 3) := by decide +kernel
theorem dX5_ask_17 : decode cX5_ask 17 = .ok (.ifCond .ne 7, 3) := by decide +kernel
theorem dX5_ask_20 : decode cX5_ask 20 = .ok (.ldc2_w 153, 3) := by decide +kernel
theorem dX5_ask_23 : decode cX5_ask 23 = .ok (.lreturn, 1) := by decide +kernel
theorem dX5_ask_24 : decode cX5_ask 24 = .ok (.aload_n 0, 1) := by decide +kernel
theorem dX5_ask_25 : decode cX5_ask 25 = .ok (.invokevirtual 155, 3) := by decide +kernel
theorem dX5_ask_28 : decode cX5_ask 28 = .ok (.iload_n 2, 1) := by decide +kernel
theorem dX5_ask_29 : decode cX5_ask 29 = .ok (.iconst 4, 1) := by decide +kernel
theorem dX5_ask_30 : decode cX5_ask 30 = .ok (.if_icmp .le 19, 3) := by decide +kernel
theorem dX5_ask_33 : decode cX5_ask 33 = .ok (.aload_n 0, 1) := by decide +kernel
theorem dX5_ask_34 : decode cX5_ask 34 = .ok (.getfield 13, 3) := by decide +kernel
theorem dX5_ask_37 : decode cX5_ask 37 = .ok (.iload_n 1, 1) := by decide +kernel
theorem dX5_ask_38 : decode cX5_ask 38 = .ok (.iaload, 1) := by decide +kernel
theorem dX5_ask_39 : decode cX5_ask 39 = .ok (.invokestatic 158, 3) := by decide +kernel
theorem dX5_ask_42 : decode cX5_ask 42 = .ok (.ifCond .ne 7, 3) := by decide +kernel
theorem dX5_ask_45 : decode cX5_ask 45 = .ok (.ldc2_w 161, 3) := by decide +kernel
theorem dX5_ask_48 : decode cX5_ask 48 = .ok (.lreturn, 1) := by decide +kernel
theorem dX5_ask_49 : decode cX5_ask 49 = .ok (.aload_n 0, 1) := by decide +kernel
theorem dX5_ask_50 : decode cX5_ask 50 = .ok (.iload_n 1, 1) := by decide +kernel
theorem dX5_ask_51 : decode cX5_ask 51 = .ok (.iload_n 2, 1) := by decide +kernel
theorem dX5_ask_52 : decode cX5_ask 52 = .ok (.iload_n 3, 1) := by decide +kernel
theorem dX5_ask_53 : decode cX5_ask 53 = .ok (.invokevirtual 163, 3) := by decide +kernel
theorem dX5_ask_56 : decode cX5_ask 56 = .ok (.istore 4, 2) := by decide +kernel
theorem dX5_ask_58 : decode cX5_ask 58 = .ok (.aload_n 0, 1) := by decide +kernel
theorem dX5_ask_59 : decode cX5_ask 59 = .ok (.getfield 73, 3) := by decide +kernel
theorem dX5_ask_62 : decode cX5_ask 62 = .ok (.ifCond .eq 23, 3) := by decide +kernel
theorem dX5_ask_65 : decode cX5_ask 65 = .ok (.aload_n 0, 1) := by decide +kernel
theorem dX5_ask_66 : decode cX5_ask 66 = .ok (.dup, 1) := by decide +kernel
theorem dX5_ask_67 : decode cX5_ask 67 = .ok (.getfield 166, 3) := by decide +kernel
theorem dX5_ask_70 : decode cX5_ask 70 = .ok (.iconst 1, 1) := by decide +kernel
theorem dX5_ask_71 : decode cX5_ask 71 = .ok (.iadd, 1) := by decide +kernel
theorem dX5_ask_72 : decode cX5_ask 72 = .ok (.putfield 166, 3) := by decide +kernel
theorem dX5_ask_75 : decode cX5_ask 75 = .ok (.ldc2_w 169, 3) := by decide +kernel
theorem dX5_ask_78 : decode cX5_ask 78 = .ok (.aload_n 0, 1) := by decide +kernel
theorem dX5_ask_79 : decode cX5_ask 79 = .ok (.getfield 73, 3) := by decide +kernel
theorem dX5_ask_82 : decode cX5_ask 82 = .ok (.i2l, 1) := by decide +kernel
theorem dX5_ask_83 : decode cX5_ask 83 = .ok (.ladd, 1) := by decide +kernel
theorem dX5_ask_84 : decode cX5_ask 84 = .ok (.lreturn, 1) := by decide +kernel
theorem dX5_ask_85 : decode cX5_ask 85 = .ok (.iload 4, 2) := by decide +kernel
theorem dX5_ask_87 : decode cX5_ask 87 = .ok (.i2l, 1) := by decide +kernel
theorem dX5_ask_88 : decode cX5_ask 88 = .ok (.lreturn, 1) := by decide +kernel
set_option maxRecDepth 20000 in
theorem ggX5_trace_X5_in : GoodIn wsX5_trace wsX5_in := goodIn_r _ [6] (by decide +kernel) (by decide +kernel)
set_option maxRecDepth 20000 in
theorem gX5_trace_X5_in : GoodIn wsX5_trace (va_wsS RX5 41 yX5_in wsX5_in) := goodIn_app (goodIn_of _ (by decide +kernel)) ggX5_trace_X5_in
theorem dX5_trace_0 : decode cX5_trace 0 = .ok (.iload_n 1, 1) := by decide +kernel
theorem dX5_trace_1 : decode cX5_trace 1 = .ok (.i2l, 1) := by decide +kernel
theorem dX5_trace_2 : decode cX5_trace 2 = .ok (.lconst 0, 1) := by decide +kernel
theorem dX5_trace_3 : decode cX5_trace 3 = .ok (.aload_n 0, 1) := by decide +kernel
theorem dX5_trace_4 : decode cX5_trace 4 = .ok (.getfield 67, 3) := by decide +kernel
theorem dX5_trace_7 : decode cX5_trace 7 = .ok (.iconst 1, 1) := by decide +kernel
theorem dX5_trace_8 : decode cX5_trace 8 = .ok (.isub, 1) := by decide +kernel
theorem dX5_trace_9 : decode cX5_trace 9 = .ok (.i2l, 1) := by decide +kernel
theorem dX5_trace_10 : decode cX5_trace 10 = .ok (.invokestatic 41, 3) := by decide +kernel
theorem dX5_trace_13 : decode cX5_trace 13 = .ok (.ifCond .eq 12, 3) := by decide +kernel
theorem dX5_trace_16 : decode cX5_trace 16 = .ok (.aload_n 0, 1) := by decide +kernel
theorem dX5_trace_17 : decode cX5_trace 17 = .ok (.getfield 34, 3) := by decide +kernel
theorem dX5_trace_20 : decode cX5_trace 20 = .ok (.iload_n 1, 1) := by decide +kernel
theorem dX5_trace_21 : decode cX5_trace 21 = .ok (.iaload, 1) := by decide +kernel
theorem dX5_trace_22 : decode cX5_trace 22 = .ok (.goto 4, 3) := by decide +kernel
theorem dX5_trace_25 : decode cX5_trace 25 = .ok (.iconst (-1), 1) := by decide +kernel
theorem dX5_trace_26 : decode cX5_trace 26 = .ok (.ireturn, 1) := by decide +kernel
set_option maxRecDepth 20000 in
theorem ggX5_board_X5_isVehicle : GoodIn wsX5_board wsX5_isVehicle := goodIn_r _ [13, 14, 15, 16, 12, 17, 92, 93, 94, 95, 96, 97, 98, 99, 100, 101, 102, 103, 104, 105, 106, 107, 108] (by decide +kernel) (by decide +kernel)
set_option maxRecDepth 20000 in
theorem gX5_board_X5_isVehicle : GoodIn wsX5_board (wsV RX5 148 RX5 yX5_isVehicle wsX5_isVehicle) := goodIn_app (goodIn_of _ (by decide +kernel)) ggX5_board_X5_isVehicle
set_option maxRecDepth 20000 in
theorem ggX5_board_X5_isDeck : GoodIn wsX5_board wsX5_isDeck := goodIn_r _ [20, 21, 15, 16, 12, 17] (by decide +kernel) (by decide +kernel)
set_option maxRecDepth 20000 in
theorem gX5_board_X5_isDeck : GoodIn wsX5_board (va_wsS RX5 51 yX5_isDeck wsX5_isDeck) := goodIn_app (goodIn_of _ (by decide +kernel)) ggX5_board_X5_isDeck
set_option maxRecDepth 20000 in
theorem ggX5_board_X5_in : GoodIn wsX5_board wsX5_in := goodIn_r _ [17] (by decide +kernel) (by decide +kernel)
set_option maxRecDepth 20000 in
theorem gX5_board_X5_in : GoodIn wsX5_board (va_wsS RX5 41 yX5_in wsX5_in) := goodIn_app (goodIn_of _ (by decide +kernel)) ggX5_board_X5_in
set_option maxRecDepth 20000 in
theorem ggX5_board_X5_act : GoodIn wsX5_board wsX5_act := goodIn_r _ [25, 26, 27, 3, 92, 93, 94, 95, 96, 97, 98, 99, 100, 101, 102, 103, 104, 105, 106, 107, 108] (by decide +kernel) (by decide +kernel)
set_option maxRecDepth 20000 in
theorem gX5_board_X5_act : GoodIn wsX5_board (wsV RX5 155 RX5 yX5_act wsX5_act) := goodIn_app (goodIn_of _ (by decide +kernel)) ggX5_board_X5_act
set_option maxRecDepth 20000 in
theorem ggX5_board_X5_riskOf : GoodIn wsX5_board wsX5_riskOf := goodIn_r _ [31, 32, 33, 34, 35, 12, 36, 37, 38, 39, 40, 26, 41, 42, 43, 44, 45, 3, 46, 47, 48, 49, 50, 51, 52, 53, 54, 55, 56, 57, 58, 59, 92, 93, 94, 95, 96, 97, 98, 99, 100, 101, 102, 103, 104, 105, 106, 107, 108] (by decide +kernel) (by decide +kernel)
set_option maxRecDepth 20000 in
theorem gX5_board_X5_riskOf : GoodIn wsX5_board (wsV RX5 99 RX5 yX5_riskOf wsX5_riskOf) := goodIn_app (goodIn_of _ (by decide +kernel)) ggX5_board_X5_riskOf
set_option maxRecDepth 20000 in
theorem ggX5_board_X5_length : GoodIn wsX5_board wsX5_length := goodIn_r _ [63, 32, 64, 55, 65, 66, 12, 67, 37, 38, 39, 40, 26, 41, 92, 93, 94, 95, 96, 97, 98, 99, 100, 101, 102, 103, 104, 105, 106, 107, 108] (by decide +kernel) (by decide +kernel)
set_option maxRecDepth 20000 in
theorem gX5_board_X5_length : GoodIn wsX5_board (wsV RX5 89 RX5 yX5_length wsX5_length) := goodIn_app (goodIn_of _ (by decide +kernel)) ggX5_board_X5_length
set_option maxRecDepth 20000 in
theorem ggX5_board_X5_takenOn : GoodIn wsX5_board wsX5_takenOn := goodIn_r _ [71, 14, 2, 8, 92, 93, 94, 95, 96, 97, 98, 99, 100, 101, 102, 103, 104, 105, 106, 107, 108] (by decide +kernel) (by decide +kernel)
set_option maxRecDepth 20000 in
theorem gX5_board_X5_takenOn : GoodIn wsX5_board (wsV RX5 57 RX5 yX5_takenOn wsX5_takenOn) := goodIn_app (goodIn_of _ (by decide +kernel)) ggX5_board_X5_takenOn
set_option maxRecDepth 20000 in
theorem ggX5_board_X5_fee : GoodIn wsX5_board wsX5_fee := goodIn_r _ [75, 32, 76, 77, 78, 12, 79, 55, 37, 38, 39, 40, 26, 41, 80, 81, 82, 83, 84, 85, 86, 87, 60, 61, 62, 63, 64, 65, 66, 67, 88, 89, 90, 91, 28, 29, 30, 31, 33, 34, 35, 36, 42, 43, 44, 45, 3, 46, 47, 48, 49, 50, 51, 52, 53, 54, 56, 57, 58, 59, 92, 93, 94, 95, 96, 97, 98, 99, 100, 101, 102, 103, 104, 105, 106, 107, 108] (by decide +kernel) (by decide +kernel)
set_option maxRecDepth 20000 in
theorem gX5_board_X5_fee : GoodIn wsX5_board (wsV RX5 139 RX5 yX5_fee wsX5_fee) := goodIn_app (goodIn_of _ (by decide +kernel)) ggX5_board_X5_fee
theorem dX5_board_0 : decode cX5_board 0 = .ok (.aload_n 0, 1) := by decide +kernel
theorem dX5_board_1 : decode cX5_board 1 = .ok (.iload_n 1, 1) := by decide +kernel
theorem dX5_board_2 : decode cX5_board 2 = .ok (.invokevirtual 148, 3) := by decide +kernel
theorem dX5_board_5 : decode cX5_board 5 = .ok (.ifCond .eq 23, 3) := by decide +kernel
theorem dX5_board_8 : decode cX5_board 8 = .ok (.iload_n 2, 1) := by decide +kernel
theorem dX5_board_9 : decode cX5_board 9 = .ok (.invokestatic 51, 3) := by decide +kernel
theorem dX5_board_12 : decode cX5_board 12 = .ok (.ifCond .eq 16, 3) := by decide +kernel
theorem dX5_board_15 : decode cX5_board 15 = .ok (.iload 4, 2) := by decide +kernel
theorem dX5_board_17 : decode cX5_board 17 = .ok (.i2l, 1) := by decide +kernel
theorem dX5_board_18 : decode cX5_board 18 = .ok (.lconst 0, 1) := by decide +kernel
theorem dX5_board_19 : decode cX5_board 19 = .ok (.ldc2_w 61, 3) := by decide +kernel
theorem dX5_board_22 : decode cX5_board 22 = .ok (.invokestatic 41, 3) := by decide +kernel
theorem dX5_board_25 : decode cX5_board 25 = .ok (.ifCond .ne 5, 3) := by decide +kernel
theorem dX5_board_28 : decode cX5_board 28 = .ok (.iconst (-1), 1) := by decide +kernel
theorem dX5_board_29 : decode cX5_board 29 = .ok (.ireturn, 1) := by decide +kernel
theorem dX5_board_30 : decode cX5_board 30 = .ok (.aload_n 0, 1) := by decide +kernel
theorem dX5_board_31 : decode cX5_board 31 = .ok (.getfield 25, 3) := by decide +kernel
theorem dX5_board_34 : decode cX5_board 34 = .ok (.iload_n 1, 1) := by decide +kernel
theorem dX5_board_35 : decode cX5_board 35 = .ok (.iaload, 1) := by decide +kernel
theorem dX5_board_36 : decode cX5_board 36 = .ok (.ifCond .lt 6, 3) := by decide +kernel
theorem dX5_board_39 : decode cX5_board 39 = .ok (.bipush (-3), 2) := by decide +kernel
theorem dX5_board_41 : decode cX5_board 41 = .ok (.ireturn, 1) := by decide +kernel
theorem dX5_board_42 : decode cX5_board 42 = .ok (.aload_n 0, 1) := by decide +kernel
theorem dX5_board_43 : decode cX5_board 43 = .ok (.invokevirtual 155, 3) := by decide +kernel
theorem dX5_board_46 : decode cX5_board 46 = .ok (.aload_n 0, 1) := by decide +kernel
theorem dX5_board_47 : decode cX5_board 47 = .ok (.iload_n 1, 1) := by decide +kernel
theorem dX5_board_48 : decode cX5_board 48 = .ok (.iload_n 3, 1) := by decide +kernel
theorem dX5_board_49 : decode cX5_board 49 = .ok (.invokevirtual 99, 3) := by decide +kernel
theorem dX5_board_52 : decode cX5_board 52 = .ok (.istore 5, 2) := by decide +kernel
theorem dX5_board_54 : decode cX5_board 54 = .ok (.aload_n 0, 1) := by decide +kernel
theorem dX5_board_55 : decode cX5_board 55 = .ok (.getfield 73, 3) := by decide +kernel
theorem dX5_board_58 : decode cX5_board 58 = .ok (.ifCond .eq 21, 3) := by decide +kernel
theorem dX5_board_61 : decode cX5_board 61 = .ok (.aload_n 0, 1) := by decide +kernel
theorem dX5_board_62 : decode cX5_board 62 = .ok (.dup, 1) := by decide +kernel
theorem dX5_board_63 : decode cX5_board 63 = .ok (.getfield 166, 3) := by decide +kernel
theorem dX5_board_66 : decode cX5_board 66 = .ok (.iconst 1, 1) := by decide +kernel
theorem dX5_board_67 : decode cX5_board 67 = .ok (.iadd, 1) := by decide +kernel
theorem dX5_board_68 : decode cX5_board 68 = .ok (.putfield 166, 3) := by decide +kernel
theorem dX5_board_71 : decode cX5_board 71 = .ok (.bipush (-10), 2) := by decide +kernel
theorem dX5_board_73 : decode cX5_board 73 = .ok (.aload_n 0, 1) := by decide +kernel
theorem dX5_board_74 : decode cX5_board 74 = .ok (.getfield 73, 3) := by decide +kernel
theorem dX5_board_77 : decode cX5_board 77 = .ok (.isub, 1) := by decide +kernel
theorem dX5_board_78 : decode cX5_board 78 = .ok (.ireturn, 1) := by decide +kernel
theorem dX5_board_79 : decode cX5_board 79 = .ok (.aload_n 0, 1) := by decide +kernel
theorem dX5_board_80 : decode cX5_board 80 = .ok (.iload 5, 2) := by decide +kernel
theorem dX5_board_82 : decode cX5_board 82 = .ok (.putfield 171, 3) := by decide +kernel
theorem dX5_board_85 : decode cX5_board 85 = .ok (.aload_n 0, 1) := by decide +kernel
theorem dX5_board_86 : decode cX5_board 86 = .ok (.iload_n 1, 1) := by decide +kernel
theorem dX5_board_87 : decode cX5_board 87 = .ok (.invokevirtual 89, 3) := by decide +kernel
theorem dX5_board_90 : decode cX5_board 90 = .ok (.istore 6, 2) := by decide +kernel
theorem dX5_board_92 : decode cX5_board 92 = .ok (.iload 6, 2) := by decide +kernel
theorem dX5_board_94 : decode cX5_board 94 = .ok (.aload_n 0, 1) := by decide +kernel
theorem dX5_board_95 : decode cX5_board 95 = .ok (.getfield 31, 3) := by decide +kernel
theorem dX5_board_98 : decode cX5_board 98 = .ok (.iload_n 2, 1) := by decide +kernel
theorem dX5_board_99 : decode cX5_board 99 = .ok (.iaload, 1) := by decide +kernel
theorem dX5_board_100 : decode cX5_board 100 = .ok (.aload_n 0, 1) := by decide +kernel
theorem dX5_board_101 : decode cX5_board 101 = .ok (.iload_n 2, 1) := by decide +kernel
theorem dX5_board_102 : decode cX5_board 102 = .ok (.invokevirtual 57, 3) := by decide +kernel
theorem dX5_board_105 : decode cX5_board 105 = .ok (.isub, 1) := by decide +kernel
theorem dX5_board_106 : decode cX5_board 106 = .ok (.if_icmp .le 6, 3) := by decide +kernel
theorem dX5_board_109 : decode cX5_board 109 = .ok (.bipush (-4), 2) := by decide +kernel
theorem dX5_board_111 : decode cX5_board 111 = .ok (.ireturn, 1) := by decide +kernel
theorem dX5_board_112 : decode cX5_board 112 = .ok (.aload_n 0, 1) := by decide +kernel
theorem dX5_board_113 : decode cX5_board 113 = .ok (.iload_n 1, 1) := by decide +kernel
theorem dX5_board_114 : decode cX5_board 114 = .ok (.iload 4, 2) := by decide +kernel
theorem dX5_board_116 : decode cX5_board 116 = .ok (.invokevirtual 139, 3) := by decide +kernel
theorem dX5_board_119 : decode cX5_board 119 = .ok (.istore 7, 2) := by decide +kernel
theorem dX5_board_121 : decode cX5_board 121 = .ok (.aload_n 0, 1) := by decide +kernel
theorem dX5_board_122 : decode cX5_board 122 = .ok (.getfield 73, 3) := by decide +kernel
theorem dX5_board_125 : decode cX5_board 125 = .ok (.ifCond .eq 21, 3) := by decide +kernel
theorem dX5_board_128 : decode cX5_board 128 = .ok (.aload_n 0, 1) := by decide +kernel
theorem dX5_board_129 : decode cX5_board 129 = .ok (.dup, 1) := by decide +kernel
theorem dX5_board_130 : decode cX5_board 130 = .ok (.getfield 166, 3) := by decide +kernel
theorem dX5_board_133 : decode cX5_board 133 = .ok (.iconst 1, 1) := by decide +kernel
theorem dX5_board_134 : decode cX5_board 134 = .ok (.iadd, 1) := by decide +kernel
theorem dX5_board_135 : decode cX5_board 135 = .ok (.putfield 166, 3) := by decide +kernel
theorem dX5_board_138 : decode cX5_board 138 = .ok (.bipush (-10), 2) := by decide +kernel
theorem dX5_board_140 : decode cX5_board 140 = .ok (.aload_n 0, 1) := by decide +kernel
theorem dX5_board_141 : decode cX5_board 141 = .ok (.getfield 73, 3) := by decide +kernel
theorem dX5_board_144 : decode cX5_board 144 = .ok (.isub, 1) := by decide +kernel
theorem dX5_board_145 : decode cX5_board 145 = .ok (.ireturn, 1) := by decide +kernel
theorem dX5_board_146 : decode cX5_board 146 = .ok (.aload_n 0, 1) := by decide +kernel
theorem dX5_board_147 : decode cX5_board 147 = .ok (.dup, 1) := by decide +kernel
theorem dX5_board_148 : decode cX5_board 148 = .ok (.getfield 174, 3) := by decide +kernel
theorem dX5_board_151 : decode cX5_board 151 = .ok (.iload 7, 2) := by decide +kernel
theorem dX5_board_153 : decode cX5_board 153 = .ok (.i2l, 1) := by decide +kernel
theorem dX5_board_154 : decode cX5_board 154 = .ok (.ladd, 1) := by decide +kernel
theorem dX5_board_155 : decode cX5_board 155 = .ok (.putfield 174, 3) := by decide +kernel
theorem dX5_board_158 : decode cX5_board 158 = .ok (.aload_n 0, 1) := by decide +kernel
theorem dX5_board_159 : decode cX5_board 159 = .ok (.getfield 25, 3) := by decide +kernel
theorem dX5_board_162 : decode cX5_board 162 = .ok (.iload_n 1, 1) := by decide +kernel
theorem dX5_board_163 : decode cX5_board 163 = .ok (.iload_n 2, 1) := by decide +kernel
theorem dX5_board_164 : decode cX5_board 164 = .ok (.iastore, 1) := by decide +kernel
theorem dX5_board_165 : decode cX5_board 165 = .ok (.aload_n 0, 1) := by decide +kernel
theorem dX5_board_166 : decode cX5_board 166 = .ok (.getfield 28, 3) := by decide +kernel
theorem dX5_board_169 : decode cX5_board 169 = .ok (.iload_n 1, 1) := by decide +kernel
theorem dX5_board_170 : decode cX5_board 170 = .ok (.iload 6, 2) := by decide +kernel
theorem dX5_board_172 : decode cX5_board 172 = .ok (.iastore, 1) := by decide +kernel
theorem dX5_board_173 : decode cX5_board 173 = .ok (.aload_n 0, 1) := by decide +kernel
theorem dX5_board_174 : decode cX5_board 174 = .ok (.getfield 31, 3) := by decide +kernel
theorem dX5_board_177 : decode cX5_board 177 = .ok (.iload_n 2, 1) := by decide +kernel
theorem dX5_board_178 : decode cX5_board 178 = .ok (.iaload, 1) := by decide +kernel
theorem dX5_board_179 : decode cX5_board 179 = .ok (.aload_n 0, 1) := by decide +kernel
theorem dX5_board_180 : decode cX5_board 180 = .ok (.iload_n 2, 1) := by decide +kernel
theorem dX5_board_181 : decode cX5_board 181 = .ok (.invokevirtual 57, 3) := by decide +kernel
theorem dX5_board_184 : decode cX5_board 184 = .ok (.isub, 1) := by decide +kernel
theorem dX5_board_185 : decode cX5_board 185 = .ok (.ireturn, 1) := by decide +kernel
set_option maxRecDepth 20000 in
theorem ggX5_leave_X5_isVehicle : GoodIn wsX5_leave wsX5_isVehicle := goodIn_r _ [9, 10, 11, 12, 8, 13, 18, 19, 20, 21, 22, 23, 24, 25, 26, 27, 28, 29, 30, 31, 32, 33, 34] (by decide +kernel) (by decide +kernel)
set_option maxRecDepth 20000 in
theorem gX5_leave_X5_isVehicle : GoodIn wsX5_leave (wsV RX5 148 RX5 yX5_isVehicle wsX5_isVehicle) := goodIn_app (goodIn_of _ (by decide +kernel)) ggX5_leave_X5_isVehicle
set_option maxRecDepth 20000 in
theorem ggX5_leave_X5_takenOn : GoodIn wsX5_leave wsX5_takenOn := goodIn_r _ [17, 10, 1, 2, 18, 19, 20, 21, 22, 23, 24, 25, 26, 27, 28, 29, 30, 31, 32, 33, 34] (by decide +kernel) (by decide +kernel)
set_option maxRecDepth 20000 in
theorem gX5_leave_X5_takenOn : GoodIn wsX5_leave (wsV RX5 57 RX5 yX5_takenOn wsX5_takenOn) := goodIn_app (goodIn_of _ (by decide +kernel)) ggX5_leave_X5_takenOn
theorem dX5_leave_0 : decode cX5_leave 0 = .ok (.aload_n 0, 1) := by decide +kernel
theorem dX5_leave_1 : decode cX5_leave 1 = .ok (.iload_n 1, 1) := by decide +kernel
theorem dX5_leave_2 : decode cX5_leave 2 = .ok (.invokevirtual 148, 3) := by decide +kernel
theorem dX5_leave_5 : decode cX5_leave 5 = .ok (.ifCond .ne 5, 3) := by decide +kernel
theorem dX5_leave_8 : decode cX5_leave 8 = .ok (.iconst (-1), 1) := by decide +kernel
theorem dX5_leave_9 : decode cX5_leave 9 = .ok (.ireturn, 1) := by decide +kernel
theorem dX5_leave_10 : decode cX5_leave 10 = .ok (.aload_n 0, 1) := by decide +kernel
theorem dX5_leave_11 : decode cX5_leave 11 = .ok (.getfield 25, 3) := by decide +kernel
theorem dX5_leave_14 : decode cX5_leave 14 = .ok (.iload_n 1, 1) := by decide +kernel
theorem dX5_leave_15 : decode cX5_leave 15 = .ok (.iaload, 1) := by decide +kernel
theorem dX5_leave_16 : decode cX5_leave 16 = .ok (.istore_n 2, 1) := by decide +kernel
theorem dX5_leave_17 : decode cX5_leave 17 = .ok (.iload_n 2, 1) := by decide +kernel
theorem dX5_leave_18 : decode cX5_leave 18 = .ok (.ifCond .ge 6, 3) := by decide +kernel
theorem dX5_leave_21 : decode cX5_leave 21 = .ok (.bipush (-3), 2) := by decide +kernel
theorem dX5_leave_23 : decode cX5_leave 23 = .ok (.ireturn, 1) := by decide +kernel
theorem dX5_leave_24 : decode cX5_leave 24 = .ok (.aload_n 0, 1) := by decide +kernel
theorem dX5_leave_25 : decode cX5_leave 25 = .ok (.getfield 25, 3) := by decide +kernel
theorem dX5_leave_28 : decode cX5_leave 28 = .ok (.iload_n 1, 1) := by decide +kernel
theorem dX5_leave_29 : decode cX5_leave 29 = .ok (.iconst (-1), 1) := by decide +kernel
theorem dX5_leave_30 : decode cX5_leave 30 = .ok (.iastore, 1) := by decide +kernel
theorem dX5_leave_31 : decode cX5_leave 31 = .ok (.aload_n 0, 1) := by decide +kernel
theorem dX5_leave_32 : decode cX5_leave 32 = .ok (.getfield 28, 3) := by decide +kernel
theorem dX5_leave_35 : decode cX5_leave 35 = .ok (.iload_n 1, 1) := by decide +kernel
theorem dX5_leave_36 : decode cX5_leave 36 = .ok (.iconst 0, 1) := by decide +kernel
theorem dX5_leave_37 : decode cX5_leave 37 = .ok (.iastore, 1) := by decide +kernel
theorem dX5_leave_38 : decode cX5_leave 38 = .ok (.aload_n 0, 1) := by decide +kernel
theorem dX5_leave_39 : decode cX5_leave 39 = .ok (.getfield 22, 3) := by decide +kernel
theorem dX5_leave_42 : decode cX5_leave 42 = .ok (.iload_n 1, 1) := by decide +kernel
theorem dX5_leave_43 : decode cX5_leave 43 = .ok (.iconst 0, 1) := by decide +kernel
theorem dX5_leave_44 : decode cX5_leave 44 = .ok (.iastore, 1) := by decide +kernel
theorem dX5_leave_45 : decode cX5_leave 45 = .ok (.aload_n 0, 1) := by decide +kernel
theorem dX5_leave_46 : decode cX5_leave 46 = .ok (.getfield 31, 3) := by decide +kernel
theorem dX5_leave_49 : decode cX5_leave 49 = .ok (.iload_n 2, 1) := by decide +kernel
theorem dX5_leave_50 : decode cX5_leave 50 = .ok (.iaload, 1) := by decide +kernel
theorem dX5_leave_51 : decode cX5_leave 51 = .ok (.aload_n 0, 1) := by decide +kernel
theorem dX5_leave_52 : decode cX5_leave 52 = .ok (.iload_n 2, 1) := by decide +kernel
theorem dX5_leave_53 : decode cX5_leave 53 = .ok (.invokevirtual 57, 3) := by decide +kernel
theorem dX5_leave_56 : decode cX5_leave 56 = .ok (.isub, 1) := by decide +kernel
theorem dX5_leave_57 : decode cX5_leave 57 = .ok (.ireturn, 1) := by decide +kernel
theorem dX5_risk_0 : decode cX5_risk 0 = .ok (.aload_n 0, 1) := by decide +kernel
theorem dX5_risk_1 : decode cX5_risk 1 = .ok (.getfield 171, 3) := by decide +kernel
theorem dX5_risk_4 : decode cX5_risk 4 = .ok (.ireturn, 1) := by decide +kernel
set_option maxRecDepth 20000 in
theorem ggX5_pull_X5_isVehicle : GoodIn wsX5_pull wsX5_isVehicle := goodIn_r _ [7, 8, 9, 10, 6, 11, 47, 48, 49, 50, 51, 52, 53, 54, 55, 56, 57, 58, 59, 60, 61, 62, 63] (by decide +kernel) (by decide +kernel)
set_option maxRecDepth 20000 in
theorem gX5_pull_X5_isVehicle : GoodIn wsX5_pull (wsV RX5 148 RX5 yX5_isVehicle wsX5_isVehicle) := goodIn_app (goodIn_of _ (by decide +kernel)) ggX5_pull_X5_isVehicle
set_option maxRecDepth 20000 in
theorem ggX5_pull_X5_act : GoodIn wsX5_pull wsX5_act := goodIn_r _ [15, 16, 17, 18, 47, 48, 49, 50, 51, 52, 53, 54, 55, 56, 57, 58, 59, 60, 61, 62, 63] (by decide +kernel) (by decide +kernel)
set_option maxRecDepth 20000 in
theorem gX5_pull_X5_act : GoodIn wsX5_pull (wsV RX5 155 RX5 yX5_act wsX5_act) := goodIn_app (goodIn_of _ (by decide +kernel)) ggX5_pull_X5_act
set_option maxRecDepth 20000 in
theorem ggX5_pull_X5_isHooked : GoodIn wsX5_pull wsX5_isHooked := goodIn_r _ [21, 22, 23, 9, 10, 6, 11] (by decide +kernel) (by decide +kernel)
set_option maxRecDepth 20000 in
theorem gX5_pull_X5_isHooked : GoodIn wsX5_pull (va_wsS RX5 158 yX5_isHooked wsX5_isHooked) := goodIn_app (goodIn_of _ (by decide +kernel)) ggX5_pull_X5_isHooked
set_option maxRecDepth 20000 in
theorem ggX5_pull_X5_pulls : GoodIn wsX5_pull wsX5_pulls := goodIn_r _ [27, 1, 28, 29, 30, 6, 31, 16, 32, 33, 34, 35, 36, 37, 38, 39, 40, 41, 42, 43, 44, 45, 22, 23, 46, 9, 10, 11, 47, 48, 49, 50, 51, 52, 53, 54, 55, 56, 57, 58, 59, 60, 61, 62, 63] (by decide +kernel) (by decide +kernel)
set_option maxRecDepth 20000 in
theorem gX5_pull_X5_pulls : GoodIn wsX5_pull (wsV RX5 145 RX5 yX5_pulls wsX5_pulls) := goodIn_app (goodIn_of _ (by decide +kernel)) ggX5_pull_X5_pulls
theorem dX5_pull_0 : decode cX5_pull 0 = .ok (.aload_n 0, 1) := by decide +kernel
theorem dX5_pull_1 : decode cX5_pull 1 = .ok (.iload_n 1, 1) := by decide +kernel
theorem dX5_pull_2 : decode cX5_pull 2 = .ok (.invokevirtual 148, 3) := by decide +kernel
theorem dX5_pull_5 : decode cX5_pull 5 = .ok (.ifCond .ne 5, 3) := by decide +kernel
theorem dX5_pull_8 : decode cX5_pull 8 = .ok (.iconst (-1), 1) := by decide +kernel
theorem dX5_pull_9 : decode cX5_pull 9 = .ok (.ireturn, 1) := by decide +kernel
theorem dX5_pull_10 : decode cX5_pull 10 = .ok (.aload_n 0, 1) := by decide +kernel
theorem dX5_pull_11 : decode cX5_pull 11 = .ok (.invokevirtual 155, 3) := by decide +kernel
theorem dX5_pull_14 : decode cX5_pull 14 = .ok (.aload_n 0, 1) := by decide +kernel
theorem dX5_pull_15 : decode cX5_pull 15 = .ok (.getfield 13, 3) := by decide +kernel
theorem dX5_pull_18 : decode cX5_pull 18 = .ok (.iload_n 1, 1) := by decide +kernel
theorem dX5_pull_19 : decode cX5_pull 19 = .ok (.iaload, 1) := by decide +kernel
theorem dX5_pull_20 : decode cX5_pull 20 = .ok (.invokestatic 158, 3) := by decide +kernel
theorem dX5_pull_23 : decode cX5_pull 23 = .ok (.ifCond .ne 6, 3) := by decide +kernel
theorem dX5_pull_26 : decode cX5_pull 26 = .ok (.bipush (-5), 2) := by decide +kernel
theorem dX5_pull_28 : decode cX5_pull 28 = .ok (.ireturn, 1) := by decide +kernel
theorem dX5_pull_29 : decode cX5_pull 29 = .ok (.aload_n 0, 1) := by decide +kernel
theorem dX5_pull_30 : decode cX5_pull 30 = .ok (.aload_n 0, 1) := by decide +kernel
theorem dX5_pull_31 : decode cX5_pull 31 = .ok (.iload_n 1, 1) := by decide +kernel
theorem dX5_pull_32 : decode cX5_pull 32 = .ok (.iload_n 2, 1) := by decide +kernel
theorem dX5_pull_33 : decode cX5_pull 33 = .ok (.invokevirtual 145, 3) := by decide +kernel
theorem dX5_pull_36 : decode cX5_pull 36 = .ok (.putfield 178, 3) := by decide +kernel
theorem dX5_pull_39 : decode cX5_pull 39 = .ok (.iconst 1, 1) := by decide +kernel
theorem dX5_pull_40 : decode cX5_pull 40 = .ok (.ireturn, 1) := by decide +kernel
theorem dX5_pulled_0 : decode cX5_pulled 0 = .ok (.aload_n 0, 1) := by decide +kernel
theorem dX5_pulled_1 : decode cX5_pulled 1 = .ok (.getfield 178, 3) := by decide +kernel
theorem dX5_pulled_4 : decode cX5_pulled 4 = .ok (.ireturn, 1) := by decide +kernel
set_option maxRecDepth 20000 in
theorem ggX5_told_X5_isVehicle : GoodIn wsX5_told wsX5_isVehicle := goodIn_r _ [13, 14, 15, 16, 12, 17, 18, 19, 20, 21, 22, 23, 24, 25, 26, 27, 28, 29, 30, 31, 32, 33, 34] (by decide +kernel) (by decide +kernel)
set_option maxRecDepth 20000 in
theorem gX5_told_X5_isVehicle : GoodIn wsX5_told (wsV RX5 148 RX5 yX5_isVehicle wsX5_isVehicle) := goodIn_app (goodIn_of _ (by decide +kernel)) ggX5_told_X5_isVehicle
set_option maxRecDepth 20000 in
theorem ggX5_told_X5_in : GoodIn wsX5_told wsX5_in := goodIn_r _ [17] (by decide +kernel) (by decide +kernel)
set_option maxRecDepth 20000 in
theorem gX5_told_X5_in : GoodIn wsX5_told (va_wsS RX5 41 yX5_in wsX5_in) := goodIn_app (goodIn_of _ (by decide +kernel)) ggX5_told_X5_in
theorem dX5_told_0 : decode cX5_told 0 = .ok (.aload_n 0, 1) := by decide +kernel
theorem dX5_told_1 : decode cX5_told 1 = .ok (.iload_n 1, 1) := by decide +kernel
theorem dX5_told_2 : decode cX5_told 2 = .ok (.invokevirtual 148, 3) := by decide +kernel
theorem dX5_told_5 : decode cX5_told 5 = .ok (.ifCond .eq 15, 3) := by decide +kernel
theorem dX5_told_8 : decode cX5_told 8 = .ok (.iload_n 2, 1) := by decide +kernel
theorem dX5_told_9 : decode cX5_told 9 = .ok (.i2l, 1) := by decide +kernel
theorem dX5_told_10 : decode cX5_told 10 = .ok (.lconst 0, 1) := by decide +kernel
theorem dX5_told_11 : decode cX5_told 11 = .ok (.ldc2_w 131, 3) := by decide +kernel
theorem dX5_told_14 : decode cX5_told 14 = .ok (.invokestatic 41, 3) := by decide +kernel
theorem dX5_told_17 : decode cX5_told 17 = .ok (.ifCond .ne 7, 3) := by decide +kernel
theorem dX5_told_20 : decode cX5_told 20 = .ok (.ldc2_w 153, 3) := by decide +kernel
theorem dX5_told_23 : decode cX5_told 23 = .ok (.lreturn, 1) := by decide +kernel
theorem dX5_told_24 : decode cX5_told 24 = .ok (.iload_n 2, 1) := by decide +kernel
theorem dX5_told_25 : decode cX5_told 25 = .ok (.tableswitch 75 0 4 #[35, 43, 51, 59, 67], 35) := by decide +kernel
theorem dX5_told_60 : decode cX5_told 60 = .ok (.aload_n 0, 1) := by decide +kernel
theorem dX5_told_61 : decode cX5_told 61 = .ok (.getfield 13, 3) := by decide +kernel
theorem dX5_told_64 : decode cX5_told 64 = .ok (.iload_n 1, 1) := by decide +kernel
theorem dX5_told_65 : decode cX5_told 65 = .ok (.iaload, 1) := by decide +kernel
theorem dX5_told_66 : decode cX5_told 66 = .ok (.i2l, 1) := by decide +kernel
theorem dX5_told_67 : decode cX5_told 67 = .ok (.lreturn, 1) := by decide +kernel
theorem dX5_told_68 : decode cX5_told 68 = .ok (.aload_n 0, 1) := by decide +kernel
theorem dX5_told_69 : decode cX5_told 69 = .ok (.getfield 16, 3) := by decide +kernel
theorem dX5_told_72 : decode cX5_told 72 = .ok (.iload_n 1, 1) := by decide +kernel
theorem dX5_told_73 : decode cX5_told 73 = .ok (.iaload, 1) := by decide +kernel
theorem dX5_told_74 : decode cX5_told 74 = .ok (.i2l, 1) := by decide +kernel
theorem dX5_told_75 : decode cX5_told 75 = .ok (.lreturn, 1) := by decide +kernel
theorem dX5_told_76 : decode cX5_told 76 = .ok (.aload_n 0, 1) := by decide +kernel
theorem dX5_told_77 : decode cX5_told 77 = .ok (.getfield 19, 3) := by decide +kernel
theorem dX5_told_80 : decode cX5_told 80 = .ok (.iload_n 1, 1) := by decide +kernel
theorem dX5_told_81 : decode cX5_told 81 = .ok (.iaload, 1) := by decide +kernel
theorem dX5_told_82 : decode cX5_told 82 = .ok (.i2l, 1) := by decide +kernel
theorem dX5_told_83 : decode cX5_told 83 = .ok (.lreturn, 1) := by decide +kernel
theorem dX5_told_84 : decode cX5_told 84 = .ok (.aload_n 0, 1) := by decide +kernel
theorem dX5_told_85 : decode cX5_told 85 = .ok (.getfield 22, 3) := by decide +kernel
theorem dX5_told_88 : decode cX5_told 88 = .ok (.iload_n 1, 1) := by decide +kernel
theorem dX5_told_89 : decode cX5_told 89 = .ok (.iaload, 1) := by decide +kernel
theorem dX5_told_90 : decode cX5_told 90 = .ok (.i2l, 1) := by decide +kernel
theorem dX5_told_91 : decode cX5_told 91 = .ok (.lreturn, 1) := by decide +kernel
theorem dX5_told_92 : decode cX5_told 92 = .ok (.aload_n 0, 1) := by decide +kernel
theorem dX5_told_93 : decode cX5_told 93 = .ok (.getfield 25, 3) := by decide +kernel
theorem dX5_told_96 : decode cX5_told 96 = .ok (.iload_n 1, 1) := by decide +kernel
theorem dX5_told_97 : decode cX5_told 97 = .ok (.iaload, 1) := by decide +kernel
theorem dX5_told_98 : decode cX5_told 98 = .ok (.i2l, 1) := by decide +kernel
theorem dX5_told_99 : decode cX5_told 99 = .ok (.lreturn, 1) := by decide +kernel
theorem dX5_told_100 : decode cX5_told 100 = .ok (.aload_n 0, 1) := by decide +kernel
theorem dX5_told_101 : decode cX5_told 101 = .ok (.getfield 28, 3) := by decide +kernel
theorem dX5_told_104 : decode cX5_told 104 = .ok (.iload_n 1, 1) := by decide +kernel
theorem dX5_told_105 : decode cX5_told 105 = .ok (.iaload, 1) := by decide +kernel
theorem dX5_told_106 : decode cX5_told 106 = .ok (.i2l, 1) := by decide +kernel
theorem dX5_told_107 : decode cX5_told 107 = .ok (.lreturn, 1) := by decide +kernel
set_option maxRecDepth 20000 in
theorem ggX5_on_X5_isDeck : GoodIn wsX5_on wsX5_isDeck := goodIn_r _ [8, 1, 9, 10, 7, 11] (by decide +kernel) (by decide +kernel)
set_option maxRecDepth 20000 in
theorem gX5_on_X5_isDeck : GoodIn wsX5_on (va_wsS RX5 51 yX5_isDeck wsX5_isDeck) := goodIn_app (goodIn_of _ (by decide +kernel)) ggX5_on_X5_isDeck
set_option maxRecDepth 20000 in
theorem ggX5_on_X5_in : GoodIn wsX5_on wsX5_in := goodIn_r _ [11] (by decide +kernel) (by decide +kernel)
set_option maxRecDepth 20000 in
theorem gX5_on_X5_in : GoodIn wsX5_on (va_wsS RX5 41 yX5_in wsX5_in) := goodIn_app (goodIn_of _ (by decide +kernel)) ggX5_on_X5_in
set_option maxRecDepth 20000 in
theorem ggX5_on_X5_takenOn : GoodIn wsX5_on wsX5_takenOn := goodIn_r _ [15, 2, 3, 16, 17, 18, 19, 20, 21, 22, 23, 24, 25, 26, 27, 28, 29, 30, 31, 32, 33] (by decide +kernel) (by decide +kernel)
set_option maxRecDepth 20000 in
theorem gX5_on_X5_takenOn : GoodIn wsX5_on (wsV RX5 57 RX5 yX5_takenOn wsX5_takenOn) := goodIn_app (goodIn_of _ (by decide +kernel)) ggX5_on_X5_takenOn
theorem dX5_on_0 : decode cX5_on 0 = .ok (.iload_n 1, 1) := by decide +kernel
theorem dX5_on_1 : decode cX5_on 1 = .ok (.invokestatic 51, 3) := by decide +kernel
theorem dX5_on_4 : decode cX5_on 4 = .ok (.ifCond .eq 15, 3) := by decide +kernel
theorem dX5_on_7 : decode cX5_on 7 = .ok (.iload_n 2, 1) := by decide +kernel
theorem dX5_on_8 : decode cX5_on 8 = .ok (.i2l, 1) := by decide +kernel
theorem dX5_on_9 : decode cX5_on 9 = .ok (.lconst 0, 1) := by decide +kernel
theorem dX5_on_10 : decode cX5_on 10 = .ok (.ldc2_w 45, 3) := by decide +kernel
theorem dX5_on_13 : decode cX5_on 13 = .ok (.invokestatic 41, 3) := by decide +kernel
theorem dX5_on_16 : decode cX5_on 16 = .ok (.ifCond .ne 5, 3) := by decide +kernel
theorem dX5_on_19 : decode cX5_on 19 = .ok (.iconst (-1), 1) := by decide +kernel
theorem dX5_on_20 : decode cX5_on 20 = .ok (.ireturn, 1) := by decide +kernel
theorem dX5_on_21 : decode cX5_on 21 = .ok (.iconst 0, 1) := by decide +kernel
theorem dX5_on_22 : decode cX5_on 22 = .ok (.istore_n 3, 1) := by decide +kernel
theorem dX5_on_23 : decode cX5_on 23 = .ok (.iconst 0, 1) := by decide +kernel
theorem dX5_on_24 : decode cX5_on 24 = .ok (.istore 4, 2) := by decide +kernel
theorem dX5_on_26 : decode cX5_on 26 = .ok (.iload 4, 2) := by decide +kernel
theorem dX5_on_28 : decode cX5_on 28 = .ok (.aload_n 0, 1) := by decide +kernel
theorem dX5_on_29 : decode cX5_on 29 = .ok (.getfield 37, 3) := by decide +kernel
theorem dX5_on_32 : decode cX5_on 32 = .ok (.if_icmp .ge 28, 3) := by decide +kernel
theorem dX5_on_35 : decode cX5_on 35 = .ok (.iload_n 3, 1) := by decide +kernel
theorem dX5_on_36 : decode cX5_on 36 = .ok (.aload_n 0, 1) := by decide +kernel
theorem dX5_on_37 : decode cX5_on 37 = .ok (.getfield 25, 3) := by decide +kernel
theorem dX5_on_40 : decode cX5_on 40 = .ok (.iload 4, 2) := by decide +kernel
theorem dX5_on_42 : decode cX5_on 42 = .ok (.iaload, 1) := by decide +kernel
theorem dX5_on_43 : decode cX5_on 43 = .ok (.iload_n 1, 1) := by decide +kernel
theorem dX5_on_44 : decode cX5_on 44 = .ok (.if_icmp .ne 7, 3) := by decide +kernel
theorem dX5_on_47 : decode cX5_on 47 = .ok (.iconst 1, 1) := by decide +kernel
theorem dX5_on_48 : decode cX5_on 48 = .ok (.goto 4, 3) := by decide +kernel
theorem dX5_on_51 : decode cX5_on 51 = .ok (.iconst 0, 1) := by decide +kernel
theorem dX5_on_52 : decode cX5_on 52 = .ok (.iadd, 1) := by decide +kernel
theorem dX5_on_53 : decode cX5_on 53 = .ok (.istore_n 3, 1) := by decide +kernel
theorem dX5_on_54 : decode cX5_on 54 = .ok (.iinc 4 1, 3) := by decide +kernel
theorem dX5_on_57 : decode cX5_on 57 = .ok (.goto (-31), 3) := by decide +kernel
theorem dX5_on_60 : decode cX5_on 60 = .ok (.iload_n 2, 1) := by decide +kernel
theorem dX5_on_61 : decode cX5_on 61 = .ok (.ifCond .ne 12, 3) := by decide +kernel
theorem dX5_on_64 : decode cX5_on 64 = .ok (.aload_n 0, 1) := by decide +kernel
theorem dX5_on_65 : decode cX5_on 65 = .ok (.getfield 31, 3) := by decide +kernel
theorem dX5_on_68 : decode cX5_on 68 = .ok (.iload_n 1, 1) := by decide +kernel
theorem dX5_on_69 : decode cX5_on 69 = .ok (.iaload, 1) := by decide +kernel
theorem dX5_on_70 : decode cX5_on 70 = .ok (.goto 24, 3) := by decide +kernel
theorem dX5_on_73 : decode cX5_on 73 = .ok (.iload_n 2, 1) := by decide +kernel
theorem dX5_on_74 : decode cX5_on 74 = .ok (.iconst 1, 1) := by decide +kernel
theorem dX5_on_75 : decode cX5_on 75 = .ok (.if_icmp .ne 18, 3) := by decide +kernel
theorem dX5_on_78 : decode cX5_on 78 = .ok (.aload_n 0, 1) := by decide +kernel
theorem dX5_on_79 : decode cX5_on 79 = .ok (.getfield 31, 3) := by decide +kernel
theorem dX5_on_82 : decode cX5_on 82 = .ok (.iload_n 1, 1) := by decide +kernel
theorem dX5_on_83 : decode cX5_on 83 = .ok (.iaload, 1) := by decide +kernel
theorem dX5_on_84 : decode cX5_on 84 = .ok (.aload_n 0, 1) := by decide +kernel
theorem dX5_on_85 : decode cX5_on 85 = .ok (.iload_n 1, 1) := by decide +kernel
theorem dX5_on_86 : decode cX5_on 86 = .ok (.invokevirtual 57, 3) := by decide +kernel
theorem dX5_on_89 : decode cX5_on 89 = .ok (.isub, 1) := by decide +kernel
theorem dX5_on_90 : decode cX5_on 90 = .ok (.goto 4, 3) := by decide +kernel
theorem dX5_on_93 : decode cX5_on 93 = .ok (.iload_n 3, 1) := by decide +kernel
theorem dX5_on_94 : decode cX5_on 94 = .ok (.ireturn, 1) := by decide +kernel
theorem dX5_till_0 : decode cX5_till 0 = .ok (.aload_n 0, 1) := by decide +kernel
theorem dX5_till_1 : decode cX5_till 1 = .ok (.getfield 174, 3) := by decide +kernel
theorem dX5_till_4 : decode cX5_till 4 = .ok (.lreturn, 1) := by decide +kernel
theorem dX5_count_0 : decode cX5_count 0 = .ok (.iload_n 1, 1) := by decide +kernel
theorem dX5_count_1 : decode cX5_count 1 = .ok (.tableswitch 51 0 3 #[31, 36, 41, 46], 31) := by decide +kernel
theorem dX5_count_32 : decode cX5_count 32 = .ok (.aload_n 0, 1) := by decide +kernel
theorem dX5_count_33 : decode cX5_count 33 = .ok (.getfield 37, 3) := by decide +kernel
theorem dX5_count_36 : decode cX5_count 36 = .ok (.ireturn, 1) := by decide +kernel
theorem dX5_count_37 : decode cX5_count 37 = .ok (.aload_n 0, 1) := by decide +kernel
theorem dX5_count_38 : decode cX5_count 38 = .ok (.getfield 67, 3) := by decide +kernel
theorem dX5_count_41 : decode cX5_count 41 = .ok (.ireturn, 1) := by decide +kernel
theorem dX5_count_42 : decode cX5_count 42 = .ok (.aload_n 0, 1) := by decide +kernel
theorem dX5_count_43 : decode cX5_count 43 = .ok (.getfield 70, 3) := by decide +kernel
theorem dX5_count_46 : decode cX5_count 46 = .ok (.ireturn, 1) := by decide +kernel
theorem dX5_count_47 : decode cX5_count 47 = .ok (.aload_n 0, 1) := by decide +kernel
theorem dX5_count_48 : decode cX5_count 48 = .ok (.getfield 166, 3) := by decide +kernel
theorem dX5_count_51 : decode cX5_count 51 = .ok (.ireturn, 1) := by decide +kernel
theorem dX5_count_52 : decode cX5_count 52 = .ok (.iconst (-1), 1) := by decide +kernel
theorem dX5_count_53 : decode cX5_count 53 = .ok (.ireturn, 1) := by decide +kernel
