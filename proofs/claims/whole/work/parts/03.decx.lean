theorem dX0_init_0 : decode cX0_init 0 = .ok (.aload_n 0, 1) := by decide +kernel
theorem dX0_init_1 : decode cX0_init 1 = .ok (.invokespecial 3, 3) := by decide +kernel
theorem dX0_init_4 : decode cX0_init 4 = .ok (.return_, 1) := by decide +kernel
theorem dX0_come_0 : decode cX0_come 0 = .ok (.aload_n 0, 1) := by decide +kernel
theorem dX0_come_1 : decode cX0_come 1 = .ok (.iload_n 1, 1) := by decide +kernel
theorem dX0_come_2 : decode cX0_come 2 = .ok (.bipush 10, 2) := by decide +kernel
theorem dX0_come_4 : decode cX0_come 4 = .ok (.idiv, 1) := by decide +kernel
theorem dX0_come_5 : decode cX0_come 5 = .ok (.putfield 9, 3) := by decide +kernel
theorem dX0_come_8 : decode cX0_come 8 = .ok (.aload_n 0, 1) := by decide +kernel
theorem dX0_come_9 : decode cX0_come 9 = .ok (.iload_n 1, 1) := by decide +kernel
theorem dX0_come_10 : decode cX0_come 10 = .ok (.bipush 10, 2) := by decide +kernel
theorem dX0_come_12 : decode cX0_come 12 = .ok (.irem, 1) := by decide +kernel
theorem dX0_come_13 : decode cX0_come 13 = .ok (.putfield 15, 3) := by decide +kernel
theorem dX0_come_16 : decode cX0_come 16 = .ok (.aload_n 0, 1) := by decide +kernel
theorem dX0_come_17 : decode cX0_come 17 = .ok (.iload_n 2, 1) := by decide +kernel
theorem dX0_come_18 : decode cX0_come 18 = .ok (.putfield 18, 3) := by decide +kernel
theorem dX0_come_21 : decode cX0_come 21 = .ok (.aload_n 0, 1) := by decide +kernel
theorem dX0_come_22 : decode cX0_come 22 = .ok (.iload_n 3, 1) := by decide +kernel
theorem dX0_come_23 : decode cX0_come 23 = .ok (.putfield 21, 3) := by decide +kernel
theorem dX0_come_26 : decode cX0_come 26 = .ok (.aload_n 0, 1) := by decide +kernel
theorem dX0_come_27 : decode cX0_come 27 = .ok (.iconst 0, 1) := by decide +kernel
theorem dX0_come_28 : decode cX0_come 28 = .ok (.putfield 24, 3) := by decide +kernel
theorem dX0_come_31 : decode cX0_come 31 = .ok (.aload_n 0, 1) := by decide +kernel
theorem dX0_come_32 : decode cX0_come 32 = .ok (.iconst 0, 1) := by decide +kernel
theorem dX0_come_33 : decode cX0_come 33 = .ok (.putfield 27, 3) := by decide +kernel
theorem dX0_come_36 : decode cX0_come 36 = .ok (.aload_n 0, 1) := by decide +kernel
theorem dX0_come_37 : decode cX0_come 37 = .ok (.iconst 0, 1) := by decide +kernel
theorem dX0_come_38 : decode cX0_come 38 = .ok (.putfield 30, 3) := by decide +kernel
theorem dX0_come_41 : decode cX0_come 41 = .ok (.return_, 1) := by decide +kernel
theorem dX0_become_0 : decode cX0_become 0 = .ok (.aload_n 0, 1) := by decide +kernel
theorem dX0_become_1 : decode cX0_become 1 = .ok (.aload_n 1, 1) := by decide +kernel
theorem dX0_become_2 : decode cX0_become 2 = .ok (.getfield 9, 3) := by decide +kernel
theorem dX0_become_5 : decode cX0_become 5 = .ok (.putfield 9, 3) := by decide +kernel
theorem dX0_become_8 : decode cX0_become 8 = .ok (.aload_n 0, 1) := by decide +kernel
theorem dX0_become_9 : decode cX0_become 9 = .ok (.aload_n 1, 1) := by decide +kernel
theorem dX0_become_10 : decode cX0_become 10 = .ok (.getfield 15, 3) := by decide +kernel
theorem dX0_become_13 : decode cX0_become 13 = .ok (.putfield 15, 3) := by decide +kernel
theorem dX0_become_16 : decode cX0_become 16 = .ok (.aload_n 0, 1) := by decide +kernel
theorem dX0_become_17 : decode cX0_become 17 = .ok (.aload_n 1, 1) := by decide +kernel
theorem dX0_become_18 : decode cX0_become 18 = .ok (.getfield 18, 3) := by decide +kernel
theorem dX0_become_21 : decode cX0_become 21 = .ok (.putfield 18, 3) := by decide +kernel
theorem dX0_become_24 : decode cX0_become 24 = .ok (.aload_n 0, 1) := by decide +kernel
theorem dX0_become_25 : decode cX0_become 25 = .ok (.aload_n 1, 1) := by decide +kernel
theorem dX0_become_26 : decode cX0_become 26 = .ok (.getfield 21, 3) := by decide +kernel
theorem dX0_become_29 : decode cX0_become 29 = .ok (.putfield 21, 3) := by decide +kernel
theorem dX0_become_32 : decode cX0_become 32 = .ok (.aload_n 0, 1) := by decide +kernel
theorem dX0_become_33 : decode cX0_become 33 = .ok (.aload_n 1, 1) := by decide +kernel
theorem dX0_become_34 : decode cX0_become 34 = .ok (.getfield 24, 3) := by decide +kernel
theorem dX0_become_37 : decode cX0_become 37 = .ok (.putfield 24, 3) := by decide +kernel
theorem dX0_become_40 : decode cX0_become 40 = .ok (.aload_n 0, 1) := by decide +kernel
theorem dX0_become_41 : decode cX0_become 41 = .ok (.aload_n 1, 1) := by decide +kernel
theorem dX0_become_42 : decode cX0_become 42 = .ok (.getfield 27, 3) := by decide +kernel
theorem dX0_become_45 : decode cX0_become 45 = .ok (.putfield 27, 3) := by decide +kernel
theorem dX0_become_48 : decode cX0_become 48 = .ok (.aload_n 0, 1) := by decide +kernel
theorem dX0_become_49 : decode cX0_become 49 = .ok (.aload_n 1, 1) := by decide +kernel
theorem dX0_become_50 : decode cX0_become 50 = .ok (.getfield 30, 3) := by decide +kernel
theorem dX0_become_53 : decode cX0_become 53 = .ok (.putfield 30, 3) := by decide +kernel
theorem dX0_become_56 : decode cX0_become 56 = .ok (.return_, 1) := by decide +kernel
theorem dX0_stateOf_0 : decode cX0_stateOf 0 = .ok (.iload_n 1, 1) := by decide +kernel
theorem dX0_stateOf_1 : decode cX0_stateOf 1 = .ok (.tableswitch 51 0 3 #[31, 36, 41, 46], 31) := by decide +kernel
theorem dX0_stateOf_32 : decode cX0_stateOf 32 = .ok (.aload_n 0, 1) := by decide +kernel
theorem dX0_stateOf_33 : decode cX0_stateOf 33 = .ok (.getfield 18, 3) := by decide +kernel
theorem dX0_stateOf_36 : decode cX0_stateOf 36 = .ok (.ireturn, 1) := by decide +kernel
theorem dX0_stateOf_37 : decode cX0_stateOf 37 = .ok (.aload_n 0, 1) := by decide +kernel
theorem dX0_stateOf_38 : decode cX0_stateOf 38 = .ok (.getfield 21, 3) := by decide +kernel
theorem dX0_stateOf_41 : decode cX0_stateOf 41 = .ok (.ireturn, 1) := by decide +kernel
theorem dX0_stateOf_42 : decode cX0_stateOf 42 = .ok (.aload_n 0, 1) := by decide +kernel
theorem dX0_stateOf_43 : decode cX0_stateOf 43 = .ok (.getfield 24, 3) := by decide +kernel
theorem dX0_stateOf_46 : decode cX0_stateOf 46 = .ok (.ireturn, 1) := by decide +kernel
theorem dX0_stateOf_47 : decode cX0_stateOf 47 = .ok (.aload_n 0, 1) := by decide +kernel
theorem dX0_stateOf_48 : decode cX0_stateOf 48 = .ok (.getfield 27, 3) := by decide +kernel
theorem dX0_stateOf_51 : decode cX0_stateOf 51 = .ok (.ireturn, 1) := by decide +kernel
theorem dX0_stateOf_52 : decode cX0_stateOf 52 = .ok (.aload_n 0, 1) := by decide +kernel
theorem dX0_stateOf_53 : decode cX0_stateOf 53 = .ok (.getfield 30, 3) := by decide +kernel
theorem dX0_stateOf_56 : decode cX0_stateOf 56 = .ok (.ifCond .eq 7, 3) := by decide +kernel
theorem dX0_stateOf_59 : decode cX0_stateOf 59 = .ok (.iconst 1, 1) := by decide +kernel
theorem dX0_stateOf_60 : decode cX0_stateOf 60 = .ok (.goto 4, 3) := by decide +kernel
theorem dX0_stateOf_63 : decode cX0_stateOf 63 = .ok (.iconst 0, 1) := by decide +kernel
theorem dX0_stateOf_64 : decode cX0_stateOf 64 = .ok (.ireturn, 1) := by decide +kernel
theorem dX0_setState_0 : decode cX0_setState 0 = .ok (.iload_n 1, 1) := by decide +kernel
theorem dX0_setState_1 : decode cX0_setState 1 = .ok (.tableswitch 63 0 3 #[31, 39, 47, 55], 31) := by decide +kernel
theorem dX0_setState_32 : decode cX0_setState 32 = .ok (.aload_n 0, 1) := by decide +kernel
theorem dX0_setState_33 : decode cX0_setState 33 = .ok (.iload_n 2, 1) := by decide +kernel
theorem dX0_setState_34 : decode cX0_setState 34 = .ok (.putfield 18, 3) := by decide +kernel
theorem dX0_setState_37 : decode cX0_setState 37 = .ok (.goto 41, 3) := by decide +kernel
theorem dX0_setState_40 : decode cX0_setState 40 = .ok (.aload_n 0, 1) := by decide +kernel
theorem dX0_setState_41 : decode cX0_setState 41 = .ok (.iload_n 2, 1) := by decide +kernel
theorem dX0_setState_42 : decode cX0_setState 42 = .ok (.putfield 21, 3) := by decide +kernel
theorem dX0_setState_45 : decode cX0_setState 45 = .ok (.goto 33, 3) := by decide +kernel
theorem dX0_setState_48 : decode cX0_setState 48 = .ok (.aload_n 0, 1) := by decide +kernel
theorem dX0_setState_49 : decode cX0_setState 49 = .ok (.iload_n 2, 1) := by decide +kernel
theorem dX0_setState_50 : decode cX0_setState 50 = .ok (.putfield 24, 3) := by decide +kernel
theorem dX0_setState_53 : decode cX0_setState 53 = .ok (.goto 25, 3) := by decide +kernel
theorem dX0_setState_56 : decode cX0_setState 56 = .ok (.aload_n 0, 1) := by decide +kernel
theorem dX0_setState_57 : decode cX0_setState 57 = .ok (.iload_n 2, 1) := by decide +kernel
theorem dX0_setState_58 : decode cX0_setState 58 = .ok (.putfield 27, 3) := by decide +kernel
theorem dX0_setState_61 : decode cX0_setState 61 = .ok (.goto 17, 3) := by decide +kernel
theorem dX0_setState_64 : decode cX0_setState 64 = .ok (.aload_n 0, 1) := by decide +kernel
theorem dX0_setState_65 : decode cX0_setState 65 = .ok (.iload_n 2, 1) := by decide +kernel
theorem dX0_setState_66 : decode cX0_setState 66 = .ok (.iconst 1, 1) := by decide +kernel
theorem dX0_setState_67 : decode cX0_setState 67 = .ok (.if_icmp .ne 7, 3) := by decide +kernel
theorem dX0_setState_70 : decode cX0_setState 70 = .ok (.iconst 1, 1) := by decide +kernel
theorem dX0_setState_71 : decode cX0_setState 71 = .ok (.goto 4, 3) := by decide +kernel
theorem dX0_setState_74 : decode cX0_setState 74 = .ok (.iconst 0, 1) := by decide +kernel
theorem dX0_setState_75 : decode cX0_setState 75 = .ok (.putfield 30, 3) := by decide +kernel
theorem dX0_setState_78 : decode cX0_setState 78 = .ok (.return_, 1) := by decide +kernel
theorem dX1_init_0 : decode cX1_init 0 = .ok (.aload_n 0, 1) := by decide +kernel
theorem dX1_init_1 : decode cX1_init 1 = .ok (.invokespecial 3, 3) := by decide +kernel
theorem dX1_init_4 : decode cX1_init 4 = .ok (.aload_n 0, 1) := by decide +kernel
theorem dX1_init_5 : decode cX1_init 5 = .ok (.bipush 64, 2) := by decide +kernel
theorem dX1_init_7 : decode cX1_init 7 = .ok (.newarray .int, 2) := by decide +kernel
theorem dX1_init_9 : decode cX1_init 9 = .ok (.putfield 9, 3) := by decide +kernel
theorem dX1_init_12 : decode cX1_init 12 = .ok (.return_, 1) := by decide +kernel
theorem dX1_lay_0 : decode cX1_lay 0 = .ok (.aload_n 0, 1) := by decide +kernel
theorem dX1_lay_1 : decode cX1_lay 1 = .ok (.getfield 15, 3) := by decide +kernel
theorem dX1_lay_4 : decode cX1_lay 4 = .ok (.ifCond .lt 35, 3) := by decide +kernel
theorem dX1_lay_7 : decode cX1_lay 7 = .ok (.aload_n 0, 1) := by decide +kernel
theorem dX1_lay_8 : decode cX1_lay 8 = .ok (.getfield 15, 3) := by decide +kernel
theorem dX1_lay_11 : decode cX1_lay 11 = .ok (.aload_n 0, 1) := by decide +kernel
theorem dX1_lay_12 : decode cX1_lay 12 = .ok (.getfield 9, 3) := by decide +kernel
theorem dX1_lay_15 : decode cX1_lay 15 = .ok (.arraylength, 1) := by decide +kernel
theorem dX1_lay_16 : decode cX1_lay 16 = .ok (.if_icmp .ge 23, 3) := by decide +kernel
theorem dX1_lay_19 : decode cX1_lay 19 = .ok (.aload_n 0, 1) := by decide +kernel
theorem dX1_lay_20 : decode cX1_lay 20 = .ok (.getfield 9, 3) := by decide +kernel
theorem dX1_lay_23 : decode cX1_lay 23 = .ok (.aload_n 0, 1) := by decide +kernel
theorem dX1_lay_24 : decode cX1_lay 24 = .ok (.getfield 15, 3) := by decide +kernel
theorem dX1_lay_27 : decode cX1_lay 27 = .ok (.iload_n 1, 1) := by decide +kernel
theorem dX1_lay_28 : decode cX1_lay 28 = .ok (.iastore, 1) := by decide +kernel
theorem dX1_lay_29 : decode cX1_lay 29 = .ok (.aload_n 0, 1) := by decide +kernel
theorem dX1_lay_30 : decode cX1_lay 30 = .ok (.dup, 1) := by decide +kernel
theorem dX1_lay_31 : decode cX1_lay 31 = .ok (.getfield 15, 3) := by decide +kernel
theorem dX1_lay_34 : decode cX1_lay 34 = .ok (.iconst 1, 1) := by decide +kernel
theorem dX1_lay_35 : decode cX1_lay 35 = .ok (.iadd, 1) := by decide +kernel
theorem dX1_lay_36 : decode cX1_lay 36 = .ok (.putfield 15, 3) := by decide +kernel
theorem dX1_lay_39 : decode cX1_lay 39 = .ok (.return_, 1) := by decide +kernel
theorem dX1_lift_0 : decode cX1_lift 0 = .ok (.aload_n 0, 1) := by decide +kernel
theorem dX1_lift_1 : decode cX1_lift 1 = .ok (.getfield 15, 3) := by decide +kernel
theorem dX1_lift_4 : decode cX1_lift 4 = .ok (.iconst 1, 1) := by decide +kernel
theorem dX1_lift_5 : decode cX1_lift 5 = .ok (.if_icmp .lt 15, 3) := by decide +kernel
theorem dX1_lift_8 : decode cX1_lift 8 = .ok (.aload_n 0, 1) := by decide +kernel
theorem dX1_lift_9 : decode cX1_lift 9 = .ok (.getfield 15, 3) := by decide +kernel
theorem dX1_lift_12 : decode cX1_lift 12 = .ok (.aload_n 0, 1) := by decide +kernel
theorem dX1_lift_13 : decode cX1_lift 13 = .ok (.getfield 9, 3) := by decide +kernel
theorem dX1_lift_16 : decode cX1_lift 16 = .ok (.arraylength, 1) := by decide +kernel
theorem dX1_lift_17 : decode cX1_lift 17 = .ok (.if_icmp .le 5, 3) := by decide +kernel
theorem dX1_lift_20 : decode cX1_lift 20 = .ok (.iconst 0, 1) := by decide +kernel
theorem dX1_lift_21 : decode cX1_lift 21 = .ok (.ireturn, 1) := by decide +kernel
theorem dX1_lift_22 : decode cX1_lift 22 = .ok (.aload_n 0, 1) := by decide +kernel
theorem dX1_lift_23 : decode cX1_lift 23 = .ok (.dup, 1) := by decide +kernel
theorem dX1_lift_24 : decode cX1_lift 24 = .ok (.getfield 15, 3) := by decide +kernel
theorem dX1_lift_27 : decode cX1_lift 27 = .ok (.iconst 1, 1) := by decide +kernel
theorem dX1_lift_28 : decode cX1_lift 28 = .ok (.isub, 1) := by decide +kernel
theorem dX1_lift_29 : decode cX1_lift 29 = .ok (.putfield 15, 3) := by decide +kernel
theorem dX1_lift_32 : decode cX1_lift 32 = .ok (.aload_n 0, 1) := by decide +kernel
theorem dX1_lift_33 : decode cX1_lift 33 = .ok (.getfield 9, 3) := by decide +kernel
theorem dX1_lift_36 : decode cX1_lift 36 = .ok (.aload_n 0, 1) := by decide +kernel
theorem dX1_lift_37 : decode cX1_lift 37 = .ok (.getfield 15, 3) := by decide +kernel
theorem dX1_lift_40 : decode cX1_lift 40 = .ok (.iaload, 1) := by decide +kernel
theorem dX1_lift_41 : decode cX1_lift 41 = .ok (.ireturn, 1) := by decide +kernel
theorem dX2_init_0 : decode cX2_init 0 = .ok (.aload_n 0, 1) := by decide +kernel
theorem dX2_init_1 : decode cX2_init 1 = .ok (.invokespecial 3, 3) := by decide +kernel
theorem dX2_init_4 : decode cX2_init 4 = .ok (.aload_n 0, 1) := by decide +kernel
theorem dX2_init_5 : decode cX2_init 5 = .ok (.aload_n 1, 1) := by decide +kernel
theorem dX2_init_6 : decode cX2_init 6 = .ok (.putfield 9, 3) := by decide +kernel
theorem dX2_init_9 : decode cX2_init 9 = .ok (.aload_n 0, 1) := by decide +kernel
theorem dX2_init_10 : decode cX2_init 10 = .ok (.sipush 160, 3) := by decide +kernel
theorem dX2_init_13 : decode cX2_init 13 = .ok (.newarray .int, 2) := by decide +kernel
theorem dX2_init_15 : decode cX2_init 15 = .ok (.putfield 15, 3) := by decide +kernel
theorem dX2_init_18 : decode cX2_init 18 = .ok (.aload_n 0, 1) := by decide +kernel
theorem dX2_init_19 : decode cX2_init 19 = .ok (.iconst 4, 1) := by decide +kernel
theorem dX2_init_20 : decode cX2_init 20 = .ok (.newarray .int, 2) := by decide +kernel
theorem dX2_init_22 : decode cX2_init 22 = .ok (.putfield 19, 3) := by decide +kernel
theorem dX2_init_25 : decode cX2_init 25 = .ok (.return_, 1) := by decide +kernel
theorem dX2_faultPlace_0 : decode cX2_faultPlace 0 = .ok (.aload_n 0, 1) := by decide +kernel
theorem dX2_faultPlace_1 : decode cX2_faultPlace 1 = .ok (.iconst 0, 1) := by decide +kernel
theorem dX2_faultPlace_2 : decode cX2_faultPlace 2 = .ok (.putfield 22, 3) := by decide +kernel
theorem dX2_faultPlace_5 : decode cX2_faultPlace 5 = .ok (.aload_n 0, 1) := by decide +kernel
theorem dX2_faultPlace_6 : decode cX2_faultPlace 6 = .ok (.getfield 9, 3) := by decide +kernel
theorem dX2_faultPlace_9 : decode cX2_faultPlace 9 = .ok (.invokevirtual 26, 3) := by decide +kernel
theorem dX2_faultPlace_12 : decode cX2_faultPlace 12 = .ok (.aload_n 0, 1) := by decide +kernel
theorem dX2_faultPlace_13 : decode cX2_faultPlace 13 = .ok (.iconst 0, 1) := by decide +kernel
theorem dX2_faultPlace_14 : decode cX2_faultPlace 14 = .ok (.bipush (-10), 2) := by decide +kernel
theorem dX2_faultPlace_16 : decode cX2_faultPlace 16 = .ok (.invokevirtual 31, 3) := by decide +kernel
theorem dX2_faultPlace_19 : decode cX2_faultPlace 19 = .ok (.ifCond .eq 27, 3) := by decide +kernel
theorem dX2_faultPlace_22 : decode cX2_faultPlace 22 = .ok (.aload_n 0, 1) := by decide +kernel
theorem dX2_faultPlace_23 : decode cX2_faultPlace 23 = .ok (.iconst 1, 1) := by decide +kernel
theorem dX2_faultPlace_24 : decode cX2_faultPlace 24 = .ok (.bipush (-11), 2) := by decide +kernel
theorem dX2_faultPlace_26 : decode cX2_faultPlace 26 = .ok (.invokevirtual 31, 3) := by decide +kernel
theorem dX2_faultPlace_29 : decode cX2_faultPlace 29 = .ok (.ifCond .eq 17, 3) := by decide +kernel
theorem dX2_faultPlace_32 : decode cX2_faultPlace 32 = .ok (.aload_n 0, 1) := by decide +kernel
theorem dX2_faultPlace_33 : decode cX2_faultPlace 33 = .ok (.iconst 2, 1) := by decide +kernel
theorem dX2_faultPlace_34 : decode cX2_faultPlace 34 = .ok (.bipush (-12), 2) := by decide +kernel
theorem dX2_faultPlace_36 : decode cX2_faultPlace 36 = .ok (.invokevirtual 31, 3) := by decide +kernel
theorem dX2_faultPlace_39 : decode cX2_faultPlace 39 = .ok (.ifCond .eq 7, 3) := by decide +kernel
theorem dX2_faultPlace_42 : decode cX2_faultPlace 42 = .ok (.iconst 1, 1) := by decide +kernel
theorem dX2_faultPlace_43 : decode cX2_faultPlace 43 = .ok (.goto 4, 3) := by decide +kernel
theorem dX2_faultPlace_46 : decode cX2_faultPlace 46 = .ok (.iconst 0, 1) := by decide +kernel
theorem dX2_faultPlace_47 : decode cX2_faultPlace 47 = .ok (.istore_n 1, 1) := by decide +kernel
theorem dX2_faultPlace_48 : decode cX2_faultPlace 48 = .ok (.aload_n 0, 1) := by decide +kernel
theorem dX2_faultPlace_49 : decode cX2_faultPlace 49 = .ok (.getfield 19, 3) := by decide +kernel
theorem dX2_faultPlace_52 : decode cX2_faultPlace 52 = .ok (.iconst 3, 1) := by decide +kernel
theorem dX2_faultPlace_53 : decode cX2_faultPlace 53 = .ok (.aload_n 0, 1) := by decide +kernel
theorem dX2_faultPlace_54 : decode cX2_faultPlace 54 = .ok (.getfield 22, 3) := by decide +kernel
theorem dX2_faultPlace_57 : decode cX2_faultPlace 57 = .ok (.iastore, 1) := by decide +kernel
theorem dX2_faultPlace_58 : decode cX2_faultPlace 58 = .ok (.iload_n 1, 1) := by decide +kernel
theorem dX2_faultPlace_59 : decode cX2_faultPlace 59 = .ok (.ifCond .eq 17, 3) := by decide +kernel
theorem dX2_faultPlace_62 : decode cX2_faultPlace 62 = .ok (.aload_n 0, 1) := by decide +kernel
theorem dX2_faultPlace_63 : decode cX2_faultPlace 63 = .ok (.getfield 9, 3) := by decide +kernel
theorem dX2_faultPlace_66 : decode cX2_faultPlace 66 = .ok (.getfield 35, 3) := by decide +kernel
theorem dX2_faultPlace_69 : decode cX2_faultPlace 69 = .ok (.ifCond .ne 7, 3) := by decide +kernel
theorem dX2_faultPlace_72 : decode cX2_faultPlace 72 = .ok (.iconst (-1), 1) := by decide +kernel
theorem dX2_faultPlace_73 : decode cX2_faultPlace 73 = .ok (.goto 10, 3) := by decide +kernel
theorem dX2_faultPlace_76 : decode cX2_faultPlace 76 = .ok (.aload_n 0, 1) := by decide +kernel
theorem dX2_faultPlace_77 : decode cX2_faultPlace 77 = .ok (.getfield 9, 3) := by decide +kernel
theorem dX2_faultPlace_80 : decode cX2_faultPlace 80 = .ok (.getfield 38, 3) := by decide +kernel
theorem dX2_faultPlace_83 : decode cX2_faultPlace 83 = .ok (.ireturn, 1) := by decide +kernel
theorem dX2_readPart_0 : decode cX2_readPart 0 = .ok (.iload_n 1, 1) := by decide +kernel
theorem dX2_readPart_1 : decode cX2_readPart 1 = .ok (.ifCond .lt 12, 3) := by decide +kernel
theorem dX2_readPart_4 : decode cX2_readPart 4 = .ok (.iload_n 1, 1) := by decide +kernel
theorem dX2_readPart_5 : decode cX2_readPart 5 = .ok (.aload_n 0, 1) := by decide +kernel
theorem dX2_readPart_6 : decode cX2_readPart 6 = .ok (.getfield 19, 3) := by decide +kernel
theorem dX2_readPart_9 : decode cX2_readPart 9 = .ok (.arraylength, 1) := by decide +kernel
theorem dX2_readPart_10 : decode cX2_readPart 10 = .ok (.if_icmp .lt 5, 3) := by decide +kernel
theorem dX2_readPart_13 : decode cX2_readPart 13 = .ok (.iconst 0, 1) := by decide +kernel
theorem dX2_readPart_14 : decode cX2_readPart 14 = .ok (.ireturn, 1) := by decide +kernel
theorem dX2_readPart_15 : decode cX2_readPart 15 = .ok (.aload_n 0, 1) := by decide +kernel
theorem dX2_readPart_16 : decode cX2_readPart 16 = .ok (.getfield 19, 3) := by decide +kernel
theorem dX2_readPart_19 : decode cX2_readPart 19 = .ok (.iload_n 1, 1) := by decide +kernel
theorem dX2_readPart_20 : decode cX2_readPart 20 = .ok (.aload_n 0, 1) := by decide +kernel
theorem dX2_readPart_21 : decode cX2_readPart 21 = .ok (.getfield 22, 3) := by decide +kernel
theorem dX2_readPart_24 : decode cX2_readPart 24 = .ok (.iastore, 1) := by decide +kernel
theorem dX2_readPart_25 : decode cX2_readPart 25 = .ok (.aload_n 0, 1) := by decide +kernel
theorem dX2_readPart_26 : decode cX2_readPart 26 = .ok (.iload_n 2, 1) := by decide +kernel
theorem dX2_readPart_27 : decode cX2_readPart 27 = .ok (.invokevirtual 41, 3) := by decide +kernel
theorem dX2_readPart_30 : decode cX2_readPart 30 = .ok (.ifCond .eq 24, 3) := by decide +kernel
theorem dX2_readPart_33 : decode cX2_readPart 33 = .ok (.aload_n 0, 1) := by decide +kernel
theorem dX2_readPart_34 : decode cX2_readPart 34 = .ok (.iconst 0, 1) := by decide +kernel
theorem dX2_readPart_35 : decode cX2_readPart 35 = .ok (.invokevirtual 45, 3) := by decide +kernel
theorem dX2_readPart_38 : decode cX2_readPart 38 = .ok (.ifCond .eq 16, 3) := by decide +kernel
theorem dX2_readPart_41 : decode cX2_readPart 41 = .ok (.aload_n 0, 1) := by decide +kernel
theorem dX2_readPart_42 : decode cX2_readPart 42 = .ok (.bipush 59, 2) := by decide +kernel
theorem dX2_readPart_44 : decode cX2_readPart 44 = .ok (.invokevirtual 41, 3) := by decide +kernel
theorem dX2_readPart_47 : decode cX2_readPart 47 = .ok (.ifCond .eq 7, 3) := by decide +kernel
theorem dX2_readPart_50 : decode cX2_readPart 50 = .ok (.iconst 1, 1) := by decide +kernel
theorem dX2_readPart_51 : decode cX2_readPart 51 = .ok (.goto 4, 3) := by decide +kernel
theorem dX2_readPart_54 : decode cX2_readPart 54 = .ok (.iconst 0, 1) := by decide +kernel
theorem dX2_readPart_55 : decode cX2_readPart 55 = .ok (.ireturn, 1) := by decide +kernel
theorem dX2_readToken_0 : decode cX2_readToken 0 = .ok (.aload_n 0, 1) := by decide +kernel
theorem dX2_readToken_1 : decode cX2_readToken 1 = .ok (.getfield 9, 3) := by decide +kernel
theorem dX2_readToken_4 : decode cX2_readToken 4 = .ok (.getfield 35, 3) := by decide +kernel
theorem dX2_readToken_7 : decode cX2_readToken 7 = .ok (.iload_n 1, 1) := by decide +kernel
theorem dX2_readToken_8 : decode cX2_readToken 8 = .ok (.if_icmp .eq 5, 3) := by decide +kernel
theorem dX2_readToken_11 : decode cX2_readToken 11 = .ok (.iconst 0, 1) := by decide +kernel
theorem dX2_readToken_12 : decode cX2_readToken 12 = .ok (.ireturn, 1) := by decide +kernel
theorem dX2_readToken_13 : decode cX2_readToken 13 = .ok (.aload_n 0, 1) := by decide +kernel
theorem dX2_readToken_14 : decode cX2_readToken 14 = .ok (.getfield 9, 3) := by decide +kernel
theorem dX2_readToken_17 : decode cX2_readToken 17 = .ok (.invokevirtual 48, 3) := by decide +kernel
theorem dX2_readToken_20 : decode cX2_readToken 20 = .ok (.iconst 1, 1) := by decide +kernel
theorem dX2_readToken_21 : decode cX2_readToken 21 = .ok (.ireturn, 1) := by decide +kernel
theorem dX2_readOr_0 : decode cX2_readOr 0 = .ok (.aload_n 0, 1) := by decide +kernel
theorem dX2_readOr_1 : decode cX2_readOr 1 = .ok (.iload_n 1, 1) := by decide +kernel
theorem dX2_readOr_2 : decode cX2_readOr 2 = .ok (.invokevirtual 51, 3) := by decide +kernel
theorem dX2_readOr_5 : decode cX2_readOr 5 = .ok (.istore_n 2, 1) := by decide +kernel
theorem dX2_readOr_6 : decode cX2_readOr 6 = .ok (.iconst 0, 1) := by decide +kernel
theorem dX2_readOr_7 : decode cX2_readOr 7 = .ok (.istore_n 3, 1) := by decide +kernel
theorem dX2_readOr_8 : decode cX2_readOr 8 = .ok (.iload_n 3, 1) := by decide +kernel
theorem dX2_readOr_9 : decode cX2_readOr 9 = .ok (.sipush 160, 3) := by decide +kernel
theorem dX2_readOr_12 : decode cX2_readOr 12 = .ok (.if_icmp .ge 44, 3) := by decide +kernel
theorem dX2_readOr_15 : decode cX2_readOr 15 = .ok (.iload_n 2, 1) := by decide +kernel
theorem dX2_readOr_16 : decode cX2_readOr 16 = .ok (.ifCond .eq 40, 3) := by decide +kernel
theorem dX2_readOr_19 : decode cX2_readOr 19 = .ok (.aload_n 0, 1) := by decide +kernel
theorem dX2_readOr_20 : decode cX2_readOr 20 = .ok (.getfield 9, 3) := by decide +kernel
theorem dX2_readOr_23 : decode cX2_readOr 23 = .ok (.getfield 35, 3) := by decide +kernel
theorem dX2_readOr_26 : decode cX2_readOr 26 = .ok (.bipush (-7), 2) := by decide +kernel
theorem dX2_readOr_28 : decode cX2_readOr 28 = .ok (.if_icmp .ne 28, 3) := by decide +kernel
theorem dX2_readOr_31 : decode cX2_readOr 31 = .ok (.aload_n 0, 1) := by decide +kernel
theorem dX2_readOr_32 : decode cX2_readOr 32 = .ok (.getfield 9, 3) := by decide +kernel
theorem dX2_readOr_35 : decode cX2_readOr 35 = .ok (.invokevirtual 48, 3) := by decide +kernel
theorem dX2_readOr_38 : decode cX2_readOr 38 = .ok (.aload_n 0, 1) := by decide +kernel
theorem dX2_readOr_39 : decode cX2_readOr 39 = .ok (.iload_n 1, 1) := by decide +kernel
theorem dX2_readOr_40 : decode cX2_readOr 40 = .ok (.invokevirtual 51, 3) := by decide +kernel
theorem dX2_readOr_43 : decode cX2_readOr 43 = .ok (.istore_n 2, 1) := by decide +kernel
theorem dX2_readOr_44 : decode cX2_readOr 44 = .ok (.aload_n 0, 1) := by decide +kernel
theorem dX2_readOr_45 : decode cX2_readOr 45 = .ok (.bipush (-7), 2) := by decide +kernel
theorem dX2_readOr_47 : decode cX2_readOr 47 = .ok (.invokevirtual 54, 3) := by decide +kernel
theorem dX2_readOr_50 : decode cX2_readOr 50 = .ok (.iinc 3 1, 3) := by decide +kernel
theorem dX2_readOr_53 : decode cX2_readOr 53 = .ok (.goto (-45), 3) := by decide +kernel
theorem dX2_readOr_56 : decode cX2_readOr 56 = .ok (.iload_n 2, 1) := by decide +kernel
theorem dX2_readOr_57 : decode cX2_readOr 57 = .ok (.ireturn, 1) := by decide +kernel
theorem dX2_readAnd_0 : decode cX2_readAnd 0 = .ok (.aload_n 0, 1) := by decide +kernel
theorem dX2_readAnd_1 : decode cX2_readAnd 1 = .ok (.iload_n 1, 1) := by decide +kernel
theorem dX2_readAnd_2 : decode cX2_readAnd 2 = .ok (.invokevirtual 58, 3) := by decide +kernel
theorem dX2_readAnd_5 : decode cX2_readAnd 5 = .ok (.istore_n 2, 1) := by decide +kernel
theorem dX2_readAnd_6 : decode cX2_readAnd 6 = .ok (.iconst 0, 1) := by decide +kernel
theorem dX2_readAnd_7 : decode cX2_readAnd 7 = .ok (.istore_n 3, 1) := by decide +kernel
theorem dX2_readAnd_8 : decode cX2_readAnd 8 = .ok (.iload_n 3, 1) := by decide +kernel
theorem dX2_readAnd_9 : decode cX2_readAnd 9 = .ok (.sipush 160, 3) := by decide +kernel
theorem dX2_readAnd_12 : decode cX2_readAnd 12 = .ok (.if_icmp .ge 44, 3) := by decide +kernel
theorem dX2_readAnd_15 : decode cX2_readAnd 15 = .ok (.iload_n 2, 1) := by decide +kernel
theorem dX2_readAnd_16 : decode cX2_readAnd 16 = .ok (.ifCond .eq 40, 3) := by decide +kernel
theorem dX2_readAnd_19 : decode cX2_readAnd 19 = .ok (.aload_n 0, 1) := by decide +kernel
theorem dX2_readAnd_20 : decode cX2_readAnd 20 = .ok (.getfield 9, 3) := by decide +kernel
theorem dX2_readAnd_23 : decode cX2_readAnd 23 = .ok (.getfield 35, 3) := by decide +kernel
theorem dX2_readAnd_26 : decode cX2_readAnd 26 = .ok (.bipush (-8), 2) := by decide +kernel
theorem dX2_readAnd_28 : decode cX2_readAnd 28 = .ok (.if_icmp .ne 28, 3) := by decide +kernel
theorem dX2_readAnd_31 : decode cX2_readAnd 31 = .ok (.aload_n 0, 1) := by decide +kernel
theorem dX2_readAnd_32 : decode cX2_readAnd 32 = .ok (.getfield 9, 3) := by decide +kernel
theorem dX2_readAnd_35 : decode cX2_readAnd 35 = .ok (.invokevirtual 48, 3) := by decide +kernel
theorem dX2_readAnd_38 : decode cX2_readAnd 38 = .ok (.aload_n 0, 1) := by decide +kernel
theorem dX2_readAnd_39 : decode cX2_readAnd 39 = .ok (.iload_n 1, 1) := by decide +kernel
theorem dX2_readAnd_40 : decode cX2_readAnd 40 = .ok (.invokevirtual 58, 3) := by decide +kernel
theorem dX2_readAnd_43 : decode cX2_readAnd 43 = .ok (.istore_n 2, 1) := by decide +kernel
theorem dX2_readAnd_44 : decode cX2_readAnd 44 = .ok (.aload_n 0, 1) := by decide +kernel
theorem dX2_readAnd_45 : decode cX2_readAnd 45 = .ok (.bipush (-8), 2) := by decide +kernel
theorem dX2_readAnd_47 : decode cX2_readAnd 47 = .ok (.invokevirtual 54, 3) := by decide +kernel
theorem dX2_readAnd_50 : decode cX2_readAnd 50 = .ok (.iinc 3 1, 3) := by decide +kernel
theorem dX2_readAnd_53 : decode cX2_readAnd 53 = .ok (.goto (-45), 3) := by decide +kernel
theorem dX2_readAnd_56 : decode cX2_readAnd 56 = .ok (.iload_n 2, 1) := by decide +kernel
theorem dX2_readAnd_57 : decode cX2_readAnd 57 = .ok (.ireturn, 1) := by decide +kernel
theorem dX2_readNot_0 : decode cX2_readNot 0 = .ok (.aload_n 0, 1) := by decide +kernel
theorem dX2_readNot_1 : decode cX2_readNot 1 = .ok (.getfield 9, 3) := by decide +kernel
theorem dX2_readNot_4 : decode cX2_readNot 4 = .ok (.getfield 35, 3) := by decide +kernel
theorem dX2_readNot_7 : decode cX2_readNot 7 = .ok (.bipush (-9), 2) := by decide +kernel
theorem dX2_readNot_9 : decode cX2_readNot 9 = .ok (.if_icmp .ne 33, 3) := by decide +kernel
theorem dX2_readNot_12 : decode cX2_readNot 12 = .ok (.iload_n 1, 1) := by decide +kernel
theorem dX2_readNot_13 : decode cX2_readNot 13 = .ok (.iconst 5, 1) := by decide +kernel
theorem dX2_readNot_14 : decode cX2_readNot 14 = .ok (.if_icmp .lt 5, 3) := by decide +kernel
theorem dX2_readNot_17 : decode cX2_readNot 17 = .ok (.iconst 0, 1) := by decide +kernel
theorem dX2_readNot_18 : decode cX2_readNot 18 = .ok (.ireturn, 1) := by decide +kernel
theorem dX2_readNot_19 : decode cX2_readNot 19 = .ok (.aload_n 0, 1) := by decide +kernel
theorem dX2_readNot_20 : decode cX2_readNot 20 = .ok (.getfield 9, 3) := by decide +kernel
theorem dX2_readNot_23 : decode cX2_readNot 23 = .ok (.invokevirtual 48, 3) := by decide +kernel
theorem dX2_readNot_26 : decode cX2_readNot 26 = .ok (.aload_n 0, 1) := by decide +kernel
theorem dX2_readNot_27 : decode cX2_readNot 27 = .ok (.iload_n 1, 1) := by decide +kernel
theorem dX2_readNot_28 : decode cX2_readNot 28 = .ok (.iconst 1, 1) := by decide +kernel
theorem dX2_readNot_29 : decode cX2_readNot 29 = .ok (.iadd, 1) := by decide +kernel
theorem dX2_readNot_30 : decode cX2_readNot 30 = .ok (.invokevirtual 58, 3) := by decide +kernel
theorem dX2_readNot_33 : decode cX2_readNot 33 = .ok (.istore_n 2, 1) := by decide +kernel
theorem dX2_readNot_34 : decode cX2_readNot 34 = .ok (.aload_n 0, 1) := by decide +kernel
theorem dX2_readNot_35 : decode cX2_readNot 35 = .ok (.bipush (-9), 2) := by decide +kernel
theorem dX2_readNot_37 : decode cX2_readNot 37 = .ok (.invokevirtual 54, 3) := by decide +kernel
theorem dX2_readNot_40 : decode cX2_readNot 40 = .ok (.iload_n 2, 1) := by decide +kernel
theorem dX2_readNot_41 : decode cX2_readNot 41 = .ok (.ireturn, 1) := by decide +kernel
theorem dX2_readNot_42 : decode cX2_readNot 42 = .ok (.aload_n 0, 1) := by decide +kernel
theorem dX2_readNot_43 : decode cX2_readNot 43 = .ok (.iload_n 1, 1) := by decide +kernel
theorem dX2_readNot_44 : decode cX2_readNot 44 = .ok (.invokevirtual 61, 3) := by decide +kernel
theorem dX2_readNot_47 : decode cX2_readNot 47 = .ok (.istore_n 2, 1) := by decide +kernel
theorem dX2_readNot_48 : decode cX2_readNot 48 = .ok (.aload_n 0, 1) := by decide +kernel
theorem dX2_readNot_49 : decode cX2_readNot 49 = .ok (.getfield 9, 3) := by decide +kernel
theorem dX2_readNot_52 : decode cX2_readNot 52 = .ok (.getfield 35, 3) := by decide +kernel
theorem dX2_readNot_55 : decode cX2_readNot 55 = .ok (.istore_n 3, 1) := by decide +kernel
theorem dX2_readNot_56 : decode cX2_readNot 56 = .ok (.iload_n 2, 1) := by decide +kernel
theorem dX2_readNot_57 : decode cX2_readNot 57 = .ok (.ifCond .eq 45, 3) := by decide +kernel
theorem dX2_readNot_60 : decode cX2_readNot 60 = .ok (.iload_n 3, 1) := by decide +kernel
theorem dX2_readNot_61 : decode cX2_readNot 61 = .ok (.bipush 60, 2) := by decide +kernel
theorem dX2_readNot_63 : decode cX2_readNot 63 = .ok (.if_icmp .eq 9, 3) := by decide +kernel
theorem dX2_readNot_66 : decode cX2_readNot 66 = .ok (.iload_n 3, 1) := by decide +kernel
theorem dX2_readNot_67 : decode cX2_readNot 67 = .ok (.bipush 61, 2) := by decide +kernel
theorem dX2_readNot_69 : decode cX2_readNot 69 = .ok (.if_icmp .ne 33, 3) := by decide +kernel
theorem dX2_readNot_72 : decode cX2_readNot 72 = .ok (.aload_n 0, 1) := by decide +kernel
theorem dX2_readNot_73 : decode cX2_readNot 73 = .ok (.getfield 9, 3) := by decide +kernel
theorem dX2_readNot_76 : decode cX2_readNot 76 = .ok (.invokevirtual 48, 3) := by decide +kernel
theorem dX2_readNot_79 : decode cX2_readNot 79 = .ok (.aload_n 0, 1) := by decide +kernel
theorem dX2_readNot_80 : decode cX2_readNot 80 = .ok (.iload_n 1, 1) := by decide +kernel
theorem dX2_readNot_81 : decode cX2_readNot 81 = .ok (.invokevirtual 61, 3) := by decide +kernel
theorem dX2_readNot_84 : decode cX2_readNot 84 = .ok (.istore_n 2, 1) := by decide +kernel
theorem dX2_readNot_85 : decode cX2_readNot 85 = .ok (.aload_n 0, 1) := by decide +kernel
theorem dX2_readNot_86 : decode cX2_readNot 86 = .ok (.iload_n 3, 1) := by decide +kernel
theorem dX2_readNot_87 : decode cX2_readNot 87 = .ok (.bipush 60, 2) := by decide +kernel
theorem dX2_readNot_89 : decode cX2_readNot 89 = .ok (.if_icmp .ne 8, 3) := by decide +kernel
theorem dX2_readNot_92 : decode cX2_readNot 92 = .ok (.bipush (-13), 2) := by decide +kernel
theorem dX2_readNot_94 : decode cX2_readNot 94 = .ok (.goto 5, 3) := by decide +kernel
theorem dX2_readNot_97 : decode cX2_readNot 97 = .ok (.bipush (-14), 2) := by decide +kernel
theorem dX2_readNot_99 : decode cX2_readNot 99 = .ok (.invokevirtual 54, 3) := by decide +kernel
theorem dX2_readNot_102 : decode cX2_readNot 102 = .ok (.iload_n 2, 1) := by decide +kernel
theorem dX2_readNot_103 : decode cX2_readNot 103 = .ok (.ireturn, 1) := by decide +kernel
theorem dX2_readSum_0 : decode cX2_readSum 0 = .ok (.aload_n 0, 1) := by decide +kernel
theorem dX2_readSum_1 : decode cX2_readSum 1 = .ok (.iload_n 1, 1) := by decide +kernel
theorem dX2_readSum_2 : decode cX2_readSum 2 = .ok (.invokevirtual 64, 3) := by decide +kernel
theorem dX2_readSum_5 : decode cX2_readSum 5 = .ok (.istore_n 2, 1) := by decide +kernel
theorem dX2_readSum_6 : decode cX2_readSum 6 = .ok (.iconst 0, 1) := by decide +kernel
theorem dX2_readSum_7 : decode cX2_readSum 7 = .ok (.istore_n 3, 1) := by decide +kernel
theorem dX2_readSum_8 : decode cX2_readSum 8 = .ok (.iload_n 3, 1) := by decide +kernel
theorem dX2_readSum_9 : decode cX2_readSum 9 = .ok (.sipush 160, 3) := by decide +kernel
theorem dX2_readSum_12 : decode cX2_readSum 12 = .ok (.if_icmp .ge 77, 3) := by decide +kernel
theorem dX2_readSum_15 : decode cX2_readSum 15 = .ok (.iload_n 2, 1) := by decide +kernel
theorem dX2_readSum_16 : decode cX2_readSum 16 = .ok (.ifCond .eq 73, 3) := by decide +kernel
theorem dX2_readSum_19 : decode cX2_readSum 19 = .ok (.aload_n 0, 1) := by decide +kernel
theorem dX2_readSum_20 : decode cX2_readSum 20 = .ok (.getfield 9, 3) := by decide +kernel
theorem dX2_readSum_23 : decode cX2_readSum 23 = .ok (.getfield 35, 3) := by decide +kernel
theorem dX2_readSum_26 : decode cX2_readSum 26 = .ok (.bipush 43, 2) := by decide +kernel
theorem dX2_readSum_28 : decode cX2_readSum 28 = .ok (.if_icmp .eq 15, 3) := by decide +kernel
theorem dX2_readSum_31 : decode cX2_readSum 31 = .ok (.aload_n 0, 1) := by decide +kernel
theorem dX2_readSum_32 : decode cX2_readSum 32 = .ok (.getfield 9, 3) := by decide +kernel
theorem dX2_readSum_35 : decode cX2_readSum 35 = .ok (.getfield 35, 3) := by decide +kernel
theorem dX2_readSum_38 : decode cX2_readSum 38 = .ok (.bipush 45, 2) := by decide +kernel
theorem dX2_readSum_40 : decode cX2_readSum 40 = .ok (.if_icmp .ne 49, 3) := by decide +kernel
theorem dX2_readSum_43 : decode cX2_readSum 43 = .ok (.aload_n 0, 1) := by decide +kernel
theorem dX2_readSum_44 : decode cX2_readSum 44 = .ok (.getfield 9, 3) := by decide +kernel
theorem dX2_readSum_47 : decode cX2_readSum 47 = .ok (.getfield 35, 3) := by decide +kernel
theorem dX2_readSum_50 : decode cX2_readSum 50 = .ok (.bipush 43, 2) := by decide +kernel
theorem dX2_readSum_52 : decode cX2_readSum 52 = .ok (.if_icmp .ne 8, 3) := by decide +kernel
theorem dX2_readSum_55 : decode cX2_readSum 55 = .ok (.bipush (-15), 2) := by decide +kernel
theorem dX2_readSum_57 : decode cX2_readSum 57 = .ok (.goto 5, 3) := by decide +kernel
theorem dX2_readSum_60 : decode cX2_readSum 60 = .ok (.bipush (-16), 2) := by decide +kernel
theorem dX2_readSum_62 : decode cX2_readSum 62 = .ok (.istore 4, 2) := by decide +kernel
theorem dX2_readSum_64 : decode cX2_readSum 64 = .ok (.aload_n 0, 1) := by decide +kernel
theorem dX2_readSum_65 : decode cX2_readSum 65 = .ok (.getfield 9, 3) := by decide +kernel
theorem dX2_readSum_68 : decode cX2_readSum 68 = .ok (.invokevirtual 48, 3) := by decide +kernel
theorem dX2_readSum_71 : decode cX2_readSum 71 = .ok (.aload_n 0, 1) := by decide +kernel
theorem dX2_readSum_72 : decode cX2_readSum 72 = .ok (.iload_n 1, 1) := by decide +kernel
theorem dX2_readSum_73 : decode cX2_readSum 73 = .ok (.invokevirtual 64, 3) := by decide +kernel
theorem dX2_readSum_76 : decode cX2_readSum 76 = .ok (.istore_n 2, 1) := by decide +kernel
theorem dX2_readSum_77 : decode cX2_readSum 77 = .ok (.aload_n 0, 1) := by decide +kernel
theorem dX2_readSum_78 : decode cX2_readSum 78 = .ok (.iload 4, 2) := by decide +kernel
theorem dX2_readSum_80 : decode cX2_readSum 80 = .ok (.invokevirtual 54, 3) := by decide +kernel
theorem dX2_readSum_83 : decode cX2_readSum 83 = .ok (.iinc 3 1, 3) := by decide +kernel
theorem dX2_readSum_86 : decode cX2_readSum 86 = .ok (.goto (-78), 3) := by decide +kernel
theorem dX2_readSum_89 : decode cX2_readSum 89 = .ok (.iload_n 2, 1) := by decide +kernel
theorem dX2_readSum_90 : decode cX2_readSum 90 = .ok (.ireturn, 1) := by decide +kernel
theorem dX2_readTerm_0 : decode cX2_readTerm 0 = .ok (.aload_n 0, 1) := by decide +kernel
theorem dX2_readTerm_1 : decode cX2_readTerm 1 = .ok (.iload_n 1, 1) := by decide +kernel
theorem dX2_readTerm_2 : decode cX2_readTerm 2 = .ok (.invokevirtual 67, 3) := by decide +kernel
theorem dX2_readTerm_5 : decode cX2_readTerm 5 = .ok (.istore_n 2, 1) := by decide +kernel
theorem dX2_readTerm_6 : decode cX2_readTerm 6 = .ok (.iconst 0, 1) := by decide +kernel
theorem dX2_readTerm_7 : decode cX2_readTerm 7 = .ok (.istore_n 3, 1) := by decide +kernel
theorem dX2_readTerm_8 : decode cX2_readTerm 8 = .ok (.iload_n 3, 1) := by decide +kernel
theorem dX2_readTerm_9 : decode cX2_readTerm 9 = .ok (.sipush 160, 3) := by decide +kernel
theorem dX2_readTerm_12 : decode cX2_readTerm 12 = .ok (.if_icmp .ge 44, 3) := by decide +kernel
theorem dX2_readTerm_15 : decode cX2_readTerm 15 = .ok (.iload_n 2, 1) := by decide +kernel
theorem dX2_readTerm_16 : decode cX2_readTerm 16 = .ok (.ifCond .eq 40, 3) := by decide +kernel
theorem dX2_readTerm_19 : decode cX2_readTerm 19 = .ok (.aload_n 0, 1) := by decide +kernel
theorem dX2_readTerm_20 : decode cX2_readTerm 20 = .ok (.getfield 9, 3) := by decide +kernel
theorem dX2_readTerm_23 : decode cX2_readTerm 23 = .ok (.getfield 35, 3) := by decide +kernel
theorem dX2_readTerm_26 : decode cX2_readTerm 26 = .ok (.bipush 42, 2) := by decide +kernel
theorem dX2_readTerm_28 : decode cX2_readTerm 28 = .ok (.if_icmp .ne 28, 3) := by decide +kernel
theorem dX2_readTerm_31 : decode cX2_readTerm 31 = .ok (.aload_n 0, 1) := by decide +kernel
theorem dX2_readTerm_32 : decode cX2_readTerm 32 = .ok (.getfield 9, 3) := by decide +kernel
theorem dX2_readTerm_35 : decode cX2_readTerm 35 = .ok (.invokevirtual 48, 3) := by decide +kernel
theorem dX2_readTerm_38 : decode cX2_readTerm 38 = .ok (.aload_n 0, 1) := by decide +kernel
theorem dX2_readTerm_39 : decode cX2_readTerm 39 = .ok (.iload_n 1, 1) := by decide +kernel
theorem dX2_readTerm_40 : decode cX2_readTerm 40 = .ok (.invokevirtual 67, 3) := by decide +kernel
theorem dX2_readTerm_43 : decode cX2_readTerm 43 = .ok (.istore_n 2, 1) := by decide +kernel
theorem dX2_readTerm_44 : decode cX2_readTerm 44 = .ok (.aload_n 0, 1) := by decide +kernel
theorem dX2_readTerm_45 : decode cX2_readTerm 45 = .ok (.bipush (-17), 2) := by decide +kernel
theorem dX2_readTerm_47 : decode cX2_readTerm 47 = .ok (.invokevirtual 54, 3) := by decide +kernel
theorem dX2_readTerm_50 : decode cX2_readTerm 50 = .ok (.iinc 3 1, 3) := by decide +kernel
theorem dX2_readTerm_53 : decode cX2_readTerm 53 = .ok (.goto (-45), 3) := by decide +kernel
theorem dX2_readTerm_56 : decode cX2_readTerm 56 = .ok (.iload_n 2, 1) := by decide +kernel
theorem dX2_readTerm_57 : decode cX2_readTerm 57 = .ok (.ireturn, 1) := by decide +kernel
theorem dX2_readOne_0 : decode cX2_readOne 0 = .ok (.aload_n 0, 1) := by decide +kernel
theorem dX2_readOne_1 : decode cX2_readOne 1 = .ok (.getfield 9, 3) := by decide +kernel
theorem dX2_readOne_4 : decode cX2_readOne 4 = .ok (.getfield 35, 3) := by decide +kernel
theorem dX2_readOne_7 : decode cX2_readOne 7 = .ok (.istore_n 2, 1) := by decide +kernel
theorem dX2_readOne_8 : decode cX2_readOne 8 = .ok (.iload_n 2, 1) := by decide +kernel
theorem dX2_readOne_9 : decode cX2_readOne 9 = .ok (.iconst 2, 1) := by decide +kernel
theorem dX2_readOne_10 : decode cX2_readOne 10 = .ok (.if_icmp .eq 14, 3) := by decide +kernel
theorem dX2_readOne_13 : decode cX2_readOne 13 = .ok (.iload_n 2, 1) := by decide +kernel
theorem dX2_readOne_14 : decode cX2_readOne 14 = .ok (.iconst (-1), 1) := by decide +kernel
theorem dX2_readOne_15 : decode cX2_readOne 15 = .ok (.if_icmp .gt 38, 3) := by decide +kernel
theorem dX2_readOne_18 : decode cX2_readOne 18 = .ok (.iload_n 2, 1) := by decide +kernel
theorem dX2_readOne_19 : decode cX2_readOne 19 = .ok (.bipush (-6), 2) := by decide +kernel
theorem dX2_readOne_21 : decode cX2_readOne 21 = .ok (.if_icmp .lt 32, 3) := by decide +kernel
theorem dX2_readOne_24 : decode cX2_readOne 24 = .ok (.aload_n 0, 1) := by decide +kernel
theorem dX2_readOne_25 : decode cX2_readOne 25 = .ok (.iload_n 2, 1) := by decide +kernel
theorem dX2_readOne_26 : decode cX2_readOne 26 = .ok (.iconst 2, 1) := by decide +kernel
theorem dX2_readOne_27 : decode cX2_readOne 27 = .ok (.if_icmp .ne 13, 3) := by decide +kernel
theorem dX2_readOne_30 : decode cX2_readOne 30 = .ok (.aload_n 0, 1) := by decide +kernel
theorem dX2_readOne_31 : decode cX2_readOne 31 = .ok (.getfield 9, 3) := by decide +kernel
theorem dX2_readOne_34 : decode cX2_readOne 34 = .ok (.getfield 70, 3) := by decide +kernel
theorem dX2_readOne_37 : decode cX2_readOne 37 = .ok (.goto 4, 3) := by decide +kernel
theorem dX2_readOne_40 : decode cX2_readOne 40 = .ok (.iload_n 2, 1) := by decide +kernel
theorem dX2_readOne_41 : decode cX2_readOne 41 = .ok (.invokevirtual 54, 3) := by decide +kernel
theorem dX2_readOne_44 : decode cX2_readOne 44 = .ok (.aload_n 0, 1) := by decide +kernel
theorem dX2_readOne_45 : decode cX2_readOne 45 = .ok (.getfield 9, 3) := by decide +kernel
theorem dX2_readOne_48 : decode cX2_readOne 48 = .ok (.invokevirtual 48, 3) := by decide +kernel
theorem dX2_readOne_51 : decode cX2_readOne 51 = .ok (.iconst 1, 1) := by decide +kernel
theorem dX2_readOne_52 : decode cX2_readOne 52 = .ok (.ireturn, 1) := by decide +kernel
theorem dX2_readOne_53 : decode cX2_readOne 53 = .ok (.iload_n 2, 1) := by decide +kernel
theorem dX2_readOne_54 : decode cX2_readOne 54 = .ok (.bipush 40, 2) := by decide +kernel
theorem dX2_readOne_56 : decode cX2_readOne 56 = .ok (.if_icmp .eq 9, 3) := by decide +kernel
theorem dX2_readOne_59 : decode cX2_readOne 59 = .ok (.iload_n 2, 1) := by decide +kernel
theorem dX2_readOne_60 : decode cX2_readOne 60 = .ok (.bipush 45, 2) := by decide +kernel
theorem dX2_readOne_62 : decode cX2_readOne 62 = .ok (.if_icmp .ne 8, 3) := by decide +kernel
theorem dX2_readOne_65 : decode cX2_readOne 65 = .ok (.iload_n 1, 1) := by decide +kernel
theorem dX2_readOne_66 : decode cX2_readOne 66 = .ok (.iconst 5, 1) := by decide +kernel
theorem dX2_readOne_67 : decode cX2_readOne 67 = .ok (.if_icmp .lt 5, 3) := by decide +kernel
theorem dX2_readOne_70 : decode cX2_readOne 70 = .ok (.iconst 0, 1) := by decide +kernel
theorem dX2_readOne_71 : decode cX2_readOne 71 = .ok (.ireturn, 1) := by decide +kernel
theorem dX2_readOne_72 : decode cX2_readOne 72 = .ok (.aload_n 0, 1) := by decide +kernel
theorem dX2_readOne_73 : decode cX2_readOne 73 = .ok (.getfield 9, 3) := by decide +kernel
theorem dX2_readOne_76 : decode cX2_readOne 76 = .ok (.invokevirtual 48, 3) := by decide +kernel
theorem dX2_readOne_79 : decode cX2_readOne 79 = .ok (.iload_n 2, 1) := by decide +kernel
theorem dX2_readOne_80 : decode cX2_readOne 80 = .ok (.bipush 40, 2) := by decide +kernel
theorem dX2_readOne_82 : decode cX2_readOne 82 = .ok (.if_icmp .ne 28, 3) := by decide +kernel
theorem dX2_readOne_85 : decode cX2_readOne 85 = .ok (.aload_n 0, 1) := by decide +kernel
theorem dX2_readOne_86 : decode cX2_readOne 86 = .ok (.iload_n 1, 1) := by decide +kernel
theorem dX2_readOne_87 : decode cX2_readOne 87 = .ok (.iconst 1, 1) := by decide +kernel
theorem dX2_readOne_88 : decode cX2_readOne 88 = .ok (.iadd, 1) := by decide +kernel
theorem dX2_readOne_89 : decode cX2_readOne 89 = .ok (.invokevirtual 45, 3) := by decide +kernel
theorem dX2_readOne_92 : decode cX2_readOne 92 = .ok (.ifCond .eq 16, 3) := by decide +kernel
theorem dX2_readOne_95 : decode cX2_readOne 95 = .ok (.aload_n 0, 1) := by decide +kernel
theorem dX2_readOne_96 : decode cX2_readOne 96 = .ok (.bipush 41, 2) := by decide +kernel
theorem dX2_readOne_98 : decode cX2_readOne 98 = .ok (.invokevirtual 41, 3) := by decide +kernel
theorem dX2_readOne_101 : decode cX2_readOne 101 = .ok (.ifCond .eq 7, 3) := by decide +kernel
theorem dX2_readOne_104 : decode cX2_readOne 104 = .ok (.iconst 1, 1) := by decide +kernel
theorem dX2_readOne_105 : decode cX2_readOne 105 = .ok (.goto 4, 3) := by decide +kernel
theorem dX2_readOne_108 : decode cX2_readOne 108 = .ok (.iconst 0, 1) := by decide +kernel
theorem dX2_readOne_109 : decode cX2_readOne 109 = .ok (.ireturn, 1) := by decide +kernel
theorem dX2_readOne_110 : decode cX2_readOne 110 = .ok (.aload_n 0, 1) := by decide +kernel
theorem dX2_readOne_111 : decode cX2_readOne 111 = .ok (.iload_n 1, 1) := by decide +kernel
theorem dX2_readOne_112 : decode cX2_readOne 112 = .ok (.iconst 1, 1) := by decide +kernel
theorem dX2_readOne_113 : decode cX2_readOne 113 = .ok (.iadd, 1) := by decide +kernel
theorem dX2_readOne_114 : decode cX2_readOne 114 = .ok (.invokevirtual 67, 3) := by decide +kernel
theorem dX2_readOne_117 : decode cX2_readOne 117 = .ok (.istore_n 3, 1) := by decide +kernel
theorem dX2_readOne_118 : decode cX2_readOne 118 = .ok (.aload_n 0, 1) := by decide +kernel
theorem dX2_readOne_119 : decode cX2_readOne 119 = .ok (.bipush (-18), 2) := by decide +kernel
theorem dX2_readOne_121 : decode cX2_readOne 121 = .ok (.invokevirtual 54, 3) := by decide +kernel
theorem dX2_readOne_124 : decode cX2_readOne 124 = .ok (.iload_n 3, 1) := by decide +kernel
theorem dX2_readOne_125 : decode cX2_readOne 125 = .ok (.ireturn, 1) := by decide +kernel
theorem dX2_write_0 : decode cX2_write 0 = .ok (.aload_n 0, 1) := by decide +kernel
theorem dX2_write_1 : decode cX2_write 1 = .ok (.getfield 22, 3) := by decide +kernel
theorem dX2_write_4 : decode cX2_write 4 = .ok (.ifCond .lt 35, 3) := by decide +kernel
theorem dX2_write_7 : decode cX2_write 7 = .ok (.aload_n 0, 1) := by decide +kernel
theorem dX2_write_8 : decode cX2_write 8 = .ok (.getfield 22, 3) := by decide +kernel
theorem dX2_write_11 : decode cX2_write 11 = .ok (.aload_n 0, 1) := by decide +kernel
theorem dX2_write_12 : decode cX2_write 12 = .ok (.getfield 15, 3) := by decide +kernel
theorem dX2_write_15 : decode cX2_write 15 = .ok (.arraylength, 1) := by decide +kernel
theorem dX2_write_16 : decode cX2_write 16 = .ok (.if_icmp .ge 23, 3) := by decide +kernel
theorem dX2_write_19 : decode cX2_write 19 = .ok (.aload_n 0, 1) := by decide +kernel
theorem dX2_write_20 : decode cX2_write 20 = .ok (.getfield 15, 3) := by decide +kernel
theorem dX2_write_23 : decode cX2_write 23 = .ok (.aload_n 0, 1) := by decide +kernel
theorem dX2_write_24 : decode cX2_write 24 = .ok (.getfield 22, 3) := by decide +kernel
theorem dX2_write_27 : decode cX2_write 27 = .ok (.iload_n 1, 1) := by decide +kernel
theorem dX2_write_28 : decode cX2_write 28 = .ok (.iastore, 1) := by decide +kernel
theorem dX2_write_29 : decode cX2_write 29 = .ok (.aload_n 0, 1) := by decide +kernel
theorem dX2_write_30 : decode cX2_write 30 = .ok (.dup, 1) := by decide +kernel
theorem dX2_write_31 : decode cX2_write 31 = .ok (.getfield 22, 3) := by decide +kernel
theorem dX2_write_34 : decode cX2_write 34 = .ok (.iconst 1, 1) := by decide +kernel
theorem dX2_write_35 : decode cX2_write 35 = .ok (.iadd, 1) := by decide +kernel
theorem dX2_write_36 : decode cX2_write 36 = .ok (.putfield 22, 3) := by decide +kernel
theorem dX2_write_39 : decode cX2_write 39 = .ok (.return_, 1) := by decide +kernel
theorem dX3_init_0 : decode cX3_init 0 = .ok (.aload_n 0, 1) := by decide +kernel
theorem dX3_init_1 : decode cX3_init 1 = .ok (.invokespecial 3, 3) := by decide +kernel
theorem dX3_init_4 : decode cX3_init 4 = .ok (.aload_n 0, 1) := by decide +kernel
theorem dX3_init_5 : decode cX3_init 5 = .ok (.bipush 40, 2) := by decide +kernel
theorem dX3_init_7 : decode cX3_init 7 = .ok (.newarray .int, 2) := by decide +kernel
theorem dX3_init_9 : decode cX3_init 9 = .ok (.putfield 9, 3) := by decide +kernel
theorem dX3_init_12 : decode cX3_init 12 = .ok (.aload_n 0, 1) := by decide +kernel
theorem dX3_init_13 : decode cX3_init 13 = .ok (.iconst (-1), 1) := by decide +kernel
theorem dX3_init_14 : decode cX3_init 14 = .ok (.putfield 15, 3) := by decide +kernel
theorem dX3_init_17 : decode cX3_init 17 = .ok (.return_, 1) := by decide +kernel
theorem dX3_become_0 : decode cX3_become 0 = .ok (.aload_n 0, 1) := by decide +kernel
theorem dX3_become_1 : decode cX3_become 1 = .ok (.iload_n 1, 1) := by decide +kernel
theorem dX3_become_2 : decode cX3_become 2 = .ok (.putfield 15, 3) := by decide +kernel
theorem dX3_become_5 : decode cX3_become 5 = .ok (.aload_n 0, 1) := by decide +kernel
theorem dX3_become_6 : decode cX3_become 6 = .ok (.iload_n 2, 1) := by decide +kernel
theorem dX3_become_7 : decode cX3_become 7 = .ok (.putfield 19, 3) := by decide +kernel
theorem dX3_become_10 : decode cX3_become 10 = .ok (.aload_n 0, 1) := by decide +kernel
theorem dX3_become_11 : decode cX3_become 11 = .ok (.getfield 9, 3) := by decide +kernel
theorem dX3_become_14 : decode cX3_become 14 = .ok (.iconst 0, 1) := by decide +kernel
theorem dX3_become_15 : decode cX3_become 15 = .ok (.invokestatic 22, 3) := by decide +kernel
theorem dX3_become_18 : decode cX3_become 18 = .ok (.return_, 1) := by decide +kernel
theorem dX3_set_0 : decode cX3_set 0 = .ok (.iload_n 1, 1) := by decide +kernel
theorem dX3_set_1 : decode cX3_set 1 = .ok (.ifCond .lt 43, 3) := by decide +kernel
theorem dX3_set_4 : decode cX3_set 4 = .ok (.iload_n 1, 1) := by decide +kernel
theorem dX3_set_5 : decode cX3_set 5 = .ok (.aload_n 0, 1) := by decide +kernel
theorem dX3_set_6 : decode cX3_set 6 = .ok (.getfield 19, 3) := by decide +kernel
theorem dX3_set_9 : decode cX3_set 9 = .ok (.if_icmp .ge 35, 3) := by decide +kernel
theorem dX3_set_12 : decode cX3_set 12 = .ok (.aload_n 0, 1) := by decide +kernel
theorem dX3_set_13 : decode cX3_set 13 = .ok (.getfield 9, 3) := by decide +kernel
theorem dX3_set_16 : decode cX3_set 16 = .ok (.iload_n 1, 1) := by decide +kernel
theorem dX3_set_17 : decode cX3_set 17 = .ok (.aload_n 0, 1) := by decide +kernel
theorem dX3_set_18 : decode cX3_set 18 = .ok (.getfield 15, 3) := by decide +kernel
theorem dX3_set_21 : decode cX3_set 21 = .ok (.ifCond .ne 8, 3) := by decide +kernel
theorem dX3_set_24 : decode cX3_set 24 = .ok (.iload_n 2, 1) := by decide +kernel
theorem dX3_set_25 : decode cX3_set 25 = .ok (.i2b, 1) := by decide +kernel
theorem dX3_set_26 : decode cX3_set 26 = .ok (.goto 17, 3) := by decide +kernel
theorem dX3_set_29 : decode cX3_set 29 = .ok (.aload_n 0, 1) := by decide +kernel
theorem dX3_set_30 : decode cX3_set 30 = .ok (.getfield 15, 3) := by decide +kernel
theorem dX3_set_33 : decode cX3_set 33 = .ok (.iconst 1, 1) := by decide +kernel
theorem dX3_set_34 : decode cX3_set 34 = .ok (.if_icmp .ne 8, 3) := by decide +kernel
theorem dX3_set_37 : decode cX3_set 37 = .ok (.iload_n 2, 1) := by decide +kernel
theorem dX3_set_38 : decode cX3_set 38 = .ok (.i2s, 1) := by decide +kernel
theorem dX3_set_39 : decode cX3_set 39 = .ok (.goto 4, 3) := by decide +kernel
theorem dX3_set_42 : decode cX3_set 42 = .ok (.iload_n 2, 1) := by decide +kernel
theorem dX3_set_43 : decode cX3_set 43 = .ok (.iastore, 1) := by decide +kernel
theorem dX3_set_44 : decode cX3_set 44 = .ok (.return_, 1) := by decide +kernel
theorem dX4_init_0 : decode cX4_init 0 = .ok (.aload_n 0, 1) := by decide +kernel
theorem dX4_init_1 : decode cX4_init 1 = .ok (.invokespecial 3, 3) := by decide +kernel
theorem dX4_init_4 : decode cX4_init 4 = .ok (.aload_n 0, 1) := by decide +kernel
theorem dX4_init_5 : decode cX4_init 5 = .ok (.aload_n 1, 1) := by decide +kernel
theorem dX4_init_6 : decode cX4_init 6 = .ok (.putfield 9, 3) := by decide +kernel
theorem dX4_init_9 : decode cX4_init 9 = .ok (.aload_n 0, 1) := by decide +kernel
theorem dX4_init_10 : decode cX4_init 10 = .ok (.bipush 6, 2) := by decide +kernel
theorem dX4_init_12 : decode cX4_init 12 = .ok (.anewarray 15, 3) := by decide +kernel
theorem dX4_init_15 : decode cX4_init 15 = .ok (.putfield 17, 3) := by decide +kernel
theorem dX4_init_18 : decode cX4_init 18 = .ok (.iconst 0, 1) := by decide +kernel
theorem dX4_init_19 : decode cX4_init 19 = .ok (.istore_n 2, 1) := by decide +kernel
theorem dX4_init_20 : decode cX4_init 20 = .ok (.iload_n 2, 1) := by decide +kernel
theorem dX4_init_21 : decode cX4_init 21 = .ok (.bipush 6, 2) := by decide +kernel
theorem dX4_init_23 : decode cX4_init 23 = .ok (.if_icmp .ge 22, 3) := by decide +kernel
theorem dX4_init_26 : decode cX4_init 26 = .ok (.aload_n 0, 1) := by decide +kernel
theorem dX4_init_27 : decode cX4_init 27 = .ok (.getfield 17, 3) := by decide +kernel
theorem dX4_init_30 : decode cX4_init 30 = .ok (.iload_n 2, 1) := by decide +kernel
theorem dX4_init_31 : decode cX4_init 31 = .ok (.new 15, 3) := by decide +kernel
theorem dX4_init_34 : decode cX4_init 34 = .ok (.dup, 1) := by decide +kernel
theorem dX4_init_35 : decode cX4_init 35 = .ok (.invokespecial 21, 3) := by decide +kernel
theorem dX4_init_38 : decode cX4_init 38 = .ok (.aastore, 1) := by decide +kernel
theorem dX4_init_39 : decode cX4_init 39 = .ok (.iinc 2 1, 3) := by decide +kernel
theorem dX4_init_42 : decode cX4_init 42 = .ok (.goto (-22), 3) := by decide +kernel
theorem dX4_init_45 : decode cX4_init 45 = .ok (.return_, 1) := by decide +kernel
theorem dX4_become_0 : decode cX4_become 0 = .ok (.aload_n 0, 1) := by decide +kernel
theorem dX4_become_1 : decode cX4_become 1 = .ok (.aload_n 1, 1) := by decide +kernel
theorem dX4_become_2 : decode cX4_become 2 = .ok (.getfield 22, 3) := by decide +kernel
theorem dX4_become_5 : decode cX4_become 5 = .ok (.putfield 22, 3) := by decide +kernel
theorem dX4_become_8 : decode cX4_become 8 = .ok (.aload_n 0, 1) := by decide +kernel
theorem dX4_become_9 : decode cX4_become 9 = .ok (.aload_n 1, 1) := by decide +kernel
theorem dX4_become_10 : decode cX4_become 10 = .ok (.getfield 26, 3) := by decide +kernel
theorem dX4_become_13 : decode cX4_become 13 = .ok (.putfield 26, 3) := by decide +kernel
theorem dX4_become_16 : decode cX4_become 16 = .ok (.aload_n 0, 1) := by decide +kernel
theorem dX4_become_17 : decode cX4_become 17 = .ok (.aload_n 1, 1) := by decide +kernel
theorem dX4_become_18 : decode cX4_become 18 = .ok (.getfield 9, 3) := by decide +kernel
theorem dX4_become_21 : decode cX4_become 21 = .ok (.putfield 9, 3) := by decide +kernel
theorem dX4_become_24 : decode cX4_become 24 = .ok (.iconst 0, 1) := by decide +kernel
theorem dX4_become_25 : decode cX4_become 25 = .ok (.istore_n 2, 1) := by decide +kernel
theorem dX4_become_26 : decode cX4_become 26 = .ok (.iload_n 2, 1) := by decide +kernel
theorem dX4_become_27 : decode cX4_become 27 = .ok (.aload_n 0, 1) := by decide +kernel
theorem dX4_become_28 : decode cX4_become 28 = .ok (.getfield 22, 3) := by decide +kernel
theorem dX4_become_31 : decode cX4_become 31 = .ok (.if_icmp .ge 24, 3) := by decide +kernel
theorem dX4_become_34 : decode cX4_become 34 = .ok (.aload_n 0, 1) := by decide +kernel
theorem dX4_become_35 : decode cX4_become 35 = .ok (.getfield 17, 3) := by decide +kernel
theorem dX4_become_38 : decode cX4_become 38 = .ok (.iload_n 2, 1) := by decide +kernel
theorem dX4_become_39 : decode cX4_become 39 = .ok (.aaload, 1) := by decide +kernel
theorem dX4_become_40 : decode cX4_become 40 = .ok (.aload_n 1, 1) := by decide +kernel
theorem dX4_become_41 : decode cX4_become 41 = .ok (.getfield 17, 3) := by decide +kernel
theorem dX4_become_44 : decode cX4_become 44 = .ok (.iload_n 2, 1) := by decide +kernel
theorem dX4_become_45 : decode cX4_become 45 = .ok (.aaload, 1) := by decide +kernel
theorem dX4_become_46 : decode cX4_become 46 = .ok (.invokevirtual 29, 3) := by decide +kernel
theorem dX4_become_49 : decode cX4_become 49 = .ok (.iinc 2 1, 3) := by decide +kernel
theorem dX4_become_52 : decode cX4_become 52 = .ok (.goto (-26), 3) := by decide +kernel
theorem dX4_become_55 : decode cX4_become 55 = .ok (.return_, 1) := by decide +kernel
theorem dX4_seatsOne_0 : decode cX4_seatsOne 0 = .ok (.iload_n 1, 1) := by decide +kernel
theorem dX4_seatsOne_1 : decode cX4_seatsOne 1 = .ok (.ifCond .lt 15, 3) := by decide +kernel
theorem dX4_seatsOne_4 : decode cX4_seatsOne 4 = .ok (.iload_n 1, 1) := by decide +kernel
theorem dX4_seatsOne_5 : decode cX4_seatsOne 5 = .ok (.aload_n 0, 1) := by decide +kernel
theorem dX4_seatsOne_6 : decode cX4_seatsOne 6 = .ok (.getfield 22, 3) := by decide +kernel
theorem dX4_seatsOne_9 : decode cX4_seatsOne 9 = .ok (.if_icmp .ge 7, 3) := by decide +kernel
theorem dX4_seatsOne_12 : decode cX4_seatsOne 12 = .ok (.iconst 1, 1) := by decide +kernel
theorem dX4_seatsOne_13 : decode cX4_seatsOne 13 = .ok (.goto 4, 3) := by decide +kernel
theorem dX4_seatsOne_16 : decode cX4_seatsOne 16 = .ok (.iconst 0, 1) := by decide +kernel
theorem dX4_seatsOne_17 : decode cX4_seatsOne 17 = .ok (.ireturn, 1) := by decide +kernel
theorem dX4_minded_0 : decode cX4_minded 0 = .ok (.aload_n 0, 1) := by decide +kernel
theorem dX4_minded_1 : decode cX4_minded 1 = .ok (.getfield 9, 3) := by decide +kernel
theorem dX4_minded_4 : decode cX4_minded 4 = .ok (.iconst 0, 1) := by decide +kernel
theorem dX4_minded_5 : decode cX4_minded 5 = .ok (.aload_n 1, 1) := by decide +kernel
theorem dX4_minded_6 : decode cX4_minded 6 = .ok (.aload_n 0, 1) := by decide +kernel
theorem dX4_minded_7 : decode cX4_minded 7 = .ok (.getfield 26, 3) := by decide +kernel
theorem dX4_minded_10 : decode cX4_minded 10 = .ok (.invokevirtual 33, 3) := by decide +kernel
theorem dX4_minded_13 : decode cX4_minded 13 = .ok (.aload_n 1, 1) := by decide +kernel
theorem dX4_minded_14 : decode cX4_minded 14 = .ok (.getfield 39, 3) := by decide +kernel
theorem dX4_minded_17 : decode cX4_minded 17 = .ok (.if_icmp .ge 7, 3) := by decide +kernel
theorem dX4_minded_20 : decode cX4_minded 20 = .ok (.iconst 1, 1) := by decide +kernel
theorem dX4_minded_21 : decode cX4_minded 21 = .ok (.goto 4, 3) := by decide +kernel
theorem dX4_minded_24 : decode cX4_minded 24 = .ok (.iconst 0, 1) := by decide +kernel
theorem dX4_minded_25 : decode cX4_minded 25 = .ok (.istore_n 2, 1) := by decide +kernel
theorem dX4_minded_26 : decode cX4_minded 26 = .ok (.aload_n 1, 1) := by decide +kernel
theorem dX4_minded_27 : decode cX4_minded 27 = .ok (.getfield 42, 3) := by decide +kernel
theorem dX4_minded_30 : decode cX4_minded 30 = .ok (.tableswitch 96 1 5 #[34, 40, 46, 71, 92], 34) := by decide +kernel
theorem dX4_minded_64 : decode cX4_minded 64 = .ok (.aload_n 1, 1) := by decide +kernel
theorem dX4_minded_65 : decode cX4_minded 65 = .ok (.iload_n 2, 1) := by decide +kernel
theorem dX4_minded_66 : decode cX4_minded 66 = .ok (.invokestatic 45, 3) := by decide +kernel
theorem dX4_minded_69 : decode cX4_minded 69 = .ok (.ireturn, 1) := by decide +kernel
theorem dX4_minded_70 : decode cX4_minded 70 = .ok (.aload_n 1, 1) := by decide +kernel
theorem dX4_minded_71 : decode cX4_minded 71 = .ok (.iload_n 2, 1) := by decide +kernel
theorem dX4_minded_72 : decode cX4_minded 72 = .ok (.invokestatic 49, 3) := by decide +kernel
theorem dX4_minded_75 : decode cX4_minded 75 = .ok (.ireturn, 1) := by decide +kernel
theorem dX4_minded_76 : decode cX4_minded 76 = .ok (.aload_n 1, 1) := by decide +kernel
theorem dX4_minded_77 : decode cX4_minded 77 = .ok (.iload_n 2, 1) := by decide +kernel
theorem dX4_minded_78 : decode cX4_minded 78 = .ok (.invokestatic 45, 3) := by decide +kernel
theorem dX4_minded_81 : decode cX4_minded 81 = .ok (.aload_n 0, 1) := by decide +kernel
theorem dX4_minded_82 : decode cX4_minded 82 = .ok (.getfield 26, 3) := by decide +kernel
theorem dX4_minded_85 : decode cX4_minded 85 = .ok (.iconst 2, 1) := by decide +kernel
theorem dX4_minded_86 : decode cX4_minded 86 = .ok (.irem, 1) := by decide +kernel
theorem dX4_minded_87 : decode cX4_minded 87 = .ok (.ifCond .ne 9, 3) := by decide +kernel
theorem dX4_minded_90 : decode cX4_minded 90 = .ok (.sipush 341, 3) := by decide +kernel
theorem dX4_minded_93 : decode cX4_minded 93 = .ok (.goto 6, 3) := by decide +kernel
theorem dX4_minded_96 : decode cX4_minded 96 = .ok (.sipush 682, 3) := by decide +kernel
theorem dX4_minded_99 : decode cX4_minded 99 = .ok (.iand, 1) := by decide +kernel
theorem dX4_minded_100 : decode cX4_minded 100 = .ok (.ireturn, 1) := by decide +kernel
theorem dX4_minded_101 : decode cX4_minded 101 = .ok (.aload_n 0, 1) := by decide +kernel
theorem dX4_minded_102 : decode cX4_minded 102 = .ok (.getfield 26, 3) := by decide +kernel
theorem dX4_minded_105 : decode cX4_minded 105 = .ok (.aload_n 1, 1) := by decide +kernel
theorem dX4_minded_106 : decode cX4_minded 106 = .ok (.getfield 52, 3) := by decide +kernel
theorem dX4_minded_109 : decode cX4_minded 109 = .ok (.if_icmp .ge 11, 3) := by decide +kernel
theorem dX4_minded_112 : decode cX4_minded 112 = .ok (.aload_n 1, 1) := by decide +kernel
theorem dX4_minded_113 : decode cX4_minded 113 = .ok (.iload_n 2, 1) := by decide +kernel
theorem dX4_minded_114 : decode cX4_minded 114 = .ok (.invokestatic 49, 3) := by decide +kernel
theorem dX4_minded_117 : decode cX4_minded 117 = .ok (.goto 4, 3) := by decide +kernel
theorem dX4_minded_120 : decode cX4_minded 120 = .ok (.iconst 0, 1) := by decide +kernel
theorem dX4_minded_121 : decode cX4_minded 121 = .ok (.ireturn, 1) := by decide +kernel
theorem dX4_minded_122 : decode cX4_minded 122 = .ok (.sipush 1023, 3) := by decide +kernel
theorem dX4_minded_125 : decode cX4_minded 125 = .ok (.ireturn, 1) := by decide +kernel
theorem dX4_minded_126 : decode cX4_minded 126 = .ok (.iload_n 2, 1) := by decide +kernel
theorem dX4_minded_127 : decode cX4_minded 127 = .ok (.ifCond .eq 9, 3) := by decide +kernel
theorem dX4_minded_130 : decode cX4_minded 130 = .ok (.sipush 1023, 3) := by decide +kernel
theorem dX4_minded_133 : decode cX4_minded 133 = .ok (.goto 7, 3) := by decide +kernel
theorem dX4_minded_136 : decode cX4_minded 136 = .ok (.aload_n 1, 1) := by decide +kernel
theorem dX4_minded_137 : decode cX4_minded 137 = .ok (.getfield 55, 3) := by decide +kernel
theorem dX4_minded_140 : decode cX4_minded 140 = .ok (.ireturn, 1) := by decide +kernel
theorem dX4_mindedByBred_0 : decode cX4_mindedByBred 0 = .ok (.iload_n 1, 1) := by decide +kernel
theorem dX4_mindedByBred_1 : decode cX4_mindedByBred 1 = .ok (.ifCond .eq 9, 3) := by decide +kernel
theorem dX4_mindedByBred_4 : decode cX4_mindedByBred 4 = .ok (.sipush 1023, 3) := by decide +kernel
theorem dX4_mindedByBred_7 : decode cX4_mindedByBred 7 = .ok (.goto 14, 3) := by decide +kernel
theorem dX4_mindedByBred_10 : decode cX4_mindedByBred 10 = .ok (.aload_n 0, 1) := by decide +kernel
theorem dX4_mindedByBred_11 : decode cX4_mindedByBred 11 = .ok (.getfield 55, 3) := by decide +kernel
theorem dX4_mindedByBred_14 : decode cX4_mindedByBred 14 = .ok (.iconst 1, 1) := by decide +kernel
theorem dX4_mindedByBred_15 : decode cX4_mindedByBred 15 = .ok (.aload_n 0, 1) := by decide +kernel
theorem dX4_mindedByBred_16 : decode cX4_mindedByBred 16 = .ok (.getfield 52, 3) := by decide +kernel
theorem dX4_mindedByBred_19 : decode cX4_mindedByBred 19 = .ok (.ishl, 1) := by decide +kernel
theorem dX4_mindedByBred_20 : decode cX4_mindedByBred 20 = .ok (.ior, 1) := by decide +kernel
theorem dX4_mindedByBred_21 : decode cX4_mindedByBred 21 = .ok (.ireturn, 1) := by decide +kernel
theorem dX4_mindedByHungry_0 : decode cX4_mindedByHungry 0 = .ok (.iload_n 1, 1) := by decide +kernel
theorem dX4_mindedByHungry_1 : decode cX4_mindedByHungry 1 = .ok (.ifCond .eq 10, 3) := by decide +kernel
theorem dX4_mindedByHungry_4 : decode cX4_mindedByHungry 4 = .ok (.aload_n 0, 1) := by decide +kernel
theorem dX4_mindedByHungry_5 : decode cX4_mindedByHungry 5 = .ok (.getfield 55, 3) := by decide +kernel
theorem dX4_mindedByHungry_8 : decode cX4_mindedByHungry 8 = .ok (.goto 4, 3) := by decide +kernel
theorem dX4_mindedByHungry_11 : decode cX4_mindedByHungry 11 = .ok (.iconst 0, 1) := by decide +kernel
theorem dX4_mindedByHungry_12 : decode cX4_mindedByHungry 12 = .ok (.ireturn, 1) := by decide +kernel
theorem dX4_eatenBy_0 : decode cX4_eatenBy 0 = .ok (.aload_n 0, 1) := by decide +kernel
theorem dX4_eatenBy_1 : decode cX4_eatenBy 1 = .ok (.getfield 9, 3) := by decide +kernel
theorem dX4_eatenBy_4 : decode cX4_eatenBy 4 = .ok (.iconst 1, 1) := by decide +kernel
theorem dX4_eatenBy_5 : decode cX4_eatenBy 5 = .ok (.aload_n 1, 1) := by decide +kernel
theorem dX4_eatenBy_6 : decode cX4_eatenBy 6 = .ok (.aload_n 0, 1) := by decide +kernel
theorem dX4_eatenBy_7 : decode cX4_eatenBy 7 = .ok (.getfield 26, 3) := by decide +kernel
theorem dX4_eatenBy_10 : decode cX4_eatenBy 10 = .ok (.invokevirtual 33, 3) := by decide +kernel
theorem dX4_eatenBy_13 : decode cX4_eatenBy 13 = .ok (.istore_n 3, 1) := by decide +kernel
theorem dX4_eatenBy_14 : decode cX4_eatenBy 14 = .ok (.aload_n 1, 1) := by decide +kernel
theorem dX4_eatenBy_15 : decode cX4_eatenBy 15 = .ok (.getfield 42, 3) := by decide +kernel
theorem dX4_eatenBy_18 : decode cX4_eatenBy 18 = .ok (.tableswitch 44 1 5 #[34, 38, 34, 38, 42], 34) := by decide +kernel
theorem dX4_eatenBy_52 : decode cX4_eatenBy 52 = .ok (.iload_n 3, 1) := by decide +kernel
theorem dX4_eatenBy_53 : decode cX4_eatenBy 53 = .ok (.iconst 2, 1) := by decide +kernel
theorem dX4_eatenBy_54 : decode cX4_eatenBy 54 = .ok (.idiv, 1) := by decide +kernel
theorem dX4_eatenBy_55 : decode cX4_eatenBy 55 = .ok (.ireturn, 1) := by decide +kernel
theorem dX4_eatenBy_56 : decode cX4_eatenBy 56 = .ok (.iload_n 3, 1) := by decide +kernel
theorem dX4_eatenBy_57 : decode cX4_eatenBy 57 = .ok (.iload_n 2, 1) := by decide +kernel
theorem dX4_eatenBy_58 : decode cX4_eatenBy 58 = .ok (.iadd, 1) := by decide +kernel
theorem dX4_eatenBy_59 : decode cX4_eatenBy 59 = .ok (.ireturn, 1) := by decide +kernel
theorem dX4_eatenBy_60 : decode cX4_eatenBy 60 = .ok (.iconst 0, 1) := by decide +kernel
theorem dX4_eatenBy_61 : decode cX4_eatenBy 61 = .ok (.ireturn, 1) := by decide +kernel
theorem dX4_eatenBy_62 : decode cX4_eatenBy 62 = .ok (.iload_n 3, 1) := by decide +kernel
theorem dX4_eatenBy_63 : decode cX4_eatenBy 63 = .ok (.ireturn, 1) := by decide +kernel
theorem dX4_toldBy_0 : decode cX4_toldBy 0 = .ok (.aload_n 0, 1) := by decide +kernel
theorem dX4_toldBy_1 : decode cX4_toldBy 1 = .ok (.iload_n 1, 1) := by decide +kernel
theorem dX4_toldBy_2 : decode cX4_toldBy 2 = .ok (.invokevirtual 58, 3) := by decide +kernel
theorem dX4_toldBy_5 : decode cX4_toldBy 5 = .ok (.ifCond .ne 5, 3) := by decide +kernel
theorem dX4_toldBy_8 : decode cX4_toldBy 8 = .ok (.iload_n 1, 1) := by decide +kernel
theorem dX4_toldBy_9 : decode cX4_toldBy 9 = .ok (.ireturn, 1) := by decide +kernel
theorem dX4_toldBy_10 : decode cX4_toldBy 10 = .ok (.aload_n 0, 1) := by decide +kernel
theorem dX4_toldBy_11 : decode cX4_toldBy 11 = .ok (.getfield 17, 3) := by decide +kernel
theorem dX4_toldBy_14 : decode cX4_toldBy 14 = .ok (.iload_n 1, 1) := by decide +kernel
theorem dX4_toldBy_15 : decode cX4_toldBy 15 = .ok (.aaload, 1) := by decide +kernel
theorem dX4_toldBy_16 : decode cX4_toldBy 16 = .ok (.astore_n 2, 1) := by decide +kernel
theorem dX4_toldBy_17 : decode cX4_toldBy 17 = .ok (.aload_n 0, 1) := by decide +kernel
theorem dX4_toldBy_18 : decode cX4_toldBy 18 = .ok (.getfield 9, 3) := by decide +kernel
theorem dX4_toldBy_21 : decode cX4_toldBy 21 = .ok (.iconst 2, 1) := by decide +kernel
theorem dX4_toldBy_22 : decode cX4_toldBy 22 = .ok (.aload_n 2, 1) := by decide +kernel
theorem dX4_toldBy_23 : decode cX4_toldBy 23 = .ok (.aload_n 0, 1) := by decide +kernel
theorem dX4_toldBy_24 : decode cX4_toldBy 24 = .ok (.getfield 26, 3) := by decide +kernel
theorem dX4_toldBy_27 : decode cX4_toldBy 27 = .ok (.invokevirtual 33, 3) := by decide +kernel
theorem dX4_toldBy_30 : decode cX4_toldBy 30 = .ok (.istore_n 3, 1) := by decide +kernel
theorem dX4_toldBy_31 : decode cX4_toldBy 31 = .ok (.aload_n 2, 1) := by decide +kernel
theorem dX4_toldBy_32 : decode cX4_toldBy 32 = .ok (.getfield 42, 3) := by decide +kernel
theorem dX4_toldBy_35 : decode cX4_toldBy 35 = .ok (.iconst 3, 1) := by decide +kernel
theorem dX4_toldBy_36 : decode cX4_toldBy 36 = .ok (.if_icmp .ne 6, 3) := by decide +kernel
theorem dX4_toldBy_39 : decode cX4_toldBy 39 = .ok (.iload_n 3, 1) := by decide +kernel
theorem dX4_toldBy_40 : decode cX4_toldBy 40 = .ok (.ineg, 1) := by decide +kernel
theorem dX4_toldBy_41 : decode cX4_toldBy 41 = .ok (.istore_n 3, 1) := by decide +kernel
theorem dX4_toldBy_42 : decode cX4_toldBy 42 = .ok (.aload_n 2, 1) := by decide +kernel
theorem dX4_toldBy_43 : decode cX4_toldBy 43 = .ok (.getfield 42, 3) := by decide +kernel
theorem dX4_toldBy_46 : decode cX4_toldBy 46 = .ok (.iconst 4, 1) := by decide +kernel
theorem dX4_toldBy_47 : decode cX4_toldBy 47 = .ok (.if_icmp .ne 10, 3) := by decide +kernel
theorem dX4_toldBy_50 : decode cX4_toldBy 50 = .ok (.iload_n 3, 1) := by decide +kernel
theorem dX4_toldBy_51 : decode cX4_toldBy 51 = .ok (.aload_n 2, 1) := by decide +kernel
theorem dX4_toldBy_52 : decode cX4_toldBy 52 = .ok (.getfield 52, 3) := by decide +kernel
theorem dX4_toldBy_55 : decode cX4_toldBy 55 = .ok (.iadd, 1) := by decide +kernel
theorem dX4_toldBy_56 : decode cX4_toldBy 56 = .ok (.istore_n 3, 1) := by decide +kernel
theorem dX4_toldBy_57 : decode cX4_toldBy 57 = .ok (.iload_n 1, 1) := by decide +kernel
theorem dX4_toldBy_58 : decode cX4_toldBy 58 = .ok (.iload_n 3, 1) := by decide +kernel
theorem dX4_toldBy_59 : decode cX4_toldBy 59 = .ok (.iadd, 1) := by decide +kernel
theorem dX4_toldBy_60 : decode cX4_toldBy 60 = .ok (.aload_n 0, 1) := by decide +kernel
theorem dX4_toldBy_61 : decode cX4_toldBy 61 = .ok (.getfield 22, 3) := by decide +kernel
theorem dX4_toldBy_64 : decode cX4_toldBy 64 = .ok (.invokestatic 62, 3) := by decide +kernel
theorem dX4_toldBy_67 : decode cX4_toldBy 67 = .ok (.ireturn, 1) := by decide +kernel
theorem dX4_actOf_0 : decode cX4_actOf 0 = .ok (.aload_n 1, 1) := by decide +kernel
theorem dX4_actOf_1 : decode cX4_actOf 1 = .ok (.getfield 68, 3) := by decide +kernel
theorem dX4_actOf_4 : decode cX4_actOf 4 = .ok (.ifCond .eq 5, 3) := by decide +kernel
theorem dX4_actOf_7 : decode cX4_actOf 7 = .ok (.iconst 0, 1) := by decide +kernel
theorem dX4_actOf_8 : decode cX4_actOf 8 = .ok (.ireturn, 1) := by decide +kernel
theorem dX4_actOf_9 : decode cX4_actOf 9 = .ok (.aload_n 0, 1) := by decide +kernel
theorem dX4_actOf_10 : decode cX4_actOf 10 = .ok (.aload_n 1, 1) := by decide +kernel
theorem dX4_actOf_11 : decode cX4_actOf 11 = .ok (.invokevirtual 72, 3) := by decide +kernel
theorem dX4_actOf_14 : decode cX4_actOf 14 = .ok (.istore_n 2, 1) := by decide +kernel
theorem dX4_actOf_15 : decode cX4_actOf 15 = .ok (.iconst 0, 1) := by decide +kernel
theorem dX4_actOf_16 : decode cX4_actOf 16 = .ok (.istore_n 3, 1) := by decide +kernel
theorem dX4_actOf_17 : decode cX4_actOf 17 = .ok (.iload_n 3, 1) := by decide +kernel
theorem dX4_actOf_18 : decode cX4_actOf 18 = .ok (.bipush 10, 2) := by decide +kernel
theorem dX4_actOf_20 : decode cX4_actOf 20 = .ok (.if_icmp .ge 19, 3) := by decide +kernel
theorem dX4_actOf_23 : decode cX4_actOf 23 = .ok (.iload_n 2, 1) := by decide +kernel
theorem dX4_actOf_24 : decode cX4_actOf 24 = .ok (.iload_n 3, 1) := by decide +kernel
theorem dX4_actOf_25 : decode cX4_actOf 25 = .ok (.invokestatic 76, 3) := by decide +kernel
theorem dX4_actOf_28 : decode cX4_actOf 28 = .ok (.ifCond .ne 5, 3) := by decide +kernel
theorem dX4_actOf_31 : decode cX4_actOf 31 = .ok (.iload_n 3, 1) := by decide +kernel
theorem dX4_actOf_32 : decode cX4_actOf 32 = .ok (.ireturn, 1) := by decide +kernel
theorem dX4_actOf_33 : decode cX4_actOf 33 = .ok (.iinc 3 1, 3) := by decide +kernel
theorem dX4_actOf_36 : decode cX4_actOf 36 = .ok (.goto (-19), 3) := by decide +kernel
theorem dX4_actOf_39 : decode cX4_actOf 39 = .ok (.iconst (-1), 1) := by decide +kernel
theorem dX4_actOf_40 : decode cX4_actOf 40 = .ok (.ireturn, 1) := by decide +kernel
theorem dX4_isStuck_0 : decode cX4_isStuck 0 = .ok (.aload_n 1, 1) := by decide +kernel
theorem dX4_isStuck_1 : decode cX4_isStuck 1 = .ok (.getfield 68, 3) := by decide +kernel
theorem dX4_isStuck_4 : decode cX4_isStuck 4 = .ok (.ifCond .ne 18, 3) := by decide +kernel
theorem dX4_isStuck_7 : decode cX4_isStuck 7 = .ok (.aload_n 0, 1) := by decide +kernel
theorem dX4_isStuck_8 : decode cX4_isStuck 8 = .ok (.aload_n 1, 1) := by decide +kernel
theorem dX4_isStuck_9 : decode cX4_isStuck 9 = .ok (.invokevirtual 72, 3) := by decide +kernel
theorem dX4_isStuck_12 : decode cX4_isStuck 12 = .ok (.sipush 1023, 3) := by decide +kernel
theorem dX4_isStuck_15 : decode cX4_isStuck 15 = .ok (.if_icmp .ne 7, 3) := by decide +kernel
theorem dX4_isStuck_18 : decode cX4_isStuck 18 = .ok (.iconst 1, 1) := by decide +kernel
theorem dX4_isStuck_19 : decode cX4_isStuck 19 = .ok (.goto 4, 3) := by decide +kernel
theorem dX4_isStuck_22 : decode cX4_isStuck 22 = .ok (.iconst 0, 1) := by decide +kernel
theorem dX4_isStuck_23 : decode cX4_isStuck 23 = .ok (.ireturn, 1) := by decide +kernel
theorem dX4_perform_0 : decode cX4_perform 0 = .ok (.aload_n 0, 1) := by decide +kernel
theorem dX4_perform_1 : decode cX4_perform 1 = .ok (.getfield 17, 3) := by decide +kernel
theorem dX4_perform_4 : decode cX4_perform 4 = .ok (.iload_n 1, 1) := by decide +kernel
theorem dX4_perform_5 : decode cX4_perform 5 = .ok (.aaload, 1) := by decide +kernel
theorem dX4_perform_6 : decode cX4_perform 6 = .ok (.astore_n 3, 1) := by decide +kernel
theorem dX4_perform_7 : decode cX4_perform 7 = .ok (.aload_n 0, 1) := by decide +kernel
theorem dX4_perform_8 : decode cX4_perform 8 = .ok (.aload_n 3, 1) := by decide +kernel
theorem dX4_perform_9 : decode cX4_perform 9 = .ok (.iload_n 2, 1) := by decide +kernel
theorem dX4_perform_10 : decode cX4_perform 10 = .ok (.invokevirtual 80, 3) := by decide +kernel
theorem dX4_perform_13 : decode cX4_perform 13 = .ok (.istore 4, 2) := by decide +kernel
theorem dX4_perform_15 : decode cX4_perform 15 = .ok (.aload_n 0, 1) := by decide +kernel
theorem dX4_perform_16 : decode cX4_perform 16 = .ok (.iload_n 1, 1) := by decide +kernel
theorem dX4_perform_17 : decode cX4_perform 17 = .ok (.invokevirtual 84, 3) := by decide +kernel
theorem dX4_perform_20 : decode cX4_perform 20 = .ok (.istore 5, 2) := by decide +kernel
theorem dX4_perform_22 : decode cX4_perform 22 = .ok (.aload_n 3, 1) := by decide +kernel
theorem dX4_perform_23 : decode cX4_perform 23 = .ok (.bipush 99, 2) := by decide +kernel
theorem dX4_perform_25 : decode cX4_perform 25 = .ok (.aload_n 3, 1) := by decide +kernel
theorem dX4_perform_26 : decode cX4_perform 26 = .ok (.getfield 88, 3) := by decide +kernel
theorem dX4_perform_29 : decode cX4_perform 29 = .ok (.iload 4, 2) := by decide +kernel
theorem dX4_perform_31 : decode cX4_perform 31 = .ok (.iadd, 1) := by decide +kernel
theorem dX4_perform_32 : decode cX4_perform 32 = .ok (.invokestatic 91, 3) := by decide +kernel
theorem dX4_perform_35 : decode cX4_perform 35 = .ok (.putfield 88, 3) := by decide +kernel
theorem dX4_perform_38 : decode cX4_perform 38 = .ok (.aload_n 3, 1) := by decide +kernel
theorem dX4_perform_39 : decode cX4_perform 39 = .ok (.dup, 1) := by decide +kernel
theorem dX4_perform_40 : decode cX4_perform 40 = .ok (.getfield 55, 3) := by decide +kernel
theorem dX4_perform_43 : decode cX4_perform 43 = .ok (.iconst 1, 1) := by decide +kernel
theorem dX4_perform_44 : decode cX4_perform 44 = .ok (.iload_n 2, 1) := by decide +kernel
theorem dX4_perform_45 : decode cX4_perform 45 = .ok (.ishl, 1) := by decide +kernel
theorem dX4_perform_46 : decode cX4_perform 46 = .ok (.ior, 1) := by decide +kernel
theorem dX4_perform_47 : decode cX4_perform 47 = .ok (.putfield 55, 3) := by decide +kernel
theorem dX4_perform_50 : decode cX4_perform 50 = .ok (.iload 5, 2) := by decide +kernel
theorem dX4_perform_52 : decode cX4_perform 52 = .ok (.iload_n 1, 1) := by decide +kernel
theorem dX4_perform_53 : decode cX4_perform 53 = .ok (.if_icmp .eq 21, 3) := by decide +kernel
theorem dX4_perform_56 : decode cX4_perform 56 = .ok (.aload_n 0, 1) := by decide +kernel
theorem dX4_perform_57 : decode cX4_perform 57 = .ok (.getfield 17, 3) := by decide +kernel
theorem dX4_perform_60 : decode cX4_perform 60 = .ok (.iload 5, 2) := by decide +kernel
theorem dX4_perform_62 : decode cX4_perform 62 = .ok (.aaload, 1) := by decide +kernel
theorem dX4_perform_63 : decode cX4_perform 63 = .ok (.dup, 1) := by decide +kernel
theorem dX4_perform_64 : decode cX4_perform 64 = .ok (.getfield 55, 3) := by decide +kernel
theorem dX4_perform_67 : decode cX4_perform 67 = .ok (.iconst 1, 1) := by decide +kernel
theorem dX4_perform_68 : decode cX4_perform 68 = .ok (.iload_n 2, 1) := by decide +kernel
theorem dX4_perform_69 : decode cX4_perform 69 = .ok (.ishl, 1) := by decide +kernel
theorem dX4_perform_70 : decode cX4_perform 70 = .ok (.ixor, 1) := by decide +kernel
theorem dX4_perform_71 : decode cX4_perform 71 = .ok (.putfield 55, 3) := by decide +kernel
theorem dX4_perform_74 : decode cX4_perform 74 = .ok (.aload_n 3, 1) := by decide +kernel
theorem dX4_perform_75 : decode cX4_perform 75 = .ok (.iconst 0, 1) := by decide +kernel
theorem dX4_perform_76 : decode cX4_perform 76 = .ok (.putfield 68, 3) := by decide +kernel
theorem dX4_perform_79 : decode cX4_perform 79 = .ok (.return_, 1) := by decide +kernel
theorem dX4_pass_0 : decode cX4_pass 0 = .ok (.iconst 0, 1) := by decide +kernel
theorem dX4_pass_1 : decode cX4_pass 1 = .ok (.istore_n 1, 1) := by decide +kernel
theorem dX4_pass_2 : decode cX4_pass 2 = .ok (.iconst 0, 1) := by decide +kernel
theorem dX4_pass_3 : decode cX4_pass 3 = .ok (.istore_n 2, 1) := by decide +kernel
theorem dX4_pass_4 : decode cX4_pass 4 = .ok (.iload_n 2, 1) := by decide +kernel
theorem dX4_pass_5 : decode cX4_pass 5 = .ok (.aload_n 0, 1) := by decide +kernel
theorem dX4_pass_6 : decode cX4_pass 6 = .ok (.getfield 22, 3) := by decide +kernel
theorem dX4_pass_9 : decode cX4_pass 9 = .ok (.if_icmp .ge 62, 3) := by decide +kernel
theorem dX4_pass_12 : decode cX4_pass 12 = .ok (.aload_n 0, 1) := by decide +kernel
theorem dX4_pass_13 : decode cX4_pass 13 = .ok (.aload_n 0, 1) := by decide +kernel
theorem dX4_pass_14 : decode cX4_pass 14 = .ok (.getfield 17, 3) := by decide +kernel
theorem dX4_pass_17 : decode cX4_pass 17 = .ok (.iload_n 2, 1) := by decide +kernel
theorem dX4_pass_18 : decode cX4_pass 18 = .ok (.aaload, 1) := by decide +kernel
theorem dX4_pass_19 : decode cX4_pass 19 = .ok (.invokevirtual 94, 3) := by decide +kernel
theorem dX4_pass_22 : decode cX4_pass 22 = .ok (.istore_n 3, 1) := by decide +kernel
theorem dX4_pass_23 : decode cX4_pass 23 = .ok (.iload_n 3, 1) := by decide +kernel
theorem dX4_pass_24 : decode cX4_pass 24 = .ok (.iconst (-1), 1) := by decide +kernel
theorem dX4_pass_25 : decode cX4_pass 25 = .ok (.if_icmp .ne 31, 3) := by decide +kernel
theorem dX4_pass_28 : decode cX4_pass 28 = .ok (.aload_n 0, 1) := by decide +kernel
theorem dX4_pass_29 : decode cX4_pass 29 = .ok (.getfield 17, 3) := by decide +kernel
theorem dX4_pass_32 : decode cX4_pass 32 = .ok (.iload_n 2, 1) := by decide +kernel
theorem dX4_pass_33 : decode cX4_pass 33 = .ok (.aaload, 1) := by decide +kernel
theorem dX4_pass_34 : decode cX4_pass 34 = .ok (.bipush 99, 2) := by decide +kernel
theorem dX4_pass_36 : decode cX4_pass 36 = .ok (.aload_n 0, 1) := by decide +kernel
theorem dX4_pass_37 : decode cX4_pass 37 = .ok (.getfield 17, 3) := by decide +kernel
theorem dX4_pass_40 : decode cX4_pass 40 = .ok (.iload_n 2, 1) := by decide +kernel
theorem dX4_pass_41 : decode cX4_pass 41 = .ok (.aaload, 1) := by decide +kernel
theorem dX4_pass_42 : decode cX4_pass 42 = .ok (.getfield 97, 3) := by decide +kernel
theorem dX4_pass_45 : decode cX4_pass 45 = .ok (.iconst 1, 1) := by decide +kernel
theorem dX4_pass_46 : decode cX4_pass 46 = .ok (.iadd, 1) := by decide +kernel
theorem dX4_pass_47 : decode cX4_pass 47 = .ok (.invokestatic 91, 3) := by decide +kernel
theorem dX4_pass_50 : decode cX4_pass 50 = .ok (.putfield 97, 3) := by decide +kernel
theorem dX4_pass_53 : decode cX4_pass 53 = .ok (.goto 12, 3) := by decide +kernel
theorem dX4_pass_56 : decode cX4_pass 56 = .ok (.aload_n 0, 1) := by decide +kernel
theorem dX4_pass_57 : decode cX4_pass 57 = .ok (.iload_n 2, 1) := by decide +kernel
theorem dX4_pass_58 : decode cX4_pass 58 = .ok (.iload_n 3, 1) := by decide +kernel
theorem dX4_pass_59 : decode cX4_pass 59 = .ok (.invokevirtual 100, 3) := by decide +kernel
theorem dX4_pass_62 : decode cX4_pass 62 = .ok (.iinc 1 1, 3) := by decide +kernel
theorem dX4_pass_65 : decode cX4_pass 65 = .ok (.iinc 2 1, 3) := by decide +kernel
theorem dX4_pass_68 : decode cX4_pass 68 = .ok (.goto (-64), 3) := by decide +kernel
theorem dX4_pass_71 : decode cX4_pass 71 = .ok (.aload_n 0, 1) := by decide +kernel
theorem dX4_pass_72 : decode cX4_pass 72 = .ok (.dup, 1) := by decide +kernel
theorem dX4_pass_73 : decode cX4_pass 73 = .ok (.getfield 26, 3) := by decide +kernel
theorem dX4_pass_76 : decode cX4_pass 76 = .ok (.iconst 1, 1) := by decide +kernel
theorem dX4_pass_77 : decode cX4_pass 77 = .ok (.iadd, 1) := by decide +kernel
theorem dX4_pass_78 : decode cX4_pass 78 = .ok (.putfield 26, 3) := by decide +kernel
theorem dX4_pass_81 : decode cX4_pass 81 = .ok (.iload_n 1, 1) := by decide +kernel
theorem dX4_pass_82 : decode cX4_pass 82 = .ok (.ireturn, 1) := by decide +kernel
theorem dX4_stuckBehind_0 : decode cX4_stuckBehind 0 = .ok (.iconst 0, 1) := by decide +kernel
theorem dX4_stuckBehind_1 : decode cX4_stuckBehind 1 = .ok (.istore_n 2, 1) := by decide +kernel
theorem dX4_stuckBehind_2 : decode cX4_stuckBehind 2 = .ok (.iload_n 2, 1) := by decide +kernel
theorem dX4_stuckBehind_3 : decode cX4_stuckBehind 3 = .ok (.iload_n 1, 1) := by decide +kernel
theorem dX4_stuckBehind_4 : decode cX4_stuckBehind 4 = .ok (.if_icmp .ge 14, 3) := by decide +kernel
theorem dX4_stuckBehind_7 : decode cX4_stuckBehind 7 = .ok (.aload_n 0, 1) := by decide +kernel
theorem dX4_stuckBehind_8 : decode cX4_stuckBehind 8 = .ok (.invokevirtual 104, 3) := by decide +kernel
theorem dX4_stuckBehind_11 : decode cX4_stuckBehind 11 = .ok (.pop, 1) := by decide +kernel
theorem dX4_stuckBehind_12 : decode cX4_stuckBehind 12 = .ok (.iinc 2 1, 3) := by decide +kernel
theorem dX4_stuckBehind_15 : decode cX4_stuckBehind 15 = .ok (.goto (-13), 3) := by decide +kernel
theorem dX4_stuckBehind_18 : decode cX4_stuckBehind 18 = .ok (.aload_n 0, 1) := by decide +kernel
theorem dX4_stuckBehind_19 : decode cX4_stuckBehind 19 = .ok (.invokevirtual 108, 3) := by decide +kernel
theorem dX4_stuckBehind_22 : decode cX4_stuckBehind 22 = .ok (.invokestatic 111, 3) := by decide +kernel
theorem dX4_stuckBehind_25 : decode cX4_stuckBehind 25 = .ok (.ireturn, 1) := by decide +kernel
theorem dX4_ateBehind_0 : decode cX4_ateBehind 0 = .ok (.iconst 0, 1) := by decide +kernel
theorem dX4_ateBehind_1 : decode cX4_ateBehind 1 = .ok (.istore_n 2, 1) := by decide +kernel
theorem dX4_ateBehind_2 : decode cX4_ateBehind 2 = .ok (.iload_n 2, 1) := by decide +kernel
theorem dX4_ateBehind_3 : decode cX4_ateBehind 3 = .ok (.iload_n 1, 1) := by decide +kernel
theorem dX4_ateBehind_4 : decode cX4_ateBehind 4 = .ok (.if_icmp .ge 14, 3) := by decide +kernel
theorem dX4_ateBehind_7 : decode cX4_ateBehind 7 = .ok (.aload_n 0, 1) := by decide +kernel
theorem dX4_ateBehind_8 : decode cX4_ateBehind 8 = .ok (.invokevirtual 104, 3) := by decide +kernel
theorem dX4_ateBehind_11 : decode cX4_ateBehind 11 = .ok (.pop, 1) := by decide +kernel
theorem dX4_ateBehind_12 : decode cX4_ateBehind 12 = .ok (.iinc 2 1, 3) := by decide +kernel
theorem dX4_ateBehind_15 : decode cX4_ateBehind 15 = .ok (.goto (-13), 3) := by decide +kernel
theorem dX4_ateBehind_18 : decode cX4_ateBehind 18 = .ok (.aload_n 0, 1) := by decide +kernel
theorem dX4_ateBehind_19 : decode cX4_ateBehind 19 = .ok (.invokevirtual 116, 3) := by decide +kernel
theorem dX4_ateBehind_22 : decode cX4_ateBehind 22 = .ok (.ireturn, 1) := by decide +kernel
theorem dX4_makeRight_0 : decode cX4_makeRight 0 = .ok (.iconst 0, 1) := by decide +kernel
theorem dX4_makeRight_1 : decode cX4_makeRight 1 = .ok (.istore_n 2, 1) := by decide +kernel
theorem dX4_makeRight_2 : decode cX4_makeRight 2 = .ok (.iload_n 2, 1) := by decide +kernel
theorem dX4_makeRight_3 : decode cX4_makeRight 3 = .ok (.aload_n 0, 1) := by decide +kernel
theorem dX4_makeRight_4 : decode cX4_makeRight 4 = .ok (.getfield 22, 3) := by decide +kernel
theorem dX4_makeRight_7 : decode cX4_makeRight 7 = .ok (.if_icmp .ge 28, 3) := by decide +kernel
theorem dX4_makeRight_10 : decode cX4_makeRight 10 = .ok (.aload_n 0, 1) := by decide +kernel
theorem dX4_makeRight_11 : decode cX4_makeRight 11 = .ok (.getfield 17, 3) := by decide +kernel
theorem dX4_makeRight_14 : decode cX4_makeRight 14 = .ok (.iload_n 2, 1) := by decide +kernel
theorem dX4_makeRight_15 : decode cX4_makeRight 15 = .ok (.aaload, 1) := by decide +kernel
theorem dX4_makeRight_16 : decode cX4_makeRight 16 = .ok (.dup, 1) := by decide +kernel
theorem dX4_makeRight_17 : decode cX4_makeRight 17 = .ok (.getfield 55, 3) := by decide +kernel
theorem dX4_makeRight_20 : decode cX4_makeRight 20 = .ok (.iconst 1, 1) := by decide +kernel
theorem dX4_makeRight_21 : decode cX4_makeRight 21 = .ok (.iload_n 1, 1) := by decide +kernel
theorem dX4_makeRight_22 : decode cX4_makeRight 22 = .ok (.ishl, 1) := by decide +kernel
theorem dX4_makeRight_23 : decode cX4_makeRight 23 = .ok (.iconst (-1), 1) := by decide +kernel
theorem dX4_makeRight_24 : decode cX4_makeRight 24 = .ok (.ixor, 1) := by decide +kernel
theorem dX4_makeRight_25 : decode cX4_makeRight 25 = .ok (.iand, 1) := by decide +kernel
theorem dX4_makeRight_26 : decode cX4_makeRight 26 = .ok (.putfield 55, 3) := by decide +kernel
theorem dX4_makeRight_29 : decode cX4_makeRight 29 = .ok (.iinc 2 1, 3) := by decide +kernel
theorem dX4_makeRight_32 : decode cX4_makeRight 32 = .ok (.goto (-30), 3) := by decide +kernel
theorem dX4_makeRight_35 : decode cX4_makeRight 35 = .ok (.return_, 1) := by decide +kernel
theorem dX4_exchange_0 : decode cX4_exchange 0 = .ok (.aload_n 0, 1) := by decide +kernel
theorem dX4_exchange_1 : decode cX4_exchange 1 = .ok (.getfield 17, 3) := by decide +kernel
theorem dX4_exchange_4 : decode cX4_exchange 4 = .ok (.iload_n 1, 1) := by decide +kernel
theorem dX4_exchange_5 : decode cX4_exchange 5 = .ok (.aaload, 1) := by decide +kernel
theorem dX4_exchange_6 : decode cX4_exchange 6 = .ok (.getfield 55, 3) := by decide +kernel
theorem dX4_exchange_9 : decode cX4_exchange 9 = .ok (.istore_n 3, 1) := by decide +kernel
theorem dX4_exchange_10 : decode cX4_exchange 10 = .ok (.aload_n 0, 1) := by decide +kernel
theorem dX4_exchange_11 : decode cX4_exchange 11 = .ok (.getfield 17, 3) := by decide +kernel
theorem dX4_exchange_14 : decode cX4_exchange 14 = .ok (.iload_n 1, 1) := by decide +kernel
theorem dX4_exchange_15 : decode cX4_exchange 15 = .ok (.aaload, 1) := by decide +kernel
theorem dX4_exchange_16 : decode cX4_exchange 16 = .ok (.aload_n 0, 1) := by decide +kernel
theorem dX4_exchange_17 : decode cX4_exchange 17 = .ok (.getfield 17, 3) := by decide +kernel
theorem dX4_exchange_20 : decode cX4_exchange 20 = .ok (.iload_n 2, 1) := by decide +kernel
theorem dX4_exchange_21 : decode cX4_exchange 21 = .ok (.aaload, 1) := by decide +kernel
theorem dX4_exchange_22 : decode cX4_exchange 22 = .ok (.getfield 55, 3) := by decide +kernel
theorem dX4_exchange_25 : decode cX4_exchange 25 = .ok (.putfield 55, 3) := by decide +kernel
theorem dX4_exchange_28 : decode cX4_exchange 28 = .ok (.aload_n 0, 1) := by decide +kernel
theorem dX4_exchange_29 : decode cX4_exchange 29 = .ok (.getfield 17, 3) := by decide +kernel
theorem dX4_exchange_32 : decode cX4_exchange 32 = .ok (.iload_n 2, 1) := by decide +kernel
theorem dX4_exchange_33 : decode cX4_exchange 33 = .ok (.aaload, 1) := by decide +kernel
theorem dX4_exchange_34 : decode cX4_exchange 34 = .ok (.iload_n 3, 1) := by decide +kernel
theorem dX4_exchange_35 : decode cX4_exchange 35 = .ok (.putfield 55, 3) := by decide +kernel
theorem dX4_exchange_38 : decode cX4_exchange 38 = .ok (.return_, 1) := by decide +kernel
theorem dX4_stuckBits_0 : decode cX4_stuckBits 0 = .ok (.iconst 0, 1) := by decide +kernel
theorem dX4_stuckBits_1 : decode cX4_stuckBits 1 = .ok (.istore_n 1, 1) := by decide +kernel
theorem dX4_stuckBits_2 : decode cX4_stuckBits 2 = .ok (.iconst 0, 1) := by decide +kernel
theorem dX4_stuckBits_3 : decode cX4_stuckBits 3 = .ok (.istore_n 2, 1) := by decide +kernel
theorem dX4_stuckBits_4 : decode cX4_stuckBits 4 = .ok (.iload_n 2, 1) := by decide +kernel
theorem dX4_stuckBits_5 : decode cX4_stuckBits 5 = .ok (.aload_n 0, 1) := by decide +kernel
theorem dX4_stuckBits_6 : decode cX4_stuckBits 6 = .ok (.getfield 22, 3) := by decide +kernel
theorem dX4_stuckBits_9 : decode cX4_stuckBits 9 = .ok (.if_icmp .ge 28, 3) := by decide +kernel
theorem dX4_stuckBits_12 : decode cX4_stuckBits 12 = .ok (.aload_n 0, 1) := by decide +kernel
theorem dX4_stuckBits_13 : decode cX4_stuckBits 13 = .ok (.aload_n 0, 1) := by decide +kernel
theorem dX4_stuckBits_14 : decode cX4_stuckBits 14 = .ok (.getfield 17, 3) := by decide +kernel
theorem dX4_stuckBits_17 : decode cX4_stuckBits 17 = .ok (.iload_n 2, 1) := by decide +kernel
theorem dX4_stuckBits_18 : decode cX4_stuckBits 18 = .ok (.aaload, 1) := by decide +kernel
theorem dX4_stuckBits_19 : decode cX4_stuckBits 19 = .ok (.invokevirtual 119, 3) := by decide +kernel
theorem dX4_stuckBits_22 : decode cX4_stuckBits 22 = .ok (.ifCond .eq 9, 3) := by decide +kernel
theorem dX4_stuckBits_25 : decode cX4_stuckBits 25 = .ok (.iload_n 1, 1) := by decide +kernel
theorem dX4_stuckBits_26 : decode cX4_stuckBits 26 = .ok (.iconst 1, 1) := by decide +kernel
theorem dX4_stuckBits_27 : decode cX4_stuckBits 27 = .ok (.iload_n 2, 1) := by decide +kernel
theorem dX4_stuckBits_28 : decode cX4_stuckBits 28 = .ok (.ishl, 1) := by decide +kernel
theorem dX4_stuckBits_29 : decode cX4_stuckBits 29 = .ok (.ior, 1) := by decide +kernel
theorem dX4_stuckBits_30 : decode cX4_stuckBits 30 = .ok (.istore_n 1, 1) := by decide +kernel
theorem dX4_stuckBits_31 : decode cX4_stuckBits 31 = .ok (.iinc 2 1, 3) := by decide +kernel
theorem dX4_stuckBits_34 : decode cX4_stuckBits 34 = .ok (.goto (-30), 3) := by decide +kernel
theorem dX4_stuckBits_37 : decode cX4_stuckBits 37 = .ok (.iload_n 1, 1) := by decide +kernel
theorem dX4_stuckBits_38 : decode cX4_stuckBits 38 = .ok (.ireturn, 1) := by decide +kernel
theorem dX4_dangerBits_0 : decode cX4_dangerBits 0 = .ok (.iconst 0, 1) := by decide +kernel
theorem dX4_dangerBits_1 : decode cX4_dangerBits 1 = .ok (.istore_n 1, 1) := by decide +kernel
theorem dX4_dangerBits_2 : decode cX4_dangerBits 2 = .ok (.iconst 0, 1) := by decide +kernel
theorem dX4_dangerBits_3 : decode cX4_dangerBits 3 = .ok (.istore_n 2, 1) := by decide +kernel
theorem dX4_dangerBits_4 : decode cX4_dangerBits 4 = .ok (.iload_n 2, 1) := by decide +kernel
theorem dX4_dangerBits_5 : decode cX4_dangerBits 5 = .ok (.aload_n 0, 1) := by decide +kernel
theorem dX4_dangerBits_6 : decode cX4_dangerBits 6 = .ok (.getfield 22, 3) := by decide +kernel
theorem dX4_dangerBits_9 : decode cX4_dangerBits 9 = .ok (.if_icmp .ge 27, 3) := by decide +kernel
theorem dX4_dangerBits_12 : decode cX4_dangerBits 12 = .ok (.aload_n 0, 1) := by decide +kernel
theorem dX4_dangerBits_13 : decode cX4_dangerBits 13 = .ok (.getfield 17, 3) := by decide +kernel
theorem dX4_dangerBits_16 : decode cX4_dangerBits 16 = .ok (.iload_n 2, 1) := by decide +kernel
theorem dX4_dangerBits_17 : decode cX4_dangerBits 17 = .ok (.aaload, 1) := by decide +kernel
theorem dX4_dangerBits_18 : decode cX4_dangerBits 18 = .ok (.getfield 68, 3) := by decide +kernel
theorem dX4_dangerBits_21 : decode cX4_dangerBits 21 = .ok (.ifCond .eq 9, 3) := by decide +kernel
theorem dX4_dangerBits_24 : decode cX4_dangerBits 24 = .ok (.iload_n 1, 1) := by decide +kernel
theorem dX4_dangerBits_25 : decode cX4_dangerBits 25 = .ok (.iconst 1, 1) := by decide +kernel
theorem dX4_dangerBits_26 : decode cX4_dangerBits 26 = .ok (.iload_n 2, 1) := by decide +kernel
theorem dX4_dangerBits_27 : decode cX4_dangerBits 27 = .ok (.ishl, 1) := by decide +kernel
theorem dX4_dangerBits_28 : decode cX4_dangerBits 28 = .ok (.ior, 1) := by decide +kernel
theorem dX4_dangerBits_29 : decode cX4_dangerBits 29 = .ok (.istore_n 1, 1) := by decide +kernel
theorem dX4_dangerBits_30 : decode cX4_dangerBits 30 = .ok (.iinc 2 1, 3) := by decide +kernel
theorem dX4_dangerBits_33 : decode cX4_dangerBits 33 = .ok (.goto (-29), 3) := by decide +kernel
theorem dX4_dangerBits_36 : decode cX4_dangerBits 36 = .ok (.iload_n 1, 1) := by decide +kernel
theorem dX4_dangerBits_37 : decode cX4_dangerBits 37 = .ok (.ireturn, 1) := by decide +kernel
theorem dX4_rightForAnybody_0 : decode cX4_rightForAnybody 0 = .ok (.iconst 0, 1) := by decide +kernel
theorem dX4_rightForAnybody_1 : decode cX4_rightForAnybody 1 = .ok (.istore_n 1, 1) := by decide +kernel
theorem dX4_rightForAnybody_2 : decode cX4_rightForAnybody 2 = .ok (.iconst 0, 1) := by decide +kernel
theorem dX4_rightForAnybody_3 : decode cX4_rightForAnybody 3 = .ok (.istore_n 2, 1) := by decide +kernel
theorem dX4_rightForAnybody_4 : decode cX4_rightForAnybody 4 = .ok (.iload_n 2, 1) := by decide +kernel
theorem dX4_rightForAnybody_5 : decode cX4_rightForAnybody 5 = .ok (.aload_n 0, 1) := by decide +kernel
theorem dX4_rightForAnybody_6 : decode cX4_rightForAnybody 6 = .ok (.getfield 22, 3) := by decide +kernel
theorem dX4_rightForAnybody_9 : decode cX4_rightForAnybody 9 = .ok (.if_icmp .ge 28, 3) := by decide +kernel
theorem dX4_rightForAnybody_12 : decode cX4_rightForAnybody 12 = .ok (.iload_n 1, 1) := by decide +kernel
theorem dX4_rightForAnybody_13 : decode cX4_rightForAnybody 13 = .ok (.sipush 1023, 3) := by decide +kernel
theorem dX4_rightForAnybody_16 : decode cX4_rightForAnybody 16 = .ok (.aload_n 0, 1) := by decide +kernel
theorem dX4_rightForAnybody_17 : decode cX4_rightForAnybody 17 = .ok (.aload_n 0, 1) := by decide +kernel
theorem dX4_rightForAnybody_18 : decode cX4_rightForAnybody 18 = .ok (.getfield 17, 3) := by decide +kernel
theorem dX4_rightForAnybody_21 : decode cX4_rightForAnybody 21 = .ok (.iload_n 2, 1) := by decide +kernel
theorem dX4_rightForAnybody_22 : decode cX4_rightForAnybody 22 = .ok (.aaload, 1) := by decide +kernel
theorem dX4_rightForAnybody_23 : decode cX4_rightForAnybody 23 = .ok (.invokevirtual 72, 3) := by decide +kernel
theorem dX4_rightForAnybody_26 : decode cX4_rightForAnybody 26 = .ok (.iconst (-1), 1) := by decide +kernel
theorem dX4_rightForAnybody_27 : decode cX4_rightForAnybody 27 = .ok (.ixor, 1) := by decide +kernel
theorem dX4_rightForAnybody_28 : decode cX4_rightForAnybody 28 = .ok (.iand, 1) := by decide +kernel
theorem dX4_rightForAnybody_29 : decode cX4_rightForAnybody 29 = .ok (.ior, 1) := by decide +kernel
theorem dX4_rightForAnybody_30 : decode cX4_rightForAnybody 30 = .ok (.istore_n 1, 1) := by decide +kernel
theorem dX4_rightForAnybody_31 : decode cX4_rightForAnybody 31 = .ok (.iinc 2 1, 3) := by decide +kernel
theorem dX4_rightForAnybody_34 : decode cX4_rightForAnybody 34 = .ok (.goto (-30), 3) := by decide +kernel
theorem dX4_rightForAnybody_37 : decode cX4_rightForAnybody 37 = .ok (.iload_n 1, 1) := by decide +kernel
theorem dX4_rightForAnybody_38 : decode cX4_rightForAnybody 38 = .ok (.ireturn, 1) := by decide +kernel
theorem dX4_rightForAll_0 : decode cX4_rightForAll 0 = .ok (.sipush 1023, 3) := by decide +kernel
theorem dX4_rightForAll_3 : decode cX4_rightForAll 3 = .ok (.istore_n 1, 1) := by decide +kernel
theorem dX4_rightForAll_4 : decode cX4_rightForAll 4 = .ok (.iconst 0, 1) := by decide +kernel
theorem dX4_rightForAll_5 : decode cX4_rightForAll 5 = .ok (.istore_n 2, 1) := by decide +kernel
theorem dX4_rightForAll_6 : decode cX4_rightForAll 6 = .ok (.iload_n 2, 1) := by decide +kernel
theorem dX4_rightForAll_7 : decode cX4_rightForAll 7 = .ok (.aload_n 0, 1) := by decide +kernel
theorem dX4_rightForAll_8 : decode cX4_rightForAll 8 = .ok (.getfield 22, 3) := by decide +kernel
theorem dX4_rightForAll_11 : decode cX4_rightForAll 11 = .ok (.if_icmp .ge 24, 3) := by decide +kernel
theorem dX4_rightForAll_14 : decode cX4_rightForAll 14 = .ok (.iload_n 1, 1) := by decide +kernel
theorem dX4_rightForAll_15 : decode cX4_rightForAll 15 = .ok (.aload_n 0, 1) := by decide +kernel
theorem dX4_rightForAll_16 : decode cX4_rightForAll 16 = .ok (.aload_n 0, 1) := by decide +kernel
theorem dX4_rightForAll_17 : decode cX4_rightForAll 17 = .ok (.getfield 17, 3) := by decide +kernel
theorem dX4_rightForAll_20 : decode cX4_rightForAll 20 = .ok (.iload_n 2, 1) := by decide +kernel
theorem dX4_rightForAll_21 : decode cX4_rightForAll 21 = .ok (.aaload, 1) := by decide +kernel
theorem dX4_rightForAll_22 : decode cX4_rightForAll 22 = .ok (.invokevirtual 72, 3) := by decide +kernel
theorem dX4_rightForAll_25 : decode cX4_rightForAll 25 = .ok (.iconst (-1), 1) := by decide +kernel
theorem dX4_rightForAll_26 : decode cX4_rightForAll 26 = .ok (.ixor, 1) := by decide +kernel
theorem dX4_rightForAll_27 : decode cX4_rightForAll 27 = .ok (.iand, 1) := by decide +kernel
theorem dX4_rightForAll_28 : decode cX4_rightForAll 28 = .ok (.istore_n 1, 1) := by decide +kernel
theorem dX4_rightForAll_29 : decode cX4_rightForAll 29 = .ok (.iinc 2 1, 3) := by decide +kernel
theorem dX4_rightForAll_32 : decode cX4_rightForAll 32 = .ok (.goto (-26), 3) := by decide +kernel
theorem dX4_rightForAll_35 : decode cX4_rightForAll 35 = .ok (.iload_n 1, 1) := by decide +kernel
theorem dX4_rightForAll_36 : decode cX4_rightForAll 36 = .ok (.ireturn, 1) := by decide +kernel
theorem dX4_ateTogether_0 : decode cX4_ateTogether 0 = .ok (.iconst 0, 1) := by decide +kernel
theorem dX4_ateTogether_1 : decode cX4_ateTogether 1 = .ok (.istore_n 1, 1) := by decide +kernel
theorem dX4_ateTogether_2 : decode cX4_ateTogether 2 = .ok (.iconst 0, 1) := by decide +kernel
theorem dX4_ateTogether_3 : decode cX4_ateTogether 3 = .ok (.istore_n 2, 1) := by decide +kernel
theorem dX4_ateTogether_4 : decode cX4_ateTogether 4 = .ok (.iload_n 2, 1) := by decide +kernel
theorem dX4_ateTogether_5 : decode cX4_ateTogether 5 = .ok (.aload_n 0, 1) := by decide +kernel
theorem dX4_ateTogether_6 : decode cX4_ateTogether 6 = .ok (.getfield 22, 3) := by decide +kernel
theorem dX4_ateTogether_9 : decode cX4_ateTogether 9 = .ok (.if_icmp .ge 21, 3) := by decide +kernel
theorem dX4_ateTogether_12 : decode cX4_ateTogether 12 = .ok (.iload_n 1, 1) := by decide +kernel
theorem dX4_ateTogether_13 : decode cX4_ateTogether 13 = .ok (.aload_n 0, 1) := by decide +kernel
theorem dX4_ateTogether_14 : decode cX4_ateTogether 14 = .ok (.getfield 17, 3) := by decide +kernel
theorem dX4_ateTogether_17 : decode cX4_ateTogether 17 = .ok (.iload_n 2, 1) := by decide +kernel
theorem dX4_ateTogether_18 : decode cX4_ateTogether 18 = .ok (.aaload, 1) := by decide +kernel
theorem dX4_ateTogether_19 : decode cX4_ateTogether 19 = .ok (.getfield 88, 3) := by decide +kernel
theorem dX4_ateTogether_22 : decode cX4_ateTogether 22 = .ok (.iadd, 1) := by decide +kernel
theorem dX4_ateTogether_23 : decode cX4_ateTogether 23 = .ok (.istore_n 1, 1) := by decide +kernel
theorem dX4_ateTogether_24 : decode cX4_ateTogether 24 = .ok (.iinc 2 1, 3) := by decide +kernel
theorem dX4_ateTogether_27 : decode cX4_ateTogether 27 = .ok (.goto (-23), 3) := by decide +kernel
theorem dX4_ateTogether_30 : decode cX4_ateTogether 30 = .ok (.iload_n 1, 1) := by decide +kernel
theorem dX4_ateTogether_31 : decode cX4_ateTogether 31 = .ok (.ireturn, 1) := by decide +kernel
theorem dX4_boredTogether_0 : decode cX4_boredTogether 0 = .ok (.iconst 0, 1) := by decide +kernel
theorem dX4_boredTogether_1 : decode cX4_boredTogether 1 = .ok (.istore_n 1, 1) := by decide +kernel
theorem dX4_boredTogether_2 : decode cX4_boredTogether 2 = .ok (.iconst 0, 1) := by decide +kernel
theorem dX4_boredTogether_3 : decode cX4_boredTogether 3 = .ok (.istore_n 2, 1) := by decide +kernel
theorem dX4_boredTogether_4 : decode cX4_boredTogether 4 = .ok (.iload_n 2, 1) := by decide +kernel
theorem dX4_boredTogether_5 : decode cX4_boredTogether 5 = .ok (.aload_n 0, 1) := by decide +kernel
theorem dX4_boredTogether_6 : decode cX4_boredTogether 6 = .ok (.getfield 22, 3) := by decide +kernel
theorem dX4_boredTogether_9 : decode cX4_boredTogether 9 = .ok (.if_icmp .ge 21, 3) := by decide +kernel
theorem dX4_boredTogether_12 : decode cX4_boredTogether 12 = .ok (.iload_n 1, 1) := by decide +kernel
theorem dX4_boredTogether_13 : decode cX4_boredTogether 13 = .ok (.aload_n 0, 1) := by decide +kernel
theorem dX4_boredTogether_14 : decode cX4_boredTogether 14 = .ok (.getfield 17, 3) := by decide +kernel
theorem dX4_boredTogether_17 : decode cX4_boredTogether 17 = .ok (.iload_n 2, 1) := by decide +kernel
theorem dX4_boredTogether_18 : decode cX4_boredTogether 18 = .ok (.aaload, 1) := by decide +kernel
theorem dX4_boredTogether_19 : decode cX4_boredTogether 19 = .ok (.getfield 97, 3) := by decide +kernel
theorem dX4_boredTogether_22 : decode cX4_boredTogether 22 = .ok (.iadd, 1) := by decide +kernel
theorem dX4_boredTogether_23 : decode cX4_boredTogether 23 = .ok (.istore_n 1, 1) := by decide +kernel
theorem dX4_boredTogether_24 : decode cX4_boredTogether 24 = .ok (.iinc 2 1, 3) := by decide +kernel
theorem dX4_boredTogether_27 : decode cX4_boredTogether 27 = .ok (.goto (-23), 3) := by decide +kernel
theorem dX4_boredTogether_30 : decode cX4_boredTogether 30 = .ok (.iload_n 1, 1) := by decide +kernel
theorem dX4_boredTogether_31 : decode cX4_boredTogether 31 = .ok (.ireturn, 1) := by decide +kernel
theorem dX5_init_0 : decode cX5_init 0 = .ok (.aload_n 0, 1) := by decide +kernel
theorem dX5_init_1 : decode cX5_init 1 = .ok (.invokespecial 3, 3) := by decide +kernel
theorem dX5_init_4 : decode cX5_init 4 = .ok (.aload_n 0, 1) := by decide +kernel
theorem dX5_init_5 : decode cX5_init 5 = .ok (.sipush 160, 3) := by decide +kernel
theorem dX5_init_8 : decode cX5_init 8 = .ok (.newarray .int, 2) := by decide +kernel
theorem dX5_init_10 : decode cX5_init 10 = .ok (.putfield 9, 3) := by decide +kernel
theorem dX5_init_13 : decode cX5_init 13 = .ok (.return_, 1) := by decide +kernel
theorem dX5_add_0 : decode cX5_add 0 = .ok (.aload_n 0, 1) := by decide +kernel
theorem dX5_add_1 : decode cX5_add 1 = .ok (.getfield 15, 3) := by decide +kernel
theorem dX5_add_4 : decode cX5_add 4 = .ok (.ifCond .lt 35, 3) := by decide +kernel
theorem dX5_add_7 : decode cX5_add 7 = .ok (.aload_n 0, 1) := by decide +kernel
theorem dX5_add_8 : decode cX5_add 8 = .ok (.getfield 15, 3) := by decide +kernel
theorem dX5_add_11 : decode cX5_add 11 = .ok (.aload_n 0, 1) := by decide +kernel
theorem dX5_add_12 : decode cX5_add 12 = .ok (.getfield 9, 3) := by decide +kernel
theorem dX5_add_15 : decode cX5_add 15 = .ok (.arraylength, 1) := by decide +kernel
theorem dX5_add_16 : decode cX5_add 16 = .ok (.if_icmp .ge 23, 3) := by decide +kernel
theorem dX5_add_19 : decode cX5_add 19 = .ok (.aload_n 0, 1) := by decide +kernel
theorem dX5_add_20 : decode cX5_add 20 = .ok (.getfield 9, 3) := by decide +kernel
theorem dX5_add_23 : decode cX5_add 23 = .ok (.aload_n 0, 1) := by decide +kernel
theorem dX5_add_24 : decode cX5_add 24 = .ok (.getfield 15, 3) := by decide +kernel
theorem dX5_add_27 : decode cX5_add 27 = .ok (.iload_n 1, 1) := by decide +kernel
theorem dX5_add_28 : decode cX5_add 28 = .ok (.iastore, 1) := by decide +kernel
theorem dX5_add_29 : decode cX5_add 29 = .ok (.aload_n 0, 1) := by decide +kernel
theorem dX5_add_30 : decode cX5_add 30 = .ok (.dup, 1) := by decide +kernel
theorem dX5_add_31 : decode cX5_add 31 = .ok (.getfield 15, 3) := by decide +kernel
theorem dX5_add_34 : decode cX5_add 34 = .ok (.iconst 1, 1) := by decide +kernel
theorem dX5_add_35 : decode cX5_add 35 = .ok (.iadd, 1) := by decide +kernel
theorem dX5_add_36 : decode cX5_add 36 = .ok (.putfield 15, 3) := by decide +kernel
theorem dX5_add_39 : decode cX5_add 39 = .ok (.return_, 1) := by decide +kernel
theorem dX5_start_0 : decode cX5_start 0 = .ok (.aload_n 0, 1) := by decide +kernel
theorem dX5_start_1 : decode cX5_start 1 = .ok (.iconst 0, 1) := by decide +kernel
theorem dX5_start_2 : decode cX5_start 2 = .ok (.putfield 19, 3) := by decide +kernel
theorem dX5_start_5 : decode cX5_start 5 = .ok (.aload_n 0, 1) := by decide +kernel
theorem dX5_start_6 : decode cX5_start 6 = .ok (.invokevirtual 22, 3) := by decide +kernel
theorem dX5_start_9 : decode cX5_start 9 = .ok (.return_, 1) := by decide +kernel
theorem dX5_next_0 : decode cX5_next 0 = .ok (.aload_n 0, 1) := by decide +kernel
theorem dX5_next_1 : decode cX5_next 1 = .ok (.getfield 19, 3) := by decide +kernel
theorem dX5_next_4 : decode cX5_next 4 = .ok (.aload_n 0, 1) := by decide +kernel
theorem dX5_next_5 : decode cX5_next 5 = .ok (.getfield 15, 3) := by decide +kernel
theorem dX5_next_8 : decode cX5_next 8 = .ok (.if_icmp .ge 44, 3) := by decide +kernel
theorem dX5_next_11 : decode cX5_next 11 = .ok (.aload_n 0, 1) := by decide +kernel
theorem dX5_next_12 : decode cX5_next 12 = .ok (.getfield 9, 3) := by decide +kernel
theorem dX5_next_15 : decode cX5_next 15 = .ok (.aload_n 0, 1) := by decide +kernel
theorem dX5_next_16 : decode cX5_next 16 = .ok (.getfield 19, 3) := by decide +kernel
theorem dX5_next_19 : decode cX5_next 19 = .ok (.iaload, 1) := by decide +kernel
theorem dX5_next_20 : decode cX5_next 20 = .ok (.bipush 32, 2) := by decide +kernel
theorem dX5_next_22 : decode cX5_next 22 = .ok (.if_icmp .eq 17, 3) := by decide +kernel
theorem dX5_next_25 : decode cX5_next 25 = .ok (.aload_n 0, 1) := by decide +kernel
theorem dX5_next_26 : decode cX5_next 26 = .ok (.getfield 9, 3) := by decide +kernel
theorem dX5_next_29 : decode cX5_next 29 = .ok (.aload_n 0, 1) := by decide +kernel
theorem dX5_next_30 : decode cX5_next 30 = .ok (.getfield 19, 3) := by decide +kernel
theorem dX5_next_33 : decode cX5_next 33 = .ok (.iaload, 1) := by decide +kernel
theorem dX5_next_34 : decode cX5_next 34 = .ok (.bipush 10, 2) := by decide +kernel
theorem dX5_next_36 : decode cX5_next 36 = .ok (.if_icmp .ne 16, 3) := by decide +kernel
theorem dX5_next_39 : decode cX5_next 39 = .ok (.aload_n 0, 1) := by decide +kernel
theorem dX5_next_40 : decode cX5_next 40 = .ok (.dup, 1) := by decide +kernel
theorem dX5_next_41 : decode cX5_next 41 = .ok (.getfield 19, 3) := by decide +kernel
theorem dX5_next_44 : decode cX5_next 44 = .ok (.iconst 1, 1) := by decide +kernel
theorem dX5_next_45 : decode cX5_next 45 = .ok (.iadd, 1) := by decide +kernel
theorem dX5_next_46 : decode cX5_next 46 = .ok (.putfield 19, 3) := by decide +kernel
theorem dX5_next_49 : decode cX5_next 49 = .ok (.goto (-49), 3) := by decide +kernel
theorem dX5_next_52 : decode cX5_next 52 = .ok (.aload_n 0, 1) := by decide +kernel
theorem dX5_next_53 : decode cX5_next 53 = .ok (.aload_n 0, 1) := by decide +kernel
theorem dX5_next_54 : decode cX5_next 54 = .ok (.getfield 19, 3) := by decide +kernel
theorem dX5_next_57 : decode cX5_next 57 = .ok (.putfield 25, 3) := by decide +kernel
theorem dX5_next_60 : decode cX5_next 60 = .ok (.aload_n 0, 1) := by decide +kernel
theorem dX5_next_61 : decode cX5_next 61 = .ok (.getfield 19, 3) := by decide +kernel
theorem dX5_next_64 : decode cX5_next 64 = .ok (.aload_n 0, 1) := by decide +kernel
theorem dX5_next_65 : decode cX5_next 65 = .ok (.getfield 15, 3) := by decide +kernel
theorem dX5_next_68 : decode cX5_next 68 = .ok (.if_icmp .lt 11, 3) := by decide +kernel
theorem dX5_next_71 : decode cX5_next 71 = .ok (.aload_n 0, 1) := by decide +kernel
theorem dX5_next_72 : decode cX5_next 72 = .ok (.iconst 0, 1) := by decide +kernel
theorem dX5_next_73 : decode cX5_next 73 = .ok (.putfield 28, 3) := by decide +kernel
theorem dX5_next_76 : decode cX5_next 76 = .ok (.goto 81, 3) := by decide +kernel
theorem dX5_next_79 : decode cX5_next 79 = .ok (.aload_n 0, 1) := by decide +kernel
theorem dX5_next_80 : decode cX5_next 80 = .ok (.getfield 9, 3) := by decide +kernel
theorem dX5_next_83 : decode cX5_next 83 = .ok (.aload_n 0, 1) := by decide +kernel
theorem dX5_next_84 : decode cX5_next 84 = .ok (.getfield 19, 3) := by decide +kernel
theorem dX5_next_87 : decode cX5_next 87 = .ok (.iaload, 1) := by decide +kernel
theorem dX5_next_88 : decode cX5_next 88 = .ok (.invokestatic 31, 3) := by decide +kernel
theorem dX5_next_91 : decode cX5_next 91 = .ok (.ifCond .eq 14, 3) := by decide +kernel
theorem dX5_next_94 : decode cX5_next 94 = .ok (.aload_n 0, 1) := by decide +kernel
theorem dX5_next_95 : decode cX5_next 95 = .ok (.aload_n 0, 1) := by decide +kernel
theorem dX5_next_96 : decode cX5_next 96 = .ok (.invokevirtual 35, 3) := by decide +kernel
theorem dX5_next_99 : decode cX5_next 99 = .ok (.putfield 28, 3) := by decide +kernel
theorem dX5_next_102 : decode cX5_next 102 = .ok (.goto 55, 3) := by decide +kernel
theorem dX5_next_105 : decode cX5_next 105 = .ok (.aload_n 0, 1) := by decide +kernel
theorem dX5_next_106 : decode cX5_next 106 = .ok (.getfield 9, 3) := by decide +kernel
theorem dX5_next_109 : decode cX5_next 109 = .ok (.aload_n 0, 1) := by decide +kernel
theorem dX5_next_110 : decode cX5_next 110 = .ok (.getfield 19, 3) := by decide +kernel
theorem dX5_next_113 : decode cX5_next 113 = .ok (.iaload, 1) := by decide +kernel
theorem dX5_next_114 : decode cX5_next 114 = .ok (.invokestatic 39, 3) := by decide +kernel
theorem dX5_next_117 : decode cX5_next 117 = .ok (.ifCond .eq 14, 3) := by decide +kernel
theorem dX5_next_120 : decode cX5_next 120 = .ok (.aload_n 0, 1) := by decide +kernel
theorem dX5_next_121 : decode cX5_next 121 = .ok (.aload_n 0, 1) := by decide +kernel
theorem dX5_next_122 : decode cX5_next 122 = .ok (.invokevirtual 42, 3) := by decide +kernel
theorem dX5_next_125 : decode cX5_next 125 = .ok (.putfield 28, 3) := by decide +kernel
theorem dX5_next_128 : decode cX5_next 128 = .ok (.goto 29, 3) := by decide +kernel
theorem dX5_next_131 : decode cX5_next 131 = .ok (.aload_n 0, 1) := by decide +kernel
theorem dX5_next_132 : decode cX5_next 132 = .ok (.aload_n 0, 1) := by decide +kernel
theorem dX5_next_133 : decode cX5_next 133 = .ok (.getfield 9, 3) := by decide +kernel
theorem dX5_next_136 : decode cX5_next 136 = .ok (.aload_n 0, 1) := by decide +kernel
theorem dX5_next_137 : decode cX5_next 137 = .ok (.getfield 19, 3) := by decide +kernel
theorem dX5_next_140 : decode cX5_next 140 = .ok (.iaload, 1) := by decide +kernel
theorem dX5_next_141 : decode cX5_next 141 = .ok (.invokestatic 45, 3) := by decide +kernel
theorem dX5_next_144 : decode cX5_next 144 = .ok (.putfield 28, 3) := by decide +kernel
theorem dX5_next_147 : decode cX5_next 147 = .ok (.aload_n 0, 1) := by decide +kernel
theorem dX5_next_148 : decode cX5_next 148 = .ok (.dup, 1) := by decide +kernel
theorem dX5_next_149 : decode cX5_next 149 = .ok (.getfield 19, 3) := by decide +kernel
theorem dX5_next_152 : decode cX5_next 152 = .ok (.iconst 1, 1) := by decide +kernel
theorem dX5_next_153 : decode cX5_next 153 = .ok (.iadd, 1) := by decide +kernel
theorem dX5_next_154 : decode cX5_next 154 = .ok (.putfield 19, 3) := by decide +kernel
theorem dX5_next_157 : decode cX5_next 157 = .ok (.return_, 1) := by decide +kernel
theorem dX5_wordToken_0 : decode cX5_wordToken 0 = .ok (.aload_n 0, 1) := by decide +kernel
theorem dX5_wordToken_1 : decode cX5_wordToken 1 = .ok (.getfield 19, 3) := by decide +kernel
theorem dX5_wordToken_4 : decode cX5_wordToken 4 = .ok (.aload_n 0, 1) := by decide +kernel
theorem dX5_wordToken_5 : decode cX5_wordToken 5 = .ok (.getfield 15, 3) := by decide +kernel
theorem dX5_wordToken_8 : decode cX5_wordToken 8 = .ok (.if_icmp .ge 31, 3) := by decide +kernel
theorem dX5_wordToken_11 : decode cX5_wordToken 11 = .ok (.aload_n 0, 1) := by decide +kernel
theorem dX5_wordToken_12 : decode cX5_wordToken 12 = .ok (.getfield 9, 3) := by decide +kernel
theorem dX5_wordToken_15 : decode cX5_wordToken 15 = .ok (.aload_n 0, 1) := by decide +kernel
theorem dX5_wordToken_16 : decode cX5_wordToken 16 = .ok (.getfield 19, 3) := by decide +kernel
theorem dX5_wordToken_19 : decode cX5_wordToken 19 = .ok (.iaload, 1) := by decide +kernel
theorem dX5_wordToken_20 : decode cX5_wordToken 20 = .ok (.invokestatic 31, 3) := by decide +kernel
theorem dX5_wordToken_23 : decode cX5_wordToken 23 = .ok (.ifCond .eq 16, 3) := by decide +kernel
theorem dX5_wordToken_26 : decode cX5_wordToken 26 = .ok (.aload_n 0, 1) := by decide +kernel
theorem dX5_wordToken_27 : decode cX5_wordToken 27 = .ok (.dup, 1) := by decide +kernel
theorem dX5_wordToken_28 : decode cX5_wordToken 28 = .ok (.getfield 19, 3) := by decide +kernel
theorem dX5_wordToken_31 : decode cX5_wordToken 31 = .ok (.iconst 1, 1) := by decide +kernel
theorem dX5_wordToken_32 : decode cX5_wordToken 32 = .ok (.iadd, 1) := by decide +kernel
theorem dX5_wordToken_33 : decode cX5_wordToken 33 = .ok (.putfield 19, 3) := by decide +kernel
theorem dX5_wordToken_36 : decode cX5_wordToken 36 = .ok (.goto (-36), 3) := by decide +kernel
theorem dX5_wordToken_39 : decode cX5_wordToken 39 = .ok (.aload_n 0, 1) := by decide +kernel
theorem dX5_wordToken_40 : decode cX5_wordToken 40 = .ok (.ldc 49, 2) := by decide +kernel
theorem dX5_wordToken_42 : decode cX5_wordToken 42 = .ok (.invokevirtual 51, 3) := by decide +kernel
theorem dX5_wordToken_45 : decode cX5_wordToken 45 = .ok (.ifCond .eq 7, 3) := by decide +kernel
theorem dX5_wordToken_48 : decode cX5_wordToken 48 = .ok (.iconst (-1), 1) := by decide +kernel
theorem dX5_wordToken_49 : decode cX5_wordToken 49 = .ok (.goto 158, 3) := by decide +kernel
theorem dX5_wordToken_52 : decode cX5_wordToken 52 = .ok (.aload_n 0, 1) := by decide +kernel
theorem dX5_wordToken_53 : decode cX5_wordToken 53 = .ok (.ldc 55, 2) := by decide +kernel
theorem dX5_wordToken_55 : decode cX5_wordToken 55 = .ok (.invokevirtual 51, 3) := by decide +kernel
theorem dX5_wordToken_58 : decode cX5_wordToken 58 = .ok (.ifCond .eq 8, 3) := by decide +kernel
theorem dX5_wordToken_61 : decode cX5_wordToken 61 = .ok (.bipush (-2), 2) := by decide +kernel
theorem dX5_wordToken_63 : decode cX5_wordToken 63 = .ok (.goto 144, 3) := by decide +kernel
theorem dX5_wordToken_66 : decode cX5_wordToken 66 = .ok (.aload_n 0, 1) := by decide +kernel
theorem dX5_wordToken_67 : decode cX5_wordToken 67 = .ok (.ldc 57, 2) := by decide +kernel
theorem dX5_wordToken_69 : decode cX5_wordToken 69 = .ok (.invokevirtual 51, 3) := by decide +kernel
theorem dX5_wordToken_72 : decode cX5_wordToken 72 = .ok (.ifCond .eq 8, 3) := by decide +kernel
theorem dX5_wordToken_75 : decode cX5_wordToken 75 = .ok (.bipush (-3), 2) := by decide +kernel
theorem dX5_wordToken_77 : decode cX5_wordToken 77 = .ok (.goto 130, 3) := by decide +kernel
theorem dX5_wordToken_80 : decode cX5_wordToken 80 = .ok (.aload_n 0, 1) := by decide +kernel
theorem dX5_wordToken_81 : decode cX5_wordToken 81 = .ok (.ldc 59, 2) := by decide +kernel
theorem dX5_wordToken_83 : decode cX5_wordToken 83 = .ok (.invokevirtual 51, 3) := by decide +kernel
theorem dX5_wordToken_86 : decode cX5_wordToken 86 = .ok (.ifCond .eq 8, 3) := by decide +kernel
theorem dX5_wordToken_89 : decode cX5_wordToken 89 = .ok (.bipush (-4), 2) := by decide +kernel
theorem dX5_wordToken_91 : decode cX5_wordToken 91 = .ok (.goto 116, 3) := by decide +kernel
theorem dX5_wordToken_94 : decode cX5_wordToken 94 = .ok (.aload_n 0, 1) := by decide +kernel
theorem dX5_wordToken_95 : decode cX5_wordToken 95 = .ok (.ldc 61, 2) := by decide +kernel
theorem dX5_wordToken_97 : decode cX5_wordToken 97 = .ok (.invokevirtual 51, 3) := by decide +kernel
theorem dX5_wordToken_100 : decode cX5_wordToken 100 = .ok (.ifCond .eq 8, 3) := by decide +kernel
theorem dX5_wordToken_103 : decode cX5_wordToken 103 = .ok (.bipush (-5), 2) := by decide +kernel
theorem dX5_wordToken_105 : decode cX5_wordToken 105 = .ok (.goto 102, 3) := by decide +kernel
theorem dX5_wordToken_108 : decode cX5_wordToken 108 = .ok (.aload_n 0, 1) := by decide +kernel
theorem dX5_wordToken_109 : decode cX5_wordToken 109 = .ok (.ldc 63, 2) := by decide +kernel
theorem dX5_wordToken_111 : decode cX5_wordToken 111 = .ok (.invokevirtual 51, 3) := by decide +kernel
theorem dX5_wordToken_114 : decode cX5_wordToken 114 = .ok (.ifCond .eq 8, 3) := by decide +kernel
theorem dX5_wordToken_117 : decode cX5_wordToken 117 = .ok (.bipush (-6), 2) := by decide +kernel
theorem dX5_wordToken_119 : decode cX5_wordToken 119 = .ok (.goto 88, 3) := by decide +kernel
theorem dX5_wordToken_122 : decode cX5_wordToken 122 = .ok (.aload_n 0, 1) := by decide +kernel
theorem dX5_wordToken_123 : decode cX5_wordToken 123 = .ok (.ldc 65, 2) := by decide +kernel
theorem dX5_wordToken_125 : decode cX5_wordToken 125 = .ok (.invokevirtual 51, 3) := by decide +kernel
theorem dX5_wordToken_128 : decode cX5_wordToken 128 = .ok (.ifCond .eq 8, 3) := by decide +kernel
theorem dX5_wordToken_131 : decode cX5_wordToken 131 = .ok (.bipush (-7), 2) := by decide +kernel
theorem dX5_wordToken_133 : decode cX5_wordToken 133 = .ok (.goto 74, 3) := by decide +kernel
theorem dX5_wordToken_136 : decode cX5_wordToken 136 = .ok (.aload_n 0, 1) := by decide +kernel
theorem dX5_wordToken_137 : decode cX5_wordToken 137 = .ok (.ldc 67, 2) := by decide +kernel
theorem dX5_wordToken_139 : decode cX5_wordToken 139 = .ok (.invokevirtual 51, 3) := by decide +kernel
theorem dX5_wordToken_142 : decode cX5_wordToken 142 = .ok (.ifCond .eq 8, 3) := by decide +kernel
theorem dX5_wordToken_145 : decode cX5_wordToken 145 = .ok (.bipush (-8), 2) := by decide +kernel
theorem dX5_wordToken_147 : decode cX5_wordToken 147 = .ok (.goto 60, 3) := by decide +kernel
theorem dX5_wordToken_150 : decode cX5_wordToken 150 = .ok (.aload_n 0, 1) := by decide +kernel
theorem dX5_wordToken_151 : decode cX5_wordToken 151 = .ok (.ldc 69, 2) := by decide +kernel
theorem dX5_wordToken_153 : decode cX5_wordToken 153 = .ok (.invokevirtual 51, 3) := by decide +kernel
theorem dX5_wordToken_156 : decode cX5_wordToken 156 = .ok (.ifCond .eq 8, 3) := by decide +kernel
theorem dX5_wordToken_159 : decode cX5_wordToken 159 = .ok (.bipush (-9), 2) := by decide +kernel
theorem dX5_wordToken_161 : decode cX5_wordToken 161 = .ok (.goto 46, 3) := by decide +kernel
theorem dX5_wordToken_164 : decode cX5_wordToken 164 = .ok (.aload_n 0, 1) := by decide +kernel
theorem dX5_wordToken_165 : decode cX5_wordToken 165 = .ok (.ldc 71, 2) := by decide +kernel
theorem dX5_wordToken_167 : decode cX5_wordToken 167 = .ok (.invokevirtual 51, 3) := by decide +kernel
theorem dX5_wordToken_170 : decode cX5_wordToken 170 = .ok (.ifCond .eq 8, 3) := by decide +kernel
theorem dX5_wordToken_173 : decode cX5_wordToken 173 = .ok (.bipush (-10), 2) := by decide +kernel
theorem dX5_wordToken_175 : decode cX5_wordToken 175 = .ok (.goto 32, 3) := by decide +kernel
theorem dX5_wordToken_178 : decode cX5_wordToken 178 = .ok (.aload_n 0, 1) := by decide +kernel
theorem dX5_wordToken_179 : decode cX5_wordToken 179 = .ok (.ldc 73, 2) := by decide +kernel
theorem dX5_wordToken_181 : decode cX5_wordToken 181 = .ok (.invokevirtual 51, 3) := by decide +kernel
theorem dX5_wordToken_184 : decode cX5_wordToken 184 = .ok (.ifCond .eq 8, 3) := by decide +kernel
theorem dX5_wordToken_187 : decode cX5_wordToken 187 = .ok (.bipush (-11), 2) := by decide +kernel
theorem dX5_wordToken_189 : decode cX5_wordToken 189 = .ok (.goto 18, 3) := by decide +kernel
theorem dX5_wordToken_192 : decode cX5_wordToken 192 = .ok (.aload_n 0, 1) := by decide +kernel
theorem dX5_wordToken_193 : decode cX5_wordToken 193 = .ok (.ldc 75, 2) := by decide +kernel
theorem dX5_wordToken_195 : decode cX5_wordToken 195 = .ok (.invokevirtual 51, 3) := by decide +kernel
theorem dX5_wordToken_198 : decode cX5_wordToken 198 = .ok (.ifCond .eq 8, 3) := by decide +kernel
theorem dX5_wordToken_201 : decode cX5_wordToken 201 = .ok (.bipush (-12), 2) := by decide +kernel
theorem dX5_wordToken_203 : decode cX5_wordToken 203 = .ok (.goto 4, 3) := by decide +kernel
theorem dX5_wordToken_206 : decode cX5_wordToken 206 = .ok (.iconst 1, 1) := by decide +kernel
theorem dX5_wordToken_207 : decode cX5_wordToken 207 = .ok (.ireturn, 1) := by decide +kernel
theorem dX5_spells_0 : decode cX5_spells 0 = .ok (.aload_n 0, 1) := by decide +kernel
theorem dX5_spells_1 : decode cX5_spells 1 = .ok (.getfield 19, 3) := by decide +kernel
theorem dX5_spells_4 : decode cX5_spells 4 = .ok (.aload_n 0, 1) := by decide +kernel
theorem dX5_spells_5 : decode cX5_spells 5 = .ok (.getfield 25, 3) := by decide +kernel
theorem dX5_spells_8 : decode cX5_spells 8 = .ok (.isub, 1) := by decide +kernel
theorem dX5_spells_9 : decode cX5_spells 9 = .ok (.aload_n 1, 1) := by decide +kernel
theorem dX5_spells_10 : decode cX5_spells 10 = .ok (.invokevirtual 77, 3) := by decide +kernel
theorem dX5_spells_13 : decode cX5_spells 13 = .ok (.if_icmp .eq 5, 3) := by decide +kernel
theorem dX5_spells_16 : decode cX5_spells 16 = .ok (.iconst 0, 1) := by decide +kernel
theorem dX5_spells_17 : decode cX5_spells 17 = .ok (.ireturn, 1) := by decide +kernel
theorem dX5_spells_18 : decode cX5_spells 18 = .ok (.iconst 0, 1) := by decide +kernel
theorem dX5_spells_19 : decode cX5_spells 19 = .ok (.istore_n 2, 1) := by decide +kernel
theorem dX5_spells_20 : decode cX5_spells 20 = .ok (.iload_n 2, 1) := by decide +kernel
theorem dX5_spells_21 : decode cX5_spells 21 = .ok (.aload_n 1, 1) := by decide +kernel
theorem dX5_spells_22 : decode cX5_spells 22 = .ok (.invokevirtual 77, 3) := by decide +kernel
theorem dX5_spells_25 : decode cX5_spells 25 = .ok (.if_icmp .ge 30, 3) := by decide +kernel
theorem dX5_spells_28 : decode cX5_spells 28 = .ok (.aload_n 0, 1) := by decide +kernel
theorem dX5_spells_29 : decode cX5_spells 29 = .ok (.getfield 9, 3) := by decide +kernel
theorem dX5_spells_32 : decode cX5_spells 32 = .ok (.aload_n 0, 1) := by decide +kernel
theorem dX5_spells_33 : decode cX5_spells 33 = .ok (.getfield 25, 3) := by decide +kernel
theorem dX5_spells_36 : decode cX5_spells 36 = .ok (.iload_n 2, 1) := by decide +kernel
theorem dX5_spells_37 : decode cX5_spells 37 = .ok (.iadd, 1) := by decide +kernel
theorem dX5_spells_38 : decode cX5_spells 38 = .ok (.iaload, 1) := by decide +kernel
theorem dX5_spells_39 : decode cX5_spells 39 = .ok (.aload_n 1, 1) := by decide +kernel
theorem dX5_spells_40 : decode cX5_spells 40 = .ok (.iload_n 2, 1) := by decide +kernel
theorem dX5_spells_41 : decode cX5_spells 41 = .ok (.invokevirtual 82, 3) := by decide +kernel
theorem dX5_spells_44 : decode cX5_spells 44 = .ok (.if_icmp .eq 5, 3) := by decide +kernel
theorem dX5_spells_47 : decode cX5_spells 47 = .ok (.iconst 0, 1) := by decide +kernel
theorem dX5_spells_48 : decode cX5_spells 48 = .ok (.ireturn, 1) := by decide +kernel
theorem dX5_spells_49 : decode cX5_spells 49 = .ok (.iinc 2 1, 3) := by decide +kernel
theorem dX5_spells_52 : decode cX5_spells 52 = .ok (.goto (-32), 3) := by decide +kernel
theorem dX5_spells_55 : decode cX5_spells 55 = .ok (.iconst 1, 1) := by decide +kernel
theorem dX5_spells_56 : decode cX5_spells 56 = .ok (.ireturn, 1) := by decide +kernel
theorem dX5_numberToken_0 : decode cX5_numberToken 0 = .ok (.aload_n 0, 1) := by decide +kernel
theorem dX5_numberToken_1 : decode cX5_numberToken 1 = .ok (.iconst 0, 1) := by decide +kernel
theorem dX5_numberToken_2 : decode cX5_numberToken 2 = .ok (.putfield 86, 3) := by decide +kernel
theorem dX5_numberToken_5 : decode cX5_numberToken 5 = .ok (.aload_n 0, 1) := by decide +kernel
theorem dX5_numberToken_6 : decode cX5_numberToken 6 = .ok (.getfield 19, 3) := by decide +kernel
theorem dX5_numberToken_9 : decode cX5_numberToken 9 = .ok (.aload_n 0, 1) := by decide +kernel
theorem dX5_numberToken_10 : decode cX5_numberToken 10 = .ok (.getfield 15, 3) := by decide +kernel
theorem dX5_numberToken_13 : decode cX5_numberToken 13 = .ok (.if_icmp .ge 55, 3) := by decide +kernel
theorem dX5_numberToken_16 : decode cX5_numberToken 16 = .ok (.aload_n 0, 1) := by decide +kernel
theorem dX5_numberToken_17 : decode cX5_numberToken 17 = .ok (.getfield 9, 3) := by decide +kernel
theorem dX5_numberToken_20 : decode cX5_numberToken 20 = .ok (.aload_n 0, 1) := by decide +kernel
theorem dX5_numberToken_21 : decode cX5_numberToken 21 = .ok (.getfield 19, 3) := by decide +kernel
theorem dX5_numberToken_24 : decode cX5_numberToken 24 = .ok (.iaload, 1) := by decide +kernel
theorem dX5_numberToken_25 : decode cX5_numberToken 25 = .ok (.invokestatic 39, 3) := by decide +kernel
theorem dX5_numberToken_28 : decode cX5_numberToken 28 = .ok (.ifCond .eq 40, 3) := by decide +kernel
theorem dX5_numberToken_31 : decode cX5_numberToken 31 = .ok (.aload_n 0, 1) := by decide +kernel
theorem dX5_numberToken_32 : decode cX5_numberToken 32 = .ok (.aload_n 0, 1) := by decide +kernel
theorem dX5_numberToken_33 : decode cX5_numberToken 33 = .ok (.getfield 86, 3) := by decide +kernel
theorem dX5_numberToken_36 : decode cX5_numberToken 36 = .ok (.bipush 10, 2) := by decide +kernel
theorem dX5_numberToken_38 : decode cX5_numberToken 38 = .ok (.imul, 1) := by decide +kernel
theorem dX5_numberToken_39 : decode cX5_numberToken 39 = .ok (.aload_n 0, 1) := by decide +kernel
theorem dX5_numberToken_40 : decode cX5_numberToken 40 = .ok (.getfield 9, 3) := by decide +kernel
theorem dX5_numberToken_43 : decode cX5_numberToken 43 = .ok (.aload_n 0, 1) := by decide +kernel
theorem dX5_numberToken_44 : decode cX5_numberToken 44 = .ok (.getfield 19, 3) := by decide +kernel
theorem dX5_numberToken_47 : decode cX5_numberToken 47 = .ok (.iaload, 1) := by decide +kernel
theorem dX5_numberToken_48 : decode cX5_numberToken 48 = .ok (.iadd, 1) := by decide +kernel
theorem dX5_numberToken_49 : decode cX5_numberToken 49 = .ok (.bipush 48, 2) := by decide +kernel
theorem dX5_numberToken_51 : decode cX5_numberToken 51 = .ok (.isub, 1) := by decide +kernel
theorem dX5_numberToken_52 : decode cX5_numberToken 52 = .ok (.putfield 86, 3) := by decide +kernel
theorem dX5_numberToken_55 : decode cX5_numberToken 55 = .ok (.aload_n 0, 1) := by decide +kernel
theorem dX5_numberToken_56 : decode cX5_numberToken 56 = .ok (.dup, 1) := by decide +kernel
theorem dX5_numberToken_57 : decode cX5_numberToken 57 = .ok (.getfield 19, 3) := by decide +kernel
theorem dX5_numberToken_60 : decode cX5_numberToken 60 = .ok (.iconst 1, 1) := by decide +kernel
theorem dX5_numberToken_61 : decode cX5_numberToken 61 = .ok (.iadd, 1) := by decide +kernel
theorem dX5_numberToken_62 : decode cX5_numberToken 62 = .ok (.putfield 19, 3) := by decide +kernel
theorem dX5_numberToken_65 : decode cX5_numberToken 65 = .ok (.goto (-60), 3) := by decide +kernel
theorem dX5_numberToken_68 : decode cX5_numberToken 68 = .ok (.aload_n 0, 1) := by decide +kernel
theorem dX5_numberToken_69 : decode cX5_numberToken 69 = .ok (.getfield 19, 3) := by decide +kernel
theorem dX5_numberToken_72 : decode cX5_numberToken 72 = .ok (.aload_n 0, 1) := by decide +kernel
theorem dX5_numberToken_73 : decode cX5_numberToken 73 = .ok (.getfield 25, 3) := by decide +kernel
theorem dX5_numberToken_76 : decode cX5_numberToken 76 = .ok (.isub, 1) := by decide +kernel
theorem dX5_numberToken_77 : decode cX5_numberToken 77 = .ok (.iconst 4, 1) := by decide +kernel
theorem dX5_numberToken_78 : decode cX5_numberToken 78 = .ok (.if_icmp .le 7, 3) := by decide +kernel
theorem dX5_numberToken_81 : decode cX5_numberToken 81 = .ok (.iconst 1, 1) := by decide +kernel
theorem dX5_numberToken_82 : decode cX5_numberToken 82 = .ok (.goto 4, 3) := by decide +kernel
theorem dX5_numberToken_85 : decode cX5_numberToken 85 = .ok (.iconst 2, 1) := by decide +kernel
theorem dX5_numberToken_86 : decode cX5_numberToken 86 = .ok (.ireturn, 1) := by decide +kernel
theorem dX5_signToken_0 : decode cX5_signToken 0 = .ok (.iload_n 0, 1) := by decide +kernel
theorem dX5_signToken_1 : decode cX5_signToken 1 = .ok (.tableswitch 105 40 61 #[103, 103, 103, 103, 105, 103, 105, 105, 105, 105, 105, 105, 105, 105, 105, 105, 105, 105, 105, 103, 103, 103], 103) := by decide +kernel
theorem dX5_signToken_104 : decode cX5_signToken 104 = .ok (.iload_n 0, 1) := by decide +kernel
theorem dX5_signToken_105 : decode cX5_signToken 105 = .ok (.ireturn, 1) := by decide +kernel
theorem dX5_signToken_106 : decode cX5_signToken 106 = .ok (.iconst 1, 1) := by decide +kernel
theorem dX5_signToken_107 : decode cX5_signToken 107 = .ok (.ireturn, 1) := by decide +kernel
theorem dX5_isLetter_0 : decode cX5_isLetter 0 = .ok (.iload_n 0, 1) := by decide +kernel
theorem dX5_isLetter_1 : decode cX5_isLetter 1 = .ok (.bipush 97, 2) := by decide +kernel
theorem dX5_isLetter_3 : decode cX5_isLetter 3 = .ok (.if_icmp .lt 13, 3) := by decide +kernel
theorem dX5_isLetter_6 : decode cX5_isLetter 6 = .ok (.iload_n 0, 1) := by decide +kernel
theorem dX5_isLetter_7 : decode cX5_isLetter 7 = .ok (.bipush 122, 2) := by decide +kernel
theorem dX5_isLetter_9 : decode cX5_isLetter 9 = .ok (.if_icmp .gt 7, 3) := by decide +kernel
theorem dX5_isLetter_12 : decode cX5_isLetter 12 = .ok (.iconst 1, 1) := by decide +kernel
theorem dX5_isLetter_13 : decode cX5_isLetter 13 = .ok (.goto 4, 3) := by decide +kernel
theorem dX5_isLetter_16 : decode cX5_isLetter 16 = .ok (.iconst 0, 1) := by decide +kernel
theorem dX5_isLetter_17 : decode cX5_isLetter 17 = .ok (.ireturn, 1) := by decide +kernel
theorem dX5_isDigit_0 : decode cX5_isDigit 0 = .ok (.iload_n 0, 1) := by decide +kernel
theorem dX5_isDigit_1 : decode cX5_isDigit 1 = .ok (.bipush 48, 2) := by decide +kernel
theorem dX5_isDigit_3 : decode cX5_isDigit 3 = .ok (.if_icmp .lt 13, 3) := by decide +kernel
theorem dX5_isDigit_6 : decode cX5_isDigit 6 = .ok (.iload_n 0, 1) := by decide +kernel
theorem dX5_isDigit_7 : decode cX5_isDigit 7 = .ok (.bipush 57, 2) := by decide +kernel
theorem dX5_isDigit_9 : decode cX5_isDigit 9 = .ok (.if_icmp .gt 7, 3) := by decide +kernel
theorem dX5_isDigit_12 : decode cX5_isDigit 12 = .ok (.iconst 1, 1) := by decide +kernel
theorem dX5_isDigit_13 : decode cX5_isDigit 13 = .ok (.goto 4, 3) := by decide +kernel
theorem dX5_isDigit_16 : decode cX5_isDigit 16 = .ok (.iconst 0, 1) := by decide +kernel
theorem dX5_isDigit_17 : decode cX5_isDigit 17 = .ok (.ireturn, 1) := by decide +kernel
theorem dX6_init_0 : decode cX6_init 0 = .ok (.aload_n 0, 1) := by decide +kernel
theorem dX6_init_1 : decode cX6_init 1 = .ok (.invokespecial 3, 3) := by decide +kernel
theorem dX6_init_4 : decode cX6_init 4 = .ok (.aload_n 0, 1) := by decide +kernel
theorem dX6_init_5 : decode cX6_init 5 = .ok (.iload_n 1, 1) := by decide +kernel
theorem dX6_init_6 : decode cX6_init 6 = .ok (.putfield 9, 3) := by decide +kernel
theorem dX6_init_9 : decode cX6_init 9 = .ok (.aload_n 0, 1) := by decide +kernel
theorem dX6_init_10 : decode cX6_init 10 = .ok (.aload_n 2, 1) := by decide +kernel
theorem dX6_init_11 : decode cX6_init 11 = .ok (.putfield 15, 3) := by decide +kernel
theorem dX6_init_14 : decode cX6_init 14 = .ok (.aload_n 0, 1) := by decide +kernel
theorem dX6_init_15 : decode cX6_init 15 = .ok (.aload_n 3, 1) := by decide +kernel
theorem dX6_init_16 : decode cX6_init 16 = .ok (.putfield 19, 3) := by decide +kernel
theorem dX6_init_19 : decode cX6_init 19 = .ok (.aload_n 0, 1) := by decide +kernel
theorem dX6_init_20 : decode cX6_init 20 = .ok (.aload 4, 2) := by decide +kernel
theorem dX6_init_22 : decode cX6_init 22 = .ok (.putfield 22, 3) := by decide +kernel
theorem dX6_init_25 : decode cX6_init 25 = .ok (.return_, 1) := by decide +kernel
theorem dX6_says_0 : decode cX6_says 0 = .ok (.iload_n 1, 1) := by decide +kernel
theorem dX6_says_1 : decode cX6_says 1 = .ok (.ifCond .lt 14, 3) := by decide +kernel
theorem dX6_says_4 : decode cX6_says 4 = .ok (.iload_n 1, 1) := by decide +kernel
theorem dX6_says_5 : decode cX6_says 5 = .ok (.iconst 1, 1) := by decide +kernel
theorem dX6_says_6 : decode cX6_says 6 = .ok (.iadd, 1) := by decide +kernel
theorem dX6_says_7 : decode cX6_says 7 = .ok (.aload_n 0, 1) := by decide +kernel
theorem dX6_says_8 : decode cX6_says 8 = .ok (.getfield 19, 3) := by decide +kernel
theorem dX6_says_11 : decode cX6_says 11 = .ok (.arraylength, 1) := by decide +kernel
theorem dX6_says_12 : decode cX6_says 12 = .ok (.if_icmp .lt 5, 3) := by decide +kernel
theorem dX6_says_15 : decode cX6_says 15 = .ok (.iconst 0, 1) := by decide +kernel
theorem dX6_says_16 : decode cX6_says 16 = .ok (.ireturn, 1) := by decide +kernel
theorem dX6_says_17 : decode cX6_says 17 = .ok (.aload_n 0, 1) := by decide +kernel
theorem dX6_says_18 : decode cX6_says 18 = .ok (.getfield 22, 3) := by decide +kernel
theorem dX6_says_21 : decode cX6_says 21 = .ok (.iconst 0, 1) := by decide +kernel
theorem dX6_says_22 : decode cX6_says 22 = .ok (.putfield 26, 3) := by decide +kernel
theorem dX6_says_25 : decode cX6_says 25 = .ok (.aload_n 0, 1) := by decide +kernel
theorem dX6_says_26 : decode cX6_says 26 = .ok (.getfield 19, 3) := by decide +kernel
theorem dX6_says_29 : decode cX6_says 29 = .ok (.iload_n 1, 1) := by decide +kernel
theorem dX6_says_30 : decode cX6_says 30 = .ok (.iaload, 1) := by decide +kernel
theorem dX6_says_31 : decode cX6_says 31 = .ok (.istore 4, 2) := by decide +kernel
theorem dX6_says_33 : decode cX6_says 33 = .ok (.iload 4, 2) := by decide +kernel
theorem dX6_says_35 : decode cX6_says 35 = .ok (.aload_n 0, 1) := by decide +kernel
theorem dX6_says_36 : decode cX6_says 36 = .ok (.getfield 19, 3) := by decide +kernel
theorem dX6_says_39 : decode cX6_says 39 = .ok (.iload_n 1, 1) := by decide +kernel
theorem dX6_says_40 : decode cX6_says 40 = .ok (.iconst 1, 1) := by decide +kernel
theorem dX6_says_41 : decode cX6_says 41 = .ok (.iadd, 1) := by decide +kernel
theorem dX6_says_42 : decode cX6_says 42 = .ok (.iaload, 1) := by decide +kernel
theorem dX6_says_43 : decode cX6_says 43 = .ok (.if_icmp .ge 156, 3) := by decide +kernel
theorem dX6_says_46 : decode cX6_says 46 = .ok (.iload 4, 2) := by decide +kernel
theorem dX6_says_48 : decode cX6_says 48 = .ok (.aload_n 0, 1) := by decide +kernel
theorem dX6_says_49 : decode cX6_says 49 = .ok (.getfield 15, 3) := by decide +kernel
theorem dX6_says_52 : decode cX6_says 52 = .ok (.arraylength, 1) := by decide +kernel
theorem dX6_says_53 : decode cX6_says 53 = .ok (.if_icmp .ge 146, 3) := by decide +kernel
theorem dX6_says_56 : decode cX6_says 56 = .ok (.aload_n 0, 1) := by decide +kernel
theorem dX6_says_57 : decode cX6_says 57 = .ok (.getfield 15, 3) := by decide +kernel
theorem dX6_says_60 : decode cX6_says 60 = .ok (.iload 4, 2) := by decide +kernel
theorem dX6_says_62 : decode cX6_says 62 = .ok (.iaload, 1) := by decide +kernel
theorem dX6_says_63 : decode cX6_says 63 = .ok (.istore 5, 2) := by decide +kernel
theorem dX6_says_65 : decode cX6_says 65 = .ok (.iload 5, 2) := by decide +kernel
theorem dX6_says_67 : decode cX6_says 67 = .ok (.ifCond .lt 15, 3) := by decide +kernel
theorem dX6_says_70 : decode cX6_says 70 = .ok (.aload_n 0, 1) := by decide +kernel
theorem dX6_says_71 : decode cX6_says 71 = .ok (.getfield 22, 3) := by decide +kernel
theorem dX6_says_74 : decode cX6_says 74 = .ok (.iload 5, 2) := by decide +kernel
theorem dX6_says_76 : decode cX6_says 76 = .ok (.invokevirtual 31, 3) := by decide +kernel
theorem dX6_says_79 : decode cX6_says 79 = .ok (.goto 114, 3) := by decide +kernel
theorem dX6_says_82 : decode cX6_says 82 = .ok (.iload 5, 2) := by decide +kernel
theorem dX6_says_84 : decode cX6_says 84 = .ok (.bipush (-6), 2) := by decide +kernel
theorem dX6_says_86 : decode cX6_says 86 = .ok (.if_icmp .lt 20, 3) := by decide +kernel
theorem dX6_says_89 : decode cX6_says 89 = .ok (.aload_n 0, 1) := by decide +kernel
theorem dX6_says_90 : decode cX6_says 90 = .ok (.getfield 22, 3) := by decide +kernel
theorem dX6_says_93 : decode cX6_says 93 = .ok (.iload 5, 2) := by decide +kernel
theorem dX6_says_95 : decode cX6_says 95 = .ok (.aload_n 2, 1) := by decide +kernel
theorem dX6_says_96 : decode cX6_says 96 = .ok (.iload_n 3, 1) := by decide +kernel
theorem dX6_says_97 : decode cX6_says 97 = .ok (.invokestatic 35, 3) := by decide +kernel
theorem dX6_says_100 : decode cX6_says 100 = .ok (.invokevirtual 31, 3) := by decide +kernel
theorem dX6_says_103 : decode cX6_says 103 = .ok (.goto 90, 3) := by decide +kernel
theorem dX6_says_106 : decode cX6_says 106 = .ok (.iload 5, 2) := by decide +kernel
theorem dX6_says_108 : decode cX6_says 108 = .ok (.bipush (-9), 2) := by decide +kernel
theorem dX6_says_110 : decode cX6_says 110 = .ok (.if_icmp .ne 28, 3) := by decide +kernel
theorem dX6_says_113 : decode cX6_says 113 = .ok (.aload_n 0, 1) := by decide +kernel
theorem dX6_says_114 : decode cX6_says 114 = .ok (.getfield 22, 3) := by decide +kernel
theorem dX6_says_117 : decode cX6_says 117 = .ok (.aload_n 0, 1) := by decide +kernel
theorem dX6_says_118 : decode cX6_says 118 = .ok (.getfield 22, 3) := by decide +kernel
theorem dX6_says_121 : decode cX6_says 121 = .ok (.invokevirtual 39, 3) := by decide +kernel
theorem dX6_says_124 : decode cX6_says 124 = .ok (.ifCond .ne 7, 3) := by decide +kernel
theorem dX6_says_127 : decode cX6_says 127 = .ok (.iconst 1, 1) := by decide +kernel
theorem dX6_says_128 : decode cX6_says 128 = .ok (.goto 4, 3) := by decide +kernel
theorem dX6_says_131 : decode cX6_says 131 = .ok (.iconst 0, 1) := by decide +kernel
theorem dX6_says_132 : decode cX6_says 132 = .ok (.invokevirtual 31, 3) := by decide +kernel
theorem dX6_says_135 : decode cX6_says 135 = .ok (.goto 58, 3) := by decide +kernel
theorem dX6_says_138 : decode cX6_says 138 = .ok (.iload 5, 2) := by decide +kernel
theorem dX6_says_140 : decode cX6_says 140 = .ok (.bipush (-18), 2) := by decide +kernel
theorem dX6_says_142 : decode cX6_says 142 = .ok (.if_icmp .ne 21, 3) := by decide +kernel
theorem dX6_says_145 : decode cX6_says 145 = .ok (.aload_n 0, 1) := by decide +kernel
theorem dX6_says_146 : decode cX6_says 146 = .ok (.getfield 22, 3) := by decide +kernel
theorem dX6_says_149 : decode cX6_says 149 = .ok (.aload_n 0, 1) := by decide +kernel
theorem dX6_says_150 : decode cX6_says 150 = .ok (.getfield 22, 3) := by decide +kernel
theorem dX6_says_153 : decode cX6_says 153 = .ok (.invokevirtual 39, 3) := by decide +kernel
theorem dX6_says_156 : decode cX6_says 156 = .ok (.ineg, 1) := by decide +kernel
theorem dX6_says_157 : decode cX6_says 157 = .ok (.invokevirtual 31, 3) := by decide +kernel
theorem dX6_says_160 : decode cX6_says 160 = .ok (.goto 33, 3) := by decide +kernel
theorem dX6_says_163 : decode cX6_says 163 = .ok (.aload_n 0, 1) := by decide +kernel
theorem dX6_says_164 : decode cX6_says 164 = .ok (.getfield 22, 3) := by decide +kernel
theorem dX6_says_167 : decode cX6_says 167 = .ok (.invokevirtual 39, 3) := by decide +kernel
theorem dX6_says_170 : decode cX6_says 170 = .ok (.istore 6, 2) := by decide +kernel
theorem dX6_says_172 : decode cX6_says 172 = .ok (.aload_n 0, 1) := by decide +kernel
theorem dX6_says_173 : decode cX6_says 173 = .ok (.getfield 22, 3) := by decide +kernel
theorem dX6_says_176 : decode cX6_says 176 = .ok (.iload 5, 2) := by decide +kernel
theorem dX6_says_178 : decode cX6_says 178 = .ok (.aload_n 0, 1) := by decide +kernel
theorem dX6_says_179 : decode cX6_says 179 = .ok (.getfield 22, 3) := by decide +kernel
theorem dX6_says_182 : decode cX6_says 182 = .ok (.invokevirtual 39, 3) := by decide +kernel
theorem dX6_says_185 : decode cX6_says 185 = .ok (.iload 6, 2) := by decide +kernel
theorem dX6_says_187 : decode cX6_says 187 = .ok (.invokestatic 43, 3) := by decide +kernel
theorem dX6_says_190 : decode cX6_says 190 = .ok (.invokevirtual 31, 3) := by decide +kernel
theorem dX6_says_193 : decode cX6_says 193 = .ok (.iinc 4 1, 3) := by decide +kernel
theorem dX6_says_196 : decode cX6_says 196 = .ok (.goto (-163), 3) := by decide +kernel
theorem dX6_says_199 : decode cX6_says 199 = .ok (.iload_n 1, 1) := by decide +kernel
theorem dX6_says_200 : decode cX6_says 200 = .ok (.iconst 2, 1) := by decide +kernel
theorem dX6_says_201 : decode cX6_says 201 = .ok (.if_icmp .ne 8, 3) := by decide +kernel
theorem dX6_says_204 : decode cX6_says 204 = .ok (.bipush (-99), 2) := by decide +kernel
theorem dX6_says_206 : decode cX6_says 206 = .ok (.goto 4, 3) := by decide +kernel
theorem dX6_says_209 : decode cX6_says 209 = .ok (.iconst 0, 1) := by decide +kernel
theorem dX6_says_210 : decode cX6_says 210 = .ok (.bipush 99, 2) := by decide +kernel
theorem dX6_says_212 : decode cX6_says 212 = .ok (.aload_n 0, 1) := by decide +kernel
theorem dX6_says_213 : decode cX6_says 213 = .ok (.getfield 22, 3) := by decide +kernel
theorem dX6_says_216 : decode cX6_says 216 = .ok (.invokevirtual 39, 3) := by decide +kernel
theorem dX6_says_219 : decode cX6_says 219 = .ok (.invokestatic 47, 3) := by decide +kernel
theorem dX6_says_222 : decode cX6_says 222 = .ok (.invokestatic 53, 3) := by decide +kernel
theorem dX6_says_225 : decode cX6_says 225 = .ok (.ireturn, 1) := by decide +kernel
theorem dX6_named_0 : decode cX6_named 0 = .ok (.iload_n 0, 1) := by decide +kernel
theorem dX6_named_1 : decode cX6_named 1 = .ok (.tableswitch 60 (-5) (-1) #[52, 50, 45, 40, 35], 35) := by decide +kernel
theorem dX6_named_36 : decode cX6_named 36 = .ok (.aload_n 1, 1) := by decide +kernel
theorem dX6_named_37 : decode cX6_named 37 = .ok (.getfield 56, 3) := by decide +kernel
theorem dX6_named_40 : decode cX6_named 40 = .ok (.ireturn, 1) := by decide +kernel
theorem dX6_named_41 : decode cX6_named 41 = .ok (.aload_n 1, 1) := by decide +kernel
theorem dX6_named_42 : decode cX6_named 42 = .ok (.getfield 61, 3) := by decide +kernel
theorem dX6_named_45 : decode cX6_named 45 = .ok (.ireturn, 1) := by decide +kernel
theorem dX6_named_46 : decode cX6_named 46 = .ok (.aload_n 1, 1) := by decide +kernel
theorem dX6_named_47 : decode cX6_named 47 = .ok (.getfield 64, 3) := by decide +kernel
theorem dX6_named_50 : decode cX6_named 50 = .ok (.ireturn, 1) := by decide +kernel
theorem dX6_named_51 : decode cX6_named 51 = .ok (.iload_n 2, 1) := by decide +kernel
theorem dX6_named_52 : decode cX6_named 52 = .ok (.ireturn, 1) := by decide +kernel
theorem dX6_named_53 : decode cX6_named 53 = .ok (.aload_n 1, 1) := by decide +kernel
theorem dX6_named_54 : decode cX6_named 54 = .ok (.getfield 67, 3) := by decide +kernel
theorem dX6_named_57 : decode cX6_named 57 = .ok (.invokestatic 70, 3) := by decide +kernel
theorem dX6_named_60 : decode cX6_named 60 = .ok (.ireturn, 1) := by decide +kernel
theorem dX6_named_61 : decode cX6_named 61 = .ok (.aload_n 1, 1) := by decide +kernel
theorem dX6_named_62 : decode cX6_named 62 = .ok (.getfield 76, 3) := by decide +kernel
theorem dX6_named_65 : decode cX6_named 65 = .ok (.ireturn, 1) := by decide +kernel
theorem dX6_joined_0 : decode cX6_joined 0 = .ok (.iload_n 0, 1) := by decide +kernel
theorem dX6_joined_1 : decode cX6_joined 1 = .ok (.tableswitch 113 (-16) (-7) #[109, 105, 94, 83, 113, 113, 113, 113, 69, 55], 55) := by decide +kernel
theorem dX6_joined_56 : decode cX6_joined 56 = .ok (.iload_n 1, 1) := by decide +kernel
theorem dX6_joined_57 : decode cX6_joined 57 = .ok (.ifCond .ne 7, 3) := by decide +kernel
theorem dX6_joined_60 : decode cX6_joined 60 = .ok (.iload_n 2, 1) := by decide +kernel
theorem dX6_joined_61 : decode cX6_joined 61 = .ok (.ifCond .eq 7, 3) := by decide +kernel
theorem dX6_joined_64 : decode cX6_joined 64 = .ok (.iconst 1, 1) := by decide +kernel
theorem dX6_joined_65 : decode cX6_joined 65 = .ok (.goto 4, 3) := by decide +kernel
theorem dX6_joined_68 : decode cX6_joined 68 = .ok (.iconst 0, 1) := by decide +kernel
theorem dX6_joined_69 : decode cX6_joined 69 = .ok (.ireturn, 1) := by decide +kernel
theorem dX6_joined_70 : decode cX6_joined 70 = .ok (.iload_n 1, 1) := by decide +kernel
theorem dX6_joined_71 : decode cX6_joined 71 = .ok (.ifCond .eq 11, 3) := by decide +kernel
theorem dX6_joined_74 : decode cX6_joined 74 = .ok (.iload_n 2, 1) := by decide +kernel
theorem dX6_joined_75 : decode cX6_joined 75 = .ok (.ifCond .eq 7, 3) := by decide +kernel
theorem dX6_joined_78 : decode cX6_joined 78 = .ok (.iconst 1, 1) := by decide +kernel
theorem dX6_joined_79 : decode cX6_joined 79 = .ok (.goto 4, 3) := by decide +kernel
theorem dX6_joined_82 : decode cX6_joined 82 = .ok (.iconst 0, 1) := by decide +kernel
theorem dX6_joined_83 : decode cX6_joined 83 = .ok (.ireturn, 1) := by decide +kernel
theorem dX6_joined_84 : decode cX6_joined 84 = .ok (.iload_n 1, 1) := by decide +kernel
theorem dX6_joined_85 : decode cX6_joined 85 = .ok (.iload_n 2, 1) := by decide +kernel
theorem dX6_joined_86 : decode cX6_joined 86 = .ok (.if_icmp .ge 7, 3) := by decide +kernel
theorem dX6_joined_89 : decode cX6_joined 89 = .ok (.iconst 1, 1) := by decide +kernel
theorem dX6_joined_90 : decode cX6_joined 90 = .ok (.goto 4, 3) := by decide +kernel
theorem dX6_joined_93 : decode cX6_joined 93 = .ok (.iconst 0, 1) := by decide +kernel
theorem dX6_joined_94 : decode cX6_joined 94 = .ok (.ireturn, 1) := by decide +kernel
theorem dX6_joined_95 : decode cX6_joined 95 = .ok (.iload_n 1, 1) := by decide +kernel
theorem dX6_joined_96 : decode cX6_joined 96 = .ok (.iload_n 2, 1) := by decide +kernel
theorem dX6_joined_97 : decode cX6_joined 97 = .ok (.if_icmp .ne 7, 3) := by decide +kernel
theorem dX6_joined_100 : decode cX6_joined 100 = .ok (.iconst 1, 1) := by decide +kernel
theorem dX6_joined_101 : decode cX6_joined 101 = .ok (.goto 4, 3) := by decide +kernel
theorem dX6_joined_104 : decode cX6_joined 104 = .ok (.iconst 0, 1) := by decide +kernel
theorem dX6_joined_105 : decode cX6_joined 105 = .ok (.ireturn, 1) := by decide +kernel
theorem dX6_joined_106 : decode cX6_joined 106 = .ok (.iload_n 1, 1) := by decide +kernel
theorem dX6_joined_107 : decode cX6_joined 107 = .ok (.iload_n 2, 1) := by decide +kernel
theorem dX6_joined_108 : decode cX6_joined 108 = .ok (.iadd, 1) := by decide +kernel
theorem dX6_joined_109 : decode cX6_joined 109 = .ok (.ireturn, 1) := by decide +kernel
theorem dX6_joined_110 : decode cX6_joined 110 = .ok (.iload_n 1, 1) := by decide +kernel
theorem dX6_joined_111 : decode cX6_joined 111 = .ok (.iload_n 2, 1) := by decide +kernel
theorem dX6_joined_112 : decode cX6_joined 112 = .ok (.isub, 1) := by decide +kernel
theorem dX6_joined_113 : decode cX6_joined 113 = .ok (.ireturn, 1) := by decide +kernel
theorem dX6_joined_114 : decode cX6_joined 114 = .ok (.iload_n 1, 1) := by decide +kernel
theorem dX6_joined_115 : decode cX6_joined 115 = .ok (.iload_n 2, 1) := by decide +kernel
theorem dX6_joined_116 : decode cX6_joined 116 = .ok (.imul, 1) := by decide +kernel
theorem dX6_joined_117 : decode cX6_joined 117 = .ok (.ireturn, 1) := by decide +kernel
theorem dX7_init_0 : decode cX7_init 0 = .ok (.aload_n 0, 1) := by decide +kernel
theorem dX7_init_1 : decode cX7_init 1 = .ok (.invokespecial 1, 3) := by decide +kernel
theorem dX7_init_4 : decode cX7_init 4 = .ok (.aload_n 0, 1) := by decide +kernel
theorem dX7_init_5 : decode cX7_init 5 = .ok (.new 7, 3) := by decide +kernel
theorem dX7_init_8 : decode cX7_init 8 = .ok (.dup, 1) := by decide +kernel
theorem dX7_init_9 : decode cX7_init 9 = .ok (.invokespecial 9, 3) := by decide +kernel
theorem dX7_init_12 : decode cX7_init 12 = .ok (.putfield 10, 3) := by decide +kernel
theorem dX7_init_15 : decode cX7_init 15 = .ok (.aload_n 0, 1) := by decide +kernel
theorem dX7_init_16 : decode cX7_init 16 = .ok (.new 16, 3) := by decide +kernel
theorem dX7_init_19 : decode cX7_init 19 = .ok (.dup, 1) := by decide +kernel
theorem dX7_init_20 : decode cX7_init 20 = .ok (.aload_n 0, 1) := by decide +kernel
theorem dX7_init_21 : decode cX7_init 21 = .ok (.getfield 10, 3) := by decide +kernel
theorem dX7_init_24 : decode cX7_init 24 = .ok (.invokespecial 18, 3) := by decide +kernel
theorem dX7_init_27 : decode cX7_init 27 = .ok (.putfield 21, 3) := by decide +kernel
theorem dX7_init_30 : decode cX7_init 30 = .ok (.aload_n 0, 1) := by decide +kernel
theorem dX7_init_31 : decode cX7_init 31 = .ok (.new 25, 3) := by decide +kernel
theorem dX7_init_34 : decode cX7_init 34 = .ok (.dup, 1) := by decide +kernel
theorem dX7_init_35 : decode cX7_init 35 = .ok (.invokespecial 27, 3) := by decide +kernel
theorem dX7_init_38 : decode cX7_init 38 = .ok (.putfield 28, 3) := by decide +kernel
theorem dX7_init_41 : decode cX7_init 41 = .ok (.aload_n 0, 1) := by decide +kernel
theorem dX7_init_42 : decode cX7_init 42 = .ok (.bipush 6, 2) := by decide +kernel
theorem dX7_init_44 : decode cX7_init 44 = .ok (.anewarray 32, 3) := by decide +kernel
theorem dX7_init_47 : decode cX7_init 47 = .ok (.putfield 34, 3) := by decide +kernel
theorem dX7_init_50 : decode cX7_init 50 = .ok (.new 32, 3) := by decide +kernel
theorem dX7_init_53 : decode cX7_init 53 = .ok (.dup, 1) := by decide +kernel
theorem dX7_init_54 : decode cX7_init 54 = .ok (.iconst 0, 1) := by decide +kernel
theorem dX7_init_55 : decode cX7_init 55 = .ok (.iconst 3, 1) := by decide +kernel
theorem dX7_init_56 : decode cX7_init 56 = .ok (.newarray .int, 2) := by decide +kernel
theorem dX7_init_58 : decode cX7_init 58 = .ok (.dup, 1) := by decide +kernel
theorem dX7_init_59 : decode cX7_init 59 = .ok (.iconst 0, 1) := by decide +kernel
theorem dX7_init_60 : decode cX7_init 60 = .ok (.bipush 99, 2) := by decide +kernel
theorem dX7_init_62 : decode cX7_init 62 = .ok (.iastore, 1) := by decide +kernel
theorem dX7_init_63 : decode cX7_init 63 = .ok (.dup, 1) := by decide +kernel
theorem dX7_init_64 : decode cX7_init 64 = .ok (.iconst 1, 1) := by decide +kernel
theorem dX7_init_65 : decode cX7_init 65 = .ok (.iconst 1, 1) := by decide +kernel
theorem dX7_init_66 : decode cX7_init 66 = .ok (.iastore, 1) := by decide +kernel
theorem dX7_init_67 : decode cX7_init 67 = .ok (.dup, 1) := by decide +kernel
theorem dX7_init_68 : decode cX7_init 68 = .ok (.iconst 2, 1) := by decide +kernel
theorem dX7_init_69 : decode cX7_init 69 = .ok (.iconst 1, 1) := by decide +kernel
theorem dX7_init_70 : decode cX7_init 70 = .ok (.iastore, 1) := by decide +kernel
theorem dX7_init_71 : decode cX7_init 71 = .ok (.iconst 4, 1) := by decide +kernel
theorem dX7_init_72 : decode cX7_init 72 = .ok (.newarray .int, 2) := by decide +kernel
theorem dX7_init_74 : decode cX7_init 74 = .ok (.dup, 1) := by decide +kernel
theorem dX7_init_75 : decode cX7_init 75 = .ok (.iconst 0, 1) := by decide +kernel
theorem dX7_init_76 : decode cX7_init 76 = .ok (.iconst 0, 1) := by decide +kernel
theorem dX7_init_77 : decode cX7_init 77 = .ok (.iastore, 1) := by decide +kernel
theorem dX7_init_78 : decode cX7_init 78 = .ok (.dup, 1) := by decide +kernel
theorem dX7_init_79 : decode cX7_init 79 = .ok (.iconst 1, 1) := by decide +kernel
theorem dX7_init_80 : decode cX7_init 80 = .ok (.iconst 1, 1) := by decide +kernel
theorem dX7_init_81 : decode cX7_init 81 = .ok (.iastore, 1) := by decide +kernel
theorem dX7_init_82 : decode cX7_init 82 = .ok (.dup, 1) := by decide +kernel
theorem dX7_init_83 : decode cX7_init 83 = .ok (.iconst 2, 1) := by decide +kernel
theorem dX7_init_84 : decode cX7_init 84 = .ok (.iconst 2, 1) := by decide +kernel
theorem dX7_init_85 : decode cX7_init 85 = .ok (.iastore, 1) := by decide +kernel
theorem dX7_init_86 : decode cX7_init 86 = .ok (.dup, 1) := by decide +kernel
theorem dX7_init_87 : decode cX7_init 87 = .ok (.iconst 3, 1) := by decide +kernel
theorem dX7_init_88 : decode cX7_init 88 = .ok (.iconst 3, 1) := by decide +kernel
theorem dX7_init_89 : decode cX7_init 89 = .ok (.iastore, 1) := by decide +kernel
theorem dX7_init_90 : decode cX7_init 90 = .ok (.aload_n 0, 1) := by decide +kernel
theorem dX7_init_91 : decode cX7_init 91 = .ok (.getfield 28, 3) := by decide +kernel
theorem dX7_init_94 : decode cX7_init 94 = .ok (.invokespecial 38, 3) := by decide +kernel
theorem dX7_init_97 : decode cX7_init 97 = .ok (.astore_n 1, 1) := by decide +kernel
theorem dX7_init_98 : decode cX7_init 98 = .ok (.aload_n 0, 1) := by decide +kernel
theorem dX7_init_99 : decode cX7_init 99 = .ok (.getfield 34, 3) := by decide +kernel
theorem dX7_init_102 : decode cX7_init 102 = .ok (.iconst 0, 1) := by decide +kernel
theorem dX7_init_103 : decode cX7_init 103 = .ok (.aload_n 1, 1) := by decide +kernel
theorem dX7_init_104 : decode cX7_init 104 = .ok (.aastore, 1) := by decide +kernel
theorem dX7_init_105 : decode cX7_init 105 = .ok (.aload_n 0, 1) := by decide +kernel
theorem dX7_init_106 : decode cX7_init 106 = .ok (.iconst 1, 1) := by decide +kernel
theorem dX7_init_107 : decode cX7_init 107 = .ok (.putfield 41, 3) := by decide +kernel
theorem dX7_init_110 : decode cX7_init 110 = .ok (.aload_n 0, 1) := by decide +kernel
theorem dX7_init_111 : decode cX7_init 111 = .ok (.new 45, 3) := by decide +kernel
theorem dX7_init_114 : decode cX7_init 114 = .ok (.dup, 1) := by decide +kernel
theorem dX7_init_115 : decode cX7_init 115 = .ok (.aload_n 1, 1) := by decide +kernel
theorem dX7_init_116 : decode cX7_init 116 = .ok (.invokespecial 47, 3) := by decide +kernel
theorem dX7_init_119 : decode cX7_init 119 = .ok (.putfield 50, 3) := by decide +kernel
theorem dX7_init_122 : decode cX7_init 122 = .ok (.aload_n 0, 1) := by decide +kernel
theorem dX7_init_123 : decode cX7_init 123 = .ok (.new 45, 3) := by decide +kernel
theorem dX7_init_126 : decode cX7_init 126 = .ok (.dup, 1) := by decide +kernel
theorem dX7_init_127 : decode cX7_init 127 = .ok (.aload_n 1, 1) := by decide +kernel
theorem dX7_init_128 : decode cX7_init 128 = .ok (.invokespecial 47, 3) := by decide +kernel
theorem dX7_init_131 : decode cX7_init 131 = .ok (.putfield 54, 3) := by decide +kernel
theorem dX7_init_134 : decode cX7_init 134 = .ok (.aload_n 0, 1) := by decide +kernel
theorem dX7_init_135 : decode cX7_init 135 = .ok (.new 45, 3) := by decide +kernel
theorem dX7_init_138 : decode cX7_init 138 = .ok (.dup, 1) := by decide +kernel
theorem dX7_init_139 : decode cX7_init 139 = .ok (.aload_n 1, 1) := by decide +kernel
theorem dX7_init_140 : decode cX7_init 140 = .ok (.invokespecial 47, 3) := by decide +kernel
theorem dX7_init_143 : decode cX7_init 143 = .ok (.putfield 57, 3) := by decide +kernel
theorem dX7_init_146 : decode cX7_init 146 = .ok (.aload_n 0, 1) := by decide +kernel
theorem dX7_init_147 : decode cX7_init 147 = .ok (.iconst 4, 1) := by decide +kernel
theorem dX7_init_148 : decode cX7_init 148 = .ok (.anewarray 60, 3) := by decide +kernel
theorem dX7_init_151 : decode cX7_init 151 = .ok (.putfield 62, 3) := by decide +kernel
theorem dX7_init_154 : decode cX7_init 154 = .ok (.iconst 0, 1) := by decide +kernel
theorem dX7_init_155 : decode cX7_init 155 = .ok (.istore_n 2, 1) := by decide +kernel
theorem dX7_init_156 : decode cX7_init 156 = .ok (.iload_n 2, 1) := by decide +kernel
theorem dX7_init_157 : decode cX7_init 157 = .ok (.iconst 4, 1) := by decide +kernel
theorem dX7_init_158 : decode cX7_init 158 = .ok (.if_icmp .ge 22, 3) := by decide +kernel
theorem dX7_init_161 : decode cX7_init 161 = .ok (.aload_n 0, 1) := by decide +kernel
theorem dX7_init_162 : decode cX7_init 162 = .ok (.getfield 62, 3) := by decide +kernel
theorem dX7_init_165 : decode cX7_init 165 = .ok (.iload_n 2, 1) := by decide +kernel
theorem dX7_init_166 : decode cX7_init 166 = .ok (.new 60, 3) := by decide +kernel
theorem dX7_init_169 : decode cX7_init 169 = .ok (.dup, 1) := by decide +kernel
theorem dX7_init_170 : decode cX7_init 170 = .ok (.invokespecial 66, 3) := by decide +kernel
theorem dX7_init_173 : decode cX7_init 173 = .ok (.aastore, 1) := by decide +kernel
theorem dX7_init_174 : decode cX7_init 174 = .ok (.iinc 2 1, 3) := by decide +kernel
theorem dX7_init_177 : decode cX7_init 177 = .ok (.goto (-21), 3) := by decide +kernel
theorem dX7_init_180 : decode cX7_init 180 = .ok (.return_, 1) := by decide +kernel
theorem dX7_count_0 : decode cX7_count 0 = .ok (.iload_n 1, 1) := by decide +kernel
theorem dX7_count_1 : decode cX7_count 1 = .ok (.tableswitch 90 0 5 #[39, 47, 55, 66, 71, 82], 39) := by decide +kernel
theorem dX7_count_40 : decode cX7_count 40 = .ok (.aload_n 0, 1) := by decide +kernel
theorem dX7_count_41 : decode cX7_count 41 = .ok (.getfield 50, 3) := by decide +kernel
theorem dX7_count_44 : decode cX7_count 44 = .ok (.getfield 67, 3) := by decide +kernel
theorem dX7_count_47 : decode cX7_count 47 = .ok (.ireturn, 1) := by decide +kernel
theorem dX7_count_48 : decode cX7_count 48 = .ok (.aload_n 0, 1) := by decide +kernel
theorem dX7_count_49 : decode cX7_count 49 = .ok (.getfield 50, 3) := by decide +kernel
theorem dX7_count_52 : decode cX7_count 52 = .ok (.getfield 70, 3) := by decide +kernel
theorem dX7_count_55 : decode cX7_count 55 = .ok (.ireturn, 1) := by decide +kernel
theorem dX7_count_56 : decode cX7_count 56 = .ok (.aload_n 0, 1) := by decide +kernel
theorem dX7_count_57 : decode cX7_count 57 = .ok (.getfield 50, 3) := by decide +kernel
theorem dX7_count_60 : decode cX7_count 60 = .ok (.invokevirtual 73, 3) := by decide +kernel
theorem dX7_count_63 : decode cX7_count 63 = .ok (.invokestatic 77, 3) := by decide +kernel
theorem dX7_count_66 : decode cX7_count 66 = .ok (.ireturn, 1) := by decide +kernel
theorem dX7_count_67 : decode cX7_count 67 = .ok (.aload_n 0, 1) := by decide +kernel
theorem dX7_count_68 : decode cX7_count 68 = .ok (.getfield 41, 3) := by decide +kernel
theorem dX7_count_71 : decode cX7_count 71 = .ok (.ireturn, 1) := by decide +kernel
theorem dX7_count_72 : decode cX7_count 72 = .ok (.aload_n 0, 1) := by decide +kernel
theorem dX7_count_73 : decode cX7_count 73 = .ok (.getfield 50, 3) := by decide +kernel
theorem dX7_count_76 : decode cX7_count 76 = .ok (.getfield 83, 3) := by decide +kernel
theorem dX7_count_79 : decode cX7_count 79 = .ok (.getfield 87, 3) := by decide +kernel
theorem dX7_count_82 : decode cX7_count 82 = .ok (.ireturn, 1) := by decide +kernel
theorem dX7_count_83 : decode cX7_count 83 = .ok (.aload_n 0, 1) := by decide +kernel
theorem dX7_count_84 : decode cX7_count 84 = .ok (.getfield 10, 3) := by decide +kernel
theorem dX7_count_87 : decode cX7_count 87 = .ok (.getfield 90, 3) := by decide +kernel
theorem dX7_count_90 : decode cX7_count 90 = .ok (.ireturn, 1) := by decide +kernel
theorem dX7_count_91 : decode cX7_count 91 = .ok (.bipush (-2), 2) := by decide +kernel
theorem dX7_count_93 : decode cX7_count 93 = .ok (.ireturn, 1) := by decide +kernel
theorem dX7_clock_0 : decode cX7_clock 0 = .ok (.iload_n 1, 1) := by decide +kernel
theorem dX7_clock_1 : decode cX7_clock 1 = .ok (.ifCond .lt 10, 3) := by decide +kernel
theorem dX7_clock_4 : decode cX7_clock 4 = .ok (.iload_n 1, 1) := by decide +kernel
theorem dX7_clock_5 : decode cX7_clock 5 = .ok (.sipush 999, 3) := by decide +kernel
theorem dX7_clock_8 : decode cX7_clock 8 = .ok (.if_icmp .le 6, 3) := by decide +kernel
theorem dX7_clock_11 : decode cX7_clock 11 = .ok (.bipush (-2), 2) := by decide +kernel
theorem dX7_clock_13 : decode cX7_clock 13 = .ok (.ireturn, 1) := by decide +kernel
theorem dX7_clock_14 : decode cX7_clock 14 = .ok (.aload_n 0, 1) := by decide +kernel
theorem dX7_clock_15 : decode cX7_clock 15 = .ok (.getfield 50, 3) := by decide +kernel
theorem dX7_clock_18 : decode cX7_clock 18 = .ok (.getfield 70, 3) := by decide +kernel
theorem dX7_clock_21 : decode cX7_clock 21 = .ok (.istore_n 2, 1) := by decide +kernel
theorem dX7_clock_22 : decode cX7_clock 22 = .ok (.aload_n 0, 1) := by decide +kernel
theorem dX7_clock_23 : decode cX7_clock 23 = .ok (.getfield 50, 3) := by decide +kernel
theorem dX7_clock_26 : decode cX7_clock 26 = .ok (.iload_n 1, 1) := by decide +kernel
theorem dX7_clock_27 : decode cX7_clock 27 = .ok (.putfield 70, 3) := by decide +kernel
theorem dX7_clock_30 : decode cX7_clock 30 = .ok (.iload_n 2, 1) := by decide +kernel
theorem dX7_clock_31 : decode cX7_clock 31 = .ok (.ireturn, 1) := by decide +kernel
theorem dX7_feed_0 : decode cX7_feed 0 = .ok (.iload_n 1, 1) := by decide +kernel
theorem dX7_feed_1 : decode cX7_feed 1 = .ok (.iconst 1, 1) := by decide +kernel
theorem dX7_feed_2 : decode cX7_feed 2 = .ok (.if_icmp .lt 46, 3) := by decide +kernel
theorem dX7_feed_5 : decode cX7_feed 5 = .ok (.iload_n 1, 1) := by decide +kernel
theorem dX7_feed_6 : decode cX7_feed 6 = .ok (.iconst 5, 1) := by decide +kernel
theorem dX7_feed_7 : decode cX7_feed 7 = .ok (.if_icmp .gt 41, 3) := by decide +kernel
theorem dX7_feed_10 : decode cX7_feed 10 = .ok (.iload_n 2, 1) := by decide +kernel
theorem dX7_feed_11 : decode cX7_feed 11 = .ok (.invokestatic 93, 3) := by decide +kernel
theorem dX7_feed_14 : decode cX7_feed 14 = .ok (.ifCond .eq 34, 3) := by decide +kernel
theorem dX7_feed_17 : decode cX7_feed 17 = .ok (.iload_n 3, 1) := by decide +kernel
theorem dX7_feed_18 : decode cX7_feed 18 = .ok (.invokestatic 93, 3) := by decide +kernel
theorem dX7_feed_21 : decode cX7_feed 21 = .ok (.ifCond .eq 27, 3) := by decide +kernel
theorem dX7_feed_24 : decode cX7_feed 24 = .ok (.iload 4, 2) := by decide +kernel
theorem dX7_feed_26 : decode cX7_feed 26 = .ok (.invokestatic 93, 3) := by decide +kernel
theorem dX7_feed_29 : decode cX7_feed 29 = .ok (.ifCond .eq 19, 3) := by decide +kernel
theorem dX7_feed_32 : decode cX7_feed 32 = .ok (.iload 5, 2) := by decide +kernel
theorem dX7_feed_34 : decode cX7_feed 34 = .ok (.invokestatic 93, 3) := by decide +kernel
theorem dX7_feed_37 : decode cX7_feed 37 = .ok (.ifCond .eq 11, 3) := by decide +kernel
theorem dX7_feed_40 : decode cX7_feed 40 = .ok (.iload 6, 2) := by decide +kernel
theorem dX7_feed_42 : decode cX7_feed 42 = .ok (.invokestatic 93, 3) := by decide +kernel
theorem dX7_feed_45 : decode cX7_feed 45 = .ok (.ifCond .ne 6, 3) := by decide +kernel
theorem dX7_feed_48 : decode cX7_feed 48 = .ok (.bipush (-2), 2) := by decide +kernel
theorem dX7_feed_50 : decode cX7_feed 50 = .ok (.ireturn, 1) := by decide +kernel
theorem dX7_feed_51 : decode cX7_feed 51 = .ok (.aload_n 0, 1) := by decide +kernel
theorem dX7_feed_52 : decode cX7_feed 52 = .ok (.getfield 10, 3) := by decide +kernel
theorem dX7_feed_55 : decode cX7_feed 55 = .ok (.getfield 90, 3) := by decide +kernel
theorem dX7_feed_58 : decode cX7_feed 58 = .ok (.iload_n 1, 1) := by decide +kernel
theorem dX7_feed_59 : decode cX7_feed 59 = .ok (.iadd, 1) := by decide +kernel
theorem dX7_feed_60 : decode cX7_feed 60 = .ok (.sipush 160, 3) := by decide +kernel
theorem dX7_feed_63 : decode cX7_feed 63 = .ok (.if_icmp .le 6, 3) := by decide +kernel
theorem dX7_feed_66 : decode cX7_feed 66 = .ok (.bipush (-4), 2) := by decide +kernel
theorem dX7_feed_68 : decode cX7_feed 68 = .ok (.ireturn, 1) := by decide +kernel
theorem dX7_feed_69 : decode cX7_feed 69 = .ok (.iconst 0, 1) := by decide +kernel
theorem dX7_feed_70 : decode cX7_feed 70 = .ok (.istore 7, 2) := by decide +kernel
theorem dX7_feed_72 : decode cX7_feed 72 = .ok (.iload 7, 2) := by decide +kernel
theorem dX7_feed_74 : decode cX7_feed 74 = .ok (.iload_n 1, 1) := by decide +kernel
theorem dX7_feed_75 : decode cX7_feed 75 = .ok (.if_icmp .ge 59, 3) := by decide +kernel
theorem dX7_feed_78 : decode cX7_feed 78 = .ok (.aload_n 0, 1) := by decide +kernel
theorem dX7_feed_79 : decode cX7_feed 79 = .ok (.getfield 10, 3) := by decide +kernel
theorem dX7_feed_82 : decode cX7_feed 82 = .ok (.iload 7, 2) := by decide +kernel
theorem dX7_feed_84 : decode cX7_feed 84 = .ok (.ifCond .ne 7, 3) := by decide +kernel
theorem dX7_feed_87 : decode cX7_feed 87 = .ok (.iload_n 2, 1) := by decide +kernel
theorem dX7_feed_88 : decode cX7_feed 88 = .ok (.goto 37, 3) := by decide +kernel
theorem dX7_feed_91 : decode cX7_feed 91 = .ok (.iload 7, 2) := by decide +kernel
theorem dX7_feed_93 : decode cX7_feed 93 = .ok (.iconst 1, 1) := by decide +kernel
theorem dX7_feed_94 : decode cX7_feed 94 = .ok (.if_icmp .ne 7, 3) := by decide +kernel
theorem dX7_feed_97 : decode cX7_feed 97 = .ok (.iload_n 3, 1) := by decide +kernel
theorem dX7_feed_98 : decode cX7_feed 98 = .ok (.goto 27, 3) := by decide +kernel
theorem dX7_feed_101 : decode cX7_feed 101 = .ok (.iload 7, 2) := by decide +kernel
theorem dX7_feed_103 : decode cX7_feed 103 = .ok (.iconst 2, 1) := by decide +kernel
theorem dX7_feed_104 : decode cX7_feed 104 = .ok (.if_icmp .ne 8, 3) := by decide +kernel
theorem dX7_feed_107 : decode cX7_feed 107 = .ok (.iload 4, 2) := by decide +kernel
theorem dX7_feed_109 : decode cX7_feed 109 = .ok (.goto 16, 3) := by decide +kernel
theorem dX7_feed_112 : decode cX7_feed 112 = .ok (.iload 7, 2) := by decide +kernel
theorem dX7_feed_114 : decode cX7_feed 114 = .ok (.iconst 3, 1) := by decide +kernel
theorem dX7_feed_115 : decode cX7_feed 115 = .ok (.if_icmp .ne 8, 3) := by decide +kernel
theorem dX7_feed_118 : decode cX7_feed 118 = .ok (.iload 5, 2) := by decide +kernel
theorem dX7_feed_120 : decode cX7_feed 120 = .ok (.goto 5, 3) := by decide +kernel
theorem dX7_feed_123 : decode cX7_feed 123 = .ok (.iload 6, 2) := by decide +kernel
theorem dX7_feed_125 : decode cX7_feed 125 = .ok (.invokevirtual 97, 3) := by decide +kernel
theorem dX7_feed_128 : decode cX7_feed 128 = .ok (.iinc 7 1, 3) := by decide +kernel
theorem dX7_feed_131 : decode cX7_feed 131 = .ok (.goto (-59), 3) := by decide +kernel
theorem dX7_feed_134 : decode cX7_feed 134 = .ok (.aload_n 0, 1) := by decide +kernel
theorem dX7_feed_135 : decode cX7_feed 135 = .ok (.getfield 10, 3) := by decide +kernel
theorem dX7_feed_138 : decode cX7_feed 138 = .ok (.getfield 90, 3) := by decide +kernel
theorem dX7_feed_141 : decode cX7_feed 141 = .ok (.ireturn, 1) := by decide +kernel
theorem dX7_text_0 : decode cX7_text 0 = .ok (.aload_n 0, 1) := by decide +kernel
theorem dX7_text_1 : decode cX7_text 1 = .ok (.getfield 41, 3) := by decide +kernel
theorem dX7_text_4 : decode cX7_text 4 = .ok (.bipush 6, 2) := by decide +kernel
theorem dX7_text_6 : decode cX7_text 6 = .ok (.if_icmp .lt 6, 3) := by decide +kernel
theorem dX7_text_9 : decode cX7_text 9 = .ok (.bipush (-4), 2) := by decide +kernel
theorem dX7_text_11 : decode cX7_text 11 = .ok (.ireturn, 1) := by decide +kernel
theorem dX7_text_12 : decode cX7_text 12 = .ok (.aload_n 0, 1) := by decide +kernel
theorem dX7_text_13 : decode cX7_text 13 = .ok (.getfield 21, 3) := by decide +kernel
theorem dX7_text_16 : decode cX7_text 16 = .ok (.invokevirtual 101, 3) := by decide +kernel
theorem dX7_text_19 : decode cX7_text 19 = .ok (.istore_n 1, 1) := by decide +kernel
theorem dX7_text_20 : decode cX7_text 20 = .ok (.aload_n 0, 1) := by decide +kernel
theorem dX7_text_21 : decode cX7_text 21 = .ok (.getfield 10, 3) := by decide +kernel
theorem dX7_text_24 : decode cX7_text 24 = .ok (.iconst 0, 1) := by decide +kernel
theorem dX7_text_25 : decode cX7_text 25 = .ok (.putfield 90, 3) := by decide +kernel
theorem dX7_text_28 : decode cX7_text 28 = .ok (.iload_n 1, 1) := by decide +kernel
theorem dX7_text_29 : decode cX7_text 29 = .ok (.iconst (-1), 1) := by decide +kernel
theorem dX7_text_30 : decode cX7_text 30 = .ok (.if_icmp .eq 8, 3) := by decide +kernel
theorem dX7_text_33 : decode cX7_text 33 = .ok (.bipush (-100), 2) := by decide +kernel
theorem dX7_text_35 : decode cX7_text 35 = .ok (.iload_n 1, 1) := by decide +kernel
theorem dX7_text_36 : decode cX7_text 36 = .ok (.isub, 1) := by decide +kernel
theorem dX7_text_37 : decode cX7_text 37 = .ok (.ireturn, 1) := by decide +kernel
theorem dX7_text_38 : decode cX7_text 38 = .ok (.aload_n 0, 1) := by decide +kernel
theorem dX7_text_39 : decode cX7_text 39 = .ok (.getfield 21, 3) := by decide +kernel
theorem dX7_text_42 : decode cX7_text 42 = .ok (.getfield 104, 3) := by decide +kernel
theorem dX7_text_45 : decode cX7_text 45 = .ok (.aload_n 0, 1) := by decide +kernel
theorem dX7_text_46 : decode cX7_text 46 = .ok (.getfield 21, 3) := by decide +kernel
theorem dX7_text_49 : decode cX7_text 49 = .ok (.getfield 108, 3) := by decide +kernel
theorem dX7_text_52 : decode cX7_text 52 = .ok (.invokestatic 111, 3) := by decide +kernel
theorem dX7_text_55 : decode cX7_text 55 = .ok (.astore_n 2, 1) := by decide +kernel
theorem dX7_text_56 : decode cX7_text 56 = .ok (.aload_n 0, 1) := by decide +kernel
theorem dX7_text_57 : decode cX7_text 57 = .ok (.getfield 34, 3) := by decide +kernel
theorem dX7_text_60 : decode cX7_text 60 = .ok (.aload_n 0, 1) := by decide +kernel
theorem dX7_text_61 : decode cX7_text 61 = .ok (.getfield 41, 3) := by decide +kernel
theorem dX7_text_64 : decode cX7_text 64 = .ok (.new 32, 3) := by decide +kernel
theorem dX7_text_67 : decode cX7_text 67 = .ok (.dup, 1) := by decide +kernel
theorem dX7_text_68 : decode cX7_text 68 = .ok (.aload_n 0, 1) := by decide +kernel
theorem dX7_text_69 : decode cX7_text 69 = .ok (.getfield 41, 3) := by decide +kernel
theorem dX7_text_72 : decode cX7_text 72 = .ok (.aload_n 2, 1) := by decide +kernel
theorem dX7_text_73 : decode cX7_text 73 = .ok (.aload_n 0, 1) := by decide +kernel
theorem dX7_text_74 : decode cX7_text 74 = .ok (.getfield 21, 3) := by decide +kernel
theorem dX7_text_77 : decode cX7_text 77 = .ok (.getfield 117, 3) := by decide +kernel
theorem dX7_text_80 : decode cX7_text 80 = .ok (.invokevirtual 120, 3) := by decide +kernel
theorem dX7_text_83 : decode cX7_text 83 = .ok (.checkcast 121, 3) := by decide +kernel
theorem dX7_text_86 : decode cX7_text 86 = .ok (.aload_n 0, 1) := by decide +kernel
theorem dX7_text_87 : decode cX7_text 87 = .ok (.getfield 28, 3) := by decide +kernel
theorem dX7_text_90 : decode cX7_text 90 = .ok (.invokespecial 38, 3) := by decide +kernel
theorem dX7_text_93 : decode cX7_text 93 = .ok (.aastore, 1) := by decide +kernel
theorem dX7_text_94 : decode cX7_text 94 = .ok (.aload_n 0, 1) := by decide +kernel
theorem dX7_text_95 : decode cX7_text 95 = .ok (.dup, 1) := by decide +kernel
theorem dX7_text_96 : decode cX7_text 96 = .ok (.getfield 41, 3) := by decide +kernel
theorem dX7_text_99 : decode cX7_text 99 = .ok (.iconst 1, 1) := by decide +kernel
theorem dX7_text_100 : decode cX7_text 100 = .ok (.iadd, 1) := by decide +kernel
theorem dX7_text_101 : decode cX7_text 101 = .ok (.putfield 41, 3) := by decide +kernel
theorem dX7_text_104 : decode cX7_text 104 = .ok (.aload_n 0, 1) := by decide +kernel
theorem dX7_text_105 : decode cX7_text 105 = .ok (.getfield 41, 3) := by decide +kernel
theorem dX7_text_108 : decode cX7_text 108 = .ok (.iconst 1, 1) := by decide +kernel
theorem dX7_text_109 : decode cX7_text 109 = .ok (.isub, 1) := by decide +kernel
theorem dX7_text_110 : decode cX7_text 110 = .ok (.ireturn, 1) := by decide +kernel
theorem dX7_force_0 : decode cX7_force 0 = .ok (.iload_n 1, 1) := by decide +kernel
theorem dX7_force_1 : decode cX7_force 1 = .ok (.ifCond .lt 11, 3) := by decide +kernel
theorem dX7_force_4 : decode cX7_force 4 = .ok (.iload_n 1, 1) := by decide +kernel
theorem dX7_force_5 : decode cX7_force 5 = .ok (.aload_n 0, 1) := by decide +kernel
theorem dX7_force_6 : decode cX7_force 6 = .ok (.getfield 41, 3) := by decide +kernel
theorem dX7_force_9 : decode cX7_force 9 = .ok (.if_icmp .lt 6, 3) := by decide +kernel
theorem dX7_force_12 : decode cX7_force 12 = .ok (.bipush (-2), 2) := by decide +kernel
theorem dX7_force_14 : decode cX7_force 14 = .ok (.ireturn, 1) := by decide +kernel
theorem dX7_force_15 : decode cX7_force 15 = .ok (.aload_n 0, 1) := by decide +kernel
theorem dX7_force_16 : decode cX7_force 16 = .ok (.getfield 50, 3) := by decide +kernel
theorem dX7_force_19 : decode cX7_force 19 = .ok (.getfield 83, 3) := by decide +kernel
theorem dX7_force_22 : decode cX7_force 22 = .ok (.getfield 87, 3) := by decide +kernel
theorem dX7_force_25 : decode cX7_force 25 = .ok (.istore_n 2, 1) := by decide +kernel
theorem dX7_force_26 : decode cX7_force 26 = .ok (.aload_n 0, 1) := by decide +kernel
theorem dX7_force_27 : decode cX7_force 27 = .ok (.getfield 50, 3) := by decide +kernel
theorem dX7_force_30 : decode cX7_force 30 = .ok (.aload_n 0, 1) := by decide +kernel
theorem dX7_force_31 : decode cX7_force 31 = .ok (.getfield 34, 3) := by decide +kernel
theorem dX7_force_34 : decode cX7_force 34 = .ok (.iload_n 1, 1) := by decide +kernel
theorem dX7_force_35 : decode cX7_force 35 = .ok (.aaload, 1) := by decide +kernel
theorem dX7_force_36 : decode cX7_force 36 = .ok (.putfield 83, 3) := by decide +kernel
theorem dX7_force_39 : decode cX7_force 39 = .ok (.iload_n 2, 1) := by decide +kernel
theorem dX7_force_40 : decode cX7_force 40 = .ok (.ireturn, 1) := by decide +kernel
theorem dX7_asks_0 : decode cX7_asks 0 = .ok (.iload_n 1, 1) := by decide +kernel
theorem dX7_asks_1 : decode cX7_asks 1 = .ok (.ifCond .lt 19, 3) := by decide +kernel
theorem dX7_asks_4 : decode cX7_asks 4 = .ok (.iload_n 1, 1) := by decide +kernel
theorem dX7_asks_5 : decode cX7_asks 5 = .ok (.iconst 3, 1) := by decide +kernel
theorem dX7_asks_6 : decode cX7_asks 6 = .ok (.if_icmp .ge 14, 3) := by decide +kernel
theorem dX7_asks_9 : decode cX7_asks 9 = .ok (.aload_n 0, 1) := by decide +kernel
theorem dX7_asks_10 : decode cX7_asks 10 = .ok (.getfield 50, 3) := by decide +kernel
theorem dX7_asks_13 : decode cX7_asks 13 = .ok (.iload_n 2, 1) := by decide +kernel
theorem dX7_asks_14 : decode cX7_asks 14 = .ok (.invokevirtual 125, 3) := by decide +kernel
theorem dX7_asks_17 : decode cX7_asks 17 = .ok (.ifCond .ne 7, 3) := by decide +kernel
theorem dX7_asks_20 : decode cX7_asks 20 = .ok (.sipush (-1000), 3) := by decide +kernel
theorem dX7_asks_23 : decode cX7_asks 23 = .ok (.ireturn, 1) := by decide +kernel
theorem dX7_asks_24 : decode cX7_asks 24 = .ok (.aload_n 0, 1) := by decide +kernel
theorem dX7_asks_25 : decode cX7_asks 25 = .ok (.getfield 50, 3) := by decide +kernel
theorem dX7_asks_28 : decode cX7_asks 28 = .ok (.getfield 83, 3) := by decide +kernel
theorem dX7_asks_31 : decode cX7_asks 31 = .ok (.iload_n 1, 1) := by decide +kernel
theorem dX7_asks_32 : decode cX7_asks 32 = .ok (.aload_n 0, 1) := by decide +kernel
theorem dX7_asks_33 : decode cX7_asks 33 = .ok (.getfield 50, 3) := by decide +kernel
theorem dX7_asks_36 : decode cX7_asks 36 = .ok (.getfield 128, 3) := by decide +kernel
theorem dX7_asks_39 : decode cX7_asks 39 = .ok (.iload_n 2, 1) := by decide +kernel
theorem dX7_asks_40 : decode cX7_asks 40 = .ok (.aaload, 1) := by decide +kernel
theorem dX7_asks_41 : decode cX7_asks 41 = .ok (.aload_n 0, 1) := by decide +kernel
theorem dX7_asks_42 : decode cX7_asks 42 = .ok (.getfield 50, 3) := by decide +kernel
theorem dX7_asks_45 : decode cX7_asks 45 = .ok (.getfield 70, 3) := by decide +kernel
theorem dX7_asks_48 : decode cX7_asks 48 = .ok (.invokevirtual 132, 3) := by decide +kernel
theorem dX7_asks_51 : decode cX7_asks 51 = .ok (.ireturn, 1) := by decide +kernel
theorem dX7_guest_0 : decode cX7_guest 0 = .ok (.iload_n 1, 1) := by decide +kernel
theorem dX7_guest_1 : decode cX7_guest 1 = .ok (.ifCond .lt 30, 3) := by decide +kernel
theorem dX7_guest_4 : decode cX7_guest 4 = .ok (.iload_n 1, 1) := by decide +kernel
theorem dX7_guest_5 : decode cX7_guest 5 = .ok (.bipush 60, 2) := by decide +kernel
theorem dX7_guest_7 : decode cX7_guest 7 = .ok (.if_icmp .ge 24, 3) := by decide +kernel
theorem dX7_guest_10 : decode cX7_guest 10 = .ok (.iload_n 2, 1) := by decide +kernel
theorem dX7_guest_11 : decode cX7_guest 11 = .ok (.ifCond .lt 20, 3) := by decide +kernel
theorem dX7_guest_14 : decode cX7_guest 14 = .ok (.iload_n 2, 1) := by decide +kernel
theorem dX7_guest_15 : decode cX7_guest 15 = .ok (.sipush 1023, 3) := by decide +kernel
theorem dX7_guest_18 : decode cX7_guest 18 = .ok (.if_icmp .gt 13, 3) := by decide +kernel
theorem dX7_guest_21 : decode cX7_guest 21 = .ok (.iload_n 3, 1) := by decide +kernel
theorem dX7_guest_22 : decode cX7_guest 22 = .ok (.ifCond .lt 9, 3) := by decide +kernel
theorem dX7_guest_25 : decode cX7_guest 25 = .ok (.iload_n 3, 1) := by decide +kernel
theorem dX7_guest_26 : decode cX7_guest 26 = .ok (.bipush 99, 2) := by decide +kernel
theorem dX7_guest_28 : decode cX7_guest 28 = .ok (.if_icmp .le 6, 3) := by decide +kernel
theorem dX7_guest_31 : decode cX7_guest 31 = .ok (.bipush (-2), 2) := by decide +kernel
theorem dX7_guest_33 : decode cX7_guest 33 = .ok (.ireturn, 1) := by decide +kernel
theorem dX7_guest_34 : decode cX7_guest 34 = .ok (.aload_n 0, 1) := by decide +kernel
theorem dX7_guest_35 : decode cX7_guest 35 = .ok (.getfield 50, 3) := by decide +kernel
theorem dX7_guest_38 : decode cX7_guest 38 = .ok (.getfield 67, 3) := by decide +kernel
theorem dX7_guest_41 : decode cX7_guest 41 = .ok (.bipush 6, 2) := by decide +kernel
theorem dX7_guest_43 : decode cX7_guest 43 = .ok (.if_icmp .lt 6, 3) := by decide +kernel
theorem dX7_guest_46 : decode cX7_guest 46 = .ok (.bipush (-4), 2) := by decide +kernel
theorem dX7_guest_48 : decode cX7_guest 48 = .ok (.ireturn, 1) := by decide +kernel
theorem dX7_guest_49 : decode cX7_guest 49 = .ok (.aload_n 0, 1) := by decide +kernel
theorem dX7_guest_50 : decode cX7_guest 50 = .ok (.getfield 50, 3) := by decide +kernel
theorem dX7_guest_53 : decode cX7_guest 53 = .ok (.getfield 128, 3) := by decide +kernel
theorem dX7_guest_56 : decode cX7_guest 56 = .ok (.aload_n 0, 1) := by decide +kernel
theorem dX7_guest_57 : decode cX7_guest 57 = .ok (.getfield 50, 3) := by decide +kernel
theorem dX7_guest_60 : decode cX7_guest 60 = .ok (.getfield 67, 3) := by decide +kernel
theorem dX7_guest_63 : decode cX7_guest 63 = .ok (.aaload, 1) := by decide +kernel
theorem dX7_guest_64 : decode cX7_guest 64 = .ok (.iload_n 1, 1) := by decide +kernel
theorem dX7_guest_65 : decode cX7_guest 65 = .ok (.iload_n 2, 1) := by decide +kernel
theorem dX7_guest_66 : decode cX7_guest 66 = .ok (.iload_n 3, 1) := by decide +kernel
theorem dX7_guest_67 : decode cX7_guest 67 = .ok (.invokevirtual 136, 3) := by decide +kernel
theorem dX7_guest_70 : decode cX7_guest 70 = .ok (.aload_n 0, 1) := by decide +kernel
theorem dX7_guest_71 : decode cX7_guest 71 = .ok (.getfield 50, 3) := by decide +kernel
theorem dX7_guest_74 : decode cX7_guest 74 = .ok (.dup, 1) := by decide +kernel
theorem dX7_guest_75 : decode cX7_guest 75 = .ok (.getfield 67, 3) := by decide +kernel
theorem dX7_guest_78 : decode cX7_guest 78 = .ok (.iconst 1, 1) := by decide +kernel
theorem dX7_guest_79 : decode cX7_guest 79 = .ok (.iadd, 1) := by decide +kernel
theorem dX7_guest_80 : decode cX7_guest 80 = .ok (.putfield 67, 3) := by decide +kernel
theorem dX7_guest_83 : decode cX7_guest 83 = .ok (.aload_n 0, 1) := by decide +kernel
theorem dX7_guest_84 : decode cX7_guest 84 = .ok (.getfield 50, 3) := by decide +kernel
theorem dX7_guest_87 : decode cX7_guest 87 = .ok (.getfield 67, 3) := by decide +kernel
theorem dX7_guest_90 : decode cX7_guest 90 = .ok (.iconst 1, 1) := by decide +kernel
theorem dX7_guest_91 : decode cX7_guest 91 = .ok (.isub, 1) := by decide +kernel
theorem dX7_guest_92 : decode cX7_guest 92 = .ok (.ireturn, 1) := by decide +kernel
theorem dX7_put_0 : decode cX7_put 0 = .ok (.aload_n 0, 1) := by decide +kernel
theorem dX7_put_1 : decode cX7_put 1 = .ok (.getfield 50, 3) := by decide +kernel
theorem dX7_put_4 : decode cX7_put 4 = .ok (.iload_n 1, 1) := by decide +kernel
theorem dX7_put_5 : decode cX7_put 5 = .ok (.invokevirtual 125, 3) := by decide +kernel
theorem dX7_put_8 : decode cX7_put 8 = .ok (.ifCond .ne 6, 3) := by decide +kernel
theorem dX7_put_11 : decode cX7_put 11 = .ok (.bipush (-5), 2) := by decide +kernel
theorem dX7_put_13 : decode cX7_put 13 = .ok (.ireturn, 1) := by decide +kernel
theorem dX7_put_14 : decode cX7_put 14 = .ok (.iload_n 2, 1) := by decide +kernel
theorem dX7_put_15 : decode cX7_put 15 = .ok (.ifCond .lt 20, 3) := by decide +kernel
theorem dX7_put_18 : decode cX7_put 18 = .ok (.iload_n 2, 1) := by decide +kernel
theorem dX7_put_19 : decode cX7_put 19 = .ok (.iconst 4, 1) := by decide +kernel
theorem dX7_put_20 : decode cX7_put 20 = .ok (.if_icmp .gt 15, 3) := by decide +kernel
theorem dX7_put_23 : decode cX7_put 23 = .ok (.iload_n 3, 1) := by decide +kernel
theorem dX7_put_24 : decode cX7_put 24 = .ok (.ifCond .lt 11, 3) := by decide +kernel
theorem dX7_put_27 : decode cX7_put 27 = .ok (.iload_n 3, 1) := by decide +kernel
theorem dX7_put_28 : decode cX7_put 28 = .ok (.iload_n 2, 1) := by decide +kernel
theorem dX7_put_29 : decode cX7_put 29 = .ok (.invokestatic 142, 3) := by decide +kernel
theorem dX7_put_32 : decode cX7_put 32 = .ok (.if_icmp .le 6, 3) := by decide +kernel
theorem dX7_put_35 : decode cX7_put 35 = .ok (.bipush (-7), 2) := by decide +kernel
theorem dX7_put_37 : decode cX7_put 37 = .ok (.ireturn, 1) := by decide +kernel
theorem dX7_put_38 : decode cX7_put 38 = .ok (.aload_n 0, 1) := by decide +kernel
theorem dX7_put_39 : decode cX7_put 39 = .ok (.getfield 50, 3) := by decide +kernel
theorem dX7_put_42 : decode cX7_put 42 = .ok (.getfield 128, 3) := by decide +kernel
theorem dX7_put_45 : decode cX7_put 45 = .ok (.iload_n 1, 1) := by decide +kernel
theorem dX7_put_46 : decode cX7_put 46 = .ok (.aaload, 1) := by decide +kernel
theorem dX7_put_47 : decode cX7_put 47 = .ok (.astore 4, 2) := by decide +kernel
theorem dX7_put_49 : decode cX7_put 49 = .ok (.aload 4, 2) := by decide +kernel
theorem dX7_put_51 : decode cX7_put 51 = .ok (.iload_n 2, 1) := by decide +kernel
theorem dX7_put_52 : decode cX7_put 52 = .ok (.invokevirtual 145, 3) := by decide +kernel
theorem dX7_put_55 : decode cX7_put 55 = .ok (.istore 5, 2) := by decide +kernel
theorem dX7_put_57 : decode cX7_put 57 = .ok (.aload 4, 2) := by decide +kernel
theorem dX7_put_59 : decode cX7_put 59 = .ok (.iload_n 2, 1) := by decide +kernel
theorem dX7_put_60 : decode cX7_put 60 = .ok (.iload_n 3, 1) := by decide +kernel
theorem dX7_put_61 : decode cX7_put 61 = .ok (.invokevirtual 148, 3) := by decide +kernel
theorem dX7_put_64 : decode cX7_put 64 = .ok (.iload 5, 2) := by decide +kernel
theorem dX7_put_66 : decode cX7_put 66 = .ok (.ireturn, 1) := by decide +kernel
theorem dX7_told_0 : decode cX7_told 0 = .ok (.aload_n 0, 1) := by decide +kernel
theorem dX7_told_1 : decode cX7_told 1 = .ok (.getfield 50, 3) := by decide +kernel
theorem dX7_told_4 : decode cX7_told 4 = .ok (.iload_n 1, 1) := by decide +kernel
theorem dX7_told_5 : decode cX7_told 5 = .ok (.invokevirtual 125, 3) := by decide +kernel
theorem dX7_told_8 : decode cX7_told 8 = .ok (.ifCond .ne 6, 3) := by decide +kernel
theorem dX7_told_11 : decode cX7_told 11 = .ok (.bipush (-5), 2) := by decide +kernel
theorem dX7_told_13 : decode cX7_told 13 = .ok (.ireturn, 1) := by decide +kernel
theorem dX7_told_14 : decode cX7_told 14 = .ok (.aload_n 0, 1) := by decide +kernel
theorem dX7_told_15 : decode cX7_told 15 = .ok (.getfield 50, 3) := by decide +kernel
theorem dX7_told_18 : decode cX7_told 18 = .ok (.getfield 128, 3) := by decide +kernel
theorem dX7_told_21 : decode cX7_told 21 = .ok (.iload_n 1, 1) := by decide +kernel
theorem dX7_told_22 : decode cX7_told 22 = .ok (.aaload, 1) := by decide +kernel
theorem dX7_told_23 : decode cX7_told 23 = .ok (.astore_n 3, 1) := by decide +kernel
theorem dX7_told_24 : decode cX7_told 24 = .ok (.iload_n 2, 1) := by decide +kernel
theorem dX7_told_25 : decode cX7_told 25 = .ok (.tableswitch 106 0 9 #[55, 55, 55, 55, 55, 61, 66, 71, 80, 97], 55) := by decide +kernel
theorem dX7_told_80 : decode cX7_told 80 = .ok (.aload_n 3, 1) := by decide +kernel
theorem dX7_told_81 : decode cX7_told 81 = .ok (.iload_n 2, 1) := by decide +kernel
theorem dX7_told_82 : decode cX7_told 82 = .ok (.invokevirtual 145, 3) := by decide +kernel
theorem dX7_told_85 : decode cX7_told 85 = .ok (.ireturn, 1) := by decide +kernel
theorem dX7_told_86 : decode cX7_told 86 = .ok (.aload_n 3, 1) := by decide +kernel
theorem dX7_told_87 : decode cX7_told 87 = .ok (.getfield 152, 3) := by decide +kernel
theorem dX7_told_90 : decode cX7_told 90 = .ok (.ireturn, 1) := by decide +kernel
theorem dX7_told_91 : decode cX7_told 91 = .ok (.aload_n 3, 1) := by decide +kernel
theorem dX7_told_92 : decode cX7_told 92 = .ok (.getfield 155, 3) := by decide +kernel
theorem dX7_told_95 : decode cX7_told 95 = .ok (.ireturn, 1) := by decide +kernel
theorem dX7_told_96 : decode cX7_told 96 = .ok (.aload_n 0, 1) := by decide +kernel
theorem dX7_told_97 : decode cX7_told 97 = .ok (.getfield 50, 3) := by decide +kernel
theorem dX7_told_100 : decode cX7_told 100 = .ok (.aload_n 3, 1) := by decide +kernel
theorem dX7_told_101 : decode cX7_told 101 = .ok (.invokevirtual 158, 3) := by decide +kernel
theorem dX7_told_104 : decode cX7_told 104 = .ok (.ireturn, 1) := by decide +kernel
theorem dX7_told_105 : decode cX7_told 105 = .ok (.aload_n 0, 1) := by decide +kernel
theorem dX7_told_106 : decode cX7_told 106 = .ok (.getfield 50, 3) := by decide +kernel
theorem dX7_told_109 : decode cX7_told 109 = .ok (.aload_n 3, 1) := by decide +kernel
theorem dX7_told_110 : decode cX7_told 110 = .ok (.invokevirtual 162, 3) := by decide +kernel
theorem dX7_told_113 : decode cX7_told 113 = .ok (.ifCond .eq 7, 3) := by decide +kernel
theorem dX7_told_116 : decode cX7_told 116 = .ok (.iconst 1, 1) := by decide +kernel
theorem dX7_told_117 : decode cX7_told 117 = .ok (.goto 4, 3) := by decide +kernel
theorem dX7_told_120 : decode cX7_told 120 = .ok (.iconst 0, 1) := by decide +kernel
theorem dX7_told_121 : decode cX7_told 121 = .ok (.ireturn, 1) := by decide +kernel
theorem dX7_told_122 : decode cX7_told 122 = .ok (.aload_n 0, 1) := by decide +kernel
theorem dX7_told_123 : decode cX7_told 123 = .ok (.getfield 50, 3) := by decide +kernel
theorem dX7_told_126 : decode cX7_told 126 = .ok (.iload_n 1, 1) := by decide +kernel
theorem dX7_told_127 : decode cX7_told 127 = .ok (.invokevirtual 166, 3) := by decide +kernel
theorem dX7_told_130 : decode cX7_told 130 = .ok (.ireturn, 1) := by decide +kernel
theorem dX7_told_131 : decode cX7_told 131 = .ok (.bipush (-7), 2) := by decide +kernel
theorem dX7_told_133 : decode cX7_told 133 = .ok (.ireturn, 1) := by decide +kernel
theorem dX7_manners_0 : decode cX7_manners 0 = .ok (.aload_n 0, 1) := by decide +kernel
theorem dX7_manners_1 : decode cX7_manners 1 = .ok (.getfield 50, 3) := by decide +kernel
theorem dX7_manners_4 : decode cX7_manners 4 = .ok (.iload_n 1, 1) := by decide +kernel
theorem dX7_manners_5 : decode cX7_manners 5 = .ok (.invokevirtual 125, 3) := by decide +kernel
theorem dX7_manners_8 : decode cX7_manners 8 = .ok (.ifCond .ne 6, 3) := by decide +kernel
theorem dX7_manners_11 : decode cX7_manners 11 = .ok (.bipush (-5), 2) := by decide +kernel
theorem dX7_manners_13 : decode cX7_manners 13 = .ok (.ireturn, 1) := by decide +kernel
theorem dX7_manners_14 : decode cX7_manners 14 = .ok (.iload_n 2, 1) := by decide +kernel
theorem dX7_manners_15 : decode cX7_manners 15 = .ok (.ifCond .lt 9, 3) := by decide +kernel
theorem dX7_manners_18 : decode cX7_manners 18 = .ok (.iload_n 2, 1) := by decide +kernel
theorem dX7_manners_19 : decode cX7_manners 19 = .ok (.bipush 10, 2) := by decide +kernel
theorem dX7_manners_21 : decode cX7_manners 21 = .ok (.if_icmp .lt 6, 3) := by decide +kernel
theorem dX7_manners_24 : decode cX7_manners 24 = .ok (.bipush (-6), 2) := by decide +kernel
theorem dX7_manners_26 : decode cX7_manners 26 = .ok (.ireturn, 1) := by decide +kernel
theorem dX7_manners_27 : decode cX7_manners 27 = .ok (.iload_n 3, 1) := by decide +kernel
theorem dX7_manners_28 : decode cX7_manners 28 = .ok (.lookupswitch 75 #[(0, 28), (1, 57)], 28) := by decide +kernel
theorem dX7_manners_56 : decode cX7_manners 56 = .ok (.aload_n 0, 1) := by decide +kernel
theorem dX7_manners_57 : decode cX7_manners 57 = .ok (.getfield 50, 3) := by decide +kernel
theorem dX7_manners_60 : decode cX7_manners 60 = .ok (.aload_n 0, 1) := by decide +kernel
theorem dX7_manners_61 : decode cX7_manners 61 = .ok (.getfield 50, 3) := by decide +kernel
theorem dX7_manners_64 : decode cX7_manners 64 = .ok (.getfield 128, 3) := by decide +kernel
theorem dX7_manners_67 : decode cX7_manners 67 = .ok (.iload_n 1, 1) := by decide +kernel
theorem dX7_manners_68 : decode cX7_manners 68 = .ok (.aaload, 1) := by decide +kernel
theorem dX7_manners_69 : decode cX7_manners 69 = .ok (.invokevirtual 169, 3) := by decide +kernel
theorem dX7_manners_72 : decode cX7_manners 72 = .ok (.iload_n 2, 1) := by decide +kernel
theorem dX7_manners_73 : decode cX7_manners 73 = .ok (.invokestatic 172, 3) := by decide +kernel
theorem dX7_manners_76 : decode cX7_manners 76 = .ok (.ifCond .eq 7, 3) := by decide +kernel
theorem dX7_manners_79 : decode cX7_manners 79 = .ok (.iconst 0, 1) := by decide +kernel
theorem dX7_manners_80 : decode cX7_manners 80 = .ok (.goto 4, 3) := by decide +kernel
theorem dX7_manners_83 : decode cX7_manners 83 = .ok (.iconst 1, 1) := by decide +kernel
theorem dX7_manners_84 : decode cX7_manners 84 = .ok (.ireturn, 1) := by decide +kernel
theorem dX7_manners_85 : decode cX7_manners 85 = .ok (.aload_n 0, 1) := by decide +kernel
theorem dX7_manners_86 : decode cX7_manners 86 = .ok (.getfield 50, 3) := by decide +kernel
theorem dX7_manners_89 : decode cX7_manners 89 = .ok (.aload_n 0, 1) := by decide +kernel
theorem dX7_manners_90 : decode cX7_manners 90 = .ok (.getfield 50, 3) := by decide +kernel
theorem dX7_manners_93 : decode cX7_manners 93 = .ok (.getfield 128, 3) := by decide +kernel
theorem dX7_manners_96 : decode cX7_manners 96 = .ok (.iload_n 1, 1) := by decide +kernel
theorem dX7_manners_97 : decode cX7_manners 97 = .ok (.aaload, 1) := by decide +kernel
theorem dX7_manners_98 : decode cX7_manners 98 = .ok (.iload_n 2, 1) := by decide +kernel
theorem dX7_manners_99 : decode cX7_manners 99 = .ok (.invokevirtual 176, 3) := by decide +kernel
theorem dX7_manners_102 : decode cX7_manners 102 = .ok (.ireturn, 1) := by decide +kernel
theorem dX7_manners_103 : decode cX7_manners 103 = .ok (.bipush (-7), 2) := by decide +kernel
theorem dX7_manners_105 : decode cX7_manners 105 = .ok (.ireturn, 1) := by decide +kernel
theorem dX7_dinner_0 : decode cX7_dinner 0 = .ok (.iload_n 1, 1) := by decide +kernel
theorem dX7_dinner_1 : decode cX7_dinner 1 = .ok (.tableswitch 75 0 4 #[35, 43, 51, 59, 67], 35) := by decide +kernel
theorem dX7_dinner_36 : decode cX7_dinner 36 = .ok (.aload_n 0, 1) := by decide +kernel
theorem dX7_dinner_37 : decode cX7_dinner 37 = .ok (.getfield 50, 3) := by decide +kernel
theorem dX7_dinner_40 : decode cX7_dinner 40 = .ok (.invokevirtual 73, 3) := by decide +kernel
theorem dX7_dinner_43 : decode cX7_dinner 43 = .ok (.ireturn, 1) := by decide +kernel
theorem dX7_dinner_44 : decode cX7_dinner 44 = .ok (.aload_n 0, 1) := by decide +kernel
theorem dX7_dinner_45 : decode cX7_dinner 45 = .ok (.getfield 50, 3) := by decide +kernel
theorem dX7_dinner_48 : decode cX7_dinner 48 = .ok (.invokevirtual 180, 3) := by decide +kernel
theorem dX7_dinner_51 : decode cX7_dinner 51 = .ok (.ireturn, 1) := by decide +kernel
theorem dX7_dinner_52 : decode cX7_dinner 52 = .ok (.aload_n 0, 1) := by decide +kernel
theorem dX7_dinner_53 : decode cX7_dinner 53 = .ok (.getfield 50, 3) := by decide +kernel
theorem dX7_dinner_56 : decode cX7_dinner 56 = .ok (.invokevirtual 183, 3) := by decide +kernel
theorem dX7_dinner_59 : decode cX7_dinner 59 = .ok (.ireturn, 1) := by decide +kernel
theorem dX7_dinner_60 : decode cX7_dinner 60 = .ok (.aload_n 0, 1) := by decide +kernel
theorem dX7_dinner_61 : decode cX7_dinner 61 = .ok (.getfield 50, 3) := by decide +kernel
theorem dX7_dinner_64 : decode cX7_dinner 64 = .ok (.invokevirtual 186, 3) := by decide +kernel
theorem dX7_dinner_67 : decode cX7_dinner 67 = .ok (.ireturn, 1) := by decide +kernel
theorem dX7_dinner_68 : decode cX7_dinner 68 = .ok (.aload_n 0, 1) := by decide +kernel
theorem dX7_dinner_69 : decode cX7_dinner 69 = .ok (.getfield 50, 3) := by decide +kernel
theorem dX7_dinner_72 : decode cX7_dinner 72 = .ok (.invokevirtual 189, 3) := by decide +kernel
theorem dX7_dinner_75 : decode cX7_dinner 75 = .ok (.ireturn, 1) := by decide +kernel
theorem dX7_dinner_76 : decode cX7_dinner 76 = .ok (.bipush (-2), 2) := by decide +kernel
theorem dX7_dinner_78 : decode cX7_dinner 78 = .ok (.ireturn, 1) := by decide +kernel
theorem dX7_minute_0 : decode cX7_minute 0 = .ok (.aload_n 0, 1) := by decide +kernel
theorem dX7_minute_1 : decode cX7_minute 1 = .ok (.getfield 50, 3) := by decide +kernel
theorem dX7_minute_4 : decode cX7_minute 4 = .ok (.getfield 70, 3) := by decide +kernel
theorem dX7_minute_7 : decode cX7_minute 7 = .ok (.sipush 999, 3) := by decide +kernel
theorem dX7_minute_10 : decode cX7_minute 10 = .ok (.if_icmp .lt 6, 3) := by decide +kernel
theorem dX7_minute_13 : decode cX7_minute 13 = .ok (.bipush (-3), 2) := by decide +kernel
theorem dX7_minute_15 : decode cX7_minute 15 = .ok (.ireturn, 1) := by decide +kernel
theorem dX7_minute_16 : decode cX7_minute 16 = .ok (.aload_n 0, 1) := by decide +kernel
theorem dX7_minute_17 : decode cX7_minute 17 = .ok (.getfield 50, 3) := by decide +kernel
theorem dX7_minute_20 : decode cX7_minute 20 = .ok (.invokevirtual 192, 3) := by decide +kernel
theorem dX7_minute_23 : decode cX7_minute 23 = .ok (.ireturn, 1) := by decide +kernel
theorem dX7_act_0 : decode cX7_act 0 = .ok (.aload_n 0, 1) := by decide +kernel
theorem dX7_act_1 : decode cX7_act 1 = .ok (.getfield 50, 3) := by decide +kernel
theorem dX7_act_4 : decode cX7_act 4 = .ok (.iload_n 1, 1) := by decide +kernel
theorem dX7_act_5 : decode cX7_act 5 = .ok (.invokevirtual 125, 3) := by decide +kernel
theorem dX7_act_8 : decode cX7_act 8 = .ok (.ifCond .ne 6, 3) := by decide +kernel
theorem dX7_act_11 : decode cX7_act 11 = .ok (.bipush (-5), 2) := by decide +kernel
theorem dX7_act_13 : decode cX7_act 13 = .ok (.ireturn, 1) := by decide +kernel
theorem dX7_act_14 : decode cX7_act 14 = .ok (.aload_n 0, 1) := by decide +kernel
theorem dX7_act_15 : decode cX7_act 15 = .ok (.getfield 50, 3) := by decide +kernel
theorem dX7_act_18 : decode cX7_act 18 = .ok (.aload_n 0, 1) := by decide +kernel
theorem dX7_act_19 : decode cX7_act 19 = .ok (.getfield 50, 3) := by decide +kernel
theorem dX7_act_22 : decode cX7_act 22 = .ok (.getfield 128, 3) := by decide +kernel
theorem dX7_act_25 : decode cX7_act 25 = .ok (.iload_n 1, 1) := by decide +kernel
theorem dX7_act_26 : decode cX7_act 26 = .ok (.aaload, 1) := by decide +kernel
theorem dX7_act_27 : decode cX7_act 27 = .ok (.invokevirtual 158, 3) := by decide +kernel
theorem dX7_act_30 : decode cX7_act 30 = .ok (.istore_n 2, 1) := by decide +kernel
theorem dX7_act_31 : decode cX7_act 31 = .ok (.iload_n 2, 1) := by decide +kernel
theorem dX7_act_32 : decode cX7_act 32 = .ok (.iconst (-1), 1) := by decide +kernel
theorem dX7_act_33 : decode cX7_act 33 = .ok (.if_icmp .ne 6, 3) := by decide +kernel
theorem dX7_act_36 : decode cX7_act 36 = .ok (.bipush (-3), 2) := by decide +kernel
theorem dX7_act_38 : decode cX7_act 38 = .ok (.ireturn, 1) := by decide +kernel
theorem dX7_act_39 : decode cX7_act 39 = .ok (.aload_n 0, 1) := by decide +kernel
theorem dX7_act_40 : decode cX7_act 40 = .ok (.getfield 50, 3) := by decide +kernel
theorem dX7_act_43 : decode cX7_act 43 = .ok (.iload_n 1, 1) := by decide +kernel
theorem dX7_act_44 : decode cX7_act 44 = .ok (.iload_n 2, 1) := by decide +kernel
theorem dX7_act_45 : decode cX7_act 45 = .ok (.invokevirtual 195, 3) := by decide +kernel
theorem dX7_act_48 : decode cX7_act 48 = .ok (.iload_n 2, 1) := by decide +kernel
theorem dX7_act_49 : decode cX7_act 49 = .ok (.ireturn, 1) := by decide +kernel
theorem dX7_swap_0 : decode cX7_swap 0 = .ok (.aload_n 0, 1) := by decide +kernel
theorem dX7_swap_1 : decode cX7_swap 1 = .ok (.getfield 50, 3) := by decide +kernel
theorem dX7_swap_4 : decode cX7_swap 4 = .ok (.iload_n 1, 1) := by decide +kernel
theorem dX7_swap_5 : decode cX7_swap 5 = .ok (.invokevirtual 125, 3) := by decide +kernel
theorem dX7_swap_8 : decode cX7_swap 8 = .ok (.ifCond .eq 19, 3) := by decide +kernel
theorem dX7_swap_11 : decode cX7_swap 11 = .ok (.aload_n 0, 1) := by decide +kernel
theorem dX7_swap_12 : decode cX7_swap 12 = .ok (.getfield 50, 3) := by decide +kernel
theorem dX7_swap_15 : decode cX7_swap 15 = .ok (.iload_n 2, 1) := by decide +kernel
theorem dX7_swap_16 : decode cX7_swap 16 = .ok (.invokevirtual 125, 3) := by decide +kernel
theorem dX7_swap_19 : decode cX7_swap 19 = .ok (.ifCond .eq 8, 3) := by decide +kernel
theorem dX7_swap_22 : decode cX7_swap 22 = .ok (.iload_n 1, 1) := by decide +kernel
theorem dX7_swap_23 : decode cX7_swap 23 = .ok (.iload_n 2, 1) := by decide +kernel
theorem dX7_swap_24 : decode cX7_swap 24 = .ok (.if_icmp .ne 6, 3) := by decide +kernel
theorem dX7_swap_27 : decode cX7_swap 27 = .ok (.bipush (-5), 2) := by decide +kernel
theorem dX7_swap_29 : decode cX7_swap 29 = .ok (.ireturn, 1) := by decide +kernel
theorem dX7_swap_30 : decode cX7_swap 30 = .ok (.aload_n 0, 1) := by decide +kernel
theorem dX7_swap_31 : decode cX7_swap 31 = .ok (.getfield 50, 3) := by decide +kernel
theorem dX7_swap_34 : decode cX7_swap 34 = .ok (.iload_n 1, 1) := by decide +kernel
theorem dX7_swap_35 : decode cX7_swap 35 = .ok (.iload_n 2, 1) := by decide +kernel
theorem dX7_swap_36 : decode cX7_swap 36 = .ok (.invokevirtual 198, 3) := by decide +kernel
theorem dX7_swap_39 : decode cX7_swap 39 = .ok (.aload_n 0, 1) := by decide +kernel
theorem dX7_swap_40 : decode cX7_swap 40 = .ok (.getfield 50, 3) := by decide +kernel
theorem dX7_swap_43 : decode cX7_swap 43 = .ok (.getfield 128, 3) := by decide +kernel
theorem dX7_swap_46 : decode cX7_swap 46 = .ok (.iload_n 1, 1) := by decide +kernel
theorem dX7_swap_47 : decode cX7_swap 47 = .ok (.aaload, 1) := by decide +kernel
theorem dX7_swap_48 : decode cX7_swap 48 = .ok (.getfield 201, 3) := by decide +kernel
theorem dX7_swap_51 : decode cX7_swap 51 = .ok (.ireturn, 1) := by decide +kernel
theorem dX7_run_0 : decode cX7_run 0 = .ok (.iload_n 2, 1) := by decide +kernel
theorem dX7_run_1 : decode cX7_run 1 = .ok (.ifCond .lt 12, 3) := by decide +kernel
theorem dX7_run_4 : decode cX7_run 4 = .ok (.iload_n 2, 1) := by decide +kernel
theorem dX7_run_5 : decode cX7_run 5 = .ok (.iconst 2, 1) := by decide +kernel
theorem dX7_run_6 : decode cX7_run 6 = .ok (.if_icmp .gt 7, 3) := by decide +kernel
theorem dX7_run_9 : decode cX7_run 9 = .ok (.iconst 1, 1) := by decide +kernel
theorem dX7_run_10 : decode cX7_run 10 = .ok (.goto 4, 3) := by decide +kernel
theorem dX7_run_13 : decode cX7_run 13 = .ok (.iconst 0, 1) := by decide +kernel
theorem dX7_run_14 : decode cX7_run 14 = .ok (.istore_n 3, 1) := by decide +kernel
theorem dX7_run_15 : decode cX7_run 15 = .ok (.iload_n 2, 1) := by decide +kernel
theorem dX7_run_16 : decode cX7_run 16 = .ok (.bipush 10, 2) := by decide +kernel
theorem dX7_run_18 : decode cX7_run 18 = .ok (.if_icmp .lt 27, 3) := by decide +kernel
theorem dX7_run_21 : decode cX7_run 21 = .ok (.iload_n 2, 1) := by decide +kernel
theorem dX7_run_22 : decode cX7_run 22 = .ok (.bipush 40, 2) := by decide +kernel
theorem dX7_run_24 : decode cX7_run 24 = .ok (.if_icmp .ge 21, 3) := by decide +kernel
theorem dX7_run_27 : decode cX7_run 27 = .ok (.aload_n 0, 1) := by decide +kernel
theorem dX7_run_28 : decode cX7_run 28 = .ok (.getfield 50, 3) := by decide +kernel
theorem dX7_run_31 : decode cX7_run 31 = .ok (.iload_n 2, 1) := by decide +kernel
theorem dX7_run_32 : decode cX7_run 32 = .ok (.bipush 10, 2) := by decide +kernel
theorem dX7_run_34 : decode cX7_run 34 = .ok (.irem, 1) := by decide +kernel
theorem dX7_run_35 : decode cX7_run 35 = .ok (.invokevirtual 125, 3) := by decide +kernel
theorem dX7_run_38 : decode cX7_run 38 = .ok (.ifCond .eq 7, 3) := by decide +kernel
theorem dX7_run_41 : decode cX7_run 41 = .ok (.iconst 1, 1) := by decide +kernel
theorem dX7_run_42 : decode cX7_run 42 = .ok (.goto 4, 3) := by decide +kernel
theorem dX7_run_45 : decode cX7_run 45 = .ok (.iconst 0, 1) := by decide +kernel
theorem dX7_run_46 : decode cX7_run 46 = .ok (.istore 4, 2) := by decide +kernel
theorem dX7_run_48 : decode cX7_run 48 = .ok (.iload_n 1, 1) := by decide +kernel
theorem dX7_run_49 : decode cX7_run 49 = .ok (.invokestatic 204, 3) := by decide +kernel
theorem dX7_run_52 : decode cX7_run 52 = .ok (.ifCond .eq 12, 3) := by decide +kernel
theorem dX7_run_55 : decode cX7_run 55 = .ok (.iload_n 3, 1) := by decide +kernel
theorem dX7_run_56 : decode cX7_run 56 = .ok (.ifCond .ne 11, 3) := by decide +kernel
theorem dX7_run_59 : decode cX7_run 59 = .ok (.iload 4, 2) := by decide +kernel
theorem dX7_run_61 : decode cX7_run 61 = .ok (.ifCond .ne 6, 3) := by decide +kernel
theorem dX7_run_64 : decode cX7_run 64 = .ok (.bipush (-2), 2) := by decide +kernel
theorem dX7_run_66 : decode cX7_run 66 = .ok (.ireturn, 1) := by decide +kernel
theorem dX7_run_67 : decode cX7_run 67 = .ok (.aload_n 0, 1) := by decide +kernel
theorem dX7_run_68 : decode cX7_run 68 = .ok (.invokevirtual 207, 3) := by decide +kernel
theorem dX7_run_71 : decode cX7_run 71 = .ok (.iconst 0, 1) := by decide +kernel
theorem dX7_run_72 : decode cX7_run 72 = .ok (.istore 5, 2) := by decide +kernel
theorem dX7_run_74 : decode cX7_run 74 = .ok (.iconst 0, 1) := by decide +kernel
theorem dX7_run_75 : decode cX7_run 75 = .ok (.istore 6, 2) := by decide +kernel
theorem dX7_run_77 : decode cX7_run 77 = .ok (.iload 6, 2) := by decide +kernel
theorem dX7_run_79 : decode cX7_run 79 = .ok (.iload_n 1, 1) := by decide +kernel
theorem dX7_run_80 : decode cX7_run 80 = .ok (.if_icmp .ge 21, 3) := by decide +kernel
theorem dX7_run_83 : decode cX7_run 83 = .ok (.iload 5, 2) := by decide +kernel
theorem dX7_run_85 : decode cX7_run 85 = .ok (.aload_n 0, 1) := by decide +kernel
theorem dX7_run_86 : decode cX7_run 86 = .ok (.getfield 54, 3) := by decide +kernel
theorem dX7_run_89 : decode cX7_run 89 = .ok (.invokevirtual 192, 3) := by decide +kernel
theorem dX7_run_92 : decode cX7_run 92 = .ok (.iadd, 1) := by decide +kernel
theorem dX7_run_93 : decode cX7_run 93 = .ok (.istore 5, 2) := by decide +kernel
theorem dX7_run_95 : decode cX7_run 95 = .ok (.iinc 6 1, 3) := by decide +kernel
theorem dX7_run_98 : decode cX7_run 98 = .ok (.goto (-21), 3) := by decide +kernel
theorem dX7_run_101 : decode cX7_run 101 = .ok (.iload 4, 2) := by decide +kernel
theorem dX7_run_103 : decode cX7_run 103 = .ok (.ifCond .eq 51, 3) := by decide +kernel
theorem dX7_run_106 : decode cX7_run 106 = .ok (.aload_n 0, 1) := by decide +kernel
theorem dX7_run_107 : decode cX7_run 107 = .ok (.getfield 54, 3) := by decide +kernel
theorem dX7_run_110 : decode cX7_run 110 = .ok (.getfield 128, 3) := by decide +kernel
theorem dX7_run_113 : decode cX7_run 113 = .ok (.iload_n 2, 1) := by decide +kernel
theorem dX7_run_114 : decode cX7_run 114 = .ok (.bipush 10, 2) := by decide +kernel
theorem dX7_run_116 : decode cX7_run 116 = .ok (.irem, 1) := by decide +kernel
theorem dX7_run_117 : decode cX7_run 117 = .ok (.aaload, 1) := by decide +kernel
theorem dX7_run_118 : decode cX7_run 118 = .ok (.astore 6, 2) := by decide +kernel
theorem dX7_run_120 : decode cX7_run 120 = .ok (.iload_n 2, 1) := by decide +kernel
theorem dX7_run_121 : decode cX7_run 121 = .ok (.bipush 20, 2) := by decide +kernel
theorem dX7_run_123 : decode cX7_run 123 = .ok (.if_icmp .ge 11, 3) := by decide +kernel
theorem dX7_run_126 : decode cX7_run 126 = .ok (.aload 6, 2) := by decide +kernel
theorem dX7_run_128 : decode cX7_run 128 = .ok (.getfield 201, 3) := by decide +kernel
theorem dX7_run_131 : decode cX7_run 131 = .ok (.goto 22, 3) := by decide +kernel
theorem dX7_run_134 : decode cX7_run 134 = .ok (.iload_n 2, 1) := by decide +kernel
theorem dX7_run_135 : decode cX7_run 135 = .ok (.bipush 30, 2) := by decide +kernel
theorem dX7_run_137 : decode cX7_run 137 = .ok (.if_icmp .ge 11, 3) := by decide +kernel
theorem dX7_run_140 : decode cX7_run 140 = .ok (.aload 6, 2) := by decide +kernel
theorem dX7_run_142 : decode cX7_run 142 = .ok (.getfield 210, 3) := by decide +kernel
theorem dX7_run_145 : decode cX7_run 145 = .ok (.goto 8, 3) := by decide +kernel
theorem dX7_run_148 : decode cX7_run 148 = .ok (.aload 6, 2) := by decide +kernel
theorem dX7_run_150 : decode cX7_run 150 = .ok (.getfield 213, 3) := by decide +kernel
theorem dX7_run_153 : decode cX7_run 153 = .ok (.ireturn, 1) := by decide +kernel
theorem dX7_run_154 : decode cX7_run 154 = .ok (.iload_n 2, 1) := by decide +kernel
theorem dX7_run_155 : decode cX7_run 155 = .ok (.ifCond .ne 13, 3) := by decide +kernel
theorem dX7_run_158 : decode cX7_run 158 = .ok (.aload_n 0, 1) := by decide +kernel
theorem dX7_run_159 : decode cX7_run 159 = .ok (.getfield 54, 3) := by decide +kernel
theorem dX7_run_162 : decode cX7_run 162 = .ok (.invokevirtual 73, 3) := by decide +kernel
theorem dX7_run_165 : decode cX7_run 165 = .ok (.goto 20, 3) := by decide +kernel
theorem dX7_run_168 : decode cX7_run 168 = .ok (.iload_n 2, 1) := by decide +kernel
theorem dX7_run_169 : decode cX7_run 169 = .ok (.iconst 1, 1) := by decide +kernel
theorem dX7_run_170 : decode cX7_run 170 = .ok (.if_icmp .ne 8, 3) := by decide +kernel
theorem dX7_run_173 : decode cX7_run 173 = .ok (.iload 5, 2) := by decide +kernel
theorem dX7_run_175 : decode cX7_run 175 = .ok (.goto 10, 3) := by decide +kernel
theorem dX7_run_178 : decode cX7_run 178 = .ok (.aload_n 0, 1) := by decide +kernel
theorem dX7_run_179 : decode cX7_run 179 = .ok (.getfield 54, 3) := by decide +kernel
theorem dX7_run_182 : decode cX7_run 182 = .ok (.invokevirtual 189, 3) := by decide +kernel
theorem dX7_run_185 : decode cX7_run 185 = .ok (.ireturn, 1) := by decide +kernel
theorem dX7_when_0 : decode cX7_when 0 = .ok (.iload_n 1, 1) := by decide +kernel
theorem dX7_when_1 : decode cX7_when 1 = .ok (.ifCond .lt 26, 3) := by decide +kernel
theorem dX7_when_4 : decode cX7_when 4 = .ok (.iload_n 1, 1) := by decide +kernel
theorem dX7_when_5 : decode cX7_when 5 = .ok (.bipush 7, 2) := by decide +kernel
theorem dX7_when_7 : decode cX7_when 7 = .ok (.if_icmp .gt 20, 3) := by decide +kernel
theorem dX7_when_10 : decode cX7_when 10 = .ok (.iload_n 1, 1) := by decide +kernel
theorem dX7_when_11 : decode cX7_when 11 = .ok (.bipush 6, 2) := by decide +kernel
theorem dX7_when_13 : decode cX7_when 13 = .ok (.if_icmp .ge 17, 3) := by decide +kernel
theorem dX7_when_16 : decode cX7_when 16 = .ok (.aload_n 0, 1) := by decide +kernel
theorem dX7_when_17 : decode cX7_when 17 = .ok (.getfield 50, 3) := by decide +kernel
theorem dX7_when_20 : decode cX7_when 20 = .ok (.iload_n 1, 1) := by decide +kernel
theorem dX7_when_21 : decode cX7_when 21 = .ok (.invokevirtual 125, 3) := by decide +kernel
theorem dX7_when_24 : decode cX7_when 24 = .ok (.ifCond .ne 6, 3) := by decide +kernel
theorem dX7_when_27 : decode cX7_when 27 = .ok (.bipush (-5), 2) := by decide +kernel
theorem dX7_when_29 : decode cX7_when 29 = .ok (.ireturn, 1) := by decide +kernel
theorem dX7_when_30 : decode cX7_when 30 = .ok (.aload_n 0, 1) := by decide +kernel
theorem dX7_when_31 : decode cX7_when 31 = .ok (.invokevirtual 207, 3) := by decide +kernel
theorem dX7_when_34 : decode cX7_when 34 = .ok (.iconst 1, 1) := by decide +kernel
theorem dX7_when_35 : decode cX7_when 35 = .ok (.aload_n 0, 1) := by decide +kernel
theorem dX7_when_36 : decode cX7_when 36 = .ok (.getfield 54, 3) := by decide +kernel
theorem dX7_when_39 : decode cX7_when 39 = .ok (.getfield 67, 3) := by decide +kernel
theorem dX7_when_42 : decode cX7_when 42 = .ok (.ishl, 1) := by decide +kernel
theorem dX7_when_43 : decode cX7_when 43 = .ok (.iconst 1, 1) := by decide +kernel
theorem dX7_when_44 : decode cX7_when 44 = .ok (.isub, 1) := by decide +kernel
theorem dX7_when_45 : decode cX7_when 45 = .ok (.istore_n 2, 1) := by decide +kernel
theorem dX7_when_46 : decode cX7_when 46 = .ok (.iconst 0, 1) := by decide +kernel
theorem dX7_when_47 : decode cX7_when 47 = .ok (.istore_n 3, 1) := by decide +kernel
theorem dX7_when_48 : decode cX7_when 48 = .ok (.iload_n 3, 1) := by decide +kernel
theorem dX7_when_49 : decode cX7_when 49 = .ok (.bipush 60, 2) := by decide +kernel
theorem dX7_when_51 : decode cX7_when 51 = .ok (.if_icmp .gt 71, 3) := by decide +kernel
theorem dX7_when_54 : decode cX7_when 54 = .ok (.aload_n 0, 1) := by decide +kernel
theorem dX7_when_55 : decode cX7_when 55 = .ok (.getfield 54, 3) := by decide +kernel
theorem dX7_when_58 : decode cX7_when 58 = .ok (.invokevirtual 73, 3) := by decide +kernel
theorem dX7_when_61 : decode cX7_when 61 = .ok (.istore 4, 2) := by decide +kernel
theorem dX7_when_63 : decode cX7_when 63 = .ok (.iload_n 1, 1) := by decide +kernel
theorem dX7_when_64 : decode cX7_when 64 = .ok (.bipush 6, 2) := by decide +kernel
theorem dX7_when_66 : decode cX7_when 66 = .ok (.if_icmp .ge 12, 3) := by decide +kernel
theorem dX7_when_69 : decode cX7_when 69 = .ok (.iload 4, 2) := by decide +kernel
theorem dX7_when_71 : decode cX7_when 71 = .ok (.iload_n 1, 1) := by decide +kernel
theorem dX7_when_72 : decode cX7_when 72 = .ok (.invokestatic 172, 3) := by decide +kernel
theorem dX7_when_75 : decode cX7_when 75 = .ok (.goto 24, 3) := by decide +kernel
theorem dX7_when_78 : decode cX7_when 78 = .ok (.iload 4, 2) := by decide +kernel
theorem dX7_when_80 : decode cX7_when 80 = .ok (.iload_n 1, 1) := by decide +kernel
theorem dX7_when_81 : decode cX7_when 81 = .ok (.bipush 6, 2) := by decide +kernel
theorem dX7_when_83 : decode cX7_when 83 = .ok (.if_icmp .ne 7, 3) := by decide +kernel
theorem dX7_when_86 : decode cX7_when 86 = .ok (.iload_n 2, 1) := by decide +kernel
theorem dX7_when_87 : decode cX7_when 87 = .ok (.goto 4, 3) := by decide +kernel
theorem dX7_when_90 : decode cX7_when 90 = .ok (.iconst 0, 1) := by decide +kernel
theorem dX7_when_91 : decode cX7_when 91 = .ok (.if_icmp .ne 7, 3) := by decide +kernel
theorem dX7_when_94 : decode cX7_when 94 = .ok (.iconst 1, 1) := by decide +kernel
theorem dX7_when_95 : decode cX7_when 95 = .ok (.goto 4, 3) := by decide +kernel
theorem dX7_when_98 : decode cX7_when 98 = .ok (.iconst 0, 1) := by decide +kernel
theorem dX7_when_99 : decode cX7_when 99 = .ok (.istore 5, 2) := by decide +kernel
theorem dX7_when_101 : decode cX7_when 101 = .ok (.iload 5, 2) := by decide +kernel
theorem dX7_when_103 : decode cX7_when 103 = .ok (.ifCond .eq 5, 3) := by decide +kernel
theorem dX7_when_106 : decode cX7_when 106 = .ok (.iload_n 3, 1) := by decide +kernel
theorem dX7_when_107 : decode cX7_when 107 = .ok (.ireturn, 1) := by decide +kernel
theorem dX7_when_108 : decode cX7_when 108 = .ok (.aload_n 0, 1) := by decide +kernel
theorem dX7_when_109 : decode cX7_when 109 = .ok (.getfield 54, 3) := by decide +kernel
theorem dX7_when_112 : decode cX7_when 112 = .ok (.invokevirtual 192, 3) := by decide +kernel
theorem dX7_when_115 : decode cX7_when 115 = .ok (.pop, 1) := by decide +kernel
theorem dX7_when_116 : decode cX7_when 116 = .ok (.iinc 3 1, 3) := by decide +kernel
theorem dX7_when_119 : decode cX7_when 119 = .ok (.goto (-71), 3) := by decide +kernel
theorem dX7_when_122 : decode cX7_when 122 = .ok (.iconst (-1), 1) := by decide +kernel
theorem dX7_when_123 : decode cX7_when 123 = .ok (.ireturn, 1) := by decide +kernel
theorem dX7_poker_0 : decode cX7_poker 0 = .ok (.iload_n 1, 1) := by decide +kernel
theorem dX7_poker_1 : decode cX7_poker 1 = .ok (.invokestatic 204, 3) := by decide +kernel
theorem dX7_poker_4 : decode cX7_poker 4 = .ok (.ifCond .eq 10, 3) := by decide +kernel
theorem dX7_poker_7 : decode cX7_poker 7 = .ok (.iload_n 2, 1) := by decide +kernel
theorem dX7_poker_8 : decode cX7_poker 8 = .ok (.invokestatic 216, 3) := by decide +kernel
theorem dX7_poker_11 : decode cX7_poker 11 = .ok (.ifCond .ne 6, 3) := by decide +kernel
theorem dX7_poker_14 : decode cX7_poker 14 = .ok (.bipush (-2), 2) := by decide +kernel
theorem dX7_poker_16 : decode cX7_poker 16 = .ok (.ireturn, 1) := by decide +kernel
theorem dX7_poker_17 : decode cX7_poker 17 = .ok (.iconst (-1), 1) := by decide +kernel
theorem dX7_poker_18 : decode cX7_poker 18 = .ok (.istore_n 3, 1) := by decide +kernel
theorem dX7_poker_19 : decode cX7_poker 19 = .ok (.aload_n 0, 1) := by decide +kernel
theorem dX7_poker_20 : decode cX7_poker 20 = .ok (.invokevirtual 207, 3) := by decide +kernel
theorem dX7_poker_23 : decode cX7_poker 23 = .ok (.aload_n 0, 1) := by decide +kernel
theorem dX7_poker_24 : decode cX7_poker 24 = .ok (.getfield 54, 3) := by decide +kernel
theorem dX7_poker_27 : decode cX7_poker 27 = .ok (.iload_n 1, 1) := by decide +kernel
theorem dX7_poker_28 : decode cX7_poker 28 = .ok (.invokevirtual 219, 3) := by decide +kernel
theorem dX7_poker_31 : decode cX7_poker 31 = .ok (.istore 4, 2) := by decide +kernel
theorem dX7_poker_33 : decode cX7_poker 33 = .ok (.iconst 0, 1) := by decide +kernel
theorem dX7_poker_34 : decode cX7_poker 34 = .ok (.istore 5, 2) := by decide +kernel
theorem dX7_poker_36 : decode cX7_poker 36 = .ok (.iload 5, 2) := by decide +kernel
theorem dX7_poker_38 : decode cX7_poker 38 = .ok (.bipush 10, 2) := by decide +kernel
theorem dX7_poker_40 : decode cX7_poker 40 = .ok (.if_icmp .ge 46, 3) := by decide +kernel
theorem dX7_poker_43 : decode cX7_poker 43 = .ok (.aload_n 0, 1) := by decide +kernel
theorem dX7_poker_44 : decode cX7_poker 44 = .ok (.invokevirtual 207, 3) := by decide +kernel
theorem dX7_poker_47 : decode cX7_poker 47 = .ok (.aload_n 0, 1) := by decide +kernel
theorem dX7_poker_48 : decode cX7_poker 48 = .ok (.getfield 54, 3) := by decide +kernel
theorem dX7_poker_51 : decode cX7_poker 51 = .ok (.iload 5, 2) := by decide +kernel
theorem dX7_poker_53 : decode cX7_poker 53 = .ok (.invokevirtual 222, 3) := by decide +kernel
theorem dX7_poker_56 : decode cX7_poker 56 = .ok (.aload_n 0, 1) := by decide +kernel
theorem dX7_poker_57 : decode cX7_poker 57 = .ok (.getfield 54, 3) := by decide +kernel
theorem dX7_poker_60 : decode cX7_poker 60 = .ok (.iload_n 1, 1) := by decide +kernel
theorem dX7_poker_61 : decode cX7_poker 61 = .ok (.invokevirtual 219, 3) := by decide +kernel
theorem dX7_poker_64 : decode cX7_poker 64 = .ok (.istore 6, 2) := by decide +kernel
theorem dX7_poker_66 : decode cX7_poker 66 = .ok (.iload 6, 2) := by decide +kernel
theorem dX7_poker_68 : decode cX7_poker 68 = .ok (.iload 4, 2) := by decide +kernel
theorem dX7_poker_70 : decode cX7_poker 70 = .ok (.if_icmp .ge 10, 3) := by decide +kernel
theorem dX7_poker_73 : decode cX7_poker 73 = .ok (.iload 5, 2) := by decide +kernel
theorem dX7_poker_75 : decode cX7_poker 75 = .ok (.istore_n 3, 1) := by decide +kernel
theorem dX7_poker_76 : decode cX7_poker 76 = .ok (.iload 6, 2) := by decide +kernel
theorem dX7_poker_78 : decode cX7_poker 78 = .ok (.istore 4, 2) := by decide +kernel
theorem dX7_poker_80 : decode cX7_poker 80 = .ok (.iinc 5 1, 3) := by decide +kernel
theorem dX7_poker_83 : decode cX7_poker 83 = .ok (.goto (-47), 3) := by decide +kernel
theorem dX7_poker_86 : decode cX7_poker 86 = .ok (.iload_n 2, 1) := by decide +kernel
theorem dX7_poker_87 : decode cX7_poker 87 = .ok (.ifCond .ne 7, 3) := by decide +kernel
theorem dX7_poker_90 : decode cX7_poker 90 = .ok (.iload_n 3, 1) := by decide +kernel
theorem dX7_poker_91 : decode cX7_poker 91 = .ok (.goto 5, 3) := by decide +kernel
theorem dX7_poker_94 : decode cX7_poker 94 = .ok (.iload 4, 2) := by decide +kernel
theorem dX7_poker_96 : decode cX7_poker 96 = .ok (.ireturn, 1) := by decide +kernel
theorem dX7_forgive_0 : decode cX7_forgive 0 = .ok (.aload_n 0, 1) := by decide +kernel
theorem dX7_forgive_1 : decode cX7_forgive 1 = .ok (.getfield 50, 3) := by decide +kernel
theorem dX7_forgive_4 : decode cX7_forgive 4 = .ok (.iload_n 1, 1) := by decide +kernel
theorem dX7_forgive_5 : decode cX7_forgive 5 = .ok (.invokevirtual 125, 3) := by decide +kernel
theorem dX7_forgive_8 : decode cX7_forgive 8 = .ok (.ifCond .ne 6, 3) := by decide +kernel
theorem dX7_forgive_11 : decode cX7_forgive 11 = .ok (.bipush (-5), 2) := by decide +kernel
theorem dX7_forgive_13 : decode cX7_forgive 13 = .ok (.ireturn, 1) := by decide +kernel
theorem dX7_forgive_14 : decode cX7_forgive 14 = .ok (.iload_n 2, 1) := by decide +kernel
theorem dX7_forgive_15 : decode cX7_forgive 15 = .ok (.invokestatic 216, 3) := by decide +kernel
theorem dX7_forgive_18 : decode cX7_forgive 18 = .ok (.ifCond .ne 6, 3) := by decide +kernel
theorem dX7_forgive_21 : decode cX7_forgive 21 = .ok (.bipush (-7), 2) := by decide +kernel
theorem dX7_forgive_23 : decode cX7_forgive 23 = .ok (.ireturn, 1) := by decide +kernel
theorem dX7_forgive_24 : decode cX7_forgive 24 = .ok (.aload_n 0, 1) := by decide +kernel
theorem dX7_forgive_25 : decode cX7_forgive 25 = .ok (.invokevirtual 207, 3) := by decide +kernel
theorem dX7_forgive_28 : decode cX7_forgive 28 = .ok (.aload_n 0, 1) := by decide +kernel
theorem dX7_forgive_29 : decode cX7_forgive 29 = .ok (.getfield 54, 3) := by decide +kernel
theorem dX7_forgive_32 : decode cX7_forgive 32 = .ok (.getfield 128, 3) := by decide +kernel
theorem dX7_forgive_35 : decode cX7_forgive 35 = .ok (.iload_n 1, 1) := by decide +kernel
theorem dX7_forgive_36 : decode cX7_forgive 36 = .ok (.aaload, 1) := by decide +kernel
theorem dX7_forgive_37 : decode cX7_forgive 37 = .ok (.astore_n 3, 1) := by decide +kernel
theorem dX7_forgive_38 : decode cX7_forgive 38 = .ok (.aload_n 3, 1) := by decide +kernel
theorem dX7_forgive_39 : decode cX7_forgive 39 = .ok (.getfield 201, 3) := by decide +kernel
theorem dX7_forgive_42 : decode cX7_forgive 42 = .ok (.istore 4, 2) := by decide +kernel
theorem dX7_forgive_44 : decode cX7_forgive 44 = .ok (.iconst (-1), 1) := by decide +kernel
theorem dX7_forgive_45 : decode cX7_forgive 45 = .ok (.istore 5, 2) := by decide +kernel
theorem dX7_forgive_47 : decode cX7_forgive 47 = .ok (.bipush 11, 2) := by decide +kernel
theorem dX7_forgive_49 : decode cX7_forgive 49 = .ok (.istore 6, 2) := by decide +kernel
theorem dX7_forgive_51 : decode cX7_forgive 51 = .ok (.iconst 0, 1) := by decide +kernel
theorem dX7_forgive_52 : decode cX7_forgive 52 = .ok (.istore 7, 2) := by decide +kernel
theorem dX7_forgive_54 : decode cX7_forgive 54 = .ok (.iload 7, 2) := by decide +kernel
theorem dX7_forgive_56 : decode cX7_forgive 56 = .ok (.sipush 1023, 3) := by decide +kernel
theorem dX7_forgive_59 : decode cX7_forgive 59 = .ok (.if_icmp .gt 60, 3) := by decide +kernel
theorem dX7_forgive_62 : decode cX7_forgive 62 = .ok (.iload 7, 2) := by decide +kernel
theorem dX7_forgive_64 : decode cX7_forgive 64 = .ok (.iload 4, 2) := by decide +kernel
theorem dX7_forgive_66 : decode cX7_forgive 66 = .ok (.iand, 1) := by decide +kernel
theorem dX7_forgive_67 : decode cX7_forgive 67 = .ok (.iload 7, 2) := by decide +kernel
theorem dX7_forgive_69 : decode cX7_forgive 69 = .ok (.if_icmp .ne 44, 3) := by decide +kernel
theorem dX7_forgive_72 : decode cX7_forgive 72 = .ok (.iload 7, 2) := by decide +kernel
theorem dX7_forgive_74 : decode cX7_forgive 74 = .ok (.invokestatic 77, 3) := by decide +kernel
theorem dX7_forgive_77 : decode cX7_forgive 77 = .ok (.iload 6, 2) := by decide +kernel
theorem dX7_forgive_79 : decode cX7_forgive 79 = .ok (.if_icmp .ge 34, 3) := by decide +kernel
theorem dX7_forgive_82 : decode cX7_forgive 82 = .ok (.aload_n 3, 1) := by decide +kernel
theorem dX7_forgive_83 : decode cX7_forgive 83 = .ok (.iload 4, 2) := by decide +kernel
theorem dX7_forgive_85 : decode cX7_forgive 85 = .ok (.iload 7, 2) := by decide +kernel
theorem dX7_forgive_87 : decode cX7_forgive 87 = .ok (.ixor, 1) := by decide +kernel
theorem dX7_forgive_88 : decode cX7_forgive 88 = .ok (.putfield 201, 3) := by decide +kernel
theorem dX7_forgive_91 : decode cX7_forgive 91 = .ok (.aload_n 0, 1) := by decide +kernel
theorem dX7_forgive_92 : decode cX7_forgive 92 = .ok (.getfield 54, 3) := by decide +kernel
theorem dX7_forgive_95 : decode cX7_forgive 95 = .ok (.aload_n 3, 1) := by decide +kernel
theorem dX7_forgive_96 : decode cX7_forgive 96 = .ok (.invokevirtual 162, 3) := by decide +kernel
theorem dX7_forgive_99 : decode cX7_forgive 99 = .ok (.ifCond .ne 14, 3) := by decide +kernel
theorem dX7_forgive_102 : decode cX7_forgive 102 = .ok (.iload 7, 2) := by decide +kernel
theorem dX7_forgive_104 : decode cX7_forgive 104 = .ok (.istore 5, 2) := by decide +kernel
theorem dX7_forgive_106 : decode cX7_forgive 106 = .ok (.iload 7, 2) := by decide +kernel
theorem dX7_forgive_108 : decode cX7_forgive 108 = .ok (.invokestatic 77, 3) := by decide +kernel
theorem dX7_forgive_111 : decode cX7_forgive 111 = .ok (.istore 6, 2) := by decide +kernel
theorem dX7_forgive_113 : decode cX7_forgive 113 = .ok (.iinc 7 1, 3) := by decide +kernel
theorem dX7_forgive_116 : decode cX7_forgive 116 = .ok (.goto (-62), 3) := by decide +kernel
theorem dX7_forgive_119 : decode cX7_forgive 119 = .ok (.iload_n 2, 1) := by decide +kernel
theorem dX7_forgive_120 : decode cX7_forgive 120 = .ok (.ifCond .eq 9, 3) := by decide +kernel
theorem dX7_forgive_123 : decode cX7_forgive 123 = .ok (.iload 5, 2) := by decide +kernel
theorem dX7_forgive_125 : decode cX7_forgive 125 = .ok (.iconst (-1), 1) := by decide +kernel
theorem dX7_forgive_126 : decode cX7_forgive 126 = .ok (.if_icmp .ne 8, 3) := by decide +kernel
theorem dX7_forgive_129 : decode cX7_forgive 129 = .ok (.iload 5, 2) := by decide +kernel
theorem dX7_forgive_131 : decode cX7_forgive 131 = .ok (.goto 5, 3) := by decide +kernel
theorem dX7_forgive_134 : decode cX7_forgive 134 = .ok (.iload 6, 2) := by decide +kernel
theorem dX7_forgive_136 : decode cX7_forgive 136 = .ok (.ireturn, 1) := by decide +kernel
theorem dX7_alarm_0 : decode cX7_alarm 0 = .ok (.iload_n 1, 1) := by decide +kernel
theorem dX7_alarm_1 : decode cX7_alarm 1 = .ok (.invokestatic 204, 3) := by decide +kernel
theorem dX7_alarm_4 : decode cX7_alarm 4 = .ok (.ifCond .eq 10, 3) := by decide +kernel
theorem dX7_alarm_7 : decode cX7_alarm 7 = .ok (.iload_n 2, 1) := by decide +kernel
theorem dX7_alarm_8 : decode cX7_alarm 8 = .ok (.invokestatic 216, 3) := by decide +kernel
theorem dX7_alarm_11 : decode cX7_alarm 11 = .ok (.ifCond .ne 6, 3) := by decide +kernel
theorem dX7_alarm_14 : decode cX7_alarm 14 = .ok (.bipush (-2), 2) := by decide +kernel
theorem dX7_alarm_16 : decode cX7_alarm 16 = .ok (.ireturn, 1) := by decide +kernel
theorem dX7_alarm_17 : decode cX7_alarm 17 = .ok (.iconst (-1), 1) := by decide +kernel
theorem dX7_alarm_18 : decode cX7_alarm 18 = .ok (.istore_n 3, 1) := by decide +kernel
theorem dX7_alarm_19 : decode cX7_alarm 19 = .ok (.aload_n 0, 1) := by decide +kernel
theorem dX7_alarm_20 : decode cX7_alarm 20 = .ok (.invokevirtual 207, 3) := by decide +kernel
theorem dX7_alarm_23 : decode cX7_alarm 23 = .ok (.aload_n 0, 1) := by decide +kernel
theorem dX7_alarm_24 : decode cX7_alarm 24 = .ok (.getfield 54, 3) := by decide +kernel
theorem dX7_alarm_27 : decode cX7_alarm 27 = .ok (.iload_n 1, 1) := by decide +kernel
theorem dX7_alarm_28 : decode cX7_alarm 28 = .ok (.invokevirtual 225, 3) := by decide +kernel
theorem dX7_alarm_31 : decode cX7_alarm 31 = .ok (.istore 4, 2) := by decide +kernel
theorem dX7_alarm_33 : decode cX7_alarm 33 = .ok (.iconst 0, 1) := by decide +kernel
theorem dX7_alarm_34 : decode cX7_alarm 34 = .ok (.istore 5, 2) := by decide +kernel
theorem dX7_alarm_36 : decode cX7_alarm 36 = .ok (.iload 5, 2) := by decide +kernel
theorem dX7_alarm_38 : decode cX7_alarm 38 = .ok (.aload_n 0, 1) := by decide +kernel
theorem dX7_alarm_39 : decode cX7_alarm 39 = .ok (.getfield 50, 3) := by decide +kernel
theorem dX7_alarm_42 : decode cX7_alarm 42 = .ok (.getfield 67, 3) := by decide +kernel
theorem dX7_alarm_45 : decode cX7_alarm 45 = .ok (.if_icmp .ge 67, 3) := by decide +kernel
theorem dX7_alarm_48 : decode cX7_alarm 48 = .ok (.aload_n 0, 1) := by decide +kernel
theorem dX7_alarm_49 : decode cX7_alarm 49 = .ok (.getfield 50, 3) := by decide +kernel
theorem dX7_alarm_52 : decode cX7_alarm 52 = .ok (.getfield 128, 3) := by decide +kernel
theorem dX7_alarm_55 : decode cX7_alarm 55 = .ok (.iload 5, 2) := by decide +kernel
theorem dX7_alarm_57 : decode cX7_alarm 57 = .ok (.aaload, 1) := by decide +kernel
theorem dX7_alarm_58 : decode cX7_alarm 58 = .ok (.getfield 228, 3) := by decide +kernel
theorem dX7_alarm_61 : decode cX7_alarm 61 = .ok (.ifCond .ne 45, 3) := by decide +kernel
theorem dX7_alarm_64 : decode cX7_alarm 64 = .ok (.aload_n 0, 1) := by decide +kernel
theorem dX7_alarm_65 : decode cX7_alarm 65 = .ok (.invokevirtual 207, 3) := by decide +kernel
theorem dX7_alarm_68 : decode cX7_alarm 68 = .ok (.aload_n 0, 1) := by decide +kernel
theorem dX7_alarm_69 : decode cX7_alarm 69 = .ok (.getfield 54, 3) := by decide +kernel
theorem dX7_alarm_72 : decode cX7_alarm 72 = .ok (.getfield 128, 3) := by decide +kernel
theorem dX7_alarm_75 : decode cX7_alarm 75 = .ok (.iload 5, 2) := by decide +kernel
theorem dX7_alarm_77 : decode cX7_alarm 77 = .ok (.aaload, 1) := by decide +kernel
theorem dX7_alarm_78 : decode cX7_alarm 78 = .ok (.iconst 1, 1) := by decide +kernel
theorem dX7_alarm_79 : decode cX7_alarm 79 = .ok (.putfield 228, 3) := by decide +kernel
theorem dX7_alarm_82 : decode cX7_alarm 82 = .ok (.aload_n 0, 1) := by decide +kernel
theorem dX7_alarm_83 : decode cX7_alarm 83 = .ok (.getfield 54, 3) := by decide +kernel
theorem dX7_alarm_86 : decode cX7_alarm 86 = .ok (.iload_n 1, 1) := by decide +kernel
theorem dX7_alarm_87 : decode cX7_alarm 87 = .ok (.invokevirtual 225, 3) := by decide +kernel
theorem dX7_alarm_90 : decode cX7_alarm 90 = .ok (.istore 6, 2) := by decide +kernel
theorem dX7_alarm_92 : decode cX7_alarm 92 = .ok (.iload 6, 2) := by decide +kernel
theorem dX7_alarm_94 : decode cX7_alarm 94 = .ok (.iload 4, 2) := by decide +kernel
theorem dX7_alarm_96 : decode cX7_alarm 96 = .ok (.if_icmp .le 10, 3) := by decide +kernel
theorem dX7_alarm_99 : decode cX7_alarm 99 = .ok (.iload 5, 2) := by decide +kernel
theorem dX7_alarm_101 : decode cX7_alarm 101 = .ok (.istore_n 3, 1) := by decide +kernel
theorem dX7_alarm_102 : decode cX7_alarm 102 = .ok (.iload 6, 2) := by decide +kernel
theorem dX7_alarm_104 : decode cX7_alarm 104 = .ok (.istore 4, 2) := by decide +kernel
theorem dX7_alarm_106 : decode cX7_alarm 106 = .ok (.iinc 5 1, 3) := by decide +kernel
theorem dX7_alarm_109 : decode cX7_alarm 109 = .ok (.goto (-73), 3) := by decide +kernel
theorem dX7_alarm_112 : decode cX7_alarm 112 = .ok (.iload_n 2, 1) := by decide +kernel
theorem dX7_alarm_113 : decode cX7_alarm 113 = .ok (.ifCond .ne 7, 3) := by decide +kernel
theorem dX7_alarm_116 : decode cX7_alarm 116 = .ok (.iload_n 3, 1) := by decide +kernel
theorem dX7_alarm_117 : decode cX7_alarm 117 = .ok (.goto 5, 3) := by decide +kernel
theorem dX7_alarm_120 : decode cX7_alarm 120 = .ok (.iload 4, 2) := by decide +kernel
theorem dX7_alarm_122 : decode cX7_alarm 122 = .ok (.ireturn, 1) := by decide +kernel
theorem dX7_change_0 : decode cX7_change 0 = .ok (.iload_n 1, 1) := by decide +kernel
theorem dX7_change_1 : decode cX7_change 1 = .ok (.invokestatic 204, 3) := by decide +kernel
theorem dX7_change_4 : decode cX7_change 4 = .ok (.ifCond .eq 10, 3) := by decide +kernel
theorem dX7_change_7 : decode cX7_change 7 = .ok (.iload_n 2, 1) := by decide +kernel
theorem dX7_change_8 : decode cX7_change 8 = .ok (.invokestatic 216, 3) := by decide +kernel
theorem dX7_change_11 : decode cX7_change 11 = .ok (.ifCond .ne 6, 3) := by decide +kernel
theorem dX7_change_14 : decode cX7_change 14 = .ok (.bipush (-2), 2) := by decide +kernel
theorem dX7_change_16 : decode cX7_change 16 = .ok (.ireturn, 1) := by decide +kernel
theorem dX7_change_17 : decode cX7_change 17 = .ok (.iconst (-1), 1) := by decide +kernel
theorem dX7_change_18 : decode cX7_change 18 = .ok (.istore_n 3, 1) := by decide +kernel
theorem dX7_change_19 : decode cX7_change 19 = .ok (.aload_n 0, 1) := by decide +kernel
theorem dX7_change_20 : decode cX7_change 20 = .ok (.invokevirtual 207, 3) := by decide +kernel
theorem dX7_change_23 : decode cX7_change 23 = .ok (.aload_n 0, 1) := by decide +kernel
theorem dX7_change_24 : decode cX7_change 24 = .ok (.getfield 54, 3) := by decide +kernel
theorem dX7_change_27 : decode cX7_change 27 = .ok (.iload_n 1, 1) := by decide +kernel
theorem dX7_change_28 : decode cX7_change 28 = .ok (.invokevirtual 219, 3) := by decide +kernel
theorem dX7_change_31 : decode cX7_change 31 = .ok (.istore 4, 2) := by decide +kernel
theorem dX7_change_33 : decode cX7_change 33 = .ok (.iconst 0, 1) := by decide +kernel
theorem dX7_change_34 : decode cX7_change 34 = .ok (.istore 5, 2) := by decide +kernel
theorem dX7_change_36 : decode cX7_change 36 = .ok (.iload 5, 2) := by decide +kernel
theorem dX7_change_38 : decode cX7_change 38 = .ok (.aload_n 0, 1) := by decide +kernel
theorem dX7_change_39 : decode cX7_change 39 = .ok (.getfield 50, 3) := by decide +kernel
theorem dX7_change_42 : decode cX7_change 42 = .ok (.getfield 67, 3) := by decide +kernel
theorem dX7_change_45 : decode cX7_change 45 = .ok (.if_icmp .ge 78, 3) := by decide +kernel
theorem dX7_change_48 : decode cX7_change 48 = .ok (.iload 5, 2) := by decide +kernel
theorem dX7_change_50 : decode cX7_change 50 = .ok (.iconst 1, 1) := by decide +kernel
theorem dX7_change_51 : decode cX7_change 51 = .ok (.iadd, 1) := by decide +kernel
theorem dX7_change_52 : decode cX7_change 52 = .ok (.istore 6, 2) := by decide +kernel
theorem dX7_change_54 : decode cX7_change 54 = .ok (.iload 6, 2) := by decide +kernel
theorem dX7_change_56 : decode cX7_change 56 = .ok (.aload_n 0, 1) := by decide +kernel
theorem dX7_change_57 : decode cX7_change 57 = .ok (.getfield 50, 3) := by decide +kernel
theorem dX7_change_60 : decode cX7_change 60 = .ok (.getfield 67, 3) := by decide +kernel
theorem dX7_change_63 : decode cX7_change 63 = .ok (.if_icmp .ge 54, 3) := by decide +kernel
theorem dX7_change_66 : decode cX7_change 66 = .ok (.aload_n 0, 1) := by decide +kernel
theorem dX7_change_67 : decode cX7_change 67 = .ok (.invokevirtual 207, 3) := by decide +kernel
theorem dX7_change_70 : decode cX7_change 70 = .ok (.aload_n 0, 1) := by decide +kernel
theorem dX7_change_71 : decode cX7_change 71 = .ok (.getfield 54, 3) := by decide +kernel
theorem dX7_change_74 : decode cX7_change 74 = .ok (.iload 5, 2) := by decide +kernel
theorem dX7_change_76 : decode cX7_change 76 = .ok (.iload 6, 2) := by decide +kernel
theorem dX7_change_78 : decode cX7_change 78 = .ok (.invokevirtual 198, 3) := by decide +kernel
theorem dX7_change_81 : decode cX7_change 81 = .ok (.aload_n 0, 1) := by decide +kernel
theorem dX7_change_82 : decode cX7_change 82 = .ok (.getfield 54, 3) := by decide +kernel
theorem dX7_change_85 : decode cX7_change 85 = .ok (.iload_n 1, 1) := by decide +kernel
theorem dX7_change_86 : decode cX7_change 86 = .ok (.invokevirtual 219, 3) := by decide +kernel
theorem dX7_change_89 : decode cX7_change 89 = .ok (.istore 7, 2) := by decide +kernel
theorem dX7_change_91 : decode cX7_change 91 = .ok (.iload 7, 2) := by decide +kernel
theorem dX7_change_93 : decode cX7_change 93 = .ok (.iload 4, 2) := by decide +kernel
theorem dX7_change_95 : decode cX7_change 95 = .ok (.if_icmp .ge 16, 3) := by decide +kernel
theorem dX7_change_98 : decode cX7_change 98 = .ok (.bipush 10, 2) := by decide +kernel
theorem dX7_change_100 : decode cX7_change 100 = .ok (.iload 5, 2) := by decide +kernel
theorem dX7_change_102 : decode cX7_change 102 = .ok (.imul, 1) := by decide +kernel
theorem dX7_change_103 : decode cX7_change 103 = .ok (.iload 6, 2) := by decide +kernel
theorem dX7_change_105 : decode cX7_change 105 = .ok (.iadd, 1) := by decide +kernel
theorem dX7_change_106 : decode cX7_change 106 = .ok (.istore_n 3, 1) := by decide +kernel
theorem dX7_change_107 : decode cX7_change 107 = .ok (.iload 7, 2) := by decide +kernel
theorem dX7_change_109 : decode cX7_change 109 = .ok (.istore 4, 2) := by decide +kernel
theorem dX7_change_111 : decode cX7_change 111 = .ok (.iinc 6 1, 3) := by decide +kernel
theorem dX7_change_114 : decode cX7_change 114 = .ok (.goto (-60), 3) := by decide +kernel
theorem dX7_change_117 : decode cX7_change 117 = .ok (.iinc 5 1, 3) := by decide +kernel
theorem dX7_change_120 : decode cX7_change 120 = .ok (.goto (-84), 3) := by decide +kernel
theorem dX7_change_123 : decode cX7_change 123 = .ok (.iload_n 2, 1) := by decide +kernel
theorem dX7_change_124 : decode cX7_change 124 = .ok (.ifCond .ne 7, 3) := by decide +kernel
theorem dX7_change_127 : decode cX7_change 127 = .ok (.iload_n 3, 1) := by decide +kernel
theorem dX7_change_128 : decode cX7_change 128 = .ok (.goto 5, 3) := by decide +kernel
theorem dX7_change_131 : decode cX7_change 131 = .ok (.iload 4, 2) := by decide +kernel
theorem dX7_change_133 : decode cX7_change 133 = .ok (.ireturn, 1) := by decide +kernel
theorem dX7_bold_0 : decode cX7_bold 0 = .ok (.aload_n 0, 1) := by decide +kernel
theorem dX7_bold_1 : decode cX7_bold 1 = .ok (.getfield 50, 3) := by decide +kernel
theorem dX7_bold_4 : decode cX7_bold 4 = .ok (.iload_n 1, 1) := by decide +kernel
theorem dX7_bold_5 : decode cX7_bold 5 = .ok (.invokevirtual 125, 3) := by decide +kernel
theorem dX7_bold_8 : decode cX7_bold 8 = .ok (.ifCond .ne 6, 3) := by decide +kernel
theorem dX7_bold_11 : decode cX7_bold 11 = .ok (.bipush (-5), 2) := by decide +kernel
theorem dX7_bold_13 : decode cX7_bold 13 = .ok (.ireturn, 1) := by decide +kernel
theorem dX7_bold_14 : decode cX7_bold 14 = .ok (.aload_n 0, 1) := by decide +kernel
theorem dX7_bold_15 : decode cX7_bold 15 = .ok (.invokevirtual 207, 3) := by decide +kernel
theorem dX7_bold_18 : decode cX7_bold 18 = .ok (.aload_n 0, 1) := by decide +kernel
theorem dX7_bold_19 : decode cX7_bold 19 = .ok (.getfield 54, 3) := by decide +kernel
theorem dX7_bold_22 : decode cX7_bold 22 = .ok (.getfield 128, 3) := by decide +kernel
theorem dX7_bold_25 : decode cX7_bold 25 = .ok (.iload_n 1, 1) := by decide +kernel
theorem dX7_bold_26 : decode cX7_bold 26 = .ok (.aaload, 1) := by decide +kernel
theorem dX7_bold_27 : decode cX7_bold 27 = .ok (.astore_n 2, 1) := by decide +kernel
theorem dX7_bold_28 : decode cX7_bold 28 = .ok (.bipush 99, 2) := by decide +kernel
theorem dX7_bold_30 : decode cX7_bold 30 = .ok (.istore_n 3, 1) := by decide +kernel
theorem dX7_bold_31 : decode cX7_bold 31 = .ok (.iload_n 3, 1) := by decide +kernel
theorem dX7_bold_32 : decode cX7_bold 32 = .ok (.ifCond .lt 27, 3) := by decide +kernel
theorem dX7_bold_35 : decode cX7_bold 35 = .ok (.aload_n 2, 1) := by decide +kernel
theorem dX7_bold_36 : decode cX7_bold 36 = .ok (.iload_n 3, 1) := by decide +kernel
theorem dX7_bold_37 : decode cX7_bold 37 = .ok (.putfield 232, 3) := by decide +kernel
theorem dX7_bold_40 : decode cX7_bold 40 = .ok (.aload_n 0, 1) := by decide +kernel
theorem dX7_bold_41 : decode cX7_bold 41 = .ok (.getfield 54, 3) := by decide +kernel
theorem dX7_bold_44 : decode cX7_bold 44 = .ok (.aload_n 2, 1) := by decide +kernel
theorem dX7_bold_45 : decode cX7_bold 45 = .ok (.invokevirtual 162, 3) := by decide +kernel
theorem dX7_bold_48 : decode cX7_bold 48 = .ok (.ifCond .ne 5, 3) := by decide +kernel
theorem dX7_bold_51 : decode cX7_bold 51 = .ok (.iload_n 3, 1) := by decide +kernel
theorem dX7_bold_52 : decode cX7_bold 52 = .ok (.ireturn, 1) := by decide +kernel
theorem dX7_bold_53 : decode cX7_bold 53 = .ok (.iinc 3 (-1), 3) := by decide +kernel
theorem dX7_bold_56 : decode cX7_bold 56 = .ok (.goto (-25), 3) := by decide +kernel
theorem dX7_bold_59 : decode cX7_bold 59 = .ok (.iconst (-1), 1) := by decide +kernel
theorem dX7_bold_60 : decode cX7_bold 60 = .ok (.ireturn, 1) := by decide +kernel
theorem dX7_mean_0 : decode cX7_mean 0 = .ok (.iload_n 1, 1) := by decide +kernel
theorem dX7_mean_1 : decode cX7_mean 1 = .ok (.invokestatic 216, 3) := by decide +kernel
theorem dX7_mean_4 : decode cX7_mean 4 = .ok (.ifCond .eq 13, 3) := by decide +kernel
theorem dX7_mean_7 : decode cX7_mean 7 = .ok (.aload_n 0, 1) := by decide +kernel
theorem dX7_mean_8 : decode cX7_mean 8 = .ok (.getfield 50, 3) := by decide +kernel
theorem dX7_mean_11 : decode cX7_mean 11 = .ok (.getfield 67, 3) := by decide +kernel
theorem dX7_mean_14 : decode cX7_mean 14 = .ok (.ifCond .ne 7, 3) := by decide +kernel
theorem dX7_mean_17 : decode cX7_mean 17 = .ok (.ldc2_w 235, 3) := by decide +kernel
theorem dX7_mean_20 : decode cX7_mean 20 = .ok (.lreturn, 1) := by decide +kernel
theorem dX7_mean_21 : decode cX7_mean 21 = .ok (.aload_n 0, 1) := by decide +kernel
theorem dX7_mean_22 : decode cX7_mean 22 = .ok (.getfield 50, 3) := by decide +kernel
theorem dX7_mean_25 : decode cX7_mean 25 = .ok (.invokevirtual 237, 3) := by decide +kernel
theorem dX7_mean_28 : decode cX7_mean 28 = .ok (.aload_n 0, 1) := by decide +kernel
theorem dX7_mean_29 : decode cX7_mean 29 = .ok (.getfield 50, 3) := by decide +kernel
theorem dX7_mean_32 : decode cX7_mean 32 = .ok (.getfield 67, 3) := by decide +kernel
theorem dX7_mean_35 : decode cX7_mean 35 = .ok (.iload_n 1, 1) := by decide +kernel
theorem dX7_mean_36 : decode cX7_mean 36 = .ok (.invokestatic 240, 3) := by decide +kernel
theorem dX7_mean_39 : decode cX7_mean 39 = .ok (.lreturn, 1) := by decide +kernel
theorem dX7_judge_0 : decode cX7_judge 0 = .ok (.aload_n 0, 1) := by decide +kernel
theorem dX7_judge_1 : decode cX7_judge 1 = .ok (.iload_n 1, 1) := by decide +kernel
theorem dX7_judge_2 : decode cX7_judge 2 = .ok (.invokevirtual 244, 3) := by decide +kernel
theorem dX7_judge_5 : decode cX7_judge 5 = .ok (.istore_n 2, 1) := by decide +kernel
theorem dX7_judge_6 : decode cX7_judge 6 = .ok (.iload_n 2, 1) := by decide +kernel
theorem dX7_judge_7 : decode cX7_judge 7 = .ok (.ifCond .eq 5, 3) := by decide +kernel
theorem dX7_judge_10 : decode cX7_judge 10 = .ok (.iload_n 2, 1) := by decide +kernel
theorem dX7_judge_11 : decode cX7_judge 11 = .ok (.ireturn, 1) := by decide +kernel
theorem dX7_judge_12 : decode cX7_judge 12 = .ok (.aload_n 0, 1) := by decide +kernel
theorem dX7_judge_13 : decode cX7_judge 13 = .ok (.invokevirtual 207, 3) := by decide +kernel
theorem dX7_judge_16 : decode cX7_judge 16 = .ok (.aload_n 0, 1) := by decide +kernel
theorem dX7_judge_17 : decode cX7_judge 17 = .ok (.aload_n 0, 1) := by decide +kernel
theorem dX7_judge_18 : decode cX7_judge 18 = .ok (.getfield 62, 3) := by decide +kernel
theorem dX7_judge_21 : decode cX7_judge 21 = .ok (.iload_n 1, 1) := by decide +kernel
theorem dX7_judge_22 : decode cX7_judge 22 = .ok (.aaload, 1) := by decide +kernel
theorem dX7_judge_23 : decode cX7_judge 23 = .ok (.invokevirtual 247, 3) := by decide +kernel
theorem dX7_judge_26 : decode cX7_judge 26 = .ok (.ireturn, 1) := by decide +kernel
theorem dX7_kinds_0 : decode cX7_kinds 0 = .ok (.aload_n 0, 1) := by decide +kernel
theorem dX7_kinds_1 : decode cX7_kinds 1 = .ok (.iload_n 1, 1) := by decide +kernel
theorem dX7_kinds_2 : decode cX7_kinds 2 = .ok (.invokevirtual 244, 3) := by decide +kernel
theorem dX7_kinds_5 : decode cX7_kinds 5 = .ok (.istore 4, 2) := by decide +kernel
theorem dX7_kinds_7 : decode cX7_kinds 7 = .ok (.iload 4, 2) := by decide +kernel
theorem dX7_kinds_9 : decode cX7_kinds 9 = .ok (.ifCond .eq 6, 3) := by decide +kernel
theorem dX7_kinds_12 : decode cX7_kinds 12 = .ok (.iload 4, 2) := by decide +kernel
theorem dX7_kinds_14 : decode cX7_kinds 14 = .ok (.ireturn, 1) := by decide +kernel
theorem dX7_kinds_15 : decode cX7_kinds 15 = .ok (.aload_n 0, 1) := by decide +kernel
theorem dX7_kinds_16 : decode cX7_kinds 16 = .ok (.getfield 50, 3) := by decide +kernel
theorem dX7_kinds_19 : decode cX7_kinds 19 = .ok (.iload_n 2, 1) := by decide +kernel
theorem dX7_kinds_20 : decode cX7_kinds 20 = .ok (.invokevirtual 125, 3) := by decide +kernel
theorem dX7_kinds_23 : decode cX7_kinds 23 = .ok (.ifCond .ne 6, 3) := by decide +kernel
theorem dX7_kinds_26 : decode cX7_kinds 26 = .ok (.bipush (-5), 2) := by decide +kernel
theorem dX7_kinds_28 : decode cX7_kinds 28 = .ok (.ireturn, 1) := by decide +kernel
theorem dX7_kinds_29 : decode cX7_kinds 29 = .ok (.iload_n 3, 1) := by decide +kernel
theorem dX7_kinds_30 : decode cX7_kinds 30 = .ok (.invokestatic 216, 3) := by decide +kernel
theorem dX7_kinds_33 : decode cX7_kinds 33 = .ok (.ifCond .ne 6, 3) := by decide +kernel
theorem dX7_kinds_36 : decode cX7_kinds 36 = .ok (.bipush (-7), 2) := by decide +kernel
theorem dX7_kinds_38 : decode cX7_kinds 38 = .ok (.ireturn, 1) := by decide +kernel
theorem dX7_kinds_39 : decode cX7_kinds 39 = .ok (.iconst 0, 1) := by decide +kernel
theorem dX7_kinds_40 : decode cX7_kinds 40 = .ok (.istore 5, 2) := by decide +kernel
theorem dX7_kinds_42 : decode cX7_kinds 42 = .ok (.iload_n 3, 1) := by decide +kernel
theorem dX7_kinds_43 : decode cX7_kinds 43 = .ok (.ifCond .ne 7, 3) := by decide +kernel
theorem dX7_kinds_46 : decode cX7_kinds 46 = .ok (.iconst 5, 1) := by decide +kernel
theorem dX7_kinds_47 : decode cX7_kinds 47 = .ok (.goto 5, 3) := by decide +kernel
theorem dX7_kinds_50 : decode cX7_kinds 50 = .ok (.bipush 9, 2) := by decide +kernel
theorem dX7_kinds_52 : decode cX7_kinds 52 = .ok (.istore 6, 2) := by decide +kernel
theorem dX7_kinds_54 : decode cX7_kinds 54 = .ok (.iconst 0, 1) := by decide +kernel
theorem dX7_kinds_55 : decode cX7_kinds 55 = .ok (.istore 7, 2) := by decide +kernel
theorem dX7_kinds_57 : decode cX7_kinds 57 = .ok (.iload 7, 2) := by decide +kernel
theorem dX7_kinds_59 : decode cX7_kinds 59 = .ok (.iload 6, 2) := by decide +kernel
theorem dX7_kinds_61 : decode cX7_kinds 61 = .ok (.if_icmp .gt 71, 3) := by decide +kernel
theorem dX7_kinds_64 : decode cX7_kinds 64 = .ok (.aload_n 0, 1) := by decide +kernel
theorem dX7_kinds_65 : decode cX7_kinds 65 = .ok (.invokevirtual 207, 3) := by decide +kernel
theorem dX7_kinds_68 : decode cX7_kinds 68 = .ok (.iload_n 3, 1) := by decide +kernel
theorem dX7_kinds_69 : decode cX7_kinds 69 = .ok (.ifCond .ne 20, 3) := by decide +kernel
theorem dX7_kinds_72 : decode cX7_kinds 72 = .ok (.aload_n 0, 1) := by decide +kernel
theorem dX7_kinds_73 : decode cX7_kinds 73 = .ok (.getfield 54, 3) := by decide +kernel
theorem dX7_kinds_76 : decode cX7_kinds 76 = .ok (.getfield 128, 3) := by decide +kernel
theorem dX7_kinds_79 : decode cX7_kinds 79 = .ok (.iload_n 2, 1) := by decide +kernel
theorem dX7_kinds_80 : decode cX7_kinds 80 = .ok (.aaload, 1) := by decide +kernel
theorem dX7_kinds_81 : decode cX7_kinds 81 = .ok (.iload 7, 2) := by decide +kernel
theorem dX7_kinds_83 : decode cX7_kinds 83 = .ok (.putfield 152, 3) := by decide +kernel
theorem dX7_kinds_86 : decode cX7_kinds 86 = .ok (.goto 17, 3) := by decide +kernel
theorem dX7_kinds_89 : decode cX7_kinds 89 = .ok (.aload_n 0, 1) := by decide +kernel
theorem dX7_kinds_90 : decode cX7_kinds 90 = .ok (.getfield 54, 3) := by decide +kernel
theorem dX7_kinds_93 : decode cX7_kinds 93 = .ok (.getfield 128, 3) := by decide +kernel
theorem dX7_kinds_96 : decode cX7_kinds 96 = .ok (.iload_n 2, 1) := by decide +kernel
theorem dX7_kinds_97 : decode cX7_kinds 97 = .ok (.aaload, 1) := by decide +kernel
theorem dX7_kinds_98 : decode cX7_kinds 98 = .ok (.iload 7, 2) := by decide +kernel
theorem dX7_kinds_100 : decode cX7_kinds 100 = .ok (.putfield 155, 3) := by decide +kernel
theorem dX7_kinds_103 : decode cX7_kinds 103 = .ok (.aload_n 0, 1) := by decide +kernel
theorem dX7_kinds_104 : decode cX7_kinds 104 = .ok (.aload_n 0, 1) := by decide +kernel
theorem dX7_kinds_105 : decode cX7_kinds 105 = .ok (.getfield 62, 3) := by decide +kernel
theorem dX7_kinds_108 : decode cX7_kinds 108 = .ok (.iload_n 1, 1) := by decide +kernel
theorem dX7_kinds_109 : decode cX7_kinds 109 = .ok (.aaload, 1) := by decide +kernel
theorem dX7_kinds_110 : decode cX7_kinds 110 = .ok (.invokevirtual 247, 3) := by decide +kernel
theorem dX7_kinds_113 : decode cX7_kinds 113 = .ok (.iconst (-1), 1) := by decide +kernel
theorem dX7_kinds_114 : decode cX7_kinds 114 = .ok (.if_icmp .ne 12, 3) := by decide +kernel
theorem dX7_kinds_117 : decode cX7_kinds 117 = .ok (.iload 5, 2) := by decide +kernel
theorem dX7_kinds_119 : decode cX7_kinds 119 = .ok (.iconst 1, 1) := by decide +kernel
theorem dX7_kinds_120 : decode cX7_kinds 120 = .ok (.iload 7, 2) := by decide +kernel
theorem dX7_kinds_122 : decode cX7_kinds 122 = .ok (.ishl, 1) := by decide +kernel
theorem dX7_kinds_123 : decode cX7_kinds 123 = .ok (.ior, 1) := by decide +kernel
theorem dX7_kinds_124 : decode cX7_kinds 124 = .ok (.istore 5, 2) := by decide +kernel
theorem dX7_kinds_126 : decode cX7_kinds 126 = .ok (.iinc 7 1, 3) := by decide +kernel
theorem dX7_kinds_129 : decode cX7_kinds 129 = .ok (.goto (-72), 3) := by decide +kernel
theorem dX7_kinds_132 : decode cX7_kinds 132 = .ok (.iload 5, 2) := by decide +kernel
theorem dX7_kinds_134 : decode cX7_kinds 134 = .ok (.ireturn, 1) := by decide +kernel
theorem dX7_turned_0 : decode cX7_turned 0 = .ok (.aload_n 0, 1) := by decide +kernel
theorem dX7_turned_1 : decode cX7_turned 1 = .ok (.iload_n 1, 1) := by decide +kernel
theorem dX7_turned_2 : decode cX7_turned 2 = .ok (.invokevirtual 244, 3) := by decide +kernel
theorem dX7_turned_5 : decode cX7_turned 5 = .ok (.istore_n 3, 1) := by decide +kernel
theorem dX7_turned_6 : decode cX7_turned 6 = .ok (.iload_n 3, 1) := by decide +kernel
theorem dX7_turned_7 : decode cX7_turned 7 = .ok (.ifCond .eq 5, 3) := by decide +kernel
theorem dX7_turned_10 : decode cX7_turned 10 = .ok (.iload_n 3, 1) := by decide +kernel
theorem dX7_turned_11 : decode cX7_turned 11 = .ok (.ireturn, 1) := by decide +kernel
theorem dX7_turned_12 : decode cX7_turned 12 = .ok (.aload_n 0, 1) := by decide +kernel
theorem dX7_turned_13 : decode cX7_turned 13 = .ok (.getfield 50, 3) := by decide +kernel
theorem dX7_turned_16 : decode cX7_turned 16 = .ok (.iload_n 2, 1) := by decide +kernel
theorem dX7_turned_17 : decode cX7_turned 17 = .ok (.invokevirtual 125, 3) := by decide +kernel
theorem dX7_turned_20 : decode cX7_turned 20 = .ok (.ifCond .ne 6, 3) := by decide +kernel
theorem dX7_turned_23 : decode cX7_turned 23 = .ok (.bipush (-5), 2) := by decide +kernel
theorem dX7_turned_25 : decode cX7_turned 25 = .ok (.ireturn, 1) := by decide +kernel
theorem dX7_turned_26 : decode cX7_turned 26 = .ok (.iconst 0, 1) := by decide +kernel
theorem dX7_turned_27 : decode cX7_turned 27 = .ok (.istore 4, 2) := by decide +kernel
theorem dX7_turned_29 : decode cX7_turned 29 = .ok (.iconst 0, 1) := by decide +kernel
theorem dX7_turned_30 : decode cX7_turned 30 = .ok (.istore 5, 2) := by decide +kernel
theorem dX7_turned_32 : decode cX7_turned 32 = .ok (.iload 5, 2) := by decide +kernel
theorem dX7_turned_34 : decode cX7_turned 34 = .ok (.bipush 10, 2) := by decide +kernel
theorem dX7_turned_36 : decode cX7_turned 36 = .ok (.if_icmp .ge 57, 3) := by decide +kernel
theorem dX7_turned_39 : decode cX7_turned 39 = .ok (.aload_n 0, 1) := by decide +kernel
theorem dX7_turned_40 : decode cX7_turned 40 = .ok (.invokevirtual 207, 3) := by decide +kernel
theorem dX7_turned_43 : decode cX7_turned 43 = .ok (.aload_n 0, 1) := by decide +kernel
theorem dX7_turned_44 : decode cX7_turned 44 = .ok (.getfield 54, 3) := by decide +kernel
theorem dX7_turned_47 : decode cX7_turned 47 = .ok (.getfield 128, 3) := by decide +kernel
theorem dX7_turned_50 : decode cX7_turned 50 = .ok (.iload_n 2, 1) := by decide +kernel
theorem dX7_turned_51 : decode cX7_turned 51 = .ok (.aaload, 1) := by decide +kernel
theorem dX7_turned_52 : decode cX7_turned 52 = .ok (.dup, 1) := by decide +kernel
theorem dX7_turned_53 : decode cX7_turned 53 = .ok (.getfield 201, 3) := by decide +kernel
theorem dX7_turned_56 : decode cX7_turned 56 = .ok (.iconst 1, 1) := by decide +kernel
theorem dX7_turned_57 : decode cX7_turned 57 = .ok (.iload 5, 2) := by decide +kernel
theorem dX7_turned_59 : decode cX7_turned 59 = .ok (.ishl, 1) := by decide +kernel
theorem dX7_turned_60 : decode cX7_turned 60 = .ok (.ixor, 1) := by decide +kernel
theorem dX7_turned_61 : decode cX7_turned 61 = .ok (.putfield 201, 3) := by decide +kernel
theorem dX7_turned_64 : decode cX7_turned 64 = .ok (.aload_n 0, 1) := by decide +kernel
theorem dX7_turned_65 : decode cX7_turned 65 = .ok (.aload_n 0, 1) := by decide +kernel
theorem dX7_turned_66 : decode cX7_turned 66 = .ok (.getfield 62, 3) := by decide +kernel
theorem dX7_turned_69 : decode cX7_turned 69 = .ok (.iload_n 1, 1) := by decide +kernel
theorem dX7_turned_70 : decode cX7_turned 70 = .ok (.aaload, 1) := by decide +kernel
theorem dX7_turned_71 : decode cX7_turned 71 = .ok (.invokevirtual 247, 3) := by decide +kernel
theorem dX7_turned_74 : decode cX7_turned 74 = .ok (.iconst (-1), 1) := by decide +kernel
theorem dX7_turned_75 : decode cX7_turned 75 = .ok (.if_icmp .ne 12, 3) := by decide +kernel
theorem dX7_turned_78 : decode cX7_turned 78 = .ok (.iload 4, 2) := by decide +kernel
theorem dX7_turned_80 : decode cX7_turned 80 = .ok (.iconst 1, 1) := by decide +kernel
theorem dX7_turned_81 : decode cX7_turned 81 = .ok (.iload 5, 2) := by decide +kernel
theorem dX7_turned_83 : decode cX7_turned 83 = .ok (.ishl, 1) := by decide +kernel
theorem dX7_turned_84 : decode cX7_turned 84 = .ok (.ior, 1) := by decide +kernel
theorem dX7_turned_85 : decode cX7_turned 85 = .ok (.istore 4, 2) := by decide +kernel
theorem dX7_turned_87 : decode cX7_turned 87 = .ok (.iinc 5 1, 3) := by decide +kernel
theorem dX7_turned_90 : decode cX7_turned 90 = .ok (.goto (-58), 3) := by decide +kernel
theorem dX7_turned_93 : decode cX7_turned 93 = .ok (.iload 4, 2) := by decide +kernel
theorem dX7_turned_95 : decode cX7_turned 95 = .ok (.ireturn, 1) := by decide +kernel
theorem dX7_states_0 : decode cX7_states 0 = .ok (.aload_n 0, 1) := by decide +kernel
theorem dX7_states_1 : decode cX7_states 1 = .ok (.iload_n 1, 1) := by decide +kernel
theorem dX7_states_2 : decode cX7_states 2 = .ok (.invokevirtual 244, 3) := by decide +kernel
theorem dX7_states_5 : decode cX7_states 5 = .ok (.istore 5, 2) := by decide +kernel
theorem dX7_states_7 : decode cX7_states 7 = .ok (.iload 5, 2) := by decide +kernel
theorem dX7_states_9 : decode cX7_states 9 = .ok (.ifCond .eq 6, 3) := by decide +kernel
theorem dX7_states_12 : decode cX7_states 12 = .ok (.iload 5, 2) := by decide +kernel
theorem dX7_states_14 : decode cX7_states 14 = .ok (.ireturn, 1) := by decide +kernel
theorem dX7_states_15 : decode cX7_states 15 = .ok (.aload_n 0, 1) := by decide +kernel
theorem dX7_states_16 : decode cX7_states 16 = .ok (.getfield 50, 3) := by decide +kernel
theorem dX7_states_19 : decode cX7_states 19 = .ok (.iload_n 2, 1) := by decide +kernel
theorem dX7_states_20 : decode cX7_states 20 = .ok (.invokevirtual 125, 3) := by decide +kernel
theorem dX7_states_23 : decode cX7_states 23 = .ok (.ifCond .ne 6, 3) := by decide +kernel
theorem dX7_states_26 : decode cX7_states 26 = .ok (.bipush (-5), 2) := by decide +kernel
theorem dX7_states_28 : decode cX7_states 28 = .ok (.ireturn, 1) := by decide +kernel
theorem dX7_states_29 : decode cX7_states 29 = .ok (.iload_n 3, 1) := by decide +kernel
theorem dX7_states_30 : decode cX7_states 30 = .ok (.iconst 1, 1) := by decide +kernel
theorem dX7_states_31 : decode cX7_states 31 = .ok (.if_icmp .eq 8, 3) := by decide +kernel
theorem dX7_states_34 : decode cX7_states 34 = .ok (.iload_n 3, 1) := by decide +kernel
theorem dX7_states_35 : decode cX7_states 35 = .ok (.iconst 2, 1) := by decide +kernel
theorem dX7_states_36 : decode cX7_states 36 = .ok (.if_icmp .ne 11, 3) := by decide +kernel
theorem dX7_states_39 : decode cX7_states 39 = .ok (.iload 4, 2) := by decide +kernel
theorem dX7_states_41 : decode cX7_states 41 = .ok (.invokestatic 216, 3) := by decide +kernel
theorem dX7_states_44 : decode cX7_states 44 = .ok (.ifCond .ne 6, 3) := by decide +kernel
theorem dX7_states_47 : decode cX7_states 47 = .ok (.bipush (-7), 2) := by decide +kernel
theorem dX7_states_49 : decode cX7_states 49 = .ok (.ireturn, 1) := by decide +kernel
theorem dX7_states_50 : decode cX7_states 50 = .ok (.iconst 0, 1) := by decide +kernel
theorem dX7_states_51 : decode cX7_states 51 = .ok (.istore 6, 2) := by decide +kernel
theorem dX7_states_53 : decode cX7_states 53 = .ok (.iconst (-1), 1) := by decide +kernel
theorem dX7_states_54 : decode cX7_states 54 = .ok (.istore 7, 2) := by decide +kernel
theorem dX7_states_56 : decode cX7_states 56 = .ok (.iconst 0, 1) := by decide +kernel
theorem dX7_states_57 : decode cX7_states 57 = .ok (.istore 8, 2) := by decide +kernel
theorem dX7_states_59 : decode cX7_states 59 = .ok (.iload 8, 2) := by decide +kernel
theorem dX7_states_61 : decode cX7_states 61 = .ok (.bipush 99, 2) := by decide +kernel
theorem dX7_states_63 : decode cX7_states 63 = .ok (.if_icmp .gt 60, 3) := by decide +kernel
theorem dX7_states_66 : decode cX7_states 66 = .ok (.aload_n 0, 1) := by decide +kernel
theorem dX7_states_67 : decode cX7_states 67 = .ok (.invokevirtual 207, 3) := by decide +kernel
theorem dX7_states_70 : decode cX7_states 70 = .ok (.aload_n 0, 1) := by decide +kernel
theorem dX7_states_71 : decode cX7_states 71 = .ok (.getfield 54, 3) := by decide +kernel
theorem dX7_states_74 : decode cX7_states 74 = .ok (.getfield 128, 3) := by decide +kernel
theorem dX7_states_77 : decode cX7_states 77 = .ok (.iload_n 2, 1) := by decide +kernel
theorem dX7_states_78 : decode cX7_states 78 = .ok (.aaload, 1) := by decide +kernel
theorem dX7_states_79 : decode cX7_states 79 = .ok (.iload_n 3, 1) := by decide +kernel
theorem dX7_states_80 : decode cX7_states 80 = .ok (.iload 8, 2) := by decide +kernel
theorem dX7_states_82 : decode cX7_states 82 = .ok (.invokevirtual 148, 3) := by decide +kernel
theorem dX7_states_85 : decode cX7_states 85 = .ok (.aload_n 0, 1) := by decide +kernel
theorem dX7_states_86 : decode cX7_states 86 = .ok (.aload_n 0, 1) := by decide +kernel
theorem dX7_states_87 : decode cX7_states 87 = .ok (.getfield 62, 3) := by decide +kernel
theorem dX7_states_90 : decode cX7_states 90 = .ok (.iload_n 1, 1) := by decide +kernel
theorem dX7_states_91 : decode cX7_states 91 = .ok (.aaload, 1) := by decide +kernel
theorem dX7_states_92 : decode cX7_states 92 = .ok (.invokevirtual 247, 3) := by decide +kernel
theorem dX7_states_95 : decode cX7_states 95 = .ok (.iconst (-1), 1) := by decide +kernel
theorem dX7_states_96 : decode cX7_states 96 = .ok (.if_icmp .ne 21, 3) := by decide +kernel
theorem dX7_states_99 : decode cX7_states 99 = .ok (.iinc 6 1, 3) := by decide +kernel
theorem dX7_states_102 : decode cX7_states 102 = .ok (.iload 7, 2) := by decide +kernel
theorem dX7_states_104 : decode cX7_states 104 = .ok (.iconst (-1), 1) := by decide +kernel
theorem dX7_states_105 : decode cX7_states 105 = .ok (.if_icmp .ne 8, 3) := by decide +kernel
theorem dX7_states_108 : decode cX7_states 108 = .ok (.iload 8, 2) := by decide +kernel
theorem dX7_states_110 : decode cX7_states 110 = .ok (.goto 5, 3) := by decide +kernel
theorem dX7_states_113 : decode cX7_states 113 = .ok (.iload 7, 2) := by decide +kernel
theorem dX7_states_115 : decode cX7_states 115 = .ok (.istore 7, 2) := by decide +kernel
theorem dX7_states_117 : decode cX7_states 117 = .ok (.iinc 8 1, 3) := by decide +kernel
theorem dX7_states_120 : decode cX7_states 120 = .ok (.goto (-61), 3) := by decide +kernel
theorem dX7_states_123 : decode cX7_states 123 = .ok (.iload 4, 2) := by decide +kernel
theorem dX7_states_125 : decode cX7_states 125 = .ok (.ifCond .ne 8, 3) := by decide +kernel
theorem dX7_states_128 : decode cX7_states 128 = .ok (.iload 6, 2) := by decide +kernel
theorem dX7_states_130 : decode cX7_states 130 = .ok (.goto 5, 3) := by decide +kernel
theorem dX7_states_133 : decode cX7_states 133 = .ok (.iload 7, 2) := by decide +kernel
theorem dX7_states_135 : decode cX7_states 135 = .ok (.ireturn, 1) := by decide +kernel
theorem dX7_feared_0 : decode cX7_feared 0 = .ok (.aload_n 0, 1) := by decide +kernel
theorem dX7_feared_1 : decode cX7_feared 1 = .ok (.iload_n 1, 1) := by decide +kernel
theorem dX7_feared_2 : decode cX7_feared 2 = .ok (.invokevirtual 244, 3) := by decide +kernel
theorem dX7_feared_5 : decode cX7_feared 5 = .ok (.istore_n 2, 1) := by decide +kernel
theorem dX7_feared_6 : decode cX7_feared 6 = .ok (.iload_n 2, 1) := by decide +kernel
theorem dX7_feared_7 : decode cX7_feared 7 = .ok (.ifCond .eq 5, 3) := by decide +kernel
theorem dX7_feared_10 : decode cX7_feared 10 = .ok (.iload_n 2, 1) := by decide +kernel
theorem dX7_feared_11 : decode cX7_feared 11 = .ok (.ireturn, 1) := by decide +kernel
theorem dX7_feared_12 : decode cX7_feared 12 = .ok (.iconst 0, 1) := by decide +kernel
theorem dX7_feared_13 : decode cX7_feared 13 = .ok (.istore_n 3, 1) := by decide +kernel
theorem dX7_feared_14 : decode cX7_feared 14 = .ok (.iconst 0, 1) := by decide +kernel
theorem dX7_feared_15 : decode cX7_feared 15 = .ok (.istore 4, 2) := by decide +kernel
theorem dX7_feared_17 : decode cX7_feared 17 = .ok (.iload 4, 2) := by decide +kernel
theorem dX7_feared_19 : decode cX7_feared 19 = .ok (.aload_n 0, 1) := by decide +kernel
theorem dX7_feared_20 : decode cX7_feared 20 = .ok (.getfield 50, 3) := by decide +kernel
theorem dX7_feared_23 : decode cX7_feared 23 = .ok (.getfield 67, 3) := by decide +kernel
theorem dX7_feared_26 : decode cX7_feared 26 = .ok (.if_icmp .ge 68, 3) := by decide +kernel
theorem dX7_feared_29 : decode cX7_feared 29 = .ok (.aload_n 0, 1) := by decide +kernel
theorem dX7_feared_30 : decode cX7_feared 30 = .ok (.invokevirtual 207, 3) := by decide +kernel
theorem dX7_feared_33 : decode cX7_feared 33 = .ok (.aload_n 0, 1) := by decide +kernel
theorem dX7_feared_34 : decode cX7_feared 34 = .ok (.getfield 54, 3) := by decide +kernel
theorem dX7_feared_37 : decode cX7_feared 37 = .ok (.getfield 128, 3) := by decide +kernel
theorem dX7_feared_40 : decode cX7_feared 40 = .ok (.iload 4, 2) := by decide +kernel
theorem dX7_feared_42 : decode cX7_feared 42 = .ok (.aaload, 1) := by decide +kernel
theorem dX7_feared_43 : decode cX7_feared 43 = .ok (.aload_n 0, 1) := by decide +kernel
theorem dX7_feared_44 : decode cX7_feared 44 = .ok (.getfield 54, 3) := by decide +kernel
theorem dX7_feared_47 : decode cX7_feared 47 = .ok (.getfield 128, 3) := by decide +kernel
theorem dX7_feared_50 : decode cX7_feared 50 = .ok (.iload 4, 2) := by decide +kernel
theorem dX7_feared_52 : decode cX7_feared 52 = .ok (.aaload, 1) := by decide +kernel
theorem dX7_feared_53 : decode cX7_feared 53 = .ok (.getfield 228, 3) := by decide +kernel
theorem dX7_feared_56 : decode cX7_feared 56 = .ok (.ifCond .ne 7, 3) := by decide +kernel
theorem dX7_feared_59 : decode cX7_feared 59 = .ok (.iconst 1, 1) := by decide +kernel
theorem dX7_feared_60 : decode cX7_feared 60 = .ok (.goto 4, 3) := by decide +kernel
theorem dX7_feared_63 : decode cX7_feared 63 = .ok (.iconst 0, 1) := by decide +kernel
theorem dX7_feared_64 : decode cX7_feared 64 = .ok (.putfield 228, 3) := by decide +kernel
theorem dX7_feared_67 : decode cX7_feared 67 = .ok (.aload_n 0, 1) := by decide +kernel
theorem dX7_feared_68 : decode cX7_feared 68 = .ok (.aload_n 0, 1) := by decide +kernel
theorem dX7_feared_69 : decode cX7_feared 69 = .ok (.getfield 62, 3) := by decide +kernel
theorem dX7_feared_72 : decode cX7_feared 72 = .ok (.iload_n 1, 1) := by decide +kernel
theorem dX7_feared_73 : decode cX7_feared 73 = .ok (.aaload, 1) := by decide +kernel
theorem dX7_feared_74 : decode cX7_feared 74 = .ok (.invokevirtual 247, 3) := by decide +kernel
theorem dX7_feared_77 : decode cX7_feared 77 = .ok (.iconst (-1), 1) := by decide +kernel
theorem dX7_feared_78 : decode cX7_feared 78 = .ok (.if_icmp .ne 10, 3) := by decide +kernel
theorem dX7_feared_81 : decode cX7_feared 81 = .ok (.iload_n 3, 1) := by decide +kernel
theorem dX7_feared_82 : decode cX7_feared 82 = .ok (.iconst 1, 1) := by decide +kernel
theorem dX7_feared_83 : decode cX7_feared 83 = .ok (.iload 4, 2) := by decide +kernel
theorem dX7_feared_85 : decode cX7_feared 85 = .ok (.ishl, 1) := by decide +kernel
theorem dX7_feared_86 : decode cX7_feared 86 = .ok (.ior, 1) := by decide +kernel
theorem dX7_feared_87 : decode cX7_feared 87 = .ok (.istore_n 3, 1) := by decide +kernel
theorem dX7_feared_88 : decode cX7_feared 88 = .ok (.iinc 4 1, 3) := by decide +kernel
theorem dX7_feared_91 : decode cX7_feared 91 = .ok (.goto (-74), 3) := by decide +kernel
theorem dX7_feared_94 : decode cX7_feared 94 = .ok (.iload_n 3, 1) := by decide +kernel
theorem dX7_feared_95 : decode cX7_feared 95 = .ok (.ireturn, 1) := by decide +kernel
theorem dX7_laws_0 : decode cX7_laws 0 = .ok (.aload_n 0, 1) := by decide +kernel
theorem dX7_laws_1 : decode cX7_laws 1 = .ok (.iload_n 1, 1) := by decide +kernel
theorem dX7_laws_2 : decode cX7_laws 2 = .ok (.invokevirtual 244, 3) := by decide +kernel
theorem dX7_laws_5 : decode cX7_laws 5 = .ok (.istore_n 2, 1) := by decide +kernel
theorem dX7_laws_6 : decode cX7_laws 6 = .ok (.iload_n 2, 1) := by decide +kernel
theorem dX7_laws_7 : decode cX7_laws 7 = .ok (.ifCond .eq 5, 3) := by decide +kernel
theorem dX7_laws_10 : decode cX7_laws 10 = .ok (.iload_n 2, 1) := by decide +kernel
theorem dX7_laws_11 : decode cX7_laws 11 = .ok (.ireturn, 1) := by decide +kernel
theorem dX7_laws_12 : decode cX7_laws 12 = .ok (.iconst 0, 1) := by decide +kernel
theorem dX7_laws_13 : decode cX7_laws 13 = .ok (.istore_n 3, 1) := by decide +kernel
theorem dX7_laws_14 : decode cX7_laws 14 = .ok (.iconst 0, 1) := by decide +kernel
theorem dX7_laws_15 : decode cX7_laws 15 = .ok (.istore 4, 2) := by decide +kernel
theorem dX7_laws_17 : decode cX7_laws 17 = .ok (.iload 4, 2) := by decide +kernel
theorem dX7_laws_19 : decode cX7_laws 19 = .ok (.aload_n 0, 1) := by decide +kernel
theorem dX7_laws_20 : decode cX7_laws 20 = .ok (.getfield 41, 3) := by decide +kernel
theorem dX7_laws_23 : decode cX7_laws 23 = .ok (.if_icmp .ge 48, 3) := by decide +kernel
theorem dX7_laws_26 : decode cX7_laws 26 = .ok (.aload_n 0, 1) := by decide +kernel
theorem dX7_laws_27 : decode cX7_laws 27 = .ok (.invokevirtual 207, 3) := by decide +kernel
theorem dX7_laws_30 : decode cX7_laws 30 = .ok (.aload_n 0, 1) := by decide +kernel
theorem dX7_laws_31 : decode cX7_laws 31 = .ok (.getfield 54, 3) := by decide +kernel
theorem dX7_laws_34 : decode cX7_laws 34 = .ok (.aload_n 0, 1) := by decide +kernel
theorem dX7_laws_35 : decode cX7_laws 35 = .ok (.getfield 34, 3) := by decide +kernel
theorem dX7_laws_38 : decode cX7_laws 38 = .ok (.iload 4, 2) := by decide +kernel
theorem dX7_laws_40 : decode cX7_laws 40 = .ok (.aaload, 1) := by decide +kernel
theorem dX7_laws_41 : decode cX7_laws 41 = .ok (.putfield 83, 3) := by decide +kernel
theorem dX7_laws_44 : decode cX7_laws 44 = .ok (.aload_n 0, 1) := by decide +kernel
theorem dX7_laws_45 : decode cX7_laws 45 = .ok (.aload_n 0, 1) := by decide +kernel
theorem dX7_laws_46 : decode cX7_laws 46 = .ok (.getfield 62, 3) := by decide +kernel
theorem dX7_laws_49 : decode cX7_laws 49 = .ok (.iload_n 1, 1) := by decide +kernel
theorem dX7_laws_50 : decode cX7_laws 50 = .ok (.aaload, 1) := by decide +kernel
theorem dX7_laws_51 : decode cX7_laws 51 = .ok (.invokevirtual 247, 3) := by decide +kernel
theorem dX7_laws_54 : decode cX7_laws 54 = .ok (.iconst (-1), 1) := by decide +kernel
theorem dX7_laws_55 : decode cX7_laws 55 = .ok (.if_icmp .ne 10, 3) := by decide +kernel
theorem dX7_laws_58 : decode cX7_laws 58 = .ok (.iload_n 3, 1) := by decide +kernel
theorem dX7_laws_59 : decode cX7_laws 59 = .ok (.iconst 1, 1) := by decide +kernel
theorem dX7_laws_60 : decode cX7_laws 60 = .ok (.iload 4, 2) := by decide +kernel
theorem dX7_laws_62 : decode cX7_laws 62 = .ok (.ishl, 1) := by decide +kernel
theorem dX7_laws_63 : decode cX7_laws 63 = .ok (.ior, 1) := by decide +kernel
theorem dX7_laws_64 : decode cX7_laws 64 = .ok (.istore_n 3, 1) := by decide +kernel
theorem dX7_laws_65 : decode cX7_laws 65 = .ok (.iinc 4 1, 3) := by decide +kernel
theorem dX7_laws_68 : decode cX7_laws 68 = .ok (.goto (-51), 3) := by decide +kernel
theorem dX7_laws_71 : decode cX7_laws 71 = .ok (.iload_n 3, 1) := by decide +kernel
theorem dX7_laws_72 : decode cX7_laws 72 = .ok (.ireturn, 1) := by decide +kernel
theorem dX7_film_0 : decode cX7_film 0 = .ok (.iload_n 1, 1) := by decide +kernel
theorem dX7_film_1 : decode cX7_film 1 = .ok (.invokestatic 251, 3) := by decide +kernel
theorem dX7_film_4 : decode cX7_film 4 = .ok (.ifCond .ne 6, 3) := by decide +kernel
theorem dX7_film_7 : decode cX7_film 7 = .ok (.bipush (-2), 2) := by decide +kernel
theorem dX7_film_9 : decode cX7_film 9 = .ok (.ireturn, 1) := by decide +kernel
theorem dX7_film_10 : decode cX7_film 10 = .ok (.iload_n 2, 1) := by decide +kernel
theorem dX7_film_11 : decode cX7_film 11 = .ok (.ifCond .lt 9, 3) := by decide +kernel
theorem dX7_film_14 : decode cX7_film 14 = .ok (.iload_n 2, 1) := by decide +kernel
theorem dX7_film_15 : decode cX7_film 15 = .ok (.bipush 20, 2) := by decide +kernel
theorem dX7_film_17 : decode cX7_film 17 = .ok (.if_icmp .le 6, 3) := by decide +kernel
theorem dX7_film_20 : decode cX7_film 20 = .ok (.bipush (-7), 2) := by decide +kernel
theorem dX7_film_22 : decode cX7_film 22 = .ok (.ireturn, 1) := by decide +kernel
theorem dX7_film_23 : decode cX7_film 23 = .ok (.aload_n 0, 1) := by decide +kernel
theorem dX7_film_24 : decode cX7_film 24 = .ok (.invokevirtual 207, 3) := by decide +kernel
theorem dX7_film_27 : decode cX7_film 27 = .ok (.aload_n 0, 1) := by decide +kernel
theorem dX7_film_28 : decode cX7_film 28 = .ok (.getfield 62, 3) := by decide +kernel
theorem dX7_film_31 : decode cX7_film 31 = .ok (.iload_n 1, 1) := by decide +kernel
theorem dX7_film_32 : decode cX7_film 32 = .ok (.aaload, 1) := by decide +kernel
theorem dX7_film_33 : decode cX7_film 33 = .ok (.iconst 0, 1) := by decide +kernel
theorem dX7_film_34 : decode cX7_film 34 = .ok (.iload_n 2, 1) := by decide +kernel
theorem dX7_film_35 : decode cX7_film 35 = .ok (.invokevirtual 254, 3) := by decide +kernel
theorem dX7_film_38 : decode cX7_film 38 = .ok (.iconst 0, 1) := by decide +kernel
theorem dX7_film_39 : decode cX7_film 39 = .ok (.istore_n 3, 1) := by decide +kernel
theorem dX7_film_40 : decode cX7_film 40 = .ok (.iload_n 3, 1) := by decide +kernel
theorem dX7_film_41 : decode cX7_film 41 = .ok (.iload_n 2, 1) := by decide +kernel
theorem dX7_film_42 : decode cX7_film 42 = .ok (.if_icmp .ge 26, 3) := by decide +kernel
theorem dX7_film_45 : decode cX7_film 45 = .ok (.aload_n 0, 1) := by decide +kernel
theorem dX7_film_46 : decode cX7_film 46 = .ok (.getfield 62, 3) := by decide +kernel
theorem dX7_film_49 : decode cX7_film 49 = .ok (.iload_n 1, 1) := by decide +kernel
theorem dX7_film_50 : decode cX7_film 50 = .ok (.aaload, 1) := by decide +kernel
theorem dX7_film_51 : decode cX7_film 51 = .ok (.iload_n 3, 1) := by decide +kernel
theorem dX7_film_52 : decode cX7_film 52 = .ok (.aload_n 0, 1) := by decide +kernel
theorem dX7_film_53 : decode cX7_film 53 = .ok (.getfield 54, 3) := by decide +kernel
theorem dX7_film_56 : decode cX7_film 56 = .ok (.invokevirtual 192, 3) := by decide +kernel
theorem dX7_film_59 : decode cX7_film 59 = .ok (.invokevirtual 257, 3) := by decide +kernel
theorem dX7_film_62 : decode cX7_film 62 = .ok (.iinc 3 1, 3) := by decide +kernel
theorem dX7_film_65 : decode cX7_film 65 = .ok (.goto (-25), 3) := by decide +kernel
theorem dX7_film_68 : decode cX7_film 68 = .ok (.iload_n 2, 1) := by decide +kernel
theorem dX7_film_69 : decode cX7_film 69 = .ok (.ireturn, 1) := by decide +kernel
theorem dX7_drawn_0 : decode cX7_drawn 0 = .ok (.iload_n 1, 1) := by decide +kernel
theorem dX7_drawn_1 : decode cX7_drawn 1 = .ok (.invokestatic 260, 3) := by decide +kernel
theorem dX7_drawn_4 : decode cX7_drawn 4 = .ok (.ifCond .eq 10, 3) := by decide +kernel
theorem dX7_drawn_7 : decode cX7_drawn 7 = .ok (.iload_n 2, 1) := by decide +kernel
theorem dX7_drawn_8 : decode cX7_drawn 8 = .ok (.invokestatic 216, 3) := by decide +kernel
theorem dX7_drawn_11 : decode cX7_drawn 11 = .ok (.ifCond .ne 6, 3) := by decide +kernel
theorem dX7_drawn_14 : decode cX7_drawn 14 = .ok (.bipush (-2), 2) := by decide +kernel
theorem dX7_drawn_16 : decode cX7_drawn 16 = .ok (.ireturn, 1) := by decide +kernel
theorem dX7_drawn_17 : decode cX7_drawn 17 = .ok (.aload_n 0, 1) := by decide +kernel
theorem dX7_drawn_18 : decode cX7_drawn 18 = .ok (.iload_n 1, 1) := by decide +kernel
theorem dX7_drawn_19 : decode cX7_drawn 19 = .ok (.invokevirtual 263, 3) := by decide +kernel
theorem dX7_drawn_22 : decode cX7_drawn 22 = .ok (.istore_n 3, 1) := by decide +kernel
theorem dX7_drawn_23 : decode cX7_drawn 23 = .ok (.iload_n 2, 1) := by decide +kernel
theorem dX7_drawn_24 : decode cX7_drawn 24 = .ok (.ifCond .ne 7, 3) := by decide +kernel
theorem dX7_drawn_27 : decode cX7_drawn 27 = .ok (.iload_n 3, 1) := by decide +kernel
theorem dX7_drawn_28 : decode cX7_drawn 28 = .ok (.goto 10, 3) := by decide +kernel
theorem dX7_drawn_31 : decode cX7_drawn 31 = .ok (.aload_n 0, 1) := by decide +kernel
theorem dX7_drawn_32 : decode cX7_drawn 32 = .ok (.getfield 54, 3) := by decide +kernel
theorem dX7_drawn_35 : decode cX7_drawn 35 = .ok (.invokevirtual 73, 3) := by decide +kernel
theorem dX7_drawn_38 : decode cX7_drawn 38 = .ok (.ireturn, 1) := by decide +kernel
theorem dX7_odds_0 : decode cX7_odds 0 = .ok (.iload_n 1, 1) := by decide +kernel
theorem dX7_odds_1 : decode cX7_odds 1 = .ok (.invokestatic 260, 3) := by decide +kernel
theorem dX7_odds_4 : decode cX7_odds 4 = .ok (.ifCond .eq 32, 3) := by decide +kernel
theorem dX7_odds_7 : decode cX7_odds 7 = .ok (.iload_n 2, 1) := by decide +kernel
theorem dX7_odds_8 : decode cX7_odds 8 = .ok (.iconst 1, 1) := by decide +kernel
theorem dX7_odds_9 : decode cX7_odds 9 = .ok (.if_icmp .lt 27, 3) := by decide +kernel
theorem dX7_odds_12 : decode cX7_odds 12 = .ok (.iload_n 2, 1) := by decide +kernel
theorem dX7_odds_13 : decode cX7_odds 13 = .ok (.bipush 40, 2) := by decide +kernel
theorem dX7_odds_15 : decode cX7_odds 15 = .ok (.if_icmp .gt 21, 3) := by decide +kernel
theorem dX7_odds_18 : decode cX7_odds 18 = .ok (.iload_n 3, 1) := by decide +kernel
theorem dX7_odds_19 : decode cX7_odds 19 = .ok (.ifCond .lt 17, 3) := by decide +kernel
theorem dX7_odds_22 : decode cX7_odds 22 = .ok (.iload_n 3, 1) := by decide +kernel
theorem dX7_odds_23 : decode cX7_odds 23 = .ok (.bipush 72, 2) := by decide +kernel
theorem dX7_odds_25 : decode cX7_odds 25 = .ok (.if_icmp .gt 11, 3) := by decide +kernel
theorem dX7_odds_28 : decode cX7_odds 28 = .ok (.iload 4, 2) := by decide +kernel
theorem dX7_odds_30 : decode cX7_odds 30 = .ok (.invokestatic 216, 3) := by decide +kernel
theorem dX7_odds_33 : decode cX7_odds 33 = .ok (.ifCond .ne 7, 3) := by decide +kernel
theorem dX7_odds_36 : decode cX7_odds 36 = .ok (.ldc2_w 235, 3) := by decide +kernel
theorem dX7_odds_39 : decode cX7_odds 39 = .ok (.lreturn, 1) := by decide +kernel
theorem dX7_odds_40 : decode cX7_odds 40 = .ok (.iconst 0, 1) := by decide +kernel
theorem dX7_odds_41 : decode cX7_odds 41 = .ok (.istore 5, 2) := by decide +kernel
theorem dX7_odds_43 : decode cX7_odds 43 = .ok (.iconst 0, 1) := by decide +kernel
theorem dX7_odds_44 : decode cX7_odds 44 = .ok (.istore 6, 2) := by decide +kernel
theorem dX7_odds_46 : decode cX7_odds 46 = .ok (.iload 6, 2) := by decide +kernel
theorem dX7_odds_48 : decode cX7_odds 48 = .ok (.iload_n 2, 1) := by decide +kernel
theorem dX7_odds_49 : decode cX7_odds 49 = .ok (.if_icmp .ge 24, 3) := by decide +kernel
theorem dX7_odds_52 : decode cX7_odds 52 = .ok (.aload_n 0, 1) := by decide +kernel
theorem dX7_odds_53 : decode cX7_odds 53 = .ok (.iload_n 1, 1) := by decide +kernel
theorem dX7_odds_54 : decode cX7_odds 54 = .ok (.iload 6, 2) := by decide +kernel
theorem dX7_odds_56 : decode cX7_odds 56 = .ok (.iadd, 1) := by decide +kernel
theorem dX7_odds_57 : decode cX7_odds 57 = .ok (.invokevirtual 263, 3) := by decide +kernel
theorem dX7_odds_60 : decode cX7_odds 60 = .ok (.iload_n 3, 1) := by decide +kernel
theorem dX7_odds_61 : decode cX7_odds 61 = .ok (.if_icmp .lt 6, 3) := by decide +kernel
theorem dX7_odds_64 : decode cX7_odds 64 = .ok (.iinc 5 1, 3) := by decide +kernel
theorem dX7_odds_67 : decode cX7_odds 67 = .ok (.iinc 6 1, 3) := by decide +kernel
theorem dX7_odds_70 : decode cX7_odds 70 = .ok (.goto (-24), 3) := by decide +kernel
theorem dX7_odds_73 : decode cX7_odds 73 = .ok (.iload 5, 2) := by decide +kernel
theorem dX7_odds_75 : decode cX7_odds 75 = .ok (.iload_n 2, 1) := by decide +kernel
theorem dX7_odds_76 : decode cX7_odds 76 = .ok (.iload 4, 2) := by decide +kernel
theorem dX7_odds_78 : decode cX7_odds 78 = .ok (.invokestatic 240, 3) := by decide +kernel
theorem dX7_odds_81 : decode cX7_odds 81 = .ok (.lreturn, 1) := by decide +kernel
theorem dX7_image_0 : decode cX7_image 0 = .ok (.aload_n 0, 1) := by decide +kernel
theorem dX7_image_1 : decode cX7_image 1 = .ok (.getfield 57, 3) := by decide +kernel
theorem dX7_image_4 : decode cX7_image 4 = .ok (.aload_n 0, 1) := by decide +kernel
theorem dX7_image_5 : decode cX7_image 5 = .ok (.getfield 50, 3) := by decide +kernel
theorem dX7_image_8 : decode cX7_image 8 = .ok (.invokevirtual 266, 3) := by decide +kernel
theorem dX7_image_11 : decode cX7_image 11 = .ok (.aload_n 0, 1) := by decide +kernel
theorem dX7_image_12 : decode cX7_image 12 = .ok (.iconst 1, 1) := by decide +kernel
theorem dX7_image_13 : decode cX7_image 13 = .ok (.putfield 269, 3) := by decide +kernel
theorem dX7_image_16 : decode cX7_image 16 = .ok (.aload_n 0, 1) := by decide +kernel
theorem dX7_image_17 : decode cX7_image 17 = .ok (.getfield 57, 3) := by decide +kernel
theorem dX7_image_20 : decode cX7_image 20 = .ok (.getfield 67, 3) := by decide +kernel
theorem dX7_image_23 : decode cX7_image 23 = .ok (.ireturn, 1) := by decide +kernel
theorem dX7_back_0 : decode cX7_back 0 = .ok (.aload_n 0, 1) := by decide +kernel
theorem dX7_back_1 : decode cX7_back 1 = .ok (.getfield 269, 3) := by decide +kernel
theorem dX7_back_4 : decode cX7_back 4 = .ok (.ifCond .ne 6, 3) := by decide +kernel
theorem dX7_back_7 : decode cX7_back 7 = .ok (.bipush (-3), 2) := by decide +kernel
theorem dX7_back_9 : decode cX7_back 9 = .ok (.ireturn, 1) := by decide +kernel
theorem dX7_back_10 : decode cX7_back 10 = .ok (.aload_n 0, 1) := by decide +kernel
theorem dX7_back_11 : decode cX7_back 11 = .ok (.getfield 50, 3) := by decide +kernel
theorem dX7_back_14 : decode cX7_back 14 = .ok (.aload_n 0, 1) := by decide +kernel
theorem dX7_back_15 : decode cX7_back 15 = .ok (.getfield 57, 3) := by decide +kernel
theorem dX7_back_18 : decode cX7_back 18 = .ok (.invokevirtual 266, 3) := by decide +kernel
theorem dX7_back_21 : decode cX7_back 21 = .ok (.aload_n 0, 1) := by decide +kernel
theorem dX7_back_22 : decode cX7_back 22 = .ok (.getfield 50, 3) := by decide +kernel
theorem dX7_back_25 : decode cX7_back 25 = .ok (.getfield 67, 3) := by decide +kernel
theorem dX7_back_28 : decode cX7_back 28 = .ok (.ireturn, 1) := by decide +kernel
theorem dX7_sheet_0 : decode cX7_sheet 0 = .ok (.iload_n 1, 1) := by decide +kernel
theorem dX7_sheet_1 : decode cX7_sheet 1 = .ok (.invokestatic 251, 3) := by decide +kernel
theorem dX7_sheet_4 : decode cX7_sheet 4 = .ok (.ifCond .eq 13, 3) := by decide +kernel
theorem dX7_sheet_7 : decode cX7_sheet 7 = .ok (.iload_n 2, 1) := by decide +kernel
theorem dX7_sheet_8 : decode cX7_sheet 8 = .ok (.iconst (-1), 1) := by decide +kernel
theorem dX7_sheet_9 : decode cX7_sheet 9 = .ok (.if_icmp .lt 8, 3) := by decide +kernel
theorem dX7_sheet_12 : decode cX7_sheet 12 = .ok (.iload_n 2, 1) := by decide +kernel
theorem dX7_sheet_13 : decode cX7_sheet 13 = .ok (.iconst 2, 1) := by decide +kernel
theorem dX7_sheet_14 : decode cX7_sheet 14 = .ok (.if_icmp .le 6, 3) := by decide +kernel
theorem dX7_sheet_17 : decode cX7_sheet 17 = .ok (.bipush (-2), 2) := by decide +kernel
theorem dX7_sheet_19 : decode cX7_sheet 19 = .ok (.ireturn, 1) := by decide +kernel
theorem dX7_sheet_20 : decode cX7_sheet 20 = .ok (.iload_n 2, 1) := by decide +kernel
theorem dX7_sheet_21 : decode cX7_sheet 21 = .ok (.iconst (-1), 1) := by decide +kernel
theorem dX7_sheet_22 : decode cX7_sheet 22 = .ok (.if_icmp .ne 16, 3) := by decide +kernel
theorem dX7_sheet_25 : decode cX7_sheet 25 = .ok (.aload_n 0, 1) := by decide +kernel
theorem dX7_sheet_26 : decode cX7_sheet 26 = .ok (.getfield 62, 3) := by decide +kernel
theorem dX7_sheet_29 : decode cX7_sheet 29 = .ok (.iload_n 1, 1) := by decide +kernel
theorem dX7_sheet_30 : decode cX7_sheet 30 = .ok (.aaload, 1) := by decide +kernel
theorem dX7_sheet_31 : decode cX7_sheet 31 = .ok (.iconst (-1), 1) := by decide +kernel
theorem dX7_sheet_32 : decode cX7_sheet 32 = .ok (.iconst 0, 1) := by decide +kernel
theorem dX7_sheet_33 : decode cX7_sheet 33 = .ok (.invokevirtual 254, 3) := by decide +kernel
theorem dX7_sheet_36 : decode cX7_sheet 36 = .ok (.iconst 1, 1) := by decide +kernel
theorem dX7_sheet_37 : decode cX7_sheet 37 = .ok (.ireturn, 1) := by decide +kernel
theorem dX7_sheet_38 : decode cX7_sheet 38 = .ok (.iload_n 3, 1) := by decide +kernel
theorem dX7_sheet_39 : decode cX7_sheet 39 = .ok (.bipush 40, 2) := by decide +kernel
theorem dX7_sheet_41 : decode cX7_sheet 41 = .ok (.if_icmp .le 6, 3) := by decide +kernel
theorem dX7_sheet_44 : decode cX7_sheet 44 = .ok (.bipush (-2), 2) := by decide +kernel
theorem dX7_sheet_46 : decode cX7_sheet 46 = .ok (.ireturn, 1) := by decide +kernel
theorem dX7_sheet_47 : decode cX7_sheet 47 = .ok (.iload_n 3, 1) := by decide +kernel
theorem dX7_sheet_48 : decode cX7_sheet 48 = .ok (.ifCond .ge 6, 3) := by decide +kernel
theorem dX7_sheet_51 : decode cX7_sheet 51 = .ok (.bipush (-14), 2) := by decide +kernel
theorem dX7_sheet_53 : decode cX7_sheet 53 = .ok (.ireturn, 1) := by decide +kernel
theorem dX7_sheet_54 : decode cX7_sheet 54 = .ok (.aload_n 0, 1) := by decide +kernel
theorem dX7_sheet_55 : decode cX7_sheet 55 = .ok (.getfield 62, 3) := by decide +kernel
theorem dX7_sheet_58 : decode cX7_sheet 58 = .ok (.iload_n 1, 1) := by decide +kernel
theorem dX7_sheet_59 : decode cX7_sheet 59 = .ok (.aaload, 1) := by decide +kernel
theorem dX7_sheet_60 : decode cX7_sheet 60 = .ok (.iload_n 2, 1) := by decide +kernel
theorem dX7_sheet_61 : decode cX7_sheet 61 = .ok (.iload_n 3, 1) := by decide +kernel
theorem dX7_sheet_62 : decode cX7_sheet 62 = .ok (.invokevirtual 254, 3) := by decide +kernel
theorem dX7_sheet_65 : decode cX7_sheet 65 = .ok (.iconst 1, 1) := by decide +kernel
theorem dX7_sheet_66 : decode cX7_sheet 66 = .ok (.ireturn, 1) := by decide +kernel
theorem dX7_cell_0 : decode cX7_cell 0 = .ok (.iload_n 1, 1) := by decide +kernel
theorem dX7_cell_1 : decode cX7_cell 1 = .ok (.invokestatic 251, 3) := by decide +kernel
theorem dX7_cell_4 : decode cX7_cell 4 = .ok (.ifCond .ne 6, 3) := by decide +kernel
theorem dX7_cell_7 : decode cX7_cell 7 = .ok (.bipush (-2), 2) := by decide +kernel
theorem dX7_cell_9 : decode cX7_cell 9 = .ok (.ireturn, 1) := by decide +kernel
theorem dX7_cell_10 : decode cX7_cell 10 = .ok (.aload_n 0, 1) := by decide +kernel
theorem dX7_cell_11 : decode cX7_cell 11 = .ok (.getfield 62, 3) := by decide +kernel
theorem dX7_cell_14 : decode cX7_cell 14 = .ok (.iload_n 1, 1) := by decide +kernel
theorem dX7_cell_15 : decode cX7_cell 15 = .ok (.aaload, 1) := by decide +kernel
theorem dX7_cell_16 : decode cX7_cell 16 = .ok (.getfield 272, 3) := by decide +kernel
theorem dX7_cell_19 : decode cX7_cell 19 = .ok (.iconst (-1), 1) := by decide +kernel
theorem dX7_cell_20 : decode cX7_cell 20 = .ok (.if_icmp .ne 6, 3) := by decide +kernel
theorem dX7_cell_23 : decode cX7_cell 23 = .ok (.bipush (-11), 2) := by decide +kernel
theorem dX7_cell_25 : decode cX7_cell 25 = .ok (.ireturn, 1) := by decide +kernel
theorem dX7_cell_26 : decode cX7_cell 26 = .ok (.iload_n 2, 1) := by decide +kernel
theorem dX7_cell_27 : decode cX7_cell 27 = .ok (.ifCond .lt 16, 3) := by decide +kernel
theorem dX7_cell_30 : decode cX7_cell 30 = .ok (.iload_n 2, 1) := by decide +kernel
theorem dX7_cell_31 : decode cX7_cell 31 = .ok (.aload_n 0, 1) := by decide +kernel
theorem dX7_cell_32 : decode cX7_cell 32 = .ok (.getfield 62, 3) := by decide +kernel
theorem dX7_cell_35 : decode cX7_cell 35 = .ok (.iload_n 1, 1) := by decide +kernel
theorem dX7_cell_36 : decode cX7_cell 36 = .ok (.aaload, 1) := by decide +kernel
theorem dX7_cell_37 : decode cX7_cell 37 = .ok (.getfield 275, 3) := by decide +kernel
theorem dX7_cell_40 : decode cX7_cell 40 = .ok (.if_icmp .lt 6, 3) := by decide +kernel
theorem dX7_cell_43 : decode cX7_cell 43 = .ok (.bipush (-12), 2) := by decide +kernel
theorem dX7_cell_45 : decode cX7_cell 45 = .ok (.ireturn, 1) := by decide +kernel
theorem dX7_cell_46 : decode cX7_cell 46 = .ok (.aload_n 0, 1) := by decide +kernel
theorem dX7_cell_47 : decode cX7_cell 47 = .ok (.getfield 62, 3) := by decide +kernel
theorem dX7_cell_50 : decode cX7_cell 50 = .ok (.iload_n 1, 1) := by decide +kernel
theorem dX7_cell_51 : decode cX7_cell 51 = .ok (.aaload, 1) := by decide +kernel
theorem dX7_cell_52 : decode cX7_cell 52 = .ok (.iload_n 2, 1) := by decide +kernel
theorem dX7_cell_53 : decode cX7_cell 53 = .ok (.iload_n 3, 1) := by decide +kernel
theorem dX7_cell_54 : decode cX7_cell 54 = .ok (.invokevirtual 257, 3) := by decide +kernel
theorem dX7_cell_57 : decode cX7_cell 57 = .ok (.iconst 1, 1) := by decide +kernel
theorem dX7_cell_58 : decode cX7_cell 58 = .ok (.ireturn, 1) := by decide +kernel
theorem dX7_copy_0 : decode cX7_copy 0 = .ok (.iload_n 1, 1) := by decide +kernel
theorem dX7_copy_1 : decode cX7_copy 1 = .ok (.invokestatic 251, 3) := by decide +kernel
theorem dX7_copy_4 : decode cX7_copy 4 = .ok (.ifCond .eq 10, 3) := by decide +kernel
theorem dX7_copy_7 : decode cX7_copy 7 = .ok (.iload_n 3, 1) := by decide +kernel
theorem dX7_copy_8 : decode cX7_copy 8 = .ok (.invokestatic 251, 3) := by decide +kernel
theorem dX7_copy_11 : decode cX7_copy 11 = .ok (.ifCond .ne 6, 3) := by decide +kernel
theorem dX7_copy_14 : decode cX7_copy 14 = .ok (.bipush (-2), 2) := by decide +kernel
theorem dX7_copy_16 : decode cX7_copy 16 = .ok (.ireturn, 1) := by decide +kernel
theorem dX7_copy_17 : decode cX7_copy 17 = .ok (.aload_n 0, 1) := by decide +kernel
theorem dX7_copy_18 : decode cX7_copy 18 = .ok (.getfield 62, 3) := by decide +kernel
theorem dX7_copy_21 : decode cX7_copy 21 = .ok (.iload_n 1, 1) := by decide +kernel
theorem dX7_copy_22 : decode cX7_copy 22 = .ok (.aaload, 1) := by decide +kernel
theorem dX7_copy_23 : decode cX7_copy 23 = .ok (.astore 6, 2) := by decide +kernel
theorem dX7_copy_25 : decode cX7_copy 25 = .ok (.aload_n 0, 1) := by decide +kernel
theorem dX7_copy_26 : decode cX7_copy 26 = .ok (.getfield 62, 3) := by decide +kernel
theorem dX7_copy_29 : decode cX7_copy 29 = .ok (.iload_n 3, 1) := by decide +kernel
theorem dX7_copy_30 : decode cX7_copy 30 = .ok (.aaload, 1) := by decide +kernel
theorem dX7_copy_31 : decode cX7_copy 31 = .ok (.astore 7, 2) := by decide +kernel
theorem dX7_copy_33 : decode cX7_copy 33 = .ok (.aload 6, 2) := by decide +kernel
theorem dX7_copy_35 : decode cX7_copy 35 = .ok (.getfield 272, 3) := by decide +kernel
theorem dX7_copy_38 : decode cX7_copy 38 = .ok (.iconst (-1), 1) := by decide +kernel
theorem dX7_copy_39 : decode cX7_copy 39 = .ok (.if_icmp .eq 12, 3) := by decide +kernel
theorem dX7_copy_42 : decode cX7_copy 42 = .ok (.aload 7, 2) := by decide +kernel
theorem dX7_copy_44 : decode cX7_copy 44 = .ok (.getfield 272, 3) := by decide +kernel
theorem dX7_copy_47 : decode cX7_copy 47 = .ok (.iconst (-1), 1) := by decide +kernel
theorem dX7_copy_48 : decode cX7_copy 48 = .ok (.if_icmp .ne 6, 3) := by decide +kernel
theorem dX7_copy_51 : decode cX7_copy 51 = .ok (.bipush (-11), 2) := by decide +kernel
theorem dX7_copy_53 : decode cX7_copy 53 = .ok (.ireturn, 1) := by decide +kernel
theorem dX7_copy_54 : decode cX7_copy 54 = .ok (.aload 6, 2) := by decide +kernel
theorem dX7_copy_56 : decode cX7_copy 56 = .ok (.getfield 272, 3) := by decide +kernel
theorem dX7_copy_59 : decode cX7_copy 59 = .ok (.aload 7, 2) := by decide +kernel
theorem dX7_copy_61 : decode cX7_copy 61 = .ok (.getfield 272, 3) := by decide +kernel
theorem dX7_copy_64 : decode cX7_copy 64 = .ok (.if_icmp .eq 6, 3) := by decide +kernel
theorem dX7_copy_67 : decode cX7_copy 67 = .ok (.bipush (-13), 2) := by decide +kernel
theorem dX7_copy_69 : decode cX7_copy 69 = .ok (.ireturn, 1) := by decide +kernel
theorem dX7_copy_70 : decode cX7_copy 70 = .ok (.iload 5, 2) := by decide +kernel
theorem dX7_copy_72 : decode cX7_copy 72 = .ok (.ifCond .lt 37, 3) := by decide +kernel
theorem dX7_copy_75 : decode cX7_copy 75 = .ok (.iload_n 2, 1) := by decide +kernel
theorem dX7_copy_76 : decode cX7_copy 76 = .ok (.ifCond .lt 33, 3) := by decide +kernel
theorem dX7_copy_79 : decode cX7_copy 79 = .ok (.iload_n 2, 1) := by decide +kernel
theorem dX7_copy_80 : decode cX7_copy 80 = .ok (.aload 6, 2) := by decide +kernel
theorem dX7_copy_82 : decode cX7_copy 82 = .ok (.getfield 275, 3) := by decide +kernel
theorem dX7_copy_85 : decode cX7_copy 85 = .ok (.iload 5, 2) := by decide +kernel
theorem dX7_copy_87 : decode cX7_copy 87 = .ok (.isub, 1) := by decide +kernel
theorem dX7_copy_88 : decode cX7_copy 88 = .ok (.if_icmp .gt 21, 3) := by decide +kernel
theorem dX7_copy_91 : decode cX7_copy 91 = .ok (.iload 4, 2) := by decide +kernel
theorem dX7_copy_93 : decode cX7_copy 93 = .ok (.ifCond .lt 16, 3) := by decide +kernel
theorem dX7_copy_96 : decode cX7_copy 96 = .ok (.iload 4, 2) := by decide +kernel
theorem dX7_copy_98 : decode cX7_copy 98 = .ok (.aload 7, 2) := by decide +kernel
theorem dX7_copy_100 : decode cX7_copy 100 = .ok (.getfield 275, 3) := by decide +kernel
theorem dX7_copy_103 : decode cX7_copy 103 = .ok (.iload 5, 2) := by decide +kernel
theorem dX7_copy_105 : decode cX7_copy 105 = .ok (.isub, 1) := by decide +kernel
theorem dX7_copy_106 : decode cX7_copy 106 = .ok (.if_icmp .le 6, 3) := by decide +kernel
theorem dX7_copy_109 : decode cX7_copy 109 = .ok (.bipush (-12), 2) := by decide +kernel
theorem dX7_copy_111 : decode cX7_copy 111 = .ok (.ireturn, 1) := by decide +kernel
theorem dX7_copy_112 : decode cX7_copy 112 = .ok (.aload 6, 2) := by decide +kernel
theorem dX7_copy_114 : decode cX7_copy 114 = .ok (.getfield 276, 3) := by decide +kernel
theorem dX7_copy_117 : decode cX7_copy 117 = .ok (.iload_n 2, 1) := by decide +kernel
theorem dX7_copy_118 : decode cX7_copy 118 = .ok (.aload 7, 2) := by decide +kernel
theorem dX7_copy_120 : decode cX7_copy 120 = .ok (.getfield 276, 3) := by decide +kernel
theorem dX7_copy_123 : decode cX7_copy 123 = .ok (.iload 4, 2) := by decide +kernel
theorem dX7_copy_125 : decode cX7_copy 125 = .ok (.iload 5, 2) := by decide +kernel
theorem dX7_copy_127 : decode cX7_copy 127 = .ok (.invokestatic 279, 3) := by decide +kernel
theorem dX7_copy_130 : decode cX7_copy 130 = .ok (.iload 5, 2) := by decide +kernel
theorem dX7_copy_132 : decode cX7_copy 132 = .ok (.ireturn, 1) := by decide +kernel
theorem dX7_guestsBy_0 : decode cX7_guestsBy 0 = .ok (.iload_n 1, 1) := by decide +kernel
theorem dX7_guestsBy_1 : decode cX7_guestsBy 1 = .ok (.invokestatic 251, 3) := by decide +kernel
theorem dX7_guestsBy_4 : decode cX7_guestsBy 4 = .ok (.ifCond .eq 24, 3) := by decide +kernel
theorem dX7_guestsBy_7 : decode cX7_guestsBy 7 = .ok (.iload_n 2, 1) := by decide +kernel
theorem dX7_guestsBy_8 : decode cX7_guestsBy 8 = .ok (.ifCond .lt 20, 3) := by decide +kernel
theorem dX7_guestsBy_11 : decode cX7_guestsBy 11 = .ok (.iload_n 2, 1) := by decide +kernel
theorem dX7_guestsBy_12 : decode cX7_guestsBy 12 = .ok (.iconst 2, 1) := by decide +kernel
theorem dX7_guestsBy_13 : decode cX7_guestsBy 13 = .ok (.if_icmp .gt 15, 3) := by decide +kernel
theorem dX7_guestsBy_16 : decode cX7_guestsBy 16 = .ok (.iload 4, 2) := by decide +kernel
theorem dX7_guestsBy_18 : decode cX7_guestsBy 18 = .ok (.ifCond .lt 10, 3) := by decide +kernel
theorem dX7_guestsBy_21 : decode cX7_guestsBy 21 = .ok (.iload 4, 2) := by decide +kernel
theorem dX7_guestsBy_23 : decode cX7_guestsBy 23 = .ok (.bipush 6, 2) := by decide +kernel
theorem dX7_guestsBy_25 : decode cX7_guestsBy 25 = .ok (.if_icmp .le 6, 3) := by decide +kernel
theorem dX7_guestsBy_28 : decode cX7_guestsBy 28 = .ok (.bipush (-2), 2) := by decide +kernel
theorem dX7_guestsBy_30 : decode cX7_guestsBy 30 = .ok (.ireturn, 1) := by decide +kernel
theorem dX7_guestsBy_31 : decode cX7_guestsBy 31 = .ok (.aload_n 0, 1) := by decide +kernel
theorem dX7_guestsBy_32 : decode cX7_guestsBy 32 = .ok (.getfield 62, 3) := by decide +kernel
theorem dX7_guestsBy_35 : decode cX7_guestsBy 35 = .ok (.iload_n 1, 1) := by decide +kernel
theorem dX7_guestsBy_36 : decode cX7_guestsBy 36 = .ok (.aaload, 1) := by decide +kernel
theorem dX7_guestsBy_37 : decode cX7_guestsBy 37 = .ok (.astore 5, 2) := by decide +kernel
theorem dX7_guestsBy_39 : decode cX7_guestsBy 39 = .ok (.aload 5, 2) := by decide +kernel
theorem dX7_guestsBy_41 : decode cX7_guestsBy 41 = .ok (.getfield 272, 3) := by decide +kernel
theorem dX7_guestsBy_44 : decode cX7_guestsBy 44 = .ok (.iconst (-1), 1) := by decide +kernel
theorem dX7_guestsBy_45 : decode cX7_guestsBy 45 = .ok (.if_icmp .ne 6, 3) := by decide +kernel
theorem dX7_guestsBy_48 : decode cX7_guestsBy 48 = .ok (.bipush (-11), 2) := by decide +kernel
theorem dX7_guestsBy_50 : decode cX7_guestsBy 50 = .ok (.ireturn, 1) := by decide +kernel
theorem dX7_guestsBy_51 : decode cX7_guestsBy 51 = .ok (.aload 5, 2) := by decide +kernel
theorem dX7_guestsBy_53 : decode cX7_guestsBy 53 = .ok (.getfield 272, 3) := by decide +kernel
theorem dX7_guestsBy_56 : decode cX7_guestsBy 56 = .ok (.iload_n 2, 1) := by decide +kernel
theorem dX7_guestsBy_57 : decode cX7_guestsBy 57 = .ok (.if_icmp .eq 6, 3) := by decide +kernel
theorem dX7_guestsBy_60 : decode cX7_guestsBy 60 = .ok (.bipush (-13), 2) := by decide +kernel
theorem dX7_guestsBy_62 : decode cX7_guestsBy 62 = .ok (.ireturn, 1) := by decide +kernel
theorem dX7_guestsBy_63 : decode cX7_guestsBy 63 = .ok (.iconst 0, 1) := by decide +kernel
theorem dX7_guestsBy_64 : decode cX7_guestsBy 64 = .ok (.istore 6, 2) := by decide +kernel
theorem dX7_guestsBy_66 : decode cX7_guestsBy 66 = .ok (.iconst 0, 1) := by decide +kernel
theorem dX7_guestsBy_67 : decode cX7_guestsBy 67 = .ok (.istore 7, 2) := by decide +kernel
theorem dX7_guestsBy_69 : decode cX7_guestsBy 69 = .ok (.iload 7, 2) := by decide +kernel
theorem dX7_guestsBy_71 : decode cX7_guestsBy 71 = .ok (.iload 4, 2) := by decide +kernel
theorem dX7_guestsBy_73 : decode cX7_guestsBy 73 = .ok (.if_icmp .ge 75, 3) := by decide +kernel
theorem dX7_guestsBy_76 : decode cX7_guestsBy 76 = .ok (.iload_n 3, 1) := by decide +kernel
theorem dX7_guestsBy_77 : decode cX7_guestsBy 77 = .ok (.iconst 3, 1) := by decide +kernel
theorem dX7_guestsBy_78 : decode cX7_guestsBy 78 = .ok (.iload 7, 2) := by decide +kernel
theorem dX7_guestsBy_80 : decode cX7_guestsBy 80 = .ok (.imul, 1) := by decide +kernel
theorem dX7_guestsBy_81 : decode cX7_guestsBy 81 = .ok (.iadd, 1) := by decide +kernel
theorem dX7_guestsBy_82 : decode cX7_guestsBy 82 = .ok (.istore 8, 2) := by decide +kernel
theorem dX7_guestsBy_84 : decode cX7_guestsBy 84 = .ok (.iload 8, 2) := by decide +kernel
theorem dX7_guestsBy_86 : decode cX7_guestsBy 86 = .ok (.ifCond .lt 15, 3) := by decide +kernel
theorem dX7_guestsBy_89 : decode cX7_guestsBy 89 = .ok (.iload 8, 2) := by decide +kernel
theorem dX7_guestsBy_91 : decode cX7_guestsBy 91 = .ok (.aload 5, 2) := by decide +kernel
theorem dX7_guestsBy_93 : decode cX7_guestsBy 93 = .ok (.getfield 275, 3) := by decide +kernel
theorem dX7_guestsBy_96 : decode cX7_guestsBy 96 = .ok (.iconst 3, 1) := by decide +kernel
theorem dX7_guestsBy_97 : decode cX7_guestsBy 97 = .ok (.isub, 1) := by decide +kernel
theorem dX7_guestsBy_98 : decode cX7_guestsBy 98 = .ok (.if_icmp .le 6, 3) := by decide +kernel
theorem dX7_guestsBy_101 : decode cX7_guestsBy 101 = .ok (.bipush (-12), 2) := by decide +kernel
theorem dX7_guestsBy_103 : decode cX7_guestsBy 103 = .ok (.ireturn, 1) := by decide +kernel
theorem dX7_guestsBy_104 : decode cX7_guestsBy 104 = .ok (.aload_n 0, 1) := by decide +kernel
theorem dX7_guestsBy_105 : decode cX7_guestsBy 105 = .ok (.aload 5, 2) := by decide +kernel
theorem dX7_guestsBy_107 : decode cX7_guestsBy 107 = .ok (.getfield 276, 3) := by decide +kernel
theorem dX7_guestsBy_110 : decode cX7_guestsBy 110 = .ok (.iload 8, 2) := by decide +kernel
theorem dX7_guestsBy_112 : decode cX7_guestsBy 112 = .ok (.iaload, 1) := by decide +kernel
theorem dX7_guestsBy_113 : decode cX7_guestsBy 113 = .ok (.aload 5, 2) := by decide +kernel
theorem dX7_guestsBy_115 : decode cX7_guestsBy 115 = .ok (.getfield 276, 3) := by decide +kernel
theorem dX7_guestsBy_118 : decode cX7_guestsBy 118 = .ok (.iload 8, 2) := by decide +kernel
theorem dX7_guestsBy_120 : decode cX7_guestsBy 120 = .ok (.iconst 1, 1) := by decide +kernel
theorem dX7_guestsBy_121 : decode cX7_guestsBy 121 = .ok (.iadd, 1) := by decide +kernel
theorem dX7_guestsBy_122 : decode cX7_guestsBy 122 = .ok (.iaload, 1) := by decide +kernel
theorem dX7_guestsBy_123 : decode cX7_guestsBy 123 = .ok (.aload 5, 2) := by decide +kernel
theorem dX7_guestsBy_125 : decode cX7_guestsBy 125 = .ok (.getfield 276, 3) := by decide +kernel
theorem dX7_guestsBy_128 : decode cX7_guestsBy 128 = .ok (.iload 8, 2) := by decide +kernel
theorem dX7_guestsBy_130 : decode cX7_guestsBy 130 = .ok (.iconst 2, 1) := by decide +kernel
theorem dX7_guestsBy_131 : decode cX7_guestsBy 131 = .ok (.iadd, 1) := by decide +kernel
theorem dX7_guestsBy_132 : decode cX7_guestsBy 132 = .ok (.iaload, 1) := by decide +kernel
theorem dX7_guestsBy_133 : decode cX7_guestsBy 133 = .ok (.invokevirtual 285, 3) := by decide +kernel
theorem dX7_guestsBy_136 : decode cX7_guestsBy 136 = .ok (.ifCond .lt 6, 3) := by decide +kernel
theorem dX7_guestsBy_139 : decode cX7_guestsBy 139 = .ok (.iinc 6 1, 3) := by decide +kernel
theorem dX7_guestsBy_142 : decode cX7_guestsBy 142 = .ok (.iinc 7 1, 3) := by decide +kernel
theorem dX7_guestsBy_145 : decode cX7_guestsBy 145 = .ok (.goto (-76), 3) := by decide +kernel
theorem dX7_guestsBy_148 : decode cX7_guestsBy 148 = .ok (.iload 6, 2) := by decide +kernel
theorem dX7_guestsBy_150 : decode cX7_guestsBy 150 = .ok (.ireturn, 1) := by decide +kernel
theorem dX7_taken_0 : decode cX7_taken 0 = .ok (.iload_n 2, 1) := by decide +kernel
theorem dX7_taken_1 : decode cX7_taken 1 = .ok (.ifCond .lt 9, 3) := by decide +kernel
theorem dX7_taken_4 : decode cX7_taken 4 = .ok (.iload_n 2, 1) := by decide +kernel
theorem dX7_taken_5 : decode cX7_taken 5 = .ok (.bipush 6, 2) := by decide +kernel
theorem dX7_taken_7 : decode cX7_taken 7 = .ok (.if_icmp .le 6, 3) := by decide +kernel
theorem dX7_taken_10 : decode cX7_taken 10 = .ok (.bipush (-2), 2) := by decide +kernel
theorem dX7_taken_12 : decode cX7_taken 12 = .ok (.ireturn, 1) := by decide +kernel
theorem dX7_taken_13 : decode cX7_taken 13 = .ok (.iload_n 1, 1) := by decide +kernel
theorem dX7_taken_14 : decode cX7_taken 14 = .ok (.ifCond .lt 9, 3) := by decide +kernel
theorem dX7_taken_17 : decode cX7_taken 17 = .ok (.iload_n 1, 1) := by decide +kernel
theorem dX7_taken_18 : decode cX7_taken 18 = .ok (.bipush 12, 2) := by decide +kernel
theorem dX7_taken_20 : decode cX7_taken 20 = .ok (.if_icmp .lt 6, 3) := by decide +kernel
theorem dX7_taken_23 : decode cX7_taken 23 = .ok (.bipush (-12), 2) := by decide +kernel
theorem dX7_taken_25 : decode cX7_taken 25 = .ok (.ireturn, 1) := by decide +kernel
theorem dX7_taken_26 : decode cX7_taken 26 = .ok (.aload_n 0, 1) := by decide +kernel
theorem dX7_taken_27 : decode cX7_taken 27 = .ok (.getfield 50, 3) := by decide +kernel
theorem dX7_taken_30 : decode cX7_taken 30 = .ok (.iload_n 1, 1) := by decide +kernel
theorem dX7_taken_31 : decode cX7_taken 31 = .ok (.bipush 6, 2) := by decide +kernel
theorem dX7_taken_33 : decode cX7_taken 33 = .ok (.irem, 1) := by decide +kernel
theorem dX7_taken_34 : decode cX7_taken 34 = .ok (.invokevirtual 125, 3) := by decide +kernel
theorem dX7_taken_37 : decode cX7_taken 37 = .ok (.ifCond .ne 6, 3) := by decide +kernel
theorem dX7_taken_40 : decode cX7_taken 40 = .ok (.bipush (-11), 2) := by decide +kernel
theorem dX7_taken_42 : decode cX7_taken 42 = .ok (.ireturn, 1) := by decide +kernel
theorem dX7_taken_43 : decode cX7_taken 43 = .ok (.aload_n 0, 1) := by decide +kernel
theorem dX7_taken_44 : decode cX7_taken 44 = .ok (.getfield 50, 3) := by decide +kernel
theorem dX7_taken_47 : decode cX7_taken 47 = .ok (.getfield 128, 3) := by decide +kernel
theorem dX7_taken_50 : decode cX7_taken 50 = .ok (.iload_n 1, 1) := by decide +kernel
theorem dX7_taken_51 : decode cX7_taken 51 = .ok (.bipush 6, 2) := by decide +kernel
theorem dX7_taken_53 : decode cX7_taken 53 = .ok (.irem, 1) := by decide +kernel
theorem dX7_taken_54 : decode cX7_taken 54 = .ok (.aaload, 1) := by decide +kernel
theorem dX7_taken_55 : decode cX7_taken 55 = .ok (.astore_n 3, 1) := by decide +kernel
theorem dX7_taken_56 : decode cX7_taken 56 = .ok (.iload_n 1, 1) := by decide +kernel
theorem dX7_taken_57 : decode cX7_taken 57 = .ok (.bipush 6, 2) := by decide +kernel
theorem dX7_taken_59 : decode cX7_taken 59 = .ok (.if_icmp .lt 27, 3) := by decide +kernel
theorem dX7_taken_62 : decode cX7_taken 62 = .ok (.iload_n 2, 1) := by decide +kernel
theorem dX7_taken_63 : decode cX7_taken 63 = .ok (.bipush 6, 2) := by decide +kernel
theorem dX7_taken_65 : decode cX7_taken 65 = .ok (.if_icmp .eq 8, 3) := by decide +kernel
theorem dX7_taken_68 : decode cX7_taken 68 = .ok (.bipush (-13), 2) := by decide +kernel
theorem dX7_taken_70 : decode cX7_taken 70 = .ok (.goto 15, 3) := by decide +kernel
theorem dX7_taken_73 : decode cX7_taken 73 = .ok (.aload_n 3, 1) := by decide +kernel
theorem dX7_taken_74 : decode cX7_taken 74 = .ok (.getfield 228, 3) := by decide +kernel
theorem dX7_taken_77 : decode cX7_taken 77 = .ok (.ifCond .eq 7, 3) := by decide +kernel
theorem dX7_taken_80 : decode cX7_taken 80 = .ok (.iconst 1, 1) := by decide +kernel
theorem dX7_taken_81 : decode cX7_taken 81 = .ok (.goto 4, 3) := by decide +kernel
theorem dX7_taken_84 : decode cX7_taken 84 = .ok (.iconst 0, 1) := by decide +kernel
theorem dX7_taken_85 : decode cX7_taken 85 = .ok (.ireturn, 1) := by decide +kernel
theorem dX7_taken_86 : decode cX7_taken 86 = .ok (.iload_n 2, 1) := by decide +kernel
theorem dX7_taken_87 : decode cX7_taken 87 = .ok (.bipush 6, 2) := by decide +kernel
theorem dX7_taken_89 : decode cX7_taken 89 = .ok (.if_icmp .eq 18, 3) := by decide +kernel
theorem dX7_taken_92 : decode cX7_taken 92 = .ok (.aload_n 3, 1) := by decide +kernel
theorem dX7_taken_93 : decode cX7_taken 93 = .ok (.getfield 152, 3) := by decide +kernel
theorem dX7_taken_96 : decode cX7_taken 96 = .ok (.iload_n 2, 1) := by decide +kernel
theorem dX7_taken_97 : decode cX7_taken 97 = .ok (.invokestatic 289, 3) := by decide +kernel
theorem dX7_taken_100 : decode cX7_taken 100 = .ok (.ifCond .eq 7, 3) := by decide +kernel
theorem dX7_taken_103 : decode cX7_taken 103 = .ok (.iload_n 1, 1) := by decide +kernel
theorem dX7_taken_104 : decode cX7_taken 104 = .ok (.goto 5, 3) := by decide +kernel
theorem dX7_taken_107 : decode cX7_taken 107 = .ok (.bipush (-13), 2) := by decide +kernel
theorem dX7_taken_109 : decode cX7_taken 109 = .ok (.ireturn, 1) := by decide +kernel
theorem dX7_think_0 : decode cX7_think 0 = .ok (.aload_n 0, 1) := by decide +kernel
theorem dX7_think_1 : decode cX7_think 1 = .ok (.getfield 54, 3) := by decide +kernel
theorem dX7_think_4 : decode cX7_think 4 = .ok (.aload_n 0, 1) := by decide +kernel
theorem dX7_think_5 : decode cX7_think 5 = .ok (.getfield 50, 3) := by decide +kernel
theorem dX7_think_8 : decode cX7_think 8 = .ok (.invokevirtual 266, 3) := by decide +kernel
theorem dX7_think_11 : decode cX7_think 11 = .ok (.return_, 1) := by decide +kernel
theorem dX7_firstOther_0 : decode cX7_firstOther 0 = .ok (.iconst 0, 1) := by decide +kernel
theorem dX7_firstOther_1 : decode cX7_firstOther 1 = .ok (.istore_n 2, 1) := by decide +kernel
theorem dX7_firstOther_2 : decode cX7_firstOther 2 = .ok (.iload_n 2, 1) := by decide +kernel
theorem dX7_firstOther_3 : decode cX7_firstOther 3 = .ok (.aload_n 1, 1) := by decide +kernel
theorem dX7_firstOther_4 : decode cX7_firstOther 4 = .ok (.getfield 275, 3) := by decide +kernel
theorem dX7_firstOther_7 : decode cX7_firstOther 7 = .ok (.if_icmp .ge 27, 3) := by decide +kernel
theorem dX7_firstOther_10 : decode cX7_firstOther 10 = .ok (.aload_n 0, 1) := by decide +kernel
theorem dX7_firstOther_11 : decode cX7_firstOther 11 = .ok (.getfield 54, 3) := by decide +kernel
theorem dX7_firstOther_14 : decode cX7_firstOther 14 = .ok (.invokevirtual 192, 3) := by decide +kernel
theorem dX7_firstOther_17 : decode cX7_firstOther 17 = .ok (.aload_n 1, 1) := by decide +kernel
theorem dX7_firstOther_18 : decode cX7_firstOther 18 = .ok (.getfield 276, 3) := by decide +kernel
theorem dX7_firstOther_21 : decode cX7_firstOther 21 = .ok (.iload_n 2, 1) := by decide +kernel
theorem dX7_firstOther_22 : decode cX7_firstOther 22 = .ok (.iaload, 1) := by decide +kernel
theorem dX7_firstOther_23 : decode cX7_firstOther 23 = .ok (.if_icmp .eq 5, 3) := by decide +kernel
theorem dX7_firstOther_26 : decode cX7_firstOther 26 = .ok (.iload_n 2, 1) := by decide +kernel
theorem dX7_firstOther_27 : decode cX7_firstOther 27 = .ok (.ireturn, 1) := by decide +kernel
theorem dX7_firstOther_28 : decode cX7_firstOther 28 = .ok (.iinc 2 1, 3) := by decide +kernel
theorem dX7_firstOther_31 : decode cX7_firstOther 31 = .ok (.goto (-29), 3) := by decide +kernel
theorem dX7_firstOther_34 : decode cX7_firstOther 34 = .ok (.iconst (-1), 1) := by decide +kernel
theorem dX7_firstOther_35 : decode cX7_firstOther 35 = .ok (.ireturn, 1) := by decide +kernel
theorem dX7_refusalOfTale_0 : decode cX7_refusalOfTale 0 = .ok (.iload_n 1, 1) := by decide +kernel
theorem dX7_refusalOfTale_1 : decode cX7_refusalOfTale 1 = .ok (.invokestatic 251, 3) := by decide +kernel
theorem dX7_refusalOfTale_4 : decode cX7_refusalOfTale 4 = .ok (.ifCond .ne 6, 3) := by decide +kernel
theorem dX7_refusalOfTale_7 : decode cX7_refusalOfTale 7 = .ok (.bipush (-2), 2) := by decide +kernel
theorem dX7_refusalOfTale_9 : decode cX7_refusalOfTale 9 = .ok (.ireturn, 1) := by decide +kernel
theorem dX7_refusalOfTale_10 : decode cX7_refusalOfTale 10 = .ok (.aload_n 0, 1) := by decide +kernel
theorem dX7_refusalOfTale_11 : decode cX7_refusalOfTale 11 = .ok (.getfield 62, 3) := by decide +kernel
theorem dX7_refusalOfTale_14 : decode cX7_refusalOfTale 14 = .ok (.iload_n 1, 1) := by decide +kernel
theorem dX7_refusalOfTale_15 : decode cX7_refusalOfTale 15 = .ok (.aaload, 1) := by decide +kernel
theorem dX7_refusalOfTale_16 : decode cX7_refusalOfTale 16 = .ok (.getfield 272, 3) := by decide +kernel
theorem dX7_refusalOfTale_19 : decode cX7_refusalOfTale 19 = .ok (.iconst (-1), 1) := by decide +kernel
theorem dX7_refusalOfTale_20 : decode cX7_refusalOfTale 20 = .ok (.if_icmp .ne 6, 3) := by decide +kernel
theorem dX7_refusalOfTale_23 : decode cX7_refusalOfTale 23 = .ok (.bipush (-11), 2) := by decide +kernel
theorem dX7_refusalOfTale_25 : decode cX7_refusalOfTale 25 = .ok (.ireturn, 1) := by decide +kernel
theorem dX7_refusalOfTale_26 : decode cX7_refusalOfTale 26 = .ok (.aload_n 0, 1) := by decide +kernel
theorem dX7_refusalOfTale_27 : decode cX7_refusalOfTale 27 = .ok (.getfield 62, 3) := by decide +kernel
theorem dX7_refusalOfTale_30 : decode cX7_refusalOfTale 30 = .ok (.iload_n 1, 1) := by decide +kernel
theorem dX7_refusalOfTale_31 : decode cX7_refusalOfTale 31 = .ok (.aaload, 1) := by decide +kernel
theorem dX7_refusalOfTale_32 : decode cX7_refusalOfTale 32 = .ok (.getfield 275, 3) := by decide +kernel
theorem dX7_refusalOfTale_35 : decode cX7_refusalOfTale 35 = .ok (.bipush 20, 2) := by decide +kernel
theorem dX7_refusalOfTale_37 : decode cX7_refusalOfTale 37 = .ok (.if_icmp .le 8, 3) := by decide +kernel
theorem dX7_refusalOfTale_40 : decode cX7_refusalOfTale 40 = .ok (.bipush (-2), 2) := by decide +kernel
theorem dX7_refusalOfTale_42 : decode cX7_refusalOfTale 42 = .ok (.goto 4, 3) := by decide +kernel
theorem dX7_refusalOfTale_45 : decode cX7_refusalOfTale 45 = .ok (.iconst 0, 1) := by decide +kernel
theorem dX7_refusalOfTale_46 : decode cX7_refusalOfTale 46 = .ok (.ireturn, 1) := by decide +kernel
theorem dX7_actsByLots_0 : decode cX7_actsByLots 0 = .ok (.aload_n 0, 1) := by decide +kernel
theorem dX7_actsByLots_1 : decode cX7_actsByLots 1 = .ok (.invokevirtual 207, 3) := by decide +kernel
theorem dX7_actsByLots_4 : decode cX7_actsByLots 4 = .ok (.iconst 0, 1) := by decide +kernel
theorem dX7_actsByLots_5 : decode cX7_actsByLots 5 = .ok (.istore_n 2, 1) := by decide +kernel
theorem dX7_actsByLots_6 : decode cX7_actsByLots 6 = .ok (.iload_n 1, 1) := by decide +kernel
theorem dX7_actsByLots_7 : decode cX7_actsByLots 7 = .ok (.i2l, 1) := by decide +kernel
theorem dX7_actsByLots_8 : decode cX7_actsByLots 8 = .ok (.lconst 1, 1) := by decide +kernel
theorem dX7_actsByLots_9 : decode cX7_actsByLots 9 = .ok (.ladd, 1) := by decide +kernel
theorem dX7_actsByLots_10 : decode cX7_actsByLots 10 = .ok (.lstore_n 3, 1) := by decide +kernel
theorem dX7_actsByLots_11 : decode cX7_actsByLots 11 = .ok (.iconst 0, 1) := by decide +kernel
theorem dX7_actsByLots_12 : decode cX7_actsByLots 12 = .ok (.istore 5, 2) := by decide +kernel
theorem dX7_actsByLots_14 : decode cX7_actsByLots 14 = .ok (.iload 5, 2) := by decide +kernel
theorem dX7_actsByLots_16 : decode cX7_actsByLots 16 = .ok (.bipush 12, 2) := by decide +kernel
theorem dX7_actsByLots_18 : decode cX7_actsByLots 18 = .ok (.if_icmp .ge 89, 3) := by decide +kernel
theorem dX7_actsByLots_21 : decode cX7_actsByLots 21 = .ok (.lload_n 3, 1) := by decide +kernel
theorem dX7_actsByLots_22 : decode cX7_actsByLots 22 = .ok (.ldc2_w 292, 3) := by decide +kernel
theorem dX7_actsByLots_25 : decode cX7_actsByLots 25 = .ok (.lmul, 1) := by decide +kernel
theorem dX7_actsByLots_26 : decode cX7_actsByLots 26 = .ok (.ldc2_w 294, 3) := by decide +kernel
theorem dX7_actsByLots_29 : decode cX7_actsByLots 29 = .ok (.lrem, 1) := by decide +kernel
theorem dX7_actsByLots_30 : decode cX7_actsByLots 30 = .ok (.lstore_n 3, 1) := by decide +kernel
theorem dX7_actsByLots_31 : decode cX7_actsByLots 31 = .ok (.lload_n 3, 1) := by decide +kernel
theorem dX7_actsByLots_32 : decode cX7_actsByLots 32 = .ok (.ldc2_w 296, 3) := by decide +kernel
theorem dX7_actsByLots_35 : decode cX7_actsByLots 35 = .ok (.lrem, 1) := by decide +kernel
theorem dX7_actsByLots_36 : decode cX7_actsByLots 36 = .ok (.l2i, 1) := by decide +kernel
theorem dX7_actsByLots_37 : decode cX7_actsByLots 37 = .ok (.istore 6, 2) := by decide +kernel
theorem dX7_actsByLots_39 : decode cX7_actsByLots 39 = .ok (.lload_n 3, 1) := by decide +kernel
theorem dX7_actsByLots_40 : decode cX7_actsByLots 40 = .ok (.ldc2_w 292, 3) := by decide +kernel
theorem dX7_actsByLots_43 : decode cX7_actsByLots 43 = .ok (.lmul, 1) := by decide +kernel
theorem dX7_actsByLots_44 : decode cX7_actsByLots 44 = .ok (.ldc2_w 294, 3) := by decide +kernel
theorem dX7_actsByLots_47 : decode cX7_actsByLots 47 = .ok (.lrem, 1) := by decide +kernel
theorem dX7_actsByLots_48 : decode cX7_actsByLots 48 = .ok (.lstore_n 3, 1) := by decide +kernel
theorem dX7_actsByLots_49 : decode cX7_actsByLots 49 = .ok (.lload_n 3, 1) := by decide +kernel
theorem dX7_actsByLots_50 : decode cX7_actsByLots 50 = .ok (.ldc2_w 298, 3) := by decide +kernel
theorem dX7_actsByLots_53 : decode cX7_actsByLots 53 = .ok (.lrem, 1) := by decide +kernel
theorem dX7_actsByLots_54 : decode cX7_actsByLots 54 = .ok (.l2i, 1) := by decide +kernel
theorem dX7_actsByLots_55 : decode cX7_actsByLots 55 = .ok (.istore 7, 2) := by decide +kernel
theorem dX7_actsByLots_57 : decode cX7_actsByLots 57 = .ok (.aload_n 0, 1) := by decide +kernel
theorem dX7_actsByLots_58 : decode cX7_actsByLots 58 = .ok (.getfield 54, 3) := by decide +kernel
theorem dX7_actsByLots_61 : decode cX7_actsByLots 61 = .ok (.iload 6, 2) := by decide +kernel
theorem dX7_actsByLots_63 : decode cX7_actsByLots 63 = .ok (.invokevirtual 125, 3) := by decide +kernel
theorem dX7_actsByLots_66 : decode cX7_actsByLots 66 = .ok (.ifCond .eq 25, 3) := by decide +kernel
theorem dX7_actsByLots_69 : decode cX7_actsByLots 69 = .ok (.aload_n 0, 1) := by decide +kernel
theorem dX7_actsByLots_70 : decode cX7_actsByLots 70 = .ok (.getfield 54, 3) := by decide +kernel
theorem dX7_actsByLots_73 : decode cX7_actsByLots 73 = .ok (.getfield 128, 3) := by decide +kernel
theorem dX7_actsByLots_76 : decode cX7_actsByLots 76 = .ok (.iload 6, 2) := by decide +kernel
theorem dX7_actsByLots_78 : decode cX7_actsByLots 78 = .ok (.aaload, 1) := by decide +kernel
theorem dX7_actsByLots_79 : decode cX7_actsByLots 79 = .ok (.dup, 1) := by decide +kernel
theorem dX7_actsByLots_80 : decode cX7_actsByLots 80 = .ok (.getfield 201, 3) := by decide +kernel
theorem dX7_actsByLots_83 : decode cX7_actsByLots 83 = .ok (.iconst 1, 1) := by decide +kernel
theorem dX7_actsByLots_84 : decode cX7_actsByLots 84 = .ok (.iload 7, 2) := by decide +kernel
theorem dX7_actsByLots_86 : decode cX7_actsByLots 86 = .ok (.ishl, 1) := by decide +kernel
theorem dX7_actsByLots_87 : decode cX7_actsByLots 87 = .ok (.ixor, 1) := by decide +kernel
theorem dX7_actsByLots_88 : decode cX7_actsByLots 88 = .ok (.putfield 201, 3) := by decide +kernel
theorem dX7_actsByLots_91 : decode cX7_actsByLots 91 = .ok (.iload_n 2, 1) := by decide +kernel
theorem dX7_actsByLots_92 : decode cX7_actsByLots 92 = .ok (.aload_n 0, 1) := by decide +kernel
theorem dX7_actsByLots_93 : decode cX7_actsByLots 93 = .ok (.getfield 54, 3) := by decide +kernel
theorem dX7_actsByLots_96 : decode cX7_actsByLots 96 = .ok (.invokevirtual 192, 3) := by decide +kernel
theorem dX7_actsByLots_99 : decode cX7_actsByLots 99 = .ok (.iadd, 1) := by decide +kernel
theorem dX7_actsByLots_100 : decode cX7_actsByLots 100 = .ok (.istore_n 2, 1) := by decide +kernel
theorem dX7_actsByLots_101 : decode cX7_actsByLots 101 = .ok (.iinc 5 1, 3) := by decide +kernel
theorem dX7_actsByLots_104 : decode cX7_actsByLots 104 = .ok (.goto (-90), 3) := by decide +kernel
theorem dX7_actsByLots_107 : decode cX7_actsByLots 107 = .ok (.iload_n 2, 1) := by decide +kernel
theorem dX7_actsByLots_108 : decode cX7_actsByLots 108 = .ok (.ireturn, 1) := by decide +kernel
theorem dX7_partOfFraction_0 : decode cX7_partOfFraction 0 = .ok (.iconst 1, 1) := by decide +kernel
theorem dX7_partOfFraction_1 : decode cX7_partOfFraction 1 = .ok (.istore_n 3, 1) := by decide +kernel
theorem dX7_partOfFraction_2 : decode cX7_partOfFraction 2 = .ok (.iload_n 1, 1) := by decide +kernel
theorem dX7_partOfFraction_3 : decode cX7_partOfFraction 3 = .ok (.istore 4, 2) := by decide +kernel
theorem dX7_partOfFraction_5 : decode cX7_partOfFraction 5 = .ok (.iload 4, 2) := by decide +kernel
theorem dX7_partOfFraction_7 : decode cX7_partOfFraction 7 = .ok (.iconst 1, 1) := by decide +kernel
theorem dX7_partOfFraction_8 : decode cX7_partOfFraction 8 = .ok (.if_icmp .le 31, 3) := by decide +kernel
theorem dX7_partOfFraction_11 : decode cX7_partOfFraction 11 = .ok (.iload_n 3, 1) := by decide +kernel
theorem dX7_partOfFraction_12 : decode cX7_partOfFraction 12 = .ok (.iconst 1, 1) := by decide +kernel
theorem dX7_partOfFraction_13 : decode cX7_partOfFraction 13 = .ok (.if_icmp .ne 26, 3) := by decide +kernel
theorem dX7_partOfFraction_16 : decode cX7_partOfFraction 16 = .ok (.iload_n 0, 1) := by decide +kernel
theorem dX7_partOfFraction_17 : decode cX7_partOfFraction 17 = .ok (.iload 4, 2) := by decide +kernel
theorem dX7_partOfFraction_19 : decode cX7_partOfFraction 19 = .ok (.irem, 1) := by decide +kernel
theorem dX7_partOfFraction_20 : decode cX7_partOfFraction 20 = .ok (.ifCond .ne 13, 3) := by decide +kernel
theorem dX7_partOfFraction_23 : decode cX7_partOfFraction 23 = .ok (.iload_n 1, 1) := by decide +kernel
theorem dX7_partOfFraction_24 : decode cX7_partOfFraction 24 = .ok (.iload 4, 2) := by decide +kernel
theorem dX7_partOfFraction_26 : decode cX7_partOfFraction 26 = .ok (.irem, 1) := by decide +kernel
theorem dX7_partOfFraction_27 : decode cX7_partOfFraction 27 = .ok (.ifCond .ne 6, 3) := by decide +kernel
theorem dX7_partOfFraction_30 : decode cX7_partOfFraction 30 = .ok (.iload 4, 2) := by decide +kernel
theorem dX7_partOfFraction_32 : decode cX7_partOfFraction 32 = .ok (.istore_n 3, 1) := by decide +kernel
theorem dX7_partOfFraction_33 : decode cX7_partOfFraction 33 = .ok (.iinc 4 (-1), 3) := by decide +kernel
theorem dX7_partOfFraction_36 : decode cX7_partOfFraction 36 = .ok (.goto (-31), 3) := by decide +kernel
theorem dX7_partOfFraction_39 : decode cX7_partOfFraction 39 = .ok (.iload_n 2, 1) := by decide +kernel
theorem dX7_partOfFraction_40 : decode cX7_partOfFraction 40 = .ok (.ifCond .ne 7, 3) := by decide +kernel
theorem dX7_partOfFraction_43 : decode cX7_partOfFraction 43 = .ok (.iload_n 0, 1) := by decide +kernel
theorem dX7_partOfFraction_44 : decode cX7_partOfFraction 44 = .ok (.goto 4, 3) := by decide +kernel
theorem dX7_partOfFraction_47 : decode cX7_partOfFraction 47 = .ok (.iload_n 1, 1) := by decide +kernel
theorem dX7_partOfFraction_48 : decode cX7_partOfFraction 48 = .ok (.iload_n 3, 1) := by decide +kernel
theorem dX7_partOfFraction_49 : decode cX7_partOfFraction 49 = .ok (.idiv, 1) := by decide +kernel
theorem dX7_partOfFraction_50 : decode cX7_partOfFraction 50 = .ok (.i2l, 1) := by decide +kernel
theorem dX7_partOfFraction_51 : decode cX7_partOfFraction 51 = .ok (.lreturn, 1) := by decide +kernel
theorem dX7_isOfKind_0 : decode cX7_isOfKind 0 = .ok (.iload_n 0, 1) := by decide +kernel
theorem dX7_isOfKind_1 : decode cX7_isOfKind 1 = .ok (.istore_n 2, 1) := by decide +kernel
theorem dX7_isOfKind_2 : decode cX7_isOfKind 2 = .ok (.iconst 0, 1) := by decide +kernel
theorem dX7_isOfKind_3 : decode cX7_isOfKind 3 = .ok (.istore_n 3, 1) := by decide +kernel
theorem dX7_isOfKind_4 : decode cX7_isOfKind 4 = .ok (.iload_n 3, 1) := by decide +kernel
theorem dX7_isOfKind_5 : decode cX7_isOfKind 5 = .ok (.bipush 6, 2) := by decide +kernel
theorem dX7_isOfKind_7 : decode cX7_isOfKind 7 = .ok (.if_icmp .ge 32, 3) := by decide +kernel
theorem dX7_isOfKind_10 : decode cX7_isOfKind 10 = .ok (.iload_n 2, 1) := by decide +kernel
theorem dX7_isOfKind_11 : decode cX7_isOfKind 11 = .ok (.ifCond .lt 28, 3) := by decide +kernel
theorem dX7_isOfKind_14 : decode cX7_isOfKind 14 = .ok (.iload_n 2, 1) := by decide +kernel
theorem dX7_isOfKind_15 : decode cX7_isOfKind 15 = .ok (.bipush 6, 2) := by decide +kernel
theorem dX7_isOfKind_17 : decode cX7_isOfKind 17 = .ok (.if_icmp .ge 22, 3) := by decide +kernel
theorem dX7_isOfKind_20 : decode cX7_isOfKind 20 = .ok (.iload_n 2, 1) := by decide +kernel
theorem dX7_isOfKind_21 : decode cX7_isOfKind 21 = .ok (.iload_n 1, 1) := by decide +kernel
theorem dX7_isOfKind_22 : decode cX7_isOfKind 22 = .ok (.if_icmp .ne 5, 3) := by decide +kernel
theorem dX7_isOfKind_25 : decode cX7_isOfKind 25 = .ok (.iconst 1, 1) := by decide +kernel
theorem dX7_isOfKind_26 : decode cX7_isOfKind 26 = .ok (.ireturn, 1) := by decide +kernel
theorem dX7_isOfKind_27 : decode cX7_isOfKind 27 = .ok (.getstatic 300, 3) := by decide +kernel
theorem dX7_isOfKind_30 : decode cX7_isOfKind 30 = .ok (.iload_n 2, 1) := by decide +kernel
theorem dX7_isOfKind_31 : decode cX7_isOfKind 31 = .ok (.iaload, 1) := by decide +kernel
theorem dX7_isOfKind_32 : decode cX7_isOfKind 32 = .ok (.istore_n 2, 1) := by decide +kernel
theorem dX7_isOfKind_33 : decode cX7_isOfKind 33 = .ok (.iinc 3 1, 3) := by decide +kernel
theorem dX7_isOfKind_36 : decode cX7_isOfKind 36 = .ok (.goto (-32), 3) := by decide +kernel
theorem dX7_isOfKind_39 : decode cX7_isOfKind 39 = .ok (.iconst 0, 1) := by decide +kernel
theorem dX7_isOfKind_40 : decode cX7_isOfKind 40 = .ok (.ireturn, 1) := by decide +kernel
theorem dX7_mostOf_0 : decode cX7_mostOf 0 = .ok (.iload_n 0, 1) := by decide +kernel
theorem dX7_mostOf_1 : decode cX7_mostOf 1 = .ok (.ifCond .ne 9, 3) := by decide +kernel
theorem dX7_mostOf_4 : decode cX7_mostOf 4 = .ok (.sipush 1023, 3) := by decide +kernel
theorem dX7_mostOf_7 : decode cX7_mostOf 7 = .ok (.goto 14, 3) := by decide +kernel
theorem dX7_mostOf_10 : decode cX7_mostOf 10 = .ok (.iload_n 0, 1) := by decide +kernel
theorem dX7_mostOf_11 : decode cX7_mostOf 11 = .ok (.iconst 4, 1) := by decide +kernel
theorem dX7_mostOf_12 : decode cX7_mostOf 12 = .ok (.if_icmp .ne 7, 3) := by decide +kernel
theorem dX7_mostOf_15 : decode cX7_mostOf 15 = .ok (.iconst 1, 1) := by decide +kernel
theorem dX7_mostOf_16 : decode cX7_mostOf 16 = .ok (.goto 5, 3) := by decide +kernel
theorem dX7_mostOf_19 : decode cX7_mostOf 19 = .ok (.bipush 99, 2) := by decide +kernel
theorem dX7_mostOf_21 : decode cX7_mostOf 21 = .ok (.ireturn, 1) := by decide +kernel
theorem dX7_holds_0 : decode cX7_holds 0 = .ok (.iload_n 0, 1) := by decide +kernel
theorem dX7_holds_1 : decode cX7_holds 1 = .ok (.iload_n 1, 1) := by decide +kernel
theorem dX7_holds_2 : decode cX7_holds 2 = .ok (.ishr, 1) := by decide +kernel
theorem dX7_holds_3 : decode cX7_holds 3 = .ok (.iconst 1, 1) := by decide +kernel
theorem dX7_holds_4 : decode cX7_holds 4 = .ok (.iand, 1) := by decide +kernel
theorem dX7_holds_5 : decode cX7_holds 5 = .ok (.iconst 1, 1) := by decide +kernel
theorem dX7_holds_6 : decode cX7_holds 6 = .ok (.if_icmp .ne 7, 3) := by decide +kernel
theorem dX7_holds_9 : decode cX7_holds 9 = .ok (.iconst 1, 1) := by decide +kernel
theorem dX7_holds_10 : decode cX7_holds 10 = .ok (.goto 4, 3) := by decide +kernel
theorem dX7_holds_13 : decode cX7_holds 13 = .ok (.iconst 0, 1) := by decide +kernel
theorem dX7_holds_14 : decode cX7_holds 14 = .ok (.ireturn, 1) := by decide +kernel
theorem dX7_isByte_0 : decode cX7_isByte 0 = .ok (.iload_n 0, 1) := by decide +kernel
theorem dX7_isByte_1 : decode cX7_isByte 1 = .ok (.ifCond .lt 14, 3) := by decide +kernel
theorem dX7_isByte_4 : decode cX7_isByte 4 = .ok (.iload_n 0, 1) := by decide +kernel
theorem dX7_isByte_5 : decode cX7_isByte 5 = .ok (.sipush 255, 3) := by decide +kernel
theorem dX7_isByte_8 : decode cX7_isByte 8 = .ok (.if_icmp .gt 7, 3) := by decide +kernel
theorem dX7_isByte_11 : decode cX7_isByte 11 = .ok (.iconst 1, 1) := by decide +kernel
theorem dX7_isByte_12 : decode cX7_isByte 12 = .ok (.goto 4, 3) := by decide +kernel
theorem dX7_isByte_15 : decode cX7_isByte 15 = .ok (.iconst 0, 1) := by decide +kernel
theorem dX7_isByte_16 : decode cX7_isByte 16 = .ok (.ireturn, 1) := by decide +kernel
theorem dX7_isChoice_0 : decode cX7_isChoice 0 = .ok (.iload_n 0, 1) := by decide +kernel
theorem dX7_isChoice_1 : decode cX7_isChoice 1 = .ok (.ifCond .eq 8, 3) := by decide +kernel
theorem dX7_isChoice_4 : decode cX7_isChoice 4 = .ok (.iload_n 0, 1) := by decide +kernel
theorem dX7_isChoice_5 : decode cX7_isChoice 5 = .ok (.iconst 1, 1) := by decide +kernel
theorem dX7_isChoice_6 : decode cX7_isChoice 6 = .ok (.if_icmp .ne 7, 3) := by decide +kernel
theorem dX7_isChoice_9 : decode cX7_isChoice 9 = .ok (.iconst 1, 1) := by decide +kernel
theorem dX7_isChoice_10 : decode cX7_isChoice 10 = .ok (.goto 4, 3) := by decide +kernel
theorem dX7_isChoice_13 : decode cX7_isChoice 13 = .ok (.iconst 0, 1) := by decide +kernel
theorem dX7_isChoice_14 : decode cX7_isChoice 14 = .ok (.ireturn, 1) := by decide +kernel
theorem dX7_isRun_0 : decode cX7_isRun 0 = .ok (.iload_n 0, 1) := by decide +kernel
theorem dX7_isRun_1 : decode cX7_isRun 1 = .ok (.ifCond .lt 13, 3) := by decide +kernel
theorem dX7_isRun_4 : decode cX7_isRun 4 = .ok (.iload_n 0, 1) := by decide +kernel
theorem dX7_isRun_5 : decode cX7_isRun 5 = .ok (.bipush 40, 2) := by decide +kernel
theorem dX7_isRun_7 : decode cX7_isRun 7 = .ok (.if_icmp .gt 7, 3) := by decide +kernel
theorem dX7_isRun_10 : decode cX7_isRun 10 = .ok (.iconst 1, 1) := by decide +kernel
theorem dX7_isRun_11 : decode cX7_isRun 11 = .ok (.goto 4, 3) := by decide +kernel
theorem dX7_isRun_14 : decode cX7_isRun 14 = .ok (.iconst 0, 1) := by decide +kernel
theorem dX7_isRun_15 : decode cX7_isRun 15 = .ok (.ireturn, 1) := by decide +kernel
theorem dX7_isSeed_0 : decode cX7_isSeed 0 = .ok (.iload_n 0, 1) := by decide +kernel
theorem dX7_isSeed_1 : decode cX7_isSeed 1 = .ok (.ifCond .lt 14, 3) := by decide +kernel
theorem dX7_isSeed_4 : decode cX7_isSeed 4 = .ok (.iload_n 0, 1) := by decide +kernel
theorem dX7_isSeed_5 : decode cX7_isSeed 5 = .ok (.ldc_w 303, 3) := by decide +kernel
theorem dX7_isSeed_8 : decode cX7_isSeed 8 = .ok (.if_icmp .ge 7, 3) := by decide +kernel
theorem dX7_isSeed_11 : decode cX7_isSeed 11 = .ok (.iconst 1, 1) := by decide +kernel
theorem dX7_isSeed_12 : decode cX7_isSeed 12 = .ok (.goto 4, 3) := by decide +kernel
theorem dX7_isSeed_15 : decode cX7_isSeed 15 = .ok (.iconst 0, 1) := by decide +kernel
theorem dX7_isSeed_16 : decode cX7_isSeed 16 = .ok (.ireturn, 1) := by decide +kernel
theorem dX7_isSheet_0 : decode cX7_isSheet 0 = .ok (.iload_n 0, 1) := by decide +kernel
theorem dX7_isSheet_1 : decode cX7_isSheet 1 = .ok (.ifCond .lt 12, 3) := by decide +kernel
theorem dX7_isSheet_4 : decode cX7_isSheet 4 = .ok (.iload_n 0, 1) := by decide +kernel
theorem dX7_isSheet_5 : decode cX7_isSheet 5 = .ok (.iconst 4, 1) := by decide +kernel
theorem dX7_isSheet_6 : decode cX7_isSheet 6 = .ok (.if_icmp .ge 7, 3) := by decide +kernel
theorem dX7_isSheet_9 : decode cX7_isSheet 9 = .ok (.iconst 1, 1) := by decide +kernel
theorem dX7_isSheet_10 : decode cX7_isSheet 10 = .ok (.goto 4, 3) := by decide +kernel
theorem dX7_isSheet_13 : decode cX7_isSheet 13 = .ok (.iconst 0, 1) := by decide +kernel
theorem dX7_isSheet_14 : decode cX7_isSheet 14 = .ok (.ireturn, 1) := by decide +kernel
