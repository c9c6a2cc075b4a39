theorem dX0_init_0 : decode cX0_init 0 = .ok (.aload_n 0, 1) := by decide +kernel
theorem dX0_init_1 : decode cX0_init 1 = .ok (.invokespecial 3, 3) := by decide +kernel
theorem dX0_init_4 : decode cX0_init 4 = .ok (.aload_n 0, 1) := by decide +kernel
theorem dX0_init_5 : decode cX0_init 5 = .ok (.iload_n 1, 1) := by decide +kernel
theorem dX0_init_6 : decode cX0_init 6 = .ok (.putfield 9, 3) := by decide +kernel
theorem dX0_init_9 : decode cX0_init 9 = .ok (.aload_n 0, 1) := by decide +kernel
theorem dX0_init_10 : decode cX0_init 10 = .ok (.iload_n 2, 1) := by decide +kernel
theorem dX0_init_11 : decode cX0_init 11 = .ok (.putfield 15, 3) := by decide +kernel
theorem dX0_init_14 : decode cX0_init 14 = .ok (.aload_n 0, 1) := by decide +kernel
theorem dX0_init_15 : decode cX0_init 15 = .ok (.iconst (-1), 1) := by decide +kernel
theorem dX0_init_16 : decode cX0_init 16 = .ok (.putfield 18, 3) := by decide +kernel
theorem dX0_init_19 : decode cX0_init 19 = .ok (.aload_n 0, 1) := by decide +kernel
theorem dX0_init_20 : decode cX0_init 20 = .ok (.bipush 24, 2) := by decide +kernel
theorem dX0_init_22 : decode cX0_init 22 = .ok (.newarray .int, 2) := by decide +kernel
theorem dX0_init_24 : decode cX0_init 24 = .ok (.putfield 21, 3) := by decide +kernel
theorem dX0_init_27 : decode cX0_init 27 = .ok (.iconst 0, 1) := by decide +kernel
theorem dX0_init_28 : decode cX0_init 28 = .ok (.istore_n 3, 1) := by decide +kernel
theorem dX0_init_29 : decode cX0_init 29 = .ok (.iload_n 3, 1) := by decide +kernel
theorem dX0_init_30 : decode cX0_init 30 = .ok (.aload_n 0, 1) := by decide +kernel
theorem dX0_init_31 : decode cX0_init 31 = .ok (.getfield 21, 3) := by decide +kernel
theorem dX0_init_34 : decode cX0_init 34 = .ok (.arraylength, 1) := by decide +kernel
theorem dX0_init_35 : decode cX0_init 35 = .ok (.if_icmp .ge 17, 3) := by decide +kernel
theorem dX0_init_38 : decode cX0_init 38 = .ok (.aload_n 0, 1) := by decide +kernel
theorem dX0_init_39 : decode cX0_init 39 = .ok (.getfield 21, 3) := by decide +kernel
theorem dX0_init_42 : decode cX0_init 42 = .ok (.iload_n 3, 1) := by decide +kernel
theorem dX0_init_43 : decode cX0_init 43 = .ok (.bipush (-2), 2) := by decide +kernel
theorem dX0_init_45 : decode cX0_init 45 = .ok (.iastore, 1) := by decide +kernel
theorem dX0_init_46 : decode cX0_init 46 = .ok (.iinc 3 1, 3) := by decide +kernel
theorem dX0_init_49 : decode cX0_init 49 = .ok (.goto (-20), 3) := by decide +kernel
theorem dX0_init_52 : decode cX0_init 52 = .ok (.return_, 1) := by decide +kernel
theorem dX1_init_0 : decode cX1_init 0 = .ok (.aload_n 0, 1) := by decide +kernel
theorem dX1_init_1 : decode cX1_init 1 = .ok (.invokespecial 3, 3) := by decide +kernel
theorem dX1_init_4 : decode cX1_init 4 = .ok (.aload_n 0, 1) := by decide +kernel
theorem dX1_init_5 : decode cX1_init 5 = .ok (.iconst 3, 1) := by decide +kernel
theorem dX1_init_6 : decode cX1_init 6 = .ok (.anewarray 9, 3) := by decide +kernel
theorem dX1_init_9 : decode cX1_init 9 = .ok (.putfield 11, 3) := by decide +kernel
theorem dX1_init_12 : decode cX1_init 12 = .ok (.iconst 0, 1) := by decide +kernel
theorem dX1_init_13 : decode cX1_init 13 = .ok (.istore_n 1, 1) := by decide +kernel
theorem dX1_init_14 : decode cX1_init 14 = .ok (.iload_n 1, 1) := by decide +kernel
theorem dX1_init_15 : decode cX1_init 15 = .ok (.aload_n 0, 1) := by decide +kernel
theorem dX1_init_16 : decode cX1_init 16 = .ok (.getfield 11, 3) := by decide +kernel
theorem dX1_init_19 : decode cX1_init 19 = .ok (.arraylength, 1) := by decide +kernel
theorem dX1_init_20 : decode cX1_init 20 = .ok (.if_icmp .ge 22, 3) := by decide +kernel
theorem dX1_init_23 : decode cX1_init 23 = .ok (.aload_n 0, 1) := by decide +kernel
theorem dX1_init_24 : decode cX1_init 24 = .ok (.getfield 11, 3) := by decide +kernel
theorem dX1_init_27 : decode cX1_init 27 = .ok (.iload_n 1, 1) := by decide +kernel
theorem dX1_init_28 : decode cX1_init 28 = .ok (.new 9, 3) := by decide +kernel
theorem dX1_init_31 : decode cX1_init 31 = .ok (.dup, 1) := by decide +kernel
theorem dX1_init_32 : decode cX1_init 32 = .ok (.invokespecial 17, 3) := by decide +kernel
theorem dX1_init_35 : decode cX1_init 35 = .ok (.aastore, 1) := by decide +kernel
theorem dX1_init_36 : decode cX1_init 36 = .ok (.iinc 1 1, 3) := by decide +kernel
theorem dX1_init_39 : decode cX1_init 39 = .ok (.goto (-25), 3) := by decide +kernel
theorem dX1_init_42 : decode cX1_init 42 = .ok (.aload_n 0, 1) := by decide +kernel
theorem dX1_init_43 : decode cX1_init 43 = .ok (.sipush 2197, 3) := by decide +kernel
theorem dX1_init_46 : decode cX1_init 46 = .ok (.newarray .boolean, 2) := by decide +kernel
theorem dX1_init_48 : decode cX1_init 48 = .ok (.putfield 18, 3) := by decide +kernel
theorem dX1_init_51 : decode cX1_init 51 = .ok (.return_, 1) := by decide +kernel
theorem dX5_init_0 : decode cX5_init 0 = .ok (.aload_n 0, 1) := by decide +kernel
theorem dX5_init_1 : decode cX5_init 1 = .ok (.invokespecial 3, 3) := by decide +kernel
theorem dX5_init_4 : decode cX5_init 4 = .ok (.aload_n 0, 1) := by decide +kernel
theorem dX5_init_5 : decode cX5_init 5 = .ok (.iload_n 1, 1) := by decide +kernel
theorem dX5_init_6 : decode cX5_init 6 = .ok (.putfield 9, 3) := by decide +kernel
theorem dX5_init_9 : decode cX5_init 9 = .ok (.aload_n 0, 1) := by decide +kernel
theorem dX5_init_10 : decode cX5_init 10 = .ok (.iload_n 2, 1) := by decide +kernel
theorem dX5_init_11 : decode cX5_init 11 = .ok (.putfield 15, 3) := by decide +kernel
theorem dX5_init_14 : decode cX5_init 14 = .ok (.aload_n 0, 1) := by decide +kernel
theorem dX5_init_15 : decode cX5_init 15 = .ok (.iconst 3, 1) := by decide +kernel
theorem dX5_init_16 : decode cX5_init 16 = .ok (.anewarray 18, 3) := by decide +kernel
theorem dX5_init_19 : decode cX5_init 19 = .ok (.putfield 20, 3) := by decide +kernel
theorem dX5_init_22 : decode cX5_init 22 = .ok (.return_, 1) := by decide +kernel
theorem dX6_init_0 : decode cX6_init 0 = .ok (.aload_n 0, 1) := by decide +kernel
theorem dX6_init_1 : decode cX6_init 1 = .ok (.invokespecial 3, 3) := by decide +kernel
theorem dX6_init_4 : decode cX6_init 4 = .ok (.aload_n 0, 1) := by decide +kernel
theorem dX6_init_5 : decode cX6_init 5 = .ok (.bipush 13, 2) := by decide +kernel
theorem dX6_init_7 : decode cX6_init 7 = .ok (.newarray .int, 2) := by decide +kernel
theorem dX6_init_9 : decode cX6_init 9 = .ok (.putfield 9, 3) := by decide +kernel
theorem dX6_init_12 : decode cX6_init 12 = .ok (.aload_n 0, 1) := by decide +kernel
theorem dX6_init_13 : decode cX6_init 13 = .ok (.bipush 13, 2) := by decide +kernel
theorem dX6_init_15 : decode cX6_init 15 = .ok (.newarray .int, 2) := by decide +kernel
theorem dX6_init_17 : decode cX6_init 17 = .ok (.putfield 15, 3) := by decide +kernel
theorem dX6_init_20 : decode cX6_init 20 = .ok (.aload_n 0, 1) := by decide +kernel
theorem dX6_init_21 : decode cX6_init 21 = .ok (.bipush 13, 2) := by decide +kernel
theorem dX6_init_23 : decode cX6_init 23 = .ok (.newarray .long, 2) := by decide +kernel
theorem dX6_init_25 : decode cX6_init 25 = .ok (.putfield 18, 3) := by decide +kernel
theorem dX6_init_28 : decode cX6_init 28 = .ok (.aload_n 0, 1) := by decide +kernel
theorem dX6_init_29 : decode cX6_init 29 = .ok (.bipush 13, 2) := by decide +kernel
theorem dX6_init_31 : decode cX6_init 31 = .ok (.newarray .long, 2) := by decide +kernel
theorem dX6_init_33 : decode cX6_init 33 = .ok (.putfield 22, 3) := by decide +kernel
theorem dX6_init_36 : decode cX6_init 36 = .ok (.return_, 1) := by decide +kernel
theorem dX7_init_0 : decode cX7_init 0 = .ok (.aload_n 0, 1) := by decide +kernel
theorem dX7_init_1 : decode cX7_init 1 = .ok (.invokespecial 3, 3) := by decide +kernel
theorem dX7_init_4 : decode cX7_init 4 = .ok (.aload_n 0, 1) := by decide +kernel
theorem dX7_init_5 : decode cX7_init 5 = .ok (.bipush 8, 2) := by decide +kernel
theorem dX7_init_7 : decode cX7_init 7 = .ok (.newarray .int, 2) := by decide +kernel
theorem dX7_init_9 : decode cX7_init 9 = .ok (.putfield 9, 3) := by decide +kernel
theorem dX7_init_12 : decode cX7_init 12 = .ok (.aload_n 0, 1) := by decide +kernel
theorem dX7_init_13 : decode cX7_init 13 = .ok (.bipush 24, 2) := by decide +kernel
theorem dX7_init_15 : decode cX7_init 15 = .ok (.anewarray 13, 3) := by decide +kernel
theorem dX7_init_18 : decode cX7_init 18 = .ok (.putfield 15, 3) := by decide +kernel
theorem dX7_init_21 : decode cX7_init 21 = .ok (.aload_n 0, 1) := by decide +kernel
theorem dX7_init_22 : decode cX7_init 22 = .ok (.iconst 4, 1) := by decide +kernel
theorem dX7_init_23 : decode cX7_init 23 = .ok (.anewarray 19, 3) := by decide +kernel
theorem dX7_init_26 : decode cX7_init 26 = .ok (.putfield 21, 3) := by decide +kernel
theorem dX7_init_29 : decode cX7_init 29 = .ok (.aload_n 0, 1) := by decide +kernel
theorem dX7_init_30 : decode cX7_init 30 = .ok (.bipush 12, 2) := by decide +kernel
theorem dX7_init_32 : decode cX7_init 32 = .ok (.anewarray 25, 3) := by decide +kernel
theorem dX7_init_35 : decode cX7_init 35 = .ok (.putfield 27, 3) := by decide +kernel
theorem dX7_init_38 : decode cX7_init 38 = .ok (.aload_n 0, 1) := by decide +kernel
theorem dX7_init_39 : decode cX7_init 39 = .ok (.bipush 40, 2) := by decide +kernel
theorem dX7_init_41 : decode cX7_init 41 = .ok (.anewarray 31, 3) := by decide +kernel
theorem dX7_init_44 : decode cX7_init 44 = .ok (.putfield 33, 3) := by decide +kernel
theorem dX7_init_47 : decode cX7_init 47 = .ok (.aload_n 0, 1) := by decide +kernel
theorem dX7_init_48 : decode cX7_init 48 = .ok (.new 37, 3) := by decide +kernel
theorem dX7_init_51 : decode cX7_init 51 = .ok (.dup, 1) := by decide +kernel
theorem dX7_init_52 : decode cX7_init 52 = .ok (.invokespecial 39, 3) := by decide +kernel
theorem dX7_init_55 : decode cX7_init 55 = .ok (.putfield 40, 3) := by decide +kernel
theorem dX7_init_58 : decode cX7_init 58 = .ok (.return_, 1) := by decide +kernel
theorem dX7_panel_0 : decode cX7_panel 0 = .ok (.aload_n 0, 1) := by decide +kernel
theorem dX7_panel_1 : decode cX7_panel 1 = .ok (.getfield 44, 3) := by decide +kernel
theorem dX7_panel_4 : decode cX7_panel 4 = .ok (.ifCond .le 21, 3) := by decide +kernel
theorem dX7_panel_25 : decode cX7_panel 25 = .ok (.aload_n 0, 1) := by decide +kernel
theorem dX7_panel_26 : decode cX7_panel 26 = .ok (.getfield 44, 3) := by decide +kernel
theorem dX7_panel_29 : decode cX7_panel 29 = .ok (.istore_n 2, 1) := by decide +kernel
theorem dX7_panel_30 : decode cX7_panel 30 = .ok (.iload_n 2, 1) := by decide +kernel
theorem dX7_panel_31 : decode cX7_panel 31 = .ok (.ifCond .lt 12, 3) := by decide +kernel
theorem dX7_panel_34 : decode cX7_panel 34 = .ok (.iload_n 2, 1) := by decide +kernel
theorem dX7_panel_35 : decode cX7_panel 35 = .ok (.aload_n 0, 1) := by decide +kernel
theorem dX7_panel_36 : decode cX7_panel 36 = .ok (.getfield 9, 3) := by decide +kernel
theorem dX7_panel_39 : decode cX7_panel 39 = .ok (.arraylength, 1) := by decide +kernel
theorem dX7_panel_40 : decode cX7_panel 40 = .ok (.if_icmp .lt 13, 3) := by decide +kernel
theorem dX7_panel_53 : decode cX7_panel 53 = .ok (.aload_n 0, 1) := by decide +kernel
theorem dX7_panel_54 : decode cX7_panel 54 = .ok (.getfield 9, 3) := by decide +kernel
theorem dX7_panel_57 : decode cX7_panel 57 = .ok (.iload_n 2, 1) := by decide +kernel
theorem dX7_panel_58 : decode cX7_panel 58 = .ok (.iload_n 2, 1) := by decide +kernel
theorem dX7_panel_59 : decode cX7_panel 59 = .ok (.ifCond .ne 7, 3) := by decide +kernel
theorem dX7_panel_62 : decode cX7_panel 62 = .ok (.iconst (-1), 1) := by decide +kernel
theorem dX7_panel_63 : decode cX7_panel 63 = .ok (.goto 4, 3) := by decide +kernel
theorem dX7_panel_67 : decode cX7_panel 67 = .ok (.iastore, 1) := by decide +kernel
theorem dX7_panel_68 : decode cX7_panel 68 = .ok (.aload_n 0, 1) := by decide +kernel
theorem dX7_panel_69 : decode cX7_panel 69 = .ok (.iload_n 2, 1) := by decide +kernel
theorem dX7_panel_70 : decode cX7_panel 70 = .ok (.iconst 1, 1) := by decide +kernel
theorem dX7_panel_71 : decode cX7_panel 71 = .ok (.iadd, 1) := by decide +kernel
theorem dX7_panel_72 : decode cX7_panel 72 = .ok (.putfield 44, 3) := by decide +kernel
theorem dX7_panel_75 : decode cX7_panel 75 = .ok (.iload_n 2, 1) := by decide +kernel
theorem dX7_panel_76 : decode cX7_panel 76 = .ok (.ireturn, 1) := by decide +kernel
theorem dX7_spot_0 : decode cX7_spot 0 = .ok (.aload_n 0, 1) := by decide +kernel
theorem dX7_spot_1 : decode cX7_spot 1 = .ok (.iload_n 1, 1) := by decide +kernel
theorem dX7_spot_2 : decode cX7_spot 2 = .ok (.invokevirtual 48, 3) := by decide +kernel
theorem dX7_spot_5 : decode cX7_spot 5 = .ok (.ifCond .eq 11, 3) := by decide +kernel
theorem dX7_spot_16 : decode cX7_spot 16 = .ok (.new 52, 3) := by decide +kernel
theorem dX7_spot_19 : decode cX7_spot 19 = .ok (.dup, 1) := by decide +kernel
theorem dX7_spot_20 : decode cX7_spot 20 = .ok (.ldc 54, 2) := by decide +kernel
theorem dX7_spot_22 : decode cX7_spot 22 = .ok (.invokespecial 56, 3) := by decide +kernel
theorem dX7_spot_25 : decode cX7_spot 25 = .ok (.athrow, 1) := by decide +kernel
theorem dX7_spots_0 : decode cX7_spots 0 = .ok (.iload_n 1, 1) := by decide +kernel
theorem dX7_spots_1 : decode cX7_spots 1 = .ok (.invokestatic 89, 3) := by decide +kernel
theorem dX7_spots_4 : decode cX7_spots 4 = .ok (.iconst 0, 1) := by decide +kernel
theorem dX7_spots_5 : decode cX7_spots 5 = .ok (.istore_n 2, 1) := by decide +kernel
theorem dX7_spots_6 : decode cX7_spots 6 = .ok (.aload_n 0, 1) := by decide +kernel
theorem dX7_spots_7 : decode cX7_spots 7 = .ok (.getfield 15, 3) := by decide +kernel
theorem dX7_spots_10 : decode cX7_spots 10 = .ok (.astore_n 3, 1) := by decide +kernel
theorem dX7_spots_11 : decode cX7_spots 11 = .ok (.aload_n 3, 1) := by decide +kernel
theorem dX7_spots_12 : decode cX7_spots 12 = .ok (.arraylength, 1) := by decide +kernel
theorem dX7_spots_13 : decode cX7_spots 13 = .ok (.istore 4, 2) := by decide +kernel
theorem dX7_spots_15 : decode cX7_spots 15 = .ok (.iconst 0, 1) := by decide +kernel
theorem dX7_spots_16 : decode cX7_spots 16 = .ok (.istore 5, 2) := by decide +kernel
theorem dX7_spots_18 : decode cX7_spots 18 = .ok (.iload 5, 2) := by decide +kernel
theorem dX7_spots_20 : decode cX7_spots 20 = .ok (.iload 4, 2) := by decide +kernel
theorem dX7_spots_22 : decode cX7_spots 22 = .ok (.if_icmp .ge 32, 3) := by decide +kernel
theorem dX7_spots_25 : decode cX7_spots 25 = .ok (.aload_n 3, 1) := by decide +kernel
theorem dX7_spots_26 : decode cX7_spots 26 = .ok (.iload 5, 2) := by decide +kernel
theorem dX7_spots_28 : decode cX7_spots 28 = .ok (.aaload, 1) := by decide +kernel
theorem dX7_spots_29 : decode cX7_spots 29 = .ok (.astore 6, 2) := by decide +kernel
theorem dX7_spots_31 : decode cX7_spots 31 = .ok (.aload 6, 2) := by decide +kernel
theorem dX7_spots_33 : decode cX7_spots 33 = .ok (.ifnull 15, 3) := by decide +kernel
theorem dX7_spots_48 : decode cX7_spots 48 = .ok (.iinc 5 1, 3) := by decide +kernel
theorem dX7_spots_51 : decode cX7_spots 51 = .ok (.goto (-33), 3) := by decide +kernel
theorem dX7_spots_54 : decode cX7_spots 54 = .ok (.iload_n 2, 1) := by decide +kernel
theorem dX7_spots_55 : decode cX7_spots 55 = .ok (.ireturn, 1) := by decide +kernel
theorem dX7_isHeld_0 : decode cX7_isHeld 0 = .ok (.iload_n 1, 1) := by decide +kernel
theorem dX7_isHeld_1 : decode cX7_isHeld 1 = .ok (.invokestatic 89, 3) := by decide +kernel
theorem dX7_isHeld_4 : decode cX7_isHeld 4 = .ok (.iconst 1, 1) := by decide +kernel
theorem dX7_isHeld_5 : decode cX7_isHeld 5 = .ok (.istore_n 2, 1) := by decide +kernel
theorem dX7_isHeld_6 : decode cX7_isHeld 6 = .ok (.iload_n 2, 1) := by decide +kernel
theorem dX7_isHeld_7 : decode cX7_isHeld 7 = .ok (.aload_n 0, 1) := by decide +kernel
theorem dX7_isHeld_8 : decode cX7_isHeld 8 = .ok (.getfield 44, 3) := by decide +kernel
theorem dX7_isHeld_11 : decode cX7_isHeld 11 = .ok (.if_icmp .ge 20, 3) := by decide +kernel
theorem dX7_isHeld_31 : decode cX7_isHeld 31 = .ok (.iconst 1, 1) := by decide +kernel
theorem dX7_isHeld_32 : decode cX7_isHeld 32 = .ok (.ireturn, 1) := by decide +kernel
theorem dX7_isPanel_0 : decode cX7_isPanel 0 = .ok (.iload_n 1, 1) := by decide +kernel
theorem dX7_isPanel_1 : decode cX7_isPanel 1 = .ok (.ifCond .lt 24, 3) := by decide +kernel
theorem dX7_isPanel_4 : decode cX7_isPanel 4 = .ok (.iload_n 1, 1) := by decide +kernel
theorem dX7_isPanel_5 : decode cX7_isPanel 5 = .ok (.aload_n 0, 1) := by decide +kernel
theorem dX7_isPanel_6 : decode cX7_isPanel 6 = .ok (.getfield 44, 3) := by decide +kernel
theorem dX7_isPanel_9 : decode cX7_isPanel 9 = .ok (.if_icmp .ge 16, 3) := by decide +kernel
theorem dX7_isPanel_25 : decode cX7_isPanel 25 = .ok (.iconst 0, 1) := by decide +kernel
theorem dX7_isPanel_26 : decode cX7_isPanel 26 = .ok (.ireturn, 1) := by decide +kernel
theorem dX7_station_0 : decode cX7_station 0 = .ok (.aload_n 0, 1) := by decide +kernel
theorem dX7_station_1 : decode cX7_station 1 = .ok (.getfield 107, 3) := by decide +kernel
theorem dX7_station_4 : decode cX7_station 4 = .ok (.istore_n 1, 1) := by decide +kernel
theorem dX7_station_5 : decode cX7_station 5 = .ok (.iload_n 1, 1) := by decide +kernel
theorem dX7_station_6 : decode cX7_station 6 = .ok (.ifCond .lt 12, 3) := by decide +kernel
theorem dX7_station_9 : decode cX7_station 9 = .ok (.iload_n 1, 1) := by decide +kernel
theorem dX7_station_10 : decode cX7_station 10 = .ok (.aload_n 0, 1) := by decide +kernel
theorem dX7_station_11 : decode cX7_station 11 = .ok (.getfield 21, 3) := by decide +kernel
theorem dX7_station_14 : decode cX7_station 14 = .ok (.arraylength, 1) := by decide +kernel
theorem dX7_station_15 : decode cX7_station 15 = .ok (.if_icmp .lt 13, 3) := by decide +kernel
theorem dX7_station_28 : decode cX7_station 28 = .ok (.aload_n 0, 1) := by decide +kernel
theorem dX7_station_29 : decode cX7_station 29 = .ok (.getfield 21, 3) := by decide +kernel
theorem dX7_station_32 : decode cX7_station 32 = .ok (.iload_n 1, 1) := by decide +kernel
theorem dX7_station_33 : decode cX7_station 33 = .ok (.new 19, 3) := by decide +kernel
theorem dX7_station_36 : decode cX7_station 36 = .ok (.dup, 1) := by decide +kernel
theorem dX7_station_37 : decode cX7_station 37 = .ok (.iload_n 1, 1) := by decide +kernel
theorem dX7_station_38 : decode cX7_station 38 = .ok (.aload_n 0, 1) := by decide +kernel
theorem dX7_station_39 : decode cX7_station 39 = .ok (.getfield 112, 3) := by decide +kernel
theorem dX7_station_42 : decode cX7_station 42 = .ok (.invokespecial 115, 3) := by decide +kernel
theorem dX7_station_45 : decode cX7_station 45 = .ok (.aastore, 1) := by decide +kernel
theorem dX7_station_46 : decode cX7_station 46 = .ok (.aload_n 0, 1) := by decide +kernel
theorem dX7_station_47 : decode cX7_station 47 = .ok (.iload_n 1, 1) := by decide +kernel
theorem dX7_station_48 : decode cX7_station 48 = .ok (.iconst 1, 1) := by decide +kernel
theorem dX7_station_49 : decode cX7_station 49 = .ok (.iadd, 1) := by decide +kernel
theorem dX7_station_50 : decode cX7_station 50 = .ok (.putfield 107, 3) := by decide +kernel
theorem dX7_station_53 : decode cX7_station 53 = .ok (.iload_n 1, 1) := by decide +kernel
theorem dX7_station_54 : decode cX7_station 54 = .ok (.ireturn, 1) := by decide +kernel
theorem dX7_robot_0 : decode cX7_robot 0 = .ok (.aload_n 0, 1) := by decide +kernel
theorem dX7_robot_1 : decode cX7_robot 1 = .ok (.iload_n 1, 1) := by decide +kernel
theorem dX7_robot_2 : decode cX7_robot 2 = .ok (.invokevirtual 118, 3) := by decide +kernel
theorem dX7_reaches_0 : decode cX7_reaches 0 = .ok (.aload_n 0, 1) := by decide +kernel
theorem dX7_reaches_1 : decode cX7_reaches 1 = .ok (.iload_n 1, 1) := by decide +kernel
theorem dX7_reaches_2 : decode cX7_reaches 2 = .ok (.invokevirtual 143, 3) := by decide +kernel
theorem dX7_swept_0 : decode cX7_swept 0 = .ok (.iload_n 1, 1) := by decide +kernel
theorem dX7_swept_1 : decode cX7_swept 1 = .ok (.invokestatic 147, 3) := by decide +kernel
theorem dX7_swept_4 : decode cX7_swept 4 = .ok (.iload_n 2, 1) := by decide +kernel
theorem dX7_swept_5 : decode cX7_swept 5 = .ok (.invokestatic 147, 3) := by decide +kernel
theorem dX7_swept_8 : decode cX7_swept 8 = .ok (.iload_n 1, 1) := by decide +kernel
theorem dX7_swept_9 : decode cX7_swept 9 = .ok (.invokestatic 153, 3) := by decide +kernel
theorem dX7_swept_12 : decode cX7_swept 12 = .ok (.iload_n 2, 1) := by decide +kernel
theorem dX7_swept_13 : decode cX7_swept 13 = .ok (.invokestatic 153, 3) := by decide +kernel
theorem dX7_swept_16 : decode cX7_swept 16 = .ok (.invokestatic 157, 3) := by decide +kernel
theorem dX7_swept_19 : decode cX7_swept 19 = .ok (.iload_n 1, 1) := by decide +kernel
theorem dX7_swept_20 : decode cX7_swept 20 = .ok (.invokestatic 160, 3) := by decide +kernel
theorem dX7_swept_23 : decode cX7_swept 23 = .ok (.iload_n 2, 1) := by decide +kernel
theorem dX7_swept_24 : decode cX7_swept 24 = .ok (.invokestatic 160, 3) := by decide +kernel
theorem dX7_swept_27 : decode cX7_swept 27 = .ok (.invokestatic 157, 3) := by decide +kernel
theorem dX7_swept_30 : decode cX7_swept 30 = .ok (.iadd, 1) := by decide +kernel
theorem dX7_swept_31 : decode cX7_swept 31 = .ok (.iconst 1, 1) := by decide +kernel
theorem dX7_swept_32 : decode cX7_swept 32 = .ok (.iadd, 1) := by decide +kernel
theorem dX7_swept_33 : decode cX7_swept 33 = .ok (.ireturn, 1) := by decide +kernel
theorem dX7_current_0 : decode cX7_current 0 = .ok (.aload_n 0, 1) := by decide +kernel
theorem dX7_current_1 : decode cX7_current 1 = .ok (.iload_n 1, 1) := by decide +kernel
theorem dX7_current_2 : decode cX7_current 2 = .ok (.invokevirtual 143, 3) := by decide +kernel
theorem dX7_isPlace_0 : decode cX7_isPlace 0 = .ok (.iload_n 0, 1) := by decide +kernel
theorem dX7_isPlace_1 : decode cX7_isPlace 1 = .ok (.ifCond .lt 25, 3) := by decide +kernel
theorem dX7_isPlace_4 : decode cX7_isPlace 4 = .ok (.iload_n 0, 1) := by decide +kernel
theorem dX7_isPlace_5 : decode cX7_isPlace 5 = .ok (.invokestatic 153, 3) := by decide +kernel
theorem dX7_isPlace_8 : decode cX7_isPlace 8 = .ok (.bipush 12, 2) := by decide +kernel
theorem dX7_isPlace_10 : decode cX7_isPlace 10 = .ok (.if_icmp .ge 16, 3) := by decide +kernel
theorem dX7_isPlace_13 : decode cX7_isPlace 13 = .ok (.iload_n 0, 1) := by decide +kernel
theorem dX7_isPlace_14 : decode cX7_isPlace 14 = .ok (.invokestatic 160, 3) := by decide +kernel
theorem dX7_isPlace_17 : decode cX7_isPlace 17 = .ok (.bipush 8, 2) := by decide +kernel
theorem dX7_isPlace_19 : decode cX7_isPlace 19 = .ok (.if_icmp .ge 7, 3) := by decide +kernel
theorem dX7_isPlace_22 : decode cX7_isPlace 22 = .ok (.iconst 1, 1) := by decide +kernel
theorem dX7_isPlace_23 : decode cX7_isPlace 23 = .ok (.goto 4, 3) := by decide +kernel
theorem dX7_isPlace_26 : decode cX7_isPlace 26 = .ok (.iconst 0, 1) := by decide +kernel
theorem dX7_isPlace_27 : decode cX7_isPlace 27 = .ok (.ireturn, 1) := by decide +kernel
theorem dX7_requirePlace_0 : decode cX7_requirePlace 0 = .ok (.iload_n 0, 1) := by decide +kernel
theorem dX7_requirePlace_1 : decode cX7_requirePlace 1 = .ok (.invokestatic 64, 3) := by decide +kernel
theorem dX7_requirePlace_4 : decode cX7_requirePlace 4 = .ok (.ifCond .ne 13, 3) := by decide +kernel
theorem dX7_requirePlace_7 : decode cX7_requirePlace 7 = .ok (.new 67, 3) := by decide +kernel
theorem dX7_requirePlace_10 : decode cX7_requirePlace 10 = .ok (.dup, 1) := by decide +kernel
theorem dX7_requirePlace_11 : decode cX7_requirePlace 11 = .ok (.ldc 168, 2) := by decide +kernel
theorem dX7_requirePlace_13 : decode cX7_requirePlace 13 = .ok (.invokespecial 71, 3) := by decide +kernel
theorem dX7_requirePlace_16 : decode cX7_requirePlace 16 = .ok (.athrow, 1) := by decide +kernel
theorem dX7_requirePlace_17 : decode cX7_requirePlace 17 = .ok (.return_, 1) := by decide +kernel
theorem dX7_xOf_0 : decode cX7_xOf 0 = .ok (.iload_n 0, 1) := by decide +kernel
theorem dX7_xOf_1 : decode cX7_xOf 1 = .ok (.bipush 10, 2) := by decide +kernel
theorem dX7_xOf_3 : decode cX7_xOf 3 = .ok (.idiv, 1) := by decide +kernel
theorem dX7_xOf_4 : decode cX7_xOf 4 = .ok (.ireturn, 1) := by decide +kernel
theorem dX7_yOf_0 : decode cX7_yOf 0 = .ok (.iload_n 0, 1) := by decide +kernel
theorem dX7_yOf_1 : decode cX7_yOf 1 = .ok (.bipush 10, 2) := by decide +kernel
theorem dX7_yOf_3 : decode cX7_yOf 3 = .ok (.irem, 1) := by decide +kernel
theorem dX7_yOf_4 : decode cX7_yOf 4 = .ok (.ireturn, 1) := by decide +kernel
theorem dX7_distance_0 : decode cX7_distance 0 = .ok (.iload_n 0, 1) := by decide +kernel
theorem dX7_distance_1 : decode cX7_distance 1 = .ok (.iload_n 1, 1) := by decide +kernel
theorem dX7_distance_2 : decode cX7_distance 2 = .ok (.if_icmp .ge 9, 3) := by decide +kernel
theorem dX7_distance_5 : decode cX7_distance 5 = .ok (.iload_n 1, 1) := by decide +kernel
theorem dX7_distance_6 : decode cX7_distance 6 = .ok (.iload_n 0, 1) := by decide +kernel
theorem dX7_distance_7 : decode cX7_distance 7 = .ok (.isub, 1) := by decide +kernel
theorem dX7_distance_8 : decode cX7_distance 8 = .ok (.goto 6, 3) := by decide +kernel
theorem dX7_distance_11 : decode cX7_distance 11 = .ok (.iload_n 0, 1) := by decide +kernel
theorem dX7_distance_12 : decode cX7_distance 12 = .ok (.iload_n 1, 1) := by decide +kernel
theorem dX7_distance_13 : decode cX7_distance 13 = .ok (.isub, 1) := by decide +kernel
theorem dX7_distance_14 : decode cX7_distance 14 = .ok (.ireturn, 1) := by decide +kernel
theorem dX7_requireVariant_0 : decode cX7_requireVariant 0 = .ok (.iload_n 0, 1) := by decide +kernel
theorem dX7_requireVariant_1 : decode cX7_requireVariant 1 = .ok (.ifCond .lt 8, 3) := by decide +kernel
theorem dX7_requireVariant_4 : decode cX7_requireVariant 4 = .ok (.iload_n 0, 1) := by decide +kernel
theorem dX7_requireVariant_5 : decode cX7_requireVariant 5 = .ok (.iconst 4, 1) := by decide +kernel
theorem dX7_requireVariant_6 : decode cX7_requireVariant 6 = .ok (.if_icmp .lt 13, 3) := by decide +kernel
theorem dX7_requireVariant_9 : decode cX7_requireVariant 9 = .ok (.new 52, 3) := by decide +kernel
theorem dX7_requireVariant_12 : decode cX7_requireVariant 12 = .ok (.dup, 1) := by decide +kernel
theorem dX7_requireVariant_13 : decode cX7_requireVariant 13 = .ok (.ldc 170, 2) := by decide +kernel
theorem dX7_requireVariant_15 : decode cX7_requireVariant 15 = .ok (.invokespecial 56, 3) := by decide +kernel
theorem dX7_requireVariant_18 : decode cX7_requireVariant 18 = .ok (.athrow, 1) := by decide +kernel
theorem dX7_requireVariant_19 : decode cX7_requireVariant 19 = .ok (.return_, 1) := by decide +kernel
theorem dX7_robotAt_0 : decode cX7_robotAt 0 = .ok (.iload_n 1, 1) := by decide +kernel
theorem dX7_robotAt_1 : decode cX7_robotAt 1 = .ok (.ifCond .lt 21, 3) := by decide +kernel
theorem dX7_robotAt_4 : decode cX7_robotAt 4 = .ok (.iload_n 1, 1) := by decide +kernel
theorem dX7_robotAt_5 : decode cX7_robotAt 5 = .ok (.aload_n 0, 1) := by decide +kernel
theorem dX7_robotAt_6 : decode cX7_robotAt 6 = .ok (.getfield 27, 3) := by decide +kernel
theorem dX7_robotAt_9 : decode cX7_robotAt 9 = .ok (.arraylength, 1) := by decide +kernel
theorem dX7_robotAt_10 : decode cX7_robotAt 10 = .ok (.if_icmp .ge 12, 3) := by decide +kernel
theorem dX7_robotAt_13 : decode cX7_robotAt 13 = .ok (.aload_n 0, 1) := by decide +kernel
theorem dX7_robotAt_14 : decode cX7_robotAt 14 = .ok (.getfield 27, 3) := by decide +kernel
theorem dX7_robotAt_17 : decode cX7_robotAt 17 = .ok (.iload_n 1, 1) := by decide +kernel
theorem dX7_robotAt_18 : decode cX7_robotAt 18 = .ok (.aaload, 1) := by decide +kernel
theorem dX7_robotAt_19 : decode cX7_robotAt 19 = .ok (.goto 4, 3) := by decide +kernel
theorem dX7_robotAt_22 : decode cX7_robotAt 22 = .ok (.aconst_null, 1) := by decide +kernel
theorem dX7_robotAt_23 : decode cX7_robotAt 23 = .ok (.areturn, 1) := by decide +kernel
theorem dX7_stationAt_0 : decode cX7_stationAt 0 = .ok (.iload_n 1, 1) := by decide +kernel
theorem dX7_stationAt_1 : decode cX7_stationAt 1 = .ok (.ifCond .lt 21, 3) := by decide +kernel
theorem dX7_stationAt_4 : decode cX7_stationAt 4 = .ok (.iload_n 1, 1) := by decide +kernel
theorem dX7_stationAt_5 : decode cX7_stationAt 5 = .ok (.aload_n 0, 1) := by decide +kernel
theorem dX7_stationAt_6 : decode cX7_stationAt 6 = .ok (.getfield 21, 3) := by decide +kernel
theorem dX7_stationAt_9 : decode cX7_stationAt 9 = .ok (.arraylength, 1) := by decide +kernel
theorem dX7_stationAt_10 : decode cX7_stationAt 10 = .ok (.if_icmp .ge 12, 3) := by decide +kernel
theorem dX7_stationAt_13 : decode cX7_stationAt 13 = .ok (.aload_n 0, 1) := by decide +kernel
theorem dX7_stationAt_14 : decode cX7_stationAt 14 = .ok (.getfield 21, 3) := by decide +kernel
theorem dX7_stationAt_17 : decode cX7_stationAt 17 = .ok (.iload_n 1, 1) := by decide +kernel
theorem dX7_stationAt_18 : decode cX7_stationAt 18 = .ok (.aaload, 1) := by decide +kernel
theorem dX7_stationAt_19 : decode cX7_stationAt 19 = .ok (.goto 4, 3) := by decide +kernel
theorem dX7_stationAt_22 : decode cX7_stationAt 22 = .ok (.aconst_null, 1) := by decide +kernel
theorem dX7_stationAt_23 : decode cX7_stationAt 23 = .ok (.areturn, 1) := by decide +kernel
theorem dX7_bodyAt_0 : decode cX7_bodyAt 0 = .ok (.iload_n 1, 1) := by decide +kernel
theorem dX7_bodyAt_1 : decode cX7_bodyAt 1 = .ok (.ifCond .lt 21, 3) := by decide +kernel
theorem dX7_bodyAt_4 : decode cX7_bodyAt 4 = .ok (.iload_n 1, 1) := by decide +kernel
theorem dX7_bodyAt_5 : decode cX7_bodyAt 5 = .ok (.aload_n 0, 1) := by decide +kernel
theorem dX7_bodyAt_6 : decode cX7_bodyAt 6 = .ok (.getfield 33, 3) := by decide +kernel
theorem dX7_bodyAt_9 : decode cX7_bodyAt 9 = .ok (.arraylength, 1) := by decide +kernel
theorem dX7_bodyAt_10 : decode cX7_bodyAt 10 = .ok (.if_icmp .ge 12, 3) := by decide +kernel
theorem dX7_bodyAt_13 : decode cX7_bodyAt 13 = .ok (.aload_n 0, 1) := by decide +kernel
theorem dX7_bodyAt_14 : decode cX7_bodyAt 14 = .ok (.getfield 33, 3) := by decide +kernel
theorem dX7_bodyAt_17 : decode cX7_bodyAt 17 = .ok (.iload_n 1, 1) := by decide +kernel
theorem dX7_bodyAt_18 : decode cX7_bodyAt 18 = .ok (.aaload, 1) := by decide +kernel
theorem dX7_bodyAt_19 : decode cX7_bodyAt 19 = .ok (.goto 4, 3) := by decide +kernel
theorem dX7_bodyAt_22 : decode cX7_bodyAt 22 = .ok (.aconst_null, 1) := by decide +kernel
theorem dX7_bodyAt_23 : decode cX7_bodyAt 23 = .ok (.areturn, 1) := by decide +kernel
theorem dX7_requireRobot_0 : decode cX7_requireRobot 0 = .ok (.aload_n 0, 1) := by decide +kernel
theorem dX7_requireRobot_1 : decode cX7_requireRobot 1 = .ok (.iload_n 1, 1) := by decide +kernel
theorem dX7_requireRobot_2 : decode cX7_requireRobot 2 = .ok (.invokevirtual 178, 3) := by decide +kernel
theorem dX7_requireRobot_5 : decode cX7_requireRobot 5 = .ok (.astore_n 2, 1) := by decide +kernel
theorem dX7_requireRobot_6 : decode cX7_requireRobot 6 = .ok (.aload_n 2, 1) := by decide +kernel
theorem dX7_requireRobot_7 : decode cX7_requireRobot 7 = .ok (.ifnonnull 13, 3) := by decide +kernel
theorem dX7_requireRobot_10 : decode cX7_requireRobot 10 = .ok (.new 52, 3) := by decide +kernel
theorem dX7_requireRobot_13 : decode cX7_requireRobot 13 = .ok (.dup, 1) := by decide +kernel
theorem dX7_requireRobot_14 : decode cX7_requireRobot 14 = .ok (.ldc 181, 2) := by decide +kernel
theorem dX7_requireRobot_16 : decode cX7_requireRobot 16 = .ok (.invokespecial 56, 3) := by decide +kernel
theorem dX7_requireRobot_19 : decode cX7_requireRobot 19 = .ok (.athrow, 1) := by decide +kernel
theorem dX7_requireStation_0 : decode cX7_requireStation 0 = .ok (.aload_n 0, 1) := by decide +kernel
theorem dX7_requireStation_1 : decode cX7_requireStation 1 = .ok (.iload_n 1, 1) := by decide +kernel
theorem dX7_requireStation_2 : decode cX7_requireStation 2 = .ok (.invokevirtual 183, 3) := by decide +kernel
theorem dX7_requireStation_5 : decode cX7_requireStation 5 = .ok (.astore_n 2, 1) := by decide +kernel
theorem dX7_requireStation_6 : decode cX7_requireStation 6 = .ok (.aload_n 2, 1) := by decide +kernel
theorem dX7_requireStation_7 : decode cX7_requireStation 7 = .ok (.ifnonnull 13, 3) := by decide +kernel
theorem dX7_requireStation_10 : decode cX7_requireStation 10 = .ok (.new 52, 3) := by decide +kernel
theorem dX7_requireStation_13 : decode cX7_requireStation 13 = .ok (.dup, 1) := by decide +kernel
theorem dX7_requireStation_14 : decode cX7_requireStation 14 = .ok (.ldc 186, 2) := by decide +kernel
theorem dX7_requireStation_16 : decode cX7_requireStation 16 = .ok (.invokespecial 56, 3) := by decide +kernel
theorem dX7_requireStation_19 : decode cX7_requireStation 19 = .ok (.athrow, 1) := by decide +kernel
theorem dX7_requireBody_0 : decode cX7_requireBody 0 = .ok (.aload_n 0, 1) := by decide +kernel
theorem dX7_requireBody_1 : decode cX7_requireBody 1 = .ok (.iload_n 1, 1) := by decide +kernel
theorem dX7_requireBody_2 : decode cX7_requireBody 2 = .ok (.invokevirtual 188, 3) := by decide +kernel
theorem dX7_requireBody_5 : decode cX7_requireBody 5 = .ok (.astore_n 2, 1) := by decide +kernel
theorem dX7_requireBody_6 : decode cX7_requireBody 6 = .ok (.aload_n 2, 1) := by decide +kernel
theorem dX7_requireBody_7 : decode cX7_requireBody 7 = .ok (.ifnonnull 13, 3) := by decide +kernel
theorem dX7_requireBody_10 : decode cX7_requireBody 10 = .ok (.new 52, 3) := by decide +kernel
theorem dX7_requireBody_13 : decode cX7_requireBody 13 = .ok (.dup, 1) := by decide +kernel
theorem dX7_requireBody_14 : decode cX7_requireBody 14 = .ok (.ldc 192, 2) := by decide +kernel
theorem dX7_requireBody_16 : decode cX7_requireBody 16 = .ok (.invokespecial 56, 3) := by decide +kernel
theorem dX7_requireBody_19 : decode cX7_requireBody 19 = .ok (.athrow, 1) := by decide +kernel
theorem dX7_step_0 : decode cX7_step 0 = .ok (.aload_n 0, 1) := by decide +kernel
theorem dX7_step_1 : decode cX7_step 1 = .ok (.iload_n 1, 1) := by decide +kernel
theorem dX7_step_2 : decode cX7_step 2 = .ok (.iload_n 2, 1) := by decide +kernel
theorem dX7_step_3 : decode cX7_step 3 = .ok (.invokevirtual 194, 3) := by decide +kernel
theorem dX7_erase_0 : decode cX7_erase 0 = .ok (.aload_n 0, 1) := by decide +kernel
theorem dX7_erase_1 : decode cX7_erase 1 = .ok (.iload_n 1, 1) := by decide +kernel
theorem dX7_erase_2 : decode cX7_erase 2 = .ok (.iload_n 2, 1) := by decide +kernel
theorem dX7_erase_3 : decode cX7_erase 3 = .ok (.invokevirtual 194, 3) := by decide +kernel
theorem dX7_steps_0 : decode cX7_steps 0 = .ok (.aload_n 0, 1) := by decide +kernel
theorem dX7_steps_1 : decode cX7_steps 1 = .ok (.iload_n 1, 1) := by decide +kernel
theorem dX7_steps_2 : decode cX7_steps 2 = .ok (.iload_n 2, 1) := by decide +kernel
theorem dX7_steps_3 : decode cX7_steps 3 = .ok (.invokevirtual 194, 3) := by decide +kernel
theorem dX7_welds_0 : decode cX7_welds 0 = .ok (.aload_n 0, 1) := by decide +kernel
theorem dX7_welds_1 : decode cX7_welds 1 = .ok (.iload_n 1, 1) := by decide +kernel
theorem dX7_welds_2 : decode cX7_welds 2 = .ok (.iload_n 2, 1) := by decide +kernel
theorem dX7_welds_3 : decode cX7_welds 3 = .ok (.invokevirtual 194, 3) := by decide +kernel
theorem dX7_proof_0 : decode cX7_proof 0 = .ok (.aload_n 0, 1) := by decide +kernel
theorem dX7_proof_1 : decode cX7_proof 1 = .ok (.iload_n 1, 1) := by decide +kernel
theorem dX7_proof_2 : decode cX7_proof 2 = .ok (.iload_n 2, 1) := by decide +kernel
theorem dX7_proof_3 : decode cX7_proof 3 = .ok (.invokevirtual 224, 3) := by decide +kernel
theorem dX7_states_0 : decode cX7_states 0 = .ok (.aload_n 0, 1) := by decide +kernel
theorem dX7_states_1 : decode cX7_states 1 = .ok (.iload_n 1, 1) := by decide +kernel
theorem dX7_states_2 : decode cX7_states 2 = .ok (.iload_n 2, 1) := by decide +kernel
theorem dX7_states_3 : decode cX7_states 3 = .ok (.invokevirtual 224, 3) := by decide +kernel
theorem dX7_uncovered_0 : decode cX7_uncovered 0 = .ok (.iload_n 1, 1) := by decide +kernel
theorem dX7_uncovered_1 : decode cX7_uncovered 1 = .ok (.invokestatic 89, 3) := by decide +kernel
theorem dX7_uncovered_4 : decode cX7_uncovered 4 = .ok (.iconst 0, 1) := by decide +kernel
theorem dX7_uncovered_5 : decode cX7_uncovered 5 = .ok (.istore_n 2, 1) := by decide +kernel
theorem dX7_uncovered_6 : decode cX7_uncovered 6 = .ok (.aload_n 0, 1) := by decide +kernel
theorem dX7_uncovered_7 : decode cX7_uncovered 7 = .ok (.getfield 15, 3) := by decide +kernel
theorem dX7_uncovered_10 : decode cX7_uncovered 10 = .ok (.astore_n 3, 1) := by decide +kernel
theorem dX7_uncovered_11 : decode cX7_uncovered 11 = .ok (.aload_n 3, 1) := by decide +kernel
theorem dX7_uncovered_12 : decode cX7_uncovered 12 = .ok (.arraylength, 1) := by decide +kernel
theorem dX7_uncovered_13 : decode cX7_uncovered 13 = .ok (.istore 4, 2) := by decide +kernel
theorem dX7_uncovered_15 : decode cX7_uncovered 15 = .ok (.iconst 0, 1) := by decide +kernel
theorem dX7_uncovered_16 : decode cX7_uncovered 16 = .ok (.istore 5, 2) := by decide +kernel
theorem dX7_uncovered_18 : decode cX7_uncovered 18 = .ok (.iload 5, 2) := by decide +kernel
theorem dX7_uncovered_20 : decode cX7_uncovered 20 = .ok (.iload 4, 2) := by decide +kernel
theorem dX7_uncovered_22 : decode cX7_uncovered 22 = .ok (.if_icmp .ge 28, 3) := by decide +kernel
theorem dX7_uncovered_25 : decode cX7_uncovered 25 = .ok (.aload_n 3, 1) := by decide +kernel
theorem dX7_uncovered_26 : decode cX7_uncovered 26 = .ok (.iload 5, 2) := by decide +kernel
theorem dX7_uncovered_28 : decode cX7_uncovered 28 = .ok (.aaload, 1) := by decide +kernel
theorem dX7_uncovered_29 : decode cX7_uncovered 29 = .ok (.astore 6, 2) := by decide +kernel
theorem dX7_uncovered_31 : decode cX7_uncovered 31 = .ok (.aload_n 0, 1) := by decide +kernel
theorem dX7_uncovered_32 : decode cX7_uncovered 32 = .ok (.aload 6, 2) := by decide +kernel
theorem dX7_uncovered_34 : decode cX7_uncovered 34 = .ok (.iload_n 1, 1) := by decide +kernel
theorem dX7_uncovered_35 : decode cX7_uncovered 35 = .ok (.invokevirtual 239, 3) := by decide +kernel
theorem dX7_uncovered_38 : decode cX7_uncovered 38 = .ok (.ifCond .eq 6, 3) := by decide +kernel
theorem dX7_uncovered_44 : decode cX7_uncovered 44 = .ok (.iinc 5 1, 3) := by decide +kernel
theorem dX7_uncovered_47 : decode cX7_uncovered 47 = .ok (.goto (-29), 3) := by decide +kernel
theorem dX7_uncovered_50 : decode cX7_uncovered 50 = .ok (.iload_n 2, 1) := by decide +kernel
theorem dX7_uncovered_51 : decode cX7_uncovered 51 = .ok (.ireturn, 1) := by decide +kernel
theorem dX7_deal_0 : decode cX7_deal 0 = .ok (.iload_n 1, 1) := by decide +kernel
theorem dX7_deal_1 : decode cX7_deal 1 = .ok (.invokestatic 89, 3) := by decide +kernel
theorem dX7_deal_4 : decode cX7_deal 4 = .ok (.iconst 0, 1) := by decide +kernel
theorem dX7_deal_5 : decode cX7_deal 5 = .ok (.istore_n 2, 1) := by decide +kernel
theorem dX7_deal_6 : decode cX7_deal 6 = .ok (.aload_n 0, 1) := by decide +kernel
theorem dX7_deal_7 : decode cX7_deal 7 = .ok (.getfield 15, 3) := by decide +kernel
theorem dX7_deal_10 : decode cX7_deal 10 = .ok (.astore_n 3, 1) := by decide +kernel
theorem dX7_deal_11 : decode cX7_deal 11 = .ok (.aload_n 3, 1) := by decide +kernel
theorem dX7_deal_12 : decode cX7_deal 12 = .ok (.arraylength, 1) := by decide +kernel
theorem dX7_deal_13 : decode cX7_deal 13 = .ok (.istore 4, 2) := by decide +kernel
theorem dX7_deal_15 : decode cX7_deal 15 = .ok (.iconst 0, 1) := by decide +kernel
theorem dX7_deal_16 : decode cX7_deal 16 = .ok (.istore 5, 2) := by decide +kernel
theorem dX7_deal_18 : decode cX7_deal 18 = .ok (.iload 5, 2) := by decide +kernel
theorem dX7_deal_20 : decode cX7_deal 20 = .ok (.iload 4, 2) := by decide +kernel
theorem dX7_deal_22 : decode cX7_deal 22 = .ok (.if_icmp .ge 38, 3) := by decide +kernel
theorem dX7_deal_25 : decode cX7_deal 25 = .ok (.aload_n 3, 1) := by decide +kernel
theorem dX7_deal_26 : decode cX7_deal 26 = .ok (.iload 5, 2) := by decide +kernel
theorem dX7_deal_28 : decode cX7_deal 28 = .ok (.aaload, 1) := by decide +kernel
theorem dX7_deal_29 : decode cX7_deal 29 = .ok (.astore 6, 2) := by decide +kernel
theorem dX7_deal_31 : decode cX7_deal 31 = .ok (.aload_n 0, 1) := by decide +kernel
theorem dX7_deal_32 : decode cX7_deal 32 = .ok (.aload 6, 2) := by decide +kernel
theorem dX7_deal_34 : decode cX7_deal 34 = .ok (.iload_n 1, 1) := by decide +kernel
theorem dX7_deal_35 : decode cX7_deal 35 = .ok (.invokevirtual 239, 3) := by decide +kernel
theorem dX7_deal_38 : decode cX7_deal 38 = .ok (.ifCond .eq 16, 3) := by decide +kernel
theorem dX7_deal_54 : decode cX7_deal 54 = .ok (.iinc 5 1, 3) := by decide +kernel
theorem dX7_deal_57 : decode cX7_deal 57 = .ok (.goto (-39), 3) := by decide +kernel
theorem dX7_deal_60 : decode cX7_deal 60 = .ok (.iload_n 2, 1) := by decide +kernel
theorem dX7_deal_61 : decode cX7_deal 61 = .ok (.ireturn, 1) := by decide +kernel
theorem dX7_requireProgram_0 : decode cX7_requireProgram 0 = .ok (.aload_n 0, 1) := by decide +kernel
theorem dX7_requireProgram_1 : decode cX7_requireProgram 1 = .ok (.iload_n 1, 1) := by decide +kernel
theorem dX7_requireProgram_2 : decode cX7_requireProgram 2 = .ok (.invokevirtual 143, 3) := by decide +kernel
theorem dX7_explore_0 : decode cX7_explore 0 = .ok (.aload_n 0, 1) := by decide +kernel
theorem dX7_explore_1 : decode cX7_explore 1 = .ok (.iload_n 1, 1) := by decide +kernel
theorem dX7_explore_2 : decode cX7_explore 2 = .ok (.invokevirtual 118, 3) := by decide +kernel
theorem dX7_isUncovered_0 : decode cX7_isUncovered 0 = .ok (.aload_n 1, 1) := by decide +kernel
theorem dX7_isUncovered_1 : decode cX7_isUncovered 1 = .ok (.ifnull 11, 3) := by decide +kernel
theorem dX7_isUncovered_12 : decode cX7_isUncovered 12 = .ok (.iconst 0, 1) := by decide +kernel
theorem dX7_isUncovered_13 : decode cX7_isUncovered 13 = .ok (.ireturn, 1) := by decide +kernel
theorem dX7_order_0 : decode cX7_order 0 = .ok (.iload_n 1, 1) := by decide +kernel
theorem dX7_order_1 : decode cX7_order 1 = .ok (.invokestatic 89, 3) := by decide +kernel
theorem dX7_order_4 : decode cX7_order 4 = .ok (.aload_n 0, 1) := by decide +kernel
theorem dX7_order_5 : decode cX7_order 5 = .ok (.getfield 283, 3) := by decide +kernel
theorem dX7_order_8 : decode cX7_order 8 = .ok (.istore_n 2, 1) := by decide +kernel
theorem dX7_order_9 : decode cX7_order 9 = .ok (.iload_n 2, 1) := by decide +kernel
theorem dX7_order_10 : decode cX7_order 10 = .ok (.ifCond .lt 12, 3) := by decide +kernel
theorem dX7_order_13 : decode cX7_order 13 = .ok (.iload_n 2, 1) := by decide +kernel
theorem dX7_order_14 : decode cX7_order 14 = .ok (.aload_n 0, 1) := by decide +kernel
theorem dX7_order_15 : decode cX7_order 15 = .ok (.getfield 33, 3) := by decide +kernel
theorem dX7_order_18 : decode cX7_order 18 = .ok (.arraylength, 1) := by decide +kernel
theorem dX7_order_19 : decode cX7_order 19 = .ok (.if_icmp .lt 14, 3) := by decide +kernel
theorem dX7_order_33 : decode cX7_order 33 = .ok (.aload_n 0, 1) := by decide +kernel
theorem dX7_order_34 : decode cX7_order 34 = .ok (.getfield 33, 3) := by decide +kernel
theorem dX7_order_37 : decode cX7_order 37 = .ok (.iload_n 2, 1) := by decide +kernel
theorem dX7_order_38 : decode cX7_order 38 = .ok (.new 31, 3) := by decide +kernel
theorem dX7_order_41 : decode cX7_order 41 = .ok (.dup, 1) := by decide +kernel
theorem dX7_order_42 : decode cX7_order 42 = .ok (.iload_n 2, 1) := by decide +kernel
theorem dX7_order_43 : decode cX7_order 43 = .ok (.iload_n 1, 1) := by decide +kernel
theorem dX7_order_44 : decode cX7_order 44 = .ok (.invokespecial 288, 3) := by decide +kernel
theorem dX7_order_47 : decode cX7_order 47 = .ok (.aastore, 1) := by decide +kernel
theorem dX7_order_48 : decode cX7_order 48 = .ok (.aload_n 0, 1) := by decide +kernel
theorem dX7_order_49 : decode cX7_order 49 = .ok (.iload_n 2, 1) := by decide +kernel
theorem dX7_order_50 : decode cX7_order 50 = .ok (.iconst 1, 1) := by decide +kernel
theorem dX7_order_51 : decode cX7_order 51 = .ok (.iadd, 1) := by decide +kernel
theorem dX7_order_52 : decode cX7_order 52 = .ok (.putfield 283, 3) := by decide +kernel
theorem dX7_order_55 : decode cX7_order 55 = .ok (.iload_n 2, 1) := by decide +kernel
theorem dX7_order_56 : decode cX7_order 56 = .ok (.ireturn, 1) := by decide +kernel
theorem dX7_beat_0 : decode cX7_beat 0 = .ok (.aload_n 0, 1) := by decide +kernel
theorem dX7_beat_1 : decode cX7_beat 1 = .ok (.getfield 107, 3) := by decide +kernel
theorem dX7_beat_4 : decode cX7_beat 4 = .ok (.ifCond .ne 14, 3) := by decide +kernel
theorem dX7_beat_7 : decode cX7_beat 7 = .ok (.new 76, 3) := by decide +kernel
theorem dX7_beat_10 : decode cX7_beat 10 = .ok (.dup, 1) := by decide +kernel
theorem dX7_beat_11 : decode cX7_beat 11 = .ok (.ldc_w 289, 3) := by decide +kernel
theorem dX7_beat_14 : decode cX7_beat 14 = .ok (.invokespecial 80, 3) := by decide +kernel
theorem dX7_beat_17 : decode cX7_beat 17 = .ok (.athrow, 1) := by decide +kernel
theorem dX7_beats_0 : decode cX7_beats 0 = .ok (.aload_n 0, 1) := by decide +kernel
theorem dX7_beats_1 : decode cX7_beats 1 = .ok (.getfield 112, 3) := by decide +kernel
theorem dX7_beats_4 : decode cX7_beats 4 = .ok (.ireturn, 1) := by decide +kernel
theorem dX7_at_0 : decode cX7_at 0 = .ok (.aload_n 0, 1) := by decide +kernel
theorem dX7_at_1 : decode cX7_at 1 = .ok (.iload_n 1, 1) := by decide +kernel
theorem dX7_at_2 : decode cX7_at 2 = .ok (.invokevirtual 118, 3) := by decide +kernel
theorem dX7_where_0 : decode cX7_where 0 = .ok (.aload_n 0, 1) := by decide +kernel
theorem dX7_where_1 : decode cX7_where 1 = .ok (.iload_n 1, 1) := by decide +kernel
theorem dX7_where_2 : decode cX7_where 2 = .ok (.invokevirtual 308, 3) := by decide +kernel
theorem dX7_waiting_0 : decode cX7_waiting 0 = .ok (.aload_n 0, 1) := by decide +kernel
theorem dX7_waiting_1 : decode cX7_waiting 1 = .ok (.iconst (-1), 1) := by decide +kernel
theorem dX7_waiting_2 : decode cX7_waiting 2 = .ok (.invokevirtual 314, 3) := by decide +kernel
theorem dX7_waiting_5 : decode cX7_waiting 5 = .ok (.ireturn, 1) := by decide +kernel
theorem dX7_stand_0 : decode cX7_stand 0 = .ok (.aload_n 0, 1) := by decide +kernel
theorem dX7_stand_1 : decode cX7_stand 1 = .ok (.iload_n 1, 1) := by decide +kernel
theorem dX7_stand_2 : decode cX7_stand 2 = .ok (.invokevirtual 118, 3) := by decide +kernel
theorem dX7_letters_0 : decode cX7_letters 0 = .ok (.aload_n 0, 1) := by decide +kernel
theorem dX7_letters_1 : decode cX7_letters 1 = .ok (.iload_n 1, 1) := by decide +kernel
theorem dX7_letters_2 : decode cX7_letters 2 = .ok (.invokevirtual 118, 3) := by decide +kernel
theorem dX7_countAt_0 : decode cX7_countAt 0 = .ok (.iconst 0, 1) := by decide +kernel
theorem dX7_countAt_1 : decode cX7_countAt 1 = .ok (.istore_n 2, 1) := by decide +kernel
theorem dX7_countAt_2 : decode cX7_countAt 2 = .ok (.aload_n 0, 1) := by decide +kernel
theorem dX7_countAt_3 : decode cX7_countAt 3 = .ok (.getfield 33, 3) := by decide +kernel
theorem dX7_countAt_6 : decode cX7_countAt 6 = .ok (.astore_n 3, 1) := by decide +kernel
theorem dX7_countAt_7 : decode cX7_countAt 7 = .ok (.aload_n 3, 1) := by decide +kernel
theorem dX7_countAt_8 : decode cX7_countAt 8 = .ok (.arraylength, 1) := by decide +kernel
theorem dX7_countAt_9 : decode cX7_countAt 9 = .ok (.istore 4, 2) := by decide +kernel
theorem dX7_countAt_11 : decode cX7_countAt 11 = .ok (.iconst 0, 1) := by decide +kernel
theorem dX7_countAt_12 : decode cX7_countAt 12 = .ok (.istore 5, 2) := by decide +kernel
theorem dX7_countAt_14 : decode cX7_countAt 14 = .ok (.iload 5, 2) := by decide +kernel
theorem dX7_countAt_16 : decode cX7_countAt 16 = .ok (.iload 4, 2) := by decide +kernel
theorem dX7_countAt_18 : decode cX7_countAt 18 = .ok (.if_icmp .ge 32, 3) := by decide +kernel
theorem dX7_countAt_21 : decode cX7_countAt 21 = .ok (.aload_n 3, 1) := by decide +kernel
theorem dX7_countAt_22 : decode cX7_countAt 22 = .ok (.iload 5, 2) := by decide +kernel
theorem dX7_countAt_24 : decode cX7_countAt 24 = .ok (.aaload, 1) := by decide +kernel
theorem dX7_countAt_25 : decode cX7_countAt 25 = .ok (.astore 6, 2) := by decide +kernel
theorem dX7_countAt_27 : decode cX7_countAt 27 = .ok (.aload 6, 2) := by decide +kernel
theorem dX7_countAt_29 : decode cX7_countAt 29 = .ok (.ifnull 15, 3) := by decide +kernel
theorem dX7_countAt_44 : decode cX7_countAt 44 = .ok (.iinc 5 1, 3) := by decide +kernel
theorem dX7_countAt_47 : decode cX7_countAt 47 = .ok (.goto (-33), 3) := by decide +kernel
theorem dX7_countAt_50 : decode cX7_countAt 50 = .ok (.iload_n 2, 1) := by decide +kernel
theorem dX7_countAt_51 : decode cX7_countAt 51 = .ok (.ireturn, 1) := by decide +kernel
theorem dX7_die_0 : decode cX7_die 0 = .ok (.aload_n 0, 1) := by decide +kernel
theorem dX7_die_1 : decode cX7_die 1 = .ok (.iload_n 1, 1) := by decide +kernel
theorem dX7_die_2 : decode cX7_die 2 = .ok (.invokevirtual 143, 3) := by decide +kernel
theorem dX7_standIn_0 : decode cX7_standIn 0 = .ok (.aload_n 0, 1) := by decide +kernel
theorem dX7_standIn_1 : decode cX7_standIn 1 = .ok (.iload_n 1, 1) := by decide +kernel
theorem dX7_standIn_2 : decode cX7_standIn 2 = .ok (.invokevirtual 143, 3) := by decide +kernel
theorem dX7_wear_0 : decode cX7_wear 0 = .ok (.aload_n 0, 1) := by decide +kernel
theorem dX7_wear_1 : decode cX7_wear 1 = .ok (.iload_n 1, 1) := by decide +kernel
theorem dX7_wear_2 : decode cX7_wear 2 = .ok (.invokevirtual 143, 3) := by decide +kernel
theorem dX7_dress_0 : decode cX7_dress 0 = .ok (.aload_n 0, 1) := by decide +kernel
theorem dX7_dress_1 : decode cX7_dress 1 = .ok (.iload_n 1, 1) := by decide +kernel
theorem dX7_dress_2 : decode cX7_dress 2 = .ok (.invokevirtual 143, 3) := by decide +kernel
theorem dX7_change_0 : decode cX7_change 0 = .ok (.aload_n 0, 1) := by decide +kernel
theorem dX7_change_1 : decode cX7_change 1 = .ok (.iload_n 1, 1) := by decide +kernel
theorem dX7_change_2 : decode cX7_change 2 = .ok (.invokevirtual 143, 3) := by decide +kernel
theorem dX7_made_0 : decode cX7_made 0 = .ok (.aload_n 0, 1) := by decide +kernel
theorem dX7_made_1 : decode cX7_made 1 = .ok (.iload_n 1, 1) := by decide +kernel
theorem dX7_made_2 : decode cX7_made 2 = .ok (.invokevirtual 143, 3) := by decide +kernel
theorem dX7_lacks_0 : decode cX7_lacks 0 = .ok (.aload_n 0, 1) := by decide +kernel
theorem dX7_lacks_1 : decode cX7_lacks 1 = .ok (.aload_n 0, 1) := by decide +kernel
theorem dX7_lacks_2 : decode cX7_lacks 2 = .ok (.iload_n 1, 1) := by decide +kernel
theorem dX7_lacks_3 : decode cX7_lacks 3 = .ok (.invokevirtual 308, 3) := by decide +kernel
theorem dX7_isLacking_0 : decode cX7_isLacking 0 = .ok (.aload_n 0, 1) := by decide +kernel
theorem dX7_isLacking_1 : decode cX7_isLacking 1 = .ok (.iload_n 1, 1) := by decide +kernel
theorem dX7_isLacking_2 : decode cX7_isLacking 2 = .ok (.invokevirtual 308, 3) := by decide +kernel
theorem dX7_firstLacking_0 : decode cX7_firstLacking 0 = .ok (.aload_n 0, 1) := by decide +kernel
theorem dX7_firstLacking_1 : decode cX7_firstLacking 1 = .ok (.iload_n 1, 1) := by decide +kernel
theorem dX7_firstLacking_2 : decode cX7_firstLacking 2 = .ok (.invokevirtual 308, 3) := by decide +kernel
theorem dX7_mend_0 : decode cX7_mend 0 = .ok (.aload_n 0, 1) := by decide +kernel
theorem dX7_mend_1 : decode cX7_mend 1 = .ok (.iload_n 1, 1) := by decide +kernel
theorem dX7_mend_2 : decode cX7_mend 2 = .ok (.invokevirtual 308, 3) := by decide +kernel
theorem dX7_maker_0 : decode cX7_maker 0 = .ok (.aload_n 0, 1) := by decide +kernel
theorem dX7_maker_1 : decode cX7_maker 1 = .ok (.iload_n 1, 1) := by decide +kernel
theorem dX7_maker_2 : decode cX7_maker 2 = .ok (.invokevirtual 308, 3) := by decide +kernel
theorem dX7_whole_0 : decode cX7_whole 0 = .ok (.iconst 0, 1) := by decide +kernel
theorem dX7_whole_1 : decode cX7_whole 1 = .ok (.istore_n 1, 1) := by decide +kernel
theorem dX7_whole_2 : decode cX7_whole 2 = .ok (.aload_n 0, 1) := by decide +kernel
theorem dX7_whole_3 : decode cX7_whole 3 = .ok (.getfield 33, 3) := by decide +kernel
theorem dX7_whole_6 : decode cX7_whole 6 = .ok (.astore_n 2, 1) := by decide +kernel
theorem dX7_whole_7 : decode cX7_whole 7 = .ok (.aload_n 2, 1) := by decide +kernel
theorem dX7_whole_8 : decode cX7_whole 8 = .ok (.arraylength, 1) := by decide +kernel
theorem dX7_whole_9 : decode cX7_whole 9 = .ok (.istore_n 3, 1) := by decide +kernel
theorem dX7_whole_10 : decode cX7_whole 10 = .ok (.iconst 0, 1) := by decide +kernel
theorem dX7_whole_11 : decode cX7_whole 11 = .ok (.istore 4, 2) := by decide +kernel
theorem dX7_whole_13 : decode cX7_whole 13 = .ok (.iload 4, 2) := by decide +kernel
theorem dX7_whole_15 : decode cX7_whole 15 = .ok (.iload_n 3, 1) := by decide +kernel
theorem dX7_whole_16 : decode cX7_whole 16 = .ok (.if_icmp .ge 42, 3) := by decide +kernel
theorem dX7_whole_19 : decode cX7_whole 19 = .ok (.aload_n 2, 1) := by decide +kernel
theorem dX7_whole_20 : decode cX7_whole 20 = .ok (.iload 4, 2) := by decide +kernel
theorem dX7_whole_22 : decode cX7_whole 22 = .ok (.aaload, 1) := by decide +kernel
theorem dX7_whole_23 : decode cX7_whole 23 = .ok (.astore 5, 2) := by decide +kernel
theorem dX7_whole_25 : decode cX7_whole 25 = .ok (.aload 5, 2) := by decide +kernel
theorem dX7_whole_27 : decode cX7_whole 27 = .ok (.ifnull 25, 3) := by decide +kernel
theorem dX7_whole_52 : decode cX7_whole 52 = .ok (.iinc 4 1, 3) := by decide +kernel
theorem dX7_whole_55 : decode cX7_whole 55 = .ok (.goto (-42), 3) := by decide +kernel
theorem dX7_whole_58 : decode cX7_whole 58 = .ok (.iload_n 1, 1) := by decide +kernel
theorem dX7_whole_59 : decode cX7_whole 59 = .ok (.ireturn, 1) := by decide +kernel
theorem dX7_offset_0 : decode cX7_offset 0 = .ok (.aload_n 0, 1) := by decide +kernel
theorem dX7_offset_1 : decode cX7_offset 1 = .ok (.iload_n 1, 1) := by decide +kernel
theorem dX7_offset_2 : decode cX7_offset 2 = .ok (.invokevirtual 118, 3) := by decide +kernel
theorem dX7_measure_0 : decode cX7_measure 0 = .ok (.aload_n 0, 1) := by decide +kernel
theorem dX7_measure_1 : decode cX7_measure 1 = .ok (.iload_n 1, 1) := by decide +kernel
theorem dX7_measure_2 : decode cX7_measure 2 = .ok (.invokevirtual 308, 3) := by decide +kernel
theorem dX7_feedBack_0 : decode cX7_feedBack 0 = .ok (.aload_n 0, 1) := by decide +kernel
theorem dX7_feedBack_1 : decode cX7_feedBack 1 = .ok (.iload_n 1, 1) := by decide +kernel
theorem dX7_feedBack_2 : decode cX7_feedBack 2 = .ok (.invokevirtual 118, 3) := by decide +kernel
theorem dX7_checksum_0 : decode cX7_checksum 0 = .ok (.ldc2_w 443, 3) := by decide +kernel
theorem dX7_checksum_3 : decode cX7_checksum 3 = .ok (.lstore_n 1, 1) := by decide +kernel
theorem dX7_checksum_4 : decode cX7_checksum 4 = .ok (.aload_n 0, 1) := by decide +kernel
theorem dX7_checksum_5 : decode cX7_checksum 5 = .ok (.getfield 33, 3) := by decide +kernel
theorem dX7_checksum_8 : decode cX7_checksum 8 = .ok (.astore_n 3, 1) := by decide +kernel
theorem dX7_checksum_9 : decode cX7_checksum 9 = .ok (.aload_n 3, 1) := by decide +kernel
theorem dX7_checksum_10 : decode cX7_checksum 10 = .ok (.arraylength, 1) := by decide +kernel
theorem dX7_checksum_11 : decode cX7_checksum 11 = .ok (.istore 4, 2) := by decide +kernel
theorem dX7_checksum_13 : decode cX7_checksum 13 = .ok (.iconst 0, 1) := by decide +kernel
theorem dX7_checksum_14 : decode cX7_checksum 14 = .ok (.istore 5, 2) := by decide +kernel
theorem dX7_checksum_16 : decode cX7_checksum 16 = .ok (.iload 5, 2) := by decide +kernel
theorem dX7_checksum_18 : decode cX7_checksum 18 = .ok (.iload 4, 2) := by decide +kernel
theorem dX7_checksum_20 : decode cX7_checksum 20 = .ok (.if_icmp .ge 48, 3) := by decide +kernel
theorem dX7_checksum_23 : decode cX7_checksum 23 = .ok (.aload_n 3, 1) := by decide +kernel
theorem dX7_checksum_24 : decode cX7_checksum 24 = .ok (.iload 5, 2) := by decide +kernel
theorem dX7_checksum_26 : decode cX7_checksum 26 = .ok (.aaload, 1) := by decide +kernel
theorem dX7_checksum_27 : decode cX7_checksum 27 = .ok (.astore 6, 2) := by decide +kernel
theorem dX7_checksum_29 : decode cX7_checksum 29 = .ok (.aload 6, 2) := by decide +kernel
theorem dX7_checksum_31 : decode cX7_checksum 31 = .ok (.ifnull 31, 3) := by decide +kernel
theorem dX7_checksum_62 : decode cX7_checksum 62 = .ok (.iinc 5 1, 3) := by decide +kernel
theorem dX7_checksum_65 : decode cX7_checksum 65 = .ok (.goto (-49), 3) := by decide +kernel
theorem dX7_checksum_68 : decode cX7_checksum 68 = .ok (.lload_n 1, 1) := by decide +kernel
theorem dX7_checksum_69 : decode cX7_checksum 69 = .ok (.lreturn, 1) := by decide +kernel
theorem dX7_wholeShare_0 : decode cX7_wholeShare 0 = .ok (.aload_n 0, 1) := by decide +kernel
theorem dX7_wholeShare_1 : decode cX7_wholeShare 1 = .ok (.bipush (-2), 2) := by decide +kernel
theorem dX7_wholeShare_3 : decode cX7_wholeShare 3 = .ok (.invokevirtual 314, 3) := by decide +kernel
theorem dX7_wholeShare_6 : decode cX7_wholeShare 6 = .ok (.istore_n 1, 1) := by decide +kernel
theorem dX7_wholeShare_7 : decode cX7_wholeShare 7 = .ok (.iload_n 1, 1) := by decide +kernel
theorem dX7_wholeShare_8 : decode cX7_wholeShare 8 = .ok (.ifCond .ne 14, 3) := by decide +kernel
theorem dX7_meanMeasure_0 : decode cX7_meanMeasure 0 = .ok (.aload_n 0, 1) := by decide +kernel
theorem dX7_meanMeasure_1 : decode cX7_meanMeasure 1 = .ok (.bipush (-2), 2) := by decide +kernel
theorem dX7_meanMeasure_3 : decode cX7_meanMeasure 3 = .ok (.invokevirtual 314, 3) := by decide +kernel
theorem dX7_meanMeasure_6 : decode cX7_meanMeasure 6 = .ok (.istore_n 1, 1) := by decide +kernel
theorem dX7_meanMeasure_7 : decode cX7_meanMeasure 7 = .ok (.iload_n 1, 1) := by decide +kernel
theorem dX7_meanMeasure_8 : decode cX7_meanMeasure 8 = .ok (.ifCond .ne 14, 3) := by decide +kernel
theorem dX7_isSound_0 : decode cX7_isSound 0 = .ok (.aload_n 0, 1) := by decide +kernel
theorem dX7_isSound_1 : decode cX7_isSound 1 = .ok (.invokevirtual 450, 3) := by decide +kernel
theorem dX7_isSound_4 : decode cX7_isSound 4 = .ok (.ifCond .eq 21, 3) := by decide +kernel
theorem dX7_isSound_7 : decode cX7_isSound 7 = .ok (.aload_n 0, 1) := by decide +kernel
theorem dX7_isSound_8 : decode cX7_isSound 8 = .ok (.invokevirtual 453, 3) := by decide +kernel
theorem dX7_isSound_11 : decode cX7_isSound 11 = .ok (.ifCond .eq 14, 3) := by decide +kernel
theorem dX7_isSound_14 : decode cX7_isSound 14 = .ok (.aload_n 0, 1) := by decide +kernel
theorem dX7_isSound_15 : decode cX7_isSound 15 = .ok (.invokevirtual 456, 3) := by decide +kernel
theorem dX7_isSound_18 : decode cX7_isSound 18 = .ok (.ifCond .eq 7, 3) := by decide +kernel
theorem dX7_isSound_21 : decode cX7_isSound 21 = .ok (.iconst 1, 1) := by decide +kernel
theorem dX7_isSound_22 : decode cX7_isSound 22 = .ok (.goto 4, 3) := by decide +kernel
theorem dX7_isSound_26 : decode cX7_isSound 26 = .ok (.ireturn, 1) := by decide +kernel
theorem dX7_stationsAreSound_0 : decode cX7_stationsAreSound 0 = .ok (.aload_n 0, 1) := by decide +kernel
theorem dX7_stationsAreSound_1 : decode cX7_stationsAreSound 1 = .ok (.getfield 21, 3) := by decide +kernel
theorem dX7_stationsAreSound_4 : decode cX7_stationsAreSound 4 = .ok (.astore_n 1, 1) := by decide +kernel
theorem dX7_stationsAreSound_5 : decode cX7_stationsAreSound 5 = .ok (.aload_n 1, 1) := by decide +kernel
theorem dX7_stationsAreSound_6 : decode cX7_stationsAreSound 6 = .ok (.arraylength, 1) := by decide +kernel
theorem dX7_stationsAreSound_7 : decode cX7_stationsAreSound 7 = .ok (.istore_n 2, 1) := by decide +kernel
theorem dX7_stationsAreSound_8 : decode cX7_stationsAreSound 8 = .ok (.iconst 0, 1) := by decide +kernel
theorem dX7_stationsAreSound_9 : decode cX7_stationsAreSound 9 = .ok (.istore_n 3, 1) := by decide +kernel
theorem dX7_stationsAreSound_10 : decode cX7_stationsAreSound 10 = .ok (.iload_n 3, 1) := by decide +kernel
theorem dX7_stationsAreSound_11 : decode cX7_stationsAreSound 11 = .ok (.iload_n 2, 1) := by decide +kernel
theorem dX7_stationsAreSound_12 : decode cX7_stationsAreSound 12 = .ok (.if_icmp .ge 68, 3) := by decide +kernel
theorem dX7_stationsAreSound_15 : decode cX7_stationsAreSound 15 = .ok (.aload_n 1, 1) := by decide +kernel
theorem dX7_stationsAreSound_16 : decode cX7_stationsAreSound 16 = .ok (.iload_n 3, 1) := by decide +kernel
theorem dX7_stationsAreSound_17 : decode cX7_stationsAreSound 17 = .ok (.aaload, 1) := by decide +kernel
theorem dX7_stationsAreSound_18 : decode cX7_stationsAreSound 18 = .ok (.astore 4, 2) := by decide +kernel
theorem dX7_stationsAreSound_20 : decode cX7_stationsAreSound 20 = .ok (.aload 4, 2) := by decide +kernel
theorem dX7_stationsAreSound_22 : decode cX7_stationsAreSound 22 = .ok (.ifnonnull 6, 3) := by decide +kernel
theorem dX7_stationsAreSound_25 : decode cX7_stationsAreSound 25 = .ok (.goto 49, 3) := by decide +kernel
theorem dX7_stationsAreSound_74 : decode cX7_stationsAreSound 74 = .ok (.iinc 3 1, 3) := by decide +kernel
theorem dX7_stationsAreSound_77 : decode cX7_stationsAreSound 77 = .ok (.goto (-67), 3) := by decide +kernel
theorem dX7_stationsAreSound_80 : decode cX7_stationsAreSound 80 = .ok (.iconst 1, 1) := by decide +kernel
theorem dX7_stationsAreSound_81 : decode cX7_stationsAreSound 81 = .ok (.ireturn, 1) := by decide +kernel
theorem dX7_orderIsSound_0 : decode cX7_orderIsSound 0 = .ok (.aconst_null, 1) := by decide +kernel
theorem dX7_orderIsSound_1 : decode cX7_orderIsSound 1 = .ok (.astore_n 1, 1) := by decide +kernel
theorem dX7_orderIsSound_2 : decode cX7_orderIsSound 2 = .ok (.aload_n 0, 1) := by decide +kernel
theorem dX7_orderIsSound_3 : decode cX7_orderIsSound 3 = .ok (.getfield 33, 3) := by decide +kernel
theorem dX7_orderIsSound_6 : decode cX7_orderIsSound 6 = .ok (.astore_n 2, 1) := by decide +kernel
theorem dX7_orderIsSound_7 : decode cX7_orderIsSound 7 = .ok (.aload_n 2, 1) := by decide +kernel
theorem dX7_orderIsSound_8 : decode cX7_orderIsSound 8 = .ok (.arraylength, 1) := by decide +kernel
theorem dX7_orderIsSound_9 : decode cX7_orderIsSound 9 = .ok (.istore_n 3, 1) := by decide +kernel
theorem dX7_orderIsSound_10 : decode cX7_orderIsSound 10 = .ok (.iconst 0, 1) := by decide +kernel
theorem dX7_orderIsSound_11 : decode cX7_orderIsSound 11 = .ok (.istore 4, 2) := by decide +kernel
theorem dX7_orderIsSound_13 : decode cX7_orderIsSound 13 = .ok (.iload 4, 2) := by decide +kernel
theorem dX7_orderIsSound_15 : decode cX7_orderIsSound 15 = .ok (.iload_n 3, 1) := by decide +kernel
theorem dX7_orderIsSound_16 : decode cX7_orderIsSound 16 = .ok (.if_icmp .ge 50, 3) := by decide +kernel
theorem dX7_orderIsSound_19 : decode cX7_orderIsSound 19 = .ok (.aload_n 2, 1) := by decide +kernel
theorem dX7_orderIsSound_20 : decode cX7_orderIsSound 20 = .ok (.iload 4, 2) := by decide +kernel
theorem dX7_orderIsSound_22 : decode cX7_orderIsSound 22 = .ok (.aaload, 1) := by decide +kernel
theorem dX7_orderIsSound_23 : decode cX7_orderIsSound 23 = .ok (.astore 5, 2) := by decide +kernel
theorem dX7_orderIsSound_25 : decode cX7_orderIsSound 25 = .ok (.aload 5, 2) := by decide +kernel
theorem dX7_orderIsSound_27 : decode cX7_orderIsSound 27 = .ok (.ifnonnull 6, 3) := by decide +kernel
theorem dX7_orderIsSound_30 : decode cX7_orderIsSound 30 = .ok (.goto 30, 3) := by decide +kernel
theorem dX7_orderIsSound_60 : decode cX7_orderIsSound 60 = .ok (.iinc 4 1, 3) := by decide +kernel
theorem dX7_orderIsSound_63 : decode cX7_orderIsSound 63 = .ok (.goto (-50), 3) := by decide +kernel
theorem dX7_orderIsSound_66 : decode cX7_orderIsSound 66 = .ok (.iconst 1, 1) := by decide +kernel
theorem dX7_orderIsSound_67 : decode cX7_orderIsSound 67 = .ok (.ireturn, 1) := by decide +kernel
theorem dX7_makersAreSound_0 : decode cX7_makersAreSound 0 = .ok (.aload_n 0, 1) := by decide +kernel
theorem dX7_makersAreSound_1 : decode cX7_makersAreSound 1 = .ok (.getfield 33, 3) := by decide +kernel
theorem dX7_makersAreSound_4 : decode cX7_makersAreSound 4 = .ok (.astore_n 1, 1) := by decide +kernel
theorem dX7_makersAreSound_5 : decode cX7_makersAreSound 5 = .ok (.aload_n 1, 1) := by decide +kernel
theorem dX7_makersAreSound_6 : decode cX7_makersAreSound 6 = .ok (.arraylength, 1) := by decide +kernel
theorem dX7_makersAreSound_7 : decode cX7_makersAreSound 7 = .ok (.istore_n 2, 1) := by decide +kernel
theorem dX7_makersAreSound_8 : decode cX7_makersAreSound 8 = .ok (.iconst 0, 1) := by decide +kernel
theorem dX7_makersAreSound_9 : decode cX7_makersAreSound 9 = .ok (.istore_n 3, 1) := by decide +kernel
theorem dX7_makersAreSound_10 : decode cX7_makersAreSound 10 = .ok (.iload_n 3, 1) := by decide +kernel
theorem dX7_makersAreSound_11 : decode cX7_makersAreSound 11 = .ok (.iload_n 2, 1) := by decide +kernel
theorem dX7_makersAreSound_12 : decode cX7_makersAreSound 12 = .ok (.if_icmp .ge 76, 3) := by decide +kernel
theorem dX7_makersAreSound_15 : decode cX7_makersAreSound 15 = .ok (.aload_n 1, 1) := by decide +kernel
theorem dX7_makersAreSound_16 : decode cX7_makersAreSound 16 = .ok (.iload_n 3, 1) := by decide +kernel
theorem dX7_makersAreSound_17 : decode cX7_makersAreSound 17 = .ok (.aaload, 1) := by decide +kernel
theorem dX7_makersAreSound_18 : decode cX7_makersAreSound 18 = .ok (.astore 4, 2) := by decide +kernel
theorem dX7_makersAreSound_20 : decode cX7_makersAreSound 20 = .ok (.aload_n 0, 1) := by decide +kernel
theorem dX7_makersAreSound_21 : decode cX7_makersAreSound 21 = .ok (.getfield 15, 3) := by decide +kernel
theorem dX7_makersAreSound_24 : decode cX7_makersAreSound 24 = .ok (.astore 5, 2) := by decide +kernel
theorem dX7_makersAreSound_26 : decode cX7_makersAreSound 26 = .ok (.aload 5, 2) := by decide +kernel
theorem dX7_makersAreSound_28 : decode cX7_makersAreSound 28 = .ok (.arraylength, 1) := by decide +kernel
theorem dX7_makersAreSound_29 : decode cX7_makersAreSound 29 = .ok (.istore 6, 2) := by decide +kernel
theorem dX7_makersAreSound_31 : decode cX7_makersAreSound 31 = .ok (.iconst 0, 1) := by decide +kernel
theorem dX7_makersAreSound_32 : decode cX7_makersAreSound 32 = .ok (.istore 7, 2) := by decide +kernel
theorem dX7_makersAreSound_34 : decode cX7_makersAreSound 34 = .ok (.iload 7, 2) := by decide +kernel
theorem dX7_makersAreSound_36 : decode cX7_makersAreSound 36 = .ok (.iload 6, 2) := by decide +kernel
theorem dX7_makersAreSound_38 : decode cX7_makersAreSound 38 = .ok (.if_icmp .ge 44, 3) := by decide +kernel
theorem dX7_makersAreSound_41 : decode cX7_makersAreSound 41 = .ok (.aload 5, 2) := by decide +kernel
theorem dX7_makersAreSound_43 : decode cX7_makersAreSound 43 = .ok (.iload 7, 2) := by decide +kernel
theorem dX7_makersAreSound_45 : decode cX7_makersAreSound 45 = .ok (.aaload, 1) := by decide +kernel
theorem dX7_makersAreSound_46 : decode cX7_makersAreSound 46 = .ok (.astore 8, 2) := by decide +kernel
theorem dX7_makersAreSound_48 : decode cX7_makersAreSound 48 = .ok (.aload 4, 2) := by decide +kernel
theorem dX7_makersAreSound_50 : decode cX7_makersAreSound 50 = .ok (.ifnull 26, 3) := by decide +kernel
theorem dX7_makersAreSound_76 : decode cX7_makersAreSound 76 = .ok (.iinc 7 1, 3) := by decide +kernel
theorem dX7_makersAreSound_79 : decode cX7_makersAreSound 79 = .ok (.goto (-45), 3) := by decide +kernel
theorem dX7_makersAreSound_82 : decode cX7_makersAreSound 82 = .ok (.iinc 3 1, 3) := by decide +kernel
theorem dX7_makersAreSound_85 : decode cX7_makersAreSound 85 = .ok (.goto (-75), 3) := by decide +kernel
theorem dX7_makersAreSound_88 : decode cX7_makersAreSound 88 = .ok (.iconst 1, 1) := by decide +kernel
theorem dX7_makersAreSound_89 : decode cX7_makersAreSound 89 = .ok (.ireturn, 1) := by decide +kernel
theorem dJ6_valueOf_2dffe_0 : decode cJ6_valueOf_2dffe 0 = .ok (.iload_n 0, 1) := by decide +kernel
theorem dJ6_valueOf_2dffe_1 : decode cJ6_valueOf_2dffe 1 = .ok (.bipush (-128), 2) := by decide +kernel
theorem dJ6_valueOf_2dffe_3 : decode cJ6_valueOf_2dffe 3 = .ok (.if_icmp .lt 20, 3) := by decide +kernel
theorem dJ6_valueOf_2dffe_6 : decode cJ6_valueOf_2dffe 6 = .ok (.iload_n 0, 1) := by decide +kernel
theorem dJ6_valueOf_2dffe_7 : decode cJ6_valueOf_2dffe 7 = .ok (.getstatic 191, 3) := by decide +kernel
theorem dJ6_valueOf_2dffe_10 : decode cJ6_valueOf_2dffe 10 = .ok (.if_icmp .gt 13, 3) := by decide +kernel
theorem dJ6_valueOf_2dffe_13 : decode cJ6_valueOf_2dffe 13 = .ok (.getstatic 195, 3) := by decide +kernel
theorem dJ6_valueOf_2dffe_16 : decode cJ6_valueOf_2dffe 16 = .ok (.iload_n 0, 1) := by decide +kernel
theorem dJ6_valueOf_2dffe_17 : decode cJ6_valueOf_2dffe 17 = .ok (.sipush 128, 3) := by decide +kernel
theorem dJ6_valueOf_2dffe_20 : decode cJ6_valueOf_2dffe 20 = .ok (.iadd, 1) := by decide +kernel
theorem dJ6_valueOf_2dffe_21 : decode cJ6_valueOf_2dffe 21 = .ok (.aaload, 1) := by decide +kernel
theorem dJ6_valueOf_2dffe_22 : decode cJ6_valueOf_2dffe 22 = .ok (.areturn, 1) := by decide +kernel
theorem dJ6_valueOf_2dffe_23 : decode cJ6_valueOf_2dffe 23 = .ok (.new 1, 3) := by decide +kernel
theorem dJ6_valueOf_2dffe_26 : decode cJ6_valueOf_2dffe 26 = .ok (.dup, 1) := by decide +kernel
theorem dJ6_valueOf_2dffe_27 : decode cJ6_valueOf_2dffe 27 = .ok (.iload_n 0, 1) := by decide +kernel
theorem dJ6_valueOf_2dffe_28 : decode cJ6_valueOf_2dffe 28 = .ok (.invokespecial 199, 3) := by decide +kernel
theorem dJ6_valueOf_2dffe_31 : decode cJ6_valueOf_2dffe 31 = .ok (.areturn, 1) := by decide +kernel
theorem dJ0_length_8abf5_0 : decode cJ0_length_8abf5 0 = .ok (.aload_n 0, 1) := by decide +kernel
theorem dJ0_length_8abf5_1 : decode cJ0_length_8abf5 1 = .ok (.getfield 9, 3) := by decide +kernel
theorem dJ0_length_8abf5_4 : decode cJ0_length_8abf5 4 = .ok (.arraylength, 1) := by decide +kernel
theorem dJ0_length_8abf5_5 : decode cJ0_length_8abf5 5 = .ok (.aload_n 0, 1) := by decide +kernel
theorem dJ0_length_8abf5_6 : decode cJ0_length_8abf5 6 = .ok (.invokevirtual 335, 3) := by decide +kernel
theorem dJ0_length_8abf5_9 : decode cJ0_length_8abf5 9 = .ok (.ishr, 1) := by decide +kernel
theorem dJ0_length_8abf5_10 : decode cJ0_length_8abf5 10 = .ok (.ireturn, 1) := by decide +kernel
theorem dJ0_coder_7d493_0 : decode cJ0_coder_7d493 0 = .ok (.getstatic 38, 3) := by decide +kernel
theorem dJ0_coder_7d493_3 : decode cJ0_coder_7d493 3 = .ok (.ifCond .eq 10, 3) := by decide +kernel
theorem dJ0_coder_7d493_6 : decode cJ0_coder_7d493 6 = .ok (.aload_n 0, 1) := by decide +kernel
theorem dJ0_coder_7d493_7 : decode cJ0_coder_7d493 7 = .ok (.getfield 15, 3) := by decide +kernel
theorem dJ0_coder_7d493_10 : decode cJ0_coder_7d493 10 = .ok (.goto 4, 3) := by decide +kernel
theorem dJ0_coder_7d493_13 : decode cJ0_coder_7d493 13 = .ok (.iconst 1, 1) := by decide +kernel
theorem dJ0_coder_7d493_14 : decode cJ0_coder_7d493 14 = .ok (.ireturn, 1) := by decide +kernel
theorem dJxa1e45_init_da8c8_0 : decode cJxa1e45_init_da8c8 0 = .ok (.aload_n 0, 1) := by decide +kernel
theorem dJxa1e45_init_da8c8_1 : decode cJxa1e45_init_da8c8 1 = .ok (.invokespecial 1, 3) := by decide +kernel
theorem dJxa1e45_init_da8c8_4 : decode cJxa1e45_init_da8c8 4 = .ok (.return_, 1) := by decide +kernel
theorem dJxc12de_init_da8c8_0 : decode cJxc12de_init_da8c8 0 = .ok (.aload_n 0, 1) := by decide +kernel
theorem dJxc12de_init_da8c8_1 : decode cJxc12de_init_da8c8 1 = .ok (.invokespecial 1, 3) := by decide +kernel
theorem dJxc12de_init_da8c8_4 : decode cJxc12de_init_da8c8 4 = .ok (.aload_n 0, 1) := by decide +kernel
theorem dJxc12de_init_da8c8_5 : decode cJxc12de_init_da8c8 5 = .ok (.iconst 0, 1) := by decide +kernel
theorem dJxc12de_init_da8c8_6 : decode cJxc12de_init_da8c8 6 = .ok (.putfield 7, 3) := by decide +kernel
theorem dJxc12de_init_da8c8_9 : decode cJxc12de_init_da8c8 9 = .ok (.return_, 1) := by decide +kernel
theorem dJx35411_init_45d68_0 : decode cJx35411_init_45d68 0 = .ok (.aload_n 0, 1) := by decide +kernel
theorem dJx35411_init_45d68_1 : decode cJx35411_init_45d68 1 = .ok (.aload_n 1, 1) := by decide +kernel
theorem dJx35411_init_45d68_2 : decode cJx35411_init_45d68 2 = .ok (.putfield 1, 3) := by decide +kernel
theorem dJx35411_init_45d68_5 : decode cJx35411_init_45d68 5 = .ok (.aload_n 0, 1) := by decide +kernel
theorem dJx35411_init_45d68_6 : decode cJx35411_init_45d68 6 = .ok (.invokespecial 7, 3) := by decide +kernel
theorem dJx35411_init_45d68_9 : decode cJx35411_init_45d68 9 = .ok (.aload_n 0, 1) := by decide +kernel
theorem dJx35411_init_45d68_10 : decode cJx35411_init_45d68 10 = .ok (.iconst (-1), 1) := by decide +kernel
theorem dJx35411_init_45d68_11 : decode cJx35411_init_45d68 11 = .ok (.putfield 13, 3) := by decide +kernel
theorem dJx35411_init_45d68_14 : decode cJx35411_init_45d68 14 = .ok (.aload_n 0, 1) := by decide +kernel
theorem dJx35411_init_45d68_15 : decode cJx35411_init_45d68 15 = .ok (.aload_n 0, 1) := by decide +kernel
theorem dJx35411_init_45d68_16 : decode cJx35411_init_45d68 16 = .ok (.getfield 1, 3) := by decide +kernel
theorem dJx35411_init_45d68_19 : decode cJx35411_init_45d68 19 = .ok (.getfield 17, 3) := by decide +kernel
theorem dJx35411_init_45d68_22 : decode cJx35411_init_45d68 22 = .ok (.putfield 22, 3) := by decide +kernel
theorem dJx35411_init_45d68_25 : decode cJx35411_init_45d68 25 = .ok (.return_, 1) := by decide +kernel
theorem dJx35411_hasNext_aae02_0 : decode cJx35411_hasNext_aae02 0 = .ok (.aload_n 0, 1) := by decide +kernel
theorem dJx35411_hasNext_aae02_1 : decode cJx35411_hasNext_aae02 1 = .ok (.getfield 25, 3) := by decide +kernel
theorem dJx35411_hasNext_aae02_4 : decode cJx35411_hasNext_aae02 4 = .ok (.aload_n 0, 1) := by decide +kernel
theorem dJx35411_hasNext_aae02_5 : decode cJx35411_hasNext_aae02 5 = .ok (.getfield 1, 3) := by decide +kernel
theorem dJx35411_hasNext_aae02_8 : decode cJx35411_hasNext_aae02 8 = .ok (.getfield 28, 3) := by decide +kernel
theorem dJx35411_hasNext_aae02_11 : decode cJx35411_hasNext_aae02 11 = .ok (.if_icmp .eq 7, 3) := by decide +kernel
theorem dJx35411_hasNext_aae02_18 : decode cJx35411_hasNext_aae02 18 = .ok (.iconst 0, 1) := by decide +kernel
theorem dJx35411_hasNext_aae02_19 : decode cJx35411_hasNext_aae02 19 = .ok (.ireturn, 1) := by decide +kernel
theorem dJx4a65c_init_da8c8_0 : decode cJx4a65c_init_da8c8 0 = .ok (.aload_n 0, 1) := by decide +kernel
theorem dJx4a65c_init_da8c8_1 : decode cJx4a65c_init_da8c8 1 = .ok (.invokespecial 1, 3) := by decide +kernel
theorem dJx4a65c_init_da8c8_4 : decode cJx4a65c_init_da8c8 4 = .ok (.aload_n 0, 1) := by decide +kernel
theorem dJx4a65c_init_da8c8_5 : decode cJx4a65c_init_da8c8 5 = .ok (.getstatic 39, 3) := by decide +kernel
theorem dJx4a65c_init_da8c8_8 : decode cJx4a65c_init_da8c8 8 = .ok (.putfield 9, 3) := by decide +kernel
theorem dJx4a65c_init_da8c8_11 : decode cJx4a65c_init_da8c8 11 = .ok (.return_, 1) := by decide +kernel
theorem dJx4a65c_grow_92f84_0 : decode cJx4a65c_grow_92f84 0 = .ok (.aload_n 0, 1) := by decide +kernel
theorem dJx4a65c_grow_92f84_1 : decode cJx4a65c_grow_92f84 1 = .ok (.getfield 9, 3) := by decide +kernel
theorem dJx4a65c_grow_92f84_4 : decode cJx4a65c_grow_92f84 4 = .ok (.arraylength, 1) := by decide +kernel
theorem dJx4a65c_grow_92f84_5 : decode cJx4a65c_grow_92f84 5 = .ok (.istore_n 2, 1) := by decide +kernel
theorem dJx4a65c_grow_92f84_6 : decode cJx4a65c_grow_92f84 6 = .ok (.iload_n 2, 1) := by decide +kernel
theorem dJx4a65c_grow_92f84_7 : decode cJx4a65c_grow_92f84 7 = .ok (.ifCond .gt 13, 3) := by decide +kernel
theorem dJx4a65c_grow_92f84_10 : decode cJx4a65c_grow_92f84 10 = .ok (.aload_n 0, 1) := by decide +kernel
theorem dJx4a65c_grow_92f84_11 : decode cJx4a65c_grow_92f84 11 = .ok (.getfield 9, 3) := by decide +kernel
theorem dJx4a65c_grow_92f84_14 : decode cJx4a65c_grow_92f84 14 = .ok (.getstatic 39, 3) := by decide +kernel
theorem dJx4a65c_grow_92f84_17 : decode cJx4a65c_grow_92f84 17 = .ok (.if_acmp .eq 28, 3) := by decide +kernel
theorem dJx4a65c_grow_92f84_20 : decode cJx4a65c_grow_92f84 20 = .ok (.iload_n 2, 1) := by decide +kernel
theorem dJx4a65c_grow_92f84_21 : decode cJx4a65c_grow_92f84 21 = .ok (.iload_n 1, 1) := by decide +kernel
theorem dJx4a65c_grow_92f84_22 : decode cJx4a65c_grow_92f84 22 = .ok (.iload_n 2, 1) := by decide +kernel
theorem dJx4a65c_grow_92f84_23 : decode cJx4a65c_grow_92f84 23 = .ok (.isub, 1) := by decide +kernel
theorem dJx4a65c_grow_92f84_24 : decode cJx4a65c_grow_92f84 24 = .ok (.iload_n 2, 1) := by decide +kernel
theorem dJx4a65c_grow_92f84_25 : decode cJx4a65c_grow_92f84 25 = .ok (.iconst 1, 1) := by decide +kernel
theorem dJx4a65c_grow_92f84_26 : decode cJx4a65c_grow_92f84 26 = .ok (.ishr, 1) := by decide +kernel
theorem dJx4a65c_grow_92f84_27 : decode cJx4a65c_grow_92f84 27 = .ok (.invokestatic 73, 3) := by decide +kernel
theorem dJx4a65c_grow_92f84_30 : decode cJx4a65c_grow_92f84 30 = .ok (.istore_n 3, 1) := by decide +kernel
theorem dJx4a65c_grow_92f84_31 : decode cJx4a65c_grow_92f84 31 = .ok (.aload_n 0, 1) := by decide +kernel
theorem dJx4a65c_grow_92f84_32 : decode cJx4a65c_grow_92f84 32 = .ok (.aload_n 0, 1) := by decide +kernel
theorem dJx4a65c_grow_92f84_33 : decode cJx4a65c_grow_92f84 33 = .ok (.getfield 9, 3) := by decide +kernel
theorem dJx4a65c_grow_92f84_36 : decode cJx4a65c_grow_92f84 36 = .ok (.iload_n 3, 1) := by decide +kernel
theorem dJx4a65c_grow_92f84_37 : decode cJx4a65c_grow_92f84 37 = .ok (.invokestatic 66, 3) := by decide +kernel
theorem dJx4a65c_grow_92f84_40 : decode cJx4a65c_grow_92f84 40 = .ok (.dup_x1, 1) := by decide +kernel
theorem dJx4a65c_grow_92f84_41 : decode cJx4a65c_grow_92f84 41 = .ok (.putfield 9, 3) := by decide +kernel
theorem dJx4a65c_grow_92f84_44 : decode cJx4a65c_grow_92f84 44 = .ok (.areturn, 1) := by decide +kernel
theorem dJx4a65c_grow_92f84_45 : decode cJx4a65c_grow_92f84 45 = .ok (.aload_n 0, 1) := by decide +kernel
theorem dJx4a65c_grow_92f84_46 : decode cJx4a65c_grow_92f84 46 = .ok (.bipush 10, 2) := by decide +kernel
theorem dJx4a65c_grow_92f84_48 : decode cJx4a65c_grow_92f84 48 = .ok (.iload_n 1, 1) := by decide +kernel
theorem dJx4a65c_grow_92f84_49 : decode cJx4a65c_grow_92f84 49 = .ok (.invokestatic 79, 3) := by decide +kernel
theorem dJx4a65c_grow_92f84_52 : decode cJx4a65c_grow_92f84 52 = .ok (.anewarray 7, 3) := by decide +kernel
theorem dJx4a65c_grow_92f84_55 : decode cJx4a65c_grow_92f84 55 = .ok (.dup_x1, 1) := by decide +kernel
theorem dJx4a65c_grow_92f84_56 : decode cJx4a65c_grow_92f84 56 = .ok (.putfield 9, 3) := by decide +kernel
theorem dJx4a65c_grow_92f84_59 : decode cJx4a65c_grow_92f84 59 = .ok (.areturn, 1) := by decide +kernel
theorem dJx4a65c_grow_d5877_0 : decode cJx4a65c_grow_d5877 0 = .ok (.aload_n 0, 1) := by decide +kernel
theorem dJx4a65c_grow_d5877_1 : decode cJx4a65c_grow_d5877 1 = .ok (.aload_n 0, 1) := by decide +kernel
theorem dJx4a65c_grow_d5877_2 : decode cJx4a65c_grow_d5877 2 = .ok (.getfield 48, 3) := by decide +kernel
theorem dJx4a65c_grow_d5877_5 : decode cJx4a65c_grow_d5877 5 = .ok (.iconst 1, 1) := by decide +kernel
theorem dJx4a65c_grow_d5877_6 : decode cJx4a65c_grow_d5877 6 = .ok (.iadd, 1) := by decide +kernel
theorem dJx4a65c_grow_d5877_7 : decode cJx4a65c_grow_d5877 7 = .ok (.invokevirtual 69, 3) := by decide +kernel
theorem dJx4a65c_grow_d5877_10 : decode cJx4a65c_grow_d5877 10 = .ok (.areturn, 1) := by decide +kernel
theorem dJx4a65c_size_8abf5_0 : decode cJx4a65c_size_8abf5 0 = .ok (.aload_n 0, 1) := by decide +kernel
theorem dJx4a65c_size_8abf5_1 : decode cJx4a65c_size_8abf5 1 = .ok (.getfield 48, 3) := by decide +kernel
theorem dJx4a65c_size_8abf5_4 : decode cJx4a65c_size_8abf5 4 = .ok (.ireturn, 1) := by decide +kernel
theorem dJx4a65c_isEmpty_aae02_0 : decode cJx4a65c_isEmpty_aae02 0 = .ok (.aload_n 0, 1) := by decide +kernel
theorem dJx4a65c_isEmpty_aae02_1 : decode cJx4a65c_isEmpty_aae02 1 = .ok (.getfield 48, 3) := by decide +kernel
theorem dJx4a65c_isEmpty_aae02_4 : decode cJx4a65c_isEmpty_aae02 4 = .ok (.ifCond .ne 7, 3) := by decide +kernel
theorem dJx4a65c_isEmpty_aae02_7 : decode cJx4a65c_isEmpty_aae02 7 = .ok (.iconst 1, 1) := by decide +kernel
theorem dJx4a65c_isEmpty_aae02_8 : decode cJx4a65c_isEmpty_aae02 8 = .ok (.goto 4, 3) := by decide +kernel
theorem dJx4a65c_isEmpty_aae02_12 : decode cJx4a65c_isEmpty_aae02 12 = .ok (.ireturn, 1) := by decide +kernel
theorem dJx4a65c_add_72be8_0 : decode cJx4a65c_add_72be8 0 = .ok (.iload_n 3, 1) := by decide +kernel
theorem dJx4a65c_add_72be8_1 : decode cJx4a65c_add_72be8 1 = .ok (.aload_n 2, 1) := by decide +kernel
theorem dJx4a65c_add_72be8_2 : decode cJx4a65c_add_72be8 2 = .ok (.arraylength, 1) := by decide +kernel
theorem dJx4a65c_add_72be8_3 : decode cJx4a65c_add_72be8 3 = .ok (.if_icmp .ne 8, 3) := by decide +kernel
theorem dJx4a65c_add_72be8_6 : decode cJx4a65c_add_72be8 6 = .ok (.aload_n 0, 1) := by decide +kernel
theorem dJx4a65c_add_72be8_7 : decode cJx4a65c_add_72be8 7 = .ok (.invokevirtual 129, 3) := by decide +kernel
theorem dJx4a65c_add_72be8_10 : decode cJx4a65c_add_72be8 10 = .ok (.astore_n 2, 1) := by decide +kernel
theorem dJx4a65c_add_72be8_11 : decode cJx4a65c_add_72be8 11 = .ok (.aload_n 2, 1) := by decide +kernel
theorem dJx4a65c_add_72be8_12 : decode cJx4a65c_add_72be8 12 = .ok (.iload_n 3, 1) := by decide +kernel
theorem dJx4a65c_add_72be8_13 : decode cJx4a65c_add_72be8 13 = .ok (.aload_n 1, 1) := by decide +kernel
theorem dJx4a65c_add_72be8_14 : decode cJx4a65c_add_72be8 14 = .ok (.aastore, 1) := by decide +kernel
theorem dJx4a65c_add_72be8_15 : decode cJx4a65c_add_72be8 15 = .ok (.aload_n 0, 1) := by decide +kernel
theorem dJx4a65c_add_72be8_16 : decode cJx4a65c_add_72be8 16 = .ok (.iload_n 3, 1) := by decide +kernel
theorem dJx4a65c_add_72be8_17 : decode cJx4a65c_add_72be8 17 = .ok (.iconst 1, 1) := by decide +kernel
theorem dJx4a65c_add_72be8_18 : decode cJx4a65c_add_72be8 18 = .ok (.iadd, 1) := by decide +kernel
theorem dJx4a65c_add_72be8_19 : decode cJx4a65c_add_72be8 19 = .ok (.putfield 48, 3) := by decide +kernel
theorem dJx4a65c_add_72be8_22 : decode cJx4a65c_add_72be8 22 = .ok (.return_, 1) := by decide +kernel
theorem dJx4a65c_add_9ea2d_0 : decode cJx4a65c_add_9ea2d 0 = .ok (.aload_n 0, 1) := by decide +kernel
theorem dJx4a65c_add_9ea2d_1 : decode cJx4a65c_add_9ea2d 1 = .ok (.dup, 1) := by decide +kernel
theorem dJx4a65c_add_9ea2d_2 : decode cJx4a65c_add_9ea2d 2 = .ok (.getfield 63, 3) := by decide +kernel
theorem dJx4a65c_add_9ea2d_5 : decode cJx4a65c_add_9ea2d 5 = .ok (.iconst 1, 1) := by decide +kernel
theorem dJx4a65c_add_9ea2d_6 : decode cJx4a65c_add_9ea2d 6 = .ok (.iadd, 1) := by decide +kernel
theorem dJx4a65c_add_9ea2d_7 : decode cJx4a65c_add_9ea2d 7 = .ok (.putfield 63, 3) := by decide +kernel
theorem dJx4a65c_add_9ea2d_10 : decode cJx4a65c_add_9ea2d 10 = .ok (.aload_n 0, 1) := by decide +kernel
theorem dJx4a65c_add_9ea2d_11 : decode cJx4a65c_add_9ea2d 11 = .ok (.aload_n 1, 1) := by decide +kernel
theorem dJx4a65c_add_9ea2d_12 : decode cJx4a65c_add_9ea2d 12 = .ok (.aload_n 0, 1) := by decide +kernel
theorem dJx4a65c_add_9ea2d_13 : decode cJx4a65c_add_9ea2d 13 = .ok (.getfield 9, 3) := by decide +kernel
theorem dJx4a65c_add_9ea2d_16 : decode cJx4a65c_add_9ea2d 16 = .ok (.aload_n 0, 1) := by decide +kernel
theorem dJx4a65c_add_9ea2d_17 : decode cJx4a65c_add_9ea2d 17 = .ok (.getfield 48, 3) := by decide +kernel
theorem dJx4a65c_add_9ea2d_20 : decode cJx4a65c_add_9ea2d 20 = .ok (.invokevirtual 131, 3) := by decide +kernel
theorem dJx4a65c_add_9ea2d_23 : decode cJx4a65c_add_9ea2d 23 = .ok (.iconst 1, 1) := by decide +kernel
theorem dJx4a65c_add_9ea2d_24 : decode cJx4a65c_add_9ea2d 24 = .ok (.ireturn, 1) := by decide +kernel
theorem dJx4a65c_iterator_32c93_0 : decode cJx4a65c_iterator_32c93 0 = .ok (.new 267, 3) := by decide +kernel
theorem dJx4a65c_iterator_32c93_3 : decode cJx4a65c_iterator_32c93 3 = .ok (.dup, 1) := by decide +kernel
theorem dJx4a65c_iterator_32c93_4 : decode cJx4a65c_iterator_32c93 4 = .ok (.aload_n 0, 1) := by decide +kernel
theorem dJx4a65c_iterator_32c93_5 : decode cJx4a65c_iterator_32c93 5 = .ok (.invokespecial 269, 3) := by decide +kernel
theorem dJx4a65c_iterator_32c93_8 : decode cJx4a65c_iterator_32c93 8 = .ok (.areturn, 1) := by decide +kernel
theorem dJ7_fill_53178_0 : decode cJ7_fill_53178 0 = .ok (.iconst 0, 1) := by decide +kernel
theorem dJ7_fill_53178_1 : decode cJ7_fill_53178 1 = .ok (.istore_n 2, 1) := by decide +kernel
theorem dJ7_fill_53178_2 : decode cJ7_fill_53178 2 = .ok (.aload_n 0, 1) := by decide +kernel
theorem dJ7_fill_53178_3 : decode cJ7_fill_53178 3 = .ok (.arraylength, 1) := by decide +kernel
theorem dJ7_fill_53178_4 : decode cJ7_fill_53178 4 = .ok (.istore_n 3, 1) := by decide +kernel
theorem dJ7_fill_53178_5 : decode cJ7_fill_53178 5 = .ok (.iload_n 2, 1) := by decide +kernel
theorem dJ7_fill_53178_6 : decode cJ7_fill_53178 6 = .ok (.iload_n 3, 1) := by decide +kernel
theorem dJ7_fill_53178_7 : decode cJ7_fill_53178 7 = .ok (.if_icmp .ge 13, 3) := by decide +kernel
theorem dJ7_fill_53178_10 : decode cJ7_fill_53178 10 = .ok (.aload_n 0, 1) := by decide +kernel
theorem dJ7_fill_53178_11 : decode cJ7_fill_53178 11 = .ok (.iload_n 2, 1) := by decide +kernel
theorem dJ7_fill_53178_12 : decode cJ7_fill_53178 12 = .ok (.iload_n 1, 1) := by decide +kernel
theorem dJ7_fill_53178_13 : decode cJ7_fill_53178 13 = .ok (.iastore, 1) := by decide +kernel
theorem dJ7_fill_53178_14 : decode cJ7_fill_53178 14 = .ok (.iinc 2 1, 3) := by decide +kernel
theorem dJ7_fill_53178_17 : decode cJ7_fill_53178 17 = .ok (.goto (-12), 3) := by decide +kernel
theorem dJ7_fill_53178_20 : decode cJ7_fill_53178 20 = .ok (.return_, 1) := by decide +kernel
theorem dL_panel_0 : decode cL_panel 0 = .ok (.aload_n 2, 1) := by decide +kernel
theorem dL_panel_1 : decode cL_panel 1 = .ok (.iconst 0, 1) := by decide +kernel
theorem dL_panel_2 : decode cL_panel 2 = .ok (.aload_n 0, 1) := by decide +kernel
theorem dL_panel_3 : decode cL_panel 3 = .ok (.iload_n 1, 1) := by decide +kernel
theorem dL_panel_4 : decode cL_panel 4 = .ok (.invokevirtual 7, 3) := by decide +kernel
theorem dL_panel_7 : decode cL_panel 7 = .ok (.i2l, 1) := by decide +kernel
theorem dL_panel_8 : decode cL_panel 8 = .ok (.lastore, 1) := by decide +kernel
theorem dL_panel_9 : decode cL_panel 9 = .ok (.goto 9, 3) := by decide +kernel
theorem dL_panel_18 : decode cL_panel 18 = .ok (.iconst 0, 1) := by decide +kernel
theorem dL_panel_19 : decode cL_panel 19 = .ok (.ireturn, 1) := by decide +kernel
theorem dL_spot_0 : decode cL_spot 0 = .ok (.aload 7, 2) := by decide +kernel
theorem dL_spot_2 : decode cL_spot 2 = .ok (.iconst 0, 1) := by decide +kernel
theorem dL_spot_3 : decode cL_spot 3 = .ok (.aload_n 0, 1) := by decide +kernel
theorem dL_spot_4 : decode cL_spot 4 = .ok (.iload_n 1, 1) := by decide +kernel
theorem dL_spot_5 : decode cL_spot 5 = .ok (.iload_n 2, 1) := by decide +kernel
theorem dL_spot_6 : decode cL_spot 6 = .ok (.iload_n 3, 1) := by decide +kernel
theorem dL_spot_7 : decode cL_spot 7 = .ok (.iload 4, 2) := by decide +kernel
theorem dL_spot_9 : decode cL_spot 9 = .ok (.iload 5, 2) := by decide +kernel
theorem dL_spot_11 : decode cL_spot 11 = .ok (.iload 6, 2) := by decide +kernel
theorem dL_spot_13 : decode cL_spot 13 = .ok (.invokevirtual 17, 3) := by decide +kernel
theorem dL_spot_21 : decode cL_spot 21 = .ok (.astore 8, 2) := by decide +kernel
theorem dL_spot_23 : decode cL_spot 23 = .ok (.iconst 1, 1) := by decide +kernel
theorem dL_spot_24 : decode cL_spot 24 = .ok (.ireturn, 1) := by decide +kernel
theorem dL_spots_0 : decode cL_spots 0 = .ok (.aload_n 2, 1) := by decide +kernel
theorem dL_spots_1 : decode cL_spots 1 = .ok (.iconst 0, 1) := by decide +kernel
theorem dL_spots_2 : decode cL_spots 2 = .ok (.aload_n 0, 1) := by decide +kernel
theorem dL_spots_3 : decode cL_spots 3 = .ok (.iload_n 1, 1) := by decide +kernel
theorem dL_spots_4 : decode cL_spots 4 = .ok (.invokevirtual 25, 3) := by decide +kernel
theorem dL_spots_7 : decode cL_spots 7 = .ok (.i2l, 1) := by decide +kernel
theorem dL_spots_8 : decode cL_spots 8 = .ok (.lastore, 1) := by decide +kernel
theorem dL_spots_9 : decode cL_spots 9 = .ok (.goto 6, 3) := by decide +kernel
theorem dL_spots_12 : decode cL_spots 12 = .ok (.astore_n 3, 1) := by decide +kernel
theorem dL_spots_13 : decode cL_spots 13 = .ok (.iconst 1, 1) := by decide +kernel
theorem dL_spots_14 : decode cL_spots 14 = .ok (.ireturn, 1) := by decide +kernel
theorem dL_spots_15 : decode cL_spots 15 = .ok (.iconst 0, 1) := by decide +kernel
theorem dL_spots_16 : decode cL_spots 16 = .ok (.ireturn, 1) := by decide +kernel
theorem dL_isHeld_0 : decode cL_isHeld 0 = .ok (.aload_n 2, 1) := by decide +kernel
theorem dL_isHeld_1 : decode cL_isHeld 1 = .ok (.iconst 0, 1) := by decide +kernel
theorem dL_isHeld_2 : decode cL_isHeld 2 = .ok (.aload_n 0, 1) := by decide +kernel
theorem dL_isHeld_3 : decode cL_isHeld 3 = .ok (.iload_n 1, 1) := by decide +kernel
theorem dL_isHeld_4 : decode cL_isHeld 4 = .ok (.invokevirtual 28, 3) := by decide +kernel
theorem dL_isHeld_7 : decode cL_isHeld 7 = .ok (.ifCond .eq 7, 3) := by decide +kernel
theorem dL_isHeld_10 : decode cL_isHeld 10 = .ok (.lconst 1, 1) := by decide +kernel
theorem dL_isHeld_11 : decode cL_isHeld 11 = .ok (.goto 4, 3) := by decide +kernel
theorem dL_isHeld_15 : decode cL_isHeld 15 = .ok (.lastore, 1) := by decide +kernel
theorem dL_isHeld_16 : decode cL_isHeld 16 = .ok (.goto 6, 3) := by decide +kernel
theorem dL_isHeld_19 : decode cL_isHeld 19 = .ok (.astore_n 3, 1) := by decide +kernel
theorem dL_isHeld_20 : decode cL_isHeld 20 = .ok (.iconst 1, 1) := by decide +kernel
theorem dL_isHeld_21 : decode cL_isHeld 21 = .ok (.ireturn, 1) := by decide +kernel
theorem dL_isHeld_22 : decode cL_isHeld 22 = .ok (.iconst 0, 1) := by decide +kernel
theorem dL_isHeld_23 : decode cL_isHeld 23 = .ok (.ireturn, 1) := by decide +kernel
theorem dL_station_0 : decode cL_station 0 = .ok (.aload_n 1, 1) := by decide +kernel
theorem dL_station_1 : decode cL_station 1 = .ok (.iconst 0, 1) := by decide +kernel
theorem dL_station_2 : decode cL_station 2 = .ok (.aload_n 0, 1) := by decide +kernel
theorem dL_station_3 : decode cL_station 3 = .ok (.invokevirtual 32, 3) := by decide +kernel
theorem dL_station_6 : decode cL_station 6 = .ok (.i2l, 1) := by decide +kernel
theorem dL_station_7 : decode cL_station 7 = .ok (.lastore, 1) := by decide +kernel
theorem dL_station_8 : decode cL_station 8 = .ok (.goto 6, 3) := by decide +kernel
theorem dL_station_14 : decode cL_station 14 = .ok (.iconst 0, 1) := by decide +kernel
theorem dL_station_15 : decode cL_station 15 = .ok (.ireturn, 1) := by decide +kernel
theorem dL_robot_0 : decode cL_robot 0 = .ok (.aload 4, 2) := by decide +kernel
theorem dL_robot_2 : decode cL_robot 2 = .ok (.iconst 0, 1) := by decide +kernel
theorem dL_robot_3 : decode cL_robot 3 = .ok (.aload_n 0, 1) := by decide +kernel
theorem dL_robot_4 : decode cL_robot 4 = .ok (.iload_n 1, 1) := by decide +kernel
theorem dL_robot_5 : decode cL_robot 5 = .ok (.iload_n 2, 1) := by decide +kernel
theorem dL_robot_6 : decode cL_robot 6 = .ok (.iload_n 3, 1) := by decide +kernel
theorem dL_robot_7 : decode cL_robot 7 = .ok (.invokevirtual 36, 3) := by decide +kernel
theorem dL_robot_15 : decode cL_robot 15 = .ok (.astore 5, 2) := by decide +kernel
theorem dL_robot_17 : decode cL_robot 17 = .ok (.iconst 1, 1) := by decide +kernel
theorem dL_robot_18 : decode cL_robot 18 = .ok (.ireturn, 1) := by decide +kernel
theorem dL_reaches_0 : decode cL_reaches 0 = .ok (.aload_n 3, 1) := by decide +kernel
theorem dL_reaches_1 : decode cL_reaches 1 = .ok (.iconst 0, 1) := by decide +kernel
theorem dL_reaches_2 : decode cL_reaches 2 = .ok (.aload_n 0, 1) := by decide +kernel
theorem dL_reaches_3 : decode cL_reaches 3 = .ok (.iload_n 1, 1) := by decide +kernel
theorem dL_reaches_4 : decode cL_reaches 4 = .ok (.iload_n 2, 1) := by decide +kernel
theorem dL_reaches_5 : decode cL_reaches 5 = .ok (.invokevirtual 40, 3) := by decide +kernel
theorem dL_reaches_20 : decode cL_reaches 20 = .ok (.astore 4, 2) := by decide +kernel
theorem dL_reaches_22 : decode cL_reaches 22 = .ok (.iconst 1, 1) := by decide +kernel
theorem dL_reaches_23 : decode cL_reaches 23 = .ok (.ireturn, 1) := by decide +kernel
theorem dL_swept_0 : decode cL_swept 0 = .ok (.aload_n 3, 1) := by decide +kernel
theorem dL_swept_1 : decode cL_swept 1 = .ok (.iconst 0, 1) := by decide +kernel
theorem dL_swept_2 : decode cL_swept 2 = .ok (.aload_n 0, 1) := by decide +kernel
theorem dL_swept_3 : decode cL_swept 3 = .ok (.iload_n 1, 1) := by decide +kernel
theorem dL_swept_4 : decode cL_swept 4 = .ok (.iload_n 2, 1) := by decide +kernel
theorem dL_swept_5 : decode cL_swept 5 = .ok (.invokevirtual 44, 3) := by decide +kernel
theorem dL_swept_8 : decode cL_swept 8 = .ok (.i2l, 1) := by decide +kernel
theorem dL_swept_9 : decode cL_swept 9 = .ok (.lastore, 1) := by decide +kernel
theorem dL_swept_10 : decode cL_swept 10 = .ok (.goto 7, 3) := by decide +kernel
theorem dL_swept_13 : decode cL_swept 13 = .ok (.astore 4, 2) := by decide +kernel
theorem dL_swept_15 : decode cL_swept 15 = .ok (.iconst 1, 1) := by decide +kernel
theorem dL_swept_16 : decode cL_swept 16 = .ok (.ireturn, 1) := by decide +kernel
theorem dL_swept_17 : decode cL_swept 17 = .ok (.iconst 0, 1) := by decide +kernel
theorem dL_swept_18 : decode cL_swept 18 = .ok (.ireturn, 1) := by decide +kernel
theorem dL_current_0 : decode cL_current 0 = .ok (.aload_n 3, 1) := by decide +kernel
theorem dL_current_1 : decode cL_current 1 = .ok (.iconst 0, 1) := by decide +kernel
theorem dL_current_2 : decode cL_current 2 = .ok (.aload_n 0, 1) := by decide +kernel
theorem dL_current_3 : decode cL_current 3 = .ok (.iload_n 1, 1) := by decide +kernel
theorem dL_current_4 : decode cL_current 4 = .ok (.iload_n 2, 1) := by decide +kernel
theorem dL_current_5 : decode cL_current 5 = .ok (.invokevirtual 48, 3) := by decide +kernel
theorem dL_current_13 : decode cL_current 13 = .ok (.astore 4, 2) := by decide +kernel
theorem dL_current_15 : decode cL_current 15 = .ok (.iconst 1, 1) := by decide +kernel
theorem dL_current_16 : decode cL_current 16 = .ok (.ireturn, 1) := by decide +kernel
theorem dL_step_0 : decode cL_step 0 = .ok (.aload 5, 2) := by decide +kernel
theorem dL_step_2 : decode cL_step 2 = .ok (.iconst 0, 1) := by decide +kernel
theorem dL_step_3 : decode cL_step 3 = .ok (.aload_n 0, 1) := by decide +kernel
theorem dL_step_4 : decode cL_step 4 = .ok (.iload_n 1, 1) := by decide +kernel
theorem dL_step_5 : decode cL_step 5 = .ok (.iload_n 2, 1) := by decide +kernel
theorem dL_step_6 : decode cL_step 6 = .ok (.iload_n 3, 1) := by decide +kernel
theorem dL_step_7 : decode cL_step 7 = .ok (.iload 4, 2) := by decide +kernel
theorem dL_step_9 : decode cL_step 9 = .ok (.invokevirtual 51, 3) := by decide +kernel
theorem dL_step_17 : decode cL_step 17 = .ok (.astore 6, 2) := by decide +kernel
theorem dL_step_19 : decode cL_step 19 = .ok (.iconst 1, 1) := by decide +kernel
theorem dL_step_20 : decode cL_step 20 = .ok (.ireturn, 1) := by decide +kernel
theorem dL_erase_0 : decode cL_erase 0 = .ok (.aload_n 3, 1) := by decide +kernel
theorem dL_erase_1 : decode cL_erase 1 = .ok (.iconst 0, 1) := by decide +kernel
theorem dL_erase_2 : decode cL_erase 2 = .ok (.aload_n 0, 1) := by decide +kernel
theorem dL_erase_3 : decode cL_erase 3 = .ok (.iload_n 1, 1) := by decide +kernel
theorem dL_erase_4 : decode cL_erase 4 = .ok (.iload_n 2, 1) := by decide +kernel
theorem dL_erase_5 : decode cL_erase 5 = .ok (.invokevirtual 55, 3) := by decide +kernel
theorem dL_erase_13 : decode cL_erase 13 = .ok (.astore 4, 2) := by decide +kernel
theorem dL_erase_15 : decode cL_erase 15 = .ok (.iconst 1, 1) := by decide +kernel
theorem dL_erase_16 : decode cL_erase 16 = .ok (.ireturn, 1) := by decide +kernel
theorem dL_steps_0 : decode cL_steps 0 = .ok (.aload_n 3, 1) := by decide +kernel
theorem dL_steps_1 : decode cL_steps 1 = .ok (.iconst 0, 1) := by decide +kernel
theorem dL_steps_2 : decode cL_steps 2 = .ok (.aload_n 0, 1) := by decide +kernel
theorem dL_steps_3 : decode cL_steps 3 = .ok (.iload_n 1, 1) := by decide +kernel
theorem dL_steps_4 : decode cL_steps 4 = .ok (.iload_n 2, 1) := by decide +kernel
theorem dL_steps_5 : decode cL_steps 5 = .ok (.invokevirtual 58, 3) := by decide +kernel
theorem dL_steps_13 : decode cL_steps 13 = .ok (.astore 4, 2) := by decide +kernel
theorem dL_steps_15 : decode cL_steps 15 = .ok (.iconst 1, 1) := by decide +kernel
theorem dL_steps_16 : decode cL_steps 16 = .ok (.ireturn, 1) := by decide +kernel
theorem dL_welds_0 : decode cL_welds 0 = .ok (.aload_n 3, 1) := by decide +kernel
theorem dL_welds_1 : decode cL_welds 1 = .ok (.iconst 0, 1) := by decide +kernel
theorem dL_welds_2 : decode cL_welds 2 = .ok (.aload_n 0, 1) := by decide +kernel
theorem dL_welds_3 : decode cL_welds 3 = .ok (.iload_n 1, 1) := by decide +kernel
theorem dL_welds_4 : decode cL_welds 4 = .ok (.iload_n 2, 1) := by decide +kernel
theorem dL_welds_5 : decode cL_welds 5 = .ok (.invokevirtual 61, 3) := by decide +kernel
theorem dL_welds_13 : decode cL_welds 13 = .ok (.astore 4, 2) := by decide +kernel
theorem dL_welds_15 : decode cL_welds 15 = .ok (.iconst 1, 1) := by decide +kernel
theorem dL_welds_16 : decode cL_welds 16 = .ok (.ireturn, 1) := by decide +kernel
theorem dL_proof_0 : decode cL_proof 0 = .ok (.aload_n 3, 1) := by decide +kernel
theorem dL_proof_1 : decode cL_proof 1 = .ok (.iconst 0, 1) := by decide +kernel
theorem dL_proof_2 : decode cL_proof 2 = .ok (.aload_n 0, 1) := by decide +kernel
theorem dL_proof_3 : decode cL_proof 3 = .ok (.iload_n 1, 1) := by decide +kernel
theorem dL_proof_4 : decode cL_proof 4 = .ok (.iload_n 2, 1) := by decide +kernel
theorem dL_proof_5 : decode cL_proof 5 = .ok (.invokevirtual 64, 3) := by decide +kernel
theorem dL_proof_13 : decode cL_proof 13 = .ok (.astore 4, 2) := by decide +kernel
theorem dL_proof_15 : decode cL_proof 15 = .ok (.iconst 1, 1) := by decide +kernel
theorem dL_proof_16 : decode cL_proof 16 = .ok (.ireturn, 1) := by decide +kernel
theorem dL_states_0 : decode cL_states 0 = .ok (.aload_n 3, 1) := by decide +kernel
theorem dL_states_1 : decode cL_states 1 = .ok (.iconst 0, 1) := by decide +kernel
theorem dL_states_2 : decode cL_states 2 = .ok (.aload_n 0, 1) := by decide +kernel
theorem dL_states_3 : decode cL_states 3 = .ok (.iload_n 1, 1) := by decide +kernel
theorem dL_states_4 : decode cL_states 4 = .ok (.iload_n 2, 1) := by decide +kernel
theorem dL_states_5 : decode cL_states 5 = .ok (.invokevirtual 68, 3) := by decide +kernel
theorem dL_states_13 : decode cL_states 13 = .ok (.astore 4, 2) := by decide +kernel
theorem dL_states_15 : decode cL_states 15 = .ok (.iconst 1, 1) := by decide +kernel
theorem dL_states_16 : decode cL_states 16 = .ok (.ireturn, 1) := by decide +kernel
theorem dL_uncovered_0 : decode cL_uncovered 0 = .ok (.aload_n 2, 1) := by decide +kernel
theorem dL_uncovered_1 : decode cL_uncovered 1 = .ok (.iconst 0, 1) := by decide +kernel
theorem dL_uncovered_2 : decode cL_uncovered 2 = .ok (.aload_n 0, 1) := by decide +kernel
theorem dL_uncovered_3 : decode cL_uncovered 3 = .ok (.iload_n 1, 1) := by decide +kernel
theorem dL_uncovered_4 : decode cL_uncovered 4 = .ok (.invokevirtual 71, 3) := by decide +kernel
theorem dL_uncovered_7 : decode cL_uncovered 7 = .ok (.i2l, 1) := by decide +kernel
theorem dL_uncovered_8 : decode cL_uncovered 8 = .ok (.lastore, 1) := by decide +kernel
theorem dL_uncovered_9 : decode cL_uncovered 9 = .ok (.goto 6, 3) := by decide +kernel
theorem dL_uncovered_12 : decode cL_uncovered 12 = .ok (.astore_n 3, 1) := by decide +kernel
theorem dL_uncovered_13 : decode cL_uncovered 13 = .ok (.iconst 1, 1) := by decide +kernel
theorem dL_uncovered_14 : decode cL_uncovered 14 = .ok (.ireturn, 1) := by decide +kernel
theorem dL_uncovered_15 : decode cL_uncovered 15 = .ok (.iconst 0, 1) := by decide +kernel
theorem dL_uncovered_16 : decode cL_uncovered 16 = .ok (.ireturn, 1) := by decide +kernel
theorem dL_deal_0 : decode cL_deal 0 = .ok (.aload_n 2, 1) := by decide +kernel
theorem dL_deal_1 : decode cL_deal 1 = .ok (.iconst 0, 1) := by decide +kernel
theorem dL_deal_2 : decode cL_deal 2 = .ok (.aload_n 0, 1) := by decide +kernel
theorem dL_deal_3 : decode cL_deal 3 = .ok (.iload_n 1, 1) := by decide +kernel
theorem dL_deal_4 : decode cL_deal 4 = .ok (.invokevirtual 74, 3) := by decide +kernel
theorem dL_deal_7 : decode cL_deal 7 = .ok (.i2l, 1) := by decide +kernel
theorem dL_deal_8 : decode cL_deal 8 = .ok (.lastore, 1) := by decide +kernel
theorem dL_deal_9 : decode cL_deal 9 = .ok (.goto 6, 3) := by decide +kernel
theorem dL_deal_12 : decode cL_deal 12 = .ok (.astore_n 3, 1) := by decide +kernel
theorem dL_deal_13 : decode cL_deal 13 = .ok (.iconst 1, 1) := by decide +kernel
theorem dL_deal_14 : decode cL_deal 14 = .ok (.ireturn, 1) := by decide +kernel
theorem dL_deal_15 : decode cL_deal 15 = .ok (.iconst 0, 1) := by decide +kernel
theorem dL_deal_16 : decode cL_deal 16 = .ok (.ireturn, 1) := by decide +kernel
theorem dL_order_0 : decode cL_order 0 = .ok (.aload_n 2, 1) := by decide +kernel
theorem dL_order_1 : decode cL_order 1 = .ok (.iconst 0, 1) := by decide +kernel
theorem dL_order_2 : decode cL_order 2 = .ok (.aload_n 0, 1) := by decide +kernel
theorem dL_order_3 : decode cL_order 3 = .ok (.iload_n 1, 1) := by decide +kernel
theorem dL_order_4 : decode cL_order 4 = .ok (.invokevirtual 77, 3) := by decide +kernel
theorem dL_order_7 : decode cL_order 7 = .ok (.i2l, 1) := by decide +kernel
theorem dL_order_8 : decode cL_order 8 = .ok (.lastore, 1) := by decide +kernel
theorem dL_order_9 : decode cL_order 9 = .ok (.goto 9, 3) := by decide +kernel
theorem dL_order_12 : decode cL_order 12 = .ok (.astore_n 3, 1) := by decide +kernel
theorem dL_order_13 : decode cL_order 13 = .ok (.iconst 1, 1) := by decide +kernel
theorem dL_order_14 : decode cL_order 14 = .ok (.ireturn, 1) := by decide +kernel
theorem dL_order_18 : decode cL_order 18 = .ok (.iconst 0, 1) := by decide +kernel
theorem dL_order_19 : decode cL_order 19 = .ok (.ireturn, 1) := by decide +kernel
theorem dL_beat_0 : decode cL_beat 0 = .ok (.aload_n 1, 1) := by decide +kernel
theorem dL_beat_1 : decode cL_beat 1 = .ok (.iconst 0, 1) := by decide +kernel
theorem dL_beat_2 : decode cL_beat 2 = .ok (.aload_n 0, 1) := by decide +kernel
theorem dL_beat_3 : decode cL_beat 3 = .ok (.invokevirtual 80, 3) := by decide +kernel
theorem dL_beat_11 : decode cL_beat 11 = .ok (.astore_n 2, 1) := by decide +kernel
theorem dL_beat_12 : decode cL_beat 12 = .ok (.iconst 1, 1) := by decide +kernel
theorem dL_beat_13 : decode cL_beat 13 = .ok (.ireturn, 1) := by decide +kernel
theorem dL_at_0 : decode cL_at 0 = .ok (.aload_n 2, 1) := by decide +kernel
theorem dL_at_1 : decode cL_at 1 = .ok (.iconst 0, 1) := by decide +kernel
theorem dL_at_2 : decode cL_at 2 = .ok (.aload_n 0, 1) := by decide +kernel
theorem dL_at_3 : decode cL_at 3 = .ok (.iload_n 1, 1) := by decide +kernel
theorem dL_at_4 : decode cL_at 4 = .ok (.invokevirtual 83, 3) := by decide +kernel
theorem dL_at_12 : decode cL_at 12 = .ok (.astore_n 3, 1) := by decide +kernel
theorem dL_at_13 : decode cL_at 13 = .ok (.iconst 1, 1) := by decide +kernel
theorem dL_at_14 : decode cL_at 14 = .ok (.ireturn, 1) := by decide +kernel
theorem dL_where_0 : decode cL_where 0 = .ok (.aload_n 2, 1) := by decide +kernel
theorem dL_where_1 : decode cL_where 1 = .ok (.iconst 0, 1) := by decide +kernel
theorem dL_where_2 : decode cL_where 2 = .ok (.aload_n 0, 1) := by decide +kernel
theorem dL_where_3 : decode cL_where 3 = .ok (.iload_n 1, 1) := by decide +kernel
theorem dL_where_4 : decode cL_where 4 = .ok (.invokevirtual 88, 3) := by decide +kernel
theorem dL_where_12 : decode cL_where 12 = .ok (.astore_n 3, 1) := by decide +kernel
theorem dL_where_13 : decode cL_where 13 = .ok (.iconst 1, 1) := by decide +kernel
theorem dL_where_14 : decode cL_where 14 = .ok (.ireturn, 1) := by decide +kernel
theorem dL_stand_0 : decode cL_stand 0 = .ok (.aload_n 3, 1) := by decide +kernel
theorem dL_stand_1 : decode cL_stand 1 = .ok (.iconst 0, 1) := by decide +kernel
theorem dL_stand_2 : decode cL_stand 2 = .ok (.aload_n 0, 1) := by decide +kernel
theorem dL_stand_3 : decode cL_stand 3 = .ok (.iload_n 1, 1) := by decide +kernel
theorem dL_stand_4 : decode cL_stand 4 = .ok (.iload_n 2, 1) := by decide +kernel
theorem dL_stand_5 : decode cL_stand 5 = .ok (.invokevirtual 91, 3) := by decide +kernel
theorem dL_stand_20 : decode cL_stand 20 = .ok (.astore 4, 2) := by decide +kernel
theorem dL_stand_22 : decode cL_stand 22 = .ok (.iconst 1, 1) := by decide +kernel
theorem dL_stand_23 : decode cL_stand 23 = .ok (.ireturn, 1) := by decide +kernel
theorem dL_letters_0 : decode cL_letters 0 = .ok (.aload_n 3, 1) := by decide +kernel
theorem dL_letters_1 : decode cL_letters 1 = .ok (.iconst 0, 1) := by decide +kernel
theorem dL_letters_2 : decode cL_letters 2 = .ok (.aload_n 0, 1) := by decide +kernel
theorem dL_letters_3 : decode cL_letters 3 = .ok (.iload_n 1, 1) := by decide +kernel
theorem dL_letters_4 : decode cL_letters 4 = .ok (.iload_n 2, 1) := by decide +kernel
theorem dL_letters_5 : decode cL_letters 5 = .ok (.invokevirtual 95, 3) := by decide +kernel
theorem dL_letters_13 : decode cL_letters 13 = .ok (.astore 4, 2) := by decide +kernel
theorem dL_letters_15 : decode cL_letters 15 = .ok (.iconst 1, 1) := by decide +kernel
theorem dL_letters_16 : decode cL_letters 16 = .ok (.ireturn, 1) := by decide +kernel
theorem dL_die_0 : decode cL_die 0 = .ok (.aload_n 3, 1) := by decide +kernel
theorem dL_die_1 : decode cL_die 1 = .ok (.iconst 0, 1) := by decide +kernel
theorem dL_die_2 : decode cL_die 2 = .ok (.aload_n 0, 1) := by decide +kernel
theorem dL_die_3 : decode cL_die 3 = .ok (.iload_n 1, 1) := by decide +kernel
theorem dL_die_4 : decode cL_die 4 = .ok (.iload_n 2, 1) := by decide +kernel
theorem dL_die_5 : decode cL_die 5 = .ok (.invokevirtual 99, 3) := by decide +kernel
theorem dL_die_20 : decode cL_die 20 = .ok (.astore 4, 2) := by decide +kernel
theorem dL_die_22 : decode cL_die 22 = .ok (.iconst 1, 1) := by decide +kernel
theorem dL_die_23 : decode cL_die 23 = .ok (.ireturn, 1) := by decide +kernel
theorem dL_standIn_0 : decode cL_standIn 0 = .ok (.aload_n 3, 1) := by decide +kernel
theorem dL_standIn_1 : decode cL_standIn 1 = .ok (.iconst 0, 1) := by decide +kernel
theorem dL_standIn_2 : decode cL_standIn 2 = .ok (.aload_n 0, 1) := by decide +kernel
theorem dL_standIn_3 : decode cL_standIn 3 = .ok (.iload_n 1, 1) := by decide +kernel
theorem dL_standIn_4 : decode cL_standIn 4 = .ok (.iload_n 2, 1) := by decide +kernel
theorem dL_standIn_5 : decode cL_standIn 5 = .ok (.invokevirtual 102, 3) := by decide +kernel
theorem dL_standIn_13 : decode cL_standIn 13 = .ok (.astore 4, 2) := by decide +kernel
theorem dL_standIn_15 : decode cL_standIn 15 = .ok (.iconst 1, 1) := by decide +kernel
theorem dL_standIn_16 : decode cL_standIn 16 = .ok (.ireturn, 1) := by decide +kernel
theorem dL_wear_0 : decode cL_wear 0 = .ok (.aload_n 2, 1) := by decide +kernel
theorem dL_wear_1 : decode cL_wear 1 = .ok (.iconst 0, 1) := by decide +kernel
theorem dL_wear_2 : decode cL_wear 2 = .ok (.aload_n 0, 1) := by decide +kernel
theorem dL_wear_3 : decode cL_wear 3 = .ok (.iload_n 1, 1) := by decide +kernel
theorem dL_wear_4 : decode cL_wear 4 = .ok (.invokevirtual 105, 3) := by decide +kernel
theorem dL_wear_12 : decode cL_wear 12 = .ok (.astore_n 3, 1) := by decide +kernel
theorem dL_wear_13 : decode cL_wear 13 = .ok (.iconst 1, 1) := by decide +kernel
theorem dL_wear_14 : decode cL_wear 14 = .ok (.ireturn, 1) := by decide +kernel
theorem dL_dress_0 : decode cL_dress 0 = .ok (.aload_n 2, 1) := by decide +kernel
theorem dL_dress_1 : decode cL_dress 1 = .ok (.iconst 0, 1) := by decide +kernel
theorem dL_dress_2 : decode cL_dress 2 = .ok (.aload_n 0, 1) := by decide +kernel
theorem dL_dress_3 : decode cL_dress 3 = .ok (.iload_n 1, 1) := by decide +kernel
theorem dL_dress_4 : decode cL_dress 4 = .ok (.invokevirtual 108, 3) := by decide +kernel
theorem dL_dress_12 : decode cL_dress 12 = .ok (.astore_n 3, 1) := by decide +kernel
theorem dL_dress_13 : decode cL_dress 13 = .ok (.iconst 1, 1) := by decide +kernel
theorem dL_dress_14 : decode cL_dress 14 = .ok (.ireturn, 1) := by decide +kernel
theorem dL_change_0 : decode cL_change 0 = .ok (.aload_n 2, 1) := by decide +kernel
theorem dL_change_1 : decode cL_change 1 = .ok (.iconst 0, 1) := by decide +kernel
theorem dL_change_2 : decode cL_change 2 = .ok (.aload_n 0, 1) := by decide +kernel
theorem dL_change_3 : decode cL_change 3 = .ok (.iload_n 1, 1) := by decide +kernel
theorem dL_change_4 : decode cL_change 4 = .ok (.invokevirtual 111, 3) := by decide +kernel
theorem dL_change_12 : decode cL_change 12 = .ok (.astore_n 3, 1) := by decide +kernel
theorem dL_change_13 : decode cL_change 13 = .ok (.iconst 1, 1) := by decide +kernel
theorem dL_change_14 : decode cL_change 14 = .ok (.ireturn, 1) := by decide +kernel
theorem dL_made_0 : decode cL_made 0 = .ok (.aload_n 2, 1) := by decide +kernel
theorem dL_made_1 : decode cL_made 1 = .ok (.iconst 0, 1) := by decide +kernel
theorem dL_made_2 : decode cL_made 2 = .ok (.aload_n 0, 1) := by decide +kernel
theorem dL_made_3 : decode cL_made 3 = .ok (.iload_n 1, 1) := by decide +kernel
theorem dL_made_4 : decode cL_made 4 = .ok (.invokevirtual 114, 3) := by decide +kernel
theorem dL_made_12 : decode cL_made 12 = .ok (.astore_n 3, 1) := by decide +kernel
theorem dL_made_13 : decode cL_made 13 = .ok (.iconst 1, 1) := by decide +kernel
theorem dL_made_14 : decode cL_made 14 = .ok (.ireturn, 1) := by decide +kernel
theorem dL_lacks_0 : decode cL_lacks 0 = .ok (.aload_n 2, 1) := by decide +kernel
theorem dL_lacks_1 : decode cL_lacks 1 = .ok (.iconst 0, 1) := by decide +kernel
theorem dL_lacks_2 : decode cL_lacks 2 = .ok (.aload_n 0, 1) := by decide +kernel
theorem dL_lacks_3 : decode cL_lacks 3 = .ok (.iload_n 1, 1) := by decide +kernel
theorem dL_lacks_4 : decode cL_lacks 4 = .ok (.invokevirtual 117, 3) := by decide +kernel
theorem dL_lacks_12 : decode cL_lacks 12 = .ok (.astore_n 3, 1) := by decide +kernel
theorem dL_lacks_13 : decode cL_lacks 13 = .ok (.iconst 1, 1) := by decide +kernel
theorem dL_lacks_14 : decode cL_lacks 14 = .ok (.ireturn, 1) := by decide +kernel
theorem dL_isLacking_0 : decode cL_isLacking 0 = .ok (.aload_n 3, 1) := by decide +kernel
theorem dL_isLacking_1 : decode cL_isLacking 1 = .ok (.iconst 0, 1) := by decide +kernel
theorem dL_isLacking_2 : decode cL_isLacking 2 = .ok (.aload_n 0, 1) := by decide +kernel
theorem dL_isLacking_3 : decode cL_isLacking 3 = .ok (.iload_n 1, 1) := by decide +kernel
theorem dL_isLacking_4 : decode cL_isLacking 4 = .ok (.iload_n 2, 1) := by decide +kernel
theorem dL_isLacking_5 : decode cL_isLacking 5 = .ok (.invokevirtual 120, 3) := by decide +kernel
theorem dL_isLacking_20 : decode cL_isLacking 20 = .ok (.astore 4, 2) := by decide +kernel
theorem dL_isLacking_22 : decode cL_isLacking 22 = .ok (.iconst 1, 1) := by decide +kernel
theorem dL_isLacking_23 : decode cL_isLacking 23 = .ok (.ireturn, 1) := by decide +kernel
theorem dL_firstLacking_0 : decode cL_firstLacking 0 = .ok (.aload_n 2, 1) := by decide +kernel
theorem dL_firstLacking_1 : decode cL_firstLacking 1 = .ok (.iconst 0, 1) := by decide +kernel
theorem dL_firstLacking_2 : decode cL_firstLacking 2 = .ok (.aload_n 0, 1) := by decide +kernel
theorem dL_firstLacking_3 : decode cL_firstLacking 3 = .ok (.iload_n 1, 1) := by decide +kernel
theorem dL_firstLacking_4 : decode cL_firstLacking 4 = .ok (.invokevirtual 123, 3) := by decide +kernel
theorem dL_firstLacking_12 : decode cL_firstLacking 12 = .ok (.astore_n 3, 1) := by decide +kernel
theorem dL_firstLacking_13 : decode cL_firstLacking 13 = .ok (.iconst 1, 1) := by decide +kernel
theorem dL_firstLacking_14 : decode cL_firstLacking 14 = .ok (.ireturn, 1) := by decide +kernel
theorem dL_mend_0 : decode cL_mend 0 = .ok (.aload_n 3, 1) := by decide +kernel
theorem dL_mend_1 : decode cL_mend 1 = .ok (.iconst 0, 1) := by decide +kernel
theorem dL_mend_2 : decode cL_mend 2 = .ok (.aload_n 0, 1) := by decide +kernel
theorem dL_mend_3 : decode cL_mend 3 = .ok (.iload_n 1, 1) := by decide +kernel
theorem dL_mend_4 : decode cL_mend 4 = .ok (.iload_n 2, 1) := by decide +kernel
theorem dL_mend_5 : decode cL_mend 5 = .ok (.invokevirtual 126, 3) := by decide +kernel
theorem dL_mend_13 : decode cL_mend 13 = .ok (.astore 4, 2) := by decide +kernel
theorem dL_mend_15 : decode cL_mend 15 = .ok (.iconst 1, 1) := by decide +kernel
theorem dL_mend_16 : decode cL_mend 16 = .ok (.ireturn, 1) := by decide +kernel
theorem dL_maker_0 : decode cL_maker 0 = .ok (.aload_n 3, 1) := by decide +kernel
theorem dL_maker_1 : decode cL_maker 1 = .ok (.iconst 0, 1) := by decide +kernel
theorem dL_maker_2 : decode cL_maker 2 = .ok (.aload_n 0, 1) := by decide +kernel
theorem dL_maker_3 : decode cL_maker 3 = .ok (.iload_n 1, 1) := by decide +kernel
theorem dL_maker_4 : decode cL_maker 4 = .ok (.iload_n 2, 1) := by decide +kernel
theorem dL_maker_5 : decode cL_maker 5 = .ok (.invokevirtual 129, 3) := by decide +kernel
theorem dL_maker_13 : decode cL_maker 13 = .ok (.astore 4, 2) := by decide +kernel
theorem dL_maker_15 : decode cL_maker 15 = .ok (.iconst 1, 1) := by decide +kernel
theorem dL_maker_16 : decode cL_maker 16 = .ok (.ireturn, 1) := by decide +kernel
theorem dL_offset_0 : decode cL_offset 0 = .ok (.aload_n 3, 1) := by decide +kernel
theorem dL_offset_1 : decode cL_offset 1 = .ok (.iconst 0, 1) := by decide +kernel
theorem dL_offset_2 : decode cL_offset 2 = .ok (.aload_n 0, 1) := by decide +kernel
theorem dL_offset_3 : decode cL_offset 3 = .ok (.iload_n 1, 1) := by decide +kernel
theorem dL_offset_4 : decode cL_offset 4 = .ok (.iload_n 2, 1) := by decide +kernel
theorem dL_offset_5 : decode cL_offset 5 = .ok (.invokevirtual 132, 3) := by decide +kernel
theorem dL_offset_13 : decode cL_offset 13 = .ok (.astore 4, 2) := by decide +kernel
theorem dL_offset_15 : decode cL_offset 15 = .ok (.iconst 1, 1) := by decide +kernel
theorem dL_offset_16 : decode cL_offset 16 = .ok (.ireturn, 1) := by decide +kernel
theorem dL_measure_0 : decode cL_measure 0 = .ok (.aload_n 2, 1) := by decide +kernel
theorem dL_measure_1 : decode cL_measure 1 = .ok (.iconst 0, 1) := by decide +kernel
theorem dL_measure_2 : decode cL_measure 2 = .ok (.aload_n 0, 1) := by decide +kernel
theorem dL_measure_3 : decode cL_measure 3 = .ok (.iload_n 1, 1) := by decide +kernel
theorem dL_measure_4 : decode cL_measure 4 = .ok (.invokevirtual 135, 3) := by decide +kernel
theorem dL_measure_12 : decode cL_measure 12 = .ok (.astore_n 3, 1) := by decide +kernel
theorem dL_measure_13 : decode cL_measure 13 = .ok (.iconst 1, 1) := by decide +kernel
theorem dL_measure_14 : decode cL_measure 14 = .ok (.ireturn, 1) := by decide +kernel
theorem dL_feedBack_0 : decode cL_feedBack 0 = .ok (.aload_n 3, 1) := by decide +kernel
theorem dL_feedBack_1 : decode cL_feedBack 1 = .ok (.iconst 0, 1) := by decide +kernel
theorem dL_feedBack_2 : decode cL_feedBack 2 = .ok (.aload_n 0, 1) := by decide +kernel
theorem dL_feedBack_3 : decode cL_feedBack 3 = .ok (.iload_n 1, 1) := by decide +kernel
theorem dL_feedBack_4 : decode cL_feedBack 4 = .ok (.iload_n 2, 1) := by decide +kernel
theorem dL_feedBack_5 : decode cL_feedBack 5 = .ok (.invokevirtual 138, 3) := by decide +kernel
theorem dL_feedBack_13 : decode cL_feedBack 13 = .ok (.astore 4, 2) := by decide +kernel
theorem dL_feedBack_15 : decode cL_feedBack 15 = .ok (.iconst 1, 1) := by decide +kernel
theorem dL_feedBack_16 : decode cL_feedBack 16 = .ok (.ireturn, 1) := by decide +kernel
theorem dL_wholeShare_0 : decode cL_wholeShare 0 = .ok (.aload_n 1, 1) := by decide +kernel
theorem dL_wholeShare_1 : decode cL_wholeShare 1 = .ok (.iconst 0, 1) := by decide +kernel
theorem dL_wholeShare_2 : decode cL_wholeShare 2 = .ok (.aload_n 0, 1) := by decide +kernel
theorem dL_wholeShare_3 : decode cL_wholeShare 3 = .ok (.invokevirtual 141, 3) := by decide +kernel
theorem dL_wholeShare_11 : decode cL_wholeShare 11 = .ok (.astore_n 2, 1) := by decide +kernel
theorem dL_wholeShare_12 : decode cL_wholeShare 12 = .ok (.iconst 1, 1) := by decide +kernel
theorem dL_wholeShare_13 : decode cL_wholeShare 13 = .ok (.ireturn, 1) := by decide +kernel
theorem dL_meanMeasure_0 : decode cL_meanMeasure 0 = .ok (.aload_n 1, 1) := by decide +kernel
theorem dL_meanMeasure_1 : decode cL_meanMeasure 1 = .ok (.iconst 0, 1) := by decide +kernel
theorem dL_meanMeasure_2 : decode cL_meanMeasure 2 = .ok (.aload_n 0, 1) := by decide +kernel
theorem dL_meanMeasure_3 : decode cL_meanMeasure 3 = .ok (.invokevirtual 145, 3) := by decide +kernel
theorem dL_meanMeasure_10 : decode cL_meanMeasure 10 = .ok (.astore_n 2, 1) := by decide +kernel
theorem dL_meanMeasure_11 : decode cL_meanMeasure 11 = .ok (.iconst 1, 1) := by decide +kernel
theorem dL_meanMeasure_12 : decode cL_meanMeasure 12 = .ok (.ireturn, 1) := by decide +kernel
