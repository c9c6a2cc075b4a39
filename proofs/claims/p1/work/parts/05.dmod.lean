theorem dX8_init_0 : decode cX8_init 0 = .ok (.aload_n 0, 1) := by decide +kernel
theorem dX8_init_1 : decode cX8_init 1 = .ok (.invokespecial 3, 3) := by decide +kernel
theorem dX8_init_4 : decode cX8_init 4 = .ok (.aload_n 0, 1) := by decide +kernel
theorem dX8_init_5 : decode cX8_init 5 = .ok (.bipush 24, 2) := by decide +kernel
theorem dX8_init_7 : decode cX8_init 7 = .ok (.newarray .int, 2) := by decide +kernel
theorem dX8_init_9 : decode cX8_init 9 = .ok (.putfield 9, 3) := by decide +kernel
theorem dX8_init_12 : decode cX8_init 12 = .ok (.aload_n 0, 1) := by decide +kernel
theorem dX8_init_13 : decode cX8_init 13 = .ok (.iconst (-1), 1) := by decide +kernel
theorem dX8_init_14 : decode cX8_init 14 = .ok (.putfield 15, 3) := by decide +kernel
theorem dX8_init_17 : decode cX8_init 17 = .ok (.aload_n 0, 1) := by decide +kernel
theorem dX8_init_18 : decode cX8_init 18 = .ok (.iload_n 1, 1) := by decide +kernel
theorem dX8_init_19 : decode cX8_init 19 = .ok (.putfield 19, 3) := by decide +kernel
theorem dX8_init_22 : decode cX8_init 22 = .ok (.aload_n 0, 1) := by decide +kernel
theorem dX8_init_23 : decode cX8_init 23 = .ok (.getfield 9, 3) := by decide +kernel
theorem dX8_init_26 : decode cX8_init 26 = .ok (.bipush (-2), 2) := by decide +kernel
theorem dX8_init_28 : decode cX8_init 28 = .ok (.invokestatic 22, 3) := by decide +kernel
theorem dX8_init_31 : decode cX8_init 31 = .ok (.return_, 1) := by decide +kernel
theorem dX11_init_0 : decode cX11_init 0 = .ok (.aload_n 0, 1) := by decide +kernel
theorem dX11_init_1 : decode cX11_init 1 = .ok (.invokespecial 3, 3) := by decide +kernel
theorem dX11_init_4 : decode cX11_init 4 = .ok (.aload_n 0, 1) := by decide +kernel
theorem dX11_init_5 : decode cX11_init 5 = .ok (.new 9, 3) := by decide +kernel
theorem dX11_init_8 : decode cX11_init 8 = .ok (.dup, 1) := by decide +kernel
theorem dX11_init_9 : decode cX11_init 9 = .ok (.invokespecial 11, 3) := by decide +kernel
theorem dX11_init_12 : decode cX11_init 12 = .ok (.putfield 12, 3) := by decide +kernel
theorem dX11_init_15 : decode cX11_init 15 = .ok (.aload_n 0, 1) := by decide +kernel
theorem dX11_init_16 : decode cX11_init 16 = .ok (.ldc 18, 2) := by decide +kernel
theorem dX11_init_18 : decode cX11_init 18 = .ok (.invokevirtual 20, 3) := by decide +kernel
theorem dX11_init_21 : decode cX11_init 21 = .ok (.newarray .int, 2) := by decide +kernel
theorem dX11_init_23 : decode cX11_init 23 = .ok (.putfield 26, 3) := by decide +kernel
theorem dX11_init_26 : decode cX11_init 26 = .ok (.aload_n 0, 1) := by decide +kernel
theorem dX11_init_27 : decode cX11_init 27 = .ok (.iconst (-1), 1) := by decide +kernel
theorem dX11_init_28 : decode cX11_init 28 = .ok (.putfield 30, 3) := by decide +kernel
theorem dX11_init_31 : decode cX11_init 31 = .ok (.return_, 1) := by decide +kernel
theorem dX12_init_0 : decode cX12_init 0 = .ok (.aload_n 0, 1) := by decide +kernel
theorem dX12_init_1 : decode cX12_init 1 = .ok (.invokespecial 1, 3) := by decide +kernel
theorem dX12_init_4 : decode cX12_init 4 = .ok (.aload_n 0, 1) := by decide +kernel
theorem dX12_init_5 : decode cX12_init 5 = .ok (.new 7, 3) := by decide +kernel
theorem dX12_init_8 : decode cX12_init 8 = .ok (.dup, 1) := by decide +kernel
theorem dX12_init_9 : decode cX12_init 9 = .ok (.invokespecial 9, 3) := by decide +kernel
theorem dX12_init_12 : decode cX12_init 12 = .ok (.putfield 10, 3) := by decide +kernel
theorem dX12_init_15 : decode cX12_init 15 = .ok (.aload_n 0, 1) := by decide +kernel
theorem dX12_init_16 : decode cX12_init 16 = .ok (.new 7, 3) := by decide +kernel
theorem dX12_init_19 : decode cX12_init 19 = .ok (.dup, 1) := by decide +kernel
theorem dX12_init_20 : decode cX12_init 20 = .ok (.invokespecial 9, 3) := by decide +kernel
theorem dX12_init_23 : decode cX12_init 23 = .ok (.putfield 16, 3) := by decide +kernel
theorem dX12_init_26 : decode cX12_init 26 = .ok (.aload_n 0, 1) := by decide +kernel
theorem dX12_init_27 : decode cX12_init 27 = .ok (.new 7, 3) := by decide +kernel
theorem dX12_init_30 : decode cX12_init 30 = .ok (.dup, 1) := by decide +kernel
theorem dX12_init_31 : decode cX12_init 31 = .ok (.invokespecial 9, 3) := by decide +kernel
theorem dX12_init_34 : decode cX12_init 34 = .ok (.putfield 19, 3) := by decide +kernel
theorem dX12_init_37 : decode cX12_init 37 = .ok (.aload_n 0, 1) := by decide +kernel
theorem dX12_init_38 : decode cX12_init 38 = .ok (.new 7, 3) := by decide +kernel
theorem dX12_init_41 : decode cX12_init 41 = .ok (.dup, 1) := by decide +kernel
theorem dX12_init_42 : decode cX12_init 42 = .ok (.invokespecial 9, 3) := by decide +kernel
theorem dX12_init_45 : decode cX12_init 45 = .ok (.putfield 22, 3) := by decide +kernel
theorem dX12_init_48 : decode cX12_init 48 = .ok (.aload_n 0, 1) := by decide +kernel
theorem dX12_init_49 : decode cX12_init 49 = .ok (.new 7, 3) := by decide +kernel
theorem dX12_init_52 : decode cX12_init 52 = .ok (.dup, 1) := by decide +kernel
theorem dX12_init_53 : decode cX12_init 53 = .ok (.invokespecial 9, 3) := by decide +kernel
theorem dX12_init_56 : decode cX12_init 56 = .ok (.putfield 25, 3) := by decide +kernel
theorem dX12_init_59 : decode cX12_init 59 = .ok (.return_, 1) := by decide +kernel
theorem dX12_thrown_0 : decode cX12_thrown 0 = .ok (.aload_n 0, 1) := by decide +kernel
theorem dX12_thrown_1 : decode cX12_thrown 1 = .ok (.getfield 28, 3) := by decide +kernel
theorem dX12_thrown_4 : decode cX12_thrown 4 = .ok (.ireturn, 1) := by decide +kernel
theorem dX12_isWrong_0 : decode cX12_isWrong 0 = .ok (.aload_n 0, 1) := by decide +kernel
theorem dX12_isWrong_1 : decode cX12_isWrong 1 = .ok (.iload_n 1, 1) := by decide +kernel
theorem dX12_isWrong_2 : decode cX12_isWrong 2 = .ok (.putfield 28, 3) := by decide +kernel
theorem dX12_isWrong_5 : decode cX12_isWrong 5 = .ok (.iload_n 1, 1) := by decide +kernel
theorem dX12_isWrong_6 : decode cX12_isWrong 6 = .ok (.ifCond .le 7, 3) := by decide +kernel
theorem dX12_isWrong_9 : decode cX12_isWrong 9 = .ok (.iconst 1, 1) := by decide +kernel
theorem dX12_isWrong_10 : decode cX12_isWrong 10 = .ok (.goto 4, 3) := by decide +kernel
theorem dX12_isWrong_13 : decode cX12_isWrong 13 = .ok (.iconst 0, 1) := by decide +kernel
theorem dX12_isWrong_14 : decode cX12_isWrong 14 = .ok (.ireturn, 1) := by decide +kernel
theorem dX12_isBetween_0 : decode cX12_isBetween 0 = .ok (.iload_n 1, 1) := by decide +kernel
theorem dX12_isBetween_1 : decode cX12_isBetween 1 = .ok (.iload_n 0, 1) := by decide +kernel
theorem dX12_isBetween_2 : decode cX12_isBetween 2 = .ok (.if_icmp .gt 12, 3) := by decide +kernel
theorem dX12_isBetween_5 : decode cX12_isBetween 5 = .ok (.iload_n 0, 1) := by decide +kernel
theorem dX12_isBetween_6 : decode cX12_isBetween 6 = .ok (.iload_n 2, 1) := by decide +kernel
theorem dX12_isBetween_7 : decode cX12_isBetween 7 = .ok (.if_icmp .gt 7, 3) := by decide +kernel
theorem dX12_isBetween_10 : decode cX12_isBetween 10 = .ok (.iconst 1, 1) := by decide +kernel
theorem dX12_isBetween_11 : decode cX12_isBetween 11 = .ok (.goto 4, 3) := by decide +kernel
theorem dX12_isBetween_14 : decode cX12_isBetween 14 = .ok (.iconst 0, 1) := by decide +kernel
theorem dX12_isBetween_15 : decode cX12_isBetween 15 = .ok (.ireturn, 1) := by decide +kernel
theorem dX12_isOf_0 : decode cX12_isOf 0 = .ok (.iload_n 1, 1) := by decide +kernel
theorem dX12_isOf_1 : decode cX12_isOf 1 = .ok (.iconst 0, 1) := by decide +kernel
theorem dX12_isOf_2 : decode cX12_isOf 2 = .ok (.aload_n 0, 1) := by decide +kernel
theorem dX12_isOf_3 : decode cX12_isOf 3 = .ok (.invokeinterface 32 1, 5) := by decide +kernel
theorem dX12_isOf_8 : decode cX12_isOf 8 = .ok (.iconst 1, 1) := by decide +kernel
theorem dX12_isOf_9 : decode cX12_isOf 9 = .ok (.isub, 1) := by decide +kernel
theorem dX12_isOf_10 : decode cX12_isOf 10 = .ok (.invokestatic 38, 3) := by decide +kernel
theorem dX12_isOf_13 : decode cX12_isOf 13 = .ok (.ireturn, 1) := by decide +kernel
theorem dX12_isPlace_0 : decode cX12_isPlace 0 = .ok (.iload_n 0, 1) := by decide +kernel
theorem dX12_isPlace_1 : decode cX12_isPlace 1 = .ok (.iconst 0, 1) := by decide +kernel
theorem dX12_isPlace_2 : decode cX12_isPlace 2 = .ok (.bipush 119, 2) := by decide +kernel
theorem dX12_isPlace_4 : decode cX12_isPlace 4 = .ok (.invokestatic 38, 3) := by decide +kernel
theorem dX12_isPlace_7 : decode cX12_isPlace 7 = .ok (.ifCond .eq 16, 3) := by decide +kernel
theorem dX12_isPlace_10 : decode cX12_isPlace 10 = .ok (.iload_n 0, 1) := by decide +kernel
theorem dX12_isPlace_11 : decode cX12_isPlace 11 = .ok (.bipush 10, 2) := by decide +kernel
theorem dX12_isPlace_13 : decode cX12_isPlace 13 = .ok (.irem, 1) := by decide +kernel
theorem dX12_isPlace_14 : decode cX12_isPlace 14 = .ok (.bipush 7, 2) := by decide +kernel
theorem dX12_isPlace_16 : decode cX12_isPlace 16 = .ok (.if_icmp .gt 7, 3) := by decide +kernel
theorem dX12_isPlace_19 : decode cX12_isPlace 19 = .ok (.iconst 1, 1) := by decide +kernel
theorem dX12_isPlace_20 : decode cX12_isPlace 20 = .ok (.goto 4, 3) := by decide +kernel
theorem dX12_isPlace_23 : decode cX12_isPlace 23 = .ok (.iconst 0, 1) := by decide +kernel
theorem dX12_isPlace_24 : decode cX12_isPlace 24 = .ok (.ireturn, 1) := by decide +kernel
theorem dX12_isVariant_0 : decode cX12_isVariant 0 = .ok (.iload_n 0, 1) := by decide +kernel
theorem dX12_isVariant_1 : decode cX12_isVariant 1 = .ok (.iconst 0, 1) := by decide +kernel
theorem dX12_isVariant_2 : decode cX12_isVariant 2 = .ok (.iconst 3, 1) := by decide +kernel
theorem dX12_isVariant_3 : decode cX12_isVariant 3 = .ok (.invokestatic 38, 3) := by decide +kernel
theorem dX12_isVariant_6 : decode cX12_isVariant 6 = .ok (.ireturn, 1) := by decide +kernel
theorem dX12_panel_0 : decode cX12_panel 0 = .ok (.aload_n 0, 1) := by decide +kernel
theorem dX12_panel_1 : decode cX12_panel 1 = .ok (.getfield 10, 3) := by decide +kernel
theorem dX12_panel_4 : decode cX12_panel 4 = .ok (.invokeinterface 42 1, 5) := by decide +kernel
theorem dX12_panel_9 : decode cX12_panel 9 = .ok (.istore_n 2, 1) := by decide +kernel
theorem dX12_panel_10 : decode cX12_panel 10 = .ok (.aload_n 0, 1) := by decide +kernel
theorem dX12_panel_11 : decode cX12_panel 11 = .ok (.iload_n 2, 1) := by decide +kernel
theorem dX12_panel_12 : decode cX12_panel 12 = .ok (.ifCond .ne 18, 3) := by decide +kernel
theorem dX12_panel_15 : decode cX12_panel 15 = .ok (.aload_n 0, 1) := by decide +kernel
theorem dX12_panel_16 : decode cX12_panel 16 = .ok (.getfield 10, 3) := by decide +kernel
theorem dX12_panel_19 : decode cX12_panel 19 = .ok (.iload_n 1, 1) := by decide +kernel
theorem dX12_panel_20 : decode cX12_panel 20 = .ok (.invokestatic 46, 3) := by decide +kernel
theorem dX12_panel_23 : decode cX12_panel 23 = .ok (.ifCond .ne 7, 3) := by decide +kernel
theorem dX12_panel_26 : decode cX12_panel 26 = .ok (.iconst 1, 1) := by decide +kernel
theorem dX12_panel_27 : decode cX12_panel 27 = .ok (.goto 22, 3) := by decide +kernel
theorem dX12_panel_30 : decode cX12_panel 30 = .ok (.aload_n 0, 1) := by decide +kernel
theorem dX12_panel_31 : decode cX12_panel 31 = .ok (.getfield 10, 3) := by decide +kernel
theorem dX12_panel_34 : decode cX12_panel 34 = .ok (.invokeinterface 32 1, 5) := by decide +kernel
theorem dX12_panel_39 : decode cX12_panel 39 = .ok (.bipush 8, 2) := by decide +kernel
theorem dX12_panel_41 : decode cX12_panel 41 = .ok (.if_icmp .ne 7, 3) := by decide +kernel
theorem dX12_panel_44 : decode cX12_panel 44 = .ok (.iconst 2, 1) := by decide +kernel
theorem dX12_panel_45 : decode cX12_panel 45 = .ok (.goto 4, 3) := by decide +kernel
theorem dX12_panel_48 : decode cX12_panel 48 = .ok (.iconst 0, 1) := by decide +kernel
theorem dX12_panel_49 : decode cX12_panel 49 = .ok (.invokevirtual 50, 3) := by decide +kernel
theorem dX12_panel_52 : decode cX12_panel 52 = .ok (.ifCond .eq 5, 3) := by decide +kernel
theorem dX12_panel_55 : decode cX12_panel 55 = .ok (.iconst 0, 1) := by decide +kernel
theorem dX12_panel_56 : decode cX12_panel 56 = .ok (.ireturn, 1) := by decide +kernel
theorem dX12_panel_57 : decode cX12_panel 57 = .ok (.aload_n 0, 1) := by decide +kernel
theorem dX12_panel_58 : decode cX12_panel 58 = .ok (.getfield 10, 3) := by decide +kernel
theorem dX12_panel_61 : decode cX12_panel 61 = .ok (.iload_n 2, 1) := by decide +kernel
theorem dX12_panel_62 : decode cX12_panel 62 = .ok (.ifCond .eq 7, 3) := by decide +kernel
theorem dX12_panel_65 : decode cX12_panel 65 = .ok (.iconst (-1), 1) := by decide +kernel
theorem dX12_panel_66 : decode cX12_panel 66 = .ok (.goto 4, 3) := by decide +kernel
theorem dX12_panel_69 : decode cX12_panel 69 = .ok (.iload_n 1, 1) := by decide +kernel
theorem dX12_panel_70 : decode cX12_panel 70 = .ok (.invokestatic 54, 3) := by decide +kernel
theorem dX12_panel_73 : decode cX12_panel 73 = .ok (.invokeinterface 60 2, 5) := by decide +kernel
theorem dX12_panel_78 : decode cX12_panel 78 = .ok (.pop, 1) := by decide +kernel
theorem dX12_panel_79 : decode cX12_panel 79 = .ok (.aload_n 0, 1) := by decide +kernel
theorem dX12_panel_80 : decode cX12_panel 80 = .ok (.getfield 10, 3) := by decide +kernel
theorem dX12_panel_83 : decode cX12_panel 83 = .ok (.invokeinterface 32 1, 5) := by decide +kernel
theorem dX12_panel_88 : decode cX12_panel 88 = .ok (.iconst 1, 1) := by decide +kernel
theorem dX12_panel_89 : decode cX12_panel 89 = .ok (.isub, 1) := by decide +kernel
theorem dX12_panel_90 : decode cX12_panel 90 = .ok (.ireturn, 1) := by decide +kernel
theorem dX12_spot_0 : decode cX12_spot 0 = .ok (.aload_n 0, 1) := by decide +kernel
theorem dX12_spot_1 : decode cX12_spot 1 = .ok (.aload_n 0, 1) := by decide +kernel
theorem dX12_spot_2 : decode cX12_spot 2 = .ok (.getfield 10, 3) := by decide +kernel
theorem dX12_spot_5 : decode cX12_spot 5 = .ok (.iload_n 1, 1) := by decide +kernel
theorem dX12_spot_6 : decode cX12_spot 6 = .ok (.invokestatic 46, 3) := by decide +kernel
theorem dX12_spot_9 : decode cX12_spot 9 = .ok (.ifCond .eq 14, 3) := by decide +kernel
theorem dX12_spot_23 : decode cX12_spot 23 = .ok (.iconst 1, 1) := by decide +kernel
theorem dX12_spot_24 : decode cX12_spot 24 = .ok (.goto 37, 3) := by decide +kernel
theorem dX12_spot_61 : decode cX12_spot 61 = .ok (.invokevirtual 50, 3) := by decide +kernel
theorem dX12_spot_64 : decode cX12_spot 64 = .ok (.ifCond .eq 5, 3) := by decide +kernel
theorem dX12_spot_67 : decode cX12_spot 67 = .ok (.iconst 0, 1) := by decide +kernel
theorem dX12_spot_68 : decode cX12_spot 68 = .ok (.ireturn, 1) := by decide +kernel
theorem dX12_spots_0 : decode cX12_spots 0 = .ok (.aload_n 0, 1) := by decide +kernel
theorem dX12_spots_1 : decode cX12_spots 1 = .ok (.iload_n 1, 1) := by decide +kernel
theorem dX12_spots_2 : decode cX12_spots 2 = .ok (.invokestatic 79, 3) := by decide +kernel
theorem dX12_spots_5 : decode cX12_spots 5 = .ok (.ifCond .eq 7, 3) := by decide +kernel
theorem dX12_spots_8 : decode cX12_spots 8 = .ok (.iconst 0, 1) := by decide +kernel
theorem dX12_spots_9 : decode cX12_spots 9 = .ok (.goto 4, 3) := by decide +kernel
theorem dX12_spots_12 : decode cX12_spots 12 = .ok (.iconst 1, 1) := by decide +kernel
theorem dX12_spots_13 : decode cX12_spots 13 = .ok (.invokevirtual 50, 3) := by decide +kernel
theorem dX12_spots_16 : decode cX12_spots 16 = .ok (.ifCond .eq 5, 3) := by decide +kernel
theorem dX12_spots_19 : decode cX12_spots 19 = .ok (.iconst 0, 1) := by decide +kernel
theorem dX12_spots_20 : decode cX12_spots 20 = .ok (.ireturn, 1) := by decide +kernel
theorem dX12_spots_21 : decode cX12_spots 21 = .ok (.iconst 0, 1) := by decide +kernel
theorem dX12_spots_22 : decode cX12_spots 22 = .ok (.istore_n 2, 1) := by decide +kernel
theorem dX12_spots_23 : decode cX12_spots 23 = .ok (.aload_n 0, 1) := by decide +kernel
theorem dX12_spots_24 : decode cX12_spots 24 = .ok (.getfield 16, 3) := by decide +kernel
theorem dX12_spots_27 : decode cX12_spots 27 = .ok (.invokeinterface 82 1, 5) := by decide +kernel
theorem dX12_spots_32 : decode cX12_spots 32 = .ok (.astore_n 3, 1) := by decide +kernel
theorem dX12_spots_33 : decode cX12_spots 33 = .ok (.aload_n 3, 1) := by decide +kernel
theorem dX12_spots_34 : decode cX12_spots 34 = .ok (.invokeinterface 86 1, 5) := by decide +kernel
theorem dX12_spots_39 : decode cX12_spots 39 = .ok (.ifCond .eq 34, 3) := by decide +kernel
theorem dX12_spots_73 : decode cX12_spots 73 = .ok (.iload_n 2, 1) := by decide +kernel
theorem dX12_spots_74 : decode cX12_spots 74 = .ok (.ireturn, 1) := by decide +kernel
theorem dX12_isHeld_0 : decode cX12_isHeld 0 = .ok (.aload_n 0, 1) := by decide +kernel
theorem dX12_isHeld_1 : decode cX12_isHeld 1 = .ok (.iload_n 1, 1) := by decide +kernel
theorem dX12_isHeld_2 : decode cX12_isHeld 2 = .ok (.invokestatic 79, 3) := by decide +kernel
theorem dX12_isHeld_5 : decode cX12_isHeld 5 = .ok (.ifCond .eq 7, 3) := by decide +kernel
theorem dX12_isHeld_8 : decode cX12_isHeld 8 = .ok (.iconst 0, 1) := by decide +kernel
theorem dX12_isHeld_9 : decode cX12_isHeld 9 = .ok (.goto 4, 3) := by decide +kernel
theorem dX12_isHeld_12 : decode cX12_isHeld 12 = .ok (.iconst 1, 1) := by decide +kernel
theorem dX12_isHeld_13 : decode cX12_isHeld 13 = .ok (.invokevirtual 50, 3) := by decide +kernel
theorem dX12_isHeld_16 : decode cX12_isHeld 16 = .ok (.ifCond .eq 5, 3) := by decide +kernel
theorem dX12_isHeld_19 : decode cX12_isHeld 19 = .ok (.iconst 0, 1) := by decide +kernel
theorem dX12_isHeld_20 : decode cX12_isHeld 20 = .ok (.ireturn, 1) := by decide +kernel
theorem dX12_isHeld_21 : decode cX12_isHeld 21 = .ok (.iconst 1, 1) := by decide +kernel
theorem dX12_isHeld_22 : decode cX12_isHeld 22 = .ok (.istore_n 2, 1) := by decide +kernel
theorem dX12_isHeld_23 : decode cX12_isHeld 23 = .ok (.iconst 1, 1) := by decide +kernel
theorem dX12_isHeld_24 : decode cX12_isHeld 24 = .ok (.istore_n 3, 1) := by decide +kernel
theorem dX12_isHeld_25 : decode cX12_isHeld 25 = .ok (.iload_n 3, 1) := by decide +kernel
theorem dX12_isHeld_26 : decode cX12_isHeld 26 = .ok (.aload_n 0, 1) := by decide +kernel
theorem dX12_isHeld_27 : decode cX12_isHeld 27 = .ok (.getfield 10, 3) := by decide +kernel
theorem dX12_isHeld_30 : decode cX12_isHeld 30 = .ok (.invokeinterface 32 1, 5) := by decide +kernel
theorem dX12_isHeld_35 : decode cX12_isHeld 35 = .ok (.if_icmp .ge 146, 3) := by decide +kernel
theorem dX12_isHeld_181 : decode cX12_isHeld 181 = .ok (.iload_n 2, 1) := by decide +kernel
theorem dX12_isHeld_182 : decode cX12_isHeld 182 = .ok (.ireturn, 1) := by decide +kernel
theorem dX12_station_0 : decode cX12_station 0 = .ok (.aload_n 0, 1) := by decide +kernel
theorem dX12_station_1 : decode cX12_station 1 = .ok (.aload_n 0, 1) := by decide +kernel
theorem dX12_station_2 : decode cX12_station 2 = .ok (.getfield 19, 3) := by decide +kernel
theorem dX12_station_5 : decode cX12_station 5 = .ok (.invokeinterface 32 1, 5) := by decide +kernel
theorem dX12_station_10 : decode cX12_station 10 = .ok (.iconst 4, 1) := by decide +kernel
theorem dX12_station_11 : decode cX12_station 11 = .ok (.if_icmp .ne 7, 3) := by decide +kernel
theorem dX12_station_14 : decode cX12_station 14 = .ok (.iconst 1, 1) := by decide +kernel
theorem dX12_station_15 : decode cX12_station 15 = .ok (.goto 4, 3) := by decide +kernel
theorem dX12_station_18 : decode cX12_station 18 = .ok (.iconst 0, 1) := by decide +kernel
theorem dX12_station_19 : decode cX12_station 19 = .ok (.invokevirtual 50, 3) := by decide +kernel
theorem dX12_station_22 : decode cX12_station 22 = .ok (.ifCond .eq 5, 3) := by decide +kernel
theorem dX12_station_25 : decode cX12_station 25 = .ok (.iconst 0, 1) := by decide +kernel
theorem dX12_station_26 : decode cX12_station 26 = .ok (.ireturn, 1) := by decide +kernel
theorem dX12_station_27 : decode cX12_station 27 = .ok (.aload_n 0, 1) := by decide +kernel
theorem dX12_station_28 : decode cX12_station 28 = .ok (.getfield 19, 3) := by decide +kernel
theorem dX12_station_31 : decode cX12_station 31 = .ok (.new 107, 3) := by decide +kernel
theorem dX12_station_34 : decode cX12_station 34 = .ok (.dup, 1) := by decide +kernel
theorem dX12_station_35 : decode cX12_station 35 = .ok (.invokespecial 109, 3) := by decide +kernel
theorem dX12_station_38 : decode cX12_station 38 = .ok (.invokeinterface 60 2, 5) := by decide +kernel
theorem dX12_station_43 : decode cX12_station 43 = .ok (.pop, 1) := by decide +kernel
theorem dX12_station_44 : decode cX12_station 44 = .ok (.aload_n 0, 1) := by decide +kernel
theorem dX12_station_45 : decode cX12_station 45 = .ok (.getfield 19, 3) := by decide +kernel
theorem dX12_station_48 : decode cX12_station 48 = .ok (.invokeinterface 32 1, 5) := by decide +kernel
theorem dX12_station_53 : decode cX12_station 53 = .ok (.iconst 1, 1) := by decide +kernel
theorem dX12_station_54 : decode cX12_station 54 = .ok (.isub, 1) := by decide +kernel
theorem dX12_station_55 : decode cX12_station 55 = .ok (.ireturn, 1) := by decide +kernel
theorem dX12_robot_0 : decode cX12_robot 0 = .ok (.aload_n 0, 1) := by decide +kernel
theorem dX12_robot_1 : decode cX12_robot 1 = .ok (.aload_n 0, 1) := by decide +kernel
theorem dX12_robot_2 : decode cX12_robot 2 = .ok (.getfield 19, 3) := by decide +kernel
theorem dX12_robot_5 : decode cX12_robot 5 = .ok (.iload_n 1, 1) := by decide +kernel
theorem dX12_robot_6 : decode cX12_robot 6 = .ok (.invokestatic 46, 3) := by decide +kernel
theorem dX12_robot_9 : decode cX12_robot 9 = .ok (.ifCond .ne 7, 3) := by decide +kernel
theorem dX12_robot_12 : decode cX12_robot 12 = .ok (.iconst 1, 1) := by decide +kernel
theorem dX12_robot_13 : decode cX12_robot 13 = .ok (.goto 25, 3) := by decide +kernel
theorem dX12_robot_38 : decode cX12_robot 38 = .ok (.invokevirtual 50, 3) := by decide +kernel
theorem dX12_robot_41 : decode cX12_robot 41 = .ok (.ifCond .eq 5, 3) := by decide +kernel
theorem dX12_robot_44 : decode cX12_robot 44 = .ok (.iconst 0, 1) := by decide +kernel
theorem dX12_robot_45 : decode cX12_robot 45 = .ok (.ireturn, 1) := by decide +kernel
theorem dX12_reaches_0 : decode cX12_reaches 0 = .ok (.aload_n 0, 1) := by decide +kernel
theorem dX12_reaches_1 : decode cX12_reaches 1 = .ok (.aload_n 0, 1) := by decide +kernel
theorem dX12_reaches_2 : decode cX12_reaches 2 = .ok (.getfield 22, 3) := by decide +kernel
theorem dX12_reaches_5 : decode cX12_reaches 5 = .ok (.iload_n 1, 1) := by decide +kernel
theorem dX12_reaches_6 : decode cX12_reaches 6 = .ok (.invokestatic 46, 3) := by decide +kernel
theorem dX12_reaches_9 : decode cX12_reaches 9 = .ok (.ifCond .ne 7, 3) := by decide +kernel
theorem dX12_reaches_12 : decode cX12_reaches 12 = .ok (.iconst 1, 1) := by decide +kernel
theorem dX12_reaches_13 : decode cX12_reaches 13 = .ok (.goto 15, 3) := by decide +kernel
theorem dX12_reaches_28 : decode cX12_reaches 28 = .ok (.invokevirtual 50, 3) := by decide +kernel
theorem dX12_reaches_31 : decode cX12_reaches 31 = .ok (.ifCond .ne 27, 3) := by decide +kernel
theorem dX12_reaches_58 : decode cX12_reaches 58 = .ok (.iconst 0, 1) := by decide +kernel
theorem dX12_reaches_59 : decode cX12_reaches 59 = .ok (.ireturn, 1) := by decide +kernel
theorem dX12_swept_0 : decode cX12_swept 0 = .ok (.aload_n 0, 1) := by decide +kernel
theorem dX12_swept_1 : decode cX12_swept 1 = .ok (.iload_n 1, 1) := by decide +kernel
theorem dX12_swept_2 : decode cX12_swept 2 = .ok (.invokestatic 64, 3) := by decide +kernel
theorem dX12_swept_5 : decode cX12_swept 5 = .ok (.ifCond .eq 14, 3) := by decide +kernel
theorem dX12_swept_8 : decode cX12_swept 8 = .ok (.iload_n 2, 1) := by decide +kernel
theorem dX12_swept_9 : decode cX12_swept 9 = .ok (.invokestatic 64, 3) := by decide +kernel
theorem dX12_swept_12 : decode cX12_swept 12 = .ok (.ifCond .eq 7, 3) := by decide +kernel
theorem dX12_swept_15 : decode cX12_swept 15 = .ok (.iconst 0, 1) := by decide +kernel
theorem dX12_swept_16 : decode cX12_swept 16 = .ok (.goto 4, 3) := by decide +kernel
theorem dX12_swept_19 : decode cX12_swept 19 = .ok (.iconst 1, 1) := by decide +kernel
theorem dX12_swept_20 : decode cX12_swept 20 = .ok (.invokevirtual 50, 3) := by decide +kernel
theorem dX12_swept_23 : decode cX12_swept 23 = .ok (.ifCond .eq 5, 3) := by decide +kernel
theorem dX12_swept_26 : decode cX12_swept 26 = .ok (.iconst 0, 1) := by decide +kernel
theorem dX12_swept_27 : decode cX12_swept 27 = .ok (.ireturn, 1) := by decide +kernel
theorem dX12_swept_28 : decode cX12_swept 28 = .ok (.iload_n 1, 1) := by decide +kernel
theorem dX12_swept_29 : decode cX12_swept 29 = .ok (.bipush 10, 2) := by decide +kernel
theorem dX12_swept_31 : decode cX12_swept 31 = .ok (.idiv, 1) := by decide +kernel
theorem dX12_swept_32 : decode cX12_swept 32 = .ok (.iload_n 2, 1) := by decide +kernel
theorem dX12_swept_33 : decode cX12_swept 33 = .ok (.bipush 10, 2) := by decide +kernel
theorem dX12_swept_35 : decode cX12_swept 35 = .ok (.idiv, 1) := by decide +kernel
theorem dX12_swept_36 : decode cX12_swept 36 = .ok (.isub, 1) := by decide +kernel
theorem dX12_swept_37 : decode cX12_swept 37 = .ok (.invokestatic 122, 3) := by decide +kernel
theorem dX12_swept_40 : decode cX12_swept 40 = .ok (.iload_n 1, 1) := by decide +kernel
theorem dX12_swept_41 : decode cX12_swept 41 = .ok (.bipush 10, 2) := by decide +kernel
theorem dX12_swept_43 : decode cX12_swept 43 = .ok (.irem, 1) := by decide +kernel
theorem dX12_swept_44 : decode cX12_swept 44 = .ok (.iload_n 2, 1) := by decide +kernel
theorem dX12_swept_45 : decode cX12_swept 45 = .ok (.bipush 10, 2) := by decide +kernel
theorem dX12_swept_47 : decode cX12_swept 47 = .ok (.irem, 1) := by decide +kernel
theorem dX12_swept_48 : decode cX12_swept 48 = .ok (.isub, 1) := by decide +kernel
theorem dX12_swept_49 : decode cX12_swept 49 = .ok (.invokestatic 122, 3) := by decide +kernel
theorem dX12_swept_52 : decode cX12_swept 52 = .ok (.iadd, 1) := by decide +kernel
theorem dX12_swept_53 : decode cX12_swept 53 = .ok (.iconst 1, 1) := by decide +kernel
theorem dX12_swept_54 : decode cX12_swept 54 = .ok (.iadd, 1) := by decide +kernel
theorem dX12_swept_55 : decode cX12_swept 55 = .ok (.ireturn, 1) := by decide +kernel
theorem dX12_current_0 : decode cX12_current 0 = .ok (.aload_n 0, 1) := by decide +kernel
theorem dX12_current_1 : decode cX12_current 1 = .ok (.aload_n 0, 1) := by decide +kernel
theorem dX12_current_2 : decode cX12_current 2 = .ok (.getfield 22, 3) := by decide +kernel
theorem dX12_current_5 : decode cX12_current 5 = .ok (.iload_n 1, 1) := by decide +kernel
theorem dX12_current_6 : decode cX12_current 6 = .ok (.invokestatic 46, 3) := by decide +kernel
theorem dX12_current_9 : decode cX12_current 9 = .ok (.ifCond .ne 7, 3) := by decide +kernel
theorem dX12_current_12 : decode cX12_current 12 = .ok (.iconst 1, 1) := by decide +kernel
theorem dX12_current_13 : decode cX12_current 13 = .ok (.goto 18, 3) := by decide +kernel
theorem dX12_current_31 : decode cX12_current 31 = .ok (.invokevirtual 50, 3) := by decide +kernel
theorem dX12_current_34 : decode cX12_current 34 = .ok (.ifCond .eq 5, 3) := by decide +kernel
theorem dX12_current_37 : decode cX12_current 37 = .ok (.iconst 0, 1) := by decide +kernel
theorem dX12_current_38 : decode cX12_current 38 = .ok (.ireturn, 1) := by decide +kernel
theorem dX12_step_0 : decode cX12_step 0 = .ok (.aload_n 0, 1) := by decide +kernel
theorem dX12_step_1 : decode cX12_step 1 = .ok (.aload_n 0, 1) := by decide +kernel
theorem dX12_step_2 : decode cX12_step 2 = .ok (.getfield 22, 3) := by decide +kernel
theorem dX12_step_5 : decode cX12_step 5 = .ok (.iload_n 1, 1) := by decide +kernel
theorem dX12_step_6 : decode cX12_step 6 = .ok (.invokestatic 46, 3) := by decide +kernel
theorem dX12_step_9 : decode cX12_step 9 = .ok (.ifCond .eq 10, 3) := by decide +kernel
theorem dX12_step_19 : decode cX12_step 19 = .ok (.iconst 1, 1) := by decide +kernel
theorem dX12_step_20 : decode cX12_step 20 = .ok (.goto 4, 3) := by decide +kernel
theorem dX12_step_24 : decode cX12_step 24 = .ok (.invokevirtual 50, 3) := by decide +kernel
theorem dX12_step_27 : decode cX12_step 27 = .ok (.ifCond .eq 5, 3) := by decide +kernel
theorem dX12_step_30 : decode cX12_step 30 = .ok (.iconst 0, 1) := by decide +kernel
theorem dX12_step_31 : decode cX12_step 31 = .ok (.ireturn, 1) := by decide +kernel
theorem dX12_isNoProgram_0 : decode cX12_isNoProgram 0 = .ok (.aload_n 0, 1) := by decide +kernel
theorem dX12_isNoProgram_1 : decode cX12_isNoProgram 1 = .ok (.aload_n 0, 1) := by decide +kernel
theorem dX12_isNoProgram_2 : decode cX12_isNoProgram 2 = .ok (.getfield 22, 3) := by decide +kernel
theorem dX12_isNoProgram_5 : decode cX12_isNoProgram 5 = .ok (.iload_n 1, 1) := by decide +kernel
theorem dX12_isNoProgram_6 : decode cX12_isNoProgram 6 = .ok (.invokestatic 46, 3) := by decide +kernel
theorem dX12_isNoProgram_9 : decode cX12_isNoProgram 9 = .ok (.ifCond .eq 14, 3) := by decide +kernel
theorem dX12_isNoProgram_23 : decode cX12_isNoProgram 23 = .ok (.iconst 1, 1) := by decide +kernel
theorem dX12_isNoProgram_24 : decode cX12_isNoProgram 24 = .ok (.invokevirtual 50, 3) := by decide +kernel
theorem dX12_isNoProgram_27 : decode cX12_isNoProgram 27 = .ok (.ireturn, 1) := by decide +kernel
theorem dX12_erase_0 : decode cX12_erase 0 = .ok (.aload_n 0, 1) := by decide +kernel
theorem dX12_erase_1 : decode cX12_erase 1 = .ok (.iload_n 1, 1) := by decide +kernel
theorem dX12_erase_2 : decode cX12_erase 2 = .ok (.iload_n 2, 1) := by decide +kernel
theorem dX12_erase_3 : decode cX12_erase 3 = .ok (.invokevirtual 134, 3) := by decide +kernel
theorem dX12_erase_6 : decode cX12_erase 6 = .ok (.ifCond .eq 5, 3) := by decide +kernel
theorem dX12_erase_9 : decode cX12_erase 9 = .ok (.iconst 0, 1) := by decide +kernel
theorem dX12_erase_10 : decode cX12_erase 10 = .ok (.ireturn, 1) := by decide +kernel
theorem dX12_steps_0 : decode cX12_steps 0 = .ok (.aload_n 0, 1) := by decide +kernel
theorem dX12_steps_1 : decode cX12_steps 1 = .ok (.iload_n 1, 1) := by decide +kernel
theorem dX12_steps_2 : decode cX12_steps 2 = .ok (.iload_n 2, 1) := by decide +kernel
theorem dX12_steps_3 : decode cX12_steps 3 = .ok (.invokevirtual 134, 3) := by decide +kernel
theorem dX12_steps_6 : decode cX12_steps 6 = .ok (.ifCond .eq 7, 3) := by decide +kernel
theorem dX12_steps_9 : decode cX12_steps 9 = .ok (.iconst 0, 1) := by decide +kernel
theorem dX12_steps_10 : decode cX12_steps 10 = .ok (.goto 33, 3) := by decide +kernel
theorem dX12_steps_43 : decode cX12_steps 43 = .ok (.ireturn, 1) := by decide +kernel
theorem dX12_welds_0 : decode cX12_welds 0 = .ok (.aload_n 0, 1) := by decide +kernel
theorem dX12_welds_1 : decode cX12_welds 1 = .ok (.iload_n 1, 1) := by decide +kernel
theorem dX12_welds_2 : decode cX12_welds 2 = .ok (.iload_n 2, 1) := by decide +kernel
theorem dX12_welds_3 : decode cX12_welds 3 = .ok (.invokevirtual 134, 3) := by decide +kernel
theorem dX12_welds_6 : decode cX12_welds 6 = .ok (.ifCond .eq 5, 3) := by decide +kernel
theorem dX12_welds_9 : decode cX12_welds 9 = .ok (.iconst 0, 1) := by decide +kernel
theorem dX12_welds_10 : decode cX12_welds 10 = .ok (.ireturn, 1) := by decide +kernel
theorem dX12_isNoStation_0 : decode cX12_isNoStation 0 = .ok (.aload_n 0, 1) := by decide +kernel
theorem dX12_isNoStation_1 : decode cX12_isNoStation 1 = .ok (.aload_n 0, 1) := by decide +kernel
theorem dX12_isNoStation_2 : decode cX12_isNoStation 2 = .ok (.getfield 19, 3) := by decide +kernel
theorem dX12_isNoStation_5 : decode cX12_isNoStation 5 = .ok (.iload_n 1, 1) := by decide +kernel
theorem dX12_isNoStation_6 : decode cX12_isNoStation 6 = .ok (.invokestatic 46, 3) := by decide +kernel
theorem dX12_isNoStation_9 : decode cX12_isNoStation 9 = .ok (.ifCond .eq 14, 3) := by decide +kernel
theorem dX12_isNoStation_23 : decode cX12_isNoStation 23 = .ok (.iconst 1, 1) := by decide +kernel
theorem dX12_isNoStation_24 : decode cX12_isNoStation 24 = .ok (.invokevirtual 50, 3) := by decide +kernel
theorem dX12_isNoStation_27 : decode cX12_isNoStation 27 = .ok (.ireturn, 1) := by decide +kernel
theorem dX12_proof_0 : decode cX12_proof 0 = .ok (.aload_n 0, 1) := by decide +kernel
theorem dX12_proof_1 : decode cX12_proof 1 = .ok (.iload_n 1, 1) := by decide +kernel
theorem dX12_proof_2 : decode cX12_proof 2 = .ok (.iload_n 2, 1) := by decide +kernel
theorem dX12_proof_3 : decode cX12_proof 3 = .ok (.invokevirtual 178, 3) := by decide +kernel
theorem dX12_proof_6 : decode cX12_proof 6 = .ok (.ifCond .eq 5, 3) := by decide +kernel
theorem dX12_proof_9 : decode cX12_proof 9 = .ok (.iconst 0, 1) := by decide +kernel
theorem dX12_proof_10 : decode cX12_proof 10 = .ok (.ireturn, 1) := by decide +kernel
theorem dX12_states_0 : decode cX12_states 0 = .ok (.aload_n 0, 1) := by decide +kernel
theorem dX12_states_1 : decode cX12_states 1 = .ok (.iload_n 1, 1) := by decide +kernel
theorem dX12_states_2 : decode cX12_states 2 = .ok (.iload_n 2, 1) := by decide +kernel
theorem dX12_states_3 : decode cX12_states 3 = .ok (.invokevirtual 178, 3) := by decide +kernel
theorem dX12_states_6 : decode cX12_states 6 = .ok (.ifCond .eq 7, 3) := by decide +kernel
theorem dX12_states_9 : decode cX12_states 9 = .ok (.iconst 0, 1) := by decide +kernel
theorem dX12_states_10 : decode cX12_states 10 = .ok (.goto 14, 3) := by decide +kernel
theorem dX12_states_24 : decode cX12_states 24 = .ok (.ireturn, 1) := by decide +kernel
theorem dX12_uncovered_0 : decode cX12_uncovered 0 = .ok (.aload_n 0, 1) := by decide +kernel
theorem dX12_uncovered_1 : decode cX12_uncovered 1 = .ok (.iload_n 1, 1) := by decide +kernel
theorem dX12_uncovered_2 : decode cX12_uncovered 2 = .ok (.invokestatic 79, 3) := by decide +kernel
theorem dX12_uncovered_5 : decode cX12_uncovered 5 = .ok (.ifCond .eq 7, 3) := by decide +kernel
theorem dX12_uncovered_8 : decode cX12_uncovered 8 = .ok (.iconst 0, 1) := by decide +kernel
theorem dX12_uncovered_9 : decode cX12_uncovered 9 = .ok (.goto 4, 3) := by decide +kernel
theorem dX12_uncovered_12 : decode cX12_uncovered 12 = .ok (.iconst 1, 1) := by decide +kernel
theorem dX12_uncovered_13 : decode cX12_uncovered 13 = .ok (.invokevirtual 50, 3) := by decide +kernel
theorem dX12_uncovered_16 : decode cX12_uncovered 16 = .ok (.ifCond .eq 5, 3) := by decide +kernel
theorem dX12_uncovered_19 : decode cX12_uncovered 19 = .ok (.iconst 0, 1) := by decide +kernel
theorem dX12_uncovered_20 : decode cX12_uncovered 20 = .ok (.ireturn, 1) := by decide +kernel
theorem dX12_uncovered_21 : decode cX12_uncovered 21 = .ok (.iconst 0, 1) := by decide +kernel
theorem dX12_uncovered_22 : decode cX12_uncovered 22 = .ok (.istore_n 2, 1) := by decide +kernel
theorem dX12_uncovered_23 : decode cX12_uncovered 23 = .ok (.iconst 0, 1) := by decide +kernel
theorem dX12_uncovered_24 : decode cX12_uncovered 24 = .ok (.istore_n 3, 1) := by decide +kernel
theorem dX12_uncovered_25 : decode cX12_uncovered 25 = .ok (.iload_n 3, 1) := by decide +kernel
theorem dX12_uncovered_26 : decode cX12_uncovered 26 = .ok (.aload_n 0, 1) := by decide +kernel
theorem dX12_uncovered_27 : decode cX12_uncovered 27 = .ok (.getfield 16, 3) := by decide +kernel
theorem dX12_uncovered_30 : decode cX12_uncovered 30 = .ok (.invokeinterface 32 1, 5) := by decide +kernel
theorem dX12_uncovered_35 : decode cX12_uncovered 35 = .ok (.if_icmp .ge 46, 3) := by decide +kernel
theorem dX12_uncovered_81 : decode cX12_uncovered 81 = .ok (.iload_n 2, 1) := by decide +kernel
theorem dX12_uncovered_82 : decode cX12_uncovered 82 = .ok (.ireturn, 1) := by decide +kernel
theorem dX12_deal_0 : decode cX12_deal 0 = .ok (.aload_n 0, 1) := by decide +kernel
theorem dX12_deal_1 : decode cX12_deal 1 = .ok (.iload_n 1, 1) := by decide +kernel
theorem dX12_deal_2 : decode cX12_deal 2 = .ok (.invokestatic 79, 3) := by decide +kernel
theorem dX12_deal_5 : decode cX12_deal 5 = .ok (.ifCond .eq 7, 3) := by decide +kernel
theorem dX12_deal_8 : decode cX12_deal 8 = .ok (.iconst 0, 1) := by decide +kernel
theorem dX12_deal_9 : decode cX12_deal 9 = .ok (.goto 4, 3) := by decide +kernel
theorem dX12_deal_12 : decode cX12_deal 12 = .ok (.iconst 1, 1) := by decide +kernel
theorem dX12_deal_13 : decode cX12_deal 13 = .ok (.invokevirtual 50, 3) := by decide +kernel
theorem dX12_deal_16 : decode cX12_deal 16 = .ok (.ifCond .eq 5, 3) := by decide +kernel
theorem dX12_deal_19 : decode cX12_deal 19 = .ok (.iconst 0, 1) := by decide +kernel
theorem dX12_deal_20 : decode cX12_deal 20 = .ok (.ireturn, 1) := by decide +kernel
theorem dX12_deal_21 : decode cX12_deal 21 = .ok (.iconst 0, 1) := by decide +kernel
theorem dX12_deal_22 : decode cX12_deal 22 = .ok (.istore_n 2, 1) := by decide +kernel
theorem dX12_deal_23 : decode cX12_deal 23 = .ok (.iconst 0, 1) := by decide +kernel
theorem dX12_deal_24 : decode cX12_deal 24 = .ok (.istore_n 3, 1) := by decide +kernel
theorem dX12_deal_25 : decode cX12_deal 25 = .ok (.iload_n 3, 1) := by decide +kernel
theorem dX12_deal_26 : decode cX12_deal 26 = .ok (.aload_n 0, 1) := by decide +kernel
theorem dX12_deal_27 : decode cX12_deal 27 = .ok (.getfield 16, 3) := by decide +kernel
theorem dX12_deal_30 : decode cX12_deal 30 = .ok (.invokeinterface 32 1, 5) := by decide +kernel
theorem dX12_deal_35 : decode cX12_deal 35 = .ok (.if_icmp .ge 278, 3) := by decide +kernel
theorem dX12_deal_313 : decode cX12_deal 313 = .ok (.iload_n 2, 1) := by decide +kernel
theorem dX12_deal_314 : decode cX12_deal 314 = .ok (.ireturn, 1) := by decide +kernel
theorem dX12_order_0 : decode cX12_order 0 = .ok (.aload_n 0, 1) := by decide +kernel
theorem dX12_order_1 : decode cX12_order 1 = .ok (.iload_n 1, 1) := by decide +kernel
theorem dX12_order_2 : decode cX12_order 2 = .ok (.invokestatic 79, 3) := by decide +kernel
theorem dX12_order_5 : decode cX12_order 5 = .ok (.ifCond .ne 7, 3) := by decide +kernel
theorem dX12_order_8 : decode cX12_order 8 = .ok (.iconst 1, 1) := by decide +kernel
theorem dX12_order_9 : decode cX12_order 9 = .ok (.goto 22, 3) := by decide +kernel
theorem dX12_order_12 : decode cX12_order 12 = .ok (.aload_n 0, 1) := by decide +kernel
theorem dX12_order_13 : decode cX12_order 13 = .ok (.getfield 25, 3) := by decide +kernel
theorem dX12_order_16 : decode cX12_order 16 = .ok (.invokeinterface 32 1, 5) := by decide +kernel
theorem dX12_order_21 : decode cX12_order 21 = .ok (.bipush 40, 2) := by decide +kernel
theorem dX12_order_23 : decode cX12_order 23 = .ok (.if_icmp .ne 7, 3) := by decide +kernel
theorem dX12_order_26 : decode cX12_order 26 = .ok (.iconst 2, 1) := by decide +kernel
theorem dX12_order_27 : decode cX12_order 27 = .ok (.goto 4, 3) := by decide +kernel
theorem dX12_order_30 : decode cX12_order 30 = .ok (.iconst 0, 1) := by decide +kernel
theorem dX12_order_31 : decode cX12_order 31 = .ok (.invokevirtual 50, 3) := by decide +kernel
theorem dX12_order_34 : decode cX12_order 34 = .ok (.ifCond .eq 5, 3) := by decide +kernel
theorem dX12_order_37 : decode cX12_order 37 = .ok (.iconst 0, 1) := by decide +kernel
theorem dX12_order_38 : decode cX12_order 38 = .ok (.ireturn, 1) := by decide +kernel
theorem dX12_order_39 : decode cX12_order 39 = .ok (.aload_n 0, 1) := by decide +kernel
theorem dX12_order_40 : decode cX12_order 40 = .ok (.getfield 25, 3) := by decide +kernel
theorem dX12_order_43 : decode cX12_order 43 = .ok (.new 196, 3) := by decide +kernel
theorem dX12_order_46 : decode cX12_order 46 = .ok (.dup, 1) := by decide +kernel
theorem dX12_order_47 : decode cX12_order 47 = .ok (.iload_n 1, 1) := by decide +kernel
theorem dX12_order_48 : decode cX12_order 48 = .ok (.invokespecial 211, 3) := by decide +kernel
theorem dX12_order_51 : decode cX12_order 51 = .ok (.invokeinterface 60 2, 5) := by decide +kernel
theorem dX12_order_56 : decode cX12_order 56 = .ok (.pop, 1) := by decide +kernel
theorem dX12_order_57 : decode cX12_order 57 = .ok (.aload_n 0, 1) := by decide +kernel
theorem dX12_order_58 : decode cX12_order 58 = .ok (.getfield 25, 3) := by decide +kernel
theorem dX12_order_61 : decode cX12_order 61 = .ok (.invokeinterface 32 1, 5) := by decide +kernel
theorem dX12_order_66 : decode cX12_order 66 = .ok (.iconst 1, 1) := by decide +kernel
theorem dX12_order_67 : decode cX12_order 67 = .ok (.isub, 1) := by decide +kernel
theorem dX12_order_68 : decode cX12_order 68 = .ok (.ireturn, 1) := by decide +kernel
theorem dX12_beat_0 : decode cX12_beat 0 = .ok (.aload_n 0, 1) := by decide +kernel
theorem dX12_beat_1 : decode cX12_beat 1 = .ok (.aload_n 0, 1) := by decide +kernel
theorem dX12_beat_2 : decode cX12_beat 2 = .ok (.getfield 19, 3) := by decide +kernel
theorem dX12_beat_5 : decode cX12_beat 5 = .ok (.invokeinterface 42 1, 5) := by decide +kernel
theorem dX12_beat_10 : decode cX12_beat 10 = .ok (.ifCond .eq 7, 3) := by decide +kernel
theorem dX12_beat_13 : decode cX12_beat 13 = .ok (.iconst 1, 1) := by decide +kernel
theorem dX12_beat_14 : decode cX12_beat 14 = .ok (.goto 4, 3) := by decide +kernel
theorem dX12_beat_18 : decode cX12_beat 18 = .ok (.invokevirtual 50, 3) := by decide +kernel
theorem dX12_beat_21 : decode cX12_beat 21 = .ok (.ifCond .eq 5, 3) := by decide +kernel
theorem dX12_beat_24 : decode cX12_beat 24 = .ok (.iconst 0, 1) := by decide +kernel
theorem dX12_beat_25 : decode cX12_beat 25 = .ok (.ireturn, 1) := by decide +kernel
theorem dX12_beats_0 : decode cX12_beats 0 = .ok (.aload_n 0, 1) := by decide +kernel
theorem dX12_beats_1 : decode cX12_beats 1 = .ok (.iconst 0, 1) := by decide +kernel
theorem dX12_beats_2 : decode cX12_beats 2 = .ok (.putfield 28, 3) := by decide +kernel
theorem dX12_beats_5 : decode cX12_beats 5 = .ok (.aload_n 0, 1) := by decide +kernel
theorem dX12_beats_6 : decode cX12_beats 6 = .ok (.getfield 269, 3) := by decide +kernel
theorem dX12_beats_9 : decode cX12_beats 9 = .ok (.ireturn, 1) := by decide +kernel
theorem dX12_at_0 : decode cX12_at 0 = .ok (.aload_n 0, 1) := by decide +kernel
theorem dX12_at_1 : decode cX12_at 1 = .ok (.aload_n 0, 1) := by decide +kernel
theorem dX12_at_2 : decode cX12_at 2 = .ok (.getfield 19, 3) := by decide +kernel
theorem dX12_at_5 : decode cX12_at 5 = .ok (.iload_n 1, 1) := by decide +kernel
theorem dX12_at_6 : decode cX12_at 6 = .ok (.invokestatic 46, 3) := by decide +kernel
theorem dX12_at_9 : decode cX12_at 9 = .ok (.ifCond .ne 7, 3) := by decide +kernel
theorem dX12_at_12 : decode cX12_at 12 = .ok (.iconst 1, 1) := by decide +kernel
theorem dX12_at_13 : decode cX12_at 13 = .ok (.goto 28, 3) := by decide +kernel
theorem dX12_at_41 : decode cX12_at 41 = .ok (.invokevirtual 50, 3) := by decide +kernel
theorem dX12_at_44 : decode cX12_at 44 = .ok (.ifCond .eq 7, 3) := by decide +kernel
theorem dX12_at_47 : decode cX12_at 47 = .ok (.iconst 0, 1) := by decide +kernel
theorem dX12_at_48 : decode cX12_at 48 = .ok (.goto 19, 3) := by decide +kernel
theorem dX12_at_67 : decode cX12_at 67 = .ok (.ireturn, 1) := by decide +kernel
theorem dX12_isNoBody_0 : decode cX12_isNoBody 0 = .ok (.aload_n 0, 1) := by decide +kernel
theorem dX12_isNoBody_1 : decode cX12_isNoBody 1 = .ok (.aload_n 0, 1) := by decide +kernel
theorem dX12_isNoBody_2 : decode cX12_isNoBody 2 = .ok (.getfield 25, 3) := by decide +kernel
theorem dX12_isNoBody_5 : decode cX12_isNoBody 5 = .ok (.iload_n 1, 1) := by decide +kernel
theorem dX12_isNoBody_6 : decode cX12_isNoBody 6 = .ok (.invokestatic 46, 3) := by decide +kernel
theorem dX12_isNoBody_9 : decode cX12_isNoBody 9 = .ok (.ifCond .eq 7, 3) := by decide +kernel
theorem dX12_isNoBody_16 : decode cX12_isNoBody 16 = .ok (.iconst 1, 1) := by decide +kernel
theorem dX12_isNoBody_17 : decode cX12_isNoBody 17 = .ok (.invokevirtual 50, 3) := by decide +kernel
theorem dX12_isNoBody_20 : decode cX12_isNoBody 20 = .ok (.ireturn, 1) := by decide +kernel
theorem dX12_where_0 : decode cX12_where 0 = .ok (.aload_n 0, 1) := by decide +kernel
theorem dX12_where_1 : decode cX12_where 1 = .ok (.iload_n 1, 1) := by decide +kernel
theorem dX12_where_2 : decode cX12_where 2 = .ok (.invokevirtual 272, 3) := by decide +kernel
theorem dX12_where_5 : decode cX12_where 5 = .ok (.ifCond .eq 7, 3) := by decide +kernel
theorem dX12_where_8 : decode cX12_where 8 = .ok (.iconst 0, 1) := by decide +kernel
theorem dX12_where_9 : decode cX12_where 9 = .ok (.goto 19, 3) := by decide +kernel
theorem dX12_where_28 : decode cX12_where 28 = .ok (.ireturn, 1) := by decide +kernel
theorem dX12_waiting_0 : decode cX12_waiting 0 = .ok (.aload_n 0, 1) := by decide +kernel
theorem dX12_waiting_1 : decode cX12_waiting 1 = .ok (.iconst 0, 1) := by decide +kernel
theorem dX12_waiting_2 : decode cX12_waiting 2 = .ok (.putfield 28, 3) := by decide +kernel
theorem dX12_waiting_5 : decode cX12_waiting 5 = .ok (.aload_n 0, 1) := by decide +kernel
theorem dX12_waiting_6 : decode cX12_waiting 6 = .ok (.getfield 25, 3) := by decide +kernel
theorem dX12_waiting_9 : decode cX12_waiting 9 = .ok (.invokeinterface 32 1, 5) := by decide +kernel
theorem dX12_waiting_14 : decode cX12_waiting 14 = .ok (.aload_n 0, 1) := by decide +kernel
theorem dX12_waiting_15 : decode cX12_waiting 15 = .ok (.getfield 263, 3) := by decide +kernel
theorem dX12_waiting_18 : decode cX12_waiting 18 = .ok (.isub, 1) := by decide +kernel
theorem dX12_waiting_19 : decode cX12_waiting 19 = .ok (.ireturn, 1) := by decide +kernel
theorem dX12_stand_0 : decode cX12_stand 0 = .ok (.aload_n 0, 1) := by decide +kernel
theorem dX12_stand_1 : decode cX12_stand 1 = .ok (.aload_n 0, 1) := by decide +kernel
theorem dX12_stand_2 : decode cX12_stand 2 = .ok (.getfield 19, 3) := by decide +kernel
theorem dX12_stand_5 : decode cX12_stand 5 = .ok (.iload_n 1, 1) := by decide +kernel
theorem dX12_stand_6 : decode cX12_stand 6 = .ok (.invokestatic 46, 3) := by decide +kernel
theorem dX12_stand_9 : decode cX12_stand 9 = .ok (.ifCond .eq 7, 3) := by decide +kernel
theorem dX12_stand_16 : decode cX12_stand 16 = .ok (.iconst 1, 1) := by decide +kernel
theorem dX12_stand_17 : decode cX12_stand 17 = .ok (.invokevirtual 50, 3) := by decide +kernel
theorem dX12_stand_20 : decode cX12_stand 20 = .ok (.ifCond .eq 5, 3) := by decide +kernel
theorem dX12_stand_23 : decode cX12_stand 23 = .ok (.iconst 0, 1) := by decide +kernel
theorem dX12_stand_24 : decode cX12_stand 24 = .ok (.ireturn, 1) := by decide +kernel
theorem dX12_letters_0 : decode cX12_letters 0 = .ok (.aload_n 0, 1) := by decide +kernel
theorem dX12_letters_1 : decode cX12_letters 1 = .ok (.aload_n 0, 1) := by decide +kernel
theorem dX12_letters_2 : decode cX12_letters 2 = .ok (.getfield 19, 3) := by decide +kernel
theorem dX12_letters_5 : decode cX12_letters 5 = .ok (.iload_n 1, 1) := by decide +kernel
theorem dX12_letters_6 : decode cX12_letters 6 = .ok (.invokestatic 46, 3) := by decide +kernel
theorem dX12_letters_9 : decode cX12_letters 9 = .ok (.ifCond .ne 7, 3) := by decide +kernel
theorem dX12_letters_12 : decode cX12_letters 12 = .ok (.iconst 1, 1) := by decide +kernel
theorem dX12_letters_13 : decode cX12_letters 13 = .ok (.goto 18, 3) := by decide +kernel
theorem dX12_letters_31 : decode cX12_letters 31 = .ok (.invokevirtual 50, 3) := by decide +kernel
theorem dX12_letters_34 : decode cX12_letters 34 = .ok (.ifCond .eq 5, 3) := by decide +kernel
theorem dX12_letters_37 : decode cX12_letters 37 = .ok (.iconst 0, 1) := by decide +kernel
theorem dX12_letters_38 : decode cX12_letters 38 = .ok (.ireturn, 1) := by decide +kernel
theorem dX12_isNoRobot_0 : decode cX12_isNoRobot 0 = .ok (.aload_n 0, 1) := by decide +kernel
theorem dX12_isNoRobot_1 : decode cX12_isNoRobot 1 = .ok (.aload_n 0, 1) := by decide +kernel
theorem dX12_isNoRobot_2 : decode cX12_isNoRobot 2 = .ok (.getfield 22, 3) := by decide +kernel
theorem dX12_isNoRobot_5 : decode cX12_isNoRobot 5 = .ok (.iload_n 1, 1) := by decide +kernel
theorem dX12_isNoRobot_6 : decode cX12_isNoRobot 6 = .ok (.invokestatic 46, 3) := by decide +kernel
theorem dX12_isNoRobot_9 : decode cX12_isNoRobot 9 = .ok (.ifCond .eq 7, 3) := by decide +kernel
theorem dX12_isNoRobot_16 : decode cX12_isNoRobot 16 = .ok (.iconst 1, 1) := by decide +kernel
theorem dX12_isNoRobot_17 : decode cX12_isNoRobot 17 = .ok (.invokevirtual 50, 3) := by decide +kernel
theorem dX12_isNoRobot_20 : decode cX12_isNoRobot 20 = .ok (.ireturn, 1) := by decide +kernel
theorem dX12_die_0 : decode cX12_die 0 = .ok (.aload_n 0, 1) := by decide +kernel
theorem dX12_die_1 : decode cX12_die 1 = .ok (.iload_n 1, 1) := by decide +kernel
theorem dX12_die_2 : decode cX12_die 2 = .ok (.invokevirtual 282, 3) := by decide +kernel
theorem dX12_die_5 : decode cX12_die 5 = .ok (.ifCond .eq 5, 3) := by decide +kernel
theorem dX12_die_8 : decode cX12_die 8 = .ok (.iconst 0, 1) := by decide +kernel
theorem dX12_die_9 : decode cX12_die 9 = .ok (.ireturn, 1) := by decide +kernel
theorem dX12_standIn_0 : decode cX12_standIn 0 = .ok (.aload_n 0, 1) := by decide +kernel
theorem dX12_standIn_1 : decode cX12_standIn 1 = .ok (.aload_n 0, 1) := by decide +kernel
theorem dX12_standIn_2 : decode cX12_standIn 2 = .ok (.getfield 22, 3) := by decide +kernel
theorem dX12_standIn_5 : decode cX12_standIn 5 = .ok (.iload_n 1, 1) := by decide +kernel
theorem dX12_standIn_6 : decode cX12_standIn 6 = .ok (.invokestatic 46, 3) := by decide +kernel
theorem dX12_standIn_9 : decode cX12_standIn 9 = .ok (.ifCond .eq 19, 3) := by decide +kernel
theorem dX12_standIn_28 : decode cX12_standIn 28 = .ok (.iconst 1, 1) := by decide +kernel
theorem dX12_standIn_29 : decode cX12_standIn 29 = .ok (.goto 13, 3) := by decide +kernel
theorem dX12_standIn_42 : decode cX12_standIn 42 = .ok (.invokevirtual 50, 3) := by decide +kernel
theorem dX12_standIn_45 : decode cX12_standIn 45 = .ok (.ifCond .eq 5, 3) := by decide +kernel
theorem dX12_standIn_48 : decode cX12_standIn 48 = .ok (.iconst 0, 1) := by decide +kernel
theorem dX12_standIn_49 : decode cX12_standIn 49 = .ok (.ireturn, 1) := by decide +kernel
theorem dX12_wear_0 : decode cX12_wear 0 = .ok (.aload_n 0, 1) := by decide +kernel
theorem dX12_wear_1 : decode cX12_wear 1 = .ok (.iload_n 1, 1) := by decide +kernel
theorem dX12_wear_2 : decode cX12_wear 2 = .ok (.invokevirtual 282, 3) := by decide +kernel
theorem dX12_wear_5 : decode cX12_wear 5 = .ok (.ifCond .eq 7, 3) := by decide +kernel
theorem dX12_wear_8 : decode cX12_wear 8 = .ok (.iconst 0, 1) := by decide +kernel
theorem dX12_wear_9 : decode cX12_wear 9 = .ok (.goto 19, 3) := by decide +kernel
theorem dX12_wear_28 : decode cX12_wear 28 = .ok (.ireturn, 1) := by decide +kernel
theorem dX12_dress_0 : decode cX12_dress 0 = .ok (.aload_n 0, 1) := by decide +kernel
theorem dX12_dress_1 : decode cX12_dress 1 = .ok (.aload_n 0, 1) := by decide +kernel
theorem dX12_dress_2 : decode cX12_dress 2 = .ok (.getfield 22, 3) := by decide +kernel
theorem dX12_dress_5 : decode cX12_dress 5 = .ok (.iload_n 1, 1) := by decide +kernel
theorem dX12_dress_6 : decode cX12_dress 6 = .ok (.invokestatic 46, 3) := by decide +kernel
theorem dX12_dress_9 : decode cX12_dress 9 = .ok (.ifCond .ne 7, 3) := by decide +kernel
theorem dX12_dress_12 : decode cX12_dress 12 = .ok (.iconst 1, 1) := by decide +kernel
theorem dX12_dress_13 : decode cX12_dress 13 = .ok (.goto 28, 3) := by decide +kernel
theorem dX12_dress_41 : decode cX12_dress 41 = .ok (.invokevirtual 50, 3) := by decide +kernel
theorem dX12_dress_44 : decode cX12_dress 44 = .ok (.ifCond .eq 5, 3) := by decide +kernel
theorem dX12_dress_47 : decode cX12_dress 47 = .ok (.iconst 0, 1) := by decide +kernel
theorem dX12_dress_48 : decode cX12_dress 48 = .ok (.ireturn, 1) := by decide +kernel
theorem dX12_change_0 : decode cX12_change 0 = .ok (.aload_n 0, 1) := by decide +kernel
theorem dX12_change_1 : decode cX12_change 1 = .ok (.iload_n 1, 1) := by decide +kernel
theorem dX12_change_2 : decode cX12_change 2 = .ok (.invokevirtual 282, 3) := by decide +kernel
theorem dX12_change_5 : decode cX12_change 5 = .ok (.ifCond .eq 5, 3) := by decide +kernel
theorem dX12_change_8 : decode cX12_change 8 = .ok (.iconst 0, 1) := by decide +kernel
theorem dX12_change_9 : decode cX12_change 9 = .ok (.ireturn, 1) := by decide +kernel
theorem dX12_made_0 : decode cX12_made 0 = .ok (.aload_n 0, 1) := by decide +kernel
theorem dX12_made_1 : decode cX12_made 1 = .ok (.iload_n 1, 1) := by decide +kernel
theorem dX12_made_2 : decode cX12_made 2 = .ok (.invokevirtual 282, 3) := by decide +kernel
theorem dX12_made_5 : decode cX12_made 5 = .ok (.ifCond .eq 7, 3) := by decide +kernel
theorem dX12_made_8 : decode cX12_made 8 = .ok (.iconst 0, 1) := by decide +kernel
theorem dX12_made_9 : decode cX12_made 9 = .ok (.goto 19, 3) := by decide +kernel
theorem dX12_made_28 : decode cX12_made 28 = .ok (.ireturn, 1) := by decide +kernel
theorem dX12_lacks_0 : decode cX12_lacks 0 = .ok (.aload_n 0, 1) := by decide +kernel
theorem dX12_lacks_1 : decode cX12_lacks 1 = .ok (.iload_n 1, 1) := by decide +kernel
theorem dX12_lacks_2 : decode cX12_lacks 2 = .ok (.invokevirtual 272, 3) := by decide +kernel
theorem dX12_lacks_5 : decode cX12_lacks 5 = .ok (.ifCond .eq 7, 3) := by decide +kernel
theorem dX12_lacks_8 : decode cX12_lacks 8 = .ok (.iconst 0, 1) := by decide +kernel
theorem dX12_lacks_9 : decode cX12_lacks 9 = .ok (.goto 20, 3) := by decide +kernel
theorem dX12_lacks_29 : decode cX12_lacks 29 = .ok (.ireturn, 1) := by decide +kernel
theorem dX12_isNoSpot_0 : decode cX12_isNoSpot 0 = .ok (.aload_n 0, 1) := by decide +kernel
theorem dX12_isNoSpot_1 : decode cX12_isNoSpot 1 = .ok (.aload_n 0, 1) := by decide +kernel
theorem dX12_isNoSpot_2 : decode cX12_isNoSpot 2 = .ok (.getfield 25, 3) := by decide +kernel
theorem dX12_isNoSpot_5 : decode cX12_isNoSpot 5 = .ok (.iload_n 1, 1) := by decide +kernel
theorem dX12_isNoSpot_6 : decode cX12_isNoSpot 6 = .ok (.invokestatic 46, 3) := by decide +kernel
theorem dX12_isNoSpot_9 : decode cX12_isNoSpot 9 = .ok (.ifCond .eq 18, 3) := by decide +kernel
theorem dX12_isNoSpot_27 : decode cX12_isNoSpot 27 = .ok (.iconst 1, 1) := by decide +kernel
theorem dX12_isNoSpot_28 : decode cX12_isNoSpot 28 = .ok (.invokevirtual 50, 3) := by decide +kernel
theorem dX12_isNoSpot_31 : decode cX12_isNoSpot 31 = .ok (.ireturn, 1) := by decide +kernel
theorem dX12_isLacking_0 : decode cX12_isLacking 0 = .ok (.aload_n 0, 1) := by decide +kernel
theorem dX12_isLacking_1 : decode cX12_isLacking 1 = .ok (.iload_n 1, 1) := by decide +kernel
theorem dX12_isLacking_2 : decode cX12_isLacking 2 = .ok (.iload_n 2, 1) := by decide +kernel
theorem dX12_isLacking_3 : decode cX12_isLacking 3 = .ok (.invokevirtual 291, 3) := by decide +kernel
theorem dX12_isLacking_6 : decode cX12_isLacking 6 = .ok (.ifCond .ne 28, 3) := by decide +kernel
theorem dX12_isLacking_34 : decode cX12_isLacking 34 = .ok (.iconst 0, 1) := by decide +kernel
theorem dX12_isLacking_35 : decode cX12_isLacking 35 = .ok (.ireturn, 1) := by decide +kernel
theorem dX12_firstLacking_0 : decode cX12_firstLacking 0 = .ok (.aload_n 0, 1) := by decide +kernel
theorem dX12_firstLacking_1 : decode cX12_firstLacking 1 = .ok (.iload_n 1, 1) := by decide +kernel
theorem dX12_firstLacking_2 : decode cX12_firstLacking 2 = .ok (.invokevirtual 272, 3) := by decide +kernel
theorem dX12_firstLacking_5 : decode cX12_firstLacking 5 = .ok (.ifCond .eq 5, 3) := by decide +kernel
theorem dX12_firstLacking_8 : decode cX12_firstLacking 8 = .ok (.iconst 0, 1) := by decide +kernel
theorem dX12_firstLacking_9 : decode cX12_firstLacking 9 = .ok (.ireturn, 1) := by decide +kernel
theorem dX12_mend_0 : decode cX12_mend 0 = .ok (.aload_n 0, 1) := by decide +kernel
theorem dX12_mend_1 : decode cX12_mend 1 = .ok (.iload_n 1, 1) := by decide +kernel
theorem dX12_mend_2 : decode cX12_mend 2 = .ok (.iload_n 2, 1) := by decide +kernel
theorem dX12_mend_3 : decode cX12_mend 3 = .ok (.invokevirtual 291, 3) := by decide +kernel
theorem dX12_mend_6 : decode cX12_mend 6 = .ok (.ifCond .ne 57, 3) := by decide +kernel
theorem dX12_mend_63 : decode cX12_mend 63 = .ok (.iconst 0, 1) := by decide +kernel
theorem dX12_mend_64 : decode cX12_mend 64 = .ok (.ireturn, 1) := by decide +kernel
theorem dX12_maker_0 : decode cX12_maker 0 = .ok (.aload_n 0, 1) := by decide +kernel
theorem dX12_maker_1 : decode cX12_maker 1 = .ok (.iload_n 1, 1) := by decide +kernel
theorem dX12_maker_2 : decode cX12_maker 2 = .ok (.iload_n 2, 1) := by decide +kernel
theorem dX12_maker_3 : decode cX12_maker 3 = .ok (.invokevirtual 291, 3) := by decide +kernel
theorem dX12_maker_6 : decode cX12_maker 6 = .ok (.ifCond .eq 5, 3) := by decide +kernel
theorem dX12_maker_9 : decode cX12_maker 9 = .ok (.iconst 0, 1) := by decide +kernel
theorem dX12_maker_10 : decode cX12_maker 10 = .ok (.ireturn, 1) := by decide +kernel
theorem dX12_off_0 : decode cX12_off 0 = .ok (.iconst 0, 1) := by decide +kernel
theorem dX12_off_1 : decode cX12_off 1 = .ok (.istore_n 1, 1) := by decide +kernel
theorem dX12_off_2 : decode cX12_off 2 = .ok (.aload_n 0, 1) := by decide +kernel
theorem dX12_off_3 : decode cX12_off 3 = .ok (.getfield 25, 3) := by decide +kernel
theorem dX12_off_6 : decode cX12_off 6 = .ok (.invokeinterface 82 1, 5) := by decide +kernel
theorem dX12_off_11 : decode cX12_off 11 = .ok (.astore_n 2, 1) := by decide +kernel
theorem dX12_off_12 : decode cX12_off 12 = .ok (.aload_n 2, 1) := by decide +kernel
theorem dX12_off_13 : decode cX12_off 13 = .ok (.invokeinterface 86 1, 5) := by decide +kernel
theorem dX12_off_18 : decode cX12_off 18 = .ok (.ifCond .eq 33, 3) := by decide +kernel
theorem dX12_off_51 : decode cX12_off 51 = .ok (.iload_n 1, 1) := by decide +kernel
theorem dX12_off_52 : decode cX12_off 52 = .ok (.ireturn, 1) := by decide +kernel
theorem dX12_wholes_0 : decode cX12_wholes 0 = .ok (.iconst 0, 1) := by decide +kernel
theorem dX12_wholes_1 : decode cX12_wholes 1 = .ok (.istore_n 1, 1) := by decide +kernel
theorem dX12_wholes_2 : decode cX12_wholes 2 = .ok (.aload_n 0, 1) := by decide +kernel
theorem dX12_wholes_3 : decode cX12_wholes 3 = .ok (.getfield 25, 3) := by decide +kernel
theorem dX12_wholes_6 : decode cX12_wholes 6 = .ok (.invokeinterface 82 1, 5) := by decide +kernel
theorem dX12_wholes_11 : decode cX12_wholes 11 = .ok (.astore_n 2, 1) := by decide +kernel
theorem dX12_wholes_12 : decode cX12_wholes 12 = .ok (.aload_n 2, 1) := by decide +kernel
theorem dX12_wholes_13 : decode cX12_wholes 13 = .ok (.invokeinterface 86 1, 5) := by decide +kernel
theorem dX12_wholes_18 : decode cX12_wholes 18 = .ok (.ifCond .eq 41, 3) := by decide +kernel
theorem dX12_wholes_59 : decode cX12_wholes 59 = .ok (.iload_n 1, 1) := by decide +kernel
theorem dX12_wholes_60 : decode cX12_wholes 60 = .ok (.ireturn, 1) := by decide +kernel
theorem dX12_whole_0 : decode cX12_whole 0 = .ok (.aload_n 0, 1) := by decide +kernel
theorem dX12_whole_1 : decode cX12_whole 1 = .ok (.iconst 0, 1) := by decide +kernel
theorem dX12_whole_2 : decode cX12_whole 2 = .ok (.putfield 28, 3) := by decide +kernel
theorem dX12_whole_5 : decode cX12_whole 5 = .ok (.aload_n 0, 1) := by decide +kernel
theorem dX12_whole_6 : decode cX12_whole 6 = .ok (.invokevirtual 294, 3) := by decide +kernel
theorem dX12_whole_9 : decode cX12_whole 9 = .ok (.ireturn, 1) := by decide +kernel
theorem dX12_offset_0 : decode cX12_offset 0 = .ok (.aload_n 0, 1) := by decide +kernel
theorem dX12_offset_1 : decode cX12_offset 1 = .ok (.aload_n 0, 1) := by decide +kernel
theorem dX12_offset_2 : decode cX12_offset 2 = .ok (.getfield 19, 3) := by decide +kernel
theorem dX12_offset_5 : decode cX12_offset 5 = .ok (.iload_n 1, 1) := by decide +kernel
theorem dX12_offset_6 : decode cX12_offset 6 = .ok (.invokestatic 46, 3) := by decide +kernel
theorem dX12_offset_9 : decode cX12_offset 9 = .ok (.ifCond .ne 7, 3) := by decide +kernel
theorem dX12_offset_12 : decode cX12_offset 12 = .ok (.iconst 1, 1) := by decide +kernel
theorem dX12_offset_13 : decode cX12_offset 13 = .ok (.goto 19, 3) := by decide +kernel
theorem dX12_offset_32 : decode cX12_offset 32 = .ok (.invokevirtual 50, 3) := by decide +kernel
theorem dX12_offset_35 : decode cX12_offset 35 = .ok (.ifCond .eq 5, 3) := by decide +kernel
theorem dX12_offset_38 : decode cX12_offset 38 = .ok (.iconst 0, 1) := by decide +kernel
theorem dX12_offset_39 : decode cX12_offset 39 = .ok (.ireturn, 1) := by decide +kernel
theorem dX12_measure_0 : decode cX12_measure 0 = .ok (.aload_n 0, 1) := by decide +kernel
theorem dX12_measure_1 : decode cX12_measure 1 = .ok (.iload_n 1, 1) := by decide +kernel
theorem dX12_measure_2 : decode cX12_measure 2 = .ok (.invokevirtual 272, 3) := by decide +kernel
theorem dX12_measure_5 : decode cX12_measure 5 = .ok (.ifCond .ne 36, 3) := by decide +kernel
theorem dX12_measure_41 : decode cX12_measure 41 = .ok (.iconst 0, 1) := by decide +kernel
theorem dX12_measure_42 : decode cX12_measure 42 = .ok (.goto 19, 3) := by decide +kernel
theorem dX12_measure_61 : decode cX12_measure 61 = .ok (.ireturn, 1) := by decide +kernel
theorem dX12_feedBack_0 : decode cX12_feedBack 0 = .ok (.aload_n 0, 1) := by decide +kernel
theorem dX12_feedBack_1 : decode cX12_feedBack 1 = .ok (.aload_n 0, 1) := by decide +kernel
theorem dX12_feedBack_2 : decode cX12_feedBack 2 = .ok (.getfield 19, 3) := by decide +kernel
theorem dX12_feedBack_5 : decode cX12_feedBack 5 = .ok (.iload_n 1, 1) := by decide +kernel
theorem dX12_feedBack_6 : decode cX12_feedBack 6 = .ok (.invokestatic 46, 3) := by decide +kernel
theorem dX12_feedBack_9 : decode cX12_feedBack 9 = .ok (.ifCond .ne 7, 3) := by decide +kernel
theorem dX12_feedBack_12 : decode cX12_feedBack 12 = .ok (.iconst 1, 1) := by decide +kernel
theorem dX12_feedBack_13 : decode cX12_feedBack 13 = .ok (.goto 29, 3) := by decide +kernel
theorem dX12_feedBack_42 : decode cX12_feedBack 42 = .ok (.invokevirtual 50, 3) := by decide +kernel
theorem dX12_feedBack_45 : decode cX12_feedBack 45 = .ok (.ifCond .eq 5, 3) := by decide +kernel
theorem dX12_feedBack_48 : decode cX12_feedBack 48 = .ok (.iconst 0, 1) := by decide +kernel
theorem dX12_feedBack_49 : decode cX12_feedBack 49 = .ok (.ireturn, 1) := by decide +kernel
theorem dX12_checksum_0 : decode cX12_checksum 0 = .ok (.aload_n 0, 1) := by decide +kernel
theorem dX12_checksum_1 : decode cX12_checksum 1 = .ok (.iconst 0, 1) := by decide +kernel
theorem dX12_checksum_2 : decode cX12_checksum 2 = .ok (.putfield 28, 3) := by decide +kernel
theorem dX12_checksum_5 : decode cX12_checksum 5 = .ok (.ldc2_w 300, 3) := by decide +kernel
theorem dX12_checksum_8 : decode cX12_checksum 8 = .ok (.lstore_n 1, 1) := by decide +kernel
theorem dX12_checksum_9 : decode cX12_checksum 9 = .ok (.aload_n 0, 1) := by decide +kernel
theorem dX12_checksum_10 : decode cX12_checksum 10 = .ok (.getfield 25, 3) := by decide +kernel
theorem dX12_checksum_13 : decode cX12_checksum 13 = .ok (.invokeinterface 82 1, 5) := by decide +kernel
theorem dX12_checksum_18 : decode cX12_checksum 18 = .ok (.astore_n 3, 1) := by decide +kernel
theorem dX12_checksum_19 : decode cX12_checksum 19 = .ok (.aload_n 3, 1) := by decide +kernel
theorem dX12_checksum_20 : decode cX12_checksum 20 = .ok (.invokeinterface 86 1, 5) := by decide +kernel
theorem dX12_checksum_25 : decode cX12_checksum 25 = .ok (.ifCond .eq 59, 3) := by decide +kernel
theorem dX12_checksum_84 : decode cX12_checksum 84 = .ok (.lload_n 1, 1) := by decide +kernel
theorem dX12_checksum_85 : decode cX12_checksum 85 = .ok (.lreturn, 1) := by decide +kernel
theorem dX12_wholeShare_0 : decode cX12_wholeShare 0 = .ok (.aload_n 0, 1) := by decide +kernel
theorem dX12_wholeShare_1 : decode cX12_wholeShare 1 = .ok (.aload_n 0, 1) := by decide +kernel
theorem dX12_wholeShare_2 : decode cX12_wholeShare 2 = .ok (.invokevirtual 297, 3) := by decide +kernel
theorem dX12_wholeShare_5 : decode cX12_wholeShare 5 = .ok (.ifCond .ne 7, 3) := by decide +kernel
theorem dX12_wholeShare_8 : decode cX12_wholeShare 8 = .ok (.iconst 1, 1) := by decide +kernel
theorem dX12_wholeShare_9 : decode cX12_wholeShare 9 = .ok (.goto 4, 3) := by decide +kernel
theorem dX12_wholeShare_13 : decode cX12_wholeShare 13 = .ok (.invokevirtual 50, 3) := by decide +kernel
theorem dX12_wholeShare_16 : decode cX12_wholeShare 16 = .ok (.ifCond .eq 7, 3) := by decide +kernel
theorem dX12_wholeShare_19 : decode cX12_wholeShare 19 = .ok (.fconst 0, 1) := by decide +kernel
theorem dX12_wholeShare_20 : decode cX12_wholeShare 20 = .ok (.goto 14, 3) := by decide +kernel
theorem dX12_wholeShare_34 : decode cX12_wholeShare 34 = .ok (.freturn, 1) := by decide +kernel
theorem dX12_meanMeasure_0 : decode cX12_meanMeasure 0 = .ok (.iconst 0, 1) := by decide +kernel
theorem dX12_meanMeasure_1 : decode cX12_meanMeasure 1 = .ok (.istore_n 1, 1) := by decide +kernel
theorem dX12_meanMeasure_2 : decode cX12_meanMeasure 2 = .ok (.aload_n 0, 1) := by decide +kernel
theorem dX12_meanMeasure_3 : decode cX12_meanMeasure 3 = .ok (.getfield 25, 3) := by decide +kernel
theorem dX12_meanMeasure_6 : decode cX12_meanMeasure 6 = .ok (.invokeinterface 82 1, 5) := by decide +kernel
theorem dX12_meanMeasure_11 : decode cX12_meanMeasure 11 = .ok (.astore_n 2, 1) := by decide +kernel
theorem dX12_meanMeasure_12 : decode cX12_meanMeasure 12 = .ok (.aload_n 2, 1) := by decide +kernel
theorem dX12_meanMeasure_13 : decode cX12_meanMeasure 13 = .ok (.invokeinterface 86 1, 5) := by decide +kernel
theorem dX12_meanMeasure_18 : decode cX12_meanMeasure 18 = .ok (.ifCond .eq 36, 3) := by decide +kernel
theorem dX12_meanMeasure_54 : decode cX12_meanMeasure 54 = .ok (.aload_n 0, 1) := by decide +kernel
theorem dX12_meanMeasure_55 : decode cX12_meanMeasure 55 = .ok (.aload_n 0, 1) := by decide +kernel
theorem dX12_meanMeasure_56 : decode cX12_meanMeasure 56 = .ok (.invokevirtual 297, 3) := by decide +kernel
theorem dX12_meanMeasure_59 : decode cX12_meanMeasure 59 = .ok (.ifCond .ne 7, 3) := by decide +kernel
theorem dX12_meanMeasure_62 : decode cX12_meanMeasure 62 = .ok (.iconst 1, 1) := by decide +kernel
theorem dX12_meanMeasure_63 : decode cX12_meanMeasure 63 = .ok (.goto 4, 3) := by decide +kernel
theorem dX12_meanMeasure_67 : decode cX12_meanMeasure 67 = .ok (.invokevirtual 50, 3) := by decide +kernel
theorem dX12_meanMeasure_70 : decode cX12_meanMeasure 70 = .ok (.ifCond .eq 7, 3) := by decide +kernel
theorem dX12_meanMeasure_73 : decode cX12_meanMeasure 73 = .ok (.dconst 0, 1) := by decide +kernel
theorem dX12_meanMeasure_74 : decode cX12_meanMeasure 74 = .ok (.goto 11, 3) := by decide +kernel
theorem dX12_meanMeasure_85 : decode cX12_meanMeasure 85 = .ok (.dreturn, 1) := by decide +kernel
theorem dX12_isSound_0 : decode cX12_isSound 0 = .ok (.aload_n 0, 1) := by decide +kernel
theorem dX12_isSound_1 : decode cX12_isSound 1 = .ok (.iconst 0, 1) := by decide +kernel
theorem dX12_isSound_2 : decode cX12_isSound 2 = .ok (.putfield 28, 3) := by decide +kernel
theorem dX12_isSound_5 : decode cX12_isSound 5 = .ok (.iconst 1, 1) := by decide +kernel
theorem dX12_isSound_6 : decode cX12_isSound 6 = .ok (.ireturn, 1) := by decide +kernel
