theorem dX12_thrown_0 : decode cX12_thrown 0 = .ok (.aload_n 0, 1) := by decide +kernel
theorem dX12_thrown_1 : decode cX12_thrown 1 = .ok (.getfield 3, 3) := by decide +kernel
theorem dX12_thrown_4 : decode cX12_thrown 4 = .ok (.ireturn, 1) := by decide +kernel
theorem dX12_in_0 : decode cX12_in 0 = .ok (.lload_n 0, 1) := by decide +kernel
theorem dX12_in_1 : decode cX12_in 1 = .ok (.lload_n 2, 1) := by decide +kernel
theorem dX12_in_2 : decode cX12_in 2 = .ok (.lcmp, 1) := by decide +kernel
theorem dX12_in_3 : decode cX12_in 3 = .ok (.ifCond .lt 14, 3) := by decide +kernel
theorem dX12_in_6 : decode cX12_in 6 = .ok (.lload_n 0, 1) := by decide +kernel
theorem dX12_in_7 : decode cX12_in 7 = .ok (.lload 4, 2) := by decide +kernel
theorem dX12_in_9 : decode cX12_in 9 = .ok (.lcmp, 1) := by decide +kernel
theorem dX12_in_10 : decode cX12_in 10 = .ok (.ifCond .gt 7, 3) := by decide +kernel
theorem dX12_in_13 : decode cX12_in 13 = .ok (.iconst 1, 1) := by decide +kernel
theorem dX12_in_14 : decode cX12_in 14 = .ok (.goto 4, 3) := by decide +kernel
theorem dX12_in_17 : decode cX12_in 17 = .ok (.iconst 0, 1) := by decide +kernel
theorem dX12_in_18 : decode cX12_in 18 = .ok (.ireturn, 1) := by decide +kernel
theorem dX12_refuse_0 : decode cX12_refuse 0 = .ok (.aload_n 0, 1) := by decide +kernel
theorem dX12_refuse_1 : decode cX12_refuse 1 = .ok (.iconst 1, 1) := by decide +kernel
theorem dX12_refuse_2 : decode cX12_refuse 2 = .ok (.putfield 3, 3) := by decide +kernel
theorem dX12_refuse_5 : decode cX12_refuse 5 = .ok (.iconst 0, 1) := by decide +kernel
theorem dX12_refuse_6 : decode cX12_refuse 6 = .ok (.ireturn, 1) := by decide +kernel
theorem dX12_lays_0 : decode cX12_lays 0 = .ok (.aload_n 0, 1) := by decide +kernel
theorem dX12_lays_1 : decode cX12_lays 1 = .ok (.iload_n 1, 1) := by decide +kernel
theorem dX12_lays_2 : decode cX12_lays 2 = .ok (.putfield 7, 3) := by decide +kernel
theorem dX12_lays_5 : decode cX12_lays 5 = .ok (.aload_n 0, 1) := by decide +kernel
theorem dX12_lays_6 : decode cX12_lays 6 = .ok (.iload_n 2, 1) := by decide +kernel
theorem dX12_lays_7 : decode cX12_lays 7 = .ok (.putfield 10, 3) := by decide +kernel
theorem dX12_lays_10 : decode cX12_lays 10 = .ok (.iconst 0, 1) := by decide +kernel
theorem dX12_lays_11 : decode cX12_lays 11 = .ok (.istore_n 3, 1) := by decide +kernel
theorem dX12_lays_12 : decode cX12_lays 12 = .ok (.iload_n 3, 1) := by decide +kernel
theorem dX12_lays_13 : decode cX12_lays 13 = .ok (.iconst 5, 1) := by decide +kernel
theorem dX12_lays_14 : decode cX12_lays 14 = .ok (.if_icmp .ge 34, 3) := by decide +kernel
theorem dX12_lays_17 : decode cX12_lays 17 = .ok (.aload_n 0, 1) := by decide +kernel
theorem dX12_lays_18 : decode cX12_lays 18 = .ok (.getfield 13, 3) := by decide +kernel
theorem dX12_lays_21 : decode cX12_lays 21 = .ok (.iload_n 3, 1) := by decide +kernel
theorem dX12_lays_22 : decode cX12_lays 22 = .ok (.sipush 20000, 3) := by decide +kernel
theorem dX12_lays_25 : decode cX12_lays 25 = .ok (.iastore, 1) := by decide +kernel
theorem dX12_lays_26 : decode cX12_lays 26 = .ok (.aload_n 0, 1) := by decide +kernel
theorem dX12_lays_27 : decode cX12_lays 27 = .ok (.getfield 17, 3) := by decide +kernel
theorem dX12_lays_30 : decode cX12_lays 30 = .ok (.iload_n 3, 1) := by decide +kernel
theorem dX12_lays_31 : decode cX12_lays 31 = .ok (.sipush 300, 3) := by decide +kernel
theorem dX12_lays_34 : decode cX12_lays 34 = .ok (.iastore, 1) := by decide +kernel
theorem dX12_lays_35 : decode cX12_lays 35 = .ok (.aload_n 0, 1) := by decide +kernel
theorem dX12_lays_36 : decode cX12_lays 36 = .ok (.getfield 20, 3) := by decide +kernel
theorem dX12_lays_39 : decode cX12_lays 39 = .ok (.iload_n 3, 1) := by decide +kernel
theorem dX12_lays_40 : decode cX12_lays 40 = .ok (.iconst 0, 1) := by decide +kernel
theorem dX12_lays_41 : decode cX12_lays 41 = .ok (.bastore, 1) := by decide +kernel
theorem dX12_lays_42 : decode cX12_lays 42 = .ok (.iinc 3 1, 3) := by decide +kernel
theorem dX12_lays_45 : decode cX12_lays 45 = .ok (.goto (-33), 3) := by decide +kernel
theorem dX12_lays_48 : decode cX12_lays 48 = .ok (.aload_n 0, 1) := by decide +kernel
theorem dX12_lays_49 : decode cX12_lays 49 = .ok (.iconst 0, 1) := by decide +kernel
theorem dX12_lays_50 : decode cX12_lays 50 = .ok (.putfield 24, 3) := by decide +kernel
theorem dX12_lays_53 : decode cX12_lays 53 = .ok (.aload_n 0, 1) := by decide +kernel
theorem dX12_lays_54 : decode cX12_lays 54 = .ok (.iconst 0, 1) := by decide +kernel
theorem dX12_lays_55 : decode cX12_lays 55 = .ok (.putfield 27, 3) := by decide +kernel
theorem dX12_lays_58 : decode cX12_lays 58 = .ok (.aload_n 0, 1) := by decide +kernel
theorem dX12_lays_59 : decode cX12_lays 59 = .ok (.iconst 0, 1) := by decide +kernel
theorem dX12_lays_60 : decode cX12_lays 60 = .ok (.putfield 30, 3) := by decide +kernel
theorem dX12_lays_63 : decode cX12_lays 63 = .ok (.aload_n 0, 1) := by decide +kernel
theorem dX12_lays_64 : decode cX12_lays 64 = .ok (.iconst 0, 1) := by decide +kernel
theorem dX12_lays_65 : decode cX12_lays 65 = .ok (.putfield 33, 3) := by decide +kernel
theorem dX12_lays_68 : decode cX12_lays 68 = .ok (.aload_n 0, 1) := by decide +kernel
theorem dX12_lays_69 : decode cX12_lays 69 = .ok (.iconst 0, 1) := by decide +kernel
theorem dX12_lays_70 : decode cX12_lays 70 = .ok (.putfield 36, 3) := by decide +kernel
theorem dX12_lays_73 : decode cX12_lays 73 = .ok (.iconst 0, 1) := by decide +kernel
theorem dX12_lays_74 : decode cX12_lays 74 = .ok (.istore_n 3, 1) := by decide +kernel
theorem dX12_lays_75 : decode cX12_lays 75 = .ok (.iload_n 3, 1) := by decide +kernel
theorem dX12_lays_76 : decode cX12_lays 76 = .ok (.bipush 6, 2) := by decide +kernel
theorem dX12_lays_78 : decode cX12_lays 78 = .ok (.if_icmp .ge 16, 3) := by decide +kernel
theorem dX12_lays_81 : decode cX12_lays 81 = .ok (.aload_n 0, 1) := by decide +kernel
theorem dX12_lays_82 : decode cX12_lays 82 = .ok (.getfield 39, 3) := by decide +kernel
theorem dX12_lays_85 : decode cX12_lays 85 = .ok (.iload_n 3, 1) := by decide +kernel
theorem dX12_lays_86 : decode cX12_lays 86 = .ok (.iconst 0, 1) := by decide +kernel
theorem dX12_lays_87 : decode cX12_lays 87 = .ok (.iastore, 1) := by decide +kernel
theorem dX12_lays_88 : decode cX12_lays 88 = .ok (.iinc 3 1, 3) := by decide +kernel
theorem dX12_lays_91 : decode cX12_lays 91 = .ok (.goto (-16), 3) := by decide +kernel
theorem dX12_lays_94 : decode cX12_lays 94 = .ok (.return_, 1) := by decide +kernel
theorem dX12_isSector_0 : decode cX12_isSector 0 = .ok (.iload_n 1, 1) := by decide +kernel
theorem dX12_isSector_1 : decode cX12_isSector 1 = .ok (.i2l, 1) := by decide +kernel
theorem dX12_isSector_2 : decode cX12_isSector 2 = .ok (.lconst 0, 1) := by decide +kernel
theorem dX12_isSector_3 : decode cX12_isSector 3 = .ok (.aload_n 0, 1) := by decide +kernel
theorem dX12_isSector_4 : decode cX12_isSector 4 = .ok (.getfield 7, 3) := by decide +kernel
theorem dX12_isSector_7 : decode cX12_isSector 7 = .ok (.iconst 1, 1) := by decide +kernel
theorem dX12_isSector_8 : decode cX12_isSector 8 = .ok (.isub, 1) := by decide +kernel
theorem dX12_isSector_9 : decode cX12_isSector 9 = .ok (.i2l, 1) := by decide +kernel
theorem dX12_isSector_10 : decode cX12_isSector 10 = .ok (.invokestatic 42, 3) := by decide +kernel
theorem dX12_isSector_13 : decode cX12_isSector 13 = .ok (.ireturn, 1) := by decide +kernel
theorem dX12_isLap_0 : decode cX12_isLap 0 = .ok (.iload_n 1, 1) := by decide +kernel
theorem dX12_isLap_1 : decode cX12_isLap 1 = .ok (.i2l, 1) := by decide +kernel
theorem dX12_isLap_2 : decode cX12_isLap 2 = .ok (.lconst 0, 1) := by decide +kernel
theorem dX12_isLap_3 : decode cX12_isLap 3 = .ok (.aload_n 0, 1) := by decide +kernel
theorem dX12_isLap_4 : decode cX12_isLap 4 = .ok (.getfield 10, 3) := by decide +kernel
theorem dX12_isLap_7 : decode cX12_isLap 7 = .ok (.iconst 1, 1) := by decide +kernel
theorem dX12_isLap_8 : decode cX12_isLap 8 = .ok (.isub, 1) := by decide +kernel
theorem dX12_isLap_9 : decode cX12_isLap 9 = .ok (.i2l, 1) := by decide +kernel
theorem dX12_isLap_10 : decode cX12_isLap 10 = .ok (.invokestatic 42, 3) := by decide +kernel
theorem dX12_isLap_13 : decode cX12_isLap 13 = .ok (.ireturn, 1) := by decide +kernel
theorem dX12_track_0 : decode cX12_track 0 = .ok (.aload_n 0, 1) := by decide +kernel
theorem dX12_track_1 : decode cX12_track 1 = .ok (.iconst 0, 1) := by decide +kernel
theorem dX12_track_2 : decode cX12_track 2 = .ok (.putfield 3, 3) := by decide +kernel
theorem dX12_track_5 : decode cX12_track 5 = .ok (.iload_n 1, 1) := by decide +kernel
theorem dX12_track_6 : decode cX12_track 6 = .ok (.i2l, 1) := by decide +kernel
theorem dX12_track_7 : decode cX12_track 7 = .ok (.ldc2_w 46, 3) := by decide +kernel
theorem dX12_track_10 : decode cX12_track 10 = .ok (.ldc2_w 48, 3) := by decide +kernel
theorem dX12_track_13 : decode cX12_track 13 = .ok (.invokestatic 42, 3) := by decide +kernel
theorem dX12_track_16 : decode cX12_track 16 = .ok (.ifCond .eq 15, 3) := by decide +kernel
theorem dX12_track_19 : decode cX12_track 19 = .ok (.iload_n 2, 1) := by decide +kernel
theorem dX12_track_20 : decode cX12_track 20 = .ok (.i2l, 1) := by decide +kernel
theorem dX12_track_21 : decode cX12_track 21 = .ok (.lconst 1, 1) := by decide +kernel
theorem dX12_track_22 : decode cX12_track 22 = .ok (.ldc2_w 50, 3) := by decide +kernel
theorem dX12_track_25 : decode cX12_track 25 = .ok (.invokestatic 42, 3) := by decide +kernel
theorem dX12_track_28 : decode cX12_track 28 = .ok (.ifCond .ne 5, 3) := by decide +kernel
theorem dX12_track_31 : decode cX12_track 31 = .ok (.iconst 0, 1) := by decide +kernel
theorem dX12_track_32 : decode cX12_track 32 = .ok (.ireturn, 1) := by decide +kernel
theorem dX12_track_33 : decode cX12_track 33 = .ok (.aload_n 0, 1) := by decide +kernel
theorem dX12_track_34 : decode cX12_track 34 = .ok (.iload_n 1, 1) := by decide +kernel
theorem dX12_track_35 : decode cX12_track 35 = .ok (.iload_n 2, 1) := by decide +kernel
theorem dX12_track_36 : decode cX12_track 36 = .ok (.invokevirtual 52, 3) := by decide +kernel
theorem dX12_track_39 : decode cX12_track 39 = .ok (.iconst 1, 1) := by decide +kernel
theorem dX12_track_40 : decode cX12_track 40 = .ok (.ireturn, 1) := by decide +kernel
theorem dX12_sector_0 : decode cX12_sector 0 = .ok (.aload_n 0, 1) := by decide +kernel
theorem dX12_sector_1 : decode cX12_sector 1 = .ok (.iconst 0, 1) := by decide +kernel
theorem dX12_sector_2 : decode cX12_sector 2 = .ok (.putfield 3, 3) := by decide +kernel
theorem dX12_sector_5 : decode cX12_sector 5 = .ok (.aload_n 0, 1) := by decide +kernel
theorem dX12_sector_6 : decode cX12_sector 6 = .ok (.iload_n 1, 1) := by decide +kernel
theorem dX12_sector_7 : decode cX12_sector 7 = .ok (.invokevirtual 56, 3) := by decide +kernel
theorem dX12_sector_10 : decode cX12_sector 10 = .ok (.ifCond .eq 31, 3) := by decide +kernel
theorem dX12_sector_13 : decode cX12_sector 13 = .ok (.iload_n 2, 1) := by decide +kernel
theorem dX12_sector_14 : decode cX12_sector 14 = .ok (.i2l, 1) := by decide +kernel
theorem dX12_sector_15 : decode cX12_sector 15 = .ok (.ldc2_w 60, 3) := by decide +kernel
theorem dX12_sector_18 : decode cX12_sector 18 = .ok (.ldc2_w 62, 3) := by decide +kernel
theorem dX12_sector_21 : decode cX12_sector 21 = .ok (.invokestatic 42, 3) := by decide +kernel
theorem dX12_sector_24 : decode cX12_sector 24 = .ok (.ifCond .eq 17, 3) := by decide +kernel
theorem dX12_sector_27 : decode cX12_sector 27 = .ok (.iload_n 3, 1) := by decide +kernel
theorem dX12_sector_28 : decode cX12_sector 28 = .ok (.i2l, 1) := by decide +kernel
theorem dX12_sector_29 : decode cX12_sector 29 = .ok (.ldc2_w 64, 3) := by decide +kernel
theorem dX12_sector_32 : decode cX12_sector 32 = .ok (.ldc2_w 60, 3) := by decide +kernel
theorem dX12_sector_35 : decode cX12_sector 35 = .ok (.invokestatic 42, 3) := by decide +kernel
theorem dX12_sector_38 : decode cX12_sector 38 = .ok (.ifCond .ne 5, 3) := by decide +kernel
theorem dX12_sector_41 : decode cX12_sector 41 = .ok (.iconst 0, 1) := by decide +kernel
theorem dX12_sector_42 : decode cX12_sector 42 = .ok (.ireturn, 1) := by decide +kernel
theorem dX12_sector_43 : decode cX12_sector 43 = .ok (.aload_n 0, 1) := by decide +kernel
theorem dX12_sector_44 : decode cX12_sector 44 = .ok (.getfield 13, 3) := by decide +kernel
theorem dX12_sector_47 : decode cX12_sector 47 = .ok (.iload_n 1, 1) := by decide +kernel
theorem dX12_sector_48 : decode cX12_sector 48 = .ok (.iload_n 2, 1) := by decide +kernel
theorem dX12_sector_49 : decode cX12_sector 49 = .ok (.iastore, 1) := by decide +kernel
theorem dX12_sector_50 : decode cX12_sector 50 = .ok (.aload_n 0, 1) := by decide +kernel
theorem dX12_sector_51 : decode cX12_sector 51 = .ok (.getfield 17, 3) := by decide +kernel
theorem dX12_sector_54 : decode cX12_sector 54 = .ok (.iload_n 1, 1) := by decide +kernel
theorem dX12_sector_55 : decode cX12_sector 55 = .ok (.iload_n 3, 1) := by decide +kernel
theorem dX12_sector_56 : decode cX12_sector 56 = .ok (.iastore, 1) := by decide +kernel
theorem dX12_sector_57 : decode cX12_sector 57 = .ok (.iconst 1, 1) := by decide +kernel
theorem dX12_sector_58 : decode cX12_sector 58 = .ok (.ireturn, 1) := by decide +kernel
theorem dX12_mostOfTyres_0 : decode cX12_mostOfTyres 0 = .ok (.iload_n 0, 1) := by decide +kernel
theorem dX12_mostOfTyres_1 : decode cX12_mostOfTyres 1 = .ok (.ifCond .ne 9, 3) := by decide +kernel
theorem dX12_mostOfTyres_4 : decode cX12_mostOfTyres 4 = .ok (.sipush 3000, 3) := by decide +kernel
theorem dX12_mostOfTyres_7 : decode cX12_mostOfTyres 7 = .ok (.goto 27, 3) := by decide +kernel
theorem dX12_mostOfTyres_10 : decode cX12_mostOfTyres 10 = .ok (.iload_n 0, 1) := by decide +kernel
theorem dX12_mostOfTyres_11 : decode cX12_mostOfTyres 11 = .ok (.iconst 2, 1) := by decide +kernel
theorem dX12_mostOfTyres_12 : decode cX12_mostOfTyres 12 = .ok (.if_icmp .ne 9, 3) := by decide +kernel
theorem dX12_mostOfTyres_15 : decode cX12_mostOfTyres 15 = .ok (.sipush 200, 3) := by decide +kernel
theorem dX12_mostOfTyres_18 : decode cX12_mostOfTyres 18 = .ok (.goto 16, 3) := by decide +kernel
theorem dX12_mostOfTyres_21 : decode cX12_mostOfTyres 21 = .ok (.iload_n 0, 1) := by decide +kernel
theorem dX12_mostOfTyres_22 : decode cX12_mostOfTyres 22 = .ok (.iconst 3, 1) := by decide +kernel
theorem dX12_mostOfTyres_23 : decode cX12_mostOfTyres 23 = .ok (.if_icmp .ne 9, 3) := by decide +kernel
theorem dX12_mostOfTyres_26 : decode cX12_mostOfTyres 26 = .ok (.sipush 5000, 3) := by decide +kernel
theorem dX12_mostOfTyres_29 : decode cX12_mostOfTyres 29 = .ok (.goto 5, 3) := by decide +kernel
theorem dX12_mostOfTyres_32 : decode cX12_mostOfTyres 32 = .ok (.bipush 100, 2) := by decide +kernel
theorem dX12_mostOfTyres_34 : decode cX12_mostOfTyres 34 = .ok (.ireturn, 1) := by decide +kernel
theorem dX12_tyres_0 : decode cX12_tyres 0 = .ok (.aload_n 0, 1) := by decide +kernel
theorem dX12_tyres_1 : decode cX12_tyres 1 = .ok (.iconst 0, 1) := by decide +kernel
theorem dX12_tyres_2 : decode cX12_tyres 2 = .ok (.putfield 3, 3) := by decide +kernel
theorem dX12_tyres_5 : decode cX12_tyres 5 = .ok (.iload_n 1, 1) := by decide +kernel
theorem dX12_tyres_6 : decode cX12_tyres 6 = .ok (.i2l, 1) := by decide +kernel
theorem dX12_tyres_7 : decode cX12_tyres 7 = .ok (.lconst 0, 1) := by decide +kernel
theorem dX12_tyres_8 : decode cX12_tyres 8 = .ok (.ldc2_w 66, 3) := by decide +kernel
theorem dX12_tyres_11 : decode cX12_tyres 11 = .ok (.invokestatic 42, 3) := by decide +kernel
theorem dX12_tyres_14 : decode cX12_tyres 14 = .ok (.ifCond .eq 29, 3) := by decide +kernel
theorem dX12_tyres_17 : decode cX12_tyres 17 = .ok (.iload_n 2, 1) := by decide +kernel
theorem dX12_tyres_18 : decode cX12_tyres 18 = .ok (.i2l, 1) := by decide +kernel
theorem dX12_tyres_19 : decode cX12_tyres 19 = .ok (.lconst 0, 1) := by decide +kernel
theorem dX12_tyres_20 : decode cX12_tyres 20 = .ok (.ldc2_w 48, 3) := by decide +kernel
theorem dX12_tyres_23 : decode cX12_tyres 23 = .ok (.invokestatic 42, 3) := by decide +kernel
theorem dX12_tyres_26 : decode cX12_tyres 26 = .ok (.ifCond .eq 17, 3) := by decide +kernel
theorem dX12_tyres_29 : decode cX12_tyres 29 = .ok (.iload_n 3, 1) := by decide +kernel
theorem dX12_tyres_30 : decode cX12_tyres 30 = .ok (.i2l, 1) := by decide +kernel
theorem dX12_tyres_31 : decode cX12_tyres 31 = .ok (.lconst 0, 1) := by decide +kernel
theorem dX12_tyres_32 : decode cX12_tyres 32 = .ok (.iload_n 2, 1) := by decide +kernel
theorem dX12_tyres_33 : decode cX12_tyres 33 = .ok (.invokestatic 68, 3) := by decide +kernel
theorem dX12_tyres_36 : decode cX12_tyres 36 = .ok (.i2l, 1) := by decide +kernel
theorem dX12_tyres_37 : decode cX12_tyres 37 = .ok (.invokestatic 42, 3) := by decide +kernel
theorem dX12_tyres_40 : decode cX12_tyres 40 = .ok (.ifCond .ne 5, 3) := by decide +kernel
theorem dX12_tyres_43 : decode cX12_tyres 43 = .ok (.iconst (-1), 1) := by decide +kernel
theorem dX12_tyres_44 : decode cX12_tyres 44 = .ok (.ireturn, 1) := by decide +kernel
theorem dX12_tyres_45 : decode cX12_tyres 45 = .ok (.aload_n 0, 1) := by decide +kernel
theorem dX12_tyres_46 : decode cX12_tyres 46 = .ok (.getfield 72, 3) := by decide +kernel
theorem dX12_tyres_49 : decode cX12_tyres 49 = .ok (.bipush 6, 2) := by decide +kernel
theorem dX12_tyres_51 : decode cX12_tyres 51 = .ok (.iload_n 1, 1) := by decide +kernel
theorem dX12_tyres_52 : decode cX12_tyres 52 = .ok (.imul, 1) := by decide +kernel
theorem dX12_tyres_53 : decode cX12_tyres 53 = .ok (.iload_n 2, 1) := by decide +kernel
theorem dX12_tyres_54 : decode cX12_tyres 54 = .ok (.iadd, 1) := by decide +kernel
theorem dX12_tyres_55 : decode cX12_tyres 55 = .ok (.iaload, 1) := by decide +kernel
theorem dX12_tyres_56 : decode cX12_tyres 56 = .ok (.istore 4, 2) := by decide +kernel
theorem dX12_tyres_58 : decode cX12_tyres 58 = .ok (.aload_n 0, 1) := by decide +kernel
theorem dX12_tyres_59 : decode cX12_tyres 59 = .ok (.getfield 72, 3) := by decide +kernel
theorem dX12_tyres_62 : decode cX12_tyres 62 = .ok (.bipush 6, 2) := by decide +kernel
theorem dX12_tyres_64 : decode cX12_tyres 64 = .ok (.iload_n 1, 1) := by decide +kernel
theorem dX12_tyres_65 : decode cX12_tyres 65 = .ok (.imul, 1) := by decide +kernel
theorem dX12_tyres_66 : decode cX12_tyres 66 = .ok (.iload_n 2, 1) := by decide +kernel
theorem dX12_tyres_67 : decode cX12_tyres 67 = .ok (.iadd, 1) := by decide +kernel
theorem dX12_tyres_68 : decode cX12_tyres 68 = .ok (.iload_n 3, 1) := by decide +kernel
theorem dX12_tyres_69 : decode cX12_tyres 69 = .ok (.iastore, 1) := by decide +kernel
theorem dX12_tyres_70 : decode cX12_tyres 70 = .ok (.iload 4, 2) := by decide +kernel
theorem dX12_tyres_72 : decode cX12_tyres 72 = .ok (.ireturn, 1) := by decide +kernel
theorem dX12_mostOf_0 : decode cX12_mostOf 0 = .ok (.iload_n 0, 1) := by decide +kernel
theorem dX12_mostOf_1 : decode cX12_mostOf 1 = .ok (.tableswitch 69 0 6 #[43, 47, 50, 54, 57, 61, 65], 43) := by decide +kernel
theorem dX12_mostOf_44 : decode cX12_mostOf 44 = .ok (.sipush 2000, 3) := by decide +kernel
theorem dX12_mostOf_47 : decode cX12_mostOf 47 = .ok (.ireturn, 1) := by decide +kernel
theorem dX12_mostOf_48 : decode cX12_mostOf 48 = .ok (.bipush 50, 2) := by decide +kernel
theorem dX12_mostOf_50 : decode cX12_mostOf 50 = .ok (.ireturn, 1) := by decide +kernel
theorem dX12_mostOf_51 : decode cX12_mostOf 51 = .ok (.sipush 500, 3) := by decide +kernel
theorem dX12_mostOf_54 : decode cX12_mostOf 54 = .ok (.ireturn, 1) := by decide +kernel
theorem dX12_mostOf_55 : decode cX12_mostOf 55 = .ok (.ldc 75, 2) := by decide +kernel
theorem dX12_mostOf_57 : decode cX12_mostOf 57 = .ok (.ireturn, 1) := by decide +kernel
theorem dX12_mostOf_58 : decode cX12_mostOf 58 = .ok (.sipush 20000, 3) := by decide +kernel
theorem dX12_mostOf_61 : decode cX12_mostOf 61 = .ok (.ireturn, 1) := by decide +kernel
theorem dX12_mostOf_62 : decode cX12_mostOf 62 = .ok (.sipush 200, 3) := by decide +kernel
theorem dX12_mostOf_65 : decode cX12_mostOf 65 = .ok (.ireturn, 1) := by decide +kernel
theorem dX12_mostOf_66 : decode cX12_mostOf 66 = .ok (.sipush 2000, 3) := by decide +kernel
theorem dX12_mostOf_69 : decode cX12_mostOf 69 = .ok (.ireturn, 1) := by decide +kernel
theorem dX12_mostOf_70 : decode cX12_mostOf 70 = .ok (.bipush 9, 2) := by decide +kernel
theorem dX12_mostOf_72 : decode cX12_mostOf 72 = .ok (.ireturn, 1) := by decide +kernel
theorem dX12_set_0 : decode cX12_set 0 = .ok (.aload_n 0, 1) := by decide +kernel
theorem dX12_set_1 : decode cX12_set 1 = .ok (.iconst 0, 1) := by decide +kernel
theorem dX12_set_2 : decode cX12_set 2 = .ok (.putfield 3, 3) := by decide +kernel
theorem dX12_set_5 : decode cX12_set 5 = .ok (.iload_n 1, 1) := by decide +kernel
theorem dX12_set_6 : decode cX12_set 6 = .ok (.i2l, 1) := by decide +kernel
theorem dX12_set_7 : decode cX12_set 7 = .ok (.lconst 0, 1) := by decide +kernel
theorem dX12_set_8 : decode cX12_set 8 = .ok (.ldc2_w 76, 3) := by decide +kernel
theorem dX12_set_11 : decode cX12_set 11 = .ok (.invokestatic 42, 3) := by decide +kernel
theorem dX12_set_14 : decode cX12_set 14 = .ok (.ifCond .eq 27, 3) := by decide +kernel
theorem dX12_set_17 : decode cX12_set 17 = .ok (.iload_n 2, 1) := by decide +kernel
theorem dX12_set_18 : decode cX12_set 18 = .ok (.i2l, 1) := by decide +kernel
theorem dX12_set_19 : decode cX12_set 19 = .ok (.iload_n 1, 1) := by decide +kernel
theorem dX12_set_20 : decode cX12_set 20 = .ok (.ifCond .ne 9, 3) := by decide +kernel
theorem dX12_set_23 : decode cX12_set 23 = .ok (.ldc2_w 78, 3) := by decide +kernel
theorem dX12_set_26 : decode cX12_set 26 = .ok (.goto 4, 3) := by decide +kernel
theorem dX12_set_29 : decode cX12_set 29 = .ok (.lconst 0, 1) := by decide +kernel
theorem dX12_set_30 : decode cX12_set 30 = .ok (.iload_n 1, 1) := by decide +kernel
theorem dX12_set_31 : decode cX12_set 31 = .ok (.invokestatic 80, 3) := by decide +kernel
theorem dX12_set_34 : decode cX12_set 34 = .ok (.i2l, 1) := by decide +kernel
theorem dX12_set_35 : decode cX12_set 35 = .ok (.invokestatic 42, 3) := by decide +kernel
theorem dX12_set_38 : decode cX12_set 38 = .ok (.ifCond .ne 5, 3) := by decide +kernel
theorem dX12_set_41 : decode cX12_set 41 = .ok (.iconst (-1), 1) := by decide +kernel
theorem dX12_set_42 : decode cX12_set 42 = .ok (.ireturn, 1) := by decide +kernel
theorem dX12_set_43 : decode cX12_set 43 = .ok (.aload_n 0, 1) := by decide +kernel
theorem dX12_set_44 : decode cX12_set 44 = .ok (.getfield 83, 3) := by decide +kernel
theorem dX12_set_47 : decode cX12_set 47 = .ok (.iload_n 1, 1) := by decide +kernel
theorem dX12_set_48 : decode cX12_set 48 = .ok (.iaload, 1) := by decide +kernel
theorem dX12_set_49 : decode cX12_set 49 = .ok (.istore_n 3, 1) := by decide +kernel
theorem dX12_set_50 : decode cX12_set 50 = .ok (.aload_n 0, 1) := by decide +kernel
theorem dX12_set_51 : decode cX12_set 51 = .ok (.getfield 83, 3) := by decide +kernel
theorem dX12_set_54 : decode cX12_set 54 = .ok (.iload_n 1, 1) := by decide +kernel
theorem dX12_set_55 : decode cX12_set 55 = .ok (.iload_n 2, 1) := by decide +kernel
theorem dX12_set_56 : decode cX12_set 56 = .ok (.iastore, 1) := by decide +kernel
theorem dX12_set_57 : decode cX12_set 57 = .ok (.iload_n 3, 1) := by decide +kernel
theorem dX12_set_58 : decode cX12_set 58 = .ok (.ireturn, 1) := by decide +kernel
theorem dX12_rain_0 : decode cX12_rain 0 = .ok (.aload_n 0, 1) := by decide +kernel
theorem dX12_rain_1 : decode cX12_rain 1 = .ok (.iconst 0, 1) := by decide +kernel
theorem dX12_rain_2 : decode cX12_rain 2 = .ok (.putfield 3, 3) := by decide +kernel
theorem dX12_rain_5 : decode cX12_rain 5 = .ok (.aload_n 0, 1) := by decide +kernel
theorem dX12_rain_6 : decode cX12_rain 6 = .ok (.iload_n 1, 1) := by decide +kernel
theorem dX12_rain_7 : decode cX12_rain 7 = .ok (.invokevirtual 56, 3) := by decide +kernel
theorem dX12_rain_10 : decode cX12_rain 10 = .ok (.ifCond .eq 28, 3) := by decide +kernel
theorem dX12_rain_13 : decode cX12_rain 13 = .ok (.iload_n 2, 1) := by decide +kernel
theorem dX12_rain_14 : decode cX12_rain 14 = .ok (.ifCond .lt 24, 3) := by decide +kernel
theorem dX12_rain_17 : decode cX12_rain 17 = .ok (.iload_n 3, 1) := by decide +kernel
theorem dX12_rain_18 : decode cX12_rain 18 = .ok (.i2l, 1) := by decide +kernel
theorem dX12_rain_19 : decode cX12_rain 19 = .ok (.lconst 0, 1) := by decide +kernel
theorem dX12_rain_20 : decode cX12_rain 20 = .ok (.ldc2_w 78, 3) := by decide +kernel
theorem dX12_rain_23 : decode cX12_rain 23 = .ok (.invokestatic 42, 3) := by decide +kernel
theorem dX12_rain_26 : decode cX12_rain 26 = .ok (.ifCond .eq 12, 3) := by decide +kernel
theorem dX12_rain_29 : decode cX12_rain 29 = .ok (.aload_n 0, 1) := by decide +kernel
theorem dX12_rain_30 : decode cX12_rain 30 = .ok (.getfield 24, 3) := by decide +kernel
theorem dX12_rain_33 : decode cX12_rain 33 = .ok (.bipush 30, 2) := by decide +kernel
theorem dX12_rain_35 : decode cX12_rain 35 = .ok (.if_icmp .ne 5, 3) := by decide +kernel
theorem dX12_rain_38 : decode cX12_rain 38 = .ok (.iconst (-1), 1) := by decide +kernel
theorem dX12_rain_39 : decode cX12_rain 39 = .ok (.ireturn, 1) := by decide +kernel
theorem dX12_rain_40 : decode cX12_rain 40 = .ok (.aload_n 0, 1) := by decide +kernel
theorem dX12_rain_41 : decode cX12_rain 41 = .ok (.getfield 86, 3) := by decide +kernel
theorem dX12_rain_44 : decode cX12_rain 44 = .ok (.aload_n 0, 1) := by decide +kernel
theorem dX12_rain_45 : decode cX12_rain 45 = .ok (.getfield 24, 3) := by decide +kernel
theorem dX12_rain_48 : decode cX12_rain 48 = .ok (.iload_n 1, 1) := by decide +kernel
theorem dX12_rain_49 : decode cX12_rain 49 = .ok (.iastore, 1) := by decide +kernel
theorem dX12_rain_50 : decode cX12_rain 50 = .ok (.aload_n 0, 1) := by decide +kernel
theorem dX12_rain_51 : decode cX12_rain 51 = .ok (.getfield 89, 3) := by decide +kernel
theorem dX12_rain_54 : decode cX12_rain 54 = .ok (.aload_n 0, 1) := by decide +kernel
theorem dX12_rain_55 : decode cX12_rain 55 = .ok (.getfield 24, 3) := by decide +kernel
theorem dX12_rain_58 : decode cX12_rain 58 = .ok (.iload_n 2, 1) := by decide +kernel
theorem dX12_rain_59 : decode cX12_rain 59 = .ok (.iastore, 1) := by decide +kernel
theorem dX12_rain_60 : decode cX12_rain 60 = .ok (.aload_n 0, 1) := by decide +kernel
theorem dX12_rain_61 : decode cX12_rain 61 = .ok (.getfield 92, 3) := by decide +kernel
theorem dX12_rain_64 : decode cX12_rain 64 = .ok (.aload_n 0, 1) := by decide +kernel
theorem dX12_rain_65 : decode cX12_rain 65 = .ok (.getfield 24, 3) := by decide +kernel
theorem dX12_rain_68 : decode cX12_rain 68 = .ok (.iload_n 3, 1) := by decide +kernel
theorem dX12_rain_69 : decode cX12_rain 69 = .ok (.iastore, 1) := by decide +kernel
theorem dX12_rain_70 : decode cX12_rain 70 = .ok (.aload_n 0, 1) := by decide +kernel
theorem dX12_rain_71 : decode cX12_rain 71 = .ok (.dup, 1) := by decide +kernel
theorem dX12_rain_72 : decode cX12_rain 72 = .ok (.getfield 24, 3) := by decide +kernel
theorem dX12_rain_75 : decode cX12_rain 75 = .ok (.iconst 1, 1) := by decide +kernel
theorem dX12_rain_76 : decode cX12_rain 76 = .ok (.iadd, 1) := by decide +kernel
theorem dX12_rain_77 : decode cX12_rain 77 = .ok (.putfield 24, 3) := by decide +kernel
theorem dX12_rain_80 : decode cX12_rain 80 = .ok (.aload_n 0, 1) := by decide +kernel
theorem dX12_rain_81 : decode cX12_rain 81 = .ok (.getfield 24, 3) := by decide +kernel
theorem dX12_rain_84 : decode cX12_rain 84 = .ok (.ireturn, 1) := by decide +kernel
theorem dX12_flag_0 : decode cX12_flag 0 = .ok (.aload_n 0, 1) := by decide +kernel
theorem dX12_flag_1 : decode cX12_flag 1 = .ok (.iconst 0, 1) := by decide +kernel
theorem dX12_flag_2 : decode cX12_flag 2 = .ok (.putfield 3, 3) := by decide +kernel
theorem dX12_flag_5 : decode cX12_flag 5 = .ok (.iload_n 1, 1) := by decide +kernel
theorem dX12_flag_6 : decode cX12_flag 6 = .ok (.iconst (-1), 1) := by decide +kernel
theorem dX12_flag_7 : decode cX12_flag 7 = .ok (.if_icmp .eq 11, 3) := by decide +kernel
theorem dX12_flag_10 : decode cX12_flag 10 = .ok (.aload_n 0, 1) := by decide +kernel
theorem dX12_flag_11 : decode cX12_flag 11 = .ok (.iload_n 1, 1) := by decide +kernel
theorem dX12_flag_12 : decode cX12_flag 12 = .ok (.invokevirtual 56, 3) := by decide +kernel
theorem dX12_flag_15 : decode cX12_flag 15 = .ok (.ifCond .eq 32, 3) := by decide +kernel
theorem dX12_flag_18 : decode cX12_flag 18 = .ok (.iload_n 2, 1) := by decide +kernel
theorem dX12_flag_19 : decode cX12_flag 19 = .ok (.ifCond .lt 28, 3) := by decide +kernel
theorem dX12_flag_22 : decode cX12_flag 22 = .ok (.iload_n 3, 1) := by decide +kernel
theorem dX12_flag_23 : decode cX12_flag 23 = .ok (.iload_n 2, 1) := by decide +kernel
theorem dX12_flag_24 : decode cX12_flag 24 = .ok (.if_icmp .lt 23, 3) := by decide +kernel
theorem dX12_flag_27 : decode cX12_flag 27 = .ok (.iload 4, 2) := by decide +kernel
theorem dX12_flag_29 : decode cX12_flag 29 = .ok (.i2l, 1) := by decide +kernel
theorem dX12_flag_30 : decode cX12_flag 30 = .ok (.lconst 0, 1) := by decide +kernel
theorem dX12_flag_31 : decode cX12_flag 31 = .ok (.lconst 1, 1) := by decide +kernel
theorem dX12_flag_32 : decode cX12_flag 32 = .ok (.invokestatic 42, 3) := by decide +kernel
theorem dX12_flag_35 : decode cX12_flag 35 = .ok (.ifCond .eq 12, 3) := by decide +kernel
theorem dX12_flag_38 : decode cX12_flag 38 = .ok (.aload_n 0, 1) := by decide +kernel
theorem dX12_flag_39 : decode cX12_flag 39 = .ok (.getfield 27, 3) := by decide +kernel
theorem dX12_flag_42 : decode cX12_flag 42 = .ok (.bipush 20, 2) := by decide +kernel
theorem dX12_flag_44 : decode cX12_flag 44 = .ok (.if_icmp .ne 5, 3) := by decide +kernel
theorem dX12_flag_47 : decode cX12_flag 47 = .ok (.iconst (-1), 1) := by decide +kernel
theorem dX12_flag_48 : decode cX12_flag 48 = .ok (.ireturn, 1) := by decide +kernel
theorem dX12_flag_49 : decode cX12_flag 49 = .ok (.aload_n 0, 1) := by decide +kernel
theorem dX12_flag_50 : decode cX12_flag 50 = .ok (.getfield 95, 3) := by decide +kernel
theorem dX12_flag_53 : decode cX12_flag 53 = .ok (.aload_n 0, 1) := by decide +kernel
theorem dX12_flag_54 : decode cX12_flag 54 = .ok (.getfield 27, 3) := by decide +kernel
theorem dX12_flag_57 : decode cX12_flag 57 = .ok (.iload_n 1, 1) := by decide +kernel
theorem dX12_flag_58 : decode cX12_flag 58 = .ok (.iastore, 1) := by decide +kernel
theorem dX12_flag_59 : decode cX12_flag 59 = .ok (.aload_n 0, 1) := by decide +kernel
theorem dX12_flag_60 : decode cX12_flag 60 = .ok (.getfield 98, 3) := by decide +kernel
theorem dX12_flag_63 : decode cX12_flag 63 = .ok (.aload_n 0, 1) := by decide +kernel
theorem dX12_flag_64 : decode cX12_flag 64 = .ok (.getfield 27, 3) := by decide +kernel
theorem dX12_flag_67 : decode cX12_flag 67 = .ok (.iload_n 2, 1) := by decide +kernel
theorem dX12_flag_68 : decode cX12_flag 68 = .ok (.iastore, 1) := by decide +kernel
theorem dX12_flag_69 : decode cX12_flag 69 = .ok (.aload_n 0, 1) := by decide +kernel
theorem dX12_flag_70 : decode cX12_flag 70 = .ok (.getfield 101, 3) := by decide +kernel
theorem dX12_flag_73 : decode cX12_flag 73 = .ok (.aload_n 0, 1) := by decide +kernel
theorem dX12_flag_74 : decode cX12_flag 74 = .ok (.getfield 27, 3) := by decide +kernel
theorem dX12_flag_77 : decode cX12_flag 77 = .ok (.iload_n 3, 1) := by decide +kernel
theorem dX12_flag_78 : decode cX12_flag 78 = .ok (.iastore, 1) := by decide +kernel
theorem dX12_flag_79 : decode cX12_flag 79 = .ok (.aload_n 0, 1) := by decide +kernel
theorem dX12_flag_80 : decode cX12_flag 80 = .ok (.getfield 104, 3) := by decide +kernel
theorem dX12_flag_83 : decode cX12_flag 83 = .ok (.aload_n 0, 1) := by decide +kernel
theorem dX12_flag_84 : decode cX12_flag 84 = .ok (.getfield 27, 3) := by decide +kernel
theorem dX12_flag_87 : decode cX12_flag 87 = .ok (.iload 4, 2) := by decide +kernel
theorem dX12_flag_89 : decode cX12_flag 89 = .ok (.iastore, 1) := by decide +kernel
theorem dX12_flag_90 : decode cX12_flag 90 = .ok (.aload_n 0, 1) := by decide +kernel
theorem dX12_flag_91 : decode cX12_flag 91 = .ok (.dup, 1) := by decide +kernel
theorem dX12_flag_92 : decode cX12_flag 92 = .ok (.getfield 27, 3) := by decide +kernel
theorem dX12_flag_95 : decode cX12_flag 95 = .ok (.iconst 1, 1) := by decide +kernel
theorem dX12_flag_96 : decode cX12_flag 96 = .ok (.iadd, 1) := by decide +kernel
theorem dX12_flag_97 : decode cX12_flag 97 = .ok (.putfield 27, 3) := by decide +kernel
theorem dX12_flag_100 : decode cX12_flag 100 = .ok (.aload_n 0, 1) := by decide +kernel
theorem dX12_flag_101 : decode cX12_flag 101 = .ok (.getfield 27, 3) := by decide +kernel
theorem dX12_flag_104 : decode cX12_flag 104 = .ok (.ireturn, 1) := by decide +kernel
theorem dX12_isCar_0 : decode cX12_isCar 0 = .ok (.iload_n 1, 1) := by decide +kernel
theorem dX12_isCar_1 : decode cX12_isCar 1 = .ok (.i2l, 1) := by decide +kernel
theorem dX12_isCar_2 : decode cX12_isCar 2 = .ok (.lconst 0, 1) := by decide +kernel
theorem dX12_isCar_3 : decode cX12_isCar 3 = .ok (.aload_n 0, 1) := by decide +kernel
theorem dX12_isCar_4 : decode cX12_isCar 4 = .ok (.getfield 30, 3) := by decide +kernel
theorem dX12_isCar_7 : decode cX12_isCar 7 = .ok (.iconst 1, 1) := by decide +kernel
theorem dX12_isCar_8 : decode cX12_isCar 8 = .ok (.isub, 1) := by decide +kernel
theorem dX12_isCar_9 : decode cX12_isCar 9 = .ok (.i2l, 1) := by decide +kernel
theorem dX12_isCar_10 : decode cX12_isCar 10 = .ok (.invokestatic 42, 3) := by decide +kernel
theorem dX12_isCar_13 : decode cX12_isCar 13 = .ok (.ireturn, 1) := by decide +kernel
theorem dX12_car_0 : decode cX12_car 0 = .ok (.aload_n 0, 1) := by decide +kernel
theorem dX12_car_1 : decode cX12_car 1 = .ok (.iconst 0, 1) := by decide +kernel
theorem dX12_car_2 : decode cX12_car 2 = .ok (.putfield 3, 3) := by decide +kernel
theorem dX12_car_5 : decode cX12_car 5 = .ok (.iload_n 1, 1) := by decide +kernel
theorem dX12_car_6 : decode cX12_car 6 = .ok (.i2l, 1) := by decide +kernel
theorem dX12_car_7 : decode cX12_car 7 = .ok (.ldc2_w 107, 3) := by decide +kernel
theorem dX12_car_10 : decode cX12_car 10 = .ok (.ldc2_w 109, 3) := by decide +kernel
theorem dX12_car_13 : decode cX12_car 13 = .ok (.invokestatic 42, 3) := by decide +kernel
theorem dX12_car_16 : decode cX12_car 16 = .ok (.ifCond .eq 72, 3) := by decide +kernel
theorem dX12_car_19 : decode cX12_car 19 = .ok (.iload_n 2, 1) := by decide +kernel
theorem dX12_car_20 : decode cX12_car 20 = .ok (.i2l, 1) := by decide +kernel
theorem dX12_car_21 : decode cX12_car 21 = .ok (.lconst 1, 1) := by decide +kernel
theorem dX12_car_22 : decode cX12_car 22 = .ok (.ldc2_w 111, 3) := by decide +kernel
theorem dX12_car_25 : decode cX12_car 25 = .ok (.invokestatic 42, 3) := by decide +kernel
theorem dX12_car_28 : decode cX12_car 28 = .ok (.ifCond .eq 60, 3) := by decide +kernel
theorem dX12_car_31 : decode cX12_car 31 = .ok (.iload_n 3, 1) := by decide +kernel
theorem dX12_car_32 : decode cX12_car 32 = .ok (.i2l, 1) := by decide +kernel
theorem dX12_car_33 : decode cX12_car 33 = .ok (.lconst 1, 1) := by decide +kernel
theorem dX12_car_34 : decode cX12_car 34 = .ok (.ldc2_w 113, 3) := by decide +kernel
theorem dX12_car_37 : decode cX12_car 37 = .ok (.invokestatic 42, 3) := by decide +kernel
theorem dX12_car_40 : decode cX12_car 40 = .ok (.ifCond .eq 48, 3) := by decide +kernel
theorem dX12_car_43 : decode cX12_car 43 = .ok (.iload 4, 2) := by decide +kernel
theorem dX12_car_45 : decode cX12_car 45 = .ok (.i2l, 1) := by decide +kernel
theorem dX12_car_46 : decode cX12_car 46 = .ok (.lconst 0, 1) := by decide +kernel
theorem dX12_car_47 : decode cX12_car 47 = .ok (.ldc2_w 66, 3) := by decide +kernel
theorem dX12_car_50 : decode cX12_car 50 = .ok (.invokestatic 42, 3) := by decide +kernel
theorem dX12_car_53 : decode cX12_car 53 = .ok (.ifCond .eq 35, 3) := by decide +kernel
theorem dX12_car_56 : decode cX12_car 56 = .ok (.iload 5, 2) := by decide +kernel
theorem dX12_car_58 : decode cX12_car 58 = .ok (.i2l, 1) := by decide +kernel
theorem dX12_car_59 : decode cX12_car 59 = .ok (.lconst 0, 1) := by decide +kernel
theorem dX12_car_60 : decode cX12_car 60 = .ok (.lconst 1, 1) := by decide +kernel
theorem dX12_car_61 : decode cX12_car 61 = .ok (.invokestatic 42, 3) := by decide +kernel
theorem dX12_car_64 : decode cX12_car 64 = .ok (.ifCond .eq 24, 3) := by decide +kernel
theorem dX12_car_67 : decode cX12_car 67 = .ok (.iload 6, 2) := by decide +kernel
theorem dX12_car_69 : decode cX12_car 69 = .ok (.i2l, 1) := by decide +kernel
theorem dX12_car_70 : decode cX12_car 70 = .ok (.lconst 0, 1) := by decide +kernel
theorem dX12_car_71 : decode cX12_car 71 = .ok (.iload_n 2, 1) := by decide +kernel
theorem dX12_car_72 : decode cX12_car 72 = .ok (.i2l, 1) := by decide +kernel
theorem dX12_car_73 : decode cX12_car 73 = .ok (.invokestatic 42, 3) := by decide +kernel
theorem dX12_car_76 : decode cX12_car 76 = .ok (.ifCond .eq 12, 3) := by decide +kernel
theorem dX12_car_79 : decode cX12_car 79 = .ok (.aload_n 0, 1) := by decide +kernel
theorem dX12_car_80 : decode cX12_car 80 = .ok (.getfield 30, 3) := by decide +kernel
theorem dX12_car_83 : decode cX12_car 83 = .ok (.bipush 6, 2) := by decide +kernel
theorem dX12_car_85 : decode cX12_car 85 = .ok (.if_icmp .ne 5, 3) := by decide +kernel
theorem dX12_car_88 : decode cX12_car 88 = .ok (.iconst (-1), 1) := by decide +kernel
theorem dX12_car_89 : decode cX12_car 89 = .ok (.ireturn, 1) := by decide +kernel
theorem dX12_car_90 : decode cX12_car 90 = .ok (.aload_n 0, 1) := by decide +kernel
theorem dX12_car_91 : decode cX12_car 91 = .ok (.getfield 30, 3) := by decide +kernel
theorem dX12_car_94 : decode cX12_car 94 = .ok (.istore 7, 2) := by decide +kernel
theorem dX12_car_96 : decode cX12_car 96 = .ok (.aload_n 0, 1) := by decide +kernel
theorem dX12_car_97 : decode cX12_car 97 = .ok (.getfield 115, 3) := by decide +kernel
theorem dX12_car_100 : decode cX12_car 100 = .ok (.iload 7, 2) := by decide +kernel
theorem dX12_car_102 : decode cX12_car 102 = .ok (.iload_n 1, 1) := by decide +kernel
theorem dX12_car_103 : decode cX12_car 103 = .ok (.iastore, 1) := by decide +kernel
theorem dX12_car_104 : decode cX12_car 104 = .ok (.aload_n 0, 1) := by decide +kernel
theorem dX12_car_105 : decode cX12_car 105 = .ok (.getfield 118, 3) := by decide +kernel
theorem dX12_car_108 : decode cX12_car 108 = .ok (.iload 7, 2) := by decide +kernel
theorem dX12_car_110 : decode cX12_car 110 = .ok (.iload_n 2, 1) := by decide +kernel
theorem dX12_car_111 : decode cX12_car 111 = .ok (.iastore, 1) := by decide +kernel
theorem dX12_car_112 : decode cX12_car 112 = .ok (.aload_n 0, 1) := by decide +kernel
theorem dX12_car_113 : decode cX12_car 113 = .ok (.getfield 121, 3) := by decide +kernel
theorem dX12_car_116 : decode cX12_car 116 = .ok (.iload 7, 2) := by decide +kernel
theorem dX12_car_118 : decode cX12_car 118 = .ok (.iload_n 3, 1) := by decide +kernel
theorem dX12_car_119 : decode cX12_car 119 = .ok (.iastore, 1) := by decide +kernel
theorem dX12_car_120 : decode cX12_car 120 = .ok (.aload_n 0, 1) := by decide +kernel
theorem dX12_car_121 : decode cX12_car 121 = .ok (.getfield 124, 3) := by decide +kernel
theorem dX12_car_124 : decode cX12_car 124 = .ok (.iload 7, 2) := by decide +kernel
theorem dX12_car_126 : decode cX12_car 126 = .ok (.iload 4, 2) := by decide +kernel
theorem dX12_car_128 : decode cX12_car 128 = .ok (.iastore, 1) := by decide +kernel
theorem dX12_car_129 : decode cX12_car 129 = .ok (.aload_n 0, 1) := by decide +kernel
theorem dX12_car_130 : decode cX12_car 130 = .ok (.getfield 127, 3) := by decide +kernel
theorem dX12_car_133 : decode cX12_car 133 = .ok (.iload 7, 2) := by decide +kernel
theorem dX12_car_135 : decode cX12_car 135 = .ok (.iload 5, 2) := by decide +kernel
theorem dX12_car_137 : decode cX12_car 137 = .ok (.iastore, 1) := by decide +kernel
theorem dX12_car_138 : decode cX12_car 138 = .ok (.aload_n 0, 1) := by decide +kernel
theorem dX12_car_139 : decode cX12_car 139 = .ok (.getfield 130, 3) := by decide +kernel
theorem dX12_car_142 : decode cX12_car 142 = .ok (.iload 7, 2) := by decide +kernel
theorem dX12_car_144 : decode cX12_car 144 = .ok (.iload 6, 2) := by decide +kernel
theorem dX12_car_146 : decode cX12_car 146 = .ok (.iastore, 1) := by decide +kernel
theorem dX12_car_147 : decode cX12_car 147 = .ok (.aload_n 0, 1) := by decide +kernel
theorem dX12_car_148 : decode cX12_car 148 = .ok (.getfield 133, 3) := by decide +kernel
theorem dX12_car_151 : decode cX12_car 151 = .ok (.iload 7, 2) := by decide +kernel
theorem dX12_car_153 : decode cX12_car 153 = .ok (.iconst 0, 1) := by decide +kernel
theorem dX12_car_154 : decode cX12_car 154 = .ok (.iastore, 1) := by decide +kernel
theorem dX12_car_155 : decode cX12_car 155 = .ok (.aload_n 0, 1) := by decide +kernel
theorem dX12_car_156 : decode cX12_car 156 = .ok (.getfield 136, 3) := by decide +kernel
theorem dX12_car_159 : decode cX12_car 159 = .ok (.iload 7, 2) := by decide +kernel
theorem dX12_car_161 : decode cX12_car 161 = .ok (.iconst 0, 1) := by decide +kernel
theorem dX12_car_162 : decode cX12_car 162 = .ok (.iastore, 1) := by decide +kernel
theorem dX12_car_163 : decode cX12_car 163 = .ok (.aload_n 0, 1) := by decide +kernel
theorem dX12_car_164 : decode cX12_car 164 = .ok (.getfield 139, 3) := by decide +kernel
theorem dX12_car_167 : decode cX12_car 167 = .ok (.iload 7, 2) := by decide +kernel
theorem dX12_car_169 : decode cX12_car 169 = .ok (.iconst 0, 1) := by decide +kernel
theorem dX12_car_170 : decode cX12_car 170 = .ok (.iastore, 1) := by decide +kernel
theorem dX12_car_171 : decode cX12_car 171 = .ok (.aload_n 0, 1) := by decide +kernel
theorem dX12_car_172 : decode cX12_car 172 = .ok (.getfield 142, 3) := by decide +kernel
theorem dX12_car_175 : decode cX12_car 175 = .ok (.iload 7, 2) := by decide +kernel
theorem dX12_car_177 : decode cX12_car 177 = .ok (.iconst 0, 1) := by decide +kernel
theorem dX12_car_178 : decode cX12_car 178 = .ok (.bastore, 1) := by decide +kernel
theorem dX12_car_179 : decode cX12_car 179 = .ok (.aload_n 0, 1) := by decide +kernel
theorem dX12_car_180 : decode cX12_car 180 = .ok (.dup, 1) := by decide +kernel
theorem dX12_car_181 : decode cX12_car 181 = .ok (.getfield 30, 3) := by decide +kernel
theorem dX12_car_184 : decode cX12_car 184 = .ok (.iconst 1, 1) := by decide +kernel
theorem dX12_car_185 : decode cX12_car 185 = .ok (.iadd, 1) := by decide +kernel
theorem dX12_car_186 : decode cX12_car 186 = .ok (.putfield 30, 3) := by decide +kernel
theorem dX12_car_189 : decode cX12_car 189 = .ok (.iload 7, 2) := by decide +kernel
theorem dX12_car_191 : decode cX12_car 191 = .ok (.ireturn, 1) := by decide +kernel
theorem dX12_tyre_0 : decode cX12_tyre 0 = .ok (.aload_n 0, 1) := by decide +kernel
theorem dX12_tyre_1 : decode cX12_tyre 1 = .ok (.iconst 0, 1) := by decide +kernel
theorem dX12_tyre_2 : decode cX12_tyre 2 = .ok (.putfield 3, 3) := by decide +kernel
theorem dX12_tyre_5 : decode cX12_tyre 5 = .ok (.aload_n 0, 1) := by decide +kernel
theorem dX12_tyre_6 : decode cX12_tyre 6 = .ok (.iload_n 1, 1) := by decide +kernel
theorem dX12_tyre_7 : decode cX12_tyre 7 = .ok (.invokevirtual 145, 3) := by decide +kernel
theorem dX12_tyre_10 : decode cX12_tyre 10 = .ok (.ifCond .eq 37, 3) := by decide +kernel
theorem dX12_tyre_13 : decode cX12_tyre 13 = .ok (.iload_n 2, 1) := by decide +kernel
theorem dX12_tyre_14 : decode cX12_tyre 14 = .ok (.i2l, 1) := by decide +kernel
theorem dX12_tyre_15 : decode cX12_tyre 15 = .ok (.lconst 0, 1) := by decide +kernel
theorem dX12_tyre_16 : decode cX12_tyre 16 = .ok (.ldc2_w 66, 3) := by decide +kernel
theorem dX12_tyre_19 : decode cX12_tyre 19 = .ok (.invokestatic 42, 3) := by decide +kernel
theorem dX12_tyre_22 : decode cX12_tyre 22 = .ok (.ifCond .eq 25, 3) := by decide +kernel
theorem dX12_tyre_25 : decode cX12_tyre 25 = .ok (.iload_n 3, 1) := by decide +kernel
theorem dX12_tyre_26 : decode cX12_tyre 26 = .ok (.i2l, 1) := by decide +kernel
theorem dX12_tyre_27 : decode cX12_tyre 27 = .ok (.lconst 0, 1) := by decide +kernel
theorem dX12_tyre_28 : decode cX12_tyre 28 = .ok (.ldc2_w 78, 3) := by decide +kernel
theorem dX12_tyre_31 : decode cX12_tyre 31 = .ok (.invokestatic 42, 3) := by decide +kernel
theorem dX12_tyre_34 : decode cX12_tyre 34 = .ok (.ifCond .eq 13, 3) := by decide +kernel
theorem dX12_tyre_37 : decode cX12_tyre 37 = .ok (.aload_n 0, 1) := by decide +kernel
theorem dX12_tyre_38 : decode cX12_tyre 38 = .ok (.getfield 133, 3) := by decide +kernel
theorem dX12_tyre_41 : decode cX12_tyre 41 = .ok (.iload_n 1, 1) := by decide +kernel
theorem dX12_tyre_42 : decode cX12_tyre 42 = .ok (.iaload, 1) := by decide +kernel
theorem dX12_tyre_43 : decode cX12_tyre 43 = .ok (.iconst 4, 1) := by decide +kernel
theorem dX12_tyre_44 : decode cX12_tyre 44 = .ok (.if_icmp .ne 5, 3) := by decide +kernel
theorem dX12_tyre_47 : decode cX12_tyre 47 = .ok (.iconst (-1), 1) := by decide +kernel
theorem dX12_tyre_48 : decode cX12_tyre 48 = .ok (.ireturn, 1) := by decide +kernel
theorem dX12_tyre_49 : decode cX12_tyre 49 = .ok (.aload_n 0, 1) := by decide +kernel
theorem dX12_tyre_50 : decode cX12_tyre 50 = .ok (.getfield 148, 3) := by decide +kernel
theorem dX12_tyre_53 : decode cX12_tyre 53 = .ok (.iconst 4, 1) := by decide +kernel
theorem dX12_tyre_54 : decode cX12_tyre 54 = .ok (.iload_n 1, 1) := by decide +kernel
theorem dX12_tyre_55 : decode cX12_tyre 55 = .ok (.imul, 1) := by decide +kernel
theorem dX12_tyre_56 : decode cX12_tyre 56 = .ok (.aload_n 0, 1) := by decide +kernel
theorem dX12_tyre_57 : decode cX12_tyre 57 = .ok (.getfield 133, 3) := by decide +kernel
theorem dX12_tyre_60 : decode cX12_tyre 60 = .ok (.iload_n 1, 1) := by decide +kernel
theorem dX12_tyre_61 : decode cX12_tyre 61 = .ok (.iaload, 1) := by decide +kernel
theorem dX12_tyre_62 : decode cX12_tyre 62 = .ok (.iadd, 1) := by decide +kernel
theorem dX12_tyre_63 : decode cX12_tyre 63 = .ok (.iload_n 2, 1) := by decide +kernel
theorem dX12_tyre_64 : decode cX12_tyre 64 = .ok (.iastore, 1) := by decide +kernel
theorem dX12_tyre_65 : decode cX12_tyre 65 = .ok (.aload_n 0, 1) := by decide +kernel
theorem dX12_tyre_66 : decode cX12_tyre 66 = .ok (.getfield 151, 3) := by decide +kernel
theorem dX12_tyre_69 : decode cX12_tyre 69 = .ok (.iconst 4, 1) := by decide +kernel
theorem dX12_tyre_70 : decode cX12_tyre 70 = .ok (.iload_n 1, 1) := by decide +kernel
theorem dX12_tyre_71 : decode cX12_tyre 71 = .ok (.imul, 1) := by decide +kernel
theorem dX12_tyre_72 : decode cX12_tyre 72 = .ok (.aload_n 0, 1) := by decide +kernel
theorem dX12_tyre_73 : decode cX12_tyre 73 = .ok (.getfield 133, 3) := by decide +kernel
theorem dX12_tyre_76 : decode cX12_tyre 76 = .ok (.iload_n 1, 1) := by decide +kernel
theorem dX12_tyre_77 : decode cX12_tyre 77 = .ok (.iaload, 1) := by decide +kernel
theorem dX12_tyre_78 : decode cX12_tyre 78 = .ok (.iadd, 1) := by decide +kernel
theorem dX12_tyre_79 : decode cX12_tyre 79 = .ok (.iload_n 3, 1) := by decide +kernel
theorem dX12_tyre_80 : decode cX12_tyre 80 = .ok (.iastore, 1) := by decide +kernel
theorem dX12_tyre_81 : decode cX12_tyre 81 = .ok (.aload_n 0, 1) := by decide +kernel
theorem dX12_tyre_82 : decode cX12_tyre 82 = .ok (.getfield 133, 3) := by decide +kernel
theorem dX12_tyre_85 : decode cX12_tyre 85 = .ok (.iload_n 1, 1) := by decide +kernel
theorem dX12_tyre_86 : decode cX12_tyre 86 = .ok (.dup2, 1) := by decide +kernel
theorem dX12_tyre_87 : decode cX12_tyre 87 = .ok (.iaload, 1) := by decide +kernel
theorem dX12_tyre_88 : decode cX12_tyre 88 = .ok (.iconst 1, 1) := by decide +kernel
theorem dX12_tyre_89 : decode cX12_tyre 89 = .ok (.iadd, 1) := by decide +kernel
theorem dX12_tyre_90 : decode cX12_tyre 90 = .ok (.iastore, 1) := by decide +kernel
theorem dX12_tyre_91 : decode cX12_tyre 91 = .ok (.aload_n 0, 1) := by decide +kernel
theorem dX12_tyre_92 : decode cX12_tyre 92 = .ok (.getfield 133, 3) := by decide +kernel
theorem dX12_tyre_95 : decode cX12_tyre 95 = .ok (.iload_n 1, 1) := by decide +kernel
theorem dX12_tyre_96 : decode cX12_tyre 96 = .ok (.iaload, 1) := by decide +kernel
theorem dX12_tyre_97 : decode cX12_tyre 97 = .ok (.iconst 1, 1) := by decide +kernel
theorem dX12_tyre_98 : decode cX12_tyre 98 = .ok (.isub, 1) := by decide +kernel
theorem dX12_tyre_99 : decode cX12_tyre 99 = .ok (.ireturn, 1) := by decide +kernel
theorem dX12_order_0 : decode cX12_order 0 = .ok (.aload_n 0, 1) := by decide +kernel
theorem dX12_order_1 : decode cX12_order 1 = .ok (.iconst 0, 1) := by decide +kernel
theorem dX12_order_2 : decode cX12_order 2 = .ok (.putfield 3, 3) := by decide +kernel
theorem dX12_order_5 : decode cX12_order 5 = .ok (.aload_n 0, 1) := by decide +kernel
theorem dX12_order_6 : decode cX12_order 6 = .ok (.iload_n 1, 1) := by decide +kernel
theorem dX12_order_7 : decode cX12_order 7 = .ok (.invokevirtual 145, 3) := by decide +kernel
theorem dX12_order_10 : decode cX12_order 10 = .ok (.ifCond .eq 53, 3) := by decide +kernel
theorem dX12_order_13 : decode cX12_order 13 = .ok (.aload_n 0, 1) := by decide +kernel
theorem dX12_order_14 : decode cX12_order 14 = .ok (.iload_n 2, 1) := by decide +kernel
theorem dX12_order_15 : decode cX12_order 15 = .ok (.invokevirtual 154, 3) := by decide +kernel
theorem dX12_order_18 : decode cX12_order 18 = .ok (.ifCond .eq 45, 3) := by decide +kernel
theorem dX12_order_21 : decode cX12_order 21 = .ok (.iload_n 3, 1) := by decide +kernel
theorem dX12_order_22 : decode cX12_order 22 = .ok (.i2l, 1) := by decide +kernel
theorem dX12_order_23 : decode cX12_order 23 = .ok (.lconst 0, 1) := by decide +kernel
theorem dX12_order_24 : decode cX12_order 24 = .ok (.lconst 1, 1) := by decide +kernel
theorem dX12_order_25 : decode cX12_order 25 = .ok (.invokestatic 42, 3) := by decide +kernel
theorem dX12_order_28 : decode cX12_order 28 = .ok (.ifCond .eq 35, 3) := by decide +kernel
theorem dX12_order_31 : decode cX12_order 31 = .ok (.iload 4, 2) := by decide +kernel
theorem dX12_order_33 : decode cX12_order 33 = .ok (.i2l, 1) := by decide +kernel
theorem dX12_order_34 : decode cX12_order 34 = .ok (.iload_n 3, 1) := by decide +kernel
theorem dX12_order_35 : decode cX12_order 35 = .ok (.ifCond .ne 9, 3) := by decide +kernel
theorem dX12_order_38 : decode cX12_order 38 = .ok (.ldc2_w 64, 3) := by decide +kernel
theorem dX12_order_41 : decode cX12_order 41 = .ok (.goto 4, 3) := by decide +kernel
theorem dX12_order_44 : decode cX12_order 44 = .ok (.lconst 0, 1) := by decide +kernel
theorem dX12_order_45 : decode cX12_order 45 = .ok (.lconst 1, 1) := by decide +kernel
theorem dX12_order_46 : decode cX12_order 46 = .ok (.invokestatic 42, 3) := by decide +kernel
theorem dX12_order_49 : decode cX12_order 49 = .ok (.ifCond .eq 14, 3) := by decide +kernel
theorem dX12_order_52 : decode cX12_order 52 = .ok (.aload_n 0, 1) := by decide +kernel
theorem dX12_order_53 : decode cX12_order 53 = .ok (.getfield 136, 3) := by decide +kernel
theorem dX12_order_56 : decode cX12_order 56 = .ok (.iload_n 1, 1) := by decide +kernel
theorem dX12_order_57 : decode cX12_order 57 = .ok (.iaload, 1) := by decide +kernel
theorem dX12_order_58 : decode cX12_order 58 = .ok (.bipush 12, 2) := by decide +kernel
theorem dX12_order_60 : decode cX12_order 60 = .ok (.if_icmp .ne 5, 3) := by decide +kernel
theorem dX12_order_63 : decode cX12_order 63 = .ok (.iconst (-1), 1) := by decide +kernel
theorem dX12_order_64 : decode cX12_order 64 = .ok (.ireturn, 1) := by decide +kernel
theorem dX12_order_65 : decode cX12_order 65 = .ok (.bipush 12, 2) := by decide +kernel
theorem dX12_order_67 : decode cX12_order 67 = .ok (.iload_n 1, 1) := by decide +kernel
theorem dX12_order_68 : decode cX12_order 68 = .ok (.imul, 1) := by decide +kernel
theorem dX12_order_69 : decode cX12_order 69 = .ok (.aload_n 0, 1) := by decide +kernel
theorem dX12_order_70 : decode cX12_order 70 = .ok (.getfield 136, 3) := by decide +kernel
theorem dX12_order_73 : decode cX12_order 73 = .ok (.iload_n 1, 1) := by decide +kernel
theorem dX12_order_74 : decode cX12_order 74 = .ok (.iaload, 1) := by decide +kernel
theorem dX12_order_75 : decode cX12_order 75 = .ok (.iadd, 1) := by decide +kernel
theorem dX12_order_76 : decode cX12_order 76 = .ok (.istore 5, 2) := by decide +kernel
theorem dX12_order_78 : decode cX12_order 78 = .ok (.aload_n 0, 1) := by decide +kernel
theorem dX12_order_79 : decode cX12_order 79 = .ok (.getfield 157, 3) := by decide +kernel
theorem dX12_order_82 : decode cX12_order 82 = .ok (.iload 5, 2) := by decide +kernel
theorem dX12_order_84 : decode cX12_order 84 = .ok (.iload_n 2, 1) := by decide +kernel
theorem dX12_order_85 : decode cX12_order 85 = .ok (.iastore, 1) := by decide +kernel
theorem dX12_order_86 : decode cX12_order 86 = .ok (.aload_n 0, 1) := by decide +kernel
theorem dX12_order_87 : decode cX12_order 87 = .ok (.getfield 160, 3) := by decide +kernel
theorem dX12_order_90 : decode cX12_order 90 = .ok (.iload 5, 2) := by decide +kernel
theorem dX12_order_92 : decode cX12_order 92 = .ok (.iload_n 3, 1) := by decide +kernel
theorem dX12_order_93 : decode cX12_order 93 = .ok (.iastore, 1) := by decide +kernel
theorem dX12_order_94 : decode cX12_order 94 = .ok (.aload_n 0, 1) := by decide +kernel
theorem dX12_order_95 : decode cX12_order 95 = .ok (.getfield 163, 3) := by decide +kernel
theorem dX12_order_98 : decode cX12_order 98 = .ok (.iload 5, 2) := by decide +kernel
theorem dX12_order_100 : decode cX12_order 100 = .ok (.iload 4, 2) := by decide +kernel
theorem dX12_order_102 : decode cX12_order 102 = .ok (.iastore, 1) := by decide +kernel
theorem dX12_order_103 : decode cX12_order 103 = .ok (.aload_n 0, 1) := by decide +kernel
theorem dX12_order_104 : decode cX12_order 104 = .ok (.getfield 136, 3) := by decide +kernel
theorem dX12_order_107 : decode cX12_order 107 = .ok (.iload_n 1, 1) := by decide +kernel
theorem dX12_order_108 : decode cX12_order 108 = .ok (.dup2, 1) := by decide +kernel
theorem dX12_order_109 : decode cX12_order 109 = .ok (.iaload, 1) := by decide +kernel
theorem dX12_order_110 : decode cX12_order 110 = .ok (.iconst 1, 1) := by decide +kernel
theorem dX12_order_111 : decode cX12_order 111 = .ok (.iadd, 1) := by decide +kernel
theorem dX12_order_112 : decode cX12_order 112 = .ok (.iastore, 1) := by decide +kernel
theorem dX12_order_113 : decode cX12_order 113 = .ok (.aload_n 0, 1) := by decide +kernel
theorem dX12_order_114 : decode cX12_order 114 = .ok (.getfield 136, 3) := by decide +kernel
theorem dX12_order_117 : decode cX12_order 117 = .ok (.iload_n 1, 1) := by decide +kernel
theorem dX12_order_118 : decode cX12_order 118 = .ok (.iaload, 1) := by decide +kernel
theorem dX12_order_119 : decode cX12_order 119 = .ok (.ireturn, 1) := by decide +kernel
theorem dX12_stop_0 : decode cX12_stop 0 = .ok (.aload_n 0, 1) := by decide +kernel
theorem dX12_stop_1 : decode cX12_stop 1 = .ok (.iconst 0, 1) := by decide +kernel
theorem dX12_stop_2 : decode cX12_stop 2 = .ok (.putfield 3, 3) := by decide +kernel
theorem dX12_stop_5 : decode cX12_stop 5 = .ok (.aload_n 0, 1) := by decide +kernel
theorem dX12_stop_6 : decode cX12_stop 6 = .ok (.iload_n 1, 1) := by decide +kernel
theorem dX12_stop_7 : decode cX12_stop 7 = .ok (.invokevirtual 145, 3) := by decide +kernel
theorem dX12_stop_10 : decode cX12_stop 10 = .ok (.ifCond .eq 41, 3) := by decide +kernel
theorem dX12_stop_13 : decode cX12_stop 13 = .ok (.aload_n 0, 1) := by decide +kernel
theorem dX12_stop_14 : decode cX12_stop 14 = .ok (.iload_n 2, 1) := by decide +kernel
theorem dX12_stop_15 : decode cX12_stop 15 = .ok (.invokevirtual 166, 3) := by decide +kernel
theorem dX12_stop_18 : decode cX12_stop 18 = .ok (.ifCond .eq 33, 3) := by decide +kernel
theorem dX12_stop_21 : decode cX12_stop 21 = .ok (.iload_n 3, 1) := by decide +kernel
theorem dX12_stop_22 : decode cX12_stop 22 = .ok (.invokestatic 169, 3) := by decide +kernel
theorem dX12_stop_25 : decode cX12_stop 25 = .ok (.ifCond .eq 26, 3) := by decide +kernel
theorem dX12_stop_28 : decode cX12_stop 28 = .ok (.iload 4, 2) := by decide +kernel
theorem dX12_stop_30 : decode cX12_stop 30 = .ok (.i2l, 1) := by decide +kernel
theorem dX12_stop_31 : decode cX12_stop 31 = .ok (.lconst 0, 1) := by decide +kernel
theorem dX12_stop_32 : decode cX12_stop 32 = .ok (.ldc2_w 111, 3) := by decide +kernel
theorem dX12_stop_35 : decode cX12_stop 35 = .ok (.invokestatic 42, 3) := by decide +kernel
theorem dX12_stop_38 : decode cX12_stop 38 = .ok (.ifCond .eq 13, 3) := by decide +kernel
theorem dX12_stop_41 : decode cX12_stop 41 = .ok (.aload_n 0, 1) := by decide +kernel
theorem dX12_stop_42 : decode cX12_stop 42 = .ok (.getfield 139, 3) := by decide +kernel
theorem dX12_stop_45 : decode cX12_stop 45 = .ok (.iload_n 1, 1) := by decide +kernel
theorem dX12_stop_46 : decode cX12_stop 46 = .ok (.iaload, 1) := by decide +kernel
theorem dX12_stop_47 : decode cX12_stop 47 = .ok (.iconst 5, 1) := by decide +kernel
theorem dX12_stop_48 : decode cX12_stop 48 = .ok (.if_icmp .ne 5, 3) := by decide +kernel
theorem dX12_stop_51 : decode cX12_stop 51 = .ok (.iconst (-1), 1) := by decide +kernel
theorem dX12_stop_52 : decode cX12_stop 52 = .ok (.ireturn, 1) := by decide +kernel
theorem dX12_stop_53 : decode cX12_stop 53 = .ok (.aload_n 0, 1) := by decide +kernel
theorem dX12_stop_54 : decode cX12_stop 54 = .ok (.iload_n 1, 1) := by decide +kernel
theorem dX12_stop_55 : decode cX12_stop 55 = .ok (.iload_n 2, 1) := by decide +kernel
theorem dX12_stop_56 : decode cX12_stop 56 = .ok (.iload_n 3, 1) := by decide +kernel
theorem dX12_stop_57 : decode cX12_stop 57 = .ok (.iload 4, 2) := by decide +kernel
theorem dX12_stop_59 : decode cX12_stop 59 = .ok (.invokevirtual 172, 3) := by decide +kernel
theorem dX12_stop_62 : decode cX12_stop 62 = .ok (.aload_n 0, 1) := by decide +kernel
theorem dX12_stop_63 : decode cX12_stop 63 = .ok (.getfield 139, 3) := by decide +kernel
theorem dX12_stop_66 : decode cX12_stop 66 = .ok (.iload_n 1, 1) := by decide +kernel
theorem dX12_stop_67 : decode cX12_stop 67 = .ok (.iaload, 1) := by decide +kernel
theorem dX12_stop_68 : decode cX12_stop 68 = .ok (.ireturn, 1) := by decide +kernel
theorem dX12_drop_0 : decode cX12_drop 0 = .ok (.aload_n 0, 1) := by decide +kernel
theorem dX12_drop_1 : decode cX12_drop 1 = .ok (.iconst 0, 1) := by decide +kernel
theorem dX12_drop_2 : decode cX12_drop 2 = .ok (.putfield 3, 3) := by decide +kernel
theorem dX12_drop_5 : decode cX12_drop 5 = .ok (.aload_n 0, 1) := by decide +kernel
theorem dX12_drop_6 : decode cX12_drop 6 = .ok (.iload_n 1, 1) := by decide +kernel
theorem dX12_drop_7 : decode cX12_drop 7 = .ok (.invokevirtual 145, 3) := by decide +kernel
theorem dX12_drop_10 : decode cX12_drop 10 = .ok (.ifCond .eq 21, 3) := by decide +kernel
theorem dX12_drop_13 : decode cX12_drop 13 = .ok (.iload_n 2, 1) := by decide +kernel
theorem dX12_drop_14 : decode cX12_drop 14 = .ok (.i2l, 1) := by decide +kernel
theorem dX12_drop_15 : decode cX12_drop 15 = .ok (.lconst 0, 1) := by decide +kernel
theorem dX12_drop_16 : decode cX12_drop 16 = .ok (.aload_n 0, 1) := by decide +kernel
theorem dX12_drop_17 : decode cX12_drop 17 = .ok (.getfield 139, 3) := by decide +kernel
theorem dX12_drop_20 : decode cX12_drop 20 = .ok (.iload_n 1, 1) := by decide +kernel
theorem dX12_drop_21 : decode cX12_drop 21 = .ok (.iaload, 1) := by decide +kernel
theorem dX12_drop_22 : decode cX12_drop 22 = .ok (.iconst 1, 1) := by decide +kernel
theorem dX12_drop_23 : decode cX12_drop 23 = .ok (.isub, 1) := by decide +kernel
theorem dX12_drop_24 : decode cX12_drop 24 = .ok (.i2l, 1) := by decide +kernel
theorem dX12_drop_25 : decode cX12_drop 25 = .ok (.invokestatic 42, 3) := by decide +kernel
theorem dX12_drop_28 : decode cX12_drop 28 = .ok (.ifCond .ne 5, 3) := by decide +kernel
theorem dX12_drop_31 : decode cX12_drop 31 = .ok (.iconst (-1), 1) := by decide +kernel
theorem dX12_drop_32 : decode cX12_drop 32 = .ok (.ireturn, 1) := by decide +kernel
theorem dX12_drop_33 : decode cX12_drop 33 = .ok (.iconst 5, 1) := by decide +kernel
theorem dX12_drop_34 : decode cX12_drop 34 = .ok (.iload_n 1, 1) := by decide +kernel
theorem dX12_drop_35 : decode cX12_drop 35 = .ok (.imul, 1) := by decide +kernel
theorem dX12_drop_36 : decode cX12_drop 36 = .ok (.iload_n 2, 1) := by decide +kernel
theorem dX12_drop_37 : decode cX12_drop 37 = .ok (.iadd, 1) := by decide +kernel
theorem dX12_drop_38 : decode cX12_drop 38 = .ok (.istore_n 3, 1) := by decide +kernel
theorem dX12_drop_39 : decode cX12_drop 39 = .ok (.iload_n 3, 1) := by decide +kernel
theorem dX12_drop_40 : decode cX12_drop 40 = .ok (.iconst 5, 1) := by decide +kernel
theorem dX12_drop_41 : decode cX12_drop 41 = .ok (.iload_n 1, 1) := by decide +kernel
theorem dX12_drop_42 : decode cX12_drop 42 = .ok (.imul, 1) := by decide +kernel
theorem dX12_drop_43 : decode cX12_drop 43 = .ok (.aload_n 0, 1) := by decide +kernel
theorem dX12_drop_44 : decode cX12_drop 44 = .ok (.getfield 139, 3) := by decide +kernel
theorem dX12_drop_47 : decode cX12_drop 47 = .ok (.iload_n 1, 1) := by decide +kernel
theorem dX12_drop_48 : decode cX12_drop 48 = .ok (.iaload, 1) := by decide +kernel
theorem dX12_drop_49 : decode cX12_drop 49 = .ok (.iadd, 1) := by decide +kernel
theorem dX12_drop_50 : decode cX12_drop 50 = .ok (.iconst 1, 1) := by decide +kernel
theorem dX12_drop_51 : decode cX12_drop 51 = .ok (.isub, 1) := by decide +kernel
theorem dX12_drop_52 : decode cX12_drop 52 = .ok (.if_icmp .ge 51, 3) := by decide +kernel
theorem dX12_drop_55 : decode cX12_drop 55 = .ok (.aload_n 0, 1) := by decide +kernel
theorem dX12_drop_56 : decode cX12_drop 56 = .ok (.getfield 176, 3) := by decide +kernel
theorem dX12_drop_59 : decode cX12_drop 59 = .ok (.iload_n 3, 1) := by decide +kernel
theorem dX12_drop_60 : decode cX12_drop 60 = .ok (.aload_n 0, 1) := by decide +kernel
theorem dX12_drop_61 : decode cX12_drop 61 = .ok (.getfield 176, 3) := by decide +kernel
theorem dX12_drop_64 : decode cX12_drop 64 = .ok (.iload_n 3, 1) := by decide +kernel
theorem dX12_drop_65 : decode cX12_drop 65 = .ok (.iconst 1, 1) := by decide +kernel
theorem dX12_drop_66 : decode cX12_drop 66 = .ok (.iadd, 1) := by decide +kernel
theorem dX12_drop_67 : decode cX12_drop 67 = .ok (.iaload, 1) := by decide +kernel
theorem dX12_drop_68 : decode cX12_drop 68 = .ok (.iastore, 1) := by decide +kernel
theorem dX12_drop_69 : decode cX12_drop 69 = .ok (.aload_n 0, 1) := by decide +kernel
theorem dX12_drop_70 : decode cX12_drop 70 = .ok (.getfield 179, 3) := by decide +kernel
theorem dX12_drop_73 : decode cX12_drop 73 = .ok (.iload_n 3, 1) := by decide +kernel
theorem dX12_drop_74 : decode cX12_drop 74 = .ok (.aload_n 0, 1) := by decide +kernel
theorem dX12_drop_75 : decode cX12_drop 75 = .ok (.getfield 179, 3) := by decide +kernel
theorem dX12_drop_78 : decode cX12_drop 78 = .ok (.iload_n 3, 1) := by decide +kernel
theorem dX12_drop_79 : decode cX12_drop 79 = .ok (.iconst 1, 1) := by decide +kernel
theorem dX12_drop_80 : decode cX12_drop 80 = .ok (.iadd, 1) := by decide +kernel
theorem dX12_drop_81 : decode cX12_drop 81 = .ok (.iaload, 1) := by decide +kernel
theorem dX12_drop_82 : decode cX12_drop 82 = .ok (.iastore, 1) := by decide +kernel
theorem dX12_drop_83 : decode cX12_drop 83 = .ok (.aload_n 0, 1) := by decide +kernel
theorem dX12_drop_84 : decode cX12_drop 84 = .ok (.getfield 182, 3) := by decide +kernel
theorem dX12_drop_87 : decode cX12_drop 87 = .ok (.iload_n 3, 1) := by decide +kernel
theorem dX12_drop_88 : decode cX12_drop 88 = .ok (.aload_n 0, 1) := by decide +kernel
theorem dX12_drop_89 : decode cX12_drop 89 = .ok (.getfield 182, 3) := by decide +kernel
theorem dX12_drop_92 : decode cX12_drop 92 = .ok (.iload_n 3, 1) := by decide +kernel
theorem dX12_drop_93 : decode cX12_drop 93 = .ok (.iconst 1, 1) := by decide +kernel
theorem dX12_drop_94 : decode cX12_drop 94 = .ok (.iadd, 1) := by decide +kernel
theorem dX12_drop_95 : decode cX12_drop 95 = .ok (.iaload, 1) := by decide +kernel
theorem dX12_drop_96 : decode cX12_drop 96 = .ok (.iastore, 1) := by decide +kernel
theorem dX12_drop_97 : decode cX12_drop 97 = .ok (.iinc 3 1, 3) := by decide +kernel
theorem dX12_drop_100 : decode cX12_drop 100 = .ok (.goto (-61), 3) := by decide +kernel
theorem dX12_drop_103 : decode cX12_drop 103 = .ok (.aload_n 0, 1) := by decide +kernel
theorem dX12_drop_104 : decode cX12_drop 104 = .ok (.getfield 139, 3) := by decide +kernel
theorem dX12_drop_107 : decode cX12_drop 107 = .ok (.iload_n 1, 1) := by decide +kernel
theorem dX12_drop_108 : decode cX12_drop 108 = .ok (.dup2, 1) := by decide +kernel
theorem dX12_drop_109 : decode cX12_drop 109 = .ok (.iaload, 1) := by decide +kernel
theorem dX12_drop_110 : decode cX12_drop 110 = .ok (.iconst 1, 1) := by decide +kernel
theorem dX12_drop_111 : decode cX12_drop 111 = .ok (.isub, 1) := by decide +kernel
theorem dX12_drop_112 : decode cX12_drop 112 = .ok (.iastore, 1) := by decide +kernel
theorem dX12_drop_113 : decode cX12_drop 113 = .ok (.aload_n 0, 1) := by decide +kernel
theorem dX12_drop_114 : decode cX12_drop 114 = .ok (.getfield 139, 3) := by decide +kernel
theorem dX12_drop_117 : decode cX12_drop 117 = .ok (.iload_n 1, 1) := by decide +kernel
theorem dX12_drop_118 : decode cX12_drop 118 = .ok (.iaload, 1) := by decide +kernel
theorem dX12_drop_119 : decode cX12_drop 119 = .ok (.ireturn, 1) := by decide +kernel
theorem dX12_unplan_0 : decode cX12_unplan 0 = .ok (.aload_n 0, 1) := by decide +kernel
theorem dX12_unplan_1 : decode cX12_unplan 1 = .ok (.iconst 0, 1) := by decide +kernel
theorem dX12_unplan_2 : decode cX12_unplan 2 = .ok (.putfield 3, 3) := by decide +kernel
theorem dX12_unplan_5 : decode cX12_unplan 5 = .ok (.aload_n 0, 1) := by decide +kernel
theorem dX12_unplan_6 : decode cX12_unplan 6 = .ok (.iload_n 1, 1) := by decide +kernel
theorem dX12_unplan_7 : decode cX12_unplan 7 = .ok (.invokevirtual 145, 3) := by decide +kernel
theorem dX12_unplan_10 : decode cX12_unplan 10 = .ok (.ifCond .eq 16, 3) := by decide +kernel
theorem dX12_unplan_13 : decode cX12_unplan 13 = .ok (.aload_n 0, 1) := by decide +kernel
theorem dX12_unplan_14 : decode cX12_unplan 14 = .ok (.getfield 142, 3) := by decide +kernel
theorem dX12_unplan_17 : decode cX12_unplan 17 = .ok (.iload_n 1, 1) := by decide +kernel
theorem dX12_unplan_18 : decode cX12_unplan 18 = .ok (.baload, 1) := by decide +kernel
theorem dX12_unplan_19 : decode cX12_unplan 19 = .ok (.ifCond .eq 7, 3) := by decide +kernel
theorem dX12_unplan_22 : decode cX12_unplan 22 = .ok (.iconst 1, 1) := by decide +kernel
theorem dX12_unplan_23 : decode cX12_unplan 23 = .ok (.goto 4, 3) := by decide +kernel
theorem dX12_unplan_26 : decode cX12_unplan 26 = .ok (.iconst 0, 1) := by decide +kernel
theorem dX12_unplan_27 : decode cX12_unplan 27 = .ok (.istore_n 2, 1) := by decide +kernel
theorem dX12_unplan_28 : decode cX12_unplan 28 = .ok (.iload_n 2, 1) := by decide +kernel
theorem dX12_unplan_29 : decode cX12_unplan 29 = .ok (.ifCond .eq 10, 3) := by decide +kernel
theorem dX12_unplan_32 : decode cX12_unplan 32 = .ok (.aload_n 0, 1) := by decide +kernel
theorem dX12_unplan_33 : decode cX12_unplan 33 = .ok (.getfield 142, 3) := by decide +kernel
theorem dX12_unplan_36 : decode cX12_unplan 36 = .ok (.iload_n 1, 1) := by decide +kernel
theorem dX12_unplan_37 : decode cX12_unplan 37 = .ok (.iconst 0, 1) := by decide +kernel
theorem dX12_unplan_38 : decode cX12_unplan 38 = .ok (.bastore, 1) := by decide +kernel
theorem dX12_unplan_39 : decode cX12_unplan 39 = .ok (.iload_n 2, 1) := by decide +kernel
theorem dX12_unplan_40 : decode cX12_unplan 40 = .ok (.ireturn, 1) := by decide +kernel
theorem dX12_count_0 : decode cX12_count 0 = .ok (.aload_n 0, 1) := by decide +kernel
theorem dX12_count_1 : decode cX12_count 1 = .ok (.iconst 0, 1) := by decide +kernel
theorem dX12_count_2 : decode cX12_count 2 = .ok (.putfield 3, 3) := by decide +kernel
theorem dX12_count_5 : decode cX12_count 5 = .ok (.iconst 0, 1) := by decide +kernel
theorem dX12_count_6 : decode cX12_count 6 = .ok (.istore_n 2, 1) := by decide +kernel
theorem dX12_count_7 : decode cX12_count 7 = .ok (.iconst 0, 1) := by decide +kernel
theorem dX12_count_8 : decode cX12_count 8 = .ok (.istore_n 3, 1) := by decide +kernel
theorem dX12_count_9 : decode cX12_count 9 = .ok (.iload_n 3, 1) := by decide +kernel
theorem dX12_count_10 : decode cX12_count 10 = .ok (.aload_n 0, 1) := by decide +kernel
theorem dX12_count_11 : decode cX12_count 11 = .ok (.getfield 30, 3) := by decide +kernel
theorem dX12_count_14 : decode cX12_count 14 = .ok (.if_icmp .ge 18, 3) := by decide +kernel
theorem dX12_count_17 : decode cX12_count 17 = .ok (.iload_n 2, 1) := by decide +kernel
theorem dX12_count_18 : decode cX12_count 18 = .ok (.aload_n 0, 1) := by decide +kernel
theorem dX12_count_19 : decode cX12_count 19 = .ok (.getfield 39, 3) := by decide +kernel
theorem dX12_count_22 : decode cX12_count 22 = .ok (.iload_n 3, 1) := by decide +kernel
theorem dX12_count_23 : decode cX12_count 23 = .ok (.iaload, 1) := by decide +kernel
theorem dX12_count_24 : decode cX12_count 24 = .ok (.iadd, 1) := by decide +kernel
theorem dX12_count_25 : decode cX12_count 25 = .ok (.istore_n 2, 1) := by decide +kernel
theorem dX12_count_26 : decode cX12_count 26 = .ok (.iinc 3 1, 3) := by decide +kernel
theorem dX12_count_29 : decode cX12_count 29 = .ok (.goto (-20), 3) := by decide +kernel
theorem dX12_count_32 : decode cX12_count 32 = .ok (.iload_n 1, 1) := by decide +kernel
theorem dX12_count_33 : decode cX12_count 33 = .ok (.tableswitch 102 0 9 #[55, 60, 65, 70, 75, 80, 85, 90, 95, 100], 55) := by decide +kernel
theorem dX12_count_88 : decode cX12_count 88 = .ok (.aload_n 0, 1) := by decide +kernel
theorem dX12_count_89 : decode cX12_count 89 = .ok (.getfield 7, 3) := by decide +kernel
theorem dX12_count_92 : decode cX12_count 92 = .ok (.ireturn, 1) := by decide +kernel
theorem dX12_count_93 : decode cX12_count 93 = .ok (.aload_n 0, 1) := by decide +kernel
theorem dX12_count_94 : decode cX12_count 94 = .ok (.getfield 10, 3) := by decide +kernel
theorem dX12_count_97 : decode cX12_count 97 = .ok (.ireturn, 1) := by decide +kernel
theorem dX12_count_98 : decode cX12_count 98 = .ok (.aload_n 0, 1) := by decide +kernel
theorem dX12_count_99 : decode cX12_count 99 = .ok (.getfield 30, 3) := by decide +kernel
theorem dX12_count_102 : decode cX12_count 102 = .ok (.ireturn, 1) := by decide +kernel
theorem dX12_count_103 : decode cX12_count 103 = .ok (.aload_n 0, 1) := by decide +kernel
theorem dX12_count_104 : decode cX12_count 104 = .ok (.getfield 24, 3) := by decide +kernel
theorem dX12_count_107 : decode cX12_count 107 = .ok (.ireturn, 1) := by decide +kernel
theorem dX12_count_108 : decode cX12_count 108 = .ok (.aload_n 0, 1) := by decide +kernel
theorem dX12_count_109 : decode cX12_count 109 = .ok (.getfield 27, 3) := by decide +kernel
theorem dX12_count_112 : decode cX12_count 112 = .ok (.ireturn, 1) := by decide +kernel
theorem dX12_count_113 : decode cX12_count 113 = .ok (.aload_n 0, 1) := by decide +kernel
theorem dX12_count_114 : decode cX12_count 114 = .ok (.getfield 33, 3) := by decide +kernel
theorem dX12_count_117 : decode cX12_count 117 = .ok (.ireturn, 1) := by decide +kernel
theorem dX12_count_118 : decode cX12_count 118 = .ok (.aload_n 0, 1) := by decide +kernel
theorem dX12_count_119 : decode cX12_count 119 = .ok (.getfield 36, 3) := by decide +kernel
theorem dX12_count_122 : decode cX12_count 122 = .ok (.ireturn, 1) := by decide +kernel
theorem dX12_count_123 : decode cX12_count 123 = .ok (.aload_n 0, 1) := by decide +kernel
theorem dX12_count_124 : decode cX12_count 124 = .ok (.getfield 185, 3) := by decide +kernel
theorem dX12_count_127 : decode cX12_count 127 = .ok (.ireturn, 1) := by decide +kernel
theorem dX12_count_128 : decode cX12_count 128 = .ok (.aload_n 0, 1) := by decide +kernel
theorem dX12_count_129 : decode cX12_count 129 = .ok (.getfield 188, 3) := by decide +kernel
theorem dX12_count_132 : decode cX12_count 132 = .ok (.ireturn, 1) := by decide +kernel
theorem dX12_count_133 : decode cX12_count 133 = .ok (.iload_n 2, 1) := by decide +kernel
theorem dX12_count_134 : decode cX12_count 134 = .ok (.ireturn, 1) := by decide +kernel
theorem dX12_count_135 : decode cX12_count 135 = .ok (.iconst (-1), 1) := by decide +kernel
theorem dX12_count_136 : decode cX12_count 136 = .ok (.ireturn, 1) := by decide +kernel
theorem dX12_sign_0 : decode cX12_sign 0 = .ok (.aload_n 0, 1) := by decide +kernel
theorem dX12_sign_1 : decode cX12_sign 1 = .ok (.iconst 0, 1) := by decide +kernel
theorem dX12_sign_2 : decode cX12_sign 2 = .ok (.putfield 3, 3) := by decide +kernel
theorem dX12_sign_5 : decode cX12_sign 5 = .ok (.aload_n 0, 1) := by decide +kernel
theorem dX12_sign_6 : decode cX12_sign 6 = .ok (.getfield 188, 3) := by decide +kernel
theorem dX12_sign_9 : decode cX12_sign 9 = .ok (.bipush 96, 2) := by decide +kernel
theorem dX12_sign_11 : decode cX12_sign 11 = .ok (.if_icmp .le 5, 3) := by decide +kernel
theorem dX12_sign_14 : decode cX12_sign 14 = .ok (.iconst (-1), 1) := by decide +kernel
theorem dX12_sign_15 : decode cX12_sign 15 = .ok (.ireturn, 1) := by decide +kernel
theorem dX12_sign_16 : decode cX12_sign 16 = .ok (.iconst 0, 1) := by decide +kernel
theorem dX12_sign_17 : decode cX12_sign 17 = .ok (.istore_n 2, 1) := by decide +kernel
theorem dX12_sign_18 : decode cX12_sign 18 = .ok (.iload_n 2, 1) := by decide +kernel
theorem dX12_sign_19 : decode cX12_sign 19 = .ok (.iconst 4, 1) := by decide +kernel
theorem dX12_sign_20 : decode cX12_sign 20 = .ok (.if_icmp .ge 33, 3) := by decide +kernel
theorem dX12_sign_23 : decode cX12_sign 23 = .ok (.aload_n 0, 1) := by decide +kernel
theorem dX12_sign_24 : decode cX12_sign 24 = .ok (.getfield 191, 3) := by decide +kernel
theorem dX12_sign_27 : decode cX12_sign 27 = .ok (.aload_n 0, 1) := by decide +kernel
theorem dX12_sign_28 : decode cX12_sign 28 = .ok (.getfield 188, 3) := by decide +kernel
theorem dX12_sign_31 : decode cX12_sign 31 = .ok (.iload_n 2, 1) := by decide +kernel
theorem dX12_sign_32 : decode cX12_sign 32 = .ok (.iadd, 1) := by decide +kernel
theorem dX12_sign_33 : decode cX12_sign 33 = .ok (.iload_n 1, 1) := by decide +kernel
theorem dX12_sign_34 : decode cX12_sign 34 = .ok (.bipush 24, 2) := by decide +kernel
theorem dX12_sign_36 : decode cX12_sign 36 = .ok (.bipush 8, 2) := by decide +kernel
theorem dX12_sign_38 : decode cX12_sign 38 = .ok (.iload_n 2, 1) := by decide +kernel
theorem dX12_sign_39 : decode cX12_sign 39 = .ok (.imul, 1) := by decide +kernel
theorem dX12_sign_40 : decode cX12_sign 40 = .ok (.isub, 1) := by decide +kernel
theorem dX12_sign_41 : decode cX12_sign 41 = .ok (.ishr, 1) := by decide +kernel
theorem dX12_sign_42 : decode cX12_sign 42 = .ok (.sipush 255, 3) := by decide +kernel
theorem dX12_sign_45 : decode cX12_sign 45 = .ok (.iand, 1) := by decide +kernel
theorem dX12_sign_46 : decode cX12_sign 46 = .ok (.iastore, 1) := by decide +kernel
theorem dX12_sign_47 : decode cX12_sign 47 = .ok (.iinc 2 1, 3) := by decide +kernel
theorem dX12_sign_50 : decode cX12_sign 50 = .ok (.goto (-32), 3) := by decide +kernel
theorem dX12_sign_53 : decode cX12_sign 53 = .ok (.aload_n 0, 1) := by decide +kernel
theorem dX12_sign_54 : decode cX12_sign 54 = .ok (.dup, 1) := by decide +kernel
theorem dX12_sign_55 : decode cX12_sign 55 = .ok (.getfield 188, 3) := by decide +kernel
theorem dX12_sign_58 : decode cX12_sign 58 = .ok (.iconst 4, 1) := by decide +kernel
theorem dX12_sign_59 : decode cX12_sign 59 = .ok (.iadd, 1) := by decide +kernel
theorem dX12_sign_60 : decode cX12_sign 60 = .ok (.putfield 188, 3) := by decide +kernel
theorem dX12_sign_63 : decode cX12_sign 63 = .ok (.aload_n 0, 1) := by decide +kernel
theorem dX12_sign_64 : decode cX12_sign 64 = .ok (.getfield 188, 3) := by decide +kernel
theorem dX12_sign_67 : decode cX12_sign 67 = .ok (.ireturn, 1) := by decide +kernel
theorem dX12_end_0 : decode cX12_end 0 = .ok (.aload_n 0, 1) := by decide +kernel
theorem dX12_end_1 : decode cX12_end 1 = .ok (.iconst 0, 1) := by decide +kernel
theorem dX12_end_2 : decode cX12_end 2 = .ok (.putfield 3, 3) := by decide +kernel
theorem dX12_end_5 : decode cX12_end 5 = .ok (.iload_n 1, 1) := by decide +kernel
theorem dX12_end_6 : decode cX12_end 6 = .ok (.i2l, 1) := by decide +kernel
theorem dX12_end_7 : decode cX12_end 7 = .ok (.lconst 0, 1) := by decide +kernel
theorem dX12_end_8 : decode cX12_end 8 = .ok (.aload_n 0, 1) := by decide +kernel
theorem dX12_end_9 : decode cX12_end 9 = .ok (.getfield 188, 3) := by decide +kernel
theorem dX12_end_12 : decode cX12_end 12 = .ok (.i2l, 1) := by decide +kernel
theorem dX12_end_13 : decode cX12_end 13 = .ok (.invokestatic 42, 3) := by decide +kernel
theorem dX12_end_16 : decode cX12_end 16 = .ok (.ifCond .ne 5, 3) := by decide +kernel
theorem dX12_end_19 : decode cX12_end 19 = .ok (.iconst 0, 1) := by decide +kernel
theorem dX12_end_20 : decode cX12_end 20 = .ok (.ireturn, 1) := by decide +kernel
theorem dX12_end_21 : decode cX12_end 21 = .ok (.aload_n 0, 1) := by decide +kernel
theorem dX12_end_22 : decode cX12_end 22 = .ok (.iload_n 1, 1) := by decide +kernel
theorem dX12_end_23 : decode cX12_end 23 = .ok (.putfield 188, 3) := by decide +kernel
theorem dX12_end_26 : decode cX12_end 26 = .ok (.iconst 1, 1) := by decide +kernel
theorem dX12_end_27 : decode cX12_end 27 = .ok (.ireturn, 1) := by decide +kernel
theorem dX12_isSign_0 : decode cX12_isSign 0 = .ok (.aload_n 0, 1) := by decide +kernel
theorem dX12_isSign_1 : decode cX12_isSign 1 = .ok (.getfield 194, 3) := by decide +kernel
theorem dX12_isSign_4 : decode cX12_isSign 4 = .ok (.iload_n 1, 1) := by decide +kernel
theorem dX12_isSign_5 : decode cX12_isSign 5 = .ok (.if_icmp .ge 20, 3) := by decide +kernel
theorem dX12_isSign_8 : decode cX12_isSign 8 = .ok (.aload_n 0, 1) := by decide +kernel
theorem dX12_isSign_9 : decode cX12_isSign 9 = .ok (.getfield 191, 3) := by decide +kernel
theorem dX12_isSign_12 : decode cX12_isSign 12 = .ok (.aload_n 0, 1) := by decide +kernel
theorem dX12_isSign_13 : decode cX12_isSign 13 = .ok (.getfield 194, 3) := by decide +kernel
theorem dX12_isSign_16 : decode cX12_isSign 16 = .ok (.iaload, 1) := by decide +kernel
theorem dX12_isSign_17 : decode cX12_isSign 17 = .ok (.iload_n 2, 1) := by decide +kernel
theorem dX12_isSign_18 : decode cX12_isSign 18 = .ok (.if_icmp .ne 7, 3) := by decide +kernel
theorem dX12_isSign_21 : decode cX12_isSign 21 = .ok (.iconst 1, 1) := by decide +kernel
theorem dX12_isSign_22 : decode cX12_isSign 22 = .ok (.goto 4, 3) := by decide +kernel
theorem dX12_isSign_25 : decode cX12_isSign 25 = .ok (.iconst 0, 1) := by decide +kernel
theorem dX12_isSign_26 : decode cX12_isSign 26 = .ok (.ireturn, 1) := by decide +kernel
theorem dX12_isOf_0 : decode cX12_isOf 0 = .ok (.aload_n 0, 1) := by decide +kernel
theorem dX12_isOf_1 : decode cX12_isOf 1 = .ok (.getfield 194, 3) := by decide +kernel
theorem dX12_isOf_4 : decode cX12_isOf 4 = .ok (.iload_n 1, 1) := by decide +kernel
theorem dX12_isOf_5 : decode cX12_isOf 5 = .ok (.if_icmp .ge 35, 3) := by decide +kernel
theorem dX12_isOf_8 : decode cX12_isOf 8 = .ok (.aload_n 0, 1) := by decide +kernel
theorem dX12_isOf_9 : decode cX12_isOf 9 = .ok (.getfield 191, 3) := by decide +kernel
theorem dX12_isOf_12 : decode cX12_isOf 12 = .ok (.aload_n 0, 1) := by decide +kernel
theorem dX12_isOf_13 : decode cX12_isOf 13 = .ok (.getfield 194, 3) := by decide +kernel
theorem dX12_isOf_16 : decode cX12_isOf 16 = .ok (.iaload, 1) := by decide +kernel
theorem dX12_isOf_17 : decode cX12_isOf 17 = .ok (.ifCond .le 23, 3) := by decide +kernel
theorem dX12_isOf_20 : decode cX12_isOf 20 = .ok (.aload_n 2, 1) := by decide +kernel
theorem dX12_isOf_21 : decode cX12_isOf 21 = .ok (.aload_n 0, 1) := by decide +kernel
theorem dX12_isOf_22 : decode cX12_isOf 22 = .ok (.getfield 191, 3) := by decide +kernel
theorem dX12_isOf_25 : decode cX12_isOf 25 = .ok (.aload_n 0, 1) := by decide +kernel
theorem dX12_isOf_26 : decode cX12_isOf 26 = .ok (.getfield 194, 3) := by decide +kernel
theorem dX12_isOf_29 : decode cX12_isOf 29 = .ok (.iaload, 1) := by decide +kernel
theorem dX12_isOf_30 : decode cX12_isOf 30 = .ok (.invokevirtual 197, 3) := by decide +kernel
theorem dX12_isOf_33 : decode cX12_isOf 33 = .ok (.ifCond .lt 7, 3) := by decide +kernel
theorem dX12_isOf_36 : decode cX12_isOf 36 = .ok (.iconst 1, 1) := by decide +kernel
theorem dX12_isOf_37 : decode cX12_isOf 37 = .ok (.goto 4, 3) := by decide +kernel
theorem dX12_isOf_40 : decode cX12_isOf 40 = .ok (.iconst 0, 1) := by decide +kernel
theorem dX12_isOf_41 : decode cX12_isOf 41 = .ok (.ireturn, 1) := by decide +kernel
theorem dX12_thing_0 : decode cX12_thing 0 = .ok (.aload_n 0, 1) := by decide +kernel
theorem dX12_thing_1 : decode cX12_thing 1 = .ok (.iload_n 1, 1) := by decide +kernel
theorem dX12_thing_2 : decode cX12_thing 2 = .ok (.aload_n 0, 1) := by decide +kernel
theorem dX12_thing_3 : decode cX12_thing 3 = .ok (.getfield 221, 3) := by decide +kernel
theorem dX12_thing_6 : decode cX12_thing 6 = .ok (.invokevirtual 213, 3) := by decide +kernel
theorem dX12_thing_9 : decode cX12_thing 9 = .ok (.ifCond .eq 37, 3) := by decide +kernel
theorem dX12_thing_12 : decode cX12_thing 12 = .ok (.aload_n 0, 1) := by decide +kernel
theorem dX12_thing_13 : decode cX12_thing 13 = .ok (.iconst (-1), 1) := by decide +kernel
theorem dX12_thing_14 : decode cX12_thing 14 = .ok (.aload_n 0, 1) := by decide +kernel
theorem dX12_thing_15 : decode cX12_thing 15 = .ok (.getfield 221, 3) := by decide +kernel
theorem dX12_thing_18 : decode cX12_thing 18 = .ok (.aload_n 0, 1) := by decide +kernel
theorem dX12_thing_19 : decode cX12_thing 19 = .ok (.getfield 191, 3) := by decide +kernel
theorem dX12_thing_22 : decode cX12_thing 22 = .ok (.aload_n 0, 1) := by decide +kernel
theorem dX12_thing_23 : decode cX12_thing 23 = .ok (.getfield 194, 3) := by decide +kernel
theorem dX12_thing_26 : decode cX12_thing 26 = .ok (.iaload, 1) := by decide +kernel
theorem dX12_thing_27 : decode cX12_thing 27 = .ok (.invokevirtual 197, 3) := by decide +kernel
theorem dX12_thing_30 : decode cX12_thing 30 = .ok (.isub, 1) := by decide +kernel
theorem dX12_thing_31 : decode cX12_thing 31 = .ok (.invokevirtual 217, 3) := by decide +kernel
theorem dX12_thing_34 : decode cX12_thing 34 = .ok (.aload_n 0, 1) := by decide +kernel
theorem dX12_thing_35 : decode cX12_thing 35 = .ok (.dup, 1) := by decide +kernel
theorem dX12_thing_36 : decode cX12_thing 36 = .ok (.getfield 194, 3) := by decide +kernel
theorem dX12_thing_39 : decode cX12_thing 39 = .ok (.iconst 1, 1) := by decide +kernel
theorem dX12_thing_40 : decode cX12_thing 40 = .ok (.iadd, 1) := by decide +kernel
theorem dX12_thing_41 : decode cX12_thing 41 = .ok (.putfield 194, 3) := by decide +kernel
theorem dX12_thing_44 : decode cX12_thing 44 = .ok (.iconst 1, 1) := by decide +kernel
theorem dX12_thing_45 : decode cX12_thing 45 = .ok (.ireturn, 1) := by decide +kernel
theorem dX12_thing_46 : decode cX12_thing 46 = .ok (.aload_n 0, 1) := by decide +kernel
theorem dX12_thing_47 : decode cX12_thing 47 = .ok (.iload_n 1, 1) := by decide +kernel
theorem dX12_thing_48 : decode cX12_thing 48 = .ok (.bipush 40, 2) := by decide +kernel
theorem dX12_thing_50 : decode cX12_thing 50 = .ok (.invokevirtual 225, 3) := by decide +kernel
theorem dX12_thing_53 : decode cX12_thing 53 = .ok (.ifCond .ne 27, 3) := by decide +kernel
theorem dX12_thing_56 : decode cX12_thing 56 = .ok (.aload_n 0, 1) := by decide +kernel
theorem dX12_thing_57 : decode cX12_thing 57 = .ok (.iload_n 1, 1) := by decide +kernel
theorem dX12_thing_58 : decode cX12_thing 58 = .ok (.ldc 211, 2) := by decide +kernel
theorem dX12_thing_60 : decode cX12_thing 60 = .ok (.invokevirtual 213, 3) := by decide +kernel
theorem dX12_thing_63 : decode cX12_thing 63 = .ok (.ifCond .eq 15, 3) := by decide +kernel
theorem dX12_thing_66 : decode cX12_thing 66 = .ok (.aload_n 0, 1) := by decide +kernel
theorem dX12_thing_67 : decode cX12_thing 67 = .ok (.iload_n 1, 1) := by decide +kernel
theorem dX12_thing_68 : decode cX12_thing 68 = .ok (.invokevirtual 229, 3) := by decide +kernel
theorem dX12_thing_71 : decode cX12_thing 71 = .ok (.ifCond .eq 7, 3) := by decide +kernel
theorem dX12_thing_74 : decode cX12_thing 74 = .ok (.iconst 1, 1) := by decide +kernel
theorem dX12_thing_75 : decode cX12_thing 75 = .ok (.goto 4, 3) := by decide +kernel
theorem dX12_thing_78 : decode cX12_thing 78 = .ok (.iconst 0, 1) := by decide +kernel
theorem dX12_thing_79 : decode cX12_thing 79 = .ok (.ireturn, 1) := by decide +kernel
theorem dX12_thing_80 : decode cX12_thing 80 = .ok (.aload_n 0, 1) := by decide +kernel
theorem dX12_thing_81 : decode cX12_thing 81 = .ok (.dup, 1) := by decide +kernel
theorem dX12_thing_82 : decode cX12_thing 82 = .ok (.getfield 194, 3) := by decide +kernel
theorem dX12_thing_85 : decode cX12_thing 85 = .ok (.iconst 1, 1) := by decide +kernel
theorem dX12_thing_86 : decode cX12_thing 86 = .ok (.iadd, 1) := by decide +kernel
theorem dX12_thing_87 : decode cX12_thing 87 = .ok (.putfield 194, 3) := by decide +kernel
theorem dX12_thing_90 : decode cX12_thing 90 = .ok (.aload_n 0, 1) := by decide +kernel
theorem dX12_thing_91 : decode cX12_thing 91 = .ok (.iload_n 1, 1) := by decide +kernel
theorem dX12_thing_92 : decode cX12_thing 92 = .ok (.invokevirtual 232, 3) := by decide +kernel
theorem dX12_thing_95 : decode cX12_thing 95 = .ok (.ifCond .eq 13, 3) := by decide +kernel
theorem dX12_thing_98 : decode cX12_thing 98 = .ok (.aload_n 0, 1) := by decide +kernel
theorem dX12_thing_99 : decode cX12_thing 99 = .ok (.iload_n 1, 1) := by decide +kernel
theorem dX12_thing_100 : decode cX12_thing 100 = .ok (.bipush 41, 2) := by decide +kernel
theorem dX12_thing_102 : decode cX12_thing 102 = .ok (.invokevirtual 225, 3) := by decide +kernel
theorem dX12_thing_105 : decode cX12_thing 105 = .ok (.ifCond .ne 5, 3) := by decide +kernel
theorem dX12_thing_108 : decode cX12_thing 108 = .ok (.iconst 0, 1) := by decide +kernel
theorem dX12_thing_109 : decode cX12_thing 109 = .ok (.ireturn, 1) := by decide +kernel
theorem dX12_thing_110 : decode cX12_thing 110 = .ok (.aload_n 0, 1) := by decide +kernel
theorem dX12_thing_111 : decode cX12_thing 111 = .ok (.dup, 1) := by decide +kernel
theorem dX12_thing_112 : decode cX12_thing 112 = .ok (.getfield 194, 3) := by decide +kernel
theorem dX12_thing_115 : decode cX12_thing 115 = .ok (.iconst 1, 1) := by decide +kernel
theorem dX12_thing_116 : decode cX12_thing 116 = .ok (.iadd, 1) := by decide +kernel
theorem dX12_thing_117 : decode cX12_thing 117 = .ok (.putfield 194, 3) := by decide +kernel
theorem dX12_thing_120 : decode cX12_thing 120 = .ok (.iconst 1, 1) := by decide +kernel
theorem dX12_thing_121 : decode cX12_thing 121 = .ok (.ireturn, 1) := by decide +kernel
theorem dX12_unary_0 : decode cX12_unary 0 = .ok (.aload_n 0, 1) := by decide +kernel
theorem dX12_unary_1 : decode cX12_unary 1 = .ok (.iload_n 1, 1) := by decide +kernel
theorem dX12_unary_2 : decode cX12_unary 2 = .ok (.ldc 235, 2) := by decide +kernel
theorem dX12_unary_4 : decode cX12_unary 4 = .ok (.invokevirtual 213, 3) := by decide +kernel
theorem dX12_unary_7 : decode cX12_unary 7 = .ok (.ifCond .ne 9, 3) := by decide +kernel
theorem dX12_unary_10 : decode cX12_unary 10 = .ok (.aload_n 0, 1) := by decide +kernel
theorem dX12_unary_11 : decode cX12_unary 11 = .ok (.iload_n 1, 1) := by decide +kernel
theorem dX12_unary_12 : decode cX12_unary 12 = .ok (.invokevirtual 237, 3) := by decide +kernel
theorem dX12_unary_15 : decode cX12_unary 15 = .ok (.ireturn, 1) := by decide +kernel
theorem dX12_unary_16 : decode cX12_unary 16 = .ok (.aload_n 0, 1) := by decide +kernel
theorem dX12_unary_17 : decode cX12_unary 17 = .ok (.getfield 191, 3) := by decide +kernel
theorem dX12_unary_20 : decode cX12_unary 20 = .ok (.aload_n 0, 1) := by decide +kernel
theorem dX12_unary_21 : decode cX12_unary 21 = .ok (.getfield 194, 3) := by decide +kernel
theorem dX12_unary_24 : decode cX12_unary 24 = .ok (.iaload, 1) := by decide +kernel
theorem dX12_unary_25 : decode cX12_unary 25 = .ok (.istore_n 2, 1) := by decide +kernel
theorem dX12_unary_26 : decode cX12_unary 26 = .ok (.aload_n 0, 1) := by decide +kernel
theorem dX12_unary_27 : decode cX12_unary 27 = .ok (.dup, 1) := by decide +kernel
theorem dX12_unary_28 : decode cX12_unary 28 = .ok (.getfield 194, 3) := by decide +kernel
theorem dX12_unary_31 : decode cX12_unary 31 = .ok (.iconst 1, 1) := by decide +kernel
theorem dX12_unary_32 : decode cX12_unary 32 = .ok (.iadd, 1) := by decide +kernel
theorem dX12_unary_33 : decode cX12_unary 33 = .ok (.putfield 194, 3) := by decide +kernel
theorem dX12_unary_36 : decode cX12_unary 36 = .ok (.aload_n 0, 1) := by decide +kernel
theorem dX12_unary_37 : decode cX12_unary 37 = .ok (.iload_n 1, 1) := by decide +kernel
theorem dX12_unary_38 : decode cX12_unary 38 = .ok (.invokevirtual 240, 3) := by decide +kernel
theorem dX12_unary_41 : decode cX12_unary 41 = .ok (.ifCond .ne 5, 3) := by decide +kernel
theorem dX12_unary_44 : decode cX12_unary 44 = .ok (.iconst 0, 1) := by decide +kernel
theorem dX12_unary_45 : decode cX12_unary 45 = .ok (.ireturn, 1) := by decide +kernel
theorem dX12_unary_46 : decode cX12_unary 46 = .ok (.aload_n 0, 1) := by decide +kernel
theorem dX12_unary_47 : decode cX12_unary 47 = .ok (.iload_n 2, 1) := by decide +kernel
theorem dX12_unary_48 : decode cX12_unary 48 = .ok (.bipush 33, 2) := by decide +kernel
theorem dX12_unary_50 : decode cX12_unary 50 = .ok (.if_icmp .ne 8, 3) := by decide +kernel
theorem dX12_unary_53 : decode cX12_unary 53 = .ok (.bipush 33, 2) := by decide +kernel
theorem dX12_unary_55 : decode cX12_unary 55 = .ok (.goto 5, 3) := by decide +kernel
theorem dX12_unary_58 : decode cX12_unary 58 = .ok (.bipush 126, 2) := by decide +kernel
theorem dX12_unary_60 : decode cX12_unary 60 = .ok (.invokestatic 243, 3) := by decide +kernel
theorem dX12_unary_63 : decode cX12_unary 63 = .ok (.invokevirtual 217, 3) := by decide +kernel
theorem dX12_unary_66 : decode cX12_unary 66 = .ok (.iconst 1, 1) := by decide +kernel
theorem dX12_unary_67 : decode cX12_unary 67 = .ok (.ireturn, 1) := by decide +kernel
theorem dX12_product_0 : decode cX12_product 0 = .ok (.aload_n 0, 1) := by decide +kernel
theorem dX12_product_1 : decode cX12_product 1 = .ok (.iload_n 1, 1) := by decide +kernel
theorem dX12_product_2 : decode cX12_product 2 = .ok (.invokevirtual 240, 3) := by decide +kernel
theorem dX12_product_5 : decode cX12_product 5 = .ok (.istore_n 2, 1) := by decide +kernel
theorem dX12_product_6 : decode cX12_product 6 = .ok (.iload_n 2, 1) := by decide +kernel
theorem dX12_product_7 : decode cX12_product 7 = .ok (.ifCond .eq 45, 3) := by decide +kernel
theorem dX12_product_10 : decode cX12_product 10 = .ok (.aload_n 0, 1) := by decide +kernel
theorem dX12_product_11 : decode cX12_product 11 = .ok (.iload_n 1, 1) := by decide +kernel
theorem dX12_product_12 : decode cX12_product 12 = .ok (.bipush 42, 2) := by decide +kernel
theorem dX12_product_14 : decode cX12_product 14 = .ok (.invokevirtual 225, 3) := by decide +kernel
theorem dX12_product_17 : decode cX12_product 17 = .ok (.ifCond .eq 35, 3) := by decide +kernel
theorem dX12_product_20 : decode cX12_product 20 = .ok (.aload_n 0, 1) := by decide +kernel
theorem dX12_product_21 : decode cX12_product 21 = .ok (.dup, 1) := by decide +kernel
theorem dX12_product_22 : decode cX12_product 22 = .ok (.getfield 194, 3) := by decide +kernel
theorem dX12_product_25 : decode cX12_product 25 = .ok (.iconst 1, 1) := by decide +kernel
theorem dX12_product_26 : decode cX12_product 26 = .ok (.iadd, 1) := by decide +kernel
theorem dX12_product_27 : decode cX12_product 27 = .ok (.putfield 194, 3) := by decide +kernel
theorem dX12_product_30 : decode cX12_product 30 = .ok (.aload_n 0, 1) := by decide +kernel
theorem dX12_product_31 : decode cX12_product 31 = .ok (.iload_n 1, 1) := by decide +kernel
theorem dX12_product_32 : decode cX12_product 32 = .ok (.invokevirtual 240, 3) := by decide +kernel
theorem dX12_product_35 : decode cX12_product 35 = .ok (.istore_n 2, 1) := by decide +kernel
theorem dX12_product_36 : decode cX12_product 36 = .ok (.iload_n 2, 1) := by decide +kernel
theorem dX12_product_37 : decode cX12_product 37 = .ok (.ifCond .eq (-31), 3) := by decide +kernel
theorem dX12_product_40 : decode cX12_product 40 = .ok (.aload_n 0, 1) := by decide +kernel
theorem dX12_product_41 : decode cX12_product 41 = .ok (.bipush 42, 2) := by decide +kernel
theorem dX12_product_43 : decode cX12_product 43 = .ok (.invokestatic 243, 3) := by decide +kernel
theorem dX12_product_46 : decode cX12_product 46 = .ok (.invokevirtual 217, 3) := by decide +kernel
theorem dX12_product_49 : decode cX12_product 49 = .ok (.goto (-43), 3) := by decide +kernel
theorem dX12_product_52 : decode cX12_product 52 = .ok (.iload_n 2, 1) := by decide +kernel
theorem dX12_product_53 : decode cX12_product 53 = .ok (.ireturn, 1) := by decide +kernel
theorem dX12_total_0 : decode cX12_total 0 = .ok (.aload_n 0, 1) := by decide +kernel
theorem dX12_total_1 : decode cX12_total 1 = .ok (.iload_n 1, 1) := by decide +kernel
theorem dX12_total_2 : decode cX12_total 2 = .ok (.invokevirtual 246, 3) := by decide +kernel
theorem dX12_total_5 : decode cX12_total 5 = .ok (.istore_n 2, 1) := by decide +kernel
theorem dX12_total_6 : decode cX12_total 6 = .ok (.iload_n 2, 1) := by decide +kernel
theorem dX12_total_7 : decode cX12_total 7 = .ok (.ifCond .eq 54, 3) := by decide +kernel
theorem dX12_total_10 : decode cX12_total 10 = .ok (.aload_n 0, 1) := by decide +kernel
theorem dX12_total_11 : decode cX12_total 11 = .ok (.iload_n 1, 1) := by decide +kernel
theorem dX12_total_12 : decode cX12_total 12 = .ok (.ldc 249, 2) := by decide +kernel
theorem dX12_total_14 : decode cX12_total 14 = .ok (.invokevirtual 213, 3) := by decide +kernel
theorem dX12_total_17 : decode cX12_total 17 = .ok (.ifCond .eq 44, 3) := by decide +kernel
theorem dX12_total_20 : decode cX12_total 20 = .ok (.aload_n 0, 1) := by decide +kernel
theorem dX12_total_21 : decode cX12_total 21 = .ok (.getfield 191, 3) := by decide +kernel
theorem dX12_total_24 : decode cX12_total 24 = .ok (.aload_n 0, 1) := by decide +kernel
theorem dX12_total_25 : decode cX12_total 25 = .ok (.getfield 194, 3) := by decide +kernel
theorem dX12_total_28 : decode cX12_total 28 = .ok (.iaload, 1) := by decide +kernel
theorem dX12_total_29 : decode cX12_total 29 = .ok (.istore_n 3, 1) := by decide +kernel
theorem dX12_total_30 : decode cX12_total 30 = .ok (.aload_n 0, 1) := by decide +kernel
theorem dX12_total_31 : decode cX12_total 31 = .ok (.dup, 1) := by decide +kernel
theorem dX12_total_32 : decode cX12_total 32 = .ok (.getfield 194, 3) := by decide +kernel
theorem dX12_total_35 : decode cX12_total 35 = .ok (.iconst 1, 1) := by decide +kernel
theorem dX12_total_36 : decode cX12_total 36 = .ok (.iadd, 1) := by decide +kernel
theorem dX12_total_37 : decode cX12_total 37 = .ok (.putfield 194, 3) := by decide +kernel
theorem dX12_total_40 : decode cX12_total 40 = .ok (.aload_n 0, 1) := by decide +kernel
theorem dX12_total_41 : decode cX12_total 41 = .ok (.iload_n 1, 1) := by decide +kernel
theorem dX12_total_42 : decode cX12_total 42 = .ok (.invokevirtual 246, 3) := by decide +kernel
theorem dX12_total_45 : decode cX12_total 45 = .ok (.istore_n 2, 1) := by decide +kernel
theorem dX12_total_46 : decode cX12_total 46 = .ok (.iload_n 2, 1) := by decide +kernel
theorem dX12_total_47 : decode cX12_total 47 = .ok (.ifCond .eq 11, 3) := by decide +kernel
theorem dX12_total_50 : decode cX12_total 50 = .ok (.aload_n 0, 1) := by decide +kernel
theorem dX12_total_51 : decode cX12_total 51 = .ok (.iload_n 3, 1) := by decide +kernel
theorem dX12_total_52 : decode cX12_total 52 = .ok (.invokestatic 243, 3) := by decide +kernel
theorem dX12_total_55 : decode cX12_total 55 = .ok (.invokevirtual 217, 3) := by decide +kernel
theorem dX12_total_58 : decode cX12_total 58 = .ok (.goto (-52), 3) := by decide +kernel
theorem dX12_total_61 : decode cX12_total 61 = .ok (.iload_n 2, 1) := by decide +kernel
theorem dX12_total_62 : decode cX12_total 62 = .ok (.ireturn, 1) := by decide +kernel
theorem dX12_compared_0 : decode cX12_compared 0 = .ok (.aload_n 0, 1) := by decide +kernel
theorem dX12_compared_1 : decode cX12_compared 1 = .ok (.iload_n 1, 1) := by decide +kernel
theorem dX12_compared_2 : decode cX12_compared 2 = .ok (.invokevirtual 251, 3) := by decide +kernel
theorem dX12_compared_5 : decode cX12_compared 5 = .ok (.istore_n 2, 1) := by decide +kernel
theorem dX12_compared_6 : decode cX12_compared 6 = .ok (.iload_n 2, 1) := by decide +kernel
theorem dX12_compared_7 : decode cX12_compared 7 = .ok (.ifCond .eq 51, 3) := by decide +kernel
theorem dX12_compared_10 : decode cX12_compared 10 = .ok (.aload_n 0, 1) := by decide +kernel
theorem dX12_compared_11 : decode cX12_compared 11 = .ok (.iload_n 1, 1) := by decide +kernel
theorem dX12_compared_12 : decode cX12_compared 12 = .ok (.ldc 254, 2) := by decide +kernel
theorem dX12_compared_14 : decode cX12_compared 14 = .ok (.invokevirtual 213, 3) := by decide +kernel
theorem dX12_compared_17 : decode cX12_compared 17 = .ok (.ifCond .eq 41, 3) := by decide +kernel
theorem dX12_compared_20 : decode cX12_compared 20 = .ok (.aload_n 0, 1) := by decide +kernel
theorem dX12_compared_21 : decode cX12_compared 21 = .ok (.getfield 191, 3) := by decide +kernel
theorem dX12_compared_24 : decode cX12_compared 24 = .ok (.aload_n 0, 1) := by decide +kernel
theorem dX12_compared_25 : decode cX12_compared 25 = .ok (.getfield 194, 3) := by decide +kernel
theorem dX12_compared_28 : decode cX12_compared 28 = .ok (.iaload, 1) := by decide +kernel
theorem dX12_compared_29 : decode cX12_compared 29 = .ok (.istore_n 3, 1) := by decide +kernel
theorem dX12_compared_30 : decode cX12_compared 30 = .ok (.aload_n 0, 1) := by decide +kernel
theorem dX12_compared_31 : decode cX12_compared 31 = .ok (.dup, 1) := by decide +kernel
theorem dX12_compared_32 : decode cX12_compared 32 = .ok (.getfield 194, 3) := by decide +kernel
theorem dX12_compared_35 : decode cX12_compared 35 = .ok (.iconst 1, 1) := by decide +kernel
theorem dX12_compared_36 : decode cX12_compared 36 = .ok (.iadd, 1) := by decide +kernel
theorem dX12_compared_37 : decode cX12_compared 37 = .ok (.putfield 194, 3) := by decide +kernel
theorem dX12_compared_40 : decode cX12_compared 40 = .ok (.aload_n 0, 1) := by decide +kernel
theorem dX12_compared_41 : decode cX12_compared 41 = .ok (.iload_n 1, 1) := by decide +kernel
theorem dX12_compared_42 : decode cX12_compared 42 = .ok (.invokevirtual 251, 3) := by decide +kernel
theorem dX12_compared_45 : decode cX12_compared 45 = .ok (.istore_n 2, 1) := by decide +kernel
theorem dX12_compared_46 : decode cX12_compared 46 = .ok (.iload_n 2, 1) := by decide +kernel
theorem dX12_compared_47 : decode cX12_compared 47 = .ok (.ifCond .eq 11, 3) := by decide +kernel
theorem dX12_compared_50 : decode cX12_compared 50 = .ok (.aload_n 0, 1) := by decide +kernel
theorem dX12_compared_51 : decode cX12_compared 51 = .ok (.iload_n 3, 1) := by decide +kernel
theorem dX12_compared_52 : decode cX12_compared 52 = .ok (.invokestatic 243, 3) := by decide +kernel
theorem dX12_compared_55 : decode cX12_compared 55 = .ok (.invokevirtual 217, 3) := by decide +kernel
theorem dX12_compared_58 : decode cX12_compared 58 = .ok (.iload_n 2, 1) := by decide +kernel
theorem dX12_compared_59 : decode cX12_compared 59 = .ok (.ireturn, 1) := by decide +kernel
theorem dX12_every_0 : decode cX12_every 0 = .ok (.aload_n 0, 1) := by decide +kernel
theorem dX12_every_1 : decode cX12_every 1 = .ok (.iload_n 1, 1) := by decide +kernel
theorem dX12_every_2 : decode cX12_every 2 = .ok (.invokevirtual 256, 3) := by decide +kernel
theorem dX12_every_5 : decode cX12_every 5 = .ok (.istore_n 2, 1) := by decide +kernel
theorem dX12_every_6 : decode cX12_every 6 = .ok (.iload_n 2, 1) := by decide +kernel
theorem dX12_every_7 : decode cX12_every 7 = .ok (.ifCond .eq 45, 3) := by decide +kernel
theorem dX12_every_10 : decode cX12_every 10 = .ok (.aload_n 0, 1) := by decide +kernel
theorem dX12_every_11 : decode cX12_every 11 = .ok (.iload_n 1, 1) := by decide +kernel
theorem dX12_every_12 : decode cX12_every 12 = .ok (.bipush 38, 2) := by decide +kernel
theorem dX12_every_14 : decode cX12_every 14 = .ok (.invokevirtual 225, 3) := by decide +kernel
theorem dX12_every_17 : decode cX12_every 17 = .ok (.ifCond .eq 35, 3) := by decide +kernel
theorem dX12_every_20 : decode cX12_every 20 = .ok (.aload_n 0, 1) := by decide +kernel
theorem dX12_every_21 : decode cX12_every 21 = .ok (.dup, 1) := by decide +kernel
theorem dX12_every_22 : decode cX12_every 22 = .ok (.getfield 194, 3) := by decide +kernel
theorem dX12_every_25 : decode cX12_every 25 = .ok (.iconst 1, 1) := by decide +kernel
theorem dX12_every_26 : decode cX12_every 26 = .ok (.iadd, 1) := by decide +kernel
theorem dX12_every_27 : decode cX12_every 27 = .ok (.putfield 194, 3) := by decide +kernel
theorem dX12_every_30 : decode cX12_every 30 = .ok (.aload_n 0, 1) := by decide +kernel
theorem dX12_every_31 : decode cX12_every 31 = .ok (.iload_n 1, 1) := by decide +kernel
theorem dX12_every_32 : decode cX12_every 32 = .ok (.invokevirtual 256, 3) := by decide +kernel
theorem dX12_every_35 : decode cX12_every 35 = .ok (.istore_n 2, 1) := by decide +kernel
theorem dX12_every_36 : decode cX12_every 36 = .ok (.iload_n 2, 1) := by decide +kernel
theorem dX12_every_37 : decode cX12_every 37 = .ok (.ifCond .eq (-31), 3) := by decide +kernel
theorem dX12_every_40 : decode cX12_every 40 = .ok (.aload_n 0, 1) := by decide +kernel
theorem dX12_every_41 : decode cX12_every 41 = .ok (.bipush 38, 2) := by decide +kernel
theorem dX12_every_43 : decode cX12_every 43 = .ok (.invokestatic 243, 3) := by decide +kernel
theorem dX12_every_46 : decode cX12_every 46 = .ok (.invokevirtual 217, 3) := by decide +kernel
theorem dX12_every_49 : decode cX12_every 49 = .ok (.goto (-43), 3) := by decide +kernel
theorem dX12_every_52 : decode cX12_every 52 = .ok (.iload_n 2, 1) := by decide +kernel
theorem dX12_every_53 : decode cX12_every 53 = .ok (.ireturn, 1) := by decide +kernel
theorem dX12_some_0 : decode cX12_some 0 = .ok (.aload_n 0, 1) := by decide +kernel
theorem dX12_some_1 : decode cX12_some 1 = .ok (.iload_n 1, 1) := by decide +kernel
theorem dX12_some_2 : decode cX12_some 2 = .ok (.invokevirtual 259, 3) := by decide +kernel
theorem dX12_some_5 : decode cX12_some 5 = .ok (.istore_n 2, 1) := by decide +kernel
theorem dX12_some_6 : decode cX12_some 6 = .ok (.iload_n 2, 1) := by decide +kernel
theorem dX12_some_7 : decode cX12_some 7 = .ok (.ifCond .eq 45, 3) := by decide +kernel
theorem dX12_some_10 : decode cX12_some 10 = .ok (.aload_n 0, 1) := by decide +kernel
theorem dX12_some_11 : decode cX12_some 11 = .ok (.iload_n 1, 1) := by decide +kernel
theorem dX12_some_12 : decode cX12_some 12 = .ok (.bipush 124, 2) := by decide +kernel
theorem dX12_some_14 : decode cX12_some 14 = .ok (.invokevirtual 225, 3) := by decide +kernel
theorem dX12_some_17 : decode cX12_some 17 = .ok (.ifCond .eq 35, 3) := by decide +kernel
theorem dX12_some_20 : decode cX12_some 20 = .ok (.aload_n 0, 1) := by decide +kernel
theorem dX12_some_21 : decode cX12_some 21 = .ok (.dup, 1) := by decide +kernel
theorem dX12_some_22 : decode cX12_some 22 = .ok (.getfield 194, 3) := by decide +kernel
theorem dX12_some_25 : decode cX12_some 25 = .ok (.iconst 1, 1) := by decide +kernel
theorem dX12_some_26 : decode cX12_some 26 = .ok (.iadd, 1) := by decide +kernel
theorem dX12_some_27 : decode cX12_some 27 = .ok (.putfield 194, 3) := by decide +kernel
theorem dX12_some_30 : decode cX12_some 30 = .ok (.aload_n 0, 1) := by decide +kernel
theorem dX12_some_31 : decode cX12_some 31 = .ok (.iload_n 1, 1) := by decide +kernel
theorem dX12_some_32 : decode cX12_some 32 = .ok (.invokevirtual 259, 3) := by decide +kernel
theorem dX12_some_35 : decode cX12_some 35 = .ok (.istore_n 2, 1) := by decide +kernel
theorem dX12_some_36 : decode cX12_some 36 = .ok (.iload_n 2, 1) := by decide +kernel
theorem dX12_some_37 : decode cX12_some 37 = .ok (.ifCond .eq (-31), 3) := by decide +kernel
theorem dX12_some_40 : decode cX12_some 40 = .ok (.aload_n 0, 1) := by decide +kernel
theorem dX12_some_41 : decode cX12_some 41 = .ok (.bipush 124, 2) := by decide +kernel
theorem dX12_some_43 : decode cX12_some 43 = .ok (.invokestatic 243, 3) := by decide +kernel
theorem dX12_some_46 : decode cX12_some 46 = .ok (.invokevirtual 217, 3) := by decide +kernel
theorem dX12_some_49 : decode cX12_some 49 = .ok (.goto (-43), 3) := by decide +kernel
theorem dX12_some_52 : decode cX12_some 52 = .ok (.iload_n 2, 1) := by decide +kernel
theorem dX12_some_53 : decode cX12_some 53 = .ok (.ireturn, 1) := by decide +kernel
theorem dX12_law_0 : decode cX12_law 0 = .ok (.aload_n 0, 1) := by decide +kernel
theorem dX12_law_1 : decode cX12_law 1 = .ok (.iload_n 1, 1) := by decide +kernel
theorem dX12_law_2 : decode cX12_law 2 = .ok (.invokevirtual 232, 3) := by decide +kernel
theorem dX12_law_5 : decode cX12_law 5 = .ok (.ifCond .eq 13, 3) := by decide +kernel
theorem dX12_law_8 : decode cX12_law 8 = .ok (.aload_n 0, 1) := by decide +kernel
theorem dX12_law_9 : decode cX12_law 9 = .ok (.iload_n 1, 1) := by decide +kernel
theorem dX12_law_10 : decode cX12_law 10 = .ok (.bipush 58, 2) := by decide +kernel
theorem dX12_law_12 : decode cX12_law 12 = .ok (.invokevirtual 225, 3) := by decide +kernel
theorem dX12_law_15 : decode cX12_law 15 = .ok (.ifCond .ne 5, 3) := by decide +kernel
theorem dX12_law_18 : decode cX12_law 18 = .ok (.iconst 0, 1) := by decide +kernel
theorem dX12_law_19 : decode cX12_law 19 = .ok (.ireturn, 1) := by decide +kernel
theorem dX12_law_20 : decode cX12_law 20 = .ok (.aload_n 0, 1) := by decide +kernel
theorem dX12_law_21 : decode cX12_law 21 = .ok (.dup, 1) := by decide +kernel
theorem dX12_law_22 : decode cX12_law 22 = .ok (.getfield 194, 3) := by decide +kernel
theorem dX12_law_25 : decode cX12_law 25 = .ok (.iconst 1, 1) := by decide +kernel
theorem dX12_law_26 : decode cX12_law 26 = .ok (.iadd, 1) := by decide +kernel
theorem dX12_law_27 : decode cX12_law 27 = .ok (.putfield 194, 3) := by decide +kernel
theorem dX12_law_30 : decode cX12_law 30 = .ok (.aload_n 0, 1) := by decide +kernel
theorem dX12_law_31 : decode cX12_law 31 = .ok (.iload_n 1, 1) := by decide +kernel
theorem dX12_law_32 : decode cX12_law 32 = .ok (.bipush 88, 2) := by decide +kernel
theorem dX12_law_34 : decode cX12_law 34 = .ok (.invokevirtual 225, 3) := by decide +kernel
theorem dX12_law_37 : decode cX12_law 37 = .ok (.ifCond .eq 37, 3) := by decide +kernel
theorem dX12_law_40 : decode cX12_law 40 = .ok (.aload_n 0, 1) := by decide +kernel
theorem dX12_law_41 : decode cX12_law 41 = .ok (.dup, 1) := by decide +kernel
theorem dX12_law_42 : decode cX12_law 42 = .ok (.getfield 194, 3) := by decide +kernel
theorem dX12_law_45 : decode cX12_law 45 = .ok (.iconst 1, 1) := by decide +kernel
theorem dX12_law_46 : decode cX12_law 46 = .ok (.iadd, 1) := by decide +kernel
theorem dX12_law_47 : decode cX12_law 47 = .ok (.putfield 194, 3) := by decide +kernel
theorem dX12_law_50 : decode cX12_law 50 = .ok (.aload_n 0, 1) := by decide +kernel
theorem dX12_law_51 : decode cX12_law 51 = .ok (.getfield 269, 3) := by decide +kernel
theorem dX12_law_54 : decode cX12_law 54 = .ok (.aload_n 0, 1) := by decide +kernel
theorem dX12_law_55 : decode cX12_law 55 = .ok (.getfield 33, 3) := by decide +kernel
theorem dX12_law_58 : decode cX12_law 58 = .ok (.iconst (-1), 1) := by decide +kernel
theorem dX12_law_59 : decode cX12_law 59 = .ok (.iastore, 1) := by decide +kernel
theorem dX12_law_60 : decode cX12_law 60 = .ok (.aload_n 0, 1) := by decide +kernel
theorem dX12_law_61 : decode cX12_law 61 = .ok (.getfield 194, 3) := by decide +kernel
theorem dX12_law_64 : decode cX12_law 64 = .ok (.iload_n 1, 1) := by decide +kernel
theorem dX12_law_65 : decode cX12_law 65 = .ok (.if_icmp .ne 7, 3) := by decide +kernel
theorem dX12_law_68 : decode cX12_law 68 = .ok (.iconst 1, 1) := by decide +kernel
theorem dX12_law_69 : decode cX12_law 69 = .ok (.goto 4, 3) := by decide +kernel
theorem dX12_law_72 : decode cX12_law 72 = .ok (.iconst 0, 1) := by decide +kernel
theorem dX12_law_73 : decode cX12_law 73 = .ok (.ireturn, 1) := by decide +kernel
theorem dX12_law_74 : decode cX12_law 74 = .ok (.aload_n 0, 1) := by decide +kernel
theorem dX12_law_75 : decode cX12_law 75 = .ok (.iload_n 1, 1) := by decide +kernel
theorem dX12_law_76 : decode cX12_law 76 = .ok (.bipush 43, 2) := by decide +kernel
theorem dX12_law_78 : decode cX12_law 78 = .ok (.invokevirtual 225, 3) := by decide +kernel
theorem dX12_law_81 : decode cX12_law 81 = .ok (.ifCond .ne 5, 3) := by decide +kernel
theorem dX12_law_84 : decode cX12_law 84 = .ok (.iconst 0, 1) := by decide +kernel
theorem dX12_law_85 : decode cX12_law 85 = .ok (.ireturn, 1) := by decide +kernel
theorem dX12_law_86 : decode cX12_law 86 = .ok (.aload_n 0, 1) := by decide +kernel
theorem dX12_law_87 : decode cX12_law 87 = .ok (.dup, 1) := by decide +kernel
theorem dX12_law_88 : decode cX12_law 88 = .ok (.getfield 194, 3) := by decide +kernel
theorem dX12_law_91 : decode cX12_law 91 = .ok (.iconst 1, 1) := by decide +kernel
theorem dX12_law_92 : decode cX12_law 92 = .ok (.iadd, 1) := by decide +kernel
theorem dX12_law_93 : decode cX12_law 93 = .ok (.putfield 194, 3) := by decide +kernel
theorem dX12_law_96 : decode cX12_law 96 = .ok (.iconst 0, 1) := by decide +kernel
theorem dX12_law_97 : decode cX12_law 97 = .ok (.istore_n 2, 1) := by decide +kernel
theorem dX12_law_98 : decode cX12_law 98 = .ok (.aload_n 0, 1) := by decide +kernel
theorem dX12_law_99 : decode cX12_law 99 = .ok (.getfield 194, 3) := by decide +kernel
theorem dX12_law_102 : decode cX12_law 102 = .ok (.istore_n 3, 1) := by decide +kernel
theorem dX12_law_103 : decode cX12_law 103 = .ok (.aload_n 0, 1) := by decide +kernel
theorem dX12_law_104 : decode cX12_law 104 = .ok (.getfield 194, 3) := by decide +kernel
theorem dX12_law_107 : decode cX12_law 107 = .ok (.iload_n 3, 1) := by decide +kernel
theorem dX12_law_108 : decode cX12_law 108 = .ok (.iconst 3, 1) := by decide +kernel
theorem dX12_law_109 : decode cX12_law 109 = .ok (.iadd, 1) := by decide +kernel
theorem dX12_law_110 : decode cX12_law 110 = .ok (.if_icmp .ge 44, 3) := by decide +kernel
theorem dX12_law_113 : decode cX12_law 113 = .ok (.aload_n 0, 1) := by decide +kernel
theorem dX12_law_114 : decode cX12_law 114 = .ok (.iload_n 1, 1) := by decide +kernel
theorem dX12_law_115 : decode cX12_law 115 = .ok (.ldc 211, 2) := by decide +kernel
theorem dX12_law_117 : decode cX12_law 117 = .ok (.invokevirtual 213, 3) := by decide +kernel
theorem dX12_law_120 : decode cX12_law 120 = .ok (.ifCond .eq 34, 3) := by decide +kernel
theorem dX12_law_123 : decode cX12_law 123 = .ok (.bipush 10, 2) := by decide +kernel
theorem dX12_law_125 : decode cX12_law 125 = .ok (.iload_n 2, 1) := by decide +kernel
theorem dX12_law_126 : decode cX12_law 126 = .ok (.imul, 1) := by decide +kernel
theorem dX12_law_127 : decode cX12_law 127 = .ok (.aload_n 0, 1) := by decide +kernel
theorem dX12_law_128 : decode cX12_law 128 = .ok (.getfield 191, 3) := by decide +kernel
theorem dX12_law_131 : decode cX12_law 131 = .ok (.aload_n 0, 1) := by decide +kernel
theorem dX12_law_132 : decode cX12_law 132 = .ok (.getfield 194, 3) := by decide +kernel
theorem dX12_law_135 : decode cX12_law 135 = .ok (.iaload, 1) := by decide +kernel
theorem dX12_law_136 : decode cX12_law 136 = .ok (.iadd, 1) := by decide +kernel
theorem dX12_law_137 : decode cX12_law 137 = .ok (.bipush 48, 2) := by decide +kernel
theorem dX12_law_139 : decode cX12_law 139 = .ok (.isub, 1) := by decide +kernel
theorem dX12_law_140 : decode cX12_law 140 = .ok (.istore_n 2, 1) := by decide +kernel
theorem dX12_law_141 : decode cX12_law 141 = .ok (.aload_n 0, 1) := by decide +kernel
theorem dX12_law_142 : decode cX12_law 142 = .ok (.dup, 1) := by decide +kernel
theorem dX12_law_143 : decode cX12_law 143 = .ok (.getfield 194, 3) := by decide +kernel
theorem dX12_law_146 : decode cX12_law 146 = .ok (.iconst 1, 1) := by decide +kernel
theorem dX12_law_147 : decode cX12_law 147 = .ok (.iadd, 1) := by decide +kernel
theorem dX12_law_148 : decode cX12_law 148 = .ok (.putfield 194, 3) := by decide +kernel
theorem dX12_law_151 : decode cX12_law 151 = .ok (.goto (-48), 3) := by decide +kernel
theorem dX12_law_154 : decode cX12_law 154 = .ok (.aload_n 0, 1) := by decide +kernel
theorem dX12_law_155 : decode cX12_law 155 = .ok (.getfield 269, 3) := by decide +kernel
theorem dX12_law_158 : decode cX12_law 158 = .ok (.aload_n 0, 1) := by decide +kernel
theorem dX12_law_159 : decode cX12_law 159 = .ok (.getfield 33, 3) := by decide +kernel
theorem dX12_law_162 : decode cX12_law 162 = .ok (.iload_n 2, 1) := by decide +kernel
theorem dX12_law_163 : decode cX12_law 163 = .ok (.iastore, 1) := by decide +kernel
theorem dX12_law_164 : decode cX12_law 164 = .ok (.aload_n 0, 1) := by decide +kernel
theorem dX12_law_165 : decode cX12_law 165 = .ok (.getfield 194, 3) := by decide +kernel
theorem dX12_law_168 : decode cX12_law 168 = .ok (.iload_n 3, 1) := by decide +kernel
theorem dX12_law_169 : decode cX12_law 169 = .ok (.if_icmp .le 15, 3) := by decide +kernel
theorem dX12_law_172 : decode cX12_law 172 = .ok (.aload_n 0, 1) := by decide +kernel
theorem dX12_law_173 : decode cX12_law 173 = .ok (.getfield 194, 3) := by decide +kernel
theorem dX12_law_176 : decode cX12_law 176 = .ok (.iload_n 1, 1) := by decide +kernel
theorem dX12_law_177 : decode cX12_law 177 = .ok (.if_icmp .ne 7, 3) := by decide +kernel
theorem dX12_law_180 : decode cX12_law 180 = .ok (.iconst 1, 1) := by decide +kernel
theorem dX12_law_181 : decode cX12_law 181 = .ok (.goto 4, 3) := by decide +kernel
theorem dX12_law_184 : decode cX12_law 184 = .ok (.iconst 0, 1) := by decide +kernel
theorem dX12_law_185 : decode cX12_law 185 = .ok (.ireturn, 1) := by decide +kernel
theorem dX12_reads_0 : decode cX12_reads 0 = .ok (.aload_n 0, 1) := by decide +kernel
theorem dX12_reads_1 : decode cX12_reads 1 = .ok (.getfield 188, 3) := by decide +kernel
theorem dX12_reads_4 : decode cX12_reads 4 = .ok (.istore_n 3, 1) := by decide +kernel
theorem dX12_reads_5 : decode cX12_reads 5 = .ok (.aload_n 0, 1) := by decide +kernel
theorem dX12_reads_6 : decode cX12_reads 6 = .ok (.iconst 0, 1) := by decide +kernel
theorem dX12_reads_7 : decode cX12_reads 7 = .ok (.putfield 188, 3) := by decide +kernel
theorem dX12_reads_10 : decode cX12_reads 10 = .ok (.iload_n 3, 1) := by decide +kernel
theorem dX12_reads_11 : decode cX12_reads 11 = .ok (.bipush 60, 2) := by decide +kernel
theorem dX12_reads_13 : decode cX12_reads 13 = .ok (.invokestatic 272, 3) := by decide +kernel
theorem dX12_reads_16 : decode cX12_reads 16 = .ok (.istore 4, 2) := by decide +kernel
theorem dX12_reads_18 : decode cX12_reads 18 = .ok (.aload_n 0, 1) := by decide +kernel
theorem dX12_reads_19 : decode cX12_reads 19 = .ok (.iconst 0, 1) := by decide +kernel
theorem dX12_reads_20 : decode cX12_reads 20 = .ok (.putfield 194, 3) := by decide +kernel
theorem dX12_reads_23 : decode cX12_reads 23 = .ok (.aload_n 0, 1) := by decide +kernel
theorem dX12_reads_24 : decode cX12_reads 24 = .ok (.iload_n 1, 1) := by decide +kernel
theorem dX12_reads_25 : decode cX12_reads 25 = .ok (.putfield 205, 3) := by decide +kernel
theorem dX12_reads_28 : decode cX12_reads 28 = .ok (.aload_n 0, 1) := by decide +kernel
theorem dX12_reads_29 : decode cX12_reads 29 = .ok (.getfield 208, 3) := by decide +kernel
theorem dX12_reads_32 : decode cX12_reads 32 = .ok (.iload_n 1, 1) := by decide +kernel
theorem dX12_reads_33 : decode cX12_reads 33 = .ok (.iconst 0, 1) := by decide +kernel
theorem dX12_reads_34 : decode cX12_reads 34 = .ok (.iastore, 1) := by decide +kernel
theorem dX12_reads_35 : decode cX12_reads 35 = .ok (.aload_n 0, 1) := by decide +kernel
theorem dX12_reads_36 : decode cX12_reads 36 = .ok (.iload_n 2, 1) := by decide +kernel
theorem dX12_reads_37 : decode cX12_reads 37 = .ok (.ifCond .eq 9, 3) := by decide +kernel
theorem dX12_reads_40 : decode cX12_reads 40 = .ok (.ldc_w 278, 3) := by decide +kernel
theorem dX12_reads_43 : decode cX12_reads 43 = .ok (.goto 6, 3) := by decide +kernel
theorem dX12_reads_46 : decode cX12_reads 46 = .ok (.ldc_w 280, 3) := by decide +kernel
theorem dX12_reads_49 : decode cX12_reads 49 = .ok (.putfield 221, 3) := by decide +kernel
theorem dX12_reads_52 : decode cX12_reads 52 = .ok (.iload_n 2, 1) := by decide +kernel
theorem dX12_reads_53 : decode cX12_reads 53 = .ok (.ifCond .eq 12, 3) := by decide +kernel
theorem dX12_reads_56 : decode cX12_reads 56 = .ok (.aload_n 0, 1) := by decide +kernel
theorem dX12_reads_57 : decode cX12_reads 57 = .ok (.iload 4, 2) := by decide +kernel
theorem dX12_reads_59 : decode cX12_reads 59 = .ok (.invokevirtual 282, 3) := by decide +kernel
theorem dX12_reads_62 : decode cX12_reads 62 = .ok (.goto 9, 3) := by decide +kernel
theorem dX12_reads_65 : decode cX12_reads 65 = .ok (.aload_n 0, 1) := by decide +kernel
theorem dX12_reads_66 : decode cX12_reads 66 = .ok (.iload 4, 2) := by decide +kernel
theorem dX12_reads_68 : decode cX12_reads 68 = .ok (.invokevirtual 285, 3) := by decide +kernel
theorem dX12_reads_71 : decode cX12_reads 71 = .ok (.istore 5, 2) := by decide +kernel
theorem dX12_reads_73 : decode cX12_reads 73 = .ok (.iload_n 3, 1) := by decide +kernel
theorem dX12_reads_74 : decode cX12_reads 74 = .ok (.bipush 60, 2) := by decide +kernel
theorem dX12_reads_76 : decode cX12_reads 76 = .ok (.if_icmp .le 20, 3) := by decide +kernel
theorem dX12_reads_79 : decode cX12_reads 79 = .ok (.iload 5, 2) := by decide +kernel
theorem dX12_reads_81 : decode cX12_reads 81 = .ok (.ifCond .ne 12, 3) := by decide +kernel
theorem dX12_reads_84 : decode cX12_reads 84 = .ok (.aload_n 0, 1) := by decide +kernel
theorem dX12_reads_85 : decode cX12_reads 85 = .ok (.getfield 194, 3) := by decide +kernel
theorem dX12_reads_88 : decode cX12_reads 88 = .ok (.bipush 60, 2) := by decide +kernel
theorem dX12_reads_90 : decode cX12_reads 90 = .ok (.if_icmp .lt 6, 3) := by decide +kernel
theorem dX12_reads_93 : decode cX12_reads 93 = .ok (.bipush (-61), 2) := by decide +kernel
theorem dX12_reads_95 : decode cX12_reads 95 = .ok (.ireturn, 1) := by decide +kernel
theorem dX12_reads_96 : decode cX12_reads 96 = .ok (.iload 5, 2) := by decide +kernel
theorem dX12_reads_98 : decode cX12_reads 98 = .ok (.ifCond .eq 7, 3) := by decide +kernel
theorem dX12_reads_101 : decode cX12_reads 101 = .ok (.iconst 1, 1) := by decide +kernel
theorem dX12_reads_102 : decode cX12_reads 102 = .ok (.goto 9, 3) := by decide +kernel
theorem dX12_reads_105 : decode cX12_reads 105 = .ok (.iconst (-1), 1) := by decide +kernel
theorem dX12_reads_106 : decode cX12_reads 106 = .ok (.aload_n 0, 1) := by decide +kernel
theorem dX12_reads_107 : decode cX12_reads 107 = .ok (.getfield 194, 3) := by decide +kernel
theorem dX12_reads_110 : decode cX12_reads 110 = .ok (.isub, 1) := by decide +kernel
theorem dX12_reads_111 : decode cX12_reads 111 = .ok (.ireturn, 1) := by decide +kernel
theorem dX12_plan_0 : decode cX12_plan 0 = .ok (.aload_n 0, 1) := by decide +kernel
theorem dX12_plan_1 : decode cX12_plan 1 = .ok (.iconst 0, 1) := by decide +kernel
theorem dX12_plan_2 : decode cX12_plan 2 = .ok (.putfield 3, 3) := by decide +kernel
theorem dX12_plan_5 : decode cX12_plan 5 = .ok (.aload_n 0, 1) := by decide +kernel
theorem dX12_plan_6 : decode cX12_plan 6 = .ok (.iload_n 1, 1) := by decide +kernel
theorem dX12_plan_7 : decode cX12_plan 7 = .ok (.invokevirtual 145, 3) := by decide +kernel
theorem dX12_plan_10 : decode cX12_plan 10 = .ok (.ifCond .ne 11, 3) := by decide +kernel
theorem dX12_plan_13 : decode cX12_plan 13 = .ok (.aload_n 0, 1) := by decide +kernel
theorem dX12_plan_14 : decode cX12_plan 14 = .ok (.iconst 0, 1) := by decide +kernel
theorem dX12_plan_15 : decode cX12_plan 15 = .ok (.putfield 188, 3) := by decide +kernel
theorem dX12_plan_18 : decode cX12_plan 18 = .ok (.bipush (-100), 2) := by decide +kernel
theorem dX12_plan_20 : decode cX12_plan 20 = .ok (.ireturn, 1) := by decide +kernel
theorem dX12_plan_21 : decode cX12_plan 21 = .ok (.bipush 16, 2) := by decide +kernel
theorem dX12_plan_23 : decode cX12_plan 23 = .ok (.istore_n 2, 1) := by decide +kernel
theorem dX12_plan_24 : decode cX12_plan 24 = .ok (.aload_n 0, 1) := by decide +kernel
theorem dX12_plan_25 : decode cX12_plan 25 = .ok (.iload_n 2, 1) := by decide +kernel
theorem dX12_plan_26 : decode cX12_plan 26 = .ok (.iconst 1, 1) := by decide +kernel
theorem dX12_plan_27 : decode cX12_plan 27 = .ok (.invokevirtual 288, 3) := by decide +kernel
theorem dX12_plan_30 : decode cX12_plan 30 = .ok (.istore_n 3, 1) := by decide +kernel
theorem dX12_plan_31 : decode cX12_plan 31 = .ok (.iload_n 3, 1) := by decide +kernel
theorem dX12_plan_32 : decode cX12_plan 32 = .ok (.ifCond .le 66, 3) := by decide +kernel
theorem dX12_plan_35 : decode cX12_plan 35 = .ok (.iconst 0, 1) := by decide +kernel
theorem dX12_plan_36 : decode cX12_plan 36 = .ok (.istore 4, 2) := by decide +kernel
theorem dX12_plan_38 : decode cX12_plan 38 = .ok (.iload 4, 2) := by decide +kernel
theorem dX12_plan_40 : decode cX12_plan 40 = .ok (.aload_n 0, 1) := by decide +kernel
theorem dX12_plan_41 : decode cX12_plan 41 = .ok (.getfield 208, 3) := by decide +kernel
theorem dX12_plan_44 : decode cX12_plan 44 = .ok (.iload_n 2, 1) := by decide +kernel
theorem dX12_plan_45 : decode cX12_plan 45 = .ok (.iaload, 1) := by decide +kernel
theorem dX12_plan_46 : decode cX12_plan 46 = .ok (.if_icmp .ge 33, 3) := by decide +kernel
theorem dX12_plan_49 : decode cX12_plan 49 = .ok (.aload_n 0, 1) := by decide +kernel
theorem dX12_plan_50 : decode cX12_plan 50 = .ok (.getfield 202, 3) := by decide +kernel
theorem dX12_plan_53 : decode cX12_plan 53 = .ok (.bipush 100, 2) := by decide +kernel
theorem dX12_plan_55 : decode cX12_plan 55 = .ok (.iload_n 1, 1) := by decide +kernel
theorem dX12_plan_56 : decode cX12_plan 56 = .ok (.imul, 1) := by decide +kernel
theorem dX12_plan_57 : decode cX12_plan 57 = .ok (.iload 4, 2) := by decide +kernel
theorem dX12_plan_59 : decode cX12_plan 59 = .ok (.iadd, 1) := by decide +kernel
theorem dX12_plan_60 : decode cX12_plan 60 = .ok (.aload_n 0, 1) := by decide +kernel
theorem dX12_plan_61 : decode cX12_plan 61 = .ok (.getfield 202, 3) := by decide +kernel
theorem dX12_plan_64 : decode cX12_plan 64 = .ok (.bipush 100, 2) := by decide +kernel
theorem dX12_plan_66 : decode cX12_plan 66 = .ok (.iload_n 2, 1) := by decide +kernel
theorem dX12_plan_67 : decode cX12_plan 67 = .ok (.imul, 1) := by decide +kernel
theorem dX12_plan_68 : decode cX12_plan 68 = .ok (.iload 4, 2) := by decide +kernel
theorem dX12_plan_70 : decode cX12_plan 70 = .ok (.iadd, 1) := by decide +kernel
theorem dX12_plan_71 : decode cX12_plan 71 = .ok (.iaload, 1) := by decide +kernel
theorem dX12_plan_72 : decode cX12_plan 72 = .ok (.iastore, 1) := by decide +kernel
theorem dX12_plan_73 : decode cX12_plan 73 = .ok (.iinc 4 1, 3) := by decide +kernel
theorem dX12_plan_76 : decode cX12_plan 76 = .ok (.goto (-38), 3) := by decide +kernel
theorem dX12_plan_79 : decode cX12_plan 79 = .ok (.aload_n 0, 1) := by decide +kernel
theorem dX12_plan_80 : decode cX12_plan 80 = .ok (.getfield 208, 3) := by decide +kernel
theorem dX12_plan_83 : decode cX12_plan 83 = .ok (.iload_n 1, 1) := by decide +kernel
theorem dX12_plan_84 : decode cX12_plan 84 = .ok (.aload_n 0, 1) := by decide +kernel
theorem dX12_plan_85 : decode cX12_plan 85 = .ok (.getfield 208, 3) := by decide +kernel
theorem dX12_plan_88 : decode cX12_plan 88 = .ok (.iload_n 2, 1) := by decide +kernel
theorem dX12_plan_89 : decode cX12_plan 89 = .ok (.iaload, 1) := by decide +kernel
theorem dX12_plan_90 : decode cX12_plan 90 = .ok (.iastore, 1) := by decide +kernel
theorem dX12_plan_91 : decode cX12_plan 91 = .ok (.aload_n 0, 1) := by decide +kernel
theorem dX12_plan_92 : decode cX12_plan 92 = .ok (.getfield 142, 3) := by decide +kernel
theorem dX12_plan_95 : decode cX12_plan 95 = .ok (.iload_n 1, 1) := by decide +kernel
theorem dX12_plan_96 : decode cX12_plan 96 = .ok (.iconst 1, 1) := by decide +kernel
theorem dX12_plan_97 : decode cX12_plan 97 = .ok (.bastore, 1) := by decide +kernel
theorem dX12_plan_98 : decode cX12_plan 98 = .ok (.iload_n 3, 1) := by decide +kernel
theorem dX12_plan_99 : decode cX12_plan 99 = .ok (.ireturn, 1) := by decide +kernel
theorem dX12_starts_0 : decode cX12_starts 0 = .ok (.aload_n 0, 1) := by decide +kernel
theorem dX12_starts_1 : decode cX12_starts 1 = .ok (.iconst 0, 1) := by decide +kernel
theorem dX12_starts_2 : decode cX12_starts 2 = .ok (.putfield 312, 3) := by decide +kernel
theorem dX12_starts_5 : decode cX12_starts 5 = .ok (.iconst 0, 1) := by decide +kernel
theorem dX12_starts_6 : decode cX12_starts 6 = .ok (.istore_n 1, 1) := by decide +kernel
theorem dX12_starts_7 : decode cX12_starts 7 = .ok (.iload_n 1, 1) := by decide +kernel
theorem dX12_starts_8 : decode cX12_starts 8 = .ok (.aload_n 0, 1) := by decide +kernel
theorem dX12_starts_9 : decode cX12_starts 9 = .ok (.getfield 315, 3) := by decide +kernel
theorem dX12_starts_12 : decode cX12_starts 12 = .ok (.arraylength, 1) := by decide +kernel
theorem dX12_starts_13 : decode cX12_starts 13 = .ok (.if_icmp .ge 16, 3) := by decide +kernel
theorem dX12_starts_16 : decode cX12_starts 16 = .ok (.aload_n 0, 1) := by decide +kernel
theorem dX12_starts_17 : decode cX12_starts 17 = .ok (.getfield 315, 3) := by decide +kernel
theorem dX12_starts_20 : decode cX12_starts 20 = .ok (.iload_n 1, 1) := by decide +kernel
theorem dX12_starts_21 : decode cX12_starts 21 = .ok (.iconst 0, 1) := by decide +kernel
theorem dX12_starts_22 : decode cX12_starts 22 = .ok (.iastore, 1) := by decide +kernel
theorem dX12_starts_23 : decode cX12_starts 23 = .ok (.iinc 1 1, 3) := by decide +kernel
theorem dX12_starts_26 : decode cX12_starts 26 = .ok (.goto (-19), 3) := by decide +kernel
theorem dX12_starts_29 : decode cX12_starts 29 = .ok (.iconst 0, 1) := by decide +kernel
theorem dX12_starts_30 : decode cX12_starts 30 = .ok (.istore_n 1, 1) := by decide +kernel
theorem dX12_starts_31 : decode cX12_starts 31 = .ok (.iload_n 1, 1) := by decide +kernel
theorem dX12_starts_32 : decode cX12_starts 32 = .ok (.aload_n 0, 1) := by decide +kernel
theorem dX12_starts_33 : decode cX12_starts 33 = .ok (.getfield 30, 3) := by decide +kernel
theorem dX12_starts_36 : decode cX12_starts 36 = .ok (.if_icmp .ge 267, 3) := by decide +kernel
theorem dX12_starts_39 : decode cX12_starts 39 = .ok (.aload_n 0, 1) := by decide +kernel
theorem dX12_starts_40 : decode cX12_starts 40 = .ok (.getfield 309, 3) := by decide +kernel
theorem dX12_starts_43 : decode cX12_starts 43 = .ok (.iload_n 1, 1) := by decide +kernel
theorem dX12_starts_44 : decode cX12_starts 44 = .ok (.aload_n 0, 1) := by decide +kernel
theorem dX12_starts_45 : decode cX12_starts 45 = .ok (.getfield 133, 3) := by decide +kernel
theorem dX12_starts_48 : decode cX12_starts 48 = .ok (.iload_n 1, 1) := by decide +kernel
theorem dX12_starts_49 : decode cX12_starts 49 = .ok (.iaload, 1) := by decide +kernel
theorem dX12_starts_50 : decode cX12_starts 50 = .ok (.ifCond .ne 7, 3) := by decide +kernel
theorem dX12_starts_53 : decode cX12_starts 53 = .ok (.iconst 2, 1) := by decide +kernel
theorem dX12_starts_54 : decode cX12_starts 54 = .ok (.goto 4, 3) := by decide +kernel
theorem dX12_starts_57 : decode cX12_starts 57 = .ok (.iconst 0, 1) := by decide +kernel
theorem dX12_starts_58 : decode cX12_starts 58 = .ok (.iastore, 1) := by decide +kernel
theorem dX12_starts_59 : decode cX12_starts 59 = .ok (.aload_n 0, 1) := by decide +kernel
theorem dX12_starts_60 : decode cX12_starts 60 = .ok (.getfield 318, 3) := by decide +kernel
theorem dX12_starts_63 : decode cX12_starts 63 = .ok (.iload_n 1, 1) := by decide +kernel
theorem dX12_starts_64 : decode cX12_starts 64 = .ok (.aload_n 0, 1) := by decide +kernel
theorem dX12_starts_65 : decode cX12_starts 65 = .ok (.getfield 83, 3) := by decide +kernel
theorem dX12_starts_68 : decode cX12_starts 68 = .ok (.bipush 6, 2) := by decide +kernel
theorem dX12_starts_70 : decode cX12_starts 70 = .ok (.iaload, 1) := by decide +kernel
theorem dX12_starts_71 : decode cX12_starts 71 = .ok (.iload_n 1, 1) := by decide +kernel
theorem dX12_starts_72 : decode cX12_starts 72 = .ok (.imul, 1) := by decide +kernel
theorem dX12_starts_73 : decode cX12_starts 73 = .ok (.iastore, 1) := by decide +kernel
theorem dX12_starts_74 : decode cX12_starts 74 = .ok (.aload_n 0, 1) := by decide +kernel
theorem dX12_starts_75 : decode cX12_starts 75 = .ok (.getfield 321, 3) := by decide +kernel
theorem dX12_starts_78 : decode cX12_starts 78 = .ok (.iload_n 1, 1) := by decide +kernel
theorem dX12_starts_79 : decode cX12_starts 79 = .ok (.aload_n 0, 1) := by decide +kernel
theorem dX12_starts_80 : decode cX12_starts 80 = .ok (.getfield 318, 3) := by decide +kernel
theorem dX12_starts_83 : decode cX12_starts 83 = .ok (.iload_n 1, 1) := by decide +kernel
theorem dX12_starts_84 : decode cX12_starts 84 = .ok (.iaload, 1) := by decide +kernel
theorem dX12_starts_85 : decode cX12_starts 85 = .ok (.iastore, 1) := by decide +kernel
theorem dX12_starts_86 : decode cX12_starts 86 = .ok (.aload_n 0, 1) := by decide +kernel
theorem dX12_starts_87 : decode cX12_starts 87 = .ok (.getfield 324, 3) := by decide +kernel
theorem dX12_starts_90 : decode cX12_starts 90 = .ok (.iload_n 1, 1) := by decide +kernel
theorem dX12_starts_91 : decode cX12_starts 91 = .ok (.iconst 0, 1) := by decide +kernel
theorem dX12_starts_92 : decode cX12_starts 92 = .ok (.iastore, 1) := by decide +kernel
theorem dX12_starts_93 : decode cX12_starts 93 = .ok (.aload_n 0, 1) := by decide +kernel
theorem dX12_starts_94 : decode cX12_starts 94 = .ok (.getfield 327, 3) := by decide +kernel
theorem dX12_starts_97 : decode cX12_starts 97 = .ok (.iload_n 1, 1) := by decide +kernel
theorem dX12_starts_98 : decode cX12_starts 98 = .ok (.iconst 0, 1) := by decide +kernel
theorem dX12_starts_99 : decode cX12_starts 99 = .ok (.iastore, 1) := by decide +kernel
theorem dX12_starts_100 : decode cX12_starts 100 = .ok (.aload_n 0, 1) := by decide +kernel
theorem dX12_starts_101 : decode cX12_starts 101 = .ok (.getfield 330, 3) := by decide +kernel
theorem dX12_starts_104 : decode cX12_starts 104 = .ok (.iload_n 1, 1) := by decide +kernel
theorem dX12_starts_105 : decode cX12_starts 105 = .ok (.aload_n 0, 1) := by decide +kernel
theorem dX12_starts_106 : decode cX12_starts 106 = .ok (.getfield 130, 3) := by decide +kernel
theorem dX12_starts_109 : decode cX12_starts 109 = .ok (.iload_n 1, 1) := by decide +kernel
theorem dX12_starts_110 : decode cX12_starts 110 = .ok (.iaload, 1) := by decide +kernel
theorem dX12_starts_111 : decode cX12_starts 111 = .ok (.iastore, 1) := by decide +kernel
theorem dX12_starts_112 : decode cX12_starts 112 = .ok (.aload_n 0, 1) := by decide +kernel
theorem dX12_starts_113 : decode cX12_starts 113 = .ok (.getfield 333, 3) := by decide +kernel
theorem dX12_starts_116 : decode cX12_starts 116 = .ok (.iload_n 1, 1) := by decide +kernel
theorem dX12_starts_117 : decode cX12_starts 117 = .ok (.aload_n 0, 1) := by decide +kernel
theorem dX12_starts_118 : decode cX12_starts 118 = .ok (.getfield 133, 3) := by decide +kernel
theorem dX12_starts_121 : decode cX12_starts 121 = .ok (.iload_n 1, 1) := by decide +kernel
theorem dX12_starts_122 : decode cX12_starts 122 = .ok (.iaload, 1) := by decide +kernel
theorem dX12_starts_123 : decode cX12_starts 123 = .ok (.ifCond .ne 7, 3) := by decide +kernel
theorem dX12_starts_126 : decode cX12_starts 126 = .ok (.iconst (-1), 1) := by decide +kernel
theorem dX12_starts_127 : decode cX12_starts 127 = .ok (.goto 4, 3) := by decide +kernel
theorem dX12_starts_130 : decode cX12_starts 130 = .ok (.iconst 0, 1) := by decide +kernel
theorem dX12_starts_131 : decode cX12_starts 131 = .ok (.iastore, 1) := by decide +kernel
theorem dX12_starts_132 : decode cX12_starts 132 = .ok (.aload_n 0, 1) := by decide +kernel
theorem dX12_starts_133 : decode cX12_starts 133 = .ok (.getfield 336, 3) := by decide +kernel
theorem dX12_starts_136 : decode cX12_starts 136 = .ok (.iload_n 1, 1) := by decide +kernel
theorem dX12_starts_137 : decode cX12_starts 137 = .ok (.iconst 0, 1) := by decide +kernel
theorem dX12_starts_138 : decode cX12_starts 138 = .ok (.iastore, 1) := by decide +kernel
theorem dX12_starts_139 : decode cX12_starts 139 = .ok (.aload_n 0, 1) := by decide +kernel
theorem dX12_starts_140 : decode cX12_starts 140 = .ok (.getfield 339, 3) := by decide +kernel
theorem dX12_starts_143 : decode cX12_starts 143 = .ok (.iload_n 1, 1) := by decide +kernel
theorem dX12_starts_144 : decode cX12_starts 144 = .ok (.iconst 0, 1) := by decide +kernel
theorem dX12_starts_145 : decode cX12_starts 145 = .ok (.iastore, 1) := by decide +kernel
theorem dX12_starts_146 : decode cX12_starts 146 = .ok (.aload_n 0, 1) := by decide +kernel
theorem dX12_starts_147 : decode cX12_starts 147 = .ok (.getfield 342, 3) := by decide +kernel
theorem dX12_starts_150 : decode cX12_starts 150 = .ok (.iload_n 1, 1) := by decide +kernel
theorem dX12_starts_151 : decode cX12_starts 151 = .ok (.iconst 0, 1) := by decide +kernel
theorem dX12_starts_152 : decode cX12_starts 152 = .ok (.iastore, 1) := by decide +kernel
theorem dX12_starts_153 : decode cX12_starts 153 = .ok (.aload_n 0, 1) := by decide +kernel
theorem dX12_starts_154 : decode cX12_starts 154 = .ok (.getfield 345, 3) := by decide +kernel
theorem dX12_starts_157 : decode cX12_starts 157 = .ok (.iload_n 1, 1) := by decide +kernel
theorem dX12_starts_158 : decode cX12_starts 158 = .ok (.iconst 0, 1) := by decide +kernel
theorem dX12_starts_159 : decode cX12_starts 159 = .ok (.iastore, 1) := by decide +kernel
theorem dX12_starts_160 : decode cX12_starts 160 = .ok (.aload_n 0, 1) := by decide +kernel
theorem dX12_starts_161 : decode cX12_starts 161 = .ok (.getfield 348, 3) := by decide +kernel
theorem dX12_starts_164 : decode cX12_starts 164 = .ok (.iload_n 1, 1) := by decide +kernel
theorem dX12_starts_165 : decode cX12_starts 165 = .ok (.iconst 0, 1) := by decide +kernel
theorem dX12_starts_166 : decode cX12_starts 166 = .ok (.iastore, 1) := by decide +kernel
theorem dX12_starts_167 : decode cX12_starts 167 = .ok (.aload_n 0, 1) := by decide +kernel
theorem dX12_starts_168 : decode cX12_starts 168 = .ok (.getfield 351, 3) := by decide +kernel
theorem dX12_starts_171 : decode cX12_starts 171 = .ok (.iload_n 1, 1) := by decide +kernel
theorem dX12_starts_172 : decode cX12_starts 172 = .ok (.iconst 0, 1) := by decide +kernel
theorem dX12_starts_173 : decode cX12_starts 173 = .ok (.iastore, 1) := by decide +kernel
theorem dX12_starts_174 : decode cX12_starts 174 = .ok (.aload_n 0, 1) := by decide +kernel
theorem dX12_starts_175 : decode cX12_starts 175 = .ok (.getfield 354, 3) := by decide +kernel
theorem dX12_starts_178 : decode cX12_starts 178 = .ok (.iload_n 1, 1) := by decide +kernel
theorem dX12_starts_179 : decode cX12_starts 179 = .ok (.iconst 0, 1) := by decide +kernel
theorem dX12_starts_180 : decode cX12_starts 180 = .ok (.iastore, 1) := by decide +kernel
theorem dX12_starts_181 : decode cX12_starts 181 = .ok (.aload_n 0, 1) := by decide +kernel
theorem dX12_starts_182 : decode cX12_starts 182 = .ok (.getfield 357, 3) := by decide +kernel
theorem dX12_starts_185 : decode cX12_starts 185 = .ok (.iload_n 1, 1) := by decide +kernel
theorem dX12_starts_186 : decode cX12_starts 186 = .ok (.iconst 0, 1) := by decide +kernel
theorem dX12_starts_187 : decode cX12_starts 187 = .ok (.iastore, 1) := by decide +kernel
theorem dX12_starts_188 : decode cX12_starts 188 = .ok (.iconst 0, 1) := by decide +kernel
theorem dX12_starts_189 : decode cX12_starts 189 = .ok (.istore_n 2, 1) := by decide +kernel
theorem dX12_starts_190 : decode cX12_starts 190 = .ok (.iload_n 2, 1) := by decide +kernel
theorem dX12_starts_191 : decode cX12_starts 191 = .ok (.iconst 4, 1) := by decide +kernel
theorem dX12_starts_192 : decode cX12_starts 192 = .ok (.if_icmp .ge 29, 3) := by decide +kernel
theorem dX12_starts_195 : decode cX12_starts 195 = .ok (.aload_n 0, 1) := by decide +kernel
theorem dX12_starts_196 : decode cX12_starts 196 = .ok (.getfield 360, 3) := by decide +kernel
theorem dX12_starts_199 : decode cX12_starts 199 = .ok (.iconst 4, 1) := by decide +kernel
theorem dX12_starts_200 : decode cX12_starts 200 = .ok (.iload_n 1, 1) := by decide +kernel
theorem dX12_starts_201 : decode cX12_starts 201 = .ok (.imul, 1) := by decide +kernel
theorem dX12_starts_202 : decode cX12_starts 202 = .ok (.iload_n 2, 1) := by decide +kernel
theorem dX12_starts_203 : decode cX12_starts 203 = .ok (.iadd, 1) := by decide +kernel
theorem dX12_starts_204 : decode cX12_starts 204 = .ok (.aload_n 0, 1) := by decide +kernel
theorem dX12_starts_205 : decode cX12_starts 205 = .ok (.getfield 151, 3) := by decide +kernel
theorem dX12_starts_208 : decode cX12_starts 208 = .ok (.iconst 4, 1) := by decide +kernel
theorem dX12_starts_209 : decode cX12_starts 209 = .ok (.iload_n 1, 1) := by decide +kernel
theorem dX12_starts_210 : decode cX12_starts 210 = .ok (.imul, 1) := by decide +kernel
theorem dX12_starts_211 : decode cX12_starts 211 = .ok (.iload_n 2, 1) := by decide +kernel
theorem dX12_starts_212 : decode cX12_starts 212 = .ok (.iadd, 1) := by decide +kernel
theorem dX12_starts_213 : decode cX12_starts 213 = .ok (.iaload, 1) := by decide +kernel
theorem dX12_starts_214 : decode cX12_starts 214 = .ok (.iastore, 1) := by decide +kernel
theorem dX12_starts_215 : decode cX12_starts 215 = .ok (.iinc 2 1, 3) := by decide +kernel
theorem dX12_starts_218 : decode cX12_starts 218 = .ok (.goto (-28), 3) := by decide +kernel
theorem dX12_starts_221 : decode cX12_starts 221 = .ok (.iconst 0, 1) := by decide +kernel
theorem dX12_starts_222 : decode cX12_starts 222 = .ok (.istore_n 2, 1) := by decide +kernel
theorem dX12_starts_223 : decode cX12_starts 223 = .ok (.iload_n 2, 1) := by decide +kernel
theorem dX12_starts_224 : decode cX12_starts 224 = .ok (.bipush 60, 2) := by decide +kernel
theorem dX12_starts_226 : decode cX12_starts 226 = .ok (.if_icmp .ge 21, 3) := by decide +kernel
theorem dX12_starts_229 : decode cX12_starts 229 = .ok (.aload_n 0, 1) := by decide +kernel
theorem dX12_starts_230 : decode cX12_starts 230 = .ok (.getfield 363, 3) := by decide +kernel
theorem dX12_starts_233 : decode cX12_starts 233 = .ok (.bipush 60, 2) := by decide +kernel
theorem dX12_starts_235 : decode cX12_starts 235 = .ok (.iload_n 1, 1) := by decide +kernel
theorem dX12_starts_236 : decode cX12_starts 236 = .ok (.imul, 1) := by decide +kernel
theorem dX12_starts_237 : decode cX12_starts 237 = .ok (.iload_n 2, 1) := by decide +kernel
theorem dX12_starts_238 : decode cX12_starts 238 = .ok (.iadd, 1) := by decide +kernel
theorem dX12_starts_239 : decode cX12_starts 239 = .ok (.iconst (-1), 1) := by decide +kernel
theorem dX12_starts_240 : decode cX12_starts 240 = .ok (.iastore, 1) := by decide +kernel
theorem dX12_starts_241 : decode cX12_starts 241 = .ok (.iinc 2 1, 3) := by decide +kernel
theorem dX12_starts_244 : decode cX12_starts 244 = .ok (.goto (-21), 3) := by decide +kernel
theorem dX12_starts_247 : decode cX12_starts 247 = .ok (.iconst 0, 1) := by decide +kernel
theorem dX12_starts_248 : decode cX12_starts 248 = .ok (.istore_n 2, 1) := by decide +kernel
theorem dX12_starts_249 : decode cX12_starts 249 = .ok (.iload_n 2, 1) := by decide +kernel
theorem dX12_starts_250 : decode cX12_starts 250 = .ok (.iconst 5, 1) := by decide +kernel
theorem dX12_starts_251 : decode cX12_starts 251 = .ok (.if_icmp .ge 20, 3) := by decide +kernel
theorem dX12_starts_254 : decode cX12_starts 254 = .ok (.aload_n 0, 1) := by decide +kernel
theorem dX12_starts_255 : decode cX12_starts 255 = .ok (.getfield 366, 3) := by decide +kernel
theorem dX12_starts_258 : decode cX12_starts 258 = .ok (.iconst 5, 1) := by decide +kernel
theorem dX12_starts_259 : decode cX12_starts 259 = .ok (.iload_n 1, 1) := by decide +kernel
theorem dX12_starts_260 : decode cX12_starts 260 = .ok (.imul, 1) := by decide +kernel
theorem dX12_starts_261 : decode cX12_starts 261 = .ok (.iload_n 2, 1) := by decide +kernel
theorem dX12_starts_262 : decode cX12_starts 262 = .ok (.iadd, 1) := by decide +kernel
theorem dX12_starts_263 : decode cX12_starts 263 = .ok (.iconst (-1), 1) := by decide +kernel
theorem dX12_starts_264 : decode cX12_starts 264 = .ok (.iastore, 1) := by decide +kernel
theorem dX12_starts_265 : decode cX12_starts 265 = .ok (.iinc 2 1, 3) := by decide +kernel
theorem dX12_starts_268 : decode cX12_starts 268 = .ok (.goto (-19), 3) := by decide +kernel
theorem dX12_starts_271 : decode cX12_starts 271 = .ok (.iconst 0, 1) := by decide +kernel
theorem dX12_starts_272 : decode cX12_starts 272 = .ok (.istore_n 2, 1) := by decide +kernel
theorem dX12_starts_273 : decode cX12_starts 273 = .ok (.iload_n 2, 1) := by decide +kernel
theorem dX12_starts_274 : decode cX12_starts 274 = .ok (.bipush 12, 2) := by decide +kernel
theorem dX12_starts_276 : decode cX12_starts 276 = .ok (.if_icmp .ge 21, 3) := by decide +kernel
theorem dX12_starts_279 : decode cX12_starts 279 = .ok (.aload_n 0, 1) := by decide +kernel
theorem dX12_starts_280 : decode cX12_starts 280 = .ok (.getfield 369, 3) := by decide +kernel
theorem dX12_starts_283 : decode cX12_starts 283 = .ok (.bipush 12, 2) := by decide +kernel
theorem dX12_starts_285 : decode cX12_starts 285 = .ok (.iload_n 1, 1) := by decide +kernel
theorem dX12_starts_286 : decode cX12_starts 286 = .ok (.imul, 1) := by decide +kernel
theorem dX12_starts_287 : decode cX12_starts 287 = .ok (.iload_n 2, 1) := by decide +kernel
theorem dX12_starts_288 : decode cX12_starts 288 = .ok (.iadd, 1) := by decide +kernel
theorem dX12_starts_289 : decode cX12_starts 289 = .ok (.iconst (-1), 1) := by decide +kernel
theorem dX12_starts_290 : decode cX12_starts 290 = .ok (.iastore, 1) := by decide +kernel
theorem dX12_starts_291 : decode cX12_starts 291 = .ok (.iinc 2 1, 3) := by decide +kernel
theorem dX12_starts_294 : decode cX12_starts 294 = .ok (.goto (-21), 3) := by decide +kernel
theorem dX12_starts_297 : decode cX12_starts 297 = .ok (.iinc 1 1, 3) := by decide +kernel
theorem dX12_starts_300 : decode cX12_starts 300 = .ok (.goto (-269), 3) := by decide +kernel
theorem dX12_starts_303 : decode cX12_starts 303 = .ok (.return_, 1) := by decide +kernel
theorem dX12_runs_0 : decode cX12_runs 0 = .ok (.aload_n 0, 1) := by decide +kernel
theorem dX12_runs_1 : decode cX12_runs 1 = .ok (.invokevirtual 372, 3) := by decide +kernel
theorem dX12_runs_4 : decode cX12_runs 4 = .ok (.aload_n 0, 1) := by decide +kernel
theorem dX12_runs_5 : decode cX12_runs 5 = .ok (.invokevirtual 376, 3) := by decide +kernel
theorem dX12_runs_8 : decode cX12_runs 8 = .ok (.istore_n 1, 1) := by decide +kernel
theorem dX12_runs_9 : decode cX12_runs 9 = .ok (.iload_n 1, 1) := by decide +kernel
theorem dX12_runs_10 : decode cX12_runs 10 = .ok (.ifCond .lt 22, 3) := by decide +kernel
theorem dX12_runs_13 : decode cX12_runs 13 = .ok (.aload_n 0, 1) := by decide +kernel
theorem dX12_runs_14 : decode cX12_runs 14 = .ok (.iload_n 1, 1) := by decide +kernel
theorem dX12_runs_15 : decode cX12_runs 15 = .ok (.aload_n 0, 1) := by decide +kernel
theorem dX12_runs_16 : decode cX12_runs 16 = .ok (.getfield 318, 3) := by decide +kernel
theorem dX12_runs_19 : decode cX12_runs 19 = .ok (.iload_n 1, 1) := by decide +kernel
theorem dX12_runs_20 : decode cX12_runs 20 = .ok (.iaload, 1) := by decide +kernel
theorem dX12_runs_21 : decode cX12_runs 21 = .ok (.invokevirtual 380, 3) := by decide +kernel
theorem dX12_runs_24 : decode cX12_runs 24 = .ok (.aload_n 0, 1) := by decide +kernel
theorem dX12_runs_25 : decode cX12_runs 25 = .ok (.invokevirtual 376, 3) := by decide +kernel
theorem dX12_runs_28 : decode cX12_runs 28 = .ok (.istore_n 1, 1) := by decide +kernel
theorem dX12_runs_29 : decode cX12_runs 29 = .ok (.goto (-20), 3) := by decide +kernel
theorem dX12_runs_32 : decode cX12_runs 32 = .ok (.return_, 1) := by decide +kernel
theorem dX12_next_0 : decode cX12_next 0 = .ok (.iconst (-1), 1) := by decide +kernel
theorem dX12_next_1 : decode cX12_next 1 = .ok (.istore_n 1, 1) := by decide +kernel
theorem dX12_next_2 : decode cX12_next 2 = .ok (.iconst 0, 1) := by decide +kernel
theorem dX12_next_3 : decode cX12_next 3 = .ok (.istore_n 2, 1) := by decide +kernel
theorem dX12_next_4 : decode cX12_next 4 = .ok (.iload_n 2, 1) := by decide +kernel
theorem dX12_next_5 : decode cX12_next 5 = .ok (.aload_n 0, 1) := by decide +kernel
theorem dX12_next_6 : decode cX12_next 6 = .ok (.getfield 30, 3) := by decide +kernel
theorem dX12_next_9 : decode cX12_next 9 = .ok (.if_icmp .ge 68, 3) := by decide +kernel
theorem dX12_next_12 : decode cX12_next 12 = .ok (.aload_n 0, 1) := by decide +kernel
theorem dX12_next_13 : decode cX12_next 13 = .ok (.iload_n 2, 1) := by decide +kernel
theorem dX12_next_14 : decode cX12_next 14 = .ok (.invokevirtual 383, 3) := by decide +kernel
theorem dX12_next_17 : decode cX12_next 17 = .ok (.ifCond .eq 54, 3) := by decide +kernel
theorem dX12_next_20 : decode cX12_next 20 = .ok (.iload_n 1, 1) := by decide +kernel
theorem dX12_next_21 : decode cX12_next 21 = .ok (.ifCond .lt 48, 3) := by decide +kernel
theorem dX12_next_24 : decode cX12_next 24 = .ok (.aload_n 0, 1) := by decide +kernel
theorem dX12_next_25 : decode cX12_next 25 = .ok (.getfield 318, 3) := by decide +kernel
theorem dX12_next_28 : decode cX12_next 28 = .ok (.iload_n 2, 1) := by decide +kernel
theorem dX12_next_29 : decode cX12_next 29 = .ok (.iaload, 1) := by decide +kernel
theorem dX12_next_30 : decode cX12_next 30 = .ok (.aload_n 0, 1) := by decide +kernel
theorem dX12_next_31 : decode cX12_next 31 = .ok (.getfield 318, 3) := by decide +kernel
theorem dX12_next_34 : decode cX12_next 34 = .ok (.iload_n 1, 1) := by decide +kernel
theorem dX12_next_35 : decode cX12_next 35 = .ok (.iaload, 1) := by decide +kernel
theorem dX12_next_36 : decode cX12_next 36 = .ok (.if_icmp .lt 33, 3) := by decide +kernel
theorem dX12_next_39 : decode cX12_next 39 = .ok (.aload_n 0, 1) := by decide +kernel
theorem dX12_next_40 : decode cX12_next 40 = .ok (.getfield 318, 3) := by decide +kernel
theorem dX12_next_43 : decode cX12_next 43 = .ok (.iload_n 2, 1) := by decide +kernel
theorem dX12_next_44 : decode cX12_next 44 = .ok (.iaload, 1) := by decide +kernel
theorem dX12_next_45 : decode cX12_next 45 = .ok (.aload_n 0, 1) := by decide +kernel
theorem dX12_next_46 : decode cX12_next 46 = .ok (.getfield 318, 3) := by decide +kernel
theorem dX12_next_49 : decode cX12_next 49 = .ok (.iload_n 1, 1) := by decide +kernel
theorem dX12_next_50 : decode cX12_next 50 = .ok (.iaload, 1) := by decide +kernel
theorem dX12_next_51 : decode cX12_next 51 = .ok (.if_icmp .ne 20, 3) := by decide +kernel
theorem dX12_next_54 : decode cX12_next 54 = .ok (.aload_n 0, 1) := by decide +kernel
theorem dX12_next_55 : decode cX12_next 55 = .ok (.getfield 324, 3) := by decide +kernel
theorem dX12_next_58 : decode cX12_next 58 = .ok (.iload_n 2, 1) := by decide +kernel
theorem dX12_next_59 : decode cX12_next 59 = .ok (.iaload, 1) := by decide +kernel
theorem dX12_next_60 : decode cX12_next 60 = .ok (.aload_n 0, 1) := by decide +kernel
theorem dX12_next_61 : decode cX12_next 61 = .ok (.getfield 324, 3) := by decide +kernel
theorem dX12_next_64 : decode cX12_next 64 = .ok (.iload_n 1, 1) := by decide +kernel
theorem dX12_next_65 : decode cX12_next 65 = .ok (.iaload, 1) := by decide +kernel
theorem dX12_next_66 : decode cX12_next 66 = .ok (.if_icmp .le 5, 3) := by decide +kernel
theorem dX12_next_69 : decode cX12_next 69 = .ok (.iload_n 2, 1) := by decide +kernel
theorem dX12_next_70 : decode cX12_next 70 = .ok (.istore_n 1, 1) := by decide +kernel
theorem dX12_next_71 : decode cX12_next 71 = .ok (.iinc 2 1, 3) := by decide +kernel
theorem dX12_next_74 : decode cX12_next 74 = .ok (.goto (-70), 3) := by decide +kernel
theorem dX12_next_77 : decode cX12_next 77 = .ok (.iload_n 1, 1) := by decide +kernel
theorem dX12_next_78 : decode cX12_next 78 = .ok (.ireturn, 1) := by decide +kernel
theorem dX12_of_0 : decode cX12_of 0 = .ok (.aload_n 0, 1) := by decide +kernel
theorem dX12_of_1 : decode cX12_of 1 = .ok (.iconst 0, 1) := by decide +kernel
theorem dX12_of_2 : decode cX12_of 2 = .ok (.putfield 3, 3) := by decide +kernel
theorem dX12_of_5 : decode cX12_of 5 = .ok (.aload_n 0, 1) := by decide +kernel
theorem dX12_of_6 : decode cX12_of 6 = .ok (.iload_n 1, 1) := by decide +kernel
theorem dX12_of_7 : decode cX12_of 7 = .ok (.invokevirtual 145, 3) := by decide +kernel
theorem dX12_of_10 : decode cX12_of 10 = .ok (.ifCond .eq 15, 3) := by decide +kernel
theorem dX12_of_13 : decode cX12_of 13 = .ok (.iload_n 2, 1) := by decide +kernel
theorem dX12_of_14 : decode cX12_of 14 = .ok (.i2l, 1) := by decide +kernel
theorem dX12_of_15 : decode cX12_of 15 = .ok (.lconst 0, 1) := by decide +kernel
theorem dX12_of_16 : decode cX12_of 16 = .ok (.ldc2_w 444, 3) := by decide +kernel
theorem dX12_of_19 : decode cX12_of 19 = .ok (.invokestatic 42, 3) := by decide +kernel
theorem dX12_of_22 : decode cX12_of 22 = .ok (.ifCond .ne 8, 3) := by decide +kernel
theorem dX12_of_25 : decode cX12_of 25 = .ok (.aload_n 0, 1) := by decide +kernel
theorem dX12_of_26 : decode cX12_of 26 = .ok (.invokevirtual 446, 3) := by decide +kernel
theorem dX12_of_29 : decode cX12_of 29 = .ok (.ireturn, 1) := by decide +kernel
theorem dX12_of_30 : decode cX12_of 30 = .ok (.aload_n 0, 1) := by decide +kernel
theorem dX12_of_31 : decode cX12_of 31 = .ok (.invokevirtual 449, 3) := by decide +kernel
theorem dX12_of_34 : decode cX12_of 34 = .ok (.iload_n 2, 1) := by decide +kernel
theorem dX12_of_35 : decode cX12_of 35 = .ok (.tableswitch 148 0 9 #[53, 60, 67, 74, 81, 91, 98, 105, 112, 141], 53) := by decide +kernel
theorem dX12_of_88 : decode cX12_of 88 = .ok (.aload_n 0, 1) := by decide +kernel
theorem dX12_of_89 : decode cX12_of 89 = .ok (.getfield 309, 3) := by decide +kernel
theorem dX12_of_92 : decode cX12_of 92 = .ok (.iload_n 1, 1) := by decide +kernel
theorem dX12_of_93 : decode cX12_of 93 = .ok (.iaload, 1) := by decide +kernel
theorem dX12_of_94 : decode cX12_of 94 = .ok (.ireturn, 1) := by decide +kernel
theorem dX12_of_95 : decode cX12_of 95 = .ok (.aload_n 0, 1) := by decide +kernel
theorem dX12_of_96 : decode cX12_of 96 = .ok (.getfield 321, 3) := by decide +kernel
theorem dX12_of_99 : decode cX12_of 99 = .ok (.iload_n 1, 1) := by decide +kernel
theorem dX12_of_100 : decode cX12_of 100 = .ok (.iaload, 1) := by decide +kernel
theorem dX12_of_101 : decode cX12_of 101 = .ok (.ireturn, 1) := by decide +kernel
theorem dX12_of_102 : decode cX12_of 102 = .ok (.aload_n 0, 1) := by decide +kernel
theorem dX12_of_103 : decode cX12_of 103 = .ok (.getfield 327, 3) := by decide +kernel
theorem dX12_of_106 : decode cX12_of 106 = .ok (.iload_n 1, 1) := by decide +kernel
theorem dX12_of_107 : decode cX12_of 107 = .ok (.iaload, 1) := by decide +kernel
theorem dX12_of_108 : decode cX12_of 108 = .ok (.ireturn, 1) := by decide +kernel
theorem dX12_of_109 : decode cX12_of 109 = .ok (.aload_n 0, 1) := by decide +kernel
theorem dX12_of_110 : decode cX12_of 110 = .ok (.getfield 342, 3) := by decide +kernel
theorem dX12_of_113 : decode cX12_of 113 = .ok (.iload_n 1, 1) := by decide +kernel
theorem dX12_of_114 : decode cX12_of 114 = .ok (.iaload, 1) := by decide +kernel
theorem dX12_of_115 : decode cX12_of 115 = .ok (.ireturn, 1) := by decide +kernel
theorem dX12_of_116 : decode cX12_of 116 = .ok (.aload_n 0, 1) := by decide +kernel
theorem dX12_of_117 : decode cX12_of 117 = .ok (.getfield 345, 3) := by decide +kernel
theorem dX12_of_120 : decode cX12_of 120 = .ok (.iload_n 1, 1) := by decide +kernel
theorem dX12_of_121 : decode cX12_of 121 = .ok (.iaload, 1) := by decide +kernel
theorem dX12_of_122 : decode cX12_of 122 = .ok (.invokestatic 452, 3) := by decide +kernel
theorem dX12_of_125 : decode cX12_of 125 = .ok (.ireturn, 1) := by decide +kernel
theorem dX12_of_126 : decode cX12_of 126 = .ok (.aload_n 0, 1) := by decide +kernel
theorem dX12_of_127 : decode cX12_of 127 = .ok (.getfield 348, 3) := by decide +kernel
theorem dX12_of_130 : decode cX12_of 130 = .ok (.iload_n 1, 1) := by decide +kernel
theorem dX12_of_131 : decode cX12_of 131 = .ok (.iaload, 1) := by decide +kernel
theorem dX12_of_132 : decode cX12_of 132 = .ok (.ireturn, 1) := by decide +kernel
theorem dX12_of_133 : decode cX12_of 133 = .ok (.aload_n 0, 1) := by decide +kernel
theorem dX12_of_134 : decode cX12_of 134 = .ok (.getfield 330, 3) := by decide +kernel
theorem dX12_of_137 : decode cX12_of 137 = .ok (.iload_n 1, 1) := by decide +kernel
theorem dX12_of_138 : decode cX12_of 138 = .ok (.iaload, 1) := by decide +kernel
theorem dX12_of_139 : decode cX12_of 139 = .ok (.ireturn, 1) := by decide +kernel
theorem dX12_of_140 : decode cX12_of 140 = .ok (.aload_n 0, 1) := by decide +kernel
theorem dX12_of_141 : decode cX12_of 141 = .ok (.getfield 333, 3) := by decide +kernel
theorem dX12_of_144 : decode cX12_of 144 = .ok (.iload_n 1, 1) := by decide +kernel
theorem dX12_of_145 : decode cX12_of 145 = .ok (.iaload, 1) := by decide +kernel
theorem dX12_of_146 : decode cX12_of 146 = .ok (.ireturn, 1) := by decide +kernel
theorem dX12_of_147 : decode cX12_of 147 = .ok (.aload_n 0, 1) := by decide +kernel
theorem dX12_of_148 : decode cX12_of 148 = .ok (.getfield 333, 3) := by decide +kernel
theorem dX12_of_151 : decode cX12_of 151 = .ok (.iload_n 1, 1) := by decide +kernel
theorem dX12_of_152 : decode cX12_of 152 = .ok (.iaload, 1) := by decide +kernel
theorem dX12_of_153 : decode cX12_of 153 = .ok (.ifCond .ge 7, 3) := by decide +kernel
theorem dX12_of_156 : decode cX12_of 156 = .ok (.iconst (-1), 1) := by decide +kernel
theorem dX12_of_157 : decode cX12_of 157 = .ok (.goto 18, 3) := by decide +kernel
theorem dX12_of_160 : decode cX12_of 160 = .ok (.aload_n 0, 1) := by decide +kernel
theorem dX12_of_161 : decode cX12_of 161 = .ok (.getfield 360, 3) := by decide +kernel
theorem dX12_of_164 : decode cX12_of 164 = .ok (.iconst 4, 1) := by decide +kernel
theorem dX12_of_165 : decode cX12_of 165 = .ok (.iload_n 1, 1) := by decide +kernel
theorem dX12_of_166 : decode cX12_of 166 = .ok (.imul, 1) := by decide +kernel
theorem dX12_of_167 : decode cX12_of 167 = .ok (.aload_n 0, 1) := by decide +kernel
theorem dX12_of_168 : decode cX12_of 168 = .ok (.getfield 333, 3) := by decide +kernel
theorem dX12_of_171 : decode cX12_of 171 = .ok (.iload_n 1, 1) := by decide +kernel
theorem dX12_of_172 : decode cX12_of 172 = .ok (.iaload, 1) := by decide +kernel
theorem dX12_of_173 : decode cX12_of 173 = .ok (.iadd, 1) := by decide +kernel
theorem dX12_of_174 : decode cX12_of 174 = .ok (.iaload, 1) := by decide +kernel
theorem dX12_of_175 : decode cX12_of 175 = .ok (.ireturn, 1) := by decide +kernel
theorem dX12_of_176 : decode cX12_of 176 = .ok (.aload_n 0, 1) := by decide +kernel
theorem dX12_of_177 : decode cX12_of 177 = .ok (.getfield 351, 3) := by decide +kernel
theorem dX12_of_180 : decode cX12_of 180 = .ok (.iload_n 1, 1) := by decide +kernel
theorem dX12_of_181 : decode cX12_of 181 = .ok (.iaload, 1) := by decide +kernel
theorem dX12_of_182 : decode cX12_of 182 = .ok (.ireturn, 1) := by decide +kernel
theorem dX12_of_183 : decode cX12_of 183 = .ok (.aload_n 0, 1) := by decide +kernel
theorem dX12_of_184 : decode cX12_of 184 = .ok (.getfield 354, 3) := by decide +kernel
theorem dX12_of_187 : decode cX12_of 187 = .ok (.iload_n 1, 1) := by decide +kernel
theorem dX12_of_188 : decode cX12_of 188 = .ok (.iaload, 1) := by decide +kernel
theorem dX12_of_189 : decode cX12_of 189 = .ok (.ireturn, 1) := by decide +kernel
theorem dX12_at_0 : decode cX12_at 0 = .ok (.aload_n 0, 1) := by decide +kernel
theorem dX12_at_1 : decode cX12_at 1 = .ok (.iconst 0, 1) := by decide +kernel
theorem dX12_at_2 : decode cX12_at 2 = .ok (.putfield 3, 3) := by decide +kernel
theorem dX12_at_5 : decode cX12_at 5 = .ok (.aload_n 0, 1) := by decide +kernel
theorem dX12_at_6 : decode cX12_at 6 = .ok (.iload_n 1, 1) := by decide +kernel
theorem dX12_at_7 : decode cX12_at 7 = .ok (.invokevirtual 145, 3) := by decide +kernel
theorem dX12_at_10 : decode cX12_at 10 = .ok (.ifCond .eq 19, 3) := by decide +kernel
theorem dX12_at_13 : decode cX12_at 13 = .ok (.aload_n 0, 1) := by decide +kernel
theorem dX12_at_14 : decode cX12_at 14 = .ok (.iload_n 2, 1) := by decide +kernel
theorem dX12_at_15 : decode cX12_at 15 = .ok (.invokevirtual 154, 3) := by decide +kernel
theorem dX12_at_18 : decode cX12_at 18 = .ok (.ifCond .eq 11, 3) := by decide +kernel
theorem dX12_at_21 : decode cX12_at 21 = .ok (.aload_n 0, 1) := by decide +kernel
theorem dX12_at_22 : decode cX12_at 22 = .ok (.iload_n 3, 1) := by decide +kernel
theorem dX12_at_23 : decode cX12_at 23 = .ok (.invokevirtual 56, 3) := by decide +kernel
theorem dX12_at_26 : decode cX12_at 26 = .ok (.ifCond .ne 5, 3) := by decide +kernel
theorem dX12_at_29 : decode cX12_at 29 = .ok (.iconst (-1), 1) := by decide +kernel
theorem dX12_at_30 : decode cX12_at 30 = .ok (.ireturn, 1) := by decide +kernel
theorem dX12_at_31 : decode cX12_at 31 = .ok (.aload_n 0, 1) := by decide +kernel
theorem dX12_at_32 : decode cX12_at 32 = .ok (.invokevirtual 449, 3) := by decide +kernel
theorem dX12_at_35 : decode cX12_at 35 = .ok (.aload_n 0, 1) := by decide +kernel
theorem dX12_at_36 : decode cX12_at 36 = .ok (.getfield 363, 3) := by decide +kernel
theorem dX12_at_39 : decode cX12_at 39 = .ok (.bipush 60, 2) := by decide +kernel
theorem dX12_at_41 : decode cX12_at 41 = .ok (.iload_n 1, 1) := by decide +kernel
theorem dX12_at_42 : decode cX12_at 42 = .ok (.imul, 1) := by decide +kernel
theorem dX12_at_43 : decode cX12_at 43 = .ok (.aload_n 0, 1) := by decide +kernel
theorem dX12_at_44 : decode cX12_at 44 = .ok (.getfield 7, 3) := by decide +kernel
theorem dX12_at_47 : decode cX12_at 47 = .ok (.iload_n 2, 1) := by decide +kernel
theorem dX12_at_48 : decode cX12_at 48 = .ok (.imul, 1) := by decide +kernel
theorem dX12_at_49 : decode cX12_at 49 = .ok (.iadd, 1) := by decide +kernel
theorem dX12_at_50 : decode cX12_at 50 = .ok (.iload_n 3, 1) := by decide +kernel
theorem dX12_at_51 : decode cX12_at 51 = .ok (.iadd, 1) := by decide +kernel
theorem dX12_at_52 : decode cX12_at 52 = .ok (.iaload, 1) := by decide +kernel
theorem dX12_at_53 : decode cX12_at 53 = .ok (.ireturn, 1) := by decide +kernel
theorem dX12_ledBy_0 : decode cX12_ledBy 0 = .ok (.aload_n 0, 1) := by decide +kernel
theorem dX12_ledBy_1 : decode cX12_ledBy 1 = .ok (.getfield 7, 3) := by decide +kernel
theorem dX12_ledBy_4 : decode cX12_ledBy 4 = .ok (.iload_n 1, 1) := by decide +kernel
theorem dX12_ledBy_5 : decode cX12_ledBy 5 = .ok (.iconst 1, 1) := by decide +kernel
theorem dX12_ledBy_6 : decode cX12_ledBy 6 = .ok (.iadd, 1) := by decide +kernel
theorem dX12_ledBy_7 : decode cX12_ledBy 7 = .ok (.imul, 1) := by decide +kernel
theorem dX12_ledBy_8 : decode cX12_ledBy 8 = .ok (.iconst 1, 1) := by decide +kernel
theorem dX12_ledBy_9 : decode cX12_ledBy 9 = .ok (.isub, 1) := by decide +kernel
theorem dX12_ledBy_10 : decode cX12_ledBy 10 = .ok (.istore_n 3, 1) := by decide +kernel
theorem dX12_ledBy_11 : decode cX12_ledBy 11 = .ok (.iconst 0, 1) := by decide +kernel
theorem dX12_ledBy_12 : decode cX12_ledBy 12 = .ok (.istore 4, 2) := by decide +kernel
theorem dX12_ledBy_14 : decode cX12_ledBy 14 = .ok (.iload 4, 2) := by decide +kernel
theorem dX12_ledBy_16 : decode cX12_ledBy 16 = .ok (.aload_n 0, 1) := by decide +kernel
theorem dX12_ledBy_17 : decode cX12_ledBy 17 = .ok (.getfield 30, 3) := by decide +kernel
theorem dX12_ledBy_20 : decode cX12_ledBy 20 = .ok (.if_icmp .ge 108, 3) := by decide +kernel
theorem dX12_ledBy_23 : decode cX12_ledBy 23 = .ok (.aload_n 0, 1) := by decide +kernel
theorem dX12_ledBy_24 : decode cX12_ledBy 24 = .ok (.getfield 363, 3) := by decide +kernel
theorem dX12_ledBy_27 : decode cX12_ledBy 27 = .ok (.bipush 60, 2) := by decide +kernel
theorem dX12_ledBy_29 : decode cX12_ledBy 29 = .ok (.iload 4, 2) := by decide +kernel
theorem dX12_ledBy_31 : decode cX12_ledBy 31 = .ok (.imul, 1) := by decide +kernel
theorem dX12_ledBy_32 : decode cX12_ledBy 32 = .ok (.iload_n 3, 1) := by decide +kernel
theorem dX12_ledBy_33 : decode cX12_ledBy 33 = .ok (.iadd, 1) := by decide +kernel
theorem dX12_ledBy_34 : decode cX12_ledBy 34 = .ok (.iaload, 1) := by decide +kernel
theorem dX12_ledBy_35 : decode cX12_ledBy 35 = .ok (.istore 5, 2) := by decide +kernel
theorem dX12_ledBy_37 : decode cX12_ledBy 37 = .ok (.iconst 0, 1) := by decide +kernel
theorem dX12_ledBy_38 : decode cX12_ledBy 38 = .ok (.istore 6, 2) := by decide +kernel
theorem dX12_ledBy_40 : decode cX12_ledBy 40 = .ok (.iconst 0, 1) := by decide +kernel
theorem dX12_ledBy_41 : decode cX12_ledBy 41 = .ok (.istore 7, 2) := by decide +kernel
theorem dX12_ledBy_43 : decode cX12_ledBy 43 = .ok (.iload 7, 2) := by decide +kernel
theorem dX12_ledBy_45 : decode cX12_ledBy 45 = .ok (.aload_n 0, 1) := by decide +kernel
theorem dX12_ledBy_46 : decode cX12_ledBy 46 = .ok (.getfield 30, 3) := by decide +kernel
theorem dX12_ledBy_49 : decode cX12_ledBy 49 = .ok (.if_icmp .ge 59, 3) := by decide +kernel
theorem dX12_ledBy_52 : decode cX12_ledBy 52 = .ok (.aload_n 0, 1) := by decide +kernel
theorem dX12_ledBy_53 : decode cX12_ledBy 53 = .ok (.getfield 363, 3) := by decide +kernel
theorem dX12_ledBy_56 : decode cX12_ledBy 56 = .ok (.bipush 60, 2) := by decide +kernel
theorem dX12_ledBy_58 : decode cX12_ledBy 58 = .ok (.iload 7, 2) := by decide +kernel
theorem dX12_ledBy_60 : decode cX12_ledBy 60 = .ok (.imul, 1) := by decide +kernel
theorem dX12_ledBy_61 : decode cX12_ledBy 61 = .ok (.iload_n 3, 1) := by decide +kernel
theorem dX12_ledBy_62 : decode cX12_ledBy 62 = .ok (.iadd, 1) := by decide +kernel
theorem dX12_ledBy_63 : decode cX12_ledBy 63 = .ok (.iaload, 1) := by decide +kernel
theorem dX12_ledBy_64 : decode cX12_ledBy 64 = .ok (.istore 8, 2) := by decide +kernel
theorem dX12_ledBy_66 : decode cX12_ledBy 66 = .ok (.iload 6, 2) := by decide +kernel
theorem dX12_ledBy_68 : decode cX12_ledBy 68 = .ok (.iload 8, 2) := by decide +kernel
theorem dX12_ledBy_70 : decode cX12_ledBy 70 = .ok (.ifCond .lt 28, 3) := by decide +kernel
theorem dX12_ledBy_73 : decode cX12_ledBy 73 = .ok (.iload 8, 2) := by decide +kernel
theorem dX12_ledBy_75 : decode cX12_ledBy 75 = .ok (.iload 5, 2) := by decide +kernel
theorem dX12_ledBy_77 : decode cX12_ledBy 77 = .ok (.if_icmp .lt 17, 3) := by decide +kernel
theorem dX12_ledBy_80 : decode cX12_ledBy 80 = .ok (.iload 8, 2) := by decide +kernel
theorem dX12_ledBy_82 : decode cX12_ledBy 82 = .ok (.iload 5, 2) := by decide +kernel
theorem dX12_ledBy_84 : decode cX12_ledBy 84 = .ok (.if_icmp .ne 14, 3) := by decide +kernel
theorem dX12_ledBy_87 : decode cX12_ledBy 87 = .ok (.iload 7, 2) := by decide +kernel
theorem dX12_ledBy_89 : decode cX12_ledBy 89 = .ok (.iload 4, 2) := by decide +kernel
theorem dX12_ledBy_91 : decode cX12_ledBy 91 = .ok (.if_icmp .ge 7, 3) := by decide +kernel
theorem dX12_ledBy_94 : decode cX12_ledBy 94 = .ok (.iconst 1, 1) := by decide +kernel
theorem dX12_ledBy_95 : decode cX12_ledBy 95 = .ok (.goto 4, 3) := by decide +kernel
theorem dX12_ledBy_98 : decode cX12_ledBy 98 = .ok (.iconst 0, 1) := by decide +kernel
theorem dX12_ledBy_99 : decode cX12_ledBy 99 = .ok (.iadd, 1) := by decide +kernel
theorem dX12_ledBy_100 : decode cX12_ledBy 100 = .ok (.istore 6, 2) := by decide +kernel
theorem dX12_ledBy_102 : decode cX12_ledBy 102 = .ok (.iinc 7 1, 3) := by decide +kernel
theorem dX12_ledBy_105 : decode cX12_ledBy 105 = .ok (.goto (-62), 3) := by decide +kernel
theorem dX12_ledBy_108 : decode cX12_ledBy 108 = .ok (.iload 5, 2) := by decide +kernel
theorem dX12_ledBy_110 : decode cX12_ledBy 110 = .ok (.ifCond .lt 12, 3) := by decide +kernel
theorem dX12_ledBy_113 : decode cX12_ledBy 113 = .ok (.iload 6, 2) := by decide +kernel
theorem dX12_ledBy_115 : decode cX12_ledBy 115 = .ok (.iload_n 2, 1) := by decide +kernel
theorem dX12_ledBy_116 : decode cX12_ledBy 116 = .ok (.if_icmp .ne 6, 3) := by decide +kernel
theorem dX12_ledBy_119 : decode cX12_ledBy 119 = .ok (.iload 4, 2) := by decide +kernel
theorem dX12_ledBy_121 : decode cX12_ledBy 121 = .ok (.ireturn, 1) := by decide +kernel
theorem dX12_ledBy_122 : decode cX12_ledBy 122 = .ok (.iinc 4 1, 3) := by decide +kernel
theorem dX12_ledBy_125 : decode cX12_ledBy 125 = .ok (.goto (-111), 3) := by decide +kernel
theorem dX12_ledBy_128 : decode cX12_ledBy 128 = .ok (.iconst (-1), 1) := by decide +kernel
theorem dX12_ledBy_129 : decode cX12_ledBy 129 = .ok (.ireturn, 1) := by decide +kernel
theorem dX12_led_0 : decode cX12_led 0 = .ok (.aload_n 0, 1) := by decide +kernel
theorem dX12_led_1 : decode cX12_led 1 = .ok (.iconst 0, 1) := by decide +kernel
theorem dX12_led_2 : decode cX12_led 2 = .ok (.putfield 3, 3) := by decide +kernel
theorem dX12_led_5 : decode cX12_led 5 = .ok (.aload_n 0, 1) := by decide +kernel
theorem dX12_led_6 : decode cX12_led 6 = .ok (.iload_n 1, 1) := by decide +kernel
theorem dX12_led_7 : decode cX12_led 7 = .ok (.invokevirtual 154, 3) := by decide +kernel
theorem dX12_led_10 : decode cX12_led 10 = .ok (.ifCond .eq 7, 3) := by decide +kernel
theorem dX12_led_13 : decode cX12_led 13 = .ok (.iload_n 2, 1) := by decide +kernel
theorem dX12_led_14 : decode cX12_led 14 = .ok (.ifCond .ge 5, 3) := by decide +kernel
theorem dX12_led_17 : decode cX12_led 17 = .ok (.iconst (-1), 1) := by decide +kernel
theorem dX12_led_18 : decode cX12_led 18 = .ok (.ireturn, 1) := by decide +kernel
theorem dX12_led_19 : decode cX12_led 19 = .ok (.aload_n 0, 1) := by decide +kernel
theorem dX12_led_20 : decode cX12_led 20 = .ok (.invokevirtual 449, 3) := by decide +kernel
theorem dX12_led_23 : decode cX12_led 23 = .ok (.aload_n 0, 1) := by decide +kernel
theorem dX12_led_24 : decode cX12_led 24 = .ok (.iload_n 1, 1) := by decide +kernel
theorem dX12_led_25 : decode cX12_led 25 = .ok (.iload_n 2, 1) := by decide +kernel
theorem dX12_led_26 : decode cX12_led 26 = .ok (.invokevirtual 457, 3) := by decide +kernel
theorem dX12_led_29 : decode cX12_led 29 = .ok (.ireturn, 1) := by decide +kernel
theorem dX12_waited_0 : decode cX12_waited 0 = .ok (.aload_n 0, 1) := by decide +kernel
theorem dX12_waited_1 : decode cX12_waited 1 = .ok (.iconst 0, 1) := by decide +kernel
theorem dX12_waited_2 : decode cX12_waited 2 = .ok (.putfield 3, 3) := by decide +kernel
theorem dX12_waited_5 : decode cX12_waited 5 = .ok (.aload_n 0, 1) := by decide +kernel
theorem dX12_waited_6 : decode cX12_waited 6 = .ok (.iload_n 1, 1) := by decide +kernel
theorem dX12_waited_7 : decode cX12_waited 7 = .ok (.invokevirtual 145, 3) := by decide +kernel
theorem dX12_waited_10 : decode cX12_waited 10 = .ok (.ifCond .ne 5, 3) := by decide +kernel
theorem dX12_waited_13 : decode cX12_waited 13 = .ok (.iconst (-1), 1) := by decide +kernel
theorem dX12_waited_14 : decode cX12_waited 14 = .ok (.ireturn, 1) := by decide +kernel
theorem dX12_waited_15 : decode cX12_waited 15 = .ok (.aload_n 0, 1) := by decide +kernel
theorem dX12_waited_16 : decode cX12_waited 16 = .ok (.invokevirtual 449, 3) := by decide +kernel
theorem dX12_waited_19 : decode cX12_waited 19 = .ok (.aload_n 0, 1) := by decide +kernel
theorem dX12_waited_20 : decode cX12_waited 20 = .ok (.getfield 357, 3) := by decide +kernel
theorem dX12_waited_23 : decode cX12_waited 23 = .ok (.iload_n 1, 1) := by decide +kernel
theorem dX12_waited_24 : decode cX12_waited 24 = .ok (.iaload, 1) := by decide +kernel
theorem dX12_waited_25 : decode cX12_waited 25 = .ok (.ireturn, 1) := by decide +kernel
theorem dX12_leads_0 : decode cX12_leads 0 = .ok (.aload_n 0, 1) := by decide +kernel
theorem dX12_leads_1 : decode cX12_leads 1 = .ok (.iconst 0, 1) := by decide +kernel
theorem dX12_leads_2 : decode cX12_leads 2 = .ok (.putfield 3, 3) := by decide +kernel
theorem dX12_leads_5 : decode cX12_leads 5 = .ok (.aload_n 0, 1) := by decide +kernel
theorem dX12_leads_6 : decode cX12_leads 6 = .ok (.invokevirtual 449, 3) := by decide +kernel
theorem dX12_leads_9 : decode cX12_leads 9 = .ok (.iconst 0, 1) := by decide +kernel
theorem dX12_leads_10 : decode cX12_leads 10 = .ok (.istore_n 1, 1) := by decide +kernel
theorem dX12_leads_11 : decode cX12_leads 11 = .ok (.iconst 1, 1) := by decide +kernel
theorem dX12_leads_12 : decode cX12_leads 12 = .ok (.istore_n 2, 1) := by decide +kernel
theorem dX12_leads_13 : decode cX12_leads 13 = .ok (.iload_n 2, 1) := by decide +kernel
theorem dX12_leads_14 : decode cX12_leads 14 = .ok (.aload_n 0, 1) := by decide +kernel
theorem dX12_leads_15 : decode cX12_leads 15 = .ok (.getfield 10, 3) := by decide +kernel
theorem dX12_leads_18 : decode cX12_leads 18 = .ok (.if_icmp .ge 43, 3) := by decide +kernel
theorem dX12_leads_21 : decode cX12_leads 21 = .ok (.iload_n 1, 1) := by decide +kernel
theorem dX12_leads_22 : decode cX12_leads 22 = .ok (.aload_n 0, 1) := by decide +kernel
theorem dX12_leads_23 : decode cX12_leads 23 = .ok (.iload_n 2, 1) := by decide +kernel
theorem dX12_leads_24 : decode cX12_leads 24 = .ok (.iconst 0, 1) := by decide +kernel
theorem dX12_leads_25 : decode cX12_leads 25 = .ok (.invokevirtual 457, 3) := by decide +kernel
theorem dX12_leads_28 : decode cX12_leads 28 = .ok (.ifCond .lt 24, 3) := by decide +kernel
theorem dX12_leads_31 : decode cX12_leads 31 = .ok (.aload_n 0, 1) := by decide +kernel
theorem dX12_leads_32 : decode cX12_leads 32 = .ok (.iload_n 2, 1) := by decide +kernel
theorem dX12_leads_33 : decode cX12_leads 33 = .ok (.iconst 0, 1) := by decide +kernel
theorem dX12_leads_34 : decode cX12_leads 34 = .ok (.invokevirtual 457, 3) := by decide +kernel
theorem dX12_leads_37 : decode cX12_leads 37 = .ok (.aload_n 0, 1) := by decide +kernel
theorem dX12_leads_38 : decode cX12_leads 38 = .ok (.iload_n 2, 1) := by decide +kernel
theorem dX12_leads_39 : decode cX12_leads 39 = .ok (.iconst 1, 1) := by decide +kernel
theorem dX12_leads_40 : decode cX12_leads 40 = .ok (.isub, 1) := by decide +kernel
theorem dX12_leads_41 : decode cX12_leads 41 = .ok (.iconst 0, 1) := by decide +kernel
theorem dX12_leads_42 : decode cX12_leads 42 = .ok (.invokevirtual 457, 3) := by decide +kernel
theorem dX12_leads_45 : decode cX12_leads 45 = .ok (.if_icmp .eq 7, 3) := by decide +kernel
theorem dX12_leads_48 : decode cX12_leads 48 = .ok (.iconst 1, 1) := by decide +kernel
theorem dX12_leads_49 : decode cX12_leads 49 = .ok (.goto 4, 3) := by decide +kernel
theorem dX12_leads_52 : decode cX12_leads 52 = .ok (.iconst 0, 1) := by decide +kernel
theorem dX12_leads_53 : decode cX12_leads 53 = .ok (.iadd, 1) := by decide +kernel
theorem dX12_leads_54 : decode cX12_leads 54 = .ok (.istore_n 1, 1) := by decide +kernel
theorem dX12_leads_55 : decode cX12_leads 55 = .ok (.iinc 2 1, 3) := by decide +kernel
theorem dX12_leads_58 : decode cX12_leads 58 = .ok (.goto (-45), 3) := by decide +kernel
theorem dX12_leads_61 : decode cX12_leads 61 = .ok (.iload_n 1, 1) := by decide +kernel
theorem dX12_leads_62 : decode cX12_leads 62 = .ok (.ireturn, 1) := by decide +kernel
theorem dX12_isDay_0 : decode cX12_isDay 0 = .ok (.iload_n 0, 1) := by decide +kernel
theorem dX12_isDay_1 : decode cX12_isDay 1 = .ok (.i2l, 1) := by decide +kernel
theorem dX12_isDay_2 : decode cX12_isDay 2 = .ok (.lconst 0, 1) := by decide +kernel
theorem dX12_isDay_3 : decode cX12_isDay 3 = .ok (.ldc2_w 460, 3) := by decide +kernel
theorem dX12_isDay_6 : decode cX12_isDay 6 = .ok (.invokestatic 42, 3) := by decide +kernel
theorem dX12_isDay_9 : decode cX12_isDay 9 = .ok (.ireturn, 1) := by decide +kernel
theorem dX12_rule_0 : decode cX12_rule 0 = .ok (.aload_n 0, 1) := by decide +kernel
theorem dX12_rule_1 : decode cX12_rule 1 = .ok (.iconst 0, 1) := by decide +kernel
theorem dX12_rule_2 : decode cX12_rule 2 = .ok (.putfield 3, 3) := by decide +kernel
theorem dX12_rule_5 : decode cX12_rule 5 = .ok (.iload_n 1, 1) := by decide +kernel
theorem dX12_rule_6 : decode cX12_rule 6 = .ok (.invokestatic 462, 3) := by decide +kernel
theorem dX12_rule_9 : decode cX12_rule 9 = .ok (.ifCond .eq 12, 3) := by decide +kernel
theorem dX12_rule_12 : decode cX12_rule 12 = .ok (.aload_n 0, 1) := by decide +kernel
theorem dX12_rule_13 : decode cX12_rule 13 = .ok (.getfield 33, 3) := by decide +kernel
theorem dX12_rule_16 : decode cX12_rule 16 = .ok (.bipush 10, 2) := by decide +kernel
theorem dX12_rule_18 : decode cX12_rule 18 = .ok (.if_icmp .ne 11, 3) := by decide +kernel
theorem dX12_rule_21 : decode cX12_rule 21 = .ok (.aload_n 0, 1) := by decide +kernel
theorem dX12_rule_22 : decode cX12_rule 22 = .ok (.iconst 0, 1) := by decide +kernel
theorem dX12_rule_23 : decode cX12_rule 23 = .ok (.putfield 188, 3) := by decide +kernel
theorem dX12_rule_26 : decode cX12_rule 26 = .ok (.bipush (-100), 2) := by decide +kernel
theorem dX12_rule_28 : decode cX12_rule 28 = .ok (.ireturn, 1) := by decide +kernel
theorem dX12_rule_29 : decode cX12_rule 29 = .ok (.aload_n 0, 1) := by decide +kernel
theorem dX12_rule_30 : decode cX12_rule 30 = .ok (.bipush 6, 2) := by decide +kernel
theorem dX12_rule_32 : decode cX12_rule 32 = .ok (.aload_n 0, 1) := by decide +kernel
theorem dX12_rule_33 : decode cX12_rule 33 = .ok (.getfield 33, 3) := by decide +kernel
theorem dX12_rule_36 : decode cX12_rule 36 = .ok (.iadd, 1) := by decide +kernel
theorem dX12_rule_37 : decode cX12_rule 37 = .ok (.iconst 0, 1) := by decide +kernel
theorem dX12_rule_38 : decode cX12_rule 38 = .ok (.invokevirtual 288, 3) := by decide +kernel
theorem dX12_rule_41 : decode cX12_rule 41 = .ok (.istore_n 2, 1) := by decide +kernel
theorem dX12_rule_42 : decode cX12_rule 42 = .ok (.iload_n 2, 1) := by decide +kernel
theorem dX12_rule_43 : decode cX12_rule 43 = .ok (.ifCond .ge 5, 3) := by decide +kernel
theorem dX12_rule_46 : decode cX12_rule 46 = .ok (.iload_n 2, 1) := by decide +kernel
theorem dX12_rule_47 : decode cX12_rule 47 = .ok (.ireturn, 1) := by decide +kernel
theorem dX12_rule_48 : decode cX12_rule 48 = .ok (.aload_n 0, 1) := by decide +kernel
theorem dX12_rule_49 : decode cX12_rule 49 = .ok (.getfield 465, 3) := by decide +kernel
theorem dX12_rule_52 : decode cX12_rule 52 = .ok (.aload_n 0, 1) := by decide +kernel
theorem dX12_rule_53 : decode cX12_rule 53 = .ok (.getfield 33, 3) := by decide +kernel
theorem dX12_rule_56 : decode cX12_rule 56 = .ok (.iload_n 1, 1) := by decide +kernel
theorem dX12_rule_57 : decode cX12_rule 57 = .ok (.iastore, 1) := by decide +kernel
theorem dX12_rule_58 : decode cX12_rule 58 = .ok (.aload_n 0, 1) := by decide +kernel
theorem dX12_rule_59 : decode cX12_rule 59 = .ok (.dup, 1) := by decide +kernel
theorem dX12_rule_60 : decode cX12_rule 60 = .ok (.getfield 33, 3) := by decide +kernel
theorem dX12_rule_63 : decode cX12_rule 63 = .ok (.iconst 1, 1) := by decide +kernel
theorem dX12_rule_64 : decode cX12_rule 64 = .ok (.iadd, 1) := by decide +kernel
theorem dX12_rule_65 : decode cX12_rule 65 = .ok (.putfield 33, 3) := by decide +kernel
theorem dX12_rule_68 : decode cX12_rule 68 = .ok (.aload_n 0, 1) := by decide +kernel
theorem dX12_rule_69 : decode cX12_rule 69 = .ok (.getfield 33, 3) := by decide +kernel
theorem dX12_rule_72 : decode cX12_rule 72 = .ok (.ireturn, 1) := by decide +kernel
theorem dX12_finding_0 : decode cX12_finding 0 = .ok (.aload_n 0, 1) := by decide +kernel
theorem dX12_finding_1 : decode cX12_finding 1 = .ok (.iconst 0, 1) := by decide +kernel
theorem dX12_finding_2 : decode cX12_finding 2 = .ok (.putfield 3, 3) := by decide +kernel
theorem dX12_finding_5 : decode cX12_finding 5 = .ok (.iload_n 1, 1) := by decide +kernel
theorem dX12_finding_6 : decode cX12_finding 6 = .ok (.invokestatic 462, 3) := by decide +kernel
theorem dX12_finding_9 : decode cX12_finding 9 = .ok (.ifCond .eq 61, 3) := by decide +kernel
theorem dX12_finding_12 : decode cX12_finding 12 = .ok (.aload_n 0, 1) := by decide +kernel
theorem dX12_finding_13 : decode cX12_finding 13 = .ok (.iload_n 2, 1) := by decide +kernel
theorem dX12_finding_14 : decode cX12_finding 14 = .ok (.invokevirtual 145, 3) := by decide +kernel
theorem dX12_finding_17 : decode cX12_finding 17 = .ok (.ifCond .eq 53, 3) := by decide +kernel
theorem dX12_finding_20 : decode cX12_finding 20 = .ok (.iload_n 3, 1) := by decide +kernel
theorem dX12_finding_21 : decode cX12_finding 21 = .ok (.ifCond .ne 16, 3) := by decide +kernel
theorem dX12_finding_24 : decode cX12_finding 24 = .ok (.iload 4, 2) := by decide +kernel
theorem dX12_finding_26 : decode cX12_finding 26 = .ok (.i2l, 1) := by decide +kernel
theorem dX12_finding_27 : decode cX12_finding 27 = .ok (.lconst 0, 1) := by decide +kernel
theorem dX12_finding_28 : decode cX12_finding 28 = .ok (.ldc2_w 468, 3) := by decide +kernel
theorem dX12_finding_31 : decode cX12_finding 31 = .ok (.invokestatic 42, 3) := by decide +kernel
theorem dX12_finding_34 : decode cX12_finding 34 = .ok (.ifCond .ne 23, 3) := by decide +kernel
theorem dX12_finding_37 : decode cX12_finding 37 = .ok (.iload_n 3, 1) := by decide +kernel
theorem dX12_finding_38 : decode cX12_finding 38 = .ok (.iconst 1, 1) := by decide +kernel
theorem dX12_finding_39 : decode cX12_finding 39 = .ok (.if_icmp .ne 31, 3) := by decide +kernel
theorem dX12_finding_42 : decode cX12_finding 42 = .ok (.iload 4, 2) := by decide +kernel
theorem dX12_finding_44 : decode cX12_finding 44 = .ok (.i2l, 1) := by decide +kernel
theorem dX12_finding_45 : decode cX12_finding 45 = .ok (.ldc2_w 470, 3) := by decide +kernel
theorem dX12_finding_48 : decode cX12_finding 48 = .ok (.ldc2_w 62, 3) := by decide +kernel
theorem dX12_finding_51 : decode cX12_finding 51 = .ok (.invokestatic 42, 3) := by decide +kernel
theorem dX12_finding_54 : decode cX12_finding 54 = .ok (.ifCond .eq 16, 3) := by decide +kernel
theorem dX12_finding_57 : decode cX12_finding 57 = .ok (.aload_n 0, 1) := by decide +kernel
theorem dX12_finding_58 : decode cX12_finding 58 = .ok (.getfield 36, 3) := by decide +kernel
theorem dX12_finding_61 : decode cX12_finding 61 = .ok (.bipush 20, 2) := by decide +kernel
theorem dX12_finding_63 : decode cX12_finding 63 = .ok (.if_icmp .ge 7, 3) := by decide +kernel
theorem dX12_finding_66 : decode cX12_finding 66 = .ok (.iconst 1, 1) := by decide +kernel
theorem dX12_finding_67 : decode cX12_finding 67 = .ok (.goto 4, 3) := by decide +kernel
theorem dX12_finding_70 : decode cX12_finding 70 = .ok (.iconst 0, 1) := by decide +kernel
theorem dX12_finding_71 : decode cX12_finding 71 = .ok (.istore 5, 2) := by decide +kernel
theorem dX12_finding_73 : decode cX12_finding 73 = .ok (.iload 5, 2) := by decide +kernel
theorem dX12_finding_75 : decode cX12_finding 75 = .ok (.ifCond .ne 5, 3) := by decide +kernel
theorem dX12_finding_78 : decode cX12_finding 78 = .ok (.iconst (-1), 1) := by decide +kernel
theorem dX12_finding_79 : decode cX12_finding 79 = .ok (.ireturn, 1) := by decide +kernel
theorem dX12_finding_80 : decode cX12_finding 80 = .ok (.aload_n 0, 1) := by decide +kernel
theorem dX12_finding_81 : decode cX12_finding 81 = .ok (.getfield 472, 3) := by decide +kernel
theorem dX12_finding_84 : decode cX12_finding 84 = .ok (.aload_n 0, 1) := by decide +kernel
theorem dX12_finding_85 : decode cX12_finding 85 = .ok (.getfield 36, 3) := by decide +kernel
theorem dX12_finding_88 : decode cX12_finding 88 = .ok (.iload_n 1, 1) := by decide +kernel
theorem dX12_finding_89 : decode cX12_finding 89 = .ok (.iastore, 1) := by decide +kernel
theorem dX12_finding_90 : decode cX12_finding 90 = .ok (.aload_n 0, 1) := by decide +kernel
theorem dX12_finding_91 : decode cX12_finding 91 = .ok (.getfield 475, 3) := by decide +kernel
theorem dX12_finding_94 : decode cX12_finding 94 = .ok (.aload_n 0, 1) := by decide +kernel
theorem dX12_finding_95 : decode cX12_finding 95 = .ok (.getfield 36, 3) := by decide +kernel
theorem dX12_finding_98 : decode cX12_finding 98 = .ok (.iload_n 2, 1) := by decide +kernel
theorem dX12_finding_99 : decode cX12_finding 99 = .ok (.iastore, 1) := by decide +kernel
theorem dX12_finding_100 : decode cX12_finding 100 = .ok (.aload_n 0, 1) := by decide +kernel
theorem dX12_finding_101 : decode cX12_finding 101 = .ok (.getfield 478, 3) := by decide +kernel
theorem dX12_finding_104 : decode cX12_finding 104 = .ok (.aload_n 0, 1) := by decide +kernel
theorem dX12_finding_105 : decode cX12_finding 105 = .ok (.getfield 36, 3) := by decide +kernel
theorem dX12_finding_108 : decode cX12_finding 108 = .ok (.iload_n 3, 1) := by decide +kernel
theorem dX12_finding_109 : decode cX12_finding 109 = .ok (.iastore, 1) := by decide +kernel
theorem dX12_finding_110 : decode cX12_finding 110 = .ok (.aload_n 0, 1) := by decide +kernel
theorem dX12_finding_111 : decode cX12_finding 111 = .ok (.getfield 481, 3) := by decide +kernel
theorem dX12_finding_114 : decode cX12_finding 114 = .ok (.aload_n 0, 1) := by decide +kernel
theorem dX12_finding_115 : decode cX12_finding 115 = .ok (.getfield 36, 3) := by decide +kernel
theorem dX12_finding_118 : decode cX12_finding 118 = .ok (.iload 4, 2) := by decide +kernel
theorem dX12_finding_120 : decode cX12_finding 120 = .ok (.iastore, 1) := by decide +kernel
theorem dX12_finding_121 : decode cX12_finding 121 = .ok (.aload_n 0, 1) := by decide +kernel
theorem dX12_finding_122 : decode cX12_finding 122 = .ok (.dup, 1) := by decide +kernel
theorem dX12_finding_123 : decode cX12_finding 123 = .ok (.getfield 36, 3) := by decide +kernel
theorem dX12_finding_126 : decode cX12_finding 126 = .ok (.iconst 1, 1) := by decide +kernel
theorem dX12_finding_127 : decode cX12_finding 127 = .ok (.iadd, 1) := by decide +kernel
theorem dX12_finding_128 : decode cX12_finding 128 = .ok (.putfield 36, 3) := by decide +kernel
theorem dX12_finding_131 : decode cX12_finding 131 = .ok (.aload_n 0, 1) := by decide +kernel
theorem dX12_finding_132 : decode cX12_finding 132 = .ok (.getfield 36, 3) := by decide +kernel
theorem dX12_finding_135 : decode cX12_finding 135 = .ok (.ireturn, 1) := by decide +kernel
theorem dX12_seconds_0 : decode cX12_seconds 0 = .ok (.aload_n 0, 1) := by decide +kernel
theorem dX12_seconds_1 : decode cX12_seconds 1 = .ok (.iconst 0, 1) := by decide +kernel
theorem dX12_seconds_2 : decode cX12_seconds 2 = .ok (.putfield 3, 3) := by decide +kernel
theorem dX12_seconds_5 : decode cX12_seconds 5 = .ok (.aload_n 0, 1) := by decide +kernel
theorem dX12_seconds_6 : decode cX12_seconds 6 = .ok (.iload_n 1, 1) := by decide +kernel
theorem dX12_seconds_7 : decode cX12_seconds 7 = .ok (.invokevirtual 145, 3) := by decide +kernel
theorem dX12_seconds_10 : decode cX12_seconds 10 = .ok (.ifCond .eq 10, 3) := by decide +kernel
theorem dX12_seconds_13 : decode cX12_seconds 13 = .ok (.iload_n 2, 1) := by decide +kernel
theorem dX12_seconds_14 : decode cX12_seconds 14 = .ok (.invokestatic 462, 3) := by decide +kernel
theorem dX12_seconds_17 : decode cX12_seconds 17 = .ok (.ifCond .ne 5, 3) := by decide +kernel
theorem dX12_seconds_20 : decode cX12_seconds 20 = .ok (.iconst (-1), 1) := by decide +kernel
theorem dX12_seconds_21 : decode cX12_seconds 21 = .ok (.ireturn, 1) := by decide +kernel
theorem dX12_seconds_22 : decode cX12_seconds 22 = .ok (.aload_n 0, 1) := by decide +kernel
theorem dX12_seconds_23 : decode cX12_seconds 23 = .ok (.invokevirtual 449, 3) := by decide +kernel
theorem dX12_seconds_26 : decode cX12_seconds 26 = .ok (.aload_n 0, 1) := by decide +kernel
theorem dX12_seconds_27 : decode cX12_seconds 27 = .ok (.iload_n 1, 1) := by decide +kernel
theorem dX12_seconds_28 : decode cX12_seconds 28 = .ok (.iload_n 2, 1) := by decide +kernel
theorem dX12_seconds_29 : decode cX12_seconds 29 = .ok (.invokevirtual 487, 3) := by decide +kernel
theorem dX12_seconds_32 : decode cX12_seconds 32 = .ok (.ireturn, 1) := by decide +kernel
theorem dX12_judges_0 : decode cX12_judges 0 = .ok (.aload_n 0, 1) := by decide +kernel
theorem dX12_judges_1 : decode cX12_judges 1 = .ok (.invokevirtual 449, 3) := by decide +kernel
theorem dX12_judges_4 : decode cX12_judges 4 = .ok (.iconst 0, 1) := by decide +kernel
theorem dX12_judges_5 : decode cX12_judges 5 = .ok (.istore_n 2, 1) := by decide +kernel
theorem dX12_judges_6 : decode cX12_judges 6 = .ok (.iload_n 2, 1) := by decide +kernel
theorem dX12_judges_7 : decode cX12_judges 7 = .ok (.aload_n 0, 1) := by decide +kernel
theorem dX12_judges_8 : decode cX12_judges 8 = .ok (.getfield 30, 3) := by decide +kernel
theorem dX12_judges_11 : decode cX12_judges 11 = .ok (.if_icmp .ge 68, 3) := by decide +kernel
theorem dX12_judges_14 : decode cX12_judges 14 = .ok (.aload_n 0, 1) := by decide +kernel
theorem dX12_judges_15 : decode cX12_judges 15 = .ok (.iload_n 2, 1) := by decide +kernel
theorem dX12_judges_16 : decode cX12_judges 16 = .ok (.iload_n 1, 1) := by decide +kernel
theorem dX12_judges_17 : decode cX12_judges 17 = .ok (.invokevirtual 487, 3) := by decide +kernel
theorem dX12_judges_20 : decode cX12_judges 20 = .ok (.istore_n 3, 1) := by decide +kernel
theorem dX12_judges_21 : decode cX12_judges 21 = .ok (.aload_n 0, 1) := by decide +kernel
theorem dX12_judges_22 : decode cX12_judges 22 = .ok (.getfield 490, 3) := by decide +kernel
theorem dX12_judges_25 : decode cX12_judges 25 = .ok (.iload_n 2, 1) := by decide +kernel
theorem dX12_judges_26 : decode cX12_judges 26 = .ok (.aload_n 0, 1) := by decide +kernel
theorem dX12_judges_27 : decode cX12_judges 27 = .ok (.getfield 309, 3) := by decide +kernel
theorem dX12_judges_30 : decode cX12_judges 30 = .ok (.iload_n 2, 1) := by decide +kernel
theorem dX12_judges_31 : decode cX12_judges 31 = .ok (.iaload, 1) := by decide +kernel
theorem dX12_judges_32 : decode cX12_judges 32 = .ok (.iconst 2, 1) := by decide +kernel
theorem dX12_judges_33 : decode cX12_judges 33 = .ok (.if_icmp .eq 13, 3) := by decide +kernel
theorem dX12_judges_36 : decode cX12_judges 36 = .ok (.iload_n 3, 1) := by decide +kernel
theorem dX12_judges_37 : decode cX12_judges 37 = .ok (.bipush (-2), 2) := by decide +kernel
theorem dX12_judges_39 : decode cX12_judges 39 = .ok (.if_icmp .eq 7, 3) := by decide +kernel
theorem dX12_judges_42 : decode cX12_judges 42 = .ok (.iconst 1, 1) := by decide +kernel
theorem dX12_judges_43 : decode cX12_judges 43 = .ok (.goto 4, 3) := by decide +kernel
theorem dX12_judges_46 : decode cX12_judges 46 = .ok (.iconst 0, 1) := by decide +kernel
theorem dX12_judges_47 : decode cX12_judges 47 = .ok (.bastore, 1) := by decide +kernel
theorem dX12_judges_48 : decode cX12_judges 48 = .ok (.aload_n 0, 1) := by decide +kernel
theorem dX12_judges_49 : decode cX12_judges 49 = .ok (.getfield 493, 3) := by decide +kernel
theorem dX12_judges_52 : decode cX12_judges 52 = .ok (.iload_n 2, 1) := by decide +kernel
theorem dX12_judges_53 : decode cX12_judges 53 = .ok (.aload_n 0, 1) := by decide +kernel
theorem dX12_judges_54 : decode cX12_judges 54 = .ok (.getfield 321, 3) := by decide +kernel
theorem dX12_judges_57 : decode cX12_judges 57 = .ok (.iload_n 2, 1) := by decide +kernel
theorem dX12_judges_58 : decode cX12_judges 58 = .ok (.iaload, 1) := by decide +kernel
theorem dX12_judges_59 : decode cX12_judges 59 = .ok (.sipush 1000, 3) := by decide +kernel
theorem dX12_judges_62 : decode cX12_judges 62 = .ok (.iload_n 3, 1) := by decide +kernel
theorem dX12_judges_63 : decode cX12_judges 63 = .ok (.imul, 1) := by decide +kernel
theorem dX12_judges_64 : decode cX12_judges 64 = .ok (.iadd, 1) := by decide +kernel
theorem dX12_judges_65 : decode cX12_judges 65 = .ok (.aload_n 0, 1) := by decide +kernel
theorem dX12_judges_66 : decode cX12_judges 66 = .ok (.iload_n 2, 1) := by decide +kernel
theorem dX12_judges_67 : decode cX12_judges 67 = .ok (.iload_n 1, 1) := by decide +kernel
theorem dX12_judges_68 : decode cX12_judges 68 = .ok (.invokevirtual 496, 3) := by decide +kernel
theorem dX12_judges_71 : decode cX12_judges 71 = .ok (.iadd, 1) := by decide +kernel
theorem dX12_judges_72 : decode cX12_judges 72 = .ok (.iastore, 1) := by decide +kernel
theorem dX12_judges_73 : decode cX12_judges 73 = .ok (.iinc 2 1, 3) := by decide +kernel
theorem dX12_judges_76 : decode cX12_judges 76 = .ok (.goto (-70), 3) := by decide +kernel
theorem dX12_judges_79 : decode cX12_judges 79 = .ok (.return_, 1) := by decide +kernel
theorem dX12_place_0 : decode cX12_place 0 = .ok (.aload_n 0, 1) := by decide +kernel
theorem dX12_place_1 : decode cX12_place 1 = .ok (.iconst 0, 1) := by decide +kernel
theorem dX12_place_2 : decode cX12_place 2 = .ok (.putfield 3, 3) := by decide +kernel
theorem dX12_place_5 : decode cX12_place 5 = .ok (.aload_n 0, 1) := by decide +kernel
theorem dX12_place_6 : decode cX12_place 6 = .ok (.iload_n 1, 1) := by decide +kernel
theorem dX12_place_7 : decode cX12_place 7 = .ok (.invokevirtual 145, 3) := by decide +kernel
theorem dX12_place_10 : decode cX12_place 10 = .ok (.ifCond .eq 10, 3) := by decide +kernel
theorem dX12_place_13 : decode cX12_place 13 = .ok (.iload_n 2, 1) := by decide +kernel
theorem dX12_place_14 : decode cX12_place 14 = .ok (.invokestatic 462, 3) := by decide +kernel
theorem dX12_place_17 : decode cX12_place 17 = .ok (.ifCond .ne 5, 3) := by decide +kernel
theorem dX12_place_20 : decode cX12_place 20 = .ok (.iconst (-1), 1) := by decide +kernel
theorem dX12_place_21 : decode cX12_place 21 = .ok (.ireturn, 1) := by decide +kernel
theorem dX12_place_22 : decode cX12_place 22 = .ok (.aload_n 0, 1) := by decide +kernel
theorem dX12_place_23 : decode cX12_place 23 = .ok (.iload_n 2, 1) := by decide +kernel
theorem dX12_place_24 : decode cX12_place 24 = .ok (.invokevirtual 502, 3) := by decide +kernel
theorem dX12_place_27 : decode cX12_place 27 = .ok (.aload_n 0, 1) := by decide +kernel
theorem dX12_place_28 : decode cX12_place 28 = .ok (.iload_n 1, 1) := by decide +kernel
theorem dX12_place_29 : decode cX12_place 29 = .ok (.iconst 0, 1) := by decide +kernel
theorem dX12_place_30 : decode cX12_place 30 = .ok (.invokevirtual 505, 3) := by decide +kernel
theorem dX12_place_33 : decode cX12_place 33 = .ok (.ireturn, 1) := by decide +kernel
theorem dX12_sum_0 : decode cX12_sum 0 = .ok (.aload_n 0, 1) := by decide +kernel
theorem dX12_sum_1 : decode cX12_sum 1 = .ok (.iconst 0, 1) := by decide +kernel
theorem dX12_sum_2 : decode cX12_sum 2 = .ok (.putfield 3, 3) := by decide +kernel
theorem dX12_sum_5 : decode cX12_sum 5 = .ok (.aload_n 0, 1) := by decide +kernel
theorem dX12_sum_6 : decode cX12_sum 6 = .ok (.iload_n 1, 1) := by decide +kernel
theorem dX12_sum_7 : decode cX12_sum 7 = .ok (.invokevirtual 145, 3) := by decide +kernel
theorem dX12_sum_10 : decode cX12_sum 10 = .ok (.ifCond .eq 10, 3) := by decide +kernel
theorem dX12_sum_13 : decode cX12_sum 13 = .ok (.iload_n 2, 1) := by decide +kernel
theorem dX12_sum_14 : decode cX12_sum 14 = .ok (.invokestatic 462, 3) := by decide +kernel
theorem dX12_sum_17 : decode cX12_sum 17 = .ok (.ifCond .ne 8, 3) := by decide +kernel
theorem dX12_sum_20 : decode cX12_sum 20 = .ok (.aload_n 0, 1) := by decide +kernel
theorem dX12_sum_21 : decode cX12_sum 21 = .ok (.invokevirtual 446, 3) := by decide +kernel
theorem dX12_sum_24 : decode cX12_sum 24 = .ok (.ireturn, 1) := by decide +kernel
theorem dX12_sum_25 : decode cX12_sum 25 = .ok (.aload_n 0, 1) := by decide +kernel
theorem dX12_sum_26 : decode cX12_sum 26 = .ok (.iload_n 2, 1) := by decide +kernel
theorem dX12_sum_27 : decode cX12_sum 27 = .ok (.invokevirtual 502, 3) := by decide +kernel
theorem dX12_sum_30 : decode cX12_sum 30 = .ok (.aload_n 0, 1) := by decide +kernel
theorem dX12_sum_31 : decode cX12_sum 31 = .ok (.getfield 490, 3) := by decide +kernel
theorem dX12_sum_34 : decode cX12_sum 34 = .ok (.iload_n 1, 1) := by decide +kernel
theorem dX12_sum_35 : decode cX12_sum 35 = .ok (.baload, 1) := by decide +kernel
theorem dX12_sum_36 : decode cX12_sum 36 = .ok (.ifCond .eq 12, 3) := by decide +kernel
theorem dX12_sum_39 : decode cX12_sum 39 = .ok (.aload_n 0, 1) := by decide +kernel
theorem dX12_sum_40 : decode cX12_sum 40 = .ok (.getfield 493, 3) := by decide +kernel
theorem dX12_sum_43 : decode cX12_sum 43 = .ok (.iload_n 1, 1) := by decide +kernel
theorem dX12_sum_44 : decode cX12_sum 44 = .ok (.iaload, 1) := by decide +kernel
theorem dX12_sum_45 : decode cX12_sum 45 = .ok (.goto 7, 3) := by decide +kernel
theorem dX12_sum_48 : decode cX12_sum 48 = .ok (.aload_n 0, 1) := by decide +kernel
theorem dX12_sum_49 : decode cX12_sum 49 = .ok (.invokevirtual 446, 3) := by decide +kernel
theorem dX12_sum_52 : decode cX12_sum 52 = .ok (.ireturn, 1) := by decide +kernel
theorem dX12_within_0 : decode cX12_within 0 = .ok (.aload_n 0, 1) := by decide +kernel
theorem dX12_within_1 : decode cX12_within 1 = .ok (.iconst 0, 1) := by decide +kernel
theorem dX12_within_2 : decode cX12_within 2 = .ok (.putfield 3, 3) := by decide +kernel
theorem dX12_within_5 : decode cX12_within 5 = .ok (.aload_n 0, 1) := by decide +kernel
theorem dX12_within_6 : decode cX12_within 6 = .ok (.iload_n 1, 1) := by decide +kernel
theorem dX12_within_7 : decode cX12_within 7 = .ok (.invokevirtual 145, 3) := by decide +kernel
theorem dX12_within_10 : decode cX12_within 10 = .ok (.ifCond .eq 10, 3) := by decide +kernel
theorem dX12_within_13 : decode cX12_within 13 = .ok (.iload_n 2, 1) := by decide +kernel
theorem dX12_within_14 : decode cX12_within 14 = .ok (.invokestatic 462, 3) := by decide +kernel
theorem dX12_within_17 : decode cX12_within 17 = .ok (.ifCond .ne 5, 3) := by decide +kernel
theorem dX12_within_20 : decode cX12_within 20 = .ok (.iconst (-1), 1) := by decide +kernel
theorem dX12_within_21 : decode cX12_within 21 = .ok (.ireturn, 1) := by decide +kernel
theorem dX12_within_22 : decode cX12_within 22 = .ok (.aload_n 0, 1) := by decide +kernel
theorem dX12_within_23 : decode cX12_within 23 = .ok (.iload_n 2, 1) := by decide +kernel
theorem dX12_within_24 : decode cX12_within 24 = .ok (.invokevirtual 502, 3) := by decide +kernel
theorem dX12_within_27 : decode cX12_within 27 = .ok (.aload_n 0, 1) := by decide +kernel
theorem dX12_within_28 : decode cX12_within 28 = .ok (.iload_n 1, 1) := by decide +kernel
theorem dX12_within_29 : decode cX12_within 29 = .ok (.iconst 1, 1) := by decide +kernel
theorem dX12_within_30 : decode cX12_within 30 = .ok (.invokevirtual 505, 3) := by decide +kernel
theorem dX12_within_33 : decode cX12_within 33 = .ok (.ireturn, 1) := by decide +kernel
theorem dX12_result_0 : decode cX12_result 0 = .ok (.aload_n 0, 1) := by decide +kernel
theorem dX12_result_1 : decode cX12_result 1 = .ok (.iconst 0, 1) := by decide +kernel
theorem dX12_result_2 : decode cX12_result 2 = .ok (.putfield 3, 3) := by decide +kernel
theorem dX12_result_5 : decode cX12_result 5 = .ok (.iload_n 1, 1) := by decide +kernel
theorem dX12_result_6 : decode cX12_result 6 = .ok (.invokestatic 462, 3) := by decide +kernel
theorem dX12_result_9 : decode cX12_result 9 = .ok (.ifCond .ne 5, 3) := by decide +kernel
theorem dX12_result_12 : decode cX12_result 12 = .ok (.iconst (-1), 1) := by decide +kernel
theorem dX12_result_13 : decode cX12_result 13 = .ok (.ireturn, 1) := by decide +kernel
theorem dX12_result_14 : decode cX12_result 14 = .ok (.aload_n 0, 1) := by decide +kernel
theorem dX12_result_15 : decode cX12_result 15 = .ok (.iload_n 1, 1) := by decide +kernel
theorem dX12_result_16 : decode cX12_result 16 = .ok (.invokevirtual 502, 3) := by decide +kernel
theorem dX12_result_19 : decode cX12_result 19 = .ok (.aload_n 0, 1) := by decide +kernel
theorem dX12_result_20 : decode cX12_result 20 = .ok (.iconst 0, 1) := by decide +kernel
theorem dX12_result_21 : decode cX12_result 21 = .ok (.putfield 185, 3) := by decide +kernel
theorem dX12_result_24 : decode cX12_result 24 = .ok (.iconst 0, 1) := by decide +kernel
theorem dX12_result_25 : decode cX12_result 25 = .ok (.istore_n 2, 1) := by decide +kernel
theorem dX12_result_26 : decode cX12_result 26 = .ok (.iload_n 2, 1) := by decide +kernel
theorem dX12_result_27 : decode cX12_result 27 = .ok (.aload_n 0, 1) := by decide +kernel
theorem dX12_result_28 : decode cX12_result 28 = .ok (.getfield 30, 3) := by decide +kernel
theorem dX12_result_31 : decode cX12_result 31 = .ok (.if_icmp .ge 32, 3) := by decide +kernel
theorem dX12_result_34 : decode cX12_result 34 = .ok (.aload_n 0, 1) := by decide +kernel
theorem dX12_result_35 : decode cX12_result 35 = .ok (.dup, 1) := by decide +kernel
theorem dX12_result_36 : decode cX12_result 36 = .ok (.getfield 185, 3) := by decide +kernel
theorem dX12_result_39 : decode cX12_result 39 = .ok (.aload_n 0, 1) := by decide +kernel
theorem dX12_result_40 : decode cX12_result 40 = .ok (.getfield 490, 3) := by decide +kernel
theorem dX12_result_43 : decode cX12_result 43 = .ok (.iload_n 2, 1) := by decide +kernel
theorem dX12_result_44 : decode cX12_result 44 = .ok (.baload, 1) := by decide +kernel
theorem dX12_result_45 : decode cX12_result 45 = .ok (.ifCond .eq 7, 3) := by decide +kernel
theorem dX12_result_48 : decode cX12_result 48 = .ok (.iconst 1, 1) := by decide +kernel
theorem dX12_result_49 : decode cX12_result 49 = .ok (.goto 4, 3) := by decide +kernel
theorem dX12_result_52 : decode cX12_result 52 = .ok (.iconst 0, 1) := by decide +kernel
theorem dX12_result_53 : decode cX12_result 53 = .ok (.iadd, 1) := by decide +kernel
theorem dX12_result_54 : decode cX12_result 54 = .ok (.putfield 185, 3) := by decide +kernel
theorem dX12_result_57 : decode cX12_result 57 = .ok (.iinc 2 1, 3) := by decide +kernel
theorem dX12_result_60 : decode cX12_result 60 = .ok (.goto (-34), 3) := by decide +kernel
theorem dX12_result_63 : decode cX12_result 63 = .ok (.iconst 0, 1) := by decide +kernel
theorem dX12_result_64 : decode cX12_result 64 = .ok (.istore_n 2, 1) := by decide +kernel
theorem dX12_result_65 : decode cX12_result 65 = .ok (.iload_n 2, 1) := by decide +kernel
theorem dX12_result_66 : decode cX12_result 66 = .ok (.aload_n 0, 1) := by decide +kernel
theorem dX12_result_67 : decode cX12_result 67 = .ok (.getfield 30, 3) := by decide +kernel
theorem dX12_result_70 : decode cX12_result 70 = .ok (.if_icmp .ge 30, 3) := by decide +kernel
theorem dX12_result_73 : decode cX12_result 73 = .ok (.aload_n 0, 1) := by decide +kernel
theorem dX12_result_74 : decode cX12_result 74 = .ok (.getfield 490, 3) := by decide +kernel
theorem dX12_result_77 : decode cX12_result 77 = .ok (.iload_n 2, 1) := by decide +kernel
theorem dX12_result_78 : decode cX12_result 78 = .ok (.baload, 1) := by decide +kernel
theorem dX12_result_79 : decode cX12_result 79 = .ok (.ifCond .eq 15, 3) := by decide +kernel
theorem dX12_result_82 : decode cX12_result 82 = .ok (.aload_n 0, 1) := by decide +kernel
theorem dX12_result_83 : decode cX12_result 83 = .ok (.getfield 508, 3) := by decide +kernel
theorem dX12_result_86 : decode cX12_result 86 = .ok (.aload_n 0, 1) := by decide +kernel
theorem dX12_result_87 : decode cX12_result 87 = .ok (.iload_n 2, 1) := by decide +kernel
theorem dX12_result_88 : decode cX12_result 88 = .ok (.iconst 0, 1) := by decide +kernel
theorem dX12_result_89 : decode cX12_result 89 = .ok (.invokevirtual 505, 3) := by decide +kernel
theorem dX12_result_92 : decode cX12_result 92 = .ok (.iload_n 2, 1) := by decide +kernel
theorem dX12_result_93 : decode cX12_result 93 = .ok (.iastore, 1) := by decide +kernel
theorem dX12_result_94 : decode cX12_result 94 = .ok (.iinc 2 1, 3) := by decide +kernel
theorem dX12_result_97 : decode cX12_result 97 = .ok (.goto (-32), 3) := by decide +kernel
theorem dX12_result_100 : decode cX12_result 100 = .ok (.aload_n 0, 1) := by decide +kernel
theorem dX12_result_101 : decode cX12_result 101 = .ok (.getfield 185, 3) := by decide +kernel
theorem dX12_result_104 : decode cX12_result 104 = .ok (.ireturn, 1) := by decide +kernel
theorem dX12_move_0 : decode cX12_move 0 = .ok (.aload_n 0, 1) := by decide +kernel
theorem dX12_move_1 : decode cX12_move 1 = .ok (.iconst 0, 1) := by decide +kernel
theorem dX12_move_2 : decode cX12_move 2 = .ok (.putfield 3, 3) := by decide +kernel
theorem dX12_move_5 : decode cX12_move 5 = .ok (.aload_n 0, 1) := by decide +kernel
theorem dX12_move_6 : decode cX12_move 6 = .ok (.iload_n 1, 1) := by decide +kernel
theorem dX12_move_7 : decode cX12_move 7 = .ok (.invokevirtual 145, 3) := by decide +kernel
theorem dX12_move_10 : decode cX12_move 10 = .ok (.ifCond .eq 37, 3) := by decide +kernel
theorem dX12_move_13 : decode cX12_move 13 = .ok (.iload_n 2, 1) := by decide +kernel
theorem dX12_move_14 : decode cX12_move 14 = .ok (.i2l, 1) := by decide +kernel
theorem dX12_move_15 : decode cX12_move 15 = .ok (.lconst 0, 1) := by decide +kernel
theorem dX12_move_16 : decode cX12_move 16 = .ok (.aload_n 0, 1) := by decide +kernel
theorem dX12_move_17 : decode cX12_move 17 = .ok (.getfield 139, 3) := by decide +kernel
theorem dX12_move_20 : decode cX12_move 20 = .ok (.iload_n 1, 1) := by decide +kernel
theorem dX12_move_21 : decode cX12_move 21 = .ok (.iaload, 1) := by decide +kernel
theorem dX12_move_22 : decode cX12_move 22 = .ok (.iconst 1, 1) := by decide +kernel
theorem dX12_move_23 : decode cX12_move 23 = .ok (.isub, 1) := by decide +kernel
theorem dX12_move_24 : decode cX12_move 24 = .ok (.i2l, 1) := by decide +kernel
theorem dX12_move_25 : decode cX12_move 25 = .ok (.invokestatic 42, 3) := by decide +kernel
theorem dX12_move_28 : decode cX12_move 28 = .ok (.ifCond .eq 19, 3) := by decide +kernel
theorem dX12_move_31 : decode cX12_move 31 = .ok (.aload_n 0, 1) := by decide +kernel
theorem dX12_move_32 : decode cX12_move 32 = .ok (.iload_n 3, 1) := by decide +kernel
theorem dX12_move_33 : decode cX12_move 33 = .ok (.invokevirtual 166, 3) := by decide +kernel
theorem dX12_move_36 : decode cX12_move 36 = .ok (.ifCond .eq 11, 3) := by decide +kernel
theorem dX12_move_39 : decode cX12_move 39 = .ok (.iload 4, 2) := by decide +kernel
theorem dX12_move_41 : decode cX12_move 41 = .ok (.invokestatic 462, 3) := by decide +kernel
theorem dX12_move_44 : decode cX12_move 44 = .ok (.ifCond .ne 5, 3) := by decide +kernel
theorem dX12_move_47 : decode cX12_move 47 = .ok (.iconst (-1), 1) := by decide +kernel
theorem dX12_move_48 : decode cX12_move 48 = .ok (.ireturn, 1) := by decide +kernel
theorem dX12_move_49 : decode cX12_move 49 = .ok (.iconst 5, 1) := by decide +kernel
theorem dX12_move_50 : decode cX12_move 50 = .ok (.iload_n 1, 1) := by decide +kernel
theorem dX12_move_51 : decode cX12_move 51 = .ok (.imul, 1) := by decide +kernel
theorem dX12_move_52 : decode cX12_move 52 = .ok (.iload_n 2, 1) := by decide +kernel
theorem dX12_move_53 : decode cX12_move 53 = .ok (.iadd, 1) := by decide +kernel
theorem dX12_move_54 : decode cX12_move 54 = .ok (.istore 5, 2) := by decide +kernel
theorem dX12_move_56 : decode cX12_move 56 = .ok (.aload_n 0, 1) := by decide +kernel
theorem dX12_move_57 : decode cX12_move 57 = .ok (.getfield 176, 3) := by decide +kernel
theorem dX12_move_60 : decode cX12_move 60 = .ok (.iload 5, 2) := by decide +kernel
theorem dX12_move_62 : decode cX12_move 62 = .ok (.iaload, 1) := by decide +kernel
theorem dX12_move_63 : decode cX12_move 63 = .ok (.istore 6, 2) := by decide +kernel
theorem dX12_move_65 : decode cX12_move 65 = .ok (.aload_n 0, 1) := by decide +kernel
theorem dX12_move_66 : decode cX12_move 66 = .ok (.getfield 176, 3) := by decide +kernel
theorem dX12_move_69 : decode cX12_move 69 = .ok (.iload 5, 2) := by decide +kernel
theorem dX12_move_71 : decode cX12_move 71 = .ok (.iload_n 3, 1) := by decide +kernel
theorem dX12_move_72 : decode cX12_move 72 = .ok (.iastore, 1) := by decide +kernel
theorem dX12_move_73 : decode cX12_move 73 = .ok (.aload_n 0, 1) := by decide +kernel
theorem dX12_move_74 : decode cX12_move 74 = .ok (.iload 4, 2) := by decide +kernel
theorem dX12_move_76 : decode cX12_move 76 = .ok (.invokevirtual 502, 3) := by decide +kernel
theorem dX12_move_79 : decode cX12_move 79 = .ok (.aload_n 0, 1) := by decide +kernel
theorem dX12_move_80 : decode cX12_move 80 = .ok (.getfield 176, 3) := by decide +kernel
theorem dX12_move_83 : decode cX12_move 83 = .ok (.iload 5, 2) := by decide +kernel
theorem dX12_move_85 : decode cX12_move 85 = .ok (.iload 6, 2) := by decide +kernel
theorem dX12_move_87 : decode cX12_move 87 = .ok (.iastore, 1) := by decide +kernel
theorem dX12_move_88 : decode cX12_move 88 = .ok (.aload_n 0, 1) := by decide +kernel
theorem dX12_move_89 : decode cX12_move 89 = .ok (.iload_n 1, 1) := by decide +kernel
theorem dX12_move_90 : decode cX12_move 90 = .ok (.iconst 0, 1) := by decide +kernel
theorem dX12_move_91 : decode cX12_move 91 = .ok (.invokevirtual 505, 3) := by decide +kernel
theorem dX12_move_94 : decode cX12_move 94 = .ok (.istore 7, 2) := by decide +kernel
theorem dX12_move_96 : decode cX12_move 96 = .ok (.iload 7, 2) := by decide +kernel
theorem dX12_move_98 : decode cX12_move 98 = .ok (.ifCond .ge 8, 3) := by decide +kernel
theorem dX12_move_101 : decode cX12_move 101 = .ok (.bipush (-2), 2) := by decide +kernel
theorem dX12_move_103 : decode cX12_move 103 = .ok (.goto 5, 3) := by decide +kernel
theorem dX12_move_106 : decode cX12_move 106 = .ok (.iload 7, 2) := by decide +kernel
theorem dX12_move_108 : decode cX12_move 108 = .ok (.ireturn, 1) := by decide +kernel
theorem dX12_isAsked_0 : decode cX12_isAsked 0 = .ok (.aload_n 0, 1) := by decide +kernel
theorem dX12_isAsked_1 : decode cX12_isAsked 1 = .ok (.iload_n 1, 1) := by decide +kernel
theorem dX12_isAsked_2 : decode cX12_isAsked 2 = .ok (.invokevirtual 145, 3) := by decide +kernel
theorem dX12_isAsked_5 : decode cX12_isAsked 5 = .ok (.ifCond .eq 26, 3) := by decide +kernel
theorem dX12_isAsked_8 : decode cX12_isAsked 8 = .ok (.iload_n 2, 1) := by decide +kernel
theorem dX12_isAsked_9 : decode cX12_isAsked 9 = .ok (.i2l, 1) := by decide +kernel
theorem dX12_isAsked_10 : decode cX12_isAsked 10 = .ok (.lconst 0, 1) := by decide +kernel
theorem dX12_isAsked_11 : decode cX12_isAsked 11 = .ok (.ldc2_w 46, 3) := by decide +kernel
theorem dX12_isAsked_14 : decode cX12_isAsked 14 = .ok (.invokestatic 42, 3) := by decide +kernel
theorem dX12_isAsked_17 : decode cX12_isAsked 17 = .ok (.ifCond .eq 14, 3) := by decide +kernel
theorem dX12_isAsked_20 : decode cX12_isAsked 20 = .ok (.iload_n 3, 1) := by decide +kernel
theorem dX12_isAsked_21 : decode cX12_isAsked 21 = .ok (.invokestatic 462, 3) := by decide +kernel
theorem dX12_isAsked_24 : decode cX12_isAsked 24 = .ok (.ifCond .eq 7, 3) := by decide +kernel
theorem dX12_isAsked_27 : decode cX12_isAsked 27 = .ok (.iconst 1, 1) := by decide +kernel
theorem dX12_isAsked_28 : decode cX12_isAsked 28 = .ok (.goto 4, 3) := by decide +kernel
theorem dX12_isAsked_31 : decode cX12_isAsked 31 = .ok (.iconst 0, 1) := by decide +kernel
theorem dX12_isAsked_32 : decode cX12_isAsked 32 = .ok (.ireturn, 1) := by decide +kernel
theorem dX12_best_0 : decode cX12_best 0 = .ok (.aload_n 0, 1) := by decide +kernel
theorem dX12_best_1 : decode cX12_best 1 = .ok (.iconst 0, 1) := by decide +kernel
theorem dX12_best_2 : decode cX12_best 2 = .ok (.putfield 3, 3) := by decide +kernel
theorem dX12_best_5 : decode cX12_best 5 = .ok (.aload_n 0, 1) := by decide +kernel
theorem dX12_best_6 : decode cX12_best 6 = .ok (.iload_n 1, 1) := by decide +kernel
theorem dX12_best_7 : decode cX12_best 7 = .ok (.iload_n 2, 1) := by decide +kernel
theorem dX12_best_8 : decode cX12_best 8 = .ok (.iload_n 3, 1) := by decide +kernel
theorem dX12_best_9 : decode cX12_best 9 = .ok (.invokevirtual 553, 3) := by decide +kernel
theorem dX12_best_12 : decode cX12_best 12 = .ok (.ifCond .eq 13, 3) := by decide +kernel
theorem dX12_best_15 : decode cX12_best 15 = .ok (.aload_n 0, 1) := by decide +kernel
theorem dX12_best_16 : decode cX12_best 16 = .ok (.iload_n 1, 1) := by decide +kernel
theorem dX12_best_17 : decode cX12_best 17 = .ok (.iload_n 2, 1) := by decide +kernel
theorem dX12_best_18 : decode cX12_best 18 = .ok (.iload_n 3, 1) := by decide +kernel
theorem dX12_best_19 : decode cX12_best 19 = .ok (.invokevirtual 557, 3) := by decide +kernel
theorem dX12_best_22 : decode cX12_best 22 = .ok (.ifCond .ne 5, 3) := by decide +kernel
theorem dX12_best_25 : decode cX12_best 25 = .ok (.iconst (-1), 1) := by decide +kernel
theorem dX12_best_26 : decode cX12_best 26 = .ok (.ireturn, 1) := by decide +kernel
theorem dX12_best_27 : decode cX12_best 27 = .ok (.aload_n 0, 1) := by decide +kernel
theorem dX12_best_28 : decode cX12_best 28 = .ok (.iconst 2, 1) := by decide +kernel
theorem dX12_best_29 : decode cX12_best 29 = .ok (.iload_n 2, 1) := by decide +kernel
theorem dX12_best_30 : decode cX12_best 30 = .ok (.imul, 1) := by decide +kernel
theorem dX12_best_31 : decode cX12_best 31 = .ok (.putfield 185, 3) := by decide +kernel
theorem dX12_best_34 : decode cX12_best 34 = .ok (.iconst 0, 1) := by decide +kernel
theorem dX12_best_35 : decode cX12_best 35 = .ok (.istore 4, 2) := by decide +kernel
theorem dX12_best_37 : decode cX12_best 37 = .ok (.iload 4, 2) := by decide +kernel
theorem dX12_best_39 : decode cX12_best 39 = .ok (.iload_n 2, 1) := by decide +kernel
theorem dX12_best_40 : decode cX12_best 40 = .ok (.if_icmp .ge 43, 3) := by decide +kernel
theorem dX12_best_43 : decode cX12_best 43 = .ok (.aload_n 0, 1) := by decide +kernel
theorem dX12_best_44 : decode cX12_best 44 = .ok (.getfield 508, 3) := by decide +kernel
theorem dX12_best_47 : decode cX12_best 47 = .ok (.iconst 2, 1) := by decide +kernel
theorem dX12_best_48 : decode cX12_best 48 = .ok (.iload 4, 2) := by decide +kernel
theorem dX12_best_50 : decode cX12_best 50 = .ok (.imul, 1) := by decide +kernel
theorem dX12_best_51 : decode cX12_best 51 = .ok (.aload_n 0, 1) := by decide +kernel
theorem dX12_best_52 : decode cX12_best 52 = .ok (.getfield 537, 3) := by decide +kernel
theorem dX12_best_55 : decode cX12_best 55 = .ok (.iload 4, 2) := by decide +kernel
theorem dX12_best_57 : decode cX12_best 57 = .ok (.iaload, 1) := by decide +kernel
theorem dX12_best_58 : decode cX12_best 58 = .ok (.iastore, 1) := by decide +kernel
theorem dX12_best_59 : decode cX12_best 59 = .ok (.aload_n 0, 1) := by decide +kernel
theorem dX12_best_60 : decode cX12_best 60 = .ok (.getfield 508, 3) := by decide +kernel
theorem dX12_best_63 : decode cX12_best 63 = .ok (.iconst 2, 1) := by decide +kernel
theorem dX12_best_64 : decode cX12_best 64 = .ok (.iload 4, 2) := by decide +kernel
theorem dX12_best_66 : decode cX12_best 66 = .ok (.imul, 1) := by decide +kernel
theorem dX12_best_67 : decode cX12_best 67 = .ok (.iconst 1, 1) := by decide +kernel
theorem dX12_best_68 : decode cX12_best 68 = .ok (.iadd, 1) := by decide +kernel
theorem dX12_best_69 : decode cX12_best 69 = .ok (.aload_n 0, 1) := by decide +kernel
theorem dX12_best_70 : decode cX12_best 70 = .ok (.getfield 540, 3) := by decide +kernel
theorem dX12_best_73 : decode cX12_best 73 = .ok (.iload 4, 2) := by decide +kernel
theorem dX12_best_75 : decode cX12_best 75 = .ok (.iaload, 1) := by decide +kernel
theorem dX12_best_76 : decode cX12_best 76 = .ok (.iastore, 1) := by decide +kernel
theorem dX12_best_77 : decode cX12_best 77 = .ok (.iinc 4 1, 3) := by decide +kernel
theorem dX12_best_80 : decode cX12_best 80 = .ok (.goto (-43), 3) := by decide +kernel
theorem dX12_best_83 : decode cX12_best 83 = .ok (.aload_n 0, 1) := by decide +kernel
theorem dX12_best_84 : decode cX12_best 84 = .ok (.getfield 527, 3) := by decide +kernel
theorem dX12_best_87 : decode cX12_best 87 = .ok (.ifCond .ge 8, 3) := by decide +kernel
theorem dX12_best_90 : decode cX12_best 90 = .ok (.bipush (-2), 2) := by decide +kernel
theorem dX12_best_92 : decode cX12_best 92 = .ok (.goto 7, 3) := by decide +kernel
theorem dX12_best_95 : decode cX12_best 95 = .ok (.aload_n 0, 1) := by decide +kernel
theorem dX12_best_96 : decode cX12_best 96 = .ok (.getfield 527, 3) := by decide +kernel
theorem dX12_best_99 : decode cX12_best 99 = .ok (.ireturn, 1) := by decide +kernel
theorem dX12_gain_0 : decode cX12_gain 0 = .ok (.aload_n 0, 1) := by decide +kernel
theorem dX12_gain_1 : decode cX12_gain 1 = .ok (.iconst 0, 1) := by decide +kernel
theorem dX12_gain_2 : decode cX12_gain 2 = .ok (.putfield 3, 3) := by decide +kernel
theorem dX12_gain_5 : decode cX12_gain 5 = .ok (.aload_n 0, 1) := by decide +kernel
theorem dX12_gain_6 : decode cX12_gain 6 = .ok (.iload_n 1, 1) := by decide +kernel
theorem dX12_gain_7 : decode cX12_gain 7 = .ok (.iload_n 2, 1) := by decide +kernel
theorem dX12_gain_8 : decode cX12_gain 8 = .ok (.iload_n 3, 1) := by decide +kernel
theorem dX12_gain_9 : decode cX12_gain 9 = .ok (.invokevirtual 553, 3) := by decide +kernel
theorem dX12_gain_12 : decode cX12_gain 12 = .ok (.ifCond .eq 13, 3) := by decide +kernel
theorem dX12_gain_15 : decode cX12_gain 15 = .ok (.aload_n 0, 1) := by decide +kernel
theorem dX12_gain_16 : decode cX12_gain 16 = .ok (.iload_n 1, 1) := by decide +kernel
theorem dX12_gain_17 : decode cX12_gain 17 = .ok (.iload_n 2, 1) := by decide +kernel
theorem dX12_gain_18 : decode cX12_gain 18 = .ok (.iload_n 3, 1) := by decide +kernel
theorem dX12_gain_19 : decode cX12_gain 19 = .ok (.invokevirtual 557, 3) := by decide +kernel
theorem dX12_gain_22 : decode cX12_gain 22 = .ok (.ifCond .ne 5, 3) := by decide +kernel
theorem dX12_gain_25 : decode cX12_gain 25 = .ok (.iconst (-1), 1) := by decide +kernel
theorem dX12_gain_26 : decode cX12_gain 26 = .ok (.ireturn, 1) := by decide +kernel
theorem dX12_gain_27 : decode cX12_gain 27 = .ok (.aload_n 0, 1) := by decide +kernel
theorem dX12_gain_28 : decode cX12_gain 28 = .ok (.getfield 527, 3) := by decide +kernel
theorem dX12_gain_31 : decode cX12_gain 31 = .ok (.ifCond .ge 10, 3) := by decide +kernel
theorem dX12_gain_34 : decode cX12_gain 34 = .ok (.aload_n 0, 1) := by decide +kernel
theorem dX12_gain_35 : decode cX12_gain 35 = .ok (.getfield 30, 3) := by decide +kernel
theorem dX12_gain_38 : decode cX12_gain 38 = .ok (.goto 7, 3) := by decide +kernel
theorem dX12_gain_41 : decode cX12_gain 41 = .ok (.aload_n 0, 1) := by decide +kernel
theorem dX12_gain_42 : decode cX12_gain 42 = .ok (.getfield 527, 3) := by decide +kernel
theorem dX12_gain_45 : decode cX12_gain 45 = .ok (.istore 4, 2) := by decide +kernel
theorem dX12_gain_47 : decode cX12_gain 47 = .ok (.aload_n 0, 1) := by decide +kernel
theorem dX12_gain_48 : decode cX12_gain 48 = .ok (.iload_n 3, 1) := by decide +kernel
theorem dX12_gain_49 : decode cX12_gain 49 = .ok (.invokevirtual 502, 3) := by decide +kernel
theorem dX12_gain_52 : decode cX12_gain 52 = .ok (.aload_n 0, 1) := by decide +kernel
theorem dX12_gain_53 : decode cX12_gain 53 = .ok (.iload_n 1, 1) := by decide +kernel
theorem dX12_gain_54 : decode cX12_gain 54 = .ok (.iconst 0, 1) := by decide +kernel
theorem dX12_gain_55 : decode cX12_gain 55 = .ok (.invokevirtual 505, 3) := by decide +kernel
theorem dX12_gain_58 : decode cX12_gain 58 = .ok (.istore 5, 2) := by decide +kernel
theorem dX12_gain_60 : decode cX12_gain 60 = .ok (.iconst 0, 1) := by decide +kernel
theorem dX12_gain_61 : decode cX12_gain 61 = .ok (.iload 5, 2) := by decide +kernel
theorem dX12_gain_63 : decode cX12_gain 63 = .ok (.ifCond .ge 10, 3) := by decide +kernel
theorem dX12_gain_66 : decode cX12_gain 66 = .ok (.aload_n 0, 1) := by decide +kernel
theorem dX12_gain_67 : decode cX12_gain 67 = .ok (.getfield 30, 3) := by decide +kernel
theorem dX12_gain_70 : decode cX12_gain 70 = .ok (.goto 5, 3) := by decide +kernel
theorem dX12_gain_73 : decode cX12_gain 73 = .ok (.iload 5, 2) := by decide +kernel
theorem dX12_gain_75 : decode cX12_gain 75 = .ok (.iload 4, 2) := by decide +kernel
theorem dX12_gain_77 : decode cX12_gain 77 = .ok (.isub, 1) := by decide +kernel
theorem dX12_gain_78 : decode cX12_gain 78 = .ok (.invokestatic 395, 3) := by decide +kernel
theorem dX12_gain_81 : decode cX12_gain 81 = .ok (.ireturn, 1) := by decide +kernel
theorem dX12_option_0 : decode cX12_option 0 = .ok (.aload_n 0, 1) := by decide +kernel
theorem dX12_option_1 : decode cX12_option 1 = .ok (.iconst 0, 1) := by decide +kernel
theorem dX12_option_2 : decode cX12_option 2 = .ok (.putfield 3, 3) := by decide +kernel
theorem dX12_option_5 : decode cX12_option 5 = .ok (.aload_n 0, 1) := by decide +kernel
theorem dX12_option_6 : decode cX12_option 6 = .ok (.iload_n 1, 1) := by decide +kernel
theorem dX12_option_7 : decode cX12_option 7 = .ok (.invokevirtual 145, 3) := by decide +kernel
theorem dX12_option_10 : decode cX12_option 10 = .ok (.ifCond .eq 27, 3) := by decide +kernel
theorem dX12_option_13 : decode cX12_option 13 = .ok (.iload_n 2, 1) := by decide +kernel
theorem dX12_option_14 : decode cX12_option 14 = .ok (.iconst (-1), 1) := by decide +kernel
theorem dX12_option_15 : decode cX12_option 15 = .ok (.if_icmp .eq 11, 3) := by decide +kernel
theorem dX12_option_18 : decode cX12_option 18 = .ok (.aload_n 0, 1) := by decide +kernel
theorem dX12_option_19 : decode cX12_option 19 = .ok (.iload_n 2, 1) := by decide +kernel
theorem dX12_option_20 : decode cX12_option 20 = .ok (.invokevirtual 166, 3) := by decide +kernel
theorem dX12_option_23 : decode cX12_option 23 = .ok (.ifCond .eq 14, 3) := by decide +kernel
theorem dX12_option_26 : decode cX12_option 26 = .ok (.iload_n 3, 1) := by decide +kernel
theorem dX12_option_27 : decode cX12_option 27 = .ok (.invokestatic 169, 3) := by decide +kernel
theorem dX12_option_30 : decode cX12_option 30 = .ok (.ifCond .eq 7, 3) := by decide +kernel
theorem dX12_option_33 : decode cX12_option 33 = .ok (.iconst 1, 1) := by decide +kernel
theorem dX12_option_34 : decode cX12_option 34 = .ok (.goto 4, 3) := by decide +kernel
theorem dX12_option_37 : decode cX12_option 37 = .ok (.iconst 0, 1) := by decide +kernel
theorem dX12_option_38 : decode cX12_option 38 = .ok (.istore 4, 2) := by decide +kernel
theorem dX12_option_40 : decode cX12_option 40 = .ok (.iload 4, 2) := by decide +kernel
theorem dX12_option_42 : decode cX12_option 42 = .ok (.ifCond .eq 13, 3) := by decide +kernel
theorem dX12_option_45 : decode cX12_option 45 = .ok (.aload_n 0, 1) := by decide +kernel
theorem dX12_option_46 : decode cX12_option 46 = .ok (.getfield 39, 3) := by decide +kernel
theorem dX12_option_49 : decode cX12_option 49 = .ok (.iload_n 1, 1) := by decide +kernel
theorem dX12_option_50 : decode cX12_option 50 = .ok (.iaload, 1) := by decide +kernel
theorem dX12_option_51 : decode cX12_option 51 = .ok (.iconst 4, 1) := by decide +kernel
theorem dX12_option_52 : decode cX12_option 52 = .ok (.if_icmp .ne 5, 3) := by decide +kernel
theorem dX12_option_55 : decode cX12_option 55 = .ok (.iconst (-1), 1) := by decide +kernel
theorem dX12_option_56 : decode cX12_option 56 = .ok (.ireturn, 1) := by decide +kernel
theorem dX12_option_57 : decode cX12_option 57 = .ok (.aload_n 0, 1) := by decide +kernel
theorem dX12_option_58 : decode cX12_option 58 = .ok (.getfield 560, 3) := by decide +kernel
theorem dX12_option_61 : decode cX12_option 61 = .ok (.iconst 4, 1) := by decide +kernel
theorem dX12_option_62 : decode cX12_option 62 = .ok (.iload_n 1, 1) := by decide +kernel
theorem dX12_option_63 : decode cX12_option 63 = .ok (.imul, 1) := by decide +kernel
theorem dX12_option_64 : decode cX12_option 64 = .ok (.aload_n 0, 1) := by decide +kernel
theorem dX12_option_65 : decode cX12_option 65 = .ok (.getfield 39, 3) := by decide +kernel
theorem dX12_option_68 : decode cX12_option 68 = .ok (.iload_n 1, 1) := by decide +kernel
theorem dX12_option_69 : decode cX12_option 69 = .ok (.iaload, 1) := by decide +kernel
theorem dX12_option_70 : decode cX12_option 70 = .ok (.iadd, 1) := by decide +kernel
theorem dX12_option_71 : decode cX12_option 71 = .ok (.iload_n 2, 1) := by decide +kernel
theorem dX12_option_72 : decode cX12_option 72 = .ok (.iastore, 1) := by decide +kernel
theorem dX12_option_73 : decode cX12_option 73 = .ok (.aload_n 0, 1) := by decide +kernel
theorem dX12_option_74 : decode cX12_option 74 = .ok (.getfield 563, 3) := by decide +kernel
theorem dX12_option_77 : decode cX12_option 77 = .ok (.iconst 4, 1) := by decide +kernel
theorem dX12_option_78 : decode cX12_option 78 = .ok (.iload_n 1, 1) := by decide +kernel
theorem dX12_option_79 : decode cX12_option 79 = .ok (.imul, 1) := by decide +kernel
theorem dX12_option_80 : decode cX12_option 80 = .ok (.aload_n 0, 1) := by decide +kernel
theorem dX12_option_81 : decode cX12_option 81 = .ok (.getfield 39, 3) := by decide +kernel
theorem dX12_option_84 : decode cX12_option 84 = .ok (.iload_n 1, 1) := by decide +kernel
theorem dX12_option_85 : decode cX12_option 85 = .ok (.iaload, 1) := by decide +kernel
theorem dX12_option_86 : decode cX12_option 86 = .ok (.iadd, 1) := by decide +kernel
theorem dX12_option_87 : decode cX12_option 87 = .ok (.iload_n 3, 1) := by decide +kernel
theorem dX12_option_88 : decode cX12_option 88 = .ok (.iastore, 1) := by decide +kernel
theorem dX12_option_89 : decode cX12_option 89 = .ok (.aload_n 0, 1) := by decide +kernel
theorem dX12_option_90 : decode cX12_option 90 = .ok (.getfield 39, 3) := by decide +kernel
theorem dX12_option_93 : decode cX12_option 93 = .ok (.iload_n 1, 1) := by decide +kernel
theorem dX12_option_94 : decode cX12_option 94 = .ok (.dup2, 1) := by decide +kernel
theorem dX12_option_95 : decode cX12_option 95 = .ok (.iaload, 1) := by decide +kernel
theorem dX12_option_96 : decode cX12_option 96 = .ok (.iconst 1, 1) := by decide +kernel
theorem dX12_option_97 : decode cX12_option 97 = .ok (.iadd, 1) := by decide +kernel
theorem dX12_option_98 : decode cX12_option 98 = .ok (.iastore, 1) := by decide +kernel
theorem dX12_option_99 : decode cX12_option 99 = .ok (.aload_n 0, 1) := by decide +kernel
theorem dX12_option_100 : decode cX12_option 100 = .ok (.getfield 39, 3) := by decide +kernel
theorem dX12_option_103 : decode cX12_option 103 = .ok (.iload_n 1, 1) := by decide +kernel
theorem dX12_option_104 : decode cX12_option 104 = .ok (.iaload, 1) := by decide +kernel
theorem dX12_option_105 : decode cX12_option 105 = .ok (.ireturn, 1) := by decide +kernel
theorem dX12_clear_0 : decode cX12_clear 0 = .ok (.aload_n 0, 1) := by decide +kernel
theorem dX12_clear_1 : decode cX12_clear 1 = .ok (.iconst 0, 1) := by decide +kernel
theorem dX12_clear_2 : decode cX12_clear 2 = .ok (.putfield 3, 3) := by decide +kernel
theorem dX12_clear_5 : decode cX12_clear 5 = .ok (.iconst 0, 1) := by decide +kernel
theorem dX12_clear_6 : decode cX12_clear 6 = .ok (.istore_n 1, 1) := by decide +kernel
theorem dX12_clear_7 : decode cX12_clear 7 = .ok (.iconst 0, 1) := by decide +kernel
theorem dX12_clear_8 : decode cX12_clear 8 = .ok (.istore_n 2, 1) := by decide +kernel
theorem dX12_clear_9 : decode cX12_clear 9 = .ok (.iload_n 2, 1) := by decide +kernel
theorem dX12_clear_10 : decode cX12_clear 10 = .ok (.bipush 6, 2) := by decide +kernel
theorem dX12_clear_12 : decode cX12_clear 12 = .ok (.if_icmp .ge 37, 3) := by decide +kernel
theorem dX12_clear_15 : decode cX12_clear 15 = .ok (.iload_n 1, 1) := by decide +kernel
theorem dX12_clear_16 : decode cX12_clear 16 = .ok (.iload_n 2, 1) := by decide +kernel
theorem dX12_clear_17 : decode cX12_clear 17 = .ok (.aload_n 0, 1) := by decide +kernel
theorem dX12_clear_18 : decode cX12_clear 18 = .ok (.getfield 30, 3) := by decide +kernel
theorem dX12_clear_21 : decode cX12_clear 21 = .ok (.if_icmp .ge 12, 3) := by decide +kernel
theorem dX12_clear_24 : decode cX12_clear 24 = .ok (.aload_n 0, 1) := by decide +kernel
theorem dX12_clear_25 : decode cX12_clear 25 = .ok (.getfield 39, 3) := by decide +kernel
theorem dX12_clear_28 : decode cX12_clear 28 = .ok (.iload_n 2, 1) := by decide +kernel
theorem dX12_clear_29 : decode cX12_clear 29 = .ok (.iaload, 1) := by decide +kernel
theorem dX12_clear_30 : decode cX12_clear 30 = .ok (.goto 4, 3) := by decide +kernel
theorem dX12_clear_33 : decode cX12_clear 33 = .ok (.iconst 0, 1) := by decide +kernel
theorem dX12_clear_34 : decode cX12_clear 34 = .ok (.iadd, 1) := by decide +kernel
theorem dX12_clear_35 : decode cX12_clear 35 = .ok (.istore_n 1, 1) := by decide +kernel
theorem dX12_clear_36 : decode cX12_clear 36 = .ok (.aload_n 0, 1) := by decide +kernel
theorem dX12_clear_37 : decode cX12_clear 37 = .ok (.getfield 39, 3) := by decide +kernel
theorem dX12_clear_40 : decode cX12_clear 40 = .ok (.iload_n 2, 1) := by decide +kernel
theorem dX12_clear_41 : decode cX12_clear 41 = .ok (.iconst 0, 1) := by decide +kernel
theorem dX12_clear_42 : decode cX12_clear 42 = .ok (.iastore, 1) := by decide +kernel
theorem dX12_clear_43 : decode cX12_clear 43 = .ok (.iinc 2 1, 3) := by decide +kernel
theorem dX12_clear_46 : decode cX12_clear 46 = .ok (.goto (-37), 3) := by decide +kernel
theorem dX12_clear_49 : decode cX12_clear 49 = .ok (.iload_n 1, 1) := by decide +kernel
theorem dX12_clear_50 : decode cX12_clear 50 = .ok (.ireturn, 1) := by decide +kernel
theorem dX12_settle_0 : decode cX12_settle 0 = .ok (.aload_n 0, 1) := by decide +kernel
theorem dX12_settle_1 : decode cX12_settle 1 = .ok (.iconst 0, 1) := by decide +kernel
theorem dX12_settle_2 : decode cX12_settle 2 = .ok (.putfield 3, 3) := by decide +kernel
theorem dX12_settle_5 : decode cX12_settle 5 = .ok (.aload_n 0, 1) := by decide +kernel
theorem dX12_settle_6 : decode cX12_settle 6 = .ok (.iload_n 1, 1) := by decide +kernel
theorem dX12_settle_7 : decode cX12_settle 7 = .ok (.invokevirtual 145, 3) := by decide +kernel
theorem dX12_settle_10 : decode cX12_settle 10 = .ok (.ifCond .eq 41, 3) := by decide +kernel
theorem dX12_settle_13 : decode cX12_settle 13 = .ok (.aload_n 0, 1) := by decide +kernel
theorem dX12_settle_14 : decode cX12_settle 14 = .ok (.iload_n 2, 1) := by decide +kernel
theorem dX12_settle_15 : decode cX12_settle 15 = .ok (.invokevirtual 145, 3) := by decide +kernel
theorem dX12_settle_18 : decode cX12_settle 18 = .ok (.ifCond .eq 33, 3) := by decide +kernel
theorem dX12_settle_21 : decode cX12_settle 21 = .ok (.iload_n 1, 1) := by decide +kernel
theorem dX12_settle_22 : decode cX12_settle 22 = .ok (.iload_n 2, 1) := by decide +kernel
theorem dX12_settle_23 : decode cX12_settle 23 = .ok (.if_icmp .eq 28, 3) := by decide +kernel
theorem dX12_settle_26 : decode cX12_settle 26 = .ok (.iload_n 3, 1) := by decide +kernel
theorem dX12_settle_27 : decode cX12_settle 27 = .ok (.invokestatic 462, 3) := by decide +kernel
theorem dX12_settle_30 : decode cX12_settle 30 = .ok (.ifCond .eq 21, 3) := by decide +kernel
theorem dX12_settle_33 : decode cX12_settle 33 = .ok (.aload_n 0, 1) := by decide +kernel
theorem dX12_settle_34 : decode cX12_settle 34 = .ok (.getfield 39, 3) := by decide +kernel
theorem dX12_settle_37 : decode cX12_settle 37 = .ok (.iload_n 1, 1) := by decide +kernel
theorem dX12_settle_38 : decode cX12_settle 38 = .ok (.iaload, 1) := by decide +kernel
theorem dX12_settle_39 : decode cX12_settle 39 = .ok (.ifCond .eq 12, 3) := by decide +kernel
theorem dX12_settle_42 : decode cX12_settle 42 = .ok (.aload_n 0, 1) := by decide +kernel
theorem dX12_settle_43 : decode cX12_settle 43 = .ok (.getfield 39, 3) := by decide +kernel
theorem dX12_settle_46 : decode cX12_settle 46 = .ok (.iload_n 2, 1) := by decide +kernel
theorem dX12_settle_47 : decode cX12_settle 47 = .ok (.iaload, 1) := by decide +kernel
theorem dX12_settle_48 : decode cX12_settle 48 = .ok (.ifCond .ne 5, 3) := by decide +kernel
theorem dX12_settle_51 : decode cX12_settle 51 = .ok (.iconst (-1), 1) := by decide +kernel
theorem dX12_settle_52 : decode cX12_settle 52 = .ok (.ireturn, 1) := by decide +kernel
theorem dX12_settle_53 : decode cX12_settle 53 = .ok (.aload_n 0, 1) := by decide +kernel
theorem dX12_settle_54 : decode cX12_settle 54 = .ok (.iload_n 1, 1) := by decide +kernel
theorem dX12_settle_55 : decode cX12_settle 55 = .ok (.invokevirtual 543, 3) := by decide +kernel
theorem dX12_settle_58 : decode cX12_settle 58 = .ok (.aload_n 0, 1) := by decide +kernel
theorem dX12_settle_59 : decode cX12_settle 59 = .ok (.iload_n 2, 1) := by decide +kernel
theorem dX12_settle_60 : decode cX12_settle 60 = .ok (.invokevirtual 543, 3) := by decide +kernel
theorem dX12_settle_63 : decode cX12_settle 63 = .ok (.iconst 0, 1) := by decide +kernel
theorem dX12_settle_64 : decode cX12_settle 64 = .ok (.istore 4, 2) := by decide +kernel
theorem dX12_settle_66 : decode cX12_settle 66 = .ok (.iload 4, 2) := by decide +kernel
theorem dX12_settle_68 : decode cX12_settle 68 = .ok (.aload_n 0, 1) := by decide +kernel
theorem dX12_settle_69 : decode cX12_settle 69 = .ok (.getfield 39, 3) := by decide +kernel
theorem dX12_settle_72 : decode cX12_settle 72 = .ok (.iload_n 1, 1) := by decide +kernel
theorem dX12_settle_73 : decode cX12_settle 73 = .ok (.iaload, 1) := by decide +kernel
theorem dX12_settle_74 : decode cX12_settle 74 = .ok (.if_icmp .ge 120, 3) := by decide +kernel
theorem dX12_settle_77 : decode cX12_settle 77 = .ok (.iconst 0, 1) := by decide +kernel
theorem dX12_settle_78 : decode cX12_settle 78 = .ok (.istore 5, 2) := by decide +kernel
theorem dX12_settle_80 : decode cX12_settle 80 = .ok (.iload 5, 2) := by decide +kernel
theorem dX12_settle_82 : decode cX12_settle 82 = .ok (.aload_n 0, 1) := by decide +kernel
theorem dX12_settle_83 : decode cX12_settle 83 = .ok (.getfield 39, 3) := by decide +kernel
theorem dX12_settle_86 : decode cX12_settle 86 = .ok (.iload_n 2, 1) := by decide +kernel
theorem dX12_settle_87 : decode cX12_settle 87 = .ok (.iaload, 1) := by decide +kernel
theorem dX12_settle_88 : decode cX12_settle 88 = .ok (.if_icmp .ge 100, 3) := by decide +kernel
theorem dX12_settle_91 : decode cX12_settle 91 = .ok (.aload_n 0, 1) := by decide +kernel
theorem dX12_settle_92 : decode cX12_settle 92 = .ok (.iload_n 1, 1) := by decide +kernel
theorem dX12_settle_93 : decode cX12_settle 93 = .ok (.iload 4, 2) := by decide +kernel
theorem dX12_settle_95 : decode cX12_settle 95 = .ok (.invokevirtual 566, 3) := by decide +kernel
theorem dX12_settle_98 : decode cX12_settle 98 = .ok (.aload_n 0, 1) := by decide +kernel
theorem dX12_settle_99 : decode cX12_settle 99 = .ok (.iload_n 2, 1) := by decide +kernel
theorem dX12_settle_100 : decode cX12_settle 100 = .ok (.iload 5, 2) := by decide +kernel
theorem dX12_settle_102 : decode cX12_settle 102 = .ok (.invokevirtual 566, 3) := by decide +kernel
theorem dX12_settle_105 : decode cX12_settle 105 = .ok (.aload_n 0, 1) := by decide +kernel
theorem dX12_settle_106 : decode cX12_settle 106 = .ok (.iload_n 3, 1) := by decide +kernel
theorem dX12_settle_107 : decode cX12_settle 107 = .ok (.invokevirtual 502, 3) := by decide +kernel
theorem dX12_settle_110 : decode cX12_settle 110 = .ok (.aload_n 0, 1) := by decide +kernel
theorem dX12_settle_111 : decode cX12_settle 111 = .ok (.getfield 569, 3) := by decide +kernel
theorem dX12_settle_114 : decode cX12_settle 114 = .ok (.iconst 4, 1) := by decide +kernel
theorem dX12_settle_115 : decode cX12_settle 115 = .ok (.iload 4, 2) := by decide +kernel
theorem dX12_settle_117 : decode cX12_settle 117 = .ok (.imul, 1) := by decide +kernel
theorem dX12_settle_118 : decode cX12_settle 118 = .ok (.iload 5, 2) := by decide +kernel
theorem dX12_settle_120 : decode cX12_settle 120 = .ok (.iadd, 1) := by decide +kernel
theorem dX12_settle_121 : decode cX12_settle 121 = .ok (.aload_n 0, 1) := by decide +kernel
theorem dX12_settle_122 : decode cX12_settle 122 = .ok (.iload_n 1, 1) := by decide +kernel
theorem dX12_settle_123 : decode cX12_settle 123 = .ok (.iconst 0, 1) := by decide +kernel
theorem dX12_settle_124 : decode cX12_settle 124 = .ok (.invokevirtual 505, 3) := by decide +kernel
theorem dX12_settle_127 : decode cX12_settle 127 = .ok (.iastore, 1) := by decide +kernel
theorem dX12_settle_128 : decode cX12_settle 128 = .ok (.aload_n 0, 1) := by decide +kernel
theorem dX12_settle_129 : decode cX12_settle 129 = .ok (.getfield 572, 3) := by decide +kernel
theorem dX12_settle_132 : decode cX12_settle 132 = .ok (.iconst 4, 1) := by decide +kernel
theorem dX12_settle_133 : decode cX12_settle 133 = .ok (.iload 4, 2) := by decide +kernel
theorem dX12_settle_135 : decode cX12_settle 135 = .ok (.imul, 1) := by decide +kernel
theorem dX12_settle_136 : decode cX12_settle 136 = .ok (.iload 5, 2) := by decide +kernel
theorem dX12_settle_138 : decode cX12_settle 138 = .ok (.iadd, 1) := by decide +kernel
theorem dX12_settle_139 : decode cX12_settle 139 = .ok (.aload_n 0, 1) := by decide +kernel
theorem dX12_settle_140 : decode cX12_settle 140 = .ok (.getfield 493, 3) := by decide +kernel
theorem dX12_settle_143 : decode cX12_settle 143 = .ok (.iload_n 1, 1) := by decide +kernel
theorem dX12_settle_144 : decode cX12_settle 144 = .ok (.iaload, 1) := by decide +kernel
theorem dX12_settle_145 : decode cX12_settle 145 = .ok (.iastore, 1) := by decide +kernel
theorem dX12_settle_146 : decode cX12_settle 146 = .ok (.aload_n 0, 1) := by decide +kernel
theorem dX12_settle_147 : decode cX12_settle 147 = .ok (.getfield 575, 3) := by decide +kernel
theorem dX12_settle_150 : decode cX12_settle 150 = .ok (.iconst 4, 1) := by decide +kernel
theorem dX12_settle_151 : decode cX12_settle 151 = .ok (.iload 4, 2) := by decide +kernel
theorem dX12_settle_153 : decode cX12_settle 153 = .ok (.imul, 1) := by decide +kernel
theorem dX12_settle_154 : decode cX12_settle 154 = .ok (.iload 5, 2) := by decide +kernel
theorem dX12_settle_156 : decode cX12_settle 156 = .ok (.iadd, 1) := by decide +kernel
theorem dX12_settle_157 : decode cX12_settle 157 = .ok (.aload_n 0, 1) := by decide +kernel
theorem dX12_settle_158 : decode cX12_settle 158 = .ok (.iload_n 2, 1) := by decide +kernel
theorem dX12_settle_159 : decode cX12_settle 159 = .ok (.iconst 0, 1) := by decide +kernel
theorem dX12_settle_160 : decode cX12_settle 160 = .ok (.invokevirtual 505, 3) := by decide +kernel
theorem dX12_settle_163 : decode cX12_settle 163 = .ok (.iastore, 1) := by decide +kernel
theorem dX12_settle_164 : decode cX12_settle 164 = .ok (.aload_n 0, 1) := by decide +kernel
theorem dX12_settle_165 : decode cX12_settle 165 = .ok (.getfield 578, 3) := by decide +kernel
theorem dX12_settle_168 : decode cX12_settle 168 = .ok (.iconst 4, 1) := by decide +kernel
theorem dX12_settle_169 : decode cX12_settle 169 = .ok (.iload 4, 2) := by decide +kernel
theorem dX12_settle_171 : decode cX12_settle 171 = .ok (.imul, 1) := by decide +kernel
theorem dX12_settle_172 : decode cX12_settle 172 = .ok (.iload 5, 2) := by decide +kernel
theorem dX12_settle_174 : decode cX12_settle 174 = .ok (.iadd, 1) := by decide +kernel
theorem dX12_settle_175 : decode cX12_settle 175 = .ok (.aload_n 0, 1) := by decide +kernel
theorem dX12_settle_176 : decode cX12_settle 176 = .ok (.getfield 493, 3) := by decide +kernel
theorem dX12_settle_179 : decode cX12_settle 179 = .ok (.iload_n 2, 1) := by decide +kernel
theorem dX12_settle_180 : decode cX12_settle 180 = .ok (.iaload, 1) := by decide +kernel
theorem dX12_settle_181 : decode cX12_settle 181 = .ok (.iastore, 1) := by decide +kernel
theorem dX12_settle_182 : decode cX12_settle 182 = .ok (.iinc 5 1, 3) := by decide +kernel
theorem dX12_settle_185 : decode cX12_settle 185 = .ok (.goto (-105), 3) := by decide +kernel
theorem dX12_settle_188 : decode cX12_settle 188 = .ok (.iinc 4 1, 3) := by decide +kernel
theorem dX12_settle_191 : decode cX12_settle 191 = .ok (.goto (-125), 3) := by decide +kernel
theorem dX12_settle_194 : decode cX12_settle 194 = .ok (.aload_n 0, 1) := by decide +kernel
theorem dX12_settle_195 : decode cX12_settle 195 = .ok (.iload_n 1, 1) := by decide +kernel
theorem dX12_settle_196 : decode cX12_settle 196 = .ok (.invokevirtual 550, 3) := by decide +kernel
theorem dX12_settle_199 : decode cX12_settle 199 = .ok (.aload_n 0, 1) := by decide +kernel
theorem dX12_settle_200 : decode cX12_settle 200 = .ok (.iload_n 2, 1) := by decide +kernel
theorem dX12_settle_201 : decode cX12_settle 201 = .ok (.invokevirtual 550, 3) := by decide +kernel
theorem dX12_settle_204 : decode cX12_settle 204 = .ok (.iconst 0, 1) := by decide +kernel
theorem dX12_settle_205 : decode cX12_settle 205 = .ok (.istore 4, 2) := by decide +kernel
theorem dX12_settle_207 : decode cX12_settle 207 = .ok (.iload 4, 2) := by decide +kernel
theorem dX12_settle_209 : decode cX12_settle 209 = .ok (.aload_n 0, 1) := by decide +kernel
theorem dX12_settle_210 : decode cX12_settle 210 = .ok (.getfield 39, 3) := by decide +kernel
theorem dX12_settle_213 : decode cX12_settle 213 = .ok (.iload_n 1, 1) := by decide +kernel
theorem dX12_settle_214 : decode cX12_settle 214 = .ok (.iaload, 1) := by decide +kernel
theorem dX12_settle_215 : decode cX12_settle 215 = .ok (.if_icmp .ge 61, 3) := by decide +kernel
theorem dX12_settle_218 : decode cX12_settle 218 = .ok (.iconst 0, 1) := by decide +kernel
theorem dX12_settle_219 : decode cX12_settle 219 = .ok (.istore 5, 2) := by decide +kernel
theorem dX12_settle_221 : decode cX12_settle 221 = .ok (.iload 5, 2) := by decide +kernel
theorem dX12_settle_223 : decode cX12_settle 223 = .ok (.aload_n 0, 1) := by decide +kernel
theorem dX12_settle_224 : decode cX12_settle 224 = .ok (.getfield 39, 3) := by decide +kernel
theorem dX12_settle_227 : decode cX12_settle 227 = .ok (.iload_n 2, 1) := by decide +kernel
theorem dX12_settle_228 : decode cX12_settle 228 = .ok (.iaload, 1) := by decide +kernel
theorem dX12_settle_229 : decode cX12_settle 229 = .ok (.if_icmp .ge 41, 3) := by decide +kernel
theorem dX12_settle_232 : decode cX12_settle 232 = .ok (.aload_n 0, 1) := by decide +kernel
theorem dX12_settle_233 : decode cX12_settle 233 = .ok (.iload 4, 2) := by decide +kernel
theorem dX12_settle_235 : decode cX12_settle 235 = .ok (.iload 5, 2) := by decide +kernel
theorem dX12_settle_237 : decode cX12_settle 237 = .ok (.aload_n 0, 1) := by decide +kernel
theorem dX12_settle_238 : decode cX12_settle 238 = .ok (.getfield 39, 3) := by decide +kernel
theorem dX12_settle_241 : decode cX12_settle 241 = .ok (.iload_n 1, 1) := by decide +kernel
theorem dX12_settle_242 : decode cX12_settle 242 = .ok (.iaload, 1) := by decide +kernel
theorem dX12_settle_243 : decode cX12_settle 243 = .ok (.aload_n 0, 1) := by decide +kernel
theorem dX12_settle_244 : decode cX12_settle 244 = .ok (.getfield 39, 3) := by decide +kernel
theorem dX12_settle_247 : decode cX12_settle 247 = .ok (.iload_n 2, 1) := by decide +kernel
theorem dX12_settle_248 : decode cX12_settle 248 = .ok (.iaload, 1) := by decide +kernel
theorem dX12_settle_249 : decode cX12_settle 249 = .ok (.invokevirtual 581, 3) := by decide +kernel
theorem dX12_settle_252 : decode cX12_settle 252 = .ok (.ifCond .eq 12, 3) := by decide +kernel
theorem dX12_settle_255 : decode cX12_settle 255 = .ok (.bipush 10, 2) := by decide +kernel
theorem dX12_settle_257 : decode cX12_settle 257 = .ok (.iload 4, 2) := by decide +kernel
theorem dX12_settle_259 : decode cX12_settle 259 = .ok (.imul, 1) := by decide +kernel
theorem dX12_settle_260 : decode cX12_settle 260 = .ok (.iload 5, 2) := by decide +kernel
theorem dX12_settle_262 : decode cX12_settle 262 = .ok (.iadd, 1) := by decide +kernel
theorem dX12_settle_263 : decode cX12_settle 263 = .ok (.ireturn, 1) := by decide +kernel
theorem dX12_settle_264 : decode cX12_settle 264 = .ok (.iinc 5 1, 3) := by decide +kernel
theorem dX12_settle_267 : decode cX12_settle 267 = .ok (.goto (-46), 3) := by decide +kernel
theorem dX12_settle_270 : decode cX12_settle 270 = .ok (.iinc 4 1, 3) := by decide +kernel
theorem dX12_settle_273 : decode cX12_settle 273 = .ok (.goto (-66), 3) := by decide +kernel
theorem dX12_settle_276 : decode cX12_settle 276 = .ok (.bipush (-2), 2) := by decide +kernel
theorem dX12_settle_278 : decode cX12_settle 278 = .ok (.ireturn, 1) := by decide +kernel
theorem dX12_lost_0 : decode cX12_lost 0 = .ok (.aload_n 0, 1) := by decide +kernel
theorem dX12_lost_1 : decode cX12_lost 1 = .ok (.iconst 0, 1) := by decide +kernel
theorem dX12_lost_2 : decode cX12_lost 2 = .ok (.putfield 3, 3) := by decide +kernel
theorem dX12_lost_5 : decode cX12_lost 5 = .ok (.iload_n 1, 1) := by decide +kernel
theorem dX12_lost_6 : decode cX12_lost 6 = .ok (.i2l, 1) := by decide +kernel
theorem dX12_lost_7 : decode cX12_lost 7 = .ok (.lconst 0, 1) := by decide +kernel
theorem dX12_lost_8 : decode cX12_lost 8 = .ok (.aload_n 0, 1) := by decide +kernel
theorem dX12_lost_9 : decode cX12_lost 9 = .ok (.getfield 7, 3) := by decide +kernel
theorem dX12_lost_12 : decode cX12_lost 12 = .ok (.iconst 2, 1) := by decide +kernel
theorem dX12_lost_13 : decode cX12_lost 13 = .ok (.isub, 1) := by decide +kernel
theorem dX12_lost_14 : decode cX12_lost 14 = .ok (.i2l, 1) := by decide +kernel
theorem dX12_lost_15 : decode cX12_lost 15 = .ok (.invokestatic 42, 3) := by decide +kernel
theorem dX12_lost_18 : decode cX12_lost 18 = .ok (.ifCond .ne 5, 3) := by decide +kernel
theorem dX12_lost_21 : decode cX12_lost 21 = .ok (.iconst 0, 1) := by decide +kernel
theorem dX12_lost_22 : decode cX12_lost 22 = .ok (.ireturn, 1) := by decide +kernel
theorem dX12_lost_23 : decode cX12_lost 23 = .ok (.aload_n 0, 1) := by decide +kernel
theorem dX12_lost_24 : decode cX12_lost 24 = .ok (.getfield 20, 3) := by decide +kernel
theorem dX12_lost_27 : decode cX12_lost 27 = .ok (.iload_n 1, 1) := by decide +kernel
theorem dX12_lost_28 : decode cX12_lost 28 = .ok (.iload_n 2, 1) := by decide +kernel
theorem dX12_lost_29 : decode cX12_lost 29 = .ok (.bastore, 1) := by decide +kernel
theorem dX12_lost_30 : decode cX12_lost 30 = .ok (.iconst 1, 1) := by decide +kernel
theorem dX12_lost_31 : decode cX12_lost 31 = .ok (.ireturn, 1) := by decide +kernel
theorem dX12_known_0 : decode cX12_known 0 = .ok (.aload_n 0, 1) := by decide +kernel
theorem dX12_known_1 : decode cX12_known 1 = .ok (.iconst 0, 1) := by decide +kernel
theorem dX12_known_2 : decode cX12_known 2 = .ok (.putfield 3, 3) := by decide +kernel
theorem dX12_known_5 : decode cX12_known 5 = .ok (.aload_n 0, 1) := by decide +kernel
theorem dX12_known_6 : decode cX12_known 6 = .ok (.iload_n 1, 1) := by decide +kernel
theorem dX12_known_7 : decode cX12_known 7 = .ok (.invokevirtual 145, 3) := by decide +kernel
theorem dX12_known_10 : decode cX12_known 10 = .ok (.ifCond .eq 30, 3) := by decide +kernel
theorem dX12_known_13 : decode cX12_known 13 = .ok (.aload_n 0, 1) := by decide +kernel
theorem dX12_known_14 : decode cX12_known 14 = .ok (.iload_n 2, 1) := by decide +kernel
theorem dX12_known_15 : decode cX12_known 15 = .ok (.invokevirtual 154, 3) := by decide +kernel
theorem dX12_known_18 : decode cX12_known 18 = .ok (.ifCond .eq 22, 3) := by decide +kernel
theorem dX12_known_21 : decode cX12_known 21 = .ok (.aload_n 0, 1) := by decide +kernel
theorem dX12_known_22 : decode cX12_known 22 = .ok (.iload_n 3, 1) := by decide +kernel
theorem dX12_known_23 : decode cX12_known 23 = .ok (.invokevirtual 56, 3) := by decide +kernel
theorem dX12_known_26 : decode cX12_known 26 = .ok (.ifCond .eq 14, 3) := by decide +kernel
theorem dX12_known_29 : decode cX12_known 29 = .ok (.iload 4, 2) := by decide +kernel
theorem dX12_known_31 : decode cX12_known 31 = .ok (.i2l, 1) := by decide +kernel
theorem dX12_known_32 : decode cX12_known 32 = .ok (.lconst 0, 1) := by decide +kernel
theorem dX12_known_33 : decode cX12_known 33 = .ok (.lconst 1, 1) := by decide +kernel
theorem dX12_known_34 : decode cX12_known 34 = .ok (.invokestatic 42, 3) := by decide +kernel
theorem dX12_known_37 : decode cX12_known 37 = .ok (.ifCond .ne 5, 3) := by decide +kernel
theorem dX12_known_40 : decode cX12_known 40 = .ok (.iconst (-1), 1) := by decide +kernel
theorem dX12_known_41 : decode cX12_known 41 = .ok (.ireturn, 1) := by decide +kernel
theorem dX12_known_42 : decode cX12_known 42 = .ok (.aload_n 0, 1) := by decide +kernel
theorem dX12_known_43 : decode cX12_known 43 = .ok (.invokevirtual 449, 3) := by decide +kernel
theorem dX12_known_46 : decode cX12_known 46 = .ok (.aload_n 0, 1) := by decide +kernel
theorem dX12_known_47 : decode cX12_known 47 = .ok (.iload_n 1, 1) := by decide +kernel
theorem dX12_known_48 : decode cX12_known 48 = .ok (.aload_n 0, 1) := by decide +kernel
theorem dX12_known_49 : decode cX12_known 49 = .ok (.getfield 7, 3) := by decide +kernel
theorem dX12_known_52 : decode cX12_known 52 = .ok (.iload_n 2, 1) := by decide +kernel
theorem dX12_known_53 : decode cX12_known 53 = .ok (.imul, 1) := by decide +kernel
theorem dX12_known_54 : decode cX12_known 54 = .ok (.iload_n 3, 1) := by decide +kernel
theorem dX12_known_55 : decode cX12_known 55 = .ok (.iadd, 1) := by decide +kernel
theorem dX12_known_56 : decode cX12_known 56 = .ok (.iload 4, 2) := by decide +kernel
theorem dX12_known_58 : decode cX12_known 58 = .ok (.invokevirtual 584, 3) := by decide +kernel
theorem dX12_known_61 : decode cX12_known 61 = .ok (.ireturn, 1) := by decide +kernel
theorem dX12_ahead_0 : decode cX12_ahead 0 = .ok (.aload_n 0, 1) := by decide +kernel
theorem dX12_ahead_1 : decode cX12_ahead 1 = .ok (.iconst 0, 1) := by decide +kernel
theorem dX12_ahead_2 : decode cX12_ahead 2 = .ok (.putfield 3, 3) := by decide +kernel
theorem dX12_ahead_5 : decode cX12_ahead 5 = .ok (.aload_n 0, 1) := by decide +kernel
theorem dX12_ahead_6 : decode cX12_ahead 6 = .ok (.iload_n 1, 1) := by decide +kernel
theorem dX12_ahead_7 : decode cX12_ahead 7 = .ok (.invokevirtual 145, 3) := by decide +kernel
theorem dX12_ahead_10 : decode cX12_ahead 10 = .ok (.ifCond .eq 33, 3) := by decide +kernel
theorem dX12_ahead_13 : decode cX12_ahead 13 = .ok (.aload_n 0, 1) := by decide +kernel
theorem dX12_ahead_14 : decode cX12_ahead 14 = .ok (.iload_n 2, 1) := by decide +kernel
theorem dX12_ahead_15 : decode cX12_ahead 15 = .ok (.invokevirtual 145, 3) := by decide +kernel
theorem dX12_ahead_18 : decode cX12_ahead 18 = .ok (.ifCond .eq 25, 3) := by decide +kernel
theorem dX12_ahead_21 : decode cX12_ahead 21 = .ok (.iload_n 1, 1) := by decide +kernel
theorem dX12_ahead_22 : decode cX12_ahead 22 = .ok (.iload_n 2, 1) := by decide +kernel
theorem dX12_ahead_23 : decode cX12_ahead 23 = .ok (.if_icmp .eq 20, 3) := by decide +kernel
theorem dX12_ahead_26 : decode cX12_ahead 26 = .ok (.aload_n 0, 1) := by decide +kernel
theorem dX12_ahead_27 : decode cX12_ahead 27 = .ok (.iload_n 3, 1) := by decide +kernel
theorem dX12_ahead_28 : decode cX12_ahead 28 = .ok (.invokevirtual 154, 3) := by decide +kernel
theorem dX12_ahead_31 : decode cX12_ahead 31 = .ok (.ifCond .eq 12, 3) := by decide +kernel
theorem dX12_ahead_34 : decode cX12_ahead 34 = .ok (.aload_n 0, 1) := by decide +kernel
theorem dX12_ahead_35 : decode cX12_ahead 35 = .ok (.iload 4, 2) := by decide +kernel
theorem dX12_ahead_37 : decode cX12_ahead 37 = .ok (.invokevirtual 56, 3) := by decide +kernel
theorem dX12_ahead_40 : decode cX12_ahead 40 = .ok (.ifCond .ne 5, 3) := by decide +kernel
theorem dX12_ahead_43 : decode cX12_ahead 43 = .ok (.iconst (-1), 1) := by decide +kernel
theorem dX12_ahead_44 : decode cX12_ahead 44 = .ok (.ireturn, 1) := by decide +kernel
theorem dX12_ahead_45 : decode cX12_ahead 45 = .ok (.aload_n 0, 1) := by decide +kernel
theorem dX12_ahead_46 : decode cX12_ahead 46 = .ok (.invokevirtual 449, 3) := by decide +kernel
theorem dX12_ahead_49 : decode cX12_ahead 49 = .ok (.aload_n 0, 1) := by decide +kernel
theorem dX12_ahead_50 : decode cX12_ahead 50 = .ok (.iload_n 1, 1) := by decide +kernel
theorem dX12_ahead_51 : decode cX12_ahead 51 = .ok (.aload_n 0, 1) := by decide +kernel
theorem dX12_ahead_52 : decode cX12_ahead 52 = .ok (.getfield 7, 3) := by decide +kernel
theorem dX12_ahead_55 : decode cX12_ahead 55 = .ok (.iload_n 3, 1) := by decide +kernel
theorem dX12_ahead_56 : decode cX12_ahead 56 = .ok (.imul, 1) := by decide +kernel
theorem dX12_ahead_57 : decode cX12_ahead 57 = .ok (.iload 4, 2) := by decide +kernel
theorem dX12_ahead_59 : decode cX12_ahead 59 = .ok (.iadd, 1) := by decide +kernel
theorem dX12_ahead_60 : decode cX12_ahead 60 = .ok (.iconst 1, 1) := by decide +kernel
theorem dX12_ahead_61 : decode cX12_ahead 61 = .ok (.invokevirtual 584, 3) := by decide +kernel
theorem dX12_ahead_64 : decode cX12_ahead 64 = .ok (.istore 5, 2) := by decide +kernel
theorem dX12_ahead_66 : decode cX12_ahead 66 = .ok (.aload_n 0, 1) := by decide +kernel
theorem dX12_ahead_67 : decode cX12_ahead 67 = .ok (.iload_n 2, 1) := by decide +kernel
theorem dX12_ahead_68 : decode cX12_ahead 68 = .ok (.aload_n 0, 1) := by decide +kernel
theorem dX12_ahead_69 : decode cX12_ahead 69 = .ok (.getfield 7, 3) := by decide +kernel
theorem dX12_ahead_72 : decode cX12_ahead 72 = .ok (.iload_n 3, 1) := by decide +kernel
theorem dX12_ahead_73 : decode cX12_ahead 73 = .ok (.imul, 1) := by decide +kernel
theorem dX12_ahead_74 : decode cX12_ahead 74 = .ok (.iload 4, 2) := by decide +kernel
theorem dX12_ahead_76 : decode cX12_ahead 76 = .ok (.iadd, 1) := by decide +kernel
theorem dX12_ahead_77 : decode cX12_ahead 77 = .ok (.iconst 0, 1) := by decide +kernel
theorem dX12_ahead_78 : decode cX12_ahead 78 = .ok (.invokevirtual 584, 3) := by decide +kernel
theorem dX12_ahead_81 : decode cX12_ahead 81 = .ok (.istore 6, 2) := by decide +kernel
theorem dX12_ahead_83 : decode cX12_ahead 83 = .ok (.iload 5, 2) := by decide +kernel
theorem dX12_ahead_85 : decode cX12_ahead 85 = .ok (.ifCond .lt 8, 3) := by decide +kernel
theorem dX12_ahead_88 : decode cX12_ahead 88 = .ok (.iload 6, 2) := by decide +kernel
theorem dX12_ahead_90 : decode cX12_ahead 90 = .ok (.ifCond .ge 7, 3) := by decide +kernel
theorem dX12_ahead_93 : decode cX12_ahead 93 = .ok (.iconst (-1), 1) := by decide +kernel
theorem dX12_ahead_94 : decode cX12_ahead 94 = .ok (.goto 18, 3) := by decide +kernel
theorem dX12_ahead_97 : decode cX12_ahead 97 = .ok (.iload 5, 2) := by decide +kernel
theorem dX12_ahead_99 : decode cX12_ahead 99 = .ok (.iload 6, 2) := by decide +kernel
theorem dX12_ahead_101 : decode cX12_ahead 101 = .ok (.if_icmp .ge 7, 3) := by decide +kernel
theorem dX12_ahead_104 : decode cX12_ahead 104 = .ok (.iconst 1, 1) := by decide +kernel
theorem dX12_ahead_105 : decode cX12_ahead 105 = .ok (.goto 4, 3) := by decide +kernel
theorem dX12_ahead_108 : decode cX12_ahead 108 = .ok (.iconst 0, 1) := by decide +kernel
theorem dX12_ahead_109 : decode cX12_ahead 109 = .ok (.invokestatic 292, 3) := by decide +kernel
theorem dX12_ahead_112 : decode cX12_ahead 112 = .ok (.ireturn, 1) := by decide +kernel
theorem dX12_wall_0 : decode cX12_wall 0 = .ok (.aload_n 0, 1) := by decide +kernel
theorem dX12_wall_1 : decode cX12_wall 1 = .ok (.iconst 0, 1) := by decide +kernel
theorem dX12_wall_2 : decode cX12_wall 2 = .ok (.putfield 3, 3) := by decide +kernel
theorem dX12_wall_5 : decode cX12_wall 5 = .ok (.aload_n 0, 1) := by decide +kernel
theorem dX12_wall_6 : decode cX12_wall 6 = .ok (.iload_n 1, 1) := by decide +kernel
theorem dX12_wall_7 : decode cX12_wall 7 = .ok (.invokevirtual 145, 3) := by decide +kernel
theorem dX12_wall_10 : decode cX12_wall 10 = .ok (.ifCond .eq 7, 3) := by decide +kernel
theorem dX12_wall_13 : decode cX12_wall 13 = .ok (.iload_n 2, 1) := by decide +kernel
theorem dX12_wall_14 : decode cX12_wall 14 = .ok (.ifCond .ge 5, 3) := by decide +kernel
theorem dX12_wall_17 : decode cX12_wall 17 = .ok (.iconst (-1), 1) := by decide +kernel
theorem dX12_wall_18 : decode cX12_wall 18 = .ok (.ireturn, 1) := by decide +kernel
theorem dX12_wall_19 : decode cX12_wall 19 = .ok (.aload_n 0, 1) := by decide +kernel
theorem dX12_wall_20 : decode cX12_wall 20 = .ok (.invokevirtual 449, 3) := by decide +kernel
theorem dX12_wall_23 : decode cX12_wall 23 = .ok (.aload_n 0, 1) := by decide +kernel
theorem dX12_wall_24 : decode cX12_wall 24 = .ok (.iload_n 1, 1) := by decide +kernel
theorem dX12_wall_25 : decode cX12_wall 25 = .ok (.iload_n 2, 1) := by decide +kernel
theorem dX12_wall_26 : decode cX12_wall 26 = .ok (.invokevirtual 587, 3) := by decide +kernel
theorem dX12_wall_29 : decode cX12_wall 29 = .ok (.istore_n 3, 1) := by decide +kernel
theorem dX12_wall_30 : decode cX12_wall 30 = .ok (.iload_n 3, 1) := by decide +kernel
theorem dX12_wall_31 : decode cX12_wall 31 = .ok (.ifCond .ge 7, 3) := by decide +kernel
theorem dX12_wall_34 : decode cX12_wall 34 = .ok (.iconst 0, 1) := by decide +kernel
theorem dX12_wall_35 : decode cX12_wall 35 = .ok (.goto 14, 3) := by decide +kernel
theorem dX12_wall_38 : decode cX12_wall 38 = .ok (.aload_n 0, 1) := by decide +kernel
theorem dX12_wall_39 : decode cX12_wall 39 = .ok (.getfield 363, 3) := by decide +kernel
theorem dX12_wall_42 : decode cX12_wall 42 = .ok (.bipush 60, 2) := by decide +kernel
theorem dX12_wall_44 : decode cX12_wall 44 = .ok (.iload_n 1, 1) := by decide +kernel
theorem dX12_wall_45 : decode cX12_wall 45 = .ok (.imul, 1) := by decide +kernel
theorem dX12_wall_46 : decode cX12_wall 46 = .ok (.iload_n 3, 1) := by decide +kernel
theorem dX12_wall_47 : decode cX12_wall 47 = .ok (.iadd, 1) := by decide +kernel
theorem dX12_wall_48 : decode cX12_wall 48 = .ok (.iaload, 1) := by decide +kernel
theorem dX12_wall_49 : decode cX12_wall 49 = .ok (.istore 4, 2) := by decide +kernel
theorem dX12_wall_51 : decode cX12_wall 51 = .ok (.iconst 0, 1) := by decide +kernel
theorem dX12_wall_52 : decode cX12_wall 52 = .ok (.istore 5, 2) := by decide +kernel
theorem dX12_wall_54 : decode cX12_wall 54 = .ok (.iconst 0, 1) := by decide +kernel
theorem dX12_wall_55 : decode cX12_wall 55 = .ok (.istore 6, 2) := by decide +kernel
theorem dX12_wall_57 : decode cX12_wall 57 = .ok (.iload 6, 2) := by decide +kernel
theorem dX12_wall_59 : decode cX12_wall 59 = .ok (.aload_n 0, 1) := by decide +kernel
theorem dX12_wall_60 : decode cX12_wall 60 = .ok (.getfield 30, 3) := by decide +kernel
theorem dX12_wall_63 : decode cX12_wall 63 = .ok (.if_icmp .ge 84, 3) := by decide +kernel
theorem dX12_wall_66 : decode cX12_wall 66 = .ok (.aload_n 0, 1) := by decide +kernel
theorem dX12_wall_67 : decode cX12_wall 67 = .ok (.iload 6, 2) := by decide +kernel
theorem dX12_wall_69 : decode cX12_wall 69 = .ok (.iload_n 2, 1) := by decide +kernel
theorem dX12_wall_70 : decode cX12_wall 70 = .ok (.invokevirtual 587, 3) := by decide +kernel
theorem dX12_wall_73 : decode cX12_wall 73 = .ok (.istore 7, 2) := by decide +kernel
theorem dX12_wall_75 : decode cX12_wall 75 = .ok (.iload 7, 2) := by decide +kernel
theorem dX12_wall_77 : decode cX12_wall 77 = .ok (.ifCond .ge 7, 3) := by decide +kernel
theorem dX12_wall_80 : decode cX12_wall 80 = .ok (.iconst 0, 1) := by decide +kernel
theorem dX12_wall_81 : decode cX12_wall 81 = .ok (.goto 16, 3) := by decide +kernel
theorem dX12_wall_84 : decode cX12_wall 84 = .ok (.aload_n 0, 1) := by decide +kernel
theorem dX12_wall_85 : decode cX12_wall 85 = .ok (.getfield 363, 3) := by decide +kernel
theorem dX12_wall_88 : decode cX12_wall 88 = .ok (.bipush 60, 2) := by decide +kernel
theorem dX12_wall_90 : decode cX12_wall 90 = .ok (.iload 6, 2) := by decide +kernel
theorem dX12_wall_92 : decode cX12_wall 92 = .ok (.imul, 1) := by decide +kernel
theorem dX12_wall_93 : decode cX12_wall 93 = .ok (.iload 7, 2) := by decide +kernel
theorem dX12_wall_95 : decode cX12_wall 95 = .ok (.iadd, 1) := by decide +kernel
theorem dX12_wall_96 : decode cX12_wall 96 = .ok (.iaload, 1) := by decide +kernel
theorem dX12_wall_97 : decode cX12_wall 97 = .ok (.istore 8, 2) := by decide +kernel
theorem dX12_wall_99 : decode cX12_wall 99 = .ok (.iload 5, 2) := by decide +kernel
theorem dX12_wall_101 : decode cX12_wall 101 = .ok (.iload 7, 2) := by decide +kernel
theorem dX12_wall_103 : decode cX12_wall 103 = .ok (.iload_n 3, 1) := by decide +kernel
theorem dX12_wall_104 : decode cX12_wall 104 = .ok (.if_icmp .gt 29, 3) := by decide +kernel
theorem dX12_wall_107 : decode cX12_wall 107 = .ok (.iload 7, 2) := by decide +kernel
theorem dX12_wall_109 : decode cX12_wall 109 = .ok (.iload_n 3, 1) := by decide +kernel
theorem dX12_wall_110 : decode cX12_wall 110 = .ok (.if_icmp .ne 27, 3) := by decide +kernel
theorem dX12_wall_113 : decode cX12_wall 113 = .ok (.iload 8, 2) := by decide +kernel
theorem dX12_wall_115 : decode cX12_wall 115 = .ok (.iload 4, 2) := by decide +kernel
theorem dX12_wall_117 : decode cX12_wall 117 = .ok (.if_icmp .lt 16, 3) := by decide +kernel
theorem dX12_wall_120 : decode cX12_wall 120 = .ok (.iload 8, 2) := by decide +kernel
theorem dX12_wall_122 : decode cX12_wall 122 = .ok (.iload 4, 2) := by decide +kernel
theorem dX12_wall_124 : decode cX12_wall 124 = .ok (.if_icmp .ne 13, 3) := by decide +kernel
theorem dX12_wall_127 : decode cX12_wall 127 = .ok (.iload 6, 2) := by decide +kernel
theorem dX12_wall_129 : decode cX12_wall 129 = .ok (.iload_n 1, 1) := by decide +kernel
theorem dX12_wall_130 : decode cX12_wall 130 = .ok (.if_icmp .ge 7, 3) := by decide +kernel
theorem dX12_wall_133 : decode cX12_wall 133 = .ok (.iconst 1, 1) := by decide +kernel
theorem dX12_wall_134 : decode cX12_wall 134 = .ok (.goto 4, 3) := by decide +kernel
theorem dX12_wall_137 : decode cX12_wall 137 = .ok (.iconst 0, 1) := by decide +kernel
theorem dX12_wall_138 : decode cX12_wall 138 = .ok (.iadd, 1) := by decide +kernel
theorem dX12_wall_139 : decode cX12_wall 139 = .ok (.istore 5, 2) := by decide +kernel
theorem dX12_wall_141 : decode cX12_wall 141 = .ok (.iinc 6 1, 3) := by decide +kernel
theorem dX12_wall_144 : decode cX12_wall 144 = .ok (.goto (-87), 3) := by decide +kernel
theorem dX12_wall_147 : decode cX12_wall 147 = .ok (.iload 5, 2) := by decide +kernel
theorem dX12_wall_149 : decode cX12_wall 149 = .ok (.ireturn, 1) := by decide +kernel
theorem dX12_why_0 : decode cX12_why 0 = .ok (.aload_n 0, 1) := by decide +kernel
theorem dX12_why_1 : decode cX12_why 1 = .ok (.iconst 0, 1) := by decide +kernel
theorem dX12_why_2 : decode cX12_why 2 = .ok (.putfield 3, 3) := by decide +kernel
theorem dX12_why_5 : decode cX12_why 5 = .ok (.aload_n 0, 1) := by decide +kernel
theorem dX12_why_6 : decode cX12_why 6 = .ok (.iload_n 1, 1) := by decide +kernel
theorem dX12_why_7 : decode cX12_why 7 = .ok (.invokevirtual 145, 3) := by decide +kernel
theorem dX12_why_10 : decode cX12_why 10 = .ok (.ifCond .eq 11, 3) := by decide +kernel
theorem dX12_why_13 : decode cX12_why 13 = .ok (.aload_n 0, 1) := by decide +kernel
theorem dX12_why_14 : decode cX12_why 14 = .ok (.iload_n 2, 1) := by decide +kernel
theorem dX12_why_15 : decode cX12_why 15 = .ok (.invokevirtual 154, 3) := by decide +kernel
theorem dX12_why_18 : decode cX12_why 18 = .ok (.ifCond .ne 5, 3) := by decide +kernel
theorem dX12_why_21 : decode cX12_why 21 = .ok (.iconst (-1), 1) := by decide +kernel
theorem dX12_why_22 : decode cX12_why 22 = .ok (.ireturn, 1) := by decide +kernel
theorem dX12_why_23 : decode cX12_why 23 = .ok (.aload_n 0, 1) := by decide +kernel
theorem dX12_why_24 : decode cX12_why 24 = .ok (.invokevirtual 449, 3) := by decide +kernel
theorem dX12_why_27 : decode cX12_why 27 = .ok (.aload_n 0, 1) := by decide +kernel
theorem dX12_why_28 : decode cX12_why 28 = .ok (.getfield 369, 3) := by decide +kernel
theorem dX12_why_31 : decode cX12_why 31 = .ok (.bipush 12, 2) := by decide +kernel
theorem dX12_why_33 : decode cX12_why 33 = .ok (.iload_n 1, 1) := by decide +kernel
theorem dX12_why_34 : decode cX12_why 34 = .ok (.imul, 1) := by decide +kernel
theorem dX12_why_35 : decode cX12_why 35 = .ok (.iload_n 2, 1) := by decide +kernel
theorem dX12_why_36 : decode cX12_why 36 = .ok (.iadd, 1) := by decide +kernel
theorem dX12_why_37 : decode cX12_why 37 = .ok (.iaload, 1) := by decide +kernel
theorem dX12_why_38 : decode cX12_why 38 = .ok (.ireturn, 1) := by decide +kernel
theorem dX12_init_0 : decode cX12_init 0 = .ok (.aload_n 0, 1) := by decide +kernel
theorem dX12_init_1 : decode cX12_init 1 = .ok (.invokespecial 590, 3) := by decide +kernel
theorem dX12_init_4 : decode cX12_init 4 = .ok (.aload_n 0, 1) := by decide +kernel
theorem dX12_init_5 : decode cX12_init 5 = .ok (.iconst 2, 1) := by decide +kernel
theorem dX12_init_6 : decode cX12_init 6 = .ok (.putfield 7, 3) := by decide +kernel
theorem dX12_init_9 : decode cX12_init 9 = .ok (.aload_n 0, 1) := by decide +kernel
theorem dX12_init_10 : decode cX12_init 10 = .ok (.iconst 1, 1) := by decide +kernel
theorem dX12_init_11 : decode cX12_init 11 = .ok (.putfield 10, 3) := by decide +kernel
theorem dX12_init_14 : decode cX12_init 14 = .ok (.aload_n 0, 1) := by decide +kernel
theorem dX12_init_15 : decode cX12_init 15 = .ok (.iconst 5, 1) := by decide +kernel
theorem dX12_init_16 : decode cX12_init 16 = .ok (.newarray .int, 2) := by decide +kernel
theorem dX12_init_18 : decode cX12_init 18 = .ok (.putfield 13, 3) := by decide +kernel
theorem dX12_init_21 : decode cX12_init 21 = .ok (.aload_n 0, 1) := by decide +kernel
theorem dX12_init_22 : decode cX12_init 22 = .ok (.iconst 5, 1) := by decide +kernel
theorem dX12_init_23 : decode cX12_init 23 = .ok (.newarray .int, 2) := by decide +kernel
theorem dX12_init_25 : decode cX12_init 25 = .ok (.putfield 17, 3) := by decide +kernel
theorem dX12_init_28 : decode cX12_init 28 = .ok (.aload_n 0, 1) := by decide +kernel
theorem dX12_init_29 : decode cX12_init 29 = .ok (.iconst 5, 1) := by decide +kernel
theorem dX12_init_30 : decode cX12_init 30 = .ok (.newarray .boolean, 2) := by decide +kernel
theorem dX12_init_32 : decode cX12_init 32 = .ok (.putfield 20, 3) := by decide +kernel
theorem dX12_init_35 : decode cX12_init 35 = .ok (.aload_n 0, 1) := by decide +kernel
theorem dX12_init_36 : decode cX12_init 36 = .ok (.bipush 24, 2) := by decide +kernel
theorem dX12_init_38 : decode cX12_init 38 = .ok (.newarray .int, 2) := by decide +kernel
theorem dX12_init_40 : decode cX12_init 40 = .ok (.putfield 72, 3) := by decide +kernel
theorem dX12_init_43 : decode cX12_init 43 = .ok (.aload_n 0, 1) := by decide +kernel
theorem dX12_init_44 : decode cX12_init 44 = .ok (.bipush 8, 2) := by decide +kernel
theorem dX12_init_46 : decode cX12_init 46 = .ok (.newarray .int, 2) := by decide +kernel
theorem dX12_init_48 : decode cX12_init 48 = .ok (.putfield 83, 3) := by decide +kernel
theorem dX12_init_51 : decode cX12_init 51 = .ok (.aload_n 0, 1) := by decide +kernel
theorem dX12_init_52 : decode cX12_init 52 = .ok (.bipush 30, 2) := by decide +kernel
theorem dX12_init_54 : decode cX12_init 54 = .ok (.newarray .int, 2) := by decide +kernel
theorem dX12_init_56 : decode cX12_init 56 = .ok (.putfield 86, 3) := by decide +kernel
theorem dX12_init_59 : decode cX12_init 59 = .ok (.aload_n 0, 1) := by decide +kernel
theorem dX12_init_60 : decode cX12_init 60 = .ok (.bipush 30, 2) := by decide +kernel
theorem dX12_init_62 : decode cX12_init 62 = .ok (.newarray .int, 2) := by decide +kernel
theorem dX12_init_64 : decode cX12_init 64 = .ok (.putfield 89, 3) := by decide +kernel
theorem dX12_init_67 : decode cX12_init 67 = .ok (.aload_n 0, 1) := by decide +kernel
theorem dX12_init_68 : decode cX12_init 68 = .ok (.bipush 30, 2) := by decide +kernel
theorem dX12_init_70 : decode cX12_init 70 = .ok (.newarray .int, 2) := by decide +kernel
theorem dX12_init_72 : decode cX12_init 72 = .ok (.putfield 92, 3) := by decide +kernel
theorem dX12_init_75 : decode cX12_init 75 = .ok (.aload_n 0, 1) := by decide +kernel
theorem dX12_init_76 : decode cX12_init 76 = .ok (.bipush 20, 2) := by decide +kernel
theorem dX12_init_78 : decode cX12_init 78 = .ok (.newarray .int, 2) := by decide +kernel
theorem dX12_init_80 : decode cX12_init 80 = .ok (.putfield 95, 3) := by decide +kernel
theorem dX12_init_83 : decode cX12_init 83 = .ok (.aload_n 0, 1) := by decide +kernel
theorem dX12_init_84 : decode cX12_init 84 = .ok (.bipush 20, 2) := by decide +kernel
theorem dX12_init_86 : decode cX12_init 86 = .ok (.newarray .int, 2) := by decide +kernel
theorem dX12_init_88 : decode cX12_init 88 = .ok (.putfield 98, 3) := by decide +kernel
theorem dX12_init_91 : decode cX12_init 91 = .ok (.aload_n 0, 1) := by decide +kernel
theorem dX12_init_92 : decode cX12_init 92 = .ok (.bipush 20, 2) := by decide +kernel
theorem dX12_init_94 : decode cX12_init 94 = .ok (.newarray .int, 2) := by decide +kernel
theorem dX12_init_96 : decode cX12_init 96 = .ok (.putfield 101, 3) := by decide +kernel
theorem dX12_init_99 : decode cX12_init 99 = .ok (.aload_n 0, 1) := by decide +kernel
theorem dX12_init_100 : decode cX12_init 100 = .ok (.bipush 20, 2) := by decide +kernel
theorem dX12_init_102 : decode cX12_init 102 = .ok (.newarray .int, 2) := by decide +kernel
theorem dX12_init_104 : decode cX12_init 104 = .ok (.putfield 104, 3) := by decide +kernel
theorem dX12_init_107 : decode cX12_init 107 = .ok (.aload_n 0, 1) := by decide +kernel
theorem dX12_init_108 : decode cX12_init 108 = .ok (.bipush 6, 2) := by decide +kernel
theorem dX12_init_110 : decode cX12_init 110 = .ok (.newarray .int, 2) := by decide +kernel
theorem dX12_init_112 : decode cX12_init 112 = .ok (.putfield 115, 3) := by decide +kernel
theorem dX12_init_115 : decode cX12_init 115 = .ok (.aload_n 0, 1) := by decide +kernel
theorem dX12_init_116 : decode cX12_init 116 = .ok (.bipush 6, 2) := by decide +kernel
theorem dX12_init_118 : decode cX12_init 118 = .ok (.newarray .int, 2) := by decide +kernel
theorem dX12_init_120 : decode cX12_init 120 = .ok (.putfield 118, 3) := by decide +kernel
theorem dX12_init_123 : decode cX12_init 123 = .ok (.aload_n 0, 1) := by decide +kernel
theorem dX12_init_124 : decode cX12_init 124 = .ok (.bipush 6, 2) := by decide +kernel
theorem dX12_init_126 : decode cX12_init 126 = .ok (.newarray .int, 2) := by decide +kernel
theorem dX12_init_128 : decode cX12_init 128 = .ok (.putfield 121, 3) := by decide +kernel
theorem dX12_init_131 : decode cX12_init 131 = .ok (.aload_n 0, 1) := by decide +kernel
theorem dX12_init_132 : decode cX12_init 132 = .ok (.bipush 6, 2) := by decide +kernel
theorem dX12_init_134 : decode cX12_init 134 = .ok (.newarray .int, 2) := by decide +kernel
theorem dX12_init_136 : decode cX12_init 136 = .ok (.putfield 124, 3) := by decide +kernel
theorem dX12_init_139 : decode cX12_init 139 = .ok (.aload_n 0, 1) := by decide +kernel
theorem dX12_init_140 : decode cX12_init 140 = .ok (.bipush 6, 2) := by decide +kernel
theorem dX12_init_142 : decode cX12_init 142 = .ok (.newarray .int, 2) := by decide +kernel
theorem dX12_init_144 : decode cX12_init 144 = .ok (.putfield 127, 3) := by decide +kernel
theorem dX12_init_147 : decode cX12_init 147 = .ok (.aload_n 0, 1) := by decide +kernel
theorem dX12_init_148 : decode cX12_init 148 = .ok (.bipush 6, 2) := by decide +kernel
theorem dX12_init_150 : decode cX12_init 150 = .ok (.newarray .int, 2) := by decide +kernel
theorem dX12_init_152 : decode cX12_init 152 = .ok (.putfield 130, 3) := by decide +kernel
theorem dX12_init_155 : decode cX12_init 155 = .ok (.aload_n 0, 1) := by decide +kernel
theorem dX12_init_156 : decode cX12_init 156 = .ok (.bipush 6, 2) := by decide +kernel
theorem dX12_init_158 : decode cX12_init 158 = .ok (.newarray .int, 2) := by decide +kernel
theorem dX12_init_160 : decode cX12_init 160 = .ok (.putfield 133, 3) := by decide +kernel
theorem dX12_init_163 : decode cX12_init 163 = .ok (.aload_n 0, 1) := by decide +kernel
theorem dX12_init_164 : decode cX12_init 164 = .ok (.bipush 24, 2) := by decide +kernel
theorem dX12_init_166 : decode cX12_init 166 = .ok (.newarray .int, 2) := by decide +kernel
theorem dX12_init_168 : decode cX12_init 168 = .ok (.putfield 148, 3) := by decide +kernel
theorem dX12_init_171 : decode cX12_init 171 = .ok (.aload_n 0, 1) := by decide +kernel
theorem dX12_init_172 : decode cX12_init 172 = .ok (.bipush 24, 2) := by decide +kernel
theorem dX12_init_174 : decode cX12_init 174 = .ok (.newarray .int, 2) := by decide +kernel
theorem dX12_init_176 : decode cX12_init 176 = .ok (.putfield 151, 3) := by decide +kernel
theorem dX12_init_179 : decode cX12_init 179 = .ok (.aload_n 0, 1) := by decide +kernel
theorem dX12_init_180 : decode cX12_init 180 = .ok (.bipush 6, 2) := by decide +kernel
theorem dX12_init_182 : decode cX12_init 182 = .ok (.newarray .int, 2) := by decide +kernel
theorem dX12_init_184 : decode cX12_init 184 = .ok (.putfield 136, 3) := by decide +kernel
theorem dX12_init_187 : decode cX12_init 187 = .ok (.aload_n 0, 1) := by decide +kernel
theorem dX12_init_188 : decode cX12_init 188 = .ok (.bipush 72, 2) := by decide +kernel
theorem dX12_init_190 : decode cX12_init 190 = .ok (.newarray .int, 2) := by decide +kernel
theorem dX12_init_192 : decode cX12_init 192 = .ok (.putfield 157, 3) := by decide +kernel
theorem dX12_init_195 : decode cX12_init 195 = .ok (.aload_n 0, 1) := by decide +kernel
theorem dX12_init_196 : decode cX12_init 196 = .ok (.bipush 72, 2) := by decide +kernel
theorem dX12_init_198 : decode cX12_init 198 = .ok (.newarray .int, 2) := by decide +kernel
theorem dX12_init_200 : decode cX12_init 200 = .ok (.putfield 160, 3) := by decide +kernel
theorem dX12_init_203 : decode cX12_init 203 = .ok (.aload_n 0, 1) := by decide +kernel
theorem dX12_init_204 : decode cX12_init 204 = .ok (.bipush 72, 2) := by decide +kernel
theorem dX12_init_206 : decode cX12_init 206 = .ok (.newarray .int, 2) := by decide +kernel
theorem dX12_init_208 : decode cX12_init 208 = .ok (.putfield 163, 3) := by decide +kernel
theorem dX12_init_211 : decode cX12_init 211 = .ok (.aload_n 0, 1) := by decide +kernel
theorem dX12_init_212 : decode cX12_init 212 = .ok (.bipush 6, 2) := by decide +kernel
theorem dX12_init_214 : decode cX12_init 214 = .ok (.newarray .int, 2) := by decide +kernel
theorem dX12_init_216 : decode cX12_init 216 = .ok (.putfield 139, 3) := by decide +kernel
theorem dX12_init_219 : decode cX12_init 219 = .ok (.aload_n 0, 1) := by decide +kernel
theorem dX12_init_220 : decode cX12_init 220 = .ok (.bipush 30, 2) := by decide +kernel
theorem dX12_init_222 : decode cX12_init 222 = .ok (.newarray .int, 2) := by decide +kernel
theorem dX12_init_224 : decode cX12_init 224 = .ok (.putfield 176, 3) := by decide +kernel
theorem dX12_init_227 : decode cX12_init 227 = .ok (.aload_n 0, 1) := by decide +kernel
theorem dX12_init_228 : decode cX12_init 228 = .ok (.bipush 30, 2) := by decide +kernel
theorem dX12_init_230 : decode cX12_init 230 = .ok (.newarray .int, 2) := by decide +kernel
theorem dX12_init_232 : decode cX12_init 232 = .ok (.putfield 179, 3) := by decide +kernel
theorem dX12_init_235 : decode cX12_init 235 = .ok (.aload_n 0, 1) := by decide +kernel
theorem dX12_init_236 : decode cX12_init 236 = .ok (.bipush 30, 2) := by decide +kernel
theorem dX12_init_238 : decode cX12_init 238 = .ok (.newarray .int, 2) := by decide +kernel
theorem dX12_init_240 : decode cX12_init 240 = .ok (.putfield 182, 3) := by decide +kernel
theorem dX12_init_243 : decode cX12_init 243 = .ok (.aload_n 0, 1) := by decide +kernel
theorem dX12_init_244 : decode cX12_init 244 = .ok (.bipush 6, 2) := by decide +kernel
theorem dX12_init_246 : decode cX12_init 246 = .ok (.newarray .boolean, 2) := by decide +kernel
theorem dX12_init_248 : decode cX12_init 248 = .ok (.putfield 142, 3) := by decide +kernel
theorem dX12_init_251 : decode cX12_init 251 = .ok (.aload_n 0, 1) := by decide +kernel
theorem dX12_init_252 : decode cX12_init 252 = .ok (.bipush 6, 2) := by decide +kernel
theorem dX12_init_254 : decode cX12_init 254 = .ok (.newarray .int, 2) := by decide +kernel
theorem dX12_init_256 : decode cX12_init 256 = .ok (.putfield 39, 3) := by decide +kernel
theorem dX12_init_259 : decode cX12_init 259 = .ok (.aload_n 0, 1) := by decide +kernel
theorem dX12_init_260 : decode cX12_init 260 = .ok (.bipush 24, 2) := by decide +kernel
theorem dX12_init_262 : decode cX12_init 262 = .ok (.newarray .int, 2) := by decide +kernel
theorem dX12_init_264 : decode cX12_init 264 = .ok (.putfield 560, 3) := by decide +kernel
theorem dX12_init_267 : decode cX12_init 267 = .ok (.aload_n 0, 1) := by decide +kernel
theorem dX12_init_268 : decode cX12_init 268 = .ok (.bipush 24, 2) := by decide +kernel
theorem dX12_init_270 : decode cX12_init 270 = .ok (.newarray .int, 2) := by decide +kernel
theorem dX12_init_272 : decode cX12_init 272 = .ok (.putfield 563, 3) := by decide +kernel
theorem dX12_init_275 : decode cX12_init 275 = .ok (.aload_n 0, 1) := by decide +kernel
theorem dX12_init_276 : decode cX12_init 276 = .ok (.bipush 100, 2) := by decide +kernel
theorem dX12_init_278 : decode cX12_init 278 = .ok (.newarray .int, 2) := by decide +kernel
theorem dX12_init_280 : decode cX12_init 280 = .ok (.putfield 191, 3) := by decide +kernel
theorem dX12_init_283 : decode cX12_init 283 = .ok (.aload_n 0, 1) := by decide +kernel
theorem dX12_init_284 : decode cX12_init 284 = .ok (.ldc_w 595, 3) := by decide +kernel
theorem dX12_init_287 : decode cX12_init 287 = .ok (.putfield 221, 3) := by decide +kernel
theorem dX12_init_290 : decode cX12_init 290 = .ok (.aload_n 0, 1) := by decide +kernel
theorem dX12_init_291 : decode cX12_init 291 = .ok (.sipush 1700, 3) := by decide +kernel
theorem dX12_init_294 : decode cX12_init 294 = .ok (.newarray .int, 2) := by decide +kernel
theorem dX12_init_296 : decode cX12_init 296 = .ok (.putfield 202, 3) := by decide +kernel
theorem dX12_init_299 : decode cX12_init 299 = .ok (.aload_n 0, 1) := by decide +kernel
theorem dX12_init_300 : decode cX12_init 300 = .ok (.bipush 17, 2) := by decide +kernel
theorem dX12_init_302 : decode cX12_init 302 = .ok (.newarray .int, 2) := by decide +kernel
theorem dX12_init_304 : decode cX12_init 304 = .ok (.putfield 208, 3) := by decide +kernel
theorem dX12_init_307 : decode cX12_init 307 = .ok (.aload_n 0, 1) := by decide +kernel
theorem dX12_init_308 : decode cX12_init 308 = .ok (.bipush 100, 2) := by decide +kernel
theorem dX12_init_310 : decode cX12_init 310 = .ok (.newarray .int, 2) := by decide +kernel
theorem dX12_init_312 : decode cX12_init 312 = .ok (.putfield 296, 3) := by decide +kernel
theorem dX12_init_315 : decode cX12_init 315 = .ok (.aload_n 0, 1) := by decide +kernel
theorem dX12_init_316 : decode cX12_init 316 = .ok (.bipush 13, 2) := by decide +kernel
theorem dX12_init_318 : decode cX12_init 318 = .ok (.newarray .int, 2) := by decide +kernel
theorem dX12_init_320 : decode cX12_init 320 = .ok (.putfield 299, 3) := by decide +kernel
theorem dX12_init_323 : decode cX12_init 323 = .ok (.aload_n 0, 1) := by decide +kernel
theorem dX12_init_324 : decode cX12_init 324 = .ok (.bipush 6, 2) := by decide +kernel
theorem dX12_init_326 : decode cX12_init 326 = .ok (.newarray .int, 2) := by decide +kernel
theorem dX12_init_328 : decode cX12_init 328 = .ok (.putfield 309, 3) := by decide +kernel
theorem dX12_init_331 : decode cX12_init 331 = .ok (.aload_n 0, 1) := by decide +kernel
theorem dX12_init_332 : decode cX12_init 332 = .ok (.bipush 6, 2) := by decide +kernel
theorem dX12_init_334 : decode cX12_init 334 = .ok (.newarray .int, 2) := by decide +kernel
theorem dX12_init_336 : decode cX12_init 336 = .ok (.putfield 321, 3) := by decide +kernel
theorem dX12_init_339 : decode cX12_init 339 = .ok (.aload_n 0, 1) := by decide +kernel
theorem dX12_init_340 : decode cX12_init 340 = .ok (.bipush 6, 2) := by decide +kernel
theorem dX12_init_342 : decode cX12_init 342 = .ok (.newarray .int, 2) := by decide +kernel
theorem dX12_init_344 : decode cX12_init 344 = .ok (.putfield 318, 3) := by decide +kernel
theorem dX12_init_347 : decode cX12_init 347 = .ok (.aload_n 0, 1) := by decide +kernel
theorem dX12_init_348 : decode cX12_init 348 = .ok (.bipush 6, 2) := by decide +kernel
theorem dX12_init_350 : decode cX12_init 350 = .ok (.newarray .int, 2) := by decide +kernel
theorem dX12_init_352 : decode cX12_init 352 = .ok (.putfield 324, 3) := by decide +kernel
theorem dX12_init_355 : decode cX12_init 355 = .ok (.aload_n 0, 1) := by decide +kernel
theorem dX12_init_356 : decode cX12_init 356 = .ok (.bipush 6, 2) := by decide +kernel
theorem dX12_init_358 : decode cX12_init 358 = .ok (.newarray .int, 2) := by decide +kernel
theorem dX12_init_360 : decode cX12_init 360 = .ok (.putfield 327, 3) := by decide +kernel
theorem dX12_init_363 : decode cX12_init 363 = .ok (.aload_n 0, 1) := by decide +kernel
theorem dX12_init_364 : decode cX12_init 364 = .ok (.bipush 6, 2) := by decide +kernel
theorem dX12_init_366 : decode cX12_init 366 = .ok (.newarray .int, 2) := by decide +kernel
theorem dX12_init_368 : decode cX12_init 368 = .ok (.putfield 330, 3) := by decide +kernel
theorem dX12_init_371 : decode cX12_init 371 = .ok (.aload_n 0, 1) := by decide +kernel
theorem dX12_init_372 : decode cX12_init 372 = .ok (.bipush 6, 2) := by decide +kernel
theorem dX12_init_374 : decode cX12_init 374 = .ok (.newarray .int, 2) := by decide +kernel
theorem dX12_init_376 : decode cX12_init 376 = .ok (.putfield 333, 3) := by decide +kernel
theorem dX12_init_379 : decode cX12_init 379 = .ok (.aload_n 0, 1) := by decide +kernel
theorem dX12_init_380 : decode cX12_init 380 = .ok (.bipush 24, 2) := by decide +kernel
theorem dX12_init_382 : decode cX12_init 382 = .ok (.newarray .int, 2) := by decide +kernel
theorem dX12_init_384 : decode cX12_init 384 = .ok (.putfield 360, 3) := by decide +kernel
theorem dX12_init_387 : decode cX12_init 387 = .ok (.aload_n 0, 1) := by decide +kernel
theorem dX12_init_388 : decode cX12_init 388 = .ok (.bipush 6, 2) := by decide +kernel
theorem dX12_init_390 : decode cX12_init 390 = .ok (.newarray .int, 2) := by decide +kernel
theorem dX12_init_392 : decode cX12_init 392 = .ok (.putfield 336, 3) := by decide +kernel
theorem dX12_init_395 : decode cX12_init 395 = .ok (.aload_n 0, 1) := by decide +kernel
theorem dX12_init_396 : decode cX12_init 396 = .ok (.bipush 6, 2) := by decide +kernel
theorem dX12_init_398 : decode cX12_init 398 = .ok (.newarray .int, 2) := by decide +kernel
theorem dX12_init_400 : decode cX12_init 400 = .ok (.putfield 339, 3) := by decide +kernel
theorem dX12_init_403 : decode cX12_init 403 = .ok (.aload_n 0, 1) := by decide +kernel
theorem dX12_init_404 : decode cX12_init 404 = .ok (.bipush 6, 2) := by decide +kernel
theorem dX12_init_406 : decode cX12_init 406 = .ok (.newarray .int, 2) := by decide +kernel
theorem dX12_init_408 : decode cX12_init 408 = .ok (.putfield 342, 3) := by decide +kernel
theorem dX12_init_411 : decode cX12_init 411 = .ok (.aload_n 0, 1) := by decide +kernel
theorem dX12_init_412 : decode cX12_init 412 = .ok (.bipush 6, 2) := by decide +kernel
theorem dX12_init_414 : decode cX12_init 414 = .ok (.newarray .int, 2) := by decide +kernel
theorem dX12_init_416 : decode cX12_init 416 = .ok (.putfield 345, 3) := by decide +kernel
theorem dX12_init_419 : decode cX12_init 419 = .ok (.aload_n 0, 1) := by decide +kernel
theorem dX12_init_420 : decode cX12_init 420 = .ok (.bipush 6, 2) := by decide +kernel
theorem dX12_init_422 : decode cX12_init 422 = .ok (.newarray .int, 2) := by decide +kernel
theorem dX12_init_424 : decode cX12_init 424 = .ok (.putfield 348, 3) := by decide +kernel
theorem dX12_init_427 : decode cX12_init 427 = .ok (.aload_n 0, 1) := by decide +kernel
theorem dX12_init_428 : decode cX12_init 428 = .ok (.bipush 6, 2) := by decide +kernel
theorem dX12_init_430 : decode cX12_init 430 = .ok (.newarray .int, 2) := by decide +kernel
theorem dX12_init_432 : decode cX12_init 432 = .ok (.putfield 351, 3) := by decide +kernel
theorem dX12_init_435 : decode cX12_init 435 = .ok (.aload_n 0, 1) := by decide +kernel
theorem dX12_init_436 : decode cX12_init 436 = .ok (.bipush 6, 2) := by decide +kernel
theorem dX12_init_438 : decode cX12_init 438 = .ok (.newarray .int, 2) := by decide +kernel
theorem dX12_init_440 : decode cX12_init 440 = .ok (.putfield 354, 3) := by decide +kernel
theorem dX12_init_443 : decode cX12_init 443 = .ok (.aload_n 0, 1) := by decide +kernel
theorem dX12_init_444 : decode cX12_init 444 = .ok (.bipush 6, 2) := by decide +kernel
theorem dX12_init_446 : decode cX12_init 446 = .ok (.newarray .int, 2) := by decide +kernel
theorem dX12_init_448 : decode cX12_init 448 = .ok (.putfield 357, 3) := by decide +kernel
theorem dX12_init_451 : decode cX12_init 451 = .ok (.aload_n 0, 1) := by decide +kernel
theorem dX12_init_452 : decode cX12_init 452 = .ok (.sipush 360, 3) := by decide +kernel
theorem dX12_init_455 : decode cX12_init 455 = .ok (.newarray .int, 2) := by decide +kernel
theorem dX12_init_457 : decode cX12_init 457 = .ok (.putfield 363, 3) := by decide +kernel
theorem dX12_init_460 : decode cX12_init 460 = .ok (.aload_n 0, 1) := by decide +kernel
theorem dX12_init_461 : decode cX12_init 461 = .ok (.bipush 30, 2) := by decide +kernel
theorem dX12_init_463 : decode cX12_init 463 = .ok (.newarray .int, 2) := by decide +kernel
theorem dX12_init_465 : decode cX12_init 465 = .ok (.putfield 366, 3) := by decide +kernel
theorem dX12_init_468 : decode cX12_init 468 = .ok (.aload_n 0, 1) := by decide +kernel
theorem dX12_init_469 : decode cX12_init 469 = .ok (.bipush 30, 2) := by decide +kernel
theorem dX12_init_471 : decode cX12_init 471 = .ok (.newarray .int, 2) := by decide +kernel
theorem dX12_init_473 : decode cX12_init 473 = .ok (.putfield 405, 3) := by decide +kernel
theorem dX12_init_476 : decode cX12_init 476 = .ok (.aload_n 0, 1) := by decide +kernel
theorem dX12_init_477 : decode cX12_init 477 = .ok (.iconst 4, 1) := by decide +kernel
theorem dX12_init_478 : decode cX12_init 478 = .ok (.newarray .int, 2) := by decide +kernel
theorem dX12_init_480 : decode cX12_init 480 = .ok (.putfield 315, 3) := by decide +kernel
theorem dX12_init_483 : decode cX12_init 483 = .ok (.aload_n 0, 1) := by decide +kernel
theorem dX12_init_484 : decode cX12_init 484 = .ok (.bipush 72, 2) := by decide +kernel
theorem dX12_init_486 : decode cX12_init 486 = .ok (.newarray .int, 2) := by decide +kernel
theorem dX12_init_488 : decode cX12_init 488 = .ok (.putfield 369, 3) := by decide +kernel
theorem dX12_init_491 : decode cX12_init 491 = .ok (.aload_n 0, 1) := by decide +kernel
theorem dX12_init_492 : decode cX12_init 492 = .ok (.bipush 6, 2) := by decide +kernel
theorem dX12_init_494 : decode cX12_init 494 = .ok (.newarray .boolean, 2) := by decide +kernel
theorem dX12_init_496 : decode cX12_init 496 = .ok (.putfield 429, 3) := by decide +kernel
theorem dX12_init_499 : decode cX12_init 499 = .ok (.aload_n 0, 1) := by decide +kernel
theorem dX12_init_500 : decode cX12_init 500 = .ok (.bipush 10, 2) := by decide +kernel
theorem dX12_init_502 : decode cX12_init 502 = .ok (.newarray .int, 2) := by decide +kernel
theorem dX12_init_504 : decode cX12_init 504 = .ok (.putfield 465, 3) := by decide +kernel
theorem dX12_init_507 : decode cX12_init 507 = .ok (.aload_n 0, 1) := by decide +kernel
theorem dX12_init_508 : decode cX12_init 508 = .ok (.bipush 11, 2) := by decide +kernel
theorem dX12_init_510 : decode cX12_init 510 = .ok (.newarray .int, 2) := by decide +kernel
theorem dX12_init_512 : decode cX12_init 512 = .ok (.putfield 269, 3) := by decide +kernel
theorem dX12_init_515 : decode cX12_init 515 = .ok (.aload_n 0, 1) := by decide +kernel
theorem dX12_init_516 : decode cX12_init 516 = .ok (.bipush 20, 2) := by decide +kernel
theorem dX12_init_518 : decode cX12_init 518 = .ok (.newarray .int, 2) := by decide +kernel
theorem dX12_init_520 : decode cX12_init 520 = .ok (.putfield 472, 3) := by decide +kernel
theorem dX12_init_523 : decode cX12_init 523 = .ok (.aload_n 0, 1) := by decide +kernel
theorem dX12_init_524 : decode cX12_init 524 = .ok (.bipush 20, 2) := by decide +kernel
theorem dX12_init_526 : decode cX12_init 526 = .ok (.newarray .int, 2) := by decide +kernel
theorem dX12_init_528 : decode cX12_init 528 = .ok (.putfield 475, 3) := by decide +kernel
theorem dX12_init_531 : decode cX12_init 531 = .ok (.aload_n 0, 1) := by decide +kernel
theorem dX12_init_532 : decode cX12_init 532 = .ok (.bipush 20, 2) := by decide +kernel
theorem dX12_init_534 : decode cX12_init 534 = .ok (.newarray .int, 2) := by decide +kernel
theorem dX12_init_536 : decode cX12_init 536 = .ok (.putfield 478, 3) := by decide +kernel
theorem dX12_init_539 : decode cX12_init 539 = .ok (.aload_n 0, 1) := by decide +kernel
theorem dX12_init_540 : decode cX12_init 540 = .ok (.bipush 20, 2) := by decide +kernel
theorem dX12_init_542 : decode cX12_init 542 = .ok (.newarray .int, 2) := by decide +kernel
theorem dX12_init_544 : decode cX12_init 544 = .ok (.putfield 481, 3) := by decide +kernel
theorem dX12_init_547 : decode cX12_init 547 = .ok (.aload_n 0, 1) := by decide +kernel
theorem dX12_init_548 : decode cX12_init 548 = .ok (.bipush 6, 2) := by decide +kernel
theorem dX12_init_550 : decode cX12_init 550 = .ok (.newarray .boolean, 2) := by decide +kernel
theorem dX12_init_552 : decode cX12_init 552 = .ok (.putfield 490, 3) := by decide +kernel
theorem dX12_init_555 : decode cX12_init 555 = .ok (.aload_n 0, 1) := by decide +kernel
theorem dX12_init_556 : decode cX12_init 556 = .ok (.bipush 6, 2) := by decide +kernel
theorem dX12_init_558 : decode cX12_init 558 = .ok (.newarray .int, 2) := by decide +kernel
theorem dX12_init_560 : decode cX12_init 560 = .ok (.putfield 493, 3) := by decide +kernel
theorem dX12_init_563 : decode cX12_init 563 = .ok (.aload_n 0, 1) := by decide +kernel
theorem dX12_init_564 : decode cX12_init 564 = .ok (.bipush 6, 2) := by decide +kernel
theorem dX12_init_566 : decode cX12_init 566 = .ok (.newarray .int, 2) := by decide +kernel
theorem dX12_init_568 : decode cX12_init 568 = .ok (.putfield 508, 3) := by decide +kernel
theorem dX12_init_571 : decode cX12_init 571 = .ok (.aload_n 0, 1) := by decide +kernel
theorem dX12_init_572 : decode cX12_init 572 = .ok (.bipush 30, 2) := by decide +kernel
theorem dX12_init_574 : decode cX12_init 574 = .ok (.newarray .int, 2) := by decide +kernel
theorem dX12_init_576 : decode cX12_init 576 = .ok (.putfield 511, 3) := by decide +kernel
theorem dX12_init_579 : decode cX12_init 579 = .ok (.aload_n 0, 1) := by decide +kernel
theorem dX12_init_580 : decode cX12_init 580 = .ok (.bipush 30, 2) := by decide +kernel
theorem dX12_init_582 : decode cX12_init 582 = .ok (.newarray .int, 2) := by decide +kernel
theorem dX12_init_584 : decode cX12_init 584 = .ok (.putfield 514, 3) := by decide +kernel
theorem dX12_init_587 : decode cX12_init 587 = .ok (.aload_n 0, 1) := by decide +kernel
theorem dX12_init_588 : decode cX12_init 588 = .ok (.bipush 30, 2) := by decide +kernel
theorem dX12_init_590 : decode cX12_init 590 = .ok (.newarray .int, 2) := by decide +kernel
theorem dX12_init_592 : decode cX12_init 592 = .ok (.putfield 517, 3) := by decide +kernel
theorem dX12_init_595 : decode cX12_init 595 = .ok (.aload_n 0, 1) := by decide +kernel
theorem dX12_init_596 : decode cX12_init 596 = .ok (.bipush 6, 2) := by decide +kernel
theorem dX12_init_598 : decode cX12_init 598 = .ok (.newarray .int, 2) := by decide +kernel
theorem dX12_init_600 : decode cX12_init 600 = .ok (.putfield 520, 3) := by decide +kernel
theorem dX12_init_603 : decode cX12_init 603 = .ok (.aload_n 0, 1) := by decide +kernel
theorem dX12_init_604 : decode cX12_init 604 = .ok (.iconst 2, 1) := by decide +kernel
theorem dX12_init_605 : decode cX12_init 605 = .ok (.newarray .int, 2) := by decide +kernel
theorem dX12_init_607 : decode cX12_init 607 = .ok (.putfield 537, 3) := by decide +kernel
theorem dX12_init_610 : decode cX12_init 610 = .ok (.aload_n 0, 1) := by decide +kernel
theorem dX12_init_611 : decode cX12_init 611 = .ok (.iconst 2, 1) := by decide +kernel
theorem dX12_init_612 : decode cX12_init 612 = .ok (.newarray .int, 2) := by decide +kernel
theorem dX12_init_614 : decode cX12_init 614 = .ok (.putfield 540, 3) := by decide +kernel
theorem dX12_init_617 : decode cX12_init 617 = .ok (.aload_n 0, 1) := by decide +kernel
theorem dX12_init_618 : decode cX12_init 618 = .ok (.bipush 16, 2) := by decide +kernel
theorem dX12_init_620 : decode cX12_init 620 = .ok (.newarray .int, 2) := by decide +kernel
theorem dX12_init_622 : decode cX12_init 622 = .ok (.putfield 569, 3) := by decide +kernel
theorem dX12_init_625 : decode cX12_init 625 = .ok (.aload_n 0, 1) := by decide +kernel
theorem dX12_init_626 : decode cX12_init 626 = .ok (.bipush 16, 2) := by decide +kernel
theorem dX12_init_628 : decode cX12_init 628 = .ok (.newarray .int, 2) := by decide +kernel
theorem dX12_init_630 : decode cX12_init 630 = .ok (.putfield 572, 3) := by decide +kernel
theorem dX12_init_633 : decode cX12_init 633 = .ok (.aload_n 0, 1) := by decide +kernel
theorem dX12_init_634 : decode cX12_init 634 = .ok (.bipush 16, 2) := by decide +kernel
theorem dX12_init_636 : decode cX12_init 636 = .ok (.newarray .int, 2) := by decide +kernel
theorem dX12_init_638 : decode cX12_init 638 = .ok (.putfield 575, 3) := by decide +kernel
theorem dX12_init_641 : decode cX12_init 641 = .ok (.aload_n 0, 1) := by decide +kernel
theorem dX12_init_642 : decode cX12_init 642 = .ok (.bipush 16, 2) := by decide +kernel
theorem dX12_init_644 : decode cX12_init 644 = .ok (.newarray .int, 2) := by decide +kernel
theorem dX12_init_646 : decode cX12_init 646 = .ok (.putfield 578, 3) := by decide +kernel
theorem dX12_init_649 : decode cX12_init 649 = .ok (.iconst 0, 1) := by decide +kernel
theorem dX12_init_650 : decode cX12_init 650 = .ok (.istore_n 1, 1) := by decide +kernel
theorem dX12_init_651 : decode cX12_init 651 = .ok (.iload_n 1, 1) := by decide +kernel
theorem dX12_init_652 : decode cX12_init 652 = .ok (.iconst 4, 1) := by decide +kernel
theorem dX12_init_653 : decode cX12_init 653 = .ok (.if_icmp .ge 61, 3) := by decide +kernel
theorem dX12_init_656 : decode cX12_init 656 = .ok (.aload_n 0, 1) := by decide +kernel
theorem dX12_init_657 : decode cX12_init 657 = .ok (.getfield 72, 3) := by decide +kernel
theorem dX12_init_660 : decode cX12_init 660 = .ok (.bipush 6, 2) := by decide +kernel
theorem dX12_init_662 : decode cX12_init 662 = .ok (.iload_n 1, 1) := by decide +kernel
theorem dX12_init_663 : decode cX12_init 663 = .ok (.imul, 1) := by decide +kernel
theorem dX12_init_664 : decode cX12_init 664 = .ok (.iconst 1, 1) := by decide +kernel
theorem dX12_init_665 : decode cX12_init 665 = .ok (.iadd, 1) := by decide +kernel
theorem dX12_init_666 : decode cX12_init 666 = .ok (.bipush 10, 2) := by decide +kernel
theorem dX12_init_668 : decode cX12_init 668 = .ok (.iastore, 1) := by decide +kernel
theorem dX12_init_669 : decode cX12_init 669 = .ok (.aload_n 0, 1) := by decide +kernel
theorem dX12_init_670 : decode cX12_init 670 = .ok (.getfield 72, 3) := by decide +kernel
theorem dX12_init_673 : decode cX12_init 673 = .ok (.bipush 6, 2) := by decide +kernel
theorem dX12_init_675 : decode cX12_init 675 = .ok (.iload_n 1, 1) := by decide +kernel
theorem dX12_init_676 : decode cX12_init 676 = .ok (.imul, 1) := by decide +kernel
theorem dX12_init_677 : decode cX12_init 677 = .ok (.iconst 2, 1) := by decide +kernel
theorem dX12_init_678 : decode cX12_init 678 = .ok (.iadd, 1) := by decide +kernel
theorem dX12_init_679 : decode cX12_init 679 = .ok (.bipush 40, 2) := by decide +kernel
theorem dX12_init_681 : decode cX12_init 681 = .ok (.iastore, 1) := by decide +kernel
theorem dX12_init_682 : decode cX12_init 682 = .ok (.aload_n 0, 1) := by decide +kernel
theorem dX12_init_683 : decode cX12_init 683 = .ok (.getfield 72, 3) := by decide +kernel
theorem dX12_init_686 : decode cX12_init 686 = .ok (.bipush 6, 2) := by decide +kernel
theorem dX12_init_688 : decode cX12_init 688 = .ok (.iload_n 1, 1) := by decide +kernel
theorem dX12_init_689 : decode cX12_init 689 = .ok (.imul, 1) := by decide +kernel
theorem dX12_init_690 : decode cX12_init 690 = .ok (.iconst 3, 1) := by decide +kernel
theorem dX12_init_691 : decode cX12_init 691 = .ok (.iadd, 1) := by decide +kernel
theorem dX12_init_692 : decode cX12_init 692 = .ok (.sipush 1000, 3) := by decide +kernel
theorem dX12_init_695 : decode cX12_init 695 = .ok (.iastore, 1) := by decide +kernel
theorem dX12_init_696 : decode cX12_init 696 = .ok (.aload_n 0, 1) := by decide +kernel
theorem dX12_init_697 : decode cX12_init 697 = .ok (.getfield 72, 3) := by decide +kernel
theorem dX12_init_700 : decode cX12_init 700 = .ok (.bipush 6, 2) := by decide +kernel
theorem dX12_init_702 : decode cX12_init 702 = .ok (.iload_n 1, 1) := by decide +kernel
theorem dX12_init_703 : decode cX12_init 703 = .ok (.imul, 1) := by decide +kernel
theorem dX12_init_704 : decode cX12_init 704 = .ok (.iconst 5, 1) := by decide +kernel
theorem dX12_init_705 : decode cX12_init 705 = .ok (.iadd, 1) := by decide +kernel
theorem dX12_init_706 : decode cX12_init 706 = .ok (.iconst 5, 1) := by decide +kernel
theorem dX12_init_707 : decode cX12_init 707 = .ok (.iastore, 1) := by decide +kernel
theorem dX12_init_708 : decode cX12_init 708 = .ok (.iinc 1 1, 3) := by decide +kernel
theorem dX12_init_711 : decode cX12_init 711 = .ok (.goto (-60), 3) := by decide +kernel
theorem dX12_init_714 : decode cX12_init 714 = .ok (.aload_n 0, 1) := by decide +kernel
theorem dX12_init_715 : decode cX12_init 715 = .ok (.getfield 83, 3) := by decide +kernel
theorem dX12_init_718 : decode cX12_init 718 = .ok (.iconst 0, 1) := by decide +kernel
theorem dX12_init_719 : decode cX12_init 719 = .ok (.sipush 500, 3) := by decide +kernel
theorem dX12_init_722 : decode cX12_init 722 = .ok (.iastore, 1) := by decide +kernel
theorem dX12_init_723 : decode cX12_init 723 = .ok (.aload_n 0, 1) := by decide +kernel
theorem dX12_init_724 : decode cX12_init 724 = .ok (.getfield 83, 3) := by decide +kernel
theorem dX12_init_727 : decode cX12_init 727 = .ok (.iconst 1, 1) := by decide +kernel
theorem dX12_init_728 : decode cX12_init 728 = .ok (.iconst 5, 1) := by decide +kernel
theorem dX12_init_729 : decode cX12_init 729 = .ok (.iastore, 1) := by decide +kernel
theorem dX12_init_730 : decode cX12_init 730 = .ok (.aload_n 0, 1) := by decide +kernel
theorem dX12_init_731 : decode cX12_init 731 = .ok (.getfield 83, 3) := by decide +kernel
theorem dX12_init_734 : decode cX12_init 734 = .ok (.iconst 2, 1) := by decide +kernel
theorem dX12_init_735 : decode cX12_init 735 = .ok (.sipush 200, 3) := by decide +kernel
theorem dX12_init_738 : decode cX12_init 738 = .ok (.iastore, 1) := by decide +kernel
theorem dX12_init_739 : decode cX12_init 739 = .ok (.aload_n 0, 1) := by decide +kernel
theorem dX12_init_740 : decode cX12_init 740 = .ok (.getfield 83, 3) := by decide +kernel
theorem dX12_init_743 : decode cX12_init 743 = .ok (.iconst 3, 1) := by decide +kernel
theorem dX12_init_744 : decode cX12_init 744 = .ok (.sipush 15000, 3) := by decide +kernel
theorem dX12_init_747 : decode cX12_init 747 = .ok (.iastore, 1) := by decide +kernel
theorem dX12_init_748 : decode cX12_init 748 = .ok (.aload_n 0, 1) := by decide +kernel
theorem dX12_init_749 : decode cX12_init 749 = .ok (.getfield 83, 3) := by decide +kernel
theorem dX12_init_752 : decode cX12_init 752 = .ok (.iconst 4, 1) := by decide +kernel
theorem dX12_init_753 : decode cX12_init 753 = .ok (.sipush 3000, 3) := by decide +kernel
theorem dX12_init_756 : decode cX12_init 756 = .ok (.iastore, 1) := by decide +kernel
theorem dX12_init_757 : decode cX12_init 757 = .ok (.aload_n 0, 1) := by decide +kernel
theorem dX12_init_758 : decode cX12_init 758 = .ok (.getfield 83, 3) := by decide +kernel
theorem dX12_init_761 : decode cX12_init 761 = .ok (.iconst 5, 1) := by decide +kernel
theorem dX12_init_762 : decode cX12_init 762 = .ok (.bipush 50, 2) := by decide +kernel
theorem dX12_init_764 : decode cX12_init 764 = .ok (.iastore, 1) := by decide +kernel
theorem dX12_init_765 : decode cX12_init 765 = .ok (.aload_n 0, 1) := by decide +kernel
theorem dX12_init_766 : decode cX12_init 766 = .ok (.getfield 83, 3) := by decide +kernel
theorem dX12_init_769 : decode cX12_init 769 = .ok (.bipush 6, 2) := by decide +kernel
theorem dX12_init_771 : decode cX12_init 771 = .ok (.sipush 300, 3) := by decide +kernel
theorem dX12_init_774 : decode cX12_init 774 = .ok (.iastore, 1) := by decide +kernel
theorem dX12_init_775 : decode cX12_init 775 = .ok (.aload_n 0, 1) := by decide +kernel
theorem dX12_init_776 : decode cX12_init 776 = .ok (.iconst 2, 1) := by decide +kernel
theorem dX12_init_777 : decode cX12_init 777 = .ok (.iconst 1, 1) := by decide +kernel
theorem dX12_init_778 : decode cX12_init 778 = .ok (.invokevirtual 52, 3) := by decide +kernel
theorem dX12_init_781 : decode cX12_init 781 = .ok (.return_, 1) := by decide +kernel
theorem dX12_row_0 : decode cX12_row 0 = .ok (.aload_n 0, 1) := by decide +kernel
theorem dX12_row_1 : decode cX12_row 1 = .ok (.iconst 0, 1) := by decide +kernel
theorem dX12_row_2 : decode cX12_row 2 = .ok (.putfield 3, 3) := by decide +kernel
theorem dX12_row_5 : decode cX12_row 5 = .ok (.iload_n 1, 1) := by decide +kernel
theorem dX12_row_6 : decode cX12_row 6 = .ok (.i2l, 1) := by decide +kernel
theorem dX12_row_7 : decode cX12_row 7 = .ok (.lconst 0, 1) := by decide +kernel
theorem dX12_row_8 : decode cX12_row 8 = .ok (.aload_n 0, 1) := by decide +kernel
theorem dX12_row_9 : decode cX12_row 9 = .ok (.getfield 185, 3) := by decide +kernel
theorem dX12_row_12 : decode cX12_row 12 = .ok (.iconst 1, 1) := by decide +kernel
theorem dX12_row_13 : decode cX12_row 13 = .ok (.isub, 1) := by decide +kernel
theorem dX12_row_14 : decode cX12_row 14 = .ok (.i2l, 1) := by decide +kernel
theorem dX12_row_15 : decode cX12_row 15 = .ok (.invokestatic 42, 3) := by decide +kernel
theorem dX12_row_18 : decode cX12_row 18 = .ok (.ifCond .eq 12, 3) := by decide +kernel
theorem dX12_row_21 : decode cX12_row 21 = .ok (.aload_n 0, 1) := by decide +kernel
theorem dX12_row_22 : decode cX12_row 22 = .ok (.getfield 508, 3) := by decide +kernel
theorem dX12_row_25 : decode cX12_row 25 = .ok (.iload_n 1, 1) := by decide +kernel
theorem dX12_row_26 : decode cX12_row 26 = .ok (.iaload, 1) := by decide +kernel
theorem dX12_row_27 : decode cX12_row 27 = .ok (.goto 7, 3) := by decide +kernel
theorem dX12_row_30 : decode cX12_row 30 = .ok (.aload_n 0, 1) := by decide +kernel
theorem dX12_row_31 : decode cX12_row 31 = .ok (.invokevirtual 446, 3) := by decide +kernel
theorem dX12_row_34 : decode cX12_row 34 = .ok (.ireturn, 1) := by decide +kernel
