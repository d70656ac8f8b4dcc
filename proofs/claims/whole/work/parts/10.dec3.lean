theorem dX12_setWord_126 : decode MX12_setWord.2.1 126 = .ok (.iaload, 1) := by decide +kernel
theorem dX12_setWord_127 : decode MX12_setWord.2.1 127 = .ok (.i2l, 1) := by decide +kernel
theorem dX12_setWord_128 : decode MX12_setWord.2.1 128 = .ok (.lastore, 1) := by decide +kernel
theorem dX12_setWord_129 : decode MX12_setWord.2.1 129 = .ok (.return_, 1) := by decide +kernel
theorem dX12_shakesOf_0 : decode MX12_shakesOf.2.1 0 = .ok (.aload_n 0, 1) := by decide +kernel
theorem dX12_shakesOf_1 : decode MX12_shakesOf.2.1 1 = .ok (.iload_n 1, 1) := by decide +kernel
theorem dX12_shakesOf_2 : decode MX12_shakesOf.2.1 2 = .ok (.iload_n 2, 1) := by decide +kernel
theorem dX12_shakesOf_3 : decode MX12_shakesOf.2.1 3 = .ok (.iload_n 3, 1) := by decide +kernel
theorem dX12_shakesOf_4 : decode MX12_shakesOf.2.1 4 = .ok (.invokevirtual 416, 3) := by decide +kernel
theorem dX12_shakesOf_7 : decode MX12_shakesOf.2.1 7 = .ok (.aload_n 0, 1) := by decide +kernel
theorem dX12_shakesOf_8 : decode MX12_shakesOf.2.1 8 = .ok (.iload 4, 2) := by decide +kernel
theorem dX12_shakesOf_10 : decode MX12_shakesOf.2.1 10 = .ok (.iconst 4, 1) := by decide +kernel
theorem dX12_shakesOf_11 : decode MX12_shakesOf.2.1 11 = .ok (.iload_n 2, 1) := by decide +kernel
theorem dX12_shakesOf_12 : decode MX12_shakesOf.2.1 12 = .ok (.iadd, 1) := by decide +kernel
theorem dX12_shakesOf_13 : decode MX12_shakesOf.2.1 13 = .ok (.invokevirtual 210, 3) := by decide +kernel
theorem dX12_shakesOf_16 : decode MX12_shakesOf.2.1 16 = .ok (.istore 5, 2) := by decide +kernel
theorem dX12_shakesOf_18 : decode MX12_shakesOf.2.1 18 = .ok (.aload_n 0, 1) := by decide +kernel
theorem dX12_shakesOf_19 : decode MX12_shakesOf.2.1 19 = .ok (.getfield 105, 3) := by decide +kernel
theorem dX12_shakesOf_22 : decode MX12_shakesOf.2.1 22 = .ok (.bipush 6, 2) := by decide +kernel
theorem dX12_shakesOf_24 : decode MX12_shakesOf.2.1 24 = .ok (.iload 5, 2) := by decide +kernel
theorem dX12_shakesOf_26 : decode MX12_shakesOf.2.1 26 = .ok (.i2l, 1) := by decide +kernel
theorem dX12_shakesOf_27 : decode MX12_shakesOf.2.1 27 = .ok (.lastore, 1) := by decide +kernel
theorem dX12_shakesOf_28 : decode MX12_shakesOf.2.1 28 = .ok (.aload_n 0, 1) := by decide +kernel
theorem dX12_shakesOf_29 : decode MX12_shakesOf.2.1 29 = .ok (.getfield 105, 3) := by decide +kernel
theorem dX12_shakesOf_32 : decode MX12_shakesOf.2.1 32 = .ok (.bipush 7, 2) := by decide +kernel
theorem dX12_shakesOf_34 : decode MX12_shakesOf.2.1 34 = .ok (.iload 4, 2) := by decide +kernel
theorem dX12_shakesOf_36 : decode MX12_shakesOf.2.1 36 = .ok (.i2l, 1) := by decide +kernel
theorem dX12_shakesOf_37 : decode MX12_shakesOf.2.1 37 = .ok (.lastore, 1) := by decide +kernel
theorem dX12_shakesOf_38 : decode MX12_shakesOf.2.1 38 = .ok (.aload_n 0, 1) := by decide +kernel
theorem dX12_shakesOf_39 : decode MX12_shakesOf.2.1 39 = .ok (.getfield 105, 3) := by decide +kernel
theorem dX12_shakesOf_42 : decode MX12_shakesOf.2.1 42 = .ok (.bipush 8, 2) := by decide +kernel
theorem dX12_shakesOf_44 : decode MX12_shakesOf.2.1 44 = .ok (.aload_n 0, 1) := by decide +kernel
theorem dX12_shakesOf_45 : decode MX12_shakesOf.2.1 45 = .ok (.iload 4, 2) := by decide +kernel
theorem dX12_shakesOf_47 : decode MX12_shakesOf.2.1 47 = .ok (.iconst 0, 1) := by decide +kernel
theorem dX12_shakesOf_48 : decode MX12_shakesOf.2.1 48 = .ok (.invokevirtual 210, 3) := by decide +kernel
theorem dX12_shakesOf_51 : decode MX12_shakesOf.2.1 51 = .ok (.i2l, 1) := by decide +kernel
theorem dX12_shakesOf_52 : decode MX12_shakesOf.2.1 52 = .ok (.lastore, 1) := by decide +kernel
theorem dX12_shakesOf_53 : decode MX12_shakesOf.2.1 53 = .ok (.aload_n 0, 1) := by decide +kernel
theorem dX12_shakesOf_54 : decode MX12_shakesOf.2.1 54 = .ok (.iload_n 1, 1) := by decide +kernel
theorem dX12_shakesOf_55 : decode MX12_shakesOf.2.1 55 = .ok (.iconst 0, 1) := by decide +kernel
theorem dX12_shakesOf_56 : decode MX12_shakesOf.2.1 56 = .ok (.invokevirtual 220, 3) := by decide +kernel
theorem dX12_shakesOf_59 : decode MX12_shakesOf.2.1 59 = .ok (.iload_n 3, 1) := by decide +kernel
theorem dX12_shakesOf_60 : decode MX12_shakesOf.2.1 60 = .ok (.imul, 1) := by decide +kernel
theorem dX12_shakesOf_61 : decode MX12_shakesOf.2.1 61 = .ok (.iload 5, 2) := by decide +kernel
theorem dX12_shakesOf_63 : decode MX12_shakesOf.2.1 63 = .ok (.isub, 1) := by decide +kernel
theorem dX12_shakesOf_64 : decode MX12_shakesOf.2.1 64 = .ok (.istore 6, 2) := by decide +kernel
theorem dX12_shakesOf_66 : decode MX12_shakesOf.2.1 66 = .ok (.aload_n 0, 1) := by decide +kernel
theorem dX12_shakesOf_67 : decode MX12_shakesOf.2.1 67 = .ok (.iconst 0, 1) := by decide +kernel
theorem dX12_shakesOf_68 : decode MX12_shakesOf.2.1 68 = .ok (.iload 6, 2) := by decide +kernel
theorem dX12_shakesOf_70 : decode MX12_shakesOf.2.1 70 = .ok (.ifCond .ge 7, 3) := by decide +kernel
theorem dX12_shakesOf_73 : decode MX12_shakesOf.2.1 73 = .ok (.lconst 0, 1) := by decide +kernel
theorem dX12_shakesOf_74 : decode MX12_shakesOf.2.1 74 = .ok (.goto 6, 3) := by decide +kernel
theorem dX12_shakesOf_77 : decode MX12_shakesOf.2.1 77 = .ok (.iload 6, 2) := by decide +kernel
theorem dX12_shakesOf_79 : decode MX12_shakesOf.2.1 79 = .ok (.i2l, 1) := by decide +kernel
theorem dX12_shakesOf_80 : decode MX12_shakesOf.2.1 80 = .ok (.invokevirtual 420, 3) := by decide +kernel
theorem dX12_shakesOf_83 : decode MX12_shakesOf.2.1 83 = .ok (.iconst 0, 1) := by decide +kernel
theorem dX12_shakesOf_84 : decode MX12_shakesOf.2.1 84 = .ok (.sipush 999, 3) := by decide +kernel
theorem dX12_shakesOf_87 : decode MX12_shakesOf.2.1 87 = .ok (.invokestatic 424, 3) := by decide +kernel
theorem dX12_shakesOf_90 : decode MX12_shakesOf.2.1 90 = .ok (.ireturn, 1) := by decide +kernel
theorem dX12_isBarred_0 : decode MX12_isBarred.2.1 0 = .ok (.aload_n 0, 1) := by decide +kernel
theorem dX12_isBarred_1 : decode MX12_isBarred.2.1 1 = .ok (.iload_n 1, 1) := by decide +kernel
theorem dX12_isBarred_2 : decode MX12_isBarred.2.1 2 = .ok (.iload_n 2, 1) := by decide +kernel
theorem dX12_isBarred_3 : decode MX12_isBarred.2.1 3 = .ok (.iload_n 3, 1) := by decide +kernel
theorem dX12_isBarred_4 : decode MX12_isBarred.2.1 4 = .ok (.invokevirtual 416, 3) := by decide +kernel
theorem dX12_isBarred_7 : decode MX12_isBarred.2.1 7 = .ok (.aload_n 0, 1) := by decide +kernel
theorem dX12_isBarred_8 : decode MX12_isBarred.2.1 8 = .ok (.iconst 3, 1) := by decide +kernel
theorem dX12_isBarred_9 : decode MX12_isBarred.2.1 9 = .ok (.lconst 0, 1) := by decide +kernel
theorem dX12_isBarred_10 : decode MX12_isBarred.2.1 10 = .ok (.invokevirtual 420, 3) := by decide +kernel
theorem dX12_isBarred_13 : decode MX12_isBarred.2.1 13 = .ok (.lconst 1, 1) := by decide +kernel
theorem dX12_isBarred_14 : decode MX12_isBarred.2.1 14 = .ok (.lcmp, 1) := by decide +kernel
theorem dX12_isBarred_15 : decode MX12_isBarred.2.1 15 = .ok (.ifCond .ne 7, 3) := by decide +kernel
theorem dX12_isBarred_18 : decode MX12_isBarred.2.1 18 = .ok (.iconst 1, 1) := by decide +kernel
theorem dX12_isBarred_19 : decode MX12_isBarred.2.1 19 = .ok (.goto 4, 3) := by decide +kernel
theorem dX12_isBarred_22 : decode MX12_isBarred.2.1 22 = .ok (.iconst 0, 1) := by decide +kernel
theorem dX12_isBarred_23 : decode MX12_isBarred.2.1 23 = .ok (.ireturn, 1) := by decide +kernel
theorem dX12_skyTells_0 : decode MX12_skyTells.2.1 0 = .ok (.aload_n 0, 1) := by decide +kernel
theorem dX12_skyTells_1 : decode MX12_skyTells.2.1 1 = .ok (.iconst (-1), 1) := by decide +kernel
theorem dX12_skyTells_2 : decode MX12_skyTells.2.1 2 = .ok (.iconst (-1), 1) := by decide +kernel
theorem dX12_skyTells_3 : decode MX12_skyTells.2.1 3 = .ok (.iconst (-1), 1) := by decide +kernel
theorem dX12_skyTells_4 : decode MX12_skyTells.2.1 4 = .ok (.invokevirtual 416, 3) := by decide +kernel
theorem dX12_skyTells_7 : decode MX12_skyTells.2.1 7 = .ok (.aload_n 0, 1) := by decide +kernel
theorem dX12_skyTells_8 : decode MX12_skyTells.2.1 8 = .ok (.getfield 105, 3) := by decide +kernel
theorem dX12_skyTells_11 : decode MX12_skyTells.2.1 11 = .ok (.bipush 7, 2) := by decide +kernel
theorem dX12_skyTells_13 : decode MX12_skyTells.2.1 13 = .ok (.iload_n 2, 1) := by decide +kernel
theorem dX12_skyTells_14 : decode MX12_skyTells.2.1 14 = .ok (.i2l, 1) := by decide +kernel
theorem dX12_skyTells_15 : decode MX12_skyTells.2.1 15 = .ok (.lastore, 1) := by decide +kernel
theorem dX12_skyTells_16 : decode MX12_skyTells.2.1 16 = .ok (.aload_n 0, 1) := by decide +kernel
theorem dX12_skyTells_17 : decode MX12_skyTells.2.1 17 = .ok (.getfield 105, 3) := by decide +kernel
theorem dX12_skyTells_20 : decode MX12_skyTells.2.1 20 = .ok (.bipush 8, 2) := by decide +kernel
theorem dX12_skyTells_22 : decode MX12_skyTells.2.1 22 = .ok (.aload_n 0, 1) := by decide +kernel
theorem dX12_skyTells_23 : decode MX12_skyTells.2.1 23 = .ok (.iload_n 2, 1) := by decide +kernel
theorem dX12_skyTells_24 : decode MX12_skyTells.2.1 24 = .ok (.iconst 0, 1) := by decide +kernel
theorem dX12_skyTells_25 : decode MX12_skyTells.2.1 25 = .ok (.invokevirtual 210, 3) := by decide +kernel
theorem dX12_skyTells_28 : decode MX12_skyTells.2.1 28 = .ok (.i2l, 1) := by decide +kernel
theorem dX12_skyTells_29 : decode MX12_skyTells.2.1 29 = .ok (.lastore, 1) := by decide +kernel
theorem dX12_skyTells_30 : decode MX12_skyTells.2.1 30 = .ok (.aload_n 0, 1) := by decide +kernel
theorem dX12_skyTells_31 : decode MX12_skyTells.2.1 31 = .ok (.iload_n 1, 1) := by decide +kernel
theorem dX12_skyTells_32 : decode MX12_skyTells.2.1 32 = .ok (.lload_n 3, 1) := by decide +kernel
theorem dX12_skyTells_33 : decode MX12_skyTells.2.1 33 = .ok (.invokevirtual 420, 3) := by decide +kernel
theorem dX12_skyTells_36 : decode MX12_skyTells.2.1 36 = .ok (.iconst 0, 1) := by decide +kernel
theorem dX12_skyTells_37 : decode MX12_skyTells.2.1 37 = .ok (.bipush 99, 2) := by decide +kernel
theorem dX12_skyTells_39 : decode MX12_skyTells.2.1 39 = .ok (.invokestatic 424, 3) := by decide +kernel
theorem dX12_skyTells_42 : decode MX12_skyTells.2.1 42 = .ok (.ireturn, 1) := by decide +kernel
theorem dX12_asks_0 : decode MX12_asks.2.1 0 = .ok (.aload_n 0, 1) := by decide +kernel
theorem dX12_asks_1 : decode MX12_asks.2.1 1 = .ok (.iconst 0, 1) := by decide +kernel
theorem dX12_asks_2 : decode MX12_asks.2.1 2 = .ok (.putfield 163, 3) := by decide +kernel
theorem dX12_asks_5 : decode MX12_asks.2.1 5 = .ok (.aload_n 0, 1) := by decide +kernel
theorem dX12_asks_6 : decode MX12_asks.2.1 6 = .ok (.iload_n 1, 1) := by decide +kernel
theorem dX12_asks_7 : decode MX12_asks.2.1 7 = .ok (.invokevirtual 217, 3) := by decide +kernel
theorem dX12_asks_10 : decode MX12_asks.2.1 10 = .ok (.ifCond .eq 41, 3) := by decide +kernel
theorem dX12_asks_13 : decode MX12_asks.2.1 13 = .ok (.iload_n 2, 1) := by decide +kernel
theorem dX12_asks_14 : decode MX12_asks.2.1 14 = .ok (.invokestatic 428, 3) := by decide +kernel
theorem dX12_asks_17 : decode MX12_asks.2.1 17 = .ok (.ifCond .eq 34, 3) := by decide +kernel
theorem dX12_asks_20 : decode MX12_asks.2.1 20 = .ok (.iload_n 3, 1) := by decide +kernel
theorem dX12_asks_21 : decode MX12_asks.2.1 21 = .ok (.invokestatic 431, 3) := by decide +kernel
theorem dX12_asks_24 : decode MX12_asks.2.1 24 = .ok (.ifCond .eq 27, 3) := by decide +kernel
theorem dX12_asks_27 : decode MX12_asks.2.1 27 = .ok (.iload 5, 2) := by decide +kernel
theorem dX12_asks_29 : decode MX12_asks.2.1 29 = .ok (.i2l, 1) := by decide +kernel
theorem dX12_asks_30 : decode MX12_asks.2.1 30 = .ok (.lconst 0, 1) := by decide +kernel
theorem dX12_asks_31 : decode MX12_asks.2.1 31 = .ok (.lconst 1, 1) := by decide +kernel
theorem dX12_asks_32 : decode MX12_asks.2.1 32 = .ok (.invokestatic 183, 3) := by decide +kernel
theorem dX12_asks_35 : decode MX12_asks.2.1 35 = .ok (.ifCond .eq 16, 3) := by decide +kernel
theorem dX12_asks_38 : decode MX12_asks.2.1 38 = .ok (.iload 5, 2) := by decide +kernel
theorem dX12_asks_40 : decode MX12_asks.2.1 40 = .ok (.ifCond .ne 13, 3) := by decide +kernel
theorem dX12_asks_43 : decode MX12_asks.2.1 43 = .ok (.iload 4, 2) := by decide +kernel
theorem dX12_asks_45 : decode MX12_asks.2.1 45 = .ok (.invokestatic 199, 3) := by decide +kernel
theorem dX12_asks_48 : decode MX12_asks.2.1 48 = .ok (.ifCond .ne 5, 3) := by decide +kernel
theorem dX12_asks_51 : decode MX12_asks.2.1 51 = .ok (.iconst (-1), 1) := by decide +kernel
theorem dX12_asks_52 : decode MX12_asks.2.1 52 = .ok (.ireturn, 1) := by decide +kernel
theorem dX12_asks_53 : decode MX12_asks.2.1 53 = .ok (.iload 5, 2) := by decide +kernel
theorem dX12_asks_55 : decode MX12_asks.2.1 55 = .ok (.ifCond .ne 15, 3) := by decide +kernel
theorem dX12_asks_58 : decode MX12_asks.2.1 58 = .ok (.aload_n 0, 1) := by decide +kernel
theorem dX12_asks_59 : decode MX12_asks.2.1 59 = .ok (.iload_n 1, 1) := by decide +kernel
theorem dX12_asks_60 : decode MX12_asks.2.1 60 = .ok (.iload_n 2, 1) := by decide +kernel
theorem dX12_asks_61 : decode MX12_asks.2.1 61 = .ok (.iload_n 3, 1) := by decide +kernel
theorem dX12_asks_62 : decode MX12_asks.2.1 62 = .ok (.iload 4, 2) := by decide +kernel
theorem dX12_asks_64 : decode MX12_asks.2.1 64 = .ok (.invokevirtual 434, 3) := by decide +kernel
theorem dX12_asks_67 : decode MX12_asks.2.1 67 = .ok (.goto 18, 3) := by decide +kernel
theorem dX12_asks_70 : decode MX12_asks.2.1 70 = .ok (.aload_n 0, 1) := by decide +kernel
theorem dX12_asks_71 : decode MX12_asks.2.1 71 = .ok (.iload_n 1, 1) := by decide +kernel
theorem dX12_asks_72 : decode MX12_asks.2.1 72 = .ok (.iload_n 2, 1) := by decide +kernel
theorem dX12_asks_73 : decode MX12_asks.2.1 73 = .ok (.iload_n 3, 1) := by decide +kernel
theorem dX12_asks_74 : decode MX12_asks.2.1 74 = .ok (.invokevirtual 438, 3) := by decide +kernel
theorem dX12_asks_77 : decode MX12_asks.2.1 77 = .ok (.ifCond .eq 7, 3) := by decide +kernel
theorem dX12_asks_80 : decode MX12_asks.2.1 80 = .ok (.iconst 1, 1) := by decide +kernel
theorem dX12_asks_81 : decode MX12_asks.2.1 81 = .ok (.goto 4, 3) := by decide +kernel
theorem dX12_asks_84 : decode MX12_asks.2.1 84 = .ok (.iconst 0, 1) := by decide +kernel
theorem dX12_asks_85 : decode MX12_asks.2.1 85 = .ok (.ireturn, 1) := by decide +kernel
theorem dX12_weather_0 : decode MX12_weather.2.1 0 = .ok (.aload_n 0, 1) := by decide +kernel
theorem dX12_weather_1 : decode MX12_weather.2.1 1 = .ok (.iconst 0, 1) := by decide +kernel
theorem dX12_weather_2 : decode MX12_weather.2.1 2 = .ok (.putfield 163, 3) := by decide +kernel
theorem dX12_weather_5 : decode MX12_weather.2.1 5 = .ok (.iload_n 1, 1) := by decide +kernel
theorem dX12_weather_6 : decode MX12_weather.2.1 6 = .ok (.invokestatic 199, 3) := by decide +kernel
theorem dX12_weather_9 : decode MX12_weather.2.1 9 = .ok (.ifCond .eq 13, 3) := by decide +kernel
theorem dX12_weather_12 : decode MX12_weather.2.1 12 = .ok (.iload_n 2, 1) := by decide +kernel
theorem dX12_weather_13 : decode MX12_weather.2.1 13 = .ok (.i2l, 1) := by decide +kernel
theorem dX12_weather_14 : decode MX12_weather.2.1 14 = .ok (.lconst 0, 1) := by decide +kernel
theorem dX12_weather_15 : decode MX12_weather.2.1 15 = .ok (.lconst 1, 1) := by decide +kernel
theorem dX12_weather_16 : decode MX12_weather.2.1 16 = .ok (.invokestatic 183, 3) := by decide +kernel
theorem dX12_weather_19 : decode MX12_weather.2.1 19 = .ok (.ifCond .ne 5, 3) := by decide +kernel
theorem dX12_weather_22 : decode MX12_weather.2.1 22 = .ok (.iconst (-1), 1) := by decide +kernel
theorem dX12_weather_23 : decode MX12_weather.2.1 23 = .ok (.ireturn, 1) := by decide +kernel
theorem dX12_weather_24 : decode MX12_weather.2.1 24 = .ok (.iload_n 2, 1) := by decide +kernel
theorem dX12_weather_25 : decode MX12_weather.2.1 25 = .ok (.ifCond .ne 15, 3) := by decide +kernel
theorem dX12_weather_28 : decode MX12_weather.2.1 28 = .ok (.aload_n 0, 1) := by decide +kernel
theorem dX12_weather_29 : decode MX12_weather.2.1 29 = .ok (.iconst 1, 1) := by decide +kernel
theorem dX12_weather_30 : decode MX12_weather.2.1 30 = .ok (.iload_n 1, 1) := by decide +kernel
theorem dX12_weather_31 : decode MX12_weather.2.1 31 = .ok (.ldc2_w 270, 3) := by decide +kernel
theorem dX12_weather_34 : decode MX12_weather.2.1 34 = .ok (.invokevirtual 441, 3) := by decide +kernel
theorem dX12_weather_37 : decode MX12_weather.2.1 37 = .ok (.goto 10, 3) := by decide +kernel
theorem dX12_weather_40 : decode MX12_weather.2.1 40 = .ok (.aload_n 0, 1) := by decide +kernel
theorem dX12_weather_41 : decode MX12_weather.2.1 41 = .ok (.iconst 2, 1) := by decide +kernel
theorem dX12_weather_42 : decode MX12_weather.2.1 42 = .ok (.iload_n 1, 1) := by decide +kernel
theorem dX12_weather_43 : decode MX12_weather.2.1 43 = .ok (.lconst 0, 1) := by decide +kernel
theorem dX12_weather_44 : decode MX12_weather.2.1 44 = .ok (.invokevirtual 441, 3) := by decide +kernel
theorem dX12_weather_47 : decode MX12_weather.2.1 47 = .ok (.ireturn, 1) := by decide +kernel
theorem dX12_slide_0 : decode MX12_slide.2.1 0 = .ok (.aload_n 0, 1) := by decide +kernel
theorem dX12_slide_1 : decode MX12_slide.2.1 1 = .ok (.iload_n 1, 1) := by decide +kernel
theorem dX12_slide_2 : decode MX12_slide.2.1 2 = .ok (.iconst 0, 1) := by decide +kernel
theorem dX12_slide_3 : decode MX12_slide.2.1 3 = .ok (.invokevirtual 210, 3) := by decide +kernel
theorem dX12_slide_6 : decode MX12_slide.2.1 6 = .ok (.istore_n 2, 1) := by decide +kernel
theorem dX12_slide_7 : decode MX12_slide.2.1 7 = .ok (.aload_n 0, 1) := by decide +kernel
theorem dX12_slide_8 : decode MX12_slide.2.1 8 = .ok (.iload_n 1, 1) := by decide +kernel
theorem dX12_slide_9 : decode MX12_slide.2.1 9 = .ok (.iconst 2, 1) := by decide +kernel
theorem dX12_slide_10 : decode MX12_slide.2.1 10 = .ok (.invokevirtual 210, 3) := by decide +kernel
theorem dX12_slide_13 : decode MX12_slide.2.1 13 = .ok (.istore_n 3, 1) := by decide +kernel
theorem dX12_slide_14 : decode MX12_slide.2.1 14 = .ok (.iload_n 3, 1) := by decide +kernel
theorem dX12_slide_15 : decode MX12_slide.2.1 15 = .ok (.iconst (-1), 1) := by decide +kernel
theorem dX12_slide_16 : decode MX12_slide.2.1 16 = .ok (.if_icmp .eq 32, 3) := by decide +kernel
theorem dX12_slide_19 : decode MX12_slide.2.1 19 = .ok (.aload_n 0, 1) := by decide +kernel
theorem dX12_slide_20 : decode MX12_slide.2.1 20 = .ok (.getfield 13, 3) := by decide +kernel
theorem dX12_slide_23 : decode MX12_slide.2.1 23 = .ok (.iload_n 3, 1) := by decide +kernel
theorem dX12_slide_24 : decode MX12_slide.2.1 24 = .ok (.iconst 0, 1) := by decide +kernel
theorem dX12_slide_25 : decode MX12_slide.2.1 25 = .ok (.invokestatic 159, 3) := by decide +kernel
theorem dX12_slide_28 : decode MX12_slide.2.1 28 = .ok (.aload_n 0, 1) := by decide +kernel
theorem dX12_slide_29 : decode MX12_slide.2.1 29 = .ok (.iload_n 3, 1) := by decide +kernel
theorem dX12_slide_30 : decode MX12_slide.2.1 30 = .ok (.iconst 0, 1) := by decide +kernel
theorem dX12_slide_31 : decode MX12_slide.2.1 31 = .ok (.invokevirtual 210, 3) := by decide +kernel
theorem dX12_slide_34 : decode MX12_slide.2.1 34 = .ok (.iload_n 2, 1) := by decide +kernel
theorem dX12_slide_35 : decode MX12_slide.2.1 35 = .ok (.iadd, 1) := by decide +kernel
theorem dX12_slide_36 : decode MX12_slide.2.1 36 = .ok (.i2l, 1) := by decide +kernel
theorem dX12_slide_37 : decode MX12_slide.2.1 37 = .ok (.iconst 0, 1) := by decide +kernel
theorem dX12_slide_38 : decode MX12_slide.2.1 38 = .ok (.sipush 9999, 3) := by decide +kernel
theorem dX12_slide_41 : decode MX12_slide.2.1 41 = .ok (.invokestatic 424, 3) := by decide +kernel
theorem dX12_slide_44 : decode MX12_slide.2.1 44 = .ok (.iastore, 1) := by decide +kernel
theorem dX12_slide_45 : decode MX12_slide.2.1 45 = .ok (.goto 38, 3) := by decide +kernel
theorem dX12_slide_48 : decode MX12_slide.2.1 48 = .ok (.aload_n 0, 1) := by decide +kernel
theorem dX12_slide_49 : decode MX12_slide.2.1 49 = .ok (.iload_n 1, 1) := by decide +kernel
theorem dX12_slide_50 : decode MX12_slide.2.1 50 = .ok (.iconst 3, 1) := by decide +kernel
theorem dX12_slide_51 : decode MX12_slide.2.1 51 = .ok (.invokevirtual 210, 3) := by decide +kernel
theorem dX12_slide_54 : decode MX12_slide.2.1 54 = .ok (.iconst 1, 1) := by decide +kernel
theorem dX12_slide_55 : decode MX12_slide.2.1 55 = .ok (.if_icmp .ne 17, 3) := by decide +kernel
theorem dX12_slide_58 : decode MX12_slide.2.1 58 = .ok (.aload_n 0, 1) := by decide +kernel
theorem dX12_slide_59 : decode MX12_slide.2.1 59 = .ok (.getfield 13, 3) := by decide +kernel
theorem dX12_slide_62 : decode MX12_slide.2.1 62 = .ok (.bipush 9, 2) := by decide +kernel
theorem dX12_slide_64 : decode MX12_slide.2.1 64 = .ok (.dup2, 1) := by decide +kernel
theorem dX12_slide_65 : decode MX12_slide.2.1 65 = .ok (.iaload, 1) := by decide +kernel
theorem dX12_slide_66 : decode MX12_slide.2.1 66 = .ok (.iload_n 2, 1) := by decide +kernel
theorem dX12_slide_67 : decode MX12_slide.2.1 67 = .ok (.iadd, 1) := by decide +kernel
theorem dX12_slide_68 : decode MX12_slide.2.1 68 = .ok (.iastore, 1) := by decide +kernel
theorem dX12_slide_69 : decode MX12_slide.2.1 69 = .ok (.goto 14, 3) := by decide +kernel
theorem dX12_slide_72 : decode MX12_slide.2.1 72 = .ok (.aload_n 0, 1) := by decide +kernel
theorem dX12_slide_73 : decode MX12_slide.2.1 73 = .ok (.getfield 13, 3) := by decide +kernel
theorem dX12_slide_76 : decode MX12_slide.2.1 76 = .ok (.bipush 8, 2) := by decide +kernel
theorem dX12_slide_78 : decode MX12_slide.2.1 78 = .ok (.dup2, 1) := by decide +kernel
theorem dX12_slide_79 : decode MX12_slide.2.1 79 = .ok (.iaload, 1) := by decide +kernel
theorem dX12_slide_80 : decode MX12_slide.2.1 80 = .ok (.iload_n 2, 1) := by decide +kernel
theorem dX12_slide_81 : decode MX12_slide.2.1 81 = .ok (.iadd, 1) := by decide +kernel
theorem dX12_slide_82 : decode MX12_slide.2.1 82 = .ok (.iastore, 1) := by decide +kernel
theorem dX12_slide_83 : decode MX12_slide.2.1 83 = .ok (.aload_n 0, 1) := by decide +kernel
theorem dX12_slide_84 : decode MX12_slide.2.1 84 = .ok (.getfield 13, 3) := by decide +kernel
theorem dX12_slide_87 : decode MX12_slide.2.1 87 = .ok (.iload_n 1, 1) := by decide +kernel
theorem dX12_slide_88 : decode MX12_slide.2.1 88 = .ok (.iconst 0, 1) := by decide +kernel
theorem dX12_slide_89 : decode MX12_slide.2.1 89 = .ok (.invokestatic 159, 3) := by decide +kernel
theorem dX12_slide_92 : decode MX12_slide.2.1 92 = .ok (.iconst 0, 1) := by decide +kernel
theorem dX12_slide_93 : decode MX12_slide.2.1 93 = .ok (.iastore, 1) := by decide +kernel
theorem dX12_slide_94 : decode MX12_slide.2.1 94 = .ok (.aload_n 0, 1) := by decide +kernel
theorem dX12_slide_95 : decode MX12_slide.2.1 95 = .ok (.getfield 13, 3) := by decide +kernel
theorem dX12_slide_98 : decode MX12_slide.2.1 98 = .ok (.iload_n 1, 1) := by decide +kernel
theorem dX12_slide_99 : decode MX12_slide.2.1 99 = .ok (.bipush 8, 2) := by decide +kernel
theorem dX12_slide_101 : decode MX12_slide.2.1 101 = .ok (.invokestatic 159, 3) := by decide +kernel
theorem dX12_slide_104 : decode MX12_slide.2.1 104 = .ok (.iconst 0, 1) := by decide +kernel
theorem dX12_slide_105 : decode MX12_slide.2.1 105 = .ok (.iastore, 1) := by decide +kernel
theorem dX12_slide_106 : decode MX12_slide.2.1 106 = .ok (.aload_n 0, 1) := by decide +kernel
theorem dX12_slide_107 : decode MX12_slide.2.1 107 = .ok (.getfield 13, 3) := by decide +kernel
theorem dX12_slide_110 : decode MX12_slide.2.1 110 = .ok (.iload_n 1, 1) := by decide +kernel
theorem dX12_slide_111 : decode MX12_slide.2.1 111 = .ok (.bipush 9, 2) := by decide +kernel
theorem dX12_slide_113 : decode MX12_slide.2.1 113 = .ok (.invokestatic 159, 3) := by decide +kernel
theorem dX12_slide_116 : decode MX12_slide.2.1 116 = .ok (.dup2, 1) := by decide +kernel
theorem dX12_slide_117 : decode MX12_slide.2.1 117 = .ok (.iaload, 1) := by decide +kernel
theorem dX12_slide_118 : decode MX12_slide.2.1 118 = .ok (.iconst 1, 1) := by decide +kernel
theorem dX12_slide_119 : decode MX12_slide.2.1 119 = .ok (.iadd, 1) := by decide +kernel
theorem dX12_slide_120 : decode MX12_slide.2.1 120 = .ok (.iastore, 1) := by decide +kernel
theorem dX12_slide_121 : decode MX12_slide.2.1 121 = .ok (.iconst 0, 1) := by decide +kernel
theorem dX12_slide_122 : decode MX12_slide.2.1 122 = .ok (.istore 4, 2) := by decide +kernel
theorem dX12_slide_124 : decode MX12_slide.2.1 124 = .ok (.iload 4, 2) := by decide +kernel
theorem dX12_slide_126 : decode MX12_slide.2.1 126 = .ok (.bipush 6, 2) := by decide +kernel
theorem dX12_slide_128 : decode MX12_slide.2.1 128 = .ok (.if_icmp .ge 55, 3) := by decide +kernel
theorem dX12_slide_131 : decode MX12_slide.2.1 131 = .ok (.aload_n 0, 1) := by decide +kernel
theorem dX12_slide_132 : decode MX12_slide.2.1 132 = .ok (.getfield 13, 3) := by decide +kernel
theorem dX12_slide_135 : decode MX12_slide.2.1 135 = .ok (.bipush 106, 2) := by decide +kernel
theorem dX12_slide_137 : decode MX12_slide.2.1 137 = .ok (.bipush 6, 2) := by decide +kernel
theorem dX12_slide_139 : decode MX12_slide.2.1 139 = .ok (.iload_n 1, 1) := by decide +kernel
theorem dX12_slide_140 : decode MX12_slide.2.1 140 = .ok (.imul, 1) := by decide +kernel
theorem dX12_slide_141 : decode MX12_slide.2.1 141 = .ok (.iadd, 1) := by decide +kernel
theorem dX12_slide_142 : decode MX12_slide.2.1 142 = .ok (.iload 4, 2) := by decide +kernel
theorem dX12_slide_144 : decode MX12_slide.2.1 144 = .ok (.iadd, 1) := by decide +kernel
theorem dX12_slide_145 : decode MX12_slide.2.1 145 = .ok (.aload_n 0, 1) := by decide +kernel
theorem dX12_slide_146 : decode MX12_slide.2.1 146 = .ok (.getfield 13, 3) := by decide +kernel
theorem dX12_slide_149 : decode MX12_slide.2.1 149 = .ok (.bipush 70, 2) := by decide +kernel
theorem dX12_slide_151 : decode MX12_slide.2.1 151 = .ok (.bipush 6, 2) := by decide +kernel
theorem dX12_slide_153 : decode MX12_slide.2.1 153 = .ok (.iload_n 1, 1) := by decide +kernel
theorem dX12_slide_154 : decode MX12_slide.2.1 154 = .ok (.imul, 1) := by decide +kernel
theorem dX12_slide_155 : decode MX12_slide.2.1 155 = .ok (.iadd, 1) := by decide +kernel
theorem dX12_slide_156 : decode MX12_slide.2.1 156 = .ok (.iload 4, 2) := by decide +kernel
theorem dX12_slide_158 : decode MX12_slide.2.1 158 = .ok (.iadd, 1) := by decide +kernel
theorem dX12_slide_159 : decode MX12_slide.2.1 159 = .ok (.iaload, 1) := by decide +kernel
theorem dX12_slide_160 : decode MX12_slide.2.1 160 = .ok (.iastore, 1) := by decide +kernel
theorem dX12_slide_161 : decode MX12_slide.2.1 161 = .ok (.aload_n 0, 1) := by decide +kernel
theorem dX12_slide_162 : decode MX12_slide.2.1 162 = .ok (.getfield 13, 3) := by decide +kernel
theorem dX12_slide_165 : decode MX12_slide.2.1 165 = .ok (.bipush 70, 2) := by decide +kernel
theorem dX12_slide_167 : decode MX12_slide.2.1 167 = .ok (.bipush 6, 2) := by decide +kernel
theorem dX12_slide_169 : decode MX12_slide.2.1 169 = .ok (.iload_n 1, 1) := by decide +kernel
theorem dX12_slide_170 : decode MX12_slide.2.1 170 = .ok (.imul, 1) := by decide +kernel
theorem dX12_slide_171 : decode MX12_slide.2.1 171 = .ok (.iadd, 1) := by decide +kernel
theorem dX12_slide_172 : decode MX12_slide.2.1 172 = .ok (.iload 4, 2) := by decide +kernel
theorem dX12_slide_174 : decode MX12_slide.2.1 174 = .ok (.iadd, 1) := by decide +kernel
theorem dX12_slide_175 : decode MX12_slide.2.1 175 = .ok (.iconst 0, 1) := by decide +kernel
theorem dX12_slide_176 : decode MX12_slide.2.1 176 = .ok (.iastore, 1) := by decide +kernel
theorem dX12_slide_177 : decode MX12_slide.2.1 177 = .ok (.iinc 4 1, 3) := by decide +kernel
theorem dX12_slide_180 : decode MX12_slide.2.1 180 = .ok (.goto (-56), 3) := by decide +kernel
theorem dX12_slide_183 : decode MX12_slide.2.1 183 = .ok (.return_, 1) := by decide +kernel
theorem dX12_slides_0 : decode MX12_slides.2.1 0 = .ok (.iconst 0, 1) := by decide +kernel
theorem dX12_slides_1 : decode MX12_slides.2.1 1 = .ok (.istore_n 1, 1) := by decide +kernel
theorem dX12_slides_2 : decode MX12_slides.2.1 2 = .ok (.iconst 0, 1) := by decide +kernel
theorem dX12_slides_3 : decode MX12_slides.2.1 3 = .ok (.istore_n 2, 1) := by decide +kernel
theorem dX12_slides_4 : decode MX12_slides.2.1 4 = .ok (.iload_n 2, 1) := by decide +kernel
theorem dX12_slides_5 : decode MX12_slides.2.1 5 = .ok (.bipush 6, 2) := by decide +kernel
theorem dX12_slides_7 : decode MX12_slides.2.1 7 = .ok (.if_icmp .ge 54, 3) := by decide +kernel
theorem dX12_slides_10 : decode MX12_slides.2.1 10 = .ok (.aload_n 0, 1) := by decide +kernel
theorem dX12_slides_11 : decode MX12_slides.2.1 11 = .ok (.iload_n 2, 1) := by decide +kernel
theorem dX12_slides_12 : decode MX12_slides.2.1 12 = .ok (.iconst 0, 1) := by decide +kernel
theorem dX12_slides_13 : decode MX12_slides.2.1 13 = .ok (.invokevirtual 210, 3) := by decide +kernel
theorem dX12_slides_16 : decode MX12_slides.2.1 16 = .ok (.ifCond .le 39, 3) := by decide +kernel
theorem dX12_slides_19 : decode MX12_slides.2.1 19 = .ok (.aload_n 0, 1) := by decide +kernel
theorem dX12_slides_20 : decode MX12_slides.2.1 20 = .ok (.iload_n 2, 1) := by decide +kernel
theorem dX12_slides_21 : decode MX12_slides.2.1 21 = .ok (.iconst 0, 1) := by decide +kernel
theorem dX12_slides_22 : decode MX12_slides.2.1 22 = .ok (.invokevirtual 210, 3) := by decide +kernel
theorem dX12_slides_25 : decode MX12_slides.2.1 25 = .ok (.aload_n 0, 1) := by decide +kernel
theorem dX12_slides_26 : decode MX12_slides.2.1 26 = .ok (.iload_n 2, 1) := by decide +kernel
theorem dX12_slides_27 : decode MX12_slides.2.1 27 = .ok (.bipush 8, 2) := by decide +kernel
theorem dX12_slides_29 : decode MX12_slides.2.1 29 = .ok (.invokevirtual 210, 3) := by decide +kernel
theorem dX12_slides_32 : decode MX12_slides.2.1 32 = .ok (.iadd, 1) := by decide +kernel
theorem dX12_slides_33 : decode MX12_slides.2.1 33 = .ok (.aload_n 0, 1) := by decide +kernel
theorem dX12_slides_34 : decode MX12_slides.2.1 34 = .ok (.iload_n 2, 1) := by decide +kernel
theorem dX12_slides_35 : decode MX12_slides.2.1 35 = .ok (.iconst 1, 1) := by decide +kernel
theorem dX12_slides_36 : decode MX12_slides.2.1 36 = .ok (.invokevirtual 210, 3) := by decide +kernel
theorem dX12_slides_39 : decode MX12_slides.2.1 39 = .ok (.if_icmp .le 16, 3) := by decide +kernel
theorem dX12_slides_42 : decode MX12_slides.2.1 42 = .ok (.aload_n 0, 1) := by decide +kernel
theorem dX12_slides_43 : decode MX12_slides.2.1 43 = .ok (.iload_n 2, 1) := by decide +kernel
theorem dX12_slides_44 : decode MX12_slides.2.1 44 = .ok (.invokevirtual 445, 3) := by decide +kernel
theorem dX12_slides_47 : decode MX12_slides.2.1 47 = .ok (.iinc 1 1, 3) := by decide +kernel
theorem dX12_slides_50 : decode MX12_slides.2.1 50 = .ok (.iconst 0, 1) := by decide +kernel
theorem dX12_slides_51 : decode MX12_slides.2.1 51 = .ok (.istore_n 2, 1) := by decide +kernel
theorem dX12_slides_52 : decode MX12_slides.2.1 52 = .ok (.goto (-48), 3) := by decide +kernel
theorem dX12_slides_55 : decode MX12_slides.2.1 55 = .ok (.iinc 2 1, 3) := by decide +kernel
theorem dX12_slides_58 : decode MX12_slides.2.1 58 = .ok (.goto (-54), 3) := by decide +kernel
theorem dX12_slides_61 : decode MX12_slides.2.1 61 = .ok (.iload_n 1, 1) := by decide +kernel
theorem dX12_slides_62 : decode MX12_slides.2.1 62 = .ok (.ireturn, 1) := by decide +kernel
theorem dX12_sayIt_0 : decode MX12_sayIt.2.1 0 = .ok (.iconst 0, 1) := by decide +kernel
theorem dX12_sayIt_1 : decode MX12_sayIt.2.1 1 = .ok (.istore 5, 2) := by decide +kernel
theorem dX12_sayIt_3 : decode MX12_sayIt.2.1 3 = .ok (.iload 5, 2) := by decide +kernel
theorem dX12_sayIt_5 : decode MX12_sayIt.2.1 5 = .ok (.bipush 6, 2) := by decide +kernel
theorem dX12_sayIt_7 : decode MX12_sayIt.2.1 7 = .ok (.if_icmp .ge 26, 3) := by decide +kernel
theorem dX12_sayIt_10 : decode MX12_sayIt.2.1 10 = .ok (.aload_n 0, 1) := by decide +kernel
theorem dX12_sayIt_11 : decode MX12_sayIt.2.1 11 = .ok (.getfield 114, 3) := by decide +kernel
theorem dX12_sayIt_14 : decode MX12_sayIt.2.1 14 = .ok (.iload 5, 2) := by decide +kernel
theorem dX12_sayIt_16 : decode MX12_sayIt.2.1 16 = .ok (.aload_n 0, 1) := by decide +kernel
theorem dX12_sayIt_17 : decode MX12_sayIt.2.1 17 = .ok (.iload_n 2, 1) := by decide +kernel
theorem dX12_sayIt_18 : decode MX12_sayIt.2.1 18 = .ok (.iload_n 3, 1) := by decide +kernel
theorem dX12_sayIt_19 : decode MX12_sayIt.2.1 19 = .ok (.iload 4, 2) := by decide +kernel
theorem dX12_sayIt_21 : decode MX12_sayIt.2.1 21 = .ok (.iload 5, 2) := by decide +kernel
theorem dX12_sayIt_23 : decode MX12_sayIt.2.1 23 = .ok (.invokevirtual 434, 3) := by decide +kernel
theorem dX12_sayIt_26 : decode MX12_sayIt.2.1 26 = .ok (.iastore, 1) := by decide +kernel
theorem dX12_sayIt_27 : decode MX12_sayIt.2.1 27 = .ok (.iinc 5 1, 3) := by decide +kernel
theorem dX12_sayIt_30 : decode MX12_sayIt.2.1 30 = .ok (.goto (-27), 3) := by decide +kernel
theorem dX12_sayIt_33 : decode MX12_sayIt.2.1 33 = .ok (.iconst 0, 1) := by decide +kernel
theorem dX12_sayIt_34 : decode MX12_sayIt.2.1 34 = .ok (.istore 5, 2) := by decide +kernel
theorem dX12_sayIt_36 : decode MX12_sayIt.2.1 36 = .ok (.iload 5, 2) := by decide +kernel
theorem dX12_sayIt_38 : decode MX12_sayIt.2.1 38 = .ok (.bipush 6, 2) := by decide +kernel
theorem dX12_sayIt_40 : decode MX12_sayIt.2.1 40 = .ok (.if_icmp .ge 56, 3) := by decide +kernel
theorem dX12_sayIt_43 : decode MX12_sayIt.2.1 43 = .ok (.aload_n 0, 1) := by decide +kernel
theorem dX12_sayIt_44 : decode MX12_sayIt.2.1 44 = .ok (.getfield 13, 3) := by decide +kernel
theorem dX12_sayIt_47 : decode MX12_sayIt.2.1 47 = .ok (.iload 5, 2) := by decide +kernel
theorem dX12_sayIt_49 : decode MX12_sayIt.2.1 49 = .ok (.bipush 8, 2) := by decide +kernel
theorem dX12_sayIt_51 : decode MX12_sayIt.2.1 51 = .ok (.invokestatic 159, 3) := by decide +kernel
theorem dX12_sayIt_54 : decode MX12_sayIt.2.1 54 = .ok (.dup2, 1) := by decide +kernel
theorem dX12_sayIt_55 : decode MX12_sayIt.2.1 55 = .ok (.iaload, 1) := by decide +kernel
theorem dX12_sayIt_56 : decode MX12_sayIt.2.1 56 = .ok (.aload_n 0, 1) := by decide +kernel
theorem dX12_sayIt_57 : decode MX12_sayIt.2.1 57 = .ok (.getfield 114, 3) := by decide +kernel
theorem dX12_sayIt_60 : decode MX12_sayIt.2.1 60 = .ok (.iload 5, 2) := by decide +kernel
theorem dX12_sayIt_62 : decode MX12_sayIt.2.1 62 = .ok (.iaload, 1) := by decide +kernel
theorem dX12_sayIt_63 : decode MX12_sayIt.2.1 63 = .ok (.iadd, 1) := by decide +kernel
theorem dX12_sayIt_64 : decode MX12_sayIt.2.1 64 = .ok (.iastore, 1) := by decide +kernel
theorem dX12_sayIt_65 : decode MX12_sayIt.2.1 65 = .ok (.aload_n 0, 1) := by decide +kernel
theorem dX12_sayIt_66 : decode MX12_sayIt.2.1 66 = .ok (.getfield 13, 3) := by decide +kernel
theorem dX12_sayIt_69 : decode MX12_sayIt.2.1 69 = .ok (.bipush 70, 2) := by decide +kernel
theorem dX12_sayIt_71 : decode MX12_sayIt.2.1 71 = .ok (.bipush 6, 2) := by decide +kernel
theorem dX12_sayIt_73 : decode MX12_sayIt.2.1 73 = .ok (.iload 5, 2) := by decide +kernel
theorem dX12_sayIt_75 : decode MX12_sayIt.2.1 75 = .ok (.imul, 1) := by decide +kernel
theorem dX12_sayIt_76 : decode MX12_sayIt.2.1 76 = .ok (.iadd, 1) := by decide +kernel
theorem dX12_sayIt_77 : decode MX12_sayIt.2.1 77 = .ok (.iload_n 1, 1) := by decide +kernel
theorem dX12_sayIt_78 : decode MX12_sayIt.2.1 78 = .ok (.iadd, 1) := by decide +kernel
theorem dX12_sayIt_79 : decode MX12_sayIt.2.1 79 = .ok (.dup2, 1) := by decide +kernel
theorem dX12_sayIt_80 : decode MX12_sayIt.2.1 80 = .ok (.iaload, 1) := by decide +kernel
theorem dX12_sayIt_81 : decode MX12_sayIt.2.1 81 = .ok (.aload_n 0, 1) := by decide +kernel
theorem dX12_sayIt_82 : decode MX12_sayIt.2.1 82 = .ok (.getfield 114, 3) := by decide +kernel
theorem dX12_sayIt_85 : decode MX12_sayIt.2.1 85 = .ok (.iload 5, 2) := by decide +kernel
theorem dX12_sayIt_87 : decode MX12_sayIt.2.1 87 = .ok (.iaload, 1) := by decide +kernel
theorem dX12_sayIt_88 : decode MX12_sayIt.2.1 88 = .ok (.iadd, 1) := by decide +kernel
theorem dX12_sayIt_89 : decode MX12_sayIt.2.1 89 = .ok (.iastore, 1) := by decide +kernel
theorem dX12_sayIt_90 : decode MX12_sayIt.2.1 90 = .ok (.iinc 5 1, 3) := by decide +kernel
theorem dX12_sayIt_93 : decode MX12_sayIt.2.1 93 = .ok (.goto (-57), 3) := by decide +kernel
theorem dX12_sayIt_96 : decode MX12_sayIt.2.1 96 = .ok (.aload_n 0, 1) := by decide +kernel
theorem dX12_sayIt_97 : decode MX12_sayIt.2.1 97 = .ok (.invokevirtual 448, 3) := by decide +kernel
theorem dX12_sayIt_100 : decode MX12_sayIt.2.1 100 = .ok (.ireturn, 1) := by decide +kernel
theorem dX12_dawnIt_0 : decode MX12_dawnIt.2.1 0 = .ok (.aload_n 0, 1) := by decide +kernel
theorem dX12_dawnIt_1 : decode MX12_dawnIt.2.1 1 = .ok (.getfield 13, 3) := by decide +kernel
theorem dX12_dawnIt_4 : decode MX12_dawnIt.2.1 4 = .ok (.bipush 6, 2) := by decide +kernel
theorem dX12_dawnIt_6 : decode MX12_dawnIt.2.1 6 = .ok (.dup2, 1) := by decide +kernel
theorem dX12_dawnIt_7 : decode MX12_dawnIt.2.1 7 = .ok (.iaload, 1) := by decide +kernel
theorem dX12_dawnIt_8 : decode MX12_dawnIt.2.1 8 = .ok (.iconst 1, 1) := by decide +kernel
theorem dX12_dawnIt_9 : decode MX12_dawnIt.2.1 9 = .ok (.iadd, 1) := by decide +kernel
theorem dX12_dawnIt_10 : decode MX12_dawnIt.2.1 10 = .ok (.iastore, 1) := by decide +kernel
theorem dX12_dawnIt_11 : decode MX12_dawnIt.2.1 11 = .ok (.iconst 0, 1) := by decide +kernel
theorem dX12_dawnIt_12 : decode MX12_dawnIt.2.1 12 = .ok (.istore_n 1, 1) := by decide +kernel
theorem dX12_dawnIt_13 : decode MX12_dawnIt.2.1 13 = .ok (.iload_n 1, 1) := by decide +kernel
theorem dX12_dawnIt_14 : decode MX12_dawnIt.2.1 14 = .ok (.bipush 6, 2) := by decide +kernel
theorem dX12_dawnIt_16 : decode MX12_dawnIt.2.1 16 = .ok (.if_icmp .ge 51, 3) := by decide +kernel
theorem dX12_dawnIt_19 : decode MX12_dawnIt.2.1 19 = .ok (.aload_n 0, 1) := by decide +kernel
theorem dX12_dawnIt_20 : decode MX12_dawnIt.2.1 20 = .ok (.iconst 1, 1) := by decide +kernel
theorem dX12_dawnIt_21 : decode MX12_dawnIt.2.1 21 = .ok (.iload_n 1, 1) := by decide +kernel
theorem dX12_dawnIt_22 : decode MX12_dawnIt.2.1 22 = .ok (.ldc2_w 270, 3) := by decide +kernel
theorem dX12_dawnIt_25 : decode MX12_dawnIt.2.1 25 = .ok (.invokevirtual 441, 3) := by decide +kernel
theorem dX12_dawnIt_28 : decode MX12_dawnIt.2.1 28 = .ok (.istore_n 2, 1) := by decide +kernel
theorem dX12_dawnIt_29 : decode MX12_dawnIt.2.1 29 = .ok (.aload_n 0, 1) := by decide +kernel
theorem dX12_dawnIt_30 : decode MX12_dawnIt.2.1 30 = .ok (.iconst 2, 1) := by decide +kernel
theorem dX12_dawnIt_31 : decode MX12_dawnIt.2.1 31 = .ok (.iload_n 1, 1) := by decide +kernel
theorem dX12_dawnIt_32 : decode MX12_dawnIt.2.1 32 = .ok (.lconst 0, 1) := by decide +kernel
theorem dX12_dawnIt_33 : decode MX12_dawnIt.2.1 33 = .ok (.invokevirtual 441, 3) := by decide +kernel
theorem dX12_dawnIt_36 : decode MX12_dawnIt.2.1 36 = .ok (.istore_n 3, 1) := by decide +kernel
theorem dX12_dawnIt_37 : decode MX12_dawnIt.2.1 37 = .ok (.aload_n 0, 1) := by decide +kernel
theorem dX12_dawnIt_38 : decode MX12_dawnIt.2.1 38 = .ok (.getfield 117, 3) := by decide +kernel
theorem dX12_dawnIt_41 : decode MX12_dawnIt.2.1 41 = .ok (.iload_n 1, 1) := by decide +kernel
theorem dX12_dawnIt_42 : decode MX12_dawnIt.2.1 42 = .ok (.aload_n 0, 1) := by decide +kernel
theorem dX12_dawnIt_43 : decode MX12_dawnIt.2.1 43 = .ok (.iload_n 1, 1) := by decide +kernel
theorem dX12_dawnIt_44 : decode MX12_dawnIt.2.1 44 = .ok (.iconst 0, 1) := by decide +kernel
theorem dX12_dawnIt_45 : decode MX12_dawnIt.2.1 45 = .ok (.invokevirtual 210, 3) := by decide +kernel
theorem dX12_dawnIt_48 : decode MX12_dawnIt.2.1 48 = .ok (.iload_n 2, 1) := by decide +kernel
theorem dX12_dawnIt_49 : decode MX12_dawnIt.2.1 49 = .ok (.iadd, 1) := by decide +kernel
theorem dX12_dawnIt_50 : decode MX12_dawnIt.2.1 50 = .ok (.iload_n 3, 1) := by decide +kernel
theorem dX12_dawnIt_51 : decode MX12_dawnIt.2.1 51 = .ok (.isub, 1) := by decide +kernel
theorem dX12_dawnIt_52 : decode MX12_dawnIt.2.1 52 = .ok (.i2l, 1) := by decide +kernel
theorem dX12_dawnIt_53 : decode MX12_dawnIt.2.1 53 = .ok (.iconst 0, 1) := by decide +kernel
theorem dX12_dawnIt_54 : decode MX12_dawnIt.2.1 54 = .ok (.sipush 9999, 3) := by decide +kernel
theorem dX12_dawnIt_57 : decode MX12_dawnIt.2.1 57 = .ok (.invokestatic 424, 3) := by decide +kernel
theorem dX12_dawnIt_60 : decode MX12_dawnIt.2.1 60 = .ok (.iastore, 1) := by decide +kernel
theorem dX12_dawnIt_61 : decode MX12_dawnIt.2.1 61 = .ok (.iinc 1 1, 3) := by decide +kernel
theorem dX12_dawnIt_64 : decode MX12_dawnIt.2.1 64 = .ok (.goto (-51), 3) := by decide +kernel
theorem dX12_dawnIt_67 : decode MX12_dawnIt.2.1 67 = .ok (.iconst 0, 1) := by decide +kernel
theorem dX12_dawnIt_68 : decode MX12_dawnIt.2.1 68 = .ok (.istore_n 1, 1) := by decide +kernel
theorem dX12_dawnIt_69 : decode MX12_dawnIt.2.1 69 = .ok (.iload_n 1, 1) := by decide +kernel
theorem dX12_dawnIt_70 : decode MX12_dawnIt.2.1 70 = .ok (.bipush 6, 2) := by decide +kernel
theorem dX12_dawnIt_72 : decode MX12_dawnIt.2.1 72 = .ok (.if_icmp .ge 37, 3) := by decide +kernel
theorem dX12_dawnIt_75 : decode MX12_dawnIt.2.1 75 = .ok (.aload_n 0, 1) := by decide +kernel
theorem dX12_dawnIt_76 : decode MX12_dawnIt.2.1 76 = .ok (.getfield 13, 3) := by decide +kernel
theorem dX12_dawnIt_79 : decode MX12_dawnIt.2.1 79 = .ok (.iload_n 1, 1) := by decide +kernel
theorem dX12_dawnIt_80 : decode MX12_dawnIt.2.1 80 = .ok (.iconst 0, 1) := by decide +kernel
theorem dX12_dawnIt_81 : decode MX12_dawnIt.2.1 81 = .ok (.invokestatic 159, 3) := by decide +kernel
theorem dX12_dawnIt_84 : decode MX12_dawnIt.2.1 84 = .ok (.aload_n 0, 1) := by decide +kernel
theorem dX12_dawnIt_85 : decode MX12_dawnIt.2.1 85 = .ok (.getfield 117, 3) := by decide +kernel
theorem dX12_dawnIt_88 : decode MX12_dawnIt.2.1 88 = .ok (.iload_n 1, 1) := by decide +kernel
theorem dX12_dawnIt_89 : decode MX12_dawnIt.2.1 89 = .ok (.iaload, 1) := by decide +kernel
theorem dX12_dawnIt_90 : decode MX12_dawnIt.2.1 90 = .ok (.iastore, 1) := by decide +kernel
theorem dX12_dawnIt_91 : decode MX12_dawnIt.2.1 91 = .ok (.aload_n 0, 1) := by decide +kernel
theorem dX12_dawnIt_92 : decode MX12_dawnIt.2.1 92 = .ok (.getfield 13, 3) := by decide +kernel
theorem dX12_dawnIt_95 : decode MX12_dawnIt.2.1 95 = .ok (.iload_n 1, 1) := by decide +kernel
theorem dX12_dawnIt_96 : decode MX12_dawnIt.2.1 96 = .ok (.bipush 8, 2) := by decide +kernel
theorem dX12_dawnIt_98 : decode MX12_dawnIt.2.1 98 = .ok (.invokestatic 159, 3) := by decide +kernel
theorem dX12_dawnIt_101 : decode MX12_dawnIt.2.1 101 = .ok (.iconst 0, 1) := by decide +kernel
theorem dX12_dawnIt_102 : decode MX12_dawnIt.2.1 102 = .ok (.iastore, 1) := by decide +kernel
theorem dX12_dawnIt_103 : decode MX12_dawnIt.2.1 103 = .ok (.iinc 1 1, 3) := by decide +kernel
theorem dX12_dawnIt_106 : decode MX12_dawnIt.2.1 106 = .ok (.goto (-37), 3) := by decide +kernel
theorem dX12_dawnIt_109 : decode MX12_dawnIt.2.1 109 = .ok (.iconst 0, 1) := by decide +kernel
theorem dX12_dawnIt_110 : decode MX12_dawnIt.2.1 110 = .ok (.istore_n 1, 1) := by decide +kernel
theorem dX12_dawnIt_111 : decode MX12_dawnIt.2.1 111 = .ok (.iload_n 1, 1) := by decide +kernel
theorem dX12_dawnIt_112 : decode MX12_dawnIt.2.1 112 = .ok (.bipush 36, 2) := by decide +kernel
theorem dX12_dawnIt_114 : decode MX12_dawnIt.2.1 114 = .ok (.if_icmp .ge 19, 3) := by decide +kernel
theorem dX12_dawnIt_117 : decode MX12_dawnIt.2.1 117 = .ok (.aload_n 0, 1) := by decide +kernel
theorem dX12_dawnIt_118 : decode MX12_dawnIt.2.1 118 = .ok (.getfield 13, 3) := by decide +kernel
theorem dX12_dawnIt_121 : decode MX12_dawnIt.2.1 121 = .ok (.bipush 70, 2) := by decide +kernel
theorem dX12_dawnIt_123 : decode MX12_dawnIt.2.1 123 = .ok (.iload_n 1, 1) := by decide +kernel
theorem dX12_dawnIt_124 : decode MX12_dawnIt.2.1 124 = .ok (.iadd, 1) := by decide +kernel
theorem dX12_dawnIt_125 : decode MX12_dawnIt.2.1 125 = .ok (.iconst 0, 1) := by decide +kernel
theorem dX12_dawnIt_126 : decode MX12_dawnIt.2.1 126 = .ok (.iastore, 1) := by decide +kernel
theorem dX12_dawnIt_127 : decode MX12_dawnIt.2.1 127 = .ok (.iinc 1 1, 3) := by decide +kernel
theorem dX12_dawnIt_130 : decode MX12_dawnIt.2.1 130 = .ok (.goto (-19), 3) := by decide +kernel
theorem dX12_dawnIt_133 : decode MX12_dawnIt.2.1 133 = .ok (.aload_n 0, 1) := by decide +kernel
theorem dX12_dawnIt_134 : decode MX12_dawnIt.2.1 134 = .ok (.invokevirtual 448, 3) := by decide +kernel
theorem dX12_dawnIt_137 : decode MX12_dawnIt.2.1 137 = .ok (.ireturn, 1) := by decide +kernel
theorem dX12_sayNow_0 : decode MX12_sayNow.2.1 0 = .ok (.iload_n 1, 1) := by decide +kernel
theorem dX12_sayNow_1 : decode MX12_sayNow.2.1 1 = .ok (.i2l, 1) := by decide +kernel
theorem dX12_sayNow_2 : decode MX12_sayNow.2.1 2 = .ok (.lconst 0, 1) := by decide +kernel
theorem dX12_sayNow_3 : decode MX12_sayNow.2.1 3 = .ok (.ldc2_w 187, 3) := by decide +kernel
theorem dX12_sayNow_6 : decode MX12_sayNow.2.1 6 = .ok (.invokestatic 183, 3) := by decide +kernel
theorem dX12_sayNow_9 : decode MX12_sayNow.2.1 9 = .ok (.ifCond .eq 18, 3) := by decide +kernel
theorem dX12_sayNow_12 : decode MX12_sayNow.2.1 12 = .ok (.iload_n 3, 1) := by decide +kernel
theorem dX12_sayNow_13 : decode MX12_sayNow.2.1 13 = .ok (.invokestatic 428, 3) := by decide +kernel
theorem dX12_sayNow_16 : decode MX12_sayNow.2.1 16 = .ok (.ifCond .eq 11, 3) := by decide +kernel
theorem dX12_sayNow_19 : decode MX12_sayNow.2.1 19 = .ok (.iload 4, 2) := by decide +kernel
theorem dX12_sayNow_21 : decode MX12_sayNow.2.1 21 = .ok (.invokestatic 431, 3) := by decide +kernel
theorem dX12_sayNow_24 : decode MX12_sayNow.2.1 24 = .ok (.ifCond .ne 5, 3) := by decide +kernel
theorem dX12_sayNow_27 : decode MX12_sayNow.2.1 27 = .ok (.iconst (-1), 1) := by decide +kernel
theorem dX12_sayNow_28 : decode MX12_sayNow.2.1 28 = .ok (.ireturn, 1) := by decide +kernel
theorem dX12_sayNow_29 : decode MX12_sayNow.2.1 29 = .ok (.aload_n 0, 1) := by decide +kernel
theorem dX12_sayNow_30 : decode MX12_sayNow.2.1 30 = .ok (.iload_n 2, 1) := by decide +kernel
theorem dX12_sayNow_31 : decode MX12_sayNow.2.1 31 = .ok (.invokevirtual 217, 3) := by decide +kernel
theorem dX12_sayNow_34 : decode MX12_sayNow.2.1 34 = .ok (.ifCond .ne 6, 3) := by decide +kernel
theorem dX12_sayNow_37 : decode MX12_sayNow.2.1 37 = .ok (.bipush (-2), 2) := by decide +kernel
theorem dX12_sayNow_39 : decode MX12_sayNow.2.1 39 = .ok (.ireturn, 1) := by decide +kernel
theorem dX12_sayNow_40 : decode MX12_sayNow.2.1 40 = .ok (.aload_n 0, 1) := by decide +kernel
theorem dX12_sayNow_41 : decode MX12_sayNow.2.1 41 = .ok (.iload_n 2, 1) := by decide +kernel
theorem dX12_sayNow_42 : decode MX12_sayNow.2.1 42 = .ok (.iload_n 3, 1) := by decide +kernel
theorem dX12_sayNow_43 : decode MX12_sayNow.2.1 43 = .ok (.iload 4, 2) := by decide +kernel
theorem dX12_sayNow_45 : decode MX12_sayNow.2.1 45 = .ok (.invokevirtual 438, 3) := by decide +kernel
theorem dX12_sayNow_48 : decode MX12_sayNow.2.1 48 = .ok (.ifCond .eq 6, 3) := by decide +kernel
theorem dX12_sayNow_51 : decode MX12_sayNow.2.1 51 = .ok (.bipush (-3), 2) := by decide +kernel
theorem dX12_sayNow_53 : decode MX12_sayNow.2.1 53 = .ok (.ireturn, 1) := by decide +kernel
theorem dX12_sayNow_54 : decode MX12_sayNow.2.1 54 = .ok (.aload_n 0, 1) := by decide +kernel
theorem dX12_sayNow_55 : decode MX12_sayNow.2.1 55 = .ok (.iconst 0, 1) := by decide +kernel
theorem dX12_sayNow_56 : decode MX12_sayNow.2.1 56 = .ok (.invokevirtual 451, 3) := by decide +kernel
theorem dX12_sayNow_59 : decode MX12_sayNow.2.1 59 = .ok (.aload_n 0, 1) := by decide +kernel
theorem dX12_sayNow_60 : decode MX12_sayNow.2.1 60 = .ok (.iload_n 1, 1) := by decide +kernel
theorem dX12_sayNow_61 : decode MX12_sayNow.2.1 61 = .ok (.iload_n 2, 1) := by decide +kernel
theorem dX12_sayNow_62 : decode MX12_sayNow.2.1 62 = .ok (.iload_n 3, 1) := by decide +kernel
theorem dX12_sayNow_63 : decode MX12_sayNow.2.1 63 = .ok (.iload 4, 2) := by decide +kernel
theorem dX12_sayNow_65 : decode MX12_sayNow.2.1 65 = .ok (.invokevirtual 454, 3) := by decide +kernel
theorem dX12_sayNow_68 : decode MX12_sayNow.2.1 68 = .ok (.ireturn, 1) := by decide +kernel
theorem dX12_dawnNow_0 : decode MX12_dawnNow.2.1 0 = .ok (.aload_n 0, 1) := by decide +kernel
theorem dX12_dawnNow_1 : decode MX12_dawnNow.2.1 1 = .ok (.invokevirtual 413, 3) := by decide +kernel
theorem dX12_dawnNow_4 : decode MX12_dawnNow.2.1 4 = .ok (.sipush 999, 3) := by decide +kernel
theorem dX12_dawnNow_7 : decode MX12_dawnNow.2.1 7 = .ok (.if_icmp .ne 6, 3) := by decide +kernel
theorem dX12_dawnNow_10 : decode MX12_dawnNow.2.1 10 = .ok (.bipush (-3), 2) := by decide +kernel
theorem dX12_dawnNow_12 : decode MX12_dawnNow.2.1 12 = .ok (.ireturn, 1) := by decide +kernel
theorem dX12_dawnNow_13 : decode MX12_dawnNow.2.1 13 = .ok (.aload_n 0, 1) := by decide +kernel
theorem dX12_dawnNow_14 : decode MX12_dawnNow.2.1 14 = .ok (.iconst 1, 1) := by decide +kernel
theorem dX12_dawnNow_15 : decode MX12_dawnNow.2.1 15 = .ok (.invokevirtual 451, 3) := by decide +kernel
theorem dX12_dawnNow_18 : decode MX12_dawnNow.2.1 18 = .ok (.aload_n 0, 1) := by decide +kernel
theorem dX12_dawnNow_19 : decode MX12_dawnNow.2.1 19 = .ok (.invokevirtual 457, 3) := by decide +kernel
theorem dX12_dawnNow_22 : decode MX12_dawnNow.2.1 22 = .ok (.ireturn, 1) := by decide +kernel
theorem dX12_say_0 : decode MX12_say.2.1 0 = .ok (.aload_n 0, 1) := by decide +kernel
theorem dX12_say_1 : decode MX12_say.2.1 1 = .ok (.iconst 0, 1) := by decide +kernel
theorem dX12_say_2 : decode MX12_say.2.1 2 = .ok (.putfield 163, 3) := by decide +kernel
theorem dX12_say_5 : decode MX12_say.2.1 5 = .ok (.aload_n 0, 1) := by decide +kernel
theorem dX12_say_6 : decode MX12_say.2.1 6 = .ok (.aload_n 0, 1) := by decide +kernel
theorem dX12_say_7 : decode MX12_say.2.1 7 = .ok (.iload_n 1, 1) := by decide +kernel
theorem dX12_say_8 : decode MX12_say.2.1 8 = .ok (.iload_n 2, 1) := by decide +kernel
theorem dX12_say_9 : decode MX12_say.2.1 9 = .ok (.iload_n 3, 1) := by decide +kernel
theorem dX12_say_10 : decode MX12_say.2.1 10 = .ok (.iload 4, 2) := by decide +kernel
theorem dX12_say_12 : decode MX12_say.2.1 12 = .ok (.invokevirtual 460, 3) := by decide +kernel
theorem dX12_say_15 : decode MX12_say.2.1 15 = .ok (.invokevirtual 176, 3) := by decide +kernel
theorem dX12_say_18 : decode MX12_say.2.1 18 = .ok (.ireturn, 1) := by decide +kernel
theorem dX12_dawn_0 : decode MX12_dawn.2.1 0 = .ok (.aload_n 0, 1) := by decide +kernel
theorem dX12_dawn_1 : decode MX12_dawn.2.1 1 = .ok (.iconst 0, 1) := by decide +kernel
theorem dX12_dawn_2 : decode MX12_dawn.2.1 2 = .ok (.putfield 163, 3) := by decide +kernel
theorem dX12_dawn_5 : decode MX12_dawn.2.1 5 = .ok (.aload_n 0, 1) := by decide +kernel
theorem dX12_dawn_6 : decode MX12_dawn.2.1 6 = .ok (.aload_n 0, 1) := by decide +kernel
theorem dX12_dawn_7 : decode MX12_dawn.2.1 7 = .ok (.invokevirtual 463, 3) := by decide +kernel
theorem dX12_dawn_10 : decode MX12_dawn.2.1 10 = .ok (.invokevirtual 176, 3) := by decide +kernel
theorem dX12_dawn_13 : decode MX12_dawn.2.1 13 = .ok (.ireturn, 1) := by decide +kernel
theorem dX12_common_0 : decode MX12_common.2.1 0 = .ok (.iload_n 0, 1) := by decide +kernel
theorem dX12_common_1 : decode MX12_common.2.1 1 = .ok (.istore_n 2, 1) := by decide +kernel
theorem dX12_common_2 : decode MX12_common.2.1 2 = .ok (.iload_n 1, 1) := by decide +kernel
theorem dX12_common_3 : decode MX12_common.2.1 3 = .ok (.istore_n 3, 1) := by decide +kernel
theorem dX12_common_4 : decode MX12_common.2.1 4 = .ok (.iload_n 3, 1) := by decide +kernel
theorem dX12_common_5 : decode MX12_common.2.1 5 = .ok (.ifCond .eq 16, 3) := by decide +kernel
theorem dX12_common_8 : decode MX12_common.2.1 8 = .ok (.iload_n 2, 1) := by decide +kernel
theorem dX12_common_9 : decode MX12_common.2.1 9 = .ok (.iload_n 3, 1) := by decide +kernel
theorem dX12_common_10 : decode MX12_common.2.1 10 = .ok (.irem, 1) := by decide +kernel
theorem dX12_common_11 : decode MX12_common.2.1 11 = .ok (.istore 4, 2) := by decide +kernel
theorem dX12_common_13 : decode MX12_common.2.1 13 = .ok (.iload_n 3, 1) := by decide +kernel
theorem dX12_common_14 : decode MX12_common.2.1 14 = .ok (.istore_n 2, 1) := by decide +kernel
theorem dX12_common_15 : decode MX12_common.2.1 15 = .ok (.iload 4, 2) := by decide +kernel
theorem dX12_common_17 : decode MX12_common.2.1 17 = .ok (.istore_n 3, 1) := by decide +kernel
theorem dX12_common_18 : decode MX12_common.2.1 18 = .ok (.goto (-14), 3) := by decide +kernel
theorem dX12_common_21 : decode MX12_common.2.1 21 = .ok (.iload_n 2, 1) := by decide +kernel
theorem dX12_common_22 : decode MX12_common.2.1 22 = .ok (.ireturn, 1) := by decide +kernel
theorem dX12_share_0 : decode MX12_share.2.1 0 = .ok (.aload_n 0, 1) := by decide +kernel
theorem dX12_share_1 : decode MX12_share.2.1 1 = .ok (.iconst 0, 1) := by decide +kernel
theorem dX12_share_2 : decode MX12_share.2.1 2 = .ok (.putfield 163, 3) := by decide +kernel
theorem dX12_share_5 : decode MX12_share.2.1 5 = .ok (.iload_n 1, 1) := by decide +kernel
theorem dX12_share_6 : decode MX12_share.2.1 6 = .ok (.invokestatic 199, 3) := by decide +kernel
theorem dX12_share_9 : decode MX12_share.2.1 9 = .ok (.ifCond .eq 25, 3) := by decide +kernel
theorem dX12_share_12 : decode MX12_share.2.1 12 = .ok (.iload_n 2, 1) := by decide +kernel
theorem dX12_share_13 : decode MX12_share.2.1 13 = .ok (.i2l, 1) := by decide +kernel
theorem dX12_share_14 : decode MX12_share.2.1 14 = .ok (.lconst 0, 1) := by decide +kernel
theorem dX12_share_15 : decode MX12_share.2.1 15 = .ok (.ldc2_w 187, 3) := by decide +kernel
theorem dX12_share_18 : decode MX12_share.2.1 18 = .ok (.invokestatic 183, 3) := by decide +kernel
theorem dX12_share_21 : decode MX12_share.2.1 21 = .ok (.ifCond .eq 13, 3) := by decide +kernel
theorem dX12_share_24 : decode MX12_share.2.1 24 = .ok (.iload_n 3, 1) := by decide +kernel
theorem dX12_share_25 : decode MX12_share.2.1 25 = .ok (.i2l, 1) := by decide +kernel
theorem dX12_share_26 : decode MX12_share.2.1 26 = .ok (.lconst 0, 1) := by decide +kernel
theorem dX12_share_27 : decode MX12_share.2.1 27 = .ok (.lconst 1, 1) := by decide +kernel
theorem dX12_share_28 : decode MX12_share.2.1 28 = .ok (.invokestatic 183, 3) := by decide +kernel
theorem dX12_share_31 : decode MX12_share.2.1 31 = .ok (.ifCond .ne 5, 3) := by decide +kernel
theorem dX12_share_34 : decode MX12_share.2.1 34 = .ok (.iconst (-1), 1) := by decide +kernel
theorem dX12_share_35 : decode MX12_share.2.1 35 = .ok (.ireturn, 1) := by decide +kernel
theorem dX12_share_36 : decode MX12_share.2.1 36 = .ok (.iconst 0, 1) := by decide +kernel
theorem dX12_share_37 : decode MX12_share.2.1 37 = .ok (.istore 4, 2) := by decide +kernel
theorem dX12_share_39 : decode MX12_share.2.1 39 = .ok (.iconst 0, 1) := by decide +kernel
theorem dX12_share_40 : decode MX12_share.2.1 40 = .ok (.istore 5, 2) := by decide +kernel
theorem dX12_share_42 : decode MX12_share.2.1 42 = .ok (.iload 5, 2) := by decide +kernel
theorem dX12_share_44 : decode MX12_share.2.1 44 = .ok (.bipush 6, 2) := by decide +kernel
theorem dX12_share_46 : decode MX12_share.2.1 46 = .ok (.if_icmp .ge 29, 3) := by decide +kernel
theorem dX12_share_49 : decode MX12_share.2.1 49 = .ok (.iload 4, 2) := by decide +kernel
theorem dX12_share_51 : decode MX12_share.2.1 51 = .ok (.aload_n 0, 1) := by decide +kernel
theorem dX12_share_52 : decode MX12_share.2.1 52 = .ok (.getfield 13, 3) := by decide +kernel
theorem dX12_share_55 : decode MX12_share.2.1 55 = .ok (.bipush 106, 2) := by decide +kernel
theorem dX12_share_57 : decode MX12_share.2.1 57 = .ok (.bipush 6, 2) := by decide +kernel
theorem dX12_share_59 : decode MX12_share.2.1 59 = .ok (.iload_n 1, 1) := by decide +kernel
theorem dX12_share_60 : decode MX12_share.2.1 60 = .ok (.imul, 1) := by decide +kernel
theorem dX12_share_61 : decode MX12_share.2.1 61 = .ok (.iadd, 1) := by decide +kernel
theorem dX12_share_62 : decode MX12_share.2.1 62 = .ok (.iload 5, 2) := by decide +kernel
theorem dX12_share_64 : decode MX12_share.2.1 64 = .ok (.iadd, 1) := by decide +kernel
theorem dX12_share_65 : decode MX12_share.2.1 65 = .ok (.iaload, 1) := by decide +kernel
theorem dX12_share_66 : decode MX12_share.2.1 66 = .ok (.iadd, 1) := by decide +kernel
theorem dX12_share_67 : decode MX12_share.2.1 67 = .ok (.istore 4, 2) := by decide +kernel
theorem dX12_share_69 : decode MX12_share.2.1 69 = .ok (.iinc 5 1, 3) := by decide +kernel
theorem dX12_share_72 : decode MX12_share.2.1 72 = .ok (.goto (-30), 3) := by decide +kernel
theorem dX12_share_75 : decode MX12_share.2.1 75 = .ok (.iload 4, 2) := by decide +kernel
theorem dX12_share_77 : decode MX12_share.2.1 77 = .ok (.ifCond .ne 5, 3) := by decide +kernel
theorem dX12_share_80 : decode MX12_share.2.1 80 = .ok (.iconst (-1), 1) := by decide +kernel
theorem dX12_share_81 : decode MX12_share.2.1 81 = .ok (.ireturn, 1) := by decide +kernel
theorem dX12_share_82 : decode MX12_share.2.1 82 = .ok (.aload_n 0, 1) := by decide +kernel
theorem dX12_share_83 : decode MX12_share.2.1 83 = .ok (.getfield 13, 3) := by decide +kernel
theorem dX12_share_86 : decode MX12_share.2.1 86 = .ok (.bipush 106, 2) := by decide +kernel
theorem dX12_share_88 : decode MX12_share.2.1 88 = .ok (.bipush 6, 2) := by decide +kernel
theorem dX12_share_90 : decode MX12_share.2.1 90 = .ok (.iload_n 1, 1) := by decide +kernel
theorem dX12_share_91 : decode MX12_share.2.1 91 = .ok (.imul, 1) := by decide +kernel
theorem dX12_share_92 : decode MX12_share.2.1 92 = .ok (.iadd, 1) := by decide +kernel
theorem dX12_share_93 : decode MX12_share.2.1 93 = .ok (.iload_n 2, 1) := by decide +kernel
theorem dX12_share_94 : decode MX12_share.2.1 94 = .ok (.iadd, 1) := by decide +kernel
theorem dX12_share_95 : decode MX12_share.2.1 95 = .ok (.iaload, 1) := by decide +kernel
theorem dX12_share_96 : decode MX12_share.2.1 96 = .ok (.istore 5, 2) := by decide +kernel
theorem dX12_share_98 : decode MX12_share.2.1 98 = .ok (.iload 5, 2) := by decide +kernel
theorem dX12_share_100 : decode MX12_share.2.1 100 = .ok (.iload 4, 2) := by decide +kernel
theorem dX12_share_102 : decode MX12_share.2.1 102 = .ok (.invokestatic 466, 3) := by decide +kernel
theorem dX12_share_105 : decode MX12_share.2.1 105 = .ok (.istore 6, 2) := by decide +kernel
theorem dX12_share_107 : decode MX12_share.2.1 107 = .ok (.iload_n 3, 1) := by decide +kernel
theorem dX12_share_108 : decode MX12_share.2.1 108 = .ok (.ifCond .ne 11, 3) := by decide +kernel
theorem dX12_share_111 : decode MX12_share.2.1 111 = .ok (.iload 5, 2) := by decide +kernel
theorem dX12_share_113 : decode MX12_share.2.1 113 = .ok (.iload 6, 2) := by decide +kernel
theorem dX12_share_115 : decode MX12_share.2.1 115 = .ok (.idiv, 1) := by decide +kernel
theorem dX12_share_116 : decode MX12_share.2.1 116 = .ok (.goto 8, 3) := by decide +kernel
theorem dX12_share_119 : decode MX12_share.2.1 119 = .ok (.iload 4, 2) := by decide +kernel
theorem dX12_share_121 : decode MX12_share.2.1 121 = .ok (.iload 6, 2) := by decide +kernel
theorem dX12_share_123 : decode MX12_share.2.1 123 = .ok (.idiv, 1) := by decide +kernel
theorem dX12_share_124 : decode MX12_share.2.1 124 = .ok (.ireturn, 1) := by decide +kernel
theorem dX12_mean_0 : decode MX12_mean.2.1 0 = .ok (.aload_n 0, 1) := by decide +kernel
theorem dX12_mean_1 : decode MX12_mean.2.1 1 = .ok (.iconst 0, 1) := by decide +kernel
theorem dX12_mean_2 : decode MX12_mean.2.1 2 = .ok (.putfield 163, 3) := by decide +kernel
theorem dX12_mean_5 : decode MX12_mean.2.1 5 = .ok (.iload_n 1, 1) := by decide +kernel
theorem dX12_mean_6 : decode MX12_mean.2.1 6 = .ok (.i2l, 1) := by decide +kernel
theorem dX12_mean_7 : decode MX12_mean.2.1 7 = .ok (.lconst 0, 1) := by decide +kernel
theorem dX12_mean_8 : decode MX12_mean.2.1 8 = .ok (.ldc2_w 195, 3) := by decide +kernel
theorem dX12_mean_11 : decode MX12_mean.2.1 11 = .ok (.invokestatic 183, 3) := by decide +kernel
theorem dX12_mean_14 : decode MX12_mean.2.1 14 = .ok (.ifCond .ne 9, 3) := by decide +kernel
theorem dX12_mean_17 : decode MX12_mean.2.1 17 = .ok (.aload_n 0, 1) := by decide +kernel
theorem dX12_mean_18 : decode MX12_mean.2.1 18 = .ok (.iconst (-1), 1) := by decide +kernel
theorem dX12_mean_19 : decode MX12_mean.2.1 19 = .ok (.invokevirtual 176, 3) := by decide +kernel
theorem dX12_mean_22 : decode MX12_mean.2.1 22 = .ok (.ireturn, 1) := by decide +kernel
theorem dX12_mean_23 : decode MX12_mean.2.1 23 = .ok (.aload_n 0, 1) := by decide +kernel
theorem dX12_mean_24 : decode MX12_mean.2.1 24 = .ok (.getfield 13, 3) := by decide +kernel
theorem dX12_mean_27 : decode MX12_mean.2.1 27 = .ok (.iconst 1, 1) := by decide +kernel
theorem dX12_mean_28 : decode MX12_mean.2.1 28 = .ok (.iaload, 1) := by decide +kernel
theorem dX12_mean_29 : decode MX12_mean.2.1 29 = .ok (.istore_n 2, 1) := by decide +kernel
theorem dX12_mean_30 : decode MX12_mean.2.1 30 = .ok (.iload_n 2, 1) := by decide +kernel
theorem dX12_mean_31 : decode MX12_mean.2.1 31 = .ok (.iconst 5, 1) := by decide +kernel
theorem dX12_mean_32 : decode MX12_mean.2.1 32 = .ok (.if_icmp .ne 10, 3) := by decide +kernel
theorem dX12_mean_35 : decode MX12_mean.2.1 35 = .ok (.aload_n 0, 1) := by decide +kernel
theorem dX12_mean_36 : decode MX12_mean.2.1 36 = .ok (.bipush (-5), 2) := by decide +kernel
theorem dX12_mean_38 : decode MX12_mean.2.1 38 = .ok (.invokevirtual 176, 3) := by decide +kernel
theorem dX12_mean_41 : decode MX12_mean.2.1 41 = .ok (.ireturn, 1) := by decide +kernel
theorem dX12_mean_42 : decode MX12_mean.2.1 42 = .ok (.aload_n 0, 1) := by decide +kernel
theorem dX12_mean_43 : decode MX12_mean.2.1 43 = .ok (.getfield 13, 3) := by decide +kernel
theorem dX12_mean_46 : decode MX12_mean.2.1 46 = .ok (.sipush 206, 3) := by decide +kernel
theorem dX12_mean_49 : decode MX12_mean.2.1 49 = .ok (.iload_n 2, 1) := by decide +kernel
theorem dX12_mean_50 : decode MX12_mean.2.1 50 = .ok (.iadd, 1) := by decide +kernel
theorem dX12_mean_51 : decode MX12_mean.2.1 51 = .ok (.iload_n 1, 1) := by decide +kernel
theorem dX12_mean_52 : decode MX12_mean.2.1 52 = .ok (.iastore, 1) := by decide +kernel
theorem dX12_mean_53 : decode MX12_mean.2.1 53 = .ok (.aload_n 0, 1) := by decide +kernel
theorem dX12_mean_54 : decode MX12_mean.2.1 54 = .ok (.getfield 13, 3) := by decide +kernel
theorem dX12_mean_57 : decode MX12_mean.2.1 57 = .ok (.iconst 1, 1) := by decide +kernel
theorem dX12_mean_58 : decode MX12_mean.2.1 58 = .ok (.dup2, 1) := by decide +kernel
theorem dX12_mean_59 : decode MX12_mean.2.1 59 = .ok (.iaload, 1) := by decide +kernel
theorem dX12_mean_60 : decode MX12_mean.2.1 60 = .ok (.iconst 1, 1) := by decide +kernel
theorem dX12_mean_61 : decode MX12_mean.2.1 61 = .ok (.iadd, 1) := by decide +kernel
theorem dX12_mean_62 : decode MX12_mean.2.1 62 = .ok (.iastore, 1) := by decide +kernel
theorem dX12_mean_63 : decode MX12_mean.2.1 63 = .ok (.aload_n 0, 1) := by decide +kernel
theorem dX12_mean_64 : decode MX12_mean.2.1 64 = .ok (.iload_n 2, 1) := by decide +kernel
theorem dX12_mean_65 : decode MX12_mean.2.1 65 = .ok (.iconst 1, 1) := by decide +kernel
theorem dX12_mean_66 : decode MX12_mean.2.1 66 = .ok (.iadd, 1) := by decide +kernel
theorem dX12_mean_67 : decode MX12_mean.2.1 67 = .ok (.invokevirtual 176, 3) := by decide +kernel
theorem dX12_mean_70 : decode MX12_mean.2.1 70 = .ok (.ireturn, 1) := by decide +kernel
theorem dX12_hush_0 : decode MX12_hush.2.1 0 = .ok (.aload_n 0, 1) := by decide +kernel
theorem dX12_hush_1 : decode MX12_hush.2.1 1 = .ok (.iconst 0, 1) := by decide +kernel
theorem dX12_hush_2 : decode MX12_hush.2.1 2 = .ok (.putfield 163, 3) := by decide +kernel
theorem dX12_hush_5 : decode MX12_hush.2.1 5 = .ok (.aload_n 0, 1) := by decide +kernel
theorem dX12_hush_6 : decode MX12_hush.2.1 6 = .ok (.getfield 13, 3) := by decide +kernel
theorem dX12_hush_9 : decode MX12_hush.2.1 9 = .ok (.iconst 1, 1) := by decide +kernel
theorem dX12_hush_10 : decode MX12_hush.2.1 10 = .ok (.iaload, 1) := by decide +kernel
theorem dX12_hush_11 : decode MX12_hush.2.1 11 = .ok (.istore_n 1, 1) := by decide +kernel
theorem dX12_hush_12 : decode MX12_hush.2.1 12 = .ok (.aload_n 0, 1) := by decide +kernel
theorem dX12_hush_13 : decode MX12_hush.2.1 13 = .ok (.getfield 13, 3) := by decide +kernel
theorem dX12_hush_16 : decode MX12_hush.2.1 16 = .ok (.iconst 1, 1) := by decide +kernel
theorem dX12_hush_17 : decode MX12_hush.2.1 17 = .ok (.iconst 0, 1) := by decide +kernel
theorem dX12_hush_18 : decode MX12_hush.2.1 18 = .ok (.iastore, 1) := by decide +kernel
theorem dX12_hush_19 : decode MX12_hush.2.1 19 = .ok (.iload_n 1, 1) := by decide +kernel
theorem dX12_hush_20 : decode MX12_hush.2.1 20 = .ok (.ireturn, 1) := by decide +kernel
theorem dX12_weighSaying_0 : decode MX12_weighSaying.2.1 0 = .ok (.iconst 0, 1) := by decide +kernel
theorem dX12_weighSaying_1 : decode MX12_weighSaying.2.1 1 = .ok (.istore_n 2, 1) := by decide +kernel
theorem dX12_weighSaying_2 : decode MX12_weighSaying.2.1 2 = .ok (.iconst 0, 1) := by decide +kernel
theorem dX12_weighSaying_3 : decode MX12_weighSaying.2.1 3 = .ok (.istore_n 3, 1) := by decide +kernel
theorem dX12_weighSaying_4 : decode MX12_weighSaying.2.1 4 = .ok (.iload_n 3, 1) := by decide +kernel
theorem dX12_weighSaying_5 : decode MX12_weighSaying.2.1 5 = .ok (.iload_n 1, 1) := by decide +kernel
theorem dX12_weighSaying_6 : decode MX12_weighSaying.2.1 6 = .ok (.if_icmp .ge 23, 3) := by decide +kernel
theorem dX12_weighSaying_9 : decode MX12_weighSaying.2.1 9 = .ok (.iload_n 2, 1) := by decide +kernel
theorem dX12_weighSaying_10 : decode MX12_weighSaying.2.1 10 = .ok (.aload_n 0, 1) := by decide +kernel
theorem dX12_weighSaying_11 : decode MX12_weighSaying.2.1 11 = .ok (.aload_n 0, 1) := by decide +kernel
theorem dX12_weighSaying_12 : decode MX12_weighSaying.2.1 12 = .ok (.getfield 126, 3) := by decide +kernel
theorem dX12_weighSaying_15 : decode MX12_weighSaying.2.1 15 = .ok (.iload_n 3, 1) := by decide +kernel
theorem dX12_weighSaying_16 : decode MX12_weighSaying.2.1 16 = .ok (.iaload, 1) := by decide +kernel
theorem dX12_weighSaying_17 : decode MX12_weighSaying.2.1 17 = .ok (.iconst 0, 1) := by decide +kernel
theorem dX12_weighSaying_18 : decode MX12_weighSaying.2.1 18 = .ok (.invokevirtual 220, 3) := by decide +kernel
theorem dX12_weighSaying_21 : decode MX12_weighSaying.2.1 21 = .ok (.iadd, 1) := by decide +kernel
theorem dX12_weighSaying_22 : decode MX12_weighSaying.2.1 22 = .ok (.istore_n 2, 1) := by decide +kernel
theorem dX12_weighSaying_23 : decode MX12_weighSaying.2.1 23 = .ok (.iinc 3 1, 3) := by decide +kernel
theorem dX12_weighSaying_26 : decode MX12_weighSaying.2.1 26 = .ok (.goto (-22), 3) := by decide +kernel
theorem dX12_weighSaying_29 : decode MX12_weighSaying.2.1 29 = .ok (.iload_n 2, 1) := by decide +kernel
theorem dX12_weighSaying_30 : decode MX12_weighSaying.2.1 30 = .ok (.aload_n 0, 1) := by decide +kernel
theorem dX12_weighSaying_31 : decode MX12_weighSaying.2.1 31 = .ok (.getfield 469, 3) := by decide +kernel
theorem dX12_weighSaying_34 : decode MX12_weighSaying.2.1 34 = .ok (.if_icmp .le 4, 3) := by decide +kernel
theorem dX12_weighSaying_37 : decode MX12_weighSaying.2.1 37 = .ok (.return_, 1) := by decide +kernel
theorem dX12_weighSaying_38 : decode MX12_weighSaying.2.1 38 = .ok (.iconst 0, 1) := by decide +kernel
theorem dX12_weighSaying_39 : decode MX12_weighSaying.2.1 39 = .ok (.istore_n 3, 1) := by decide +kernel
theorem dX12_weighSaying_40 : decode MX12_weighSaying.2.1 40 = .ok (.iload_n 3, 1) := by decide +kernel
theorem dX12_weighSaying_41 : decode MX12_weighSaying.2.1 41 = .ok (.bipush 6, 2) := by decide +kernel
theorem dX12_weighSaying_43 : decode MX12_weighSaying.2.1 43 = .ok (.if_icmp .ge 87, 3) := by decide +kernel
theorem dX12_weighSaying_46 : decode MX12_weighSaying.2.1 46 = .ok (.iload_n 1, 1) := by decide +kernel
theorem dX12_weighSaying_47 : decode MX12_weighSaying.2.1 47 = .ok (.ifCond .le 83, 3) := by decide +kernel
theorem dX12_weighSaying_50 : decode MX12_weighSaying.2.1 50 = .ok (.aload_n 0, 1) := by decide +kernel
theorem dX12_weighSaying_51 : decode MX12_weighSaying.2.1 51 = .ok (.iload_n 3, 1) := by decide +kernel
theorem dX12_weighSaying_52 : decode MX12_weighSaying.2.1 52 = .ok (.iconst 0, 1) := by decide +kernel
theorem dX12_weighSaying_53 : decode MX12_weighSaying.2.1 53 = .ok (.invokevirtual 210, 3) := by decide +kernel
theorem dX12_weighSaying_56 : decode MX12_weighSaying.2.1 56 = .ok (.aload_n 0, 1) := by decide +kernel
theorem dX12_weighSaying_57 : decode MX12_weighSaying.2.1 57 = .ok (.iload_n 3, 1) := by decide +kernel
theorem dX12_weighSaying_58 : decode MX12_weighSaying.2.1 58 = .ok (.bipush 8, 2) := by decide +kernel
theorem dX12_weighSaying_60 : decode MX12_weighSaying.2.1 60 = .ok (.invokevirtual 210, 3) := by decide +kernel
theorem dX12_weighSaying_63 : decode MX12_weighSaying.2.1 63 = .ok (.iadd, 1) := by decide +kernel
theorem dX12_weighSaying_64 : decode MX12_weighSaying.2.1 64 = .ok (.istore 4, 2) := by decide +kernel
theorem dX12_weighSaying_66 : decode MX12_weighSaying.2.1 66 = .ok (.iconst 0, 1) := by decide +kernel
theorem dX12_weighSaying_67 : decode MX12_weighSaying.2.1 67 = .ok (.istore 5, 2) := by decide +kernel
theorem dX12_weighSaying_69 : decode MX12_weighSaying.2.1 69 = .ok (.iload 5, 2) := by decide +kernel
theorem dX12_weighSaying_71 : decode MX12_weighSaying.2.1 71 = .ok (.iload_n 1, 1) := by decide +kernel
theorem dX12_weighSaying_72 : decode MX12_weighSaying.2.1 72 = .ok (.if_icmp .ge 31, 3) := by decide +kernel
theorem dX12_weighSaying_75 : decode MX12_weighSaying.2.1 75 = .ok (.iload 4, 2) := by decide +kernel
theorem dX12_weighSaying_77 : decode MX12_weighSaying.2.1 77 = .ok (.aload_n 0, 1) := by decide +kernel
theorem dX12_weighSaying_78 : decode MX12_weighSaying.2.1 78 = .ok (.getfield 120, 3) := by decide +kernel
theorem dX12_weighSaying_81 : decode MX12_weighSaying.2.1 81 = .ok (.bipush 6, 2) := by decide +kernel
theorem dX12_weighSaying_83 : decode MX12_weighSaying.2.1 83 = .ok (.aload_n 0, 1) := by decide +kernel
theorem dX12_weighSaying_84 : decode MX12_weighSaying.2.1 84 = .ok (.getfield 126, 3) := by decide +kernel
theorem dX12_weighSaying_87 : decode MX12_weighSaying.2.1 87 = .ok (.iload 5, 2) := by decide +kernel
theorem dX12_weighSaying_89 : decode MX12_weighSaying.2.1 89 = .ok (.iaload, 1) := by decide +kernel
theorem dX12_weighSaying_90 : decode MX12_weighSaying.2.1 90 = .ok (.imul, 1) := by decide +kernel
theorem dX12_weighSaying_91 : decode MX12_weighSaying.2.1 91 = .ok (.iload_n 3, 1) := by decide +kernel
theorem dX12_weighSaying_92 : decode MX12_weighSaying.2.1 92 = .ok (.iadd, 1) := by decide +kernel
theorem dX12_weighSaying_93 : decode MX12_weighSaying.2.1 93 = .ok (.iaload, 1) := by decide +kernel
theorem dX12_weighSaying_94 : decode MX12_weighSaying.2.1 94 = .ok (.iadd, 1) := by decide +kernel
theorem dX12_weighSaying_95 : decode MX12_weighSaying.2.1 95 = .ok (.istore 4, 2) := by decide +kernel
theorem dX12_weighSaying_97 : decode MX12_weighSaying.2.1 97 = .ok (.iinc 5 1, 3) := by decide +kernel
theorem dX12_weighSaying_100 : decode MX12_weighSaying.2.1 100 = .ok (.goto (-31), 3) := by decide +kernel
theorem dX12_weighSaying_103 : decode MX12_weighSaying.2.1 103 = .ok (.aload_n 0, 1) := by decide +kernel
theorem dX12_weighSaying_104 : decode MX12_weighSaying.2.1 104 = .ok (.iload_n 3, 1) := by decide +kernel
theorem dX12_weighSaying_105 : decode MX12_weighSaying.2.1 105 = .ok (.iconst 0, 1) := by decide +kernel
theorem dX12_weighSaying_106 : decode MX12_weighSaying.2.1 106 = .ok (.invokevirtual 210, 3) := by decide +kernel
theorem dX12_weighSaying_109 : decode MX12_weighSaying.2.1 109 = .ok (.ifCond .le 15, 3) := by decide +kernel
theorem dX12_weighSaying_112 : decode MX12_weighSaying.2.1 112 = .ok (.iload 4, 2) := by decide +kernel
theorem dX12_weighSaying_114 : decode MX12_weighSaying.2.1 114 = .ok (.aload_n 0, 1) := by decide +kernel
theorem dX12_weighSaying_115 : decode MX12_weighSaying.2.1 115 = .ok (.iload_n 3, 1) := by decide +kernel
theorem dX12_weighSaying_116 : decode MX12_weighSaying.2.1 116 = .ok (.iconst 1, 1) := by decide +kernel
theorem dX12_weighSaying_117 : decode MX12_weighSaying.2.1 117 = .ok (.invokevirtual 210, 3) := by decide +kernel
theorem dX12_weighSaying_120 : decode MX12_weighSaying.2.1 120 = .ok (.if_icmp .le 4, 3) := by decide +kernel
theorem dX12_weighSaying_123 : decode MX12_weighSaying.2.1 123 = .ok (.return_, 1) := by decide +kernel
theorem dX12_weighSaying_124 : decode MX12_weighSaying.2.1 124 = .ok (.iinc 3 1, 3) := by decide +kernel
theorem dX12_weighSaying_127 : decode MX12_weighSaying.2.1 127 = .ok (.goto (-87), 3) := by decide +kernel
theorem dX12_weighSaying_130 : decode MX12_weighSaying.2.1 130 = .ok (.aload_n 0, 1) := by decide +kernel
theorem dX12_weighSaying_131 : decode MX12_weighSaying.2.1 131 = .ok (.iload_n 2, 1) := by decide +kernel
theorem dX12_weighSaying_132 : decode MX12_weighSaying.2.1 132 = .ok (.aload_n 0, 1) := by decide +kernel
theorem dX12_weighSaying_133 : decode MX12_weighSaying.2.1 133 = .ok (.getfield 469, 3) := by decide +kernel
theorem dX12_weighSaying_136 : decode MX12_weighSaying.2.1 136 = .ok (.if_icmp .ge 7, 3) := by decide +kernel
theorem dX12_weighSaying_139 : decode MX12_weighSaying.2.1 139 = .ok (.iconst 1, 1) := by decide +kernel
theorem dX12_weighSaying_140 : decode MX12_weighSaying.2.1 140 = .ok (.goto 9, 3) := by decide +kernel
theorem dX12_weighSaying_143 : decode MX12_weighSaying.2.1 143 = .ok (.aload_n 0, 1) := by decide +kernel
theorem dX12_weighSaying_144 : decode MX12_weighSaying.2.1 144 = .ok (.getfield 472, 3) := by decide +kernel
theorem dX12_weighSaying_147 : decode MX12_weighSaying.2.1 147 = .ok (.iconst 1, 1) := by decide +kernel
theorem dX12_weighSaying_148 : decode MX12_weighSaying.2.1 148 = .ok (.iadd, 1) := by decide +kernel
theorem dX12_weighSaying_149 : decode MX12_weighSaying.2.1 149 = .ok (.putfield 472, 3) := by decide +kernel
theorem dX12_weighSaying_152 : decode MX12_weighSaying.2.1 152 = .ok (.iconst 0, 1) := by decide +kernel
theorem dX12_weighSaying_153 : decode MX12_weighSaying.2.1 153 = .ok (.istore_n 3, 1) := by decide +kernel
theorem dX12_weighSaying_154 : decode MX12_weighSaying.2.1 154 = .ok (.iload_n 3, 1) := by decide +kernel
theorem dX12_weighSaying_155 : decode MX12_weighSaying.2.1 155 = .ok (.iload_n 1, 1) := by decide +kernel
theorem dX12_weighSaying_156 : decode MX12_weighSaying.2.1 156 = .ok (.if_icmp .ge 29, 3) := by decide +kernel
theorem dX12_weighSaying_159 : decode MX12_weighSaying.2.1 159 = .ok (.iload_n 2, 1) := by decide +kernel
theorem dX12_weighSaying_160 : decode MX12_weighSaying.2.1 160 = .ok (.aload_n 0, 1) := by decide +kernel
theorem dX12_weighSaying_161 : decode MX12_weighSaying.2.1 161 = .ok (.getfield 469, 3) := by decide +kernel
theorem dX12_weighSaying_164 : decode MX12_weighSaying.2.1 164 = .ok (.if_icmp .ge 21, 3) := by decide +kernel
theorem dX12_weighSaying_167 : decode MX12_weighSaying.2.1 167 = .ok (.aload_n 0, 1) := by decide +kernel
theorem dX12_weighSaying_168 : decode MX12_weighSaying.2.1 168 = .ok (.getfield 129, 3) := by decide +kernel
theorem dX12_weighSaying_171 : decode MX12_weighSaying.2.1 171 = .ok (.iload_n 3, 1) := by decide +kernel
theorem dX12_weighSaying_172 : decode MX12_weighSaying.2.1 172 = .ok (.aload_n 0, 1) := by decide +kernel
theorem dX12_weighSaying_173 : decode MX12_weighSaying.2.1 173 = .ok (.getfield 126, 3) := by decide +kernel
theorem dX12_weighSaying_176 : decode MX12_weighSaying.2.1 176 = .ok (.iload_n 3, 1) := by decide +kernel
theorem dX12_weighSaying_177 : decode MX12_weighSaying.2.1 177 = .ok (.iaload, 1) := by decide +kernel
theorem dX12_weighSaying_178 : decode MX12_weighSaying.2.1 178 = .ok (.iastore, 1) := by decide +kernel
theorem dX12_weighSaying_179 : decode MX12_weighSaying.2.1 179 = .ok (.iinc 3 1, 3) := by decide +kernel
theorem dX12_weighSaying_182 : decode MX12_weighSaying.2.1 182 = .ok (.goto (-28), 3) := by decide +kernel
theorem dX12_weighSaying_185 : decode MX12_weighSaying.2.1 185 = .ok (.aload_n 0, 1) := by decide +kernel
theorem dX12_weighSaying_186 : decode MX12_weighSaying.2.1 186 = .ok (.iload_n 2, 1) := by decide +kernel
theorem dX12_weighSaying_187 : decode MX12_weighSaying.2.1 187 = .ok (.putfield 469, 3) := by decide +kernel
theorem dX12_weighSaying_190 : decode MX12_weighSaying.2.1 190 = .ok (.return_, 1) := by decide +kernel
theorem dX12_findSaying_0 : decode MX12_findSaying.2.1 0 = .ok (.aload_n 0, 1) := by decide +kernel
theorem dX12_findSaying_1 : decode MX12_findSaying.2.1 1 = .ok (.getfield 13, 3) := by decide +kernel
theorem dX12_findSaying_4 : decode MX12_findSaying.2.1 4 = .ok (.iconst 1, 1) := by decide +kernel
theorem dX12_findSaying_5 : decode MX12_findSaying.2.1 5 = .ok (.iaload, 1) := by decide +kernel
theorem dX12_findSaying_6 : decode MX12_findSaying.2.1 6 = .ok (.istore_n 3, 1) := by decide +kernel
theorem dX12_findSaying_7 : decode MX12_findSaying.2.1 7 = .ok (.iconst 0, 1) := by decide +kernel
theorem dX12_findSaying_8 : decode MX12_findSaying.2.1 8 = .ok (.istore 4, 2) := by decide +kernel
theorem dX12_findSaying_10 : decode MX12_findSaying.2.1 10 = .ok (.iload 4, 2) := by decide +kernel
theorem dX12_findSaying_12 : decode MX12_findSaying.2.1 12 = .ok (.aload_n 0, 1) := by decide +kernel
theorem dX12_findSaying_13 : decode MX12_findSaying.2.1 13 = .ok (.getfield 13, 3) := by decide +kernel
theorem dX12_findSaying_16 : decode MX12_findSaying.2.1 16 = .ok (.iconst 0, 1) := by decide +kernel
theorem dX12_findSaying_17 : decode MX12_findSaying.2.1 17 = .ok (.iaload, 1) := by decide +kernel
theorem dX12_findSaying_18 : decode MX12_findSaying.2.1 18 = .ok (.if_icmp .ge 71, 3) := by decide +kernel
theorem dX12_findSaying_21 : decode MX12_findSaying.2.1 21 = .ok (.aload_n 0, 1) := by decide +kernel
theorem dX12_findSaying_22 : decode MX12_findSaying.2.1 22 = .ok (.getfield 123, 3) := by decide +kernel
theorem dX12_findSaying_25 : decode MX12_findSaying.2.1 25 = .ok (.iload 4, 2) := by decide +kernel
theorem dX12_findSaying_27 : decode MX12_findSaying.2.1 27 = .ok (.aload_n 0, 1) := by decide +kernel
theorem dX12_findSaying_28 : decode MX12_findSaying.2.1 28 = .ok (.iload 4, 2) := by decide +kernel
theorem dX12_findSaying_30 : decode MX12_findSaying.2.1 30 = .ok (.iload_n 1, 1) := by decide +kernel
theorem dX12_findSaying_31 : decode MX12_findSaying.2.1 31 = .ok (.iload_n 2, 1) := by decide +kernel
theorem dX12_findSaying_32 : decode MX12_findSaying.2.1 32 = .ok (.invokevirtual 438, 3) := by decide +kernel
theorem dX12_findSaying_35 : decode MX12_findSaying.2.1 35 = .ok (.ifCond .ne 7, 3) := by decide +kernel
theorem dX12_findSaying_38 : decode MX12_findSaying.2.1 38 = .ok (.iconst 1, 1) := by decide +kernel
theorem dX12_findSaying_39 : decode MX12_findSaying.2.1 39 = .ok (.goto 4, 3) := by decide +kernel
theorem dX12_findSaying_42 : decode MX12_findSaying.2.1 42 = .ok (.iconst 0, 1) := by decide +kernel
theorem dX12_findSaying_43 : decode MX12_findSaying.2.1 43 = .ok (.bastore, 1) := by decide +kernel
theorem dX12_findSaying_44 : decode MX12_findSaying.2.1 44 = .ok (.iconst 0, 1) := by decide +kernel
theorem dX12_findSaying_45 : decode MX12_findSaying.2.1 45 = .ok (.istore 5, 2) := by decide +kernel
theorem dX12_findSaying_47 : decode MX12_findSaying.2.1 47 = .ok (.iload 5, 2) := by decide +kernel
theorem dX12_findSaying_49 : decode MX12_findSaying.2.1 49 = .ok (.bipush 6, 2) := by decide +kernel
theorem dX12_findSaying_51 : decode MX12_findSaying.2.1 51 = .ok (.if_icmp .ge 32, 3) := by decide +kernel
theorem dX12_findSaying_54 : decode MX12_findSaying.2.1 54 = .ok (.aload_n 0, 1) := by decide +kernel
theorem dX12_findSaying_55 : decode MX12_findSaying.2.1 55 = .ok (.getfield 120, 3) := by decide +kernel
theorem dX12_findSaying_58 : decode MX12_findSaying.2.1 58 = .ok (.bipush 6, 2) := by decide +kernel
theorem dX12_findSaying_60 : decode MX12_findSaying.2.1 60 = .ok (.iload 4, 2) := by decide +kernel
theorem dX12_findSaying_62 : decode MX12_findSaying.2.1 62 = .ok (.imul, 1) := by decide +kernel
theorem dX12_findSaying_63 : decode MX12_findSaying.2.1 63 = .ok (.iload 5, 2) := by decide +kernel
theorem dX12_findSaying_65 : decode MX12_findSaying.2.1 65 = .ok (.iadd, 1) := by decide +kernel
theorem dX12_findSaying_66 : decode MX12_findSaying.2.1 66 = .ok (.aload_n 0, 1) := by decide +kernel
theorem dX12_findSaying_67 : decode MX12_findSaying.2.1 67 = .ok (.iload 4, 2) := by decide +kernel
theorem dX12_findSaying_69 : decode MX12_findSaying.2.1 69 = .ok (.iload_n 1, 1) := by decide +kernel
theorem dX12_findSaying_70 : decode MX12_findSaying.2.1 70 = .ok (.iload_n 2, 1) := by decide +kernel
theorem dX12_findSaying_71 : decode MX12_findSaying.2.1 71 = .ok (.iload 5, 2) := by decide +kernel
theorem dX12_findSaying_73 : decode MX12_findSaying.2.1 73 = .ok (.invokevirtual 434, 3) := by decide +kernel
theorem dX12_findSaying_76 : decode MX12_findSaying.2.1 76 = .ok (.iastore, 1) := by decide +kernel
theorem dX12_findSaying_77 : decode MX12_findSaying.2.1 77 = .ok (.iinc 5 1, 3) := by decide +kernel
theorem dX12_findSaying_80 : decode MX12_findSaying.2.1 80 = .ok (.goto (-33), 3) := by decide +kernel
theorem dX12_findSaying_83 : decode MX12_findSaying.2.1 83 = .ok (.iinc 4 1, 3) := by decide +kernel
theorem dX12_findSaying_86 : decode MX12_findSaying.2.1 86 = .ok (.goto (-76), 3) := by decide +kernel
theorem dX12_findSaying_89 : decode MX12_findSaying.2.1 89 = .ok (.aload_n 0, 1) := by decide +kernel
theorem dX12_findSaying_90 : decode MX12_findSaying.2.1 90 = .ok (.ldc_w 475, 3) := by decide +kernel
theorem dX12_findSaying_93 : decode MX12_findSaying.2.1 93 = .ok (.putfield 469, 3) := by decide +kernel
theorem dX12_findSaying_96 : decode MX12_findSaying.2.1 96 = .ok (.aload_n 0, 1) := by decide +kernel
theorem dX12_findSaying_97 : decode MX12_findSaying.2.1 97 = .ok (.iconst 0, 1) := by decide +kernel
theorem dX12_findSaying_98 : decode MX12_findSaying.2.1 98 = .ok (.putfield 472, 3) := by decide +kernel
theorem dX12_findSaying_101 : decode MX12_findSaying.2.1 101 = .ok (.iconst 0, 1) := by decide +kernel
theorem dX12_findSaying_102 : decode MX12_findSaying.2.1 102 = .ok (.istore 4, 2) := by decide +kernel
theorem dX12_findSaying_104 : decode MX12_findSaying.2.1 104 = .ok (.iload_n 3, 1) := by decide +kernel
theorem dX12_findSaying_105 : decode MX12_findSaying.2.1 105 = .ok (.ifCond .ne 9, 3) := by decide +kernel
theorem dX12_findSaying_108 : decode MX12_findSaying.2.1 108 = .ok (.aload_n 0, 1) := by decide +kernel
theorem dX12_findSaying_109 : decode MX12_findSaying.2.1 109 = .ok (.iconst 0, 1) := by decide +kernel
theorem dX12_findSaying_110 : decode MX12_findSaying.2.1 110 = .ok (.invokevirtual 476, 3) := by decide +kernel
theorem dX12_findSaying_113 : decode MX12_findSaying.2.1 113 = .ok (.return_, 1) := by decide +kernel
theorem dX12_findSaying_114 : decode MX12_findSaying.2.1 114 = .ok (.aload_n 0, 1) := by decide +kernel
theorem dX12_findSaying_115 : decode MX12_findSaying.2.1 115 = .ok (.getfield 126, 3) := by decide +kernel
theorem dX12_findSaying_118 : decode MX12_findSaying.2.1 118 = .ok (.iconst 0, 1) := by decide +kernel
theorem dX12_findSaying_119 : decode MX12_findSaying.2.1 119 = .ok (.iconst (-1), 1) := by decide +kernel
theorem dX12_findSaying_120 : decode MX12_findSaying.2.1 120 = .ok (.iastore, 1) := by decide +kernel
theorem dX12_findSaying_121 : decode MX12_findSaying.2.1 121 = .ok (.iload 4, 2) := by decide +kernel
theorem dX12_findSaying_123 : decode MX12_findSaying.2.1 123 = .ok (.ifCond .lt 101, 3) := by decide +kernel
theorem dX12_findSaying_126 : decode MX12_findSaying.2.1 126 = .ok (.aload_n 0, 1) := by decide +kernel
theorem dX12_findSaying_127 : decode MX12_findSaying.2.1 127 = .ok (.getfield 126, 3) := by decide +kernel
theorem dX12_findSaying_130 : decode MX12_findSaying.2.1 130 = .ok (.iload 4, 2) := by decide +kernel
theorem dX12_findSaying_132 : decode MX12_findSaying.2.1 132 = .ok (.dup2, 1) := by decide +kernel
theorem dX12_findSaying_133 : decode MX12_findSaying.2.1 133 = .ok (.iaload, 1) := by decide +kernel
theorem dX12_findSaying_134 : decode MX12_findSaying.2.1 134 = .ok (.iconst 1, 1) := by decide +kernel
theorem dX12_findSaying_135 : decode MX12_findSaying.2.1 135 = .ok (.iadd, 1) := by decide +kernel
theorem dX12_findSaying_136 : decode MX12_findSaying.2.1 136 = .ok (.iastore, 1) := by decide +kernel
theorem dX12_findSaying_137 : decode MX12_findSaying.2.1 137 = .ok (.aload_n 0, 1) := by decide +kernel
theorem dX12_findSaying_138 : decode MX12_findSaying.2.1 138 = .ok (.getfield 126, 3) := by decide +kernel
theorem dX12_findSaying_141 : decode MX12_findSaying.2.1 141 = .ok (.iload 4, 2) := by decide +kernel
theorem dX12_findSaying_143 : decode MX12_findSaying.2.1 143 = .ok (.iaload, 1) := by decide +kernel
theorem dX12_findSaying_144 : decode MX12_findSaying.2.1 144 = .ok (.istore 5, 2) := by decide +kernel
theorem dX12_findSaying_146 : decode MX12_findSaying.2.1 146 = .ok (.iload 5, 2) := by decide +kernel
theorem dX12_findSaying_148 : decode MX12_findSaying.2.1 148 = .ok (.aload_n 0, 1) := by decide +kernel
theorem dX12_findSaying_149 : decode MX12_findSaying.2.1 149 = .ok (.getfield 13, 3) := by decide +kernel
theorem dX12_findSaying_152 : decode MX12_findSaying.2.1 152 = .ok (.iconst 0, 1) := by decide +kernel
theorem dX12_findSaying_153 : decode MX12_findSaying.2.1 153 = .ok (.iaload, 1) := by decide +kernel
theorem dX12_findSaying_154 : decode MX12_findSaying.2.1 154 = .ok (.if_icmp .ne 9, 3) := by decide +kernel
theorem dX12_findSaying_157 : decode MX12_findSaying.2.1 157 = .ok (.iinc 4 (-1), 3) := by decide +kernel
theorem dX12_findSaying_160 : decode MX12_findSaying.2.1 160 = .ok (.goto 61, 3) := by decide +kernel
theorem dX12_findSaying_163 : decode MX12_findSaying.2.1 163 = .ok (.aload_n 0, 1) := by decide +kernel
theorem dX12_findSaying_164 : decode MX12_findSaying.2.1 164 = .ok (.getfield 123, 3) := by decide +kernel
theorem dX12_findSaying_167 : decode MX12_findSaying.2.1 167 = .ok (.iload 5, 2) := by decide +kernel
theorem dX12_findSaying_169 : decode MX12_findSaying.2.1 169 = .ok (.baload, 1) := by decide +kernel
theorem dX12_findSaying_170 : decode MX12_findSaying.2.1 170 = .ok (.ifCond .eq 51, 3) := by decide +kernel
theorem dX12_findSaying_173 : decode MX12_findSaying.2.1 173 = .ok (.aload_n 0, 1) := by decide +kernel
theorem dX12_findSaying_174 : decode MX12_findSaying.2.1 174 = .ok (.iload 5, 2) := by decide +kernel
theorem dX12_findSaying_176 : decode MX12_findSaying.2.1 176 = .ok (.iconst 2, 1) := by decide +kernel
theorem dX12_findSaying_177 : decode MX12_findSaying.2.1 177 = .ok (.invokevirtual 220, 3) := by decide +kernel
theorem dX12_findSaying_180 : decode MX12_findSaying.2.1 180 = .ok (.aload_n 0, 1) := by decide +kernel
theorem dX12_findSaying_181 : decode MX12_findSaying.2.1 181 = .ok (.getfield 13, 3) := by decide +kernel
theorem dX12_findSaying_184 : decode MX12_findSaying.2.1 184 = .ok (.sipush 206, 3) := by decide +kernel
theorem dX12_findSaying_187 : decode MX12_findSaying.2.1 187 = .ok (.iload 4, 2) := by decide +kernel
theorem dX12_findSaying_189 : decode MX12_findSaying.2.1 189 = .ok (.iadd, 1) := by decide +kernel
theorem dX12_findSaying_190 : decode MX12_findSaying.2.1 190 = .ok (.iaload, 1) := by decide +kernel
theorem dX12_findSaying_191 : decode MX12_findSaying.2.1 191 = .ok (.if_icmp .ne 30, 3) := by decide +kernel
theorem dX12_findSaying_194 : decode MX12_findSaying.2.1 194 = .ok (.iload 4, 2) := by decide +kernel
theorem dX12_findSaying_196 : decode MX12_findSaying.2.1 196 = .ok (.iload_n 3, 1) := by decide +kernel
theorem dX12_findSaying_197 : decode MX12_findSaying.2.1 197 = .ok (.iconst 1, 1) := by decide +kernel
theorem dX12_findSaying_198 : decode MX12_findSaying.2.1 198 = .ok (.isub, 1) := by decide +kernel
theorem dX12_findSaying_199 : decode MX12_findSaying.2.1 199 = .ok (.if_icmp .ne 11, 3) := by decide +kernel
theorem dX12_findSaying_202 : decode MX12_findSaying.2.1 202 = .ok (.aload_n 0, 1) := by decide +kernel
theorem dX12_findSaying_203 : decode MX12_findSaying.2.1 203 = .ok (.iload_n 3, 1) := by decide +kernel
theorem dX12_findSaying_204 : decode MX12_findSaying.2.1 204 = .ok (.invokevirtual 476, 3) := by decide +kernel
theorem dX12_findSaying_207 : decode MX12_findSaying.2.1 207 = .ok (.goto 14, 3) := by decide +kernel
theorem dX12_findSaying_210 : decode MX12_findSaying.2.1 210 = .ok (.iinc 4 1, 3) := by decide +kernel
theorem dX12_findSaying_213 : decode MX12_findSaying.2.1 213 = .ok (.aload_n 0, 1) := by decide +kernel
theorem dX12_findSaying_214 : decode MX12_findSaying.2.1 214 = .ok (.getfield 126, 3) := by decide +kernel
theorem dX12_findSaying_217 : decode MX12_findSaying.2.1 217 = .ok (.iload 4, 2) := by decide +kernel
theorem dX12_findSaying_219 : decode MX12_findSaying.2.1 219 = .ok (.iconst (-1), 1) := by decide +kernel
theorem dX12_findSaying_220 : decode MX12_findSaying.2.1 220 = .ok (.iastore, 1) := by decide +kernel
theorem dX12_findSaying_221 : decode MX12_findSaying.2.1 221 = .ok (.goto (-100), 3) := by decide +kernel
theorem dX12_findSaying_224 : decode MX12_findSaying.2.1 224 = .ok (.return_, 1) := by decide +kernel
theorem dX12_saying_0 : decode MX12_saying.2.1 0 = .ok (.aload_n 0, 1) := by decide +kernel
theorem dX12_saying_1 : decode MX12_saying.2.1 1 = .ok (.iconst 0, 1) := by decide +kernel
theorem dX12_saying_2 : decode MX12_saying.2.1 2 = .ok (.putfield 163, 3) := by decide +kernel
theorem dX12_saying_5 : decode MX12_saying.2.1 5 = .ok (.iload_n 1, 1) := by decide +kernel
theorem dX12_saying_6 : decode MX12_saying.2.1 6 = .ok (.invokestatic 428, 3) := by decide +kernel
theorem dX12_saying_9 : decode MX12_saying.2.1 9 = .ok (.ifCond .eq 28, 3) := by decide +kernel
theorem dX12_saying_12 : decode MX12_saying.2.1 12 = .ok (.iload_n 2, 1) := by decide +kernel
theorem dX12_saying_13 : decode MX12_saying.2.1 13 = .ok (.invokestatic 431, 3) := by decide +kernel
theorem dX12_saying_16 : decode MX12_saying.2.1 16 = .ok (.ifCond .eq 21, 3) := by decide +kernel
theorem dX12_saying_19 : decode MX12_saying.2.1 19 = .ok (.iload_n 3, 1) := by decide +kernel
theorem dX12_saying_20 : decode MX12_saying.2.1 20 = .ok (.i2l, 1) := by decide +kernel
theorem dX12_saying_21 : decode MX12_saying.2.1 21 = .ok (.lconst 0, 1) := by decide +kernel
theorem dX12_saying_22 : decode MX12_saying.2.1 22 = .ok (.lconst 1, 1) := by decide +kernel
theorem dX12_saying_23 : decode MX12_saying.2.1 23 = .ok (.aload_n 0, 1) := by decide +kernel
theorem dX12_saying_24 : decode MX12_saying.2.1 24 = .ok (.getfield 13, 3) := by decide +kernel
theorem dX12_saying_27 : decode MX12_saying.2.1 27 = .ok (.iconst 1, 1) := by decide +kernel
theorem dX12_saying_28 : decode MX12_saying.2.1 28 = .ok (.iaload, 1) := by decide +kernel
theorem dX12_saying_29 : decode MX12_saying.2.1 29 = .ok (.i2l, 1) := by decide +kernel
theorem dX12_saying_30 : decode MX12_saying.2.1 30 = .ok (.ladd, 1) := by decide +kernel
theorem dX12_saying_31 : decode MX12_saying.2.1 31 = .ok (.invokestatic 183, 3) := by decide +kernel
theorem dX12_saying_34 : decode MX12_saying.2.1 34 = .ok (.ifCond .ne 5, 3) := by decide +kernel
theorem dX12_saying_37 : decode MX12_saying.2.1 37 = .ok (.iconst (-1), 1) := by decide +kernel
theorem dX12_saying_38 : decode MX12_saying.2.1 38 = .ok (.ireturn, 1) := by decide +kernel
theorem dX12_saying_39 : decode MX12_saying.2.1 39 = .ok (.aload_n 0, 1) := by decide +kernel
theorem dX12_saying_40 : decode MX12_saying.2.1 40 = .ok (.iload_n 1, 1) := by decide +kernel
theorem dX12_saying_41 : decode MX12_saying.2.1 41 = .ok (.iload_n 2, 1) := by decide +kernel
theorem dX12_saying_42 : decode MX12_saying.2.1 42 = .ok (.invokevirtual 479, 3) := by decide +kernel
theorem dX12_saying_45 : decode MX12_saying.2.1 45 = .ok (.iload_n 3, 1) := by decide +kernel
theorem dX12_saying_46 : decode MX12_saying.2.1 46 = .ok (.iconst 1, 1) := by decide +kernel
theorem dX12_saying_47 : decode MX12_saying.2.1 47 = .ok (.if_icmp .eq 10, 3) := by decide +kernel
theorem dX12_saying_50 : decode MX12_saying.2.1 50 = .ok (.aload_n 0, 1) := by decide +kernel
theorem dX12_saying_51 : decode MX12_saying.2.1 51 = .ok (.getfield 472, 3) := by decide +kernel
theorem dX12_saying_54 : decode MX12_saying.2.1 54 = .ok (.ifCond .ne 17, 3) := by decide +kernel
theorem dX12_saying_57 : decode MX12_saying.2.1 57 = .ok (.iload_n 3, 1) := by decide +kernel
theorem dX12_saying_58 : decode MX12_saying.2.1 58 = .ok (.iconst 1, 1) := by decide +kernel
theorem dX12_saying_59 : decode MX12_saying.2.1 59 = .ok (.if_icmp .ne 10, 3) := by decide +kernel
theorem dX12_saying_62 : decode MX12_saying.2.1 62 = .ok (.aload_n 0, 1) := by decide +kernel
theorem dX12_saying_63 : decode MX12_saying.2.1 63 = .ok (.getfield 472, 3) := by decide +kernel
theorem dX12_saying_66 : decode MX12_saying.2.1 66 = .ok (.goto 4, 3) := by decide +kernel
theorem dX12_saying_69 : decode MX12_saying.2.1 69 = .ok (.iconst (-1), 1) := by decide +kernel
theorem dX12_saying_70 : decode MX12_saying.2.1 70 = .ok (.ireturn, 1) := by decide +kernel
theorem dX12_saying_71 : decode MX12_saying.2.1 71 = .ok (.iload_n 3, 1) := by decide +kernel
theorem dX12_saying_72 : decode MX12_saying.2.1 72 = .ok (.ifCond .ne 10, 3) := by decide +kernel
theorem dX12_saying_75 : decode MX12_saying.2.1 75 = .ok (.aload_n 0, 1) := by decide +kernel
theorem dX12_saying_76 : decode MX12_saying.2.1 76 = .ok (.getfield 469, 3) := by decide +kernel
theorem dX12_saying_79 : decode MX12_saying.2.1 79 = .ok (.goto 11, 3) := by decide +kernel
theorem dX12_saying_82 : decode MX12_saying.2.1 82 = .ok (.aload_n 0, 1) := by decide +kernel
theorem dX12_saying_83 : decode MX12_saying.2.1 83 = .ok (.getfield 129, 3) := by decide +kernel
theorem dX12_saying_86 : decode MX12_saying.2.1 86 = .ok (.iload_n 3, 1) := by decide +kernel
theorem dX12_saying_87 : decode MX12_saying.2.1 87 = .ok (.iconst 2, 1) := by decide +kernel
theorem dX12_saying_88 : decode MX12_saying.2.1 88 = .ok (.isub, 1) := by decide +kernel
theorem dX12_saying_89 : decode MX12_saying.2.1 89 = .ok (.iaload, 1) := by decide +kernel
theorem dX12_saying_90 : decode MX12_saying.2.1 90 = .ok (.ireturn, 1) := by decide +kernel
theorem dX12_talk_0 : decode MX12_talk.2.1 0 = .ok (.aload_n 0, 1) := by decide +kernel
theorem dX12_talk_1 : decode MX12_talk.2.1 1 = .ok (.iconst 0, 1) := by decide +kernel
theorem dX12_talk_2 : decode MX12_talk.2.1 2 = .ok (.putfield 163, 3) := by decide +kernel
theorem dX12_talk_5 : decode MX12_talk.2.1 5 = .ok (.iload_n 2, 1) := by decide +kernel
theorem dX12_talk_6 : decode MX12_talk.2.1 6 = .ok (.invokestatic 428, 3) := by decide +kernel
theorem dX12_talk_9 : decode MX12_talk.2.1 9 = .ok (.ifCond .eq 10, 3) := by decide +kernel
theorem dX12_talk_12 : decode MX12_talk.2.1 12 = .ok (.iload_n 3, 1) := by decide +kernel
theorem dX12_talk_13 : decode MX12_talk.2.1 13 = .ok (.invokestatic 431, 3) := by decide +kernel
theorem dX12_talk_16 : decode MX12_talk.2.1 16 = .ok (.ifCond .ne 9, 3) := by decide +kernel
theorem dX12_talk_19 : decode MX12_talk.2.1 19 = .ok (.aload_n 0, 1) := by decide +kernel
theorem dX12_talk_20 : decode MX12_talk.2.1 20 = .ok (.iconst (-1), 1) := by decide +kernel
theorem dX12_talk_21 : decode MX12_talk.2.1 21 = .ok (.invokevirtual 176, 3) := by decide +kernel
theorem dX12_talk_24 : decode MX12_talk.2.1 24 = .ok (.ireturn, 1) := by decide +kernel
theorem dX12_talk_25 : decode MX12_talk.2.1 25 = .ok (.aload_n 0, 1) := by decide +kernel
theorem dX12_talk_26 : decode MX12_talk.2.1 26 = .ok (.iload_n 1, 1) := by decide +kernel
theorem dX12_talk_27 : decode MX12_talk.2.1 27 = .ok (.invokevirtual 217, 3) := by decide +kernel
theorem dX12_talk_30 : decode MX12_talk.2.1 30 = .ok (.ifCond .ne 10, 3) := by decide +kernel
theorem dX12_talk_33 : decode MX12_talk.2.1 33 = .ok (.aload_n 0, 1) := by decide +kernel
theorem dX12_talk_34 : decode MX12_talk.2.1 34 = .ok (.bipush (-2), 2) := by decide +kernel
theorem dX12_talk_36 : decode MX12_talk.2.1 36 = .ok (.invokevirtual 176, 3) := by decide +kernel
theorem dX12_talk_39 : decode MX12_talk.2.1 39 = .ok (.ireturn, 1) := by decide +kernel
theorem dX12_talk_40 : decode MX12_talk.2.1 40 = .ok (.aload_n 0, 1) := by decide +kernel
theorem dX12_talk_41 : decode MX12_talk.2.1 41 = .ok (.getfield 13, 3) := by decide +kernel
theorem dX12_talk_44 : decode MX12_talk.2.1 44 = .ok (.iconst 2, 1) := by decide +kernel
theorem dX12_talk_45 : decode MX12_talk.2.1 45 = .ok (.iaload, 1) := by decide +kernel
theorem dX12_talk_46 : decode MX12_talk.2.1 46 = .ok (.istore 4, 2) := by decide +kernel
theorem dX12_talk_48 : decode MX12_talk.2.1 48 = .ok (.iload 4, 2) := by decide +kernel
theorem dX12_talk_50 : decode MX12_talk.2.1 50 = .ok (.bipush 6, 2) := by decide +kernel
theorem dX12_talk_52 : decode MX12_talk.2.1 52 = .ok (.if_icmp .ne 10, 3) := by decide +kernel
theorem dX12_talk_55 : decode MX12_talk.2.1 55 = .ok (.aload_n 0, 1) := by decide +kernel
theorem dX12_talk_56 : decode MX12_talk.2.1 56 = .ok (.bipush (-5), 2) := by decide +kernel
theorem dX12_talk_58 : decode MX12_talk.2.1 58 = .ok (.invokevirtual 176, 3) := by decide +kernel
theorem dX12_talk_61 : decode MX12_talk.2.1 61 = .ok (.ireturn, 1) := by decide +kernel
theorem dX12_talk_62 : decode MX12_talk.2.1 62 = .ok (.aload_n 0, 1) := by decide +kernel
theorem dX12_talk_63 : decode MX12_talk.2.1 63 = .ok (.getfield 13, 3) := by decide +kernel
theorem dX12_talk_66 : decode MX12_talk.2.1 66 = .ok (.sipush 211, 3) := by decide +kernel
theorem dX12_talk_69 : decode MX12_talk.2.1 69 = .ok (.iconst 3, 1) := by decide +kernel
theorem dX12_talk_70 : decode MX12_talk.2.1 70 = .ok (.iload 4, 2) := by decide +kernel
theorem dX12_talk_72 : decode MX12_talk.2.1 72 = .ok (.imul, 1) := by decide +kernel
theorem dX12_talk_73 : decode MX12_talk.2.1 73 = .ok (.iadd, 1) := by decide +kernel
theorem dX12_talk_74 : decode MX12_talk.2.1 74 = .ok (.iload_n 1, 1) := by decide +kernel
theorem dX12_talk_75 : decode MX12_talk.2.1 75 = .ok (.iastore, 1) := by decide +kernel
theorem dX12_talk_76 : decode MX12_talk.2.1 76 = .ok (.aload_n 0, 1) := by decide +kernel
theorem dX12_talk_77 : decode MX12_talk.2.1 77 = .ok (.getfield 13, 3) := by decide +kernel
theorem dX12_talk_80 : decode MX12_talk.2.1 80 = .ok (.sipush 211, 3) := by decide +kernel
theorem dX12_talk_83 : decode MX12_talk.2.1 83 = .ok (.iconst 3, 1) := by decide +kernel
theorem dX12_talk_84 : decode MX12_talk.2.1 84 = .ok (.iload 4, 2) := by decide +kernel
theorem dX12_talk_86 : decode MX12_talk.2.1 86 = .ok (.imul, 1) := by decide +kernel
theorem dX12_talk_87 : decode MX12_talk.2.1 87 = .ok (.iadd, 1) := by decide +kernel
theorem dX12_talk_88 : decode MX12_talk.2.1 88 = .ok (.iconst 1, 1) := by decide +kernel
theorem dX12_talk_89 : decode MX12_talk.2.1 89 = .ok (.iadd, 1) := by decide +kernel
theorem dX12_talk_90 : decode MX12_talk.2.1 90 = .ok (.iload_n 2, 1) := by decide +kernel
theorem dX12_talk_91 : decode MX12_talk.2.1 91 = .ok (.iastore, 1) := by decide +kernel
theorem dX12_talk_92 : decode MX12_talk.2.1 92 = .ok (.aload_n 0, 1) := by decide +kernel
theorem dX12_talk_93 : decode MX12_talk.2.1 93 = .ok (.getfield 13, 3) := by decide +kernel
theorem dX12_talk_96 : decode MX12_talk.2.1 96 = .ok (.sipush 211, 3) := by decide +kernel
theorem dX12_talk_99 : decode MX12_talk.2.1 99 = .ok (.iconst 3, 1) := by decide +kernel
theorem dX12_talk_100 : decode MX12_talk.2.1 100 = .ok (.iload 4, 2) := by decide +kernel
theorem dX12_talk_102 : decode MX12_talk.2.1 102 = .ok (.imul, 1) := by decide +kernel
theorem dX12_talk_103 : decode MX12_talk.2.1 103 = .ok (.iadd, 1) := by decide +kernel
theorem dX12_talk_104 : decode MX12_talk.2.1 104 = .ok (.iconst 2, 1) := by decide +kernel
theorem dX12_talk_105 : decode MX12_talk.2.1 105 = .ok (.iadd, 1) := by decide +kernel
theorem dX12_talk_106 : decode MX12_talk.2.1 106 = .ok (.iload_n 3, 1) := by decide +kernel
theorem dX12_talk_107 : decode MX12_talk.2.1 107 = .ok (.iastore, 1) := by decide +kernel
theorem dX12_talk_108 : decode MX12_talk.2.1 108 = .ok (.aload_n 0, 1) := by decide +kernel
theorem dX12_talk_109 : decode MX12_talk.2.1 109 = .ok (.getfield 13, 3) := by decide +kernel
theorem dX12_talk_112 : decode MX12_talk.2.1 112 = .ok (.iconst 2, 1) := by decide +kernel
theorem dX12_talk_113 : decode MX12_talk.2.1 113 = .ok (.dup2, 1) := by decide +kernel
theorem dX12_talk_114 : decode MX12_talk.2.1 114 = .ok (.iaload, 1) := by decide +kernel
theorem dX12_talk_115 : decode MX12_talk.2.1 115 = .ok (.iconst 1, 1) := by decide +kernel
theorem dX12_talk_116 : decode MX12_talk.2.1 116 = .ok (.iadd, 1) := by decide +kernel
theorem dX12_talk_117 : decode MX12_talk.2.1 117 = .ok (.iastore, 1) := by decide +kernel
theorem dX12_talk_118 : decode MX12_talk.2.1 118 = .ok (.aload_n 0, 1) := by decide +kernel
theorem dX12_talk_119 : decode MX12_talk.2.1 119 = .ok (.iload 4, 2) := by decide +kernel
theorem dX12_talk_121 : decode MX12_talk.2.1 121 = .ok (.invokevirtual 176, 3) := by decide +kernel
theorem dX12_talk_124 : decode MX12_talk.2.1 124 = .ok (.ireturn, 1) := by decide +kernel
theorem dX12_cancel_0 : decode MX12_cancel.2.1 0 = .ok (.aload_n 0, 1) := by decide +kernel
theorem dX12_cancel_1 : decode MX12_cancel.2.1 1 = .ok (.iconst 0, 1) := by decide +kernel
theorem dX12_cancel_2 : decode MX12_cancel.2.1 2 = .ok (.putfield 163, 3) := by decide +kernel
theorem dX12_cancel_5 : decode MX12_cancel.2.1 5 = .ok (.aload_n 0, 1) := by decide +kernel
theorem dX12_cancel_6 : decode MX12_cancel.2.1 6 = .ok (.getfield 13, 3) := by decide +kernel
theorem dX12_cancel_9 : decode MX12_cancel.2.1 9 = .ok (.iconst 2, 1) := by decide +kernel
theorem dX12_cancel_10 : decode MX12_cancel.2.1 10 = .ok (.iaload, 1) := by decide +kernel
theorem dX12_cancel_11 : decode MX12_cancel.2.1 11 = .ok (.istore_n 1, 1) := by decide +kernel
theorem dX12_cancel_12 : decode MX12_cancel.2.1 12 = .ok (.aload_n 0, 1) := by decide +kernel
theorem dX12_cancel_13 : decode MX12_cancel.2.1 13 = .ok (.getfield 13, 3) := by decide +kernel
theorem dX12_cancel_16 : decode MX12_cancel.2.1 16 = .ok (.iconst 2, 1) := by decide +kernel
theorem dX12_cancel_17 : decode MX12_cancel.2.1 17 = .ok (.iconst 0, 1) := by decide +kernel
theorem dX12_cancel_18 : decode MX12_cancel.2.1 18 = .ok (.iastore, 1) := by decide +kernel
theorem dX12_cancel_19 : decode MX12_cancel.2.1 19 = .ok (.iload_n 1, 1) := by decide +kernel
theorem dX12_cancel_20 : decode MX12_cancel.2.1 20 = .ok (.ireturn, 1) := by decide +kernel
theorem dX12_isQuiet_0 : decode MX12_isQuiet.2.1 0 = .ok (.iconst 1, 1) := by decide +kernel
theorem dX12_isQuiet_1 : decode MX12_isQuiet.2.1 1 = .ok (.istore_n 2, 1) := by decide +kernel
theorem dX12_isQuiet_2 : decode MX12_isQuiet.2.1 2 = .ok (.iconst 0, 1) := by decide +kernel
theorem dX12_isQuiet_3 : decode MX12_isQuiet.2.1 3 = .ok (.istore_n 3, 1) := by decide +kernel
theorem dX12_isQuiet_4 : decode MX12_isQuiet.2.1 4 = .ok (.iload_n 3, 1) := by decide +kernel
theorem dX12_isQuiet_5 : decode MX12_isQuiet.2.1 5 = .ok (.iload_n 1, 1) := by decide +kernel
theorem dX12_isQuiet_6 : decode MX12_isQuiet.2.1 6 = .ok (.if_icmp .ge 156, 3) := by decide +kernel
theorem dX12_isQuiet_9 : decode MX12_isQuiet.2.1 9 = .ok (.iload_n 2, 1) := by decide +kernel
theorem dX12_isQuiet_10 : decode MX12_isQuiet.2.1 10 = .ok (.ifCond .eq 152, 3) := by decide +kernel
theorem dX12_isQuiet_13 : decode MX12_isQuiet.2.1 13 = .ok (.iload_n 3, 1) := by decide +kernel
theorem dX12_isQuiet_14 : decode MX12_isQuiet.2.1 14 = .ok (.ifCond .le 26, 3) := by decide +kernel
theorem dX12_isQuiet_17 : decode MX12_isQuiet.2.1 17 = .ok (.aload_n 0, 1) := by decide +kernel
theorem dX12_isQuiet_18 : decode MX12_isQuiet.2.1 18 = .ok (.invokevirtual 413, 3) := by decide +kernel
theorem dX12_isQuiet_21 : decode MX12_isQuiet.2.1 21 = .ok (.sipush 999, 3) := by decide +kernel
theorem dX12_isQuiet_24 : decode MX12_isQuiet.2.1 24 = .ok (.if_icmp .ge 14, 3) := by decide +kernel
theorem dX12_isQuiet_27 : decode MX12_isQuiet.2.1 27 = .ok (.aload_n 0, 1) := by decide +kernel
theorem dX12_isQuiet_28 : decode MX12_isQuiet.2.1 28 = .ok (.invokevirtual 457, 3) := by decide +kernel
theorem dX12_isQuiet_31 : decode MX12_isQuiet.2.1 31 = .ok (.ifCond .ne 7, 3) := by decide +kernel
theorem dX12_isQuiet_34 : decode MX12_isQuiet.2.1 34 = .ok (.iconst 1, 1) := by decide +kernel
theorem dX12_isQuiet_35 : decode MX12_isQuiet.2.1 35 = .ok (.goto 4, 3) := by decide +kernel
theorem dX12_isQuiet_38 : decode MX12_isQuiet.2.1 38 = .ok (.iconst 0, 1) := by decide +kernel
theorem dX12_isQuiet_39 : decode MX12_isQuiet.2.1 39 = .ok (.istore_n 2, 1) := by decide +kernel
theorem dX12_isQuiet_40 : decode MX12_isQuiet.2.1 40 = .ok (.iconst 0, 1) := by decide +kernel
theorem dX12_isQuiet_41 : decode MX12_isQuiet.2.1 41 = .ok (.istore 4, 2) := by decide +kernel
theorem dX12_isQuiet_43 : decode MX12_isQuiet.2.1 43 = .ok (.iload 4, 2) := by decide +kernel
theorem dX12_isQuiet_45 : decode MX12_isQuiet.2.1 45 = .ok (.aload_n 0, 1) := by decide +kernel
theorem dX12_isQuiet_46 : decode MX12_isQuiet.2.1 46 = .ok (.getfield 13, 3) := by decide +kernel
theorem dX12_isQuiet_49 : decode MX12_isQuiet.2.1 49 = .ok (.iconst 2, 1) := by decide +kernel
theorem dX12_isQuiet_50 : decode MX12_isQuiet.2.1 50 = .ok (.iaload, 1) := by decide +kernel
theorem dX12_isQuiet_51 : decode MX12_isQuiet.2.1 51 = .ok (.if_icmp .ge 105, 3) := by decide +kernel
theorem dX12_isQuiet_54 : decode MX12_isQuiet.2.1 54 = .ok (.iload_n 2, 1) := by decide +kernel
theorem dX12_isQuiet_55 : decode MX12_isQuiet.2.1 55 = .ok (.ifCond .eq 101, 3) := by decide +kernel
theorem dX12_isQuiet_58 : decode MX12_isQuiet.2.1 58 = .ok (.sipush 211, 3) := by decide +kernel
theorem dX12_isQuiet_61 : decode MX12_isQuiet.2.1 61 = .ok (.iconst 3, 1) := by decide +kernel
theorem dX12_isQuiet_62 : decode MX12_isQuiet.2.1 62 = .ok (.iload 4, 2) := by decide +kernel
theorem dX12_isQuiet_64 : decode MX12_isQuiet.2.1 64 = .ok (.imul, 1) := by decide +kernel
theorem dX12_isQuiet_65 : decode MX12_isQuiet.2.1 65 = .ok (.iadd, 1) := by decide +kernel
theorem dX12_isQuiet_66 : decode MX12_isQuiet.2.1 66 = .ok (.istore 5, 2) := by decide +kernel
theorem dX12_isQuiet_68 : decode MX12_isQuiet.2.1 68 = .ok (.aload_n 0, 1) := by decide +kernel
theorem dX12_isQuiet_69 : decode MX12_isQuiet.2.1 69 = .ok (.getfield 132, 3) := by decide +kernel
theorem dX12_isQuiet_72 : decode MX12_isQuiet.2.1 72 = .ok (.iload 4, 2) := by decide +kernel
theorem dX12_isQuiet_74 : decode MX12_isQuiet.2.1 74 = .ok (.iaload, 1) := by decide +kernel
theorem dX12_isQuiet_75 : decode MX12_isQuiet.2.1 75 = .ok (.iload_n 3, 1) := by decide +kernel
theorem dX12_isQuiet_76 : decode MX12_isQuiet.2.1 76 = .ok (.if_icmp .ne 74, 3) := by decide +kernel
theorem dX12_isQuiet_79 : decode MX12_isQuiet.2.1 79 = .ok (.aload_n 0, 1) := by decide +kernel
theorem dX12_isQuiet_80 : decode MX12_isQuiet.2.1 80 = .ok (.aload_n 0, 1) := by decide +kernel
theorem dX12_isQuiet_81 : decode MX12_isQuiet.2.1 81 = .ok (.getfield 13, 3) := by decide +kernel
theorem dX12_isQuiet_84 : decode MX12_isQuiet.2.1 84 = .ok (.iload 5, 2) := by decide +kernel
theorem dX12_isQuiet_86 : decode MX12_isQuiet.2.1 86 = .ok (.iaload, 1) := by decide +kernel
theorem dX12_isQuiet_87 : decode MX12_isQuiet.2.1 87 = .ok (.aload_n 0, 1) := by decide +kernel
theorem dX12_isQuiet_88 : decode MX12_isQuiet.2.1 88 = .ok (.getfield 13, 3) := by decide +kernel
theorem dX12_isQuiet_91 : decode MX12_isQuiet.2.1 91 = .ok (.iload 5, 2) := by decide +kernel
theorem dX12_isQuiet_93 : decode MX12_isQuiet.2.1 93 = .ok (.iconst 1, 1) := by decide +kernel
theorem dX12_isQuiet_94 : decode MX12_isQuiet.2.1 94 = .ok (.iadd, 1) := by decide +kernel
theorem dX12_isQuiet_95 : decode MX12_isQuiet.2.1 95 = .ok (.iaload, 1) := by decide +kernel
theorem dX12_isQuiet_96 : decode MX12_isQuiet.2.1 96 = .ok (.aload_n 0, 1) := by decide +kernel
theorem dX12_isQuiet_97 : decode MX12_isQuiet.2.1 97 = .ok (.getfield 13, 3) := by decide +kernel
theorem dX12_isQuiet_100 : decode MX12_isQuiet.2.1 100 = .ok (.iload 5, 2) := by decide +kernel
theorem dX12_isQuiet_102 : decode MX12_isQuiet.2.1 102 = .ok (.iconst 2, 1) := by decide +kernel
theorem dX12_isQuiet_103 : decode MX12_isQuiet.2.1 103 = .ok (.iadd, 1) := by decide +kernel
theorem dX12_isQuiet_104 : decode MX12_isQuiet.2.1 104 = .ok (.iaload, 1) := by decide +kernel
theorem dX12_isQuiet_105 : decode MX12_isQuiet.2.1 105 = .ok (.invokevirtual 438, 3) := by decide +kernel
theorem dX12_isQuiet_108 : decode MX12_isQuiet.2.1 108 = .ok (.ifCond .ne 40, 3) := by decide +kernel
theorem dX12_isQuiet_111 : decode MX12_isQuiet.2.1 111 = .ok (.aload_n 0, 1) := by decide +kernel
theorem dX12_isQuiet_112 : decode MX12_isQuiet.2.1 112 = .ok (.iconst 0, 1) := by decide +kernel
theorem dX12_isQuiet_113 : decode MX12_isQuiet.2.1 113 = .ok (.aload_n 0, 1) := by decide +kernel
theorem dX12_isQuiet_114 : decode MX12_isQuiet.2.1 114 = .ok (.getfield 13, 3) := by decide +kernel
theorem dX12_isQuiet_117 : decode MX12_isQuiet.2.1 117 = .ok (.iload 5, 2) := by decide +kernel
theorem dX12_isQuiet_119 : decode MX12_isQuiet.2.1 119 = .ok (.iaload, 1) := by decide +kernel
theorem dX12_isQuiet_120 : decode MX12_isQuiet.2.1 120 = .ok (.aload_n 0, 1) := by decide +kernel
theorem dX12_isQuiet_121 : decode MX12_isQuiet.2.1 121 = .ok (.getfield 13, 3) := by decide +kernel
theorem dX12_isQuiet_124 : decode MX12_isQuiet.2.1 124 = .ok (.iload 5, 2) := by decide +kernel
theorem dX12_isQuiet_126 : decode MX12_isQuiet.2.1 126 = .ok (.iconst 1, 1) := by decide +kernel
theorem dX12_isQuiet_127 : decode MX12_isQuiet.2.1 127 = .ok (.iadd, 1) := by decide +kernel
theorem dX12_isQuiet_128 : decode MX12_isQuiet.2.1 128 = .ok (.iaload, 1) := by decide +kernel
theorem dX12_isQuiet_129 : decode MX12_isQuiet.2.1 129 = .ok (.aload_n 0, 1) := by decide +kernel
theorem dX12_isQuiet_130 : decode MX12_isQuiet.2.1 130 = .ok (.getfield 13, 3) := by decide +kernel
theorem dX12_isQuiet_133 : decode MX12_isQuiet.2.1 133 = .ok (.iload 5, 2) := by decide +kernel
theorem dX12_isQuiet_135 : decode MX12_isQuiet.2.1 135 = .ok (.iconst 2, 1) := by decide +kernel
theorem dX12_isQuiet_136 : decode MX12_isQuiet.2.1 136 = .ok (.iadd, 1) := by decide +kernel
theorem dX12_isQuiet_137 : decode MX12_isQuiet.2.1 137 = .ok (.iaload, 1) := by decide +kernel
theorem dX12_isQuiet_138 : decode MX12_isQuiet.2.1 138 = .ok (.invokevirtual 454, 3) := by decide +kernel
theorem dX12_isQuiet_141 : decode MX12_isQuiet.2.1 141 = .ok (.ifCond .ne 7, 3) := by decide +kernel
theorem dX12_isQuiet_144 : decode MX12_isQuiet.2.1 144 = .ok (.iconst 1, 1) := by decide +kernel
theorem dX12_isQuiet_145 : decode MX12_isQuiet.2.1 145 = .ok (.goto 4, 3) := by decide +kernel
theorem dX12_isQuiet_148 : decode MX12_isQuiet.2.1 148 = .ok (.iconst 0, 1) := by decide +kernel
theorem dX12_isQuiet_149 : decode MX12_isQuiet.2.1 149 = .ok (.istore_n 2, 1) := by decide +kernel
theorem dX12_isQuiet_150 : decode MX12_isQuiet.2.1 150 = .ok (.iinc 4 1, 3) := by decide +kernel
theorem dX12_isQuiet_153 : decode MX12_isQuiet.2.1 153 = .ok (.goto (-110), 3) := by decide +kernel
theorem dX12_isQuiet_156 : decode MX12_isQuiet.2.1 156 = .ok (.iinc 3 1, 3) := by decide +kernel
theorem dX12_isQuiet_159 : decode MX12_isQuiet.2.1 159 = .ok (.goto (-155), 3) := by decide +kernel
theorem dX12_isQuiet_162 : decode MX12_isQuiet.2.1 162 = .ok (.iload_n 2, 1) := by decide +kernel
theorem dX12_isQuiet_163 : decode MX12_isQuiet.2.1 163 = .ok (.ireturn, 1) := by decide +kernel
theorem dX12_plan_0 : decode MX12_plan.2.1 0 = .ok (.aload_n 0, 1) := by decide +kernel
theorem dX12_plan_1 : decode MX12_plan.2.1 1 = .ok (.iconst 0, 1) := by decide +kernel
theorem dX12_plan_2 : decode MX12_plan.2.1 2 = .ok (.putfield 163, 3) := by decide +kernel
theorem dX12_plan_5 : decode MX12_plan.2.1 5 = .ok (.aload_n 0, 1) := by decide +kernel
theorem dX12_plan_6 : decode MX12_plan.2.1 6 = .ok (.getfield 13, 3) := by decide +kernel
theorem dX12_plan_9 : decode MX12_plan.2.1 9 = .ok (.iconst 2, 1) := by decide +kernel
theorem dX12_plan_10 : decode MX12_plan.2.1 10 = .ok (.iaload, 1) := by decide +kernel
theorem dX12_plan_11 : decode MX12_plan.2.1 11 = .ok (.istore_n 3, 1) := by decide +kernel
theorem dX12_plan_12 : decode MX12_plan.2.1 12 = .ok (.iload_n 1, 1) := by decide +kernel
theorem dX12_plan_13 : decode MX12_plan.2.1 13 = .ok (.i2l, 1) := by decide +kernel
theorem dX12_plan_14 : decode MX12_plan.2.1 14 = .ok (.lconst 1, 1) := by decide +kernel
theorem dX12_plan_15 : decode MX12_plan.2.1 15 = .ok (.ldc2_w 193, 3) := by decide +kernel
theorem dX12_plan_18 : decode MX12_plan.2.1 18 = .ok (.invokestatic 183, 3) := by decide +kernel
theorem dX12_plan_21 : decode MX12_plan.2.1 21 = .ok (.ifCond .eq 18, 3) := by decide +kernel
theorem dX12_plan_24 : decode MX12_plan.2.1 24 = .ok (.iload_n 2, 1) := by decide +kernel
theorem dX12_plan_25 : decode MX12_plan.2.1 25 = .ok (.i2l, 1) := by decide +kernel
theorem dX12_plan_26 : decode MX12_plan.2.1 26 = .ok (.ldc2_w 266, 3) := by decide +kernel
theorem dX12_plan_29 : decode MX12_plan.2.1 29 = .ok (.iload_n 3, 1) := by decide +kernel
theorem dX12_plan_30 : decode MX12_plan.2.1 30 = .ok (.i2l, 1) := by decide +kernel
theorem dX12_plan_31 : decode MX12_plan.2.1 31 = .ok (.lconst 1, 1) := by decide +kernel
theorem dX12_plan_32 : decode MX12_plan.2.1 32 = .ok (.lsub, 1) := by decide +kernel
theorem dX12_plan_33 : decode MX12_plan.2.1 33 = .ok (.invokestatic 183, 3) := by decide +kernel
theorem dX12_plan_36 : decode MX12_plan.2.1 36 = .ok (.ifCond .ne 5, 3) := by decide +kernel
theorem dX12_plan_39 : decode MX12_plan.2.1 39 = .ok (.iconst (-1), 1) := by decide +kernel
theorem dX12_plan_40 : decode MX12_plan.2.1 40 = .ok (.ireturn, 1) := by decide +kernel
theorem dX12_plan_41 : decode MX12_plan.2.1 41 = .ok (.iconst 1, 1) := by decide +kernel
theorem dX12_plan_42 : decode MX12_plan.2.1 42 = .ok (.istore 4, 2) := by decide +kernel
theorem dX12_plan_44 : decode MX12_plan.2.1 44 = .ok (.iconst 0, 1) := by decide +kernel
theorem dX12_plan_45 : decode MX12_plan.2.1 45 = .ok (.istore 5, 2) := by decide +kernel
theorem dX12_plan_47 : decode MX12_plan.2.1 47 = .ok (.iload 5, 2) := by decide +kernel
theorem dX12_plan_49 : decode MX12_plan.2.1 49 = .ok (.iload_n 3, 1) := by decide +kernel
theorem dX12_plan_50 : decode MX12_plan.2.1 50 = .ok (.if_icmp .ge 15, 3) := by decide +kernel
theorem dX12_plan_53 : decode MX12_plan.2.1 53 = .ok (.iload 4, 2) := by decide +kernel
theorem dX12_plan_55 : decode MX12_plan.2.1 55 = .ok (.iload_n 1, 1) := by decide +kernel
theorem dX12_plan_56 : decode MX12_plan.2.1 56 = .ok (.imul, 1) := by decide +kernel
theorem dX12_plan_57 : decode MX12_plan.2.1 57 = .ok (.istore 4, 2) := by decide +kernel
theorem dX12_plan_59 : decode MX12_plan.2.1 59 = .ok (.iinc 5 1, 3) := by decide +kernel
theorem dX12_plan_62 : decode MX12_plan.2.1 62 = .ok (.goto (-15), 3) := by decide +kernel
theorem dX12_plan_65 : decode MX12_plan.2.1 65 = .ok (.aload_n 0, 1) := by decide +kernel
theorem dX12_plan_66 : decode MX12_plan.2.1 66 = .ok (.bipush 16, 2) := by decide +kernel
theorem dX12_plan_68 : decode MX12_plan.2.1 68 = .ok (.invokevirtual 172, 3) := by decide +kernel
theorem dX12_plan_71 : decode MX12_plan.2.1 71 = .ok (.iconst 0, 1) := by decide +kernel
theorem dX12_plan_72 : decode MX12_plan.2.1 72 = .ok (.istore 5, 2) := by decide +kernel
theorem dX12_plan_74 : decode MX12_plan.2.1 74 = .ok (.iconst 0, 1) := by decide +kernel
theorem dX12_plan_75 : decode MX12_plan.2.1 75 = .ok (.istore 6, 2) := by decide +kernel
theorem dX12_plan_77 : decode MX12_plan.2.1 77 = .ok (.iload 6, 2) := by decide +kernel
theorem dX12_plan_79 : decode MX12_plan.2.1 79 = .ok (.iload 4, 2) := by decide +kernel
theorem dX12_plan_81 : decode MX12_plan.2.1 81 = .ok (.if_icmp .ge 113, 3) := by decide +kernel
theorem dX12_plan_84 : decode MX12_plan.2.1 84 = .ok (.iload 6, 2) := by decide +kernel
theorem dX12_plan_86 : decode MX12_plan.2.1 86 = .ok (.istore 7, 2) := by decide +kernel
theorem dX12_plan_88 : decode MX12_plan.2.1 88 = .ok (.iload_n 3, 1) := by decide +kernel
theorem dX12_plan_89 : decode MX12_plan.2.1 89 = .ok (.iconst 1, 1) := by decide +kernel
theorem dX12_plan_90 : decode MX12_plan.2.1 90 = .ok (.isub, 1) := by decide +kernel
theorem dX12_plan_91 : decode MX12_plan.2.1 91 = .ok (.istore 8, 2) := by decide +kernel
theorem dX12_plan_93 : decode MX12_plan.2.1 93 = .ok (.iload 8, 2) := by decide +kernel
theorem dX12_plan_95 : decode MX12_plan.2.1 95 = .ok (.ifCond .lt 26, 3) := by decide +kernel
theorem dX12_plan_98 : decode MX12_plan.2.1 98 = .ok (.aload_n 0, 1) := by decide +kernel
theorem dX12_plan_99 : decode MX12_plan.2.1 99 = .ok (.getfield 132, 3) := by decide +kernel
theorem dX12_plan_102 : decode MX12_plan.2.1 102 = .ok (.iload 8, 2) := by decide +kernel
theorem dX12_plan_104 : decode MX12_plan.2.1 104 = .ok (.iload 7, 2) := by decide +kernel
theorem dX12_plan_106 : decode MX12_plan.2.1 106 = .ok (.iload_n 1, 1) := by decide +kernel
theorem dX12_plan_107 : decode MX12_plan.2.1 107 = .ok (.irem, 1) := by decide +kernel
theorem dX12_plan_108 : decode MX12_plan.2.1 108 = .ok (.iastore, 1) := by decide +kernel
theorem dX12_plan_109 : decode MX12_plan.2.1 109 = .ok (.iload 7, 2) := by decide +kernel
theorem dX12_plan_111 : decode MX12_plan.2.1 111 = .ok (.iload_n 1, 1) := by decide +kernel
theorem dX12_plan_112 : decode MX12_plan.2.1 112 = .ok (.idiv, 1) := by decide +kernel
theorem dX12_plan_113 : decode MX12_plan.2.1 113 = .ok (.istore 7, 2) := by decide +kernel
theorem dX12_plan_115 : decode MX12_plan.2.1 115 = .ok (.iinc 8 (-1), 3) := by decide +kernel
theorem dX12_plan_118 : decode MX12_plan.2.1 118 = .ok (.goto (-25), 3) := by decide +kernel
theorem dX12_plan_121 : decode MX12_plan.2.1 121 = .ok (.aload_n 0, 1) := by decide +kernel
theorem dX12_plan_122 : decode MX12_plan.2.1 122 = .ok (.iload_n 1, 1) := by decide +kernel
theorem dX12_plan_123 : decode MX12_plan.2.1 123 = .ok (.invokevirtual 482, 3) := by decide +kernel
theorem dX12_plan_126 : decode MX12_plan.2.1 126 = .ok (.istore 8, 2) := by decide +kernel
theorem dX12_plan_128 : decode MX12_plan.2.1 128 = .ok (.aload_n 0, 1) := by decide +kernel
theorem dX12_plan_129 : decode MX12_plan.2.1 129 = .ok (.bipush 16, 2) := by decide +kernel
theorem dX12_plan_131 : decode MX12_plan.2.1 131 = .ok (.invokevirtual 180, 3) := by decide +kernel
theorem dX12_plan_134 : decode MX12_plan.2.1 134 = .ok (.iconst 0, 1) := by decide +kernel
theorem dX12_plan_135 : decode MX12_plan.2.1 135 = .ok (.istore 9, 2) := by decide +kernel
theorem dX12_plan_137 : decode MX12_plan.2.1 137 = .ok (.iload 9, 2) := by decide +kernel
theorem dX12_plan_139 : decode MX12_plan.2.1 139 = .ok (.iload_n 3, 1) := by decide +kernel
theorem dX12_plan_140 : decode MX12_plan.2.1 140 = .ok (.if_icmp .ge 33, 3) := by decide +kernel
theorem dX12_plan_143 : decode MX12_plan.2.1 143 = .ok (.iload 8, 2) := by decide +kernel
theorem dX12_plan_145 : decode MX12_plan.2.1 145 = .ok (.ifCond .eq 28, 3) := by decide +kernel
theorem dX12_plan_148 : decode MX12_plan.2.1 148 = .ok (.iload 5, 2) := by decide +kernel
theorem dX12_plan_150 : decode MX12_plan.2.1 150 = .ok (.ifCond .ne 23, 3) := by decide +kernel
theorem dX12_plan_153 : decode MX12_plan.2.1 153 = .ok (.aload_n 0, 1) := by decide +kernel
theorem dX12_plan_154 : decode MX12_plan.2.1 154 = .ok (.getfield 135, 3) := by decide +kernel
theorem dX12_plan_157 : decode MX12_plan.2.1 157 = .ok (.iload 9, 2) := by decide +kernel
theorem dX12_plan_159 : decode MX12_plan.2.1 159 = .ok (.aload_n 0, 1) := by decide +kernel
theorem dX12_plan_160 : decode MX12_plan.2.1 160 = .ok (.getfield 132, 3) := by decide +kernel
theorem dX12_plan_163 : decode MX12_plan.2.1 163 = .ok (.iload 9, 2) := by decide +kernel
theorem dX12_plan_165 : decode MX12_plan.2.1 165 = .ok (.iaload, 1) := by decide +kernel
theorem dX12_plan_166 : decode MX12_plan.2.1 166 = .ok (.iastore, 1) := by decide +kernel
theorem dX12_plan_167 : decode MX12_plan.2.1 167 = .ok (.iinc 9 1, 3) := by decide +kernel
theorem dX12_plan_170 : decode MX12_plan.2.1 170 = .ok (.goto (-33), 3) := by decide +kernel
theorem dX12_plan_173 : decode MX12_plan.2.1 173 = .ok (.iload 5, 2) := by decide +kernel
theorem dX12_plan_175 : decode MX12_plan.2.1 175 = .ok (.iload 8, 2) := by decide +kernel
theorem dX12_plan_177 : decode MX12_plan.2.1 177 = .ok (.ifCond .eq 7, 3) := by decide +kernel
theorem dX12_plan_180 : decode MX12_plan.2.1 180 = .ok (.iconst 1, 1) := by decide +kernel
theorem dX12_plan_181 : decode MX12_plan.2.1 181 = .ok (.goto 4, 3) := by decide +kernel
theorem dX12_plan_184 : decode MX12_plan.2.1 184 = .ok (.iconst 0, 1) := by decide +kernel
theorem dX12_plan_185 : decode MX12_plan.2.1 185 = .ok (.iadd, 1) := by decide +kernel
theorem dX12_plan_186 : decode MX12_plan.2.1 186 = .ok (.istore 5, 2) := by decide +kernel
theorem dX12_plan_188 : decode MX12_plan.2.1 188 = .ok (.iinc 6 1, 3) := by decide +kernel
theorem dX12_plan_191 : decode MX12_plan.2.1 191 = .ok (.goto (-114), 3) := by decide +kernel
theorem dX12_plan_194 : decode MX12_plan.2.1 194 = .ok (.iload 5, 2) := by decide +kernel
theorem dX12_plan_196 : decode MX12_plan.2.1 196 = .ok (.ifCond .ne 7, 3) := by decide +kernel
theorem dX12_plan_199 : decode MX12_plan.2.1 199 = .ok (.iconst (-1), 1) := by decide +kernel
theorem dX12_plan_200 : decode MX12_plan.2.1 200 = .ok (.goto 19, 3) := by decide +kernel
theorem dX12_plan_203 : decode MX12_plan.2.1 203 = .ok (.iload_n 2, 1) := by decide +kernel
theorem dX12_plan_204 : decode MX12_plan.2.1 204 = .ok (.iconst (-1), 1) := by decide +kernel
theorem dX12_plan_205 : decode MX12_plan.2.1 205 = .ok (.if_icmp .ne 8, 3) := by decide +kernel
theorem dX12_plan_208 : decode MX12_plan.2.1 208 = .ok (.iload 5, 2) := by decide +kernel
theorem dX12_plan_210 : decode MX12_plan.2.1 210 = .ok (.goto 9, 3) := by decide +kernel
theorem dX12_plan_213 : decode MX12_plan.2.1 213 = .ok (.aload_n 0, 1) := by decide +kernel
theorem dX12_plan_214 : decode MX12_plan.2.1 214 = .ok (.getfield 135, 3) := by decide +kernel
theorem dX12_plan_217 : decode MX12_plan.2.1 217 = .ok (.iload_n 2, 1) := by decide +kernel
theorem dX12_plan_218 : decode MX12_plan.2.1 218 = .ok (.iaload, 1) := by decide +kernel
theorem dX12_plan_219 : decode MX12_plan.2.1 219 = .ok (.ireturn, 1) := by decide +kernel
theorem dX12_bringBy_0 : decode MX12_bringBy.2.1 0 = .ok (.iload_n 3, 1) := by decide +kernel
theorem dX12_bringBy_1 : decode MX12_bringBy.2.1 1 = .ok (.iconst 3, 1) := by decide +kernel
theorem dX12_bringBy_2 : decode MX12_bringBy.2.1 2 = .ok (.idiv, 1) := by decide +kernel
theorem dX12_bringBy_3 : decode MX12_bringBy.2.1 3 = .ok (.istore 4, 2) := by decide +kernel
theorem dX12_bringBy_5 : decode MX12_bringBy.2.1 5 = .ok (.iload_n 3, 1) := by decide +kernel
theorem dX12_bringBy_6 : decode MX12_bringBy.2.1 6 = .ok (.iconst 3, 1) := by decide +kernel
theorem dX12_bringBy_7 : decode MX12_bringBy.2.1 7 = .ok (.irem, 1) := by decide +kernel
theorem dX12_bringBy_8 : decode MX12_bringBy.2.1 8 = .ok (.iconst 1, 1) := by decide +kernel
theorem dX12_bringBy_9 : decode MX12_bringBy.2.1 9 = .ok (.iadd, 1) := by decide +kernel
theorem dX12_bringBy_10 : decode MX12_bringBy.2.1 10 = .ok (.istore 5, 2) := by decide +kernel
theorem dX12_bringBy_12 : decode MX12_bringBy.2.1 12 = .ok (.aload_n 0, 1) := by decide +kernel
theorem dX12_bringBy_13 : decode MX12_bringBy.2.1 13 = .ok (.iload 4, 2) := by decide +kernel
theorem dX12_bringBy_15 : decode MX12_bringBy.2.1 15 = .ok (.iload_n 2, 1) := by decide +kernel
theorem dX12_bringBy_16 : decode MX12_bringBy.2.1 16 = .ok (.iload 5, 2) := by decide +kernel
theorem dX12_bringBy_18 : decode MX12_bringBy.2.1 18 = .ok (.invokevirtual 438, 3) := by decide +kernel
theorem dX12_bringBy_21 : decode MX12_bringBy.2.1 21 = .ok (.ifCond .eq 5, 3) := by decide +kernel
theorem dX12_bringBy_24 : decode MX12_bringBy.2.1 24 = .ok (.iconst (-1), 1) := by decide +kernel
theorem dX12_bringBy_25 : decode MX12_bringBy.2.1 25 = .ok (.ireturn, 1) := by decide +kernel
theorem dX12_bringBy_26 : decode MX12_bringBy.2.1 26 = .ok (.aload_n 0, 1) := by decide +kernel
theorem dX12_bringBy_27 : decode MX12_bringBy.2.1 27 = .ok (.getfield 13, 3) := by decide +kernel
theorem dX12_bringBy_30 : decode MX12_bringBy.2.1 30 = .ok (.bipush 8, 2) := by decide +kernel
theorem dX12_bringBy_32 : decode MX12_bringBy.2.1 32 = .ok (.iaload, 1) := by decide +kernel
theorem dX12_bringBy_33 : decode MX12_bringBy.2.1 33 = .ok (.istore 6, 2) := by decide +kernel
theorem dX12_bringBy_35 : decode MX12_bringBy.2.1 35 = .ok (.aload_n 0, 1) := by decide +kernel
theorem dX12_bringBy_36 : decode MX12_bringBy.2.1 36 = .ok (.iload_n 1, 1) := by decide +kernel
theorem dX12_bringBy_37 : decode MX12_bringBy.2.1 37 = .ok (.bipush 9, 2) := by decide +kernel
theorem dX12_bringBy_39 : decode MX12_bringBy.2.1 39 = .ok (.invokevirtual 210, 3) := by decide +kernel
theorem dX12_bringBy_42 : decode MX12_bringBy.2.1 42 = .ok (.istore 7, 2) := by decide +kernel
theorem dX12_bringBy_44 : decode MX12_bringBy.2.1 44 = .ok (.aload_n 0, 1) := by decide +kernel
theorem dX12_bringBy_45 : decode MX12_bringBy.2.1 45 = .ok (.iconst 0, 1) := by decide +kernel
theorem dX12_bringBy_46 : decode MX12_bringBy.2.1 46 = .ok (.iload 4, 2) := by decide +kernel
theorem dX12_bringBy_48 : decode MX12_bringBy.2.1 48 = .ok (.iload_n 2, 1) := by decide +kernel
theorem dX12_bringBy_49 : decode MX12_bringBy.2.1 49 = .ok (.iload 5, 2) := by decide +kernel
theorem dX12_bringBy_51 : decode MX12_bringBy.2.1 51 = .ok (.invokevirtual 454, 3) := by decide +kernel
theorem dX12_bringBy_54 : decode MX12_bringBy.2.1 54 = .ok (.pop, 1) := by decide +kernel
theorem dX12_bringBy_55 : decode MX12_bringBy.2.1 55 = .ok (.aload_n 0, 1) := by decide +kernel
theorem dX12_bringBy_56 : decode MX12_bringBy.2.1 56 = .ok (.getfield 13, 3) := by decide +kernel
theorem dX12_bringBy_59 : decode MX12_bringBy.2.1 59 = .ok (.bipush 8, 2) := by decide +kernel
theorem dX12_bringBy_61 : decode MX12_bringBy.2.1 61 = .ok (.iaload, 1) := by decide +kernel
theorem dX12_bringBy_62 : decode MX12_bringBy.2.1 62 = .ok (.iload 6, 2) := by decide +kernel
theorem dX12_bringBy_64 : decode MX12_bringBy.2.1 64 = .ok (.if_icmp .eq 7, 3) := by decide +kernel
theorem dX12_bringBy_67 : decode MX12_bringBy.2.1 67 = .ok (.iconst (-1), 1) := by decide +kernel
theorem dX12_bringBy_68 : decode MX12_bringBy.2.1 68 = .ok (.goto 20, 3) := by decide +kernel
theorem dX12_bringBy_71 : decode MX12_bringBy.2.1 71 = .ok (.aload_n 0, 1) := by decide +kernel
theorem dX12_bringBy_72 : decode MX12_bringBy.2.1 72 = .ok (.iload_n 1, 1) := by decide +kernel
theorem dX12_bringBy_73 : decode MX12_bringBy.2.1 73 = .ok (.bipush 9, 2) := by decide +kernel
theorem dX12_bringBy_75 : decode MX12_bringBy.2.1 75 = .ok (.invokevirtual 210, 3) := by decide +kernel
theorem dX12_bringBy_78 : decode MX12_bringBy.2.1 78 = .ok (.iload 7, 2) := by decide +kernel
theorem dX12_bringBy_80 : decode MX12_bringBy.2.1 80 = .ok (.if_icmp .le 7, 3) := by decide +kernel
theorem dX12_bringBy_83 : decode MX12_bringBy.2.1 83 = .ok (.iconst 1, 1) := by decide +kernel
theorem dX12_bringBy_84 : decode MX12_bringBy.2.1 84 = .ok (.goto 4, 3) := by decide +kernel
theorem dX12_bringBy_87 : decode MX12_bringBy.2.1 87 = .ok (.iconst 0, 1) := by decide +kernel
theorem dX12_bringBy_88 : decode MX12_bringBy.2.1 88 = .ok (.ireturn, 1) := by decide +kernel
theorem dX12_isBrought_0 : decode MX12_isBrought.2.1 0 = .ok (.iconst 0, 1) := by decide +kernel
theorem dX12_isBrought_1 : decode MX12_isBrought.2.1 1 = .ok (.istore 4, 2) := by decide +kernel
theorem dX12_isBrought_3 : decode MX12_isBrought.2.1 3 = .ok (.aload_n 0, 1) := by decide +kernel
theorem dX12_isBrought_4 : decode MX12_isBrought.2.1 4 = .ok (.bipush 16, 2) := by decide +kernel
theorem dX12_isBrought_6 : decode MX12_isBrought.2.1 6 = .ok (.invokevirtual 172, 3) := by decide +kernel
theorem dX12_isBrought_9 : decode MX12_isBrought.2.1 9 = .ok (.aload_n 0, 1) := by decide +kernel
theorem dX12_isBrought_10 : decode MX12_isBrought.2.1 10 = .ok (.getfield 138, 3) := by decide +kernel
theorem dX12_isBrought_13 : decode MX12_isBrought.2.1 13 = .ok (.iconst 0, 1) := by decide +kernel
theorem dX12_isBrought_14 : decode MX12_isBrought.2.1 14 = .ok (.iconst (-1), 1) := by decide +kernel
theorem dX12_isBrought_15 : decode MX12_isBrought.2.1 15 = .ok (.iastore, 1) := by decide +kernel
theorem dX12_isBrought_16 : decode MX12_isBrought.2.1 16 = .ok (.iload 4, 2) := by decide +kernel
theorem dX12_isBrought_18 : decode MX12_isBrought.2.1 18 = .ok (.ifCond .lt 137, 3) := by decide +kernel
theorem dX12_isBrought_21 : decode MX12_isBrought.2.1 21 = .ok (.aload_n 0, 1) := by decide +kernel
theorem dX12_isBrought_22 : decode MX12_isBrought.2.1 22 = .ok (.getfield 138, 3) := by decide +kernel
theorem dX12_isBrought_25 : decode MX12_isBrought.2.1 25 = .ok (.iload 4, 2) := by decide +kernel
theorem dX12_isBrought_27 : decode MX12_isBrought.2.1 27 = .ok (.dup2, 1) := by decide +kernel
theorem dX12_isBrought_28 : decode MX12_isBrought.2.1 28 = .ok (.iaload, 1) := by decide +kernel
theorem dX12_isBrought_29 : decode MX12_isBrought.2.1 29 = .ok (.iconst 1, 1) := by decide +kernel
theorem dX12_isBrought_30 : decode MX12_isBrought.2.1 30 = .ok (.iadd, 1) := by decide +kernel
theorem dX12_isBrought_31 : decode MX12_isBrought.2.1 31 = .ok (.iastore, 1) := by decide +kernel
theorem dX12_isBrought_32 : decode MX12_isBrought.2.1 32 = .ok (.aload_n 0, 1) := by decide +kernel
theorem dX12_isBrought_33 : decode MX12_isBrought.2.1 33 = .ok (.getfield 138, 3) := by decide +kernel
theorem dX12_isBrought_36 : decode MX12_isBrought.2.1 36 = .ok (.iload 4, 2) := by decide +kernel
theorem dX12_isBrought_38 : decode MX12_isBrought.2.1 38 = .ok (.iaload, 1) := by decide +kernel
theorem dX12_isBrought_39 : decode MX12_isBrought.2.1 39 = .ok (.iconst 3, 1) := by decide +kernel
theorem dX12_isBrought_40 : decode MX12_isBrought.2.1 40 = .ok (.aload_n 0, 1) := by decide +kernel
theorem dX12_isBrought_41 : decode MX12_isBrought.2.1 41 = .ok (.getfield 13, 3) := by decide +kernel
theorem dX12_isBrought_44 : decode MX12_isBrought.2.1 44 = .ok (.iconst 0, 1) := by decide +kernel
theorem dX12_isBrought_45 : decode MX12_isBrought.2.1 45 = .ok (.iaload, 1) := by decide +kernel
theorem dX12_isBrought_46 : decode MX12_isBrought.2.1 46 = .ok (.imul, 1) := by decide +kernel
theorem dX12_isBrought_47 : decode MX12_isBrought.2.1 47 = .ok (.if_icmp .ne 23, 3) := by decide +kernel
theorem dX12_isBrought_50 : decode MX12_isBrought.2.1 50 = .ok (.iinc 4 (-1), 3) := by decide +kernel
theorem dX12_isBrought_53 : decode MX12_isBrought.2.1 53 = .ok (.iload 4, 2) := by decide +kernel
theorem dX12_isBrought_55 : decode MX12_isBrought.2.1 55 = .ok (.ifCond .lt (-39), 3) := by decide +kernel
theorem dX12_isBrought_58 : decode MX12_isBrought.2.1 58 = .ok (.aload_n 0, 1) := by decide +kernel
theorem dX12_isBrought_59 : decode MX12_isBrought.2.1 59 = .ok (.bipush 16, 2) := by decide +kernel
theorem dX12_isBrought_61 : decode MX12_isBrought.2.1 61 = .ok (.iload 4, 2) := by decide +kernel
theorem dX12_isBrought_63 : decode MX12_isBrought.2.1 63 = .ok (.iadd, 1) := by decide +kernel
theorem dX12_isBrought_64 : decode MX12_isBrought.2.1 64 = .ok (.invokevirtual 180, 3) := by decide +kernel
theorem dX12_isBrought_67 : decode MX12_isBrought.2.1 67 = .ok (.goto (-51), 3) := by decide +kernel
theorem dX12_isBrought_70 : decode MX12_isBrought.2.1 70 = .ok (.aload_n 0, 1) := by decide +kernel
theorem dX12_isBrought_71 : decode MX12_isBrought.2.1 71 = .ok (.iload_n 1, 1) := by decide +kernel
theorem dX12_isBrought_72 : decode MX12_isBrought.2.1 72 = .ok (.iload_n 2, 1) := by decide +kernel
theorem dX12_isBrought_73 : decode MX12_isBrought.2.1 73 = .ok (.aload_n 0, 1) := by decide +kernel
theorem dX12_isBrought_74 : decode MX12_isBrought.2.1 74 = .ok (.getfield 138, 3) := by decide +kernel
theorem dX12_isBrought_77 : decode MX12_isBrought.2.1 77 = .ok (.iload 4, 2) := by decide +kernel
theorem dX12_isBrought_79 : decode MX12_isBrought.2.1 79 = .ok (.iaload, 1) := by decide +kernel
theorem dX12_isBrought_80 : decode MX12_isBrought.2.1 80 = .ok (.invokevirtual 485, 3) := by decide +kernel
theorem dX12_isBrought_83 : decode MX12_isBrought.2.1 83 = .ok (.istore 5, 2) := by decide +kernel
theorem dX12_isBrought_85 : decode MX12_isBrought.2.1 85 = .ok (.iload 5, 2) := by decide +kernel
theorem dX12_isBrought_87 : decode MX12_isBrought.2.1 87 = .ok (.iconst 1, 1) := by decide +kernel
theorem dX12_isBrought_88 : decode MX12_isBrought.2.1 88 = .ok (.if_icmp .ne 19, 3) := by decide +kernel
theorem dX12_isBrought_91 : decode MX12_isBrought.2.1 91 = .ok (.iload 4, 2) := by decide +kernel
theorem dX12_isBrought_93 : decode MX12_isBrought.2.1 93 = .ok (.iload_n 3, 1) := by decide +kernel
theorem dX12_isBrought_94 : decode MX12_isBrought.2.1 94 = .ok (.iconst 1, 1) := by decide +kernel
theorem dX12_isBrought_95 : decode MX12_isBrought.2.1 95 = .ok (.isub, 1) := by decide +kernel
theorem dX12_isBrought_96 : decode MX12_isBrought.2.1 96 = .ok (.if_icmp .ne 11, 3) := by decide +kernel
theorem dX12_isBrought_99 : decode MX12_isBrought.2.1 99 = .ok (.aload_n 0, 1) := by decide +kernel
theorem dX12_isBrought_100 : decode MX12_isBrought.2.1 100 = .ok (.bipush 16, 2) := by decide +kernel
theorem dX12_isBrought_102 : decode MX12_isBrought.2.1 102 = .ok (.invokevirtual 180, 3) := by decide +kernel
theorem dX12_isBrought_105 : decode MX12_isBrought.2.1 105 = .ok (.iconst 1, 1) := by decide +kernel
theorem dX12_isBrought_106 : decode MX12_isBrought.2.1 106 = .ok (.ireturn, 1) := by decide +kernel
theorem dX12_isBrought_107 : decode MX12_isBrought.2.1 107 = .ok (.iload 5, 2) := by decide +kernel
theorem dX12_isBrought_109 : decode MX12_isBrought.2.1 109 = .ok (.ifCond .ne 34, 3) := by decide +kernel
theorem dX12_isBrought_112 : decode MX12_isBrought.2.1 112 = .ok (.iload 4, 2) := by decide +kernel
theorem dX12_isBrought_114 : decode MX12_isBrought.2.1 114 = .ok (.iload_n 3, 1) := by decide +kernel
theorem dX12_isBrought_115 : decode MX12_isBrought.2.1 115 = .ok (.iconst 1, 1) := by decide +kernel
theorem dX12_isBrought_116 : decode MX12_isBrought.2.1 116 = .ok (.isub, 1) := by decide +kernel
theorem dX12_isBrought_117 : decode MX12_isBrought.2.1 117 = .ok (.if_icmp .ge 26, 3) := by decide +kernel
theorem dX12_isBrought_120 : decode MX12_isBrought.2.1 120 = .ok (.iinc 4 1, 3) := by decide +kernel
theorem dX12_isBrought_123 : decode MX12_isBrought.2.1 123 = .ok (.aload_n 0, 1) := by decide +kernel
theorem dX12_isBrought_124 : decode MX12_isBrought.2.1 124 = .ok (.bipush 16, 2) := by decide +kernel
theorem dX12_isBrought_126 : decode MX12_isBrought.2.1 126 = .ok (.iload 4, 2) := by decide +kernel
theorem dX12_isBrought_128 : decode MX12_isBrought.2.1 128 = .ok (.iadd, 1) := by decide +kernel
theorem dX12_isBrought_129 : decode MX12_isBrought.2.1 129 = .ok (.invokevirtual 172, 3) := by decide +kernel
theorem dX12_isBrought_132 : decode MX12_isBrought.2.1 132 = .ok (.aload_n 0, 1) := by decide +kernel
theorem dX12_isBrought_133 : decode MX12_isBrought.2.1 133 = .ok (.getfield 138, 3) := by decide +kernel
theorem dX12_isBrought_136 : decode MX12_isBrought.2.1 136 = .ok (.iload 4, 2) := by decide +kernel
theorem dX12_isBrought_138 : decode MX12_isBrought.2.1 138 = .ok (.iconst (-1), 1) := by decide +kernel
theorem dX12_isBrought_139 : decode MX12_isBrought.2.1 139 = .ok (.iastore, 1) := by decide +kernel
theorem dX12_isBrought_140 : decode MX12_isBrought.2.1 140 = .ok (.goto 12, 3) := by decide +kernel
theorem dX12_isBrought_143 : decode MX12_isBrought.2.1 143 = .ok (.aload_n 0, 1) := by decide +kernel
theorem dX12_isBrought_144 : decode MX12_isBrought.2.1 144 = .ok (.bipush 16, 2) := by decide +kernel
theorem dX12_isBrought_146 : decode MX12_isBrought.2.1 146 = .ok (.iload 4, 2) := by decide +kernel
theorem dX12_isBrought_148 : decode MX12_isBrought.2.1 148 = .ok (.iadd, 1) := by decide +kernel
theorem dX12_isBrought_149 : decode MX12_isBrought.2.1 149 = .ok (.invokevirtual 180, 3) := by decide +kernel
theorem dX12_isBrought_152 : decode MX12_isBrought.2.1 152 = .ok (.goto (-136), 3) := by decide +kernel
theorem dX12_isBrought_155 : decode MX12_isBrought.2.1 155 = .ok (.iconst 0, 1) := by decide +kernel
theorem dX12_isBrought_156 : decode MX12_isBrought.2.1 156 = .ok (.ireturn, 1) := by decide +kernel
theorem dX12_bring_0 : decode MX12_bring.2.1 0 = .ok (.aload_n 0, 1) := by decide +kernel
theorem dX12_bring_1 : decode MX12_bring.2.1 1 = .ok (.iconst 0, 1) := by decide +kernel
theorem dX12_bring_2 : decode MX12_bring.2.1 2 = .ok (.putfield 163, 3) := by decide +kernel
theorem dX12_bring_5 : decode MX12_bring.2.1 5 = .ok (.iload_n 1, 1) := by decide +kernel
theorem dX12_bring_6 : decode MX12_bring.2.1 6 = .ok (.invokestatic 199, 3) := by decide +kernel
theorem dX12_bring_9 : decode MX12_bring.2.1 9 = .ok (.ifCond .eq 24, 3) := by decide +kernel
theorem dX12_bring_12 : decode MX12_bring.2.1 12 = .ok (.iload_n 2, 1) := by decide +kernel
theorem dX12_bring_13 : decode MX12_bring.2.1 13 = .ok (.invokestatic 428, 3) := by decide +kernel
theorem dX12_bring_16 : decode MX12_bring.2.1 16 = .ok (.ifCond .eq 17, 3) := by decide +kernel
theorem dX12_bring_19 : decode MX12_bring.2.1 19 = .ok (.iload_n 3, 1) := by decide +kernel
theorem dX12_bring_20 : decode MX12_bring.2.1 20 = .ok (.i2l, 1) := by decide +kernel
theorem dX12_bring_21 : decode MX12_bring.2.1 21 = .ok (.ldc2_w 266, 3) := by decide +kernel
theorem dX12_bring_24 : decode MX12_bring.2.1 24 = .ok (.ldc2_w 488, 3) := by decide +kernel
theorem dX12_bring_27 : decode MX12_bring.2.1 27 = .ok (.invokestatic 183, 3) := by decide +kernel
theorem dX12_bring_30 : decode MX12_bring.2.1 30 = .ok (.ifCond .ne 5, 3) := by decide +kernel
theorem dX12_bring_33 : decode MX12_bring.2.1 33 = .ok (.iconst (-1), 1) := by decide +kernel
theorem dX12_bring_34 : decode MX12_bring.2.1 34 = .ok (.ireturn, 1) := by decide +kernel
theorem dX12_bring_35 : decode MX12_bring.2.1 35 = .ok (.iconst 1, 1) := by decide +kernel
theorem dX12_bring_36 : decode MX12_bring.2.1 36 = .ok (.istore 4, 2) := by decide +kernel
theorem dX12_bring_38 : decode MX12_bring.2.1 38 = .ok (.iload 4, 2) := by decide +kernel
theorem dX12_bring_40 : decode MX12_bring.2.1 40 = .ok (.iconst 4, 1) := by decide +kernel
theorem dX12_bring_41 : decode MX12_bring.2.1 41 = .ok (.if_icmp .ge 47, 3) := by decide +kernel
theorem dX12_bring_44 : decode MX12_bring.2.1 44 = .ok (.aload_n 0, 1) := by decide +kernel
theorem dX12_bring_45 : decode MX12_bring.2.1 45 = .ok (.iload_n 1, 1) := by decide +kernel
theorem dX12_bring_46 : decode MX12_bring.2.1 46 = .ok (.iload_n 2, 1) := by decide +kernel
theorem dX12_bring_47 : decode MX12_bring.2.1 47 = .ok (.iload 4, 2) := by decide +kernel
theorem dX12_bring_49 : decode MX12_bring.2.1 49 = .ok (.invokevirtual 490, 3) := by decide +kernel
theorem dX12_bring_52 : decode MX12_bring.2.1 52 = .ok (.ifCond .eq 30, 3) := by decide +kernel
theorem dX12_bring_55 : decode MX12_bring.2.1 55 = .ok (.iload_n 3, 1) := by decide +kernel
theorem dX12_bring_56 : decode MX12_bring.2.1 56 = .ok (.iconst (-1), 1) := by decide +kernel
theorem dX12_bring_57 : decode MX12_bring.2.1 57 = .ok (.if_icmp .ne 8, 3) := by decide +kernel
theorem dX12_bring_60 : decode MX12_bring.2.1 60 = .ok (.iload 4, 2) := by decide +kernel
theorem dX12_bring_62 : decode MX12_bring.2.1 62 = .ok (.goto 19, 3) := by decide +kernel
theorem dX12_bring_65 : decode MX12_bring.2.1 65 = .ok (.iload_n 3, 1) := by decide +kernel
theorem dX12_bring_66 : decode MX12_bring.2.1 66 = .ok (.iload 4, 2) := by decide +kernel
theorem dX12_bring_68 : decode MX12_bring.2.1 68 = .ok (.if_icmp .ge 12, 3) := by decide +kernel
theorem dX12_bring_71 : decode MX12_bring.2.1 71 = .ok (.aload_n 0, 1) := by decide +kernel
theorem dX12_bring_72 : decode MX12_bring.2.1 72 = .ok (.getfield 138, 3) := by decide +kernel
theorem dX12_bring_75 : decode MX12_bring.2.1 75 = .ok (.iload_n 3, 1) := by decide +kernel
theorem dX12_bring_76 : decode MX12_bring.2.1 76 = .ok (.iaload, 1) := by decide +kernel
theorem dX12_bring_77 : decode MX12_bring.2.1 77 = .ok (.goto 4, 3) := by decide +kernel
theorem dX12_bring_80 : decode MX12_bring.2.1 80 = .ok (.iconst (-1), 1) := by decide +kernel
theorem dX12_bring_81 : decode MX12_bring.2.1 81 = .ok (.ireturn, 1) := by decide +kernel
theorem dX12_bring_82 : decode MX12_bring.2.1 82 = .ok (.iinc 4 1, 3) := by decide +kernel
theorem dX12_bring_85 : decode MX12_bring.2.1 85 = .ok (.goto (-47), 3) := by decide +kernel
theorem dX12_bring_88 : decode MX12_bring.2.1 88 = .ok (.iconst (-1), 1) := by decide +kernel
theorem dX12_bring_89 : decode MX12_bring.2.1 89 = .ok (.ireturn, 1) := by decide +kernel
theorem dX12_isWon_0 : decode MX12_isWon.2.1 0 = .ok (.aload_n 0, 1) := by decide +kernel
theorem dX12_isWon_1 : decode MX12_isWon.2.1 1 = .ok (.getfield 144, 3) := by decide +kernel
theorem dX12_isWon_4 : decode MX12_isWon.2.1 4 = .ok (.iload_n 2, 1) := by decide +kernel
theorem dX12_isWon_5 : decode MX12_isWon.2.1 5 = .ok (.iaload, 1) := by decide +kernel
theorem dX12_isWon_6 : decode MX12_isWon.2.1 6 = .ok (.ifCond .le 33, 3) := by decide +kernel
theorem dX12_isWon_9 : decode MX12_isWon.2.1 9 = .ok (.aload_n 0, 1) := by decide +kernel
theorem dX12_isWon_10 : decode MX12_isWon.2.1 10 = .ok (.getfield 144, 3) := by decide +kernel
theorem dX12_isWon_13 : decode MX12_isWon.2.1 13 = .ok (.iload_n 2, 1) := by decide +kernel
theorem dX12_isWon_14 : decode MX12_isWon.2.1 14 = .ok (.iaload, 1) := by decide +kernel
theorem dX12_isWon_15 : decode MX12_isWon.2.1 15 = .ok (.iload_n 1, 1) := by decide +kernel
theorem dX12_isWon_16 : decode MX12_isWon.2.1 16 = .ok (.if_icmp .gt 23, 3) := by decide +kernel
theorem dX12_isWon_19 : decode MX12_isWon.2.1 19 = .ok (.aload_n 0, 1) := by decide +kernel
theorem dX12_isWon_20 : decode MX12_isWon.2.1 20 = .ok (.getfield 141, 3) := by decide +kernel
theorem dX12_isWon_23 : decode MX12_isWon.2.1 23 = .ok (.iload_n 1, 1) := by decide +kernel
theorem dX12_isWon_24 : decode MX12_isWon.2.1 24 = .ok (.aload_n 0, 1) := by decide +kernel
theorem dX12_isWon_25 : decode MX12_isWon.2.1 25 = .ok (.getfield 144, 3) := by decide +kernel
theorem dX12_isWon_28 : decode MX12_isWon.2.1 28 = .ok (.iload_n 2, 1) := by decide +kernel
theorem dX12_isWon_29 : decode MX12_isWon.2.1 29 = .ok (.iaload, 1) := by decide +kernel
theorem dX12_isWon_30 : decode MX12_isWon.2.1 30 = .ok (.isub, 1) := by decide +kernel
theorem dX12_isWon_31 : decode MX12_isWon.2.1 31 = .ok (.baload, 1) := by decide +kernel
theorem dX12_isWon_32 : decode MX12_isWon.2.1 32 = .ok (.ifCond .ne 7, 3) := by decide +kernel
theorem dX12_isWon_35 : decode MX12_isWon.2.1 35 = .ok (.iconst 1, 1) := by decide +kernel
theorem dX12_isWon_36 : decode MX12_isWon.2.1 36 = .ok (.goto 4, 3) := by decide +kernel
theorem dX12_isWon_39 : decode MX12_isWon.2.1 39 = .ok (.iconst 0, 1) := by decide +kernel
theorem dX12_isWon_40 : decode MX12_isWon.2.1 40 = .ok (.ireturn, 1) := by decide +kernel
theorem dX12_threat_0 : decode MX12_threat.2.1 0 = .ok (.aload_n 0, 1) := by decide +kernel
theorem dX12_threat_1 : decode MX12_threat.2.1 1 = .ok (.iconst 0, 1) := by decide +kernel
theorem dX12_threat_2 : decode MX12_threat.2.1 2 = .ok (.putfield 163, 3) := by decide +kernel
theorem dX12_threat_5 : decode MX12_threat.2.1 5 = .ok (.iload_n 1, 1) := by decide +kernel
theorem dX12_threat_6 : decode MX12_threat.2.1 6 = .ok (.invokestatic 199, 3) := by decide +kernel
theorem dX12_threat_9 : decode MX12_threat.2.1 9 = .ok (.ifCond .eq 22, 3) := by decide +kernel
theorem dX12_threat_12 : decode MX12_threat.2.1 12 = .ok (.iload_n 2, 1) := by decide +kernel
theorem dX12_threat_13 : decode MX12_threat.2.1 13 = .ok (.invokestatic 428, 3) := by decide +kernel
theorem dX12_threat_16 : decode MX12_threat.2.1 16 = .ok (.ifCond .eq 15, 3) := by decide +kernel
theorem dX12_threat_19 : decode MX12_threat.2.1 19 = .ok (.iload_n 3, 1) := by decide +kernel
theorem dX12_threat_20 : decode MX12_threat.2.1 20 = .ok (.i2l, 1) := by decide +kernel
theorem dX12_threat_21 : decode MX12_threat.2.1 21 = .ok (.lconst 0, 1) := by decide +kernel
theorem dX12_threat_22 : decode MX12_threat.2.1 22 = .ok (.ldc2_w 488, 3) := by decide +kernel
theorem dX12_threat_25 : decode MX12_threat.2.1 25 = .ok (.invokestatic 183, 3) := by decide +kernel
theorem dX12_threat_28 : decode MX12_threat.2.1 28 = .ok (.ifCond .ne 5, 3) := by decide +kernel
theorem dX12_threat_31 : decode MX12_threat.2.1 31 = .ok (.iconst (-1), 1) := by decide +kernel
theorem dX12_threat_32 : decode MX12_threat.2.1 32 = .ok (.ireturn, 1) := by decide +kernel
theorem dX12_threat_33 : decode MX12_threat.2.1 33 = .ok (.aload_n 0, 1) := by decide +kernel
theorem dX12_threat_34 : decode MX12_threat.2.1 34 = .ok (.iload_n 1, 1) := by decide +kernel
theorem dX12_threat_35 : decode MX12_threat.2.1 35 = .ok (.iconst 1, 1) := by decide +kernel
theorem dX12_threat_36 : decode MX12_threat.2.1 36 = .ok (.invokevirtual 210, 3) := by decide +kernel
theorem dX12_threat_39 : decode MX12_threat.2.1 39 = .ok (.aload_n 0, 1) := by decide +kernel
theorem dX12_threat_40 : decode MX12_threat.2.1 40 = .ok (.iload_n 1, 1) := by decide +kernel
theorem dX12_threat_41 : decode MX12_threat.2.1 41 = .ok (.iconst 0, 1) := by decide +kernel
theorem dX12_threat_42 : decode MX12_threat.2.1 42 = .ok (.invokevirtual 210, 3) := by decide +kernel
theorem dX12_threat_45 : decode MX12_threat.2.1 45 = .ok (.isub, 1) := by decide +kernel
theorem dX12_threat_46 : decode MX12_threat.2.1 46 = .ok (.aload_n 0, 1) := by decide +kernel
theorem dX12_threat_47 : decode MX12_threat.2.1 47 = .ok (.iload_n 1, 1) := by decide +kernel
theorem dX12_threat_48 : decode MX12_threat.2.1 48 = .ok (.bipush 8, 2) := by decide +kernel
theorem dX12_threat_50 : decode MX12_threat.2.1 50 = .ok (.invokevirtual 210, 3) := by decide +kernel
theorem dX12_threat_53 : decode MX12_threat.2.1 53 = .ok (.isub, 1) := by decide +kernel
theorem dX12_threat_54 : decode MX12_threat.2.1 54 = .ok (.istore 4, 2) := by decide +kernel
theorem dX12_threat_56 : decode MX12_threat.2.1 56 = .ok (.aload_n 0, 1) := by decide +kernel
theorem dX12_threat_57 : decode MX12_threat.2.1 57 = .ok (.iload_n 1, 1) := by decide +kernel
theorem dX12_threat_58 : decode MX12_threat.2.1 58 = .ok (.iconst 0, 1) := by decide +kernel
theorem dX12_threat_59 : decode MX12_threat.2.1 59 = .ok (.invokevirtual 210, 3) := by decide +kernel
theorem dX12_threat_62 : decode MX12_threat.2.1 62 = .ok (.ifCond .eq 8, 3) := by decide +kernel
theorem dX12_threat_65 : decode MX12_threat.2.1 65 = .ok (.iload 4, 2) := by decide +kernel
theorem dX12_threat_67 : decode MX12_threat.2.1 67 = .ok (.ifCond .ge 5, 3) := by decide +kernel
theorem dX12_threat_70 : decode MX12_threat.2.1 70 = .ok (.iconst (-1), 1) := by decide +kernel
theorem dX12_threat_71 : decode MX12_threat.2.1 71 = .ok (.ireturn, 1) := by decide +kernel
theorem dX12_threat_72 : decode MX12_threat.2.1 72 = .ok (.iconst 0, 1) := by decide +kernel
theorem dX12_threat_73 : decode MX12_threat.2.1 73 = .ok (.istore 5, 2) := by decide +kernel
theorem dX12_threat_75 : decode MX12_threat.2.1 75 = .ok (.iload 5, 2) := by decide +kernel
theorem dX12_threat_77 : decode MX12_threat.2.1 77 = .ok (.aload_n 0, 1) := by decide +kernel
theorem dX12_threat_78 : decode MX12_threat.2.1 78 = .ok (.getfield 13, 3) := by decide +kernel
theorem dX12_threat_81 : decode MX12_threat.2.1 81 = .ok (.iconst 0, 1) := by decide +kernel
theorem dX12_threat_82 : decode MX12_threat.2.1 82 = .ok (.iaload, 1) := by decide +kernel
theorem dX12_threat_83 : decode MX12_threat.2.1 83 = .ok (.if_icmp .ge 40, 3) := by decide +kernel
theorem dX12_threat_86 : decode MX12_threat.2.1 86 = .ok (.aload_n 0, 1) := by decide +kernel
theorem dX12_threat_87 : decode MX12_threat.2.1 87 = .ok (.getfield 144, 3) := by decide +kernel
theorem dX12_threat_90 : decode MX12_threat.2.1 90 = .ok (.iload 5, 2) := by decide +kernel
theorem dX12_threat_92 : decode MX12_threat.2.1 92 = .ok (.aload_n 0, 1) := by decide +kernel
theorem dX12_threat_93 : decode MX12_threat.2.1 93 = .ok (.iload 5, 2) := by decide +kernel
theorem dX12_threat_95 : decode MX12_threat.2.1 95 = .ok (.iload_n 2, 1) := by decide +kernel
theorem dX12_threat_96 : decode MX12_threat.2.1 96 = .ok (.iconst 1, 1) := by decide +kernel
theorem dX12_threat_97 : decode MX12_threat.2.1 97 = .ok (.invokevirtual 438, 3) := by decide +kernel
theorem dX12_threat_100 : decode MX12_threat.2.1 100 = .ok (.ifCond .eq 7, 3) := by decide +kernel
theorem dX12_threat_103 : decode MX12_threat.2.1 103 = .ok (.iconst 0, 1) := by decide +kernel
theorem dX12_threat_104 : decode MX12_threat.2.1 104 = .ok (.goto 12, 3) := by decide +kernel
theorem dX12_threat_107 : decode MX12_threat.2.1 107 = .ok (.aload_n 0, 1) := by decide +kernel
theorem dX12_threat_108 : decode MX12_threat.2.1 108 = .ok (.iload 5, 2) := by decide +kernel
theorem dX12_threat_110 : decode MX12_threat.2.1 110 = .ok (.iload_n 2, 1) := by decide +kernel
theorem dX12_threat_111 : decode MX12_threat.2.1 111 = .ok (.iconst 1, 1) := by decide +kernel
theorem dX12_threat_112 : decode MX12_threat.2.1 112 = .ok (.iload_n 1, 1) := by decide +kernel
theorem dX12_threat_113 : decode MX12_threat.2.1 113 = .ok (.invokevirtual 434, 3) := by decide +kernel
theorem dX12_threat_116 : decode MX12_threat.2.1 116 = .ok (.iastore, 1) := by decide +kernel
theorem dX12_threat_117 : decode MX12_threat.2.1 117 = .ok (.iinc 5 1, 3) := by decide +kernel
theorem dX12_threat_120 : decode MX12_threat.2.1 120 = .ok (.goto (-45), 3) := by decide +kernel
theorem dX12_threat_123 : decode MX12_threat.2.1 123 = .ok (.iconst 0, 1) := by decide +kernel
theorem dX12_threat_124 : decode MX12_threat.2.1 124 = .ok (.istore 5, 2) := by decide +kernel
theorem dX12_threat_126 : decode MX12_threat.2.1 126 = .ok (.iload 5, 2) := by decide +kernel
theorem dX12_threat_128 : decode MX12_threat.2.1 128 = .ok (.iload 4, 2) := by decide +kernel
theorem dX12_threat_130 : decode MX12_threat.2.1 130 = .ok (.if_icmp .gt 56, 3) := by decide +kernel
theorem dX12_threat_133 : decode MX12_threat.2.1 133 = .ok (.iconst 0, 1) := by decide +kernel
theorem dX12_threat_134 : decode MX12_threat.2.1 134 = .ok (.istore 6, 2) := by decide +kernel
theorem dX12_threat_136 : decode MX12_threat.2.1 136 = .ok (.iconst 0, 1) := by decide +kernel
theorem dX12_threat_137 : decode MX12_threat.2.1 137 = .ok (.istore 7, 2) := by decide +kernel
theorem dX12_threat_139 : decode MX12_threat.2.1 139 = .ok (.iload 7, 2) := by decide +kernel
theorem dX12_threat_141 : decode MX12_threat.2.1 141 = .ok (.aload_n 0, 1) := by decide +kernel
theorem dX12_threat_142 : decode MX12_threat.2.1 142 = .ok (.getfield 13, 3) := by decide +kernel
theorem dX12_threat_145 : decode MX12_threat.2.1 145 = .ok (.iconst 0, 1) := by decide +kernel
theorem dX12_threat_146 : decode MX12_threat.2.1 146 = .ok (.iaload, 1) := by decide +kernel
theorem dX12_threat_147 : decode MX12_threat.2.1 147 = .ok (.if_icmp .ge 24, 3) := by decide +kernel
theorem dX12_threat_150 : decode MX12_threat.2.1 150 = .ok (.iload 6, 2) := by decide +kernel
theorem dX12_threat_152 : decode MX12_threat.2.1 152 = .ok (.ifCond .ne 19, 3) := by decide +kernel
theorem dX12_threat_155 : decode MX12_threat.2.1 155 = .ok (.aload_n 0, 1) := by decide +kernel
theorem dX12_threat_156 : decode MX12_threat.2.1 156 = .ok (.iload 5, 2) := by decide +kernel
theorem dX12_threat_158 : decode MX12_threat.2.1 158 = .ok (.iload 7, 2) := by decide +kernel
theorem dX12_threat_160 : decode MX12_threat.2.1 160 = .ok (.invokevirtual 493, 3) := by decide +kernel
theorem dX12_threat_163 : decode MX12_threat.2.1 163 = .ok (.istore 6, 2) := by decide +kernel
theorem dX12_threat_165 : decode MX12_threat.2.1 165 = .ok (.iinc 7 1, 3) := by decide +kernel
theorem dX12_threat_168 : decode MX12_threat.2.1 168 = .ok (.goto (-29), 3) := by decide +kernel
theorem dX12_threat_171 : decode MX12_threat.2.1 171 = .ok (.aload_n 0, 1) := by decide +kernel
theorem dX12_threat_172 : decode MX12_threat.2.1 172 = .ok (.getfield 141, 3) := by decide +kernel
theorem dX12_threat_175 : decode MX12_threat.2.1 175 = .ok (.iload 5, 2) := by decide +kernel
theorem dX12_threat_177 : decode MX12_threat.2.1 177 = .ok (.iload 6, 2) := by decide +kernel
theorem dX12_threat_179 : decode MX12_threat.2.1 179 = .ok (.bastore, 1) := by decide +kernel
theorem dX12_threat_180 : decode MX12_threat.2.1 180 = .ok (.iinc 5 1, 3) := by decide +kernel
theorem dX12_threat_183 : decode MX12_threat.2.1 183 = .ok (.goto (-57), 3) := by decide +kernel
theorem dX12_threat_186 : decode MX12_threat.2.1 186 = .ok (.iload_n 3, 1) := by decide +kernel
theorem dX12_threat_187 : decode MX12_threat.2.1 187 = .ok (.ifCond .ne 19, 3) := by decide +kernel
theorem dX12_threat_190 : decode MX12_threat.2.1 190 = .ok (.aload_n 0, 1) := by decide +kernel
theorem dX12_threat_191 : decode MX12_threat.2.1 191 = .ok (.getfield 141, 3) := by decide +kernel
theorem dX12_threat_194 : decode MX12_threat.2.1 194 = .ok (.iload 4, 2) := by decide +kernel
theorem dX12_threat_196 : decode MX12_threat.2.1 196 = .ok (.baload, 1) := by decide +kernel
theorem dX12_threat_197 : decode MX12_threat.2.1 197 = .ok (.ifCond .eq 7, 3) := by decide +kernel
theorem dX12_threat_200 : decode MX12_threat.2.1 200 = .ok (.iconst 1, 1) := by decide +kernel
theorem dX12_threat_201 : decode MX12_threat.2.1 201 = .ok (.goto 4, 3) := by decide +kernel
theorem dX12_threat_204 : decode MX12_threat.2.1 204 = .ok (.iconst 0, 1) := by decide +kernel
theorem dX12_threat_205 : decode MX12_threat.2.1 205 = .ok (.ireturn, 1) := by decide +kernel
theorem dX12_threat_206 : decode MX12_threat.2.1 206 = .ok (.iconst 0, 1) := by decide +kernel
theorem dX12_threat_207 : decode MX12_threat.2.1 207 = .ok (.istore 5, 2) := by decide +kernel
theorem dX12_threat_209 : decode MX12_threat.2.1 209 = .ok (.iconst (-1), 1) := by decide +kernel
theorem dX12_threat_210 : decode MX12_threat.2.1 210 = .ok (.istore 6, 2) := by decide +kernel
theorem dX12_threat_212 : decode MX12_threat.2.1 212 = .ok (.aload_n 0, 1) := by decide +kernel
theorem dX12_threat_213 : decode MX12_threat.2.1 213 = .ok (.getfield 13, 3) := by decide +kernel
theorem dX12_threat_216 : decode MX12_threat.2.1 216 = .ok (.iconst 0, 1) := by decide +kernel
theorem dX12_threat_217 : decode MX12_threat.2.1 217 = .ok (.iaload, 1) := by decide +kernel
theorem dX12_threat_218 : decode MX12_threat.2.1 218 = .ok (.iconst 1, 1) := by decide +kernel
theorem dX12_threat_219 : decode MX12_threat.2.1 219 = .ok (.isub, 1) := by decide +kernel
theorem dX12_threat_220 : decode MX12_threat.2.1 220 = .ok (.istore 7, 2) := by decide +kernel
theorem dX12_threat_222 : decode MX12_threat.2.1 222 = .ok (.iload 7, 2) := by decide +kernel
theorem dX12_threat_224 : decode MX12_threat.2.1 224 = .ok (.ifCond .lt 27, 3) := by decide +kernel
theorem dX12_threat_227 : decode MX12_threat.2.1 227 = .ok (.aload_n 0, 1) := by decide +kernel
theorem dX12_threat_228 : decode MX12_threat.2.1 228 = .ok (.iload 4, 2) := by decide +kernel
theorem dX12_threat_230 : decode MX12_threat.2.1 230 = .ok (.iload 7, 2) := by decide +kernel
theorem dX12_threat_232 : decode MX12_threat.2.1 232 = .ok (.invokevirtual 493, 3) := by decide +kernel
theorem dX12_threat_235 : decode MX12_threat.2.1 235 = .ok (.ifCond .eq 10, 3) := by decide +kernel
theorem dX12_threat_238 : decode MX12_threat.2.1 238 = .ok (.iinc 5 1, 3) := by decide +kernel
theorem dX12_threat_241 : decode MX12_threat.2.1 241 = .ok (.iload 7, 2) := by decide +kernel
theorem dX12_threat_243 : decode MX12_threat.2.1 243 = .ok (.istore 6, 2) := by decide +kernel
theorem dX12_threat_245 : decode MX12_threat.2.1 245 = .ok (.iinc 7 (-1), 3) := by decide +kernel
theorem dX12_threat_248 : decode MX12_threat.2.1 248 = .ok (.goto (-26), 3) := by decide +kernel
theorem dX12_threat_251 : decode MX12_threat.2.1 251 = .ok (.iload_n 3, 1) := by decide +kernel
theorem dX12_threat_252 : decode MX12_threat.2.1 252 = .ok (.iconst 1, 1) := by decide +kernel
theorem dX12_threat_253 : decode MX12_threat.2.1 253 = .ok (.if_icmp .ne 8, 3) := by decide +kernel
theorem dX12_threat_256 : decode MX12_threat.2.1 256 = .ok (.iload 5, 2) := by decide +kernel
theorem dX12_threat_258 : decode MX12_threat.2.1 258 = .ok (.goto 5, 3) := by decide +kernel
theorem dX12_threat_261 : decode MX12_threat.2.1 261 = .ok (.iload 6, 2) := by decide +kernel
theorem dX12_threat_263 : decode MX12_threat.2.1 263 = .ok (.ireturn, 1) := by decide +kernel
theorem dX12_seen_0 : decode MX12_seen.2.1 0 = .ok (.aload_n 0, 1) := by decide +kernel
theorem dX12_seen_1 : decode MX12_seen.2.1 1 = .ok (.iconst 0, 1) := by decide +kernel
theorem dX12_seen_2 : decode MX12_seen.2.1 2 = .ok (.putfield 163, 3) := by decide +kernel
theorem dX12_seen_5 : decode MX12_seen.2.1 5 = .ok (.iload_n 1, 1) := by decide +kernel
theorem dX12_seen_6 : decode MX12_seen.2.1 6 = .ok (.invokestatic 199, 3) := by decide +kernel
theorem dX12_seen_9 : decode MX12_seen.2.1 9 = .ok (.ifCond .eq 25, 3) := by decide +kernel
theorem dX12_seen_12 : decode MX12_seen.2.1 12 = .ok (.iload_n 2, 1) := by decide +kernel
theorem dX12_seen_13 : decode MX12_seen.2.1 13 = .ok (.i2l, 1) := by decide +kernel
theorem dX12_seen_14 : decode MX12_seen.2.1 14 = .ok (.lconst 1, 1) := by decide +kernel
theorem dX12_seen_15 : decode MX12_seen.2.1 15 = .ok (.ldc2_w 191, 3) := by decide +kernel
theorem dX12_seen_18 : decode MX12_seen.2.1 18 = .ok (.invokestatic 183, 3) := by decide +kernel
theorem dX12_seen_21 : decode MX12_seen.2.1 21 = .ok (.ifCond .eq 13, 3) := by decide +kernel
theorem dX12_seen_24 : decode MX12_seen.2.1 24 = .ok (.iload_n 3, 1) := by decide +kernel
theorem dX12_seen_25 : decode MX12_seen.2.1 25 = .ok (.i2l, 1) := by decide +kernel
theorem dX12_seen_26 : decode MX12_seen.2.1 26 = .ok (.lconst 0, 1) := by decide +kernel
theorem dX12_seen_27 : decode MX12_seen.2.1 27 = .ok (.lconst 1, 1) := by decide +kernel
theorem dX12_seen_28 : decode MX12_seen.2.1 28 = .ok (.invokestatic 183, 3) := by decide +kernel
theorem dX12_seen_31 : decode MX12_seen.2.1 31 = .ok (.ifCond .ne 9, 3) := by decide +kernel
theorem dX12_seen_34 : decode MX12_seen.2.1 34 = .ok (.aload_n 0, 1) := by decide +kernel
theorem dX12_seen_35 : decode MX12_seen.2.1 35 = .ok (.iconst (-1), 1) := by decide +kernel
theorem dX12_seen_36 : decode MX12_seen.2.1 36 = .ok (.invokevirtual 176, 3) := by decide +kernel
theorem dX12_seen_39 : decode MX12_seen.2.1 39 = .ok (.ireturn, 1) := by decide +kernel
theorem dX12_seen_40 : decode MX12_seen.2.1 40 = .ok (.aload_n 0, 1) := by decide +kernel
theorem dX12_seen_41 : decode MX12_seen.2.1 41 = .ok (.getfield 13, 3) := by decide +kernel
theorem dX12_seen_44 : decode MX12_seen.2.1 44 = .ok (.iconst 3, 1) := by decide +kernel
theorem dX12_seen_45 : decode MX12_seen.2.1 45 = .ok (.iaload, 1) := by decide +kernel
theorem dX12_seen_46 : decode MX12_seen.2.1 46 = .ok (.istore 4, 2) := by decide +kernel
theorem dX12_seen_48 : decode MX12_seen.2.1 48 = .ok (.iload 4, 2) := by decide +kernel
theorem dX12_seen_50 : decode MX12_seen.2.1 50 = .ok (.bipush 10, 2) := by decide +kernel
theorem dX12_seen_52 : decode MX12_seen.2.1 52 = .ok (.if_icmp .ne 10, 3) := by decide +kernel
theorem dX12_seen_55 : decode MX12_seen.2.1 55 = .ok (.aload_n 0, 1) := by decide +kernel
theorem dX12_seen_56 : decode MX12_seen.2.1 56 = .ok (.bipush (-5), 2) := by decide +kernel
theorem dX12_seen_58 : decode MX12_seen.2.1 58 = .ok (.invokevirtual 176, 3) := by decide +kernel
theorem dX12_seen_61 : decode MX12_seen.2.1 61 = .ok (.ireturn, 1) := by decide +kernel
theorem dX12_seen_62 : decode MX12_seen.2.1 62 = .ok (.aload_n 0, 1) := by decide +kernel
theorem dX12_seen_63 : decode MX12_seen.2.1 63 = .ok (.getfield 13, 3) := by decide +kernel
theorem dX12_seen_66 : decode MX12_seen.2.1 66 = .ok (.sipush 229, 3) := by decide +kernel
theorem dX12_seen_69 : decode MX12_seen.2.1 69 = .ok (.iconst 3, 1) := by decide +kernel
theorem dX12_seen_70 : decode MX12_seen.2.1 70 = .ok (.iload 4, 2) := by decide +kernel
theorem dX12_seen_72 : decode MX12_seen.2.1 72 = .ok (.imul, 1) := by decide +kernel
theorem dX12_seen_73 : decode MX12_seen.2.1 73 = .ok (.iadd, 1) := by decide +kernel
theorem dX12_seen_74 : decode MX12_seen.2.1 74 = .ok (.iload_n 1, 1) := by decide +kernel
theorem dX12_seen_75 : decode MX12_seen.2.1 75 = .ok (.iastore, 1) := by decide +kernel
theorem dX12_seen_76 : decode MX12_seen.2.1 76 = .ok (.aload_n 0, 1) := by decide +kernel
theorem dX12_seen_77 : decode MX12_seen.2.1 77 = .ok (.getfield 13, 3) := by decide +kernel
theorem dX12_seen_80 : decode MX12_seen.2.1 80 = .ok (.sipush 229, 3) := by decide +kernel
theorem dX12_seen_83 : decode MX12_seen.2.1 83 = .ok (.iconst 3, 1) := by decide +kernel
theorem dX12_seen_84 : decode MX12_seen.2.1 84 = .ok (.iload 4, 2) := by decide +kernel
theorem dX12_seen_86 : decode MX12_seen.2.1 86 = .ok (.imul, 1) := by decide +kernel
theorem dX12_seen_87 : decode MX12_seen.2.1 87 = .ok (.iadd, 1) := by decide +kernel
theorem dX12_seen_88 : decode MX12_seen.2.1 88 = .ok (.iconst 1, 1) := by decide +kernel
theorem dX12_seen_89 : decode MX12_seen.2.1 89 = .ok (.iadd, 1) := by decide +kernel
theorem dX12_seen_90 : decode MX12_seen.2.1 90 = .ok (.iload_n 2, 1) := by decide +kernel
theorem dX12_seen_91 : decode MX12_seen.2.1 91 = .ok (.iastore, 1) := by decide +kernel
theorem dX12_seen_92 : decode MX12_seen.2.1 92 = .ok (.aload_n 0, 1) := by decide +kernel
theorem dX12_seen_93 : decode MX12_seen.2.1 93 = .ok (.getfield 13, 3) := by decide +kernel
theorem dX12_seen_96 : decode MX12_seen.2.1 96 = .ok (.sipush 229, 3) := by decide +kernel
theorem dX12_seen_99 : decode MX12_seen.2.1 99 = .ok (.iconst 3, 1) := by decide +kernel
theorem dX12_seen_100 : decode MX12_seen.2.1 100 = .ok (.iload 4, 2) := by decide +kernel
theorem dX12_seen_102 : decode MX12_seen.2.1 102 = .ok (.imul, 1) := by decide +kernel
theorem dX12_seen_103 : decode MX12_seen.2.1 103 = .ok (.iadd, 1) := by decide +kernel
theorem dX12_seen_104 : decode MX12_seen.2.1 104 = .ok (.iconst 2, 1) := by decide +kernel
theorem dX12_seen_105 : decode MX12_seen.2.1 105 = .ok (.iadd, 1) := by decide +kernel
theorem dX12_seen_106 : decode MX12_seen.2.1 106 = .ok (.iload_n 3, 1) := by decide +kernel
theorem dX12_seen_107 : decode MX12_seen.2.1 107 = .ok (.iastore, 1) := by decide +kernel
theorem dX12_seen_108 : decode MX12_seen.2.1 108 = .ok (.aload_n 0, 1) := by decide +kernel
theorem dX12_seen_109 : decode MX12_seen.2.1 109 = .ok (.getfield 13, 3) := by decide +kernel
theorem dX12_seen_112 : decode MX12_seen.2.1 112 = .ok (.iconst 3, 1) := by decide +kernel
theorem dX12_seen_113 : decode MX12_seen.2.1 113 = .ok (.dup2, 1) := by decide +kernel
theorem dX12_seen_114 : decode MX12_seen.2.1 114 = .ok (.iaload, 1) := by decide +kernel
theorem dX12_seen_115 : decode MX12_seen.2.1 115 = .ok (.iconst 1, 1) := by decide +kernel
theorem dX12_seen_116 : decode MX12_seen.2.1 116 = .ok (.iadd, 1) := by decide +kernel
theorem dX12_seen_117 : decode MX12_seen.2.1 117 = .ok (.iastore, 1) := by decide +kernel
theorem dX12_seen_118 : decode MX12_seen.2.1 118 = .ok (.aload_n 0, 1) := by decide +kernel
theorem dX12_seen_119 : decode MX12_seen.2.1 119 = .ok (.iload 4, 2) := by decide +kernel
theorem dX12_seen_121 : decode MX12_seen.2.1 121 = .ok (.iconst 1, 1) := by decide +kernel
theorem dX12_seen_122 : decode MX12_seen.2.1 122 = .ok (.iadd, 1) := by decide +kernel
theorem dX12_seen_123 : decode MX12_seen.2.1 123 = .ok (.invokevirtual 176, 3) := by decide +kernel
theorem dX12_seen_126 : decode MX12_seen.2.1 126 = .ok (.ireturn, 1) := by decide +kernel
theorem dX12_forget_0 : decode MX12_forget.2.1 0 = .ok (.aload_n 0, 1) := by decide +kernel
theorem dX12_forget_1 : decode MX12_forget.2.1 1 = .ok (.iconst 0, 1) := by decide +kernel
theorem dX12_forget_2 : decode MX12_forget.2.1 2 = .ok (.putfield 163, 3) := by decide +kernel
theorem dX12_forget_5 : decode MX12_forget.2.1 5 = .ok (.aload_n 0, 1) := by decide +kernel
theorem dX12_forget_6 : decode MX12_forget.2.1 6 = .ok (.getfield 13, 3) := by decide +kernel
theorem dX12_forget_9 : decode MX12_forget.2.1 9 = .ok (.iconst 3, 1) := by decide +kernel
theorem dX12_forget_10 : decode MX12_forget.2.1 10 = .ok (.iaload, 1) := by decide +kernel
theorem dX12_forget_11 : decode MX12_forget.2.1 11 = .ok (.istore_n 1, 1) := by decide +kernel
theorem dX12_forget_12 : decode MX12_forget.2.1 12 = .ok (.aload_n 0, 1) := by decide +kernel
theorem dX12_forget_13 : decode MX12_forget.2.1 13 = .ok (.getfield 13, 3) := by decide +kernel
theorem dX12_forget_16 : decode MX12_forget.2.1 16 = .ok (.iconst 3, 1) := by decide +kernel
theorem dX12_forget_17 : decode MX12_forget.2.1 17 = .ok (.iconst 0, 1) := by decide +kernel
theorem dX12_forget_18 : decode MX12_forget.2.1 18 = .ok (.iastore, 1) := by decide +kernel
theorem dX12_forget_19 : decode MX12_forget.2.1 19 = .ok (.iload_n 1, 1) := by decide +kernel
theorem dX12_forget_20 : decode MX12_forget.2.1 20 = .ok (.ireturn, 1) := by decide +kernel
theorem dX12_holds_0 : decode MX12_holds.2.1 0 = .ok (.aload_n 0, 1) := by decide +kernel
theorem dX12_holds_1 : decode MX12_holds.2.1 1 = .ok (.iconst 0, 1) := by decide +kernel
theorem dX12_holds_2 : decode MX12_holds.2.1 2 = .ok (.putfield 163, 3) := by decide +kernel
theorem dX12_holds_5 : decode MX12_holds.2.1 5 = .ok (.iload_n 1, 1) := by decide +kernel
theorem dX12_holds_6 : decode MX12_holds.2.1 6 = .ok (.invokestatic 199, 3) := by decide +kernel
theorem dX12_holds_9 : decode MX12_holds.2.1 9 = .ok (.ifCond .eq 15, 3) := by decide +kernel
theorem dX12_holds_12 : decode MX12_holds.2.1 12 = .ok (.iload_n 2, 1) := by decide +kernel
theorem dX12_holds_13 : decode MX12_holds.2.1 13 = .ok (.i2l, 1) := by decide +kernel
theorem dX12_holds_14 : decode MX12_holds.2.1 14 = .ok (.lconst 0, 1) := by decide +kernel
theorem dX12_holds_15 : decode MX12_holds.2.1 15 = .ok (.ldc2_w 189, 3) := by decide +kernel
theorem dX12_holds_18 : decode MX12_holds.2.1 18 = .ok (.invokestatic 183, 3) := by decide +kernel
theorem dX12_holds_21 : decode MX12_holds.2.1 21 = .ok (.ifCond .ne 5, 3) := by decide +kernel
theorem dX12_holds_24 : decode MX12_holds.2.1 24 = .ok (.iconst (-1), 1) := by decide +kernel
theorem dX12_holds_25 : decode MX12_holds.2.1 25 = .ok (.ireturn, 1) := by decide +kernel
theorem dX12_holds_26 : decode MX12_holds.2.1 26 = .ok (.iconst 1, 1) := by decide +kernel
theorem dX12_holds_27 : decode MX12_holds.2.1 27 = .ok (.istore_n 3, 1) := by decide +kernel
theorem dX12_holds_28 : decode MX12_holds.2.1 28 = .ok (.sipush 9999, 3) := by decide +kernel
theorem dX12_holds_31 : decode MX12_holds.2.1 31 = .ok (.istore 4, 2) := by decide +kernel
theorem dX12_holds_33 : decode MX12_holds.2.1 33 = .ok (.iconst 0, 1) := by decide +kernel
theorem dX12_holds_34 : decode MX12_holds.2.1 34 = .ok (.istore 5, 2) := by decide +kernel
theorem dX12_holds_36 : decode MX12_holds.2.1 36 = .ok (.iload 5, 2) := by decide +kernel
theorem dX12_holds_38 : decode MX12_holds.2.1 38 = .ok (.aload_n 0, 1) := by decide +kernel
theorem dX12_holds_39 : decode MX12_holds.2.1 39 = .ok (.getfield 13, 3) := by decide +kernel
theorem dX12_holds_42 : decode MX12_holds.2.1 42 = .ok (.iconst 3, 1) := by decide +kernel
theorem dX12_holds_43 : decode MX12_holds.2.1 43 = .ok (.iaload, 1) := by decide +kernel
theorem dX12_holds_44 : decode MX12_holds.2.1 44 = .ok (.if_icmp .ge 99, 3) := by decide +kernel
theorem dX12_holds_47 : decode MX12_holds.2.1 47 = .ok (.sipush 229, 3) := by decide +kernel
theorem dX12_holds_50 : decode MX12_holds.2.1 50 = .ok (.iconst 3, 1) := by decide +kernel
theorem dX12_holds_51 : decode MX12_holds.2.1 51 = .ok (.iload 5, 2) := by decide +kernel
theorem dX12_holds_53 : decode MX12_holds.2.1 53 = .ok (.imul, 1) := by decide +kernel
theorem dX12_holds_54 : decode MX12_holds.2.1 54 = .ok (.iadd, 1) := by decide +kernel
theorem dX12_holds_55 : decode MX12_holds.2.1 55 = .ok (.istore 6, 2) := by decide +kernel
theorem dX12_holds_57 : decode MX12_holds.2.1 57 = .ok (.aload_n 0, 1) := by decide +kernel
theorem dX12_holds_58 : decode MX12_holds.2.1 58 = .ok (.getfield 13, 3) := by decide +kernel
theorem dX12_holds_61 : decode MX12_holds.2.1 61 = .ok (.iload 6, 2) := by decide +kernel
theorem dX12_holds_63 : decode MX12_holds.2.1 63 = .ok (.iaload, 1) := by decide +kernel
theorem dX12_holds_64 : decode MX12_holds.2.1 64 = .ok (.iload_n 1, 1) := by decide +kernel
theorem dX12_holds_65 : decode MX12_holds.2.1 65 = .ok (.if_icmp .ne 72, 3) := by decide +kernel
theorem dX12_holds_68 : decode MX12_holds.2.1 68 = .ok (.aload_n 0, 1) := by decide +kernel
theorem dX12_holds_69 : decode MX12_holds.2.1 69 = .ok (.getfield 13, 3) := by decide +kernel
theorem dX12_holds_72 : decode MX12_holds.2.1 72 = .ok (.iload 6, 2) := by decide +kernel
theorem dX12_holds_74 : decode MX12_holds.2.1 74 = .ok (.iconst 1, 1) := by decide +kernel
theorem dX12_holds_75 : decode MX12_holds.2.1 75 = .ok (.iadd, 1) := by decide +kernel
theorem dX12_holds_76 : decode MX12_holds.2.1 76 = .ok (.iaload, 1) := by decide +kernel
theorem dX12_holds_77 : decode MX12_holds.2.1 77 = .ok (.istore 7, 2) := by decide +kernel
theorem dX12_holds_79 : decode MX12_holds.2.1 79 = .ok (.aload_n 0, 1) := by decide +kernel
theorem dX12_holds_80 : decode MX12_holds.2.1 80 = .ok (.getfield 13, 3) := by decide +kernel
theorem dX12_holds_83 : decode MX12_holds.2.1 83 = .ok (.iload 6, 2) := by decide +kernel
theorem dX12_holds_85 : decode MX12_holds.2.1 85 = .ok (.iconst 2, 1) := by decide +kernel
theorem dX12_holds_86 : decode MX12_holds.2.1 86 = .ok (.iadd, 1) := by decide +kernel
theorem dX12_holds_87 : decode MX12_holds.2.1 87 = .ok (.iaload, 1) := by decide +kernel
theorem dX12_holds_88 : decode MX12_holds.2.1 88 = .ok (.iconst 1, 1) := by decide +kernel
theorem dX12_holds_89 : decode MX12_holds.2.1 89 = .ok (.if_icmp .ne 19, 3) := by decide +kernel
theorem dX12_holds_92 : decode MX12_holds.2.1 92 = .ok (.iload 7, 2) := by decide +kernel
theorem dX12_holds_94 : decode MX12_holds.2.1 94 = .ok (.iconst 1, 1) := by decide +kernel
theorem dX12_holds_95 : decode MX12_holds.2.1 95 = .ok (.isub, 1) := by decide +kernel
theorem dX12_holds_96 : decode MX12_holds.2.1 96 = .ok (.iload 4, 2) := by decide +kernel
theorem dX12_holds_98 : decode MX12_holds.2.1 98 = .ok (.if_icmp .ge 10, 3) := by decide +kernel
theorem dX12_holds_101 : decode MX12_holds.2.1 101 = .ok (.iload 7, 2) := by decide +kernel
theorem dX12_holds_103 : decode MX12_holds.2.1 103 = .ok (.iconst 1, 1) := by decide +kernel
theorem dX12_holds_104 : decode MX12_holds.2.1 104 = .ok (.isub, 1) := by decide +kernel
theorem dX12_holds_105 : decode MX12_holds.2.1 105 = .ok (.goto 5, 3) := by decide +kernel
theorem dX12_holds_108 : decode MX12_holds.2.1 108 = .ok (.iload 4, 2) := by decide +kernel
theorem dX12_holds_110 : decode MX12_holds.2.1 110 = .ok (.istore 4, 2) := by decide +kernel
theorem dX12_holds_112 : decode MX12_holds.2.1 112 = .ok (.aload_n 0, 1) := by decide +kernel
theorem dX12_holds_113 : decode MX12_holds.2.1 113 = .ok (.getfield 13, 3) := by decide +kernel
theorem dX12_holds_116 : decode MX12_holds.2.1 116 = .ok (.iload 6, 2) := by decide +kernel
theorem dX12_holds_118 : decode MX12_holds.2.1 118 = .ok (.iconst 2, 1) := by decide +kernel
theorem dX12_holds_119 : decode MX12_holds.2.1 119 = .ok (.iadd, 1) := by decide +kernel
theorem dX12_holds_120 : decode MX12_holds.2.1 120 = .ok (.iaload, 1) := by decide +kernel
theorem dX12_holds_121 : decode MX12_holds.2.1 121 = .ok (.ifCond .ne 14, 3) := by decide +kernel
theorem dX12_holds_124 : decode MX12_holds.2.1 124 = .ok (.iload 7, 2) := by decide +kernel
theorem dX12_holds_126 : decode MX12_holds.2.1 126 = .ok (.iload_n 3, 1) := by decide +kernel
theorem dX12_holds_127 : decode MX12_holds.2.1 127 = .ok (.if_icmp .le 8, 3) := by decide +kernel
theorem dX12_holds_130 : decode MX12_holds.2.1 130 = .ok (.iload 7, 2) := by decide +kernel
theorem dX12_holds_132 : decode MX12_holds.2.1 132 = .ok (.goto 4, 3) := by decide +kernel
theorem dX12_holds_135 : decode MX12_holds.2.1 135 = .ok (.iload_n 3, 1) := by decide +kernel
theorem dX12_holds_136 : decode MX12_holds.2.1 136 = .ok (.istore_n 3, 1) := by decide +kernel
theorem dX12_holds_137 : decode MX12_holds.2.1 137 = .ok (.iinc 5 1, 3) := by decide +kernel
theorem dX12_holds_140 : decode MX12_holds.2.1 140 = .ok (.goto (-104), 3) := by decide +kernel
theorem dX12_holds_143 : decode MX12_holds.2.1 143 = .ok (.iload_n 2, 1) := by decide +kernel
theorem dX12_holds_144 : decode MX12_holds.2.1 144 = .ok (.iconst 2, 1) := by decide +kernel
theorem dX12_holds_145 : decode MX12_holds.2.1 145 = .ok (.if_icmp .eq 9, 3) := by decide +kernel
theorem dX12_holds_148 : decode MX12_holds.2.1 148 = .ok (.iload_n 3, 1) := by decide +kernel
theorem dX12_holds_149 : decode MX12_holds.2.1 149 = .ok (.iload 4, 2) := by decide +kernel
theorem dX12_holds_151 : decode MX12_holds.2.1 151 = .ok (.if_icmp .le 29, 3) := by decide +kernel
theorem dX12_holds_154 : decode MX12_holds.2.1 154 = .ok (.iload_n 2, 1) := by decide +kernel
theorem dX12_holds_155 : decode MX12_holds.2.1 155 = .ok (.iconst 2, 1) := by decide +kernel
theorem dX12_holds_156 : decode MX12_holds.2.1 156 = .ok (.if_icmp .ne 22, 3) := by decide +kernel
theorem dX12_holds_159 : decode MX12_holds.2.1 159 = .ok (.iload_n 3, 1) := by decide +kernel
theorem dX12_holds_160 : decode MX12_holds.2.1 160 = .ok (.iload 4, 2) := by decide +kernel
theorem dX12_holds_162 : decode MX12_holds.2.1 162 = .ok (.if_icmp .le 7, 3) := by decide +kernel
theorem dX12_holds_165 : decode MX12_holds.2.1 165 = .ok (.iconst 0, 1) := by decide +kernel
theorem dX12_holds_166 : decode MX12_holds.2.1 166 = .ok (.goto 13, 3) := by decide +kernel
theorem dX12_holds_169 : decode MX12_holds.2.1 169 = .ok (.iload 4, 2) := by decide +kernel
theorem dX12_holds_171 : decode MX12_holds.2.1 171 = .ok (.iload_n 3, 1) := by decide +kernel
theorem dX12_holds_172 : decode MX12_holds.2.1 172 = .ok (.isub, 1) := by decide +kernel
theorem dX12_holds_173 : decode MX12_holds.2.1 173 = .ok (.iconst 1, 1) := by decide +kernel
theorem dX12_holds_174 : decode MX12_holds.2.1 174 = .ok (.iadd, 1) := by decide +kernel
theorem dX12_holds_175 : decode MX12_holds.2.1 175 = .ok (.goto 4, 3) := by decide +kernel
theorem dX12_holds_178 : decode MX12_holds.2.1 178 = .ok (.iconst (-1), 1) := by decide +kernel
theorem dX12_holds_179 : decode MX12_holds.2.1 179 = .ok (.ireturn, 1) := by decide +kernel
theorem dX12_holds_180 : decode MX12_holds.2.1 180 = .ok (.iload_n 2, 1) := by decide +kernel
theorem dX12_holds_181 : decode MX12_holds.2.1 181 = .ok (.iconst 2, 1) := by decide +kernel
theorem dX12_holds_182 : decode MX12_holds.2.1 182 = .ok (.if_icmp .ge 14, 3) := by decide +kernel
theorem dX12_holds_185 : decode MX12_holds.2.1 185 = .ok (.iload_n 2, 1) := by decide +kernel
theorem dX12_holds_186 : decode MX12_holds.2.1 186 = .ok (.ifCond .ne 7, 3) := by decide +kernel
theorem dX12_holds_189 : decode MX12_holds.2.1 189 = .ok (.iload_n 3, 1) := by decide +kernel
theorem dX12_holds_190 : decode MX12_holds.2.1 190 = .ok (.goto 5, 3) := by decide +kernel
theorem dX12_holds_193 : decode MX12_holds.2.1 193 = .ok (.iload 4, 2) := by decide +kernel
theorem dX12_holds_195 : decode MX12_holds.2.1 195 = .ok (.ireturn, 1) := by decide +kernel
theorem dX12_holds_196 : decode MX12_holds.2.1 196 = .ok (.iconst (-1), 1) := by decide +kernel
theorem dX12_holds_197 : decode MX12_holds.2.1 197 = .ok (.istore 5, 2) := by decide +kernel
theorem dX12_holds_199 : decode MX12_holds.2.1 199 = .ok (.ldc_w 475, 3) := by decide +kernel
theorem dX12_holds_202 : decode MX12_holds.2.1 202 = .ok (.istore 6, 2) := by decide +kernel
theorem dX12_holds_204 : decode MX12_holds.2.1 204 = .ok (.iload_n 3, 1) := by decide +kernel
theorem dX12_holds_205 : decode MX12_holds.2.1 205 = .ok (.iconst 1, 1) := by decide +kernel
theorem dX12_holds_206 : decode MX12_holds.2.1 206 = .ok (.iadd, 1) := by decide +kernel
theorem dX12_holds_207 : decode MX12_holds.2.1 207 = .ok (.istore 7, 2) := by decide +kernel
theorem dX12_holds_209 : decode MX12_holds.2.1 209 = .ok (.iload 7, 2) := by decide +kernel
theorem dX12_holds_211 : decode MX12_holds.2.1 211 = .ok (.iload 4, 2) := by decide +kernel
theorem dX12_holds_213 : decode MX12_holds.2.1 213 = .ok (.if_icmp .gt 71, 3) := by decide +kernel
theorem dX12_holds_216 : decode MX12_holds.2.1 216 = .ok (.iload 7, 2) := by decide +kernel
theorem dX12_holds_218 : decode MX12_holds.2.1 218 = .ok (.iload_n 3, 1) := by decide +kernel
theorem dX12_holds_219 : decode MX12_holds.2.1 219 = .ok (.isub, 1) := by decide +kernel
theorem dX12_holds_220 : decode MX12_holds.2.1 220 = .ok (.iload 4, 2) := by decide +kernel
theorem dX12_holds_222 : decode MX12_holds.2.1 222 = .ok (.iload 7, 2) := by decide +kernel
theorem dX12_holds_224 : decode MX12_holds.2.1 224 = .ok (.isub, 1) := by decide +kernel
theorem dX12_holds_225 : decode MX12_holds.2.1 225 = .ok (.iconst 1, 1) := by decide +kernel
theorem dX12_holds_226 : decode MX12_holds.2.1 226 = .ok (.iadd, 1) := by decide +kernel
theorem dX12_holds_227 : decode MX12_holds.2.1 227 = .ok (.if_icmp .le 10, 3) := by decide +kernel
theorem dX12_holds_230 : decode MX12_holds.2.1 230 = .ok (.iload 7, 2) := by decide +kernel
theorem dX12_holds_232 : decode MX12_holds.2.1 232 = .ok (.iload_n 3, 1) := by decide +kernel
theorem dX12_holds_233 : decode MX12_holds.2.1 233 = .ok (.isub, 1) := by decide +kernel
theorem dX12_holds_234 : decode MX12_holds.2.1 234 = .ok (.goto 10, 3) := by decide +kernel
theorem dX12_holds_237 : decode MX12_holds.2.1 237 = .ok (.iload 4, 2) := by decide +kernel
theorem dX12_holds_239 : decode MX12_holds.2.1 239 = .ok (.iload 7, 2) := by decide +kernel
theorem dX12_holds_241 : decode MX12_holds.2.1 241 = .ok (.isub, 1) := by decide +kernel
theorem dX12_holds_242 : decode MX12_holds.2.1 242 = .ok (.iconst 1, 1) := by decide +kernel
theorem dX12_holds_243 : decode MX12_holds.2.1 243 = .ok (.iadd, 1) := by decide +kernel
theorem dX12_holds_244 : decode MX12_holds.2.1 244 = .ok (.istore 8, 2) := by decide +kernel
theorem dX12_holds_246 : decode MX12_holds.2.1 246 = .ok (.iload 8, 2) := by decide +kernel
theorem dX12_holds_248 : decode MX12_holds.2.1 248 = .ok (.iload 6, 2) := by decide +kernel
theorem dX12_holds_250 : decode MX12_holds.2.1 250 = .ok (.if_icmp .ge 8, 3) := by decide +kernel
theorem dX12_holds_253 : decode MX12_holds.2.1 253 = .ok (.iload 7, 2) := by decide +kernel
theorem dX12_holds_255 : decode MX12_holds.2.1 255 = .ok (.goto 5, 3) := by decide +kernel
theorem dX12_holds_258 : decode MX12_holds.2.1 258 = .ok (.iload 5, 2) := by decide +kernel
theorem dX12_holds_260 : decode MX12_holds.2.1 260 = .ok (.istore 5, 2) := by decide +kernel
theorem dX12_holds_262 : decode MX12_holds.2.1 262 = .ok (.iload 8, 2) := by decide +kernel
theorem dX12_holds_264 : decode MX12_holds.2.1 264 = .ok (.iload 6, 2) := by decide +kernel
theorem dX12_holds_266 : decode MX12_holds.2.1 266 = .ok (.if_icmp .ge 8, 3) := by decide +kernel
theorem dX12_holds_269 : decode MX12_holds.2.1 269 = .ok (.iload 8, 2) := by decide +kernel
theorem dX12_holds_271 : decode MX12_holds.2.1 271 = .ok (.goto 5, 3) := by decide +kernel
theorem dX12_holds_274 : decode MX12_holds.2.1 274 = .ok (.iload 6, 2) := by decide +kernel
theorem dX12_holds_276 : decode MX12_holds.2.1 276 = .ok (.istore 6, 2) := by decide +kernel
theorem dX12_holds_278 : decode MX12_holds.2.1 278 = .ok (.iinc 7 1, 3) := by decide +kernel
theorem dX12_holds_281 : decode MX12_holds.2.1 281 = .ok (.goto (-72), 3) := by decide +kernel
theorem dX12_holds_284 : decode MX12_holds.2.1 284 = .ok (.iload 5, 2) := by decide +kernel
theorem dX12_holds_286 : decode MX12_holds.2.1 286 = .ok (.ireturn, 1) := by decide +kernel
theorem dX12_signs_0 : decode MX12_signs.2.1 0 = .ok (.aload_n 0, 1) := by decide +kernel
theorem dX12_signs_1 : decode MX12_signs.2.1 1 = .ok (.iconst 0, 1) := by decide +kernel
theorem dX12_signs_2 : decode MX12_signs.2.1 2 = .ok (.putfield 163, 3) := by decide +kernel
theorem dX12_signs_5 : decode MX12_signs.2.1 5 = .ok (.iconst 0, 1) := by decide +kernel
theorem dX12_signs_6 : decode MX12_signs.2.1 6 = .ok (.istore_n 1, 1) := by decide +kernel
theorem dX12_signs_7 : decode MX12_signs.2.1 7 = .ok (.iconst 0, 1) := by decide +kernel
theorem dX12_signs_8 : decode MX12_signs.2.1 8 = .ok (.istore_n 2, 1) := by decide +kernel
theorem dX12_signs_9 : decode MX12_signs.2.1 9 = .ok (.iload_n 2, 1) := by decide +kernel
theorem dX12_signs_10 : decode MX12_signs.2.1 10 = .ok (.aload_n 0, 1) := by decide +kernel
theorem dX12_signs_11 : decode MX12_signs.2.1 11 = .ok (.getfield 13, 3) := by decide +kernel
theorem dX12_signs_14 : decode MX12_signs.2.1 14 = .ok (.iconst 0, 1) := by decide +kernel
theorem dX12_signs_15 : decode MX12_signs.2.1 15 = .ok (.iaload, 1) := by decide +kernel
theorem dX12_signs_16 : decode MX12_signs.2.1 16 = .ok (.if_icmp .ge 33, 3) := by decide +kernel
theorem dX12_signs_19 : decode MX12_signs.2.1 19 = .ok (.aload_n 0, 1) := by decide +kernel
theorem dX12_signs_20 : decode MX12_signs.2.1 20 = .ok (.iload_n 2, 1) := by decide +kernel
theorem dX12_signs_21 : decode MX12_signs.2.1 21 = .ok (.iconst 3, 1) := by decide +kernel
theorem dX12_signs_22 : decode MX12_signs.2.1 22 = .ok (.invokevirtual 220, 3) := by decide +kernel
theorem dX12_signs_25 : decode MX12_signs.2.1 25 = .ok (.ifCond .le 18, 3) := by decide +kernel
theorem dX12_signs_28 : decode MX12_signs.2.1 28 = .ok (.aload_n 0, 1) := by decide +kernel
theorem dX12_signs_29 : decode MX12_signs.2.1 29 = .ok (.getfield 147, 3) := by decide +kernel
theorem dX12_signs_32 : decode MX12_signs.2.1 32 = .ok (.iload_n 1, 1) := by decide +kernel
theorem dX12_signs_33 : decode MX12_signs.2.1 33 = .ok (.aload_n 0, 1) := by decide +kernel
theorem dX12_signs_34 : decode MX12_signs.2.1 34 = .ok (.iload_n 2, 1) := by decide +kernel
theorem dX12_signs_35 : decode MX12_signs.2.1 35 = .ok (.iconst 3, 1) := by decide +kernel
theorem dX12_signs_36 : decode MX12_signs.2.1 36 = .ok (.invokevirtual 220, 3) := by decide +kernel
theorem dX12_signs_39 : decode MX12_signs.2.1 39 = .ok (.iastore, 1) := by decide +kernel
theorem dX12_signs_40 : decode MX12_signs.2.1 40 = .ok (.iinc 1 1, 3) := by decide +kernel
theorem dX12_signs_43 : decode MX12_signs.2.1 43 = .ok (.iinc 2 1, 3) := by decide +kernel
theorem dX12_signs_46 : decode MX12_signs.2.1 46 = .ok (.goto (-37), 3) := by decide +kernel
theorem dX12_signs_49 : decode MX12_signs.2.1 49 = .ok (.iload_n 1, 1) := by decide +kernel
theorem dX12_signs_50 : decode MX12_signs.2.1 50 = .ok (.iconst 1, 1) := by decide +kernel
theorem dX12_signs_51 : decode MX12_signs.2.1 51 = .ok (.if_icmp .ne 12, 3) := by decide +kernel
theorem dX12_signs_54 : decode MX12_signs.2.1 54 = .ok (.aload_n 0, 1) := by decide +kernel
theorem dX12_signs_55 : decode MX12_signs.2.1 55 = .ok (.getfield 147, 3) := by decide +kernel
theorem dX12_signs_58 : decode MX12_signs.2.1 58 = .ok (.iconst 0, 1) := by decide +kernel
theorem dX12_signs_59 : decode MX12_signs.2.1 59 = .ok (.iaload, 1) := by decide +kernel
theorem dX12_signs_60 : decode MX12_signs.2.1 60 = .ok (.goto 4, 3) := by decide +kernel
theorem dX12_signs_63 : decode MX12_signs.2.1 63 = .ok (.iconst 0, 1) := by decide +kernel
theorem dX12_signs_64 : decode MX12_signs.2.1 64 = .ok (.istore_n 2, 1) := by decide +kernel
theorem dX12_signs_65 : decode MX12_signs.2.1 65 = .ok (.iload_n 1, 1) := by decide +kernel
theorem dX12_signs_66 : decode MX12_signs.2.1 66 = .ok (.iconst 1, 1) := by decide +kernel
theorem dX12_signs_67 : decode MX12_signs.2.1 67 = .ok (.if_icmp .le 135, 3) := by decide +kernel
theorem dX12_signs_70 : decode MX12_signs.2.1 70 = .ok (.iconst 0, 1) := by decide +kernel
theorem dX12_signs_71 : decode MX12_signs.2.1 71 = .ok (.istore_n 3, 1) := by decide +kernel
theorem dX12_signs_72 : decode MX12_signs.2.1 72 = .ok (.iload_n 3, 1) := by decide +kernel
theorem dX12_signs_73 : decode MX12_signs.2.1 73 = .ok (.iconst 2, 1) := by decide +kernel
theorem dX12_signs_74 : decode MX12_signs.2.1 74 = .ok (.if_icmp .ge 83, 3) := by decide +kernel
theorem dX12_signs_77 : decode MX12_signs.2.1 77 = .ok (.iload_n 3, 1) := by decide +kernel
theorem dX12_signs_78 : decode MX12_signs.2.1 78 = .ok (.istore 4, 2) := by decide +kernel
theorem dX12_signs_80 : decode MX12_signs.2.1 80 = .ok (.iload_n 3, 1) := by decide +kernel
theorem dX12_signs_81 : decode MX12_signs.2.1 81 = .ok (.istore 5, 2) := by decide +kernel
theorem dX12_signs_83 : decode MX12_signs.2.1 83 = .ok (.iload 5, 2) := by decide +kernel
theorem dX12_signs_85 : decode MX12_signs.2.1 85 = .ok (.iload_n 1, 1) := by decide +kernel
theorem dX12_signs_86 : decode MX12_signs.2.1 86 = .ok (.if_icmp .ge 35, 3) := by decide +kernel
theorem dX12_signs_89 : decode MX12_signs.2.1 89 = .ok (.aload_n 0, 1) := by decide +kernel
theorem dX12_signs_90 : decode MX12_signs.2.1 90 = .ok (.getfield 147, 3) := by decide +kernel
theorem dX12_signs_93 : decode MX12_signs.2.1 93 = .ok (.iload 5, 2) := by decide +kernel
theorem dX12_signs_95 : decode MX12_signs.2.1 95 = .ok (.iaload, 1) := by decide +kernel
theorem dX12_signs_96 : decode MX12_signs.2.1 96 = .ok (.aload_n 0, 1) := by decide +kernel
theorem dX12_signs_97 : decode MX12_signs.2.1 97 = .ok (.getfield 147, 3) := by decide +kernel
theorem dX12_signs_100 : decode MX12_signs.2.1 100 = .ok (.iload 4, 2) := by decide +kernel
theorem dX12_signs_102 : decode MX12_signs.2.1 102 = .ok (.iaload, 1) := by decide +kernel
theorem dX12_signs_103 : decode MX12_signs.2.1 103 = .ok (.if_icmp .ge 8, 3) := by decide +kernel
theorem dX12_signs_106 : decode MX12_signs.2.1 106 = .ok (.iload 5, 2) := by decide +kernel
theorem dX12_signs_108 : decode MX12_signs.2.1 108 = .ok (.goto 5, 3) := by decide +kernel
theorem dX12_signs_111 : decode MX12_signs.2.1 111 = .ok (.iload 4, 2) := by decide +kernel
theorem dX12_signs_113 : decode MX12_signs.2.1 113 = .ok (.istore 4, 2) := by decide +kernel
theorem dX12_signs_115 : decode MX12_signs.2.1 115 = .ok (.iinc 5 1, 3) := by decide +kernel
theorem dX12_signs_118 : decode MX12_signs.2.1 118 = .ok (.goto (-35), 3) := by decide +kernel
theorem dX12_signs_121 : decode MX12_signs.2.1 121 = .ok (.aload_n 0, 1) := by decide +kernel
theorem dX12_signs_122 : decode MX12_signs.2.1 122 = .ok (.getfield 147, 3) := by decide +kernel
theorem dX12_signs_125 : decode MX12_signs.2.1 125 = .ok (.iload_n 3, 1) := by decide +kernel
theorem dX12_signs_126 : decode MX12_signs.2.1 126 = .ok (.iaload, 1) := by decide +kernel
theorem dX12_signs_127 : decode MX12_signs.2.1 127 = .ok (.istore 5, 2) := by decide +kernel
theorem dX12_signs_129 : decode MX12_signs.2.1 129 = .ok (.aload_n 0, 1) := by decide +kernel
theorem dX12_signs_130 : decode MX12_signs.2.1 130 = .ok (.getfield 147, 3) := by decide +kernel
theorem dX12_signs_133 : decode MX12_signs.2.1 133 = .ok (.iload_n 3, 1) := by decide +kernel
theorem dX12_signs_134 : decode MX12_signs.2.1 134 = .ok (.aload_n 0, 1) := by decide +kernel
theorem dX12_signs_135 : decode MX12_signs.2.1 135 = .ok (.getfield 147, 3) := by decide +kernel
theorem dX12_signs_138 : decode MX12_signs.2.1 138 = .ok (.iload 4, 2) := by decide +kernel
theorem dX12_signs_140 : decode MX12_signs.2.1 140 = .ok (.iaload, 1) := by decide +kernel
theorem dX12_signs_141 : decode MX12_signs.2.1 141 = .ok (.iastore, 1) := by decide +kernel
theorem dX12_signs_142 : decode MX12_signs.2.1 142 = .ok (.aload_n 0, 1) := by decide +kernel
theorem dX12_signs_143 : decode MX12_signs.2.1 143 = .ok (.getfield 147, 3) := by decide +kernel
theorem dX12_signs_146 : decode MX12_signs.2.1 146 = .ok (.iload 4, 2) := by decide +kernel
theorem dX12_signs_148 : decode MX12_signs.2.1 148 = .ok (.iload 5, 2) := by decide +kernel
theorem dX12_signs_150 : decode MX12_signs.2.1 150 = .ok (.iastore, 1) := by decide +kernel
theorem dX12_signs_151 : decode MX12_signs.2.1 151 = .ok (.iinc 3 1, 3) := by decide +kernel
theorem dX12_signs_154 : decode MX12_signs.2.1 154 = .ok (.goto (-82), 3) := by decide +kernel
theorem dX12_signs_157 : decode MX12_signs.2.1 157 = .ok (.aload_n 0, 1) := by decide +kernel
theorem dX12_signs_158 : decode MX12_signs.2.1 158 = .ok (.getfield 147, 3) := by decide +kernel
theorem dX12_signs_161 : decode MX12_signs.2.1 161 = .ok (.iconst 0, 1) := by decide +kernel
theorem dX12_signs_162 : decode MX12_signs.2.1 162 = .ok (.iaload, 1) := by decide +kernel
theorem dX12_signs_163 : decode MX12_signs.2.1 163 = .ok (.aload_n 0, 1) := by decide +kernel
theorem dX12_signs_164 : decode MX12_signs.2.1 164 = .ok (.getfield 147, 3) := by decide +kernel
theorem dX12_signs_167 : decode MX12_signs.2.1 167 = .ok (.iconst 1, 1) := by decide +kernel
theorem dX12_signs_168 : decode MX12_signs.2.1 168 = .ok (.iaload, 1) := by decide +kernel
theorem dX12_signs_169 : decode MX12_signs.2.1 169 = .ok (.iadd, 1) := by decide +kernel
theorem dX12_signs_170 : decode MX12_signs.2.1 170 = .ok (.istore_n 3, 1) := by decide +kernel
theorem dX12_signs_171 : decode MX12_signs.2.1 171 = .ok (.iload_n 2, 1) := by decide +kernel
theorem dX12_signs_172 : decode MX12_signs.2.1 172 = .ok (.iload_n 3, 1) := by decide +kernel
theorem dX12_signs_173 : decode MX12_signs.2.1 173 = .ok (.iadd, 1) := by decide +kernel
theorem dX12_signs_174 : decode MX12_signs.2.1 174 = .ok (.istore_n 2, 1) := by decide +kernel
theorem dX12_signs_175 : decode MX12_signs.2.1 175 = .ok (.aload_n 0, 1) := by decide +kernel
theorem dX12_signs_176 : decode MX12_signs.2.1 176 = .ok (.getfield 147, 3) := by decide +kernel
theorem dX12_signs_179 : decode MX12_signs.2.1 179 = .ok (.iconst 0, 1) := by decide +kernel
theorem dX12_signs_180 : decode MX12_signs.2.1 180 = .ok (.iload_n 3, 1) := by decide +kernel
theorem dX12_signs_181 : decode MX12_signs.2.1 181 = .ok (.iastore, 1) := by decide +kernel
theorem dX12_signs_182 : decode MX12_signs.2.1 182 = .ok (.aload_n 0, 1) := by decide +kernel
theorem dX12_signs_183 : decode MX12_signs.2.1 183 = .ok (.getfield 147, 3) := by decide +kernel
theorem dX12_signs_186 : decode MX12_signs.2.1 186 = .ok (.iconst 1, 1) := by decide +kernel
theorem dX12_signs_187 : decode MX12_signs.2.1 187 = .ok (.aload_n 0, 1) := by decide +kernel
theorem dX12_signs_188 : decode MX12_signs.2.1 188 = .ok (.getfield 147, 3) := by decide +kernel
theorem dX12_signs_191 : decode MX12_signs.2.1 191 = .ok (.iload_n 1, 1) := by decide +kernel
theorem dX12_signs_192 : decode MX12_signs.2.1 192 = .ok (.iconst 1, 1) := by decide +kernel
theorem dX12_signs_193 : decode MX12_signs.2.1 193 = .ok (.isub, 1) := by decide +kernel
theorem dX12_signs_194 : decode MX12_signs.2.1 194 = .ok (.iaload, 1) := by decide +kernel
theorem dX12_signs_195 : decode MX12_signs.2.1 195 = .ok (.iastore, 1) := by decide +kernel
theorem dX12_signs_196 : decode MX12_signs.2.1 196 = .ok (.iinc 1 (-1), 3) := by decide +kernel
theorem dX12_signs_199 : decode MX12_signs.2.1 199 = .ok (.goto (-134), 3) := by decide +kernel
theorem dX12_signs_202 : decode MX12_signs.2.1 202 = .ok (.iload_n 2, 1) := by decide +kernel
theorem dX12_signs_203 : decode MX12_signs.2.1 203 = .ok (.ireturn, 1) := by decide +kernel
theorem dX12_readSum_0 : decode MX12_readSum.2.1 0 = .ok (.aload_n 0, 1) := by decide +kernel
theorem dX12_readSum_1 : decode MX12_readSum.2.1 1 = .ok (.getfield 150, 3) := by decide +kernel
theorem dX12_readSum_4 : decode MX12_readSum.2.1 4 = .ok (.iload_n 1, 1) := by decide +kernel
theorem dX12_readSum_5 : decode MX12_readSum.2.1 5 = .ok (.aload_n 0, 1) := by decide +kernel
theorem dX12_readSum_6 : decode MX12_readSum.2.1 6 = .ok (.getfield 278, 3) := by decide +kernel
theorem dX12_readSum_9 : decode MX12_readSum.2.1 9 = .ok (.iastore, 1) := by decide +kernel
theorem dX12_readSum_10 : decode MX12_readSum.2.1 10 = .ok (.aload_n 0, 1) := by decide +kernel
theorem dX12_readSum_11 : decode MX12_readSum.2.1 11 = .ok (.getfield 239, 3) := by decide +kernel
theorem dX12_readSum_14 : decode MX12_readSum.2.1 14 = .ok (.ifCond .ne 8, 3) := by decide +kernel
theorem dX12_readSum_17 : decode MX12_readSum.2.1 17 = .ok (.aload_n 0, 1) := by decide +kernel
theorem dX12_readSum_18 : decode MX12_readSum.2.1 18 = .ok (.iconst 0, 1) := by decide +kernel
theorem dX12_readSum_19 : decode MX12_readSum.2.1 19 = .ok (.invokevirtual 373, 3) := by decide +kernel
theorem dX12_readSum_22 : decode MX12_readSum.2.1 22 = .ok (.aload_n 0, 1) := by decide +kernel
theorem dX12_readSum_23 : decode MX12_readSum.2.1 23 = .ok (.getfield 150, 3) := by decide +kernel
theorem dX12_readSum_26 : decode MX12_readSum.2.1 26 = .ok (.iload_n 1, 1) := by decide +kernel
theorem dX12_readSum_27 : decode MX12_readSum.2.1 27 = .ok (.iconst 1, 1) := by decide +kernel
theorem dX12_readSum_28 : decode MX12_readSum.2.1 28 = .ok (.iadd, 1) := by decide +kernel
theorem dX12_readSum_29 : decode MX12_readSum.2.1 29 = .ok (.aload_n 0, 1) := by decide +kernel
theorem dX12_readSum_30 : decode MX12_readSum.2.1 30 = .ok (.getfield 278, 3) := by decide +kernel
theorem dX12_readSum_33 : decode MX12_readSum.2.1 33 = .ok (.iastore, 1) := by decide +kernel
theorem dX12_readSum_34 : decode MX12_readSum.2.1 34 = .ok (.return_, 1) := by decide +kernel
theorem dX12_readBehind_0 : decode MX12_readBehind.2.1 0 = .ok (.aload_n 0, 1) := by decide +kernel
theorem dX12_readBehind_1 : decode MX12_readBehind.2.1 1 = .ok (.getfield 239, 3) := by decide +kernel
theorem dX12_readBehind_4 : decode MX12_readBehind.2.1 4 = .ok (.ifCond .ne 12, 3) := by decide +kernel
theorem dX12_readBehind_7 : decode MX12_readBehind.2.1 7 = .ok (.aload_n 0, 1) := by decide +kernel
theorem dX12_readBehind_8 : decode MX12_readBehind.2.1 8 = .ok (.aload_n 0, 1) := by decide +kernel
theorem dX12_readBehind_9 : decode MX12_readBehind.2.1 9 = .ok (.lload_n 2, 1) := by decide +kernel
theorem dX12_readBehind_10 : decode MX12_readBehind.2.1 10 = .ok (.invokevirtual 299, 3) := by decide +kernel
theorem dX12_readBehind_13 : decode MX12_readBehind.2.1 13 = .ok (.invokevirtual 274, 3) := by decide +kernel
theorem dX12_readBehind_16 : decode MX12_readBehind.2.1 16 = .ok (.aload_n 0, 1) := by decide +kernel
theorem dX12_readBehind_17 : decode MX12_readBehind.2.1 17 = .ok (.iload_n 1, 1) := by decide +kernel
theorem dX12_readBehind_18 : decode MX12_readBehind.2.1 18 = .ok (.invokevirtual 497, 3) := by decide +kernel
theorem dX12_readBehind_21 : decode MX12_readBehind.2.1 21 = .ok (.return_, 1) := by decide +kernel
theorem dX12_readTold_0 : decode MX12_readTold.2.1 0 = .ok (.aload_n 0, 1) := by decide +kernel
theorem dX12_readTold_1 : decode MX12_readTold.2.1 1 = .ok (.ldc2_w 500, 3) := by decide +kernel
theorem dX12_readTold_4 : decode MX12_readTold.2.1 4 = .ok (.invokevirtual 299, 3) := by decide +kernel
theorem dX12_readTold_7 : decode MX12_readTold.2.1 7 = .ok (.ifCond .eq 7, 3) := by decide +kernel
theorem dX12_readTold_10 : decode MX12_readTold.2.1 10 = .ok (.iconst 0, 1) := by decide +kernel
theorem dX12_readTold_11 : decode MX12_readTold.2.1 11 = .ok (.goto 18, 3) := by decide +kernel
theorem dX12_readTold_14 : decode MX12_readTold.2.1 14 = .ok (.aload_n 0, 1) := by decide +kernel
theorem dX12_readTold_15 : decode MX12_readTold.2.1 15 = .ok (.ldc2_w 502, 3) := by decide +kernel
theorem dX12_readTold_18 : decode MX12_readTold.2.1 18 = .ok (.invokevirtual 299, 3) := by decide +kernel
theorem dX12_readTold_21 : decode MX12_readTold.2.1 21 = .ok (.ifCond .eq 7, 3) := by decide +kernel
theorem dX12_readTold_24 : decode MX12_readTold.2.1 24 = .ok (.iconst 1, 1) := by decide +kernel
theorem dX12_readTold_25 : decode MX12_readTold.2.1 25 = .ok (.goto 4, 3) := by decide +kernel
theorem dX12_readTold_28 : decode MX12_readTold.2.1 28 = .ok (.iconst (-1), 1) := by decide +kernel
theorem dX12_readTold_29 : decode MX12_readTold.2.1 29 = .ok (.istore_n 1, 1) := by decide +kernel
theorem dX12_readTold_30 : decode MX12_readTold.2.1 30 = .ok (.aload_n 0, 1) := by decide +kernel
theorem dX12_readTold_31 : decode MX12_readTold.2.1 31 = .ok (.iload_n 1, 1) := by decide +kernel
theorem dX12_readTold_32 : decode MX12_readTold.2.1 32 = .ok (.iconst (-1), 1) := by decide +kernel
theorem dX12_readTold_33 : decode MX12_readTold.2.1 33 = .ok (.if_icmp .eq 16, 3) := by decide +kernel
theorem dX12_readTold_36 : decode MX12_readTold.2.1 36 = .ok (.aload_n 0, 1) := by decide +kernel
theorem dX12_readTold_37 : decode MX12_readTold.2.1 37 = .ok (.getfield 370, 3) := by decide +kernel
theorem dX12_readTold_40 : decode MX12_readTold.2.1 40 = .ok (.bipush 12, 2) := by decide +kernel
theorem dX12_readTold_42 : decode MX12_readTold.2.1 42 = .ok (.if_icmp .ge 7, 3) := by decide +kernel
theorem dX12_readTold_45 : decode MX12_readTold.2.1 45 = .ok (.iconst 1, 1) := by decide +kernel
theorem dX12_readTold_46 : decode MX12_readTold.2.1 46 = .ok (.goto 4, 3) := by decide +kernel
theorem dX12_readTold_49 : decode MX12_readTold.2.1 49 = .ok (.iconst 0, 1) := by decide +kernel
theorem dX12_readTold_50 : decode MX12_readTold.2.1 50 = .ok (.invokevirtual 274, 3) := by decide +kernel
theorem dX12_readTold_53 : decode MX12_readTold.2.1 53 = .ok (.aload_n 0, 1) := by decide +kernel
theorem dX12_readTold_54 : decode MX12_readTold.2.1 54 = .ok (.getfield 239, 3) := by decide +kernel
theorem dX12_readTold_57 : decode MX12_readTold.2.1 57 = .ok (.ifCond .eq 4, 3) := by decide +kernel
theorem dX12_readTold_60 : decode MX12_readTold.2.1 60 = .ok (.return_, 1) := by decide +kernel
theorem dX12_readTold_61 : decode MX12_readTold.2.1 61 = .ok (.bipush 10, 2) := by decide +kernel
theorem dX12_readTold_63 : decode MX12_readTold.2.1 63 = .ok (.aload_n 0, 1) := by decide +kernel
theorem dX12_readTold_64 : decode MX12_readTold.2.1 64 = .ok (.getfield 370, 3) := by decide +kernel
theorem dX12_readTold_67 : decode MX12_readTold.2.1 67 = .ok (.imul, 1) := by decide +kernel
theorem dX12_readTold_68 : decode MX12_readTold.2.1 68 = .ok (.istore_n 2, 1) := by decide +kernel
theorem dX12_readTold_69 : decode MX12_readTold.2.1 69 = .ok (.aload_n 0, 1) := by decide +kernel
theorem dX12_readTold_70 : decode MX12_readTold.2.1 70 = .ok (.dup, 1) := by decide +kernel
theorem dX12_readTold_71 : decode MX12_readTold.2.1 71 = .ok (.getfield 370, 3) := by decide +kernel
theorem dX12_readTold_74 : decode MX12_readTold.2.1 74 = .ok (.iconst 1, 1) := by decide +kernel
theorem dX12_readTold_75 : decode MX12_readTold.2.1 75 = .ok (.iadd, 1) := by decide +kernel
theorem dX12_readTold_76 : decode MX12_readTold.2.1 76 = .ok (.putfield 370, 3) := by decide +kernel
theorem dX12_readTold_79 : decode MX12_readTold.2.1 79 = .ok (.aload_n 0, 1) := by decide +kernel
theorem dX12_readTold_80 : decode MX12_readTold.2.1 80 = .ok (.getfield 150, 3) := by decide +kernel
theorem dX12_readTold_83 : decode MX12_readTold.2.1 83 = .ok (.iload_n 2, 1) := by decide +kernel
theorem dX12_readTold_84 : decode MX12_readTold.2.1 84 = .ok (.iload_n 1, 1) := by decide +kernel
theorem dX12_readTold_85 : decode MX12_readTold.2.1 85 = .ok (.iastore, 1) := by decide +kernel
theorem dX12_readTold_86 : decode MX12_readTold.2.1 86 = .ok (.iload_n 1, 1) := by decide +kernel
theorem dX12_readTold_87 : decode MX12_readTold.2.1 87 = .ok (.ifCond .ne 30, 3) := by decide +kernel
theorem dX12_readTold_90 : decode MX12_readTold.2.1 90 = .ok (.aload_n 0, 1) := by decide +kernel
theorem dX12_readTold_91 : decode MX12_readTold.2.1 91 = .ok (.iload_n 2, 1) := by decide +kernel
theorem dX12_readTold_92 : decode MX12_readTold.2.1 92 = .ok (.iconst 1, 1) := by decide +kernel
theorem dX12_readTold_93 : decode MX12_readTold.2.1 93 = .ok (.iadd, 1) := by decide +kernel
theorem dX12_readTold_94 : decode MX12_readTold.2.1 94 = .ok (.invokevirtual 497, 3) := by decide +kernel
theorem dX12_readTold_97 : decode MX12_readTold.2.1 97 = .ok (.aload_n 0, 1) := by decide +kernel
theorem dX12_readTold_98 : decode MX12_readTold.2.1 98 = .ok (.iload_n 2, 1) := by decide +kernel
theorem dX12_readTold_99 : decode MX12_readTold.2.1 99 = .ok (.iconst 3, 1) := by decide +kernel
theorem dX12_readTold_100 : decode MX12_readTold.2.1 100 = .ok (.iadd, 1) := by decide +kernel
theorem dX12_readTold_101 : decode MX12_readTold.2.1 101 = .ok (.ldc2_w 504, 3) := by decide +kernel
theorem dX12_readTold_104 : decode MX12_readTold.2.1 104 = .ok (.invokevirtual 506, 3) := by decide +kernel
theorem dX12_readTold_107 : decode MX12_readTold.2.1 107 = .ok (.aload_n 0, 1) := by decide +kernel
theorem dX12_readTold_108 : decode MX12_readTold.2.1 108 = .ok (.iload_n 2, 1) := by decide +kernel
theorem dX12_readTold_109 : decode MX12_readTold.2.1 109 = .ok (.iconst 5, 1) := by decide +kernel
theorem dX12_readTold_110 : decode MX12_readTold.2.1 110 = .ok (.iadd, 1) := by decide +kernel
theorem dX12_readTold_111 : decode MX12_readTold.2.1 111 = .ok (.ldc2_w 63, 3) := by decide +kernel
theorem dX12_readTold_114 : decode MX12_readTold.2.1 114 = .ok (.invokevirtual 506, 3) := by decide +kernel
theorem dX12_readTold_117 : decode MX12_readTold.2.1 117 = .ok (.aload_n 0, 1) := by decide +kernel
theorem dX12_readTold_118 : decode MX12_readTold.2.1 118 = .ok (.getfield 150, 3) := by decide +kernel
theorem dX12_readTold_121 : decode MX12_readTold.2.1 121 = .ok (.iload_n 2, 1) := by decide +kernel
theorem dX12_readTold_122 : decode MX12_readTold.2.1 122 = .ok (.bipush 9, 2) := by decide +kernel
theorem dX12_readTold_124 : decode MX12_readTold.2.1 124 = .ok (.iadd, 1) := by decide +kernel
theorem dX12_readTold_125 : decode MX12_readTold.2.1 125 = .ok (.iconst 1, 1) := by decide +kernel
theorem dX12_readTold_126 : decode MX12_readTold.2.1 126 = .ok (.iastore, 1) := by decide +kernel
theorem dX12_readTold_127 : decode MX12_readTold.2.1 127 = .ok (.aload_n 0, 1) := by decide +kernel
theorem dX12_readTold_128 : decode MX12_readTold.2.1 128 = .ok (.getfield 239, 3) := by decide +kernel
theorem dX12_readTold_131 : decode MX12_readTold.2.1 131 = .ok (.ifCond .ne 34, 3) := by decide +kernel
theorem dX12_readTold_134 : decode MX12_readTold.2.1 134 = .ok (.aload_n 0, 1) := by decide +kernel
theorem dX12_readTold_135 : decode MX12_readTold.2.1 135 = .ok (.ldc2_w 510, 3) := by decide +kernel
theorem dX12_readTold_138 : decode MX12_readTold.2.1 138 = .ok (.invokevirtual 299, 3) := by decide +kernel
theorem dX12_readTold_141 : decode MX12_readTold.2.1 141 = .ok (.ifCond .eq 24, 3) := by decide +kernel
theorem dX12_readTold_144 : decode MX12_readTold.2.1 144 = .ok (.aload_n 0, 1) := by decide +kernel
theorem dX12_readTold_145 : decode MX12_readTold.2.1 145 = .ok (.invokevirtual 243, 3) := by decide +kernel
theorem dX12_readTold_148 : decode MX12_readTold.2.1 148 = .ok (.aload_n 0, 1) := by decide +kernel
theorem dX12_readTold_149 : decode MX12_readTold.2.1 149 = .ok (.getfield 150, 3) := by decide +kernel
theorem dX12_readTold_152 : decode MX12_readTold.2.1 152 = .ok (.iload_n 2, 1) := by decide +kernel
theorem dX12_readTold_153 : decode MX12_readTold.2.1 153 = .ok (.bipush 9, 2) := by decide +kernel
theorem dX12_readTold_155 : decode MX12_readTold.2.1 155 = .ok (.iadd, 1) := by decide +kernel
theorem dX12_readTold_156 : decode MX12_readTold.2.1 156 = .ok (.aload_n 0, 1) := by decide +kernel
theorem dX12_readTold_157 : decode MX12_readTold.2.1 157 = .ok (.lconst 1, 1) := by decide +kernel
theorem dX12_readTold_158 : decode MX12_readTold.2.1 158 = .ok (.ldc2_w 291, 3) := by decide +kernel
theorem dX12_readTold_161 : decode MX12_readTold.2.1 161 = .ok (.invokevirtual 334, 3) := by decide +kernel
theorem dX12_readTold_164 : decode MX12_readTold.2.1 164 = .ok (.iastore, 1) := by decide +kernel
theorem dX12_readTold_165 : decode MX12_readTold.2.1 165 = .ok (.aload_n 0, 1) := by decide +kernel
theorem dX12_readTold_166 : decode MX12_readTold.2.1 166 = .ok (.getfield 150, 3) := by decide +kernel
theorem dX12_readTold_169 : decode MX12_readTold.2.1 169 = .ok (.iload_n 2, 1) := by decide +kernel
theorem dX12_readTold_170 : decode MX12_readTold.2.1 170 = .ok (.bipush 7, 2) := by decide +kernel
theorem dX12_readTold_172 : decode MX12_readTold.2.1 172 = .ok (.iadd, 1) := by decide +kernel
theorem dX12_readTold_173 : decode MX12_readTold.2.1 173 = .ok (.aload_n 0, 1) := by decide +kernel
theorem dX12_readTold_174 : decode MX12_readTold.2.1 174 = .ok (.getfield 278, 3) := by decide +kernel
theorem dX12_readTold_177 : decode MX12_readTold.2.1 177 = .ok (.iastore, 1) := by decide +kernel
theorem dX12_readTold_178 : decode MX12_readTold.2.1 178 = .ok (.aload_n 0, 1) := by decide +kernel
theorem dX12_readTold_179 : decode MX12_readTold.2.1 179 = .ok (.getfield 239, 3) := by decide +kernel
theorem dX12_readTold_182 : decode MX12_readTold.2.1 182 = .ok (.ifCond .ne 22, 3) := by decide +kernel
theorem dX12_readTold_185 : decode MX12_readTold.2.1 185 = .ok (.aload_n 0, 1) := by decide +kernel
theorem dX12_readTold_186 : decode MX12_readTold.2.1 186 = .ok (.ldc2_w 376, 3) := by decide +kernel
theorem dX12_readTold_189 : decode MX12_readTold.2.1 189 = .ok (.invokevirtual 299, 3) := by decide +kernel
theorem dX12_readTold_192 : decode MX12_readTold.2.1 192 = .ok (.ifCond .eq 12, 3) := by decide +kernel
theorem dX12_readTold_195 : decode MX12_readTold.2.1 195 = .ok (.aload_n 0, 1) := by decide +kernel
theorem dX12_readTold_196 : decode MX12_readTold.2.1 196 = .ok (.invokevirtual 243, 3) := by decide +kernel
theorem dX12_readTold_199 : decode MX12_readTold.2.1 199 = .ok (.aload_n 0, 1) := by decide +kernel
theorem dX12_readTold_200 : decode MX12_readTold.2.1 200 = .ok (.iconst 1, 1) := by decide +kernel
theorem dX12_readTold_201 : decode MX12_readTold.2.1 201 = .ok (.invokevirtual 373, 3) := by decide +kernel
theorem dX12_readTold_204 : decode MX12_readTold.2.1 204 = .ok (.aload_n 0, 1) := by decide +kernel
theorem dX12_readTold_205 : decode MX12_readTold.2.1 205 = .ok (.getfield 150, 3) := by decide +kernel
theorem dX12_readTold_208 : decode MX12_readTold.2.1 208 = .ok (.iload_n 2, 1) := by decide +kernel
theorem dX12_readTold_209 : decode MX12_readTold.2.1 209 = .ok (.bipush 8, 2) := by decide +kernel
theorem dX12_readTold_211 : decode MX12_readTold.2.1 211 = .ok (.iadd, 1) := by decide +kernel
theorem dX12_readTold_212 : decode MX12_readTold.2.1 212 = .ok (.aload_n 0, 1) := by decide +kernel
theorem dX12_readTold_213 : decode MX12_readTold.2.1 213 = .ok (.getfield 278, 3) := by decide +kernel
theorem dX12_readTold_216 : decode MX12_readTold.2.1 216 = .ok (.iastore, 1) := by decide +kernel
theorem dX12_readTold_217 : decode MX12_readTold.2.1 217 = .ok (.return_, 1) := by decide +kernel
theorem dX12_sumOf_0 : decode MX12_sumOf.2.1 0 = .ok (.aload_n 0, 1) := by decide +kernel
theorem dX12_sumOf_1 : decode MX12_sumOf.2.1 1 = .ok (.getfield 512, 3) := by decide +kernel
theorem dX12_sumOf_4 : decode MX12_sumOf.2.1 4 = .ok (.ifCond .eq 5, 3) := by decide +kernel
theorem dX12_sumOf_7 : decode MX12_sumOf.2.1 7 = .ok (.lconst 0, 1) := by decide +kernel
theorem dX12_sumOf_8 : decode MX12_sumOf.2.1 8 = .ok (.lreturn, 1) := by decide +kernel
theorem dX12_sumOf_9 : decode MX12_sumOf.2.1 9 = .ok (.aload_n 0, 1) := by decide +kernel
theorem dX12_sumOf_10 : decode MX12_sumOf.2.1 10 = .ok (.iconst 1, 1) := by decide +kernel
theorem dX12_sumOf_11 : decode MX12_sumOf.2.1 11 = .ok (.putfield 318, 3) := by decide +kernel
theorem dX12_sumOf_14 : decode MX12_sumOf.2.1 14 = .ok (.aload_n 0, 1) := by decide +kernel
theorem dX12_sumOf_15 : decode MX12_sumOf.2.1 15 = .ok (.aload_n 0, 1) := by decide +kernel
theorem dX12_sumOf_16 : decode MX12_sumOf.2.1 16 = .ok (.getfield 150, 3) := by decide +kernel
theorem dX12_sumOf_19 : decode MX12_sumOf.2.1 19 = .ok (.iload_n 1, 1) := by decide +kernel
theorem dX12_sumOf_20 : decode MX12_sumOf.2.1 20 = .ok (.iaload, 1) := by decide +kernel
theorem dX12_sumOf_21 : decode MX12_sumOf.2.1 21 = .ok (.aload_n 0, 1) := by decide +kernel
theorem dX12_sumOf_22 : decode MX12_sumOf.2.1 22 = .ok (.getfield 150, 3) := by decide +kernel
theorem dX12_sumOf_25 : decode MX12_sumOf.2.1 25 = .ok (.iload_n 1, 1) := by decide +kernel
theorem dX12_sumOf_26 : decode MX12_sumOf.2.1 26 = .ok (.iconst 1, 1) := by decide +kernel
theorem dX12_sumOf_27 : decode MX12_sumOf.2.1 27 = .ok (.iadd, 1) := by decide +kernel
theorem dX12_sumOf_28 : decode MX12_sumOf.2.1 28 = .ok (.iaload, 1) := by decide +kernel
theorem dX12_sumOf_29 : decode MX12_sumOf.2.1 29 = .ok (.invokevirtual 404, 3) := by decide +kernel
theorem dX12_sumOf_32 : decode MX12_sumOf.2.1 32 = .ok (.aload_n 0, 1) := by decide +kernel
theorem dX12_sumOf_33 : decode MX12_sumOf.2.1 33 = .ok (.iconst 0, 1) := by decide +kernel
theorem dX12_sumOf_34 : decode MX12_sumOf.2.1 34 = .ok (.putfield 318, 3) := by decide +kernel
theorem dX12_sumOf_37 : decode MX12_sumOf.2.1 37 = .ok (.aload_n 0, 1) := by decide +kernel
theorem dX12_sumOf_38 : decode MX12_sumOf.2.1 38 = .ok (.aload_n 0, 1) := by decide +kernel
theorem dX12_sumOf_39 : decode MX12_sumOf.2.1 39 = .ok (.getfield 387, 3) := by decide +kernel
theorem dX12_sumOf_42 : decode MX12_sumOf.2.1 42 = .ok (.putfield 512, 3) := by decide +kernel
theorem dX12_sumOf_45 : decode MX12_sumOf.2.1 45 = .ok (.aload_n 0, 1) := by decide +kernel
theorem dX12_sumOf_46 : decode MX12_sumOf.2.1 46 = .ok (.getfield 401, 3) := by decide +kernel
theorem dX12_sumOf_49 : decode MX12_sumOf.2.1 49 = .ok (.lreturn, 1) := by decide +kernel
theorem dX12_run_0 : decode MX12_run.2.1 0 = .ok (.aload_n 0, 1) := by decide +kernel
theorem dX12_run_1 : decode MX12_run.2.1 1 = .ok (.getfield 108, 3) := by decide +kernel
theorem dX12_run_4 : decode MX12_run.2.1 4 = .ok (.iconst 1, 1) := by decide +kernel
theorem dX12_run_5 : decode MX12_run.2.1 5 = .ok (.aload_n 0, 1) := by decide +kernel
theorem dX12_run_6 : decode MX12_run.2.1 6 = .ok (.invokevirtual 413, 3) := by decide +kernel
theorem dX12_run_9 : decode MX12_run.2.1 9 = .ok (.i2l, 1) := by decide +kernel
theorem dX12_run_10 : decode MX12_run.2.1 10 = .ok (.lastore, 1) := by decide +kernel
theorem dX12_run_11 : decode MX12_run.2.1 11 = .ok (.aload_n 0, 1) := by decide +kernel
theorem dX12_run_12 : decode MX12_run.2.1 12 = .ok (.getfield 108, 3) := by decide +kernel
theorem dX12_run_15 : decode MX12_run.2.1 15 = .ok (.iconst 2, 1) := by decide +kernel
theorem dX12_run_16 : decode MX12_run.2.1 16 = .ok (.aload_n 0, 1) := by decide +kernel
theorem dX12_run_17 : decode MX12_run.2.1 17 = .ok (.getfield 13, 3) := by decide +kernel
theorem dX12_run_20 : decode MX12_run.2.1 20 = .ok (.iconst 0, 1) := by decide +kernel
theorem dX12_run_21 : decode MX12_run.2.1 21 = .ok (.iaload, 1) := by decide +kernel
theorem dX12_run_22 : decode MX12_run.2.1 22 = .ok (.i2l, 1) := by decide +kernel
theorem dX12_run_23 : decode MX12_run.2.1 23 = .ok (.lastore, 1) := by decide +kernel
theorem dX12_run_24 : decode MX12_run.2.1 24 = .ok (.aload_n 0, 1) := by decide +kernel
theorem dX12_run_25 : decode MX12_run.2.1 25 = .ok (.getfield 108, 3) := by decide +kernel
theorem dX12_run_28 : decode MX12_run.2.1 28 = .ok (.iconst 3, 1) := by decide +kernel
theorem dX12_run_29 : decode MX12_run.2.1 29 = .ok (.aload_n 0, 1) := by decide +kernel
theorem dX12_run_30 : decode MX12_run.2.1 30 = .ok (.getfield 515, 3) := by decide +kernel
theorem dX12_run_33 : decode MX12_run.2.1 33 = .ok (.i2l, 1) := by decide +kernel
theorem dX12_run_34 : decode MX12_run.2.1 34 = .ok (.lastore, 1) := by decide +kernel
theorem dX12_run_35 : decode MX12_run.2.1 35 = .ok (.aload_n 0, 1) := by decide +kernel
theorem dX12_run_36 : decode MX12_run.2.1 36 = .ok (.getfield 108, 3) := by decide +kernel
theorem dX12_run_39 : decode MX12_run.2.1 39 = .ok (.iconst 4, 1) := by decide +kernel
theorem dX12_run_40 : decode MX12_run.2.1 40 = .ok (.aload_n 0, 1) := by decide +kernel
theorem dX12_run_41 : decode MX12_run.2.1 41 = .ok (.getfield 518, 3) := by decide +kernel
theorem dX12_run_44 : decode MX12_run.2.1 44 = .ok (.i2l, 1) := by decide +kernel
theorem dX12_run_45 : decode MX12_run.2.1 45 = .ok (.lastore, 1) := by decide +kernel
theorem dX12_run_46 : decode MX12_run.2.1 46 = .ok (.aload_n 0, 1) := by decide +kernel
theorem dX12_run_47 : decode MX12_run.2.1 47 = .ok (.getfield 108, 3) := by decide +kernel
theorem dX12_run_50 : decode MX12_run.2.1 50 = .ok (.iconst 5, 1) := by decide +kernel
theorem dX12_run_51 : decode MX12_run.2.1 51 = .ok (.aload_n 0, 1) := by decide +kernel
theorem dX12_run_52 : decode MX12_run.2.1 52 = .ok (.getfield 13, 3) := by decide +kernel
theorem dX12_run_55 : decode MX12_run.2.1 55 = .ok (.bipush 8, 2) := by decide +kernel
theorem dX12_run_57 : decode MX12_run.2.1 57 = .ok (.iaload, 1) := by decide +kernel
theorem dX12_run_58 : decode MX12_run.2.1 58 = .ok (.aload_n 0, 1) := by decide +kernel
theorem dX12_run_59 : decode MX12_run.2.1 59 = .ok (.getfield 521, 3) := by decide +kernel
theorem dX12_run_62 : decode MX12_run.2.1 62 = .ok (.isub, 1) := by decide +kernel
theorem dX12_run_63 : decode MX12_run.2.1 63 = .ok (.i2l, 1) := by decide +kernel
theorem dX12_run_64 : decode MX12_run.2.1 64 = .ok (.lastore, 1) := by decide +kernel
theorem dX12_run_65 : decode MX12_run.2.1 65 = .ok (.aload_n 0, 1) := by decide +kernel
theorem dX12_run_66 : decode MX12_run.2.1 66 = .ok (.iconst 0, 1) := by decide +kernel
theorem dX12_run_67 : decode MX12_run.2.1 67 = .ok (.putfield 512, 3) := by decide +kernel
theorem dX12_run_70 : decode MX12_run.2.1 70 = .ok (.aload_n 0, 1) := by decide +kernel
theorem dX12_run_71 : decode MX12_run.2.1 71 = .ok (.getfield 150, 3) := by decide +kernel
theorem dX12_run_74 : decode MX12_run.2.1 74 = .ok (.iload_n 1, 1) := by decide +kernel
theorem dX12_run_75 : decode MX12_run.2.1 75 = .ok (.bipush 7, 2) := by decide +kernel
theorem dX12_run_77 : decode MX12_run.2.1 77 = .ok (.iadd, 1) := by decide +kernel
theorem dX12_run_78 : decode MX12_run.2.1 78 = .ok (.iaload, 1) := by decide +kernel
theorem dX12_run_79 : decode MX12_run.2.1 79 = .ok (.aload_n 0, 1) := by decide +kernel
theorem dX12_run_80 : decode MX12_run.2.1 80 = .ok (.getfield 150, 3) := by decide +kernel
theorem dX12_run_83 : decode MX12_run.2.1 83 = .ok (.iload_n 1, 1) := by decide +kernel
theorem dX12_run_84 : decode MX12_run.2.1 84 = .ok (.bipush 8, 2) := by decide +kernel
theorem dX12_run_86 : decode MX12_run.2.1 86 = .ok (.iadd, 1) := by decide +kernel
theorem dX12_run_87 : decode MX12_run.2.1 87 = .ok (.iaload, 1) := by decide +kernel
theorem dX12_run_88 : decode MX12_run.2.1 88 = .ok (.if_icmp .ge 27, 3) := by decide +kernel
theorem dX12_run_91 : decode MX12_run.2.1 91 = .ok (.aload_n 0, 1) := by decide +kernel
theorem dX12_run_92 : decode MX12_run.2.1 92 = .ok (.iload_n 1, 1) := by decide +kernel
theorem dX12_run_93 : decode MX12_run.2.1 93 = .ok (.bipush 7, 2) := by decide +kernel
theorem dX12_run_95 : decode MX12_run.2.1 95 = .ok (.iadd, 1) := by decide +kernel
theorem dX12_run_96 : decode MX12_run.2.1 96 = .ok (.invokevirtual 524, 3) := by decide +kernel
theorem dX12_run_99 : decode MX12_run.2.1 99 = .ok (.lstore_n 2, 1) := by decide +kernel
theorem dX12_run_100 : decode MX12_run.2.1 100 = .ok (.aload_n 0, 1) := by decide +kernel
theorem dX12_run_101 : decode MX12_run.2.1 101 = .ok (.getfield 512, 3) := by decide +kernel
theorem dX12_run_104 : decode MX12_run.2.1 104 = .ok (.ifCond .ne 9, 3) := by decide +kernel
theorem dX12_run_107 : decode MX12_run.2.1 107 = .ok (.lload_n 2, 1) := by decide +kernel
theorem dX12_run_108 : decode MX12_run.2.1 108 = .ok (.lconst 0, 1) := by decide +kernel
theorem dX12_run_109 : decode MX12_run.2.1 109 = .ok (.lcmp, 1) := by decide +kernel
theorem dX12_run_110 : decode MX12_run.2.1 110 = .ok (.ifCond .ne 5, 3) := by decide +kernel
theorem dX12_run_113 : decode MX12_run.2.1 113 = .ok (.iconst 0, 1) := by decide +kernel
theorem dX12_run_114 : decode MX12_run.2.1 114 = .ok (.ireturn, 1) := by decide +kernel
theorem dX12_run_115 : decode MX12_run.2.1 115 = .ok (.iconst 0, 1) := by decide +kernel
theorem dX12_run_116 : decode MX12_run.2.1 116 = .ok (.istore_n 2, 1) := by decide +kernel
theorem dX12_run_117 : decode MX12_run.2.1 117 = .ok (.aload_n 0, 1) := by decide +kernel
theorem dX12_run_118 : decode MX12_run.2.1 118 = .ok (.getfield 150, 3) := by decide +kernel
theorem dX12_run_121 : decode MX12_run.2.1 121 = .ok (.iload_n 1, 1) := by decide +kernel
theorem dX12_run_122 : decode MX12_run.2.1 122 = .ok (.iaload, 1) := by decide +kernel
theorem dX12_run_123 : decode MX12_run.2.1 123 = .ok (.iconst 1, 1) := by decide +kernel
theorem dX12_run_124 : decode MX12_run.2.1 124 = .ok (.if_icmp .ne 11, 3) := by decide +kernel
theorem dX12_run_127 : decode MX12_run.2.1 127 = .ok (.aload_n 0, 1) := by decide +kernel
theorem dX12_run_128 : decode MX12_run.2.1 128 = .ok (.invokevirtual 463, 3) := by decide +kernel
theorem dX12_run_131 : decode MX12_run.2.1 131 = .ok (.istore_n 2, 1) := by decide +kernel
theorem dX12_run_132 : decode MX12_run.2.1 132 = .ok (.goto 55, 3) := by decide +kernel
theorem dX12_run_135 : decode MX12_run.2.1 135 = .ok (.aload_n 0, 1) := by decide +kernel
theorem dX12_run_136 : decode MX12_run.2.1 136 = .ok (.iload_n 1, 1) := by decide +kernel
theorem dX12_run_137 : decode MX12_run.2.1 137 = .ok (.iconst 1, 1) := by decide +kernel
theorem dX12_run_138 : decode MX12_run.2.1 138 = .ok (.iadd, 1) := by decide +kernel
theorem dX12_run_139 : decode MX12_run.2.1 139 = .ok (.invokevirtual 524, 3) := by decide +kernel
theorem dX12_run_142 : decode MX12_run.2.1 142 = .ok (.l2i, 1) := by decide +kernel
theorem dX12_run_143 : decode MX12_run.2.1 143 = .ok (.istore_n 3, 1) := by decide +kernel
theorem dX12_run_144 : decode MX12_run.2.1 144 = .ok (.aload_n 0, 1) := by decide +kernel
theorem dX12_run_145 : decode MX12_run.2.1 145 = .ok (.iload_n 1, 1) := by decide +kernel
theorem dX12_run_146 : decode MX12_run.2.1 146 = .ok (.iconst 3, 1) := by decide +kernel
theorem dX12_run_147 : decode MX12_run.2.1 147 = .ok (.iadd, 1) := by decide +kernel
theorem dX12_run_148 : decode MX12_run.2.1 148 = .ok (.invokevirtual 524, 3) := by decide +kernel
theorem dX12_run_151 : decode MX12_run.2.1 151 = .ok (.l2i, 1) := by decide +kernel
theorem dX12_run_152 : decode MX12_run.2.1 152 = .ok (.istore 4, 2) := by decide +kernel
theorem dX12_run_154 : decode MX12_run.2.1 154 = .ok (.aload_n 0, 1) := by decide +kernel
theorem dX12_run_155 : decode MX12_run.2.1 155 = .ok (.iload_n 1, 1) := by decide +kernel
theorem dX12_run_156 : decode MX12_run.2.1 156 = .ok (.iconst 5, 1) := by decide +kernel
theorem dX12_run_157 : decode MX12_run.2.1 157 = .ok (.iadd, 1) := by decide +kernel
theorem dX12_run_158 : decode MX12_run.2.1 158 = .ok (.invokevirtual 524, 3) := by decide +kernel
theorem dX12_run_161 : decode MX12_run.2.1 161 = .ok (.l2i, 1) := by decide +kernel
theorem dX12_run_162 : decode MX12_run.2.1 162 = .ok (.istore 5, 2) := by decide +kernel
theorem dX12_run_164 : decode MX12_run.2.1 164 = .ok (.aload_n 0, 1) := by decide +kernel
theorem dX12_run_165 : decode MX12_run.2.1 165 = .ok (.getfield 512, 3) := by decide +kernel
theorem dX12_run_168 : decode MX12_run.2.1 168 = .ok (.ifCond .eq 8, 3) := by decide +kernel
theorem dX12_run_171 : decode MX12_run.2.1 171 = .ok (.bipush (-3), 2) := by decide +kernel
theorem dX12_run_173 : decode MX12_run.2.1 173 = .ok (.goto 13, 3) := by decide +kernel
theorem dX12_run_176 : decode MX12_run.2.1 176 = .ok (.aload_n 0, 1) := by decide +kernel
theorem dX12_run_177 : decode MX12_run.2.1 177 = .ok (.iconst 0, 1) := by decide +kernel
theorem dX12_run_178 : decode MX12_run.2.1 178 = .ok (.iload_n 3, 1) := by decide +kernel
theorem dX12_run_179 : decode MX12_run.2.1 179 = .ok (.iload 4, 2) := by decide +kernel
theorem dX12_run_181 : decode MX12_run.2.1 181 = .ok (.iload 5, 2) := by decide +kernel
theorem dX12_run_183 : decode MX12_run.2.1 183 = .ok (.invokevirtual 460, 3) := by decide +kernel
theorem dX12_run_186 : decode MX12_run.2.1 186 = .ok (.istore_n 2, 1) := by decide +kernel
theorem dX12_run_187 : decode MX12_run.2.1 187 = .ok (.iload_n 2, 1) := by decide +kernel
theorem dX12_run_188 : decode MX12_run.2.1 188 = .ok (.ifCond .ge 6, 3) := by decide +kernel
theorem dX12_run_191 : decode MX12_run.2.1 191 = .ok (.bipush (-3), 2) := by decide +kernel
theorem dX12_run_193 : decode MX12_run.2.1 193 = .ok (.ireturn, 1) := by decide +kernel
theorem dX12_run_194 : decode MX12_run.2.1 194 = .ok (.aload_n 0, 1) := by decide +kernel
theorem dX12_run_195 : decode MX12_run.2.1 195 = .ok (.dup, 1) := by decide +kernel
theorem dX12_run_196 : decode MX12_run.2.1 196 = .ok (.getfield 518, 3) := by decide +kernel
theorem dX12_run_199 : decode MX12_run.2.1 199 = .ok (.iload_n 2, 1) := by decide +kernel
theorem dX12_run_200 : decode MX12_run.2.1 200 = .ok (.iadd, 1) := by decide +kernel
theorem dX12_run_201 : decode MX12_run.2.1 201 = .ok (.putfield 518, 3) := by decide +kernel
theorem dX12_run_204 : decode MX12_run.2.1 204 = .ok (.aload_n 0, 1) := by decide +kernel
theorem dX12_run_205 : decode MX12_run.2.1 205 = .ok (.dup, 1) := by decide +kernel
theorem dX12_run_206 : decode MX12_run.2.1 206 = .ok (.getfield 515, 3) := by decide +kernel
theorem dX12_run_209 : decode MX12_run.2.1 209 = .ok (.iconst 1, 1) := by decide +kernel
theorem dX12_run_210 : decode MX12_run.2.1 210 = .ok (.iadd, 1) := by decide +kernel
theorem dX12_run_211 : decode MX12_run.2.1 211 = .ok (.putfield 515, 3) := by decide +kernel
theorem dX12_run_214 : decode MX12_run.2.1 214 = .ok (.iconst 0, 1) := by decide +kernel
theorem dX12_run_215 : decode MX12_run.2.1 215 = .ok (.ireturn, 1) := by decide +kernel
theorem dX12_told_0 : decode MX12_told.2.1 0 = .ok (.aload_n 0, 1) := by decide +kernel
theorem dX12_told_1 : decode MX12_told.2.1 1 = .ok (.iconst 0, 1) := by decide +kernel
theorem dX12_told_2 : decode MX12_told.2.1 2 = .ok (.putfield 163, 3) := by decide +kernel
theorem dX12_told_5 : decode MX12_told.2.1 5 = .ok (.aload_n 0, 1) := by decide +kernel
theorem dX12_told_6 : decode MX12_told.2.1 6 = .ok (.iconst (-1), 1) := by decide +kernel
theorem dX12_told_7 : decode MX12_told.2.1 7 = .ok (.putfield 153, 3) := by decide +kernel
theorem dX12_told_10 : decode MX12_told.2.1 10 = .ok (.aload_n 0, 1) := by decide +kernel
theorem dX12_told_11 : decode MX12_told.2.1 11 = .ok (.iconst 1, 1) := by decide +kernel
theorem dX12_told_12 : decode MX12_told.2.1 12 = .ok (.invokevirtual 378, 3) := by decide +kernel
theorem dX12_told_15 : decode MX12_told.2.1 15 = .ok (.aload_n 0, 1) := by decide +kernel
theorem dX12_told_16 : decode MX12_told.2.1 16 = .ok (.invokevirtual 528, 3) := by decide +kernel
theorem dX12_told_19 : decode MX12_told.2.1 19 = .ok (.aload_n 0, 1) := by decide +kernel
theorem dX12_told_20 : decode MX12_told.2.1 20 = .ok (.getfield 239, 3) := by decide +kernel
theorem dX12_told_23 : decode MX12_told.2.1 23 = .ok (.ifCond .ne 23, 3) := by decide +kernel
theorem dX12_told_26 : decode MX12_told.2.1 26 = .ok (.aload_n 0, 1) := by decide +kernel
theorem dX12_told_27 : decode MX12_told.2.1 27 = .ok (.bipush 59, 2) := by decide +kernel
theorem dX12_told_29 : decode MX12_told.2.1 29 = .ok (.invokevirtual 312, 3) := by decide +kernel
theorem dX12_told_32 : decode MX12_told.2.1 32 = .ok (.ifCond .eq 14, 3) := by decide +kernel
theorem dX12_told_35 : decode MX12_told.2.1 35 = .ok (.aload_n 0, 1) := by decide +kernel
theorem dX12_told_36 : decode MX12_told.2.1 36 = .ok (.invokevirtual 243, 3) := by decide +kernel
theorem dX12_told_39 : decode MX12_told.2.1 39 = .ok (.aload_n 0, 1) := by decide +kernel
theorem dX12_told_40 : decode MX12_told.2.1 40 = .ok (.invokevirtual 528, 3) := by decide +kernel
theorem dX12_told_43 : decode MX12_told.2.1 43 = .ok (.goto (-24), 3) := by decide +kernel
theorem dX12_told_46 : decode MX12_told.2.1 46 = .ok (.aload_n 0, 1) := by decide +kernel
theorem dX12_told_47 : decode MX12_told.2.1 47 = .ok (.invokevirtual 384, 3) := by decide +kernel
theorem dX12_told_50 : decode MX12_told.2.1 50 = .ok (.aload_n 0, 1) := by decide +kernel
theorem dX12_told_51 : decode MX12_told.2.1 51 = .ok (.getfield 239, 3) := by decide +kernel
theorem dX12_told_54 : decode MX12_told.2.1 54 = .ok (.ifCond .eq 10, 3) := by decide +kernel
theorem dX12_told_57 : decode MX12_told.2.1 57 = .ok (.aload_n 0, 1) := by decide +kernel
theorem dX12_told_58 : decode MX12_told.2.1 58 = .ok (.bipush (-6), 2) := by decide +kernel
theorem dX12_told_60 : decode MX12_told.2.1 60 = .ok (.invokevirtual 176, 3) := by decide +kernel
theorem dX12_told_63 : decode MX12_told.2.1 63 = .ok (.ireturn, 1) := by decide +kernel
theorem dX12_told_64 : decode MX12_told.2.1 64 = .ok (.aload_n 0, 1) := by decide +kernel
theorem dX12_told_65 : decode MX12_told.2.1 65 = .ok (.bipush 20, 2) := by decide +kernel
theorem dX12_told_67 : decode MX12_told.2.1 67 = .ok (.invokevirtual 172, 3) := by decide +kernel
theorem dX12_told_70 : decode MX12_told.2.1 70 = .ok (.aload_n 0, 1) := by decide +kernel
theorem dX12_told_71 : decode MX12_told.2.1 71 = .ok (.getfield 169, 3) := by decide +kernel
theorem dX12_told_74 : decode MX12_told.2.1 74 = .ok (.istore_n 1, 1) := by decide +kernel
theorem dX12_told_75 : decode MX12_told.2.1 75 = .ok (.iconst 0, 1) := by decide +kernel
theorem dX12_told_76 : decode MX12_told.2.1 76 = .ok (.istore_n 2, 1) := by decide +kernel
theorem dX12_told_77 : decode MX12_told.2.1 77 = .ok (.iload_n 2, 1) := by decide +kernel
theorem dX12_told_78 : decode MX12_told.2.1 78 = .ok (.sipush 2176, 3) := by decide +kernel
theorem dX12_told_81 : decode MX12_told.2.1 81 = .ok (.if_icmp .ge 21, 3) := by decide +kernel
theorem dX12_told_84 : decode MX12_told.2.1 84 = .ok (.aload_n 0, 1) := by decide +kernel
theorem dX12_told_85 : decode MX12_told.2.1 85 = .ok (.getfield 29, 3) := by decide +kernel
theorem dX12_told_88 : decode MX12_told.2.1 88 = .ok (.iload_n 2, 1) := by decide +kernel
theorem dX12_told_89 : decode MX12_told.2.1 89 = .ok (.aload_n 0, 1) := by decide +kernel
theorem dX12_told_90 : decode MX12_told.2.1 90 = .ok (.getfield 23, 3) := by decide +kernel
theorem dX12_told_93 : decode MX12_told.2.1 93 = .ok (.iload_n 2, 1) := by decide +kernel
theorem dX12_told_94 : decode MX12_told.2.1 94 = .ok (.iaload, 1) := by decide +kernel
theorem dX12_told_95 : decode MX12_told.2.1 95 = .ok (.iastore, 1) := by decide +kernel
theorem dX12_told_96 : decode MX12_told.2.1 96 = .ok (.iinc 2 1, 3) := by decide +kernel
theorem dX12_told_99 : decode MX12_told.2.1 99 = .ok (.goto (-22), 3) := by decide +kernel
theorem dX12_told_102 : decode MX12_told.2.1 102 = .ok (.iconst 0, 1) := by decide +kernel
theorem dX12_told_103 : decode MX12_told.2.1 103 = .ok (.istore_n 2, 1) := by decide +kernel
theorem dX12_told_104 : decode MX12_told.2.1 104 = .ok (.iload_n 2, 1) := by decide +kernel
theorem dX12_told_105 : decode MX12_told.2.1 105 = .ok (.bipush 16, 2) := by decide +kernel
theorem dX12_told_107 : decode MX12_told.2.1 107 = .ok (.if_icmp .ge 21, 3) := by decide +kernel
theorem dX12_told_110 : decode MX12_told.2.1 110 = .ok (.aload_n 0, 1) := by decide +kernel
theorem dX12_told_111 : decode MX12_told.2.1 111 = .ok (.getfield 32, 3) := by decide +kernel
theorem dX12_told_114 : decode MX12_told.2.1 114 = .ok (.iload_n 2, 1) := by decide +kernel
theorem dX12_told_115 : decode MX12_told.2.1 115 = .ok (.aload_n 0, 1) := by decide +kernel
theorem dX12_told_116 : decode MX12_told.2.1 116 = .ok (.getfield 26, 3) := by decide +kernel
theorem dX12_told_119 : decode MX12_told.2.1 119 = .ok (.iload_n 2, 1) := by decide +kernel
theorem dX12_told_120 : decode MX12_told.2.1 120 = .ok (.iaload, 1) := by decide +kernel
theorem dX12_told_121 : decode MX12_told.2.1 121 = .ok (.iastore, 1) := by decide +kernel
theorem dX12_told_122 : decode MX12_told.2.1 122 = .ok (.iinc 2 1, 3) := by decide +kernel
theorem dX12_told_125 : decode MX12_told.2.1 125 = .ok (.goto (-21), 3) := by decide +kernel
theorem dX12_told_128 : decode MX12_told.2.1 128 = .ok (.aload_n 0, 1) := by decide +kernel
theorem dX12_told_129 : decode MX12_told.2.1 129 = .ok (.iconst 0, 1) := by decide +kernel
theorem dX12_told_130 : decode MX12_told.2.1 130 = .ok (.putfield 515, 3) := by decide +kernel
theorem dX12_told_133 : decode MX12_told.2.1 133 = .ok (.aload_n 0, 1) := by decide +kernel
theorem dX12_told_134 : decode MX12_told.2.1 134 = .ok (.iconst 0, 1) := by decide +kernel
theorem dX12_told_135 : decode MX12_told.2.1 135 = .ok (.putfield 518, 3) := by decide +kernel
theorem dX12_told_138 : decode MX12_told.2.1 138 = .ok (.aload_n 0, 1) := by decide +kernel
theorem dX12_told_139 : decode MX12_told.2.1 139 = .ok (.aload_n 0, 1) := by decide +kernel
theorem dX12_told_140 : decode MX12_told.2.1 140 = .ok (.getfield 13, 3) := by decide +kernel
theorem dX12_told_143 : decode MX12_told.2.1 143 = .ok (.bipush 8, 2) := by decide +kernel
theorem dX12_told_145 : decode MX12_told.2.1 145 = .ok (.iaload, 1) := by decide +kernel
theorem dX12_told_146 : decode MX12_told.2.1 146 = .ok (.putfield 521, 3) := by decide +kernel
theorem dX12_told_149 : decode MX12_told.2.1 149 = .ok (.iconst 0, 1) := by decide +kernel
theorem dX12_told_150 : decode MX12_told.2.1 150 = .ok (.istore_n 2, 1) := by decide +kernel
theorem dX12_told_151 : decode MX12_told.2.1 151 = .ok (.iload_n 2, 1) := by decide +kernel
theorem dX12_told_152 : decode MX12_told.2.1 152 = .ok (.aload_n 0, 1) := by decide +kernel
theorem dX12_told_153 : decode MX12_told.2.1 153 = .ok (.getfield 370, 3) := by decide +kernel
theorem dX12_told_156 : decode MX12_told.2.1 156 = .ok (.if_icmp .ge 128, 3) := by decide +kernel
theorem dX12_told_159 : decode MX12_told.2.1 159 = .ok (.iconst 0, 1) := by decide +kernel
theorem dX12_told_160 : decode MX12_told.2.1 160 = .ok (.istore_n 3, 1) := by decide +kernel
theorem dX12_told_161 : decode MX12_told.2.1 161 = .ok (.iload_n 3, 1) := by decide +kernel
theorem dX12_told_162 : decode MX12_told.2.1 162 = .ok (.aload_n 0, 1) := by decide +kernel
theorem dX12_told_163 : decode MX12_told.2.1 163 = .ok (.getfield 150, 3) := by decide +kernel
theorem dX12_told_166 : decode MX12_told.2.1 166 = .ok (.bipush 10, 2) := by decide +kernel
theorem dX12_told_168 : decode MX12_told.2.1 168 = .ok (.iload_n 2, 1) := by decide +kernel
theorem dX12_told_169 : decode MX12_told.2.1 169 = .ok (.imul, 1) := by decide +kernel
theorem dX12_told_170 : decode MX12_told.2.1 170 = .ok (.bipush 9, 2) := by decide +kernel
theorem dX12_told_172 : decode MX12_told.2.1 172 = .ok (.iadd, 1) := by decide +kernel
theorem dX12_told_173 : decode MX12_told.2.1 173 = .ok (.iaload, 1) := by decide +kernel
theorem dX12_told_174 : decode MX12_told.2.1 174 = .ok (.if_icmp .ge 104, 3) := by decide +kernel
theorem dX12_told_177 : decode MX12_told.2.1 177 = .ok (.aload_n 0, 1) := by decide +kernel
theorem dX12_told_178 : decode MX12_told.2.1 178 = .ok (.bipush 10, 2) := by decide +kernel
theorem dX12_told_180 : decode MX12_told.2.1 180 = .ok (.iload_n 2, 1) := by decide +kernel
theorem dX12_told_181 : decode MX12_told.2.1 181 = .ok (.imul, 1) := by decide +kernel
theorem dX12_told_182 : decode MX12_told.2.1 182 = .ok (.invokevirtual 531, 3) := by decide +kernel
theorem dX12_told_185 : decode MX12_told.2.1 185 = .ok (.ifCond .ge 87, 3) := by decide +kernel
theorem dX12_told_188 : decode MX12_told.2.1 188 = .ok (.aload_n 0, 1) := by decide +kernel
theorem dX12_told_189 : decode MX12_told.2.1 189 = .ok (.bipush 20, 2) := by decide +kernel
theorem dX12_told_191 : decode MX12_told.2.1 191 = .ok (.invokevirtual 180, 3) := by decide +kernel
theorem dX12_told_194 : decode MX12_told.2.1 194 = .ok (.iconst 0, 1) := by decide +kernel
theorem dX12_told_195 : decode MX12_told.2.1 195 = .ok (.istore 4, 2) := by decide +kernel
theorem dX12_told_197 : decode MX12_told.2.1 197 = .ok (.iload 4, 2) := by decide +kernel
theorem dX12_told_199 : decode MX12_told.2.1 199 = .ok (.sipush 2176, 3) := by decide +kernel
theorem dX12_told_202 : decode MX12_told.2.1 202 = .ok (.if_icmp .ge 23, 3) := by decide +kernel
theorem dX12_told_205 : decode MX12_told.2.1 205 = .ok (.aload_n 0, 1) := by decide +kernel
theorem dX12_told_206 : decode MX12_told.2.1 206 = .ok (.getfield 23, 3) := by decide +kernel
theorem dX12_told_209 : decode MX12_told.2.1 209 = .ok (.iload 4, 2) := by decide +kernel
theorem dX12_told_211 : decode MX12_told.2.1 211 = .ok (.aload_n 0, 1) := by decide +kernel
theorem dX12_told_212 : decode MX12_told.2.1 212 = .ok (.getfield 29, 3) := by decide +kernel
theorem dX12_told_215 : decode MX12_told.2.1 215 = .ok (.iload 4, 2) := by decide +kernel
theorem dX12_told_217 : decode MX12_told.2.1 217 = .ok (.iaload, 1) := by decide +kernel
theorem dX12_told_218 : decode MX12_told.2.1 218 = .ok (.iastore, 1) := by decide +kernel
theorem dX12_told_219 : decode MX12_told.2.1 219 = .ok (.iinc 4 1, 3) := by decide +kernel
theorem dX12_told_222 : decode MX12_told.2.1 222 = .ok (.goto (-25), 3) := by decide +kernel
theorem dX12_told_225 : decode MX12_told.2.1 225 = .ok (.iconst 0, 1) := by decide +kernel
theorem dX12_told_226 : decode MX12_told.2.1 226 = .ok (.istore 4, 2) := by decide +kernel
theorem dX12_told_228 : decode MX12_told.2.1 228 = .ok (.iload 4, 2) := by decide +kernel
theorem dX12_told_230 : decode MX12_told.2.1 230 = .ok (.bipush 16, 2) := by decide +kernel
theorem dX12_told_232 : decode MX12_told.2.1 232 = .ok (.if_icmp .ge 23, 3) := by decide +kernel
theorem dX12_told_235 : decode MX12_told.2.1 235 = .ok (.aload_n 0, 1) := by decide +kernel
theorem dX12_told_236 : decode MX12_told.2.1 236 = .ok (.getfield 26, 3) := by decide +kernel
theorem dX12_told_239 : decode MX12_told.2.1 239 = .ok (.iload 4, 2) := by decide +kernel
theorem dX12_told_241 : decode MX12_told.2.1 241 = .ok (.aload_n 0, 1) := by decide +kernel
theorem dX12_told_242 : decode MX12_told.2.1 242 = .ok (.getfield 32, 3) := by decide +kernel
theorem dX12_told_245 : decode MX12_told.2.1 245 = .ok (.iload 4, 2) := by decide +kernel
theorem dX12_told_247 : decode MX12_told.2.1 247 = .ok (.iaload, 1) := by decide +kernel
theorem dX12_told_248 : decode MX12_told.2.1 248 = .ok (.iastore, 1) := by decide +kernel
theorem dX12_told_249 : decode MX12_told.2.1 249 = .ok (.iinc 4 1, 3) := by decide +kernel
theorem dX12_told_252 : decode MX12_told.2.1 252 = .ok (.goto (-24), 3) := by decide +kernel
theorem dX12_told_255 : decode MX12_told.2.1 255 = .ok (.aload_n 0, 1) := by decide +kernel
theorem dX12_told_256 : decode MX12_told.2.1 256 = .ok (.iload_n 1, 1) := by decide +kernel
theorem dX12_told_257 : decode MX12_told.2.1 257 = .ok (.putfield 169, 3) := by decide +kernel
theorem dX12_told_260 : decode MX12_told.2.1 260 = .ok (.aload_n 0, 1) := by decide +kernel
theorem dX12_told_261 : decode MX12_told.2.1 261 = .ok (.iload_n 2, 1) := by decide +kernel
theorem dX12_told_262 : decode MX12_told.2.1 262 = .ok (.putfield 153, 3) := by decide +kernel
theorem dX12_told_265 : decode MX12_told.2.1 265 = .ok (.aload_n 0, 1) := by decide +kernel
theorem dX12_told_266 : decode MX12_told.2.1 266 = .ok (.bipush (-3), 2) := by decide +kernel
theorem dX12_told_268 : decode MX12_told.2.1 268 = .ok (.invokevirtual 176, 3) := by decide +kernel
theorem dX12_told_271 : decode MX12_told.2.1 271 = .ok (.ireturn, 1) := by decide +kernel
theorem dX12_told_272 : decode MX12_told.2.1 272 = .ok (.iinc 3 1, 3) := by decide +kernel
theorem dX12_told_275 : decode MX12_told.2.1 275 = .ok (.goto (-114), 3) := by decide +kernel
theorem dX12_told_278 : decode MX12_told.2.1 278 = .ok (.iinc 2 1, 3) := by decide +kernel
theorem dX12_told_281 : decode MX12_told.2.1 281 = .ok (.goto (-130), 3) := by decide +kernel
theorem dX12_told_284 : decode MX12_told.2.1 284 = .ok (.aload_n 0, 1) := by decide +kernel
theorem dX12_told_285 : decode MX12_told.2.1 285 = .ok (.aload_n 0, 1) := by decide +kernel
theorem dX12_told_286 : decode MX12_told.2.1 286 = .ok (.getfield 515, 3) := by decide +kernel
theorem dX12_told_289 : decode MX12_told.2.1 289 = .ok (.invokevirtual 176, 3) := by decide +kernel
theorem dX12_told_292 : decode MX12_told.2.1 292 = .ok (.ireturn, 1) := by decide +kernel
theorem dX12_stopped_0 : decode MX12_stopped.2.1 0 = .ok (.aload_n 0, 1) := by decide +kernel
theorem dX12_stopped_1 : decode MX12_stopped.2.1 1 = .ok (.iconst 0, 1) := by decide +kernel
theorem dX12_stopped_2 : decode MX12_stopped.2.1 2 = .ok (.putfield 163, 3) := by decide +kernel
theorem dX12_stopped_5 : decode MX12_stopped.2.1 5 = .ok (.aload_n 0, 1) := by decide +kernel
theorem dX12_stopped_6 : decode MX12_stopped.2.1 6 = .ok (.getfield 153, 3) := by decide +kernel
theorem dX12_stopped_9 : decode MX12_stopped.2.1 9 = .ok (.ireturn, 1) := by decide +kernel
theorem dX12_draw_0 : decode MX12_draw.2.1 0 = .ok (.aload_n 0, 1) := by decide +kernel
theorem dX12_draw_1 : decode MX12_draw.2.1 1 = .ok (.aload_n 0, 1) := by decide +kernel
theorem dX12_draw_2 : decode MX12_draw.2.1 2 = .ok (.getfield 534, 3) := by decide +kernel
theorem dX12_draw_5 : decode MX12_draw.2.1 5 = .ok (.ldc2_w 537, 3) := by decide +kernel
theorem dX12_draw_8 : decode MX12_draw.2.1 8 = .ok (.lmul, 1) := by decide +kernel
theorem dX12_draw_9 : decode MX12_draw.2.1 9 = .ok (.ldc2_w 539, 3) := by decide +kernel
theorem dX12_draw_12 : decode MX12_draw.2.1 12 = .ok (.ladd, 1) := by decide +kernel
theorem dX12_draw_13 : decode MX12_draw.2.1 13 = .ok (.ldc2_w 541, 3) := by decide +kernel
theorem dX12_draw_16 : decode MX12_draw.2.1 16 = .ok (.lrem, 1) := by decide +kernel
theorem dX12_draw_17 : decode MX12_draw.2.1 17 = .ok (.putfield 534, 3) := by decide +kernel
theorem dX12_draw_20 : decode MX12_draw.2.1 20 = .ok (.aload_n 0, 1) := by decide +kernel
theorem dX12_draw_21 : decode MX12_draw.2.1 21 = .ok (.getfield 534, 3) := by decide +kernel
theorem dX12_draw_24 : decode MX12_draw.2.1 24 = .ok (.iload_n 1, 1) := by decide +kernel
theorem dX12_draw_25 : decode MX12_draw.2.1 25 = .ok (.i2l, 1) := by decide +kernel
theorem dX12_draw_26 : decode MX12_draw.2.1 26 = .ok (.lrem, 1) := by decide +kernel
theorem dX12_draw_27 : decode MX12_draw.2.1 27 = .ok (.l2i, 1) := by decide +kernel
theorem dX12_draw_28 : decode MX12_draw.2.1 28 = .ok (.ireturn, 1) := by decide +kernel
theorem dX12_winter_0 : decode MX12_winter.2.1 0 = .ok (.aload_n 0, 1) := by decide +kernel
theorem dX12_winter_1 : decode MX12_winter.2.1 1 = .ok (.iconst 0, 1) := by decide +kernel
theorem dX12_winter_2 : decode MX12_winter.2.1 2 = .ok (.putfield 163, 3) := by decide +kernel
theorem dX12_winter_5 : decode MX12_winter.2.1 5 = .ok (.iload_n 1, 1) := by decide +kernel
theorem dX12_winter_6 : decode MX12_winter.2.1 6 = .ok (.i2l, 1) := by decide +kernel
theorem dX12_winter_7 : decode MX12_winter.2.1 7 = .ok (.lconst 0, 1) := by decide +kernel
theorem dX12_winter_8 : decode MX12_winter.2.1 8 = .ok (.ldc2_w 268, 3) := by decide +kernel
theorem dX12_winter_11 : decode MX12_winter.2.1 11 = .ok (.invokestatic 183, 3) := by decide +kernel
theorem dX12_winter_14 : decode MX12_winter.2.1 14 = .ok (.ifCond .eq 15, 3) := by decide +kernel
theorem dX12_winter_17 : decode MX12_winter.2.1 17 = .ok (.iload_n 2, 1) := by decide +kernel
theorem dX12_winter_18 : decode MX12_winter.2.1 18 = .ok (.i2l, 1) := by decide +kernel
theorem dX12_winter_19 : decode MX12_winter.2.1 19 = .ok (.lconst 1, 1) := by decide +kernel
theorem dX12_winter_20 : decode MX12_winter.2.1 20 = .ok (.ldc2_w 543, 3) := by decide +kernel
theorem dX12_winter_23 : decode MX12_winter.2.1 23 = .ok (.invokestatic 183, 3) := by decide +kernel
theorem dX12_winter_26 : decode MX12_winter.2.1 26 = .ok (.ifCond .ne 9, 3) := by decide +kernel
theorem dX12_winter_29 : decode MX12_winter.2.1 29 = .ok (.aload_n 0, 1) := by decide +kernel
theorem dX12_winter_30 : decode MX12_winter.2.1 30 = .ok (.iconst (-1), 1) := by decide +kernel
theorem dX12_winter_31 : decode MX12_winter.2.1 31 = .ok (.invokevirtual 176, 3) := by decide +kernel
theorem dX12_winter_34 : decode MX12_winter.2.1 34 = .ok (.ireturn, 1) := by decide +kernel
theorem dX12_winter_35 : decode MX12_winter.2.1 35 = .ok (.aload_n 0, 1) := by decide +kernel
theorem dX12_winter_36 : decode MX12_winter.2.1 36 = .ok (.bipush 16, 2) := by decide +kernel
theorem dX12_winter_38 : decode MX12_winter.2.1 38 = .ok (.invokevirtual 172, 3) := by decide +kernel
theorem dX12_winter_41 : decode MX12_winter.2.1 41 = .ok (.aload_n 0, 1) := by decide +kernel
theorem dX12_winter_42 : decode MX12_winter.2.1 42 = .ok (.iload_n 1, 1) := by decide +kernel
theorem dX12_winter_43 : decode MX12_winter.2.1 43 = .ok (.i2l, 1) := by decide +kernel
theorem dX12_winter_44 : decode MX12_winter.2.1 44 = .ok (.putfield 534, 3) := by decide +kernel
theorem dX12_winter_47 : decode MX12_winter.2.1 47 = .ok (.aload_n 0, 1) := by decide +kernel
theorem dX12_winter_48 : decode MX12_winter.2.1 48 = .ok (.iconst 1, 1) := by decide +kernel
theorem dX12_winter_49 : decode MX12_winter.2.1 49 = .ok (.putfield 545, 3) := by decide +kernel
theorem dX12_winter_52 : decode MX12_winter.2.1 52 = .ok (.aload_n 0, 1) := by decide +kernel
theorem dX12_winter_53 : decode MX12_winter.2.1 53 = .ok (.getfield 13, 3) := by decide +kernel
theorem dX12_winter_56 : decode MX12_winter.2.1 56 = .ok (.bipush 8, 2) := by decide +kernel
theorem dX12_winter_58 : decode MX12_winter.2.1 58 = .ok (.iaload, 1) := by decide +kernel
theorem dX12_winter_59 : decode MX12_winter.2.1 59 = .ok (.istore_n 3, 1) := by decide +kernel
theorem dX12_winter_60 : decode MX12_winter.2.1 60 = .ok (.iconst 0, 1) := by decide +kernel
theorem dX12_winter_61 : decode MX12_winter.2.1 61 = .ok (.istore 4, 2) := by decide +kernel
theorem dX12_winter_63 : decode MX12_winter.2.1 63 = .ok (.iload 4, 2) := by decide +kernel
theorem dX12_winter_65 : decode MX12_winter.2.1 65 = .ok (.bipush 6, 2) := by decide +kernel
theorem dX12_winter_67 : decode MX12_winter.2.1 67 = .ok (.if_icmp .ge 29, 3) := by decide +kernel
theorem dX12_winter_70 : decode MX12_winter.2.1 70 = .ok (.aload_n 0, 1) := by decide +kernel
theorem dX12_winter_71 : decode MX12_winter.2.1 71 = .ok (.getfield 156, 3) := by decide +kernel
theorem dX12_winter_74 : decode MX12_winter.2.1 74 = .ok (.iconst 2, 1) := by decide +kernel
theorem dX12_winter_75 : decode MX12_winter.2.1 75 = .ok (.iload 4, 2) := by decide +kernel
theorem dX12_winter_77 : decode MX12_winter.2.1 77 = .ok (.imul, 1) := by decide +kernel
theorem dX12_winter_78 : decode MX12_winter.2.1 78 = .ok (.iconst 1, 1) := by decide +kernel
theorem dX12_winter_79 : decode MX12_winter.2.1 79 = .ok (.iadd, 1) := by decide +kernel
theorem dX12_winter_80 : decode MX12_winter.2.1 80 = .ok (.aload_n 0, 1) := by decide +kernel
theorem dX12_winter_81 : decode MX12_winter.2.1 81 = .ok (.iload 4, 2) := by decide +kernel
theorem dX12_winter_83 : decode MX12_winter.2.1 83 = .ok (.bipush 9, 2) := by decide +kernel
theorem dX12_winter_85 : decode MX12_winter.2.1 85 = .ok (.invokevirtual 210, 3) := by decide +kernel
theorem dX12_winter_88 : decode MX12_winter.2.1 88 = .ok (.ineg, 1) := by decide +kernel
theorem dX12_winter_89 : decode MX12_winter.2.1 89 = .ok (.iastore, 1) := by decide +kernel
theorem dX12_winter_90 : decode MX12_winter.2.1 90 = .ok (.iinc 4 1, 3) := by decide +kernel
theorem dX12_winter_93 : decode MX12_winter.2.1 93 = .ok (.goto (-30), 3) := by decide +kernel
theorem dX12_winter_96 : decode MX12_winter.2.1 96 = .ok (.iconst 1, 1) := by decide +kernel
theorem dX12_winter_97 : decode MX12_winter.2.1 97 = .ok (.istore 4, 2) := by decide +kernel
theorem dX12_winter_99 : decode MX12_winter.2.1 99 = .ok (.iconst 0, 1) := by decide +kernel
theorem dX12_winter_100 : decode MX12_winter.2.1 100 = .ok (.istore 5, 2) := by decide +kernel
theorem dX12_winter_102 : decode MX12_winter.2.1 102 = .ok (.iload 5, 2) := by decide +kernel
theorem dX12_winter_104 : decode MX12_winter.2.1 104 = .ok (.iload_n 2, 1) := by decide +kernel
theorem dX12_winter_105 : decode MX12_winter.2.1 105 = .ok (.if_icmp .ge 103, 3) := by decide +kernel
theorem dX12_winter_108 : decode MX12_winter.2.1 108 = .ok (.iload 4, 2) := by decide +kernel
theorem dX12_winter_110 : decode MX12_winter.2.1 110 = .ok (.ifCond .eq 98, 3) := by decide +kernel
theorem dX12_winter_113 : decode MX12_winter.2.1 113 = .ok (.aload_n 0, 1) := by decide +kernel
theorem dX12_winter_114 : decode MX12_winter.2.1 114 = .ok (.getfield 13, 3) := by decide +kernel
theorem dX12_winter_117 : decode MX12_winter.2.1 117 = .ok (.iconst 0, 1) := by decide +kernel
theorem dX12_winter_118 : decode MX12_winter.2.1 118 = .ok (.iaload, 1) := by decide +kernel
theorem dX12_winter_119 : decode MX12_winter.2.1 119 = .ok (.ifCond .le 56, 3) := by decide +kernel
theorem dX12_winter_122 : decode MX12_winter.2.1 122 = .ok (.aload_n 0, 1) := by decide +kernel
theorem dX12_winter_123 : decode MX12_winter.2.1 123 = .ok (.aload_n 0, 1) := by decide +kernel
theorem dX12_winter_124 : decode MX12_winter.2.1 124 = .ok (.getfield 13, 3) := by decide +kernel
theorem dX12_winter_127 : decode MX12_winter.2.1 127 = .ok (.iconst 0, 1) := by decide +kernel
theorem dX12_winter_128 : decode MX12_winter.2.1 128 = .ok (.iaload, 1) := by decide +kernel
theorem dX12_winter_129 : decode MX12_winter.2.1 129 = .ok (.invokevirtual 548, 3) := by decide +kernel
theorem dX12_winter_132 : decode MX12_winter.2.1 132 = .ok (.istore 6, 2) := by decide +kernel
theorem dX12_winter_134 : decode MX12_winter.2.1 134 = .ok (.aload_n 0, 1) := by decide +kernel
theorem dX12_winter_135 : decode MX12_winter.2.1 135 = .ok (.iconst 4, 1) := by decide +kernel
theorem dX12_winter_136 : decode MX12_winter.2.1 136 = .ok (.invokevirtual 548, 3) := by decide +kernel
theorem dX12_winter_139 : decode MX12_winter.2.1 139 = .ok (.istore 7, 2) := by decide +kernel
theorem dX12_winter_141 : decode MX12_winter.2.1 141 = .ok (.aload_n 0, 1) := by decide +kernel
theorem dX12_winter_142 : decode MX12_winter.2.1 142 = .ok (.iconst 3, 1) := by decide +kernel
theorem dX12_winter_143 : decode MX12_winter.2.1 143 = .ok (.invokevirtual 548, 3) := by decide +kernel
theorem dX12_winter_146 : decode MX12_winter.2.1 146 = .ok (.iconst 1, 1) := by decide +kernel
theorem dX12_winter_147 : decode MX12_winter.2.1 147 = .ok (.iadd, 1) := by decide +kernel
theorem dX12_winter_148 : decode MX12_winter.2.1 148 = .ok (.istore 8, 2) := by decide +kernel
theorem dX12_winter_150 : decode MX12_winter.2.1 150 = .ok (.aload_n 0, 1) := by decide +kernel
theorem dX12_winter_151 : decode MX12_winter.2.1 151 = .ok (.iload 6, 2) := by decide +kernel
theorem dX12_winter_153 : decode MX12_winter.2.1 153 = .ok (.iload 7, 2) := by decide +kernel
theorem dX12_winter_155 : decode MX12_winter.2.1 155 = .ok (.iload 8, 2) := by decide +kernel
theorem dX12_winter_157 : decode MX12_winter.2.1 157 = .ok (.invokevirtual 438, 3) := by decide +kernel
theorem dX12_winter_160 : decode MX12_winter.2.1 160 = .ok (.ifCond .ne 15, 3) := by decide +kernel
theorem dX12_winter_163 : decode MX12_winter.2.1 163 = .ok (.aload_n 0, 1) := by decide +kernel
theorem dX12_winter_164 : decode MX12_winter.2.1 164 = .ok (.iconst 0, 1) := by decide +kernel
theorem dX12_winter_165 : decode MX12_winter.2.1 165 = .ok (.iload 6, 2) := by decide +kernel
theorem dX12_winter_167 : decode MX12_winter.2.1 167 = .ok (.iload 7, 2) := by decide +kernel
theorem dX12_winter_169 : decode MX12_winter.2.1 169 = .ok (.iload 8, 2) := by decide +kernel
theorem dX12_winter_171 : decode MX12_winter.2.1 171 = .ok (.invokevirtual 454, 3) := by decide +kernel
theorem dX12_winter_174 : decode MX12_winter.2.1 174 = .ok (.pop, 1) := by decide +kernel
theorem dX12_winter_175 : decode MX12_winter.2.1 175 = .ok (.aload_n 0, 1) := by decide +kernel
theorem dX12_winter_176 : decode MX12_winter.2.1 176 = .ok (.invokevirtual 413, 3) := by decide +kernel
theorem dX12_winter_179 : decode MX12_winter.2.1 179 = .ok (.sipush 999, 3) := by decide +kernel
theorem dX12_winter_182 : decode MX12_winter.2.1 182 = .ok (.if_icmp .ge 7, 3) := by decide +kernel
theorem dX12_winter_185 : decode MX12_winter.2.1 185 = .ok (.iconst 1, 1) := by decide +kernel
theorem dX12_winter_186 : decode MX12_winter.2.1 186 = .ok (.goto 4, 3) := by decide +kernel
theorem dX12_winter_189 : decode MX12_winter.2.1 189 = .ok (.iconst 0, 1) := by decide +kernel
theorem dX12_winter_190 : decode MX12_winter.2.1 190 = .ok (.istore 4, 2) := by decide +kernel
theorem dX12_winter_192 : decode MX12_winter.2.1 192 = .ok (.iload 4, 2) := by decide +kernel
theorem dX12_winter_194 : decode MX12_winter.2.1 194 = .ok (.ifCond .eq 8, 3) := by decide +kernel
theorem dX12_winter_197 : decode MX12_winter.2.1 197 = .ok (.aload_n 0, 1) := by decide +kernel
theorem dX12_winter_198 : decode MX12_winter.2.1 198 = .ok (.invokevirtual 457, 3) := by decide +kernel
theorem dX12_winter_201 : decode MX12_winter.2.1 201 = .ok (.pop, 1) := by decide +kernel
theorem dX12_winter_202 : decode MX12_winter.2.1 202 = .ok (.iinc 5 1, 3) := by decide +kernel
theorem dX12_winter_205 : decode MX12_winter.2.1 205 = .ok (.goto (-103), 3) := by decide +kernel
theorem dX12_winter_208 : decode MX12_winter.2.1 208 = .ok (.iconst 0, 1) := by decide +kernel
theorem dX12_winter_209 : decode MX12_winter.2.1 209 = .ok (.istore 5, 2) := by decide +kernel
theorem dX12_winter_211 : decode MX12_winter.2.1 211 = .ok (.iload 5, 2) := by decide +kernel
theorem dX12_winter_213 : decode MX12_winter.2.1 213 = .ok (.bipush 6, 2) := by decide +kernel
theorem dX12_winter_215 : decode MX12_winter.2.1 215 = .ok (.if_icmp .ge 47, 3) := by decide +kernel
theorem dX12_winter_218 : decode MX12_winter.2.1 218 = .ok (.aload_n 0, 1) := by decide +kernel
theorem dX12_winter_219 : decode MX12_winter.2.1 219 = .ok (.getfield 156, 3) := by decide +kernel
theorem dX12_winter_222 : decode MX12_winter.2.1 222 = .ok (.iconst 2, 1) := by decide +kernel
theorem dX12_winter_223 : decode MX12_winter.2.1 223 = .ok (.iload 5, 2) := by decide +kernel
theorem dX12_winter_225 : decode MX12_winter.2.1 225 = .ok (.imul, 1) := by decide +kernel
theorem dX12_winter_226 : decode MX12_winter.2.1 226 = .ok (.aload_n 0, 1) := by decide +kernel
theorem dX12_winter_227 : decode MX12_winter.2.1 227 = .ok (.iload 5, 2) := by decide +kernel
theorem dX12_winter_229 : decode MX12_winter.2.1 229 = .ok (.iconst 0, 1) := by decide +kernel
theorem dX12_winter_230 : decode MX12_winter.2.1 230 = .ok (.invokevirtual 210, 3) := by decide +kernel
theorem dX12_winter_233 : decode MX12_winter.2.1 233 = .ok (.iastore, 1) := by decide +kernel
theorem dX12_winter_234 : decode MX12_winter.2.1 234 = .ok (.aload_n 0, 1) := by decide +kernel
theorem dX12_winter_235 : decode MX12_winter.2.1 235 = .ok (.getfield 156, 3) := by decide +kernel
theorem dX12_winter_238 : decode MX12_winter.2.1 238 = .ok (.iconst 2, 1) := by decide +kernel
theorem dX12_winter_239 : decode MX12_winter.2.1 239 = .ok (.iload 5, 2) := by decide +kernel
theorem dX12_winter_241 : decode MX12_winter.2.1 241 = .ok (.imul, 1) := by decide +kernel
theorem dX12_winter_242 : decode MX12_winter.2.1 242 = .ok (.iconst 1, 1) := by decide +kernel
theorem dX12_winter_243 : decode MX12_winter.2.1 243 = .ok (.iadd, 1) := by decide +kernel
theorem dX12_winter_244 : decode MX12_winter.2.1 244 = .ok (.dup2, 1) := by decide +kernel
theorem dX12_winter_245 : decode MX12_winter.2.1 245 = .ok (.iaload, 1) := by decide +kernel
theorem dX12_winter_246 : decode MX12_winter.2.1 246 = .ok (.aload_n 0, 1) := by decide +kernel
theorem dX12_winter_247 : decode MX12_winter.2.1 247 = .ok (.iload 5, 2) := by decide +kernel
theorem dX12_winter_249 : decode MX12_winter.2.1 249 = .ok (.bipush 9, 2) := by decide +kernel
theorem dX12_winter_251 : decode MX12_winter.2.1 251 = .ok (.invokevirtual 210, 3) := by decide +kernel
theorem dX12_winter_254 : decode MX12_winter.2.1 254 = .ok (.iadd, 1) := by decide +kernel
theorem dX12_winter_255 : decode MX12_winter.2.1 255 = .ok (.iastore, 1) := by decide +kernel
theorem dX12_winter_256 : decode MX12_winter.2.1 256 = .ok (.iinc 5 1, 3) := by decide +kernel
theorem dX12_winter_259 : decode MX12_winter.2.1 259 = .ok (.goto (-48), 3) := by decide +kernel
theorem dX12_winter_262 : decode MX12_winter.2.1 262 = .ok (.aload_n 0, 1) := by decide +kernel
theorem dX12_winter_263 : decode MX12_winter.2.1 263 = .ok (.getfield 13, 3) := by decide +kernel
theorem dX12_winter_266 : decode MX12_winter.2.1 266 = .ok (.bipush 8, 2) := by decide +kernel
theorem dX12_winter_268 : decode MX12_winter.2.1 268 = .ok (.iaload, 1) := by decide +kernel
theorem dX12_winter_269 : decode MX12_winter.2.1 269 = .ok (.iload_n 3, 1) := by decide +kernel
theorem dX12_winter_270 : decode MX12_winter.2.1 270 = .ok (.isub, 1) := by decide +kernel
theorem dX12_winter_271 : decode MX12_winter.2.1 271 = .ok (.istore 5, 2) := by decide +kernel
theorem dX12_winter_273 : decode MX12_winter.2.1 273 = .ok (.aload_n 0, 1) := by decide +kernel
theorem dX12_winter_274 : decode MX12_winter.2.1 274 = .ok (.bipush 16, 2) := by decide +kernel
theorem dX12_winter_276 : decode MX12_winter.2.1 276 = .ok (.invokevirtual 180, 3) := by decide +kernel
theorem dX12_winter_279 : decode MX12_winter.2.1 279 = .ok (.aload_n 0, 1) := by decide +kernel
theorem dX12_winter_280 : decode MX12_winter.2.1 280 = .ok (.iload 5, 2) := by decide +kernel
theorem dX12_winter_282 : decode MX12_winter.2.1 282 = .ok (.invokevirtual 176, 3) := by decide +kernel
theorem dX12_winter_285 : decode MX12_winter.2.1 285 = .ok (.ireturn, 1) := by decide +kernel
theorem dX12_drawn_0 : decode MX12_drawn.2.1 0 = .ok (.aload_n 0, 1) := by decide +kernel
theorem dX12_drawn_1 : decode MX12_drawn.2.1 1 = .ok (.iconst 0, 1) := by decide +kernel
theorem dX12_drawn_2 : decode MX12_drawn.2.1 2 = .ok (.putfield 163, 3) := by decide +kernel
theorem dX12_drawn_5 : decode MX12_drawn.2.1 5 = .ok (.aload_n 0, 1) := by decide +kernel
theorem dX12_drawn_6 : decode MX12_drawn.2.1 6 = .ok (.getfield 545, 3) := by decide +kernel
theorem dX12_drawn_9 : decode MX12_drawn.2.1 9 = .ok (.ifCond .eq 33, 3) := by decide +kernel
theorem dX12_drawn_12 : decode MX12_drawn.2.1 12 = .ok (.iload_n 1, 1) := by decide +kernel
theorem dX12_drawn_13 : decode MX12_drawn.2.1 13 = .ok (.invokestatic 199, 3) := by decide +kernel
theorem dX12_drawn_16 : decode MX12_drawn.2.1 16 = .ok (.ifCond .eq 26, 3) := by decide +kernel
theorem dX12_drawn_19 : decode MX12_drawn.2.1 19 = .ok (.iload_n 2, 1) := by decide +kernel
theorem dX12_drawn_20 : decode MX12_drawn.2.1 20 = .ok (.i2l, 1) := by decide +kernel
theorem dX12_drawn_21 : decode MX12_drawn.2.1 21 = .ok (.lconst 0, 1) := by decide +kernel
theorem dX12_drawn_22 : decode MX12_drawn.2.1 22 = .ok (.lconst 1, 1) := by decide +kernel
theorem dX12_drawn_23 : decode MX12_drawn.2.1 23 = .ok (.invokestatic 183, 3) := by decide +kernel
theorem dX12_drawn_26 : decode MX12_drawn.2.1 26 = .ok (.ifCond .eq 16, 3) := by decide +kernel
theorem dX12_drawn_29 : decode MX12_drawn.2.1 29 = .ok (.aload_n 0, 1) := by decide +kernel
theorem dX12_drawn_30 : decode MX12_drawn.2.1 30 = .ok (.getfield 156, 3) := by decide +kernel
theorem dX12_drawn_33 : decode MX12_drawn.2.1 33 = .ok (.iconst 2, 1) := by decide +kernel
theorem dX12_drawn_34 : decode MX12_drawn.2.1 34 = .ok (.iload_n 1, 1) := by decide +kernel
theorem dX12_drawn_35 : decode MX12_drawn.2.1 35 = .ok (.imul, 1) := by decide +kernel
theorem dX12_drawn_36 : decode MX12_drawn.2.1 36 = .ok (.iload_n 2, 1) := by decide +kernel
theorem dX12_drawn_37 : decode MX12_drawn.2.1 37 = .ok (.iadd, 1) := by decide +kernel
theorem dX12_drawn_38 : decode MX12_drawn.2.1 38 = .ok (.iaload, 1) := by decide +kernel
theorem dX12_drawn_39 : decode MX12_drawn.2.1 39 = .ok (.goto 4, 3) := by decide +kernel
theorem dX12_drawn_42 : decode MX12_drawn.2.1 42 = .ok (.iconst (-1), 1) := by decide +kernel
theorem dX12_drawn_43 : decode MX12_drawn.2.1 43 = .ok (.ireturn, 1) := by decide +kernel
theorem dX12_count_0 : decode MX12_count.2.1 0 = .ok (.aload_n 0, 1) := by decide +kernel
theorem dX12_count_1 : decode MX12_count.2.1 1 = .ok (.iconst 0, 1) := by decide +kernel
theorem dX12_count_2 : decode MX12_count.2.1 2 = .ok (.putfield 163, 3) := by decide +kernel
theorem dX12_count_5 : decode MX12_count.2.1 5 = .ok (.iload_n 1, 1) := by decide +kernel
theorem dX12_count_6 : decode MX12_count.2.1 6 = .ok (.tableswitch 178 0 14 #[74, 81, 88, 95, 102, 109, 114, 119, 126, 133, 140, 147, 155, 162, 170], 74) := by decide +kernel
theorem dX12_count_80 : decode MX12_count.2.1 80 = .ok (.aload_n 0, 1) := by decide +kernel
theorem dX12_count_81 : decode MX12_count.2.1 81 = .ok (.getfield 13, 3) := by decide +kernel
theorem dX12_count_84 : decode MX12_count.2.1 84 = .ok (.iconst 0, 1) := by decide +kernel
theorem dX12_count_85 : decode MX12_count.2.1 85 = .ok (.iaload, 1) := by decide +kernel
theorem dX12_count_86 : decode MX12_count.2.1 86 = .ok (.ireturn, 1) := by decide +kernel
theorem dX12_count_87 : decode MX12_count.2.1 87 = .ok (.aload_n 0, 1) := by decide +kernel
theorem dX12_count_88 : decode MX12_count.2.1 88 = .ok (.getfield 13, 3) := by decide +kernel
theorem dX12_count_91 : decode MX12_count.2.1 91 = .ok (.iconst 1, 1) := by decide +kernel
theorem dX12_count_92 : decode MX12_count.2.1 92 = .ok (.iaload, 1) := by decide +kernel
theorem dX12_count_93 : decode MX12_count.2.1 93 = .ok (.ireturn, 1) := by decide +kernel
theorem dX12_count_94 : decode MX12_count.2.1 94 = .ok (.aload_n 0, 1) := by decide +kernel
theorem dX12_count_95 : decode MX12_count.2.1 95 = .ok (.getfield 13, 3) := by decide +kernel
theorem dX12_count_98 : decode MX12_count.2.1 98 = .ok (.iconst 2, 1) := by decide +kernel
theorem dX12_count_99 : decode MX12_count.2.1 99 = .ok (.iaload, 1) := by decide +kernel
theorem dX12_count_100 : decode MX12_count.2.1 100 = .ok (.ireturn, 1) := by decide +kernel
theorem dX12_count_101 : decode MX12_count.2.1 101 = .ok (.aload_n 0, 1) := by decide +kernel
theorem dX12_count_102 : decode MX12_count.2.1 102 = .ok (.getfield 13, 3) := by decide +kernel
theorem dX12_count_105 : decode MX12_count.2.1 105 = .ok (.iconst 3, 1) := by decide +kernel
theorem dX12_count_106 : decode MX12_count.2.1 106 = .ok (.iaload, 1) := by decide +kernel
theorem dX12_count_107 : decode MX12_count.2.1 107 = .ok (.ireturn, 1) := by decide +kernel
theorem dX12_count_108 : decode MX12_count.2.1 108 = .ok (.aload_n 0, 1) := by decide +kernel
theorem dX12_count_109 : decode MX12_count.2.1 109 = .ok (.getfield 13, 3) := by decide +kernel
theorem dX12_count_112 : decode MX12_count.2.1 112 = .ok (.iconst 4, 1) := by decide +kernel
theorem dX12_count_113 : decode MX12_count.2.1 113 = .ok (.iaload, 1) := by decide +kernel
theorem dX12_count_114 : decode MX12_count.2.1 114 = .ok (.ireturn, 1) := by decide +kernel
theorem dX12_count_115 : decode MX12_count.2.1 115 = .ok (.aload_n 0, 1) := by decide +kernel
theorem dX12_count_116 : decode MX12_count.2.1 116 = .ok (.getfield 169, 3) := by decide +kernel
theorem dX12_count_119 : decode MX12_count.2.1 119 = .ok (.ireturn, 1) := by decide +kernel
theorem dX12_count_120 : decode MX12_count.2.1 120 = .ok (.aload_n 0, 1) := by decide +kernel
theorem dX12_count_121 : decode MX12_count.2.1 121 = .ok (.getfield 227, 3) := by decide +kernel
theorem dX12_count_124 : decode MX12_count.2.1 124 = .ok (.ireturn, 1) := by decide +kernel
theorem dX12_count_125 : decode MX12_count.2.1 125 = .ok (.aload_n 0, 1) := by decide +kernel
theorem dX12_count_126 : decode MX12_count.2.1 126 = .ok (.getfield 7, 3) := by decide +kernel
theorem dX12_count_129 : decode MX12_count.2.1 129 = .ok (.iconst 1, 1) := by decide +kernel
theorem dX12_count_130 : decode MX12_count.2.1 130 = .ok (.iaload, 1) := by decide +kernel
theorem dX12_count_131 : decode MX12_count.2.1 131 = .ok (.ireturn, 1) := by decide +kernel
theorem dX12_count_132 : decode MX12_count.2.1 132 = .ok (.aload_n 0, 1) := by decide +kernel
theorem dX12_count_133 : decode MX12_count.2.1 133 = .ok (.getfield 7, 3) := by decide +kernel
theorem dX12_count_136 : decode MX12_count.2.1 136 = .ok (.iconst 2, 1) := by decide +kernel
theorem dX12_count_137 : decode MX12_count.2.1 137 = .ok (.iaload, 1) := by decide +kernel
theorem dX12_count_138 : decode MX12_count.2.1 138 = .ok (.ireturn, 1) := by decide +kernel
theorem dX12_count_139 : decode MX12_count.2.1 139 = .ok (.aload_n 0, 1) := by decide +kernel
theorem dX12_count_140 : decode MX12_count.2.1 140 = .ok (.getfield 7, 3) := by decide +kernel
theorem dX12_count_143 : decode MX12_count.2.1 143 = .ok (.iconst 3, 1) := by decide +kernel
theorem dX12_count_144 : decode MX12_count.2.1 144 = .ok (.iaload, 1) := by decide +kernel
theorem dX12_count_145 : decode MX12_count.2.1 145 = .ok (.ireturn, 1) := by decide +kernel
theorem dX12_count_146 : decode MX12_count.2.1 146 = .ok (.aload_n 0, 1) := by decide +kernel
theorem dX12_count_147 : decode MX12_count.2.1 147 = .ok (.getfield 7, 3) := by decide +kernel
theorem dX12_count_150 : decode MX12_count.2.1 150 = .ok (.iconst 5, 1) := by decide +kernel
theorem dX12_count_151 : decode MX12_count.2.1 151 = .ok (.iaload, 1) := by decide +kernel
theorem dX12_count_152 : decode MX12_count.2.1 152 = .ok (.ireturn, 1) := by decide +kernel
theorem dX12_count_153 : decode MX12_count.2.1 153 = .ok (.aload_n 0, 1) := by decide +kernel
theorem dX12_count_154 : decode MX12_count.2.1 154 = .ok (.getfield 7, 3) := by decide +kernel
theorem dX12_count_157 : decode MX12_count.2.1 157 = .ok (.bipush 6, 2) := by decide +kernel
theorem dX12_count_159 : decode MX12_count.2.1 159 = .ok (.iaload, 1) := by decide +kernel
theorem dX12_count_160 : decode MX12_count.2.1 160 = .ok (.ireturn, 1) := by decide +kernel
theorem dX12_count_161 : decode MX12_count.2.1 161 = .ok (.aload_n 0, 1) := by decide +kernel
theorem dX12_count_162 : decode MX12_count.2.1 162 = .ok (.getfield 13, 3) := by decide +kernel
theorem dX12_count_165 : decode MX12_count.2.1 165 = .ok (.iconst 5, 1) := by decide +kernel
theorem dX12_count_166 : decode MX12_count.2.1 166 = .ok (.iaload, 1) := by decide +kernel
theorem dX12_count_167 : decode MX12_count.2.1 167 = .ok (.ireturn, 1) := by decide +kernel
theorem dX12_count_168 : decode MX12_count.2.1 168 = .ok (.aload_n 0, 1) := by decide +kernel
theorem dX12_count_169 : decode MX12_count.2.1 169 = .ok (.getfield 13, 3) := by decide +kernel
theorem dX12_count_172 : decode MX12_count.2.1 172 = .ok (.bipush 8, 2) := by decide +kernel
theorem dX12_count_174 : decode MX12_count.2.1 174 = .ok (.iaload, 1) := by decide +kernel
theorem dX12_count_175 : decode MX12_count.2.1 175 = .ok (.ireturn, 1) := by decide +kernel
theorem dX12_count_176 : decode MX12_count.2.1 176 = .ok (.aload_n 0, 1) := by decide +kernel
theorem dX12_count_177 : decode MX12_count.2.1 177 = .ok (.getfield 13, 3) := by decide +kernel
theorem dX12_count_180 : decode MX12_count.2.1 180 = .ok (.bipush 9, 2) := by decide +kernel
theorem dX12_count_182 : decode MX12_count.2.1 182 = .ok (.iaload, 1) := by decide +kernel
theorem dX12_count_183 : decode MX12_count.2.1 183 = .ok (.ireturn, 1) := by decide +kernel
theorem dX12_count_184 : decode MX12_count.2.1 184 = .ok (.iload_n 1, 1) := by decide +kernel
theorem dX12_count_185 : decode MX12_count.2.1 185 = .ok (.i2l, 1) := by decide +kernel
theorem dX12_count_186 : decode MX12_count.2.1 186 = .ok (.ldc2_w 551, 3) := by decide +kernel
theorem dX12_count_189 : decode MX12_count.2.1 189 = .ok (.ldc2_w 553, 3) := by decide +kernel
theorem dX12_count_192 : decode MX12_count.2.1 192 = .ok (.invokestatic 183, 3) := by decide +kernel
theorem dX12_count_195 : decode MX12_count.2.1 195 = .ok (.ifCond .eq 18, 3) := by decide +kernel
theorem dX12_count_198 : decode MX12_count.2.1 198 = .ok (.aload_n 0, 1) := by decide +kernel
theorem dX12_count_199 : decode MX12_count.2.1 199 = .ok (.getfield 13, 3) := by decide +kernel
theorem dX12_count_202 : decode MX12_count.2.1 202 = .ok (.bipush 6, 2) := by decide +kernel
theorem dX12_count_204 : decode MX12_count.2.1 204 = .ok (.iload_n 1, 1) := by decide +kernel
theorem dX12_count_205 : decode MX12_count.2.1 205 = .ok (.iadd, 1) := by decide +kernel
theorem dX12_count_206 : decode MX12_count.2.1 206 = .ok (.bipush 15, 2) := by decide +kernel
theorem dX12_count_208 : decode MX12_count.2.1 208 = .ok (.isub, 1) := by decide +kernel
theorem dX12_count_209 : decode MX12_count.2.1 209 = .ok (.iaload, 1) := by decide +kernel
theorem dX12_count_210 : decode MX12_count.2.1 210 = .ok (.goto 4, 3) := by decide +kernel
theorem dX12_count_213 : decode MX12_count.2.1 213 = .ok (.iconst (-1), 1) := by decide +kernel
theorem dX12_count_214 : decode MX12_count.2.1 214 = .ok (.ireturn, 1) := by decide +kernel
theorem dX12_status_0 : decode MX12_status.2.1 0 = .ok (.aload_n 0, 1) := by decide +kernel
theorem dX12_status_1 : decode MX12_status.2.1 1 = .ok (.iconst 0, 1) := by decide +kernel
theorem dX12_status_2 : decode MX12_status.2.1 2 = .ok (.putfield 163, 3) := by decide +kernel
theorem dX12_status_5 : decode MX12_status.2.1 5 = .ok (.aload_n 0, 1) := by decide +kernel
theorem dX12_status_6 : decode MX12_status.2.1 6 = .ok (.getfield 166, 3) := by decide +kernel
theorem dX12_status_9 : decode MX12_status.2.1 9 = .ok (.ireturn, 1) := by decide +kernel
theorem dJ0_length_8abf5_0 : decode MJ0_length_8abf5.2.1 0 = .ok (.aload_n 0, 1) := by decide +kernel
theorem dJ0_length_8abf5_1 : decode MJ0_length_8abf5.2.1 1 = .ok (.getfield 9, 3) := by decide +kernel
theorem dJ0_length_8abf5_4 : decode MJ0_length_8abf5.2.1 4 = .ok (.arraylength, 1) := by decide +kernel
theorem dJ0_length_8abf5_5 : decode MJ0_length_8abf5.2.1 5 = .ok (.aload_n 0, 1) := by decide +kernel
theorem dJ0_length_8abf5_6 : decode MJ0_length_8abf5.2.1 6 = .ok (.invokevirtual 335, 3) := by decide +kernel
theorem dJ0_length_8abf5_9 : decode MJ0_length_8abf5.2.1 9 = .ok (.ishr, 1) := by decide +kernel
theorem dJ0_length_8abf5_10 : decode MJ0_length_8abf5.2.1 10 = .ok (.ireturn, 1) := by decide +kernel
theorem dJ0_charAt_5068e_0 : decode MJ0_charAt_5068e.2.1 0 = .ok (.aload_n 0, 1) := by decide +kernel
theorem dJ0_charAt_5068e_1 : decode MJ0_charAt_5068e.2.1 1 = .ok (.invokevirtual 492, 3) := by decide +kernel
theorem dJ0_charAt_5068e_4 : decode MJ0_charAt_5068e.2.1 4 = .ok (.ifCond .eq 12, 3) := by decide +kernel
theorem dJ0_charAt_5068e_7 : decode MJ0_charAt_5068e.2.1 7 = .ok (.aload_n 0, 1) := by decide +kernel
theorem dJ0_charAt_5068e_8 : decode MJ0_charAt_5068e.2.1 8 = .ok (.getfield 9, 3) := by decide +kernel
theorem dJ0_charAt_5068e_11 : decode MJ0_charAt_5068e.2.1 11 = .ok (.iload_n 1, 1) := by decide +kernel
theorem dJ0_charAt_5068e_12 : decode MJ0_charAt_5068e.2.1 12 = .ok (.invokestatic 495, 3) := by decide +kernel
theorem dJ0_charAt_5068e_15 : decode MJ0_charAt_5068e.2.1 15 = .ok (.ireturn, 1) := by decide +kernel
theorem dJ0_charAt_5068e_16 : decode MJ0_charAt_5068e.2.1 16 = .ok (.aload_n 0, 1) := by decide +kernel
theorem dJ0_charAt_5068e_17 : decode MJ0_charAt_5068e.2.1 17 = .ok (.getfield 9, 3) := by decide +kernel
theorem dJ0_charAt_5068e_20 : decode MJ0_charAt_5068e.2.1 20 = .ok (.iload_n 1, 1) := by decide +kernel
theorem dJ0_charAt_5068e_21 : decode MJ0_charAt_5068e.2.1 21 = .ok (.invokestatic 498, 3) := by decide +kernel
theorem dJ0_charAt_5068e_24 : decode MJ0_charAt_5068e.2.1 24 = .ok (.ireturn, 1) := by decide +kernel
theorem dJ0_coder_7d493_0 : decode MJ0_coder_7d493.2.1 0 = .ok (.getstatic 38, 3) := by decide +kernel
theorem dJ0_coder_7d493_3 : decode MJ0_coder_7d493.2.1 3 = .ok (.ifCond .eq 10, 3) := by decide +kernel
theorem dJ0_coder_7d493_6 : decode MJ0_coder_7d493.2.1 6 = .ok (.aload_n 0, 1) := by decide +kernel
theorem dJ0_coder_7d493_7 : decode MJ0_coder_7d493.2.1 7 = .ok (.getfield 15, 3) := by decide +kernel
theorem dJ0_coder_7d493_10 : decode MJ0_coder_7d493.2.1 10 = .ok (.goto 4, 3) := by decide +kernel
theorem dJ0_coder_7d493_13 : decode MJ0_coder_7d493.2.1 13 = .ok (.iconst 1, 1) := by decide +kernel
theorem dJ0_coder_7d493_14 : decode MJ0_coder_7d493.2.1 14 = .ok (.ireturn, 1) := by decide +kernel
theorem dJ0_isLatin1_aae02_0 : decode MJ0_isLatin1_aae02.2.1 0 = .ok (.getstatic 38, 3) := by decide +kernel
theorem dJ0_isLatin1_aae02_3 : decode MJ0_isLatin1_aae02.2.1 3 = .ok (.ifCond .eq 14, 3) := by decide +kernel
theorem dJ0_isLatin1_aae02_6 : decode MJ0_isLatin1_aae02.2.1 6 = .ok (.aload_n 0, 1) := by decide +kernel
theorem dJ0_isLatin1_aae02_7 : decode MJ0_isLatin1_aae02.2.1 7 = .ok (.getfield 15, 3) := by decide +kernel
theorem dJ0_isLatin1_aae02_10 : decode MJ0_isLatin1_aae02.2.1 10 = .ok (.ifCond .ne 7, 3) := by decide +kernel
theorem dJ0_isLatin1_aae02_13 : decode MJ0_isLatin1_aae02.2.1 13 = .ok (.iconst 1, 1) := by decide +kernel
theorem dJ0_isLatin1_aae02_14 : decode MJ0_isLatin1_aae02.2.1 14 = .ok (.goto 4, 3) := by decide +kernel
theorem dJ0_isLatin1_aae02_17 : decode MJ0_isLatin1_aae02.2.1 17 = .ok (.iconst 0, 1) := by decide +kernel
theorem dJ0_isLatin1_aae02_18 : decode MJ0_isLatin1_aae02.2.1 18 = .ok (.ireturn, 1) := by decide +kernel
theorem dJ0_checkIndex_df160_0 : decode MJ0_checkIndex_df160.2.1 0 = .ok (.iload_n 0, 1) := by decide +kernel
theorem dJ0_checkIndex_df160_1 : decode MJ0_checkIndex_df160.2.1 1 = .ok (.iload_n 1, 1) := by decide +kernel
theorem dJ0_checkIndex_df160_2 : decode MJ0_checkIndex_df160.2.1 2 = .ok (.getstatic 1053, 3) := by decide +kernel
theorem dJ0_checkIndex_df160_5 : decode MJ0_checkIndex_df160.2.1 5 = .ok (.invokestatic 1059, 3) := by decide +kernel
theorem dJ0_checkIndex_df160_8 : decode MJ0_checkIndex_df160.2.1 8 = .ok (.pop, 1) := by decide +kernel
theorem dJ0_checkIndex_df160_9 : decode MJ0_checkIndex_df160.2.1 9 = .ok (.return_, 1) := by decide +kernel
theorem dJ1_charAt_3b067_0 : decode MJ1_charAt_3b067.2.1 0 = .ok (.iload_n 1, 1) := by decide +kernel
theorem dJ1_charAt_3b067_1 : decode MJ1_charAt_3b067.2.1 1 = .ok (.aload_n 0, 1) := by decide +kernel
theorem dJ1_charAt_3b067_2 : decode MJ1_charAt_3b067.2.1 2 = .ok (.arraylength, 1) := by decide +kernel
theorem dJ1_charAt_3b067_3 : decode MJ1_charAt_3b067.2.1 3 = .ok (.invokestatic 9, 3) := by decide +kernel
theorem dJ1_charAt_3b067_6 : decode MJ1_charAt_3b067.2.1 6 = .ok (.aload_n 0, 1) := by decide +kernel
theorem dJ1_charAt_3b067_7 : decode MJ1_charAt_3b067.2.1 7 = .ok (.iload_n 1, 1) := by decide +kernel
theorem dJ1_charAt_3b067_8 : decode MJ1_charAt_3b067.2.1 8 = .ok (.baload, 1) := by decide +kernel
theorem dJ1_charAt_3b067_9 : decode MJ1_charAt_3b067.2.1 9 = .ok (.sipush 255, 3) := by decide +kernel
theorem dJ1_charAt_3b067_12 : decode MJ1_charAt_3b067.2.1 12 = .ok (.iand, 1) := by decide +kernel
theorem dJ1_charAt_3b067_13 : decode MJ1_charAt_3b067.2.1 13 = .ok (.i2c, 1) := by decide +kernel
theorem dJ1_charAt_3b067_14 : decode MJ1_charAt_3b067.2.1 14 = .ok (.ireturn, 1) := by decide +kernel
theorem dJ7_fill_53178_0 : decode MJ7_fill_53178.2.1 0 = .ok (.iconst 0, 1) := by decide +kernel
theorem dJ7_fill_53178_1 : decode MJ7_fill_53178.2.1 1 = .ok (.istore_n 2, 1) := by decide +kernel
theorem dJ7_fill_53178_2 : decode MJ7_fill_53178.2.1 2 = .ok (.aload_n 0, 1) := by decide +kernel
theorem dJ7_fill_53178_3 : decode MJ7_fill_53178.2.1 3 = .ok (.arraylength, 1) := by decide +kernel
theorem dJ7_fill_53178_4 : decode MJ7_fill_53178.2.1 4 = .ok (.istore_n 3, 1) := by decide +kernel
theorem dJ7_fill_53178_5 : decode MJ7_fill_53178.2.1 5 = .ok (.iload_n 2, 1) := by decide +kernel
theorem dJ7_fill_53178_6 : decode MJ7_fill_53178.2.1 6 = .ok (.iload_n 3, 1) := by decide +kernel
theorem dJ7_fill_53178_7 : decode MJ7_fill_53178.2.1 7 = .ok (.if_icmp .ge 13, 3) := by decide +kernel
theorem dJ7_fill_53178_10 : decode MJ7_fill_53178.2.1 10 = .ok (.aload_n 0, 1) := by decide +kernel
theorem dJ7_fill_53178_11 : decode MJ7_fill_53178.2.1 11 = .ok (.iload_n 2, 1) := by decide +kernel
theorem dJ7_fill_53178_12 : decode MJ7_fill_53178.2.1 12 = .ok (.iload_n 1, 1) := by decide +kernel
theorem dJ7_fill_53178_13 : decode MJ7_fill_53178.2.1 13 = .ok (.iastore, 1) := by decide +kernel
theorem dJ7_fill_53178_14 : decode MJ7_fill_53178.2.1 14 = .ok (.iinc 2 1, 3) := by decide +kernel
theorem dJ7_fill_53178_17 : decode MJ7_fill_53178.2.1 17 = .ok (.goto (-12), 3) := by decide +kernel
theorem dJ7_fill_53178_20 : decode MJ7_fill_53178.2.1 20 = .ok (.return_, 1) := by decide +kernel
theorem dJ7_copyOf_59c91_0 : decode MJ7_copyOf_59c91.2.1 0 = .ok (.iload_n 1, 1) := by decide +kernel
theorem dJ7_copyOf_59c91_1 : decode MJ7_copyOf_59c91.2.1 1 = .ok (.aload_n 0, 1) := by decide +kernel
theorem dJ7_copyOf_59c91_2 : decode MJ7_copyOf_59c91.2.1 2 = .ok (.arraylength, 1) := by decide +kernel
theorem dJ7_copyOf_59c91_3 : decode MJ7_copyOf_59c91.2.1 3 = .ok (.if_icmp .ne 11, 3) := by decide +kernel
theorem dJ7_copyOf_59c91_6 : decode MJ7_copyOf_59c91.2.1 6 = .ok (.aload_n 0, 1) := by decide +kernel
theorem dJ7_copyOf_59c91_7 : decode MJ7_copyOf_59c91.2.1 7 = .ok (.invokevirtual 316, 3) := by decide +kernel
theorem dJ7_copyOf_59c91_10 : decode MJ7_copyOf_59c91.2.1 10 = .ok (.checkcast 317, 3) := by decide +kernel
theorem dJ7_copyOf_59c91_13 : decode MJ7_copyOf_59c91.2.1 13 = .ok (.areturn, 1) := by decide +kernel
theorem dJ7_copyOf_59c91_14 : decode MJ7_copyOf_59c91.2.1 14 = .ok (.iload_n 1, 1) := by decide +kernel
theorem dJ7_copyOf_59c91_15 : decode MJ7_copyOf_59c91.2.1 15 = .ok (.newarray .int, 2) := by decide +kernel
theorem dJ7_copyOf_59c91_17 : decode MJ7_copyOf_59c91.2.1 17 = .ok (.astore_n 2, 1) := by decide +kernel
theorem dJ7_copyOf_59c91_18 : decode MJ7_copyOf_59c91.2.1 18 = .ok (.aload_n 0, 1) := by decide +kernel
theorem dJ7_copyOf_59c91_19 : decode MJ7_copyOf_59c91.2.1 19 = .ok (.iconst 0, 1) := by decide +kernel
theorem dJ7_copyOf_59c91_20 : decode MJ7_copyOf_59c91.2.1 20 = .ok (.aload_n 2, 1) := by decide +kernel
theorem dJ7_copyOf_59c91_21 : decode MJ7_copyOf_59c91.2.1 21 = .ok (.iconst 0, 1) := by decide +kernel
theorem dJ7_copyOf_59c91_22 : decode MJ7_copyOf_59c91.2.1 22 = .ok (.aload_n 0, 1) := by decide +kernel
theorem dJ7_copyOf_59c91_23 : decode MJ7_copyOf_59c91.2.1 23 = .ok (.arraylength, 1) := by decide +kernel
theorem dJ7_copyOf_59c91_24 : decode MJ7_copyOf_59c91.2.1 24 = .ok (.iload_n 1, 1) := by decide +kernel
theorem dJ7_copyOf_59c91_25 : decode MJ7_copyOf_59c91.2.1 25 = .ok (.invokestatic 304, 3) := by decide +kernel
theorem dJ7_copyOf_59c91_28 : decode MJ7_copyOf_59c91.2.1 28 = .ok (.invokestatic 150, 3) := by decide +kernel
theorem dJ7_copyOf_59c91_31 : decode MJ7_copyOf_59c91.2.1 31 = .ok (.aload_n 2, 1) := by decide +kernel
theorem dJ7_copyOf_59c91_32 : decode MJ7_copyOf_59c91.2.1 32 = .ok (.areturn, 1) := by decide +kernel
theorem dJ3_checkIndex_8e157_0 : decode MJ3_checkIndex_8e157.2.1 0 = .ok (.iload_n 0, 1) := by decide +kernel
theorem dJ3_checkIndex_8e157_1 : decode MJ3_checkIndex_8e157.2.1 1 = .ok (.ifCond .lt 8, 3) := by decide +kernel
theorem dJ3_checkIndex_8e157_4 : decode MJ3_checkIndex_8e157.2.1 4 = .ok (.iload_n 0, 1) := by decide +kernel
theorem dJ3_checkIndex_8e157_5 : decode MJ3_checkIndex_8e157.2.1 5 = .ok (.iload_n 1, 1) := by decide +kernel
theorem dJ3_checkIndex_8e157_6 : decode MJ3_checkIndex_8e157.2.1 6 = .ok (.if_icmp .lt 10, 3) := by decide +kernel
theorem dJ3_checkIndex_8e157_9 : decode MJ3_checkIndex_8e157.2.1 9 = .ok (.aload_n 2, 1) := by decide +kernel
theorem dJ3_checkIndex_8e157_10 : decode MJ3_checkIndex_8e157.2.1 10 = .ok (.iload_n 0, 1) := by decide +kernel
theorem dJ3_checkIndex_8e157_11 : decode MJ3_checkIndex_8e157.2.1 11 = .ok (.iload_n 1, 1) := by decide +kernel
theorem dJ3_checkIndex_8e157_12 : decode MJ3_checkIndex_8e157.2.1 12 = .ok (.invokestatic 95, 3) := by decide +kernel
theorem dJ3_checkIndex_8e157_15 : decode MJ3_checkIndex_8e157.2.1 15 = .ok (.athrow, 1) := by decide +kernel
theorem dJ3_checkIndex_8e157_16 : decode MJ3_checkIndex_8e157.2.1 16 = .ok (.iload_n 0, 1) := by decide +kernel
theorem dJ3_checkIndex_8e157_17 : decode MJ3_checkIndex_8e157.2.1 17 = .ok (.ireturn, 1) := by decide +kernel
