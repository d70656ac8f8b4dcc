theorem dX0_init_0 : decode MX0_init.2.1 0 = .ok (.aload_n 0, 1) := by decide +kernel
theorem dX0_init_1 : decode MX0_init.2.1 1 = .ok (.invokespecial 3, 3) := by decide +kernel
theorem dX0_init_4 : decode MX0_init.2.1 4 = .ok (.aload_n 0, 1) := by decide +kernel
theorem dX0_init_5 : decode MX0_init.2.1 5 = .ok (.bipush 40, 2) := by decide +kernel
theorem dX0_init_7 : decode MX0_init.2.1 7 = .ok (.newarray .int, 2) := by decide +kernel
theorem dX0_init_9 : decode MX0_init.2.1 9 = .ok (.putfield 9, 3) := by decide +kernel
theorem dX0_init_12 : decode MX0_init.2.1 12 = .ok (.aload_n 0, 1) := by decide +kernel
theorem dX0_init_13 : decode MX0_init.2.1 13 = .ok (.bipush 50, 2) := by decide +kernel
theorem dX0_init_15 : decode MX0_init.2.1 15 = .ok (.newarray .int, 2) := by decide +kernel
theorem dX0_init_17 : decode MX0_init.2.1 17 = .ok (.putfield 15, 3) := by decide +kernel
theorem dX0_init_20 : decode MX0_init.2.1 20 = .ok (.aload_n 0, 1) := by decide +kernel
theorem dX0_init_21 : decode MX0_init.2.1 21 = .ok (.aload_n 1, 1) := by decide +kernel
theorem dX0_init_22 : decode MX0_init.2.1 22 = .ok (.putfield 18, 3) := by decide +kernel
theorem dX0_init_25 : decode MX0_init.2.1 25 = .ok (.return_, 1) := by decide +kernel
theorem dX0_onDay_0 : decode MX0_onDay.2.1 0 = .ok (.aload_n 0, 1) := by decide +kernel
theorem dX0_onDay_1 : decode MX0_onDay.2.1 1 = .ok (.getfield 9, 3) := by decide +kernel
theorem dX0_onDay_4 : decode MX0_onDay.2.1 4 = .ok (.bipush 22, 2) := by decide +kernel
theorem dX0_onDay_6 : decode MX0_onDay.2.1 6 = .ok (.iload_n 1, 1) := by decide +kernel
theorem dX0_onDay_7 : decode MX0_onDay.2.1 7 = .ok (.iastore, 1) := by decide +kernel
theorem dX0_onDay_8 : decode MX0_onDay.2.1 8 = .ok (.aload_n 0, 1) := by decide +kernel
theorem dX0_onDay_9 : decode MX0_onDay.2.1 9 = .ok (.getfield 9, 3) := by decide +kernel
theorem dX0_onDay_12 : decode MX0_onDay.2.1 12 = .ok (.bipush 20, 2) := by decide +kernel
theorem dX0_onDay_14 : decode MX0_onDay.2.1 14 = .ok (.aload_n 0, 1) := by decide +kernel
theorem dX0_onDay_15 : decode MX0_onDay.2.1 15 = .ok (.getfield 18, 3) := by decide +kernel
theorem dX0_onDay_18 : decode MX0_onDay.2.1 18 = .ok (.getfield 22, 3) := by decide +kernel
theorem dX0_onDay_21 : decode MX0_onDay.2.1 21 = .ok (.iastore, 1) := by decide +kernel
theorem dX0_onDay_22 : decode MX0_onDay.2.1 22 = .ok (.return_, 1) := by decide +kernel
theorem dX0_ofSaid_0 : decode MX0_ofSaid.2.1 0 = .ok (.aload_n 0, 1) := by decide +kernel
theorem dX0_ofSaid_1 : decode MX0_ofSaid.2.1 1 = .ok (.getfield 9, 3) := by decide +kernel
theorem dX0_ofSaid_4 : decode MX0_ofSaid.2.1 4 = .ok (.bipush 14, 2) := by decide +kernel
theorem dX0_ofSaid_6 : decode MX0_ofSaid.2.1 6 = .ok (.iload_n 1, 1) := by decide +kernel
theorem dX0_ofSaid_7 : decode MX0_ofSaid.2.1 7 = .ok (.iastore, 1) := by decide +kernel
theorem dX0_ofSaid_8 : decode MX0_ofSaid.2.1 8 = .ok (.aload_n 0, 1) := by decide +kernel
theorem dX0_ofSaid_9 : decode MX0_ofSaid.2.1 9 = .ok (.getfield 9, 3) := by decide +kernel
theorem dX0_ofSaid_12 : decode MX0_ofSaid.2.1 12 = .ok (.bipush 15, 2) := by decide +kernel
theorem dX0_ofSaid_14 : decode MX0_ofSaid.2.1 14 = .ok (.aload_n 0, 1) := by decide +kernel
theorem dX0_ofSaid_15 : decode MX0_ofSaid.2.1 15 = .ok (.getfield 18, 3) := by decide +kernel
theorem dX0_ofSaid_18 : decode MX0_ofSaid.2.1 18 = .ok (.getfield 28, 3) := by decide +kernel
theorem dX0_ofSaid_21 : decode MX0_ofSaid.2.1 21 = .ok (.getfield 32, 3) := by decide +kernel
theorem dX0_ofSaid_24 : decode MX0_ofSaid.2.1 24 = .ok (.iload_n 1, 1) := by decide +kernel
theorem dX0_ofSaid_25 : decode MX0_ofSaid.2.1 25 = .ok (.iaload, 1) := by decide +kernel
theorem dX0_ofSaid_26 : decode MX0_ofSaid.2.1 26 = .ok (.iastore, 1) := by decide +kernel
theorem dX0_ofSaid_27 : decode MX0_ofSaid.2.1 27 = .ok (.aload_n 0, 1) := by decide +kernel
theorem dX0_ofSaid_28 : decode MX0_ofSaid.2.1 28 = .ok (.getfield 9, 3) := by decide +kernel
theorem dX0_ofSaid_31 : decode MX0_ofSaid.2.1 31 = .ok (.bipush 16, 2) := by decide +kernel
theorem dX0_ofSaid_33 : decode MX0_ofSaid.2.1 33 = .ok (.aload_n 0, 1) := by decide +kernel
theorem dX0_ofSaid_34 : decode MX0_ofSaid.2.1 34 = .ok (.getfield 18, 3) := by decide +kernel
theorem dX0_ofSaid_37 : decode MX0_ofSaid.2.1 37 = .ok (.getfield 28, 3) := by decide +kernel
theorem dX0_ofSaid_40 : decode MX0_ofSaid.2.1 40 = .ok (.getfield 37, 3) := by decide +kernel
theorem dX0_ofSaid_43 : decode MX0_ofSaid.2.1 43 = .ok (.iload_n 1, 1) := by decide +kernel
theorem dX0_ofSaid_44 : decode MX0_ofSaid.2.1 44 = .ok (.iaload, 1) := by decide +kernel
theorem dX0_ofSaid_45 : decode MX0_ofSaid.2.1 45 = .ok (.iastore, 1) := by decide +kernel
theorem dX0_ofSaid_46 : decode MX0_ofSaid.2.1 46 = .ok (.aload_n 0, 1) := by decide +kernel
theorem dX0_ofSaid_47 : decode MX0_ofSaid.2.1 47 = .ok (.getfield 9, 3) := by decide +kernel
theorem dX0_ofSaid_50 : decode MX0_ofSaid.2.1 50 = .ok (.bipush 17, 2) := by decide +kernel
theorem dX0_ofSaid_52 : decode MX0_ofSaid.2.1 52 = .ok (.iload_n 2, 1) := by decide +kernel
theorem dX0_ofSaid_53 : decode MX0_ofSaid.2.1 53 = .ok (.iastore, 1) := by decide +kernel
theorem dX0_ofSaid_54 : decode MX0_ofSaid.2.1 54 = .ok (.aload_n 0, 1) := by decide +kernel
theorem dX0_ofSaid_55 : decode MX0_ofSaid.2.1 55 = .ok (.getfield 9, 3) := by decide +kernel
theorem dX0_ofSaid_58 : decode MX0_ofSaid.2.1 58 = .ok (.bipush 13, 2) := by decide +kernel
theorem dX0_ofSaid_60 : decode MX0_ofSaid.2.1 60 = .ok (.iload_n 3, 1) := by decide +kernel
theorem dX0_ofSaid_61 : decode MX0_ofSaid.2.1 61 = .ok (.iastore, 1) := by decide +kernel
theorem dX0_ofSaid_62 : decode MX0_ofSaid.2.1 62 = .ok (.return_, 1) := by decide +kernel
theorem dX0_ofWeather_0 : decode MX0_ofWeather.2.1 0 = .ok (.aload_n 0, 1) := by decide +kernel
theorem dX0_ofWeather_1 : decode MX0_ofWeather.2.1 1 = .ok (.getfield 9, 3) := by decide +kernel
theorem dX0_ofWeather_4 : decode MX0_ofWeather.2.1 4 = .ok (.bipush 14, 2) := by decide +kernel
theorem dX0_ofWeather_6 : decode MX0_ofWeather.2.1 6 = .ok (.iconst (-1), 1) := by decide +kernel
theorem dX0_ofWeather_7 : decode MX0_ofWeather.2.1 7 = .ok (.iastore, 1) := by decide +kernel
theorem dX0_ofWeather_8 : decode MX0_ofWeather.2.1 8 = .ok (.aload_n 0, 1) := by decide +kernel
theorem dX0_ofWeather_9 : decode MX0_ofWeather.2.1 9 = .ok (.getfield 9, 3) := by decide +kernel
theorem dX0_ofWeather_12 : decode MX0_ofWeather.2.1 12 = .ok (.bipush 15, 2) := by decide +kernel
theorem dX0_ofWeather_14 : decode MX0_ofWeather.2.1 14 = .ok (.iconst (-1), 1) := by decide +kernel
theorem dX0_ofWeather_15 : decode MX0_ofWeather.2.1 15 = .ok (.iastore, 1) := by decide +kernel
theorem dX0_ofWeather_16 : decode MX0_ofWeather.2.1 16 = .ok (.aload_n 0, 1) := by decide +kernel
theorem dX0_ofWeather_17 : decode MX0_ofWeather.2.1 17 = .ok (.getfield 9, 3) := by decide +kernel
theorem dX0_ofWeather_20 : decode MX0_ofWeather.2.1 20 = .ok (.bipush 16, 2) := by decide +kernel
theorem dX0_ofWeather_22 : decode MX0_ofWeather.2.1 22 = .ok (.iconst (-1), 1) := by decide +kernel
theorem dX0_ofWeather_23 : decode MX0_ofWeather.2.1 23 = .ok (.iastore, 1) := by decide +kernel
theorem dX0_ofWeather_24 : decode MX0_ofWeather.2.1 24 = .ok (.aload_n 0, 1) := by decide +kernel
theorem dX0_ofWeather_25 : decode MX0_ofWeather.2.1 25 = .ok (.getfield 9, 3) := by decide +kernel
theorem dX0_ofWeather_28 : decode MX0_ofWeather.2.1 28 = .ok (.bipush 17, 2) := by decide +kernel
theorem dX0_ofWeather_30 : decode MX0_ofWeather.2.1 30 = .ok (.iconst (-1), 1) := by decide +kernel
theorem dX0_ofWeather_31 : decode MX0_ofWeather.2.1 31 = .ok (.iastore, 1) := by decide +kernel
theorem dX0_ofWeather_32 : decode MX0_ofWeather.2.1 32 = .ok (.aload_n 0, 1) := by decide +kernel
theorem dX0_ofWeather_33 : decode MX0_ofWeather.2.1 33 = .ok (.getfield 9, 3) := by decide +kernel
theorem dX0_ofWeather_36 : decode MX0_ofWeather.2.1 36 = .ok (.bipush 13, 2) := by decide +kernel
theorem dX0_ofWeather_38 : decode MX0_ofWeather.2.1 38 = .ok (.iconst (-1), 1) := by decide +kernel
theorem dX0_ofWeather_39 : decode MX0_ofWeather.2.1 39 = .ok (.iastore, 1) := by decide +kernel
theorem dX0_ofWeather_40 : decode MX0_ofWeather.2.1 40 = .ok (.aload_n 0, 1) := by decide +kernel
theorem dX0_ofWeather_41 : decode MX0_ofWeather.2.1 41 = .ok (.getfield 9, 3) := by decide +kernel
theorem dX0_ofWeather_44 : decode MX0_ofWeather.2.1 44 = .ok (.bipush 18, 2) := by decide +kernel
theorem dX0_ofWeather_46 : decode MX0_ofWeather.2.1 46 = .ok (.iconst (-1), 1) := by decide +kernel
theorem dX0_ofWeather_47 : decode MX0_ofWeather.2.1 47 = .ok (.iastore, 1) := by decide +kernel
theorem dX0_ofWeather_48 : decode MX0_ofWeather.2.1 48 = .ok (.aload_n 0, 1) := by decide +kernel
theorem dX0_ofWeather_49 : decode MX0_ofWeather.2.1 49 = .ok (.getfield 9, 3) := by decide +kernel
theorem dX0_ofWeather_52 : decode MX0_ofWeather.2.1 52 = .ok (.bipush 19, 2) := by decide +kernel
theorem dX0_ofWeather_54 : decode MX0_ofWeather.2.1 54 = .ok (.iload_n 1, 1) := by decide +kernel
theorem dX0_ofWeather_55 : decode MX0_ofWeather.2.1 55 = .ok (.iastore, 1) := by decide +kernel
theorem dX0_ofWeather_56 : decode MX0_ofWeather.2.1 56 = .ok (.aload_n 0, 1) := by decide +kernel
theorem dX0_ofWeather_57 : decode MX0_ofWeather.2.1 57 = .ok (.getfield 9, 3) := by decide +kernel
theorem dX0_ofWeather_60 : decode MX0_ofWeather.2.1 60 = .ok (.bipush 21, 2) := by decide +kernel
theorem dX0_ofWeather_62 : decode MX0_ofWeather.2.1 62 = .ok (.iload_n 2, 1) := by decide +kernel
theorem dX0_ofWeather_63 : decode MX0_ofWeather.2.1 63 = .ok (.iastore, 1) := by decide +kernel
theorem dX0_ofWeather_64 : decode MX0_ofWeather.2.1 64 = .ok (.return_, 1) := by decide +kernel
theorem dX0_knowTalks_0 : decode MX0_knowTalks.2.1 0 = .ok (.aload_n 0, 1) := by decide +kernel
theorem dX0_knowTalks_1 : decode MX0_knowTalks.2.1 1 = .ok (.getfield 9, 3) := by decide +kernel
theorem dX0_knowTalks_4 : decode MX0_knowTalks.2.1 4 = .ok (.bipush 22, 2) := by decide +kernel
theorem dX0_knowTalks_6 : decode MX0_knowTalks.2.1 6 = .ok (.aload_n 1, 1) := by decide +kernel
theorem dX0_knowTalks_7 : decode MX0_knowTalks.2.1 7 = .ok (.getfield 40, 3) := by decide +kernel
theorem dX0_knowTalks_10 : decode MX0_knowTalks.2.1 10 = .ok (.iastore, 1) := by decide +kernel
theorem dX0_knowTalks_11 : decode MX0_knowTalks.2.1 11 = .ok (.aload_n 0, 1) := by decide +kernel
theorem dX0_knowTalks_12 : decode MX0_knowTalks.2.1 12 = .ok (.getfield 9, 3) := by decide +kernel
theorem dX0_knowTalks_15 : decode MX0_knowTalks.2.1 15 = .ok (.bipush 23, 2) := by decide +kernel
theorem dX0_knowTalks_17 : decode MX0_knowTalks.2.1 17 = .ok (.aload_n 0, 1) := by decide +kernel
theorem dX0_knowTalks_18 : decode MX0_knowTalks.2.1 18 = .ok (.getfield 18, 3) := by decide +kernel
theorem dX0_knowTalks_21 : decode MX0_knowTalks.2.1 21 = .ok (.getfield 28, 3) := by decide +kernel
theorem dX0_knowTalks_24 : decode MX0_knowTalks.2.1 24 = .ok (.getfield 45, 3) := by decide +kernel
theorem dX0_knowTalks_27 : decode MX0_knowTalks.2.1 27 = .ok (.iastore, 1) := by decide +kernel
theorem dX0_knowTalks_28 : decode MX0_knowTalks.2.1 28 = .ok (.aload_n 0, 1) := by decide +kernel
theorem dX0_knowTalks_29 : decode MX0_knowTalks.2.1 29 = .ok (.getfield 9, 3) := by decide +kernel
theorem dX0_knowTalks_32 : decode MX0_knowTalks.2.1 32 = .ok (.bipush 26, 2) := by decide +kernel
theorem dX0_knowTalks_34 : decode MX0_knowTalks.2.1 34 = .ok (.aload_n 1, 1) := by decide +kernel
theorem dX0_knowTalks_35 : decode MX0_knowTalks.2.1 35 = .ok (.getfield 47, 3) := by decide +kernel
theorem dX0_knowTalks_38 : decode MX0_knowTalks.2.1 38 = .ok (.iload_n 2, 1) := by decide +kernel
theorem dX0_knowTalks_39 : decode MX0_knowTalks.2.1 39 = .ok (.isub, 1) := by decide +kernel
theorem dX0_knowTalks_40 : decode MX0_knowTalks.2.1 40 = .ok (.iastore, 1) := by decide +kernel
theorem dX0_knowTalks_41 : decode MX0_knowTalks.2.1 41 = .ok (.aload_n 1, 1) := by decide +kernel
theorem dX0_knowTalks_42 : decode MX0_knowTalks.2.1 42 = .ok (.getfield 50, 3) := by decide +kernel
theorem dX0_knowTalks_45 : decode MX0_knowTalks.2.1 45 = .ok (.iconst 0, 1) := by decide +kernel
theorem dX0_knowTalks_46 : decode MX0_knowTalks.2.1 46 = .ok (.aload_n 0, 1) := by decide +kernel
theorem dX0_knowTalks_47 : decode MX0_knowTalks.2.1 47 = .ok (.getfield 9, 3) := by decide +kernel
theorem dX0_knowTalks_50 : decode MX0_knowTalks.2.1 50 = .ok (.bipush 28, 2) := by decide +kernel
theorem dX0_knowTalks_52 : decode MX0_knowTalks.2.1 52 = .ok (.bipush 6, 2) := by decide +kernel
theorem dX0_knowTalks_54 : decode MX0_knowTalks.2.1 54 = .ok (.invokestatic 53, 3) := by decide +kernel
theorem dX0_knowTalks_57 : decode MX0_knowTalks.2.1 57 = .ok (.aload_n 1, 1) := by decide +kernel
theorem dX0_knowTalks_58 : decode MX0_knowTalks.2.1 58 = .ok (.getfield 59, 3) := by decide +kernel
theorem dX0_knowTalks_61 : decode MX0_knowTalks.2.1 61 = .ok (.iconst 0, 1) := by decide +kernel
theorem dX0_knowTalks_62 : decode MX0_knowTalks.2.1 62 = .ok (.aload_n 0, 1) := by decide +kernel
theorem dX0_knowTalks_63 : decode MX0_knowTalks.2.1 63 = .ok (.getfield 9, 3) := by decide +kernel
theorem dX0_knowTalks_66 : decode MX0_knowTalks.2.1 66 = .ok (.bipush 34, 2) := by decide +kernel
theorem dX0_knowTalks_68 : decode MX0_knowTalks.2.1 68 = .ok (.bipush 6, 2) := by decide +kernel
theorem dX0_knowTalks_70 : decode MX0_knowTalks.2.1 70 = .ok (.invokestatic 53, 3) := by decide +kernel
theorem dX0_knowTalks_73 : decode MX0_knowTalks.2.1 73 = .ok (.return_, 1) := by decide +kernel
theorem dX0_shakes_0 : decode MX0_shakes.2.1 0 = .ok (.aload_n 0, 1) := by decide +kernel
theorem dX0_shakes_1 : decode MX0_shakes.2.1 1 = .ok (.getfield 9, 3) := by decide +kernel
theorem dX0_shakes_4 : decode MX0_shakes.2.1 4 = .ok (.bipush 18, 2) := by decide +kernel
theorem dX0_shakes_6 : decode MX0_shakes.2.1 6 = .ok (.aload_n 0, 1) := by decide +kernel
theorem dX0_shakes_7 : decode MX0_shakes.2.1 7 = .ok (.getfield 18, 3) := by decide +kernel
theorem dX0_shakes_10 : decode MX0_shakes.2.1 10 = .ok (.getfield 62, 3) := by decide +kernel
theorem dX0_shakes_13 : decode MX0_shakes.2.1 13 = .ok (.iload_n 1, 1) := by decide +kernel
theorem dX0_shakes_14 : decode MX0_shakes.2.1 14 = .ok (.iconst 4, 1) := by decide +kernel
theorem dX0_shakes_15 : decode MX0_shakes.2.1 15 = .ok (.imul, 1) := by decide +kernel
theorem dX0_shakes_16 : decode MX0_shakes.2.1 16 = .ok (.aload_n 0, 1) := by decide +kernel
theorem dX0_shakes_17 : decode MX0_shakes.2.1 17 = .ok (.getfield 9, 3) := by decide +kernel
theorem dX0_shakes_20 : decode MX0_shakes.2.1 20 = .ok (.bipush 17, 2) := by decide +kernel
theorem dX0_shakes_22 : decode MX0_shakes.2.1 22 = .ok (.iaload, 1) := by decide +kernel
theorem dX0_shakes_23 : decode MX0_shakes.2.1 23 = .ok (.iadd, 1) := by decide +kernel
theorem dX0_shakes_24 : decode MX0_shakes.2.1 24 = .ok (.iaload, 1) := by decide +kernel
theorem dX0_shakes_25 : decode MX0_shakes.2.1 25 = .ok (.iastore, 1) := by decide +kernel
theorem dX0_shakes_26 : decode MX0_shakes.2.1 26 = .ok (.aload_n 0, 1) := by decide +kernel
theorem dX0_shakes_27 : decode MX0_shakes.2.1 27 = .ok (.getfield 9, 3) := by decide +kernel
theorem dX0_shakes_30 : decode MX0_shakes.2.1 30 = .ok (.bipush 19, 2) := by decide +kernel
theorem dX0_shakes_32 : decode MX0_shakes.2.1 32 = .ok (.iload_n 1, 1) := by decide +kernel
theorem dX0_shakes_33 : decode MX0_shakes.2.1 33 = .ok (.iastore, 1) := by decide +kernel
theorem dX0_shakes_34 : decode MX0_shakes.2.1 34 = .ok (.aload_n 0, 1) := by decide +kernel
theorem dX0_shakes_35 : decode MX0_shakes.2.1 35 = .ok (.getfield 9, 3) := by decide +kernel
theorem dX0_shakes_38 : decode MX0_shakes.2.1 38 = .ok (.bipush 21, 2) := by decide +kernel
theorem dX0_shakes_40 : decode MX0_shakes.2.1 40 = .ok (.iload_n 2, 1) := by decide +kernel
theorem dX0_shakes_41 : decode MX0_shakes.2.1 41 = .ok (.iastore, 1) := by decide +kernel
theorem dX0_shakes_42 : decode MX0_shakes.2.1 42 = .ok (.aload_n 0, 1) := by decide +kernel
theorem dX0_shakes_43 : decode MX0_shakes.2.1 43 = .ok (.iconst 1, 1) := by decide +kernel
theorem dX0_shakes_44 : decode MX0_shakes.2.1 44 = .ok (.invokevirtual 65, 3) := by decide +kernel
theorem dX0_shakes_47 : decode MX0_shakes.2.1 47 = .ok (.istore_n 3, 1) := by decide +kernel
theorem dX0_shakes_48 : decode MX0_shakes.2.1 48 = .ok (.iload_n 3, 1) := by decide +kernel
theorem dX0_shakes_49 : decode MX0_shakes.2.1 49 = .ok (.ldc 69, 2) := by decide +kernel
theorem dX0_shakes_51 : decode MX0_shakes.2.1 51 = .ok (.if_icmp .ne 31, 3) := by decide +kernel
theorem dX0_shakes_54 : decode MX0_shakes.2.1 54 = .ok (.iconst 0, 1) := by decide +kernel
theorem dX0_shakes_55 : decode MX0_shakes.2.1 55 = .ok (.aload_n 0, 1) := by decide +kernel
theorem dX0_shakes_56 : decode MX0_shakes.2.1 56 = .ok (.getfield 9, 3) := by decide +kernel
theorem dX0_shakes_59 : decode MX0_shakes.2.1 59 = .ok (.bipush 15, 2) := by decide +kernel
theorem dX0_shakes_61 : decode MX0_shakes.2.1 61 = .ok (.iaload, 1) := by decide +kernel
theorem dX0_shakes_62 : decode MX0_shakes.2.1 62 = .ok (.aload_n 0, 1) := by decide +kernel
theorem dX0_shakes_63 : decode MX0_shakes.2.1 63 = .ok (.getfield 9, 3) := by decide +kernel
theorem dX0_shakes_66 : decode MX0_shakes.2.1 66 = .ok (.bipush 13, 2) := by decide +kernel
theorem dX0_shakes_68 : decode MX0_shakes.2.1 68 = .ok (.iaload, 1) := by decide +kernel
theorem dX0_shakes_69 : decode MX0_shakes.2.1 69 = .ok (.imul, 1) := by decide +kernel
theorem dX0_shakes_70 : decode MX0_shakes.2.1 70 = .ok (.aload_n 0, 1) := by decide +kernel
theorem dX0_shakes_71 : decode MX0_shakes.2.1 71 = .ok (.getfield 9, 3) := by decide +kernel
theorem dX0_shakes_74 : decode MX0_shakes.2.1 74 = .ok (.bipush 18, 2) := by decide +kernel
theorem dX0_shakes_76 : decode MX0_shakes.2.1 76 = .ok (.iaload, 1) := by decide +kernel
theorem dX0_shakes_77 : decode MX0_shakes.2.1 77 = .ok (.isub, 1) := by decide +kernel
theorem dX0_shakes_78 : decode MX0_shakes.2.1 78 = .ok (.invokestatic 70, 3) := by decide +kernel
theorem dX0_shakes_81 : decode MX0_shakes.2.1 81 = .ok (.ireturn, 1) := by decide +kernel
theorem dX0_shakes_82 : decode MX0_shakes.2.1 82 = .ok (.iload_n 3, 1) := by decide +kernel
theorem dX0_shakes_83 : decode MX0_shakes.2.1 83 = .ok (.iconst 0, 1) := by decide +kernel
theorem dX0_shakes_84 : decode MX0_shakes.2.1 84 = .ok (.sipush 999, 3) := by decide +kernel
theorem dX0_shakes_87 : decode MX0_shakes.2.1 87 = .ok (.invokestatic 76, 3) := by decide +kernel
theorem dX0_shakes_90 : decode MX0_shakes.2.1 90 = .ok (.ireturn, 1) := by decide +kernel
theorem dX0_bars_0 : decode MX0_bars.2.1 0 = .ok (.aload_n 0, 1) := by decide +kernel
theorem dX0_bars_1 : decode MX0_bars.2.1 1 = .ok (.getfield 9, 3) := by decide +kernel
theorem dX0_bars_4 : decode MX0_bars.2.1 4 = .ok (.bipush 18, 2) := by decide +kernel
theorem dX0_bars_6 : decode MX0_bars.2.1 6 = .ok (.iconst (-1), 1) := by decide +kernel
theorem dX0_bars_7 : decode MX0_bars.2.1 7 = .ok (.iastore, 1) := by decide +kernel
theorem dX0_bars_8 : decode MX0_bars.2.1 8 = .ok (.aload_n 0, 1) := by decide +kernel
theorem dX0_bars_9 : decode MX0_bars.2.1 9 = .ok (.getfield 9, 3) := by decide +kernel
theorem dX0_bars_12 : decode MX0_bars.2.1 12 = .ok (.bipush 19, 2) := by decide +kernel
theorem dX0_bars_14 : decode MX0_bars.2.1 14 = .ok (.iconst (-1), 1) := by decide +kernel
theorem dX0_bars_15 : decode MX0_bars.2.1 15 = .ok (.iastore, 1) := by decide +kernel
theorem dX0_bars_16 : decode MX0_bars.2.1 16 = .ok (.aload_n 0, 1) := by decide +kernel
theorem dX0_bars_17 : decode MX0_bars.2.1 17 = .ok (.getfield 9, 3) := by decide +kernel
theorem dX0_bars_20 : decode MX0_bars.2.1 20 = .ok (.bipush 21, 2) := by decide +kernel
theorem dX0_bars_22 : decode MX0_bars.2.1 22 = .ok (.iconst (-1), 1) := by decide +kernel
theorem dX0_bars_23 : decode MX0_bars.2.1 23 = .ok (.iastore, 1) := by decide +kernel
theorem dX0_bars_24 : decode MX0_bars.2.1 24 = .ok (.aload_n 0, 1) := by decide +kernel
theorem dX0_bars_25 : decode MX0_bars.2.1 25 = .ok (.iconst 4, 1) := by decide +kernel
theorem dX0_bars_26 : decode MX0_bars.2.1 26 = .ok (.invokevirtual 65, 3) := by decide +kernel
theorem dX0_bars_29 : decode MX0_bars.2.1 29 = .ok (.ldc 69, 2) := by decide +kernel
theorem dX0_bars_31 : decode MX0_bars.2.1 31 = .ok (.if_icmp .eq 7, 3) := by decide +kernel
theorem dX0_bars_34 : decode MX0_bars.2.1 34 = .ok (.iconst 1, 1) := by decide +kernel
theorem dX0_bars_35 : decode MX0_bars.2.1 35 = .ok (.goto 4, 3) := by decide +kernel
theorem dX0_bars_38 : decode MX0_bars.2.1 38 = .ok (.iconst 0, 1) := by decide +kernel
theorem dX0_bars_39 : decode MX0_bars.2.1 39 = .ok (.ireturn, 1) := by decide +kernel
theorem dX0_falls_0 : decode MX0_falls.2.1 0 = .ok (.aload_n 0, 1) := by decide +kernel
theorem dX0_falls_1 : decode MX0_falls.2.1 1 = .ok (.iconst 2, 1) := by decide +kernel
theorem dX0_falls_2 : decode MX0_falls.2.1 2 = .ok (.invokevirtual 65, 3) := by decide +kernel
theorem dX0_falls_5 : decode MX0_falls.2.1 5 = .ok (.istore_n 1, 1) := by decide +kernel
theorem dX0_falls_6 : decode MX0_falls.2.1 6 = .ok (.iload_n 1, 1) := by decide +kernel
theorem dX0_falls_7 : decode MX0_falls.2.1 7 = .ok (.ldc 69, 2) := by decide +kernel
theorem dX0_falls_9 : decode MX0_falls.2.1 9 = .ok (.if_icmp .ne 8, 3) := by decide +kernel
theorem dX0_falls_12 : decode MX0_falls.2.1 12 = .ok (.bipush 10, 2) := by decide +kernel
theorem dX0_falls_14 : decode MX0_falls.2.1 14 = .ok (.goto 10, 3) := by decide +kernel
theorem dX0_falls_17 : decode MX0_falls.2.1 17 = .ok (.iload_n 1, 1) := by decide +kernel
theorem dX0_falls_18 : decode MX0_falls.2.1 18 = .ok (.iconst 0, 1) := by decide +kernel
theorem dX0_falls_19 : decode MX0_falls.2.1 19 = .ok (.bipush 99, 2) := by decide +kernel
theorem dX0_falls_21 : decode MX0_falls.2.1 21 = .ok (.invokestatic 76, 3) := by decide +kernel
theorem dX0_falls_24 : decode MX0_falls.2.1 24 = .ok (.ireturn, 1) := by decide +kernel
theorem dX0_thaws_0 : decode MX0_thaws.2.1 0 = .ok (.aload_n 0, 1) := by decide +kernel
theorem dX0_thaws_1 : decode MX0_thaws.2.1 1 = .ok (.iconst 3, 1) := by decide +kernel
theorem dX0_thaws_2 : decode MX0_thaws.2.1 2 = .ok (.invokevirtual 65, 3) := by decide +kernel
theorem dX0_thaws_5 : decode MX0_thaws.2.1 5 = .ok (.istore_n 1, 1) := by decide +kernel
theorem dX0_thaws_6 : decode MX0_thaws.2.1 6 = .ok (.iload_n 1, 1) := by decide +kernel
theorem dX0_thaws_7 : decode MX0_thaws.2.1 7 = .ok (.ldc 69, 2) := by decide +kernel
theorem dX0_thaws_9 : decode MX0_thaws.2.1 9 = .ok (.if_icmp .ne 7, 3) := by decide +kernel
theorem dX0_thaws_12 : decode MX0_thaws.2.1 12 = .ok (.iconst 0, 1) := by decide +kernel
theorem dX0_thaws_13 : decode MX0_thaws.2.1 13 = .ok (.goto 10, 3) := by decide +kernel
theorem dX0_thaws_16 : decode MX0_thaws.2.1 16 = .ok (.iload_n 1, 1) := by decide +kernel
theorem dX0_thaws_17 : decode MX0_thaws.2.1 17 = .ok (.iconst 0, 1) := by decide +kernel
theorem dX0_thaws_18 : decode MX0_thaws.2.1 18 = .ok (.bipush 99, 2) := by decide +kernel
theorem dX0_thaws_20 : decode MX0_thaws.2.1 20 = .ok (.invokestatic 76, 3) := by decide +kernel
theorem dX0_thaws_23 : decode MX0_thaws.2.1 23 = .ok (.ireturn, 1) := by decide +kernel
theorem dX0_lastTold_0 : decode MX0_lastTold.2.1 0 = .ok (.aload_n 0, 1) := by decide +kernel
theorem dX0_lastTold_1 : decode MX0_lastTold.2.1 1 = .ok (.getfield 18, 3) := by decide +kernel
theorem dX0_lastTold_4 : decode MX0_lastTold.2.1 4 = .ok (.invokevirtual 80, 3) := by decide +kernel
theorem dX0_lastTold_7 : decode MX0_lastTold.2.1 7 = .ok (.astore_n 2, 1) := by decide +kernel
theorem dX0_lastTold_8 : decode MX0_lastTold.2.1 8 = .ok (.aload_n 2, 1) := by decide +kernel
theorem dX0_lastTold_9 : decode MX0_lastTold.2.1 9 = .ok (.ifnonnull 6, 3) := by decide +kernel
theorem dX0_lastTold_12 : decode MX0_lastTold.2.1 12 = .ok (.ldc 69, 2) := by decide +kernel
theorem dX0_lastTold_14 : decode MX0_lastTold.2.1 14 = .ok (.ireturn, 1) := by decide +kernel
theorem dX0_lastTold_15 : decode MX0_lastTold.2.1 15 = .ok (.aload_n 2, 1) := by decide +kernel
theorem dX0_lastTold_16 : decode MX0_lastTold.2.1 16 = .ok (.getfield 84, 3) := by decide +kernel
theorem dX0_lastTold_19 : decode MX0_lastTold.2.1 19 = .ok (.iconst 1, 1) := by decide +kernel
theorem dX0_lastTold_20 : decode MX0_lastTold.2.1 20 = .ok (.isub, 1) := by decide +kernel
theorem dX0_lastTold_21 : decode MX0_lastTold.2.1 21 = .ok (.istore_n 3, 1) := by decide +kernel
theorem dX0_lastTold_22 : decode MX0_lastTold.2.1 22 = .ok (.iload_n 3, 1) := by decide +kernel
theorem dX0_lastTold_23 : decode MX0_lastTold.2.1 23 = .ok (.ifCond .lt 86, 3) := by decide +kernel
theorem dX0_lastTold_26 : decode MX0_lastTold.2.1 26 = .ok (.aload_n 2, 1) := by decide +kernel
theorem dX0_lastTold_27 : decode MX0_lastTold.2.1 27 = .ok (.iload_n 3, 1) := by decide +kernel
theorem dX0_lastTold_28 : decode MX0_lastTold.2.1 28 = .ok (.invokevirtual 89, 3) := by decide +kernel
theorem dX0_lastTold_31 : decode MX0_lastTold.2.1 31 = .ok (.iload_n 1, 1) := by decide +kernel
theorem dX0_lastTold_32 : decode MX0_lastTold.2.1 32 = .ok (.if_icmp .eq 6, 3) := by decide +kernel
theorem dX0_lastTold_35 : decode MX0_lastTold.2.1 35 = .ok (.goto 68, 3) := by decide +kernel
theorem dX0_lastTold_38 : decode MX0_lastTold.2.1 38 = .ok (.aload_n 2, 1) := by decide +kernel
theorem dX0_lastTold_39 : decode MX0_lastTold.2.1 39 = .ok (.iload_n 3, 1) := by decide +kernel
theorem dX0_lastTold_40 : decode MX0_lastTold.2.1 40 = .ok (.invokevirtual 92, 3) := by decide +kernel
theorem dX0_lastTold_43 : decode MX0_lastTold.2.1 43 = .ok (.istore 4, 2) := by decide +kernel
theorem dX0_lastTold_45 : decode MX0_lastTold.2.1 45 = .ok (.iload 4, 2) := by decide +kernel
theorem dX0_lastTold_47 : decode MX0_lastTold.2.1 47 = .ok (.iconst (-1), 1) := by decide +kernel
theorem dX0_lastTold_48 : decode MX0_lastTold.2.1 48 = .ok (.if_icmp .eq 20, 3) := by decide +kernel
theorem dX0_lastTold_51 : decode MX0_lastTold.2.1 51 = .ok (.aload_n 0, 1) := by decide +kernel
theorem dX0_lastTold_52 : decode MX0_lastTold.2.1 52 = .ok (.aload_n 2, 1) := by decide +kernel
theorem dX0_lastTold_53 : decode MX0_lastTold.2.1 53 = .ok (.getfield 95, 3) := by decide +kernel
theorem dX0_lastTold_56 : decode MX0_lastTold.2.1 56 = .ok (.iload 4, 2) := by decide +kernel
theorem dX0_lastTold_58 : decode MX0_lastTold.2.1 58 = .ok (.invokevirtual 98, 3) := by decide +kernel
theorem dX0_lastTold_61 : decode MX0_lastTold.2.1 61 = .ok (.iconst 1, 1) := by decide +kernel
theorem dX0_lastTold_62 : decode MX0_lastTold.2.1 62 = .ok (.if_icmp .eq 6, 3) := by decide +kernel
theorem dX0_lastTold_65 : decode MX0_lastTold.2.1 65 = .ok (.goto 38, 3) := by decide +kernel
theorem dX0_lastTold_68 : decode MX0_lastTold.2.1 68 = .ok (.iload_n 1, 1) := by decide +kernel
theorem dX0_lastTold_69 : decode MX0_lastTold.2.1 69 = .ok (.iconst 4, 1) := by decide +kernel
theorem dX0_lastTold_70 : decode MX0_lastTold.2.1 70 = .ok (.if_icmp .ne 7, 3) := by decide +kernel
theorem dX0_lastTold_73 : decode MX0_lastTold.2.1 73 = .ok (.iconst 1, 1) := by decide +kernel
theorem dX0_lastTold_74 : decode MX0_lastTold.2.1 74 = .ok (.goto 17, 3) := by decide +kernel
theorem dX0_lastTold_77 : decode MX0_lastTold.2.1 77 = .ok (.aload_n 0, 1) := by decide +kernel
theorem dX0_lastTold_78 : decode MX0_lastTold.2.1 78 = .ok (.aload_n 2, 1) := by decide +kernel
theorem dX0_lastTold_79 : decode MX0_lastTold.2.1 79 = .ok (.getfield 95, 3) := by decide +kernel
theorem dX0_lastTold_82 : decode MX0_lastTold.2.1 82 = .ok (.aload_n 2, 1) := by decide +kernel
theorem dX0_lastTold_83 : decode MX0_lastTold.2.1 83 = .ok (.iload_n 3, 1) := by decide +kernel
theorem dX0_lastTold_84 : decode MX0_lastTold.2.1 84 = .ok (.iconst 0, 1) := by decide +kernel
theorem dX0_lastTold_85 : decode MX0_lastTold.2.1 85 = .ok (.invokevirtual 102, 3) := by decide +kernel
theorem dX0_lastTold_88 : decode MX0_lastTold.2.1 88 = .ok (.invokevirtual 98, 3) := by decide +kernel
theorem dX0_lastTold_91 : decode MX0_lastTold.2.1 91 = .ok (.istore 5, 2) := by decide +kernel
theorem dX0_lastTold_93 : decode MX0_lastTold.2.1 93 = .ok (.iload 5, 2) := by decide +kernel
theorem dX0_lastTold_95 : decode MX0_lastTold.2.1 95 = .ok (.ldc 69, 2) := by decide +kernel
theorem dX0_lastTold_97 : decode MX0_lastTold.2.1 97 = .ok (.if_icmp .eq 6, 3) := by decide +kernel
theorem dX0_lastTold_100 : decode MX0_lastTold.2.1 100 = .ok (.iload 5, 2) := by decide +kernel
theorem dX0_lastTold_102 : decode MX0_lastTold.2.1 102 = .ok (.ireturn, 1) := by decide +kernel
theorem dX0_lastTold_103 : decode MX0_lastTold.2.1 103 = .ok (.iinc 3 (-1), 3) := by decide +kernel
theorem dX0_lastTold_106 : decode MX0_lastTold.2.1 106 = .ok (.goto (-84), 3) := by decide +kernel
theorem dX0_lastTold_109 : decode MX0_lastTold.2.1 109 = .ok (.ldc 69, 2) := by decide +kernel
theorem dX0_lastTold_111 : decode MX0_lastTold.2.1 111 = .ok (.ireturn, 1) := by decide +kernel
theorem dX0_value_0 : decode MX0_value.2.1 0 = .ok (.iconst 0, 1) := by decide +kernel
theorem dX0_value_1 : decode MX0_value.2.1 1 = .ok (.istore_n 3, 1) := by decide +kernel
theorem dX0_value_2 : decode MX0_value.2.1 2 = .ok (.iload_n 2, 1) := by decide +kernel
theorem dX0_value_3 : decode MX0_value.2.1 3 = .ok (.istore 4, 2) := by decide +kernel
theorem dX0_value_5 : decode MX0_value.2.1 5 = .ok (.iconst 0, 1) := by decide +kernel
theorem dX0_value_6 : decode MX0_value.2.1 6 = .ok (.istore 5, 2) := by decide +kernel
theorem dX0_value_8 : decode MX0_value.2.1 8 = .ok (.iload 5, 2) := by decide +kernel
theorem dX0_value_10 : decode MX0_value.2.1 10 = .ok (.sipush 512, 3) := by decide +kernel
theorem dX0_value_13 : decode MX0_value.2.1 13 = .ok (.if_icmp .ge 253, 3) := by decide +kernel
theorem dX0_value_16 : decode MX0_value.2.1 16 = .ok (.iload 4, 2) := by decide +kernel
theorem dX0_value_18 : decode MX0_value.2.1 18 = .ok (.ifCond .lt 248, 3) := by decide +kernel
theorem dX0_value_21 : decode MX0_value.2.1 21 = .ok (.iload 4, 2) := by decide +kernel
theorem dX0_value_23 : decode MX0_value.2.1 23 = .ok (.aload_n 1, 1) := by decide +kernel
theorem dX0_value_24 : decode MX0_value.2.1 24 = .ok (.arraylength, 1) := by decide +kernel
theorem dX0_value_25 : decode MX0_value.2.1 25 = .ok (.if_icmp .ge 241, 3) := by decide +kernel
theorem dX0_value_28 : decode MX0_value.2.1 28 = .ok (.aload_n 1, 1) := by decide +kernel
theorem dX0_value_29 : decode MX0_value.2.1 29 = .ok (.iload 4, 2) := by decide +kernel
theorem dX0_value_31 : decode MX0_value.2.1 31 = .ok (.iaload, 1) := by decide +kernel
theorem dX0_value_32 : decode MX0_value.2.1 32 = .ok (.bipush 10, 2) := by decide +kernel
theorem dX0_value_34 : decode MX0_value.2.1 34 = .ok (.ishr, 1) := by decide +kernel
theorem dX0_value_35 : decode MX0_value.2.1 35 = .ok (.istore 6, 2) := by decide +kernel
theorem dX0_value_37 : decode MX0_value.2.1 37 = .ok (.aload_n 1, 1) := by decide +kernel
theorem dX0_value_38 : decode MX0_value.2.1 38 = .ok (.iload 4, 2) := by decide +kernel
theorem dX0_value_40 : decode MX0_value.2.1 40 = .ok (.iaload, 1) := by decide +kernel
theorem dX0_value_41 : decode MX0_value.2.1 41 = .ok (.sipush 1023, 3) := by decide +kernel
theorem dX0_value_44 : decode MX0_value.2.1 44 = .ok (.iand, 1) := by decide +kernel
theorem dX0_value_45 : decode MX0_value.2.1 45 = .ok (.istore 7, 2) := by decide +kernel
theorem dX0_value_47 : decode MX0_value.2.1 47 = .ok (.iinc 4 1, 3) := by decide +kernel
theorem dX0_value_50 : decode MX0_value.2.1 50 = .ok (.iload 6, 2) := by decide +kernel
theorem dX0_value_52 : decode MX0_value.2.1 52 = .ok (.ifCond .ne 6, 3) := by decide +kernel
theorem dX0_value_55 : decode MX0_value.2.1 55 = .ok (.goto 211, 3) := by decide +kernel
theorem dX0_value_58 : decode MX0_value.2.1 58 = .ok (.iload 6, 2) := by decide +kernel
theorem dX0_value_60 : decode MX0_value.2.1 60 = .ok (.iconst 1, 1) := by decide +kernel
theorem dX0_value_61 : decode MX0_value.2.1 61 = .ok (.if_icmp .eq 9, 3) := by decide +kernel
theorem dX0_value_64 : decode MX0_value.2.1 64 = .ok (.iload 6, 2) := by decide +kernel
theorem dX0_value_66 : decode MX0_value.2.1 66 = .ok (.iconst 2, 1) := by decide +kernel
theorem dX0_value_67 : decode MX0_value.2.1 67 = .ok (.if_icmp .ne 55, 3) := by decide +kernel
theorem dX0_value_70 : decode MX0_value.2.1 70 = .ok (.iload_n 3, 1) := by decide +kernel
theorem dX0_value_71 : decode MX0_value.2.1 71 = .ok (.bipush 50, 2) := by decide +kernel
theorem dX0_value_73 : decode MX0_value.2.1 73 = .ok (.if_icmp .ge 16, 3) := by decide +kernel
theorem dX0_value_76 : decode MX0_value.2.1 76 = .ok (.iload 6, 2) := by decide +kernel
theorem dX0_value_78 : decode MX0_value.2.1 78 = .ok (.iconst 2, 1) := by decide +kernel
theorem dX0_value_79 : decode MX0_value.2.1 79 = .ok (.if_icmp .ne 13, 3) := by decide +kernel
theorem dX0_value_82 : decode MX0_value.2.1 82 = .ok (.iload 7, 2) := by decide +kernel
theorem dX0_value_84 : decode MX0_value.2.1 84 = .ok (.bipush 40, 2) := by decide +kernel
theorem dX0_value_86 : decode MX0_value.2.1 86 = .ok (.if_icmp .lt 6, 3) := by decide +kernel
theorem dX0_value_89 : decode MX0_value.2.1 89 = .ok (.ldc 69, 2) := by decide +kernel
theorem dX0_value_91 : decode MX0_value.2.1 91 = .ok (.ireturn, 1) := by decide +kernel
theorem dX0_value_92 : decode MX0_value.2.1 92 = .ok (.aload_n 0, 1) := by decide +kernel
theorem dX0_value_93 : decode MX0_value.2.1 93 = .ok (.getfield 15, 3) := by decide +kernel
theorem dX0_value_96 : decode MX0_value.2.1 96 = .ok (.iload_n 3, 1) := by decide +kernel
theorem dX0_value_97 : decode MX0_value.2.1 97 = .ok (.iload 6, 2) := by decide +kernel
theorem dX0_value_99 : decode MX0_value.2.1 99 = .ok (.iconst 1, 1) := by decide +kernel
theorem dX0_value_100 : decode MX0_value.2.1 100 = .ok (.if_icmp .ne 8, 3) := by decide +kernel
theorem dX0_value_103 : decode MX0_value.2.1 103 = .ok (.iload 7, 2) := by decide +kernel
theorem dX0_value_105 : decode MX0_value.2.1 105 = .ok (.goto 10, 3) := by decide +kernel
theorem dX0_value_108 : decode MX0_value.2.1 108 = .ok (.aload_n 0, 1) := by decide +kernel
theorem dX0_value_109 : decode MX0_value.2.1 109 = .ok (.getfield 9, 3) := by decide +kernel
theorem dX0_value_112 : decode MX0_value.2.1 112 = .ok (.iload 7, 2) := by decide +kernel
theorem dX0_value_114 : decode MX0_value.2.1 114 = .ok (.iaload, 1) := by decide +kernel
theorem dX0_value_115 : decode MX0_value.2.1 115 = .ok (.iastore, 1) := by decide +kernel
theorem dX0_value_116 : decode MX0_value.2.1 116 = .ok (.iinc 3 1, 3) := by decide +kernel
theorem dX0_value_119 : decode MX0_value.2.1 119 = .ok (.goto 141, 3) := by decide +kernel
theorem dX0_value_122 : decode MX0_value.2.1 122 = .ok (.iload_n 3, 1) := by decide +kernel
theorem dX0_value_123 : decode MX0_value.2.1 123 = .ok (.iconst 1, 1) := by decide +kernel
theorem dX0_value_124 : decode MX0_value.2.1 124 = .ok (.if_icmp .ge 6, 3) := by decide +kernel
theorem dX0_value_127 : decode MX0_value.2.1 127 = .ok (.ldc 69, 2) := by decide +kernel
theorem dX0_value_129 : decode MX0_value.2.1 129 = .ok (.ireturn, 1) := by decide +kernel
theorem dX0_value_130 : decode MX0_value.2.1 130 = .ok (.iload 6, 2) := by decide +kernel
theorem dX0_value_132 : decode MX0_value.2.1 132 = .ok (.iconst 3, 1) := by decide +kernel
theorem dX0_value_133 : decode MX0_value.2.1 133 = .ok (.if_icmp .ne 24, 3) := by decide +kernel
theorem dX0_value_136 : decode MX0_value.2.1 136 = .ok (.aload_n 0, 1) := by decide +kernel
theorem dX0_value_137 : decode MX0_value.2.1 137 = .ok (.getfield 15, 3) := by decide +kernel
theorem dX0_value_140 : decode MX0_value.2.1 140 = .ok (.iload_n 3, 1) := by decide +kernel
theorem dX0_value_141 : decode MX0_value.2.1 141 = .ok (.iconst 1, 1) := by decide +kernel
theorem dX0_value_142 : decode MX0_value.2.1 142 = .ok (.isub, 1) := by decide +kernel
theorem dX0_value_143 : decode MX0_value.2.1 143 = .ok (.iconst 1, 1) := by decide +kernel
theorem dX0_value_144 : decode MX0_value.2.1 144 = .ok (.aload_n 0, 1) := by decide +kernel
theorem dX0_value_145 : decode MX0_value.2.1 145 = .ok (.getfield 15, 3) := by decide +kernel
theorem dX0_value_148 : decode MX0_value.2.1 148 = .ok (.iload_n 3, 1) := by decide +kernel
theorem dX0_value_149 : decode MX0_value.2.1 149 = .ok (.iconst 1, 1) := by decide +kernel
theorem dX0_value_150 : decode MX0_value.2.1 150 = .ok (.isub, 1) := by decide +kernel
theorem dX0_value_151 : decode MX0_value.2.1 151 = .ok (.iaload, 1) := by decide +kernel
theorem dX0_value_152 : decode MX0_value.2.1 152 = .ok (.isub, 1) := by decide +kernel
theorem dX0_value_153 : decode MX0_value.2.1 153 = .ok (.iastore, 1) := by decide +kernel
theorem dX0_value_154 : decode MX0_value.2.1 154 = .ok (.goto 106, 3) := by decide +kernel
theorem dX0_value_157 : decode MX0_value.2.1 157 = .ok (.iload 6, 2) := by decide +kernel
theorem dX0_value_159 : decode MX0_value.2.1 159 = .ok (.iconst 4, 1) := by decide +kernel
theorem dX0_value_160 : decode MX0_value.2.1 160 = .ok (.if_icmp .eq 9, 3) := by decide +kernel
theorem dX0_value_163 : decode MX0_value.2.1 163 = .ok (.iload 6, 2) := by decide +kernel
theorem dX0_value_165 : decode MX0_value.2.1 165 = .ok (.iconst 5, 1) := by decide +kernel
theorem dX0_value_166 : decode MX0_value.2.1 166 = .ok (.if_icmp .ne 38, 3) := by decide +kernel
theorem dX0_value_169 : decode MX0_value.2.1 169 = .ok (.aload_n 0, 1) := by decide +kernel
theorem dX0_value_170 : decode MX0_value.2.1 170 = .ok (.getfield 15, 3) := by decide +kernel
theorem dX0_value_173 : decode MX0_value.2.1 173 = .ok (.iload_n 3, 1) := by decide +kernel
theorem dX0_value_174 : decode MX0_value.2.1 174 = .ok (.iconst 1, 1) := by decide +kernel
theorem dX0_value_175 : decode MX0_value.2.1 175 = .ok (.isub, 1) := by decide +kernel
theorem dX0_value_176 : decode MX0_value.2.1 176 = .ok (.iaload, 1) := by decide +kernel
theorem dX0_value_177 : decode MX0_value.2.1 177 = .ok (.iload 6, 2) := by decide +kernel
theorem dX0_value_179 : decode MX0_value.2.1 179 = .ok (.iconst 5, 1) := by decide +kernel
theorem dX0_value_180 : decode MX0_value.2.1 180 = .ok (.if_icmp .ne 7, 3) := by decide +kernel
theorem dX0_value_183 : decode MX0_value.2.1 183 = .ok (.iconst 1, 1) := by decide +kernel
theorem dX0_value_184 : decode MX0_value.2.1 184 = .ok (.goto 4, 3) := by decide +kernel
theorem dX0_value_187 : decode MX0_value.2.1 187 = .ok (.iconst 0, 1) := by decide +kernel
theorem dX0_value_188 : decode MX0_value.2.1 188 = .ok (.if_icmp .ne 10, 3) := by decide +kernel
theorem dX0_value_191 : decode MX0_value.2.1 191 = .ok (.iload 7, 2) := by decide +kernel
theorem dX0_value_193 : decode MX0_value.2.1 193 = .ok (.istore 4, 2) := by decide +kernel
theorem dX0_value_195 : decode MX0_value.2.1 195 = .ok (.goto 65, 3) := by decide +kernel
theorem dX0_value_198 : decode MX0_value.2.1 198 = .ok (.iinc 3 (-1), 3) := by decide +kernel
theorem dX0_value_201 : decode MX0_value.2.1 201 = .ok (.goto 59, 3) := by decide +kernel
theorem dX0_value_204 : decode MX0_value.2.1 204 = .ok (.iinc 3 (-1), 3) := by decide +kernel
theorem dX0_value_207 : decode MX0_value.2.1 207 = .ok (.iload_n 3, 1) := by decide +kernel
theorem dX0_value_208 : decode MX0_value.2.1 208 = .ok (.iconst 1, 1) := by decide +kernel
theorem dX0_value_209 : decode MX0_value.2.1 209 = .ok (.if_icmp .ge 8, 3) := by decide +kernel
theorem dX0_value_212 : decode MX0_value.2.1 212 = .ok (.ldc 69, 2) := by decide +kernel
theorem dX0_value_214 : decode MX0_value.2.1 214 = .ok (.goto 24, 3) := by decide +kernel
theorem dX0_value_217 : decode MX0_value.2.1 217 = .ok (.iload 6, 2) := by decide +kernel
theorem dX0_value_219 : decode MX0_value.2.1 219 = .ok (.aload_n 0, 1) := by decide +kernel
theorem dX0_value_220 : decode MX0_value.2.1 220 = .ok (.getfield 15, 3) := by decide +kernel
theorem dX0_value_223 : decode MX0_value.2.1 223 = .ok (.iload_n 3, 1) := by decide +kernel
theorem dX0_value_224 : decode MX0_value.2.1 224 = .ok (.iconst 1, 1) := by decide +kernel
theorem dX0_value_225 : decode MX0_value.2.1 225 = .ok (.isub, 1) := by decide +kernel
theorem dX0_value_226 : decode MX0_value.2.1 226 = .ok (.iaload, 1) := by decide +kernel
theorem dX0_value_227 : decode MX0_value.2.1 227 = .ok (.i2l, 1) := by decide +kernel
theorem dX0_value_228 : decode MX0_value.2.1 228 = .ok (.aload_n 0, 1) := by decide +kernel
theorem dX0_value_229 : decode MX0_value.2.1 229 = .ok (.getfield 15, 3) := by decide +kernel
theorem dX0_value_232 : decode MX0_value.2.1 232 = .ok (.iload_n 3, 1) := by decide +kernel
theorem dX0_value_233 : decode MX0_value.2.1 233 = .ok (.iaload, 1) := by decide +kernel
theorem dX0_value_234 : decode MX0_value.2.1 234 = .ok (.i2l, 1) := by decide +kernel
theorem dX0_value_235 : decode MX0_value.2.1 235 = .ok (.invokestatic 105, 3) := by decide +kernel
theorem dX0_value_238 : decode MX0_value.2.1 238 = .ok (.istore 8, 2) := by decide +kernel
theorem dX0_value_240 : decode MX0_value.2.1 240 = .ok (.iload 8, 2) := by decide +kernel
theorem dX0_value_242 : decode MX0_value.2.1 242 = .ok (.ldc 69, 2) := by decide +kernel
theorem dX0_value_244 : decode MX0_value.2.1 244 = .ok (.if_icmp .ne 6, 3) := by decide +kernel
theorem dX0_value_247 : decode MX0_value.2.1 247 = .ok (.ldc 69, 2) := by decide +kernel
theorem dX0_value_249 : decode MX0_value.2.1 249 = .ok (.ireturn, 1) := by decide +kernel
theorem dX0_value_250 : decode MX0_value.2.1 250 = .ok (.aload_n 0, 1) := by decide +kernel
theorem dX0_value_251 : decode MX0_value.2.1 251 = .ok (.getfield 15, 3) := by decide +kernel
theorem dX0_value_254 : decode MX0_value.2.1 254 = .ok (.iload_n 3, 1) := by decide +kernel
theorem dX0_value_255 : decode MX0_value.2.1 255 = .ok (.iconst 1, 1) := by decide +kernel
theorem dX0_value_256 : decode MX0_value.2.1 256 = .ok (.isub, 1) := by decide +kernel
theorem dX0_value_257 : decode MX0_value.2.1 257 = .ok (.iload 8, 2) := by decide +kernel
theorem dX0_value_259 : decode MX0_value.2.1 259 = .ok (.iastore, 1) := by decide +kernel
theorem dX0_value_260 : decode MX0_value.2.1 260 = .ok (.iinc 5 1, 3) := by decide +kernel
theorem dX0_value_263 : decode MX0_value.2.1 263 = .ok (.goto (-255), 3) := by decide +kernel
theorem dX0_value_266 : decode MX0_value.2.1 266 = .ok (.iload_n 3, 1) := by decide +kernel
theorem dX0_value_267 : decode MX0_value.2.1 267 = .ok (.ifCond .le 12, 3) := by decide +kernel
theorem dX0_value_270 : decode MX0_value.2.1 270 = .ok (.aload_n 0, 1) := by decide +kernel
theorem dX0_value_271 : decode MX0_value.2.1 271 = .ok (.getfield 15, 3) := by decide +kernel
theorem dX0_value_274 : decode MX0_value.2.1 274 = .ok (.iconst 0, 1) := by decide +kernel
theorem dX0_value_275 : decode MX0_value.2.1 275 = .ok (.iaload, 1) := by decide +kernel
theorem dX0_value_276 : decode MX0_value.2.1 276 = .ok (.goto 5, 3) := by decide +kernel
theorem dX0_value_279 : decode MX0_value.2.1 279 = .ok (.ldc 69, 2) := by decide +kernel
theorem dX0_value_281 : decode MX0_value.2.1 281 = .ok (.ireturn, 1) := by decide +kernel
theorem dX0_joined_0 : decode MX0_joined.2.1 0 = .ok (.lload_n 3, 1) := by decide +kernel
theorem dX0_joined_1 : decode MX0_joined.2.1 1 = .ok (.lconst 0, 1) := by decide +kernel
theorem dX0_joined_2 : decode MX0_joined.2.1 2 = .ok (.lcmp, 1) := by decide +kernel
theorem dX0_joined_3 : decode MX0_joined.2.1 3 = .ok (.ifCond .ne 18, 3) := by decide +kernel
theorem dX0_joined_6 : decode MX0_joined.2.1 6 = .ok (.iload_n 0, 1) := by decide +kernel
theorem dX0_joined_7 : decode MX0_joined.2.1 7 = .ok (.bipush 9, 2) := by decide +kernel
theorem dX0_joined_9 : decode MX0_joined.2.1 9 = .ok (.if_icmp .eq 9, 3) := by decide +kernel
theorem dX0_joined_12 : decode MX0_joined.2.1 12 = .ok (.iload_n 0, 1) := by decide +kernel
theorem dX0_joined_13 : decode MX0_joined.2.1 13 = .ok (.bipush 10, 2) := by decide +kernel
theorem dX0_joined_15 : decode MX0_joined.2.1 15 = .ok (.if_icmp .ne 6, 3) := by decide +kernel
theorem dX0_joined_18 : decode MX0_joined.2.1 18 = .ok (.ldc 69, 2) := by decide +kernel
theorem dX0_joined_20 : decode MX0_joined.2.1 20 = .ok (.ireturn, 1) := by decide +kernel
theorem dX0_joined_21 : decode MX0_joined.2.1 21 = .ok (.iload_n 0, 1) := by decide +kernel
theorem dX0_joined_22 : decode MX0_joined.2.1 22 = .ok (.tableswitch 114 6 12 #[42, 50, 58, 66, 74, 82, 98], 42) := by decide +kernel
theorem dX0_joined_64 : decode MX0_joined.2.1 64 = .ok (.lload_n 1, 1) := by decide +kernel
theorem dX0_joined_65 : decode MX0_joined.2.1 65 = .ok (.lload_n 3, 1) := by decide +kernel
theorem dX0_joined_66 : decode MX0_joined.2.1 66 = .ok (.ladd, 1) := by decide +kernel
theorem dX0_joined_67 : decode MX0_joined.2.1 67 = .ok (.lstore 5, 2) := by decide +kernel
theorem dX0_joined_69 : decode MX0_joined.2.1 69 = .ok (.goto 80, 3) := by decide +kernel
theorem dX0_joined_72 : decode MX0_joined.2.1 72 = .ok (.lload_n 1, 1) := by decide +kernel
theorem dX0_joined_73 : decode MX0_joined.2.1 73 = .ok (.lload_n 3, 1) := by decide +kernel
theorem dX0_joined_74 : decode MX0_joined.2.1 74 = .ok (.lsub, 1) := by decide +kernel
theorem dX0_joined_75 : decode MX0_joined.2.1 75 = .ok (.lstore 5, 2) := by decide +kernel
theorem dX0_joined_77 : decode MX0_joined.2.1 77 = .ok (.goto 72, 3) := by decide +kernel
theorem dX0_joined_80 : decode MX0_joined.2.1 80 = .ok (.lload_n 1, 1) := by decide +kernel
theorem dX0_joined_81 : decode MX0_joined.2.1 81 = .ok (.lload_n 3, 1) := by decide +kernel
theorem dX0_joined_82 : decode MX0_joined.2.1 82 = .ok (.lmul, 1) := by decide +kernel
theorem dX0_joined_83 : decode MX0_joined.2.1 83 = .ok (.lstore 5, 2) := by decide +kernel
theorem dX0_joined_85 : decode MX0_joined.2.1 85 = .ok (.goto 64, 3) := by decide +kernel
theorem dX0_joined_88 : decode MX0_joined.2.1 88 = .ok (.lload_n 1, 1) := by decide +kernel
theorem dX0_joined_89 : decode MX0_joined.2.1 89 = .ok (.lload_n 3, 1) := by decide +kernel
theorem dX0_joined_90 : decode MX0_joined.2.1 90 = .ok (.ldiv, 1) := by decide +kernel
theorem dX0_joined_91 : decode MX0_joined.2.1 91 = .ok (.lstore 5, 2) := by decide +kernel
theorem dX0_joined_93 : decode MX0_joined.2.1 93 = .ok (.goto 56, 3) := by decide +kernel
theorem dX0_joined_96 : decode MX0_joined.2.1 96 = .ok (.lload_n 1, 1) := by decide +kernel
theorem dX0_joined_97 : decode MX0_joined.2.1 97 = .ok (.lload_n 3, 1) := by decide +kernel
theorem dX0_joined_98 : decode MX0_joined.2.1 98 = .ok (.lrem, 1) := by decide +kernel
theorem dX0_joined_99 : decode MX0_joined.2.1 99 = .ok (.lstore 5, 2) := by decide +kernel
theorem dX0_joined_101 : decode MX0_joined.2.1 101 = .ok (.goto 48, 3) := by decide +kernel
theorem dX0_joined_104 : decode MX0_joined.2.1 104 = .ok (.lload_n 1, 1) := by decide +kernel
theorem dX0_joined_105 : decode MX0_joined.2.1 105 = .ok (.lload_n 3, 1) := by decide +kernel
theorem dX0_joined_106 : decode MX0_joined.2.1 106 = .ok (.lcmp, 1) := by decide +kernel
theorem dX0_joined_107 : decode MX0_joined.2.1 107 = .ok (.ifCond .ge 7, 3) := by decide +kernel
theorem dX0_joined_110 : decode MX0_joined.2.1 110 = .ok (.lconst 1, 1) := by decide +kernel
theorem dX0_joined_111 : decode MX0_joined.2.1 111 = .ok (.goto 4, 3) := by decide +kernel
theorem dX0_joined_114 : decode MX0_joined.2.1 114 = .ok (.lconst 0, 1) := by decide +kernel
theorem dX0_joined_115 : decode MX0_joined.2.1 115 = .ok (.lstore 5, 2) := by decide +kernel
theorem dX0_joined_117 : decode MX0_joined.2.1 117 = .ok (.goto 32, 3) := by decide +kernel
theorem dX0_joined_120 : decode MX0_joined.2.1 120 = .ok (.lload_n 1, 1) := by decide +kernel
theorem dX0_joined_121 : decode MX0_joined.2.1 121 = .ok (.lload_n 3, 1) := by decide +kernel
theorem dX0_joined_122 : decode MX0_joined.2.1 122 = .ok (.lcmp, 1) := by decide +kernel
theorem dX0_joined_123 : decode MX0_joined.2.1 123 = .ok (.ifCond .le 7, 3) := by decide +kernel
theorem dX0_joined_126 : decode MX0_joined.2.1 126 = .ok (.lconst 1, 1) := by decide +kernel
theorem dX0_joined_127 : decode MX0_joined.2.1 127 = .ok (.goto 4, 3) := by decide +kernel
theorem dX0_joined_130 : decode MX0_joined.2.1 130 = .ok (.lconst 0, 1) := by decide +kernel
theorem dX0_joined_131 : decode MX0_joined.2.1 131 = .ok (.lstore 5, 2) := by decide +kernel
theorem dX0_joined_133 : decode MX0_joined.2.1 133 = .ok (.goto 16, 3) := by decide +kernel
theorem dX0_joined_136 : decode MX0_joined.2.1 136 = .ok (.lload_n 1, 1) := by decide +kernel
theorem dX0_joined_137 : decode MX0_joined.2.1 137 = .ok (.lload_n 3, 1) := by decide +kernel
theorem dX0_joined_138 : decode MX0_joined.2.1 138 = .ok (.lcmp, 1) := by decide +kernel
theorem dX0_joined_139 : decode MX0_joined.2.1 139 = .ok (.ifCond .ne 7, 3) := by decide +kernel
theorem dX0_joined_142 : decode MX0_joined.2.1 142 = .ok (.lconst 1, 1) := by decide +kernel
theorem dX0_joined_143 : decode MX0_joined.2.1 143 = .ok (.goto 4, 3) := by decide +kernel
theorem dX0_joined_146 : decode MX0_joined.2.1 146 = .ok (.lconst 0, 1) := by decide +kernel
theorem dX0_joined_147 : decode MX0_joined.2.1 147 = .ok (.lstore 5, 2) := by decide +kernel
theorem dX0_joined_149 : decode MX0_joined.2.1 149 = .ok (.lload 5, 2) := by decide +kernel
theorem dX0_joined_151 : decode MX0_joined.2.1 151 = .ok (.ldc2_w 109, 3) := by decide +kernel
theorem dX0_joined_154 : decode MX0_joined.2.1 154 = .ok (.lcmp, 1) := by decide +kernel
theorem dX0_joined_155 : decode MX0_joined.2.1 155 = .ok (.ifCond .gt 12, 3) := by decide +kernel
theorem dX0_joined_158 : decode MX0_joined.2.1 158 = .ok (.lload 5, 2) := by decide +kernel
theorem dX0_joined_160 : decode MX0_joined.2.1 160 = .ok (.ldc2_w 111, 3) := by decide +kernel
theorem dX0_joined_163 : decode MX0_joined.2.1 163 = .ok (.lcmp, 1) := by decide +kernel
theorem dX0_joined_164 : decode MX0_joined.2.1 164 = .ok (.ifCond .ge 8, 3) := by decide +kernel
theorem dX0_joined_167 : decode MX0_joined.2.1 167 = .ok (.ldc 69, 2) := by decide +kernel
theorem dX0_joined_169 : decode MX0_joined.2.1 169 = .ok (.goto 6, 3) := by decide +kernel
theorem dX0_joined_172 : decode MX0_joined.2.1 172 = .ok (.lload 5, 2) := by decide +kernel
theorem dX0_joined_174 : decode MX0_joined.2.1 174 = .ok (.l2i, 1) := by decide +kernel
theorem dX0_joined_175 : decode MX0_joined.2.1 175 = .ok (.ireturn, 1) := by decide +kernel
theorem dX1_init_0 : decode MX1_init.2.1 0 = .ok (.aload_n 0, 1) := by decide +kernel
theorem dX1_init_1 : decode MX1_init.2.1 1 = .ok (.invokespecial 3, 3) := by decide +kernel
theorem dX1_init_4 : decode MX1_init.2.1 4 = .ok (.aload_n 0, 1) := by decide +kernel
theorem dX1_init_5 : decode MX1_init.2.1 5 = .ok (.bipush 48, 2) := by decide +kernel
theorem dX1_init_7 : decode MX1_init.2.1 7 = .ok (.newarray .boolean, 2) := by decide +kernel
theorem dX1_init_9 : decode MX1_init.2.1 9 = .ok (.putfield 11, 3) := by decide +kernel
theorem dX1_init_12 : decode MX1_init.2.1 12 = .ok (.aload_n 0, 1) := by decide +kernel
theorem dX1_init_13 : decode MX1_init.2.1 13 = .ok (.bipush 6, 2) := by decide +kernel
theorem dX1_init_15 : decode MX1_init.2.1 15 = .ok (.newarray .boolean, 2) := by decide +kernel
theorem dX1_init_17 : decode MX1_init.2.1 17 = .ok (.putfield 15, 3) := by decide +kernel
theorem dX1_init_20 : decode MX1_init.2.1 20 = .ok (.aload_n 0, 1) := by decide +kernel
theorem dX1_init_21 : decode MX1_init.2.1 21 = .ok (.bipush 24, 2) := by decide +kernel
theorem dX1_init_23 : decode MX1_init.2.1 23 = .ok (.newarray .int, 2) := by decide +kernel
theorem dX1_init_25 : decode MX1_init.2.1 25 = .ok (.putfield 18, 3) := by decide +kernel
theorem dX1_init_28 : decode MX1_init.2.1 28 = .ok (.aload_n 0, 1) := by decide +kernel
theorem dX1_init_29 : decode MX1_init.2.1 29 = .ok (.bipush 24, 2) := by decide +kernel
theorem dX1_init_31 : decode MX1_init.2.1 31 = .ok (.newarray .int, 2) := by decide +kernel
theorem dX1_init_33 : decode MX1_init.2.1 33 = .ok (.putfield 22, 3) := by decide +kernel
theorem dX1_init_36 : decode MX1_init.2.1 36 = .ok (.aload_n 0, 1) := by decide +kernel
theorem dX1_init_37 : decode MX1_init.2.1 37 = .ok (.bipush 6, 2) := by decide +kernel
theorem dX1_init_39 : decode MX1_init.2.1 39 = .ok (.newarray .int, 2) := by decide +kernel
theorem dX1_init_41 : decode MX1_init.2.1 41 = .ok (.putfield 25, 3) := by decide +kernel
theorem dX1_init_44 : decode MX1_init.2.1 44 = .ok (.aload_n 0, 1) := by decide +kernel
theorem dX1_init_45 : decode MX1_init.2.1 45 = .ok (.sipush 1152, 3) := by decide +kernel
theorem dX1_init_48 : decode MX1_init.2.1 48 = .ok (.newarray .int, 2) := by decide +kernel
theorem dX1_init_50 : decode MX1_init.2.1 50 = .ok (.putfield 28, 3) := by decide +kernel
theorem dX1_init_53 : decode MX1_init.2.1 53 = .ok (.aload_n 0, 1) := by decide +kernel
theorem dX1_init_54 : decode MX1_init.2.1 54 = .ok (.bipush 24, 2) := by decide +kernel
theorem dX1_init_56 : decode MX1_init.2.1 56 = .ok (.newarray .int, 2) := by decide +kernel
theorem dX1_init_58 : decode MX1_init.2.1 58 = .ok (.putfield 31, 3) := by decide +kernel
theorem dX1_init_61 : decode MX1_init.2.1 61 = .ok (.aload_n 0, 1) := by decide +kernel
theorem dX1_init_62 : decode MX1_init.2.1 62 = .ok (.bipush 24, 2) := by decide +kernel
theorem dX1_init_64 : decode MX1_init.2.1 64 = .ok (.newarray .int, 2) := by decide +kernel
theorem dX1_init_66 : decode MX1_init.2.1 66 = .ok (.putfield 34, 3) := by decide +kernel
theorem dX1_init_69 : decode MX1_init.2.1 69 = .ok (.aload_n 0, 1) := by decide +kernel
theorem dX1_init_70 : decode MX1_init.2.1 70 = .ok (.bipush 18, 2) := by decide +kernel
theorem dX1_init_72 : decode MX1_init.2.1 72 = .ok (.newarray .int, 2) := by decide +kernel
theorem dX1_init_74 : decode MX1_init.2.1 74 = .ok (.putfield 37, 3) := by decide +kernel
theorem dX1_init_77 : decode MX1_init.2.1 77 = .ok (.aload_n 0, 1) := by decide +kernel
theorem dX1_init_78 : decode MX1_init.2.1 78 = .ok (.iconst 3, 1) := by decide +kernel
theorem dX1_init_79 : decode MX1_init.2.1 79 = .ok (.newarray .int, 2) := by decide +kernel
theorem dX1_init_81 : decode MX1_init.2.1 81 = .ok (.putfield 40, 3) := by decide +kernel
theorem dX1_init_84 : decode MX1_init.2.1 84 = .ok (.aload_n 0, 1) := by decide +kernel
theorem dX1_init_85 : decode MX1_init.2.1 85 = .ok (.aload_n 1, 1) := by decide +kernel
theorem dX1_init_86 : decode MX1_init.2.1 86 = .ok (.putfield 43, 3) := by decide +kernel
theorem dX1_init_89 : decode MX1_init.2.1 89 = .ok (.aload_n 0, 1) := by decide +kernel
theorem dX1_init_90 : decode MX1_init.2.1 90 = .ok (.aload_n 2, 1) := by decide +kernel
theorem dX1_init_91 : decode MX1_init.2.1 91 = .ok (.putfield 47, 3) := by decide +kernel
theorem dX1_init_94 : decode MX1_init.2.1 94 = .ok (.return_, 1) := by decide +kernel
theorem dX1_begin_0 : decode MX1_begin.2.1 0 = .ok (.aload_n 0, 1) := by decide +kernel
theorem dX1_begin_1 : decode MX1_begin.2.1 1 = .ok (.iload_n 1, 1) := by decide +kernel
theorem dX1_begin_2 : decode MX1_begin.2.1 2 = .ok (.putfield 51, 3) := by decide +kernel
theorem dX1_begin_5 : decode MX1_begin.2.1 5 = .ok (.aload_n 0, 1) := by decide +kernel
theorem dX1_begin_6 : decode MX1_begin.2.1 6 = .ok (.iload_n 2, 1) := by decide +kernel
theorem dX1_begin_7 : decode MX1_begin.2.1 7 = .ok (.putfield 55, 3) := by decide +kernel
theorem dX1_begin_10 : decode MX1_begin.2.1 10 = .ok (.aload_n 0, 1) := by decide +kernel
theorem dX1_begin_11 : decode MX1_begin.2.1 11 = .ok (.aload_n 0, 1) := by decide +kernel
theorem dX1_begin_12 : decode MX1_begin.2.1 12 = .ok (.getfield 43, 3) := by decide +kernel
theorem dX1_begin_15 : decode MX1_begin.2.1 15 = .ok (.getfield 58, 3) := by decide +kernel
theorem dX1_begin_18 : decode MX1_begin.2.1 18 = .ok (.getfield 64, 3) := by decide +kernel
theorem dX1_begin_21 : decode MX1_begin.2.1 21 = .ok (.iconst 3, 1) := by decide +kernel
theorem dX1_begin_22 : decode MX1_begin.2.1 22 = .ok (.imul, 1) := by decide +kernel
theorem dX1_begin_23 : decode MX1_begin.2.1 23 = .ok (.putfield 69, 3) := by decide +kernel
theorem dX1_begin_26 : decode MX1_begin.2.1 26 = .ok (.aload_n 0, 1) := by decide +kernel
theorem dX1_begin_27 : decode MX1_begin.2.1 27 = .ok (.getfield 47, 3) := by decide +kernel
theorem dX1_begin_30 : decode MX1_begin.2.1 30 = .ok (.aload_n 0, 1) := by decide +kernel
theorem dX1_begin_31 : decode MX1_begin.2.1 31 = .ok (.getfield 43, 3) := by decide +kernel
theorem dX1_begin_34 : decode MX1_begin.2.1 34 = .ok (.getfield 72, 3) := by decide +kernel
theorem dX1_begin_37 : decode MX1_begin.2.1 37 = .ok (.getfield 76, 3) := by decide +kernel
theorem dX1_begin_40 : decode MX1_begin.2.1 40 = .ok (.invokevirtual 81, 3) := by decide +kernel
theorem dX1_begin_43 : decode MX1_begin.2.1 43 = .ok (.iconst 0, 1) := by decide +kernel
theorem dX1_begin_44 : decode MX1_begin.2.1 44 = .ok (.istore_n 3, 1) := by decide +kernel
theorem dX1_begin_45 : decode MX1_begin.2.1 45 = .ok (.iload_n 3, 1) := by decide +kernel
theorem dX1_begin_46 : decode MX1_begin.2.1 46 = .ok (.aload_n 0, 1) := by decide +kernel
theorem dX1_begin_47 : decode MX1_begin.2.1 47 = .ok (.getfield 69, 3) := by decide +kernel
theorem dX1_begin_50 : decode MX1_begin.2.1 50 = .ok (.if_icmp .ge 46, 3) := by decide +kernel
theorem dX1_begin_53 : decode MX1_begin.2.1 53 = .ok (.aload_n 0, 1) := by decide +kernel
theorem dX1_begin_54 : decode MX1_begin.2.1 54 = .ok (.getfield 47, 3) := by decide +kernel
theorem dX1_begin_57 : decode MX1_begin.2.1 57 = .ok (.iload_n 3, 1) := by decide +kernel
theorem dX1_begin_58 : decode MX1_begin.2.1 58 = .ok (.iconst 3, 1) := by decide +kernel
theorem dX1_begin_59 : decode MX1_begin.2.1 59 = .ok (.idiv, 1) := by decide +kernel
theorem dX1_begin_60 : decode MX1_begin.2.1 60 = .ok (.iload_n 2, 1) := by decide +kernel
theorem dX1_begin_61 : decode MX1_begin.2.1 61 = .ok (.iload_n 3, 1) := by decide +kernel
theorem dX1_begin_62 : decode MX1_begin.2.1 62 = .ok (.iconst 3, 1) := by decide +kernel
theorem dX1_begin_63 : decode MX1_begin.2.1 63 = .ok (.irem, 1) := by decide +kernel
theorem dX1_begin_64 : decode MX1_begin.2.1 64 = .ok (.iconst 1, 1) := by decide +kernel
theorem dX1_begin_65 : decode MX1_begin.2.1 65 = .ok (.iadd, 1) := by decide +kernel
theorem dX1_begin_66 : decode MX1_begin.2.1 66 = .ok (.invokevirtual 87, 3) := by decide +kernel
theorem dX1_begin_69 : decode MX1_begin.2.1 69 = .ok (.aload_n 0, 1) := by decide +kernel
theorem dX1_begin_70 : decode MX1_begin.2.1 70 = .ok (.getfield 11, 3) := by decide +kernel
theorem dX1_begin_73 : decode MX1_begin.2.1 73 = .ok (.iload_n 3, 1) := by decide +kernel
theorem dX1_begin_74 : decode MX1_begin.2.1 74 = .ok (.aload_n 0, 1) := by decide +kernel
theorem dX1_begin_75 : decode MX1_begin.2.1 75 = .ok (.getfield 47, 3) := by decide +kernel
theorem dX1_begin_78 : decode MX1_begin.2.1 78 = .ok (.invokevirtual 91, 3) := by decide +kernel
theorem dX1_begin_81 : decode MX1_begin.2.1 81 = .ok (.ifCond .ne 7, 3) := by decide +kernel
theorem dX1_begin_84 : decode MX1_begin.2.1 84 = .ok (.iconst 1, 1) := by decide +kernel
theorem dX1_begin_85 : decode MX1_begin.2.1 85 = .ok (.goto 4, 3) := by decide +kernel
theorem dX1_begin_88 : decode MX1_begin.2.1 88 = .ok (.iconst 0, 1) := by decide +kernel
theorem dX1_begin_89 : decode MX1_begin.2.1 89 = .ok (.bastore, 1) := by decide +kernel
theorem dX1_begin_90 : decode MX1_begin.2.1 90 = .ok (.iinc 3 1, 3) := by decide +kernel
theorem dX1_begin_93 : decode MX1_begin.2.1 93 = .ok (.goto (-48), 3) := by decide +kernel
theorem dX1_begin_96 : decode MX1_begin.2.1 96 = .ok (.aload_n 0, 1) := by decide +kernel
theorem dX1_begin_97 : decode MX1_begin.2.1 97 = .ok (.getfield 25, 3) := by decide +kernel
theorem dX1_begin_100 : decode MX1_begin.2.1 100 = .ok (.iconst 0, 1) := by decide +kernel
theorem dX1_begin_101 : decode MX1_begin.2.1 101 = .ok (.invokestatic 95, 3) := by decide +kernel
theorem dX1_begin_104 : decode MX1_begin.2.1 104 = .ok (.aload_n 0, 1) := by decide +kernel
theorem dX1_begin_105 : decode MX1_begin.2.1 105 = .ok (.getfield 43, 3) := by decide +kernel
theorem dX1_begin_108 : decode MX1_begin.2.1 108 = .ok (.getfield 72, 3) := by decide +kernel
theorem dX1_begin_111 : decode MX1_begin.2.1 111 = .ok (.getfield 101, 3) := by decide +kernel
theorem dX1_begin_114 : decode MX1_begin.2.1 114 = .ok (.iconst 0, 1) := by decide +kernel
theorem dX1_begin_115 : decode MX1_begin.2.1 115 = .ok (.aload_n 0, 1) := by decide +kernel
theorem dX1_begin_116 : decode MX1_begin.2.1 116 = .ok (.getfield 31, 3) := by decide +kernel
theorem dX1_begin_119 : decode MX1_begin.2.1 119 = .ok (.iconst 0, 1) := by decide +kernel
theorem dX1_begin_120 : decode MX1_begin.2.1 120 = .ok (.bipush 6, 2) := by decide +kernel
theorem dX1_begin_122 : decode MX1_begin.2.1 122 = .ok (.invokestatic 102, 3) := by decide +kernel
theorem dX1_begin_125 : decode MX1_begin.2.1 125 = .ok (.aload_n 0, 1) := by decide +kernel
theorem dX1_begin_126 : decode MX1_begin.2.1 126 = .ok (.getfield 43, 3) := by decide +kernel
theorem dX1_begin_129 : decode MX1_begin.2.1 129 = .ok (.getfield 72, 3) := by decide +kernel
theorem dX1_begin_132 : decode MX1_begin.2.1 132 = .ok (.getfield 108, 3) := by decide +kernel
theorem dX1_begin_135 : decode MX1_begin.2.1 135 = .ok (.iconst 0, 1) := by decide +kernel
theorem dX1_begin_136 : decode MX1_begin.2.1 136 = .ok (.aload_n 0, 1) := by decide +kernel
theorem dX1_begin_137 : decode MX1_begin.2.1 137 = .ok (.getfield 34, 3) := by decide +kernel
theorem dX1_begin_140 : decode MX1_begin.2.1 140 = .ok (.iconst 0, 1) := by decide +kernel
theorem dX1_begin_141 : decode MX1_begin.2.1 141 = .ok (.bipush 6, 2) := by decide +kernel
theorem dX1_begin_143 : decode MX1_begin.2.1 143 = .ok (.invokestatic 102, 3) := by decide +kernel
theorem dX1_begin_146 : decode MX1_begin.2.1 146 = .ok (.iconst 5, 1) := by decide +kernel
theorem dX1_begin_147 : decode MX1_begin.2.1 147 = .ok (.istore_n 3, 1) := by decide +kernel
theorem dX1_begin_148 : decode MX1_begin.2.1 148 = .ok (.iload_n 3, 1) := by decide +kernel
theorem dX1_begin_149 : decode MX1_begin.2.1 149 = .ok (.ifCond .lt 63, 3) := by decide +kernel
theorem dX1_begin_152 : decode MX1_begin.2.1 152 = .ok (.aload_n 0, 1) := by decide +kernel
theorem dX1_begin_153 : decode MX1_begin.2.1 153 = .ok (.getfield 43, 3) := by decide +kernel
theorem dX1_begin_156 : decode MX1_begin.2.1 156 = .ok (.getfield 109, 3) := by decide +kernel
theorem dX1_begin_159 : decode MX1_begin.2.1 159 = .ok (.iload_n 3, 1) := by decide +kernel
theorem dX1_begin_160 : decode MX1_begin.2.1 160 = .ok (.iaload, 1) := by decide +kernel
theorem dX1_begin_161 : decode MX1_begin.2.1 161 = .ok (.istore 4, 2) := by decide +kernel
theorem dX1_begin_163 : decode MX1_begin.2.1 163 = .ok (.aload_n 0, 1) := by decide +kernel
theorem dX1_begin_164 : decode MX1_begin.2.1 164 = .ok (.getfield 15, 3) := by decide +kernel
theorem dX1_begin_167 : decode MX1_begin.2.1 167 = .ok (.iload_n 3, 1) := by decide +kernel
theorem dX1_begin_168 : decode MX1_begin.2.1 168 = .ok (.iload_n 3, 1) := by decide +kernel
theorem dX1_begin_169 : decode MX1_begin.2.1 169 = .ok (.aload_n 0, 1) := by decide +kernel
theorem dX1_begin_170 : decode MX1_begin.2.1 170 = .ok (.getfield 51, 3) := by decide +kernel
theorem dX1_begin_173 : decode MX1_begin.2.1 173 = .ok (.if_icmp .eq 27, 3) := by decide +kernel
theorem dX1_begin_176 : decode MX1_begin.2.1 176 = .ok (.iload 4, 2) := by decide +kernel
theorem dX1_begin_178 : decode MX1_begin.2.1 178 = .ok (.invokestatic 112, 3) := by decide +kernel
theorem dX1_begin_181 : decode MX1_begin.2.1 181 = .ok (.ifCond .eq 23, 3) := by decide +kernel
theorem dX1_begin_184 : decode MX1_begin.2.1 184 = .ok (.iload 4, 2) := by decide +kernel
theorem dX1_begin_186 : decode MX1_begin.2.1 186 = .ok (.iload_n 3, 1) := by decide +kernel
theorem dX1_begin_187 : decode MX1_begin.2.1 187 = .ok (.if_icmp .le 17, 3) := by decide +kernel
theorem dX1_begin_190 : decode MX1_begin.2.1 190 = .ok (.aload_n 0, 1) := by decide +kernel
theorem dX1_begin_191 : decode MX1_begin.2.1 191 = .ok (.getfield 15, 3) := by decide +kernel
theorem dX1_begin_194 : decode MX1_begin.2.1 194 = .ok (.iload 4, 2) := by decide +kernel
theorem dX1_begin_196 : decode MX1_begin.2.1 196 = .ok (.baload, 1) := by decide +kernel
theorem dX1_begin_197 : decode MX1_begin.2.1 197 = .ok (.ifCond .eq 7, 3) := by decide +kernel
theorem dX1_begin_200 : decode MX1_begin.2.1 200 = .ok (.iconst 1, 1) := by decide +kernel
theorem dX1_begin_201 : decode MX1_begin.2.1 201 = .ok (.goto 4, 3) := by decide +kernel
theorem dX1_begin_204 : decode MX1_begin.2.1 204 = .ok (.iconst 0, 1) := by decide +kernel
theorem dX1_begin_205 : decode MX1_begin.2.1 205 = .ok (.bastore, 1) := by decide +kernel
theorem dX1_begin_206 : decode MX1_begin.2.1 206 = .ok (.iinc 3 (-1), 3) := by decide +kernel
theorem dX1_begin_209 : decode MX1_begin.2.1 209 = .ok (.goto (-61), 3) := by decide +kernel
theorem dX1_begin_212 : decode MX1_begin.2.1 212 = .ok (.return_, 1) := by decide +kernel
theorem dX1_search_0 : decode MX1_search.2.1 0 = .ok (.aload_n 0, 1) := by decide +kernel
theorem dX1_search_1 : decode MX1_search.2.1 1 = .ok (.iload_n 1, 1) := by decide +kernel
theorem dX1_search_2 : decode MX1_search.2.1 2 = .ok (.invokevirtual 116, 3) := by decide +kernel
theorem dX1_search_5 : decode MX1_search.2.1 5 = .ok (.aload_n 0, 1) := by decide +kernel
theorem dX1_search_6 : decode MX1_search.2.1 6 = .ok (.iload_n 1, 1) := by decide +kernel
theorem dX1_search_7 : decode MX1_search.2.1 7 = .ok (.iload_n 2, 1) := by decide +kernel
theorem dX1_search_8 : decode MX1_search.2.1 8 = .ok (.invokevirtual 119, 3) := by decide +kernel
theorem dX1_search_11 : decode MX1_search.2.1 11 = .ok (.ifCond .ne 5, 3) := by decide +kernel
theorem dX1_search_14 : decode MX1_search.2.1 14 = .ok (.iconst 0, 1) := by decide +kernel
theorem dX1_search_15 : decode MX1_search.2.1 15 = .ok (.ireturn, 1) := by decide +kernel
theorem dX1_search_16 : decode MX1_search.2.1 16 = .ok (.iconst 0, 1) := by decide +kernel
theorem dX1_search_17 : decode MX1_search.2.1 17 = .ok (.istore 4, 2) := by decide +kernel
theorem dX1_search_19 : decode MX1_search.2.1 19 = .ok (.iload 4, 2) := by decide +kernel
theorem dX1_search_21 : decode MX1_search.2.1 21 = .ok (.aload_n 0, 1) := by decide +kernel
theorem dX1_search_22 : decode MX1_search.2.1 22 = .ok (.getfield 69, 3) := by decide +kernel
theorem dX1_search_25 : decode MX1_search.2.1 25 = .ok (.if_icmp .ge 130, 3) := by decide +kernel
theorem dX1_search_28 : decode MX1_search.2.1 28 = .ok (.aload_n 0, 1) := by decide +kernel
theorem dX1_search_29 : decode MX1_search.2.1 29 = .ok (.getfield 11, 3) := by decide +kernel
theorem dX1_search_32 : decode MX1_search.2.1 32 = .ok (.iload 4, 2) := by decide +kernel
theorem dX1_search_34 : decode MX1_search.2.1 34 = .ok (.baload, 1) := by decide +kernel
theorem dX1_search_35 : decode MX1_search.2.1 35 = .ok (.ifCond .eq 114, 3) := by decide +kernel
theorem dX1_search_38 : decode MX1_search.2.1 38 = .ok (.iload_n 2, 1) := by decide +kernel
theorem dX1_search_39 : decode MX1_search.2.1 39 = .ok (.iconst 1, 1) := by decide +kernel
theorem dX1_search_40 : decode MX1_search.2.1 40 = .ok (.if_icmp .ne 16, 3) := by decide +kernel
theorem dX1_search_43 : decode MX1_search.2.1 43 = .ok (.aload_n 0, 1) := by decide +kernel
theorem dX1_search_44 : decode MX1_search.2.1 44 = .ok (.iload_n 1, 1) := by decide +kernel
theorem dX1_search_45 : decode MX1_search.2.1 45 = .ok (.iload 4, 2) := by decide +kernel
theorem dX1_search_47 : decode MX1_search.2.1 47 = .ok (.invokevirtual 123, 3) := by decide +kernel
theorem dX1_search_50 : decode MX1_search.2.1 50 = .ok (.ifCond .ne 6, 3) := by decide +kernel
theorem dX1_search_53 : decode MX1_search.2.1 53 = .ok (.goto 96, 3) := by decide +kernel
theorem dX1_search_56 : decode MX1_search.2.1 56 = .ok (.aload_n 0, 1) := by decide +kernel
theorem dX1_search_57 : decode MX1_search.2.1 57 = .ok (.iload_n 1, 1) := by decide +kernel
theorem dX1_search_58 : decode MX1_search.2.1 58 = .ok (.iload 4, 2) := by decide +kernel
theorem dX1_search_60 : decode MX1_search.2.1 60 = .ok (.invokevirtual 126, 3) := by decide +kernel
theorem dX1_search_63 : decode MX1_search.2.1 63 = .ok (.istore 5, 2) := by decide +kernel
theorem dX1_search_65 : decode MX1_search.2.1 65 = .ok (.iload 5, 2) := by decide +kernel
theorem dX1_search_67 : decode MX1_search.2.1 67 = .ok (.iconst (-1), 1) := by decide +kernel
theorem dX1_search_68 : decode MX1_search.2.1 68 = .ok (.if_icmp .eq 81, 3) := by decide +kernel
theorem dX1_search_71 : decode MX1_search.2.1 71 = .ok (.iload 5, 2) := by decide +kernel
theorem dX1_search_73 : decode MX1_search.2.1 73 = .ok (.ifCond .ne 17, 3) := by decide +kernel
theorem dX1_search_76 : decode MX1_search.2.1 76 = .ok (.iload_n 2, 1) := by decide +kernel
theorem dX1_search_77 : decode MX1_search.2.1 77 = .ok (.iconst 1, 1) := by decide +kernel
theorem dX1_search_78 : decode MX1_search.2.1 78 = .ok (.if_icmp .eq 71, 3) := by decide +kernel
theorem dX1_search_81 : decode MX1_search.2.1 81 = .ok (.iload 4, 2) := by decide +kernel
theorem dX1_search_83 : decode MX1_search.2.1 83 = .ok (.iload_n 3, 1) := by decide +kernel
theorem dX1_search_84 : decode MX1_search.2.1 84 = .ok (.if_icmp .ge 6, 3) := by decide +kernel
theorem dX1_search_87 : decode MX1_search.2.1 87 = .ok (.goto 62, 3) := by decide +kernel
theorem dX1_search_90 : decode MX1_search.2.1 90 = .ok (.aload_n 0, 1) := by decide +kernel
theorem dX1_search_91 : decode MX1_search.2.1 91 = .ok (.getfield 40, 3) := by decide +kernel
theorem dX1_search_94 : decode MX1_search.2.1 94 = .ok (.iload_n 1, 1) := by decide +kernel
theorem dX1_search_95 : decode MX1_search.2.1 95 = .ok (.iload 4, 2) := by decide +kernel
theorem dX1_search_97 : decode MX1_search.2.1 97 = .ok (.iastore, 1) := by decide +kernel
theorem dX1_search_98 : decode MX1_search.2.1 98 = .ok (.iload_n 2, 1) := by decide +kernel
theorem dX1_search_99 : decode MX1_search.2.1 99 = .ok (.iconst 1, 1) := by decide +kernel
theorem dX1_search_100 : decode MX1_search.2.1 100 = .ok (.if_icmp .ne 18, 3) := by decide +kernel
theorem dX1_search_103 : decode MX1_search.2.1 103 = .ok (.iload 5, 2) := by decide +kernel
theorem dX1_search_105 : decode MX1_search.2.1 105 = .ok (.aload_n 0, 1) := by decide +kernel
theorem dX1_search_106 : decode MX1_search.2.1 106 = .ok (.getfield 51, 3) := by decide +kernel
theorem dX1_search_109 : decode MX1_search.2.1 109 = .ok (.ishr, 1) := by decide +kernel
theorem dX1_search_110 : decode MX1_search.2.1 110 = .ok (.iconst 1, 1) := by decide +kernel
theorem dX1_search_111 : decode MX1_search.2.1 111 = .ok (.iand, 1) := by decide +kernel
theorem dX1_search_112 : decode MX1_search.2.1 112 = .ok (.iconst 1, 1) := by decide +kernel
theorem dX1_search_113 : decode MX1_search.2.1 113 = .ok (.if_icmp .ne 36, 3) := by decide +kernel
theorem dX1_search_116 : decode MX1_search.2.1 116 = .ok (.iconst 1, 1) := by decide +kernel
theorem dX1_search_117 : decode MX1_search.2.1 117 = .ok (.ireturn, 1) := by decide +kernel
theorem dX1_search_118 : decode MX1_search.2.1 118 = .ok (.aload_n 0, 1) := by decide +kernel
theorem dX1_search_119 : decode MX1_search.2.1 119 = .ok (.iload_n 1, 1) := by decide +kernel
theorem dX1_search_120 : decode MX1_search.2.1 120 = .ok (.iconst 1, 1) := by decide +kernel
theorem dX1_search_121 : decode MX1_search.2.1 121 = .ok (.iadd, 1) := by decide +kernel
theorem dX1_search_122 : decode MX1_search.2.1 122 = .ok (.iload_n 2, 1) := by decide +kernel
theorem dX1_search_123 : decode MX1_search.2.1 123 = .ok (.iconst 1, 1) := by decide +kernel
theorem dX1_search_124 : decode MX1_search.2.1 124 = .ok (.isub, 1) := by decide +kernel
theorem dX1_search_125 : decode MX1_search.2.1 125 = .ok (.iload 5, 2) := by decide +kernel
theorem dX1_search_127 : decode MX1_search.2.1 127 = .ok (.ifCond .ne 8, 3) := by decide +kernel
theorem dX1_search_130 : decode MX1_search.2.1 130 = .ok (.iload 4, 2) := by decide +kernel
theorem dX1_search_132 : decode MX1_search.2.1 132 = .ok (.goto 4, 3) := by decide +kernel
theorem dX1_search_135 : decode MX1_search.2.1 135 = .ok (.iconst 0, 1) := by decide +kernel
theorem dX1_search_136 : decode MX1_search.2.1 136 = .ok (.invokevirtual 130, 3) := by decide +kernel
theorem dX1_search_139 : decode MX1_search.2.1 139 = .ok (.ifCond .eq 5, 3) := by decide +kernel
theorem dX1_search_142 : decode MX1_search.2.1 142 = .ok (.iconst 1, 1) := by decide +kernel
theorem dX1_search_143 : decode MX1_search.2.1 143 = .ok (.ireturn, 1) := by decide +kernel
theorem dX1_search_144 : decode MX1_search.2.1 144 = .ok (.aload_n 0, 1) := by decide +kernel
theorem dX1_search_145 : decode MX1_search.2.1 145 = .ok (.iload_n 1, 1) := by decide +kernel
theorem dX1_search_146 : decode MX1_search.2.1 146 = .ok (.invokevirtual 116, 3) := by decide +kernel
theorem dX1_search_149 : decode MX1_search.2.1 149 = .ok (.iinc 4 1, 3) := by decide +kernel
theorem dX1_search_152 : decode MX1_search.2.1 152 = .ok (.goto (-133), 3) := by decide +kernel
theorem dX1_search_155 : decode MX1_search.2.1 155 = .ok (.iconst 0, 1) := by decide +kernel
theorem dX1_search_156 : decode MX1_search.2.1 156 = .ok (.ireturn, 1) := by decide +kernel
theorem dX1_lookUp_0 : decode MX1_lookUp.2.1 0 = .ok (.iload_n 1, 1) := by decide +kernel
theorem dX1_lookUp_1 : decode MX1_lookUp.2.1 1 = .ok (.bipush 6, 2) := by decide +kernel
theorem dX1_lookUp_3 : decode MX1_lookUp.2.1 3 = .ok (.imul, 1) := by decide +kernel
theorem dX1_lookUp_4 : decode MX1_lookUp.2.1 4 = .ok (.istore_n 2, 1) := by decide +kernel
theorem dX1_lookUp_5 : decode MX1_lookUp.2.1 5 = .ok (.iload_n 2, 1) := by decide +kernel
theorem dX1_lookUp_6 : decode MX1_lookUp.2.1 6 = .ok (.iload_n 1, 1) := by decide +kernel
theorem dX1_lookUp_7 : decode MX1_lookUp.2.1 7 = .ok (.bipush 6, 2) := by decide +kernel
theorem dX1_lookUp_9 : decode MX1_lookUp.2.1 9 = .ok (.imul, 1) := by decide +kernel
theorem dX1_lookUp_10 : decode MX1_lookUp.2.1 10 = .ok (.bipush 6, 2) := by decide +kernel
theorem dX1_lookUp_12 : decode MX1_lookUp.2.1 12 = .ok (.iadd, 1) := by decide +kernel
theorem dX1_lookUp_13 : decode MX1_lookUp.2.1 13 = .ok (.if_icmp .ge 31, 3) := by decide +kernel
theorem dX1_lookUp_16 : decode MX1_lookUp.2.1 16 = .ok (.aload_n 0, 1) := by decide +kernel
theorem dX1_lookUp_17 : decode MX1_lookUp.2.1 17 = .ok (.getfield 37, 3) := by decide +kernel
theorem dX1_lookUp_20 : decode MX1_lookUp.2.1 20 = .ok (.iload_n 2, 1) := by decide +kernel
theorem dX1_lookUp_21 : decode MX1_lookUp.2.1 21 = .ok (.aload_n 0, 1) := by decide +kernel
theorem dX1_lookUp_22 : decode MX1_lookUp.2.1 22 = .ok (.iload_n 2, 1) := by decide +kernel
theorem dX1_lookUp_23 : decode MX1_lookUp.2.1 23 = .ok (.iload_n 1, 1) := by decide +kernel
theorem dX1_lookUp_24 : decode MX1_lookUp.2.1 24 = .ok (.bipush 6, 2) := by decide +kernel
theorem dX1_lookUp_26 : decode MX1_lookUp.2.1 26 = .ok (.imul, 1) := by decide +kernel
theorem dX1_lookUp_27 : decode MX1_lookUp.2.1 27 = .ok (.isub, 1) := by decide +kernel
theorem dX1_lookUp_28 : decode MX1_lookUp.2.1 28 = .ok (.aload_n 0, 1) := by decide +kernel
theorem dX1_lookUp_29 : decode MX1_lookUp.2.1 29 = .ok (.getfield 31, 3) := by decide +kernel
theorem dX1_lookUp_32 : decode MX1_lookUp.2.1 32 = .ok (.iload_n 2, 1) := by decide +kernel
theorem dX1_lookUp_33 : decode MX1_lookUp.2.1 33 = .ok (.iaload, 1) := by decide +kernel
theorem dX1_lookUp_34 : decode MX1_lookUp.2.1 34 = .ok (.invokevirtual 134, 3) := by decide +kernel
theorem dX1_lookUp_37 : decode MX1_lookUp.2.1 37 = .ok (.iastore, 1) := by decide +kernel
theorem dX1_lookUp_38 : decode MX1_lookUp.2.1 38 = .ok (.iinc 2 1, 3) := by decide +kernel
theorem dX1_lookUp_41 : decode MX1_lookUp.2.1 41 = .ok (.goto (-36), 3) := by decide +kernel
theorem dX1_lookUp_44 : decode MX1_lookUp.2.1 44 = .ok (.return_, 1) := by decide +kernel
theorem dX1_columnOf_0 : decode MX1_columnOf.2.1 0 = .ok (.aload_n 0, 1) := by decide +kernel
theorem dX1_columnOf_1 : decode MX1_columnOf.2.1 1 = .ok (.getfield 25, 3) := by decide +kernel
theorem dX1_columnOf_4 : decode MX1_columnOf.2.1 4 = .ok (.iload_n 1, 1) := by decide +kernel
theorem dX1_columnOf_5 : decode MX1_columnOf.2.1 5 = .ok (.iaload, 1) := by decide +kernel
theorem dX1_columnOf_6 : decode MX1_columnOf.2.1 6 = .ok (.istore_n 3, 1) := by decide +kernel
theorem dX1_columnOf_7 : decode MX1_columnOf.2.1 7 = .ok (.iconst 0, 1) := by decide +kernel
theorem dX1_columnOf_8 : decode MX1_columnOf.2.1 8 = .ok (.istore 4, 2) := by decide +kernel
theorem dX1_columnOf_10 : decode MX1_columnOf.2.1 10 = .ok (.iload 4, 2) := by decide +kernel
theorem dX1_columnOf_12 : decode MX1_columnOf.2.1 12 = .ok (.iconst 4, 1) := by decide +kernel
theorem dX1_columnOf_13 : decode MX1_columnOf.2.1 13 = .ok (.if_icmp .ge 37, 3) := by decide +kernel
theorem dX1_columnOf_16 : decode MX1_columnOf.2.1 16 = .ok (.iload 4, 2) := by decide +kernel
theorem dX1_columnOf_18 : decode MX1_columnOf.2.1 18 = .ok (.iload_n 3, 1) := by decide +kernel
theorem dX1_columnOf_19 : decode MX1_columnOf.2.1 19 = .ok (.if_icmp .ge 31, 3) := by decide +kernel
theorem dX1_columnOf_22 : decode MX1_columnOf.2.1 22 = .ok (.aload_n 0, 1) := by decide +kernel
theorem dX1_columnOf_23 : decode MX1_columnOf.2.1 23 = .ok (.getfield 18, 3) := by decide +kernel
theorem dX1_columnOf_26 : decode MX1_columnOf.2.1 26 = .ok (.iload_n 1, 1) := by decide +kernel
theorem dX1_columnOf_27 : decode MX1_columnOf.2.1 27 = .ok (.iconst 4, 1) := by decide +kernel
theorem dX1_columnOf_28 : decode MX1_columnOf.2.1 28 = .ok (.imul, 1) := by decide +kernel
theorem dX1_columnOf_29 : decode MX1_columnOf.2.1 29 = .ok (.iload 4, 2) := by decide +kernel
theorem dX1_columnOf_31 : decode MX1_columnOf.2.1 31 = .ok (.iadd, 1) := by decide +kernel
theorem dX1_columnOf_32 : decode MX1_columnOf.2.1 32 = .ok (.iaload, 1) := by decide +kernel
theorem dX1_columnOf_33 : decode MX1_columnOf.2.1 33 = .ok (.iload_n 2, 1) := by decide +kernel
theorem dX1_columnOf_34 : decode MX1_columnOf.2.1 34 = .ok (.if_icmp .ne 10, 3) := by decide +kernel
theorem dX1_columnOf_37 : decode MX1_columnOf.2.1 37 = .ok (.iload_n 1, 1) := by decide +kernel
theorem dX1_columnOf_38 : decode MX1_columnOf.2.1 38 = .ok (.iconst 4, 1) := by decide +kernel
theorem dX1_columnOf_39 : decode MX1_columnOf.2.1 39 = .ok (.imul, 1) := by decide +kernel
theorem dX1_columnOf_40 : decode MX1_columnOf.2.1 40 = .ok (.iload 4, 2) := by decide +kernel
theorem dX1_columnOf_42 : decode MX1_columnOf.2.1 42 = .ok (.iadd, 1) := by decide +kernel
theorem dX1_columnOf_43 : decode MX1_columnOf.2.1 43 = .ok (.ireturn, 1) := by decide +kernel
theorem dX1_columnOf_44 : decode MX1_columnOf.2.1 44 = .ok (.iinc 4 1, 3) := by decide +kernel
theorem dX1_columnOf_47 : decode MX1_columnOf.2.1 47 = .ok (.goto (-37), 3) := by decide +kernel
theorem dX1_columnOf_50 : decode MX1_columnOf.2.1 50 = .ok (.iload_n 1, 1) := by decide +kernel
theorem dX1_columnOf_51 : decode MX1_columnOf.2.1 51 = .ok (.iconst 4, 1) := by decide +kernel
theorem dX1_columnOf_52 : decode MX1_columnOf.2.1 52 = .ok (.imul, 1) := by decide +kernel
theorem dX1_columnOf_53 : decode MX1_columnOf.2.1 53 = .ok (.iload_n 3, 1) := by decide +kernel
theorem dX1_columnOf_54 : decode MX1_columnOf.2.1 54 = .ok (.iconst 4, 1) := by decide +kernel
theorem dX1_columnOf_55 : decode MX1_columnOf.2.1 55 = .ok (.irem, 1) := by decide +kernel
theorem dX1_columnOf_56 : decode MX1_columnOf.2.1 56 = .ok (.iadd, 1) := by decide +kernel
theorem dX1_columnOf_57 : decode MX1_columnOf.2.1 57 = .ok (.istore 4, 2) := by decide +kernel
theorem dX1_columnOf_59 : decode MX1_columnOf.2.1 59 = .ok (.aload_n 0, 1) := by decide +kernel
theorem dX1_columnOf_60 : decode MX1_columnOf.2.1 60 = .ok (.getfield 25, 3) := by decide +kernel
theorem dX1_columnOf_63 : decode MX1_columnOf.2.1 63 = .ok (.iload_n 1, 1) := by decide +kernel
theorem dX1_columnOf_64 : decode MX1_columnOf.2.1 64 = .ok (.dup2, 1) := by decide +kernel
theorem dX1_columnOf_65 : decode MX1_columnOf.2.1 65 = .ok (.iaload, 1) := by decide +kernel
theorem dX1_columnOf_66 : decode MX1_columnOf.2.1 66 = .ok (.iconst 1, 1) := by decide +kernel
theorem dX1_columnOf_67 : decode MX1_columnOf.2.1 67 = .ok (.iadd, 1) := by decide +kernel
theorem dX1_columnOf_68 : decode MX1_columnOf.2.1 68 = .ok (.iastore, 1) := by decide +kernel
theorem dX1_columnOf_69 : decode MX1_columnOf.2.1 69 = .ok (.aload_n 0, 1) := by decide +kernel
theorem dX1_columnOf_70 : decode MX1_columnOf.2.1 70 = .ok (.getfield 18, 3) := by decide +kernel
theorem dX1_columnOf_73 : decode MX1_columnOf.2.1 73 = .ok (.iload 4, 2) := by decide +kernel
theorem dX1_columnOf_75 : decode MX1_columnOf.2.1 75 = .ok (.iload_n 2, 1) := by decide +kernel
theorem dX1_columnOf_76 : decode MX1_columnOf.2.1 76 = .ok (.iastore, 1) := by decide +kernel
theorem dX1_columnOf_77 : decode MX1_columnOf.2.1 77 = .ok (.aload_n 0, 1) := by decide +kernel
theorem dX1_columnOf_78 : decode MX1_columnOf.2.1 78 = .ok (.getfield 22, 3) := by decide +kernel
theorem dX1_columnOf_81 : decode MX1_columnOf.2.1 81 = .ok (.iload 4, 2) := by decide +kernel
theorem dX1_columnOf_83 : decode MX1_columnOf.2.1 83 = .ok (.iconst 0, 1) := by decide +kernel
theorem dX1_columnOf_84 : decode MX1_columnOf.2.1 84 = .ok (.iastore, 1) := by decide +kernel
theorem dX1_columnOf_85 : decode MX1_columnOf.2.1 85 = .ok (.iconst 0, 1) := by decide +kernel
theorem dX1_columnOf_86 : decode MX1_columnOf.2.1 86 = .ok (.istore 5, 2) := by decide +kernel
theorem dX1_columnOf_88 : decode MX1_columnOf.2.1 88 = .ok (.iload 5, 2) := by decide +kernel
theorem dX1_columnOf_90 : decode MX1_columnOf.2.1 90 = .ok (.aload_n 0, 1) := by decide +kernel
theorem dX1_columnOf_91 : decode MX1_columnOf.2.1 91 = .ok (.getfield 69, 3) := by decide +kernel
theorem dX1_columnOf_94 : decode MX1_columnOf.2.1 94 = .ok (.if_icmp .ge 85, 3) := by decide +kernel
theorem dX1_columnOf_97 : decode MX1_columnOf.2.1 97 = .ok (.aload_n 0, 1) := by decide +kernel
theorem dX1_columnOf_98 : decode MX1_columnOf.2.1 98 = .ok (.getfield 11, 3) := by decide +kernel
theorem dX1_columnOf_101 : decode MX1_columnOf.2.1 101 = .ok (.iload 5, 2) := by decide +kernel
theorem dX1_columnOf_103 : decode MX1_columnOf.2.1 103 = .ok (.baload, 1) := by decide +kernel
theorem dX1_columnOf_104 : decode MX1_columnOf.2.1 104 = .ok (.ifCond .eq 69, 3) := by decide +kernel
theorem dX1_columnOf_107 : decode MX1_columnOf.2.1 107 = .ok (.aload_n 0, 1) := by decide +kernel
theorem dX1_columnOf_108 : decode MX1_columnOf.2.1 108 = .ok (.getfield 47, 3) := by decide +kernel
theorem dX1_columnOf_111 : decode MX1_columnOf.2.1 111 = .ok (.iload 5, 2) := by decide +kernel
theorem dX1_columnOf_113 : decode MX1_columnOf.2.1 113 = .ok (.iconst 3, 1) := by decide +kernel
theorem dX1_columnOf_114 : decode MX1_columnOf.2.1 114 = .ok (.idiv, 1) := by decide +kernel
theorem dX1_columnOf_115 : decode MX1_columnOf.2.1 115 = .ok (.aload_n 0, 1) := by decide +kernel
theorem dX1_columnOf_116 : decode MX1_columnOf.2.1 116 = .ok (.getfield 55, 3) := by decide +kernel
theorem dX1_columnOf_119 : decode MX1_columnOf.2.1 119 = .ok (.iload 5, 2) := by decide +kernel
theorem dX1_columnOf_121 : decode MX1_columnOf.2.1 121 = .ok (.iconst 3, 1) := by decide +kernel
theorem dX1_columnOf_122 : decode MX1_columnOf.2.1 122 = .ok (.irem, 1) := by decide +kernel
theorem dX1_columnOf_123 : decode MX1_columnOf.2.1 123 = .ok (.iconst 1, 1) := by decide +kernel
theorem dX1_columnOf_124 : decode MX1_columnOf.2.1 124 = .ok (.iadd, 1) := by decide +kernel
theorem dX1_columnOf_125 : decode MX1_columnOf.2.1 125 = .ok (.invokevirtual 87, 3) := by decide +kernel
theorem dX1_columnOf_128 : decode MX1_columnOf.2.1 128 = .ok (.aload_n 0, 1) := by decide +kernel
theorem dX1_columnOf_129 : decode MX1_columnOf.2.1 129 = .ok (.getfield 47, 3) := by decide +kernel
theorem dX1_columnOf_132 : decode MX1_columnOf.2.1 132 = .ok (.iload_n 1, 1) := by decide +kernel
theorem dX1_columnOf_133 : decode MX1_columnOf.2.1 133 = .ok (.iload_n 2, 1) := by decide +kernel
theorem dX1_columnOf_134 : decode MX1_columnOf.2.1 134 = .ok (.invokevirtual 137, 3) := by decide +kernel
theorem dX1_columnOf_137 : decode MX1_columnOf.2.1 137 = .ok (.istore 6, 2) := by decide +kernel
theorem dX1_columnOf_139 : decode MX1_columnOf.2.1 139 = .ok (.aload_n 0, 1) := by decide +kernel
theorem dX1_columnOf_140 : decode MX1_columnOf.2.1 140 = .ok (.getfield 28, 3) := by decide +kernel
theorem dX1_columnOf_143 : decode MX1_columnOf.2.1 143 = .ok (.iload 4, 2) := by decide +kernel
theorem dX1_columnOf_145 : decode MX1_columnOf.2.1 145 = .ok (.bipush 48, 2) := by decide +kernel
theorem dX1_columnOf_147 : decode MX1_columnOf.2.1 147 = .ok (.imul, 1) := by decide +kernel
theorem dX1_columnOf_148 : decode MX1_columnOf.2.1 148 = .ok (.iload 5, 2) := by decide +kernel
theorem dX1_columnOf_150 : decode MX1_columnOf.2.1 150 = .ok (.iadd, 1) := by decide +kernel
theorem dX1_columnOf_151 : decode MX1_columnOf.2.1 151 = .ok (.iload 6, 2) := by decide +kernel
theorem dX1_columnOf_153 : decode MX1_columnOf.2.1 153 = .ok (.iastore, 1) := by decide +kernel
theorem dX1_columnOf_154 : decode MX1_columnOf.2.1 154 = .ok (.aload_n 0, 1) := by decide +kernel
theorem dX1_columnOf_155 : decode MX1_columnOf.2.1 155 = .ok (.getfield 22, 3) := by decide +kernel
theorem dX1_columnOf_158 : decode MX1_columnOf.2.1 158 = .ok (.iload 4, 2) := by decide +kernel
theorem dX1_columnOf_160 : decode MX1_columnOf.2.1 160 = .ok (.aload_n 0, 1) := by decide +kernel
theorem dX1_columnOf_161 : decode MX1_columnOf.2.1 161 = .ok (.getfield 22, 3) := by decide +kernel
theorem dX1_columnOf_164 : decode MX1_columnOf.2.1 164 = .ok (.iload 4, 2) := by decide +kernel
theorem dX1_columnOf_166 : decode MX1_columnOf.2.1 166 = .ok (.iaload, 1) := by decide +kernel
theorem dX1_columnOf_167 : decode MX1_columnOf.2.1 167 = .ok (.iload 6, 2) := by decide +kernel
theorem dX1_columnOf_169 : decode MX1_columnOf.2.1 169 = .ok (.invokestatic 139, 3) := by decide +kernel
theorem dX1_columnOf_172 : decode MX1_columnOf.2.1 172 = .ok (.iastore, 1) := by decide +kernel
theorem dX1_columnOf_173 : decode MX1_columnOf.2.1 173 = .ok (.iinc 5 1, 3) := by decide +kernel
theorem dX1_columnOf_176 : decode MX1_columnOf.2.1 176 = .ok (.goto (-88), 3) := by decide +kernel
theorem dX1_columnOf_179 : decode MX1_columnOf.2.1 179 = .ok (.iload 4, 2) := by decide +kernel
theorem dX1_columnOf_181 : decode MX1_columnOf.2.1 181 = .ok (.ireturn, 1) := by decide +kernel
theorem dX1_canReach_0 : decode MX1_canReach.2.1 0 = .ok (.iconst 0, 1) := by decide +kernel
theorem dX1_canReach_1 : decode MX1_canReach.2.1 1 = .ok (.istore_n 3, 1) := by decide +kernel
theorem dX1_canReach_2 : decode MX1_canReach.2.1 2 = .ok (.iload_n 3, 1) := by decide +kernel
theorem dX1_canReach_3 : decode MX1_canReach.2.1 3 = .ok (.bipush 6, 2) := by decide +kernel
theorem dX1_canReach_5 : decode MX1_canReach.2.1 5 = .ok (.if_icmp .ge 84, 3) := by decide +kernel
theorem dX1_canReach_8 : decode MX1_canReach.2.1 8 = .ok (.iload_n 1, 1) := by decide +kernel
theorem dX1_canReach_9 : decode MX1_canReach.2.1 9 = .ok (.bipush 6, 2) := by decide +kernel
theorem dX1_canReach_11 : decode MX1_canReach.2.1 11 = .ok (.imul, 1) := by decide +kernel
theorem dX1_canReach_12 : decode MX1_canReach.2.1 12 = .ok (.iload_n 3, 1) := by decide +kernel
theorem dX1_canReach_13 : decode MX1_canReach.2.1 13 = .ok (.iadd, 1) := by decide +kernel
theorem dX1_canReach_14 : decode MX1_canReach.2.1 14 = .ok (.istore 4, 2) := by decide +kernel
theorem dX1_canReach_16 : decode MX1_canReach.2.1 16 = .ok (.aload_n 0, 1) := by decide +kernel
theorem dX1_canReach_17 : decode MX1_canReach.2.1 17 = .ok (.getfield 31, 3) := by decide +kernel
theorem dX1_canReach_20 : decode MX1_canReach.2.1 20 = .ok (.iload 4, 2) := by decide +kernel
theorem dX1_canReach_22 : decode MX1_canReach.2.1 22 = .ok (.iaload, 1) := by decide +kernel
theorem dX1_canReach_23 : decode MX1_canReach.2.1 23 = .ok (.aload_n 0, 1) := by decide +kernel
theorem dX1_canReach_24 : decode MX1_canReach.2.1 24 = .ok (.getfield 34, 3) := by decide +kernel
theorem dX1_canReach_27 : decode MX1_canReach.2.1 27 = .ok (.iload 4, 2) := by decide +kernel
theorem dX1_canReach_29 : decode MX1_canReach.2.1 29 = .ok (.iaload, 1) := by decide +kernel
theorem dX1_canReach_30 : decode MX1_canReach.2.1 30 = .ok (.iadd, 1) := by decide +kernel
theorem dX1_canReach_31 : decode MX1_canReach.2.1 31 = .ok (.iload_n 2, 1) := by decide +kernel
theorem dX1_canReach_32 : decode MX1_canReach.2.1 32 = .ok (.aload_n 0, 1) := by decide +kernel
theorem dX1_canReach_33 : decode MX1_canReach.2.1 33 = .ok (.getfield 22, 3) := by decide +kernel
theorem dX1_canReach_36 : decode MX1_canReach.2.1 36 = .ok (.aload_n 0, 1) := by decide +kernel
theorem dX1_canReach_37 : decode MX1_canReach.2.1 37 = .ok (.getfield 37, 3) := by decide +kernel
theorem dX1_canReach_40 : decode MX1_canReach.2.1 40 = .ok (.iload 4, 2) := by decide +kernel
theorem dX1_canReach_42 : decode MX1_canReach.2.1 42 = .ok (.iaload, 1) := by decide +kernel
theorem dX1_canReach_43 : decode MX1_canReach.2.1 43 = .ok (.iaload, 1) := by decide +kernel
theorem dX1_canReach_44 : decode MX1_canReach.2.1 44 = .ok (.imul, 1) := by decide +kernel
theorem dX1_canReach_45 : decode MX1_canReach.2.1 45 = .ok (.iadd, 1) := by decide +kernel
theorem dX1_canReach_46 : decode MX1_canReach.2.1 46 = .ok (.istore 5, 2) := by decide +kernel
theorem dX1_canReach_48 : decode MX1_canReach.2.1 48 = .ok (.aload_n 0, 1) := by decide +kernel
theorem dX1_canReach_49 : decode MX1_canReach.2.1 49 = .ok (.getfield 15, 3) := by decide +kernel
theorem dX1_canReach_52 : decode MX1_canReach.2.1 52 = .ok (.iload_n 3, 1) := by decide +kernel
theorem dX1_canReach_53 : decode MX1_canReach.2.1 53 = .ok (.baload, 1) := by decide +kernel
theorem dX1_canReach_54 : decode MX1_canReach.2.1 54 = .ok (.ifCond .eq 29, 3) := by decide +kernel
theorem dX1_canReach_57 : decode MX1_canReach.2.1 57 = .ok (.aload_n 0, 1) := by decide +kernel
theorem dX1_canReach_58 : decode MX1_canReach.2.1 58 = .ok (.getfield 31, 3) := by decide +kernel
theorem dX1_canReach_61 : decode MX1_canReach.2.1 61 = .ok (.iload 4, 2) := by decide +kernel
theorem dX1_canReach_63 : decode MX1_canReach.2.1 63 = .ok (.iaload, 1) := by decide +kernel
theorem dX1_canReach_64 : decode MX1_canReach.2.1 64 = .ok (.ifCond .le 19, 3) := by decide +kernel
theorem dX1_canReach_67 : decode MX1_canReach.2.1 67 = .ok (.iload 5, 2) := by decide +kernel
theorem dX1_canReach_69 : decode MX1_canReach.2.1 69 = .ok (.aload_n 0, 1) := by decide +kernel
theorem dX1_canReach_70 : decode MX1_canReach.2.1 70 = .ok (.getfield 43, 3) := by decide +kernel
theorem dX1_canReach_73 : decode MX1_canReach.2.1 73 = .ok (.getfield 144, 3) := by decide +kernel
theorem dX1_canReach_76 : decode MX1_canReach.2.1 76 = .ok (.iload_n 3, 1) := by decide +kernel
theorem dX1_canReach_77 : decode MX1_canReach.2.1 77 = .ok (.iaload, 1) := by decide +kernel
theorem dX1_canReach_78 : decode MX1_canReach.2.1 78 = .ok (.if_icmp .le 5, 3) := by decide +kernel
theorem dX1_canReach_81 : decode MX1_canReach.2.1 81 = .ok (.iconst 1, 1) := by decide +kernel
theorem dX1_canReach_82 : decode MX1_canReach.2.1 82 = .ok (.ireturn, 1) := by decide +kernel
theorem dX1_canReach_83 : decode MX1_canReach.2.1 83 = .ok (.iinc 3 1, 3) := by decide +kernel
theorem dX1_canReach_86 : decode MX1_canReach.2.1 86 = .ok (.goto (-84), 3) := by decide +kernel
theorem dX1_canReach_89 : decode MX1_canReach.2.1 89 = .ok (.iconst 0, 1) := by decide +kernel
theorem dX1_canReach_90 : decode MX1_canReach.2.1 90 = .ok (.ireturn, 1) := by decide +kernel
theorem dX1_stirs_0 : decode MX1_stirs.2.1 0 = .ok (.iconst 0, 1) := by decide +kernel
theorem dX1_stirs_1 : decode MX1_stirs.2.1 1 = .ok (.istore_n 3, 1) := by decide +kernel
theorem dX1_stirs_2 : decode MX1_stirs.2.1 2 = .ok (.iload_n 3, 1) := by decide +kernel
theorem dX1_stirs_3 : decode MX1_stirs.2.1 3 = .ok (.bipush 6, 2) := by decide +kernel
theorem dX1_stirs_5 : decode MX1_stirs.2.1 5 = .ok (.if_icmp .ge 87, 3) := by decide +kernel
theorem dX1_stirs_8 : decode MX1_stirs.2.1 8 = .ok (.iload_n 1, 1) := by decide +kernel
theorem dX1_stirs_9 : decode MX1_stirs.2.1 9 = .ok (.bipush 6, 2) := by decide +kernel
theorem dX1_stirs_11 : decode MX1_stirs.2.1 11 = .ok (.imul, 1) := by decide +kernel
theorem dX1_stirs_12 : decode MX1_stirs.2.1 12 = .ok (.iload_n 3, 1) := by decide +kernel
theorem dX1_stirs_13 : decode MX1_stirs.2.1 13 = .ok (.iadd, 1) := by decide +kernel
theorem dX1_stirs_14 : decode MX1_stirs.2.1 14 = .ok (.istore 4, 2) := by decide +kernel
theorem dX1_stirs_16 : decode MX1_stirs.2.1 16 = .ok (.aload_n 0, 1) := by decide +kernel
theorem dX1_stirs_17 : decode MX1_stirs.2.1 17 = .ok (.getfield 31, 3) := by decide +kernel
theorem dX1_stirs_20 : decode MX1_stirs.2.1 20 = .ok (.iload 4, 2) := by decide +kernel
theorem dX1_stirs_22 : decode MX1_stirs.2.1 22 = .ok (.iaload, 1) := by decide +kernel
theorem dX1_stirs_23 : decode MX1_stirs.2.1 23 = .ok (.aload_n 0, 1) := by decide +kernel
theorem dX1_stirs_24 : decode MX1_stirs.2.1 24 = .ok (.getfield 34, 3) := by decide +kernel
theorem dX1_stirs_27 : decode MX1_stirs.2.1 27 = .ok (.iload 4, 2) := by decide +kernel
theorem dX1_stirs_29 : decode MX1_stirs.2.1 29 = .ok (.iaload, 1) := by decide +kernel
theorem dX1_stirs_30 : decode MX1_stirs.2.1 30 = .ok (.iadd, 1) := by decide +kernel
theorem dX1_stirs_31 : decode MX1_stirs.2.1 31 = .ok (.aload_n 0, 1) := by decide +kernel
theorem dX1_stirs_32 : decode MX1_stirs.2.1 32 = .ok (.getfield 28, 3) := by decide +kernel
theorem dX1_stirs_35 : decode MX1_stirs.2.1 35 = .ok (.aload_n 0, 1) := by decide +kernel
theorem dX1_stirs_36 : decode MX1_stirs.2.1 36 = .ok (.getfield 37, 3) := by decide +kernel
theorem dX1_stirs_39 : decode MX1_stirs.2.1 39 = .ok (.iload 4, 2) := by decide +kernel
theorem dX1_stirs_41 : decode MX1_stirs.2.1 41 = .ok (.iaload, 1) := by decide +kernel
theorem dX1_stirs_42 : decode MX1_stirs.2.1 42 = .ok (.bipush 48, 2) := by decide +kernel
theorem dX1_stirs_44 : decode MX1_stirs.2.1 44 = .ok (.imul, 1) := by decide +kernel
theorem dX1_stirs_45 : decode MX1_stirs.2.1 45 = .ok (.iload_n 2, 1) := by decide +kernel
theorem dX1_stirs_46 : decode MX1_stirs.2.1 46 = .ok (.iadd, 1) := by decide +kernel
theorem dX1_stirs_47 : decode MX1_stirs.2.1 47 = .ok (.iaload, 1) := by decide +kernel
theorem dX1_stirs_48 : decode MX1_stirs.2.1 48 = .ok (.iadd, 1) := by decide +kernel
theorem dX1_stirs_49 : decode MX1_stirs.2.1 49 = .ok (.istore 5, 2) := by decide +kernel
theorem dX1_stirs_51 : decode MX1_stirs.2.1 51 = .ok (.aload_n 0, 1) := by decide +kernel
theorem dX1_stirs_52 : decode MX1_stirs.2.1 52 = .ok (.getfield 15, 3) := by decide +kernel
theorem dX1_stirs_55 : decode MX1_stirs.2.1 55 = .ok (.iload_n 3, 1) := by decide +kernel
theorem dX1_stirs_56 : decode MX1_stirs.2.1 56 = .ok (.baload, 1) := by decide +kernel
theorem dX1_stirs_57 : decode MX1_stirs.2.1 57 = .ok (.ifCond .eq 29, 3) := by decide +kernel
theorem dX1_stirs_60 : decode MX1_stirs.2.1 60 = .ok (.aload_n 0, 1) := by decide +kernel
theorem dX1_stirs_61 : decode MX1_stirs.2.1 61 = .ok (.getfield 31, 3) := by decide +kernel
theorem dX1_stirs_64 : decode MX1_stirs.2.1 64 = .ok (.iload 4, 2) := by decide +kernel
theorem dX1_stirs_66 : decode MX1_stirs.2.1 66 = .ok (.iaload, 1) := by decide +kernel
theorem dX1_stirs_67 : decode MX1_stirs.2.1 67 = .ok (.ifCond .le 19, 3) := by decide +kernel
theorem dX1_stirs_70 : decode MX1_stirs.2.1 70 = .ok (.iload 5, 2) := by decide +kernel
theorem dX1_stirs_72 : decode MX1_stirs.2.1 72 = .ok (.aload_n 0, 1) := by decide +kernel
theorem dX1_stirs_73 : decode MX1_stirs.2.1 73 = .ok (.getfield 43, 3) := by decide +kernel
theorem dX1_stirs_76 : decode MX1_stirs.2.1 76 = .ok (.getfield 144, 3) := by decide +kernel
theorem dX1_stirs_79 : decode MX1_stirs.2.1 79 = .ok (.iload_n 3, 1) := by decide +kernel
theorem dX1_stirs_80 : decode MX1_stirs.2.1 80 = .ok (.iaload, 1) := by decide +kernel
theorem dX1_stirs_81 : decode MX1_stirs.2.1 81 = .ok (.if_icmp .le 5, 3) := by decide +kernel
theorem dX1_stirs_84 : decode MX1_stirs.2.1 84 = .ok (.iconst 1, 1) := by decide +kernel
theorem dX1_stirs_85 : decode MX1_stirs.2.1 85 = .ok (.ireturn, 1) := by decide +kernel
theorem dX1_stirs_86 : decode MX1_stirs.2.1 86 = .ok (.iinc 3 1, 3) := by decide +kernel
theorem dX1_stirs_89 : decode MX1_stirs.2.1 89 = .ok (.goto (-87), 3) := by decide +kernel
theorem dX1_stirs_92 : decode MX1_stirs.2.1 92 = .ok (.iconst 0, 1) := by decide +kernel
theorem dX1_stirs_93 : decode MX1_stirs.2.1 93 = .ok (.ireturn, 1) := by decide +kernel
theorem dX1_speak_0 : decode MX1_speak.2.1 0 = .ok (.iload_n 1, 1) := by decide +kernel
theorem dX1_speak_1 : decode MX1_speak.2.1 1 = .ok (.iconst 1, 1) := by decide +kernel
theorem dX1_speak_2 : decode MX1_speak.2.1 2 = .ok (.iadd, 1) := by decide +kernel
theorem dX1_speak_3 : decode MX1_speak.2.1 3 = .ok (.bipush 6, 2) := by decide +kernel
theorem dX1_speak_5 : decode MX1_speak.2.1 5 = .ok (.imul, 1) := by decide +kernel
theorem dX1_speak_6 : decode MX1_speak.2.1 6 = .ok (.istore_n 3, 1) := by decide +kernel
theorem dX1_speak_7 : decode MX1_speak.2.1 7 = .ok (.iconst 0, 1) := by decide +kernel
theorem dX1_speak_8 : decode MX1_speak.2.1 8 = .ok (.istore 4, 2) := by decide +kernel
theorem dX1_speak_10 : decode MX1_speak.2.1 10 = .ok (.iload 4, 2) := by decide +kernel
theorem dX1_speak_12 : decode MX1_speak.2.1 12 = .ok (.bipush 6, 2) := by decide +kernel
theorem dX1_speak_14 : decode MX1_speak.2.1 14 = .ok (.if_icmp .ge 68, 3) := by decide +kernel
theorem dX1_speak_17 : decode MX1_speak.2.1 17 = .ok (.iload_n 1, 1) := by decide +kernel
theorem dX1_speak_18 : decode MX1_speak.2.1 18 = .ok (.bipush 6, 2) := by decide +kernel
theorem dX1_speak_20 : decode MX1_speak.2.1 20 = .ok (.imul, 1) := by decide +kernel
theorem dX1_speak_21 : decode MX1_speak.2.1 21 = .ok (.iload 4, 2) := by decide +kernel
theorem dX1_speak_23 : decode MX1_speak.2.1 23 = .ok (.iadd, 1) := by decide +kernel
theorem dX1_speak_24 : decode MX1_speak.2.1 24 = .ok (.istore 5, 2) := by decide +kernel
theorem dX1_speak_26 : decode MX1_speak.2.1 26 = .ok (.aload_n 0, 1) := by decide +kernel
theorem dX1_speak_27 : decode MX1_speak.2.1 27 = .ok (.getfield 31, 3) := by decide +kernel
theorem dX1_speak_30 : decode MX1_speak.2.1 30 = .ok (.iload_n 3, 1) := by decide +kernel
theorem dX1_speak_31 : decode MX1_speak.2.1 31 = .ok (.iload 4, 2) := by decide +kernel
theorem dX1_speak_33 : decode MX1_speak.2.1 33 = .ok (.iadd, 1) := by decide +kernel
theorem dX1_speak_34 : decode MX1_speak.2.1 34 = .ok (.aload_n 0, 1) := by decide +kernel
theorem dX1_speak_35 : decode MX1_speak.2.1 35 = .ok (.getfield 31, 3) := by decide +kernel
theorem dX1_speak_38 : decode MX1_speak.2.1 38 = .ok (.iload 5, 2) := by decide +kernel
theorem dX1_speak_40 : decode MX1_speak.2.1 40 = .ok (.iaload, 1) := by decide +kernel
theorem dX1_speak_41 : decode MX1_speak.2.1 41 = .ok (.iastore, 1) := by decide +kernel
theorem dX1_speak_42 : decode MX1_speak.2.1 42 = .ok (.aload_n 0, 1) := by decide +kernel
theorem dX1_speak_43 : decode MX1_speak.2.1 43 = .ok (.getfield 34, 3) := by decide +kernel
theorem dX1_speak_46 : decode MX1_speak.2.1 46 = .ok (.iload_n 3, 1) := by decide +kernel
theorem dX1_speak_47 : decode MX1_speak.2.1 47 = .ok (.iload 4, 2) := by decide +kernel
theorem dX1_speak_49 : decode MX1_speak.2.1 49 = .ok (.iadd, 1) := by decide +kernel
theorem dX1_speak_50 : decode MX1_speak.2.1 50 = .ok (.aload_n 0, 1) := by decide +kernel
theorem dX1_speak_51 : decode MX1_speak.2.1 51 = .ok (.getfield 34, 3) := by decide +kernel
theorem dX1_speak_54 : decode MX1_speak.2.1 54 = .ok (.iload 5, 2) := by decide +kernel
theorem dX1_speak_56 : decode MX1_speak.2.1 56 = .ok (.iaload, 1) := by decide +kernel
theorem dX1_speak_57 : decode MX1_speak.2.1 57 = .ok (.aload_n 0, 1) := by decide +kernel
theorem dX1_speak_58 : decode MX1_speak.2.1 58 = .ok (.getfield 28, 3) := by decide +kernel
theorem dX1_speak_61 : decode MX1_speak.2.1 61 = .ok (.aload_n 0, 1) := by decide +kernel
theorem dX1_speak_62 : decode MX1_speak.2.1 62 = .ok (.getfield 37, 3) := by decide +kernel
theorem dX1_speak_65 : decode MX1_speak.2.1 65 = .ok (.iload 5, 2) := by decide +kernel
theorem dX1_speak_67 : decode MX1_speak.2.1 67 = .ok (.iaload, 1) := by decide +kernel
theorem dX1_speak_68 : decode MX1_speak.2.1 68 = .ok (.bipush 48, 2) := by decide +kernel
theorem dX1_speak_70 : decode MX1_speak.2.1 70 = .ok (.imul, 1) := by decide +kernel
theorem dX1_speak_71 : decode MX1_speak.2.1 71 = .ok (.iload_n 2, 1) := by decide +kernel
theorem dX1_speak_72 : decode MX1_speak.2.1 72 = .ok (.iadd, 1) := by decide +kernel
theorem dX1_speak_73 : decode MX1_speak.2.1 73 = .ok (.iaload, 1) := by decide +kernel
theorem dX1_speak_74 : decode MX1_speak.2.1 74 = .ok (.iadd, 1) := by decide +kernel
theorem dX1_speak_75 : decode MX1_speak.2.1 75 = .ok (.iastore, 1) := by decide +kernel
theorem dX1_speak_76 : decode MX1_speak.2.1 76 = .ok (.iinc 4 1, 3) := by decide +kernel
theorem dX1_speak_79 : decode MX1_speak.2.1 79 = .ok (.goto (-69), 3) := by decide +kernel
theorem dX1_speak_82 : decode MX1_speak.2.1 82 = .ok (.iconst 0, 1) := by decide +kernel
theorem dX1_speak_83 : decode MX1_speak.2.1 83 = .ok (.istore 4, 2) := by decide +kernel
theorem dX1_speak_85 : decode MX1_speak.2.1 85 = .ok (.iconst 0, 1) := by decide +kernel
theorem dX1_speak_86 : decode MX1_speak.2.1 86 = .ok (.istore 5, 2) := by decide +kernel
theorem dX1_speak_88 : decode MX1_speak.2.1 88 = .ok (.iload 5, 2) := by decide +kernel
theorem dX1_speak_90 : decode MX1_speak.2.1 90 = .ok (.bipush 6, 2) := by decide +kernel
theorem dX1_speak_92 : decode MX1_speak.2.1 92 = .ok (.if_icmp .ge 152, 3) := by decide +kernel
theorem dX1_speak_95 : decode MX1_speak.2.1 95 = .ok (.iload_n 3, 1) := by decide +kernel
theorem dX1_speak_96 : decode MX1_speak.2.1 96 = .ok (.iload 5, 2) := by decide +kernel
theorem dX1_speak_98 : decode MX1_speak.2.1 98 = .ok (.iadd, 1) := by decide +kernel
theorem dX1_speak_99 : decode MX1_speak.2.1 99 = .ok (.istore 6, 2) := by decide +kernel
theorem dX1_speak_101 : decode MX1_speak.2.1 101 = .ok (.aload_n 0, 1) := by decide +kernel
theorem dX1_speak_102 : decode MX1_speak.2.1 102 = .ok (.getfield 31, 3) := by decide +kernel
theorem dX1_speak_105 : decode MX1_speak.2.1 105 = .ok (.iload 6, 2) := by decide +kernel
theorem dX1_speak_107 : decode MX1_speak.2.1 107 = .ok (.iaload, 1) := by decide +kernel
theorem dX1_speak_108 : decode MX1_speak.2.1 108 = .ok (.ifCond .eq 130, 3) := by decide +kernel
theorem dX1_speak_111 : decode MX1_speak.2.1 111 = .ok (.aload_n 0, 1) := by decide +kernel
theorem dX1_speak_112 : decode MX1_speak.2.1 112 = .ok (.getfield 31, 3) := by decide +kernel
theorem dX1_speak_115 : decode MX1_speak.2.1 115 = .ok (.iload 6, 2) := by decide +kernel
theorem dX1_speak_117 : decode MX1_speak.2.1 117 = .ok (.iaload, 1) := by decide +kernel
theorem dX1_speak_118 : decode MX1_speak.2.1 118 = .ok (.aload_n 0, 1) := by decide +kernel
theorem dX1_speak_119 : decode MX1_speak.2.1 119 = .ok (.getfield 34, 3) := by decide +kernel
theorem dX1_speak_122 : decode MX1_speak.2.1 122 = .ok (.iload 6, 2) := by decide +kernel
theorem dX1_speak_124 : decode MX1_speak.2.1 124 = .ok (.iaload, 1) := by decide +kernel
theorem dX1_speak_125 : decode MX1_speak.2.1 125 = .ok (.iadd, 1) := by decide +kernel
theorem dX1_speak_126 : decode MX1_speak.2.1 126 = .ok (.aload_n 0, 1) := by decide +kernel
theorem dX1_speak_127 : decode MX1_speak.2.1 127 = .ok (.getfield 43, 3) := by decide +kernel
theorem dX1_speak_130 : decode MX1_speak.2.1 130 = .ok (.getfield 144, 3) := by decide +kernel
theorem dX1_speak_133 : decode MX1_speak.2.1 133 = .ok (.iload 5, 2) := by decide +kernel
theorem dX1_speak_135 : decode MX1_speak.2.1 135 = .ok (.iaload, 1) := by decide +kernel
theorem dX1_speak_136 : decode MX1_speak.2.1 136 = .ok (.if_icmp .gt 6, 3) := by decide +kernel
theorem dX1_speak_139 : decode MX1_speak.2.1 139 = .ok (.goto 99, 3) := by decide +kernel
theorem dX1_speak_142 : decode MX1_speak.2.1 142 = .ok (.aload_n 0, 1) := by decide +kernel
theorem dX1_speak_143 : decode MX1_speak.2.1 143 = .ok (.getfield 43, 3) := by decide +kernel
theorem dX1_speak_146 : decode MX1_speak.2.1 146 = .ok (.getfield 109, 3) := by decide +kernel
theorem dX1_speak_149 : decode MX1_speak.2.1 149 = .ok (.iload 5, 2) := by decide +kernel
theorem dX1_speak_151 : decode MX1_speak.2.1 151 = .ok (.iaload, 1) := by decide +kernel
theorem dX1_speak_152 : decode MX1_speak.2.1 152 = .ok (.istore 7, 2) := by decide +kernel
theorem dX1_speak_154 : decode MX1_speak.2.1 154 = .ok (.iload 7, 2) := by decide +kernel
theorem dX1_speak_156 : decode MX1_speak.2.1 156 = .ok (.invokestatic 112, 3) := by decide +kernel
theorem dX1_speak_159 : decode MX1_speak.2.1 159 = .ok (.ifCond .eq 38, 3) := by decide +kernel
theorem dX1_speak_162 : decode MX1_speak.2.1 162 = .ok (.aload_n 0, 1) := by decide +kernel
theorem dX1_speak_163 : decode MX1_speak.2.1 163 = .ok (.getfield 31, 3) := by decide +kernel
theorem dX1_speak_166 : decode MX1_speak.2.1 166 = .ok (.iload_n 3, 1) := by decide +kernel
theorem dX1_speak_167 : decode MX1_speak.2.1 167 = .ok (.iload 7, 2) := by decide +kernel
theorem dX1_speak_169 : decode MX1_speak.2.1 169 = .ok (.iadd, 1) := by decide +kernel
theorem dX1_speak_170 : decode MX1_speak.2.1 170 = .ok (.sipush 9999, 3) := by decide +kernel
theorem dX1_speak_173 : decode MX1_speak.2.1 173 = .ok (.aload_n 0, 1) := by decide +kernel
theorem dX1_speak_174 : decode MX1_speak.2.1 174 = .ok (.getfield 31, 3) := by decide +kernel
theorem dX1_speak_177 : decode MX1_speak.2.1 177 = .ok (.iload_n 3, 1) := by decide +kernel
theorem dX1_speak_178 : decode MX1_speak.2.1 178 = .ok (.iload 7, 2) := by decide +kernel
theorem dX1_speak_180 : decode MX1_speak.2.1 180 = .ok (.iadd, 1) := by decide +kernel
theorem dX1_speak_181 : decode MX1_speak.2.1 181 = .ok (.iaload, 1) := by decide +kernel
theorem dX1_speak_182 : decode MX1_speak.2.1 182 = .ok (.aload_n 0, 1) := by decide +kernel
theorem dX1_speak_183 : decode MX1_speak.2.1 183 = .ok (.getfield 31, 3) := by decide +kernel
theorem dX1_speak_186 : decode MX1_speak.2.1 186 = .ok (.iload 6, 2) := by decide +kernel
theorem dX1_speak_188 : decode MX1_speak.2.1 188 = .ok (.iaload, 1) := by decide +kernel
theorem dX1_speak_189 : decode MX1_speak.2.1 189 = .ok (.iadd, 1) := by decide +kernel
theorem dX1_speak_190 : decode MX1_speak.2.1 190 = .ok (.invokestatic 147, 3) := by decide +kernel
theorem dX1_speak_193 : decode MX1_speak.2.1 193 = .ok (.iastore, 1) := by decide +kernel
theorem dX1_speak_194 : decode MX1_speak.2.1 194 = .ok (.goto 19, 3) := by decide +kernel
theorem dX1_speak_197 : decode MX1_speak.2.1 197 = .ok (.aload_n 0, 1) := by decide +kernel
theorem dX1_speak_198 : decode MX1_speak.2.1 198 = .ok (.getfield 43, 3) := by decide +kernel
theorem dX1_speak_201 : decode MX1_speak.2.1 201 = .ok (.getfield 150, 3) := by decide +kernel
theorem dX1_speak_204 : decode MX1_speak.2.1 204 = .ok (.iload 5, 2) := by decide +kernel
theorem dX1_speak_206 : decode MX1_speak.2.1 206 = .ok (.iaload, 1) := by decide +kernel
theorem dX1_speak_207 : decode MX1_speak.2.1 207 = .ok (.iconst 1, 1) := by decide +kernel
theorem dX1_speak_208 : decode MX1_speak.2.1 208 = .ok (.if_icmp .eq 5, 3) := by decide +kernel
theorem dX1_speak_211 : decode MX1_speak.2.1 211 = .ok (.iconst (-1), 1) := by decide +kernel
theorem dX1_speak_212 : decode MX1_speak.2.1 212 = .ok (.ireturn, 1) := by decide +kernel
theorem dX1_speak_213 : decode MX1_speak.2.1 213 = .ok (.aload_n 0, 1) := by decide +kernel
theorem dX1_speak_214 : decode MX1_speak.2.1 214 = .ok (.getfield 31, 3) := by decide +kernel
theorem dX1_speak_217 : decode MX1_speak.2.1 217 = .ok (.iload 6, 2) := by decide +kernel
theorem dX1_speak_219 : decode MX1_speak.2.1 219 = .ok (.iconst 0, 1) := by decide +kernel
theorem dX1_speak_220 : decode MX1_speak.2.1 220 = .ok (.iastore, 1) := by decide +kernel
theorem dX1_speak_221 : decode MX1_speak.2.1 221 = .ok (.aload_n 0, 1) := by decide +kernel
theorem dX1_speak_222 : decode MX1_speak.2.1 222 = .ok (.getfield 34, 3) := by decide +kernel
theorem dX1_speak_225 : decode MX1_speak.2.1 225 = .ok (.iload 6, 2) := by decide +kernel
theorem dX1_speak_227 : decode MX1_speak.2.1 227 = .ok (.iconst 0, 1) := by decide +kernel
theorem dX1_speak_228 : decode MX1_speak.2.1 228 = .ok (.iastore, 1) := by decide +kernel
theorem dX1_speak_229 : decode MX1_speak.2.1 229 = .ok (.iload 4, 2) := by decide +kernel
theorem dX1_speak_231 : decode MX1_speak.2.1 231 = .ok (.iconst 1, 1) := by decide +kernel
theorem dX1_speak_232 : decode MX1_speak.2.1 232 = .ok (.iload 5, 2) := by decide +kernel
theorem dX1_speak_234 : decode MX1_speak.2.1 234 = .ok (.ishl, 1) := by decide +kernel
theorem dX1_speak_235 : decode MX1_speak.2.1 235 = .ok (.ior, 1) := by decide +kernel
theorem dX1_speak_236 : decode MX1_speak.2.1 236 = .ok (.istore 4, 2) := by decide +kernel
theorem dX1_speak_238 : decode MX1_speak.2.1 238 = .ok (.iinc 5 1, 3) := by decide +kernel
theorem dX1_speak_241 : decode MX1_speak.2.1 241 = .ok (.goto (-153), 3) := by decide +kernel
theorem dX1_speak_244 : decode MX1_speak.2.1 244 = .ok (.iload 4, 2) := by decide +kernel
theorem dX1_speak_246 : decode MX1_speak.2.1 246 = .ok (.ireturn, 1) := by decide +kernel
theorem dX2_init_0 : decode MX2_init.2.1 0 = .ok (.aload_n 0, 1) := by decide +kernel
theorem dX2_init_1 : decode MX2_init.2.1 1 = .ok (.invokespecial 3, 3) := by decide +kernel
theorem dX2_init_4 : decode MX2_init.2.1 4 = .ok (.aload_n 0, 1) := by decide +kernel
theorem dX2_init_5 : decode MX2_init.2.1 5 = .ok (.bipush 6, 2) := by decide +kernel
theorem dX2_init_7 : decode MX2_init.2.1 7 = .ok (.newarray .int, 2) := by decide +kernel
theorem dX2_init_9 : decode MX2_init.2.1 9 = .ok (.putfield 9, 3) := by decide +kernel
theorem dX2_init_12 : decode MX2_init.2.1 12 = .ok (.aload_n 0, 1) := by decide +kernel
theorem dX2_init_13 : decode MX2_init.2.1 13 = .ok (.bipush 6, 2) := by decide +kernel
theorem dX2_init_15 : decode MX2_init.2.1 15 = .ok (.newarray .int, 2) := by decide +kernel
theorem dX2_init_17 : decode MX2_init.2.1 17 = .ok (.putfield 15, 3) := by decide +kernel
theorem dX2_init_20 : decode MX2_init.2.1 20 = .ok (.aload_n 0, 1) := by decide +kernel
theorem dX2_init_21 : decode MX2_init.2.1 21 = .ok (.bipush 36, 2) := by decide +kernel
theorem dX2_init_23 : decode MX2_init.2.1 23 = .ok (.newarray .int, 2) := by decide +kernel
theorem dX2_init_25 : decode MX2_init.2.1 25 = .ok (.putfield 18, 3) := by decide +kernel
theorem dX2_init_28 : decode MX2_init.2.1 28 = .ok (.aload_n 0, 1) := by decide +kernel
theorem dX2_init_29 : decode MX2_init.2.1 29 = .ok (.bipush 36, 2) := by decide +kernel
theorem dX2_init_31 : decode MX2_init.2.1 31 = .ok (.newarray .int, 2) := by decide +kernel
theorem dX2_init_33 : decode MX2_init.2.1 33 = .ok (.putfield 21, 3) := by decide +kernel
theorem dX2_init_36 : decode MX2_init.2.1 36 = .ok (.aload_n 0, 1) := by decide +kernel
theorem dX2_init_37 : decode MX2_init.2.1 37 = .ok (.bipush 6, 2) := by decide +kernel
theorem dX2_init_39 : decode MX2_init.2.1 39 = .ok (.newarray .int, 2) := by decide +kernel
theorem dX2_init_41 : decode MX2_init.2.1 41 = .ok (.putfield 24, 3) := by decide +kernel
theorem dX2_init_44 : decode MX2_init.2.1 44 = .ok (.return_, 1) := by decide +kernel
theorem dX2_copyFrom_0 : decode MX2_copyFrom.2.1 0 = .ok (.aload_n 1, 1) := by decide +kernel
theorem dX2_copyFrom_1 : decode MX2_copyFrom.2.1 1 = .ok (.getfield 9, 3) := by decide +kernel
theorem dX2_copyFrom_4 : decode MX2_copyFrom.2.1 4 = .ok (.iconst 0, 1) := by decide +kernel
theorem dX2_copyFrom_5 : decode MX2_copyFrom.2.1 5 = .ok (.aload_n 0, 1) := by decide +kernel
theorem dX2_copyFrom_6 : decode MX2_copyFrom.2.1 6 = .ok (.getfield 9, 3) := by decide +kernel
theorem dX2_copyFrom_9 : decode MX2_copyFrom.2.1 9 = .ok (.iconst 0, 1) := by decide +kernel
theorem dX2_copyFrom_10 : decode MX2_copyFrom.2.1 10 = .ok (.bipush 6, 2) := by decide +kernel
theorem dX2_copyFrom_12 : decode MX2_copyFrom.2.1 12 = .ok (.invokestatic 27, 3) := by decide +kernel
theorem dX2_copyFrom_15 : decode MX2_copyFrom.2.1 15 = .ok (.aload_n 1, 1) := by decide +kernel
theorem dX2_copyFrom_16 : decode MX2_copyFrom.2.1 16 = .ok (.getfield 15, 3) := by decide +kernel
theorem dX2_copyFrom_19 : decode MX2_copyFrom.2.1 19 = .ok (.iconst 0, 1) := by decide +kernel
theorem dX2_copyFrom_20 : decode MX2_copyFrom.2.1 20 = .ok (.aload_n 0, 1) := by decide +kernel
theorem dX2_copyFrom_21 : decode MX2_copyFrom.2.1 21 = .ok (.getfield 15, 3) := by decide +kernel
theorem dX2_copyFrom_24 : decode MX2_copyFrom.2.1 24 = .ok (.iconst 0, 1) := by decide +kernel
theorem dX2_copyFrom_25 : decode MX2_copyFrom.2.1 25 = .ok (.bipush 6, 2) := by decide +kernel
theorem dX2_copyFrom_27 : decode MX2_copyFrom.2.1 27 = .ok (.invokestatic 27, 3) := by decide +kernel
theorem dX2_copyFrom_30 : decode MX2_copyFrom.2.1 30 = .ok (.aload_n 1, 1) := by decide +kernel
theorem dX2_copyFrom_31 : decode MX2_copyFrom.2.1 31 = .ok (.getfield 18, 3) := by decide +kernel
theorem dX2_copyFrom_34 : decode MX2_copyFrom.2.1 34 = .ok (.iconst 0, 1) := by decide +kernel
theorem dX2_copyFrom_35 : decode MX2_copyFrom.2.1 35 = .ok (.aload_n 0, 1) := by decide +kernel
theorem dX2_copyFrom_36 : decode MX2_copyFrom.2.1 36 = .ok (.getfield 18, 3) := by decide +kernel
theorem dX2_copyFrom_39 : decode MX2_copyFrom.2.1 39 = .ok (.iconst 0, 1) := by decide +kernel
theorem dX2_copyFrom_40 : decode MX2_copyFrom.2.1 40 = .ok (.bipush 36, 2) := by decide +kernel
theorem dX2_copyFrom_42 : decode MX2_copyFrom.2.1 42 = .ok (.invokestatic 27, 3) := by decide +kernel
theorem dX2_copyFrom_45 : decode MX2_copyFrom.2.1 45 = .ok (.aload_n 1, 1) := by decide +kernel
theorem dX2_copyFrom_46 : decode MX2_copyFrom.2.1 46 = .ok (.getfield 21, 3) := by decide +kernel
theorem dX2_copyFrom_49 : decode MX2_copyFrom.2.1 49 = .ok (.iconst 0, 1) := by decide +kernel
theorem dX2_copyFrom_50 : decode MX2_copyFrom.2.1 50 = .ok (.aload_n 0, 1) := by decide +kernel
theorem dX2_copyFrom_51 : decode MX2_copyFrom.2.1 51 = .ok (.getfield 21, 3) := by decide +kernel
theorem dX2_copyFrom_54 : decode MX2_copyFrom.2.1 54 = .ok (.iconst 0, 1) := by decide +kernel
theorem dX2_copyFrom_55 : decode MX2_copyFrom.2.1 55 = .ok (.bipush 36, 2) := by decide +kernel
theorem dX2_copyFrom_57 : decode MX2_copyFrom.2.1 57 = .ok (.invokestatic 27, 3) := by decide +kernel
theorem dX2_copyFrom_60 : decode MX2_copyFrom.2.1 60 = .ok (.aload_n 1, 1) := by decide +kernel
theorem dX2_copyFrom_61 : decode MX2_copyFrom.2.1 61 = .ok (.getfield 24, 3) := by decide +kernel
theorem dX2_copyFrom_64 : decode MX2_copyFrom.2.1 64 = .ok (.iconst 0, 1) := by decide +kernel
theorem dX2_copyFrom_65 : decode MX2_copyFrom.2.1 65 = .ok (.aload_n 0, 1) := by decide +kernel
theorem dX2_copyFrom_66 : decode MX2_copyFrom.2.1 66 = .ok (.getfield 24, 3) := by decide +kernel
theorem dX2_copyFrom_69 : decode MX2_copyFrom.2.1 69 = .ok (.iconst 0, 1) := by decide +kernel
theorem dX2_copyFrom_70 : decode MX2_copyFrom.2.1 70 = .ok (.bipush 6, 2) := by decide +kernel
theorem dX2_copyFrom_72 : decode MX2_copyFrom.2.1 72 = .ok (.invokestatic 27, 3) := by decide +kernel
theorem dX2_copyFrom_75 : decode MX2_copyFrom.2.1 75 = .ok (.aload_n 0, 1) := by decide +kernel
theorem dX2_copyFrom_76 : decode MX2_copyFrom.2.1 76 = .ok (.aload_n 1, 1) := by decide +kernel
theorem dX2_copyFrom_77 : decode MX2_copyFrom.2.1 77 = .ok (.getfield 33, 3) := by decide +kernel
theorem dX2_copyFrom_80 : decode MX2_copyFrom.2.1 80 = .ok (.putfield 33, 3) := by decide +kernel
theorem dX2_copyFrom_83 : decode MX2_copyFrom.2.1 83 = .ok (.aload_n 0, 1) := by decide +kernel
theorem dX2_copyFrom_84 : decode MX2_copyFrom.2.1 84 = .ok (.aload_n 1, 1) := by decide +kernel
theorem dX2_copyFrom_85 : decode MX2_copyFrom.2.1 85 = .ok (.getfield 37, 3) := by decide +kernel
theorem dX2_copyFrom_88 : decode MX2_copyFrom.2.1 88 = .ok (.putfield 37, 3) := by decide +kernel
theorem dX2_copyFrom_91 : decode MX2_copyFrom.2.1 91 = .ok (.aload_n 0, 1) := by decide +kernel
theorem dX2_copyFrom_92 : decode MX2_copyFrom.2.1 92 = .ok (.aload_n 1, 1) := by decide +kernel
theorem dX2_copyFrom_93 : decode MX2_copyFrom.2.1 93 = .ok (.getfield 40, 3) := by decide +kernel
theorem dX2_copyFrom_96 : decode MX2_copyFrom.2.1 96 = .ok (.putfield 40, 3) := by decide +kernel
theorem dX2_copyFrom_99 : decode MX2_copyFrom.2.1 99 = .ok (.return_, 1) := by decide +kernel
theorem dX2_press_0 : decode MX2_press.2.1 0 = .ok (.aload_n 0, 1) := by decide +kernel
theorem dX2_press_1 : decode MX2_press.2.1 1 = .ok (.getfield 15, 3) := by decide +kernel
theorem dX2_press_4 : decode MX2_press.2.1 4 = .ok (.iload_n 1, 1) := by decide +kernel
theorem dX2_press_5 : decode MX2_press.2.1 5 = .ok (.dup2, 1) := by decide +kernel
theorem dX2_press_6 : decode MX2_press.2.1 6 = .ok (.iaload, 1) := by decide +kernel
theorem dX2_press_7 : decode MX2_press.2.1 7 = .ok (.iload_n 3, 1) := by decide +kernel
theorem dX2_press_8 : decode MX2_press.2.1 8 = .ok (.iadd, 1) := by decide +kernel
theorem dX2_press_9 : decode MX2_press.2.1 9 = .ok (.iastore, 1) := by decide +kernel
theorem dX2_press_10 : decode MX2_press.2.1 10 = .ok (.aload_n 0, 1) := by decide +kernel
theorem dX2_press_11 : decode MX2_press.2.1 11 = .ok (.getfield 18, 3) := by decide +kernel
theorem dX2_press_14 : decode MX2_press.2.1 14 = .ok (.iload_n 1, 1) := by decide +kernel
theorem dX2_press_15 : decode MX2_press.2.1 15 = .ok (.bipush 6, 2) := by decide +kernel
theorem dX2_press_17 : decode MX2_press.2.1 17 = .ok (.imul, 1) := by decide +kernel
theorem dX2_press_18 : decode MX2_press.2.1 18 = .ok (.iload_n 2, 1) := by decide +kernel
theorem dX2_press_19 : decode MX2_press.2.1 19 = .ok (.iadd, 1) := by decide +kernel
theorem dX2_press_20 : decode MX2_press.2.1 20 = .ok (.dup2, 1) := by decide +kernel
theorem dX2_press_21 : decode MX2_press.2.1 21 = .ok (.iaload, 1) := by decide +kernel
theorem dX2_press_22 : decode MX2_press.2.1 22 = .ok (.iload_n 3, 1) := by decide +kernel
theorem dX2_press_23 : decode MX2_press.2.1 23 = .ok (.iadd, 1) := by decide +kernel
theorem dX2_press_24 : decode MX2_press.2.1 24 = .ok (.iastore, 1) := by decide +kernel
theorem dX2_press_25 : decode MX2_press.2.1 25 = .ok (.return_, 1) := by decide +kernel
theorem dX2_ease_0 : decode MX2_ease.2.1 0 = .ok (.aload_n 0, 1) := by decide +kernel
theorem dX2_ease_1 : decode MX2_ease.2.1 1 = .ok (.getfield 15, 3) := by decide +kernel
theorem dX2_ease_4 : decode MX2_ease.2.1 4 = .ok (.iconst 0, 1) := by decide +kernel
theorem dX2_ease_5 : decode MX2_ease.2.1 5 = .ok (.invokestatic 43, 3) := by decide +kernel
theorem dX2_ease_8 : decode MX2_ease.2.1 8 = .ok (.aload_n 0, 1) := by decide +kernel
theorem dX2_ease_9 : decode MX2_ease.2.1 9 = .ok (.getfield 18, 3) := by decide +kernel
theorem dX2_ease_12 : decode MX2_ease.2.1 12 = .ok (.iconst 0, 1) := by decide +kernel
theorem dX2_ease_13 : decode MX2_ease.2.1 13 = .ok (.invokestatic 43, 3) := by decide +kernel
theorem dX2_ease_16 : decode MX2_ease.2.1 16 = .ok (.return_, 1) := by decide +kernel
theorem dX2_slideAll_0 : decode MX2_slideAll.2.1 0 = .ok (.iconst 0, 1) := by decide +kernel
theorem dX2_slideAll_1 : decode MX2_slideAll.2.1 1 = .ok (.istore_n 2, 1) := by decide +kernel
theorem dX2_slideAll_2 : decode MX2_slideAll.2.1 2 = .ok (.iconst 0, 1) := by decide +kernel
theorem dX2_slideAll_3 : decode MX2_slideAll.2.1 3 = .ok (.istore_n 3, 1) := by decide +kernel
theorem dX2_slideAll_4 : decode MX2_slideAll.2.1 4 = .ok (.iload_n 3, 1) := by decide +kernel
theorem dX2_slideAll_5 : decode MX2_slideAll.2.1 5 = .ok (.bipush 6, 2) := by decide +kernel
theorem dX2_slideAll_7 : decode MX2_slideAll.2.1 7 = .ok (.if_icmp .ge 49, 3) := by decide +kernel
theorem dX2_slideAll_10 : decode MX2_slideAll.2.1 10 = .ok (.aload_n 0, 1) := by decide +kernel
theorem dX2_slideAll_11 : decode MX2_slideAll.2.1 11 = .ok (.getfield 9, 3) := by decide +kernel
theorem dX2_slideAll_14 : decode MX2_slideAll.2.1 14 = .ok (.iload_n 3, 1) := by decide +kernel
theorem dX2_slideAll_15 : decode MX2_slideAll.2.1 15 = .ok (.iaload, 1) := by decide +kernel
theorem dX2_slideAll_16 : decode MX2_slideAll.2.1 16 = .ok (.ifCond .le 34, 3) := by decide +kernel
theorem dX2_slideAll_19 : decode MX2_slideAll.2.1 19 = .ok (.aload_n 0, 1) := by decide +kernel
theorem dX2_slideAll_20 : decode MX2_slideAll.2.1 20 = .ok (.getfield 9, 3) := by decide +kernel
theorem dX2_slideAll_23 : decode MX2_slideAll.2.1 23 = .ok (.iload_n 3, 1) := by decide +kernel
theorem dX2_slideAll_24 : decode MX2_slideAll.2.1 24 = .ok (.iaload, 1) := by decide +kernel
theorem dX2_slideAll_25 : decode MX2_slideAll.2.1 25 = .ok (.aload_n 0, 1) := by decide +kernel
theorem dX2_slideAll_26 : decode MX2_slideAll.2.1 26 = .ok (.getfield 15, 3) := by decide +kernel
theorem dX2_slideAll_29 : decode MX2_slideAll.2.1 29 = .ok (.iload_n 3, 1) := by decide +kernel
theorem dX2_slideAll_30 : decode MX2_slideAll.2.1 30 = .ok (.iaload, 1) := by decide +kernel
theorem dX2_slideAll_31 : decode MX2_slideAll.2.1 31 = .ok (.iadd, 1) := by decide +kernel
theorem dX2_slideAll_32 : decode MX2_slideAll.2.1 32 = .ok (.aload_n 1, 1) := by decide +kernel
theorem dX2_slideAll_33 : decode MX2_slideAll.2.1 33 = .ok (.getfield 49, 3) := by decide +kernel
theorem dX2_slideAll_36 : decode MX2_slideAll.2.1 36 = .ok (.iload_n 3, 1) := by decide +kernel
theorem dX2_slideAll_37 : decode MX2_slideAll.2.1 37 = .ok (.iaload, 1) := by decide +kernel
theorem dX2_slideAll_38 : decode MX2_slideAll.2.1 38 = .ok (.if_icmp .le 12, 3) := by decide +kernel
theorem dX2_slideAll_41 : decode MX2_slideAll.2.1 41 = .ok (.aload_n 0, 1) := by decide +kernel
theorem dX2_slideAll_42 : decode MX2_slideAll.2.1 42 = .ok (.iload_n 3, 1) := by decide +kernel
theorem dX2_slideAll_43 : decode MX2_slideAll.2.1 43 = .ok (.aload_n 1, 1) := by decide +kernel
theorem dX2_slideAll_44 : decode MX2_slideAll.2.1 44 = .ok (.invokevirtual 54, 3) := by decide +kernel
theorem dX2_slideAll_47 : decode MX2_slideAll.2.1 47 = .ok (.iinc 2 1, 3) := by decide +kernel
theorem dX2_slideAll_50 : decode MX2_slideAll.2.1 50 = .ok (.iinc 3 1, 3) := by decide +kernel
theorem dX2_slideAll_53 : decode MX2_slideAll.2.1 53 = .ok (.goto (-49), 3) := by decide +kernel
theorem dX2_slideAll_56 : decode MX2_slideAll.2.1 56 = .ok (.iload_n 2, 1) := by decide +kernel
theorem dX2_slideAll_57 : decode MX2_slideAll.2.1 57 = .ok (.ireturn, 1) := by decide +kernel
theorem dX2_slideOne_0 : decode MX2_slideOne.2.1 0 = .ok (.aload_n 2, 1) := by decide +kernel
theorem dX2_slideOne_1 : decode MX2_slideOne.2.1 1 = .ok (.getfield 58, 3) := by decide +kernel
theorem dX2_slideOne_4 : decode MX2_slideOne.2.1 4 = .ok (.iload_n 1, 1) := by decide +kernel
theorem dX2_slideOne_5 : decode MX2_slideOne.2.1 5 = .ok (.iaload, 1) := by decide +kernel
theorem dX2_slideOne_6 : decode MX2_slideOne.2.1 6 = .ok (.istore_n 3, 1) := by decide +kernel
theorem dX2_slideOne_7 : decode MX2_slideOne.2.1 7 = .ok (.iload_n 3, 1) := by decide +kernel
theorem dX2_slideOne_8 : decode MX2_slideOne.2.1 8 = .ok (.invokestatic 61, 3) := by decide +kernel
theorem dX2_slideOne_11 : decode MX2_slideOne.2.1 11 = .ok (.ifCond .eq 31, 3) := by decide +kernel
theorem dX2_slideOne_14 : decode MX2_slideOne.2.1 14 = .ok (.aload_n 0, 1) := by decide +kernel
theorem dX2_slideOne_15 : decode MX2_slideOne.2.1 15 = .ok (.getfield 9, 3) := by decide +kernel
theorem dX2_slideOne_18 : decode MX2_slideOne.2.1 18 = .ok (.iload_n 3, 1) := by decide +kernel
theorem dX2_slideOne_19 : decode MX2_slideOne.2.1 19 = .ok (.sipush 9999, 3) := by decide +kernel
theorem dX2_slideOne_22 : decode MX2_slideOne.2.1 22 = .ok (.aload_n 0, 1) := by decide +kernel
theorem dX2_slideOne_23 : decode MX2_slideOne.2.1 23 = .ok (.getfield 9, 3) := by decide +kernel
theorem dX2_slideOne_26 : decode MX2_slideOne.2.1 26 = .ok (.iload_n 3, 1) := by decide +kernel
theorem dX2_slideOne_27 : decode MX2_slideOne.2.1 27 = .ok (.iaload, 1) := by decide +kernel
theorem dX2_slideOne_28 : decode MX2_slideOne.2.1 28 = .ok (.aload_n 0, 1) := by decide +kernel
theorem dX2_slideOne_29 : decode MX2_slideOne.2.1 29 = .ok (.getfield 9, 3) := by decide +kernel
theorem dX2_slideOne_32 : decode MX2_slideOne.2.1 32 = .ok (.iload_n 1, 1) := by decide +kernel
theorem dX2_slideOne_33 : decode MX2_slideOne.2.1 33 = .ok (.iaload, 1) := by decide +kernel
theorem dX2_slideOne_34 : decode MX2_slideOne.2.1 34 = .ok (.iadd, 1) := by decide +kernel
theorem dX2_slideOne_35 : decode MX2_slideOne.2.1 35 = .ok (.invokestatic 65, 3) := by decide +kernel
theorem dX2_slideOne_38 : decode MX2_slideOne.2.1 38 = .ok (.iastore, 1) := by decide +kernel
theorem dX2_slideOne_39 : decode MX2_slideOne.2.1 39 = .ok (.goto 46, 3) := by decide +kernel
theorem dX2_slideOne_42 : decode MX2_slideOne.2.1 42 = .ok (.aload_n 2, 1) := by decide +kernel
theorem dX2_slideOne_43 : decode MX2_slideOne.2.1 43 = .ok (.getfield 71, 3) := by decide +kernel
theorem dX2_slideOne_46 : decode MX2_slideOne.2.1 46 = .ok (.iload_n 1, 1) := by decide +kernel
theorem dX2_slideOne_47 : decode MX2_slideOne.2.1 47 = .ok (.iaload, 1) := by decide +kernel
theorem dX2_slideOne_48 : decode MX2_slideOne.2.1 48 = .ok (.iconst 1, 1) := by decide +kernel
theorem dX2_slideOne_49 : decode MX2_slideOne.2.1 49 = .ok (.if_icmp .ne 21, 3) := by decide +kernel
theorem dX2_slideOne_52 : decode MX2_slideOne.2.1 52 = .ok (.aload_n 0, 1) := by decide +kernel
theorem dX2_slideOne_53 : decode MX2_slideOne.2.1 53 = .ok (.dup, 1) := by decide +kernel
theorem dX2_slideOne_54 : decode MX2_slideOne.2.1 54 = .ok (.getfield 40, 3) := by decide +kernel
theorem dX2_slideOne_57 : decode MX2_slideOne.2.1 57 = .ok (.aload_n 0, 1) := by decide +kernel
theorem dX2_slideOne_58 : decode MX2_slideOne.2.1 58 = .ok (.getfield 9, 3) := by decide +kernel
theorem dX2_slideOne_61 : decode MX2_slideOne.2.1 61 = .ok (.iload_n 1, 1) := by decide +kernel
theorem dX2_slideOne_62 : decode MX2_slideOne.2.1 62 = .ok (.iaload, 1) := by decide +kernel
theorem dX2_slideOne_63 : decode MX2_slideOne.2.1 63 = .ok (.iadd, 1) := by decide +kernel
theorem dX2_slideOne_64 : decode MX2_slideOne.2.1 64 = .ok (.putfield 40, 3) := by decide +kernel
theorem dX2_slideOne_67 : decode MX2_slideOne.2.1 67 = .ok (.goto 18, 3) := by decide +kernel
theorem dX2_slideOne_70 : decode MX2_slideOne.2.1 70 = .ok (.aload_n 0, 1) := by decide +kernel
theorem dX2_slideOne_71 : decode MX2_slideOne.2.1 71 = .ok (.dup, 1) := by decide +kernel
theorem dX2_slideOne_72 : decode MX2_slideOne.2.1 72 = .ok (.getfield 37, 3) := by decide +kernel
theorem dX2_slideOne_75 : decode MX2_slideOne.2.1 75 = .ok (.aload_n 0, 1) := by decide +kernel
theorem dX2_slideOne_76 : decode MX2_slideOne.2.1 76 = .ok (.getfield 9, 3) := by decide +kernel
theorem dX2_slideOne_79 : decode MX2_slideOne.2.1 79 = .ok (.iload_n 1, 1) := by decide +kernel
theorem dX2_slideOne_80 : decode MX2_slideOne.2.1 80 = .ok (.iaload, 1) := by decide +kernel
theorem dX2_slideOne_81 : decode MX2_slideOne.2.1 81 = .ok (.iadd, 1) := by decide +kernel
theorem dX2_slideOne_82 : decode MX2_slideOne.2.1 82 = .ok (.putfield 37, 3) := by decide +kernel
theorem dX2_slideOne_85 : decode MX2_slideOne.2.1 85 = .ok (.aload_n 0, 1) := by decide +kernel
theorem dX2_slideOne_86 : decode MX2_slideOne.2.1 86 = .ok (.getfield 9, 3) := by decide +kernel
theorem dX2_slideOne_89 : decode MX2_slideOne.2.1 89 = .ok (.iload_n 1, 1) := by decide +kernel
theorem dX2_slideOne_90 : decode MX2_slideOne.2.1 90 = .ok (.iconst 0, 1) := by decide +kernel
theorem dX2_slideOne_91 : decode MX2_slideOne.2.1 91 = .ok (.iastore, 1) := by decide +kernel
theorem dX2_slideOne_92 : decode MX2_slideOne.2.1 92 = .ok (.aload_n 0, 1) := by decide +kernel
theorem dX2_slideOne_93 : decode MX2_slideOne.2.1 93 = .ok (.getfield 15, 3) := by decide +kernel
theorem dX2_slideOne_96 : decode MX2_slideOne.2.1 96 = .ok (.iload_n 1, 1) := by decide +kernel
theorem dX2_slideOne_97 : decode MX2_slideOne.2.1 97 = .ok (.iconst 0, 1) := by decide +kernel
theorem dX2_slideOne_98 : decode MX2_slideOne.2.1 98 = .ok (.iastore, 1) := by decide +kernel
theorem dX2_slideOne_99 : decode MX2_slideOne.2.1 99 = .ok (.aload_n 0, 1) := by decide +kernel
theorem dX2_slideOne_100 : decode MX2_slideOne.2.1 100 = .ok (.getfield 24, 3) := by decide +kernel
theorem dX2_slideOne_103 : decode MX2_slideOne.2.1 103 = .ok (.iload_n 1, 1) := by decide +kernel
theorem dX2_slideOne_104 : decode MX2_slideOne.2.1 104 = .ok (.dup2, 1) := by decide +kernel
theorem dX2_slideOne_105 : decode MX2_slideOne.2.1 105 = .ok (.iaload, 1) := by decide +kernel
theorem dX2_slideOne_106 : decode MX2_slideOne.2.1 106 = .ok (.iconst 1, 1) := by decide +kernel
theorem dX2_slideOne_107 : decode MX2_slideOne.2.1 107 = .ok (.iadd, 1) := by decide +kernel
theorem dX2_slideOne_108 : decode MX2_slideOne.2.1 108 = .ok (.iastore, 1) := by decide +kernel
theorem dX2_slideOne_109 : decode MX2_slideOne.2.1 109 = .ok (.iload_n 1, 1) := by decide +kernel
theorem dX2_slideOne_110 : decode MX2_slideOne.2.1 110 = .ok (.bipush 6, 2) := by decide +kernel
theorem dX2_slideOne_112 : decode MX2_slideOne.2.1 112 = .ok (.imul, 1) := by decide +kernel
theorem dX2_slideOne_113 : decode MX2_slideOne.2.1 113 = .ok (.istore 4, 2) := by decide +kernel
theorem dX2_slideOne_115 : decode MX2_slideOne.2.1 115 = .ok (.iload 4, 2) := by decide +kernel
theorem dX2_slideOne_117 : decode MX2_slideOne.2.1 117 = .ok (.iload_n 1, 1) := by decide +kernel
theorem dX2_slideOne_118 : decode MX2_slideOne.2.1 118 = .ok (.bipush 6, 2) := by decide +kernel
theorem dX2_slideOne_120 : decode MX2_slideOne.2.1 120 = .ok (.imul, 1) := by decide +kernel
theorem dX2_slideOne_121 : decode MX2_slideOne.2.1 121 = .ok (.bipush 6, 2) := by decide +kernel
theorem dX2_slideOne_123 : decode MX2_slideOne.2.1 123 = .ok (.iadd, 1) := by decide +kernel
theorem dX2_slideOne_124 : decode MX2_slideOne.2.1 124 = .ok (.if_icmp .ge 31, 3) := by decide +kernel
theorem dX2_slideOne_127 : decode MX2_slideOne.2.1 127 = .ok (.aload_n 0, 1) := by decide +kernel
theorem dX2_slideOne_128 : decode MX2_slideOne.2.1 128 = .ok (.getfield 21, 3) := by decide +kernel
theorem dX2_slideOne_131 : decode MX2_slideOne.2.1 131 = .ok (.iload 4, 2) := by decide +kernel
theorem dX2_slideOne_133 : decode MX2_slideOne.2.1 133 = .ok (.aload_n 0, 1) := by decide +kernel
theorem dX2_slideOne_134 : decode MX2_slideOne.2.1 134 = .ok (.getfield 18, 3) := by decide +kernel
theorem dX2_slideOne_137 : decode MX2_slideOne.2.1 137 = .ok (.iload 4, 2) := by decide +kernel
theorem dX2_slideOne_139 : decode MX2_slideOne.2.1 139 = .ok (.iaload, 1) := by decide +kernel
theorem dX2_slideOne_140 : decode MX2_slideOne.2.1 140 = .ok (.iastore, 1) := by decide +kernel
theorem dX2_slideOne_141 : decode MX2_slideOne.2.1 141 = .ok (.aload_n 0, 1) := by decide +kernel
theorem dX2_slideOne_142 : decode MX2_slideOne.2.1 142 = .ok (.getfield 18, 3) := by decide +kernel
theorem dX2_slideOne_145 : decode MX2_slideOne.2.1 145 = .ok (.iload 4, 2) := by decide +kernel
theorem dX2_slideOne_147 : decode MX2_slideOne.2.1 147 = .ok (.iconst 0, 1) := by decide +kernel
theorem dX2_slideOne_148 : decode MX2_slideOne.2.1 148 = .ok (.iastore, 1) := by decide +kernel
theorem dX2_slideOne_149 : decode MX2_slideOne.2.1 149 = .ok (.iinc 4 1, 3) := by decide +kernel
theorem dX2_slideOne_152 : decode MX2_slideOne.2.1 152 = .ok (.goto (-37), 3) := by decide +kernel
theorem dX2_slideOne_155 : decode MX2_slideOne.2.1 155 = .ok (.return_, 1) := by decide +kernel
theorem dX3_init_0 : decode MX3_init.2.1 0 = .ok (.aload_n 0, 1) := by decide +kernel
theorem dX3_init_1 : decode MX3_init.2.1 1 = .ok (.invokespecial 3, 3) := by decide +kernel
theorem dX3_init_4 : decode MX3_init.2.1 4 = .ok (.aload_n 0, 1) := by decide +kernel
theorem dX3_init_5 : decode MX3_init.2.1 5 = .ok (.bipush 16, 2) := by decide +kernel
theorem dX3_init_7 : decode MX3_init.2.1 7 = .ok (.newarray .boolean, 2) := by decide +kernel
theorem dX3_init_9 : decode MX3_init.2.1 9 = .ok (.putfield 9, 3) := by decide +kernel
theorem dX3_init_12 : decode MX3_init.2.1 12 = .ok (.aload_n 0, 1) := by decide +kernel
theorem dX3_init_13 : decode MX3_init.2.1 13 = .ok (.bipush 96, 2) := by decide +kernel
theorem dX3_init_15 : decode MX3_init.2.1 15 = .ok (.newarray .int, 2) := by decide +kernel
theorem dX3_init_17 : decode MX3_init.2.1 17 = .ok (.putfield 15, 3) := by decide +kernel
theorem dX3_init_20 : decode MX3_init.2.1 20 = .ok (.aload_n 0, 1) := by decide +kernel
theorem dX3_init_21 : decode MX3_init.2.1 21 = .ok (.bipush 36, 2) := by decide +kernel
theorem dX3_init_23 : decode MX3_init.2.1 23 = .ok (.newarray .int, 2) := by decide +kernel
theorem dX3_init_25 : decode MX3_init.2.1 25 = .ok (.putfield 19, 3) := by decide +kernel
theorem dX3_init_28 : decode MX3_init.2.1 28 = .ok (.aload_n 0, 1) := by decide +kernel
theorem dX3_init_29 : decode MX3_init.2.1 29 = .ok (.iconst 5, 1) := by decide +kernel
theorem dX3_init_30 : decode MX3_init.2.1 30 = .ok (.newarray .int, 2) := by decide +kernel
theorem dX3_init_32 : decode MX3_init.2.1 32 = .ok (.putfield 22, 3) := by decide +kernel
theorem dX3_init_35 : decode MX3_init.2.1 35 = .ok (.aload_n 0, 1) := by decide +kernel
theorem dX3_init_36 : decode MX3_init.2.1 36 = .ok (.iconst 5, 1) := by decide +kernel
theorem dX3_init_37 : decode MX3_init.2.1 37 = .ok (.newarray .int, 2) := by decide +kernel
theorem dX3_init_39 : decode MX3_init.2.1 39 = .ok (.putfield 25, 3) := by decide +kernel
theorem dX3_init_42 : decode MX3_init.2.1 42 = .ok (.aload_n 0, 1) := by decide +kernel
theorem dX3_init_43 : decode MX3_init.2.1 43 = .ok (.aload_n 1, 1) := by decide +kernel
theorem dX3_init_44 : decode MX3_init.2.1 44 = .ok (.putfield 28, 3) := by decide +kernel
theorem dX3_init_47 : decode MX3_init.2.1 47 = .ok (.aload_n 0, 1) := by decide +kernel
theorem dX3_init_48 : decode MX3_init.2.1 48 = .ok (.aload_n 2, 1) := by decide +kernel
theorem dX3_init_49 : decode MX3_init.2.1 49 = .ok (.putfield 32, 3) := by decide +kernel
theorem dX3_init_52 : decode MX3_init.2.1 52 = .ok (.return_, 1) := by decide +kernel
theorem dX3_prepare_0 : decode MX3_prepare.2.1 0 = .ok (.aload_n 0, 1) := by decide +kernel
theorem dX3_prepare_1 : decode MX3_prepare.2.1 1 = .ok (.ldc 36, 2) := by decide +kernel
theorem dX3_prepare_3 : decode MX3_prepare.2.1 3 = .ok (.putfield 37, 3) := by decide +kernel
theorem dX3_prepare_6 : decode MX3_prepare.2.1 6 = .ok (.aload_n 0, 1) := by decide +kernel
theorem dX3_prepare_7 : decode MX3_prepare.2.1 7 = .ok (.iconst 0, 1) := by decide +kernel
theorem dX3_prepare_8 : decode MX3_prepare.2.1 8 = .ok (.putfield 41, 3) := by decide +kernel
theorem dX3_prepare_11 : decode MX3_prepare.2.1 11 = .ok (.aload_n 0, 1) := by decide +kernel
theorem dX3_prepare_12 : decode MX3_prepare.2.1 12 = .ok (.getfield 32, 3) := by decide +kernel
theorem dX3_prepare_15 : decode MX3_prepare.2.1 15 = .ok (.aload_n 0, 1) := by decide +kernel
theorem dX3_prepare_16 : decode MX3_prepare.2.1 16 = .ok (.getfield 28, 3) := by decide +kernel
theorem dX3_prepare_19 : decode MX3_prepare.2.1 19 = .ok (.getfield 44, 3) := by decide +kernel
theorem dX3_prepare_22 : decode MX3_prepare.2.1 22 = .ok (.getfield 50, 3) := by decide +kernel
theorem dX3_prepare_25 : decode MX3_prepare.2.1 25 = .ok (.invokevirtual 55, 3) := by decide +kernel
theorem dX3_prepare_28 : decode MX3_prepare.2.1 28 = .ok (.iconst 0, 1) := by decide +kernel
theorem dX3_prepare_29 : decode MX3_prepare.2.1 29 = .ok (.istore_n 3, 1) := by decide +kernel
theorem dX3_prepare_30 : decode MX3_prepare.2.1 30 = .ok (.iload_n 3, 1) := by decide +kernel
theorem dX3_prepare_31 : decode MX3_prepare.2.1 31 = .ok (.bipush 6, 2) := by decide +kernel
theorem dX3_prepare_33 : decode MX3_prepare.2.1 33 = .ok (.if_icmp .ge 30, 3) := by decide +kernel
theorem dX3_prepare_36 : decode MX3_prepare.2.1 36 = .ok (.aload_n 0, 1) := by decide +kernel
theorem dX3_prepare_37 : decode MX3_prepare.2.1 37 = .ok (.getfield 19, 3) := by decide +kernel
theorem dX3_prepare_40 : decode MX3_prepare.2.1 40 = .ok (.iload_n 3, 1) := by decide +kernel
theorem dX3_prepare_41 : decode MX3_prepare.2.1 41 = .ok (.aload_n 0, 1) := by decide +kernel
theorem dX3_prepare_42 : decode MX3_prepare.2.1 42 = .ok (.getfield 28, 3) := by decide +kernel
theorem dX3_prepare_45 : decode MX3_prepare.2.1 45 = .ok (.iload_n 3, 1) := by decide +kernel
theorem dX3_prepare_46 : decode MX3_prepare.2.1 46 = .ok (.aload_n 0, 1) := by decide +kernel
theorem dX3_prepare_47 : decode MX3_prepare.2.1 47 = .ok (.getfield 28, 3) := by decide +kernel
theorem dX3_prepare_50 : decode MX3_prepare.2.1 50 = .ok (.getfield 44, 3) := by decide +kernel
theorem dX3_prepare_53 : decode MX3_prepare.2.1 53 = .ok (.invokevirtual 61, 3) := by decide +kernel
theorem dX3_prepare_56 : decode MX3_prepare.2.1 56 = .ok (.iastore, 1) := by decide +kernel
theorem dX3_prepare_57 : decode MX3_prepare.2.1 57 = .ok (.iinc 3 1, 3) := by decide +kernel
theorem dX3_prepare_60 : decode MX3_prepare.2.1 60 = .ok (.goto (-30), 3) := by decide +kernel
theorem dX3_prepare_63 : decode MX3_prepare.2.1 63 = .ok (.iconst 0, 1) := by decide +kernel
theorem dX3_prepare_64 : decode MX3_prepare.2.1 64 = .ok (.istore_n 3, 1) := by decide +kernel
theorem dX3_prepare_65 : decode MX3_prepare.2.1 65 = .ok (.iload_n 3, 1) := by decide +kernel
theorem dX3_prepare_66 : decode MX3_prepare.2.1 66 = .ok (.aload_n 0, 1) := by decide +kernel
theorem dX3_prepare_67 : decode MX3_prepare.2.1 67 = .ok (.getfield 28, 3) := by decide +kernel
theorem dX3_prepare_70 : decode MX3_prepare.2.1 70 = .ok (.getfield 65, 3) := by decide +kernel
theorem dX3_prepare_73 : decode MX3_prepare.2.1 73 = .ok (.getfield 69, 3) := by decide +kernel
theorem dX3_prepare_76 : decode MX3_prepare.2.1 76 = .ok (.if_icmp .ge 90, 3) := by decide +kernel
theorem dX3_prepare_79 : decode MX3_prepare.2.1 79 = .ok (.aload_n 0, 1) := by decide +kernel
theorem dX3_prepare_80 : decode MX3_prepare.2.1 80 = .ok (.getfield 32, 3) := by decide +kernel
theorem dX3_prepare_83 : decode MX3_prepare.2.1 83 = .ok (.iload_n 3, 1) := by decide +kernel
theorem dX3_prepare_84 : decode MX3_prepare.2.1 84 = .ok (.iload_n 1, 1) := by decide +kernel
theorem dX3_prepare_85 : decode MX3_prepare.2.1 85 = .ok (.iload_n 2, 1) := by decide +kernel
theorem dX3_prepare_86 : decode MX3_prepare.2.1 86 = .ok (.invokevirtual 74, 3) := by decide +kernel
theorem dX3_prepare_89 : decode MX3_prepare.2.1 89 = .ok (.aload_n 0, 1) := by decide +kernel
theorem dX3_prepare_90 : decode MX3_prepare.2.1 90 = .ok (.getfield 9, 3) := by decide +kernel
theorem dX3_prepare_93 : decode MX3_prepare.2.1 93 = .ok (.iload_n 3, 1) := by decide +kernel
theorem dX3_prepare_94 : decode MX3_prepare.2.1 94 = .ok (.aload_n 0, 1) := by decide +kernel
theorem dX3_prepare_95 : decode MX3_prepare.2.1 95 = .ok (.getfield 32, 3) := by decide +kernel
theorem dX3_prepare_98 : decode MX3_prepare.2.1 98 = .ok (.invokevirtual 78, 3) := by decide +kernel
theorem dX3_prepare_101 : decode MX3_prepare.2.1 101 = .ok (.ifCond .ne 7, 3) := by decide +kernel
theorem dX3_prepare_104 : decode MX3_prepare.2.1 104 = .ok (.iconst 1, 1) := by decide +kernel
theorem dX3_prepare_105 : decode MX3_prepare.2.1 105 = .ok (.goto 4, 3) := by decide +kernel
theorem dX3_prepare_108 : decode MX3_prepare.2.1 108 = .ok (.iconst 0, 1) := by decide +kernel
theorem dX3_prepare_109 : decode MX3_prepare.2.1 109 = .ok (.bastore, 1) := by decide +kernel
theorem dX3_prepare_110 : decode MX3_prepare.2.1 110 = .ok (.iconst 0, 1) := by decide +kernel
theorem dX3_prepare_111 : decode MX3_prepare.2.1 111 = .ok (.istore 4, 2) := by decide +kernel
theorem dX3_prepare_113 : decode MX3_prepare.2.1 113 = .ok (.iload 4, 2) := by decide +kernel
theorem dX3_prepare_115 : decode MX3_prepare.2.1 115 = .ok (.bipush 6, 2) := by decide +kernel
theorem dX3_prepare_117 : decode MX3_prepare.2.1 117 = .ok (.if_icmp .ge 43, 3) := by decide +kernel
theorem dX3_prepare_120 : decode MX3_prepare.2.1 120 = .ok (.aload_n 0, 1) := by decide +kernel
theorem dX3_prepare_121 : decode MX3_prepare.2.1 121 = .ok (.getfield 15, 3) := by decide +kernel
theorem dX3_prepare_124 : decode MX3_prepare.2.1 124 = .ok (.iload_n 3, 1) := by decide +kernel
theorem dX3_prepare_125 : decode MX3_prepare.2.1 125 = .ok (.bipush 6, 2) := by decide +kernel
theorem dX3_prepare_127 : decode MX3_prepare.2.1 127 = .ok (.imul, 1) := by decide +kernel
theorem dX3_prepare_128 : decode MX3_prepare.2.1 128 = .ok (.iload 4, 2) := by decide +kernel
theorem dX3_prepare_130 : decode MX3_prepare.2.1 130 = .ok (.iadd, 1) := by decide +kernel
theorem dX3_prepare_131 : decode MX3_prepare.2.1 131 = .ok (.aload_n 0, 1) := by decide +kernel
theorem dX3_prepare_132 : decode MX3_prepare.2.1 132 = .ok (.getfield 32, 3) := by decide +kernel
theorem dX3_prepare_135 : decode MX3_prepare.2.1 135 = .ok (.iload 4, 2) := by decide +kernel
theorem dX3_prepare_137 : decode MX3_prepare.2.1 137 = .ok (.aload_n 0, 1) := by decide +kernel
theorem dX3_prepare_138 : decode MX3_prepare.2.1 138 = .ok (.getfield 28, 3) := by decide +kernel
theorem dX3_prepare_141 : decode MX3_prepare.2.1 141 = .ok (.getfield 44, 3) := by decide +kernel
theorem dX3_prepare_144 : decode MX3_prepare.2.1 144 = .ok (.getfield 82, 3) := by decide +kernel
theorem dX3_prepare_147 : decode MX3_prepare.2.1 147 = .ok (.iload 4, 2) := by decide +kernel
theorem dX3_prepare_149 : decode MX3_prepare.2.1 149 = .ok (.iaload, 1) := by decide +kernel
theorem dX3_prepare_150 : decode MX3_prepare.2.1 150 = .ok (.invokevirtual 85, 3) := by decide +kernel
theorem dX3_prepare_153 : decode MX3_prepare.2.1 153 = .ok (.iastore, 1) := by decide +kernel
theorem dX3_prepare_154 : decode MX3_prepare.2.1 154 = .ok (.iinc 4 1, 3) := by decide +kernel
theorem dX3_prepare_157 : decode MX3_prepare.2.1 157 = .ok (.goto (-44), 3) := by decide +kernel
theorem dX3_prepare_160 : decode MX3_prepare.2.1 160 = .ok (.iinc 3 1, 3) := by decide +kernel
theorem dX3_prepare_163 : decode MX3_prepare.2.1 163 = .ok (.goto (-98), 3) := by decide +kernel
theorem dX3_prepare_166 : decode MX3_prepare.2.1 166 = .ok (.return_, 1) := by decide +kernel
theorem dX3_search_0 : decode MX3_search.2.1 0 = .ok (.iload_n 1, 1) := by decide +kernel
theorem dX3_search_1 : decode MX3_search.2.1 1 = .ok (.aload_n 0, 1) := by decide +kernel
theorem dX3_search_2 : decode MX3_search.2.1 2 = .ok (.getfield 28, 3) := by decide +kernel
theorem dX3_search_5 : decode MX3_search.2.1 5 = .ok (.getfield 88, 3) := by decide +kernel
theorem dX3_search_8 : decode MX3_search.2.1 8 = .ok (.if_icmp .lt 10, 3) := by decide +kernel
theorem dX3_search_11 : decode MX3_search.2.1 11 = .ok (.aload_n 0, 1) := by decide +kernel
theorem dX3_search_12 : decode MX3_search.2.1 12 = .ok (.iload_n 2, 1) := by decide +kernel
theorem dX3_search_13 : decode MX3_search.2.1 13 = .ok (.iload_n 3, 1) := by decide +kernel
theorem dX3_search_14 : decode MX3_search.2.1 14 = .ok (.invokevirtual 91, 3) := by decide +kernel
theorem dX3_search_17 : decode MX3_search.2.1 17 = .ok (.return_, 1) := by decide +kernel
theorem dX3_search_18 : decode MX3_search.2.1 18 = .ok (.aload_n 0, 1) := by decide +kernel
theorem dX3_search_19 : decode MX3_search.2.1 19 = .ok (.getfield 28, 3) := by decide +kernel
theorem dX3_search_22 : decode MX3_search.2.1 22 = .ok (.getfield 95, 3) := by decide +kernel
theorem dX3_search_25 : decode MX3_search.2.1 25 = .ok (.iload_n 1, 1) := by decide +kernel
theorem dX3_search_26 : decode MX3_search.2.1 26 = .ok (.iaload, 1) := by decide +kernel
theorem dX3_search_27 : decode MX3_search.2.1 27 = .ok (.istore 4, 2) := by decide +kernel
theorem dX3_search_29 : decode MX3_search.2.1 29 = .ok (.iconst 0, 1) := by decide +kernel
theorem dX3_search_30 : decode MX3_search.2.1 30 = .ok (.istore 5, 2) := by decide +kernel
theorem dX3_search_32 : decode MX3_search.2.1 32 = .ok (.iconst 0, 1) := by decide +kernel
theorem dX3_search_33 : decode MX3_search.2.1 33 = .ok (.istore 6, 2) := by decide +kernel
theorem dX3_search_35 : decode MX3_search.2.1 35 = .ok (.iconst 0, 1) := by decide +kernel
theorem dX3_search_36 : decode MX3_search.2.1 36 = .ok (.istore 7, 2) := by decide +kernel
theorem dX3_search_38 : decode MX3_search.2.1 38 = .ok (.iload 7, 2) := by decide +kernel
theorem dX3_search_40 : decode MX3_search.2.1 40 = .ok (.iload_n 1, 1) := by decide +kernel
theorem dX3_search_41 : decode MX3_search.2.1 41 = .ok (.if_icmp .ge 36, 3) := by decide +kernel
theorem dX3_search_44 : decode MX3_search.2.1 44 = .ok (.aload_n 0, 1) := by decide +kernel
theorem dX3_search_45 : decode MX3_search.2.1 45 = .ok (.getfield 28, 3) := by decide +kernel
theorem dX3_search_48 : decode MX3_search.2.1 48 = .ok (.getfield 95, 3) := by decide +kernel
theorem dX3_search_51 : decode MX3_search.2.1 51 = .ok (.iload 7, 2) := by decide +kernel
theorem dX3_search_53 : decode MX3_search.2.1 53 = .ok (.iaload, 1) := by decide +kernel
theorem dX3_search_54 : decode MX3_search.2.1 54 = .ok (.iload 4, 2) := by decide +kernel
theorem dX3_search_56 : decode MX3_search.2.1 56 = .ok (.if_icmp .ne 15, 3) := by decide +kernel
theorem dX3_search_59 : decode MX3_search.2.1 59 = .ok (.iinc 5 1, 3) := by decide +kernel
theorem dX3_search_62 : decode MX3_search.2.1 62 = .ok (.aload_n 0, 1) := by decide +kernel
theorem dX3_search_63 : decode MX3_search.2.1 63 = .ok (.getfield 22, 3) := by decide +kernel
theorem dX3_search_66 : decode MX3_search.2.1 66 = .ok (.iload 7, 2) := by decide +kernel
theorem dX3_search_68 : decode MX3_search.2.1 68 = .ok (.iaload, 1) := by decide +kernel
theorem dX3_search_69 : decode MX3_search.2.1 69 = .ok (.istore 6, 2) := by decide +kernel
theorem dX3_search_71 : decode MX3_search.2.1 71 = .ok (.iinc 7 1, 3) := by decide +kernel
theorem dX3_search_74 : decode MX3_search.2.1 74 = .ok (.goto (-36), 3) := by decide +kernel
theorem dX3_search_77 : decode MX3_search.2.1 77 = .ok (.iload 6, 2) := by decide +kernel
theorem dX3_search_79 : decode MX3_search.2.1 79 = .ok (.istore 7, 2) := by decide +kernel
theorem dX3_search_81 : decode MX3_search.2.1 81 = .ok (.iload 7, 2) := by decide +kernel
theorem dX3_search_83 : decode MX3_search.2.1 83 = .ok (.aload_n 0, 1) := by decide +kernel
theorem dX3_search_84 : decode MX3_search.2.1 84 = .ok (.getfield 28, 3) := by decide +kernel
theorem dX3_search_87 : decode MX3_search.2.1 87 = .ok (.getfield 65, 3) := by decide +kernel
theorem dX3_search_90 : decode MX3_search.2.1 90 = .ok (.getfield 69, 3) := by decide +kernel
theorem dX3_search_93 : decode MX3_search.2.1 93 = .ok (.if_icmp .ge 104, 3) := by decide +kernel
theorem dX3_search_96 : decode MX3_search.2.1 96 = .ok (.iload_n 2, 1) := by decide +kernel
theorem dX3_search_97 : decode MX3_search.2.1 97 = .ok (.aload_n 0, 1) := by decide +kernel
theorem dX3_search_98 : decode MX3_search.2.1 98 = .ok (.getfield 28, 3) := by decide +kernel
theorem dX3_search_101 : decode MX3_search.2.1 101 = .ok (.getfield 65, 3) := by decide +kernel
theorem dX3_search_104 : decode MX3_search.2.1 104 = .ok (.getfield 98, 3) := by decide +kernel
theorem dX3_search_107 : decode MX3_search.2.1 107 = .ok (.iload 7, 2) := by decide +kernel
theorem dX3_search_109 : decode MX3_search.2.1 109 = .ok (.iaload, 1) := by decide +kernel
theorem dX3_search_110 : decode MX3_search.2.1 110 = .ok (.iadd, 1) := by decide +kernel
theorem dX3_search_111 : decode MX3_search.2.1 111 = .ok (.istore 8, 2) := by decide +kernel
theorem dX3_search_113 : decode MX3_search.2.1 113 = .ok (.aload_n 0, 1) := by decide +kernel
theorem dX3_search_114 : decode MX3_search.2.1 114 = .ok (.getfield 9, 3) := by decide +kernel
theorem dX3_search_117 : decode MX3_search.2.1 117 = .ok (.iload 7, 2) := by decide +kernel
theorem dX3_search_119 : decode MX3_search.2.1 119 = .ok (.baload, 1) := by decide +kernel
theorem dX3_search_120 : decode MX3_search.2.1 120 = .ok (.ifCond .eq 71, 3) := by decide +kernel
theorem dX3_search_123 : decode MX3_search.2.1 123 = .ok (.aload_n 0, 1) := by decide +kernel
theorem dX3_search_124 : decode MX3_search.2.1 124 = .ok (.getfield 28, 3) := by decide +kernel
theorem dX3_search_127 : decode MX3_search.2.1 127 = .ok (.getfield 65, 3) := by decide +kernel
theorem dX3_search_130 : decode MX3_search.2.1 130 = .ok (.getfield 101, 3) := by decide +kernel
theorem dX3_search_133 : decode MX3_search.2.1 133 = .ok (.iload 7, 2) := by decide +kernel
theorem dX3_search_135 : decode MX3_search.2.1 135 = .ok (.iaload, 1) := by decide +kernel
theorem dX3_search_136 : decode MX3_search.2.1 136 = .ok (.iload 4, 2) := by decide +kernel
theorem dX3_search_138 : decode MX3_search.2.1 138 = .ok (.if_icmp .ne 53, 3) := by decide +kernel
theorem dX3_search_141 : decode MX3_search.2.1 141 = .ok (.iload 8, 2) := by decide +kernel
theorem dX3_search_143 : decode MX3_search.2.1 143 = .ok (.aload_n 0, 1) := by decide +kernel
theorem dX3_search_144 : decode MX3_search.2.1 144 = .ok (.getfield 37, 3) := by decide +kernel
theorem dX3_search_147 : decode MX3_search.2.1 147 = .ok (.if_icmp .gt 44, 3) := by decide +kernel
theorem dX3_search_150 : decode MX3_search.2.1 150 = .ok (.aload_n 0, 1) := by decide +kernel
theorem dX3_search_151 : decode MX3_search.2.1 151 = .ok (.iload_n 1, 1) := by decide +kernel
theorem dX3_search_152 : decode MX3_search.2.1 152 = .ok (.iload 7, 2) := by decide +kernel
theorem dX3_search_154 : decode MX3_search.2.1 154 = .ok (.invokevirtual 104, 3) := by decide +kernel
theorem dX3_search_157 : decode MX3_search.2.1 157 = .ok (.ifCond .eq 34, 3) := by decide +kernel
theorem dX3_search_160 : decode MX3_search.2.1 160 = .ok (.aload_n 0, 1) := by decide +kernel
theorem dX3_search_161 : decode MX3_search.2.1 161 = .ok (.getfield 22, 3) := by decide +kernel
theorem dX3_search_164 : decode MX3_search.2.1 164 = .ok (.iload_n 1, 1) := by decide +kernel
theorem dX3_search_165 : decode MX3_search.2.1 165 = .ok (.iload 7, 2) := by decide +kernel
theorem dX3_search_167 : decode MX3_search.2.1 167 = .ok (.iastore, 1) := by decide +kernel
theorem dX3_search_168 : decode MX3_search.2.1 168 = .ok (.aload_n 0, 1) := by decide +kernel
theorem dX3_search_169 : decode MX3_search.2.1 169 = .ok (.iload_n 1, 1) := by decide +kernel
theorem dX3_search_170 : decode MX3_search.2.1 170 = .ok (.iconst 1, 1) := by decide +kernel
theorem dX3_search_171 : decode MX3_search.2.1 171 = .ok (.iadd, 1) := by decide +kernel
theorem dX3_search_172 : decode MX3_search.2.1 172 = .ok (.iload 8, 2) := by decide +kernel
theorem dX3_search_174 : decode MX3_search.2.1 174 = .ok (.iload_n 3, 1) := by decide +kernel
theorem dX3_search_175 : decode MX3_search.2.1 175 = .ok (.iload 5, 2) := by decide +kernel
theorem dX3_search_177 : decode MX3_search.2.1 177 = .ok (.iconst 1, 1) := by decide +kernel
theorem dX3_search_178 : decode MX3_search.2.1 178 = .ok (.iadd, 1) := by decide +kernel
theorem dX3_search_179 : decode MX3_search.2.1 179 = .ok (.imul, 1) := by decide +kernel
theorem dX3_search_180 : decode MX3_search.2.1 180 = .ok (.aload_n 0, 1) := by decide +kernel
theorem dX3_search_181 : decode MX3_search.2.1 181 = .ok (.iload_n 1, 1) := by decide +kernel
theorem dX3_search_182 : decode MX3_search.2.1 182 = .ok (.iload 7, 2) := by decide +kernel
theorem dX3_search_184 : decode MX3_search.2.1 184 = .ok (.invokevirtual 108, 3) := by decide +kernel
theorem dX3_search_187 : decode MX3_search.2.1 187 = .ok (.idiv, 1) := by decide +kernel
theorem dX3_search_188 : decode MX3_search.2.1 188 = .ok (.invokevirtual 111, 3) := by decide +kernel
theorem dX3_search_191 : decode MX3_search.2.1 191 = .ok (.iinc 7 1, 3) := by decide +kernel
theorem dX3_search_194 : decode MX3_search.2.1 194 = .ok (.goto (-113), 3) := by decide +kernel
theorem dX3_search_197 : decode MX3_search.2.1 197 = .ok (.return_, 1) := by decide +kernel
theorem dX3_note_0 : decode MX3_note.2.1 0 = .ok (.iload_n 1, 1) := by decide +kernel
theorem dX3_note_1 : decode MX3_note.2.1 1 = .ok (.aload_n 0, 1) := by decide +kernel
theorem dX3_note_2 : decode MX3_note.2.1 2 = .ok (.getfield 37, 3) := by decide +kernel
theorem dX3_note_5 : decode MX3_note.2.1 5 = .ok (.if_icmp .ge 27, 3) := by decide +kernel
theorem dX3_note_8 : decode MX3_note.2.1 8 = .ok (.aload_n 0, 1) := by decide +kernel
theorem dX3_note_9 : decode MX3_note.2.1 9 = .ok (.iload_n 1, 1) := by decide +kernel
theorem dX3_note_10 : decode MX3_note.2.1 10 = .ok (.putfield 37, 3) := by decide +kernel
theorem dX3_note_13 : decode MX3_note.2.1 13 = .ok (.aload_n 0, 1) := by decide +kernel
theorem dX3_note_14 : decode MX3_note.2.1 14 = .ok (.iconst 0, 1) := by decide +kernel
theorem dX3_note_15 : decode MX3_note.2.1 15 = .ok (.putfield 41, 3) := by decide +kernel
theorem dX3_note_18 : decode MX3_note.2.1 18 = .ok (.aload_n 0, 1) := by decide +kernel
theorem dX3_note_19 : decode MX3_note.2.1 19 = .ok (.getfield 22, 3) := by decide +kernel
theorem dX3_note_22 : decode MX3_note.2.1 22 = .ok (.iconst 0, 1) := by decide +kernel
theorem dX3_note_23 : decode MX3_note.2.1 23 = .ok (.aload_n 0, 1) := by decide +kernel
theorem dX3_note_24 : decode MX3_note.2.1 24 = .ok (.getfield 25, 3) := by decide +kernel
theorem dX3_note_27 : decode MX3_note.2.1 27 = .ok (.iconst 0, 1) := by decide +kernel
theorem dX3_note_28 : decode MX3_note.2.1 28 = .ok (.iconst 5, 1) := by decide +kernel
theorem dX3_note_29 : decode MX3_note.2.1 29 = .ok (.invokestatic 114, 3) := by decide +kernel
theorem dX3_note_32 : decode MX3_note.2.1 32 = .ok (.iload_n 1, 1) := by decide +kernel
theorem dX3_note_33 : decode MX3_note.2.1 33 = .ok (.aload_n 0, 1) := by decide +kernel
theorem dX3_note_34 : decode MX3_note.2.1 34 = .ok (.getfield 37, 3) := by decide +kernel
theorem dX3_note_37 : decode MX3_note.2.1 37 = .ok (.if_icmp .ne 13, 3) := by decide +kernel
theorem dX3_note_40 : decode MX3_note.2.1 40 = .ok (.aload_n 0, 1) := by decide +kernel
theorem dX3_note_41 : decode MX3_note.2.1 41 = .ok (.dup, 1) := by decide +kernel
theorem dX3_note_42 : decode MX3_note.2.1 42 = .ok (.getfield 41, 3) := by decide +kernel
theorem dX3_note_45 : decode MX3_note.2.1 45 = .ok (.iload_n 2, 1) := by decide +kernel
theorem dX3_note_46 : decode MX3_note.2.1 46 = .ok (.iadd, 1) := by decide +kernel
theorem dX3_note_47 : decode MX3_note.2.1 47 = .ok (.putfield 41, 3) := by decide +kernel
theorem dX3_note_50 : decode MX3_note.2.1 50 = .ok (.return_, 1) := by decide +kernel
theorem dX3_fits_0 : decode MX3_fits.2.1 0 = .ok (.iconst 0, 1) := by decide +kernel
theorem dX3_fits_1 : decode MX3_fits.2.1 1 = .ok (.istore_n 3, 1) := by decide +kernel
theorem dX3_fits_2 : decode MX3_fits.2.1 2 = .ok (.iload_n 3, 1) := by decide +kernel
theorem dX3_fits_3 : decode MX3_fits.2.1 3 = .ok (.bipush 6, 2) := by decide +kernel
theorem dX3_fits_5 : decode MX3_fits.2.1 5 = .ok (.if_icmp .ge 56, 3) := by decide +kernel
theorem dX3_fits_8 : decode MX3_fits.2.1 8 = .ok (.aload_n 0, 1) := by decide +kernel
theorem dX3_fits_9 : decode MX3_fits.2.1 9 = .ok (.getfield 19, 3) := by decide +kernel
theorem dX3_fits_12 : decode MX3_fits.2.1 12 = .ok (.iload_n 1, 1) := by decide +kernel
theorem dX3_fits_13 : decode MX3_fits.2.1 13 = .ok (.bipush 6, 2) := by decide +kernel
theorem dX3_fits_15 : decode MX3_fits.2.1 15 = .ok (.imul, 1) := by decide +kernel
theorem dX3_fits_16 : decode MX3_fits.2.1 16 = .ok (.iload_n 3, 1) := by decide +kernel
theorem dX3_fits_17 : decode MX3_fits.2.1 17 = .ok (.iadd, 1) := by decide +kernel
theorem dX3_fits_18 : decode MX3_fits.2.1 18 = .ok (.iaload, 1) := by decide +kernel
theorem dX3_fits_19 : decode MX3_fits.2.1 19 = .ok (.aload_n 0, 1) := by decide +kernel
theorem dX3_fits_20 : decode MX3_fits.2.1 20 = .ok (.getfield 15, 3) := by decide +kernel
theorem dX3_fits_23 : decode MX3_fits.2.1 23 = .ok (.iload_n 2, 1) := by decide +kernel
theorem dX3_fits_24 : decode MX3_fits.2.1 24 = .ok (.bipush 6, 2) := by decide +kernel
theorem dX3_fits_26 : decode MX3_fits.2.1 26 = .ok (.imul, 1) := by decide +kernel
theorem dX3_fits_27 : decode MX3_fits.2.1 27 = .ok (.iload_n 3, 1) := by decide +kernel
theorem dX3_fits_28 : decode MX3_fits.2.1 28 = .ok (.iadd, 1) := by decide +kernel
theorem dX3_fits_29 : decode MX3_fits.2.1 29 = .ok (.iaload, 1) := by decide +kernel
theorem dX3_fits_30 : decode MX3_fits.2.1 30 = .ok (.isub, 1) := by decide +kernel
theorem dX3_fits_31 : decode MX3_fits.2.1 31 = .ok (.istore 4, 2) := by decide +kernel
theorem dX3_fits_33 : decode MX3_fits.2.1 33 = .ok (.iload 4, 2) := by decide +kernel
theorem dX3_fits_35 : decode MX3_fits.2.1 35 = .ok (.ifCond .ge 5, 3) := by decide +kernel
theorem dX3_fits_38 : decode MX3_fits.2.1 38 = .ok (.iconst 0, 1) := by decide +kernel
theorem dX3_fits_39 : decode MX3_fits.2.1 39 = .ok (.ireturn, 1) := by decide +kernel
theorem dX3_fits_40 : decode MX3_fits.2.1 40 = .ok (.aload_n 0, 1) := by decide +kernel
theorem dX3_fits_41 : decode MX3_fits.2.1 41 = .ok (.getfield 19, 3) := by decide +kernel
theorem dX3_fits_44 : decode MX3_fits.2.1 44 = .ok (.iload_n 1, 1) := by decide +kernel
theorem dX3_fits_45 : decode MX3_fits.2.1 45 = .ok (.iconst 1, 1) := by decide +kernel
theorem dX3_fits_46 : decode MX3_fits.2.1 46 = .ok (.iadd, 1) := by decide +kernel
theorem dX3_fits_47 : decode MX3_fits.2.1 47 = .ok (.bipush 6, 2) := by decide +kernel
theorem dX3_fits_49 : decode MX3_fits.2.1 49 = .ok (.imul, 1) := by decide +kernel
theorem dX3_fits_50 : decode MX3_fits.2.1 50 = .ok (.iload_n 3, 1) := by decide +kernel
theorem dX3_fits_51 : decode MX3_fits.2.1 51 = .ok (.iadd, 1) := by decide +kernel
theorem dX3_fits_52 : decode MX3_fits.2.1 52 = .ok (.iload 4, 2) := by decide +kernel
theorem dX3_fits_54 : decode MX3_fits.2.1 54 = .ok (.iastore, 1) := by decide +kernel
theorem dX3_fits_55 : decode MX3_fits.2.1 55 = .ok (.iinc 3 1, 3) := by decide +kernel
theorem dX3_fits_58 : decode MX3_fits.2.1 58 = .ok (.goto (-56), 3) := by decide +kernel
theorem dX3_fits_61 : decode MX3_fits.2.1 61 = .ok (.iconst 1, 1) := by decide +kernel
theorem dX3_fits_62 : decode MX3_fits.2.1 62 = .ok (.ireturn, 1) := by decide +kernel
theorem dX3_timesChosen_0 : decode MX3_timesChosen.2.1 0 = .ok (.iconst 1, 1) := by decide +kernel
theorem dX3_timesChosen_1 : decode MX3_timesChosen.2.1 1 = .ok (.istore_n 3, 1) := by decide +kernel
theorem dX3_timesChosen_2 : decode MX3_timesChosen.2.1 2 = .ok (.iconst 0, 1) := by decide +kernel
theorem dX3_timesChosen_3 : decode MX3_timesChosen.2.1 3 = .ok (.istore 4, 2) := by decide +kernel
theorem dX3_timesChosen_5 : decode MX3_timesChosen.2.1 5 = .ok (.iload 4, 2) := by decide +kernel
theorem dX3_timesChosen_7 : decode MX3_timesChosen.2.1 7 = .ok (.iload_n 1, 1) := by decide +kernel
theorem dX3_timesChosen_8 : decode MX3_timesChosen.2.1 8 = .ok (.if_icmp .ge 23, 3) := by decide +kernel
theorem dX3_timesChosen_11 : decode MX3_timesChosen.2.1 11 = .ok (.aload_n 0, 1) := by decide +kernel
theorem dX3_timesChosen_12 : decode MX3_timesChosen.2.1 12 = .ok (.getfield 22, 3) := by decide +kernel
theorem dX3_timesChosen_15 : decode MX3_timesChosen.2.1 15 = .ok (.iload 4, 2) := by decide +kernel
theorem dX3_timesChosen_17 : decode MX3_timesChosen.2.1 17 = .ok (.iaload, 1) := by decide +kernel
theorem dX3_timesChosen_18 : decode MX3_timesChosen.2.1 18 = .ok (.iload_n 2, 1) := by decide +kernel
theorem dX3_timesChosen_19 : decode MX3_timesChosen.2.1 19 = .ok (.if_icmp .ne 6, 3) := by decide +kernel
theorem dX3_timesChosen_22 : decode MX3_timesChosen.2.1 22 = .ok (.iinc 3 1, 3) := by decide +kernel
theorem dX3_timesChosen_25 : decode MX3_timesChosen.2.1 25 = .ok (.iinc 4 1, 3) := by decide +kernel
theorem dX3_timesChosen_28 : decode MX3_timesChosen.2.1 28 = .ok (.goto (-23), 3) := by decide +kernel
theorem dX3_timesChosen_31 : decode MX3_timesChosen.2.1 31 = .ok (.iload_n 3, 1) := by decide +kernel
theorem dX3_timesChosen_32 : decode MX3_timesChosen.2.1 32 = .ok (.ireturn, 1) := by decide +kernel
theorem dX4_init_0 : decode MX4_init.2.1 0 = .ok (.aload_n 0, 1) := by decide +kernel
theorem dX4_init_1 : decode MX4_init.2.1 1 = .ok (.invokespecial 3, 3) := by decide +kernel
theorem dX4_init_4 : decode MX4_init.2.1 4 = .ok (.aload_n 0, 1) := by decide +kernel
theorem dX4_init_5 : decode MX4_init.2.1 5 = .ok (.bipush 24, 2) := by decide +kernel
theorem dX4_init_7 : decode MX4_init.2.1 7 = .ok (.newarray .int, 2) := by decide +kernel
theorem dX4_init_9 : decode MX4_init.2.1 9 = .ok (.putfield 9, 3) := by decide +kernel
theorem dX4_init_12 : decode MX4_init.2.1 12 = .ok (.aload_n 0, 1) := by decide +kernel
theorem dX4_init_13 : decode MX4_init.2.1 13 = .ok (.bipush 24, 2) := by decide +kernel
theorem dX4_init_15 : decode MX4_init.2.1 15 = .ok (.newarray .boolean, 2) := by decide +kernel
theorem dX4_init_17 : decode MX4_init.2.1 17 = .ok (.putfield 15, 3) := by decide +kernel
theorem dX4_init_20 : decode MX4_init.2.1 20 = .ok (.aload_n 0, 1) := by decide +kernel
theorem dX4_init_21 : decode MX4_init.2.1 21 = .ok (.sipush 144, 3) := by decide +kernel
theorem dX4_init_24 : decode MX4_init.2.1 24 = .ok (.newarray .int, 2) := by decide +kernel
theorem dX4_init_26 : decode MX4_init.2.1 26 = .ok (.putfield 19, 3) := by decide +kernel
theorem dX4_init_29 : decode MX4_init.2.1 29 = .ok (.aload_n 0, 1) := by decide +kernel
theorem dX4_init_30 : decode MX4_init.2.1 30 = .ok (.bipush 6, 2) := by decide +kernel
theorem dX4_init_32 : decode MX4_init.2.1 32 = .ok (.newarray .int, 2) := by decide +kernel
theorem dX4_init_34 : decode MX4_init.2.1 34 = .ok (.putfield 22, 3) := by decide +kernel
theorem dX4_init_37 : decode MX4_init.2.1 37 = .ok (.aload_n 0, 1) := by decide +kernel
theorem dX4_init_38 : decode MX4_init.2.1 38 = .ok (.bipush 6, 2) := by decide +kernel
theorem dX4_init_40 : decode MX4_init.2.1 40 = .ok (.newarray .int, 2) := by decide +kernel
theorem dX4_init_42 : decode MX4_init.2.1 42 = .ok (.putfield 25, 3) := by decide +kernel
theorem dX4_init_45 : decode MX4_init.2.1 45 = .ok (.aload_n 0, 1) := by decide +kernel
theorem dX4_init_46 : decode MX4_init.2.1 46 = .ok (.aload_n 1, 1) := by decide +kernel
theorem dX4_init_47 : decode MX4_init.2.1 47 = .ok (.putfield 28, 3) := by decide +kernel
theorem dX4_init_50 : decode MX4_init.2.1 50 = .ok (.aload_n 0, 1) := by decide +kernel
theorem dX4_init_51 : decode MX4_init.2.1 51 = .ok (.aload_n 2, 1) := by decide +kernel
theorem dX4_init_52 : decode MX4_init.2.1 52 = .ok (.putfield 32, 3) := by decide +kernel
theorem dX4_init_55 : decode MX4_init.2.1 55 = .ok (.return_, 1) := by decide +kernel
theorem dX4_noteDay_0 : decode MX4_noteDay.2.1 0 = .ok (.aload_n 0, 1) := by decide +kernel
theorem dX4_noteDay_1 : decode MX4_noteDay.2.1 1 = .ok (.getfield 32, 3) := by decide +kernel
theorem dX4_noteDay_4 : decode MX4_noteDay.2.1 4 = .ok (.aload_n 2, 1) := by decide +kernel
theorem dX4_noteDay_5 : decode MX4_noteDay.2.1 5 = .ok (.getfield 36, 3) := by decide +kernel
theorem dX4_noteDay_8 : decode MX4_noteDay.2.1 8 = .ok (.invokevirtual 42, 3) := by decide +kernel
theorem dX4_noteDay_11 : decode MX4_noteDay.2.1 11 = .ok (.iconst 0, 1) := by decide +kernel
theorem dX4_noteDay_12 : decode MX4_noteDay.2.1 12 = .ok (.istore_n 3, 1) := by decide +kernel
theorem dX4_noteDay_13 : decode MX4_noteDay.2.1 13 = .ok (.iload_n 3, 1) := by decide +kernel
theorem dX4_noteDay_14 : decode MX4_noteDay.2.1 14 = .ok (.bipush 6, 2) := by decide +kernel
theorem dX4_noteDay_16 : decode MX4_noteDay.2.1 16 = .ok (.if_icmp .ge 29, 3) := by decide +kernel
theorem dX4_noteDay_19 : decode MX4_noteDay.2.1 19 = .ok (.aload_n 0, 1) := by decide +kernel
theorem dX4_noteDay_20 : decode MX4_noteDay.2.1 20 = .ok (.getfield 9, 3) := by decide +kernel
theorem dX4_noteDay_23 : decode MX4_noteDay.2.1 23 = .ok (.iload_n 1, 1) := by decide +kernel
theorem dX4_noteDay_24 : decode MX4_noteDay.2.1 24 = .ok (.bipush 6, 2) := by decide +kernel
theorem dX4_noteDay_26 : decode MX4_noteDay.2.1 26 = .ok (.imul, 1) := by decide +kernel
theorem dX4_noteDay_27 : decode MX4_noteDay.2.1 27 = .ok (.iload_n 3, 1) := by decide +kernel
theorem dX4_noteDay_28 : decode MX4_noteDay.2.1 28 = .ok (.iadd, 1) := by decide +kernel
theorem dX4_noteDay_29 : decode MX4_noteDay.2.1 29 = .ok (.aload_n 0, 1) := by decide +kernel
theorem dX4_noteDay_30 : decode MX4_noteDay.2.1 30 = .ok (.getfield 28, 3) := by decide +kernel
theorem dX4_noteDay_33 : decode MX4_noteDay.2.1 33 = .ok (.iload_n 3, 1) := by decide +kernel
theorem dX4_noteDay_34 : decode MX4_noteDay.2.1 34 = .ok (.aload_n 2, 1) := by decide +kernel
theorem dX4_noteDay_35 : decode MX4_noteDay.2.1 35 = .ok (.invokevirtual 48, 3) := by decide +kernel
theorem dX4_noteDay_38 : decode MX4_noteDay.2.1 38 = .ok (.iastore, 1) := by decide +kernel
theorem dX4_noteDay_39 : decode MX4_noteDay.2.1 39 = .ok (.iinc 3 1, 3) := by decide +kernel
theorem dX4_noteDay_42 : decode MX4_noteDay.2.1 42 = .ok (.goto (-29), 3) := by decide +kernel
theorem dX4_noteDay_45 : decode MX4_noteDay.2.1 45 = .ok (.iconst 0, 1) := by decide +kernel
theorem dX4_noteDay_46 : decode MX4_noteDay.2.1 46 = .ok (.istore_n 3, 1) := by decide +kernel
theorem dX4_noteDay_47 : decode MX4_noteDay.2.1 47 = .ok (.iload_n 3, 1) := by decide +kernel
theorem dX4_noteDay_48 : decode MX4_noteDay.2.1 48 = .ok (.aload_n 0, 1) := by decide +kernel
theorem dX4_noteDay_49 : decode MX4_noteDay.2.1 49 = .ok (.getfield 28, 3) := by decide +kernel
theorem dX4_noteDay_52 : decode MX4_noteDay.2.1 52 = .ok (.getfield 54, 3) := by decide +kernel
theorem dX4_noteDay_55 : decode MX4_noteDay.2.1 55 = .ok (.if_icmp .ge 118, 3) := by decide +kernel
theorem dX4_noteDay_58 : decode MX4_noteDay.2.1 58 = .ok (.iload_n 1, 1) := by decide +kernel
theorem dX4_noteDay_59 : decode MX4_noteDay.2.1 59 = .ok (.bipush 6, 2) := by decide +kernel
theorem dX4_noteDay_61 : decode MX4_noteDay.2.1 61 = .ok (.imul, 1) := by decide +kernel
theorem dX4_noteDay_62 : decode MX4_noteDay.2.1 62 = .ok (.iload_n 3, 1) := by decide +kernel
theorem dX4_noteDay_63 : decode MX4_noteDay.2.1 63 = .ok (.iadd, 1) := by decide +kernel
theorem dX4_noteDay_64 : decode MX4_noteDay.2.1 64 = .ok (.istore 4, 2) := by decide +kernel
theorem dX4_noteDay_66 : decode MX4_noteDay.2.1 66 = .ok (.aload_n 0, 1) := by decide +kernel
theorem dX4_noteDay_67 : decode MX4_noteDay.2.1 67 = .ok (.getfield 32, 3) := by decide +kernel
theorem dX4_noteDay_70 : decode MX4_noteDay.2.1 70 = .ok (.aload_n 0, 1) := by decide +kernel
theorem dX4_noteDay_71 : decode MX4_noteDay.2.1 71 = .ok (.getfield 28, 3) := by decide +kernel
theorem dX4_noteDay_74 : decode MX4_noteDay.2.1 74 = .ok (.getfield 57, 3) := by decide +kernel
theorem dX4_noteDay_77 : decode MX4_noteDay.2.1 77 = .ok (.iload_n 3, 1) := by decide +kernel
theorem dX4_noteDay_78 : decode MX4_noteDay.2.1 78 = .ok (.iaload, 1) := by decide +kernel
theorem dX4_noteDay_79 : decode MX4_noteDay.2.1 79 = .ok (.aload_n 0, 1) := by decide +kernel
theorem dX4_noteDay_80 : decode MX4_noteDay.2.1 80 = .ok (.getfield 28, 3) := by decide +kernel
theorem dX4_noteDay_83 : decode MX4_noteDay.2.1 83 = .ok (.getfield 60, 3) := by decide +kernel
theorem dX4_noteDay_86 : decode MX4_noteDay.2.1 86 = .ok (.iload_n 3, 1) := by decide +kernel
theorem dX4_noteDay_87 : decode MX4_noteDay.2.1 87 = .ok (.iaload, 1) := by decide +kernel
theorem dX4_noteDay_88 : decode MX4_noteDay.2.1 88 = .ok (.aload_n 0, 1) := by decide +kernel
theorem dX4_noteDay_89 : decode MX4_noteDay.2.1 89 = .ok (.getfield 28, 3) := by decide +kernel
theorem dX4_noteDay_92 : decode MX4_noteDay.2.1 92 = .ok (.getfield 63, 3) := by decide +kernel
theorem dX4_noteDay_95 : decode MX4_noteDay.2.1 95 = .ok (.iload_n 3, 1) := by decide +kernel
theorem dX4_noteDay_96 : decode MX4_noteDay.2.1 96 = .ok (.iaload, 1) := by decide +kernel
theorem dX4_noteDay_97 : decode MX4_noteDay.2.1 97 = .ok (.invokevirtual 66, 3) := by decide +kernel
theorem dX4_noteDay_100 : decode MX4_noteDay.2.1 100 = .ok (.aload_n 0, 1) := by decide +kernel
theorem dX4_noteDay_101 : decode MX4_noteDay.2.1 101 = .ok (.getfield 15, 3) := by decide +kernel
theorem dX4_noteDay_104 : decode MX4_noteDay.2.1 104 = .ok (.iload 4, 2) := by decide +kernel
theorem dX4_noteDay_106 : decode MX4_noteDay.2.1 106 = .ok (.aload_n 0, 1) := by decide +kernel
theorem dX4_noteDay_107 : decode MX4_noteDay.2.1 107 = .ok (.getfield 32, 3) := by decide +kernel
theorem dX4_noteDay_110 : decode MX4_noteDay.2.1 110 = .ok (.invokevirtual 70, 3) := by decide +kernel
theorem dX4_noteDay_113 : decode MX4_noteDay.2.1 113 = .ok (.ifCond .ne 7, 3) := by decide +kernel
theorem dX4_noteDay_116 : decode MX4_noteDay.2.1 116 = .ok (.iconst 1, 1) := by decide +kernel
theorem dX4_noteDay_117 : decode MX4_noteDay.2.1 117 = .ok (.goto 4, 3) := by decide +kernel
theorem dX4_noteDay_120 : decode MX4_noteDay.2.1 120 = .ok (.iconst 0, 1) := by decide +kernel
theorem dX4_noteDay_121 : decode MX4_noteDay.2.1 121 = .ok (.bastore, 1) := by decide +kernel
theorem dX4_noteDay_122 : decode MX4_noteDay.2.1 122 = .ok (.iconst 0, 1) := by decide +kernel
theorem dX4_noteDay_123 : decode MX4_noteDay.2.1 123 = .ok (.istore 5, 2) := by decide +kernel
theorem dX4_noteDay_125 : decode MX4_noteDay.2.1 125 = .ok (.iload 5, 2) := by decide +kernel
theorem dX4_noteDay_127 : decode MX4_noteDay.2.1 127 = .ok (.bipush 6, 2) := by decide +kernel
theorem dX4_noteDay_129 : decode MX4_noteDay.2.1 129 = .ok (.if_icmp .ge 38, 3) := by decide +kernel
theorem dX4_noteDay_132 : decode MX4_noteDay.2.1 132 = .ok (.aload_n 0, 1) := by decide +kernel
theorem dX4_noteDay_133 : decode MX4_noteDay.2.1 133 = .ok (.getfield 19, 3) := by decide +kernel
theorem dX4_noteDay_136 : decode MX4_noteDay.2.1 136 = .ok (.iload 4, 2) := by decide +kernel
theorem dX4_noteDay_138 : decode MX4_noteDay.2.1 138 = .ok (.bipush 6, 2) := by decide +kernel
theorem dX4_noteDay_140 : decode MX4_noteDay.2.1 140 = .ok (.imul, 1) := by decide +kernel
theorem dX4_noteDay_141 : decode MX4_noteDay.2.1 141 = .ok (.iload 5, 2) := by decide +kernel
theorem dX4_noteDay_143 : decode MX4_noteDay.2.1 143 = .ok (.iadd, 1) := by decide +kernel
theorem dX4_noteDay_144 : decode MX4_noteDay.2.1 144 = .ok (.aload_n 0, 1) := by decide +kernel
theorem dX4_noteDay_145 : decode MX4_noteDay.2.1 145 = .ok (.getfield 32, 3) := by decide +kernel
theorem dX4_noteDay_148 : decode MX4_noteDay.2.1 148 = .ok (.iload 5, 2) := by decide +kernel
theorem dX4_noteDay_150 : decode MX4_noteDay.2.1 150 = .ok (.aload_n 2, 1) := by decide +kernel
theorem dX4_noteDay_151 : decode MX4_noteDay.2.1 151 = .ok (.getfield 74, 3) := by decide +kernel
theorem dX4_noteDay_154 : decode MX4_noteDay.2.1 154 = .ok (.iload 5, 2) := by decide +kernel
theorem dX4_noteDay_156 : decode MX4_noteDay.2.1 156 = .ok (.iaload, 1) := by decide +kernel
theorem dX4_noteDay_157 : decode MX4_noteDay.2.1 157 = .ok (.invokevirtual 77, 3) := by decide +kernel
theorem dX4_noteDay_160 : decode MX4_noteDay.2.1 160 = .ok (.iastore, 1) := by decide +kernel
theorem dX4_noteDay_161 : decode MX4_noteDay.2.1 161 = .ok (.iinc 5 1, 3) := by decide +kernel
theorem dX4_noteDay_164 : decode MX4_noteDay.2.1 164 = .ok (.goto (-39), 3) := by decide +kernel
theorem dX4_noteDay_167 : decode MX4_noteDay.2.1 167 = .ok (.iinc 3 1, 3) := by decide +kernel
theorem dX4_noteDay_170 : decode MX4_noteDay.2.1 170 = .ok (.goto (-123), 3) := by decide +kernel
theorem dX4_noteDay_173 : decode MX4_noteDay.2.1 173 = .ok (.return_, 1) := by decide +kernel
theorem dX4_begin_0 : decode MX4_begin.2.1 0 = .ok (.aload_n 0, 1) := by decide +kernel
theorem dX4_begin_1 : decode MX4_begin.2.1 1 = .ok (.iload_n 1, 1) := by decide +kernel
theorem dX4_begin_2 : decode MX4_begin.2.1 2 = .ok (.putfield 80, 3) := by decide +kernel
theorem dX4_begin_5 : decode MX4_begin.2.1 5 = .ok (.aload_n 0, 1) := by decide +kernel
theorem dX4_begin_6 : decode MX4_begin.2.1 6 = .ok (.iconst 0, 1) := by decide +kernel
theorem dX4_begin_7 : decode MX4_begin.2.1 7 = .ok (.putfield 83, 3) := by decide +kernel
theorem dX4_begin_10 : decode MX4_begin.2.1 10 = .ok (.return_, 1) := by decide +kernel
theorem dX4_search_0 : decode MX4_search.2.1 0 = .ok (.iload_n 1, 1) := by decide +kernel
theorem dX4_search_1 : decode MX4_search.2.1 1 = .ok (.aload_n 0, 1) := by decide +kernel
theorem dX4_search_2 : decode MX4_search.2.1 2 = .ok (.getfield 28, 3) := by decide +kernel
theorem dX4_search_5 : decode MX4_search.2.1 5 = .ok (.getfield 54, 3) := by decide +kernel
theorem dX4_search_8 : decode MX4_search.2.1 8 = .ok (.if_icmp .lt 36, 3) := by decide +kernel
theorem dX4_search_11 : decode MX4_search.2.1 11 = .ok (.aload_n 0, 1) := by decide +kernel
theorem dX4_search_12 : decode MX4_search.2.1 12 = .ok (.getfield 83, 3) := by decide +kernel
theorem dX4_search_15 : decode MX4_search.2.1 15 = .ok (.ifCond .ne 18, 3) := by decide +kernel
theorem dX4_search_18 : decode MX4_search.2.1 18 = .ok (.aload_n 0, 1) := by decide +kernel
theorem dX4_search_19 : decode MX4_search.2.1 19 = .ok (.getfield 22, 3) := by decide +kernel
theorem dX4_search_22 : decode MX4_search.2.1 22 = .ok (.iconst 0, 1) := by decide +kernel
theorem dX4_search_23 : decode MX4_search.2.1 23 = .ok (.aload_n 0, 1) := by decide +kernel
theorem dX4_search_24 : decode MX4_search.2.1 24 = .ok (.getfield 25, 3) := by decide +kernel
theorem dX4_search_27 : decode MX4_search.2.1 27 = .ok (.iconst 0, 1) := by decide +kernel
theorem dX4_search_28 : decode MX4_search.2.1 28 = .ok (.bipush 6, 2) := by decide +kernel
theorem dX4_search_30 : decode MX4_search.2.1 30 = .ok (.invokestatic 86, 3) := by decide +kernel
theorem dX4_search_33 : decode MX4_search.2.1 33 = .ok (.aload_n 0, 1) := by decide +kernel
theorem dX4_search_34 : decode MX4_search.2.1 34 = .ok (.dup, 1) := by decide +kernel
theorem dX4_search_35 : decode MX4_search.2.1 35 = .ok (.getfield 83, 3) := by decide +kernel
theorem dX4_search_38 : decode MX4_search.2.1 38 = .ok (.iconst 1, 1) := by decide +kernel
theorem dX4_search_39 : decode MX4_search.2.1 39 = .ok (.iadd, 1) := by decide +kernel
theorem dX4_search_40 : decode MX4_search.2.1 40 = .ok (.putfield 83, 3) := by decide +kernel
theorem dX4_search_43 : decode MX4_search.2.1 43 = .ok (.return_, 1) := by decide +kernel
theorem dX4_search_44 : decode MX4_search.2.1 44 = .ok (.iconst 0, 1) := by decide +kernel
theorem dX4_search_45 : decode MX4_search.2.1 45 = .ok (.istore_n 2, 1) := by decide +kernel
theorem dX4_search_46 : decode MX4_search.2.1 46 = .ok (.iload_n 2, 1) := by decide +kernel
theorem dX4_search_47 : decode MX4_search.2.1 47 = .ok (.aload_n 0, 1) := by decide +kernel
theorem dX4_search_48 : decode MX4_search.2.1 48 = .ok (.getfield 80, 3) := by decide +kernel
theorem dX4_search_51 : decode MX4_search.2.1 51 = .ok (.if_icmp .ge 62, 3) := by decide +kernel
theorem dX4_search_54 : decode MX4_search.2.1 54 = .ok (.iload_n 2, 1) := by decide +kernel
theorem dX4_search_55 : decode MX4_search.2.1 55 = .ok (.bipush 6, 2) := by decide +kernel
theorem dX4_search_57 : decode MX4_search.2.1 57 = .ok (.imul, 1) := by decide +kernel
theorem dX4_search_58 : decode MX4_search.2.1 58 = .ok (.iload_n 1, 1) := by decide +kernel
theorem dX4_search_59 : decode MX4_search.2.1 59 = .ok (.iadd, 1) := by decide +kernel
theorem dX4_search_60 : decode MX4_search.2.1 60 = .ok (.istore_n 3, 1) := by decide +kernel
theorem dX4_search_61 : decode MX4_search.2.1 61 = .ok (.aload_n 0, 1) := by decide +kernel
theorem dX4_search_62 : decode MX4_search.2.1 62 = .ok (.getfield 15, 3) := by decide +kernel
theorem dX4_search_65 : decode MX4_search.2.1 65 = .ok (.iload_n 3, 1) := by decide +kernel
theorem dX4_search_66 : decode MX4_search.2.1 66 = .ok (.baload, 1) := by decide +kernel
theorem dX4_search_67 : decode MX4_search.2.1 67 = .ok (.ifCond .eq 40, 3) := by decide +kernel
theorem dX4_search_70 : decode MX4_search.2.1 70 = .ok (.aload_n 0, 1) := by decide +kernel
theorem dX4_search_71 : decode MX4_search.2.1 71 = .ok (.iload_n 2, 1) := by decide +kernel
theorem dX4_search_72 : decode MX4_search.2.1 72 = .ok (.iload_n 3, 1) := by decide +kernel
theorem dX4_search_73 : decode MX4_search.2.1 73 = .ok (.invokevirtual 92, 3) := by decide +kernel
theorem dX4_search_76 : decode MX4_search.2.1 76 = .ok (.ifCond .eq 31, 3) := by decide +kernel
theorem dX4_search_79 : decode MX4_search.2.1 79 = .ok (.aload_n 0, 1) := by decide +kernel
theorem dX4_search_80 : decode MX4_search.2.1 80 = .ok (.getfield 22, 3) := by decide +kernel
theorem dX4_search_83 : decode MX4_search.2.1 83 = .ok (.iload_n 1, 1) := by decide +kernel
theorem dX4_search_84 : decode MX4_search.2.1 84 = .ok (.iload_n 2, 1) := by decide +kernel
theorem dX4_search_85 : decode MX4_search.2.1 85 = .ok (.iastore, 1) := by decide +kernel
theorem dX4_search_86 : decode MX4_search.2.1 86 = .ok (.aload_n 0, 1) := by decide +kernel
theorem dX4_search_87 : decode MX4_search.2.1 87 = .ok (.iload_n 2, 1) := by decide +kernel
theorem dX4_search_88 : decode MX4_search.2.1 88 = .ok (.iload_n 3, 1) := by decide +kernel
theorem dX4_search_89 : decode MX4_search.2.1 89 = .ok (.iconst (-1), 1) := by decide +kernel
theorem dX4_search_90 : decode MX4_search.2.1 90 = .ok (.invokevirtual 96, 3) := by decide +kernel
theorem dX4_search_93 : decode MX4_search.2.1 93 = .ok (.aload_n 0, 1) := by decide +kernel
theorem dX4_search_94 : decode MX4_search.2.1 94 = .ok (.iload_n 1, 1) := by decide +kernel
theorem dX4_search_95 : decode MX4_search.2.1 95 = .ok (.iconst 1, 1) := by decide +kernel
theorem dX4_search_96 : decode MX4_search.2.1 96 = .ok (.iadd, 1) := by decide +kernel
theorem dX4_search_97 : decode MX4_search.2.1 97 = .ok (.invokevirtual 99, 3) := by decide +kernel
theorem dX4_search_100 : decode MX4_search.2.1 100 = .ok (.aload_n 0, 1) := by decide +kernel
theorem dX4_search_101 : decode MX4_search.2.1 101 = .ok (.iload_n 2, 1) := by decide +kernel
theorem dX4_search_102 : decode MX4_search.2.1 102 = .ok (.iload_n 3, 1) := by decide +kernel
theorem dX4_search_103 : decode MX4_search.2.1 103 = .ok (.iconst 1, 1) := by decide +kernel
theorem dX4_search_104 : decode MX4_search.2.1 104 = .ok (.invokevirtual 96, 3) := by decide +kernel
theorem dX4_search_107 : decode MX4_search.2.1 107 = .ok (.iinc 2 1, 3) := by decide +kernel
theorem dX4_search_110 : decode MX4_search.2.1 110 = .ok (.goto (-64), 3) := by decide +kernel
theorem dX4_search_113 : decode MX4_search.2.1 113 = .ok (.return_, 1) := by decide +kernel
theorem dX4_fits_0 : decode MX4_fits.2.1 0 = .ok (.iconst 0, 1) := by decide +kernel
theorem dX4_fits_1 : decode MX4_fits.2.1 1 = .ok (.istore_n 3, 1) := by decide +kernel
theorem dX4_fits_2 : decode MX4_fits.2.1 2 = .ok (.iload_n 3, 1) := by decide +kernel
theorem dX4_fits_3 : decode MX4_fits.2.1 3 = .ok (.bipush 6, 2) := by decide +kernel
theorem dX4_fits_5 : decode MX4_fits.2.1 5 = .ok (.if_icmp .ge 36, 3) := by decide +kernel
theorem dX4_fits_8 : decode MX4_fits.2.1 8 = .ok (.aload_n 0, 1) := by decide +kernel
theorem dX4_fits_9 : decode MX4_fits.2.1 9 = .ok (.getfield 9, 3) := by decide +kernel
theorem dX4_fits_12 : decode MX4_fits.2.1 12 = .ok (.iload_n 1, 1) := by decide +kernel
theorem dX4_fits_13 : decode MX4_fits.2.1 13 = .ok (.bipush 6, 2) := by decide +kernel
theorem dX4_fits_15 : decode MX4_fits.2.1 15 = .ok (.imul, 1) := by decide +kernel
theorem dX4_fits_16 : decode MX4_fits.2.1 16 = .ok (.iload_n 3, 1) := by decide +kernel
theorem dX4_fits_17 : decode MX4_fits.2.1 17 = .ok (.iadd, 1) := by decide +kernel
theorem dX4_fits_18 : decode MX4_fits.2.1 18 = .ok (.iaload, 1) := by decide +kernel
theorem dX4_fits_19 : decode MX4_fits.2.1 19 = .ok (.aload_n 0, 1) := by decide +kernel
theorem dX4_fits_20 : decode MX4_fits.2.1 20 = .ok (.getfield 19, 3) := by decide +kernel
theorem dX4_fits_23 : decode MX4_fits.2.1 23 = .ok (.iload_n 2, 1) := by decide +kernel
theorem dX4_fits_24 : decode MX4_fits.2.1 24 = .ok (.bipush 6, 2) := by decide +kernel
theorem dX4_fits_26 : decode MX4_fits.2.1 26 = .ok (.imul, 1) := by decide +kernel
theorem dX4_fits_27 : decode MX4_fits.2.1 27 = .ok (.iload_n 3, 1) := by decide +kernel
theorem dX4_fits_28 : decode MX4_fits.2.1 28 = .ok (.iadd, 1) := by decide +kernel
theorem dX4_fits_29 : decode MX4_fits.2.1 29 = .ok (.iaload, 1) := by decide +kernel
theorem dX4_fits_30 : decode MX4_fits.2.1 30 = .ok (.if_icmp .ge 5, 3) := by decide +kernel
theorem dX4_fits_33 : decode MX4_fits.2.1 33 = .ok (.iconst 0, 1) := by decide +kernel
theorem dX4_fits_34 : decode MX4_fits.2.1 34 = .ok (.ireturn, 1) := by decide +kernel
theorem dX4_fits_35 : decode MX4_fits.2.1 35 = .ok (.iinc 3 1, 3) := by decide +kernel
theorem dX4_fits_38 : decode MX4_fits.2.1 38 = .ok (.goto (-36), 3) := by decide +kernel
theorem dX4_fits_41 : decode MX4_fits.2.1 41 = .ok (.iconst 1, 1) := by decide +kernel
theorem dX4_fits_42 : decode MX4_fits.2.1 42 = .ok (.ireturn, 1) := by decide +kernel
theorem dX4_strainBy_0 : decode MX4_strainBy.2.1 0 = .ok (.iconst 0, 1) := by decide +kernel
theorem dX4_strainBy_1 : decode MX4_strainBy.2.1 1 = .ok (.istore 4, 2) := by decide +kernel
theorem dX4_strainBy_3 : decode MX4_strainBy.2.1 3 = .ok (.iload 4, 2) := by decide +kernel
theorem dX4_strainBy_5 : decode MX4_strainBy.2.1 5 = .ok (.bipush 6, 2) := by decide +kernel
theorem dX4_strainBy_7 : decode MX4_strainBy.2.1 7 = .ok (.if_icmp .ge 38, 3) := by decide +kernel
theorem dX4_strainBy_10 : decode MX4_strainBy.2.1 10 = .ok (.aload_n 0, 1) := by decide +kernel
theorem dX4_strainBy_11 : decode MX4_strainBy.2.1 11 = .ok (.getfield 9, 3) := by decide +kernel
theorem dX4_strainBy_14 : decode MX4_strainBy.2.1 14 = .ok (.iload_n 1, 1) := by decide +kernel
theorem dX4_strainBy_15 : decode MX4_strainBy.2.1 15 = .ok (.bipush 6, 2) := by decide +kernel
theorem dX4_strainBy_17 : decode MX4_strainBy.2.1 17 = .ok (.imul, 1) := by decide +kernel
theorem dX4_strainBy_18 : decode MX4_strainBy.2.1 18 = .ok (.iload 4, 2) := by decide +kernel
theorem dX4_strainBy_20 : decode MX4_strainBy.2.1 20 = .ok (.iadd, 1) := by decide +kernel
theorem dX4_strainBy_21 : decode MX4_strainBy.2.1 21 = .ok (.dup2, 1) := by decide +kernel
theorem dX4_strainBy_22 : decode MX4_strainBy.2.1 22 = .ok (.iaload, 1) := by decide +kernel
theorem dX4_strainBy_23 : decode MX4_strainBy.2.1 23 = .ok (.iload_n 3, 1) := by decide +kernel
theorem dX4_strainBy_24 : decode MX4_strainBy.2.1 24 = .ok (.aload_n 0, 1) := by decide +kernel
theorem dX4_strainBy_25 : decode MX4_strainBy.2.1 25 = .ok (.getfield 19, 3) := by decide +kernel
theorem dX4_strainBy_28 : decode MX4_strainBy.2.1 28 = .ok (.iload_n 2, 1) := by decide +kernel
theorem dX4_strainBy_29 : decode MX4_strainBy.2.1 29 = .ok (.bipush 6, 2) := by decide +kernel
theorem dX4_strainBy_31 : decode MX4_strainBy.2.1 31 = .ok (.imul, 1) := by decide +kernel
theorem dX4_strainBy_32 : decode MX4_strainBy.2.1 32 = .ok (.iload 4, 2) := by decide +kernel
theorem dX4_strainBy_34 : decode MX4_strainBy.2.1 34 = .ok (.iadd, 1) := by decide +kernel
theorem dX4_strainBy_35 : decode MX4_strainBy.2.1 35 = .ok (.iaload, 1) := by decide +kernel
theorem dX4_strainBy_36 : decode MX4_strainBy.2.1 36 = .ok (.imul, 1) := by decide +kernel
theorem dX4_strainBy_37 : decode MX4_strainBy.2.1 37 = .ok (.iadd, 1) := by decide +kernel
theorem dX4_strainBy_38 : decode MX4_strainBy.2.1 38 = .ok (.iastore, 1) := by decide +kernel
theorem dX4_strainBy_39 : decode MX4_strainBy.2.1 39 = .ok (.iinc 4 1, 3) := by decide +kernel
theorem dX4_strainBy_42 : decode MX4_strainBy.2.1 42 = .ok (.goto (-39), 3) := by decide +kernel
theorem dX4_strainBy_45 : decode MX4_strainBy.2.1 45 = .ok (.return_, 1) := by decide +kernel
theorem dX5_init_0 : decode MX5_init.2.1 0 = .ok (.aload_n 0, 1) := by decide +kernel
theorem dX5_init_1 : decode MX5_init.2.1 1 = .ok (.invokespecial 3, 3) := by decide +kernel
theorem dX5_init_4 : decode MX5_init.2.1 4 = .ok (.aload_n 0, 1) := by decide +kernel
theorem dX5_init_5 : decode MX5_init.2.1 5 = .ok (.sipush 400, 3) := by decide +kernel
theorem dX5_init_8 : decode MX5_init.2.1 8 = .ok (.newarray .byte, 2) := by decide +kernel
theorem dX5_init_10 : decode MX5_init.2.1 10 = .ok (.putfield 9, 3) := by decide +kernel
theorem dX5_init_13 : decode MX5_init.2.1 13 = .ok (.aload_n 0, 1) := by decide +kernel
theorem dX5_init_14 : decode MX5_init.2.1 14 = .ok (.sipush 401, 3) := by decide +kernel
theorem dX5_init_17 : decode MX5_init.2.1 17 = .ok (.newarray .int, 2) := by decide +kernel
theorem dX5_init_19 : decode MX5_init.2.1 19 = .ok (.putfield 15, 3) := by decide +kernel
theorem dX5_init_22 : decode MX5_init.2.1 22 = .ok (.aload_n 0, 1) := by decide +kernel
theorem dX5_init_23 : decode MX5_init.2.1 23 = .ok (.sipush 401, 3) := by decide +kernel
theorem dX5_init_26 : decode MX5_init.2.1 26 = .ok (.newarray .int, 2) := by decide +kernel
theorem dX5_init_28 : decode MX5_init.2.1 28 = .ok (.putfield 19, 3) := by decide +kernel
theorem dX5_init_31 : decode MX5_init.2.1 31 = .ok (.aload_n 0, 1) := by decide +kernel
theorem dX5_init_32 : decode MX5_init.2.1 32 = .ok (.new 22, 3) := by decide +kernel
theorem dX5_init_35 : decode MX5_init.2.1 35 = .ok (.dup, 1) := by decide +kernel
theorem dX5_init_36 : decode MX5_init.2.1 36 = .ok (.bipush 72, 2) := by decide +kernel
theorem dX5_init_38 : decode MX5_init.2.1 38 = .ok (.newarray .int, 2) := by decide +kernel
theorem dX5_init_40 : decode MX5_init.2.1 40 = .ok (.sipush 512, 3) := by decide +kernel
theorem dX5_init_43 : decode MX5_init.2.1 43 = .ok (.newarray .int, 2) := by decide +kernel
theorem dX5_init_45 : decode MX5_init.2.1 45 = .ok (.iconst 0, 1) := by decide +kernel
theorem dX5_init_46 : decode MX5_init.2.1 46 = .ok (.invokespecial 24, 3) := by decide +kernel
theorem dX5_init_49 : decode MX5_init.2.1 49 = .ok (.putfield 27, 3) := by decide +kernel
theorem dX5_init_52 : decode MX5_init.2.1 52 = .ok (.aload_n 0, 1) := by decide +kernel
theorem dX5_init_53 : decode MX5_init.2.1 53 = .ok (.iconst (-1), 1) := by decide +kernel
theorem dX5_init_54 : decode MX5_init.2.1 54 = .ok (.putfield 31, 3) := by decide +kernel
theorem dX5_init_57 : decode MX5_init.2.1 57 = .ok (.return_, 1) := by decide +kernel
theorem dX5_append_0 : decode MX5_append.2.1 0 = .ok (.bipush 24, 2) := by decide +kernel
theorem dX5_append_2 : decode MX5_append.2.1 2 = .ok (.istore_n 2, 1) := by decide +kernel
theorem dX5_append_3 : decode MX5_append.2.1 3 = .ok (.iload_n 2, 1) := by decide +kernel
theorem dX5_append_4 : decode MX5_append.2.1 4 = .ok (.ifCond .lt 42, 3) := by decide +kernel
theorem dX5_append_7 : decode MX5_append.2.1 7 = .ok (.aload_n 0, 1) := by decide +kernel
theorem dX5_append_8 : decode MX5_append.2.1 8 = .ok (.getfield 35, 3) := by decide +kernel
theorem dX5_append_11 : decode MX5_append.2.1 11 = .ok (.sipush 400, 3) := by decide +kernel
theorem dX5_append_14 : decode MX5_append.2.1 14 = .ok (.if_icmp .ge 32, 3) := by decide +kernel
theorem dX5_append_17 : decode MX5_append.2.1 17 = .ok (.aload_n 0, 1) := by decide +kernel
theorem dX5_append_18 : decode MX5_append.2.1 18 = .ok (.getfield 9, 3) := by decide +kernel
theorem dX5_append_21 : decode MX5_append.2.1 21 = .ok (.aload_n 0, 1) := by decide +kernel
theorem dX5_append_22 : decode MX5_append.2.1 22 = .ok (.getfield 35, 3) := by decide +kernel
theorem dX5_append_25 : decode MX5_append.2.1 25 = .ok (.iload_n 1, 1) := by decide +kernel
theorem dX5_append_26 : decode MX5_append.2.1 26 = .ok (.iload_n 2, 1) := by decide +kernel
theorem dX5_append_27 : decode MX5_append.2.1 27 = .ok (.ishr, 1) := by decide +kernel
theorem dX5_append_28 : decode MX5_append.2.1 28 = .ok (.i2b, 1) := by decide +kernel
theorem dX5_append_29 : decode MX5_append.2.1 29 = .ok (.bastore, 1) := by decide +kernel
theorem dX5_append_30 : decode MX5_append.2.1 30 = .ok (.aload_n 0, 1) := by decide +kernel
theorem dX5_append_31 : decode MX5_append.2.1 31 = .ok (.dup, 1) := by decide +kernel
theorem dX5_append_32 : decode MX5_append.2.1 32 = .ok (.getfield 35, 3) := by decide +kernel
theorem dX5_append_35 : decode MX5_append.2.1 35 = .ok (.iconst 1, 1) := by decide +kernel
theorem dX5_append_36 : decode MX5_append.2.1 36 = .ok (.iadd, 1) := by decide +kernel
theorem dX5_append_37 : decode MX5_append.2.1 37 = .ok (.putfield 35, 3) := by decide +kernel
theorem dX5_append_40 : decode MX5_append.2.1 40 = .ok (.iinc 2 (-8), 3) := by decide +kernel
theorem dX5_append_43 : decode MX5_append.2.1 43 = .ok (.goto (-40), 3) := by decide +kernel
theorem dX5_append_46 : decode MX5_append.2.1 46 = .ok (.return_, 1) := by decide +kernel
theorem dX5_byteAt_0 : decode MX5_byteAt.2.1 0 = .ok (.aload_n 0, 1) := by decide +kernel
theorem dX5_byteAt_1 : decode MX5_byteAt.2.1 1 = .ok (.getfield 9, 3) := by decide +kernel
theorem dX5_byteAt_4 : decode MX5_byteAt.2.1 4 = .ok (.iload_n 1, 1) := by decide +kernel
theorem dX5_byteAt_5 : decode MX5_byteAt.2.1 5 = .ok (.baload, 1) := by decide +kernel
theorem dX5_byteAt_6 : decode MX5_byteAt.2.1 6 = .ok (.sipush 255, 3) := by decide +kernel
theorem dX5_byteAt_9 : decode MX5_byteAt.2.1 9 = .ok (.iand, 1) := by decide +kernel
theorem dX5_byteAt_10 : decode MX5_byteAt.2.1 10 = .ok (.ireturn, 1) := by decide +kernel
theorem dX5_read_0 : decode MX5_read.2.1 0 = .ok (.aload_n 0, 1) := by decide +kernel
theorem dX5_read_1 : decode MX5_read.2.1 1 = .ok (.invokevirtual 38, 3) := by decide +kernel
theorem dX5_read_4 : decode MX5_read.2.1 4 = .ok (.aload_n 0, 1) := by decide +kernel
theorem dX5_read_5 : decode MX5_read.2.1 5 = .ok (.iconst 0, 1) := by decide +kernel
theorem dX5_read_6 : decode MX5_read.2.1 6 = .ok (.putfield 35, 3) := by decide +kernel
theorem dX5_read_9 : decode MX5_read.2.1 9 = .ok (.aload_n 0, 1) := by decide +kernel
theorem dX5_read_10 : decode MX5_read.2.1 10 = .ok (.iload_n 1, 1) := by decide +kernel
theorem dX5_read_11 : decode MX5_read.2.1 11 = .ok (.putfield 41, 3) := by decide +kernel
theorem dX5_read_14 : decode MX5_read.2.1 14 = .ok (.aload_n 0, 1) := by decide +kernel
theorem dX5_read_15 : decode MX5_read.2.1 15 = .ok (.iconst 0, 1) := by decide +kernel
theorem dX5_read_16 : decode MX5_read.2.1 16 = .ok (.putfield 45, 3) := by decide +kernel
theorem dX5_read_19 : decode MX5_read.2.1 19 = .ok (.aload_n 0, 1) := by decide +kernel
theorem dX5_read_20 : decode MX5_read.2.1 20 = .ok (.iconst 0, 1) := by decide +kernel
theorem dX5_read_21 : decode MX5_read.2.1 21 = .ok (.putfield 48, 3) := by decide +kernel
theorem dX5_read_24 : decode MX5_read.2.1 24 = .ok (.aload_n 0, 1) := by decide +kernel
theorem dX5_read_25 : decode MX5_read.2.1 25 = .ok (.iconst 0, 1) := by decide +kernel
theorem dX5_read_26 : decode MX5_read.2.1 26 = .ok (.putfield 51, 3) := by decide +kernel
theorem dX5_read_29 : decode MX5_read.2.1 29 = .ok (.aload_n 0, 1) := by decide +kernel
theorem dX5_read_30 : decode MX5_read.2.1 30 = .ok (.iconst 0, 1) := by decide +kernel
theorem dX5_read_31 : decode MX5_read.2.1 31 = .ok (.putfield 54, 3) := by decide +kernel
theorem dX5_read_34 : decode MX5_read.2.1 34 = .ok (.aload_n 0, 1) := by decide +kernel
theorem dX5_read_35 : decode MX5_read.2.1 35 = .ok (.getfield 27, 3) := by decide +kernel
theorem dX5_read_38 : decode MX5_read.2.1 38 = .ok (.iconst 0, 1) := by decide +kernel
theorem dX5_read_39 : decode MX5_read.2.1 39 = .ok (.putfield 57, 3) := by decide +kernel
theorem dX5_read_42 : decode MX5_read.2.1 42 = .ok (.aload_n 0, 1) := by decide +kernel
theorem dX5_read_43 : decode MX5_read.2.1 43 = .ok (.invokevirtual 60, 3) := by decide +kernel
theorem dX5_read_46 : decode MX5_read.2.1 46 = .ok (.istore_n 2, 1) := by decide +kernel
theorem dX5_read_47 : decode MX5_read.2.1 47 = .ok (.aload_n 0, 1) := by decide +kernel
theorem dX5_read_48 : decode MX5_read.2.1 48 = .ok (.iload_n 2, 1) := by decide +kernel
theorem dX5_read_49 : decode MX5_read.2.1 49 = .ok (.ifCond .eq 7, 3) := by decide +kernel
theorem dX5_read_52 : decode MX5_read.2.1 52 = .ok (.iconst (-1), 1) := by decide +kernel
theorem dX5_read_53 : decode MX5_read.2.1 53 = .ok (.goto 12, 3) := by decide +kernel
theorem dX5_read_56 : decode MX5_read.2.1 56 = .ok (.aload_n 0, 1) := by decide +kernel
theorem dX5_read_57 : decode MX5_read.2.1 57 = .ok (.getfield 19, 3) := by decide +kernel
theorem dX5_read_60 : decode MX5_read.2.1 60 = .ok (.aload_n 0, 1) := by decide +kernel
theorem dX5_read_61 : decode MX5_read.2.1 61 = .ok (.getfield 45, 3) := by decide +kernel
theorem dX5_read_64 : decode MX5_read.2.1 64 = .ok (.iaload, 1) := by decide +kernel
theorem dX5_read_65 : decode MX5_read.2.1 65 = .ok (.putfield 31, 3) := by decide +kernel
theorem dX5_read_68 : decode MX5_read.2.1 68 = .ok (.iload_n 2, 1) := by decide +kernel
theorem dX5_read_69 : decode MX5_read.2.1 69 = .ok (.ireturn, 1) := by decide +kernel
theorem dX5_scan_0 : decode MX5_scan.2.1 0 = .ok (.iconst 0, 1) := by decide +kernel
theorem dX5_scan_1 : decode MX5_scan.2.1 1 = .ok (.istore_n 1, 1) := by decide +kernel
theorem dX5_scan_2 : decode MX5_scan.2.1 2 = .ok (.iconst 0, 1) := by decide +kernel
theorem dX5_scan_3 : decode MX5_scan.2.1 3 = .ok (.istore_n 2, 1) := by decide +kernel
theorem dX5_scan_4 : decode MX5_scan.2.1 4 = .ok (.iconst 0, 1) := by decide +kernel
theorem dX5_scan_5 : decode MX5_scan.2.1 5 = .ok (.istore_n 3, 1) := by decide +kernel
theorem dX5_scan_6 : decode MX5_scan.2.1 6 = .ok (.iload_n 3, 1) := by decide +kernel
theorem dX5_scan_7 : decode MX5_scan.2.1 7 = .ok (.aload_n 0, 1) := by decide +kernel
theorem dX5_scan_8 : decode MX5_scan.2.1 8 = .ok (.getfield 35, 3) := by decide +kernel
theorem dX5_scan_11 : decode MX5_scan.2.1 11 = .ok (.if_icmp .ge 53, 3) := by decide +kernel
theorem dX5_scan_14 : decode MX5_scan.2.1 14 = .ok (.iload_n 3, 1) := by decide +kernel
theorem dX5_scan_15 : decode MX5_scan.2.1 15 = .ok (.iload_n 2, 1) := by decide +kernel
theorem dX5_scan_16 : decode MX5_scan.2.1 16 = .ok (.if_icmp .lt 42, 3) := by decide +kernel
theorem dX5_scan_19 : decode MX5_scan.2.1 19 = .ok (.aload_n 0, 1) := by decide +kernel
theorem dX5_scan_20 : decode MX5_scan.2.1 20 = .ok (.getfield 9, 3) := by decide +kernel
theorem dX5_scan_23 : decode MX5_scan.2.1 23 = .ok (.iload_n 3, 1) := by decide +kernel
theorem dX5_scan_24 : decode MX5_scan.2.1 24 = .ok (.baload, 1) := by decide +kernel
theorem dX5_scan_25 : decode MX5_scan.2.1 25 = .ok (.bipush 32, 2) := by decide +kernel
theorem dX5_scan_27 : decode MX5_scan.2.1 27 = .ok (.if_icmp .eq 31, 3) := by decide +kernel
theorem dX5_scan_30 : decode MX5_scan.2.1 30 = .ok (.aload_n 0, 1) := by decide +kernel
theorem dX5_scan_31 : decode MX5_scan.2.1 31 = .ok (.iload_n 3, 1) := by decide +kernel
theorem dX5_scan_32 : decode MX5_scan.2.1 32 = .ok (.invokevirtual 64, 3) := by decide +kernel
theorem dX5_scan_35 : decode MX5_scan.2.1 35 = .ok (.istore_n 2, 1) := by decide +kernel
theorem dX5_scan_36 : decode MX5_scan.2.1 36 = .ok (.aload_n 0, 1) := by decide +kernel
theorem dX5_scan_37 : decode MX5_scan.2.1 37 = .ok (.getfield 19, 3) := by decide +kernel
theorem dX5_scan_40 : decode MX5_scan.2.1 40 = .ok (.iload_n 1, 1) := by decide +kernel
theorem dX5_scan_41 : decode MX5_scan.2.1 41 = .ok (.iload_n 3, 1) := by decide +kernel
theorem dX5_scan_42 : decode MX5_scan.2.1 42 = .ok (.iastore, 1) := by decide +kernel
theorem dX5_scan_43 : decode MX5_scan.2.1 43 = .ok (.aload_n 0, 1) := by decide +kernel
theorem dX5_scan_44 : decode MX5_scan.2.1 44 = .ok (.getfield 15, 3) := by decide +kernel
theorem dX5_scan_47 : decode MX5_scan.2.1 47 = .ok (.iload_n 1, 1) := by decide +kernel
theorem dX5_scan_48 : decode MX5_scan.2.1 48 = .ok (.aload_n 0, 1) := by decide +kernel
theorem dX5_scan_49 : decode MX5_scan.2.1 49 = .ok (.iload_n 3, 1) := by decide +kernel
theorem dX5_scan_50 : decode MX5_scan.2.1 50 = .ok (.iload_n 2, 1) := by decide +kernel
theorem dX5_scan_51 : decode MX5_scan.2.1 51 = .ok (.invokevirtual 68, 3) := by decide +kernel
theorem dX5_scan_54 : decode MX5_scan.2.1 54 = .ok (.iastore, 1) := by decide +kernel
theorem dX5_scan_55 : decode MX5_scan.2.1 55 = .ok (.iinc 1 1, 3) := by decide +kernel
theorem dX5_scan_58 : decode MX5_scan.2.1 58 = .ok (.iinc 3 1, 3) := by decide +kernel
theorem dX5_scan_61 : decode MX5_scan.2.1 61 = .ok (.goto (-55), 3) := by decide +kernel
theorem dX5_scan_64 : decode MX5_scan.2.1 64 = .ok (.aload_n 0, 1) := by decide +kernel
theorem dX5_scan_65 : decode MX5_scan.2.1 65 = .ok (.getfield 19, 3) := by decide +kernel
theorem dX5_scan_68 : decode MX5_scan.2.1 68 = .ok (.iload_n 1, 1) := by decide +kernel
theorem dX5_scan_69 : decode MX5_scan.2.1 69 = .ok (.aload_n 0, 1) := by decide +kernel
theorem dX5_scan_70 : decode MX5_scan.2.1 70 = .ok (.getfield 35, 3) := by decide +kernel
theorem dX5_scan_73 : decode MX5_scan.2.1 73 = .ok (.iastore, 1) := by decide +kernel
theorem dX5_scan_74 : decode MX5_scan.2.1 74 = .ok (.aload_n 0, 1) := by decide +kernel
theorem dX5_scan_75 : decode MX5_scan.2.1 75 = .ok (.getfield 15, 3) := by decide +kernel
theorem dX5_scan_78 : decode MX5_scan.2.1 78 = .ok (.iload_n 1, 1) := by decide +kernel
theorem dX5_scan_79 : decode MX5_scan.2.1 79 = .ok (.iconst 0, 1) := by decide +kernel
theorem dX5_scan_80 : decode MX5_scan.2.1 80 = .ok (.iastore, 1) := by decide +kernel
theorem dX5_scan_81 : decode MX5_scan.2.1 81 = .ok (.return_, 1) := by decide +kernel
theorem dX5_isLetter_0 : decode MX5_isLetter.2.1 0 = .ok (.iload_n 0, 1) := by decide +kernel
theorem dX5_isLetter_1 : decode MX5_isLetter.2.1 1 = .ok (.bipush 97, 2) := by decide +kernel
theorem dX5_isLetter_3 : decode MX5_isLetter.2.1 3 = .ok (.bipush 122, 2) := by decide +kernel
theorem dX5_isLetter_5 : decode MX5_isLetter.2.1 5 = .ok (.invokestatic 72, 3) := by decide +kernel
theorem dX5_isLetter_8 : decode MX5_isLetter.2.1 8 = .ok (.ireturn, 1) := by decide +kernel
theorem dX5_isDigit_0 : decode MX5_isDigit.2.1 0 = .ok (.iload_n 0, 1) := by decide +kernel
theorem dX5_isDigit_1 : decode MX5_isDigit.2.1 1 = .ok (.bipush 48, 2) := by decide +kernel
theorem dX5_isDigit_3 : decode MX5_isDigit.2.1 3 = .ok (.bipush 57, 2) := by decide +kernel
theorem dX5_isDigit_5 : decode MX5_isDigit.2.1 5 = .ok (.invokestatic 72, 3) := by decide +kernel
theorem dX5_isDigit_8 : decode MX5_isDigit.2.1 8 = .ok (.ireturn, 1) := by decide +kernel
theorem dX5_tokenEnd_0 : decode MX5_tokenEnd.2.1 0 = .ok (.iload_n 1, 1) := by decide +kernel
theorem dX5_tokenEnd_1 : decode MX5_tokenEnd.2.1 1 = .ok (.iconst 1, 1) := by decide +kernel
theorem dX5_tokenEnd_2 : decode MX5_tokenEnd.2.1 2 = .ok (.iadd, 1) := by decide +kernel
theorem dX5_tokenEnd_3 : decode MX5_tokenEnd.2.1 3 = .ok (.istore_n 2, 1) := by decide +kernel
theorem dX5_tokenEnd_4 : decode MX5_tokenEnd.2.1 4 = .ok (.aload_n 0, 1) := by decide +kernel
theorem dX5_tokenEnd_5 : decode MX5_tokenEnd.2.1 5 = .ok (.getfield 9, 3) := by decide +kernel
theorem dX5_tokenEnd_8 : decode MX5_tokenEnd.2.1 8 = .ok (.iload_n 1, 1) := by decide +kernel
theorem dX5_tokenEnd_9 : decode MX5_tokenEnd.2.1 9 = .ok (.baload, 1) := by decide +kernel
theorem dX5_tokenEnd_10 : decode MX5_tokenEnd.2.1 10 = .ok (.invokestatic 76, 3) := by decide +kernel
theorem dX5_tokenEnd_13 : decode MX5_tokenEnd.2.1 13 = .ok (.istore_n 3, 1) := by decide +kernel
theorem dX5_tokenEnd_14 : decode MX5_tokenEnd.2.1 14 = .ok (.iload_n 3, 1) := by decide +kernel
theorem dX5_tokenEnd_15 : decode MX5_tokenEnd.2.1 15 = .ok (.ifCond .ne 17, 3) := by decide +kernel
theorem dX5_tokenEnd_18 : decode MX5_tokenEnd.2.1 18 = .ok (.aload_n 0, 1) := by decide +kernel
theorem dX5_tokenEnd_19 : decode MX5_tokenEnd.2.1 19 = .ok (.getfield 9, 3) := by decide +kernel
theorem dX5_tokenEnd_22 : decode MX5_tokenEnd.2.1 22 = .ok (.iload_n 1, 1) := by decide +kernel
theorem dX5_tokenEnd_23 : decode MX5_tokenEnd.2.1 23 = .ok (.baload, 1) := by decide +kernel
theorem dX5_tokenEnd_24 : decode MX5_tokenEnd.2.1 24 = .ok (.invokestatic 80, 3) := by decide +kernel
theorem dX5_tokenEnd_27 : decode MX5_tokenEnd.2.1 27 = .ok (.ifCond .ne 5, 3) := by decide +kernel
theorem dX5_tokenEnd_30 : decode MX5_tokenEnd.2.1 30 = .ok (.iload_n 2, 1) := by decide +kernel
theorem dX5_tokenEnd_31 : decode MX5_tokenEnd.2.1 31 = .ok (.ireturn, 1) := by decide +kernel
theorem dX5_tokenEnd_32 : decode MX5_tokenEnd.2.1 32 = .ok (.iload_n 2, 1) := by decide +kernel
theorem dX5_tokenEnd_33 : decode MX5_tokenEnd.2.1 33 = .ok (.aload_n 0, 1) := by decide +kernel
theorem dX5_tokenEnd_34 : decode MX5_tokenEnd.2.1 34 = .ok (.getfield 35, 3) := by decide +kernel
theorem dX5_tokenEnd_37 : decode MX5_tokenEnd.2.1 37 = .ok (.if_icmp .ge 40, 3) := by decide +kernel
theorem dX5_tokenEnd_40 : decode MX5_tokenEnd.2.1 40 = .ok (.iload_n 3, 1) := by decide +kernel
theorem dX5_tokenEnd_41 : decode MX5_tokenEnd.2.1 41 = .ok (.ifCond .eq 18, 3) := by decide +kernel
theorem dX5_tokenEnd_44 : decode MX5_tokenEnd.2.1 44 = .ok (.aload_n 0, 1) := by decide +kernel
theorem dX5_tokenEnd_45 : decode MX5_tokenEnd.2.1 45 = .ok (.getfield 9, 3) := by decide +kernel
theorem dX5_tokenEnd_48 : decode MX5_tokenEnd.2.1 48 = .ok (.iload_n 2, 1) := by decide +kernel
theorem dX5_tokenEnd_49 : decode MX5_tokenEnd.2.1 49 = .ok (.baload, 1) := by decide +kernel
theorem dX5_tokenEnd_50 : decode MX5_tokenEnd.2.1 50 = .ok (.invokestatic 76, 3) := by decide +kernel
theorem dX5_tokenEnd_53 : decode MX5_tokenEnd.2.1 53 = .ok (.ifCond .eq 24, 3) := by decide +kernel
theorem dX5_tokenEnd_56 : decode MX5_tokenEnd.2.1 56 = .ok (.goto 15, 3) := by decide +kernel
theorem dX5_tokenEnd_59 : decode MX5_tokenEnd.2.1 59 = .ok (.aload_n 0, 1) := by decide +kernel
theorem dX5_tokenEnd_60 : decode MX5_tokenEnd.2.1 60 = .ok (.getfield 9, 3) := by decide +kernel
theorem dX5_tokenEnd_63 : decode MX5_tokenEnd.2.1 63 = .ok (.iload_n 2, 1) := by decide +kernel
theorem dX5_tokenEnd_64 : decode MX5_tokenEnd.2.1 64 = .ok (.baload, 1) := by decide +kernel
theorem dX5_tokenEnd_65 : decode MX5_tokenEnd.2.1 65 = .ok (.invokestatic 80, 3) := by decide +kernel
theorem dX5_tokenEnd_68 : decode MX5_tokenEnd.2.1 68 = .ok (.ifCond .eq 9, 3) := by decide +kernel
theorem dX5_tokenEnd_71 : decode MX5_tokenEnd.2.1 71 = .ok (.iinc 2 1, 3) := by decide +kernel
theorem dX5_tokenEnd_74 : decode MX5_tokenEnd.2.1 74 = .ok (.goto (-42), 3) := by decide +kernel
theorem dX5_tokenEnd_77 : decode MX5_tokenEnd.2.1 77 = .ok (.iload_n 2, 1) := by decide +kernel
theorem dX5_tokenEnd_78 : decode MX5_tokenEnd.2.1 78 = .ok (.ireturn, 1) := by decide +kernel
theorem dX5_tokenOf_0 : decode MX5_tokenOf.2.1 0 = .ok (.aload_n 0, 1) := by decide +kernel
theorem dX5_tokenOf_1 : decode MX5_tokenOf.2.1 1 = .ok (.getfield 9, 3) := by decide +kernel
theorem dX5_tokenOf_4 : decode MX5_tokenOf.2.1 4 = .ok (.iload_n 1, 1) := by decide +kernel
theorem dX5_tokenOf_5 : decode MX5_tokenOf.2.1 5 = .ok (.baload, 1) := by decide +kernel
theorem dX5_tokenOf_6 : decode MX5_tokenOf.2.1 6 = .ok (.invokestatic 76, 3) := by decide +kernel
theorem dX5_tokenOf_9 : decode MX5_tokenOf.2.1 9 = .ok (.ifCond .eq 10, 3) := by decide +kernel
theorem dX5_tokenOf_12 : decode MX5_tokenOf.2.1 12 = .ok (.aload_n 0, 1) := by decide +kernel
theorem dX5_tokenOf_13 : decode MX5_tokenOf.2.1 13 = .ok (.iload_n 1, 1) := by decide +kernel
theorem dX5_tokenOf_14 : decode MX5_tokenOf.2.1 14 = .ok (.iload_n 2, 1) := by decide +kernel
theorem dX5_tokenOf_15 : decode MX5_tokenOf.2.1 15 = .ok (.invokevirtual 83, 3) := by decide +kernel
theorem dX5_tokenOf_18 : decode MX5_tokenOf.2.1 18 = .ok (.ireturn, 1) := by decide +kernel
theorem dX5_tokenOf_19 : decode MX5_tokenOf.2.1 19 = .ok (.aload_n 0, 1) := by decide +kernel
theorem dX5_tokenOf_20 : decode MX5_tokenOf.2.1 20 = .ok (.getfield 9, 3) := by decide +kernel
theorem dX5_tokenOf_23 : decode MX5_tokenOf.2.1 23 = .ok (.iload_n 1, 1) := by decide +kernel
theorem dX5_tokenOf_24 : decode MX5_tokenOf.2.1 24 = .ok (.baload, 1) := by decide +kernel
theorem dX5_tokenOf_25 : decode MX5_tokenOf.2.1 25 = .ok (.invokestatic 80, 3) := by decide +kernel
theorem dX5_tokenOf_28 : decode MX5_tokenOf.2.1 28 = .ok (.ifCond .ne 18, 3) := by decide +kernel
theorem dX5_tokenOf_31 : decode MX5_tokenOf.2.1 31 = .ok (.sipush 128, 3) := by decide +kernel
theorem dX5_tokenOf_34 : decode MX5_tokenOf.2.1 34 = .ok (.aload_n 0, 1) := by decide +kernel
theorem dX5_tokenOf_35 : decode MX5_tokenOf.2.1 35 = .ok (.getfield 9, 3) := by decide +kernel
theorem dX5_tokenOf_38 : decode MX5_tokenOf.2.1 38 = .ok (.iload_n 1, 1) := by decide +kernel
theorem dX5_tokenOf_39 : decode MX5_tokenOf.2.1 39 = .ok (.baload, 1) := by decide +kernel
theorem dX5_tokenOf_40 : decode MX5_tokenOf.2.1 40 = .ok (.sipush 255, 3) := by decide +kernel
theorem dX5_tokenOf_43 : decode MX5_tokenOf.2.1 43 = .ok (.iand, 1) := by decide +kernel
theorem dX5_tokenOf_44 : decode MX5_tokenOf.2.1 44 = .ok (.iadd, 1) := by decide +kernel
theorem dX5_tokenOf_45 : decode MX5_tokenOf.2.1 45 = .ok (.ireturn, 1) := by decide +kernel
theorem dX5_tokenOf_46 : decode MX5_tokenOf.2.1 46 = .ok (.iconst 0, 1) := by decide +kernel
theorem dX5_tokenOf_47 : decode MX5_tokenOf.2.1 47 = .ok (.istore_n 3, 1) := by decide +kernel
theorem dX5_tokenOf_48 : decode MX5_tokenOf.2.1 48 = .ok (.iload_n 1, 1) := by decide +kernel
theorem dX5_tokenOf_49 : decode MX5_tokenOf.2.1 49 = .ok (.istore 4, 2) := by decide +kernel
theorem dX5_tokenOf_51 : decode MX5_tokenOf.2.1 51 = .ok (.iload 4, 2) := by decide +kernel
theorem dX5_tokenOf_53 : decode MX5_tokenOf.2.1 53 = .ok (.iload_n 2, 1) := by decide +kernel
theorem dX5_tokenOf_54 : decode MX5_tokenOf.2.1 54 = .ok (.if_icmp .ge 31, 3) := by decide +kernel
theorem dX5_tokenOf_57 : decode MX5_tokenOf.2.1 57 = .ok (.sipush 1001, 3) := by decide +kernel
theorem dX5_tokenOf_60 : decode MX5_tokenOf.2.1 60 = .ok (.iload_n 3, 1) := by decide +kernel
theorem dX5_tokenOf_61 : decode MX5_tokenOf.2.1 61 = .ok (.bipush 10, 2) := by decide +kernel
theorem dX5_tokenOf_63 : decode MX5_tokenOf.2.1 63 = .ok (.imul, 1) := by decide +kernel
theorem dX5_tokenOf_64 : decode MX5_tokenOf.2.1 64 = .ok (.aload_n 0, 1) := by decide +kernel
theorem dX5_tokenOf_65 : decode MX5_tokenOf.2.1 65 = .ok (.getfield 9, 3) := by decide +kernel
theorem dX5_tokenOf_68 : decode MX5_tokenOf.2.1 68 = .ok (.iload 4, 2) := by decide +kernel
theorem dX5_tokenOf_70 : decode MX5_tokenOf.2.1 70 = .ok (.baload, 1) := by decide +kernel
theorem dX5_tokenOf_71 : decode MX5_tokenOf.2.1 71 = .ok (.iadd, 1) := by decide +kernel
theorem dX5_tokenOf_72 : decode MX5_tokenOf.2.1 72 = .ok (.bipush 48, 2) := by decide +kernel
theorem dX5_tokenOf_74 : decode MX5_tokenOf.2.1 74 = .ok (.isub, 1) := by decide +kernel
theorem dX5_tokenOf_75 : decode MX5_tokenOf.2.1 75 = .ok (.invokestatic 86, 3) := by decide +kernel
theorem dX5_tokenOf_78 : decode MX5_tokenOf.2.1 78 = .ok (.istore_n 3, 1) := by decide +kernel
theorem dX5_tokenOf_79 : decode MX5_tokenOf.2.1 79 = .ok (.iinc 4 1, 3) := by decide +kernel
theorem dX5_tokenOf_82 : decode MX5_tokenOf.2.1 82 = .ok (.goto (-31), 3) := by decide +kernel
theorem dX5_tokenOf_85 : decode MX5_tokenOf.2.1 85 = .ok (.sipush 1000, 3) := by decide +kernel
theorem dX5_tokenOf_88 : decode MX5_tokenOf.2.1 88 = .ok (.iload_n 3, 1) := by decide +kernel
theorem dX5_tokenOf_89 : decode MX5_tokenOf.2.1 89 = .ok (.iadd, 1) := by decide +kernel
theorem dX5_tokenOf_90 : decode MX5_tokenOf.2.1 90 = .ok (.ireturn, 1) := by decide +kernel
theorem dX5_nameOf_0 : decode MX5_nameOf.2.1 0 = .ok (.iconst 1, 1) := by decide +kernel
theorem dX5_nameOf_1 : decode MX5_nameOf.2.1 1 = .ok (.istore_n 3, 1) := by decide +kernel
theorem dX5_nameOf_2 : decode MX5_nameOf.2.1 2 = .ok (.iconst 0, 1) := by decide +kernel
theorem dX5_nameOf_3 : decode MX5_nameOf.2.1 3 = .ok (.istore 4, 2) := by decide +kernel
theorem dX5_nameOf_5 : decode MX5_nameOf.2.1 5 = .ok (.iconst 0, 1) := by decide +kernel
theorem dX5_nameOf_6 : decode MX5_nameOf.2.1 6 = .ok (.istore 5, 2) := by decide +kernel
theorem dX5_nameOf_8 : decode MX5_nameOf.2.1 8 = .ok (.iload 5, 2) := by decide +kernel
theorem dX5_nameOf_10 : decode MX5_nameOf.2.1 10 = .ok (.ldc 91, 2) := by decide +kernel
theorem dX5_nameOf_12 : decode MX5_nameOf.2.1 12 = .ok (.invokevirtual 93, 3) := by decide +kernel
theorem dX5_nameOf_15 : decode MX5_nameOf.2.1 15 = .ok (.if_icmp .gt 64, 3) := by decide +kernel
theorem dX5_nameOf_18 : decode MX5_nameOf.2.1 18 = .ok (.iload 5, 2) := by decide +kernel
theorem dX5_nameOf_20 : decode MX5_nameOf.2.1 20 = .ok (.ldc 91, 2) := by decide +kernel
theorem dX5_nameOf_22 : decode MX5_nameOf.2.1 22 = .ok (.invokevirtual 93, 3) := by decide +kernel
theorem dX5_nameOf_25 : decode MX5_nameOf.2.1 25 = .ok (.if_icmp .eq 15, 3) := by decide +kernel
theorem dX5_nameOf_28 : decode MX5_nameOf.2.1 28 = .ok (.ldc 91, 2) := by decide +kernel
theorem dX5_nameOf_30 : decode MX5_nameOf.2.1 30 = .ok (.iload 5, 2) := by decide +kernel
theorem dX5_nameOf_32 : decode MX5_nameOf.2.1 32 = .ok (.invokevirtual 98, 3) := by decide +kernel
theorem dX5_nameOf_35 : decode MX5_nameOf.2.1 35 = .ok (.bipush 32, 2) := by decide +kernel
theorem dX5_nameOf_37 : decode MX5_nameOf.2.1 37 = .ok (.if_icmp .ne 36, 3) := by decide +kernel
theorem dX5_nameOf_40 : decode MX5_nameOf.2.1 40 = .ok (.iload 5, 2) := by decide +kernel
theorem dX5_nameOf_42 : decode MX5_nameOf.2.1 42 = .ok (.iload 4, 2) := by decide +kernel
theorem dX5_nameOf_44 : decode MX5_nameOf.2.1 44 = .ok (.isub, 1) := by decide +kernel
theorem dX5_nameOf_45 : decode MX5_nameOf.2.1 45 = .ok (.iload_n 2, 1) := by decide +kernel
theorem dX5_nameOf_46 : decode MX5_nameOf.2.1 46 = .ok (.iload_n 1, 1) := by decide +kernel
theorem dX5_nameOf_47 : decode MX5_nameOf.2.1 47 = .ok (.isub, 1) := by decide +kernel
theorem dX5_nameOf_48 : decode MX5_nameOf.2.1 48 = .ok (.if_icmp .ne 16, 3) := by decide +kernel
theorem dX5_nameOf_51 : decode MX5_nameOf.2.1 51 = .ok (.aload_n 0, 1) := by decide +kernel
theorem dX5_nameOf_52 : decode MX5_nameOf.2.1 52 = .ok (.iload 4, 2) := by decide +kernel
theorem dX5_nameOf_54 : decode MX5_nameOf.2.1 54 = .ok (.iload_n 1, 1) := by decide +kernel
theorem dX5_nameOf_55 : decode MX5_nameOf.2.1 55 = .ok (.iload_n 2, 1) := by decide +kernel
theorem dX5_nameOf_56 : decode MX5_nameOf.2.1 56 = .ok (.invokevirtual 102, 3) := by decide +kernel
theorem dX5_nameOf_59 : decode MX5_nameOf.2.1 59 = .ok (.ifCond .eq 5, 3) := by decide +kernel
theorem dX5_nameOf_62 : decode MX5_nameOf.2.1 62 = .ok (.iload_n 3, 1) := by decide +kernel
theorem dX5_nameOf_63 : decode MX5_nameOf.2.1 63 = .ok (.ireturn, 1) := by decide +kernel
theorem dX5_nameOf_64 : decode MX5_nameOf.2.1 64 = .ok (.iinc 3 1, 3) := by decide +kernel
theorem dX5_nameOf_67 : decode MX5_nameOf.2.1 67 = .ok (.iload 5, 2) := by decide +kernel
theorem dX5_nameOf_69 : decode MX5_nameOf.2.1 69 = .ok (.iconst 1, 1) := by decide +kernel
theorem dX5_nameOf_70 : decode MX5_nameOf.2.1 70 = .ok (.iadd, 1) := by decide +kernel
theorem dX5_nameOf_71 : decode MX5_nameOf.2.1 71 = .ok (.istore 4, 2) := by decide +kernel
theorem dX5_nameOf_73 : decode MX5_nameOf.2.1 73 = .ok (.iinc 5 1, 3) := by decide +kernel
theorem dX5_nameOf_76 : decode MX5_nameOf.2.1 76 = .ok (.goto (-68), 3) := by decide +kernel
theorem dX5_nameOf_79 : decode MX5_nameOf.2.1 79 = .ok (.bipush 99, 2) := by decide +kernel
theorem dX5_nameOf_81 : decode MX5_nameOf.2.1 81 = .ok (.ireturn, 1) := by decide +kernel
theorem dX5_spells_0 : decode MX5_spells.2.1 0 = .ok (.iload_n 2, 1) := by decide +kernel
theorem dX5_spells_1 : decode MX5_spells.2.1 1 = .ok (.istore 4, 2) := by decide +kernel
theorem dX5_spells_3 : decode MX5_spells.2.1 3 = .ok (.iload 4, 2) := by decide +kernel
theorem dX5_spells_5 : decode MX5_spells.2.1 5 = .ok (.iload_n 3, 1) := by decide +kernel
theorem dX5_spells_6 : decode MX5_spells.2.1 6 = .ok (.if_icmp .ge 32, 3) := by decide +kernel
theorem dX5_spells_9 : decode MX5_spells.2.1 9 = .ok (.ldc 91, 2) := by decide +kernel
theorem dX5_spells_11 : decode MX5_spells.2.1 11 = .ok (.iload_n 1, 1) := by decide +kernel
theorem dX5_spells_12 : decode MX5_spells.2.1 12 = .ok (.iload 4, 2) := by decide +kernel
theorem dX5_spells_14 : decode MX5_spells.2.1 14 = .ok (.iadd, 1) := by decide +kernel
theorem dX5_spells_15 : decode MX5_spells.2.1 15 = .ok (.iload_n 2, 1) := by decide +kernel
theorem dX5_spells_16 : decode MX5_spells.2.1 16 = .ok (.isub, 1) := by decide +kernel
theorem dX5_spells_17 : decode MX5_spells.2.1 17 = .ok (.invokevirtual 98, 3) := by decide +kernel
theorem dX5_spells_20 : decode MX5_spells.2.1 20 = .ok (.aload_n 0, 1) := by decide +kernel
theorem dX5_spells_21 : decode MX5_spells.2.1 21 = .ok (.getfield 9, 3) := by decide +kernel
theorem dX5_spells_24 : decode MX5_spells.2.1 24 = .ok (.iload 4, 2) := by decide +kernel
theorem dX5_spells_26 : decode MX5_spells.2.1 26 = .ok (.baload, 1) := by decide +kernel
theorem dX5_spells_27 : decode MX5_spells.2.1 27 = .ok (.if_icmp .eq 5, 3) := by decide +kernel
theorem dX5_spells_30 : decode MX5_spells.2.1 30 = .ok (.iconst 0, 1) := by decide +kernel
theorem dX5_spells_31 : decode MX5_spells.2.1 31 = .ok (.ireturn, 1) := by decide +kernel
theorem dX5_spells_32 : decode MX5_spells.2.1 32 = .ok (.iinc 4 1, 3) := by decide +kernel
theorem dX5_spells_35 : decode MX5_spells.2.1 35 = .ok (.goto (-32), 3) := by decide +kernel
theorem dX5_spells_38 : decode MX5_spells.2.1 38 = .ok (.iconst 1, 1) := by decide +kernel
theorem dX5_spells_39 : decode MX5_spells.2.1 39 = .ok (.ireturn, 1) := by decide +kernel
theorem dX5_readClauses_0 : decode MX5_readClauses.2.1 0 = .ok (.iconst 0, 1) := by decide +kernel
theorem dX5_readClauses_1 : decode MX5_readClauses.2.1 1 = .ok (.istore_n 1, 1) := by decide +kernel
theorem dX5_readClauses_2 : decode MX5_readClauses.2.1 2 = .ok (.iload_n 1, 1) := by decide +kernel
theorem dX5_readClauses_3 : decode MX5_readClauses.2.1 3 = .ok (.bipush 12, 2) := by decide +kernel
theorem dX5_readClauses_5 : decode MX5_readClauses.2.1 5 = .ok (.if_icmp .ge 55, 3) := by decide +kernel
theorem dX5_readClauses_8 : decode MX5_readClauses.2.1 8 = .ok (.aload_n 0, 1) := by decide +kernel
theorem dX5_readClauses_9 : decode MX5_readClauses.2.1 9 = .ok (.iload_n 1, 1) := by decide +kernel
theorem dX5_readClauses_10 : decode MX5_readClauses.2.1 10 = .ok (.invokevirtual 105, 3) := by decide +kernel
theorem dX5_readClauses_13 : decode MX5_readClauses.2.1 13 = .ok (.ifCond .ne 5, 3) := by decide +kernel
theorem dX5_readClauses_16 : decode MX5_readClauses.2.1 16 = .ok (.iconst 0, 1) := by decide +kernel
theorem dX5_readClauses_17 : decode MX5_readClauses.2.1 17 = .ok (.ireturn, 1) := by decide +kernel
theorem dX5_readClauses_18 : decode MX5_readClauses.2.1 18 = .ok (.aload_n 0, 1) := by decide +kernel
theorem dX5_readClauses_19 : decode MX5_readClauses.2.1 19 = .ok (.getfield 27, 3) := by decide +kernel
theorem dX5_readClauses_22 : decode MX5_readClauses.2.1 22 = .ok (.iload_n 1, 1) := by decide +kernel
theorem dX5_readClauses_23 : decode MX5_readClauses.2.1 23 = .ok (.iconst 1, 1) := by decide +kernel
theorem dX5_readClauses_24 : decode MX5_readClauses.2.1 24 = .ok (.iadd, 1) := by decide +kernel
theorem dX5_readClauses_25 : decode MX5_readClauses.2.1 25 = .ok (.putfield 57, 3) := by decide +kernel
theorem dX5_readClauses_28 : decode MX5_readClauses.2.1 28 = .ok (.aload_n 0, 1) := by decide +kernel
theorem dX5_readClauses_29 : decode MX5_readClauses.2.1 29 = .ok (.getfield 15, 3) := by decide +kernel
theorem dX5_readClauses_32 : decode MX5_readClauses.2.1 32 = .ok (.aload_n 0, 1) := by decide +kernel
theorem dX5_readClauses_33 : decode MX5_readClauses.2.1 33 = .ok (.getfield 45, 3) := by decide +kernel
theorem dX5_readClauses_36 : decode MX5_readClauses.2.1 36 = .ok (.iaload, 1) := by decide +kernel
theorem dX5_readClauses_37 : decode MX5_readClauses.2.1 37 = .ok (.ifCond .ne 5, 3) := by decide +kernel
theorem dX5_readClauses_40 : decode MX5_readClauses.2.1 40 = .ok (.iconst 1, 1) := by decide +kernel
theorem dX5_readClauses_41 : decode MX5_readClauses.2.1 41 = .ok (.ireturn, 1) := by decide +kernel
theorem dX5_readClauses_42 : decode MX5_readClauses.2.1 42 = .ok (.aload_n 0, 1) := by decide +kernel
theorem dX5_readClauses_43 : decode MX5_readClauses.2.1 43 = .ok (.sipush 187, 3) := by decide +kernel
theorem dX5_readClauses_46 : decode MX5_readClauses.2.1 46 = .ok (.invokevirtual 108, 3) := by decide +kernel
theorem dX5_readClauses_49 : decode MX5_readClauses.2.1 49 = .ok (.ifCond .ne 5, 3) := by decide +kernel
theorem dX5_readClauses_52 : decode MX5_readClauses.2.1 52 = .ok (.iconst 0, 1) := by decide +kernel
theorem dX5_readClauses_53 : decode MX5_readClauses.2.1 53 = .ok (.ireturn, 1) := by decide +kernel
theorem dX5_readClauses_54 : decode MX5_readClauses.2.1 54 = .ok (.iinc 1 1, 3) := by decide +kernel
theorem dX5_readClauses_57 : decode MX5_readClauses.2.1 57 = .ok (.goto (-55), 3) := by decide +kernel
theorem dX5_readClauses_60 : decode MX5_readClauses.2.1 60 = .ok (.iconst 0, 1) := by decide +kernel
theorem dX5_readClauses_61 : decode MX5_readClauses.2.1 61 = .ok (.ireturn, 1) := by decide +kernel
theorem dX5_readClause_0 : decode MX5_readClause.2.1 0 = .ok (.aload_n 0, 1) := by decide +kernel
theorem dX5_readClause_1 : decode MX5_readClause.2.1 1 = .ok (.getfield 15, 3) := by decide +kernel
theorem dX5_readClause_4 : decode MX5_readClause.2.1 4 = .ok (.aload_n 0, 1) := by decide +kernel
theorem dX5_readClause_5 : decode MX5_readClause.2.1 5 = .ok (.getfield 45, 3) := by decide +kernel
theorem dX5_readClause_8 : decode MX5_readClause.2.1 8 = .ok (.iaload, 1) := by decide +kernel
theorem dX5_readClause_9 : decode MX5_readClause.2.1 9 = .ok (.istore_n 2, 1) := by decide +kernel
theorem dX5_readClause_10 : decode MX5_readClause.2.1 10 = .ok (.aload_n 0, 1) := by decide +kernel
theorem dX5_readClause_11 : decode MX5_readClause.2.1 11 = .ok (.getfield 41, 3) := by decide +kernel
theorem dX5_readClause_14 : decode MX5_readClause.2.1 14 = .ok (.ifCond .eq 15, 3) := by decide +kernel
theorem dX5_readClause_17 : decode MX5_readClause.2.1 17 = .ok (.iload_n 2, 1) := by decide +kernel
theorem dX5_readClause_18 : decode MX5_readClause.2.1 18 = .ok (.iconst 1, 1) := by decide +kernel
theorem dX5_readClause_19 : decode MX5_readClause.2.1 19 = .ok (.iconst 4, 1) := by decide +kernel
theorem dX5_readClause_20 : decode MX5_readClause.2.1 20 = .ok (.invokestatic 72, 3) := by decide +kernel
theorem dX5_readClause_23 : decode MX5_readClause.2.1 23 = .ok (.ifCond .ne 18, 3) := by decide +kernel
theorem dX5_readClause_26 : decode MX5_readClause.2.1 26 = .ok (.goto 13, 3) := by decide +kernel
theorem dX5_readClause_29 : decode MX5_readClause.2.1 29 = .ok (.iload_n 2, 1) := by decide +kernel
theorem dX5_readClause_30 : decode MX5_readClause.2.1 30 = .ok (.iconst 5, 1) := by decide +kernel
theorem dX5_readClause_31 : decode MX5_readClause.2.1 31 = .ok (.bipush 6, 2) := by decide +kernel
theorem dX5_readClause_33 : decode MX5_readClause.2.1 33 = .ok (.invokestatic 72, 3) := by decide +kernel
theorem dX5_readClause_36 : decode MX5_readClause.2.1 36 = .ok (.ifCond .ne 5, 3) := by decide +kernel
theorem dX5_readClause_39 : decode MX5_readClause.2.1 39 = .ok (.iconst 0, 1) := by decide +kernel
theorem dX5_readClause_40 : decode MX5_readClause.2.1 40 = .ok (.ireturn, 1) := by decide +kernel
theorem dX5_readClause_41 : decode MX5_readClause.2.1 41 = .ok (.aload_n 0, 1) := by decide +kernel
theorem dX5_readClause_42 : decode MX5_readClause.2.1 42 = .ok (.dup, 1) := by decide +kernel
theorem dX5_readClause_43 : decode MX5_readClause.2.1 43 = .ok (.getfield 45, 3) := by decide +kernel
theorem dX5_readClause_46 : decode MX5_readClause.2.1 46 = .ok (.iconst 1, 1) := by decide +kernel
theorem dX5_readClause_47 : decode MX5_readClause.2.1 47 = .ok (.iadd, 1) := by decide +kernel
theorem dX5_readClause_48 : decode MX5_readClause.2.1 48 = .ok (.putfield 45, 3) := by decide +kernel
theorem dX5_readClause_51 : decode MX5_readClause.2.1 51 = .ok (.aload_n 0, 1) := by decide +kernel
theorem dX5_readClause_52 : decode MX5_readClause.2.1 52 = .ok (.getfield 27, 3) := by decide +kernel
theorem dX5_readClause_55 : decode MX5_readClause.2.1 55 = .ok (.getfield 111, 3) := by decide +kernel
theorem dX5_readClause_58 : decode MX5_readClause.2.1 58 = .ok (.iload_n 1, 1) := by decide +kernel
theorem dX5_readClause_59 : decode MX5_readClause.2.1 59 = .ok (.bipush 6, 2) := by decide +kernel
theorem dX5_readClause_61 : decode MX5_readClause.2.1 61 = .ok (.imul, 1) := by decide +kernel
theorem dX5_readClause_62 : decode MX5_readClause.2.1 62 = .ok (.iconst 0, 1) := by decide +kernel
theorem dX5_readClause_63 : decode MX5_readClause.2.1 63 = .ok (.iadd, 1) := by decide +kernel
theorem dX5_readClause_64 : decode MX5_readClause.2.1 64 = .ok (.iload_n 2, 1) := by decide +kernel
theorem dX5_readClause_65 : decode MX5_readClause.2.1 65 = .ok (.iastore, 1) := by decide +kernel
theorem dX5_readClause_66 : decode MX5_readClause.2.1 66 = .ok (.iconst 1, 1) := by decide +kernel
theorem dX5_readClause_67 : decode MX5_readClause.2.1 67 = .ok (.istore_n 3, 1) := by decide +kernel
theorem dX5_readClause_68 : decode MX5_readClause.2.1 68 = .ok (.iload_n 2, 1) := by decide +kernel
theorem dX5_readClause_69 : decode MX5_readClause.2.1 69 = .ok (.iconst 5, 1) := by decide +kernel
theorem dX5_readClause_70 : decode MX5_readClause.2.1 70 = .ok (.if_icmp .ne 57, 3) := by decide +kernel
theorem dX5_readClause_73 : decode MX5_readClause.2.1 73 = .ok (.aload_n 0, 1) := by decide +kernel
theorem dX5_readClause_74 : decode MX5_readClause.2.1 74 = .ok (.iload_n 1, 1) := by decide +kernel
theorem dX5_readClause_75 : decode MX5_readClause.2.1 75 = .ok (.iconst 0, 1) := by decide +kernel
theorem dX5_readClause_76 : decode MX5_readClause.2.1 76 = .ok (.invokevirtual 114, 3) := by decide +kernel
theorem dX5_readClause_79 : decode MX5_readClause.2.1 79 = .ok (.ifCond .eq 43, 3) := by decide +kernel
theorem dX5_readClause_82 : decode MX5_readClause.2.1 82 = .ok (.aload_n 0, 1) := by decide +kernel
theorem dX5_readClause_83 : decode MX5_readClause.2.1 83 = .ok (.bipush 11, 2) := by decide +kernel
theorem dX5_readClause_85 : decode MX5_readClause.2.1 85 = .ok (.invokevirtual 108, 3) := by decide +kernel
theorem dX5_readClause_88 : decode MX5_readClause.2.1 88 = .ok (.ifCond .eq 34, 3) := by decide +kernel
theorem dX5_readClause_91 : decode MX5_readClause.2.1 91 = .ok (.aload_n 0, 1) := by decide +kernel
theorem dX5_readClause_92 : decode MX5_readClause.2.1 92 = .ok (.iload_n 1, 1) := by decide +kernel
theorem dX5_readClause_93 : decode MX5_readClause.2.1 93 = .ok (.iconst 1, 1) := by decide +kernel
theorem dX5_readClause_94 : decode MX5_readClause.2.1 94 = .ok (.invokevirtual 114, 3) := by decide +kernel
theorem dX5_readClause_97 : decode MX5_readClause.2.1 97 = .ok (.ifCond .eq 25, 3) := by decide +kernel
theorem dX5_readClause_100 : decode MX5_readClause.2.1 100 = .ok (.aload_n 0, 1) := by decide +kernel
theorem dX5_readClause_101 : decode MX5_readClause.2.1 101 = .ok (.bipush 13, 2) := by decide +kernel
theorem dX5_readClause_103 : decode MX5_readClause.2.1 103 = .ok (.invokevirtual 108, 3) := by decide +kernel
theorem dX5_readClause_106 : decode MX5_readClause.2.1 106 = .ok (.ifCond .eq 16, 3) := by decide +kernel
theorem dX5_readClause_109 : decode MX5_readClause.2.1 109 = .ok (.aload_n 0, 1) := by decide +kernel
theorem dX5_readClause_110 : decode MX5_readClause.2.1 110 = .ok (.iload_n 1, 1) := by decide +kernel
theorem dX5_readClause_111 : decode MX5_readClause.2.1 111 = .ok (.iconst 2, 1) := by decide +kernel
theorem dX5_readClause_112 : decode MX5_readClause.2.1 112 = .ok (.invokevirtual 114, 3) := by decide +kernel
theorem dX5_readClause_115 : decode MX5_readClause.2.1 115 = .ok (.ifCond .eq 7, 3) := by decide +kernel
theorem dX5_readClause_118 : decode MX5_readClause.2.1 118 = .ok (.iconst 1, 1) := by decide +kernel
theorem dX5_readClause_119 : decode MX5_readClause.2.1 119 = .ok (.goto 4, 3) := by decide +kernel
theorem dX5_readClause_122 : decode MX5_readClause.2.1 122 = .ok (.iconst 0, 1) := by decide +kernel
theorem dX5_readClause_123 : decode MX5_readClause.2.1 123 = .ok (.istore_n 3, 1) := by decide +kernel
theorem dX5_readClause_124 : decode MX5_readClause.2.1 124 = .ok (.goto 19, 3) := by decide +kernel
theorem dX5_readClause_127 : decode MX5_readClause.2.1 127 = .ok (.iload_n 2, 1) := by decide +kernel
theorem dX5_readClause_128 : decode MX5_readClause.2.1 128 = .ok (.iconst 1, 1) := by decide +kernel
theorem dX5_readClause_129 : decode MX5_readClause.2.1 129 = .ok (.iconst 3, 1) := by decide +kernel
theorem dX5_readClause_130 : decode MX5_readClause.2.1 130 = .ok (.invokestatic 72, 3) := by decide +kernel
theorem dX5_readClause_133 : decode MX5_readClause.2.1 133 = .ok (.ifCond .eq 10, 3) := by decide +kernel
theorem dX5_readClause_136 : decode MX5_readClause.2.1 136 = .ok (.aload_n 0, 1) := by decide +kernel
theorem dX5_readClause_137 : decode MX5_readClause.2.1 137 = .ok (.iload_n 1, 1) := by decide +kernel
theorem dX5_readClause_138 : decode MX5_readClause.2.1 138 = .ok (.iconst 0, 1) := by decide +kernel
theorem dX5_readClause_139 : decode MX5_readClause.2.1 139 = .ok (.invokevirtual 114, 3) := by decide +kernel
theorem dX5_readClause_142 : decode MX5_readClause.2.1 142 = .ok (.istore_n 3, 1) := by decide +kernel
theorem dX5_readClause_143 : decode MX5_readClause.2.1 143 = .ok (.iload_n 3, 1) := by decide +kernel
theorem dX5_readClause_144 : decode MX5_readClause.2.1 144 = .ok (.ifCond .eq 23, 3) := by decide +kernel
theorem dX5_readClause_147 : decode MX5_readClause.2.1 147 = .ok (.aload_n 0, 1) := by decide +kernel
theorem dX5_readClause_148 : decode MX5_readClause.2.1 148 = .ok (.iload_n 1, 1) := by decide +kernel
theorem dX5_readClause_149 : decode MX5_readClause.2.1 149 = .ok (.invokevirtual 118, 3) := by decide +kernel
theorem dX5_readClause_152 : decode MX5_readClause.2.1 152 = .ok (.ifCond .eq 15, 3) := by decide +kernel
theorem dX5_readClause_155 : decode MX5_readClause.2.1 155 = .ok (.aload_n 0, 1) := by decide +kernel
theorem dX5_readClause_156 : decode MX5_readClause.2.1 156 = .ok (.iload_n 1, 1) := by decide +kernel
theorem dX5_readClause_157 : decode MX5_readClause.2.1 157 = .ok (.invokevirtual 121, 3) := by decide +kernel
theorem dX5_readClause_160 : decode MX5_readClause.2.1 160 = .ok (.ifCond .eq 7, 3) := by decide +kernel
theorem dX5_readClause_163 : decode MX5_readClause.2.1 163 = .ok (.iconst 1, 1) := by decide +kernel
theorem dX5_readClause_164 : decode MX5_readClause.2.1 164 = .ok (.goto 4, 3) := by decide +kernel
theorem dX5_readClause_167 : decode MX5_readClause.2.1 167 = .ok (.iconst 0, 1) := by decide +kernel
theorem dX5_readClause_168 : decode MX5_readClause.2.1 168 = .ok (.ireturn, 1) := by decide +kernel
theorem dX5_pass_0 : decode MX5_pass.2.1 0 = .ok (.aload_n 0, 1) := by decide +kernel
theorem dX5_pass_1 : decode MX5_pass.2.1 1 = .ok (.getfield 15, 3) := by decide +kernel
theorem dX5_pass_4 : decode MX5_pass.2.1 4 = .ok (.aload_n 0, 1) := by decide +kernel
theorem dX5_pass_5 : decode MX5_pass.2.1 5 = .ok (.getfield 45, 3) := by decide +kernel
theorem dX5_pass_8 : decode MX5_pass.2.1 8 = .ok (.iaload, 1) := by decide +kernel
theorem dX5_pass_9 : decode MX5_pass.2.1 9 = .ok (.iload_n 1, 1) := by decide +kernel
theorem dX5_pass_10 : decode MX5_pass.2.1 10 = .ok (.if_icmp .eq 5, 3) := by decide +kernel
theorem dX5_pass_13 : decode MX5_pass.2.1 13 = .ok (.iconst 0, 1) := by decide +kernel
theorem dX5_pass_14 : decode MX5_pass.2.1 14 = .ok (.ireturn, 1) := by decide +kernel
theorem dX5_pass_15 : decode MX5_pass.2.1 15 = .ok (.aload_n 0, 1) := by decide +kernel
theorem dX5_pass_16 : decode MX5_pass.2.1 16 = .ok (.dup, 1) := by decide +kernel
theorem dX5_pass_17 : decode MX5_pass.2.1 17 = .ok (.getfield 45, 3) := by decide +kernel
theorem dX5_pass_20 : decode MX5_pass.2.1 20 = .ok (.iconst 1, 1) := by decide +kernel
theorem dX5_pass_21 : decode MX5_pass.2.1 21 = .ok (.iadd, 1) := by decide +kernel
theorem dX5_pass_22 : decode MX5_pass.2.1 22 = .ok (.putfield 45, 3) := by decide +kernel
theorem dX5_pass_25 : decode MX5_pass.2.1 25 = .ok (.iconst 1, 1) := by decide +kernel
theorem dX5_pass_26 : decode MX5_pass.2.1 26 = .ok (.ireturn, 1) := by decide +kernel
theorem dX5_keepSum_0 : decode MX5_keepSum.2.1 0 = .ok (.aload_n 0, 1) := by decide +kernel
theorem dX5_keepSum_1 : decode MX5_keepSum.2.1 1 = .ok (.getfield 27, 3) := by decide +kernel
theorem dX5_keepSum_4 : decode MX5_keepSum.2.1 4 = .ok (.getfield 111, 3) := by decide +kernel
theorem dX5_keepSum_7 : decode MX5_keepSum.2.1 7 = .ok (.iload_n 1, 1) := by decide +kernel
theorem dX5_keepSum_8 : decode MX5_keepSum.2.1 8 = .ok (.bipush 6, 2) := by decide +kernel
theorem dX5_keepSum_10 : decode MX5_keepSum.2.1 10 = .ok (.imul, 1) := by decide +kernel
theorem dX5_keepSum_11 : decode MX5_keepSum.2.1 11 = .ok (.iconst 1, 1) := by decide +kernel
theorem dX5_keepSum_12 : decode MX5_keepSum.2.1 12 = .ok (.iadd, 1) := by decide +kernel
theorem dX5_keepSum_13 : decode MX5_keepSum.2.1 13 = .ok (.iload_n 2, 1) := by decide +kernel
theorem dX5_keepSum_14 : decode MX5_keepSum.2.1 14 = .ok (.iadd, 1) := by decide +kernel
theorem dX5_keepSum_15 : decode MX5_keepSum.2.1 15 = .ok (.aload_n 0, 1) := by decide +kernel
theorem dX5_keepSum_16 : decode MX5_keepSum.2.1 16 = .ok (.getfield 48, 3) := by decide +kernel
theorem dX5_keepSum_19 : decode MX5_keepSum.2.1 19 = .ok (.iastore, 1) := by decide +kernel
theorem dX5_keepSum_20 : decode MX5_keepSum.2.1 20 = .ok (.aload_n 0, 1) := by decide +kernel
theorem dX5_keepSum_21 : decode MX5_keepSum.2.1 21 = .ok (.invokevirtual 124, 3) := by decide +kernel
theorem dX5_keepSum_24 : decode MX5_keepSum.2.1 24 = .ok (.istore_n 3, 1) := by decide +kernel
theorem dX5_keepSum_25 : decode MX5_keepSum.2.1 25 = .ok (.aload_n 0, 1) := by decide +kernel
theorem dX5_keepSum_26 : decode MX5_keepSum.2.1 26 = .ok (.iconst 0, 1) := by decide +kernel
theorem dX5_keepSum_27 : decode MX5_keepSum.2.1 27 = .ok (.iconst 0, 1) := by decide +kernel
theorem dX5_keepSum_28 : decode MX5_keepSum.2.1 28 = .ok (.invokevirtual 127, 3) := by decide +kernel
theorem dX5_keepSum_31 : decode MX5_keepSum.2.1 31 = .ok (.iload_n 3, 1) := by decide +kernel
theorem dX5_keepSum_32 : decode MX5_keepSum.2.1 32 = .ok (.ireturn, 1) := by decide +kernel
theorem dX5_keepTimes_0 : decode MX5_keepTimes.2.1 0 = .ok (.iload_n 1, 1) := by decide +kernel
theorem dX5_keepTimes_1 : decode MX5_keepTimes.2.1 1 = .ok (.bipush 6, 2) := by decide +kernel
theorem dX5_keepTimes_3 : decode MX5_keepTimes.2.1 3 = .ok (.imul, 1) := by decide +kernel
theorem dX5_keepTimes_4 : decode MX5_keepTimes.2.1 4 = .ok (.iconst 5, 1) := by decide +kernel
theorem dX5_keepTimes_5 : decode MX5_keepTimes.2.1 5 = .ok (.iadd, 1) := by decide +kernel
theorem dX5_keepTimes_6 : decode MX5_keepTimes.2.1 6 = .ok (.istore_n 2, 1) := by decide +kernel
theorem dX5_keepTimes_7 : decode MX5_keepTimes.2.1 7 = .ok (.aload_n 0, 1) := by decide +kernel
theorem dX5_keepTimes_8 : decode MX5_keepTimes.2.1 8 = .ok (.getfield 27, 3) := by decide +kernel
theorem dX5_keepTimes_11 : decode MX5_keepTimes.2.1 11 = .ok (.getfield 111, 3) := by decide +kernel
theorem dX5_keepTimes_14 : decode MX5_keepTimes.2.1 14 = .ok (.iload_n 2, 1) := by decide +kernel
theorem dX5_keepTimes_15 : decode MX5_keepTimes.2.1 15 = .ok (.iconst 1, 1) := by decide +kernel
theorem dX5_keepTimes_16 : decode MX5_keepTimes.2.1 16 = .ok (.iastore, 1) := by decide +kernel
theorem dX5_keepTimes_17 : decode MX5_keepTimes.2.1 17 = .ok (.aload_n 0, 1) := by decide +kernel
theorem dX5_keepTimes_18 : decode MX5_keepTimes.2.1 18 = .ok (.getfield 41, 3) := by decide +kernel
theorem dX5_keepTimes_21 : decode MX5_keepTimes.2.1 21 = .ok (.ifCond .ne 12, 3) := by decide +kernel
theorem dX5_keepTimes_24 : decode MX5_keepTimes.2.1 24 = .ok (.aload_n 0, 1) := by decide +kernel
theorem dX5_keepTimes_25 : decode MX5_keepTimes.2.1 25 = .ok (.bipush 12, 2) := by decide +kernel
theorem dX5_keepTimes_27 : decode MX5_keepTimes.2.1 27 = .ok (.invokevirtual 108, 3) := by decide +kernel
theorem dX5_keepTimes_30 : decode MX5_keepTimes.2.1 30 = .ok (.ifCond .ne 5, 3) := by decide +kernel
theorem dX5_keepTimes_33 : decode MX5_keepTimes.2.1 33 = .ok (.iconst 1, 1) := by decide +kernel
theorem dX5_keepTimes_34 : decode MX5_keepTimes.2.1 34 = .ok (.ireturn, 1) := by decide +kernel
theorem dX5_keepTimes_35 : decode MX5_keepTimes.2.1 35 = .ok (.aload_n 0, 1) := by decide +kernel
theorem dX5_keepTimes_36 : decode MX5_keepTimes.2.1 36 = .ok (.getfield 15, 3) := by decide +kernel
theorem dX5_keepTimes_39 : decode MX5_keepTimes.2.1 39 = .ok (.aload_n 0, 1) := by decide +kernel
theorem dX5_keepTimes_40 : decode MX5_keepTimes.2.1 40 = .ok (.getfield 45, 3) := by decide +kernel
theorem dX5_keepTimes_43 : decode MX5_keepTimes.2.1 43 = .ok (.iaload, 1) := by decide +kernel
theorem dX5_keepTimes_44 : decode MX5_keepTimes.2.1 44 = .ok (.sipush 1001, 3) := by decide +kernel
theorem dX5_keepTimes_47 : decode MX5_keepTimes.2.1 47 = .ok (.sipush 1020, 3) := by decide +kernel
theorem dX5_keepTimes_50 : decode MX5_keepTimes.2.1 50 = .ok (.invokestatic 72, 3) := by decide +kernel
theorem dX5_keepTimes_53 : decode MX5_keepTimes.2.1 53 = .ok (.ifCond .ne 5, 3) := by decide +kernel
theorem dX5_keepTimes_56 : decode MX5_keepTimes.2.1 56 = .ok (.iconst 0, 1) := by decide +kernel
theorem dX5_keepTimes_57 : decode MX5_keepTimes.2.1 57 = .ok (.ireturn, 1) := by decide +kernel
theorem dX5_keepTimes_58 : decode MX5_keepTimes.2.1 58 = .ok (.aload_n 0, 1) := by decide +kernel
theorem dX5_keepTimes_59 : decode MX5_keepTimes.2.1 59 = .ok (.getfield 27, 3) := by decide +kernel
theorem dX5_keepTimes_62 : decode MX5_keepTimes.2.1 62 = .ok (.getfield 111, 3) := by decide +kernel
theorem dX5_keepTimes_65 : decode MX5_keepTimes.2.1 65 = .ok (.iload_n 2, 1) := by decide +kernel
theorem dX5_keepTimes_66 : decode MX5_keepTimes.2.1 66 = .ok (.aload_n 0, 1) := by decide +kernel
theorem dX5_keepTimes_67 : decode MX5_keepTimes.2.1 67 = .ok (.getfield 15, 3) := by decide +kernel
theorem dX5_keepTimes_70 : decode MX5_keepTimes.2.1 70 = .ok (.aload_n 0, 1) := by decide +kernel
theorem dX5_keepTimes_71 : decode MX5_keepTimes.2.1 71 = .ok (.getfield 45, 3) := by decide +kernel
theorem dX5_keepTimes_74 : decode MX5_keepTimes.2.1 74 = .ok (.iaload, 1) := by decide +kernel
theorem dX5_keepTimes_75 : decode MX5_keepTimes.2.1 75 = .ok (.sipush 1000, 3) := by decide +kernel
theorem dX5_keepTimes_78 : decode MX5_keepTimes.2.1 78 = .ok (.isub, 1) := by decide +kernel
theorem dX5_keepTimes_79 : decode MX5_keepTimes.2.1 79 = .ok (.iastore, 1) := by decide +kernel
theorem dX5_keepTimes_80 : decode MX5_keepTimes.2.1 80 = .ok (.aload_n 0, 1) := by decide +kernel
theorem dX5_keepTimes_81 : decode MX5_keepTimes.2.1 81 = .ok (.dup, 1) := by decide +kernel
theorem dX5_keepTimes_82 : decode MX5_keepTimes.2.1 82 = .ok (.getfield 45, 3) := by decide +kernel
theorem dX5_keepTimes_85 : decode MX5_keepTimes.2.1 85 = .ok (.iconst 1, 1) := by decide +kernel
theorem dX5_keepTimes_86 : decode MX5_keepTimes.2.1 86 = .ok (.iadd, 1) := by decide +kernel
theorem dX5_keepTimes_87 : decode MX5_keepTimes.2.1 87 = .ok (.putfield 45, 3) := by decide +kernel
theorem dX5_keepTimes_90 : decode MX5_keepTimes.2.1 90 = .ok (.iconst 1, 1) := by decide +kernel
theorem dX5_keepTimes_91 : decode MX5_keepTimes.2.1 91 = .ok (.ireturn, 1) := by decide +kernel
theorem dX5_keepTest_0 : decode MX5_keepTest.2.1 0 = .ok (.iload_n 1, 1) := by decide +kernel
theorem dX5_keepTest_1 : decode MX5_keepTest.2.1 1 = .ok (.bipush 6, 2) := by decide +kernel
theorem dX5_keepTest_3 : decode MX5_keepTest.2.1 3 = .ok (.imul, 1) := by decide +kernel
theorem dX5_keepTest_4 : decode MX5_keepTest.2.1 4 = .ok (.iconst 4, 1) := by decide +kernel
theorem dX5_keepTest_5 : decode MX5_keepTest.2.1 5 = .ok (.iadd, 1) := by decide +kernel
theorem dX5_keepTest_6 : decode MX5_keepTest.2.1 6 = .ok (.istore_n 2, 1) := by decide +kernel
theorem dX5_keepTest_7 : decode MX5_keepTest.2.1 7 = .ok (.aload_n 0, 1) := by decide +kernel
theorem dX5_keepTest_8 : decode MX5_keepTest.2.1 8 = .ok (.getfield 27, 3) := by decide +kernel
theorem dX5_keepTest_11 : decode MX5_keepTest.2.1 11 = .ok (.getfield 111, 3) := by decide +kernel
theorem dX5_keepTest_14 : decode MX5_keepTest.2.1 14 = .ok (.iload_n 2, 1) := by decide +kernel
theorem dX5_keepTest_15 : decode MX5_keepTest.2.1 15 = .ok (.iconst (-1), 1) := by decide +kernel
theorem dX5_keepTest_16 : decode MX5_keepTest.2.1 16 = .ok (.iastore, 1) := by decide +kernel
theorem dX5_keepTest_17 : decode MX5_keepTest.2.1 17 = .ok (.aload_n 0, 1) := by decide +kernel
theorem dX5_keepTest_18 : decode MX5_keepTest.2.1 18 = .ok (.bipush 7, 2) := by decide +kernel
theorem dX5_keepTest_20 : decode MX5_keepTest.2.1 20 = .ok (.invokevirtual 108, 3) := by decide +kernel
theorem dX5_keepTest_23 : decode MX5_keepTest.2.1 23 = .ok (.ifCond .ne 5, 3) := by decide +kernel
theorem dX5_keepTest_26 : decode MX5_keepTest.2.1 26 = .ok (.iconst 1, 1) := by decide +kernel
theorem dX5_keepTest_27 : decode MX5_keepTest.2.1 27 = .ok (.ireturn, 1) := by decide +kernel
theorem dX5_keepTest_28 : decode MX5_keepTest.2.1 28 = .ok (.aload_n 0, 1) := by decide +kernel
theorem dX5_keepTest_29 : decode MX5_keepTest.2.1 29 = .ok (.getfield 27, 3) := by decide +kernel
theorem dX5_keepTest_32 : decode MX5_keepTest.2.1 32 = .ok (.getfield 111, 3) := by decide +kernel
theorem dX5_keepTest_35 : decode MX5_keepTest.2.1 35 = .ok (.iload_n 2, 1) := by decide +kernel
theorem dX5_keepTest_36 : decode MX5_keepTest.2.1 36 = .ok (.aload_n 0, 1) := by decide +kernel
theorem dX5_keepTest_37 : decode MX5_keepTest.2.1 37 = .ok (.getfield 48, 3) := by decide +kernel
theorem dX5_keepTest_40 : decode MX5_keepTest.2.1 40 = .ok (.iastore, 1) := by decide +kernel
theorem dX5_keepTest_41 : decode MX5_keepTest.2.1 41 = .ok (.aload_n 0, 1) := by decide +kernel
theorem dX5_keepTest_42 : decode MX5_keepTest.2.1 42 = .ok (.invokevirtual 131, 3) := by decide +kernel
theorem dX5_keepTest_45 : decode MX5_keepTest.2.1 45 = .ok (.istore_n 3, 1) := by decide +kernel
theorem dX5_keepTest_46 : decode MX5_keepTest.2.1 46 = .ok (.aload_n 0, 1) := by decide +kernel
theorem dX5_keepTest_47 : decode MX5_keepTest.2.1 47 = .ok (.iconst 0, 1) := by decide +kernel
theorem dX5_keepTest_48 : decode MX5_keepTest.2.1 48 = .ok (.iconst 0, 1) := by decide +kernel
theorem dX5_keepTest_49 : decode MX5_keepTest.2.1 49 = .ok (.invokevirtual 127, 3) := by decide +kernel
theorem dX5_keepTest_52 : decode MX5_keepTest.2.1 52 = .ok (.iload_n 3, 1) := by decide +kernel
theorem dX5_keepTest_53 : decode MX5_keepTest.2.1 53 = .ok (.ireturn, 1) := by decide +kernel
theorem dX5_addStep_0 : decode MX5_addStep.2.1 0 = .ok (.aload_n 0, 1) := by decide +kernel
theorem dX5_addStep_1 : decode MX5_addStep.2.1 1 = .ok (.getfield 48, 3) := by decide +kernel
theorem dX5_addStep_4 : decode MX5_addStep.2.1 4 = .ok (.sipush 512, 3) := by decide +kernel
theorem dX5_addStep_7 : decode MX5_addStep.2.1 7 = .ok (.if_icmp .ge 31, 3) := by decide +kernel
theorem dX5_addStep_10 : decode MX5_addStep.2.1 10 = .ok (.aload_n 0, 1) := by decide +kernel
theorem dX5_addStep_11 : decode MX5_addStep.2.1 11 = .ok (.getfield 27, 3) := by decide +kernel
theorem dX5_addStep_14 : decode MX5_addStep.2.1 14 = .ok (.getfield 134, 3) := by decide +kernel
theorem dX5_addStep_17 : decode MX5_addStep.2.1 17 = .ok (.aload_n 0, 1) := by decide +kernel
theorem dX5_addStep_18 : decode MX5_addStep.2.1 18 = .ok (.getfield 48, 3) := by decide +kernel
theorem dX5_addStep_21 : decode MX5_addStep.2.1 21 = .ok (.iload_n 1, 1) := by decide +kernel
theorem dX5_addStep_22 : decode MX5_addStep.2.1 22 = .ok (.bipush 10, 2) := by decide +kernel
theorem dX5_addStep_24 : decode MX5_addStep.2.1 24 = .ok (.ishl, 1) := by decide +kernel
theorem dX5_addStep_25 : decode MX5_addStep.2.1 25 = .ok (.iload_n 2, 1) := by decide +kernel
theorem dX5_addStep_26 : decode MX5_addStep.2.1 26 = .ok (.ior, 1) := by decide +kernel
theorem dX5_addStep_27 : decode MX5_addStep.2.1 27 = .ok (.iastore, 1) := by decide +kernel
theorem dX5_addStep_28 : decode MX5_addStep.2.1 28 = .ok (.aload_n 0, 1) := by decide +kernel
theorem dX5_addStep_29 : decode MX5_addStep.2.1 29 = .ok (.dup, 1) := by decide +kernel
theorem dX5_addStep_30 : decode MX5_addStep.2.1 30 = .ok (.getfield 48, 3) := by decide +kernel
theorem dX5_addStep_33 : decode MX5_addStep.2.1 33 = .ok (.iconst 1, 1) := by decide +kernel
theorem dX5_addStep_34 : decode MX5_addStep.2.1 34 = .ok (.iadd, 1) := by decide +kernel
theorem dX5_addStep_35 : decode MX5_addStep.2.1 35 = .ok (.putfield 48, 3) := by decide +kernel
theorem dX5_addStep_38 : decode MX5_addStep.2.1 38 = .ok (.return_, 1) := by decide +kernel
theorem dX5_aim_0 : decode MX5_aim.2.1 0 = .ok (.iload_n 1, 1) := by decide +kernel
theorem dX5_aim_1 : decode MX5_aim.2.1 1 = .ok (.sipush 512, 3) := by decide +kernel
theorem dX5_aim_4 : decode MX5_aim.2.1 4 = .ok (.if_icmp .ge 21, 3) := by decide +kernel
theorem dX5_aim_7 : decode MX5_aim.2.1 7 = .ok (.aload_n 0, 1) := by decide +kernel
theorem dX5_aim_8 : decode MX5_aim.2.1 8 = .ok (.getfield 27, 3) := by decide +kernel
theorem dX5_aim_11 : decode MX5_aim.2.1 11 = .ok (.getfield 134, 3) := by decide +kernel
theorem dX5_aim_14 : decode MX5_aim.2.1 14 = .ok (.iload_n 1, 1) := by decide +kernel
theorem dX5_aim_15 : decode MX5_aim.2.1 15 = .ok (.iload_n 2, 1) := by decide +kernel
theorem dX5_aim_16 : decode MX5_aim.2.1 16 = .ok (.bipush 10, 2) := by decide +kernel
theorem dX5_aim_18 : decode MX5_aim.2.1 18 = .ok (.ishl, 1) := by decide +kernel
theorem dX5_aim_19 : decode MX5_aim.2.1 19 = .ok (.aload_n 0, 1) := by decide +kernel
theorem dX5_aim_20 : decode MX5_aim.2.1 20 = .ok (.getfield 48, 3) := by decide +kernel
theorem dX5_aim_23 : decode MX5_aim.2.1 23 = .ok (.ior, 1) := by decide +kernel
theorem dX5_aim_24 : decode MX5_aim.2.1 24 = .ok (.iastore, 1) := by decide +kernel
theorem dX5_aim_25 : decode MX5_aim.2.1 25 = .ok (.return_, 1) := by decide +kernel
theorem dX5_readTest_0 : decode MX5_readTest.2.1 0 = .ok (.aload_n 0, 1) := by decide +kernel
theorem dX5_readTest_1 : decode MX5_readTest.2.1 1 = .ok (.invokevirtual 137, 3) := by decide +kernel
theorem dX5_readTest_4 : decode MX5_readTest.2.1 4 = .ok (.istore_n 1, 1) := by decide +kernel
theorem dX5_readTest_5 : decode MX5_readTest.2.1 5 = .ok (.iconst 0, 1) := by decide +kernel
theorem dX5_readTest_6 : decode MX5_readTest.2.1 6 = .ok (.istore_n 2, 1) := by decide +kernel
theorem dX5_readTest_7 : decode MX5_readTest.2.1 7 = .ok (.iload_n 2, 1) := by decide +kernel
theorem dX5_readTest_8 : decode MX5_readTest.2.1 8 = .ok (.sipush 400, 3) := by decide +kernel
theorem dX5_readTest_11 : decode MX5_readTest.2.1 11 = .ok (.if_icmp .ge 44, 3) := by decide +kernel
theorem dX5_readTest_14 : decode MX5_readTest.2.1 14 = .ok (.iload_n 1, 1) := by decide +kernel
theorem dX5_readTest_15 : decode MX5_readTest.2.1 15 = .ok (.ifCond .eq 40, 3) := by decide +kernel
theorem dX5_readTest_18 : decode MX5_readTest.2.1 18 = .ok (.aload_n 0, 1) := by decide +kernel
theorem dX5_readTest_19 : decode MX5_readTest.2.1 19 = .ok (.bipush 8, 2) := by decide +kernel
theorem dX5_readTest_21 : decode MX5_readTest.2.1 21 = .ok (.invokevirtual 108, 3) := by decide +kernel
theorem dX5_readTest_24 : decode MX5_readTest.2.1 24 = .ok (.ifCond .eq 31, 3) := by decide +kernel
theorem dX5_readTest_27 : decode MX5_readTest.2.1 27 = .ok (.aload_n 0, 1) := by decide +kernel
theorem dX5_readTest_28 : decode MX5_readTest.2.1 28 = .ok (.getfield 48, 3) := by decide +kernel
theorem dX5_readTest_31 : decode MX5_readTest.2.1 31 = .ok (.istore_n 3, 1) := by decide +kernel
theorem dX5_readTest_32 : decode MX5_readTest.2.1 32 = .ok (.aload_n 0, 1) := by decide +kernel
theorem dX5_readTest_33 : decode MX5_readTest.2.1 33 = .ok (.iconst 5, 1) := by decide +kernel
theorem dX5_readTest_34 : decode MX5_readTest.2.1 34 = .ok (.iconst 0, 1) := by decide +kernel
theorem dX5_readTest_35 : decode MX5_readTest.2.1 35 = .ok (.invokevirtual 127, 3) := by decide +kernel
theorem dX5_readTest_38 : decode MX5_readTest.2.1 38 = .ok (.aload_n 0, 1) := by decide +kernel
theorem dX5_readTest_39 : decode MX5_readTest.2.1 39 = .ok (.invokevirtual 137, 3) := by decide +kernel
theorem dX5_readTest_42 : decode MX5_readTest.2.1 42 = .ok (.istore_n 1, 1) := by decide +kernel
theorem dX5_readTest_43 : decode MX5_readTest.2.1 43 = .ok (.aload_n 0, 1) := by decide +kernel
theorem dX5_readTest_44 : decode MX5_readTest.2.1 44 = .ok (.iload_n 3, 1) := by decide +kernel
theorem dX5_readTest_45 : decode MX5_readTest.2.1 45 = .ok (.iconst 5, 1) := by decide +kernel
theorem dX5_readTest_46 : decode MX5_readTest.2.1 46 = .ok (.invokevirtual 140, 3) := by decide +kernel
theorem dX5_readTest_49 : decode MX5_readTest.2.1 49 = .ok (.iinc 2 1, 3) := by decide +kernel
theorem dX5_readTest_52 : decode MX5_readTest.2.1 52 = .ok (.goto (-45), 3) := by decide +kernel
theorem dX5_readTest_55 : decode MX5_readTest.2.1 55 = .ok (.iload_n 1, 1) := by decide +kernel
theorem dX5_readTest_56 : decode MX5_readTest.2.1 56 = .ok (.ireturn, 1) := by decide +kernel
theorem dX5_readBoth_0 : decode MX5_readBoth.2.1 0 = .ok (.aload_n 0, 1) := by decide +kernel
theorem dX5_readBoth_1 : decode MX5_readBoth.2.1 1 = .ok (.invokevirtual 143, 3) := by decide +kernel
theorem dX5_readBoth_4 : decode MX5_readBoth.2.1 4 = .ok (.istore_n 1, 1) := by decide +kernel
theorem dX5_readBoth_5 : decode MX5_readBoth.2.1 5 = .ok (.iconst 0, 1) := by decide +kernel
theorem dX5_readBoth_6 : decode MX5_readBoth.2.1 6 = .ok (.istore_n 2, 1) := by decide +kernel
theorem dX5_readBoth_7 : decode MX5_readBoth.2.1 7 = .ok (.iload_n 2, 1) := by decide +kernel
theorem dX5_readBoth_8 : decode MX5_readBoth.2.1 8 = .ok (.sipush 400, 3) := by decide +kernel
theorem dX5_readBoth_11 : decode MX5_readBoth.2.1 11 = .ok (.if_icmp .ge 44, 3) := by decide +kernel
theorem dX5_readBoth_14 : decode MX5_readBoth.2.1 14 = .ok (.iload_n 1, 1) := by decide +kernel
theorem dX5_readBoth_15 : decode MX5_readBoth.2.1 15 = .ok (.ifCond .eq 40, 3) := by decide +kernel
theorem dX5_readBoth_18 : decode MX5_readBoth.2.1 18 = .ok (.aload_n 0, 1) := by decide +kernel
theorem dX5_readBoth_19 : decode MX5_readBoth.2.1 19 = .ok (.bipush 9, 2) := by decide +kernel
theorem dX5_readBoth_21 : decode MX5_readBoth.2.1 21 = .ok (.invokevirtual 108, 3) := by decide +kernel
theorem dX5_readBoth_24 : decode MX5_readBoth.2.1 24 = .ok (.ifCond .eq 31, 3) := by decide +kernel
theorem dX5_readBoth_27 : decode MX5_readBoth.2.1 27 = .ok (.aload_n 0, 1) := by decide +kernel
theorem dX5_readBoth_28 : decode MX5_readBoth.2.1 28 = .ok (.getfield 48, 3) := by decide +kernel
theorem dX5_readBoth_31 : decode MX5_readBoth.2.1 31 = .ok (.istore_n 3, 1) := by decide +kernel
theorem dX5_readBoth_32 : decode MX5_readBoth.2.1 32 = .ok (.aload_n 0, 1) := by decide +kernel
theorem dX5_readBoth_33 : decode MX5_readBoth.2.1 33 = .ok (.iconst 4, 1) := by decide +kernel
theorem dX5_readBoth_34 : decode MX5_readBoth.2.1 34 = .ok (.iconst 0, 1) := by decide +kernel
theorem dX5_readBoth_35 : decode MX5_readBoth.2.1 35 = .ok (.invokevirtual 127, 3) := by decide +kernel
theorem dX5_readBoth_38 : decode MX5_readBoth.2.1 38 = .ok (.aload_n 0, 1) := by decide +kernel
theorem dX5_readBoth_39 : decode MX5_readBoth.2.1 39 = .ok (.invokevirtual 143, 3) := by decide +kernel
theorem dX5_readBoth_42 : decode MX5_readBoth.2.1 42 = .ok (.istore_n 1, 1) := by decide +kernel
theorem dX5_readBoth_43 : decode MX5_readBoth.2.1 43 = .ok (.aload_n 0, 1) := by decide +kernel
theorem dX5_readBoth_44 : decode MX5_readBoth.2.1 44 = .ok (.iload_n 3, 1) := by decide +kernel
theorem dX5_readBoth_45 : decode MX5_readBoth.2.1 45 = .ok (.iconst 4, 1) := by decide +kernel
theorem dX5_readBoth_46 : decode MX5_readBoth.2.1 46 = .ok (.invokevirtual 140, 3) := by decide +kernel
theorem dX5_readBoth_49 : decode MX5_readBoth.2.1 49 = .ok (.iinc 2 1, 3) := by decide +kernel
theorem dX5_readBoth_52 : decode MX5_readBoth.2.1 52 = .ok (.goto (-45), 3) := by decide +kernel
theorem dX5_readBoth_55 : decode MX5_readBoth.2.1 55 = .ok (.iload_n 1, 1) := by decide +kernel
theorem dX5_readBoth_56 : decode MX5_readBoth.2.1 56 = .ok (.ireturn, 1) := by decide +kernel
theorem dX5_readPlain_0 : decode MX5_readPlain.2.1 0 = .ok (.iconst 0, 1) := by decide +kernel
theorem dX5_readPlain_1 : decode MX5_readPlain.2.1 1 = .ok (.istore_n 1, 1) := by decide +kernel
theorem dX5_readPlain_2 : decode MX5_readPlain.2.1 2 = .ok (.iconst 0, 1) := by decide +kernel
theorem dX5_readPlain_3 : decode MX5_readPlain.2.1 3 = .ok (.istore_n 2, 1) := by decide +kernel
theorem dX5_readPlain_4 : decode MX5_readPlain.2.1 4 = .ok (.iload_n 2, 1) := by decide +kernel
theorem dX5_readPlain_5 : decode MX5_readPlain.2.1 5 = .ok (.sipush 400, 3) := by decide +kernel
theorem dX5_readPlain_8 : decode MX5_readPlain.2.1 8 = .ok (.if_icmp .ge 28, 3) := by decide +kernel
theorem dX5_readPlain_11 : decode MX5_readPlain.2.1 11 = .ok (.aload_n 0, 1) := by decide +kernel
theorem dX5_readPlain_12 : decode MX5_readPlain.2.1 12 = .ok (.bipush 10, 2) := by decide +kernel
theorem dX5_readPlain_14 : decode MX5_readPlain.2.1 14 = .ok (.invokevirtual 108, 3) := by decide +kernel
theorem dX5_readPlain_17 : decode MX5_readPlain.2.1 17 = .ok (.ifCond .eq 19, 3) := by decide +kernel
theorem dX5_readPlain_20 : decode MX5_readPlain.2.1 20 = .ok (.iload_n 1, 1) := by decide +kernel
theorem dX5_readPlain_21 : decode MX5_readPlain.2.1 21 = .ok (.ifCond .ne 7, 3) := by decide +kernel
theorem dX5_readPlain_24 : decode MX5_readPlain.2.1 24 = .ok (.iconst 1, 1) := by decide +kernel
theorem dX5_readPlain_25 : decode MX5_readPlain.2.1 25 = .ok (.goto 4, 3) := by decide +kernel
theorem dX5_readPlain_28 : decode MX5_readPlain.2.1 28 = .ok (.iconst 0, 1) := by decide +kernel
theorem dX5_readPlain_29 : decode MX5_readPlain.2.1 29 = .ok (.istore_n 1, 1) := by decide +kernel
theorem dX5_readPlain_30 : decode MX5_readPlain.2.1 30 = .ok (.iinc 2 1, 3) := by decide +kernel
theorem dX5_readPlain_33 : decode MX5_readPlain.2.1 33 = .ok (.goto (-29), 3) := by decide +kernel
theorem dX5_readPlain_36 : decode MX5_readPlain.2.1 36 = .ok (.aload_n 0, 1) := by decide +kernel
theorem dX5_readPlain_37 : decode MX5_readPlain.2.1 37 = .ok (.getfield 15, 3) := by decide +kernel
theorem dX5_readPlain_40 : decode MX5_readPlain.2.1 40 = .ok (.aload_n 0, 1) := by decide +kernel
theorem dX5_readPlain_41 : decode MX5_readPlain.2.1 41 = .ok (.getfield 45, 3) := by decide +kernel
theorem dX5_readPlain_44 : decode MX5_readPlain.2.1 44 = .ok (.iaload, 1) := by decide +kernel
theorem dX5_readPlain_45 : decode MX5_readPlain.2.1 45 = .ok (.sipush 168, 3) := by decide +kernel
theorem dX5_readPlain_48 : decode MX5_readPlain.2.1 48 = .ok (.if_icmp .ne 12, 3) := by decide +kernel
theorem dX5_readPlain_51 : decode MX5_readPlain.2.1 51 = .ok (.aload_n 0, 1) := by decide +kernel
theorem dX5_readPlain_52 : decode MX5_readPlain.2.1 52 = .ok (.bipush 41, 2) := by decide +kernel
theorem dX5_readPlain_54 : decode MX5_readPlain.2.1 54 = .ok (.invokevirtual 146, 3) := by decide +kernel
theorem dX5_readPlain_57 : decode MX5_readPlain.2.1 57 = .ok (.goto 7, 3) := by decide +kernel
theorem dX5_readPlain_60 : decode MX5_readPlain.2.1 60 = .ok (.aload_n 0, 1) := by decide +kernel
theorem dX5_readPlain_61 : decode MX5_readPlain.2.1 61 = .ok (.invokevirtual 150, 3) := by decide +kernel
theorem dX5_readPlain_64 : decode MX5_readPlain.2.1 64 = .ok (.istore_n 2, 1) := by decide +kernel
theorem dX5_readPlain_65 : decode MX5_readPlain.2.1 65 = .ok (.iload_n 1, 1) := by decide +kernel
theorem dX5_readPlain_66 : decode MX5_readPlain.2.1 66 = .ok (.ifCond .eq 9, 3) := by decide +kernel
theorem dX5_readPlain_69 : decode MX5_readPlain.2.1 69 = .ok (.aload_n 0, 1) := by decide +kernel
theorem dX5_readPlain_70 : decode MX5_readPlain.2.1 70 = .ok (.iconst 3, 1) := by decide +kernel
theorem dX5_readPlain_71 : decode MX5_readPlain.2.1 71 = .ok (.iconst 0, 1) := by decide +kernel
theorem dX5_readPlain_72 : decode MX5_readPlain.2.1 72 = .ok (.invokevirtual 127, 3) := by decide +kernel
theorem dX5_readPlain_75 : decode MX5_readPlain.2.1 75 = .ok (.iload_n 2, 1) := by decide +kernel
theorem dX5_readPlain_76 : decode MX5_readPlain.2.1 76 = .ok (.ireturn, 1) := by decide +kernel
theorem dX5_readBracket_0 : decode MX5_readBracket.2.1 0 = .ok (.aload_n 0, 1) := by decide +kernel
theorem dX5_readBracket_1 : decode MX5_readBracket.2.1 1 = .ok (.getfield 54, 3) := by decide +kernel
theorem dX5_readBracket_4 : decode MX5_readBracket.2.1 4 = .ok (.bipush 8, 2) := by decide +kernel
theorem dX5_readBracket_6 : decode MX5_readBracket.2.1 6 = .ok (.if_icmp .lt 5, 3) := by decide +kernel
theorem dX5_readBracket_9 : decode MX5_readBracket.2.1 9 = .ok (.iconst 0, 1) := by decide +kernel
theorem dX5_readBracket_10 : decode MX5_readBracket.2.1 10 = .ok (.ireturn, 1) := by decide +kernel
theorem dX5_readBracket_11 : decode MX5_readBracket.2.1 11 = .ok (.aload_n 0, 1) := by decide +kernel
theorem dX5_readBracket_12 : decode MX5_readBracket.2.1 12 = .ok (.dup, 1) := by decide +kernel
theorem dX5_readBracket_13 : decode MX5_readBracket.2.1 13 = .ok (.getfield 54, 3) := by decide +kernel
theorem dX5_readBracket_16 : decode MX5_readBracket.2.1 16 = .ok (.iconst 1, 1) := by decide +kernel
theorem dX5_readBracket_17 : decode MX5_readBracket.2.1 17 = .ok (.iadd, 1) := by decide +kernel
theorem dX5_readBracket_18 : decode MX5_readBracket.2.1 18 = .ok (.putfield 54, 3) := by decide +kernel
theorem dX5_readBracket_21 : decode MX5_readBracket.2.1 21 = .ok (.aload_n 0, 1) := by decide +kernel
theorem dX5_readBracket_22 : decode MX5_readBracket.2.1 22 = .ok (.dup, 1) := by decide +kernel
theorem dX5_readBracket_23 : decode MX5_readBracket.2.1 23 = .ok (.getfield 45, 3) := by decide +kernel
theorem dX5_readBracket_26 : decode MX5_readBracket.2.1 26 = .ok (.iconst 1, 1) := by decide +kernel
theorem dX5_readBracket_27 : decode MX5_readBracket.2.1 27 = .ok (.iadd, 1) := by decide +kernel
theorem dX5_readBracket_28 : decode MX5_readBracket.2.1 28 = .ok (.putfield 45, 3) := by decide +kernel
theorem dX5_readBracket_31 : decode MX5_readBracket.2.1 31 = .ok (.iload_n 1, 1) := by decide +kernel
theorem dX5_readBracket_32 : decode MX5_readBracket.2.1 32 = .ok (.bipush 41, 2) := by decide +kernel
theorem dX5_readBracket_34 : decode MX5_readBracket.2.1 34 = .ok (.if_icmp .ne 13, 3) := by decide +kernel
theorem dX5_readBracket_37 : decode MX5_readBracket.2.1 37 = .ok (.aload_n 0, 1) := by decide +kernel
theorem dX5_readBracket_38 : decode MX5_readBracket.2.1 38 = .ok (.invokevirtual 131, 3) := by decide +kernel
theorem dX5_readBracket_41 : decode MX5_readBracket.2.1 41 = .ok (.ifCond .eq 25, 3) := by decide +kernel
theorem dX5_readBracket_44 : decode MX5_readBracket.2.1 44 = .ok (.goto 10, 3) := by decide +kernel
theorem dX5_readBracket_47 : decode MX5_readBracket.2.1 47 = .ok (.aload_n 0, 1) := by decide +kernel
theorem dX5_readBracket_48 : decode MX5_readBracket.2.1 48 = .ok (.invokevirtual 124, 3) := by decide +kernel
theorem dX5_readBracket_51 : decode MX5_readBracket.2.1 51 = .ok (.ifCond .eq 15, 3) := by decide +kernel
theorem dX5_readBracket_54 : decode MX5_readBracket.2.1 54 = .ok (.aload_n 0, 1) := by decide +kernel
theorem dX5_readBracket_55 : decode MX5_readBracket.2.1 55 = .ok (.sipush 128, 3) := by decide +kernel
theorem dX5_readBracket_58 : decode MX5_readBracket.2.1 58 = .ok (.iload_n 1, 1) := by decide +kernel
theorem dX5_readBracket_59 : decode MX5_readBracket.2.1 59 = .ok (.iadd, 1) := by decide +kernel
theorem dX5_readBracket_60 : decode MX5_readBracket.2.1 60 = .ok (.invokevirtual 108, 3) := by decide +kernel
theorem dX5_readBracket_63 : decode MX5_readBracket.2.1 63 = .ok (.ifCond .ne 5, 3) := by decide +kernel
theorem dX5_readBracket_66 : decode MX5_readBracket.2.1 66 = .ok (.iconst 0, 1) := by decide +kernel
theorem dX5_readBracket_67 : decode MX5_readBracket.2.1 67 = .ok (.ireturn, 1) := by decide +kernel
theorem dX5_readBracket_68 : decode MX5_readBracket.2.1 68 = .ok (.aload_n 0, 1) := by decide +kernel
theorem dX5_readBracket_69 : decode MX5_readBracket.2.1 69 = .ok (.dup, 1) := by decide +kernel
theorem dX5_readBracket_70 : decode MX5_readBracket.2.1 70 = .ok (.getfield 54, 3) := by decide +kernel
theorem dX5_readBracket_73 : decode MX5_readBracket.2.1 73 = .ok (.iconst 1, 1) := by decide +kernel
theorem dX5_readBracket_74 : decode MX5_readBracket.2.1 74 = .ok (.isub, 1) := by decide +kernel
theorem dX5_readBracket_75 : decode MX5_readBracket.2.1 75 = .ok (.putfield 54, 3) := by decide +kernel
theorem dX5_readBracket_78 : decode MX5_readBracket.2.1 78 = .ok (.iconst 1, 1) := by decide +kernel
theorem dX5_readBracket_79 : decode MX5_readBracket.2.1 79 = .ok (.ireturn, 1) := by decide +kernel
theorem dX5_readCompared_0 : decode MX5_readCompared.2.1 0 = .ok (.aload_n 0, 1) := by decide +kernel
theorem dX5_readCompared_1 : decode MX5_readCompared.2.1 1 = .ok (.invokevirtual 124, 3) := by decide +kernel
theorem dX5_readCompared_4 : decode MX5_readCompared.2.1 4 = .ok (.ifCond .ne 5, 3) := by decide +kernel
theorem dX5_readCompared_7 : decode MX5_readCompared.2.1 7 = .ok (.iconst 0, 1) := by decide +kernel
theorem dX5_readCompared_8 : decode MX5_readCompared.2.1 8 = .ok (.ireturn, 1) := by decide +kernel
theorem dX5_readCompared_9 : decode MX5_readCompared.2.1 9 = .ok (.aload_n 0, 1) := by decide +kernel
theorem dX5_readCompared_10 : decode MX5_readCompared.2.1 10 = .ok (.getfield 15, 3) := by decide +kernel
theorem dX5_readCompared_13 : decode MX5_readCompared.2.1 13 = .ok (.aload_n 0, 1) := by decide +kernel
theorem dX5_readCompared_14 : decode MX5_readCompared.2.1 14 = .ok (.getfield 45, 3) := by decide +kernel
theorem dX5_readCompared_17 : decode MX5_readCompared.2.1 17 = .ok (.iaload, 1) := by decide +kernel
theorem dX5_readCompared_18 : decode MX5_readCompared.2.1 18 = .ok (.invokestatic 153, 3) := by decide +kernel
theorem dX5_readCompared_21 : decode MX5_readCompared.2.1 21 = .ok (.istore_n 1, 1) := by decide +kernel
theorem dX5_readCompared_22 : decode MX5_readCompared.2.1 22 = .ok (.iload_n 1, 1) := by decide +kernel
theorem dX5_readCompared_23 : decode MX5_readCompared.2.1 23 = .ok (.bipush 11, 2) := by decide +kernel
theorem dX5_readCompared_25 : decode MX5_readCompared.2.1 25 = .ok (.if_icmp .ge 5, 3) := by decide +kernel
theorem dX5_readCompared_28 : decode MX5_readCompared.2.1 28 = .ok (.iconst 0, 1) := by decide +kernel
theorem dX5_readCompared_29 : decode MX5_readCompared.2.1 29 = .ok (.ireturn, 1) := by decide +kernel
theorem dX5_readCompared_30 : decode MX5_readCompared.2.1 30 = .ok (.aload_n 0, 1) := by decide +kernel
theorem dX5_readCompared_31 : decode MX5_readCompared.2.1 31 = .ok (.dup, 1) := by decide +kernel
theorem dX5_readCompared_32 : decode MX5_readCompared.2.1 32 = .ok (.getfield 45, 3) := by decide +kernel
theorem dX5_readCompared_35 : decode MX5_readCompared.2.1 35 = .ok (.iconst 1, 1) := by decide +kernel
theorem dX5_readCompared_36 : decode MX5_readCompared.2.1 36 = .ok (.iadd, 1) := by decide +kernel
theorem dX5_readCompared_37 : decode MX5_readCompared.2.1 37 = .ok (.putfield 45, 3) := by decide +kernel
theorem dX5_readCompared_40 : decode MX5_readCompared.2.1 40 = .ok (.aload_n 0, 1) := by decide +kernel
theorem dX5_readCompared_41 : decode MX5_readCompared.2.1 41 = .ok (.invokevirtual 124, 3) := by decide +kernel
theorem dX5_readCompared_44 : decode MX5_readCompared.2.1 44 = .ok (.istore_n 2, 1) := by decide +kernel
theorem dX5_readCompared_45 : decode MX5_readCompared.2.1 45 = .ok (.aload_n 0, 1) := by decide +kernel
theorem dX5_readCompared_46 : decode MX5_readCompared.2.1 46 = .ok (.iload_n 1, 1) := by decide +kernel
theorem dX5_readCompared_47 : decode MX5_readCompared.2.1 47 = .ok (.iconst 0, 1) := by decide +kernel
theorem dX5_readCompared_48 : decode MX5_readCompared.2.1 48 = .ok (.invokevirtual 127, 3) := by decide +kernel
theorem dX5_readCompared_51 : decode MX5_readCompared.2.1 51 = .ok (.iload_n 2, 1) := by decide +kernel
theorem dX5_readCompared_52 : decode MX5_readCompared.2.1 52 = .ok (.ireturn, 1) := by decide +kernel
theorem dX5_readSum_0 : decode MX5_readSum.2.1 0 = .ok (.aload_n 0, 1) := by decide +kernel
theorem dX5_readSum_1 : decode MX5_readSum.2.1 1 = .ok (.invokevirtual 156, 3) := by decide +kernel
theorem dX5_readSum_4 : decode MX5_readSum.2.1 4 = .ok (.istore_n 1, 1) := by decide +kernel
theorem dX5_readSum_5 : decode MX5_readSum.2.1 5 = .ok (.iconst 0, 1) := by decide +kernel
theorem dX5_readSum_6 : decode MX5_readSum.2.1 6 = .ok (.istore_n 2, 1) := by decide +kernel
theorem dX5_readSum_7 : decode MX5_readSum.2.1 7 = .ok (.iload_n 2, 1) := by decide +kernel
theorem dX5_readSum_8 : decode MX5_readSum.2.1 8 = .ok (.sipush 400, 3) := by decide +kernel
theorem dX5_readSum_11 : decode MX5_readSum.2.1 11 = .ok (.if_icmp .ge 61, 3) := by decide +kernel
theorem dX5_readSum_14 : decode MX5_readSum.2.1 14 = .ok (.iload_n 1, 1) := by decide +kernel
theorem dX5_readSum_15 : decode MX5_readSum.2.1 15 = .ok (.ifCond .eq 57, 3) := by decide +kernel
theorem dX5_readSum_18 : decode MX5_readSum.2.1 18 = .ok (.aload_n 0, 1) := by decide +kernel
theorem dX5_readSum_19 : decode MX5_readSum.2.1 19 = .ok (.getfield 15, 3) := by decide +kernel
theorem dX5_readSum_22 : decode MX5_readSum.2.1 22 = .ok (.aload_n 0, 1) := by decide +kernel
theorem dX5_readSum_23 : decode MX5_readSum.2.1 23 = .ok (.getfield 45, 3) := by decide +kernel
theorem dX5_readSum_26 : decode MX5_readSum.2.1 26 = .ok (.iaload, 1) := by decide +kernel
theorem dX5_readSum_27 : decode MX5_readSum.2.1 27 = .ok (.invokestatic 153, 3) := by decide +kernel
theorem dX5_readSum_30 : decode MX5_readSum.2.1 30 = .ok (.istore_n 3, 1) := by decide +kernel
theorem dX5_readSum_31 : decode MX5_readSum.2.1 31 = .ok (.iload_n 3, 1) := by decide +kernel
theorem dX5_readSum_32 : decode MX5_readSum.2.1 32 = .ok (.bipush 6, 2) := by decide +kernel
theorem dX5_readSum_34 : decode MX5_readSum.2.1 34 = .ok (.bipush 7, 2) := by decide +kernel
theorem dX5_readSum_36 : decode MX5_readSum.2.1 36 = .ok (.invokestatic 72, 3) := by decide +kernel
theorem dX5_readSum_39 : decode MX5_readSum.2.1 39 = .ok (.ifCond .ne 6, 3) := by decide +kernel
theorem dX5_readSum_42 : decode MX5_readSum.2.1 42 = .ok (.goto 30, 3) := by decide +kernel
theorem dX5_readSum_45 : decode MX5_readSum.2.1 45 = .ok (.aload_n 0, 1) := by decide +kernel
theorem dX5_readSum_46 : decode MX5_readSum.2.1 46 = .ok (.dup, 1) := by decide +kernel
theorem dX5_readSum_47 : decode MX5_readSum.2.1 47 = .ok (.getfield 45, 3) := by decide +kernel
theorem dX5_readSum_50 : decode MX5_readSum.2.1 50 = .ok (.iconst 1, 1) := by decide +kernel
theorem dX5_readSum_51 : decode MX5_readSum.2.1 51 = .ok (.iadd, 1) := by decide +kernel
theorem dX5_readSum_52 : decode MX5_readSum.2.1 52 = .ok (.putfield 45, 3) := by decide +kernel
theorem dX5_readSum_55 : decode MX5_readSum.2.1 55 = .ok (.aload_n 0, 1) := by decide +kernel
theorem dX5_readSum_56 : decode MX5_readSum.2.1 56 = .ok (.invokevirtual 156, 3) := by decide +kernel
theorem dX5_readSum_59 : decode MX5_readSum.2.1 59 = .ok (.istore_n 1, 1) := by decide +kernel
theorem dX5_readSum_60 : decode MX5_readSum.2.1 60 = .ok (.aload_n 0, 1) := by decide +kernel
theorem dX5_readSum_61 : decode MX5_readSum.2.1 61 = .ok (.iload_n 3, 1) := by decide +kernel
theorem dX5_readSum_62 : decode MX5_readSum.2.1 62 = .ok (.iconst 0, 1) := by decide +kernel
theorem dX5_readSum_63 : decode MX5_readSum.2.1 63 = .ok (.invokevirtual 127, 3) := by decide +kernel
theorem dX5_readSum_66 : decode MX5_readSum.2.1 66 = .ok (.iinc 2 1, 3) := by decide +kernel
theorem dX5_readSum_69 : decode MX5_readSum.2.1 69 = .ok (.goto (-62), 3) := by decide +kernel
theorem dX5_readSum_72 : decode MX5_readSum.2.1 72 = .ok (.iload_n 1, 1) := by decide +kernel
theorem dX5_readSum_73 : decode MX5_readSum.2.1 73 = .ok (.ireturn, 1) := by decide +kernel
theorem dX5_readTerm_0 : decode MX5_readTerm.2.1 0 = .ok (.aload_n 0, 1) := by decide +kernel
theorem dX5_readTerm_1 : decode MX5_readTerm.2.1 1 = .ok (.invokevirtual 159, 3) := by decide +kernel
theorem dX5_readTerm_4 : decode MX5_readTerm.2.1 4 = .ok (.istore_n 1, 1) := by decide +kernel
theorem dX5_readTerm_5 : decode MX5_readTerm.2.1 5 = .ok (.iconst 0, 1) := by decide +kernel
theorem dX5_readTerm_6 : decode MX5_readTerm.2.1 6 = .ok (.istore_n 2, 1) := by decide +kernel
theorem dX5_readTerm_7 : decode MX5_readTerm.2.1 7 = .ok (.iload_n 2, 1) := by decide +kernel
theorem dX5_readTerm_8 : decode MX5_readTerm.2.1 8 = .ok (.sipush 400, 3) := by decide +kernel
theorem dX5_readTerm_11 : decode MX5_readTerm.2.1 11 = .ok (.if_icmp .ge 61, 3) := by decide +kernel
theorem dX5_readTerm_14 : decode MX5_readTerm.2.1 14 = .ok (.iload_n 1, 1) := by decide +kernel
theorem dX5_readTerm_15 : decode MX5_readTerm.2.1 15 = .ok (.ifCond .eq 57, 3) := by decide +kernel
theorem dX5_readTerm_18 : decode MX5_readTerm.2.1 18 = .ok (.aload_n 0, 1) := by decide +kernel
theorem dX5_readTerm_19 : decode MX5_readTerm.2.1 19 = .ok (.getfield 15, 3) := by decide +kernel
theorem dX5_readTerm_22 : decode MX5_readTerm.2.1 22 = .ok (.aload_n 0, 1) := by decide +kernel
theorem dX5_readTerm_23 : decode MX5_readTerm.2.1 23 = .ok (.getfield 45, 3) := by decide +kernel
theorem dX5_readTerm_26 : decode MX5_readTerm.2.1 26 = .ok (.iaload, 1) := by decide +kernel
theorem dX5_readTerm_27 : decode MX5_readTerm.2.1 27 = .ok (.invokestatic 153, 3) := by decide +kernel
theorem dX5_readTerm_30 : decode MX5_readTerm.2.1 30 = .ok (.istore_n 3, 1) := by decide +kernel
theorem dX5_readTerm_31 : decode MX5_readTerm.2.1 31 = .ok (.iload_n 3, 1) := by decide +kernel
theorem dX5_readTerm_32 : decode MX5_readTerm.2.1 32 = .ok (.bipush 8, 2) := by decide +kernel
theorem dX5_readTerm_34 : decode MX5_readTerm.2.1 34 = .ok (.bipush 10, 2) := by decide +kernel
theorem dX5_readTerm_36 : decode MX5_readTerm.2.1 36 = .ok (.invokestatic 72, 3) := by decide +kernel
theorem dX5_readTerm_39 : decode MX5_readTerm.2.1 39 = .ok (.ifCond .ne 6, 3) := by decide +kernel
theorem dX5_readTerm_42 : decode MX5_readTerm.2.1 42 = .ok (.goto 30, 3) := by decide +kernel
theorem dX5_readTerm_45 : decode MX5_readTerm.2.1 45 = .ok (.aload_n 0, 1) := by decide +kernel
theorem dX5_readTerm_46 : decode MX5_readTerm.2.1 46 = .ok (.dup, 1) := by decide +kernel
theorem dX5_readTerm_47 : decode MX5_readTerm.2.1 47 = .ok (.getfield 45, 3) := by decide +kernel
theorem dX5_readTerm_50 : decode MX5_readTerm.2.1 50 = .ok (.iconst 1, 1) := by decide +kernel
theorem dX5_readTerm_51 : decode MX5_readTerm.2.1 51 = .ok (.iadd, 1) := by decide +kernel
theorem dX5_readTerm_52 : decode MX5_readTerm.2.1 52 = .ok (.putfield 45, 3) := by decide +kernel
theorem dX5_readTerm_55 : decode MX5_readTerm.2.1 55 = .ok (.aload_n 0, 1) := by decide +kernel
theorem dX5_readTerm_56 : decode MX5_readTerm.2.1 56 = .ok (.invokevirtual 159, 3) := by decide +kernel
theorem dX5_readTerm_59 : decode MX5_readTerm.2.1 59 = .ok (.istore_n 1, 1) := by decide +kernel
theorem dX5_readTerm_60 : decode MX5_readTerm.2.1 60 = .ok (.aload_n 0, 1) := by decide +kernel
theorem dX5_readTerm_61 : decode MX5_readTerm.2.1 61 = .ok (.iload_n 3, 1) := by decide +kernel
theorem dX5_readTerm_62 : decode MX5_readTerm.2.1 62 = .ok (.iconst 0, 1) := by decide +kernel
theorem dX5_readTerm_63 : decode MX5_readTerm.2.1 63 = .ok (.invokevirtual 127, 3) := by decide +kernel
theorem dX5_readTerm_66 : decode MX5_readTerm.2.1 66 = .ok (.iinc 2 1, 3) := by decide +kernel
theorem dX5_readTerm_69 : decode MX5_readTerm.2.1 69 = .ok (.goto (-62), 3) := by decide +kernel
theorem dX5_readTerm_72 : decode MX5_readTerm.2.1 72 = .ok (.iload_n 1, 1) := by decide +kernel
theorem dX5_readTerm_73 : decode MX5_readTerm.2.1 73 = .ok (.ireturn, 1) := by decide +kernel
theorem dX5_joinOf_0 : decode MX5_joinOf.2.1 0 = .ok (.iload_n 0, 1) := by decide +kernel
theorem dX5_joinOf_1 : decode MX5_joinOf.2.1 1 = .ok (.tableswitch 143 165 190 #[131, 143, 143, 143, 143, 125, 119, 143, 122, 143, 128, 143, 143, 143, 143, 143, 143, 143, 143, 143, 143, 143, 143, 134, 140, 137], 119) := by decide +kernel
theorem dX5_joinOf_120 : decode MX5_joinOf.2.1 120 = .ok (.bipush 6, 2) := by decide +kernel
theorem dX5_joinOf_122 : decode MX5_joinOf.2.1 122 = .ok (.ireturn, 1) := by decide +kernel
theorem dX5_joinOf_123 : decode MX5_joinOf.2.1 123 = .ok (.bipush 7, 2) := by decide +kernel
theorem dX5_joinOf_125 : decode MX5_joinOf.2.1 125 = .ok (.ireturn, 1) := by decide +kernel
theorem dX5_joinOf_126 : decode MX5_joinOf.2.1 126 = .ok (.bipush 8, 2) := by decide +kernel
theorem dX5_joinOf_128 : decode MX5_joinOf.2.1 128 = .ok (.ireturn, 1) := by decide +kernel
theorem dX5_joinOf_129 : decode MX5_joinOf.2.1 129 = .ok (.bipush 9, 2) := by decide +kernel
theorem dX5_joinOf_131 : decode MX5_joinOf.2.1 131 = .ok (.ireturn, 1) := by decide +kernel
theorem dX5_joinOf_132 : decode MX5_joinOf.2.1 132 = .ok (.bipush 10, 2) := by decide +kernel
theorem dX5_joinOf_134 : decode MX5_joinOf.2.1 134 = .ok (.ireturn, 1) := by decide +kernel
theorem dX5_joinOf_135 : decode MX5_joinOf.2.1 135 = .ok (.bipush 11, 2) := by decide +kernel
theorem dX5_joinOf_137 : decode MX5_joinOf.2.1 137 = .ok (.ireturn, 1) := by decide +kernel
theorem dX5_joinOf_138 : decode MX5_joinOf.2.1 138 = .ok (.bipush 12, 2) := by decide +kernel
theorem dX5_joinOf_140 : decode MX5_joinOf.2.1 140 = .ok (.ireturn, 1) := by decide +kernel
theorem dX5_joinOf_141 : decode MX5_joinOf.2.1 141 = .ok (.bipush 13, 2) := by decide +kernel
theorem dX5_joinOf_143 : decode MX5_joinOf.2.1 143 = .ok (.ireturn, 1) := by decide +kernel
theorem dX5_joinOf_144 : decode MX5_joinOf.2.1 144 = .ok (.iconst 0, 1) := by decide +kernel
theorem dX5_joinOf_145 : decode MX5_joinOf.2.1 145 = .ok (.ireturn, 1) := by decide +kernel
theorem dX5_readPart_0 : decode MX5_readPart.2.1 0 = .ok (.aload_n 0, 1) := by decide +kernel
theorem dX5_readPart_1 : decode MX5_readPart.2.1 1 = .ok (.getfield 15, 3) := by decide +kernel
theorem dX5_readPart_4 : decode MX5_readPart.2.1 4 = .ok (.aload_n 0, 1) := by decide +kernel
theorem dX5_readPart_5 : decode MX5_readPart.2.1 5 = .ok (.getfield 45, 3) := by decide +kernel
theorem dX5_readPart_8 : decode MX5_readPart.2.1 8 = .ok (.iaload, 1) := by decide +kernel
theorem dX5_readPart_9 : decode MX5_readPart.2.1 9 = .ok (.istore_n 1, 1) := by decide +kernel
theorem dX5_readPart_10 : decode MX5_readPart.2.1 10 = .ok (.iload_n 1, 1) := by decide +kernel
theorem dX5_readPart_11 : decode MX5_readPart.2.1 11 = .ok (.sipush 219, 3) := by decide +kernel
theorem dX5_readPart_14 : decode MX5_readPart.2.1 14 = .ok (.if_icmp .ne 10, 3) := by decide +kernel
theorem dX5_readPart_17 : decode MX5_readPart.2.1 17 = .ok (.aload_n 0, 1) := by decide +kernel
theorem dX5_readPart_18 : decode MX5_readPart.2.1 18 = .ok (.bipush 93, 2) := by decide +kernel
theorem dX5_readPart_20 : decode MX5_readPart.2.1 20 = .ok (.invokevirtual 146, 3) := by decide +kernel
theorem dX5_readPart_23 : decode MX5_readPart.2.1 23 = .ok (.ireturn, 1) := by decide +kernel
theorem dX5_readPart_24 : decode MX5_readPart.2.1 24 = .ok (.aload_n 0, 1) := by decide +kernel
theorem dX5_readPart_25 : decode MX5_readPart.2.1 25 = .ok (.getfield 51, 3) := by decide +kernel
theorem dX5_readPart_28 : decode MX5_readPart.2.1 28 = .ok (.bipush 50, 2) := by decide +kernel
theorem dX5_readPart_30 : decode MX5_readPart.2.1 30 = .ok (.if_icmp .lt 5, 3) := by decide +kernel
theorem dX5_readPart_33 : decode MX5_readPart.2.1 33 = .ok (.iconst 0, 1) := by decide +kernel
theorem dX5_readPart_34 : decode MX5_readPart.2.1 34 = .ok (.ireturn, 1) := by decide +kernel
theorem dX5_readPart_35 : decode MX5_readPart.2.1 35 = .ok (.aload_n 0, 1) := by decide +kernel
theorem dX5_readPart_36 : decode MX5_readPart.2.1 36 = .ok (.dup, 1) := by decide +kernel
theorem dX5_readPart_37 : decode MX5_readPart.2.1 37 = .ok (.getfield 51, 3) := by decide +kernel
theorem dX5_readPart_40 : decode MX5_readPart.2.1 40 = .ok (.iconst 1, 1) := by decide +kernel
theorem dX5_readPart_41 : decode MX5_readPart.2.1 41 = .ok (.iadd, 1) := by decide +kernel
theorem dX5_readPart_42 : decode MX5_readPart.2.1 42 = .ok (.putfield 51, 3) := by decide +kernel
