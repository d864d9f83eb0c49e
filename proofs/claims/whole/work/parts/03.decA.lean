theorem dX0_init_0 : decode cX0_init 0 = .ok (.aload_n 0, 1) := by decide +kernel
theorem dX0_init_1 : decode cX0_init 1 = .ok (.invokespecial 3, 3) := by decide +kernel
theorem dX0_init_4 : decode cX0_init 4 = .ok (.aload_n 0, 1) := by decide +kernel
theorem dX0_init_5 : decode cX0_init 5 = .ok (.iconst 0, 1) := by decide +kernel
theorem dX0_init_6 : decode cX0_init 6 = .ok (.putfield 9, 3) := by decide +kernel
theorem dX0_init_9 : decode cX0_init 9 = .ok (.aload_n 0, 1) := by decide +kernel
theorem dX0_init_10 : decode cX0_init 10 = .ok (.bipush 30, 2) := by decide +kernel
theorem dX0_init_12 : decode cX0_init 12 = .ok (.newarray .int, 2) := by decide +kernel
theorem dX0_init_14 : decode cX0_init 14 = .ok (.putfield 15, 3) := by decide +kernel
theorem dX0_init_17 : decode cX0_init 17 = .ok (.aload_n 0, 1) := by decide +kernel
theorem dX0_init_18 : decode cX0_init 18 = .ok (.bipush 30, 2) := by decide +kernel
theorem dX0_init_20 : decode cX0_init 20 = .ok (.newarray .int, 2) := by decide +kernel
theorem dX0_init_22 : decode cX0_init 22 = .ok (.putfield 19, 3) := by decide +kernel
theorem dX0_init_25 : decode cX0_init 25 = .ok (.aload_n 0, 1) := by decide +kernel
theorem dX0_init_26 : decode cX0_init 26 = .ok (.bipush 30, 2) := by decide +kernel
theorem dX0_init_28 : decode cX0_init 28 = .ok (.newarray .int, 2) := by decide +kernel
theorem dX0_init_30 : decode cX0_init 30 = .ok (.putfield 22, 3) := by decide +kernel
theorem dX0_init_33 : decode cX0_init 33 = .ok (.aload_n 0, 1) := by decide +kernel
theorem dX0_init_34 : decode cX0_init 34 = .ok (.bipush 30, 2) := by decide +kernel
theorem dX0_init_36 : decode cX0_init 36 = .ok (.newarray .int, 2) := by decide +kernel
theorem dX0_init_38 : decode cX0_init 38 = .ok (.putfield 25, 3) := by decide +kernel
theorem dX0_init_41 : decode cX0_init 41 = .ok (.aload_n 0, 1) := by decide +kernel
theorem dX0_init_42 : decode cX0_init 42 = .ok (.bipush 30, 2) := by decide +kernel
theorem dX0_init_44 : decode cX0_init 44 = .ok (.newarray .int, 2) := by decide +kernel
theorem dX0_init_46 : decode cX0_init 46 = .ok (.putfield 28, 3) := by decide +kernel
theorem dX0_init_49 : decode cX0_init 49 = .ok (.return_, 1) := by decide +kernel
theorem dX0_append_0 : decode cX0_append 0 = .ok (.aload_n 0, 1) := by decide +kernel
theorem dX0_append_1 : decode cX0_append 1 = .ok (.getfield 9, 3) := by decide +kernel
theorem dX0_append_4 : decode cX0_append 4 = .ok (.bipush 30, 2) := by decide +kernel
theorem dX0_append_6 : decode cX0_append 6 = .ok (.if_icmp .lt 5, 3) := by decide +kernel
theorem dX0_append_9 : decode cX0_append 9 = .ok (.iconst (-1), 1) := by decide +kernel
theorem dX0_append_10 : decode cX0_append 10 = .ok (.ireturn, 1) := by decide +kernel
theorem dX0_append_11 : decode cX0_append 11 = .ok (.aload_n 0, 1) := by decide +kernel
theorem dX0_append_12 : decode cX0_append 12 = .ok (.getfield 15, 3) := by decide +kernel
theorem dX0_append_15 : decode cX0_append 15 = .ok (.aload_n 0, 1) := by decide +kernel
theorem dX0_append_16 : decode cX0_append 16 = .ok (.getfield 9, 3) := by decide +kernel
theorem dX0_append_19 : decode cX0_append 19 = .ok (.iload_n 1, 1) := by decide +kernel
theorem dX0_append_20 : decode cX0_append 20 = .ok (.iastore, 1) := by decide +kernel
theorem dX0_append_21 : decode cX0_append 21 = .ok (.aload_n 0, 1) := by decide +kernel
theorem dX0_append_22 : decode cX0_append 22 = .ok (.getfield 19, 3) := by decide +kernel
theorem dX0_append_25 : decode cX0_append 25 = .ok (.aload_n 0, 1) := by decide +kernel
theorem dX0_append_26 : decode cX0_append 26 = .ok (.getfield 9, 3) := by decide +kernel
theorem dX0_append_29 : decode cX0_append 29 = .ok (.iload_n 2, 1) := by decide +kernel
theorem dX0_append_30 : decode cX0_append 30 = .ok (.iastore, 1) := by decide +kernel
theorem dX0_append_31 : decode cX0_append 31 = .ok (.aload_n 0, 1) := by decide +kernel
theorem dX0_append_32 : decode cX0_append 32 = .ok (.getfield 22, 3) := by decide +kernel
theorem dX0_append_35 : decode cX0_append 35 = .ok (.aload_n 0, 1) := by decide +kernel
theorem dX0_append_36 : decode cX0_append 36 = .ok (.getfield 9, 3) := by decide +kernel
theorem dX0_append_39 : decode cX0_append 39 = .ok (.iload_n 3, 1) := by decide +kernel
theorem dX0_append_40 : decode cX0_append 40 = .ok (.iastore, 1) := by decide +kernel
theorem dX0_append_41 : decode cX0_append 41 = .ok (.aload_n 0, 1) := by decide +kernel
theorem dX0_append_42 : decode cX0_append 42 = .ok (.getfield 25, 3) := by decide +kernel
theorem dX0_append_45 : decode cX0_append 45 = .ok (.aload_n 0, 1) := by decide +kernel
theorem dX0_append_46 : decode cX0_append 46 = .ok (.getfield 9, 3) := by decide +kernel
theorem dX0_append_49 : decode cX0_append 49 = .ok (.iload 4, 2) := by decide +kernel
theorem dX0_append_51 : decode cX0_append 51 = .ok (.iastore, 1) := by decide +kernel
theorem dX0_append_52 : decode cX0_append 52 = .ok (.aload_n 0, 1) := by decide +kernel
theorem dX0_append_53 : decode cX0_append 53 = .ok (.getfield 28, 3) := by decide +kernel
theorem dX0_append_56 : decode cX0_append 56 = .ok (.aload_n 0, 1) := by decide +kernel
theorem dX0_append_57 : decode cX0_append 57 = .ok (.getfield 9, 3) := by decide +kernel
theorem dX0_append_60 : decode cX0_append 60 = .ok (.iload 5, 2) := by decide +kernel
theorem dX0_append_62 : decode cX0_append 62 = .ok (.iastore, 1) := by decide +kernel
theorem dX0_append_63 : decode cX0_append 63 = .ok (.aload_n 0, 1) := by decide +kernel
theorem dX0_append_64 : decode cX0_append 64 = .ok (.dup, 1) := by decide +kernel
theorem dX0_append_65 : decode cX0_append 65 = .ok (.getfield 9, 3) := by decide +kernel
theorem dX0_append_68 : decode cX0_append 68 = .ok (.iconst 1, 1) := by decide +kernel
theorem dX0_append_69 : decode cX0_append 69 = .ok (.iadd, 1) := by decide +kernel
theorem dX0_append_70 : decode cX0_append 70 = .ok (.putfield 9, 3) := by decide +kernel
theorem dX0_append_73 : decode cX0_append 73 = .ok (.aload_n 0, 1) := by decide +kernel
theorem dX0_append_74 : decode cX0_append 74 = .ok (.getfield 9, 3) := by decide +kernel
theorem dX0_append_77 : decode cX0_append 77 = .ok (.iconst 1, 1) := by decide +kernel
theorem dX0_append_78 : decode cX0_append 78 = .ok (.isub, 1) := by decide +kernel
theorem dX0_append_79 : decode cX0_append 79 = .ok (.ireturn, 1) := by decide +kernel
theorem dX0_copyFrom_0 : decode cX0_copyFrom 0 = .ok (.aload_n 0, 1) := by decide +kernel
theorem dX0_copyFrom_1 : decode cX0_copyFrom 1 = .ok (.aload_n 1, 1) := by decide +kernel
theorem dX0_copyFrom_2 : decode cX0_copyFrom 2 = .ok (.getfield 9, 3) := by decide +kernel
theorem dX0_copyFrom_5 : decode cX0_copyFrom 5 = .ok (.putfield 9, 3) := by decide +kernel
theorem dX0_copyFrom_8 : decode cX0_copyFrom 8 = .ok (.aload_n 1, 1) := by decide +kernel
theorem dX0_copyFrom_9 : decode cX0_copyFrom 9 = .ok (.getfield 15, 3) := by decide +kernel
theorem dX0_copyFrom_12 : decode cX0_copyFrom 12 = .ok (.iconst 0, 1) := by decide +kernel
theorem dX0_copyFrom_13 : decode cX0_copyFrom 13 = .ok (.aload_n 0, 1) := by decide +kernel
theorem dX0_copyFrom_14 : decode cX0_copyFrom 14 = .ok (.getfield 15, 3) := by decide +kernel
theorem dX0_copyFrom_17 : decode cX0_copyFrom 17 = .ok (.iconst 0, 1) := by decide +kernel
theorem dX0_copyFrom_18 : decode cX0_copyFrom 18 = .ok (.bipush 30, 2) := by decide +kernel
theorem dX0_copyFrom_20 : decode cX0_copyFrom 20 = .ok (.invokestatic 31, 3) := by decide +kernel
theorem dX0_copyFrom_23 : decode cX0_copyFrom 23 = .ok (.aload_n 1, 1) := by decide +kernel
theorem dX0_copyFrom_24 : decode cX0_copyFrom 24 = .ok (.getfield 19, 3) := by decide +kernel
theorem dX0_copyFrom_27 : decode cX0_copyFrom 27 = .ok (.iconst 0, 1) := by decide +kernel
theorem dX0_copyFrom_28 : decode cX0_copyFrom 28 = .ok (.aload_n 0, 1) := by decide +kernel
theorem dX0_copyFrom_29 : decode cX0_copyFrom 29 = .ok (.getfield 19, 3) := by decide +kernel
theorem dX0_copyFrom_32 : decode cX0_copyFrom 32 = .ok (.iconst 0, 1) := by decide +kernel
theorem dX0_copyFrom_33 : decode cX0_copyFrom 33 = .ok (.bipush 30, 2) := by decide +kernel
theorem dX0_copyFrom_35 : decode cX0_copyFrom 35 = .ok (.invokestatic 31, 3) := by decide +kernel
theorem dX0_copyFrom_38 : decode cX0_copyFrom 38 = .ok (.aload_n 1, 1) := by decide +kernel
theorem dX0_copyFrom_39 : decode cX0_copyFrom 39 = .ok (.getfield 22, 3) := by decide +kernel
theorem dX0_copyFrom_42 : decode cX0_copyFrom 42 = .ok (.iconst 0, 1) := by decide +kernel
theorem dX0_copyFrom_43 : decode cX0_copyFrom 43 = .ok (.aload_n 0, 1) := by decide +kernel
theorem dX0_copyFrom_44 : decode cX0_copyFrom 44 = .ok (.getfield 22, 3) := by decide +kernel
theorem dX0_copyFrom_47 : decode cX0_copyFrom 47 = .ok (.iconst 0, 1) := by decide +kernel
theorem dX0_copyFrom_48 : decode cX0_copyFrom 48 = .ok (.bipush 30, 2) := by decide +kernel
theorem dX0_copyFrom_50 : decode cX0_copyFrom 50 = .ok (.invokestatic 31, 3) := by decide +kernel
theorem dX0_copyFrom_53 : decode cX0_copyFrom 53 = .ok (.aload_n 1, 1) := by decide +kernel
theorem dX0_copyFrom_54 : decode cX0_copyFrom 54 = .ok (.getfield 25, 3) := by decide +kernel
theorem dX0_copyFrom_57 : decode cX0_copyFrom 57 = .ok (.iconst 0, 1) := by decide +kernel
theorem dX0_copyFrom_58 : decode cX0_copyFrom 58 = .ok (.aload_n 0, 1) := by decide +kernel
theorem dX0_copyFrom_59 : decode cX0_copyFrom 59 = .ok (.getfield 25, 3) := by decide +kernel
theorem dX0_copyFrom_62 : decode cX0_copyFrom 62 = .ok (.iconst 0, 1) := by decide +kernel
theorem dX0_copyFrom_63 : decode cX0_copyFrom 63 = .ok (.bipush 30, 2) := by decide +kernel
theorem dX0_copyFrom_65 : decode cX0_copyFrom 65 = .ok (.invokestatic 31, 3) := by decide +kernel
theorem dX0_copyFrom_68 : decode cX0_copyFrom 68 = .ok (.aload_n 1, 1) := by decide +kernel
theorem dX0_copyFrom_69 : decode cX0_copyFrom 69 = .ok (.getfield 28, 3) := by decide +kernel
theorem dX0_copyFrom_72 : decode cX0_copyFrom 72 = .ok (.iconst 0, 1) := by decide +kernel
theorem dX0_copyFrom_73 : decode cX0_copyFrom 73 = .ok (.aload_n 0, 1) := by decide +kernel
theorem dX0_copyFrom_74 : decode cX0_copyFrom 74 = .ok (.getfield 28, 3) := by decide +kernel
theorem dX0_copyFrom_77 : decode cX0_copyFrom 77 = .ok (.iconst 0, 1) := by decide +kernel
theorem dX0_copyFrom_78 : decode cX0_copyFrom 78 = .ok (.bipush 30, 2) := by decide +kernel
theorem dX0_copyFrom_80 : decode cX0_copyFrom 80 = .ok (.invokestatic 31, 3) := by decide +kernel
theorem dX0_copyFrom_83 : decode cX0_copyFrom 83 = .ok (.return_, 1) := by decide +kernel
theorem dX1_init_0 : decode cX1_init 0 = .ok (.aload_n 0, 1) := by decide +kernel
theorem dX1_init_1 : decode cX1_init 1 = .ok (.invokespecial 3, 3) := by decide +kernel
theorem dX1_init_4 : decode cX1_init 4 = .ok (.aload_n 0, 1) := by decide +kernel
theorem dX1_init_5 : decode cX1_init 5 = .ok (.bipush 15, 2) := by decide +kernel
theorem dX1_init_7 : decode cX1_init 7 = .ok (.putfield 9, 3) := by decide +kernel
theorem dX1_init_10 : decode cX1_init 10 = .ok (.aload_n 0, 1) := by decide +kernel
theorem dX1_init_11 : decode cX1_init 11 = .ok (.iconst 0, 1) := by decide +kernel
theorem dX1_init_12 : decode cX1_init 12 = .ok (.putfield 15, 3) := by decide +kernel
theorem dX1_init_15 : decode cX1_init 15 = .ok (.aload_n 0, 1) := by decide +kernel
theorem dX1_init_16 : decode cX1_init 16 = .ok (.bipush 30, 2) := by decide +kernel
theorem dX1_init_18 : decode cX1_init 18 = .ok (.newarray .int, 2) := by decide +kernel
theorem dX1_init_20 : decode cX1_init 20 = .ok (.putfield 18, 3) := by decide +kernel
theorem dX1_init_23 : decode cX1_init 23 = .ok (.aload_n 0, 1) := by decide +kernel
theorem dX1_init_24 : decode cX1_init 24 = .ok (.bipush 30, 2) := by decide +kernel
theorem dX1_init_26 : decode cX1_init 26 = .ok (.newarray .int, 2) := by decide +kernel
theorem dX1_init_28 : decode cX1_init 28 = .ok (.putfield 22, 3) := by decide +kernel
theorem dX1_init_31 : decode cX1_init 31 = .ok (.aload_n 0, 1) := by decide +kernel
theorem dX1_init_32 : decode cX1_init 32 = .ok (.getfield 18, 3) := by decide +kernel
theorem dX1_init_35 : decode cX1_init 35 = .ok (.iconst (-1), 1) := by decide +kernel
theorem dX1_init_36 : decode cX1_init 36 = .ok (.invokestatic 25, 3) := by decide +kernel
theorem dX1_init_39 : decode cX1_init 39 = .ok (.return_, 1) := by decide +kernel
theorem dX1_carries_0 : decode cX1_carries 0 = .ok (.aload_n 0, 1) := by decide +kernel
theorem dX1_carries_1 : decode cX1_carries 1 = .ok (.getfield 9, 3) := by decide +kernel
theorem dX1_carries_4 : decode cX1_carries 4 = .ok (.iload_n 1, 1) := by decide +kernel
theorem dX1_carries_5 : decode cX1_carries 5 = .ok (.invokestatic 31, 3) := by decide +kernel
theorem dX1_carries_8 : decode cX1_carries 8 = .ok (.ireturn, 1) := by decide +kernel
theorem dX1_stores_0 : decode cX1_stores 0 = .ok (.aload_n 0, 1) := by decide +kernel
theorem dX1_stores_1 : decode cX1_stores 1 = .ok (.getfield 15, 3) := by decide +kernel
theorem dX1_stores_4 : decode cX1_stores 4 = .ok (.iload_n 1, 1) := by decide +kernel
theorem dX1_stores_5 : decode cX1_stores 5 = .ok (.invokestatic 31, 3) := by decide +kernel
theorem dX1_stores_8 : decode cX1_stores 8 = .ok (.ireturn, 1) := by decide +kernel
theorem dX1_knows_0 : decode cX1_knows 0 = .ok (.aload_n 0, 1) := by decide +kernel
theorem dX1_knows_1 : decode cX1_knows 1 = .ok (.getfield 18, 3) := by decide +kernel
theorem dX1_knows_4 : decode cX1_knows 4 = .ok (.iload_n 1, 1) := by decide +kernel
theorem dX1_knows_5 : decode cX1_knows 5 = .ok (.iaload, 1) := by decide +kernel
theorem dX1_knows_6 : decode cX1_knows 6 = .ok (.iconst (-1), 1) := by decide +kernel
theorem dX1_knows_7 : decode cX1_knows 7 = .ok (.if_icmp .eq 7, 3) := by decide +kernel
theorem dX1_knows_10 : decode cX1_knows 10 = .ok (.iconst 1, 1) := by decide +kernel
theorem dX1_knows_11 : decode cX1_knows 11 = .ok (.goto 4, 3) := by decide +kernel
theorem dX1_knows_14 : decode cX1_knows 14 = .ok (.iconst 0, 1) := by decide +kernel
theorem dX1_knows_15 : decode cX1_knows 15 = .ok (.ireturn, 1) := by decide +kernel
theorem dX1_keep_0 : decode cX1_keep 0 = .ok (.aload_n 0, 1) := by decide +kernel
theorem dX1_keep_1 : decode cX1_keep 1 = .ok (.dup, 1) := by decide +kernel
theorem dX1_keep_2 : decode cX1_keep 2 = .ok (.getfield 15, 3) := by decide +kernel
theorem dX1_keep_5 : decode cX1_keep 5 = .ok (.iconst 1, 1) := by decide +kernel
theorem dX1_keep_6 : decode cX1_keep 6 = .ok (.iload_n 1, 1) := by decide +kernel
theorem dX1_keep_7 : decode cX1_keep 7 = .ok (.ishl, 1) := by decide +kernel
theorem dX1_keep_8 : decode cX1_keep 8 = .ok (.ior, 1) := by decide +kernel
theorem dX1_keep_9 : decode cX1_keep 9 = .ok (.putfield 15, 3) := by decide +kernel
theorem dX1_keep_12 : decode cX1_keep 12 = .ok (.return_, 1) := by decide +kernel
theorem dX1_drop_0 : decode cX1_drop 0 = .ok (.aload_n 0, 1) := by decide +kernel
theorem dX1_drop_1 : decode cX1_drop 1 = .ok (.dup, 1) := by decide +kernel
theorem dX1_drop_2 : decode cX1_drop 2 = .ok (.getfield 15, 3) := by decide +kernel
theorem dX1_drop_5 : decode cX1_drop 5 = .ok (.iconst 1, 1) := by decide +kernel
theorem dX1_drop_6 : decode cX1_drop 6 = .ok (.iload_n 1, 1) := by decide +kernel
theorem dX1_drop_7 : decode cX1_drop 7 = .ok (.ishl, 1) := by decide +kernel
theorem dX1_drop_8 : decode cX1_drop 8 = .ok (.iconst (-1), 1) := by decide +kernel
theorem dX1_drop_9 : decode cX1_drop 9 = .ok (.ixor, 1) := by decide +kernel
theorem dX1_drop_10 : decode cX1_drop 10 = .ok (.iand, 1) := by decide +kernel
theorem dX1_drop_11 : decode cX1_drop 11 = .ok (.putfield 15, 3) := by decide +kernel
theorem dX1_drop_14 : decode cX1_drop 14 = .ok (.return_, 1) := by decide +kernel
theorem dX1_addCancel_0 : decode cX1_addCancel 0 = .ok (.aload_n 0, 1) := by decide +kernel
theorem dX1_addCancel_1 : decode cX1_addCancel 1 = .ok (.getfield 22, 3) := by decide +kernel
theorem dX1_addCancel_4 : decode cX1_addCancel 4 = .ok (.iload_n 1, 1) := by decide +kernel
theorem dX1_addCancel_5 : decode cX1_addCancel 5 = .ok (.dup2, 1) := by decide +kernel
theorem dX1_addCancel_6 : decode cX1_addCancel 6 = .ok (.iaload, 1) := by decide +kernel
theorem dX1_addCancel_7 : decode cX1_addCancel 7 = .ok (.iconst 1, 1) := by decide +kernel
theorem dX1_addCancel_8 : decode cX1_addCancel 8 = .ok (.iload_n 2, 1) := by decide +kernel
theorem dX1_addCancel_9 : decode cX1_addCancel 9 = .ok (.ishl, 1) := by decide +kernel
theorem dX1_addCancel_10 : decode cX1_addCancel 10 = .ok (.ior, 1) := by decide +kernel
theorem dX1_addCancel_11 : decode cX1_addCancel 11 = .ok (.iastore, 1) := by decide +kernel
theorem dX1_addCancel_12 : decode cX1_addCancel 12 = .ok (.return_, 1) := by decide +kernel
theorem dX1_takeCancel_0 : decode cX1_takeCancel 0 = .ok (.aload_n 0, 1) := by decide +kernel
theorem dX1_takeCancel_1 : decode cX1_takeCancel 1 = .ok (.getfield 22, 3) := by decide +kernel
theorem dX1_takeCancel_4 : decode cX1_takeCancel 4 = .ok (.iload_n 1, 1) := by decide +kernel
theorem dX1_takeCancel_5 : decode cX1_takeCancel 5 = .ok (.iaload, 1) := by decide +kernel
theorem dX1_takeCancel_6 : decode cX1_takeCancel 6 = .ok (.iload_n 2, 1) := by decide +kernel
theorem dX1_takeCancel_7 : decode cX1_takeCancel 7 = .ok (.invokestatic 31, 3) := by decide +kernel
theorem dX1_takeCancel_10 : decode cX1_takeCancel 10 = .ok (.istore_n 3, 1) := by decide +kernel
theorem dX1_takeCancel_11 : decode cX1_takeCancel 11 = .ok (.aload_n 0, 1) := by decide +kernel
theorem dX1_takeCancel_12 : decode cX1_takeCancel 12 = .ok (.getfield 22, 3) := by decide +kernel
theorem dX1_takeCancel_15 : decode cX1_takeCancel 15 = .ok (.iload_n 1, 1) := by decide +kernel
theorem dX1_takeCancel_16 : decode cX1_takeCancel 16 = .ok (.dup2, 1) := by decide +kernel
theorem dX1_takeCancel_17 : decode cX1_takeCancel 17 = .ok (.iaload, 1) := by decide +kernel
theorem dX1_takeCancel_18 : decode cX1_takeCancel 18 = .ok (.iconst 1, 1) := by decide +kernel
theorem dX1_takeCancel_19 : decode cX1_takeCancel 19 = .ok (.iload_n 2, 1) := by decide +kernel
theorem dX1_takeCancel_20 : decode cX1_takeCancel 20 = .ok (.ishl, 1) := by decide +kernel
theorem dX1_takeCancel_21 : decode cX1_takeCancel 21 = .ok (.iconst (-1), 1) := by decide +kernel
theorem dX1_takeCancel_22 : decode cX1_takeCancel 22 = .ok (.ixor, 1) := by decide +kernel
theorem dX1_takeCancel_23 : decode cX1_takeCancel 23 = .ok (.iand, 1) := by decide +kernel
theorem dX1_takeCancel_24 : decode cX1_takeCancel 24 = .ok (.iastore, 1) := by decide +kernel
theorem dX1_takeCancel_25 : decode cX1_takeCancel 25 = .ok (.iload_n 3, 1) := by decide +kernel
theorem dX1_takeCancel_26 : decode cX1_takeCancel 26 = .ok (.ireturn, 1) := by decide +kernel
theorem dX1_countCancels_0 : decode cX1_countCancels 0 = .ok (.iconst 0, 1) := by decide +kernel
theorem dX1_countCancels_1 : decode cX1_countCancels 1 = .ok (.istore_n 1, 1) := by decide +kernel
theorem dX1_countCancels_2 : decode cX1_countCancels 2 = .ok (.aload_n 0, 1) := by decide +kernel
theorem dX1_countCancels_3 : decode cX1_countCancels 3 = .ok (.getfield 22, 3) := by decide +kernel
theorem dX1_countCancels_6 : decode cX1_countCancels 6 = .ok (.astore_n 2, 1) := by decide +kernel
theorem dX1_countCancels_7 : decode cX1_countCancels 7 = .ok (.aload_n 2, 1) := by decide +kernel
theorem dX1_countCancels_8 : decode cX1_countCancels 8 = .ok (.arraylength, 1) := by decide +kernel
theorem dX1_countCancels_9 : decode cX1_countCancels 9 = .ok (.istore_n 3, 1) := by decide +kernel
theorem dX1_countCancels_10 : decode cX1_countCancels 10 = .ok (.iconst 0, 1) := by decide +kernel
theorem dX1_countCancels_11 : decode cX1_countCancels 11 = .ok (.istore 4, 2) := by decide +kernel
theorem dX1_countCancels_13 : decode cX1_countCancels 13 = .ok (.iload 4, 2) := by decide +kernel
theorem dX1_countCancels_15 : decode cX1_countCancels 15 = .ok (.iload_n 3, 1) := by decide +kernel
theorem dX1_countCancels_16 : decode cX1_countCancels 16 = .ok (.if_icmp .ge 23, 3) := by decide +kernel
theorem dX1_countCancels_19 : decode cX1_countCancels 19 = .ok (.aload_n 2, 1) := by decide +kernel
theorem dX1_countCancels_20 : decode cX1_countCancels 20 = .ok (.iload 4, 2) := by decide +kernel
theorem dX1_countCancels_22 : decode cX1_countCancels 22 = .ok (.iaload, 1) := by decide +kernel
theorem dX1_countCancels_23 : decode cX1_countCancels 23 = .ok (.istore 5, 2) := by decide +kernel
theorem dX1_countCancels_25 : decode cX1_countCancels 25 = .ok (.iload_n 1, 1) := by decide +kernel
theorem dX1_countCancels_26 : decode cX1_countCancels 26 = .ok (.iload 5, 2) := by decide +kernel
theorem dX1_countCancels_28 : decode cX1_countCancels 28 = .ok (.invokestatic 35, 3) := by decide +kernel
theorem dX1_countCancels_31 : decode cX1_countCancels 31 = .ok (.iadd, 1) := by decide +kernel
theorem dX1_countCancels_32 : decode cX1_countCancels 32 = .ok (.istore_n 1, 1) := by decide +kernel
theorem dX1_countCancels_33 : decode cX1_countCancels 33 = .ok (.iinc 4 1, 3) := by decide +kernel
theorem dX1_countCancels_36 : decode cX1_countCancels 36 = .ok (.goto (-23), 3) := by decide +kernel
theorem dX1_countCancels_39 : decode cX1_countCancels 39 = .ok (.iload_n 1, 1) := by decide +kernel
theorem dX1_countCancels_40 : decode cX1_countCancels 40 = .ok (.ireturn, 1) := by decide +kernel
theorem dX1_copyFrom_0 : decode cX1_copyFrom 0 = .ok (.aload_n 0, 1) := by decide +kernel
theorem dX1_copyFrom_1 : decode cX1_copyFrom 1 = .ok (.aload_n 1, 1) := by decide +kernel
theorem dX1_copyFrom_2 : decode cX1_copyFrom 2 = .ok (.getfield 9, 3) := by decide +kernel
theorem dX1_copyFrom_5 : decode cX1_copyFrom 5 = .ok (.putfield 9, 3) := by decide +kernel
theorem dX1_copyFrom_8 : decode cX1_copyFrom 8 = .ok (.aload_n 0, 1) := by decide +kernel
theorem dX1_copyFrom_9 : decode cX1_copyFrom 9 = .ok (.aload_n 1, 1) := by decide +kernel
theorem dX1_copyFrom_10 : decode cX1_copyFrom 10 = .ok (.getfield 15, 3) := by decide +kernel
theorem dX1_copyFrom_13 : decode cX1_copyFrom 13 = .ok (.putfield 15, 3) := by decide +kernel
theorem dX1_copyFrom_16 : decode cX1_copyFrom 16 = .ok (.aload_n 1, 1) := by decide +kernel
theorem dX1_copyFrom_17 : decode cX1_copyFrom 17 = .ok (.getfield 18, 3) := by decide +kernel
theorem dX1_copyFrom_20 : decode cX1_copyFrom 20 = .ok (.iconst 0, 1) := by decide +kernel
theorem dX1_copyFrom_21 : decode cX1_copyFrom 21 = .ok (.aload_n 0, 1) := by decide +kernel
theorem dX1_copyFrom_22 : decode cX1_copyFrom 22 = .ok (.getfield 18, 3) := by decide +kernel
theorem dX1_copyFrom_25 : decode cX1_copyFrom 25 = .ok (.iconst 0, 1) := by decide +kernel
theorem dX1_copyFrom_26 : decode cX1_copyFrom 26 = .ok (.bipush 30, 2) := by decide +kernel
theorem dX1_copyFrom_28 : decode cX1_copyFrom 28 = .ok (.invokestatic 41, 3) := by decide +kernel
theorem dX1_copyFrom_31 : decode cX1_copyFrom 31 = .ok (.aload_n 1, 1) := by decide +kernel
theorem dX1_copyFrom_32 : decode cX1_copyFrom 32 = .ok (.getfield 22, 3) := by decide +kernel
theorem dX1_copyFrom_35 : decode cX1_copyFrom 35 = .ok (.iconst 0, 1) := by decide +kernel
theorem dX1_copyFrom_36 : decode cX1_copyFrom 36 = .ok (.aload_n 0, 1) := by decide +kernel
theorem dX1_copyFrom_37 : decode cX1_copyFrom 37 = .ok (.getfield 22, 3) := by decide +kernel
theorem dX1_copyFrom_40 : decode cX1_copyFrom 40 = .ok (.iconst 0, 1) := by decide +kernel
theorem dX1_copyFrom_41 : decode cX1_copyFrom 41 = .ok (.bipush 30, 2) := by decide +kernel
theorem dX1_copyFrom_43 : decode cX1_copyFrom 43 = .ok (.invokestatic 41, 3) := by decide +kernel
theorem dX1_copyFrom_46 : decode cX1_copyFrom 46 = .ok (.return_, 1) := by decide +kernel
theorem dX2_init_0 : decode cX2_init 0 = .ok (.aload_n 0, 1) := by decide +kernel
theorem dX2_init_1 : decode cX2_init 1 = .ok (.invokespecial 3, 3) := by decide +kernel
theorem dX2_init_4 : decode cX2_init 4 = .ok (.aload_n 0, 1) := by decide +kernel
theorem dX2_init_5 : decode cX2_init 5 = .ok (.iconst 0, 1) := by decide +kernel
theorem dX2_init_6 : decode cX2_init 6 = .ok (.putfield 9, 3) := by decide +kernel
theorem dX2_init_9 : decode cX2_init 9 = .ok (.aload_n 0, 1) := by decide +kernel
theorem dX2_init_10 : decode cX2_init 10 = .ok (.bipush 12, 2) := by decide +kernel
theorem dX2_init_12 : decode cX2_init 12 = .ok (.newarray .int, 2) := by decide +kernel
theorem dX2_init_14 : decode cX2_init 14 = .ok (.putfield 15, 3) := by decide +kernel
theorem dX2_init_17 : decode cX2_init 17 = .ok (.aload_n 0, 1) := by decide +kernel
theorem dX2_init_18 : decode cX2_init 18 = .ok (.bipush 12, 2) := by decide +kernel
theorem dX2_init_20 : decode cX2_init 20 = .ok (.newarray .int, 2) := by decide +kernel
theorem dX2_init_22 : decode cX2_init 22 = .ok (.putfield 19, 3) := by decide +kernel
theorem dX2_init_25 : decode cX2_init 25 = .ok (.aload_n 0, 1) := by decide +kernel
theorem dX2_init_26 : decode cX2_init 26 = .ok (.bipush 12, 2) := by decide +kernel
theorem dX2_init_28 : decode cX2_init 28 = .ok (.newarray .int, 2) := by decide +kernel
theorem dX2_init_30 : decode cX2_init 30 = .ok (.putfield 22, 3) := by decide +kernel
theorem dX2_init_33 : decode cX2_init 33 = .ok (.return_, 1) := by decide +kernel
theorem dX2_between_0 : decode cX2_between 0 = .ok (.iconst 0, 1) := by decide +kernel
theorem dX2_between_1 : decode cX2_between 1 = .ok (.istore_n 3, 1) := by decide +kernel
theorem dX2_between_2 : decode cX2_between 2 = .ok (.iload_n 3, 1) := by decide +kernel
theorem dX2_between_3 : decode cX2_between 3 = .ok (.aload_n 0, 1) := by decide +kernel
theorem dX2_between_4 : decode cX2_between 4 = .ok (.getfield 9, 3) := by decide +kernel
theorem dX2_between_7 : decode cX2_between 7 = .ok (.if_icmp .ge 75, 3) := by decide +kernel
theorem dX2_between_10 : decode cX2_between 10 = .ok (.aload_n 0, 1) := by decide +kernel
theorem dX2_between_11 : decode cX2_between 11 = .ok (.getfield 15, 3) := by decide +kernel
theorem dX2_between_14 : decode cX2_between 14 = .ok (.iload_n 3, 1) := by decide +kernel
theorem dX2_between_15 : decode cX2_between 15 = .ok (.iaload, 1) := by decide +kernel
theorem dX2_between_16 : decode cX2_between 16 = .ok (.iload_n 1, 1) := by decide +kernel
theorem dX2_between_17 : decode cX2_between 17 = .ok (.if_icmp .ne 17, 3) := by decide +kernel
theorem dX2_between_20 : decode cX2_between 20 = .ok (.aload_n 0, 1) := by decide +kernel
theorem dX2_between_21 : decode cX2_between 21 = .ok (.getfield 19, 3) := by decide +kernel
theorem dX2_between_24 : decode cX2_between 24 = .ok (.iload_n 3, 1) := by decide +kernel
theorem dX2_between_25 : decode cX2_between 25 = .ok (.iaload, 1) := by decide +kernel
theorem dX2_between_26 : decode cX2_between 26 = .ok (.iload_n 2, 1) := by decide +kernel
theorem dX2_between_27 : decode cX2_between 27 = .ok (.if_icmp .ne 7, 3) := by decide +kernel
theorem dX2_between_30 : decode cX2_between 30 = .ok (.iconst 1, 1) := by decide +kernel
theorem dX2_between_31 : decode cX2_between 31 = .ok (.goto 4, 3) := by decide +kernel
theorem dX2_between_34 : decode cX2_between 34 = .ok (.iconst 0, 1) := by decide +kernel
theorem dX2_between_35 : decode cX2_between 35 = .ok (.istore 4, 2) := by decide +kernel
theorem dX2_between_37 : decode cX2_between 37 = .ok (.aload_n 0, 1) := by decide +kernel
theorem dX2_between_38 : decode cX2_between 38 = .ok (.getfield 15, 3) := by decide +kernel
theorem dX2_between_41 : decode cX2_between 41 = .ok (.iload_n 3, 1) := by decide +kernel
theorem dX2_between_42 : decode cX2_between 42 = .ok (.iaload, 1) := by decide +kernel
theorem dX2_between_43 : decode cX2_between 43 = .ok (.iload_n 2, 1) := by decide +kernel
theorem dX2_between_44 : decode cX2_between 44 = .ok (.if_icmp .ne 17, 3) := by decide +kernel
theorem dX2_between_47 : decode cX2_between 47 = .ok (.aload_n 0, 1) := by decide +kernel
theorem dX2_between_48 : decode cX2_between 48 = .ok (.getfield 19, 3) := by decide +kernel
theorem dX2_between_51 : decode cX2_between 51 = .ok (.iload_n 3, 1) := by decide +kernel
theorem dX2_between_52 : decode cX2_between 52 = .ok (.iaload, 1) := by decide +kernel
theorem dX2_between_53 : decode cX2_between 53 = .ok (.iload_n 1, 1) := by decide +kernel
theorem dX2_between_54 : decode cX2_between 54 = .ok (.if_icmp .ne 7, 3) := by decide +kernel
theorem dX2_between_57 : decode cX2_between 57 = .ok (.iconst 1, 1) := by decide +kernel
theorem dX2_between_58 : decode cX2_between 58 = .ok (.goto 4, 3) := by decide +kernel
theorem dX2_between_61 : decode cX2_between 61 = .ok (.iconst 0, 1) := by decide +kernel
theorem dX2_between_62 : decode cX2_between 62 = .ok (.istore 5, 2) := by decide +kernel
theorem dX2_between_64 : decode cX2_between 64 = .ok (.iload 4, 2) := by decide +kernel
theorem dX2_between_66 : decode cX2_between 66 = .ok (.ifCond .ne 8, 3) := by decide +kernel
theorem dX2_between_69 : decode cX2_between 69 = .ok (.iload 5, 2) := by decide +kernel
theorem dX2_between_71 : decode cX2_between 71 = .ok (.ifCond .eq 5, 3) := by decide +kernel
theorem dX2_between_74 : decode cX2_between 74 = .ok (.iload_n 3, 1) := by decide +kernel
theorem dX2_between_75 : decode cX2_between 75 = .ok (.ireturn, 1) := by decide +kernel
theorem dX2_between_76 : decode cX2_between 76 = .ok (.iinc 3 1, 3) := by decide +kernel
theorem dX2_between_79 : decode cX2_between 79 = .ok (.goto (-77), 3) := by decide +kernel
theorem dX2_between_82 : decode cX2_between 82 = .ok (.iconst (-1), 1) := by decide +kernel
theorem dX2_between_83 : decode cX2_between 83 = .ok (.ireturn, 1) := by decide +kernel
theorem dX2_neighboursOf_0 : decode cX2_neighboursOf 0 = .ok (.iconst 0, 1) := by decide +kernel
theorem dX2_neighboursOf_1 : decode cX2_neighboursOf 1 = .ok (.istore_n 2, 1) := by decide +kernel
theorem dX2_neighboursOf_2 : decode cX2_neighboursOf 2 = .ok (.iconst 0, 1) := by decide +kernel
theorem dX2_neighboursOf_3 : decode cX2_neighboursOf 3 = .ok (.istore_n 3, 1) := by decide +kernel
theorem dX2_neighboursOf_4 : decode cX2_neighboursOf 4 = .ok (.iload_n 3, 1) := by decide +kernel
theorem dX2_neighboursOf_5 : decode cX2_neighboursOf 5 = .ok (.aload_n 0, 1) := by decide +kernel
theorem dX2_neighboursOf_6 : decode cX2_neighboursOf 6 = .ok (.getfield 9, 3) := by decide +kernel
theorem dX2_neighboursOf_9 : decode cX2_neighboursOf 9 = .ok (.if_icmp .ge 57, 3) := by decide +kernel
theorem dX2_neighboursOf_12 : decode cX2_neighboursOf 12 = .ok (.iload_n 1, 1) := by decide +kernel
theorem dX2_neighboursOf_13 : decode cX2_neighboursOf 13 = .ok (.aload_n 0, 1) := by decide +kernel
theorem dX2_neighboursOf_14 : decode cX2_neighboursOf 14 = .ok (.getfield 15, 3) := by decide +kernel
theorem dX2_neighboursOf_17 : decode cX2_neighboursOf 17 = .ok (.iload_n 3, 1) := by decide +kernel
theorem dX2_neighboursOf_18 : decode cX2_neighboursOf 18 = .ok (.iaload, 1) := by decide +kernel
theorem dX2_neighboursOf_19 : decode cX2_neighboursOf 19 = .ok (.invokestatic 25, 3) := by decide +kernel
theorem dX2_neighboursOf_22 : decode cX2_neighboursOf 22 = .ok (.ifCond .eq 14, 3) := by decide +kernel
theorem dX2_neighboursOf_25 : decode cX2_neighboursOf 25 = .ok (.iload_n 2, 1) := by decide +kernel
theorem dX2_neighboursOf_26 : decode cX2_neighboursOf 26 = .ok (.iconst 1, 1) := by decide +kernel
theorem dX2_neighboursOf_27 : decode cX2_neighboursOf 27 = .ok (.aload_n 0, 1) := by decide +kernel
theorem dX2_neighboursOf_28 : decode cX2_neighboursOf 28 = .ok (.getfield 19, 3) := by decide +kernel
theorem dX2_neighboursOf_31 : decode cX2_neighboursOf 31 = .ok (.iload_n 3, 1) := by decide +kernel
theorem dX2_neighboursOf_32 : decode cX2_neighboursOf 32 = .ok (.iaload, 1) := by decide +kernel
theorem dX2_neighboursOf_33 : decode cX2_neighboursOf 33 = .ok (.ishl, 1) := by decide +kernel
theorem dX2_neighboursOf_34 : decode cX2_neighboursOf 34 = .ok (.ior, 1) := by decide +kernel
theorem dX2_neighboursOf_35 : decode cX2_neighboursOf 35 = .ok (.istore_n 2, 1) := by decide +kernel
theorem dX2_neighboursOf_36 : decode cX2_neighboursOf 36 = .ok (.iload_n 1, 1) := by decide +kernel
theorem dX2_neighboursOf_37 : decode cX2_neighboursOf 37 = .ok (.aload_n 0, 1) := by decide +kernel
theorem dX2_neighboursOf_38 : decode cX2_neighboursOf 38 = .ok (.getfield 19, 3) := by decide +kernel
theorem dX2_neighboursOf_41 : decode cX2_neighboursOf 41 = .ok (.iload_n 3, 1) := by decide +kernel
theorem dX2_neighboursOf_42 : decode cX2_neighboursOf 42 = .ok (.iaload, 1) := by decide +kernel
theorem dX2_neighboursOf_43 : decode cX2_neighboursOf 43 = .ok (.invokestatic 25, 3) := by decide +kernel
theorem dX2_neighboursOf_46 : decode cX2_neighboursOf 46 = .ok (.ifCond .eq 14, 3) := by decide +kernel
theorem dX2_neighboursOf_49 : decode cX2_neighboursOf 49 = .ok (.iload_n 2, 1) := by decide +kernel
theorem dX2_neighboursOf_50 : decode cX2_neighboursOf 50 = .ok (.iconst 1, 1) := by decide +kernel
theorem dX2_neighboursOf_51 : decode cX2_neighboursOf 51 = .ok (.aload_n 0, 1) := by decide +kernel
theorem dX2_neighboursOf_52 : decode cX2_neighboursOf 52 = .ok (.getfield 15, 3) := by decide +kernel
theorem dX2_neighboursOf_55 : decode cX2_neighboursOf 55 = .ok (.iload_n 3, 1) := by decide +kernel
theorem dX2_neighboursOf_56 : decode cX2_neighboursOf 56 = .ok (.iaload, 1) := by decide +kernel
theorem dX2_neighboursOf_57 : decode cX2_neighboursOf 57 = .ok (.ishl, 1) := by decide +kernel
theorem dX2_neighboursOf_58 : decode cX2_neighboursOf 58 = .ok (.ior, 1) := by decide +kernel
theorem dX2_neighboursOf_59 : decode cX2_neighboursOf 59 = .ok (.istore_n 2, 1) := by decide +kernel
theorem dX2_neighboursOf_60 : decode cX2_neighboursOf 60 = .ok (.iinc 3 1, 3) := by decide +kernel
theorem dX2_neighboursOf_63 : decode cX2_neighboursOf 63 = .ok (.goto (-59), 3) := by decide +kernel
theorem dX2_neighboursOf_66 : decode cX2_neighboursOf 66 = .ok (.iload_n 2, 1) := by decide +kernel
theorem dX2_neighboursOf_67 : decode cX2_neighboursOf 67 = .ok (.ireturn, 1) := by decide +kernel
theorem dX2_append_0 : decode cX2_append 0 = .ok (.aload_n 0, 1) := by decide +kernel
theorem dX2_append_1 : decode cX2_append 1 = .ok (.getfield 9, 3) := by decide +kernel
theorem dX2_append_4 : decode cX2_append 4 = .ok (.bipush 12, 2) := by decide +kernel
theorem dX2_append_6 : decode cX2_append 6 = .ok (.if_icmp .lt 5, 3) := by decide +kernel
theorem dX2_append_9 : decode cX2_append 9 = .ok (.iconst (-1), 1) := by decide +kernel
theorem dX2_append_10 : decode cX2_append 10 = .ok (.ireturn, 1) := by decide +kernel
theorem dX2_append_11 : decode cX2_append 11 = .ok (.aload_n 0, 1) := by decide +kernel
theorem dX2_append_12 : decode cX2_append 12 = .ok (.getfield 15, 3) := by decide +kernel
theorem dX2_append_15 : decode cX2_append 15 = .ok (.aload_n 0, 1) := by decide +kernel
theorem dX2_append_16 : decode cX2_append 16 = .ok (.getfield 9, 3) := by decide +kernel
theorem dX2_append_19 : decode cX2_append 19 = .ok (.iload_n 1, 1) := by decide +kernel
theorem dX2_append_20 : decode cX2_append 20 = .ok (.iastore, 1) := by decide +kernel
theorem dX2_append_21 : decode cX2_append 21 = .ok (.aload_n 0, 1) := by decide +kernel
theorem dX2_append_22 : decode cX2_append 22 = .ok (.getfield 19, 3) := by decide +kernel
theorem dX2_append_25 : decode cX2_append 25 = .ok (.aload_n 0, 1) := by decide +kernel
theorem dX2_append_26 : decode cX2_append 26 = .ok (.getfield 9, 3) := by decide +kernel
theorem dX2_append_29 : decode cX2_append 29 = .ok (.iload_n 2, 1) := by decide +kernel
theorem dX2_append_30 : decode cX2_append 30 = .ok (.iastore, 1) := by decide +kernel
theorem dX2_append_31 : decode cX2_append 31 = .ok (.aload_n 0, 1) := by decide +kernel
theorem dX2_append_32 : decode cX2_append 32 = .ok (.getfield 22, 3) := by decide +kernel
theorem dX2_append_35 : decode cX2_append 35 = .ok (.aload_n 0, 1) := by decide +kernel
theorem dX2_append_36 : decode cX2_append 36 = .ok (.getfield 9, 3) := by decide +kernel
theorem dX2_append_39 : decode cX2_append 39 = .ok (.iload_n 3, 1) := by decide +kernel
theorem dX2_append_40 : decode cX2_append 40 = .ok (.iastore, 1) := by decide +kernel
theorem dX2_append_41 : decode cX2_append 41 = .ok (.aload_n 0, 1) := by decide +kernel
theorem dX2_append_42 : decode cX2_append 42 = .ok (.dup, 1) := by decide +kernel
theorem dX2_append_43 : decode cX2_append 43 = .ok (.getfield 9, 3) := by decide +kernel
theorem dX2_append_46 : decode cX2_append 46 = .ok (.iconst 1, 1) := by decide +kernel
theorem dX2_append_47 : decode cX2_append 47 = .ok (.iadd, 1) := by decide +kernel
theorem dX2_append_48 : decode cX2_append 48 = .ok (.putfield 9, 3) := by decide +kernel
theorem dX2_append_51 : decode cX2_append 51 = .ok (.aload_n 0, 1) := by decide +kernel
theorem dX2_append_52 : decode cX2_append 52 = .ok (.getfield 9, 3) := by decide +kernel
theorem dX2_append_55 : decode cX2_append 55 = .ok (.iconst 1, 1) := by decide +kernel
theorem dX2_append_56 : decode cX2_append 56 = .ok (.isub, 1) := by decide +kernel
theorem dX2_append_57 : decode cX2_append 57 = .ok (.ireturn, 1) := by decide +kernel
theorem dX2_delete_0 : decode cX2_delete 0 = .ok (.iload_n 1, 1) := by decide +kernel
theorem dX2_delete_1 : decode cX2_delete 1 = .ok (.aload_n 0, 1) := by decide +kernel
theorem dX2_delete_2 : decode cX2_delete 2 = .ok (.getfield 9, 3) := by decide +kernel
theorem dX2_delete_5 : decode cX2_delete 5 = .ok (.invokestatic 29, 3) := by decide +kernel
theorem dX2_delete_8 : decode cX2_delete 8 = .ok (.ifCond .ne 4, 3) := by decide +kernel
theorem dX2_delete_11 : decode cX2_delete 11 = .ok (.return_, 1) := by decide +kernel
theorem dX2_delete_12 : decode cX2_delete 12 = .ok (.aload_n 0, 1) := by decide +kernel
theorem dX2_delete_13 : decode cX2_delete 13 = .ok (.dup, 1) := by decide +kernel
theorem dX2_delete_14 : decode cX2_delete 14 = .ok (.getfield 9, 3) := by decide +kernel
theorem dX2_delete_17 : decode cX2_delete 17 = .ok (.iconst 1, 1) := by decide +kernel
theorem dX2_delete_18 : decode cX2_delete 18 = .ok (.isub, 1) := by decide +kernel
theorem dX2_delete_19 : decode cX2_delete 19 = .ok (.putfield 9, 3) := by decide +kernel
theorem dX2_delete_22 : decode cX2_delete 22 = .ok (.iload_n 1, 1) := by decide +kernel
theorem dX2_delete_23 : decode cX2_delete 23 = .ok (.istore_n 2, 1) := by decide +kernel
theorem dX2_delete_24 : decode cX2_delete 24 = .ok (.iload_n 2, 1) := by decide +kernel
theorem dX2_delete_25 : decode cX2_delete 25 = .ok (.aload_n 0, 1) := by decide +kernel
theorem dX2_delete_26 : decode cX2_delete 26 = .ok (.getfield 9, 3) := by decide +kernel
theorem dX2_delete_29 : decode cX2_delete 29 = .ok (.if_icmp .ge 51, 3) := by decide +kernel
theorem dX2_delete_32 : decode cX2_delete 32 = .ok (.aload_n 0, 1) := by decide +kernel
theorem dX2_delete_33 : decode cX2_delete 33 = .ok (.getfield 15, 3) := by decide +kernel
theorem dX2_delete_36 : decode cX2_delete 36 = .ok (.iload_n 2, 1) := by decide +kernel
theorem dX2_delete_37 : decode cX2_delete 37 = .ok (.aload_n 0, 1) := by decide +kernel
theorem dX2_delete_38 : decode cX2_delete 38 = .ok (.getfield 15, 3) := by decide +kernel
theorem dX2_delete_41 : decode cX2_delete 41 = .ok (.iload_n 2, 1) := by decide +kernel
theorem dX2_delete_42 : decode cX2_delete 42 = .ok (.iconst 1, 1) := by decide +kernel
theorem dX2_delete_43 : decode cX2_delete 43 = .ok (.iadd, 1) := by decide +kernel
theorem dX2_delete_44 : decode cX2_delete 44 = .ok (.iaload, 1) := by decide +kernel
theorem dX2_delete_45 : decode cX2_delete 45 = .ok (.iastore, 1) := by decide +kernel
theorem dX2_delete_46 : decode cX2_delete 46 = .ok (.aload_n 0, 1) := by decide +kernel
theorem dX2_delete_47 : decode cX2_delete 47 = .ok (.getfield 19, 3) := by decide +kernel
theorem dX2_delete_50 : decode cX2_delete 50 = .ok (.iload_n 2, 1) := by decide +kernel
theorem dX2_delete_51 : decode cX2_delete 51 = .ok (.aload_n 0, 1) := by decide +kernel
theorem dX2_delete_52 : decode cX2_delete 52 = .ok (.getfield 19, 3) := by decide +kernel
theorem dX2_delete_55 : decode cX2_delete 55 = .ok (.iload_n 2, 1) := by decide +kernel
theorem dX2_delete_56 : decode cX2_delete 56 = .ok (.iconst 1, 1) := by decide +kernel
theorem dX2_delete_57 : decode cX2_delete 57 = .ok (.iadd, 1) := by decide +kernel
theorem dX2_delete_58 : decode cX2_delete 58 = .ok (.iaload, 1) := by decide +kernel
theorem dX2_delete_59 : decode cX2_delete 59 = .ok (.iastore, 1) := by decide +kernel
theorem dX2_delete_60 : decode cX2_delete 60 = .ok (.aload_n 0, 1) := by decide +kernel
theorem dX2_delete_61 : decode cX2_delete 61 = .ok (.getfield 22, 3) := by decide +kernel
theorem dX2_delete_64 : decode cX2_delete 64 = .ok (.iload_n 2, 1) := by decide +kernel
theorem dX2_delete_65 : decode cX2_delete 65 = .ok (.aload_n 0, 1) := by decide +kernel
theorem dX2_delete_66 : decode cX2_delete 66 = .ok (.getfield 22, 3) := by decide +kernel
theorem dX2_delete_69 : decode cX2_delete 69 = .ok (.iload_n 2, 1) := by decide +kernel
theorem dX2_delete_70 : decode cX2_delete 70 = .ok (.iconst 1, 1) := by decide +kernel
theorem dX2_delete_71 : decode cX2_delete 71 = .ok (.iadd, 1) := by decide +kernel
theorem dX2_delete_72 : decode cX2_delete 72 = .ok (.iaload, 1) := by decide +kernel
theorem dX2_delete_73 : decode cX2_delete 73 = .ok (.iastore, 1) := by decide +kernel
theorem dX2_delete_74 : decode cX2_delete 74 = .ok (.iinc 2 1, 3) := by decide +kernel
theorem dX2_delete_77 : decode cX2_delete 77 = .ok (.goto (-53), 3) := by decide +kernel
theorem dX2_delete_80 : decode cX2_delete 80 = .ok (.return_, 1) := by decide +kernel
theorem dX2_copyFrom_0 : decode cX2_copyFrom 0 = .ok (.aload_n 0, 1) := by decide +kernel
theorem dX2_copyFrom_1 : decode cX2_copyFrom 1 = .ok (.aload_n 1, 1) := by decide +kernel
theorem dX2_copyFrom_2 : decode cX2_copyFrom 2 = .ok (.getfield 9, 3) := by decide +kernel
theorem dX2_copyFrom_5 : decode cX2_copyFrom 5 = .ok (.putfield 9, 3) := by decide +kernel
theorem dX2_copyFrom_8 : decode cX2_copyFrom 8 = .ok (.aload_n 1, 1) := by decide +kernel
theorem dX2_copyFrom_9 : decode cX2_copyFrom 9 = .ok (.getfield 15, 3) := by decide +kernel
theorem dX2_copyFrom_12 : decode cX2_copyFrom 12 = .ok (.iconst 0, 1) := by decide +kernel
theorem dX2_copyFrom_13 : decode cX2_copyFrom 13 = .ok (.aload_n 0, 1) := by decide +kernel
theorem dX2_copyFrom_14 : decode cX2_copyFrom 14 = .ok (.getfield 15, 3) := by decide +kernel
theorem dX2_copyFrom_17 : decode cX2_copyFrom 17 = .ok (.iconst 0, 1) := by decide +kernel
theorem dX2_copyFrom_18 : decode cX2_copyFrom 18 = .ok (.bipush 12, 2) := by decide +kernel
theorem dX2_copyFrom_20 : decode cX2_copyFrom 20 = .ok (.invokestatic 32, 3) := by decide +kernel
theorem dX2_copyFrom_23 : decode cX2_copyFrom 23 = .ok (.aload_n 1, 1) := by decide +kernel
theorem dX2_copyFrom_24 : decode cX2_copyFrom 24 = .ok (.getfield 19, 3) := by decide +kernel
theorem dX2_copyFrom_27 : decode cX2_copyFrom 27 = .ok (.iconst 0, 1) := by decide +kernel
theorem dX2_copyFrom_28 : decode cX2_copyFrom 28 = .ok (.aload_n 0, 1) := by decide +kernel
theorem dX2_copyFrom_29 : decode cX2_copyFrom 29 = .ok (.getfield 19, 3) := by decide +kernel
theorem dX2_copyFrom_32 : decode cX2_copyFrom 32 = .ok (.iconst 0, 1) := by decide +kernel
theorem dX2_copyFrom_33 : decode cX2_copyFrom 33 = .ok (.bipush 12, 2) := by decide +kernel
theorem dX2_copyFrom_35 : decode cX2_copyFrom 35 = .ok (.invokestatic 32, 3) := by decide +kernel
theorem dX2_copyFrom_38 : decode cX2_copyFrom 38 = .ok (.aload_n 1, 1) := by decide +kernel
theorem dX2_copyFrom_39 : decode cX2_copyFrom 39 = .ok (.getfield 22, 3) := by decide +kernel
theorem dX2_copyFrom_42 : decode cX2_copyFrom 42 = .ok (.iconst 0, 1) := by decide +kernel
theorem dX2_copyFrom_43 : decode cX2_copyFrom 43 = .ok (.aload_n 0, 1) := by decide +kernel
theorem dX2_copyFrom_44 : decode cX2_copyFrom 44 = .ok (.getfield 22, 3) := by decide +kernel
theorem dX2_copyFrom_47 : decode cX2_copyFrom 47 = .ok (.iconst 0, 1) := by decide +kernel
theorem dX2_copyFrom_48 : decode cX2_copyFrom 48 = .ok (.bipush 12, 2) := by decide +kernel
theorem dX2_copyFrom_50 : decode cX2_copyFrom 50 = .ok (.invokestatic 32, 3) := by decide +kernel
theorem dX2_copyFrom_53 : decode cX2_copyFrom 53 = .ok (.return_, 1) := by decide +kernel
theorem dX3_init_0 : decode cX3_init 0 = .ok (.aload_n 0, 1) := by decide +kernel
theorem dX3_init_1 : decode cX3_init 1 = .ok (.invokespecial 3, 3) := by decide +kernel
theorem dX3_init_4 : decode cX3_init 4 = .ok (.aload_n 0, 1) := by decide +kernel
theorem dX3_init_5 : decode cX3_init 5 = .ok (.iconst 0, 1) := by decide +kernel
theorem dX3_init_6 : decode cX3_init 6 = .ok (.putfield 9, 3) := by decide +kernel
theorem dX3_init_9 : decode cX3_init 9 = .ok (.aload_n 0, 1) := by decide +kernel
theorem dX3_init_10 : decode cX3_init 10 = .ok (.bipush 10, 2) := by decide +kernel
theorem dX3_init_12 : decode cX3_init 12 = .ok (.putfield 15, 3) := by decide +kernel
theorem dX3_init_15 : decode cX3_init 15 = .ok (.aload_n 0, 1) := by decide +kernel
theorem dX3_init_16 : decode cX3_init 16 = .ok (.iconst 4, 1) := by decide +kernel
theorem dX3_init_17 : decode cX3_init 17 = .ok (.newarray .int, 2) := by decide +kernel
theorem dX3_init_19 : decode cX3_init 19 = .ok (.putfield 18, 3) := by decide +kernel
theorem dX3_init_22 : decode cX3_init 22 = .ok (.aload_n 0, 1) := by decide +kernel
theorem dX3_init_23 : decode cX3_init 23 = .ok (.new 22, 3) := by decide +kernel
theorem dX3_init_26 : decode cX3_init 26 = .ok (.dup, 1) := by decide +kernel
theorem dX3_init_27 : decode cX3_init 27 = .ok (.invokespecial 24, 3) := by decide +kernel
theorem dX3_init_30 : decode cX3_init 30 = .ok (.putfield 25, 3) := by decide +kernel
theorem dX3_init_33 : decode cX3_init 33 = .ok (.aload_n 0, 1) := by decide +kernel
theorem dX3_init_34 : decode cX3_init 34 = .ok (.new 29, 3) := by decide +kernel
theorem dX3_init_37 : decode cX3_init 37 = .ok (.dup, 1) := by decide +kernel
theorem dX3_init_38 : decode cX3_init 38 = .ok (.invokespecial 31, 3) := by decide +kernel
theorem dX3_init_41 : decode cX3_init 41 = .ok (.putfield 32, 3) := by decide +kernel
theorem dX3_init_44 : decode cX3_init 44 = .ok (.aload_n 0, 1) := by decide +kernel
theorem dX3_init_45 : decode cX3_init 45 = .ok (.bipush 6, 2) := by decide +kernel
theorem dX3_init_47 : decode cX3_init 47 = .ok (.anewarray 36, 3) := by decide +kernel
theorem dX3_init_50 : decode cX3_init 50 = .ok (.putfield 38, 3) := by decide +kernel
theorem dX3_init_53 : decode cX3_init 53 = .ok (.aload_n 0, 1) := by decide +kernel
theorem dX3_init_54 : decode cX3_init 54 = .ok (.new 42, 3) := by decide +kernel
theorem dX3_init_57 : decode cX3_init 57 = .ok (.dup, 1) := by decide +kernel
theorem dX3_init_58 : decode cX3_init 58 = .ok (.invokespecial 44, 3) := by decide +kernel
theorem dX3_init_61 : decode cX3_init 61 = .ok (.putfield 45, 3) := by decide +kernel
theorem dX3_init_64 : decode cX3_init 64 = .ok (.aload_n 0, 1) := by decide +kernel
theorem dX3_init_65 : decode cX3_init 65 = .ok (.bipush 6, 2) := by decide +kernel
theorem dX3_init_67 : decode cX3_init 67 = .ok (.newarray .int, 2) := by decide +kernel
theorem dX3_init_69 : decode cX3_init 69 = .ok (.putfield 49, 3) := by decide +kernel
theorem dX3_init_72 : decode cX3_init 72 = .ok (.aload_n 0, 1) := by decide +kernel
theorem dX3_init_73 : decode cX3_init 73 = .ok (.getfield 18, 3) := by decide +kernel
theorem dX3_init_76 : decode cX3_init 76 = .ok (.iconst 5, 1) := by decide +kernel
theorem dX3_init_77 : decode cX3_init 77 = .ok (.invokestatic 52, 3) := by decide +kernel
theorem dX3_init_80 : decode cX3_init 80 = .ok (.iconst 0, 1) := by decide +kernel
theorem dX3_init_81 : decode cX3_init 81 = .ok (.istore_n 1, 1) := by decide +kernel
theorem dX3_init_82 : decode cX3_init 82 = .ok (.iload_n 1, 1) := by decide +kernel
theorem dX3_init_83 : decode cX3_init 83 = .ok (.bipush 6, 2) := by decide +kernel
theorem dX3_init_85 : decode cX3_init 85 = .ok (.if_icmp .ge 22, 3) := by decide +kernel
theorem dX3_init_88 : decode cX3_init 88 = .ok (.aload_n 0, 1) := by decide +kernel
theorem dX3_init_89 : decode cX3_init 89 = .ok (.getfield 38, 3) := by decide +kernel
theorem dX3_init_92 : decode cX3_init 92 = .ok (.iload_n 1, 1) := by decide +kernel
theorem dX3_init_93 : decode cX3_init 93 = .ok (.new 36, 3) := by decide +kernel
theorem dX3_init_96 : decode cX3_init 96 = .ok (.dup, 1) := by decide +kernel
theorem dX3_init_97 : decode cX3_init 97 = .ok (.invokespecial 58, 3) := by decide +kernel
theorem dX3_init_100 : decode cX3_init 100 = .ok (.aastore, 1) := by decide +kernel
theorem dX3_init_101 : decode cX3_init 101 = .ok (.iinc 1 1, 3) := by decide +kernel
theorem dX3_init_104 : decode cX3_init 104 = .ok (.goto (-22), 3) := by decide +kernel
theorem dX3_init_107 : decode cX3_init 107 = .ok (.return_, 1) := by decide +kernel
theorem dX3_arrive_0 : decode cX3_arrive 0 = .ok (.aload_n 0, 1) := by decide +kernel
theorem dX3_arrive_1 : decode cX3_arrive 1 = .ok (.getfield 38, 3) := by decide +kernel
theorem dX3_arrive_4 : decode cX3_arrive 4 = .ok (.iload_n 2, 1) := by decide +kernel
theorem dX3_arrive_5 : decode cX3_arrive 5 = .ok (.aaload, 1) := by decide +kernel
theorem dX3_arrive_6 : decode cX3_arrive 6 = .ok (.astore 4, 2) := by decide +kernel
theorem dX3_arrive_8 : decode cX3_arrive 8 = .ok (.aload 4, 2) := by decide +kernel
theorem dX3_arrive_10 : decode cX3_arrive 10 = .ok (.iload_n 1, 1) := by decide +kernel
theorem dX3_arrive_11 : decode cX3_arrive 11 = .ok (.invokevirtual 59, 3) := by decide +kernel
theorem dX3_arrive_14 : decode cX3_arrive 14 = .ok (.ifCond .eq 15, 3) := by decide +kernel
theorem dX3_arrive_17 : decode cX3_arrive 17 = .ok (.aload_n 0, 1) := by decide +kernel
theorem dX3_arrive_18 : decode cX3_arrive 18 = .ok (.getfield 49, 3) := by decide +kernel
theorem dX3_arrive_21 : decode cX3_arrive 21 = .ok (.iconst 2, 1) := by decide +kernel
theorem dX3_arrive_22 : decode cX3_arrive 22 = .ok (.dup2, 1) := by decide +kernel
theorem dX3_arrive_23 : decode cX3_arrive 23 = .ok (.iaload, 1) := by decide +kernel
theorem dX3_arrive_24 : decode cX3_arrive 24 = .ok (.iconst 1, 1) := by decide +kernel
theorem dX3_arrive_25 : decode cX3_arrive 25 = .ok (.iadd, 1) := by decide +kernel
theorem dX3_arrive_26 : decode cX3_arrive 26 = .ok (.iastore, 1) := by decide +kernel
theorem dX3_arrive_27 : decode cX3_arrive 27 = .ok (.iconst 0, 1) := by decide +kernel
theorem dX3_arrive_28 : decode cX3_arrive 28 = .ok (.ireturn, 1) := by decide +kernel
theorem dX3_arrive_29 : decode cX3_arrive 29 = .ok (.aload_n 0, 1) := by decide +kernel
theorem dX3_arrive_30 : decode cX3_arrive 30 = .ok (.getfield 9, 3) := by decide +kernel
theorem dX3_arrive_33 : decode cX3_arrive 33 = .ok (.aload_n 0, 1) := by decide +kernel
theorem dX3_arrive_34 : decode cX3_arrive 34 = .ok (.getfield 32, 3) := by decide +kernel
theorem dX3_arrive_37 : decode cX3_arrive 37 = .ok (.getfield 63, 3) := by decide +kernel
theorem dX3_arrive_40 : decode cX3_arrive 40 = .ok (.iload_n 1, 1) := by decide +kernel
theorem dX3_arrive_41 : decode cX3_arrive 41 = .ok (.iaload, 1) := by decide +kernel
theorem dX3_arrive_42 : decode cX3_arrive 42 = .ok (.isub, 1) := by decide +kernel
theorem dX3_arrive_43 : decode cX3_arrive 43 = .ok (.aload_n 0, 1) := by decide +kernel
theorem dX3_arrive_44 : decode cX3_arrive 44 = .ok (.getfield 15, 3) := by decide +kernel
theorem dX3_arrive_47 : decode cX3_arrive 47 = .ok (.if_icmp .lt 15, 3) := by decide +kernel
theorem dX3_arrive_50 : decode cX3_arrive 50 = .ok (.aload_n 0, 1) := by decide +kernel
theorem dX3_arrive_51 : decode cX3_arrive 51 = .ok (.getfield 49, 3) := by decide +kernel
theorem dX3_arrive_54 : decode cX3_arrive 54 = .ok (.iconst 3, 1) := by decide +kernel
theorem dX3_arrive_55 : decode cX3_arrive 55 = .ok (.dup2, 1) := by decide +kernel
theorem dX3_arrive_56 : decode cX3_arrive 56 = .ok (.iaload, 1) := by decide +kernel
theorem dX3_arrive_57 : decode cX3_arrive 57 = .ok (.iconst 1, 1) := by decide +kernel
theorem dX3_arrive_58 : decode cX3_arrive 58 = .ok (.iadd, 1) := by decide +kernel
theorem dX3_arrive_59 : decode cX3_arrive 59 = .ok (.iastore, 1) := by decide +kernel
theorem dX3_arrive_60 : decode cX3_arrive 60 = .ok (.iconst 0, 1) := by decide +kernel
theorem dX3_arrive_61 : decode cX3_arrive 61 = .ok (.ireturn, 1) := by decide +kernel
theorem dX3_arrive_62 : decode cX3_arrive 62 = .ok (.aload 4, 2) := by decide +kernel
theorem dX3_arrive_64 : decode cX3_arrive 64 = .ok (.getfield 66, 3) := by decide +kernel
theorem dX3_arrive_67 : decode cX3_arrive 67 = .ok (.iload_n 1, 1) := by decide +kernel
theorem dX3_arrive_68 : decode cX3_arrive 68 = .ok (.aload_n 0, 1) := by decide +kernel
theorem dX3_arrive_69 : decode cX3_arrive 69 = .ok (.getfield 9, 3) := by decide +kernel
theorem dX3_arrive_72 : decode cX3_arrive 72 = .ok (.iastore, 1) := by decide +kernel
theorem dX3_arrive_73 : decode cX3_arrive 73 = .ok (.aload 4, 2) := by decide +kernel
theorem dX3_arrive_75 : decode cX3_arrive 75 = .ok (.iload_n 1, 1) := by decide +kernel
theorem dX3_arrive_76 : decode cX3_arrive 76 = .ok (.aload_n 0, 1) := by decide +kernel
theorem dX3_arrive_77 : decode cX3_arrive 77 = .ok (.getfield 32, 3) := by decide +kernel
theorem dX3_arrive_80 : decode cX3_arrive 80 = .ok (.getfield 69, 3) := by decide +kernel
theorem dX3_arrive_83 : decode cX3_arrive 83 = .ok (.iload_n 1, 1) := by decide +kernel
theorem dX3_arrive_84 : decode cX3_arrive 84 = .ok (.iaload, 1) := by decide +kernel
theorem dX3_arrive_85 : decode cX3_arrive 85 = .ok (.invokevirtual 72, 3) := by decide +kernel
theorem dX3_arrive_88 : decode cX3_arrive 88 = .ok (.ifCond .eq 15, 3) := by decide +kernel
theorem dX3_arrive_91 : decode cX3_arrive 91 = .ok (.aload_n 0, 1) := by decide +kernel
theorem dX3_arrive_92 : decode cX3_arrive 92 = .ok (.getfield 49, 3) := by decide +kernel
theorem dX3_arrive_95 : decode cX3_arrive 95 = .ok (.iconst 4, 1) := by decide +kernel
theorem dX3_arrive_96 : decode cX3_arrive 96 = .ok (.dup2, 1) := by decide +kernel
theorem dX3_arrive_97 : decode cX3_arrive 97 = .ok (.iaload, 1) := by decide +kernel
theorem dX3_arrive_98 : decode cX3_arrive 98 = .ok (.iconst 1, 1) := by decide +kernel
theorem dX3_arrive_99 : decode cX3_arrive 99 = .ok (.iadd, 1) := by decide +kernel
theorem dX3_arrive_100 : decode cX3_arrive 100 = .ok (.iastore, 1) := by decide +kernel
theorem dX3_arrive_101 : decode cX3_arrive 101 = .ok (.iconst 0, 1) := by decide +kernel
theorem dX3_arrive_102 : decode cX3_arrive 102 = .ok (.ireturn, 1) := by decide +kernel
theorem dX3_arrive_103 : decode cX3_arrive 103 = .ok (.aload 4, 2) := by decide +kernel
theorem dX3_arrive_105 : decode cX3_arrive 105 = .ok (.aload_n 0, 1) := by decide +kernel
theorem dX3_arrive_106 : decode cX3_arrive 106 = .ok (.getfield 32, 3) := by decide +kernel
theorem dX3_arrive_109 : decode cX3_arrive 109 = .ok (.getfield 76, 3) := by decide +kernel
theorem dX3_arrive_112 : decode cX3_arrive 112 = .ok (.iload_n 1, 1) := by decide +kernel
theorem dX3_arrive_113 : decode cX3_arrive 113 = .ok (.iaload, 1) := by decide +kernel
theorem dX3_arrive_114 : decode cX3_arrive 114 = .ok (.invokevirtual 79, 3) := by decide +kernel
theorem dX3_arrive_117 : decode cX3_arrive 117 = .ok (.ifCond .ne 5, 3) := by decide +kernel
theorem dX3_arrive_120 : decode cX3_arrive 120 = .ok (.iconst 0, 1) := by decide +kernel
theorem dX3_arrive_121 : decode cX3_arrive 121 = .ok (.ireturn, 1) := by decide +kernel
theorem dX3_arrive_122 : decode cX3_arrive 122 = .ok (.aload 4, 2) := by decide +kernel
theorem dX3_arrive_124 : decode cX3_arrive 124 = .ok (.iload_n 1, 1) := by decide +kernel
theorem dX3_arrive_125 : decode cX3_arrive 125 = .ok (.invokevirtual 82, 3) := by decide +kernel
theorem dX3_arrive_128 : decode cX3_arrive 128 = .ok (.aload_n 0, 1) := by decide +kernel
theorem dX3_arrive_129 : decode cX3_arrive 129 = .ok (.getfield 32, 3) := by decide +kernel
theorem dX3_arrive_132 : decode cX3_arrive 132 = .ok (.getfield 86, 3) := by decide +kernel
theorem dX3_arrive_135 : decode cX3_arrive 135 = .ok (.iload_n 1, 1) := by decide +kernel
theorem dX3_arrive_136 : decode cX3_arrive 136 = .ok (.iaload, 1) := by decide +kernel
theorem dX3_arrive_137 : decode cX3_arrive 137 = .ok (.ifCond .eq 10, 3) := by decide +kernel
theorem dX3_arrive_140 : decode cX3_arrive 140 = .ok (.aload_n 0, 1) := by decide +kernel
theorem dX3_arrive_141 : decode cX3_arrive 141 = .ok (.iload_n 1, 1) := by decide +kernel
theorem dX3_arrive_142 : decode cX3_arrive 142 = .ok (.aload 4, 2) := by decide +kernel
theorem dX3_arrive_144 : decode cX3_arrive 144 = .ok (.invokevirtual 89, 3) := by decide +kernel
theorem dX3_arrive_147 : decode cX3_arrive 147 = .ok (.iload_n 3, 1) := by decide +kernel
theorem dX3_arrive_148 : decode cX3_arrive 148 = .ok (.iconst 1, 1) := by decide +kernel
theorem dX3_arrive_149 : decode cX3_arrive 149 = .ok (.iload_n 2, 1) := by decide +kernel
theorem dX3_arrive_150 : decode cX3_arrive 150 = .ok (.ishl, 1) := by decide +kernel
theorem dX3_arrive_151 : decode cX3_arrive 151 = .ok (.ior, 1) := by decide +kernel
theorem dX3_arrive_152 : decode cX3_arrive 152 = .ok (.istore 5, 2) := by decide +kernel
theorem dX3_arrive_154 : decode cX3_arrive 154 = .ok (.aload_n 0, 1) := by decide +kernel
theorem dX3_arrive_155 : decode cX3_arrive 155 = .ok (.getfield 45, 3) := by decide +kernel
theorem dX3_arrive_158 : decode cX3_arrive 158 = .ok (.iload_n 1, 1) := by decide +kernel
theorem dX3_arrive_159 : decode cX3_arrive 159 = .ok (.iload_n 2, 1) := by decide +kernel
theorem dX3_arrive_160 : decode cX3_arrive 160 = .ok (.aload_n 0, 1) := by decide +kernel
theorem dX3_arrive_161 : decode cX3_arrive 161 = .ok (.getfield 25, 3) := by decide +kernel
theorem dX3_arrive_164 : decode cX3_arrive 164 = .ok (.iconst 1, 1) := by decide +kernel
theorem dX3_arrive_165 : decode cX3_arrive 165 = .ok (.iload_n 2, 1) := by decide +kernel
theorem dX3_arrive_166 : decode cX3_arrive 166 = .ok (.ishl, 1) := by decide +kernel
theorem dX3_arrive_167 : decode cX3_arrive 167 = .ok (.invokevirtual 93, 3) := by decide +kernel
theorem dX3_arrive_170 : decode cX3_arrive 170 = .ok (.iload 5, 2) := by decide +kernel
theorem dX3_arrive_172 : decode cX3_arrive 172 = .ok (.iconst (-1), 1) := by decide +kernel
theorem dX3_arrive_173 : decode cX3_arrive 173 = .ok (.ixor, 1) := by decide +kernel
theorem dX3_arrive_174 : decode cX3_arrive 174 = .ok (.iand, 1) := by decide +kernel
theorem dX3_arrive_175 : decode cX3_arrive 175 = .ok (.iload 5, 2) := by decide +kernel
theorem dX3_arrive_177 : decode cX3_arrive 177 = .ok (.invokevirtual 97, 3) := by decide +kernel
theorem dX3_arrive_180 : decode cX3_arrive 180 = .ok (.iconst 1, 1) := by decide +kernel
theorem dX3_arrive_181 : decode cX3_arrive 181 = .ok (.ireturn, 1) := by decide +kernel
theorem dX3_actOnTarget_0 : decode cX3_actOnTarget 0 = .ok (.aload_n 0, 1) := by decide +kernel
theorem dX3_actOnTarget_1 : decode cX3_actOnTarget 1 = .ok (.getfield 32, 3) := by decide +kernel
theorem dX3_actOnTarget_4 : decode cX3_actOnTarget 4 = .ok (.getfield 101, 3) := by decide +kernel
theorem dX3_actOnTarget_7 : decode cX3_actOnTarget 7 = .ok (.iload_n 1, 1) := by decide +kernel
theorem dX3_actOnTarget_8 : decode cX3_actOnTarget 8 = .ok (.iaload, 1) := by decide +kernel
theorem dX3_actOnTarget_9 : decode cX3_actOnTarget 9 = .ok (.istore_n 3, 1) := by decide +kernel
theorem dX3_actOnTarget_10 : decode cX3_actOnTarget 10 = .ok (.aload_n 0, 1) := by decide +kernel
theorem dX3_actOnTarget_11 : decode cX3_actOnTarget 11 = .ok (.getfield 32, 3) := by decide +kernel
theorem dX3_actOnTarget_14 : decode cX3_actOnTarget 14 = .ok (.getfield 69, 3) := by decide +kernel
theorem dX3_actOnTarget_17 : decode cX3_actOnTarget 17 = .ok (.iload_n 1, 1) := by decide +kernel
theorem dX3_actOnTarget_18 : decode cX3_actOnTarget 18 = .ok (.iaload, 1) := by decide +kernel
theorem dX3_actOnTarget_19 : decode cX3_actOnTarget 19 = .ok (.istore 4, 2) := by decide +kernel
theorem dX3_actOnTarget_21 : decode cX3_actOnTarget 21 = .ok (.aload_n 2, 1) := by decide +kernel
theorem dX3_actOnTarget_22 : decode cX3_actOnTarget 22 = .ok (.iload_n 3, 1) := by decide +kernel
theorem dX3_actOnTarget_23 : decode cX3_actOnTarget 23 = .ok (.invokevirtual 104, 3) := by decide +kernel
theorem dX3_actOnTarget_26 : decode cX3_actOnTarget 26 = .ok (.ifCond .eq 48, 3) := by decide +kernel
theorem dX3_actOnTarget_29 : decode cX3_actOnTarget 29 = .ok (.aload_n 0, 1) := by decide +kernel
theorem dX3_actOnTarget_30 : decode cX3_actOnTarget 30 = .ok (.getfield 32, 3) := by decide +kernel
theorem dX3_actOnTarget_33 : decode cX3_actOnTarget 33 = .ok (.getfield 69, 3) := by decide +kernel
theorem dX3_actOnTarget_36 : decode cX3_actOnTarget 36 = .ok (.iload_n 3, 1) := by decide +kernel
theorem dX3_actOnTarget_37 : decode cX3_actOnTarget 37 = .ok (.iaload, 1) := by decide +kernel
theorem dX3_actOnTarget_38 : decode cX3_actOnTarget 38 = .ok (.iload 4, 2) := by decide +kernel
theorem dX3_actOnTarget_40 : decode cX3_actOnTarget 40 = .ok (.if_icmp .ne 21, 3) := by decide +kernel
theorem dX3_actOnTarget_43 : decode cX3_actOnTarget 43 = .ok (.aload_n 2, 1) := by decide +kernel
theorem dX3_actOnTarget_44 : decode cX3_actOnTarget 44 = .ok (.iload_n 3, 1) := by decide +kernel
theorem dX3_actOnTarget_45 : decode cX3_actOnTarget 45 = .ok (.invokevirtual 107, 3) := by decide +kernel
theorem dX3_actOnTarget_48 : decode cX3_actOnTarget 48 = .ok (.aload_n 0, 1) := by decide +kernel
theorem dX3_actOnTarget_49 : decode cX3_actOnTarget 49 = .ok (.getfield 49, 3) := by decide +kernel
theorem dX3_actOnTarget_52 : decode cX3_actOnTarget 52 = .ok (.iconst 4, 1) := by decide +kernel
theorem dX3_actOnTarget_53 : decode cX3_actOnTarget 53 = .ok (.dup2, 1) := by decide +kernel
theorem dX3_actOnTarget_54 : decode cX3_actOnTarget 54 = .ok (.iaload, 1) := by decide +kernel
theorem dX3_actOnTarget_55 : decode cX3_actOnTarget 55 = .ok (.iconst 1, 1) := by decide +kernel
theorem dX3_actOnTarget_56 : decode cX3_actOnTarget 56 = .ok (.iadd, 1) := by decide +kernel
theorem dX3_actOnTarget_57 : decode cX3_actOnTarget 57 = .ok (.iastore, 1) := by decide +kernel
theorem dX3_actOnTarget_58 : decode cX3_actOnTarget 58 = .ok (.goto 31, 3) := by decide +kernel
theorem dX3_actOnTarget_61 : decode cX3_actOnTarget 61 = .ok (.aload_n 0, 1) := by decide +kernel
theorem dX3_actOnTarget_62 : decode cX3_actOnTarget 62 = .ok (.getfield 49, 3) := by decide +kernel
theorem dX3_actOnTarget_65 : decode cX3_actOnTarget 65 = .ok (.iconst 5, 1) := by decide +kernel
theorem dX3_actOnTarget_66 : decode cX3_actOnTarget 66 = .ok (.dup2, 1) := by decide +kernel
theorem dX3_actOnTarget_67 : decode cX3_actOnTarget 67 = .ok (.iaload, 1) := by decide +kernel
theorem dX3_actOnTarget_68 : decode cX3_actOnTarget 68 = .ok (.iconst 1, 1) := by decide +kernel
theorem dX3_actOnTarget_69 : decode cX3_actOnTarget 69 = .ok (.iadd, 1) := by decide +kernel
theorem dX3_actOnTarget_70 : decode cX3_actOnTarget 70 = .ok (.iastore, 1) := by decide +kernel
theorem dX3_actOnTarget_71 : decode cX3_actOnTarget 71 = .ok (.goto 18, 3) := by decide +kernel
theorem dX3_actOnTarget_74 : decode cX3_actOnTarget 74 = .ok (.aload_n 2, 1) := by decide +kernel
theorem dX3_actOnTarget_75 : decode cX3_actOnTarget 75 = .ok (.iload_n 3, 1) := by decide +kernel
theorem dX3_actOnTarget_76 : decode cX3_actOnTarget 76 = .ok (.invokevirtual 59, 3) := by decide +kernel
theorem dX3_actOnTarget_79 : decode cX3_actOnTarget 79 = .ok (.ifCond .ne 10, 3) := by decide +kernel
theorem dX3_actOnTarget_82 : decode cX3_actOnTarget 82 = .ok (.aload_n 2, 1) := by decide +kernel
theorem dX3_actOnTarget_83 : decode cX3_actOnTarget 83 = .ok (.iload_n 3, 1) := by decide +kernel
theorem dX3_actOnTarget_84 : decode cX3_actOnTarget 84 = .ok (.iload 4, 2) := by decide +kernel
theorem dX3_actOnTarget_86 : decode cX3_actOnTarget 86 = .ok (.invokevirtual 110, 3) := by decide +kernel
theorem dX3_actOnTarget_89 : decode cX3_actOnTarget 89 = .ok (.return_, 1) := by decide +kernel
theorem dX3_performRound_0 : decode cX3_performRound 0 = .ok (.aload_n 1, 1) := by decide +kernel
theorem dX3_performRound_1 : decode cX3_performRound 1 = .ok (.aload_n 0, 1) := by decide +kernel
theorem dX3_performRound_2 : decode cX3_performRound 2 = .ok (.getfield 45, 3) := by decide +kernel
theorem dX3_performRound_5 : decode cX3_performRound 5 = .ok (.invokevirtual 114, 3) := by decide +kernel
theorem dX3_performRound_8 : decode cX3_performRound 8 = .ok (.aload_n 0, 1) := by decide +kernel
theorem dX3_performRound_9 : decode cX3_performRound 9 = .ok (.getfield 45, 3) := by decide +kernel
theorem dX3_performRound_12 : decode cX3_performRound 12 = .ok (.invokevirtual 118, 3) := by decide +kernel
theorem dX3_performRound_15 : decode cX3_performRound 15 = .ok (.iconst 0, 1) := by decide +kernel
theorem dX3_performRound_16 : decode cX3_performRound 16 = .ok (.istore_n 2, 1) := by decide +kernel
theorem dX3_performRound_17 : decode cX3_performRound 17 = .ok (.iconst 0, 1) := by decide +kernel
theorem dX3_performRound_18 : decode cX3_performRound 18 = .ok (.istore_n 3, 1) := by decide +kernel
theorem dX3_performRound_19 : decode cX3_performRound 19 = .ok (.iload_n 3, 1) := by decide +kernel
theorem dX3_performRound_20 : decode cX3_performRound 20 = .ok (.aload_n 0, 1) := by decide +kernel
theorem dX3_performRound_21 : decode cX3_performRound 21 = .ok (.getfield 32, 3) := by decide +kernel
theorem dX3_performRound_24 : decode cX3_performRound 24 = .ok (.getfield 121, 3) := by decide +kernel
theorem dX3_performRound_27 : decode cX3_performRound 27 = .ok (.if_icmp .ge 86, 3) := by decide +kernel
theorem dX3_performRound_30 : decode cX3_performRound 30 = .ok (.iconst 0, 1) := by decide +kernel
theorem dX3_performRound_31 : decode cX3_performRound 31 = .ok (.istore 4, 2) := by decide +kernel
theorem dX3_performRound_33 : decode cX3_performRound 33 = .ok (.iload 4, 2) := by decide +kernel
theorem dX3_performRound_35 : decode cX3_performRound 35 = .ok (.bipush 6, 2) := by decide +kernel
theorem dX3_performRound_37 : decode cX3_performRound 37 = .ok (.if_icmp .ge 70, 3) := by decide +kernel
theorem dX3_performRound_40 : decode cX3_performRound 40 = .ok (.iload_n 3, 1) := by decide +kernel
theorem dX3_performRound_41 : decode cX3_performRound 41 = .ok (.iload 4, 2) := by decide +kernel
theorem dX3_performRound_43 : decode cX3_performRound 43 = .ok (.invokestatic 124, 3) := by decide +kernel
theorem dX3_performRound_46 : decode cX3_performRound 46 = .ok (.istore 5, 2) := by decide +kernel
theorem dX3_performRound_48 : decode cX3_performRound 48 = .ok (.iconst 0, 1) := by decide +kernel
theorem dX3_performRound_49 : decode cX3_performRound 49 = .ok (.istore 6, 2) := by decide +kernel
theorem dX3_performRound_51 : decode cX3_performRound 51 = .ok (.iload 6, 2) := by decide +kernel
theorem dX3_performRound_53 : decode cX3_performRound 53 = .ok (.bipush 6, 2) := by decide +kernel
theorem dX3_performRound_55 : decode cX3_performRound 55 = .ok (.if_icmp .ge 46, 3) := by decide +kernel
theorem dX3_performRound_58 : decode cX3_performRound 58 = .ok (.aload_n 1, 1) := by decide +kernel
theorem dX3_performRound_59 : decode cX3_performRound 59 = .ok (.getfield 128, 3) := by decide +kernel
theorem dX3_performRound_62 : decode cX3_performRound 62 = .ok (.iload 5, 2) := by decide +kernel
theorem dX3_performRound_64 : decode cX3_performRound 64 = .ok (.iaload, 1) := by decide +kernel
theorem dX3_performRound_65 : decode cX3_performRound 65 = .ok (.iload 6, 2) := by decide +kernel
theorem dX3_performRound_67 : decode cX3_performRound 67 = .ok (.invokestatic 131, 3) := by decide +kernel
theorem dX3_performRound_70 : decode cX3_performRound 70 = .ok (.ifCond .eq 25, 3) := by decide +kernel
theorem dX3_performRound_73 : decode cX3_performRound 73 = .ok (.aload_n 0, 1) := by decide +kernel
theorem dX3_performRound_74 : decode cX3_performRound 74 = .ok (.iload_n 3, 1) := by decide +kernel
theorem dX3_performRound_75 : decode cX3_performRound 75 = .ok (.iload 4, 2) := by decide +kernel
theorem dX3_performRound_77 : decode cX3_performRound 77 = .ok (.iload 6, 2) := by decide +kernel
theorem dX3_performRound_79 : decode cX3_performRound 79 = .ok (.aload_n 1, 1) := by decide +kernel
theorem dX3_performRound_80 : decode cX3_performRound 80 = .ok (.getfield 134, 3) := by decide +kernel
theorem dX3_performRound_83 : decode cX3_performRound 83 = .ok (.iload 5, 2) := by decide +kernel
theorem dX3_performRound_85 : decode cX3_performRound 85 = .ok (.iaload, 1) := by decide +kernel
theorem dX3_performRound_86 : decode cX3_performRound 86 = .ok (.invokevirtual 137, 3) := by decide +kernel
theorem dX3_performRound_89 : decode cX3_performRound 89 = .ok (.ifCond .eq 6, 3) := by decide +kernel
theorem dX3_performRound_92 : decode cX3_performRound 92 = .ok (.iinc 2 1, 3) := by decide +kernel
theorem dX3_performRound_95 : decode cX3_performRound 95 = .ok (.iinc 6 1, 3) := by decide +kernel
theorem dX3_performRound_98 : decode cX3_performRound 98 = .ok (.goto (-47), 3) := by decide +kernel
theorem dX3_performRound_101 : decode cX3_performRound 101 = .ok (.iinc 4 1, 3) := by decide +kernel
theorem dX3_performRound_104 : decode cX3_performRound 104 = .ok (.goto (-71), 3) := by decide +kernel
theorem dX3_performRound_107 : decode cX3_performRound 107 = .ok (.iinc 3 1, 3) := by decide +kernel
theorem dX3_performRound_110 : decode cX3_performRound 110 = .ok (.goto (-91), 3) := by decide +kernel
theorem dX3_performRound_113 : decode cX3_performRound 113 = .ok (.iload_n 2, 1) := by decide +kernel
theorem dX3_performRound_114 : decode cX3_performRound 114 = .ok (.ireturn, 1) := by decide +kernel
theorem dX3_sendTo_0 : decode cX3_sendTo 0 = .ok (.aload_n 0, 1) := by decide +kernel
theorem dX3_sendTo_1 : decode cX3_sendTo 1 = .ok (.getfield 25, 3) := by decide +kernel
theorem dX3_sendTo_4 : decode cX3_sendTo 4 = .ok (.iload_n 2, 1) := by decide +kernel
theorem dX3_sendTo_5 : decode cX3_sendTo 5 = .ok (.iload_n 3, 1) := by decide +kernel
theorem dX3_sendTo_6 : decode cX3_sendTo 6 = .ok (.invokevirtual 141, 3) := by decide +kernel
theorem dX3_sendTo_9 : decode cX3_sendTo 9 = .ok (.istore 5, 2) := by decide +kernel
theorem dX3_sendTo_11 : decode cX3_sendTo 11 = .ok (.iload 5, 2) := by decide +kernel
theorem dX3_sendTo_13 : decode cX3_sendTo 13 = .ok (.iconst (-1), 1) := by decide +kernel
theorem dX3_sendTo_14 : decode cX3_sendTo 14 = .ok (.if_icmp .ne 5, 3) := by decide +kernel
theorem dX3_sendTo_17 : decode cX3_sendTo 17 = .ok (.iconst 0, 1) := by decide +kernel
theorem dX3_sendTo_18 : decode cX3_sendTo 18 = .ok (.ireturn, 1) := by decide +kernel
theorem dX3_sendTo_19 : decode cX3_sendTo 19 = .ok (.aload_n 0, 1) := by decide +kernel
theorem dX3_sendTo_20 : decode cX3_sendTo 20 = .ok (.getfield 25, 3) := by decide +kernel
theorem dX3_sendTo_23 : decode cX3_sendTo 23 = .ok (.getfield 144, 3) := by decide +kernel
theorem dX3_sendTo_26 : decode cX3_sendTo 26 = .ok (.iload 5, 2) := by decide +kernel
theorem dX3_sendTo_28 : decode cX3_sendTo 28 = .ok (.iaload, 1) := by decide +kernel
theorem dX3_sendTo_29 : decode cX3_sendTo 29 = .ok (.iconst 1, 1) := by decide +kernel
theorem dX3_sendTo_30 : decode cX3_sendTo 30 = .ok (.if_icmp .ne 28, 3) := by decide +kernel
theorem dX3_sendTo_33 : decode cX3_sendTo 33 = .ok (.aload_n 0, 1) := by decide +kernel
theorem dX3_sendTo_34 : decode cX3_sendTo 34 = .ok (.getfield 49, 3) := by decide +kernel
theorem dX3_sendTo_37 : decode cX3_sendTo 37 = .ok (.iconst 1, 1) := by decide +kernel
theorem dX3_sendTo_38 : decode cX3_sendTo 38 = .ok (.dup2, 1) := by decide +kernel
theorem dX3_sendTo_39 : decode cX3_sendTo 39 = .ok (.iaload, 1) := by decide +kernel
theorem dX3_sendTo_40 : decode cX3_sendTo 40 = .ok (.iconst 1, 1) := by decide +kernel
theorem dX3_sendTo_41 : decode cX3_sendTo 41 = .ok (.iadd, 1) := by decide +kernel
theorem dX3_sendTo_42 : decode cX3_sendTo 42 = .ok (.iastore, 1) := by decide +kernel
theorem dX3_sendTo_43 : decode cX3_sendTo 43 = .ok (.aload_n 0, 1) := by decide +kernel
theorem dX3_sendTo_44 : decode cX3_sendTo 44 = .ok (.getfield 38, 3) := by decide +kernel
theorem dX3_sendTo_47 : decode cX3_sendTo 47 = .ok (.iload_n 3, 1) := by decide +kernel
theorem dX3_sendTo_48 : decode cX3_sendTo 48 = .ok (.aaload, 1) := by decide +kernel
theorem dX3_sendTo_49 : decode cX3_sendTo 49 = .ok (.iload_n 1, 1) := by decide +kernel
theorem dX3_sendTo_50 : decode cX3_sendTo 50 = .ok (.invokevirtual 59, 3) := by decide +kernel
theorem dX3_sendTo_53 : decode cX3_sendTo 53 = .ok (.ifCond .eq 5, 3) := by decide +kernel
theorem dX3_sendTo_56 : decode cX3_sendTo 56 = .ok (.iconst 0, 1) := by decide +kernel
theorem dX3_sendTo_57 : decode cX3_sendTo 57 = .ok (.ireturn, 1) := by decide +kernel
theorem dX3_sendTo_58 : decode cX3_sendTo 58 = .ok (.aload_n 0, 1) := by decide +kernel
theorem dX3_sendTo_59 : decode cX3_sendTo 59 = .ok (.getfield 49, 3) := by decide +kernel
theorem dX3_sendTo_62 : decode cX3_sendTo 62 = .ok (.iconst 0, 1) := by decide +kernel
theorem dX3_sendTo_63 : decode cX3_sendTo 63 = .ok (.dup2, 1) := by decide +kernel
theorem dX3_sendTo_64 : decode cX3_sendTo 64 = .ok (.iaload, 1) := by decide +kernel
theorem dX3_sendTo_65 : decode cX3_sendTo 65 = .ok (.iconst 1, 1) := by decide +kernel
theorem dX3_sendTo_66 : decode cX3_sendTo 66 = .ok (.iadd, 1) := by decide +kernel
theorem dX3_sendTo_67 : decode cX3_sendTo 67 = .ok (.iastore, 1) := by decide +kernel
theorem dX3_sendTo_68 : decode cX3_sendTo 68 = .ok (.aload_n 0, 1) := by decide +kernel
theorem dX3_sendTo_69 : decode cX3_sendTo 69 = .ok (.iload_n 1, 1) := by decide +kernel
theorem dX3_sendTo_70 : decode cX3_sendTo 70 = .ok (.iload_n 3, 1) := by decide +kernel
theorem dX3_sendTo_71 : decode cX3_sendTo 71 = .ok (.iload 4, 2) := by decide +kernel
theorem dX3_sendTo_73 : decode cX3_sendTo 73 = .ok (.invokevirtual 147, 3) := by decide +kernel
theorem dX3_sendTo_76 : decode cX3_sendTo 76 = .ok (.ireturn, 1) := by decide +kernel
theorem dX3_beginDay_0 : decode cX3_beginDay 0 = .ok (.aload_n 0, 1) := by decide +kernel
theorem dX3_beginDay_1 : decode cX3_beginDay 1 = .ok (.dup, 1) := by decide +kernel
theorem dX3_beginDay_2 : decode cX3_beginDay 2 = .ok (.getfield 9, 3) := by decide +kernel
theorem dX3_beginDay_5 : decode cX3_beginDay 5 = .ok (.iconst 1, 1) := by decide +kernel
theorem dX3_beginDay_6 : decode cX3_beginDay 6 = .ok (.iadd, 1) := by decide +kernel
theorem dX3_beginDay_7 : decode cX3_beginDay 7 = .ok (.putfield 9, 3) := by decide +kernel
theorem dX3_beginDay_10 : decode cX3_beginDay 10 = .ok (.iconst 0, 1) := by decide +kernel
theorem dX3_beginDay_11 : decode cX3_beginDay 11 = .ok (.istore_n 1, 1) := by decide +kernel
theorem dX3_beginDay_12 : decode cX3_beginDay 12 = .ok (.iconst 0, 1) := by decide +kernel
theorem dX3_beginDay_13 : decode cX3_beginDay 13 = .ok (.istore_n 2, 1) := by decide +kernel
theorem dX3_beginDay_14 : decode cX3_beginDay 14 = .ok (.iload_n 2, 1) := by decide +kernel
theorem dX3_beginDay_15 : decode cX3_beginDay 15 = .ok (.bipush 6, 2) := by decide +kernel
theorem dX3_beginDay_17 : decode cX3_beginDay 17 = .ok (.if_icmp .ge 32, 3) := by decide +kernel
theorem dX3_beginDay_20 : decode cX3_beginDay 20 = .ok (.iload_n 1, 1) := by decide +kernel
theorem dX3_beginDay_21 : decode cX3_beginDay 21 = .ok (.aload_n 0, 1) := by decide +kernel
theorem dX3_beginDay_22 : decode cX3_beginDay 22 = .ok (.aload_n 0, 1) := by decide +kernel
theorem dX3_beginDay_23 : decode cX3_beginDay 23 = .ok (.getfield 38, 3) := by decide +kernel
theorem dX3_beginDay_26 : decode cX3_beginDay 26 = .ok (.iload_n 2, 1) := by decide +kernel
theorem dX3_beginDay_27 : decode cX3_beginDay 27 = .ok (.aaload, 1) := by decide +kernel
theorem dX3_beginDay_28 : decode cX3_beginDay 28 = .ok (.invokevirtual 151, 3) := by decide +kernel
theorem dX3_beginDay_31 : decode cX3_beginDay 31 = .ok (.iadd, 1) := by decide +kernel
theorem dX3_beginDay_32 : decode cX3_beginDay 32 = .ok (.istore_n 1, 1) := by decide +kernel
theorem dX3_beginDay_33 : decode cX3_beginDay 33 = .ok (.aload_n 0, 1) := by decide +kernel
theorem dX3_beginDay_34 : decode cX3_beginDay 34 = .ok (.aload_n 0, 1) := by decide +kernel
theorem dX3_beginDay_35 : decode cX3_beginDay 35 = .ok (.getfield 38, 3) := by decide +kernel
theorem dX3_beginDay_38 : decode cX3_beginDay 38 = .ok (.iload_n 2, 1) := by decide +kernel
theorem dX3_beginDay_39 : decode cX3_beginDay 39 = .ok (.aaload, 1) := by decide +kernel
theorem dX3_beginDay_40 : decode cX3_beginDay 40 = .ok (.invokevirtual 155, 3) := by decide +kernel
theorem dX3_beginDay_43 : decode cX3_beginDay 43 = .ok (.iinc 2 1, 3) := by decide +kernel
theorem dX3_beginDay_46 : decode cX3_beginDay 46 = .ok (.goto (-32), 3) := by decide +kernel
theorem dX3_beginDay_49 : decode cX3_beginDay 49 = .ok (.iload_n 1, 1) := by decide +kernel
theorem dX3_beginDay_50 : decode cX3_beginDay 50 = .ok (.ireturn, 1) := by decide +kernel
theorem dX3_expireStore_0 : decode cX3_expireStore 0 = .ok (.iconst 0, 1) := by decide +kernel
theorem dX3_expireStore_1 : decode cX3_expireStore 1 = .ok (.istore_n 2, 1) := by decide +kernel
theorem dX3_expireStore_2 : decode cX3_expireStore 2 = .ok (.iconst 0, 1) := by decide +kernel
theorem dX3_expireStore_3 : decode cX3_expireStore 3 = .ok (.istore_n 3, 1) := by decide +kernel
theorem dX3_expireStore_4 : decode cX3_expireStore 4 = .ok (.iload_n 3, 1) := by decide +kernel
theorem dX3_expireStore_5 : decode cX3_expireStore 5 = .ok (.aload_n 0, 1) := by decide +kernel
theorem dX3_expireStore_6 : decode cX3_expireStore 6 = .ok (.getfield 32, 3) := by decide +kernel
theorem dX3_expireStore_9 : decode cX3_expireStore 9 = .ok (.getfield 121, 3) := by decide +kernel
theorem dX3_expireStore_12 : decode cX3_expireStore 12 = .ok (.if_icmp .ge 60, 3) := by decide +kernel
theorem dX3_expireStore_15 : decode cX3_expireStore 15 = .ok (.aload_n 0, 1) := by decide +kernel
theorem dX3_expireStore_16 : decode cX3_expireStore 16 = .ok (.getfield 9, 3) := by decide +kernel
theorem dX3_expireStore_19 : decode cX3_expireStore 19 = .ok (.aload_n 0, 1) := by decide +kernel
theorem dX3_expireStore_20 : decode cX3_expireStore 20 = .ok (.getfield 32, 3) := by decide +kernel
theorem dX3_expireStore_23 : decode cX3_expireStore 23 = .ok (.getfield 63, 3) := by decide +kernel
theorem dX3_expireStore_26 : decode cX3_expireStore 26 = .ok (.iload_n 3, 1) := by decide +kernel
theorem dX3_expireStore_27 : decode cX3_expireStore 27 = .ok (.iaload, 1) := by decide +kernel
theorem dX3_expireStore_28 : decode cX3_expireStore 28 = .ok (.isub, 1) := by decide +kernel
theorem dX3_expireStore_29 : decode cX3_expireStore 29 = .ok (.istore 4, 2) := by decide +kernel
theorem dX3_expireStore_31 : decode cX3_expireStore 31 = .ok (.aload_n 1, 1) := by decide +kernel
theorem dX3_expireStore_32 : decode cX3_expireStore 32 = .ok (.iload_n 3, 1) := by decide +kernel
theorem dX3_expireStore_33 : decode cX3_expireStore 33 = .ok (.invokevirtual 104, 3) := by decide +kernel
theorem dX3_expireStore_36 : decode cX3_expireStore 36 = .ok (.ifCond .eq 30, 3) := by decide +kernel
theorem dX3_expireStore_39 : decode cX3_expireStore 39 = .ok (.iload 4, 2) := by decide +kernel
theorem dX3_expireStore_41 : decode cX3_expireStore 41 = .ok (.aload_n 0, 1) := by decide +kernel
theorem dX3_expireStore_42 : decode cX3_expireStore 42 = .ok (.getfield 18, 3) := by decide +kernel
theorem dX3_expireStore_45 : decode cX3_expireStore 45 = .ok (.aload_n 0, 1) := by decide +kernel
theorem dX3_expireStore_46 : decode cX3_expireStore 46 = .ok (.getfield 32, 3) := by decide +kernel
theorem dX3_expireStore_49 : decode cX3_expireStore 49 = .ok (.getfield 76, 3) := by decide +kernel
theorem dX3_expireStore_52 : decode cX3_expireStore 52 = .ok (.iload_n 3, 1) := by decide +kernel
theorem dX3_expireStore_53 : decode cX3_expireStore 53 = .ok (.iaload, 1) := by decide +kernel
theorem dX3_expireStore_54 : decode cX3_expireStore 54 = .ok (.iaload, 1) := by decide +kernel
theorem dX3_expireStore_55 : decode cX3_expireStore 55 = .ok (.if_icmp .lt 11, 3) := by decide +kernel
theorem dX3_expireStore_58 : decode cX3_expireStore 58 = .ok (.aload_n 1, 1) := by decide +kernel
theorem dX3_expireStore_59 : decode cX3_expireStore 59 = .ok (.iload_n 3, 1) := by decide +kernel
theorem dX3_expireStore_60 : decode cX3_expireStore 60 = .ok (.invokevirtual 107, 3) := by decide +kernel
theorem dX3_expireStore_63 : decode cX3_expireStore 63 = .ok (.iinc 2 1, 3) := by decide +kernel
theorem dX3_expireStore_66 : decode cX3_expireStore 66 = .ok (.iinc 3 1, 3) := by decide +kernel
theorem dX3_expireStore_69 : decode cX3_expireStore 69 = .ok (.goto (-65), 3) := by decide +kernel
theorem dX3_expireStore_72 : decode cX3_expireStore 72 = .ok (.iload_n 2, 1) := by decide +kernel
theorem dX3_expireStore_73 : decode cX3_expireStore 73 = .ok (.ireturn, 1) := by decide +kernel
theorem dX3_forgetOld_0 : decode cX3_forgetOld 0 = .ok (.iconst 0, 1) := by decide +kernel
theorem dX3_forgetOld_1 : decode cX3_forgetOld 1 = .ok (.istore_n 2, 1) := by decide +kernel
theorem dX3_forgetOld_2 : decode cX3_forgetOld 2 = .ok (.iload_n 2, 1) := by decide +kernel
theorem dX3_forgetOld_3 : decode cX3_forgetOld 3 = .ok (.aload_n 0, 1) := by decide +kernel
theorem dX3_forgetOld_4 : decode cX3_forgetOld 4 = .ok (.getfield 32, 3) := by decide +kernel
theorem dX3_forgetOld_7 : decode cX3_forgetOld 7 = .ok (.getfield 121, 3) := by decide +kernel
theorem dX3_forgetOld_10 : decode cX3_forgetOld 10 = .ok (.if_icmp .ge 42, 3) := by decide +kernel
theorem dX3_forgetOld_13 : decode cX3_forgetOld 13 = .ok (.aload_n 1, 1) := by decide +kernel
theorem dX3_forgetOld_14 : decode cX3_forgetOld 14 = .ok (.iload_n 2, 1) := by decide +kernel
theorem dX3_forgetOld_15 : decode cX3_forgetOld 15 = .ok (.invokevirtual 59, 3) := by decide +kernel
theorem dX3_forgetOld_18 : decode cX3_forgetOld 18 = .ok (.ifCond .eq 28, 3) := by decide +kernel
theorem dX3_forgetOld_21 : decode cX3_forgetOld 21 = .ok (.aload_n 0, 1) := by decide +kernel
theorem dX3_forgetOld_22 : decode cX3_forgetOld 22 = .ok (.getfield 9, 3) := by decide +kernel
theorem dX3_forgetOld_25 : decode cX3_forgetOld 25 = .ok (.aload_n 1, 1) := by decide +kernel
theorem dX3_forgetOld_26 : decode cX3_forgetOld 26 = .ok (.getfield 66, 3) := by decide +kernel
theorem dX3_forgetOld_29 : decode cX3_forgetOld 29 = .ok (.iload_n 2, 1) := by decide +kernel
theorem dX3_forgetOld_30 : decode cX3_forgetOld 30 = .ok (.iaload, 1) := by decide +kernel
theorem dX3_forgetOld_31 : decode cX3_forgetOld 31 = .ok (.isub, 1) := by decide +kernel
theorem dX3_forgetOld_32 : decode cX3_forgetOld 32 = .ok (.aload_n 0, 1) := by decide +kernel
theorem dX3_forgetOld_33 : decode cX3_forgetOld 33 = .ok (.getfield 15, 3) := by decide +kernel
theorem dX3_forgetOld_36 : decode cX3_forgetOld 36 = .ok (.if_icmp .lt 10, 3) := by decide +kernel
theorem dX3_forgetOld_39 : decode cX3_forgetOld 39 = .ok (.aload_n 1, 1) := by decide +kernel
theorem dX3_forgetOld_40 : decode cX3_forgetOld 40 = .ok (.getfield 66, 3) := by decide +kernel
theorem dX3_forgetOld_43 : decode cX3_forgetOld 43 = .ok (.iload_n 2, 1) := by decide +kernel
theorem dX3_forgetOld_44 : decode cX3_forgetOld 44 = .ok (.iconst (-1), 1) := by decide +kernel
theorem dX3_forgetOld_45 : decode cX3_forgetOld 45 = .ok (.iastore, 1) := by decide +kernel
theorem dX3_forgetOld_46 : decode cX3_forgetOld 46 = .ok (.iinc 2 1, 3) := by decide +kernel
theorem dX3_forgetOld_49 : decode cX3_forgetOld 49 = .ok (.goto (-47), 3) := by decide +kernel
theorem dX3_forgetOld_52 : decode cX3_forgetOld 52 = .ok (.return_, 1) := by decide +kernel
theorem dX3_copyFrom_0 : decode cX3_copyFrom 0 = .ok (.aload_n 0, 1) := by decide +kernel
theorem dX3_copyFrom_1 : decode cX3_copyFrom 1 = .ok (.aload_n 1, 1) := by decide +kernel
theorem dX3_copyFrom_2 : decode cX3_copyFrom 2 = .ok (.getfield 9, 3) := by decide +kernel
theorem dX3_copyFrom_5 : decode cX3_copyFrom 5 = .ok (.putfield 9, 3) := by decide +kernel
theorem dX3_copyFrom_8 : decode cX3_copyFrom 8 = .ok (.aload_n 0, 1) := by decide +kernel
theorem dX3_copyFrom_9 : decode cX3_copyFrom 9 = .ok (.aload_n 1, 1) := by decide +kernel
theorem dX3_copyFrom_10 : decode cX3_copyFrom 10 = .ok (.getfield 15, 3) := by decide +kernel
theorem dX3_copyFrom_13 : decode cX3_copyFrom 13 = .ok (.putfield 15, 3) := by decide +kernel
theorem dX3_copyFrom_16 : decode cX3_copyFrom 16 = .ok (.aload_n 1, 1) := by decide +kernel
theorem dX3_copyFrom_17 : decode cX3_copyFrom 17 = .ok (.getfield 18, 3) := by decide +kernel
theorem dX3_copyFrom_20 : decode cX3_copyFrom 20 = .ok (.iconst 0, 1) := by decide +kernel
theorem dX3_copyFrom_21 : decode cX3_copyFrom 21 = .ok (.aload_n 0, 1) := by decide +kernel
theorem dX3_copyFrom_22 : decode cX3_copyFrom 22 = .ok (.getfield 18, 3) := by decide +kernel
theorem dX3_copyFrom_25 : decode cX3_copyFrom 25 = .ok (.iconst 0, 1) := by decide +kernel
theorem dX3_copyFrom_26 : decode cX3_copyFrom 26 = .ok (.iconst 4, 1) := by decide +kernel
theorem dX3_copyFrom_27 : decode cX3_copyFrom 27 = .ok (.invokestatic 159, 3) := by decide +kernel
theorem dX3_copyFrom_30 : decode cX3_copyFrom 30 = .ok (.aload_n 0, 1) := by decide +kernel
theorem dX3_copyFrom_31 : decode cX3_copyFrom 31 = .ok (.getfield 25, 3) := by decide +kernel
theorem dX3_copyFrom_34 : decode cX3_copyFrom 34 = .ok (.aload_n 1, 1) := by decide +kernel
theorem dX3_copyFrom_35 : decode cX3_copyFrom 35 = .ok (.getfield 25, 3) := by decide +kernel
theorem dX3_copyFrom_38 : decode cX3_copyFrom 38 = .ok (.invokevirtual 165, 3) := by decide +kernel
theorem dX3_copyFrom_41 : decode cX3_copyFrom 41 = .ok (.aload_n 0, 1) := by decide +kernel
theorem dX3_copyFrom_42 : decode cX3_copyFrom 42 = .ok (.getfield 32, 3) := by decide +kernel
theorem dX3_copyFrom_45 : decode cX3_copyFrom 45 = .ok (.aload_n 1, 1) := by decide +kernel
theorem dX3_copyFrom_46 : decode cX3_copyFrom 46 = .ok (.getfield 32, 3) := by decide +kernel
theorem dX3_copyFrom_49 : decode cX3_copyFrom 49 = .ok (.invokevirtual 168, 3) := by decide +kernel
theorem dX3_copyFrom_52 : decode cX3_copyFrom 52 = .ok (.iconst 0, 1) := by decide +kernel
theorem dX3_copyFrom_53 : decode cX3_copyFrom 53 = .ok (.istore_n 2, 1) := by decide +kernel
theorem dX3_copyFrom_54 : decode cX3_copyFrom 54 = .ok (.iload_n 2, 1) := by decide +kernel
theorem dX3_copyFrom_55 : decode cX3_copyFrom 55 = .ok (.bipush 6, 2) := by decide +kernel
theorem dX3_copyFrom_57 : decode cX3_copyFrom 57 = .ok (.if_icmp .ge 24, 3) := by decide +kernel
theorem dX3_copyFrom_60 : decode cX3_copyFrom 60 = .ok (.aload_n 0, 1) := by decide +kernel
theorem dX3_copyFrom_61 : decode cX3_copyFrom 61 = .ok (.getfield 38, 3) := by decide +kernel
theorem dX3_copyFrom_64 : decode cX3_copyFrom 64 = .ok (.iload_n 2, 1) := by decide +kernel
theorem dX3_copyFrom_65 : decode cX3_copyFrom 65 = .ok (.aaload, 1) := by decide +kernel
theorem dX3_copyFrom_66 : decode cX3_copyFrom 66 = .ok (.aload_n 1, 1) := by decide +kernel
theorem dX3_copyFrom_67 : decode cX3_copyFrom 67 = .ok (.getfield 38, 3) := by decide +kernel
theorem dX3_copyFrom_70 : decode cX3_copyFrom 70 = .ok (.iload_n 2, 1) := by decide +kernel
theorem dX3_copyFrom_71 : decode cX3_copyFrom 71 = .ok (.aaload, 1) := by decide +kernel
theorem dX3_copyFrom_72 : decode cX3_copyFrom 72 = .ok (.invokevirtual 171, 3) := by decide +kernel
theorem dX3_copyFrom_75 : decode cX3_copyFrom 75 = .ok (.iinc 2 1, 3) := by decide +kernel
theorem dX3_copyFrom_78 : decode cX3_copyFrom 78 = .ok (.goto (-24), 3) := by decide +kernel
theorem dX3_copyFrom_81 : decode cX3_copyFrom 81 = .ok (.aload_n 0, 1) := by decide +kernel
theorem dX3_copyFrom_82 : decode cX3_copyFrom 82 = .ok (.getfield 45, 3) := by decide +kernel
theorem dX3_copyFrom_85 : decode cX3_copyFrom 85 = .ok (.aload_n 1, 1) := by decide +kernel
theorem dX3_copyFrom_86 : decode cX3_copyFrom 86 = .ok (.getfield 45, 3) := by decide +kernel
theorem dX3_copyFrom_89 : decode cX3_copyFrom 89 = .ok (.invokevirtual 114, 3) := by decide +kernel
theorem dX3_copyFrom_92 : decode cX3_copyFrom 92 = .ok (.aload_n 1, 1) := by decide +kernel
theorem dX3_copyFrom_93 : decode cX3_copyFrom 93 = .ok (.getfield 49, 3) := by decide +kernel
theorem dX3_copyFrom_96 : decode cX3_copyFrom 96 = .ok (.iconst 0, 1) := by decide +kernel
theorem dX3_copyFrom_97 : decode cX3_copyFrom 97 = .ok (.aload_n 0, 1) := by decide +kernel
theorem dX3_copyFrom_98 : decode cX3_copyFrom 98 = .ok (.getfield 49, 3) := by decide +kernel
theorem dX3_copyFrom_101 : decode cX3_copyFrom 101 = .ok (.iconst 0, 1) := by decide +kernel
theorem dX3_copyFrom_102 : decode cX3_copyFrom 102 = .ok (.bipush 6, 2) := by decide +kernel
theorem dX3_copyFrom_104 : decode cX3_copyFrom 104 = .ok (.invokestatic 159, 3) := by decide +kernel
theorem dX3_copyFrom_107 : decode cX3_copyFrom 107 = .ok (.return_, 1) := by decide +kernel
theorem dX4_init_0 : decode cX4_init 0 = .ok (.aload_n 0, 1) := by decide +kernel
theorem dX4_init_1 : decode cX4_init 1 = .ok (.invokespecial 3, 3) := by decide +kernel
theorem dX4_init_4 : decode cX4_init 4 = .ok (.aload_n 0, 1) := by decide +kernel
theorem dX4_init_5 : decode cX4_init 5 = .ok (.sipush 180, 3) := by decide +kernel
theorem dX4_init_8 : decode cX4_init 8 = .ok (.newarray .int, 2) := by decide +kernel
theorem dX4_init_10 : decode cX4_init 10 = .ok (.putfield 9, 3) := by decide +kernel
theorem dX4_init_13 : decode cX4_init 13 = .ok (.aload_n 0, 1) := by decide +kernel
theorem dX4_init_14 : decode cX4_init 14 = .ok (.sipush 180, 3) := by decide +kernel
theorem dX4_init_17 : decode cX4_init 17 = .ok (.newarray .int, 2) := by decide +kernel
theorem dX4_init_19 : decode cX4_init 19 = .ok (.putfield 15, 3) := by decide +kernel
theorem dX4_init_22 : decode cX4_init 22 = .ok (.return_, 1) := by decide +kernel
theorem dX4_slot_0 : decode cX4_slot 0 = .ok (.iload_n 0, 1) := by decide +kernel
theorem dX4_slot_1 : decode cX4_slot 1 = .ok (.bipush 6, 2) := by decide +kernel
theorem dX4_slot_3 : decode cX4_slot 3 = .ok (.imul, 1) := by decide +kernel
theorem dX4_slot_4 : decode cX4_slot 4 = .ok (.iload_n 1, 1) := by decide +kernel
theorem dX4_slot_5 : decode cX4_slot 5 = .ok (.iadd, 1) := by decide +kernel
theorem dX4_slot_6 : decode cX4_slot 6 = .ok (.ireturn, 1) := by decide +kernel
theorem dX4_put_0 : decode cX4_put 0 = .ok (.aload_n 0, 1) := by decide +kernel
theorem dX4_put_1 : decode cX4_put 1 = .ok (.getfield 9, 3) := by decide +kernel
theorem dX4_put_4 : decode cX4_put 4 = .ok (.iload_n 1, 1) := by decide +kernel
theorem dX4_put_5 : decode cX4_put 5 = .ok (.iload_n 2, 1) := by decide +kernel
theorem dX4_put_6 : decode cX4_put 6 = .ok (.invokestatic 18, 3) := by decide +kernel
theorem dX4_put_9 : decode cX4_put 9 = .ok (.iload_n 3, 1) := by decide +kernel
theorem dX4_put_10 : decode cX4_put 10 = .ok (.iastore, 1) := by decide +kernel
theorem dX4_put_11 : decode cX4_put 11 = .ok (.aload_n 0, 1) := by decide +kernel
theorem dX4_put_12 : decode cX4_put 12 = .ok (.getfield 15, 3) := by decide +kernel
theorem dX4_put_15 : decode cX4_put 15 = .ok (.iload_n 1, 1) := by decide +kernel
theorem dX4_put_16 : decode cX4_put 16 = .ok (.iload_n 2, 1) := by decide +kernel
theorem dX4_put_17 : decode cX4_put 17 = .ok (.invokestatic 18, 3) := by decide +kernel
theorem dX4_put_20 : decode cX4_put 20 = .ok (.iload 4, 2) := by decide +kernel
theorem dX4_put_22 : decode cX4_put 22 = .ok (.iastore, 1) := by decide +kernel
theorem dX4_put_23 : decode cX4_put 23 = .ok (.return_, 1) := by decide +kernel
theorem dX4_size_0 : decode cX4_size 0 = .ok (.iconst 0, 1) := by decide +kernel
theorem dX4_size_1 : decode cX4_size 1 = .ok (.istore_n 1, 1) := by decide +kernel
theorem dX4_size_2 : decode cX4_size 2 = .ok (.aload_n 0, 1) := by decide +kernel
theorem dX4_size_3 : decode cX4_size 3 = .ok (.getfield 9, 3) := by decide +kernel
theorem dX4_size_6 : decode cX4_size 6 = .ok (.astore_n 2, 1) := by decide +kernel
theorem dX4_size_7 : decode cX4_size 7 = .ok (.aload_n 2, 1) := by decide +kernel
theorem dX4_size_8 : decode cX4_size 8 = .ok (.arraylength, 1) := by decide +kernel
theorem dX4_size_9 : decode cX4_size 9 = .ok (.istore_n 3, 1) := by decide +kernel
theorem dX4_size_10 : decode cX4_size 10 = .ok (.iconst 0, 1) := by decide +kernel
theorem dX4_size_11 : decode cX4_size 11 = .ok (.istore 4, 2) := by decide +kernel
theorem dX4_size_13 : decode cX4_size 13 = .ok (.iload 4, 2) := by decide +kernel
theorem dX4_size_15 : decode cX4_size 15 = .ok (.iload_n 3, 1) := by decide +kernel
theorem dX4_size_16 : decode cX4_size 16 = .ok (.if_icmp .ge 23, 3) := by decide +kernel
theorem dX4_size_19 : decode cX4_size 19 = .ok (.aload_n 2, 1) := by decide +kernel
theorem dX4_size_20 : decode cX4_size 20 = .ok (.iload 4, 2) := by decide +kernel
theorem dX4_size_22 : decode cX4_size 22 = .ok (.iaload, 1) := by decide +kernel
theorem dX4_size_23 : decode cX4_size 23 = .ok (.istore 5, 2) := by decide +kernel
theorem dX4_size_25 : decode cX4_size 25 = .ok (.iload_n 1, 1) := by decide +kernel
theorem dX4_size_26 : decode cX4_size 26 = .ok (.iload 5, 2) := by decide +kernel
theorem dX4_size_28 : decode cX4_size 28 = .ok (.invokestatic 22, 3) := by decide +kernel
theorem dX4_size_31 : decode cX4_size 31 = .ok (.iadd, 1) := by decide +kernel
theorem dX4_size_32 : decode cX4_size 32 = .ok (.istore_n 1, 1) := by decide +kernel
theorem dX4_size_33 : decode cX4_size 33 = .ok (.iinc 4 1, 3) := by decide +kernel
theorem dX4_size_36 : decode cX4_size 36 = .ok (.goto (-23), 3) := by decide +kernel
theorem dX4_size_39 : decode cX4_size 39 = .ok (.iload_n 1, 1) := by decide +kernel
theorem dX4_size_40 : decode cX4_size 40 = .ok (.ireturn, 1) := by decide +kernel
theorem dX4_makeEmpty_0 : decode cX4_makeEmpty 0 = .ok (.aload_n 0, 1) := by decide +kernel
theorem dX4_makeEmpty_1 : decode cX4_makeEmpty 1 = .ok (.getfield 9, 3) := by decide +kernel
theorem dX4_makeEmpty_4 : decode cX4_makeEmpty 4 = .ok (.iconst 0, 1) := by decide +kernel
theorem dX4_makeEmpty_5 : decode cX4_makeEmpty 5 = .ok (.invokestatic 28, 3) := by decide +kernel
theorem dX4_makeEmpty_8 : decode cX4_makeEmpty 8 = .ok (.aload_n 0, 1) := by decide +kernel
theorem dX4_makeEmpty_9 : decode cX4_makeEmpty 9 = .ok (.getfield 15, 3) := by decide +kernel
theorem dX4_makeEmpty_12 : decode cX4_makeEmpty 12 = .ok (.iconst 0, 1) := by decide +kernel
theorem dX4_makeEmpty_13 : decode cX4_makeEmpty 13 = .ok (.invokestatic 28, 3) := by decide +kernel
theorem dX4_makeEmpty_16 : decode cX4_makeEmpty 16 = .ok (.return_, 1) := by decide +kernel
theorem dX4_copyFrom_0 : decode cX4_copyFrom 0 = .ok (.aload_n 1, 1) := by decide +kernel
theorem dX4_copyFrom_1 : decode cX4_copyFrom 1 = .ok (.getfield 9, 3) := by decide +kernel
theorem dX4_copyFrom_4 : decode cX4_copyFrom 4 = .ok (.iconst 0, 1) := by decide +kernel
theorem dX4_copyFrom_5 : decode cX4_copyFrom 5 = .ok (.aload_n 0, 1) := by decide +kernel
theorem dX4_copyFrom_6 : decode cX4_copyFrom 6 = .ok (.getfield 9, 3) := by decide +kernel
theorem dX4_copyFrom_9 : decode cX4_copyFrom 9 = .ok (.iconst 0, 1) := by decide +kernel
theorem dX4_copyFrom_10 : decode cX4_copyFrom 10 = .ok (.aload_n 0, 1) := by decide +kernel
theorem dX4_copyFrom_11 : decode cX4_copyFrom 11 = .ok (.getfield 9, 3) := by decide +kernel
theorem dX4_copyFrom_14 : decode cX4_copyFrom 14 = .ok (.arraylength, 1) := by decide +kernel
theorem dX4_copyFrom_15 : decode cX4_copyFrom 15 = .ok (.invokestatic 34, 3) := by decide +kernel
theorem dX4_copyFrom_18 : decode cX4_copyFrom 18 = .ok (.aload_n 1, 1) := by decide +kernel
theorem dX4_copyFrom_19 : decode cX4_copyFrom 19 = .ok (.getfield 15, 3) := by decide +kernel
theorem dX4_copyFrom_22 : decode cX4_copyFrom 22 = .ok (.iconst 0, 1) := by decide +kernel
theorem dX4_copyFrom_23 : decode cX4_copyFrom 23 = .ok (.aload_n 0, 1) := by decide +kernel
theorem dX4_copyFrom_24 : decode cX4_copyFrom 24 = .ok (.getfield 15, 3) := by decide +kernel
theorem dX4_copyFrom_27 : decode cX4_copyFrom 27 = .ok (.iconst 0, 1) := by decide +kernel
theorem dX4_copyFrom_28 : decode cX4_copyFrom 28 = .ok (.aload_n 0, 1) := by decide +kernel
theorem dX4_copyFrom_29 : decode cX4_copyFrom 29 = .ok (.getfield 15, 3) := by decide +kernel
theorem dX4_copyFrom_32 : decode cX4_copyFrom 32 = .ok (.arraylength, 1) := by decide +kernel
theorem dX4_copyFrom_33 : decode cX4_copyFrom 33 = .ok (.invokestatic 34, 3) := by decide +kernel
theorem dX4_copyFrom_36 : decode cX4_copyFrom 36 = .ok (.return_, 1) := by decide +kernel
theorem dX5_init_0 : decode cX5_init 0 = .ok (.aload_n 0, 1) := by decide +kernel
theorem dX5_init_1 : decode cX5_init 1 = .ok (.invokespecial 3, 3) := by decide +kernel
theorem dX5_init_4 : decode cX5_init 4 = .ok (.aload_n 0, 1) := by decide +kernel
theorem dX5_init_5 : decode cX5_init 5 = .ok (.new 9, 3) := by decide +kernel
theorem dX5_init_8 : decode cX5_init 8 = .ok (.dup, 1) := by decide +kernel
theorem dX5_init_9 : decode cX5_init 9 = .ok (.invokespecial 11, 3) := by decide +kernel
theorem dX5_init_12 : decode cX5_init 12 = .ok (.putfield 12, 3) := by decide +kernel
theorem dX5_init_15 : decode cX5_init 15 = .ok (.aload_n 0, 1) := by decide +kernel
theorem dX5_init_16 : decode cX5_init 16 = .ok (.new 16, 3) := by decide +kernel
theorem dX5_init_19 : decode cX5_init 19 = .ok (.dup, 1) := by decide +kernel
theorem dX5_init_20 : decode cX5_init 20 = .ok (.invokespecial 18, 3) := by decide +kernel
theorem dX5_init_23 : decode cX5_init 23 = .ok (.putfield 19, 3) := by decide +kernel
theorem dX5_init_26 : decode cX5_init 26 = .ok (.aload_n 0, 1) := by decide +kernel
theorem dX5_init_27 : decode cX5_init 27 = .ok (.iconst 4, 1) := by decide +kernel
theorem dX5_init_28 : decode cX5_init 28 = .ok (.anewarray 9, 3) := by decide +kernel
theorem dX5_init_31 : decode cX5_init 31 = .ok (.putfield 23, 3) := by decide +kernel
theorem dX5_init_34 : decode cX5_init 34 = .ok (.aload_n 0, 1) := by decide +kernel
theorem dX5_init_35 : decode cX5_init 35 = .ok (.iconst 0, 1) := by decide +kernel
theorem dX5_init_36 : decode cX5_init 36 = .ok (.putfield 27, 3) := by decide +kernel
theorem dX5_init_39 : decode cX5_init 39 = .ok (.aload_n 0, 1) := by decide +kernel
theorem dX5_init_40 : decode cX5_init 40 = .ok (.iconst 4, 1) := by decide +kernel
theorem dX5_init_41 : decode cX5_init 41 = .ok (.newarray .int, 2) := by decide +kernel
theorem dX5_init_43 : decode cX5_init 43 = .ok (.putfield 31, 3) := by decide +kernel
theorem dX5_init_46 : decode cX5_init 46 = .ok (.iconst 0, 1) := by decide +kernel
theorem dX5_init_47 : decode cX5_init 47 = .ok (.istore_n 1, 1) := by decide +kernel
theorem dX5_init_48 : decode cX5_init 48 = .ok (.iload_n 1, 1) := by decide +kernel
theorem dX5_init_49 : decode cX5_init 49 = .ok (.iconst 4, 1) := by decide +kernel
theorem dX5_init_50 : decode cX5_init 50 = .ok (.if_icmp .ge 22, 3) := by decide +kernel
theorem dX5_init_53 : decode cX5_init 53 = .ok (.aload_n 0, 1) := by decide +kernel
theorem dX5_init_54 : decode cX5_init 54 = .ok (.getfield 23, 3) := by decide +kernel
theorem dX5_init_57 : decode cX5_init 57 = .ok (.iload_n 1, 1) := by decide +kernel
theorem dX5_init_58 : decode cX5_init 58 = .ok (.new 9, 3) := by decide +kernel
theorem dX5_init_61 : decode cX5_init 61 = .ok (.dup, 1) := by decide +kernel
theorem dX5_init_62 : decode cX5_init 62 = .ok (.invokespecial 11, 3) := by decide +kernel
theorem dX5_init_65 : decode cX5_init 65 = .ok (.aastore, 1) := by decide +kernel
theorem dX5_init_66 : decode cX5_init 66 = .ok (.iinc 1 1, 3) := by decide +kernel
theorem dX5_init_69 : decode cX5_init 69 = .ok (.goto (-21), 3) := by decide +kernel
theorem dX5_init_72 : decode cX5_init 72 = .ok (.return_, 1) := by decide +kernel
theorem dX5_addLink_0 : decode cX5_addLink 0 = .ok (.iload_n 1, 1) := by decide +kernel
theorem dX5_addLink_1 : decode cX5_addLink 1 = .ok (.bipush 6, 2) := by decide +kernel
theorem dX5_addLink_3 : decode cX5_addLink 3 = .ok (.invokestatic 35, 3) := by decide +kernel
theorem dX5_addLink_6 : decode cX5_addLink 6 = .ok (.ifCond .eq 25, 3) := by decide +kernel
theorem dX5_addLink_9 : decode cX5_addLink 9 = .ok (.iload_n 2, 1) := by decide +kernel
theorem dX5_addLink_10 : decode cX5_addLink 10 = .ok (.bipush 6, 2) := by decide +kernel
theorem dX5_addLink_12 : decode cX5_addLink 12 = .ok (.invokestatic 35, 3) := by decide +kernel
theorem dX5_addLink_15 : decode cX5_addLink 15 = .ok (.ifCond .eq 16, 3) := by decide +kernel
theorem dX5_addLink_18 : decode cX5_addLink 18 = .ok (.iload_n 1, 1) := by decide +kernel
theorem dX5_addLink_19 : decode cX5_addLink 19 = .ok (.iload_n 2, 1) := by decide +kernel
theorem dX5_addLink_20 : decode cX5_addLink 20 = .ok (.if_icmp .eq 11, 3) := by decide +kernel
theorem dX5_addLink_23 : decode cX5_addLink 23 = .ok (.iload_n 3, 1) := by decide +kernel
theorem dX5_addLink_24 : decode cX5_addLink 24 = .ok (.iconst 2, 1) := by decide +kernel
theorem dX5_addLink_25 : decode cX5_addLink 25 = .ok (.invokestatic 35, 3) := by decide +kernel
theorem dX5_addLink_28 : decode cX5_addLink 28 = .ok (.ifCond .ne 10, 3) := by decide +kernel
theorem dX5_addLink_31 : decode cX5_addLink 31 = .ok (.aload_n 0, 1) := by decide +kernel
theorem dX5_addLink_32 : decode cX5_addLink 32 = .ok (.bipush (-2), 2) := by decide +kernel
theorem dX5_addLink_34 : decode cX5_addLink 34 = .ok (.invokevirtual 39, 3) := by decide +kernel
theorem dX5_addLink_37 : decode cX5_addLink 37 = .ok (.ireturn, 1) := by decide +kernel
theorem dX5_addLink_38 : decode cX5_addLink 38 = .ok (.aload_n 0, 1) := by decide +kernel
theorem dX5_addLink_39 : decode cX5_addLink 39 = .ok (.getfield 12, 3) := by decide +kernel
theorem dX5_addLink_42 : decode cX5_addLink 42 = .ok (.getfield 43, 3) := by decide +kernel
theorem dX5_addLink_45 : decode cX5_addLink 45 = .ok (.iload_n 1, 1) := by decide +kernel
theorem dX5_addLink_46 : decode cX5_addLink 46 = .ok (.iload_n 2, 1) := by decide +kernel
theorem dX5_addLink_47 : decode cX5_addLink 47 = .ok (.invokevirtual 47, 3) := by decide +kernel
theorem dX5_addLink_50 : decode cX5_addLink 50 = .ok (.iconst (-1), 1) := by decide +kernel
theorem dX5_addLink_51 : decode cX5_addLink 51 = .ok (.if_icmp .eq 10, 3) := by decide +kernel
theorem dX5_addLink_54 : decode cX5_addLink 54 = .ok (.aload_n 0, 1) := by decide +kernel
theorem dX5_addLink_55 : decode cX5_addLink 55 = .ok (.bipush (-3), 2) := by decide +kernel
theorem dX5_addLink_57 : decode cX5_addLink 57 = .ok (.invokevirtual 39, 3) := by decide +kernel
theorem dX5_addLink_60 : decode cX5_addLink 60 = .ok (.ireturn, 1) := by decide +kernel
theorem dX5_addLink_61 : decode cX5_addLink 61 = .ok (.aload_n 0, 1) := by decide +kernel
theorem dX5_addLink_62 : decode cX5_addLink 62 = .ok (.getfield 12, 3) := by decide +kernel
theorem dX5_addLink_65 : decode cX5_addLink 65 = .ok (.getfield 43, 3) := by decide +kernel
theorem dX5_addLink_68 : decode cX5_addLink 68 = .ok (.getfield 53, 3) := by decide +kernel
theorem dX5_addLink_71 : decode cX5_addLink 71 = .ok (.bipush 12, 2) := by decide +kernel
theorem dX5_addLink_73 : decode cX5_addLink 73 = .ok (.if_icmp .lt 10, 3) := by decide +kernel
theorem dX5_addLink_76 : decode cX5_addLink 76 = .ok (.aload_n 0, 1) := by decide +kernel
theorem dX5_addLink_77 : decode cX5_addLink 77 = .ok (.bipush (-4), 2) := by decide +kernel
theorem dX5_addLink_79 : decode cX5_addLink 79 = .ok (.invokevirtual 39, 3) := by decide +kernel
theorem dX5_addLink_82 : decode cX5_addLink 82 = .ok (.ireturn, 1) := by decide +kernel
theorem dX5_addLink_83 : decode cX5_addLink 83 = .ok (.aload_n 0, 1) := by decide +kernel
theorem dX5_addLink_84 : decode cX5_addLink 84 = .ok (.invokevirtual 56, 3) := by decide +kernel
theorem dX5_addLink_87 : decode cX5_addLink 87 = .ok (.aload_n 0, 1) := by decide +kernel
theorem dX5_addLink_88 : decode cX5_addLink 88 = .ok (.getfield 12, 3) := by decide +kernel
theorem dX5_addLink_91 : decode cX5_addLink 91 = .ok (.getfield 43, 3) := by decide +kernel
theorem dX5_addLink_94 : decode cX5_addLink 94 = .ok (.iload_n 1, 1) := by decide +kernel
theorem dX5_addLink_95 : decode cX5_addLink 95 = .ok (.iload_n 2, 1) := by decide +kernel
theorem dX5_addLink_96 : decode cX5_addLink 96 = .ok (.iload_n 3, 1) := by decide +kernel
theorem dX5_addLink_97 : decode cX5_addLink 97 = .ok (.invokevirtual 59, 3) := by decide +kernel
theorem dX5_addLink_100 : decode cX5_addLink 100 = .ok (.ireturn, 1) := by decide +kernel
theorem dX5_removeLink_0 : decode cX5_removeLink 0 = .ok (.iload_n 1, 1) := by decide +kernel
theorem dX5_removeLink_1 : decode cX5_removeLink 1 = .ok (.aload_n 0, 1) := by decide +kernel
theorem dX5_removeLink_2 : decode cX5_removeLink 2 = .ok (.getfield 12, 3) := by decide +kernel
theorem dX5_removeLink_5 : decode cX5_removeLink 5 = .ok (.getfield 43, 3) := by decide +kernel
theorem dX5_removeLink_8 : decode cX5_removeLink 8 = .ok (.getfield 53, 3) := by decide +kernel
theorem dX5_removeLink_11 : decode cX5_removeLink 11 = .ok (.invokestatic 35, 3) := by decide +kernel
theorem dX5_removeLink_14 : decode cX5_removeLink 14 = .ok (.ifCond .ne 10, 3) := by decide +kernel
theorem dX5_removeLink_17 : decode cX5_removeLink 17 = .ok (.aload_n 0, 1) := by decide +kernel
theorem dX5_removeLink_18 : decode cX5_removeLink 18 = .ok (.bipush (-2), 2) := by decide +kernel
theorem dX5_removeLink_20 : decode cX5_removeLink 20 = .ok (.invokevirtual 39, 3) := by decide +kernel
theorem dX5_removeLink_23 : decode cX5_removeLink 23 = .ok (.ireturn, 1) := by decide +kernel
theorem dX5_removeLink_24 : decode cX5_removeLink 24 = .ok (.aload_n 0, 1) := by decide +kernel
theorem dX5_removeLink_25 : decode cX5_removeLink 25 = .ok (.invokevirtual 56, 3) := by decide +kernel
theorem dX5_removeLink_28 : decode cX5_removeLink 28 = .ok (.aload_n 0, 1) := by decide +kernel
theorem dX5_removeLink_29 : decode cX5_removeLink 29 = .ok (.getfield 12, 3) := by decide +kernel
theorem dX5_removeLink_32 : decode cX5_removeLink 32 = .ok (.getfield 43, 3) := by decide +kernel
theorem dX5_removeLink_35 : decode cX5_removeLink 35 = .ok (.iload_n 1, 1) := by decide +kernel
theorem dX5_removeLink_36 : decode cX5_removeLink 36 = .ok (.invokevirtual 63, 3) := by decide +kernel
theorem dX5_removeLink_39 : decode cX5_removeLink 39 = .ok (.aload_n 0, 1) := by decide +kernel
theorem dX5_removeLink_40 : decode cX5_removeLink 40 = .ok (.getfield 12, 3) := by decide +kernel
theorem dX5_removeLink_43 : decode cX5_removeLink 43 = .ok (.getfield 43, 3) := by decide +kernel
theorem dX5_removeLink_46 : decode cX5_removeLink 46 = .ok (.getfield 53, 3) := by decide +kernel
theorem dX5_removeLink_49 : decode cX5_removeLink 49 = .ok (.ireturn, 1) := by decide +kernel
theorem dX5_setKind_0 : decode cX5_setKind 0 = .ok (.iload_n 1, 1) := by decide +kernel
theorem dX5_setKind_1 : decode cX5_setKind 1 = .ok (.aload_n 0, 1) := by decide +kernel
theorem dX5_setKind_2 : decode cX5_setKind 2 = .ok (.getfield 12, 3) := by decide +kernel
theorem dX5_setKind_5 : decode cX5_setKind 5 = .ok (.getfield 43, 3) := by decide +kernel
theorem dX5_setKind_8 : decode cX5_setKind 8 = .ok (.getfield 53, 3) := by decide +kernel
theorem dX5_setKind_11 : decode cX5_setKind 11 = .ok (.invokestatic 35, 3) := by decide +kernel
theorem dX5_setKind_14 : decode cX5_setKind 14 = .ok (.ifCond .eq 11, 3) := by decide +kernel
theorem dX5_setKind_17 : decode cX5_setKind 17 = .ok (.iload_n 2, 1) := by decide +kernel
theorem dX5_setKind_18 : decode cX5_setKind 18 = .ok (.iconst 2, 1) := by decide +kernel
theorem dX5_setKind_19 : decode cX5_setKind 19 = .ok (.invokestatic 35, 3) := by decide +kernel
theorem dX5_setKind_22 : decode cX5_setKind 22 = .ok (.ifCond .ne 10, 3) := by decide +kernel
theorem dX5_setKind_25 : decode cX5_setKind 25 = .ok (.aload_n 0, 1) := by decide +kernel
theorem dX5_setKind_26 : decode cX5_setKind 26 = .ok (.bipush (-2), 2) := by decide +kernel
theorem dX5_setKind_28 : decode cX5_setKind 28 = .ok (.invokevirtual 39, 3) := by decide +kernel
theorem dX5_setKind_31 : decode cX5_setKind 31 = .ok (.ireturn, 1) := by decide +kernel
theorem dX5_setKind_32 : decode cX5_setKind 32 = .ok (.aload_n 0, 1) := by decide +kernel
theorem dX5_setKind_33 : decode cX5_setKind 33 = .ok (.invokevirtual 56, 3) := by decide +kernel
theorem dX5_setKind_36 : decode cX5_setKind 36 = .ok (.aload_n 0, 1) := by decide +kernel
theorem dX5_setKind_37 : decode cX5_setKind 37 = .ok (.getfield 12, 3) := by decide +kernel
theorem dX5_setKind_40 : decode cX5_setKind 40 = .ok (.getfield 43, 3) := by decide +kernel
theorem dX5_setKind_43 : decode cX5_setKind 43 = .ok (.getfield 67, 3) := by decide +kernel
theorem dX5_setKind_46 : decode cX5_setKind 46 = .ok (.iload_n 1, 1) := by decide +kernel
theorem dX5_setKind_47 : decode cX5_setKind 47 = .ok (.iaload, 1) := by decide +kernel
theorem dX5_setKind_48 : decode cX5_setKind 48 = .ok (.istore_n 3, 1) := by decide +kernel
theorem dX5_setKind_49 : decode cX5_setKind 49 = .ok (.aload_n 0, 1) := by decide +kernel
theorem dX5_setKind_50 : decode cX5_setKind 50 = .ok (.getfield 12, 3) := by decide +kernel
theorem dX5_setKind_53 : decode cX5_setKind 53 = .ok (.getfield 43, 3) := by decide +kernel
theorem dX5_setKind_56 : decode cX5_setKind 56 = .ok (.getfield 67, 3) := by decide +kernel
theorem dX5_setKind_59 : decode cX5_setKind 59 = .ok (.iload_n 1, 1) := by decide +kernel
theorem dX5_setKind_60 : decode cX5_setKind 60 = .ok (.iload_n 2, 1) := by decide +kernel
theorem dX5_setKind_61 : decode cX5_setKind 61 = .ok (.iastore, 1) := by decide +kernel
theorem dX5_setKind_62 : decode cX5_setKind 62 = .ok (.iload_n 3, 1) := by decide +kernel
theorem dX5_setKind_63 : decode cX5_setKind 63 = .ok (.ireturn, 1) := by decide +kernel
theorem dX5_setGroups_0 : decode cX5_setGroups 0 = .ok (.iload_n 1, 1) := by decide +kernel
theorem dX5_setGroups_1 : decode cX5_setGroups 1 = .ok (.bipush 6, 2) := by decide +kernel
theorem dX5_setGroups_3 : decode cX5_setGroups 3 = .ok (.invokestatic 35, 3) := by decide +kernel
theorem dX5_setGroups_6 : decode cX5_setGroups 6 = .ok (.ifCond .eq 13, 3) := by decide +kernel
theorem dX5_setGroups_9 : decode cX5_setGroups 9 = .ok (.iload_n 2, 1) := by decide +kernel
theorem dX5_setGroups_10 : decode cX5_setGroups 10 = .ok (.ifCond .lt 9, 3) := by decide +kernel
theorem dX5_setGroups_13 : decode cX5_setGroups 13 = .ok (.iload_n 2, 1) := by decide +kernel
theorem dX5_setGroups_14 : decode cX5_setGroups 14 = .ok (.bipush 15, 2) := by decide +kernel
theorem dX5_setGroups_16 : decode cX5_setGroups 16 = .ok (.if_icmp .le 10, 3) := by decide +kernel
theorem dX5_setGroups_19 : decode cX5_setGroups 19 = .ok (.aload_n 0, 1) := by decide +kernel
theorem dX5_setGroups_20 : decode cX5_setGroups 20 = .ok (.bipush (-2), 2) := by decide +kernel
theorem dX5_setGroups_22 : decode cX5_setGroups 22 = .ok (.invokevirtual 39, 3) := by decide +kernel
theorem dX5_setGroups_25 : decode cX5_setGroups 25 = .ok (.ireturn, 1) := by decide +kernel
theorem dX5_setGroups_26 : decode cX5_setGroups 26 = .ok (.aload_n 0, 1) := by decide +kernel
theorem dX5_setGroups_27 : decode cX5_setGroups 27 = .ok (.invokevirtual 56, 3) := by decide +kernel
theorem dX5_setGroups_30 : decode cX5_setGroups 30 = .ok (.aload_n 0, 1) := by decide +kernel
theorem dX5_setGroups_31 : decode cX5_setGroups 31 = .ok (.getfield 12, 3) := by decide +kernel
theorem dX5_setGroups_34 : decode cX5_setGroups 34 = .ok (.getfield 70, 3) := by decide +kernel
theorem dX5_setGroups_37 : decode cX5_setGroups 37 = .ok (.iload_n 1, 1) := by decide +kernel
theorem dX5_setGroups_38 : decode cX5_setGroups 38 = .ok (.aaload, 1) := by decide +kernel
theorem dX5_setGroups_39 : decode cX5_setGroups 39 = .ok (.getfield 74, 3) := by decide +kernel
theorem dX5_setGroups_42 : decode cX5_setGroups 42 = .ok (.istore_n 3, 1) := by decide +kernel
theorem dX5_setGroups_43 : decode cX5_setGroups 43 = .ok (.aload_n 0, 1) := by decide +kernel
theorem dX5_setGroups_44 : decode cX5_setGroups 44 = .ok (.getfield 12, 3) := by decide +kernel
theorem dX5_setGroups_47 : decode cX5_setGroups 47 = .ok (.getfield 70, 3) := by decide +kernel
theorem dX5_setGroups_50 : decode cX5_setGroups 50 = .ok (.iload_n 1, 1) := by decide +kernel
theorem dX5_setGroups_51 : decode cX5_setGroups 51 = .ok (.aaload, 1) := by decide +kernel
theorem dX5_setGroups_52 : decode cX5_setGroups 52 = .ok (.iload_n 2, 1) := by decide +kernel
theorem dX5_setGroups_53 : decode cX5_setGroups 53 = .ok (.putfield 74, 3) := by decide +kernel
theorem dX5_setGroups_56 : decode cX5_setGroups 56 = .ok (.iload_n 3, 1) := by decide +kernel
theorem dX5_setGroups_57 : decode cX5_setGroups 57 = .ok (.ireturn, 1) := by decide +kernel
theorem dX5_setExpiry_0 : decode cX5_setExpiry 0 = .ok (.iload_n 1, 1) := by decide +kernel
theorem dX5_setExpiry_1 : decode cX5_setExpiry 1 = .ok (.iconst 4, 1) := by decide +kernel
theorem dX5_setExpiry_2 : decode cX5_setExpiry 2 = .ok (.invokestatic 35, 3) := by decide +kernel
theorem dX5_setExpiry_5 : decode cX5_setExpiry 5 = .ok (.ifCond .eq 10, 3) := by decide +kernel
theorem dX5_setExpiry_8 : decode cX5_setExpiry 8 = .ok (.iload_n 2, 1) := by decide +kernel
theorem dX5_setExpiry_9 : decode cX5_setExpiry 9 = .ok (.invokestatic 79, 3) := by decide +kernel
theorem dX5_setExpiry_12 : decode cX5_setExpiry 12 = .ok (.ifCond .ne 10, 3) := by decide +kernel
theorem dX5_setExpiry_15 : decode cX5_setExpiry 15 = .ok (.aload_n 0, 1) := by decide +kernel
theorem dX5_setExpiry_16 : decode cX5_setExpiry 16 = .ok (.bipush (-2), 2) := by decide +kernel
theorem dX5_setExpiry_18 : decode cX5_setExpiry 18 = .ok (.invokevirtual 39, 3) := by decide +kernel
theorem dX5_setExpiry_21 : decode cX5_setExpiry 21 = .ok (.ireturn, 1) := by decide +kernel
theorem dX5_setExpiry_22 : decode cX5_setExpiry 22 = .ok (.aload_n 0, 1) := by decide +kernel
theorem dX5_setExpiry_23 : decode cX5_setExpiry 23 = .ok (.invokevirtual 56, 3) := by decide +kernel
theorem dX5_setExpiry_26 : decode cX5_setExpiry 26 = .ok (.aload_n 0, 1) := by decide +kernel
theorem dX5_setExpiry_27 : decode cX5_setExpiry 27 = .ok (.getfield 12, 3) := by decide +kernel
theorem dX5_setExpiry_30 : decode cX5_setExpiry 30 = .ok (.getfield 83, 3) := by decide +kernel
theorem dX5_setExpiry_33 : decode cX5_setExpiry 33 = .ok (.iload_n 1, 1) := by decide +kernel
theorem dX5_setExpiry_34 : decode cX5_setExpiry 34 = .ok (.iaload, 1) := by decide +kernel
theorem dX5_setExpiry_35 : decode cX5_setExpiry 35 = .ok (.istore_n 3, 1) := by decide +kernel
theorem dX5_setExpiry_36 : decode cX5_setExpiry 36 = .ok (.aload_n 0, 1) := by decide +kernel
theorem dX5_setExpiry_37 : decode cX5_setExpiry 37 = .ok (.getfield 12, 3) := by decide +kernel
theorem dX5_setExpiry_40 : decode cX5_setExpiry 40 = .ok (.getfield 83, 3) := by decide +kernel
theorem dX5_setExpiry_43 : decode cX5_setExpiry 43 = .ok (.iload_n 1, 1) := by decide +kernel
theorem dX5_setExpiry_44 : decode cX5_setExpiry 44 = .ok (.iload_n 2, 1) := by decide +kernel
theorem dX5_setExpiry_45 : decode cX5_setExpiry 45 = .ok (.iastore, 1) := by decide +kernel
theorem dX5_setExpiry_46 : decode cX5_setExpiry 46 = .ok (.iload_n 3, 1) := by decide +kernel
theorem dX5_setExpiry_47 : decode cX5_setExpiry 47 = .ok (.ireturn, 1) := by decide +kernel
theorem dX5_setHistoryLimit_0 : decode cX5_setHistoryLimit 0 = .ok (.iload_n 1, 1) := by decide +kernel
theorem dX5_setHistoryLimit_1 : decode cX5_setHistoryLimit 1 = .ok (.invokestatic 79, 3) := by decide +kernel
theorem dX5_setHistoryLimit_4 : decode cX5_setHistoryLimit 4 = .ok (.ifCond .ne 10, 3) := by decide +kernel
theorem dX5_setHistoryLimit_7 : decode cX5_setHistoryLimit 7 = .ok (.aload_n 0, 1) := by decide +kernel
theorem dX5_setHistoryLimit_8 : decode cX5_setHistoryLimit 8 = .ok (.bipush (-2), 2) := by decide +kernel
theorem dX5_setHistoryLimit_10 : decode cX5_setHistoryLimit 10 = .ok (.invokevirtual 39, 3) := by decide +kernel
theorem dX5_setHistoryLimit_13 : decode cX5_setHistoryLimit 13 = .ok (.ireturn, 1) := by decide +kernel
theorem dX5_setHistoryLimit_14 : decode cX5_setHistoryLimit 14 = .ok (.aload_n 0, 1) := by decide +kernel
theorem dX5_setHistoryLimit_15 : decode cX5_setHistoryLimit 15 = .ok (.invokevirtual 56, 3) := by decide +kernel
theorem dX5_setHistoryLimit_18 : decode cX5_setHistoryLimit 18 = .ok (.aload_n 0, 1) := by decide +kernel
theorem dX5_setHistoryLimit_19 : decode cX5_setHistoryLimit 19 = .ok (.getfield 12, 3) := by decide +kernel
theorem dX5_setHistoryLimit_22 : decode cX5_setHistoryLimit 22 = .ok (.getfield 86, 3) := by decide +kernel
theorem dX5_setHistoryLimit_25 : decode cX5_setHistoryLimit 25 = .ok (.istore_n 2, 1) := by decide +kernel
theorem dX5_setHistoryLimit_26 : decode cX5_setHistoryLimit 26 = .ok (.aload_n 0, 1) := by decide +kernel
theorem dX5_setHistoryLimit_27 : decode cX5_setHistoryLimit 27 = .ok (.getfield 12, 3) := by decide +kernel
theorem dX5_setHistoryLimit_30 : decode cX5_setHistoryLimit 30 = .ok (.iload_n 1, 1) := by decide +kernel
theorem dX5_setHistoryLimit_31 : decode cX5_setHistoryLimit 31 = .ok (.putfield 86, 3) := by decide +kernel
theorem dX5_setHistoryLimit_34 : decode cX5_setHistoryLimit 34 = .ok (.iload_n 2, 1) := by decide +kernel
theorem dX5_setHistoryLimit_35 : decode cX5_setHistoryLimit 35 = .ok (.ireturn, 1) := by decide +kernel
theorem dX5_post_0 : decode cX5_post 0 = .ok (.iload_n 1, 1) := by decide +kernel
theorem dX5_post_1 : decode cX5_post 1 = .ok (.bipush 6, 2) := by decide +kernel
theorem dX5_post_3 : decode cX5_post 3 = .ok (.invokestatic 35, 3) := by decide +kernel
theorem dX5_post_6 : decode cX5_post 6 = .ok (.ifCond .eq 20, 3) := by decide +kernel
theorem dX5_post_9 : decode cX5_post 9 = .ok (.iload_n 2, 1) := by decide +kernel
theorem dX5_post_10 : decode cX5_post 10 = .ok (.iconst 4, 1) := by decide +kernel
theorem dX5_post_11 : decode cX5_post 11 = .ok (.invokestatic 35, 3) := by decide +kernel
theorem dX5_post_14 : decode cX5_post 14 = .ok (.ifCond .eq 12, 3) := by decide +kernel
theorem dX5_post_17 : decode cX5_post 17 = .ok (.iload_n 3, 1) := by decide +kernel
theorem dX5_post_18 : decode cX5_post 18 = .ok (.bipush 10, 2) := by decide +kernel
theorem dX5_post_20 : decode cX5_post 20 = .ok (.invokestatic 35, 3) := by decide +kernel
theorem dX5_post_23 : decode cX5_post 23 = .ok (.ifCond .ne 10, 3) := by decide +kernel
theorem dX5_post_26 : decode cX5_post 26 = .ok (.aload_n 0, 1) := by decide +kernel
theorem dX5_post_27 : decode cX5_post 27 = .ok (.bipush (-2), 2) := by decide +kernel
theorem dX5_post_29 : decode cX5_post 29 = .ok (.invokevirtual 39, 3) := by decide +kernel
theorem dX5_post_32 : decode cX5_post 32 = .ok (.ireturn, 1) := by decide +kernel
theorem dX5_post_33 : decode cX5_post 33 = .ok (.aload_n 0, 1) := by decide +kernel
theorem dX5_post_34 : decode cX5_post 34 = .ok (.iload_n 1, 1) := by decide +kernel
theorem dX5_post_35 : decode cX5_post 35 = .ok (.iload_n 2, 1) := by decide +kernel
theorem dX5_post_36 : decode cX5_post 36 = .ok (.iload_n 3, 1) := by decide +kernel
theorem dX5_post_37 : decode cX5_post 37 = .ok (.iconst 0, 1) := by decide +kernel
theorem dX5_post_38 : decode cX5_post 38 = .ok (.iconst (-1), 1) := by decide +kernel
theorem dX5_post_39 : decode cX5_post 39 = .ok (.invokevirtual 89, 3) := by decide +kernel
theorem dX5_post_42 : decode cX5_post 42 = .ok (.ireturn, 1) := by decide +kernel
theorem dX5_postAction_0 : decode cX5_postAction 0 = .ok (.iload_n 1, 1) := by decide +kernel
theorem dX5_postAction_1 : decode cX5_postAction 1 = .ok (.bipush 6, 2) := by decide +kernel
theorem dX5_postAction_3 : decode cX5_postAction 3 = .ok (.invokestatic 35, 3) := by decide +kernel
theorem dX5_postAction_6 : decode cX5_postAction 6 = .ok (.ifCond .eq 31, 3) := by decide +kernel
theorem dX5_postAction_9 : decode cX5_postAction 9 = .ok (.iload_n 2, 1) := by decide +kernel
theorem dX5_postAction_10 : decode cX5_postAction 10 = .ok (.bipush 10, 2) := by decide +kernel
theorem dX5_postAction_12 : decode cX5_postAction 12 = .ok (.invokestatic 35, 3) := by decide +kernel
theorem dX5_postAction_15 : decode cX5_postAction 15 = .ok (.ifCond .eq 22, 3) := by decide +kernel
theorem dX5_postAction_18 : decode cX5_postAction 18 = .ok (.iload_n 3, 1) := by decide +kernel
theorem dX5_postAction_19 : decode cX5_postAction 19 = .ok (.iconst 1, 1) := by decide +kernel
theorem dX5_postAction_20 : decode cX5_postAction 20 = .ok (.if_icmp .lt 17, 3) := by decide +kernel
theorem dX5_postAction_23 : decode cX5_postAction 23 = .ok (.iload_n 3, 1) := by decide +kernel
theorem dX5_postAction_24 : decode cX5_postAction 24 = .ok (.iconst 2, 1) := by decide +kernel
theorem dX5_postAction_25 : decode cX5_postAction 25 = .ok (.if_icmp .gt 12, 3) := by decide +kernel
theorem dX5_postAction_28 : decode cX5_postAction 28 = .ok (.aload_n 0, 1) := by decide +kernel
theorem dX5_postAction_29 : decode cX5_postAction 29 = .ok (.iload 4, 2) := by decide +kernel
theorem dX5_postAction_31 : decode cX5_postAction 31 = .ok (.invokevirtual 93, 3) := by decide +kernel
theorem dX5_postAction_34 : decode cX5_postAction 34 = .ok (.ifCond .ne 10, 3) := by decide +kernel
theorem dX5_postAction_37 : decode cX5_postAction 37 = .ok (.aload_n 0, 1) := by decide +kernel
theorem dX5_postAction_38 : decode cX5_postAction 38 = .ok (.bipush (-2), 2) := by decide +kernel
theorem dX5_postAction_40 : decode cX5_postAction 40 = .ok (.invokevirtual 39, 3) := by decide +kernel
theorem dX5_postAction_43 : decode cX5_postAction 43 = .ok (.ireturn, 1) := by decide +kernel
theorem dX5_postAction_44 : decode cX5_postAction 44 = .ok (.aload_n 0, 1) := by decide +kernel
theorem dX5_postAction_45 : decode cX5_postAction 45 = .ok (.iload_n 1, 1) := by decide +kernel
theorem dX5_postAction_46 : decode cX5_postAction 46 = .ok (.aload_n 0, 1) := by decide +kernel
theorem dX5_postAction_47 : decode cX5_postAction 47 = .ok (.getfield 12, 3) := by decide +kernel
theorem dX5_postAction_50 : decode cX5_postAction 50 = .ok (.getfield 96, 3) := by decide +kernel
theorem dX5_postAction_53 : decode cX5_postAction 53 = .ok (.getfield 100, 3) := by decide +kernel
theorem dX5_postAction_56 : decode cX5_postAction 56 = .ok (.iload 4, 2) := by decide +kernel
theorem dX5_postAction_58 : decode cX5_postAction 58 = .ok (.iaload, 1) := by decide +kernel
theorem dX5_postAction_59 : decode cX5_postAction 59 = .ok (.iload_n 2, 1) := by decide +kernel
theorem dX5_postAction_60 : decode cX5_postAction 60 = .ok (.iload_n 3, 1) := by decide +kernel
theorem dX5_postAction_61 : decode cX5_postAction 61 = .ok (.iload 4, 2) := by decide +kernel
theorem dX5_postAction_63 : decode cX5_postAction 63 = .ok (.invokevirtual 89, 3) := by decide +kernel
theorem dX5_postAction_66 : decode cX5_postAction 66 = .ok (.ireturn, 1) := by decide +kernel
theorem dX5_round_0 : decode cX5_round 0 = .ok (.aload_n 0, 1) := by decide +kernel
theorem dX5_round_1 : decode cX5_round 1 = .ok (.invokevirtual 56, 3) := by decide +kernel
theorem dX5_round_4 : decode cX5_round 4 = .ok (.aload_n 0, 1) := by decide +kernel
theorem dX5_round_5 : decode cX5_round 5 = .ok (.getfield 12, 3) := by decide +kernel
theorem dX5_round_8 : decode cX5_round 8 = .ok (.aload_n 0, 1) := by decide +kernel
theorem dX5_round_9 : decode cX5_round 9 = .ok (.getfield 19, 3) := by decide +kernel
theorem dX5_round_12 : decode cX5_round 12 = .ok (.invokevirtual 105, 3) := by decide +kernel
theorem dX5_round_15 : decode cX5_round 15 = .ok (.ireturn, 1) := by decide +kernel
theorem dX5_settle_0 : decode cX5_settle 0 = .ok (.aload_n 0, 1) := by decide +kernel
theorem dX5_settle_1 : decode cX5_settle 1 = .ok (.invokevirtual 56, 3) := by decide +kernel
theorem dX5_settle_4 : decode cX5_settle 4 = .ok (.iconst 0, 1) := by decide +kernel
theorem dX5_settle_5 : decode cX5_settle 5 = .ok (.istore_n 1, 1) := by decide +kernel
theorem dX5_settle_6 : decode cX5_settle 6 = .ok (.iload_n 1, 1) := by decide +kernel
theorem dX5_settle_7 : decode cX5_settle 7 = .ok (.bipush 6, 2) := by decide +kernel
theorem dX5_settle_9 : decode cX5_settle 9 = .ok (.if_icmp .ge 34, 3) := by decide +kernel
theorem dX5_settle_12 : decode cX5_settle 12 = .ok (.aload_n 0, 1) := by decide +kernel
theorem dX5_settle_13 : decode cX5_settle 13 = .ok (.getfield 12, 3) := by decide +kernel
theorem dX5_settle_16 : decode cX5_settle 16 = .ok (.getfield 109, 3) := by decide +kernel
theorem dX5_settle_19 : decode cX5_settle 19 = .ok (.invokevirtual 112, 3) := by decide +kernel
theorem dX5_settle_22 : decode cX5_settle 22 = .ok (.ifCond .le 21, 3) := by decide +kernel
theorem dX5_settle_25 : decode cX5_settle 25 = .ok (.aload_n 0, 1) := by decide +kernel
theorem dX5_settle_26 : decode cX5_settle 26 = .ok (.getfield 12, 3) := by decide +kernel
theorem dX5_settle_29 : decode cX5_settle 29 = .ok (.aload_n 0, 1) := by decide +kernel
theorem dX5_settle_30 : decode cX5_settle 30 = .ok (.getfield 19, 3) := by decide +kernel
theorem dX5_settle_33 : decode cX5_settle 33 = .ok (.invokevirtual 105, 3) := by decide +kernel
theorem dX5_settle_36 : decode cX5_settle 36 = .ok (.pop, 1) := by decide +kernel
theorem dX5_settle_37 : decode cX5_settle 37 = .ok (.iinc 1 1, 3) := by decide +kernel
theorem dX5_settle_40 : decode cX5_settle 40 = .ok (.goto (-34), 3) := by decide +kernel
theorem dX5_settle_43 : decode cX5_settle 43 = .ok (.iload_n 1, 1) := by decide +kernel
theorem dX5_settle_44 : decode cX5_settle 44 = .ok (.ireturn, 1) := by decide +kernel
theorem dX5_nextDay_0 : decode cX5_nextDay 0 = .ok (.aload_n 0, 1) := by decide +kernel
theorem dX5_nextDay_1 : decode cX5_nextDay 1 = .ok (.invokevirtual 56, 3) := by decide +kernel
theorem dX5_nextDay_4 : decode cX5_nextDay 4 = .ok (.aload_n 0, 1) := by decide +kernel
theorem dX5_nextDay_5 : decode cX5_nextDay 5 = .ok (.getfield 12, 3) := by decide +kernel
theorem dX5_nextDay_8 : decode cX5_nextDay 8 = .ok (.invokevirtual 116, 3) := by decide +kernel
theorem dX5_nextDay_11 : decode cX5_nextDay 11 = .ok (.ireturn, 1) := by decide +kernel
theorem dX5_isStored_0 : decode cX5_isStored 0 = .ok (.iload_n 1, 1) := by decide +kernel
theorem dX5_isStored_1 : decode cX5_isStored 1 = .ok (.bipush 6, 2) := by decide +kernel
theorem dX5_isStored_3 : decode cX5_isStored 3 = .ok (.invokestatic 35, 3) := by decide +kernel
theorem dX5_isStored_6 : decode cX5_isStored 6 = .ok (.ifCond .eq 11, 3) := by decide +kernel
theorem dX5_isStored_9 : decode cX5_isStored 9 = .ok (.aload_n 0, 1) := by decide +kernel
theorem dX5_isStored_10 : decode cX5_isStored 10 = .ok (.iload_n 2, 1) := by decide +kernel
theorem dX5_isStored_11 : decode cX5_isStored 11 = .ok (.invokevirtual 93, 3) := by decide +kernel
theorem dX5_isStored_14 : decode cX5_isStored 14 = .ok (.ifCond .ne 10, 3) := by decide +kernel
theorem dX5_isStored_17 : decode cX5_isStored 17 = .ok (.aload_n 0, 1) := by decide +kernel
theorem dX5_isStored_18 : decode cX5_isStored 18 = .ok (.bipush (-2), 2) := by decide +kernel
theorem dX5_isStored_20 : decode cX5_isStored 20 = .ok (.invokevirtual 39, 3) := by decide +kernel
theorem dX5_isStored_23 : decode cX5_isStored 23 = .ok (.ireturn, 1) := by decide +kernel
theorem dX5_isStored_24 : decode cX5_isStored 24 = .ok (.aload_n 0, 1) := by decide +kernel
theorem dX5_isStored_25 : decode cX5_isStored 25 = .ok (.getfield 12, 3) := by decide +kernel
theorem dX5_isStored_28 : decode cX5_isStored 28 = .ok (.getfield 70, 3) := by decide +kernel
theorem dX5_isStored_31 : decode cX5_isStored 31 = .ok (.iload_n 1, 1) := by decide +kernel
theorem dX5_isStored_32 : decode cX5_isStored 32 = .ok (.aaload, 1) := by decide +kernel
theorem dX5_isStored_33 : decode cX5_isStored 33 = .ok (.iload_n 2, 1) := by decide +kernel
theorem dX5_isStored_34 : decode cX5_isStored 34 = .ok (.invokevirtual 119, 3) := by decide +kernel
theorem dX5_isStored_37 : decode cX5_isStored 37 = .ok (.ifCond .eq 7, 3) := by decide +kernel
theorem dX5_isStored_40 : decode cX5_isStored 40 = .ok (.iconst 1, 1) := by decide +kernel
theorem dX5_isStored_41 : decode cX5_isStored 41 = .ok (.goto 4, 3) := by decide +kernel
theorem dX5_isStored_44 : decode cX5_isStored 44 = .ok (.iconst 0, 1) := by decide +kernel
theorem dX5_isStored_45 : decode cX5_isStored 45 = .ok (.ireturn, 1) := by decide +kernel
theorem dX5_knownSince_0 : decode cX5_knownSince 0 = .ok (.iload_n 1, 1) := by decide +kernel
theorem dX5_knownSince_1 : decode cX5_knownSince 1 = .ok (.bipush 6, 2) := by decide +kernel
theorem dX5_knownSince_3 : decode cX5_knownSince 3 = .ok (.invokestatic 35, 3) := by decide +kernel
theorem dX5_knownSince_6 : decode cX5_knownSince 6 = .ok (.ifCond .eq 11, 3) := by decide +kernel
theorem dX5_knownSince_9 : decode cX5_knownSince 9 = .ok (.aload_n 0, 1) := by decide +kernel
theorem dX5_knownSince_10 : decode cX5_knownSince 10 = .ok (.iload_n 2, 1) := by decide +kernel
theorem dX5_knownSince_11 : decode cX5_knownSince 11 = .ok (.invokevirtual 93, 3) := by decide +kernel
theorem dX5_knownSince_14 : decode cX5_knownSince 14 = .ok (.ifCond .ne 10, 3) := by decide +kernel
theorem dX5_knownSince_17 : decode cX5_knownSince 17 = .ok (.aload_n 0, 1) := by decide +kernel
theorem dX5_knownSince_18 : decode cX5_knownSince 18 = .ok (.bipush (-2), 2) := by decide +kernel
theorem dX5_knownSince_20 : decode cX5_knownSince 20 = .ok (.invokevirtual 39, 3) := by decide +kernel
theorem dX5_knownSince_23 : decode cX5_knownSince 23 = .ok (.ireturn, 1) := by decide +kernel
theorem dX5_knownSince_24 : decode cX5_knownSince 24 = .ok (.aload_n 0, 1) := by decide +kernel
theorem dX5_knownSince_25 : decode cX5_knownSince 25 = .ok (.getfield 12, 3) := by decide +kernel
theorem dX5_knownSince_28 : decode cX5_knownSince 28 = .ok (.getfield 70, 3) := by decide +kernel
theorem dX5_knownSince_31 : decode cX5_knownSince 31 = .ok (.iload_n 1, 1) := by decide +kernel
theorem dX5_knownSince_32 : decode cX5_knownSince 32 = .ok (.aaload, 1) := by decide +kernel
theorem dX5_knownSince_33 : decode cX5_knownSince 33 = .ok (.getfield 122, 3) := by decide +kernel
theorem dX5_knownSince_36 : decode cX5_knownSince 36 = .ok (.iload_n 2, 1) := by decide +kernel
theorem dX5_knownSince_37 : decode cX5_knownSince 37 = .ok (.iaload, 1) := by decide +kernel
theorem dX5_knownSince_38 : decode cX5_knownSince 38 = .ok (.ireturn, 1) := by decide +kernel
theorem dX5_pendingCancels_0 : decode cX5_pendingCancels 0 = .ok (.iload_n 1, 1) := by decide +kernel
theorem dX5_pendingCancels_1 : decode cX5_pendingCancels 1 = .ok (.bipush 6, 2) := by decide +kernel
theorem dX5_pendingCancels_3 : decode cX5_pendingCancels 3 = .ok (.invokestatic 35, 3) := by decide +kernel
theorem dX5_pendingCancels_6 : decode cX5_pendingCancels 6 = .ok (.ifCond .ne 10, 3) := by decide +kernel
theorem dX5_pendingCancels_9 : decode cX5_pendingCancels 9 = .ok (.aload_n 0, 1) := by decide +kernel
theorem dX5_pendingCancels_10 : decode cX5_pendingCancels 10 = .ok (.bipush (-2), 2) := by decide +kernel
theorem dX5_pendingCancels_12 : decode cX5_pendingCancels 12 = .ok (.invokevirtual 39, 3) := by decide +kernel
theorem dX5_pendingCancels_15 : decode cX5_pendingCancels 15 = .ok (.ireturn, 1) := by decide +kernel
theorem dX5_pendingCancels_16 : decode cX5_pendingCancels 16 = .ok (.aload_n 0, 1) := by decide +kernel
theorem dX5_pendingCancels_17 : decode cX5_pendingCancels 17 = .ok (.getfield 12, 3) := by decide +kernel
theorem dX5_pendingCancels_20 : decode cX5_pendingCancels 20 = .ok (.getfield 70, 3) := by decide +kernel
theorem dX5_pendingCancels_23 : decode cX5_pendingCancels 23 = .ok (.iload_n 1, 1) := by decide +kernel
theorem dX5_pendingCancels_24 : decode cX5_pendingCancels 24 = .ok (.aaload, 1) := by decide +kernel
theorem dX5_pendingCancels_25 : decode cX5_pendingCancels 25 = .ok (.invokevirtual 125, 3) := by decide +kernel
theorem dX5_pendingCancels_28 : decode cX5_pendingCancels 28 = .ok (.ireturn, 1) := by decide +kernel
theorem dX5_holders_0 : decode cX5_holders 0 = .ok (.aload_n 0, 1) := by decide +kernel
theorem dX5_holders_1 : decode cX5_holders 1 = .ok (.iload_n 1, 1) := by decide +kernel
theorem dX5_holders_2 : decode cX5_holders 2 = .ok (.invokevirtual 93, 3) := by decide +kernel
theorem dX5_holders_5 : decode cX5_holders 5 = .ok (.ifCond .ne 10, 3) := by decide +kernel
theorem dX5_holders_8 : decode cX5_holders 8 = .ok (.aload_n 0, 1) := by decide +kernel
theorem dX5_holders_9 : decode cX5_holders 9 = .ok (.bipush (-2), 2) := by decide +kernel
theorem dX5_holders_11 : decode cX5_holders 11 = .ok (.invokevirtual 39, 3) := by decide +kernel
theorem dX5_holders_14 : decode cX5_holders 14 = .ok (.ireturn, 1) := by decide +kernel
theorem dX5_holders_15 : decode cX5_holders 15 = .ok (.iconst 0, 1) := by decide +kernel
theorem dX5_holders_16 : decode cX5_holders 16 = .ok (.istore_n 2, 1) := by decide +kernel
theorem dX5_holders_17 : decode cX5_holders 17 = .ok (.iconst 0, 1) := by decide +kernel
theorem dX5_holders_18 : decode cX5_holders 18 = .ok (.istore_n 3, 1) := by decide +kernel
theorem dX5_holders_19 : decode cX5_holders 19 = .ok (.iload_n 3, 1) := by decide +kernel
theorem dX5_holders_20 : decode cX5_holders 20 = .ok (.bipush 6, 2) := by decide +kernel
theorem dX5_holders_22 : decode cX5_holders 22 = .ok (.if_icmp .ge 31, 3) := by decide +kernel
theorem dX5_holders_25 : decode cX5_holders 25 = .ok (.aload_n 0, 1) := by decide +kernel
theorem dX5_holders_26 : decode cX5_holders 26 = .ok (.getfield 12, 3) := by decide +kernel
theorem dX5_holders_29 : decode cX5_holders 29 = .ok (.getfield 70, 3) := by decide +kernel
theorem dX5_holders_32 : decode cX5_holders 32 = .ok (.iload_n 3, 1) := by decide +kernel
theorem dX5_holders_33 : decode cX5_holders 33 = .ok (.aaload, 1) := by decide +kernel
theorem dX5_holders_34 : decode cX5_holders 34 = .ok (.iload_n 1, 1) := by decide +kernel
theorem dX5_holders_35 : decode cX5_holders 35 = .ok (.invokevirtual 119, 3) := by decide +kernel
theorem dX5_holders_38 : decode cX5_holders 38 = .ok (.ifCond .eq 9, 3) := by decide +kernel
theorem dX5_holders_41 : decode cX5_holders 41 = .ok (.iload_n 2, 1) := by decide +kernel
theorem dX5_holders_42 : decode cX5_holders 42 = .ok (.iconst 1, 1) := by decide +kernel
theorem dX5_holders_43 : decode cX5_holders 43 = .ok (.iload_n 3, 1) := by decide +kernel
theorem dX5_holders_44 : decode cX5_holders 44 = .ok (.ishl, 1) := by decide +kernel
theorem dX5_holders_45 : decode cX5_holders 45 = .ok (.ior, 1) := by decide +kernel
theorem dX5_holders_46 : decode cX5_holders 46 = .ok (.istore_n 2, 1) := by decide +kernel
theorem dX5_holders_47 : decode cX5_holders 47 = .ok (.iinc 3 1, 3) := by decide +kernel
theorem dX5_holders_50 : decode cX5_holders 50 = .ok (.goto (-31), 3) := by decide +kernel
theorem dX5_holders_53 : decode cX5_holders 53 = .ok (.iload_n 2, 1) := by decide +kernel
theorem dX5_holders_54 : decode cX5_holders 54 = .ok (.ireturn, 1) := by decide +kernel
theorem dX5_storedInGroup_0 : decode cX5_storedInGroup 0 = .ok (.iload_n 1, 1) := by decide +kernel
theorem dX5_storedInGroup_1 : decode cX5_storedInGroup 1 = .ok (.bipush 6, 2) := by decide +kernel
theorem dX5_storedInGroup_3 : decode cX5_storedInGroup 3 = .ok (.invokestatic 35, 3) := by decide +kernel
theorem dX5_storedInGroup_6 : decode cX5_storedInGroup 6 = .ok (.ifCond .eq 11, 3) := by decide +kernel
theorem dX5_storedInGroup_9 : decode cX5_storedInGroup 9 = .ok (.iload_n 2, 1) := by decide +kernel
theorem dX5_storedInGroup_10 : decode cX5_storedInGroup 10 = .ok (.iconst 4, 1) := by decide +kernel
theorem dX5_storedInGroup_11 : decode cX5_storedInGroup 11 = .ok (.invokestatic 35, 3) := by decide +kernel
theorem dX5_storedInGroup_14 : decode cX5_storedInGroup 14 = .ok (.ifCond .ne 10, 3) := by decide +kernel
theorem dX5_storedInGroup_17 : decode cX5_storedInGroup 17 = .ok (.aload_n 0, 1) := by decide +kernel
theorem dX5_storedInGroup_18 : decode cX5_storedInGroup 18 = .ok (.bipush (-2), 2) := by decide +kernel
theorem dX5_storedInGroup_20 : decode cX5_storedInGroup 20 = .ok (.invokevirtual 39, 3) := by decide +kernel
theorem dX5_storedInGroup_23 : decode cX5_storedInGroup 23 = .ok (.ireturn, 1) := by decide +kernel
theorem dX5_storedInGroup_24 : decode cX5_storedInGroup 24 = .ok (.iconst 0, 1) := by decide +kernel
theorem dX5_storedInGroup_25 : decode cX5_storedInGroup 25 = .ok (.istore_n 3, 1) := by decide +kernel
theorem dX5_storedInGroup_26 : decode cX5_storedInGroup 26 = .ok (.iconst 0, 1) := by decide +kernel
theorem dX5_storedInGroup_27 : decode cX5_storedInGroup 27 = .ok (.istore 4, 2) := by decide +kernel
theorem dX5_storedInGroup_29 : decode cX5_storedInGroup 29 = .ok (.iload 4, 2) := by decide +kernel
theorem dX5_storedInGroup_31 : decode cX5_storedInGroup 31 = .ok (.aload_n 0, 1) := by decide +kernel
theorem dX5_storedInGroup_32 : decode cX5_storedInGroup 32 = .ok (.getfield 12, 3) := by decide +kernel
theorem dX5_storedInGroup_35 : decode cX5_storedInGroup 35 = .ok (.getfield 96, 3) := by decide +kernel
theorem dX5_storedInGroup_38 : decode cX5_storedInGroup 38 = .ok (.getfield 128, 3) := by decide +kernel
theorem dX5_storedInGroup_41 : decode cX5_storedInGroup 41 = .ok (.if_icmp .ge 46, 3) := by decide +kernel
theorem dX5_storedInGroup_44 : decode cX5_storedInGroup 44 = .ok (.aload_n 0, 1) := by decide +kernel
theorem dX5_storedInGroup_45 : decode cX5_storedInGroup 45 = .ok (.getfield 12, 3) := by decide +kernel
theorem dX5_storedInGroup_48 : decode cX5_storedInGroup 48 = .ok (.getfield 96, 3) := by decide +kernel
theorem dX5_storedInGroup_51 : decode cX5_storedInGroup 51 = .ok (.getfield 100, 3) := by decide +kernel
theorem dX5_storedInGroup_54 : decode cX5_storedInGroup 54 = .ok (.iload 4, 2) := by decide +kernel
theorem dX5_storedInGroup_56 : decode cX5_storedInGroup 56 = .ok (.iaload, 1) := by decide +kernel
theorem dX5_storedInGroup_57 : decode cX5_storedInGroup 57 = .ok (.iload_n 2, 1) := by decide +kernel
theorem dX5_storedInGroup_58 : decode cX5_storedInGroup 58 = .ok (.if_icmp .ne 23, 3) := by decide +kernel
theorem dX5_storedInGroup_61 : decode cX5_storedInGroup 61 = .ok (.aload_n 0, 1) := by decide +kernel
theorem dX5_storedInGroup_62 : decode cX5_storedInGroup 62 = .ok (.getfield 12, 3) := by decide +kernel
theorem dX5_storedInGroup_65 : decode cX5_storedInGroup 65 = .ok (.getfield 70, 3) := by decide +kernel
theorem dX5_storedInGroup_68 : decode cX5_storedInGroup 68 = .ok (.iload_n 1, 1) := by decide +kernel
theorem dX5_storedInGroup_69 : decode cX5_storedInGroup 69 = .ok (.aaload, 1) := by decide +kernel
theorem dX5_storedInGroup_70 : decode cX5_storedInGroup 70 = .ok (.iload 4, 2) := by decide +kernel
theorem dX5_storedInGroup_72 : decode cX5_storedInGroup 72 = .ok (.invokevirtual 119, 3) := by decide +kernel
theorem dX5_storedInGroup_75 : decode cX5_storedInGroup 75 = .ok (.ifCond .eq 6, 3) := by decide +kernel
theorem dX5_storedInGroup_78 : decode cX5_storedInGroup 78 = .ok (.iinc 3 1, 3) := by decide +kernel
theorem dX5_storedInGroup_81 : decode cX5_storedInGroup 81 = .ok (.iinc 4 1, 3) := by decide +kernel
theorem dX5_storedInGroup_84 : decode cX5_storedInGroup 84 = .ok (.goto (-55), 3) := by decide +kernel
theorem dX5_storedInGroup_87 : decode cX5_storedInGroup 87 = .ok (.iload_n 3, 1) := by decide +kernel
theorem dX5_storedInGroup_88 : decode cX5_storedInGroup 88 = .ok (.ireturn, 1) := by decide +kernel
theorem dX5_distance_0 : decode cX5_distance 0 = .ok (.iload_n 1, 1) := by decide +kernel
theorem dX5_distance_1 : decode cX5_distance 1 = .ok (.bipush 6, 2) := by decide +kernel
theorem dX5_distance_3 : decode cX5_distance 3 = .ok (.invokestatic 35, 3) := by decide +kernel
theorem dX5_distance_6 : decode cX5_distance 6 = .ok (.ifCond .eq 12, 3) := by decide +kernel
theorem dX5_distance_9 : decode cX5_distance 9 = .ok (.iload_n 2, 1) := by decide +kernel
theorem dX5_distance_10 : decode cX5_distance 10 = .ok (.bipush 6, 2) := by decide +kernel
theorem dX5_distance_12 : decode cX5_distance 12 = .ok (.invokestatic 35, 3) := by decide +kernel
theorem dX5_distance_15 : decode cX5_distance 15 = .ok (.ifCond .ne 10, 3) := by decide +kernel
theorem dX5_distance_18 : decode cX5_distance 18 = .ok (.aload_n 0, 1) := by decide +kernel
theorem dX5_distance_19 : decode cX5_distance 19 = .ok (.bipush (-2), 2) := by decide +kernel
theorem dX5_distance_21 : decode cX5_distance 21 = .ok (.invokevirtual 39, 3) := by decide +kernel
theorem dX5_distance_24 : decode cX5_distance 24 = .ok (.ireturn, 1) := by decide +kernel
theorem dX5_distance_25 : decode cX5_distance 25 = .ok (.iconst 1, 1) := by decide +kernel
theorem dX5_distance_26 : decode cX5_distance 26 = .ok (.iload_n 1, 1) := by decide +kernel
theorem dX5_distance_27 : decode cX5_distance 27 = .ok (.ishl, 1) := by decide +kernel
theorem dX5_distance_28 : decode cX5_distance 28 = .ok (.istore_n 3, 1) := by decide +kernel
theorem dX5_distance_29 : decode cX5_distance 29 = .ok (.iconst 0, 1) := by decide +kernel
theorem dX5_distance_30 : decode cX5_distance 30 = .ok (.istore 4, 2) := by decide +kernel
theorem dX5_distance_32 : decode cX5_distance 32 = .ok (.iload 4, 2) := by decide +kernel
theorem dX5_distance_34 : decode cX5_distance 34 = .ok (.bipush 6, 2) := by decide +kernel
theorem dX5_distance_36 : decode cX5_distance 36 = .ok (.if_icmp .ge 34, 3) := by decide +kernel
theorem dX5_distance_39 : decode cX5_distance 39 = .ok (.iload_n 3, 1) := by decide +kernel
theorem dX5_distance_40 : decode cX5_distance 40 = .ok (.iload_n 2, 1) := by decide +kernel
theorem dX5_distance_41 : decode cX5_distance 41 = .ok (.invokestatic 129, 3) := by decide +kernel
theorem dX5_distance_44 : decode cX5_distance 44 = .ok (.ifCond .eq 6, 3) := by decide +kernel
theorem dX5_distance_47 : decode cX5_distance 47 = .ok (.iload 4, 2) := by decide +kernel
theorem dX5_distance_49 : decode cX5_distance 49 = .ok (.ireturn, 1) := by decide +kernel
theorem dX5_distance_50 : decode cX5_distance 50 = .ok (.iload_n 3, 1) := by decide +kernel
theorem dX5_distance_51 : decode cX5_distance 51 = .ok (.aload_n 0, 1) := by decide +kernel
theorem dX5_distance_52 : decode cX5_distance 52 = .ok (.getfield 12, 3) := by decide +kernel
theorem dX5_distance_55 : decode cX5_distance 55 = .ok (.getfield 43, 3) := by decide +kernel
theorem dX5_distance_58 : decode cX5_distance 58 = .ok (.iload_n 3, 1) := by decide +kernel
theorem dX5_distance_59 : decode cX5_distance 59 = .ok (.invokevirtual 132, 3) := by decide +kernel
theorem dX5_distance_62 : decode cX5_distance 62 = .ok (.ior, 1) := by decide +kernel
theorem dX5_distance_63 : decode cX5_distance 63 = .ok (.istore_n 3, 1) := by decide +kernel
theorem dX5_distance_64 : decode cX5_distance 64 = .ok (.iinc 4 1, 3) := by decide +kernel
theorem dX5_distance_67 : decode cX5_distance 67 = .ok (.goto (-35), 3) := by decide +kernel
theorem dX5_distance_70 : decode cX5_distance 70 = .ok (.iconst (-1), 1) := by decide +kernel
theorem dX5_distance_71 : decode cX5_distance 71 = .ok (.ireturn, 1) := by decide +kernel
theorem dX5_waiting_0 : decode cX5_waiting 0 = .ok (.aload_n 0, 1) := by decide +kernel
theorem dX5_waiting_1 : decode cX5_waiting 1 = .ok (.getfield 12, 3) := by decide +kernel
theorem dX5_waiting_4 : decode cX5_waiting 4 = .ok (.getfield 109, 3) := by decide +kernel
theorem dX5_waiting_7 : decode cX5_waiting 7 = .ok (.invokevirtual 112, 3) := by decide +kernel
theorem dX5_waiting_10 : decode cX5_waiting 10 = .ok (.ireturn, 1) := by decide +kernel
theorem dX5_total_0 : decode cX5_total 0 = .ok (.iload_n 1, 1) := by decide +kernel
theorem dX5_total_1 : decode cX5_total 1 = .ok (.bipush 6, 2) := by decide +kernel
theorem dX5_total_3 : decode cX5_total 3 = .ok (.invokestatic 35, 3) := by decide +kernel
theorem dX5_total_6 : decode cX5_total 6 = .ok (.ifCond .ne 10, 3) := by decide +kernel
theorem dX5_total_9 : decode cX5_total 9 = .ok (.aload_n 0, 1) := by decide +kernel
theorem dX5_total_10 : decode cX5_total 10 = .ok (.bipush (-2), 2) := by decide +kernel
theorem dX5_total_12 : decode cX5_total 12 = .ok (.invokevirtual 39, 3) := by decide +kernel
theorem dX5_total_15 : decode cX5_total 15 = .ok (.ireturn, 1) := by decide +kernel
theorem dX5_total_16 : decode cX5_total 16 = .ok (.aload_n 0, 1) := by decide +kernel
theorem dX5_total_17 : decode cX5_total 17 = .ok (.getfield 12, 3) := by decide +kernel
theorem dX5_total_20 : decode cX5_total 20 = .ok (.getfield 135, 3) := by decide +kernel
theorem dX5_total_23 : decode cX5_total 23 = .ok (.iload_n 1, 1) := by decide +kernel
theorem dX5_total_24 : decode cX5_total 24 = .ok (.iaload, 1) := by decide +kernel
theorem dX5_total_25 : decode cX5_total 25 = .ok (.ireturn, 1) := by decide +kernel
theorem dX5_day_0 : decode cX5_day 0 = .ok (.aload_n 0, 1) := by decide +kernel
theorem dX5_day_1 : decode cX5_day 1 = .ok (.getfield 12, 3) := by decide +kernel
theorem dX5_day_4 : decode cX5_day 4 = .ok (.getfield 138, 3) := by decide +kernel
theorem dX5_day_7 : decode cX5_day 7 = .ok (.ireturn, 1) := by decide +kernel
theorem dX5_undo_0 : decode cX5_undo 0 = .ok (.aload_n 0, 1) := by decide +kernel
theorem dX5_undo_1 : decode cX5_undo 1 = .ok (.getfield 27, 3) := by decide +kernel
theorem dX5_undo_4 : decode cX5_undo 4 = .ok (.iconst 1, 1) := by decide +kernel
theorem dX5_undo_5 : decode cX5_undo 5 = .ok (.if_icmp .ge 10, 3) := by decide +kernel
theorem dX5_undo_8 : decode cX5_undo 8 = .ok (.aload_n 0, 1) := by decide +kernel
theorem dX5_undo_9 : decode cX5_undo 9 = .ok (.bipush (-5), 2) := by decide +kernel
theorem dX5_undo_11 : decode cX5_undo 11 = .ok (.invokevirtual 39, 3) := by decide +kernel
theorem dX5_undo_14 : decode cX5_undo 14 = .ok (.ireturn, 1) := by decide +kernel
theorem dX5_undo_15 : decode cX5_undo 15 = .ok (.aload_n 0, 1) := by decide +kernel
theorem dX5_undo_16 : decode cX5_undo 16 = .ok (.dup, 1) := by decide +kernel
theorem dX5_undo_17 : decode cX5_undo 17 = .ok (.getfield 27, 3) := by decide +kernel
theorem dX5_undo_20 : decode cX5_undo 20 = .ok (.iconst 1, 1) := by decide +kernel
theorem dX5_undo_21 : decode cX5_undo 21 = .ok (.isub, 1) := by decide +kernel
theorem dX5_undo_22 : decode cX5_undo 22 = .ok (.putfield 27, 3) := by decide +kernel
theorem dX5_undo_25 : decode cX5_undo 25 = .ok (.aload_n 0, 1) := by decide +kernel
theorem dX5_undo_26 : decode cX5_undo 26 = .ok (.getfield 12, 3) := by decide +kernel
theorem dX5_undo_29 : decode cX5_undo 29 = .ok (.aload_n 0, 1) := by decide +kernel
theorem dX5_undo_30 : decode cX5_undo 30 = .ok (.getfield 23, 3) := by decide +kernel
theorem dX5_undo_33 : decode cX5_undo 33 = .ok (.aload_n 0, 1) := by decide +kernel
theorem dX5_undo_34 : decode cX5_undo 34 = .ok (.getfield 27, 3) := by decide +kernel
theorem dX5_undo_37 : decode cX5_undo 37 = .ok (.aaload, 1) := by decide +kernel
theorem dX5_undo_38 : decode cX5_undo 38 = .ok (.invokevirtual 141, 3) := by decide +kernel
theorem dX5_undo_41 : decode cX5_undo 41 = .ok (.aload_n 0, 1) := by decide +kernel
theorem dX5_undo_42 : decode cX5_undo 42 = .ok (.getfield 27, 3) := by decide +kernel
theorem dX5_undo_45 : decode cX5_undo 45 = .ok (.ireturn, 1) := by decide +kernel
theorem dX5_errorCount_0 : decode cX5_errorCount 0 = .ok (.iload_n 1, 1) := by decide +kernel
theorem dX5_errorCount_1 : decode cX5_errorCount 1 = .ok (.invokestatic 145, 3) := by decide +kernel
theorem dX5_errorCount_4 : decode cX5_errorCount 4 = .ok (.istore_n 2, 1) := by decide +kernel
theorem dX5_errorCount_5 : decode cX5_errorCount 5 = .ok (.iload_n 2, 1) := by decide +kernel
theorem dX5_errorCount_6 : decode cX5_errorCount 6 = .ok (.iconst 4, 1) := by decide +kernel
theorem dX5_errorCount_7 : decode cX5_errorCount 7 = .ok (.invokestatic 35, 3) := by decide +kernel
theorem dX5_errorCount_10 : decode cX5_errorCount 10 = .ok (.ifCond .ne 10, 3) := by decide +kernel
theorem dX5_errorCount_13 : decode cX5_errorCount 13 = .ok (.aload_n 0, 1) := by decide +kernel
theorem dX5_errorCount_14 : decode cX5_errorCount 14 = .ok (.bipush (-2), 2) := by decide +kernel
theorem dX5_errorCount_16 : decode cX5_errorCount 16 = .ok (.invokevirtual 39, 3) := by decide +kernel
theorem dX5_errorCount_19 : decode cX5_errorCount 19 = .ok (.ireturn, 1) := by decide +kernel
theorem dX5_errorCount_20 : decode cX5_errorCount 20 = .ok (.aload_n 0, 1) := by decide +kernel
theorem dX5_errorCount_21 : decode cX5_errorCount 21 = .ok (.getfield 31, 3) := by decide +kernel
theorem dX5_errorCount_24 : decode cX5_errorCount 24 = .ok (.iload_n 2, 1) := by decide +kernel
theorem dX5_errorCount_25 : decode cX5_errorCount 25 = .ok (.iaload, 1) := by decide +kernel
theorem dX5_errorCount_26 : decode cX5_errorCount 26 = .ok (.ireturn, 1) := by decide +kernel
theorem dX5_digest_0 : decode cX5_digest 0 = .ok (.ldc2_w 148, 3) := by decide +kernel
theorem dX5_digest_3 : decode cX5_digest 3 = .ok (.aload_n 0, 1) := by decide +kernel
theorem dX5_digest_4 : decode cX5_digest 4 = .ok (.getfield 31, 3) := by decide +kernel
theorem dX5_digest_7 : decode cX5_digest 7 = .ok (.invokestatic 150, 3) := by decide +kernel
theorem dX5_digest_10 : decode cX5_digest 10 = .ok (.lstore_n 1, 1) := by decide +kernel
theorem dX5_digest_11 : decode cX5_digest 11 = .ok (.lload_n 1, 1) := by decide +kernel
theorem dX5_digest_12 : decode cX5_digest 12 = .ok (.aload_n 0, 1) := by decide +kernel
theorem dX5_digest_13 : decode cX5_digest 13 = .ok (.getfield 12, 3) := by decide +kernel
theorem dX5_digest_16 : decode cX5_digest 16 = .ok (.getfield 138, 3) := by decide +kernel
theorem dX5_digest_19 : decode cX5_digest 19 = .ok (.invokestatic 154, 3) := by decide +kernel
theorem dX5_digest_22 : decode cX5_digest 22 = .ok (.lstore_n 1, 1) := by decide +kernel
theorem dX5_digest_23 : decode cX5_digest 23 = .ok (.lload_n 1, 1) := by decide +kernel
theorem dX5_digest_24 : decode cX5_digest 24 = .ok (.aload_n 0, 1) := by decide +kernel
theorem dX5_digest_25 : decode cX5_digest 25 = .ok (.getfield 12, 3) := by decide +kernel
theorem dX5_digest_28 : decode cX5_digest 28 = .ok (.getfield 86, 3) := by decide +kernel
theorem dX5_digest_31 : decode cX5_digest 31 = .ok (.invokestatic 154, 3) := by decide +kernel
theorem dX5_digest_34 : decode cX5_digest 34 = .ok (.lstore_n 1, 1) := by decide +kernel
theorem dX5_digest_35 : decode cX5_digest 35 = .ok (.lload_n 1, 1) := by decide +kernel
theorem dX5_digest_36 : decode cX5_digest 36 = .ok (.aload_n 0, 1) := by decide +kernel
theorem dX5_digest_37 : decode cX5_digest 37 = .ok (.getfield 12, 3) := by decide +kernel
theorem dX5_digest_40 : decode cX5_digest 40 = .ok (.getfield 83, 3) := by decide +kernel
theorem dX5_digest_43 : decode cX5_digest 43 = .ok (.invokestatic 150, 3) := by decide +kernel
theorem dX5_digest_46 : decode cX5_digest 46 = .ok (.lstore_n 1, 1) := by decide +kernel
theorem dX5_digest_47 : decode cX5_digest 47 = .ok (.lload_n 1, 1) := by decide +kernel
theorem dX5_digest_48 : decode cX5_digest 48 = .ok (.aload_n 0, 1) := by decide +kernel
theorem dX5_digest_49 : decode cX5_digest 49 = .ok (.getfield 12, 3) := by decide +kernel
theorem dX5_digest_52 : decode cX5_digest 52 = .ok (.getfield 43, 3) := by decide +kernel
theorem dX5_digest_55 : decode cX5_digest 55 = .ok (.invokestatic 158, 3) := by decide +kernel
theorem dX5_digest_58 : decode cX5_digest 58 = .ok (.lstore_n 1, 1) := by decide +kernel
theorem dX5_digest_59 : decode cX5_digest 59 = .ok (.lload_n 1, 1) := by decide +kernel
theorem dX5_digest_60 : decode cX5_digest 60 = .ok (.aload_n 0, 1) := by decide +kernel
theorem dX5_digest_61 : decode cX5_digest 61 = .ok (.getfield 12, 3) := by decide +kernel
theorem dX5_digest_64 : decode cX5_digest 64 = .ok (.getfield 96, 3) := by decide +kernel
theorem dX5_digest_67 : decode cX5_digest 67 = .ok (.invokestatic 162, 3) := by decide +kernel
theorem dX5_digest_70 : decode cX5_digest 70 = .ok (.lstore_n 1, 1) := by decide +kernel
theorem dX5_digest_71 : decode cX5_digest 71 = .ok (.iconst 0, 1) := by decide +kernel
theorem dX5_digest_72 : decode cX5_digest 72 = .ok (.istore_n 3, 1) := by decide +kernel
theorem dX5_digest_73 : decode cX5_digest 73 = .ok (.iload_n 3, 1) := by decide +kernel
theorem dX5_digest_74 : decode cX5_digest 74 = .ok (.bipush 6, 2) := by decide +kernel
theorem dX5_digest_76 : decode cX5_digest 76 = .ok (.if_icmp .ge 33, 3) := by decide +kernel
theorem dX5_digest_79 : decode cX5_digest 79 = .ok (.lload_n 1, 1) := by decide +kernel
theorem dX5_digest_80 : decode cX5_digest 80 = .ok (.aload_n 0, 1) := by decide +kernel
theorem dX5_digest_81 : decode cX5_digest 81 = .ok (.getfield 12, 3) := by decide +kernel
theorem dX5_digest_84 : decode cX5_digest 84 = .ok (.getfield 70, 3) := by decide +kernel
theorem dX5_digest_87 : decode cX5_digest 87 = .ok (.iload_n 3, 1) := by decide +kernel
theorem dX5_digest_88 : decode cX5_digest 88 = .ok (.aaload, 1) := by decide +kernel
theorem dX5_digest_89 : decode cX5_digest 89 = .ok (.aload_n 0, 1) := by decide +kernel
theorem dX5_digest_90 : decode cX5_digest 90 = .ok (.getfield 12, 3) := by decide +kernel
theorem dX5_digest_93 : decode cX5_digest 93 = .ok (.getfield 96, 3) := by decide +kernel
theorem dX5_digest_96 : decode cX5_digest 96 = .ok (.getfield 128, 3) := by decide +kernel
theorem dX5_digest_99 : decode cX5_digest 99 = .ok (.invokestatic 166, 3) := by decide +kernel
theorem dX5_digest_102 : decode cX5_digest 102 = .ok (.lstore_n 1, 1) := by decide +kernel
theorem dX5_digest_103 : decode cX5_digest 103 = .ok (.iinc 3 1, 3) := by decide +kernel
theorem dX5_digest_106 : decode cX5_digest 106 = .ok (.goto (-33), 3) := by decide +kernel
theorem dX5_digest_109 : decode cX5_digest 109 = .ok (.lload_n 1, 1) := by decide +kernel
theorem dX5_digest_110 : decode cX5_digest 110 = .ok (.aload_n 0, 1) := by decide +kernel
theorem dX5_digest_111 : decode cX5_digest 111 = .ok (.getfield 12, 3) := by decide +kernel
theorem dX5_digest_114 : decode cX5_digest 114 = .ok (.getfield 135, 3) := by decide +kernel
theorem dX5_digest_117 : decode cX5_digest 117 = .ok (.invokestatic 150, 3) := by decide +kernel
theorem dX5_digest_120 : decode cX5_digest 120 = .ok (.lstore_n 1, 1) := by decide +kernel
theorem dX5_digest_121 : decode cX5_digest 121 = .ok (.lload_n 1, 1) := by decide +kernel
theorem dX5_digest_122 : decode cX5_digest 122 = .ok (.aload_n 0, 1) := by decide +kernel
theorem dX5_digest_123 : decode cX5_digest 123 = .ok (.getfield 12, 3) := by decide +kernel
theorem dX5_digest_126 : decode cX5_digest 126 = .ok (.getfield 109, 3) := by decide +kernel
theorem dX5_digest_129 : decode cX5_digest 129 = .ok (.invokevirtual 112, 3) := by decide +kernel
theorem dX5_digest_132 : decode cX5_digest 132 = .ok (.invokestatic 154, 3) := by decide +kernel
theorem dX5_digest_135 : decode cX5_digest 135 = .ok (.lstore_n 1, 1) := by decide +kernel
theorem dX5_digest_136 : decode cX5_digest 136 = .ok (.lload_n 1, 1) := by decide +kernel
theorem dX5_digest_137 : decode cX5_digest 137 = .ok (.aload_n 0, 1) := by decide +kernel
theorem dX5_digest_138 : decode cX5_digest 138 = .ok (.getfield 27, 3) := by decide +kernel
theorem dX5_digest_141 : decode cX5_digest 141 = .ok (.invokestatic 154, 3) := by decide +kernel
theorem dX5_digest_144 : decode cX5_digest 144 = .ok (.lreturn, 1) := by decide +kernel
theorem dX5_publish_0 : decode cX5_publish 0 = .ok (.aload_n 0, 1) := by decide +kernel
theorem dX5_publish_1 : decode cX5_publish 1 = .ok (.getfield 12, 3) := by decide +kernel
theorem dX5_publish_4 : decode cX5_publish 4 = .ok (.getfield 96, 3) := by decide +kernel
theorem dX5_publish_7 : decode cX5_publish 7 = .ok (.getfield 128, 3) := by decide +kernel
theorem dX5_publish_10 : decode cX5_publish 10 = .ok (.bipush 30, 2) := by decide +kernel
theorem dX5_publish_12 : decode cX5_publish 12 = .ok (.if_icmp .lt 10, 3) := by decide +kernel
theorem dX5_publish_15 : decode cX5_publish 15 = .ok (.aload_n 0, 1) := by decide +kernel
theorem dX5_publish_16 : decode cX5_publish 16 = .ok (.bipush (-4), 2) := by decide +kernel
theorem dX5_publish_18 : decode cX5_publish 18 = .ok (.invokevirtual 39, 3) := by decide +kernel
theorem dX5_publish_21 : decode cX5_publish 21 = .ok (.ireturn, 1) := by decide +kernel
theorem dX5_publish_22 : decode cX5_publish 22 = .ok (.aload_n 0, 1) := by decide +kernel
theorem dX5_publish_23 : decode cX5_publish 23 = .ok (.invokevirtual 56, 3) := by decide +kernel
theorem dX5_publish_26 : decode cX5_publish 26 = .ok (.aload_n 0, 1) := by decide +kernel
theorem dX5_publish_27 : decode cX5_publish 27 = .ok (.getfield 12, 3) := by decide +kernel
theorem dX5_publish_30 : decode cX5_publish 30 = .ok (.getfield 96, 3) := by decide +kernel
theorem dX5_publish_33 : decode cX5_publish 33 = .ok (.iload_n 2, 1) := by decide +kernel
theorem dX5_publish_34 : decode cX5_publish 34 = .ok (.iload_n 3, 1) := by decide +kernel
theorem dX5_publish_35 : decode cX5_publish 35 = .ok (.aload_n 0, 1) := by decide +kernel
theorem dX5_publish_36 : decode cX5_publish 36 = .ok (.getfield 12, 3) := by decide +kernel
theorem dX5_publish_39 : decode cX5_publish 39 = .ok (.getfield 138, 3) := by decide +kernel
theorem dX5_publish_42 : decode cX5_publish 42 = .ok (.iload 4, 2) := by decide +kernel
theorem dX5_publish_44 : decode cX5_publish 44 = .ok (.iload 5, 2) := by decide +kernel
theorem dX5_publish_46 : decode cX5_publish 46 = .ok (.invokevirtual 170, 3) := by decide +kernel
theorem dX5_publish_49 : decode cX5_publish 49 = .ok (.istore 6, 2) := by decide +kernel
theorem dX5_publish_51 : decode cX5_publish 51 = .ok (.aload_n 0, 1) := by decide +kernel
theorem dX5_publish_52 : decode cX5_publish 52 = .ok (.getfield 12, 3) := by decide +kernel
theorem dX5_publish_55 : decode cX5_publish 55 = .ok (.iload 6, 2) := by decide +kernel
theorem dX5_publish_57 : decode cX5_publish 57 = .ok (.iload_n 1, 1) := by decide +kernel
theorem dX5_publish_58 : decode cX5_publish 58 = .ok (.iconst 0, 1) := by decide +kernel
theorem dX5_publish_59 : decode cX5_publish 59 = .ok (.invokevirtual 172, 3) := by decide +kernel
theorem dX5_publish_62 : decode cX5_publish 62 = .ok (.pop, 1) := by decide +kernel
theorem dX5_publish_63 : decode cX5_publish 63 = .ok (.iload 6, 2) := by decide +kernel
theorem dX5_publish_65 : decode cX5_publish 65 = .ok (.ireturn, 1) := by decide +kernel
theorem dX5_save_0 : decode cX5_save 0 = .ok (.aload_n 0, 1) := by decide +kernel
theorem dX5_save_1 : decode cX5_save 1 = .ok (.getfield 27, 3) := by decide +kernel
theorem dX5_save_4 : decode cX5_save 4 = .ok (.iconst 4, 1) := by decide +kernel
theorem dX5_save_5 : decode cX5_save 5 = .ok (.if_icmp .ge 16, 3) := by decide +kernel
theorem dX5_save_8 : decode cX5_save 8 = .ok (.aload_n 0, 1) := by decide +kernel
theorem dX5_save_9 : decode cX5_save 9 = .ok (.dup, 1) := by decide +kernel
theorem dX5_save_10 : decode cX5_save 10 = .ok (.getfield 27, 3) := by decide +kernel
theorem dX5_save_13 : decode cX5_save 13 = .ok (.iconst 1, 1) := by decide +kernel
theorem dX5_save_14 : decode cX5_save 14 = .ok (.iadd, 1) := by decide +kernel
theorem dX5_save_15 : decode cX5_save 15 = .ok (.putfield 27, 3) := by decide +kernel
theorem dX5_save_18 : decode cX5_save 18 = .ok (.goto 44, 3) := by decide +kernel
theorem dX5_save_21 : decode cX5_save 21 = .ok (.aload_n 0, 1) := by decide +kernel
theorem dX5_save_22 : decode cX5_save 22 = .ok (.getfield 23, 3) := by decide +kernel
theorem dX5_save_25 : decode cX5_save 25 = .ok (.iconst 0, 1) := by decide +kernel
theorem dX5_save_26 : decode cX5_save 26 = .ok (.aaload, 1) := by decide +kernel
theorem dX5_save_27 : decode cX5_save 27 = .ok (.astore_n 1, 1) := by decide +kernel
theorem dX5_save_28 : decode cX5_save 28 = .ok (.iconst 1, 1) := by decide +kernel
theorem dX5_save_29 : decode cX5_save 29 = .ok (.istore_n 2, 1) := by decide +kernel
theorem dX5_save_30 : decode cX5_save 30 = .ok (.iload_n 2, 1) := by decide +kernel
theorem dX5_save_31 : decode cX5_save 31 = .ok (.iconst 4, 1) := by decide +kernel
theorem dX5_save_32 : decode cX5_save 32 = .ok (.if_icmp .ge 23, 3) := by decide +kernel
theorem dX5_save_35 : decode cX5_save 35 = .ok (.aload_n 0, 1) := by decide +kernel
theorem dX5_save_36 : decode cX5_save 36 = .ok (.getfield 23, 3) := by decide +kernel
theorem dX5_save_39 : decode cX5_save 39 = .ok (.iload_n 2, 1) := by decide +kernel
theorem dX5_save_40 : decode cX5_save 40 = .ok (.iconst 1, 1) := by decide +kernel
theorem dX5_save_41 : decode cX5_save 41 = .ok (.isub, 1) := by decide +kernel
theorem dX5_save_42 : decode cX5_save 42 = .ok (.aload_n 0, 1) := by decide +kernel
theorem dX5_save_43 : decode cX5_save 43 = .ok (.getfield 23, 3) := by decide +kernel
theorem dX5_save_46 : decode cX5_save 46 = .ok (.iload_n 2, 1) := by decide +kernel
theorem dX5_save_47 : decode cX5_save 47 = .ok (.aaload, 1) := by decide +kernel
theorem dX5_save_48 : decode cX5_save 48 = .ok (.aastore, 1) := by decide +kernel
theorem dX5_save_49 : decode cX5_save 49 = .ok (.iinc 2 1, 3) := by decide +kernel
theorem dX5_save_52 : decode cX5_save 52 = .ok (.goto (-22), 3) := by decide +kernel
theorem dX5_save_55 : decode cX5_save 55 = .ok (.aload_n 0, 1) := by decide +kernel
theorem dX5_save_56 : decode cX5_save 56 = .ok (.getfield 23, 3) := by decide +kernel
theorem dX5_save_59 : decode cX5_save 59 = .ok (.iconst 3, 1) := by decide +kernel
theorem dX5_save_60 : decode cX5_save 60 = .ok (.aload_n 1, 1) := by decide +kernel
theorem dX5_save_61 : decode cX5_save 61 = .ok (.aastore, 1) := by decide +kernel
theorem dX5_save_62 : decode cX5_save 62 = .ok (.aload_n 0, 1) := by decide +kernel
theorem dX5_save_63 : decode cX5_save 63 = .ok (.getfield 23, 3) := by decide +kernel
theorem dX5_save_66 : decode cX5_save 66 = .ok (.aload_n 0, 1) := by decide +kernel
theorem dX5_save_67 : decode cX5_save 67 = .ok (.getfield 27, 3) := by decide +kernel
theorem dX5_save_70 : decode cX5_save 70 = .ok (.iconst 1, 1) := by decide +kernel
theorem dX5_save_71 : decode cX5_save 71 = .ok (.isub, 1) := by decide +kernel
theorem dX5_save_72 : decode cX5_save 72 = .ok (.aaload, 1) := by decide +kernel
theorem dX5_save_73 : decode cX5_save 73 = .ok (.aload_n 0, 1) := by decide +kernel
theorem dX5_save_74 : decode cX5_save 74 = .ok (.getfield 12, 3) := by decide +kernel
theorem dX5_save_77 : decode cX5_save 77 = .ok (.invokevirtual 141, 3) := by decide +kernel
theorem dX5_save_80 : decode cX5_save 80 = .ok (.return_, 1) := by decide +kernel
theorem dX5_fail_0 : decode cX5_fail 0 = .ok (.iload_n 1, 1) := by decide +kernel
theorem dX5_fail_1 : decode cX5_fail 1 = .ok (.invokestatic 145, 3) := by decide +kernel
theorem dX5_fail_4 : decode cX5_fail 4 = .ok (.istore_n 2, 1) := by decide +kernel
theorem dX5_fail_5 : decode cX5_fail 5 = .ok (.iload_n 2, 1) := by decide +kernel
theorem dX5_fail_6 : decode cX5_fail 6 = .ok (.iconst 4, 1) := by decide +kernel
theorem dX5_fail_7 : decode cX5_fail 7 = .ok (.invokestatic 35, 3) := by decide +kernel
theorem dX5_fail_10 : decode cX5_fail 10 = .ok (.ifCond .eq 13, 3) := by decide +kernel
theorem dX5_fail_13 : decode cX5_fail 13 = .ok (.aload_n 0, 1) := by decide +kernel
theorem dX5_fail_14 : decode cX5_fail 14 = .ok (.getfield 31, 3) := by decide +kernel
theorem dX5_fail_17 : decode cX5_fail 17 = .ok (.iload_n 2, 1) := by decide +kernel
theorem dX5_fail_18 : decode cX5_fail 18 = .ok (.dup2, 1) := by decide +kernel
theorem dX5_fail_19 : decode cX5_fail 19 = .ok (.iaload, 1) := by decide +kernel
theorem dX5_fail_20 : decode cX5_fail 20 = .ok (.iconst 1, 1) := by decide +kernel
theorem dX5_fail_21 : decode cX5_fail 21 = .ok (.iadd, 1) := by decide +kernel
theorem dX5_fail_22 : decode cX5_fail 22 = .ok (.iastore, 1) := by decide +kernel
theorem dX5_fail_23 : decode cX5_fail 23 = .ok (.iload_n 1, 1) := by decide +kernel
theorem dX5_fail_24 : decode cX5_fail 24 = .ok (.ireturn, 1) := by decide +kernel
theorem dX5_errorSlot_0 : decode cX5_errorSlot 0 = .ok (.iload_n 0, 1) := by decide +kernel
theorem dX5_errorSlot_1 : decode cX5_errorSlot 1 = .ok (.bipush (-5), 2) := by decide +kernel
theorem dX5_errorSlot_3 : decode cX5_errorSlot 3 = .ok (.if_icmp .lt 16, 3) := by decide +kernel
theorem dX5_errorSlot_6 : decode cX5_errorSlot 6 = .ok (.iload_n 0, 1) := by decide +kernel
theorem dX5_errorSlot_7 : decode cX5_errorSlot 7 = .ok (.bipush (-2), 2) := by decide +kernel
theorem dX5_errorSlot_9 : decode cX5_errorSlot 9 = .ok (.if_icmp .gt 10, 3) := by decide +kernel
theorem dX5_errorSlot_12 : decode cX5_errorSlot 12 = .ok (.bipush (-2), 2) := by decide +kernel
theorem dX5_errorSlot_14 : decode cX5_errorSlot 14 = .ok (.iload_n 0, 1) := by decide +kernel
theorem dX5_errorSlot_15 : decode cX5_errorSlot 15 = .ok (.isub, 1) := by decide +kernel
theorem dX5_errorSlot_16 : decode cX5_errorSlot 16 = .ok (.goto 4, 3) := by decide +kernel
theorem dX5_errorSlot_19 : decode cX5_errorSlot 19 = .ok (.iconst (-1), 1) := by decide +kernel
theorem dX5_errorSlot_20 : decode cX5_errorSlot 20 = .ok (.ireturn, 1) := by decide +kernel
theorem dX5_isArticle_0 : decode cX5_isArticle 0 = .ok (.iload_n 1, 1) := by decide +kernel
theorem dX5_isArticle_1 : decode cX5_isArticle 1 = .ok (.aload_n 0, 1) := by decide +kernel
theorem dX5_isArticle_2 : decode cX5_isArticle 2 = .ok (.getfield 12, 3) := by decide +kernel
theorem dX5_isArticle_5 : decode cX5_isArticle 5 = .ok (.getfield 96, 3) := by decide +kernel
theorem dX5_isArticle_8 : decode cX5_isArticle 8 = .ok (.getfield 128, 3) := by decide +kernel
theorem dX5_isArticle_11 : decode cX5_isArticle 11 = .ok (.invokestatic 35, 3) := by decide +kernel
theorem dX5_isArticle_14 : decode cX5_isArticle 14 = .ok (.ireturn, 1) := by decide +kernel
theorem dX5_isLimit_0 : decode cX5_isLimit 0 = .ok (.iload_n 0, 1) := by decide +kernel
theorem dX5_isLimit_1 : decode cX5_isLimit 1 = .ok (.iconst 1, 1) := by decide +kernel
theorem dX5_isLimit_2 : decode cX5_isLimit 2 = .ok (.if_icmp .lt 13, 3) := by decide +kernel
theorem dX5_isLimit_5 : decode cX5_isLimit 5 = .ok (.iload_n 0, 1) := by decide +kernel
theorem dX5_isLimit_6 : decode cX5_isLimit 6 = .ok (.bipush 30, 2) := by decide +kernel
theorem dX5_isLimit_8 : decode cX5_isLimit 8 = .ok (.if_icmp .gt 7, 3) := by decide +kernel
theorem dX5_isLimit_11 : decode cX5_isLimit 11 = .ok (.iconst 1, 1) := by decide +kernel
theorem dX5_isLimit_12 : decode cX5_isLimit 12 = .ok (.goto 4, 3) := by decide +kernel
theorem dX5_isLimit_15 : decode cX5_isLimit 15 = .ok (.iconst 0, 1) := by decide +kernel
theorem dX5_isLimit_16 : decode cX5_isLimit 16 = .ok (.ireturn, 1) := by decide +kernel
theorem dX5_isBelow_0 : decode cX5_isBelow 0 = .ok (.iload_n 0, 1) := by decide +kernel
theorem dX5_isBelow_1 : decode cX5_isBelow 1 = .ok (.ifCond .lt 12, 3) := by decide +kernel
theorem dX5_isBelow_4 : decode cX5_isBelow 4 = .ok (.iload_n 0, 1) := by decide +kernel
theorem dX5_isBelow_5 : decode cX5_isBelow 5 = .ok (.iload_n 1, 1) := by decide +kernel
theorem dX5_isBelow_6 : decode cX5_isBelow 6 = .ok (.if_icmp .ge 7, 3) := by decide +kernel
theorem dX5_isBelow_9 : decode cX5_isBelow 9 = .ok (.iconst 1, 1) := by decide +kernel
theorem dX5_isBelow_10 : decode cX5_isBelow 10 = .ok (.goto 4, 3) := by decide +kernel
theorem dX5_isBelow_13 : decode cX5_isBelow 13 = .ok (.iconst 0, 1) := by decide +kernel
theorem dX5_isBelow_14 : decode cX5_isBelow 14 = .ok (.ireturn, 1) := by decide +kernel
theorem dX5_has_0 : decode cX5_has 0 = .ok (.iload_n 0, 1) := by decide +kernel
theorem dX5_has_1 : decode cX5_has 1 = .ok (.iconst 1, 1) := by decide +kernel
theorem dX5_has_2 : decode cX5_has 2 = .ok (.iload_n 1, 1) := by decide +kernel
theorem dX5_has_3 : decode cX5_has 3 = .ok (.ishl, 1) := by decide +kernel
theorem dX5_has_4 : decode cX5_has 4 = .ok (.iand, 1) := by decide +kernel
theorem dX5_has_5 : decode cX5_has 5 = .ok (.ifCond .eq 7, 3) := by decide +kernel
theorem dX5_has_8 : decode cX5_has 8 = .ok (.iconst 1, 1) := by decide +kernel
theorem dX5_has_9 : decode cX5_has 9 = .ok (.goto 4, 3) := by decide +kernel
theorem dX5_has_12 : decode cX5_has 12 = .ok (.iconst 0, 1) := by decide +kernel
theorem dX5_has_13 : decode cX5_has 13 = .ok (.ireturn, 1) := by decide +kernel
theorem dX5_mix_0 : decode cX5_mix 0 = .ok (.ldc2_w 176, 3) := by decide +kernel
theorem dX5_mix_3 : decode cX5_mix 3 = .ok (.lload_n 0, 1) := by decide +kernel
theorem dX5_mix_4 : decode cX5_mix 4 = .ok (.lmul, 1) := by decide +kernel
theorem dX5_mix_5 : decode cX5_mix 5 = .ok (.iload_n 2, 1) := by decide +kernel
theorem dX5_mix_6 : decode cX5_mix 6 = .ok (.i2l, 1) := by decide +kernel
theorem dX5_mix_7 : decode cX5_mix 7 = .ok (.ladd, 1) := by decide +kernel
theorem dX5_mix_8 : decode cX5_mix 8 = .ok (.lreturn, 1) := by decide +kernel
theorem dX5_mixAll_0 : decode cX5_mixAll 0 = .ok (.lload_n 0, 1) := by decide +kernel
theorem dX5_mixAll_1 : decode cX5_mixAll 1 = .ok (.lstore_n 3, 1) := by decide +kernel
theorem dX5_mixAll_2 : decode cX5_mixAll 2 = .ok (.aload_n 2, 1) := by decide +kernel
theorem dX5_mixAll_3 : decode cX5_mixAll 3 = .ok (.astore 5, 2) := by decide +kernel
theorem dX5_mixAll_5 : decode cX5_mixAll 5 = .ok (.aload 5, 2) := by decide +kernel
theorem dX5_mixAll_7 : decode cX5_mixAll 7 = .ok (.arraylength, 1) := by decide +kernel
theorem dX5_mixAll_8 : decode cX5_mixAll 8 = .ok (.istore 6, 2) := by decide +kernel
theorem dX5_mixAll_10 : decode cX5_mixAll 10 = .ok (.iconst 0, 1) := by decide +kernel
theorem dX5_mixAll_11 : decode cX5_mixAll 11 = .ok (.istore 7, 2) := by decide +kernel
theorem dX5_mixAll_13 : decode cX5_mixAll 13 = .ok (.iload 7, 2) := by decide +kernel
theorem dX5_mixAll_15 : decode cX5_mixAll 15 = .ok (.iload 6, 2) := by decide +kernel
theorem dX5_mixAll_17 : decode cX5_mixAll 17 = .ok (.if_icmp .ge 23, 3) := by decide +kernel
theorem dX5_mixAll_20 : decode cX5_mixAll 20 = .ok (.aload 5, 2) := by decide +kernel
theorem dX5_mixAll_22 : decode cX5_mixAll 22 = .ok (.iload 7, 2) := by decide +kernel
theorem dX5_mixAll_24 : decode cX5_mixAll 24 = .ok (.iaload, 1) := by decide +kernel
theorem dX5_mixAll_25 : decode cX5_mixAll 25 = .ok (.istore 8, 2) := by decide +kernel
theorem dX5_mixAll_27 : decode cX5_mixAll 27 = .ok (.lload_n 3, 1) := by decide +kernel
theorem dX5_mixAll_28 : decode cX5_mixAll 28 = .ok (.iload 8, 2) := by decide +kernel
theorem dX5_mixAll_30 : decode cX5_mixAll 30 = .ok (.invokestatic 154, 3) := by decide +kernel
theorem dX5_mixAll_33 : decode cX5_mixAll 33 = .ok (.lstore_n 3, 1) := by decide +kernel
theorem dX5_mixAll_34 : decode cX5_mixAll 34 = .ok (.iinc 7 1, 3) := by decide +kernel
theorem dX5_mixAll_37 : decode cX5_mixAll 37 = .ok (.goto (-24), 3) := by decide +kernel
theorem dX5_mixAll_40 : decode cX5_mixAll 40 = .ok (.lload_n 3, 1) := by decide +kernel
theorem dX5_mixAll_41 : decode cX5_mixAll 41 = .ok (.lreturn, 1) := by decide +kernel
theorem dX5_mixLinks_0 : decode cX5_mixLinks 0 = .ok (.lload_n 0, 1) := by decide +kernel
theorem dX5_mixLinks_1 : decode cX5_mixLinks 1 = .ok (.lstore_n 3, 1) := by decide +kernel
theorem dX5_mixLinks_2 : decode cX5_mixLinks 2 = .ok (.iconst 0, 1) := by decide +kernel
theorem dX5_mixLinks_3 : decode cX5_mixLinks 3 = .ok (.istore 5, 2) := by decide +kernel
theorem dX5_mixLinks_5 : decode cX5_mixLinks 5 = .ok (.iload 5, 2) := by decide +kernel
theorem dX5_mixLinks_7 : decode cX5_mixLinks 7 = .ok (.aload_n 2, 1) := by decide +kernel
theorem dX5_mixLinks_8 : decode cX5_mixLinks 8 = .ok (.getfield 53, 3) := by decide +kernel
theorem dX5_mixLinks_11 : decode cX5_mixLinks 11 = .ok (.if_icmp .ge 45, 3) := by decide +kernel
theorem dX5_mixLinks_14 : decode cX5_mixLinks 14 = .ok (.lload_n 3, 1) := by decide +kernel
theorem dX5_mixLinks_15 : decode cX5_mixLinks 15 = .ok (.aload_n 2, 1) := by decide +kernel
theorem dX5_mixLinks_16 : decode cX5_mixLinks 16 = .ok (.getfield 178, 3) := by decide +kernel
theorem dX5_mixLinks_19 : decode cX5_mixLinks 19 = .ok (.iload 5, 2) := by decide +kernel
theorem dX5_mixLinks_21 : decode cX5_mixLinks 21 = .ok (.iaload, 1) := by decide +kernel
theorem dX5_mixLinks_22 : decode cX5_mixLinks 22 = .ok (.invokestatic 154, 3) := by decide +kernel
theorem dX5_mixLinks_25 : decode cX5_mixLinks 25 = .ok (.lstore_n 3, 1) := by decide +kernel
theorem dX5_mixLinks_26 : decode cX5_mixLinks 26 = .ok (.lload_n 3, 1) := by decide +kernel
theorem dX5_mixLinks_27 : decode cX5_mixLinks 27 = .ok (.aload_n 2, 1) := by decide +kernel
theorem dX5_mixLinks_28 : decode cX5_mixLinks 28 = .ok (.getfield 181, 3) := by decide +kernel
theorem dX5_mixLinks_31 : decode cX5_mixLinks 31 = .ok (.iload 5, 2) := by decide +kernel
theorem dX5_mixLinks_33 : decode cX5_mixLinks 33 = .ok (.iaload, 1) := by decide +kernel
theorem dX5_mixLinks_34 : decode cX5_mixLinks 34 = .ok (.invokestatic 154, 3) := by decide +kernel
theorem dX5_mixLinks_37 : decode cX5_mixLinks 37 = .ok (.lstore_n 3, 1) := by decide +kernel
theorem dX5_mixLinks_38 : decode cX5_mixLinks 38 = .ok (.lload_n 3, 1) := by decide +kernel
theorem dX5_mixLinks_39 : decode cX5_mixLinks 39 = .ok (.aload_n 2, 1) := by decide +kernel
theorem dX5_mixLinks_40 : decode cX5_mixLinks 40 = .ok (.getfield 67, 3) := by decide +kernel
theorem dX5_mixLinks_43 : decode cX5_mixLinks 43 = .ok (.iload 5, 2) := by decide +kernel
theorem dX5_mixLinks_45 : decode cX5_mixLinks 45 = .ok (.iaload, 1) := by decide +kernel
theorem dX5_mixLinks_46 : decode cX5_mixLinks 46 = .ok (.invokestatic 154, 3) := by decide +kernel
theorem dX5_mixLinks_49 : decode cX5_mixLinks 49 = .ok (.lstore_n 3, 1) := by decide +kernel
theorem dX5_mixLinks_50 : decode cX5_mixLinks 50 = .ok (.iinc 5 1, 3) := by decide +kernel
theorem dX5_mixLinks_53 : decode cX5_mixLinks 53 = .ok (.goto (-48), 3) := by decide +kernel
theorem dX5_mixLinks_56 : decode cX5_mixLinks 56 = .ok (.lload_n 3, 1) := by decide +kernel
theorem dX5_mixLinks_57 : decode cX5_mixLinks 57 = .ok (.lreturn, 1) := by decide +kernel
theorem dX5_mixArticles_0 : decode cX5_mixArticles 0 = .ok (.lload_n 0, 1) := by decide +kernel
theorem dX5_mixArticles_1 : decode cX5_mixArticles 1 = .ok (.aload_n 2, 1) := by decide +kernel
theorem dX5_mixArticles_2 : decode cX5_mixArticles 2 = .ok (.getfield 128, 3) := by decide +kernel
theorem dX5_mixArticles_5 : decode cX5_mixArticles 5 = .ok (.invokestatic 154, 3) := by decide +kernel
theorem dX5_mixArticles_8 : decode cX5_mixArticles 8 = .ok (.lstore_n 3, 1) := by decide +kernel
theorem dX5_mixArticles_9 : decode cX5_mixArticles 9 = .ok (.iconst 0, 1) := by decide +kernel
theorem dX5_mixArticles_10 : decode cX5_mixArticles 10 = .ok (.istore 5, 2) := by decide +kernel
theorem dX5_mixArticles_12 : decode cX5_mixArticles 12 = .ok (.iload 5, 2) := by decide +kernel
theorem dX5_mixArticles_14 : decode cX5_mixArticles 14 = .ok (.aload_n 2, 1) := by decide +kernel
theorem dX5_mixArticles_15 : decode cX5_mixArticles 15 = .ok (.getfield 128, 3) := by decide +kernel
theorem dX5_mixArticles_18 : decode cX5_mixArticles 18 = .ok (.if_icmp .ge 69, 3) := by decide +kernel
theorem dX5_mixArticles_21 : decode cX5_mixArticles 21 = .ok (.lload_n 3, 1) := by decide +kernel
theorem dX5_mixArticles_22 : decode cX5_mixArticles 22 = .ok (.aload_n 2, 1) := by decide +kernel
theorem dX5_mixArticles_23 : decode cX5_mixArticles 23 = .ok (.getfield 100, 3) := by decide +kernel
theorem dX5_mixArticles_26 : decode cX5_mixArticles 26 = .ok (.iload 5, 2) := by decide +kernel
theorem dX5_mixArticles_28 : decode cX5_mixArticles 28 = .ok (.iaload, 1) := by decide +kernel
theorem dX5_mixArticles_29 : decode cX5_mixArticles 29 = .ok (.invokestatic 154, 3) := by decide +kernel
theorem dX5_mixArticles_32 : decode cX5_mixArticles 32 = .ok (.lstore_n 3, 1) := by decide +kernel
theorem dX5_mixArticles_33 : decode cX5_mixArticles 33 = .ok (.lload_n 3, 1) := by decide +kernel
theorem dX5_mixArticles_34 : decode cX5_mixArticles 34 = .ok (.aload_n 2, 1) := by decide +kernel
theorem dX5_mixArticles_35 : decode cX5_mixArticles 35 = .ok (.getfield 184, 3) := by decide +kernel
theorem dX5_mixArticles_38 : decode cX5_mixArticles 38 = .ok (.iload 5, 2) := by decide +kernel
theorem dX5_mixArticles_40 : decode cX5_mixArticles 40 = .ok (.iaload, 1) := by decide +kernel
theorem dX5_mixArticles_41 : decode cX5_mixArticles 41 = .ok (.invokestatic 154, 3) := by decide +kernel
theorem dX5_mixArticles_44 : decode cX5_mixArticles 44 = .ok (.lstore_n 3, 1) := by decide +kernel
theorem dX5_mixArticles_45 : decode cX5_mixArticles 45 = .ok (.lload_n 3, 1) := by decide +kernel
theorem dX5_mixArticles_46 : decode cX5_mixArticles 46 = .ok (.aload_n 2, 1) := by decide +kernel
theorem dX5_mixArticles_47 : decode cX5_mixArticles 47 = .ok (.getfield 187, 3) := by decide +kernel
theorem dX5_mixArticles_50 : decode cX5_mixArticles 50 = .ok (.iload 5, 2) := by decide +kernel
theorem dX5_mixArticles_52 : decode cX5_mixArticles 52 = .ok (.iaload, 1) := by decide +kernel
theorem dX5_mixArticles_53 : decode cX5_mixArticles 53 = .ok (.invokestatic 154, 3) := by decide +kernel
theorem dX5_mixArticles_56 : decode cX5_mixArticles 56 = .ok (.lstore_n 3, 1) := by decide +kernel
theorem dX5_mixArticles_57 : decode cX5_mixArticles 57 = .ok (.lload_n 3, 1) := by decide +kernel
theorem dX5_mixArticles_58 : decode cX5_mixArticles 58 = .ok (.aload_n 2, 1) := by decide +kernel
theorem dX5_mixArticles_59 : decode cX5_mixArticles 59 = .ok (.getfield 190, 3) := by decide +kernel
theorem dX5_mixArticles_62 : decode cX5_mixArticles 62 = .ok (.iload 5, 2) := by decide +kernel
theorem dX5_mixArticles_64 : decode cX5_mixArticles 64 = .ok (.iaload, 1) := by decide +kernel
theorem dX5_mixArticles_65 : decode cX5_mixArticles 65 = .ok (.invokestatic 154, 3) := by decide +kernel
theorem dX5_mixArticles_68 : decode cX5_mixArticles 68 = .ok (.lstore_n 3, 1) := by decide +kernel
theorem dX5_mixArticles_69 : decode cX5_mixArticles 69 = .ok (.lload_n 3, 1) := by decide +kernel
theorem dX5_mixArticles_70 : decode cX5_mixArticles 70 = .ok (.aload_n 2, 1) := by decide +kernel
theorem dX5_mixArticles_71 : decode cX5_mixArticles 71 = .ok (.getfield 193, 3) := by decide +kernel
theorem dX5_mixArticles_74 : decode cX5_mixArticles 74 = .ok (.iload 5, 2) := by decide +kernel
theorem dX5_mixArticles_76 : decode cX5_mixArticles 76 = .ok (.iaload, 1) := by decide +kernel
theorem dX5_mixArticles_77 : decode cX5_mixArticles 77 = .ok (.invokestatic 154, 3) := by decide +kernel
theorem dX5_mixArticles_80 : decode cX5_mixArticles 80 = .ok (.lstore_n 3, 1) := by decide +kernel
theorem dX5_mixArticles_81 : decode cX5_mixArticles 81 = .ok (.iinc 5 1, 3) := by decide +kernel
theorem dX5_mixArticles_84 : decode cX5_mixArticles 84 = .ok (.goto (-72), 3) := by decide +kernel
theorem dX5_mixArticles_87 : decode cX5_mixArticles 87 = .ok (.lload_n 3, 1) := by decide +kernel
theorem dX5_mixArticles_88 : decode cX5_mixArticles 88 = .ok (.lreturn, 1) := by decide +kernel
theorem dX5_mixHost_0 : decode cX5_mixHost 0 = .ok (.lload_n 0, 1) := by decide +kernel
theorem dX5_mixHost_1 : decode cX5_mixHost 1 = .ok (.aload_n 2, 1) := by decide +kernel
theorem dX5_mixHost_2 : decode cX5_mixHost 2 = .ok (.getfield 74, 3) := by decide +kernel
theorem dX5_mixHost_5 : decode cX5_mixHost 5 = .ok (.invokestatic 154, 3) := by decide +kernel
theorem dX5_mixHost_8 : decode cX5_mixHost 8 = .ok (.lstore 4, 2) := by decide +kernel
theorem dX5_mixHost_10 : decode cX5_mixHost 10 = .ok (.lload 4, 2) := by decide +kernel
theorem dX5_mixHost_12 : decode cX5_mixHost 12 = .ok (.aload_n 2, 1) := by decide +kernel
theorem dX5_mixHost_13 : decode cX5_mixHost 13 = .ok (.invokevirtual 125, 3) := by decide +kernel
theorem dX5_mixHost_16 : decode cX5_mixHost 16 = .ok (.invokestatic 154, 3) := by decide +kernel
theorem dX5_mixHost_19 : decode cX5_mixHost 19 = .ok (.lstore 4, 2) := by decide +kernel
theorem dX5_mixHost_21 : decode cX5_mixHost 21 = .ok (.iconst 0, 1) := by decide +kernel
theorem dX5_mixHost_22 : decode cX5_mixHost 22 = .ok (.istore 6, 2) := by decide +kernel
theorem dX5_mixHost_24 : decode cX5_mixHost 24 = .ok (.iload 6, 2) := by decide +kernel
theorem dX5_mixHost_26 : decode cX5_mixHost 26 = .ok (.iload_n 3, 1) := by decide +kernel
theorem dX5_mixHost_27 : decode cX5_mixHost 27 = .ok (.if_icmp .ge 44, 3) := by decide +kernel
theorem dX5_mixHost_30 : decode cX5_mixHost 30 = .ok (.lload 4, 2) := by decide +kernel
theorem dX5_mixHost_32 : decode cX5_mixHost 32 = .ok (.aload_n 2, 1) := by decide +kernel
theorem dX5_mixHost_33 : decode cX5_mixHost 33 = .ok (.iload 6, 2) := by decide +kernel
theorem dX5_mixHost_35 : decode cX5_mixHost 35 = .ok (.invokevirtual 119, 3) := by decide +kernel
theorem dX5_mixHost_38 : decode cX5_mixHost 38 = .ok (.ifCond .eq 7, 3) := by decide +kernel
theorem dX5_mixHost_41 : decode cX5_mixHost 41 = .ok (.iconst 1, 1) := by decide +kernel
theorem dX5_mixHost_42 : decode cX5_mixHost 42 = .ok (.goto 4, 3) := by decide +kernel
theorem dX5_mixHost_45 : decode cX5_mixHost 45 = .ok (.iconst 0, 1) := by decide +kernel
theorem dX5_mixHost_46 : decode cX5_mixHost 46 = .ok (.invokestatic 154, 3) := by decide +kernel
theorem dX5_mixHost_49 : decode cX5_mixHost 49 = .ok (.lstore 4, 2) := by decide +kernel
theorem dX5_mixHost_51 : decode cX5_mixHost 51 = .ok (.lload 4, 2) := by decide +kernel
theorem dX5_mixHost_53 : decode cX5_mixHost 53 = .ok (.aload_n 2, 1) := by decide +kernel
theorem dX5_mixHost_54 : decode cX5_mixHost 54 = .ok (.getfield 122, 3) := by decide +kernel
theorem dX5_mixHost_57 : decode cX5_mixHost 57 = .ok (.iload 6, 2) := by decide +kernel
theorem dX5_mixHost_59 : decode cX5_mixHost 59 = .ok (.iaload, 1) := by decide +kernel
theorem dX5_mixHost_60 : decode cX5_mixHost 60 = .ok (.invokestatic 154, 3) := by decide +kernel
theorem dX5_mixHost_63 : decode cX5_mixHost 63 = .ok (.lstore 4, 2) := by decide +kernel
theorem dX5_mixHost_65 : decode cX5_mixHost 65 = .ok (.iinc 6 1, 3) := by decide +kernel
theorem dX5_mixHost_68 : decode cX5_mixHost 68 = .ok (.goto (-44), 3) := by decide +kernel
theorem dX5_mixHost_71 : decode cX5_mixHost 71 = .ok (.lload 4, 2) := by decide +kernel
theorem dX5_mixHost_73 : decode cX5_mixHost 73 = .ok (.lreturn, 1) := by decide +kernel
theorem dX6_init_0 : decode cX6_init 0 = .ok (.aload_n 0, 1) := by decide +kernel
theorem dX6_init_1 : decode cX6_init 1 = .ok (.invokespecial 1, 3) := by decide +kernel
theorem dX6_init_4 : decode cX6_init 4 = .ok (.aload_n 0, 1) := by decide +kernel
theorem dX6_init_5 : decode cX6_init 5 = .ok (.sipush 1597, 3) := by decide +kernel
theorem dX6_init_8 : decode cX6_init 8 = .ok (.newarray .int, 2) := by decide +kernel
theorem dX6_init_10 : decode cX6_init 10 = .ok (.putfield 7, 3) := by decide +kernel
theorem dX6_init_13 : decode cX6_init 13 = .ok (.aload_n 0, 1) := by decide +kernel
theorem dX6_init_14 : decode cX6_init 14 = .ok (.sipush 6388, 3) := by decide +kernel
theorem dX6_init_17 : decode cX6_init 17 = .ok (.newarray .int, 2) := by decide +kernel
theorem dX6_init_19 : decode cX6_init 19 = .ok (.putfield 13, 3) := by decide +kernel
theorem dX6_init_22 : decode cX6_init 22 = .ok (.aload_n 0, 1) := by decide +kernel
theorem dX6_init_23 : decode cX6_init 23 = .ok (.iconst 4, 1) := by decide +kernel
theorem dX6_init_24 : decode cX6_init 24 = .ok (.newarray .int, 2) := by decide +kernel
theorem dX6_init_26 : decode cX6_init 26 = .ok (.putfield 16, 3) := by decide +kernel
theorem dX6_init_29 : decode cX6_init 29 = .ok (.aload_n 0, 1) := by decide +kernel
theorem dX6_init_30 : decode cX6_init 30 = .ok (.sipush 1024, 3) := by decide +kernel
theorem dX6_init_33 : decode cX6_init 33 = .ok (.newarray .int, 2) := by decide +kernel
theorem dX6_init_35 : decode cX6_init 35 = .ok (.putfield 19, 3) := by decide +kernel
theorem dX6_init_38 : decode cX6_init 38 = .ok (.aload_n 0, 1) := by decide +kernel
theorem dX6_init_39 : decode cX6_init 39 = .ok (.getfield 7, 3) := by decide +kernel
theorem dX6_init_42 : decode cX6_init 42 = .ok (.iconst 1, 1) := by decide +kernel
theorem dX6_init_43 : decode cX6_init 43 = .ok (.bipush 10, 2) := by decide +kernel
theorem dX6_init_45 : decode cX6_init 45 = .ok (.iastore, 1) := by decide +kernel
theorem dX6_init_46 : decode cX6_init 46 = .ok (.iconst 0, 1) := by decide +kernel
theorem dX6_init_47 : decode cX6_init 47 = .ok (.istore_n 1, 1) := by decide +kernel
theorem dX6_init_48 : decode cX6_init 48 = .ok (.iload_n 1, 1) := by decide +kernel
theorem dX6_init_49 : decode cX6_init 49 = .ok (.iconst 4, 1) := by decide +kernel
theorem dX6_init_50 : decode cX6_init 50 = .ok (.if_icmp .ge 18, 3) := by decide +kernel
theorem dX6_init_53 : decode cX6_init 53 = .ok (.aload_n 0, 1) := by decide +kernel
theorem dX6_init_54 : decode cX6_init 54 = .ok (.getfield 7, 3) := by decide +kernel
theorem dX6_init_57 : decode cX6_init 57 = .ok (.iconst 2, 1) := by decide +kernel
theorem dX6_init_58 : decode cX6_init 58 = .ok (.iload_n 1, 1) := by decide +kernel
theorem dX6_init_59 : decode cX6_init 59 = .ok (.iadd, 1) := by decide +kernel
theorem dX6_init_60 : decode cX6_init 60 = .ok (.iconst 5, 1) := by decide +kernel
theorem dX6_init_61 : decode cX6_init 61 = .ok (.iastore, 1) := by decide +kernel
theorem dX6_init_62 : decode cX6_init 62 = .ok (.iinc 1 1, 3) := by decide +kernel
theorem dX6_init_65 : decode cX6_init 65 = .ok (.goto (-17), 3) := by decide +kernel
theorem dX6_init_68 : decode cX6_init 68 = .ok (.iconst 0, 1) := by decide +kernel
theorem dX6_init_69 : decode cX6_init 69 = .ok (.istore_n 1, 1) := by decide +kernel
theorem dX6_init_70 : decode cX6_init 70 = .ok (.iload_n 1, 1) := by decide +kernel
theorem dX6_init_71 : decode cX6_init 71 = .ok (.bipush 6, 2) := by decide +kernel
theorem dX6_init_73 : decode cX6_init 73 = .ok (.if_icmp .ge 20, 3) := by decide +kernel
theorem dX6_init_76 : decode cX6_init 76 = .ok (.aload_n 0, 1) := by decide +kernel
theorem dX6_init_77 : decode cX6_init 77 = .ok (.getfield 7, 3) := by decide +kernel
theorem dX6_init_80 : decode cX6_init 80 = .ok (.bipush 43, 2) := by decide +kernel
theorem dX6_init_82 : decode cX6_init 82 = .ok (.iload_n 1, 1) := by decide +kernel
theorem dX6_init_83 : decode cX6_init 83 = .ok (.iadd, 1) := by decide +kernel
theorem dX6_init_84 : decode cX6_init 84 = .ok (.bipush 15, 2) := by decide +kernel
theorem dX6_init_86 : decode cX6_init 86 = .ok (.iastore, 1) := by decide +kernel
theorem dX6_init_87 : decode cX6_init 87 = .ok (.iinc 1 1, 3) := by decide +kernel
theorem dX6_init_90 : decode cX6_init 90 = .ok (.goto (-20), 3) := by decide +kernel
theorem dX6_init_93 : decode cX6_init 93 = .ok (.iconst 0, 1) := by decide +kernel
theorem dX6_init_94 : decode cX6_init 94 = .ok (.istore_n 1, 1) := by decide +kernel
theorem dX6_init_95 : decode cX6_init 95 = .ok (.iload_n 1, 1) := by decide +kernel
theorem dX6_init_96 : decode cX6_init 96 = .ok (.sipush 180, 3) := by decide +kernel
theorem dX6_init_99 : decode cX6_init 99 = .ok (.if_icmp .ge 20, 3) := by decide +kernel
theorem dX6_init_102 : decode cX6_init 102 = .ok (.aload_n 0, 1) := by decide +kernel
theorem dX6_init_103 : decode cX6_init 103 = .ok (.getfield 7, 3) := by decide +kernel
theorem dX6_init_106 : decode cX6_init 106 = .ok (.sipush 200, 3) := by decide +kernel
theorem dX6_init_109 : decode cX6_init 109 = .ok (.iload_n 1, 1) := by decide +kernel
theorem dX6_init_110 : decode cX6_init 110 = .ok (.iadd, 1) := by decide +kernel
theorem dX6_init_111 : decode cX6_init 111 = .ok (.iconst (-1), 1) := by decide +kernel
theorem dX6_init_112 : decode cX6_init 112 = .ok (.iastore, 1) := by decide +kernel
theorem dX6_init_113 : decode cX6_init 113 = .ok (.iinc 1 1, 3) := by decide +kernel
theorem dX6_init_116 : decode cX6_init 116 = .ok (.goto (-21), 3) := by decide +kernel
theorem dX6_init_119 : decode cX6_init 119 = .ok (.return_, 1) := by decide +kernel
theorem dX6_in_0 : decode cX6_in 0 = .ok (.lload_n 0, 1) := by decide +kernel
theorem dX6_in_1 : decode cX6_in 1 = .ok (.lload_n 2, 1) := by decide +kernel
theorem dX6_in_2 : decode cX6_in 2 = .ok (.lcmp, 1) := by decide +kernel
theorem dX6_in_3 : decode cX6_in 3 = .ok (.ifCond .lt 14, 3) := by decide +kernel
theorem dX6_in_6 : decode cX6_in 6 = .ok (.lload_n 0, 1) := by decide +kernel
theorem dX6_in_7 : decode cX6_in 7 = .ok (.lload 4, 2) := by decide +kernel
theorem dX6_in_9 : decode cX6_in 9 = .ok (.lcmp, 1) := by decide +kernel
theorem dX6_in_10 : decode cX6_in 10 = .ok (.ifCond .gt 7, 3) := by decide +kernel
theorem dX6_in_13 : decode cX6_in 13 = .ok (.iconst 1, 1) := by decide +kernel
theorem dX6_in_14 : decode cX6_in 14 = .ok (.goto 4, 3) := by decide +kernel
theorem dX6_in_17 : decode cX6_in 17 = .ok (.iconst 0, 1) := by decide +kernel
theorem dX6_in_18 : decode cX6_in 18 = .ok (.ireturn, 1) := by decide +kernel
theorem dX6_error_0 : decode cX6_error 0 = .ok (.aload_n 0, 1) := by decide +kernel
theorem dX6_error_1 : decode cX6_error 1 = .ok (.getfield 16, 3) := by decide +kernel
theorem dX6_error_4 : decode cX6_error 4 = .ok (.bipush (-2), 2) := by decide +kernel
theorem dX6_error_6 : decode cX6_error 6 = .ok (.iload_n 1, 1) := by decide +kernel
theorem dX6_error_7 : decode cX6_error 7 = .ok (.isub, 1) := by decide +kernel
theorem dX6_error_8 : decode cX6_error 8 = .ok (.dup2, 1) := by decide +kernel
theorem dX6_error_9 : decode cX6_error 9 = .ok (.iaload, 1) := by decide +kernel
theorem dX6_error_10 : decode cX6_error 10 = .ok (.iconst 1, 1) := by decide +kernel
theorem dX6_error_11 : decode cX6_error 11 = .ok (.iadd, 1) := by decide +kernel
theorem dX6_error_12 : decode cX6_error 12 = .ok (.iastore, 1) := by decide +kernel
theorem dX6_error_13 : decode cX6_error 13 = .ok (.iload_n 1, 1) := by decide +kernel
theorem dX6_error_14 : decode cX6_error 14 = .ok (.ireturn, 1) := by decide +kernel
theorem dX6_save_0 : decode cX6_save 0 = .ok (.aload_n 0, 1) := by decide +kernel
theorem dX6_save_1 : decode cX6_save 1 = .ok (.getfield 22, 3) := by decide +kernel
theorem dX6_save_4 : decode cX6_save 4 = .ok (.iconst 4, 1) := by decide +kernel
theorem dX6_save_5 : decode cX6_save 5 = .ok (.if_icmp .ne 44, 3) := by decide +kernel
theorem dX6_save_8 : decode cX6_save 8 = .ok (.iconst 0, 1) := by decide +kernel
theorem dX6_save_9 : decode cX6_save 9 = .ok (.istore_n 1, 1) := by decide +kernel
theorem dX6_save_10 : decode cX6_save 10 = .ok (.iload_n 1, 1) := by decide +kernel
theorem dX6_save_11 : decode cX6_save 11 = .ok (.sipush 4791, 3) := by decide +kernel
theorem dX6_save_14 : decode cX6_save 14 = .ok (.if_icmp .ge 25, 3) := by decide +kernel
theorem dX6_save_17 : decode cX6_save 17 = .ok (.aload_n 0, 1) := by decide +kernel
theorem dX6_save_18 : decode cX6_save 18 = .ok (.getfield 13, 3) := by decide +kernel
theorem dX6_save_21 : decode cX6_save 21 = .ok (.iload_n 1, 1) := by decide +kernel
theorem dX6_save_22 : decode cX6_save 22 = .ok (.aload_n 0, 1) := by decide +kernel
theorem dX6_save_23 : decode cX6_save 23 = .ok (.getfield 13, 3) := by decide +kernel
theorem dX6_save_26 : decode cX6_save 26 = .ok (.iload_n 1, 1) := by decide +kernel
theorem dX6_save_27 : decode cX6_save 27 = .ok (.sipush 1597, 3) := by decide +kernel
theorem dX6_save_30 : decode cX6_save 30 = .ok (.iadd, 1) := by decide +kernel
theorem dX6_save_31 : decode cX6_save 31 = .ok (.iaload, 1) := by decide +kernel
theorem dX6_save_32 : decode cX6_save 32 = .ok (.iastore, 1) := by decide +kernel
theorem dX6_save_33 : decode cX6_save 33 = .ok (.iinc 1 1, 3) := by decide +kernel
theorem dX6_save_36 : decode cX6_save 36 = .ok (.goto (-26), 3) := by decide +kernel
theorem dX6_save_39 : decode cX6_save 39 = .ok (.aload_n 0, 1) := by decide +kernel
theorem dX6_save_40 : decode cX6_save 40 = .ok (.dup, 1) := by decide +kernel
theorem dX6_save_41 : decode cX6_save 41 = .ok (.getfield 22, 3) := by decide +kernel
theorem dX6_save_44 : decode cX6_save 44 = .ok (.iconst 1, 1) := by decide +kernel
theorem dX6_save_45 : decode cX6_save 45 = .ok (.isub, 1) := by decide +kernel
theorem dX6_save_46 : decode cX6_save 46 = .ok (.putfield 22, 3) := by decide +kernel
theorem dX6_save_49 : decode cX6_save 49 = .ok (.iconst 0, 1) := by decide +kernel
theorem dX6_save_50 : decode cX6_save 50 = .ok (.istore_n 1, 1) := by decide +kernel
theorem dX6_save_51 : decode cX6_save 51 = .ok (.iload_n 1, 1) := by decide +kernel
theorem dX6_save_52 : decode cX6_save 52 = .ok (.sipush 1597, 3) := by decide +kernel
theorem dX6_save_55 : decode cX6_save 55 = .ok (.if_icmp .ge 30, 3) := by decide +kernel
theorem dX6_save_58 : decode cX6_save 58 = .ok (.aload_n 0, 1) := by decide +kernel
theorem dX6_save_59 : decode cX6_save 59 = .ok (.getfield 13, 3) := by decide +kernel
theorem dX6_save_62 : decode cX6_save 62 = .ok (.sipush 1597, 3) := by decide +kernel
theorem dX6_save_65 : decode cX6_save 65 = .ok (.aload_n 0, 1) := by decide +kernel
theorem dX6_save_66 : decode cX6_save 66 = .ok (.getfield 22, 3) := by decide +kernel
theorem dX6_save_69 : decode cX6_save 69 = .ok (.imul, 1) := by decide +kernel
theorem dX6_save_70 : decode cX6_save 70 = .ok (.iload_n 1, 1) := by decide +kernel
theorem dX6_save_71 : decode cX6_save 71 = .ok (.iadd, 1) := by decide +kernel
theorem dX6_save_72 : decode cX6_save 72 = .ok (.aload_n 0, 1) := by decide +kernel
theorem dX6_save_73 : decode cX6_save 73 = .ok (.getfield 7, 3) := by decide +kernel
theorem dX6_save_76 : decode cX6_save 76 = .ok (.iload_n 1, 1) := by decide +kernel
theorem dX6_save_77 : decode cX6_save 77 = .ok (.iaload, 1) := by decide +kernel
