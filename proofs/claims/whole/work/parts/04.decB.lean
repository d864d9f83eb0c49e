theorem dX6_save_78 : decode cX6_save 78 = .ok (.iastore, 1) := by decide +kernel
theorem dX6_save_79 : decode cX6_save 79 = .ok (.iinc 1 1, 3) := by decide +kernel
theorem dX6_save_82 : decode cX6_save 82 = .ok (.goto (-31), 3) := by decide +kernel
theorem dX6_save_85 : decode cX6_save 85 = .ok (.aload_n 0, 1) := by decide +kernel
theorem dX6_save_86 : decode cX6_save 86 = .ok (.dup, 1) := by decide +kernel
theorem dX6_save_87 : decode cX6_save 87 = .ok (.getfield 22, 3) := by decide +kernel
theorem dX6_save_90 : decode cX6_save 90 = .ok (.iconst 1, 1) := by decide +kernel
theorem dX6_save_91 : decode cX6_save 91 = .ok (.iadd, 1) := by decide +kernel
theorem dX6_save_92 : decode cX6_save 92 = .ok (.putfield 22, 3) := by decide +kernel
theorem dX6_save_95 : decode cX6_save 95 = .ok (.return_, 1) := by decide +kernel
theorem dX6_isHost_0 : decode cX6_isHost 0 = .ok (.iload_n 0, 1) := by decide +kernel
theorem dX6_isHost_1 : decode cX6_isHost 1 = .ok (.i2l, 1) := by decide +kernel
theorem dX6_isHost_2 : decode cX6_isHost 2 = .ok (.lconst 0, 1) := by decide +kernel
theorem dX6_isHost_3 : decode cX6_isHost 3 = .ok (.ldc2_w 26, 3) := by decide +kernel
theorem dX6_isHost_6 : decode cX6_isHost 6 = .ok (.invokestatic 28, 3) := by decide +kernel
theorem dX6_isHost_9 : decode cX6_isHost 9 = .ok (.ireturn, 1) := by decide +kernel
theorem dX6_isGroup_0 : decode cX6_isGroup 0 = .ok (.iload_n 0, 1) := by decide +kernel
theorem dX6_isGroup_1 : decode cX6_isGroup 1 = .ok (.i2l, 1) := by decide +kernel
theorem dX6_isGroup_2 : decode cX6_isGroup 2 = .ok (.lconst 0, 1) := by decide +kernel
theorem dX6_isGroup_3 : decode cX6_isGroup 3 = .ok (.ldc2_w 32, 3) := by decide +kernel
theorem dX6_isGroup_6 : decode cX6_isGroup 6 = .ok (.invokestatic 28, 3) := by decide +kernel
theorem dX6_isGroup_9 : decode cX6_isGroup 9 = .ok (.ireturn, 1) := by decide +kernel
theorem dX6_isArticle_0 : decode cX6_isArticle 0 = .ok (.iload_n 1, 1) := by decide +kernel
theorem dX6_isArticle_1 : decode cX6_isArticle 1 = .ok (.i2l, 1) := by decide +kernel
theorem dX6_isArticle_2 : decode cX6_isArticle 2 = .ok (.lconst 0, 1) := by decide +kernel
theorem dX6_isArticle_3 : decode cX6_isArticle 3 = .ok (.aload_n 0, 1) := by decide +kernel
theorem dX6_isArticle_4 : decode cX6_isArticle 4 = .ok (.getfield 7, 3) := by decide +kernel
theorem dX6_isArticle_7 : decode cX6_isArticle 7 = .ok (.bipush 49, 2) := by decide +kernel
theorem dX6_isArticle_9 : decode cX6_isArticle 9 = .ok (.iaload, 1) := by decide +kernel
theorem dX6_isArticle_10 : decode cX6_isArticle 10 = .ok (.iconst 1, 1) := by decide +kernel
theorem dX6_isArticle_11 : decode cX6_isArticle 11 = .ok (.isub, 1) := by decide +kernel
theorem dX6_isArticle_12 : decode cX6_isArticle 12 = .ok (.i2l, 1) := by decide +kernel
theorem dX6_isArticle_13 : decode cX6_isArticle 13 = .ok (.invokestatic 28, 3) := by decide +kernel
theorem dX6_isArticle_16 : decode cX6_isArticle 16 = .ok (.ireturn, 1) := by decide +kernel
theorem dX6_isLink_0 : decode cX6_isLink 0 = .ok (.iload_n 1, 1) := by decide +kernel
theorem dX6_isLink_1 : decode cX6_isLink 1 = .ok (.i2l, 1) := by decide +kernel
theorem dX6_isLink_2 : decode cX6_isLink 2 = .ok (.lconst 0, 1) := by decide +kernel
theorem dX6_isLink_3 : decode cX6_isLink 3 = .ok (.aload_n 0, 1) := by decide +kernel
theorem dX6_isLink_4 : decode cX6_isLink 4 = .ok (.getfield 7, 3) := by decide +kernel
theorem dX6_isLink_7 : decode cX6_isLink 7 = .ok (.bipush 6, 2) := by decide +kernel
theorem dX6_isLink_9 : decode cX6_isLink 9 = .ok (.iaload, 1) := by decide +kernel
theorem dX6_isLink_10 : decode cX6_isLink 10 = .ok (.iconst 1, 1) := by decide +kernel
theorem dX6_isLink_11 : decode cX6_isLink 11 = .ok (.isub, 1) := by decide +kernel
theorem dX6_isLink_12 : decode cX6_isLink 12 = .ok (.i2l, 1) := by decide +kernel
theorem dX6_isLink_13 : decode cX6_isLink 13 = .ok (.invokestatic 28, 3) := by decide +kernel
theorem dX6_isLink_16 : decode cX6_isLink 16 = .ok (.ireturn, 1) := by decide +kernel
theorem dX6_link_0 : decode cX6_link 0 = .ok (.aload_n 0, 1) := by decide +kernel
theorem dX6_link_1 : decode cX6_link 1 = .ok (.getfield 7, 3) := by decide +kernel
theorem dX6_link_4 : decode cX6_link 4 = .ok (.bipush 7, 2) := by decide +kernel
theorem dX6_link_6 : decode cX6_link 6 = .ok (.iconst 3, 1) := by decide +kernel
theorem dX6_link_7 : decode cX6_link 7 = .ok (.iload_n 1, 1) := by decide +kernel
theorem dX6_link_8 : decode cX6_link 8 = .ok (.imul, 1) := by decide +kernel
theorem dX6_link_9 : decode cX6_link 9 = .ok (.iadd, 1) := by decide +kernel
theorem dX6_link_10 : decode cX6_link 10 = .ok (.iload_n 2, 1) := by decide +kernel
theorem dX6_link_11 : decode cX6_link 11 = .ok (.iadd, 1) := by decide +kernel
theorem dX6_link_12 : decode cX6_link 12 = .ok (.iaload, 1) := by decide +kernel
theorem dX6_link_13 : decode cX6_link 13 = .ok (.ireturn, 1) := by decide +kernel
theorem dX6_linkOf_0 : decode cX6_linkOf 0 = .ok (.iconst 0, 1) := by decide +kernel
theorem dX6_linkOf_1 : decode cX6_linkOf 1 = .ok (.istore_n 3, 1) := by decide +kernel
theorem dX6_linkOf_2 : decode cX6_linkOf 2 = .ok (.iload_n 3, 1) := by decide +kernel
theorem dX6_linkOf_3 : decode cX6_linkOf 3 = .ok (.aload_n 0, 1) := by decide +kernel
theorem dX6_linkOf_4 : decode cX6_linkOf 4 = .ok (.getfield 7, 3) := by decide +kernel
theorem dX6_linkOf_7 : decode cX6_linkOf 7 = .ok (.bipush 6, 2) := by decide +kernel
theorem dX6_linkOf_9 : decode cX6_linkOf 9 = .ok (.iaload, 1) := by decide +kernel
theorem dX6_linkOf_10 : decode cX6_linkOf 10 = .ok (.if_icmp .ge 51, 3) := by decide +kernel
theorem dX6_linkOf_13 : decode cX6_linkOf 13 = .ok (.aload_n 0, 1) := by decide +kernel
theorem dX6_linkOf_14 : decode cX6_linkOf 14 = .ok (.iload_n 3, 1) := by decide +kernel
theorem dX6_linkOf_15 : decode cX6_linkOf 15 = .ok (.iconst 0, 1) := by decide +kernel
theorem dX6_linkOf_16 : decode cX6_linkOf 16 = .ok (.invokevirtual 34, 3) := by decide +kernel
theorem dX6_linkOf_19 : decode cX6_linkOf 19 = .ok (.iload_n 1, 1) := by decide +kernel
theorem dX6_linkOf_20 : decode cX6_linkOf 20 = .ok (.if_icmp .ne 13, 3) := by decide +kernel
theorem dX6_linkOf_23 : decode cX6_linkOf 23 = .ok (.aload_n 0, 1) := by decide +kernel
theorem dX6_linkOf_24 : decode cX6_linkOf 24 = .ok (.iload_n 3, 1) := by decide +kernel
theorem dX6_linkOf_25 : decode cX6_linkOf 25 = .ok (.iconst 1, 1) := by decide +kernel
theorem dX6_linkOf_26 : decode cX6_linkOf 26 = .ok (.invokevirtual 34, 3) := by decide +kernel
theorem dX6_linkOf_29 : decode cX6_linkOf 29 = .ok (.iload_n 2, 1) := by decide +kernel
theorem dX6_linkOf_30 : decode cX6_linkOf 30 = .ok (.if_icmp .eq 23, 3) := by decide +kernel
theorem dX6_linkOf_33 : decode cX6_linkOf 33 = .ok (.aload_n 0, 1) := by decide +kernel
theorem dX6_linkOf_34 : decode cX6_linkOf 34 = .ok (.iload_n 3, 1) := by decide +kernel
theorem dX6_linkOf_35 : decode cX6_linkOf 35 = .ok (.iconst 0, 1) := by decide +kernel
theorem dX6_linkOf_36 : decode cX6_linkOf 36 = .ok (.invokevirtual 34, 3) := by decide +kernel
theorem dX6_linkOf_39 : decode cX6_linkOf 39 = .ok (.iload_n 2, 1) := by decide +kernel
theorem dX6_linkOf_40 : decode cX6_linkOf 40 = .ok (.if_icmp .ne 15, 3) := by decide +kernel
theorem dX6_linkOf_43 : decode cX6_linkOf 43 = .ok (.aload_n 0, 1) := by decide +kernel
theorem dX6_linkOf_44 : decode cX6_linkOf 44 = .ok (.iload_n 3, 1) := by decide +kernel
theorem dX6_linkOf_45 : decode cX6_linkOf 45 = .ok (.iconst 1, 1) := by decide +kernel
theorem dX6_linkOf_46 : decode cX6_linkOf 46 = .ok (.invokevirtual 34, 3) := by decide +kernel
theorem dX6_linkOf_49 : decode cX6_linkOf 49 = .ok (.iload_n 1, 1) := by decide +kernel
theorem dX6_linkOf_50 : decode cX6_linkOf 50 = .ok (.if_icmp .ne 5, 3) := by decide +kernel
theorem dX6_linkOf_53 : decode cX6_linkOf 53 = .ok (.iload_n 3, 1) := by decide +kernel
theorem dX6_linkOf_54 : decode cX6_linkOf 54 = .ok (.ireturn, 1) := by decide +kernel
theorem dX6_linkOf_55 : decode cX6_linkOf 55 = .ok (.iinc 3 1, 3) := by decide +kernel
theorem dX6_linkOf_58 : decode cX6_linkOf 58 = .ok (.goto (-56), 3) := by decide +kernel
theorem dX6_linkOf_61 : decode cX6_linkOf 61 = .ok (.iconst (-1), 1) := by decide +kernel
theorem dX6_linkOf_62 : decode cX6_linkOf 62 = .ok (.ireturn, 1) := by decide +kernel
theorem dX6_addLink_0 : decode cX6_addLink 0 = .ok (.iload_n 1, 1) := by decide +kernel
theorem dX6_addLink_1 : decode cX6_addLink 1 = .ok (.invokestatic 38, 3) := by decide +kernel
theorem dX6_addLink_4 : decode cX6_addLink 4 = .ok (.ifCond .eq 25, 3) := by decide +kernel
theorem dX6_addLink_7 : decode cX6_addLink 7 = .ok (.iload_n 2, 1) := by decide +kernel
theorem dX6_addLink_8 : decode cX6_addLink 8 = .ok (.invokestatic 38, 3) := by decide +kernel
theorem dX6_addLink_11 : decode cX6_addLink 11 = .ok (.ifCond .eq 18, 3) := by decide +kernel
theorem dX6_addLink_14 : decode cX6_addLink 14 = .ok (.iload_n 1, 1) := by decide +kernel
theorem dX6_addLink_15 : decode cX6_addLink 15 = .ok (.iload_n 2, 1) := by decide +kernel
theorem dX6_addLink_16 : decode cX6_addLink 16 = .ok (.if_icmp .eq 13, 3) := by decide +kernel
theorem dX6_addLink_19 : decode cX6_addLink 19 = .ok (.iload_n 3, 1) := by decide +kernel
theorem dX6_addLink_20 : decode cX6_addLink 20 = .ok (.i2l, 1) := by decide +kernel
theorem dX6_addLink_21 : decode cX6_addLink 21 = .ok (.lconst 0, 1) := by decide +kernel
theorem dX6_addLink_22 : decode cX6_addLink 22 = .ok (.lconst 1, 1) := by decide +kernel
theorem dX6_addLink_23 : decode cX6_addLink 23 = .ok (.invokestatic 28, 3) := by decide +kernel
theorem dX6_addLink_26 : decode cX6_addLink 26 = .ok (.ifCond .ne 10, 3) := by decide +kernel
theorem dX6_addLink_29 : decode cX6_addLink 29 = .ok (.aload_n 0, 1) := by decide +kernel
theorem dX6_addLink_30 : decode cX6_addLink 30 = .ok (.bipush (-2), 2) := by decide +kernel
theorem dX6_addLink_32 : decode cX6_addLink 32 = .ok (.invokevirtual 42, 3) := by decide +kernel
theorem dX6_addLink_35 : decode cX6_addLink 35 = .ok (.ireturn, 1) := by decide +kernel
theorem dX6_addLink_36 : decode cX6_addLink 36 = .ok (.aload_n 0, 1) := by decide +kernel
theorem dX6_addLink_37 : decode cX6_addLink 37 = .ok (.iload_n 1, 1) := by decide +kernel
theorem dX6_addLink_38 : decode cX6_addLink 38 = .ok (.iload_n 2, 1) := by decide +kernel
theorem dX6_addLink_39 : decode cX6_addLink 39 = .ok (.invokevirtual 46, 3) := by decide +kernel
theorem dX6_addLink_42 : decode cX6_addLink 42 = .ok (.iconst (-1), 1) := by decide +kernel
theorem dX6_addLink_43 : decode cX6_addLink 43 = .ok (.if_icmp .eq 10, 3) := by decide +kernel
theorem dX6_addLink_46 : decode cX6_addLink 46 = .ok (.aload_n 0, 1) := by decide +kernel
theorem dX6_addLink_47 : decode cX6_addLink 47 = .ok (.bipush (-3), 2) := by decide +kernel
theorem dX6_addLink_49 : decode cX6_addLink 49 = .ok (.invokevirtual 42, 3) := by decide +kernel
theorem dX6_addLink_52 : decode cX6_addLink 52 = .ok (.ireturn, 1) := by decide +kernel
theorem dX6_addLink_53 : decode cX6_addLink 53 = .ok (.aload_n 0, 1) := by decide +kernel
theorem dX6_addLink_54 : decode cX6_addLink 54 = .ok (.getfield 7, 3) := by decide +kernel
theorem dX6_addLink_57 : decode cX6_addLink 57 = .ok (.bipush 6, 2) := by decide +kernel
theorem dX6_addLink_59 : decode cX6_addLink 59 = .ok (.iaload, 1) := by decide +kernel
theorem dX6_addLink_60 : decode cX6_addLink 60 = .ok (.bipush 12, 2) := by decide +kernel
theorem dX6_addLink_62 : decode cX6_addLink 62 = .ok (.if_icmp .ne 10, 3) := by decide +kernel
theorem dX6_addLink_65 : decode cX6_addLink 65 = .ok (.aload_n 0, 1) := by decide +kernel
theorem dX6_addLink_66 : decode cX6_addLink 66 = .ok (.bipush (-4), 2) := by decide +kernel
theorem dX6_addLink_68 : decode cX6_addLink 68 = .ok (.invokevirtual 42, 3) := by decide +kernel
theorem dX6_addLink_71 : decode cX6_addLink 71 = .ok (.ireturn, 1) := by decide +kernel
theorem dX6_addLink_72 : decode cX6_addLink 72 = .ok (.aload_n 0, 1) := by decide +kernel
theorem dX6_addLink_73 : decode cX6_addLink 73 = .ok (.invokevirtual 49, 3) := by decide +kernel
theorem dX6_addLink_76 : decode cX6_addLink 76 = .ok (.bipush 7, 2) := by decide +kernel
theorem dX6_addLink_78 : decode cX6_addLink 78 = .ok (.iconst 3, 1) := by decide +kernel
theorem dX6_addLink_79 : decode cX6_addLink 79 = .ok (.aload_n 0, 1) := by decide +kernel
theorem dX6_addLink_80 : decode cX6_addLink 80 = .ok (.getfield 7, 3) := by decide +kernel
theorem dX6_addLink_83 : decode cX6_addLink 83 = .ok (.bipush 6, 2) := by decide +kernel
theorem dX6_addLink_85 : decode cX6_addLink 85 = .ok (.iaload, 1) := by decide +kernel
theorem dX6_addLink_86 : decode cX6_addLink 86 = .ok (.imul, 1) := by decide +kernel
theorem dX6_addLink_87 : decode cX6_addLink 87 = .ok (.iadd, 1) := by decide +kernel
theorem dX6_addLink_88 : decode cX6_addLink 88 = .ok (.istore 4, 2) := by decide +kernel
theorem dX6_addLink_90 : decode cX6_addLink 90 = .ok (.aload_n 0, 1) := by decide +kernel
theorem dX6_addLink_91 : decode cX6_addLink 91 = .ok (.getfield 7, 3) := by decide +kernel
theorem dX6_addLink_94 : decode cX6_addLink 94 = .ok (.iload 4, 2) := by decide +kernel
theorem dX6_addLink_96 : decode cX6_addLink 96 = .ok (.iload_n 1, 1) := by decide +kernel
theorem dX6_addLink_97 : decode cX6_addLink 97 = .ok (.iastore, 1) := by decide +kernel
theorem dX6_addLink_98 : decode cX6_addLink 98 = .ok (.aload_n 0, 1) := by decide +kernel
theorem dX6_addLink_99 : decode cX6_addLink 99 = .ok (.getfield 7, 3) := by decide +kernel
theorem dX6_addLink_102 : decode cX6_addLink 102 = .ok (.iload 4, 2) := by decide +kernel
theorem dX6_addLink_104 : decode cX6_addLink 104 = .ok (.iconst 1, 1) := by decide +kernel
theorem dX6_addLink_105 : decode cX6_addLink 105 = .ok (.iadd, 1) := by decide +kernel
theorem dX6_addLink_106 : decode cX6_addLink 106 = .ok (.iload_n 2, 1) := by decide +kernel
theorem dX6_addLink_107 : decode cX6_addLink 107 = .ok (.iastore, 1) := by decide +kernel
theorem dX6_addLink_108 : decode cX6_addLink 108 = .ok (.aload_n 0, 1) := by decide +kernel
theorem dX6_addLink_109 : decode cX6_addLink 109 = .ok (.getfield 7, 3) := by decide +kernel
theorem dX6_addLink_112 : decode cX6_addLink 112 = .ok (.iload 4, 2) := by decide +kernel
theorem dX6_addLink_114 : decode cX6_addLink 114 = .ok (.iconst 2, 1) := by decide +kernel
theorem dX6_addLink_115 : decode cX6_addLink 115 = .ok (.iadd, 1) := by decide +kernel
theorem dX6_addLink_116 : decode cX6_addLink 116 = .ok (.iload_n 3, 1) := by decide +kernel
theorem dX6_addLink_117 : decode cX6_addLink 117 = .ok (.iastore, 1) := by decide +kernel
theorem dX6_addLink_118 : decode cX6_addLink 118 = .ok (.aload_n 0, 1) := by decide +kernel
theorem dX6_addLink_119 : decode cX6_addLink 119 = .ok (.getfield 7, 3) := by decide +kernel
theorem dX6_addLink_122 : decode cX6_addLink 122 = .ok (.bipush 6, 2) := by decide +kernel
theorem dX6_addLink_124 : decode cX6_addLink 124 = .ok (.dup2, 1) := by decide +kernel
theorem dX6_addLink_125 : decode cX6_addLink 125 = .ok (.iaload, 1) := by decide +kernel
theorem dX6_addLink_126 : decode cX6_addLink 126 = .ok (.iconst 1, 1) := by decide +kernel
theorem dX6_addLink_127 : decode cX6_addLink 127 = .ok (.iadd, 1) := by decide +kernel
theorem dX6_addLink_128 : decode cX6_addLink 128 = .ok (.iastore, 1) := by decide +kernel
theorem dX6_addLink_129 : decode cX6_addLink 129 = .ok (.aload_n 0, 1) := by decide +kernel
theorem dX6_addLink_130 : decode cX6_addLink 130 = .ok (.getfield 7, 3) := by decide +kernel
theorem dX6_addLink_133 : decode cX6_addLink 133 = .ok (.bipush 6, 2) := by decide +kernel
theorem dX6_addLink_135 : decode cX6_addLink 135 = .ok (.iaload, 1) := by decide +kernel
theorem dX6_addLink_136 : decode cX6_addLink 136 = .ok (.iconst 1, 1) := by decide +kernel
theorem dX6_addLink_137 : decode cX6_addLink 137 = .ok (.isub, 1) := by decide +kernel
theorem dX6_addLink_138 : decode cX6_addLink 138 = .ok (.ireturn, 1) := by decide +kernel
theorem dX6_removeLink_0 : decode cX6_removeLink 0 = .ok (.aload_n 0, 1) := by decide +kernel
theorem dX6_removeLink_1 : decode cX6_removeLink 1 = .ok (.iload_n 1, 1) := by decide +kernel
theorem dX6_removeLink_2 : decode cX6_removeLink 2 = .ok (.invokevirtual 52, 3) := by decide +kernel
theorem dX6_removeLink_5 : decode cX6_removeLink 5 = .ok (.ifCond .ne 10, 3) := by decide +kernel
theorem dX6_removeLink_8 : decode cX6_removeLink 8 = .ok (.aload_n 0, 1) := by decide +kernel
theorem dX6_removeLink_9 : decode cX6_removeLink 9 = .ok (.bipush (-2), 2) := by decide +kernel
theorem dX6_removeLink_11 : decode cX6_removeLink 11 = .ok (.invokevirtual 42, 3) := by decide +kernel
theorem dX6_removeLink_14 : decode cX6_removeLink 14 = .ok (.ireturn, 1) := by decide +kernel
theorem dX6_removeLink_15 : decode cX6_removeLink 15 = .ok (.aload_n 0, 1) := by decide +kernel
theorem dX6_removeLink_16 : decode cX6_removeLink 16 = .ok (.invokevirtual 49, 3) := by decide +kernel
theorem dX6_removeLink_19 : decode cX6_removeLink 19 = .ok (.iconst 3, 1) := by decide +kernel
theorem dX6_removeLink_20 : decode cX6_removeLink 20 = .ok (.iload_n 1, 1) := by decide +kernel
theorem dX6_removeLink_21 : decode cX6_removeLink 21 = .ok (.imul, 1) := by decide +kernel
theorem dX6_removeLink_22 : decode cX6_removeLink 22 = .ok (.istore_n 2, 1) := by decide +kernel
theorem dX6_removeLink_23 : decode cX6_removeLink 23 = .ok (.iload_n 2, 1) := by decide +kernel
theorem dX6_removeLink_24 : decode cX6_removeLink 24 = .ok (.bipush 33, 2) := by decide +kernel
theorem dX6_removeLink_26 : decode cX6_removeLink 26 = .ok (.if_icmp .ge 29, 3) := by decide +kernel
theorem dX6_removeLink_29 : decode cX6_removeLink 29 = .ok (.aload_n 0, 1) := by decide +kernel
theorem dX6_removeLink_30 : decode cX6_removeLink 30 = .ok (.getfield 7, 3) := by decide +kernel
theorem dX6_removeLink_33 : decode cX6_removeLink 33 = .ok (.bipush 7, 2) := by decide +kernel
theorem dX6_removeLink_35 : decode cX6_removeLink 35 = .ok (.iload_n 2, 1) := by decide +kernel
theorem dX6_removeLink_36 : decode cX6_removeLink 36 = .ok (.iadd, 1) := by decide +kernel
theorem dX6_removeLink_37 : decode cX6_removeLink 37 = .ok (.aload_n 0, 1) := by decide +kernel
theorem dX6_removeLink_38 : decode cX6_removeLink 38 = .ok (.getfield 7, 3) := by decide +kernel
theorem dX6_removeLink_41 : decode cX6_removeLink 41 = .ok (.bipush 7, 2) := by decide +kernel
theorem dX6_removeLink_43 : decode cX6_removeLink 43 = .ok (.iload_n 2, 1) := by decide +kernel
theorem dX6_removeLink_44 : decode cX6_removeLink 44 = .ok (.iadd, 1) := by decide +kernel
theorem dX6_removeLink_45 : decode cX6_removeLink 45 = .ok (.iconst 3, 1) := by decide +kernel
theorem dX6_removeLink_46 : decode cX6_removeLink 46 = .ok (.iadd, 1) := by decide +kernel
theorem dX6_removeLink_47 : decode cX6_removeLink 47 = .ok (.iaload, 1) := by decide +kernel
theorem dX6_removeLink_48 : decode cX6_removeLink 48 = .ok (.iastore, 1) := by decide +kernel
theorem dX6_removeLink_49 : decode cX6_removeLink 49 = .ok (.iinc 2 1, 3) := by decide +kernel
theorem dX6_removeLink_52 : decode cX6_removeLink 52 = .ok (.goto (-29), 3) := by decide +kernel
theorem dX6_removeLink_55 : decode cX6_removeLink 55 = .ok (.aload_n 0, 1) := by decide +kernel
theorem dX6_removeLink_56 : decode cX6_removeLink 56 = .ok (.getfield 7, 3) := by decide +kernel
theorem dX6_removeLink_59 : decode cX6_removeLink 59 = .ok (.bipush 6, 2) := by decide +kernel
theorem dX6_removeLink_61 : decode cX6_removeLink 61 = .ok (.dup2, 1) := by decide +kernel
theorem dX6_removeLink_62 : decode cX6_removeLink 62 = .ok (.iaload, 1) := by decide +kernel
theorem dX6_removeLink_63 : decode cX6_removeLink 63 = .ok (.iconst 1, 1) := by decide +kernel
theorem dX6_removeLink_64 : decode cX6_removeLink 64 = .ok (.isub, 1) := by decide +kernel
theorem dX6_removeLink_65 : decode cX6_removeLink 65 = .ok (.iastore, 1) := by decide +kernel
theorem dX6_removeLink_66 : decode cX6_removeLink 66 = .ok (.aload_n 0, 1) := by decide +kernel
theorem dX6_removeLink_67 : decode cX6_removeLink 67 = .ok (.getfield 7, 3) := by decide +kernel
theorem dX6_removeLink_70 : decode cX6_removeLink 70 = .ok (.bipush 6, 2) := by decide +kernel
theorem dX6_removeLink_72 : decode cX6_removeLink 72 = .ok (.iaload, 1) := by decide +kernel
theorem dX6_removeLink_73 : decode cX6_removeLink 73 = .ok (.ireturn, 1) := by decide +kernel
theorem dX6_setKind_0 : decode cX6_setKind 0 = .ok (.aload_n 0, 1) := by decide +kernel
theorem dX6_setKind_1 : decode cX6_setKind 1 = .ok (.iload_n 1, 1) := by decide +kernel
theorem dX6_setKind_2 : decode cX6_setKind 2 = .ok (.invokevirtual 52, 3) := by decide +kernel
theorem dX6_setKind_5 : decode cX6_setKind 5 = .ok (.ifCond .eq 13, 3) := by decide +kernel
theorem dX6_setKind_8 : decode cX6_setKind 8 = .ok (.iload_n 2, 1) := by decide +kernel
theorem dX6_setKind_9 : decode cX6_setKind 9 = .ok (.i2l, 1) := by decide +kernel
theorem dX6_setKind_10 : decode cX6_setKind 10 = .ok (.lconst 0, 1) := by decide +kernel
theorem dX6_setKind_11 : decode cX6_setKind 11 = .ok (.lconst 1, 1) := by decide +kernel
theorem dX6_setKind_12 : decode cX6_setKind 12 = .ok (.invokestatic 28, 3) := by decide +kernel
theorem dX6_setKind_15 : decode cX6_setKind 15 = .ok (.ifCond .ne 10, 3) := by decide +kernel
theorem dX6_setKind_18 : decode cX6_setKind 18 = .ok (.aload_n 0, 1) := by decide +kernel
theorem dX6_setKind_19 : decode cX6_setKind 19 = .ok (.bipush (-2), 2) := by decide +kernel
theorem dX6_setKind_21 : decode cX6_setKind 21 = .ok (.invokevirtual 42, 3) := by decide +kernel
theorem dX6_setKind_24 : decode cX6_setKind 24 = .ok (.ireturn, 1) := by decide +kernel
theorem dX6_setKind_25 : decode cX6_setKind 25 = .ok (.aload_n 0, 1) := by decide +kernel
theorem dX6_setKind_26 : decode cX6_setKind 26 = .ok (.invokevirtual 49, 3) := by decide +kernel
theorem dX6_setKind_29 : decode cX6_setKind 29 = .ok (.aload_n 0, 1) := by decide +kernel
theorem dX6_setKind_30 : decode cX6_setKind 30 = .ok (.iload_n 1, 1) := by decide +kernel
theorem dX6_setKind_31 : decode cX6_setKind 31 = .ok (.iconst 2, 1) := by decide +kernel
theorem dX6_setKind_32 : decode cX6_setKind 32 = .ok (.invokevirtual 34, 3) := by decide +kernel
theorem dX6_setKind_35 : decode cX6_setKind 35 = .ok (.istore_n 3, 1) := by decide +kernel
theorem dX6_setKind_36 : decode cX6_setKind 36 = .ok (.aload_n 0, 1) := by decide +kernel
theorem dX6_setKind_37 : decode cX6_setKind 37 = .ok (.getfield 7, 3) := by decide +kernel
theorem dX6_setKind_40 : decode cX6_setKind 40 = .ok (.bipush 7, 2) := by decide +kernel
theorem dX6_setKind_42 : decode cX6_setKind 42 = .ok (.iconst 3, 1) := by decide +kernel
theorem dX6_setKind_43 : decode cX6_setKind 43 = .ok (.iload_n 1, 1) := by decide +kernel
theorem dX6_setKind_44 : decode cX6_setKind 44 = .ok (.imul, 1) := by decide +kernel
theorem dX6_setKind_45 : decode cX6_setKind 45 = .ok (.iadd, 1) := by decide +kernel
theorem dX6_setKind_46 : decode cX6_setKind 46 = .ok (.iconst 2, 1) := by decide +kernel
theorem dX6_setKind_47 : decode cX6_setKind 47 = .ok (.iadd, 1) := by decide +kernel
theorem dX6_setKind_48 : decode cX6_setKind 48 = .ok (.iload_n 2, 1) := by decide +kernel
theorem dX6_setKind_49 : decode cX6_setKind 49 = .ok (.iastore, 1) := by decide +kernel
theorem dX6_setKind_50 : decode cX6_setKind 50 = .ok (.iload_n 3, 1) := by decide +kernel
theorem dX6_setKind_51 : decode cX6_setKind 51 = .ok (.ireturn, 1) := by decide +kernel
theorem dX6_setGroups_0 : decode cX6_setGroups 0 = .ok (.iload_n 1, 1) := by decide +kernel
theorem dX6_setGroups_1 : decode cX6_setGroups 1 = .ok (.invokestatic 38, 3) := by decide +kernel
theorem dX6_setGroups_4 : decode cX6_setGroups 4 = .ok (.ifCond .eq 15, 3) := by decide +kernel
theorem dX6_setGroups_7 : decode cX6_setGroups 7 = .ok (.iload_n 2, 1) := by decide +kernel
theorem dX6_setGroups_8 : decode cX6_setGroups 8 = .ok (.i2l, 1) := by decide +kernel
theorem dX6_setGroups_9 : decode cX6_setGroups 9 = .ok (.lconst 0, 1) := by decide +kernel
theorem dX6_setGroups_10 : decode cX6_setGroups 10 = .ok (.ldc2_w 55, 3) := by decide +kernel
theorem dX6_setGroups_13 : decode cX6_setGroups 13 = .ok (.invokestatic 28, 3) := by decide +kernel
theorem dX6_setGroups_16 : decode cX6_setGroups 16 = .ok (.ifCond .ne 10, 3) := by decide +kernel
theorem dX6_setGroups_19 : decode cX6_setGroups 19 = .ok (.aload_n 0, 1) := by decide +kernel
theorem dX6_setGroups_20 : decode cX6_setGroups 20 = .ok (.bipush (-2), 2) := by decide +kernel
theorem dX6_setGroups_22 : decode cX6_setGroups 22 = .ok (.invokevirtual 42, 3) := by decide +kernel
theorem dX6_setGroups_25 : decode cX6_setGroups 25 = .ok (.ireturn, 1) := by decide +kernel
theorem dX6_setGroups_26 : decode cX6_setGroups 26 = .ok (.aload_n 0, 1) := by decide +kernel
theorem dX6_setGroups_27 : decode cX6_setGroups 27 = .ok (.invokevirtual 49, 3) := by decide +kernel
theorem dX6_setGroups_30 : decode cX6_setGroups 30 = .ok (.aload_n 0, 1) := by decide +kernel
theorem dX6_setGroups_31 : decode cX6_setGroups 31 = .ok (.getfield 7, 3) := by decide +kernel
theorem dX6_setGroups_34 : decode cX6_setGroups 34 = .ok (.bipush 43, 2) := by decide +kernel
theorem dX6_setGroups_36 : decode cX6_setGroups 36 = .ok (.iload_n 1, 1) := by decide +kernel
theorem dX6_setGroups_37 : decode cX6_setGroups 37 = .ok (.iadd, 1) := by decide +kernel
theorem dX6_setGroups_38 : decode cX6_setGroups 38 = .ok (.iaload, 1) := by decide +kernel
theorem dX6_setGroups_39 : decode cX6_setGroups 39 = .ok (.istore_n 3, 1) := by decide +kernel
theorem dX6_setGroups_40 : decode cX6_setGroups 40 = .ok (.aload_n 0, 1) := by decide +kernel
theorem dX6_setGroups_41 : decode cX6_setGroups 41 = .ok (.getfield 7, 3) := by decide +kernel
theorem dX6_setGroups_44 : decode cX6_setGroups 44 = .ok (.bipush 43, 2) := by decide +kernel
theorem dX6_setGroups_46 : decode cX6_setGroups 46 = .ok (.iload_n 1, 1) := by decide +kernel
theorem dX6_setGroups_47 : decode cX6_setGroups 47 = .ok (.iadd, 1) := by decide +kernel
theorem dX6_setGroups_48 : decode cX6_setGroups 48 = .ok (.iload_n 2, 1) := by decide +kernel
theorem dX6_setGroups_49 : decode cX6_setGroups 49 = .ok (.iastore, 1) := by decide +kernel
theorem dX6_setGroups_50 : decode cX6_setGroups 50 = .ok (.iload_n 3, 1) := by decide +kernel
theorem dX6_setGroups_51 : decode cX6_setGroups 51 = .ok (.ireturn, 1) := by decide +kernel
theorem dX6_setExpiry_0 : decode cX6_setExpiry 0 = .ok (.iload_n 1, 1) := by decide +kernel
theorem dX6_setExpiry_1 : decode cX6_setExpiry 1 = .ok (.invokestatic 57, 3) := by decide +kernel
theorem dX6_setExpiry_4 : decode cX6_setExpiry 4 = .ok (.ifCond .eq 15, 3) := by decide +kernel
theorem dX6_setExpiry_7 : decode cX6_setExpiry 7 = .ok (.iload_n 2, 1) := by decide +kernel
theorem dX6_setExpiry_8 : decode cX6_setExpiry 8 = .ok (.i2l, 1) := by decide +kernel
theorem dX6_setExpiry_9 : decode cX6_setExpiry 9 = .ok (.lconst 1, 1) := by decide +kernel
theorem dX6_setExpiry_10 : decode cX6_setExpiry 10 = .ok (.ldc2_w 60, 3) := by decide +kernel
theorem dX6_setExpiry_13 : decode cX6_setExpiry 13 = .ok (.invokestatic 28, 3) := by decide +kernel
theorem dX6_setExpiry_16 : decode cX6_setExpiry 16 = .ok (.ifCond .ne 10, 3) := by decide +kernel
theorem dX6_setExpiry_19 : decode cX6_setExpiry 19 = .ok (.aload_n 0, 1) := by decide +kernel
theorem dX6_setExpiry_20 : decode cX6_setExpiry 20 = .ok (.bipush (-2), 2) := by decide +kernel
theorem dX6_setExpiry_22 : decode cX6_setExpiry 22 = .ok (.invokevirtual 42, 3) := by decide +kernel
theorem dX6_setExpiry_25 : decode cX6_setExpiry 25 = .ok (.ireturn, 1) := by decide +kernel
theorem dX6_setExpiry_26 : decode cX6_setExpiry 26 = .ok (.aload_n 0, 1) := by decide +kernel
theorem dX6_setExpiry_27 : decode cX6_setExpiry 27 = .ok (.invokevirtual 49, 3) := by decide +kernel
theorem dX6_setExpiry_30 : decode cX6_setExpiry 30 = .ok (.aload_n 0, 1) := by decide +kernel
theorem dX6_setExpiry_31 : decode cX6_setExpiry 31 = .ok (.getfield 7, 3) := by decide +kernel
theorem dX6_setExpiry_34 : decode cX6_setExpiry 34 = .ok (.iconst 2, 1) := by decide +kernel
theorem dX6_setExpiry_35 : decode cX6_setExpiry 35 = .ok (.iload_n 1, 1) := by decide +kernel
theorem dX6_setExpiry_36 : decode cX6_setExpiry 36 = .ok (.iadd, 1) := by decide +kernel
theorem dX6_setExpiry_37 : decode cX6_setExpiry 37 = .ok (.iaload, 1) := by decide +kernel
theorem dX6_setExpiry_38 : decode cX6_setExpiry 38 = .ok (.istore_n 3, 1) := by decide +kernel
theorem dX6_setExpiry_39 : decode cX6_setExpiry 39 = .ok (.aload_n 0, 1) := by decide +kernel
theorem dX6_setExpiry_40 : decode cX6_setExpiry 40 = .ok (.getfield 7, 3) := by decide +kernel
theorem dX6_setExpiry_43 : decode cX6_setExpiry 43 = .ok (.iconst 2, 1) := by decide +kernel
theorem dX6_setExpiry_44 : decode cX6_setExpiry 44 = .ok (.iload_n 1, 1) := by decide +kernel
theorem dX6_setExpiry_45 : decode cX6_setExpiry 45 = .ok (.iadd, 1) := by decide +kernel
theorem dX6_setExpiry_46 : decode cX6_setExpiry 46 = .ok (.iload_n 2, 1) := by decide +kernel
theorem dX6_setExpiry_47 : decode cX6_setExpiry 47 = .ok (.iastore, 1) := by decide +kernel
theorem dX6_setExpiry_48 : decode cX6_setExpiry 48 = .ok (.iload_n 3, 1) := by decide +kernel
theorem dX6_setExpiry_49 : decode cX6_setExpiry 49 = .ok (.ireturn, 1) := by decide +kernel
theorem dX6_setHistoryLimit_0 : decode cX6_setHistoryLimit 0 = .ok (.iload_n 1, 1) := by decide +kernel
theorem dX6_setHistoryLimit_1 : decode cX6_setHistoryLimit 1 = .ok (.i2l, 1) := by decide +kernel
theorem dX6_setHistoryLimit_2 : decode cX6_setHistoryLimit 2 = .ok (.lconst 1, 1) := by decide +kernel
theorem dX6_setHistoryLimit_3 : decode cX6_setHistoryLimit 3 = .ok (.ldc2_w 60, 3) := by decide +kernel
theorem dX6_setHistoryLimit_6 : decode cX6_setHistoryLimit 6 = .ok (.invokestatic 28, 3) := by decide +kernel
theorem dX6_setHistoryLimit_9 : decode cX6_setHistoryLimit 9 = .ok (.ifCond .ne 10, 3) := by decide +kernel
theorem dX6_setHistoryLimit_12 : decode cX6_setHistoryLimit 12 = .ok (.aload_n 0, 1) := by decide +kernel
theorem dX6_setHistoryLimit_13 : decode cX6_setHistoryLimit 13 = .ok (.bipush (-2), 2) := by decide +kernel
theorem dX6_setHistoryLimit_15 : decode cX6_setHistoryLimit 15 = .ok (.invokevirtual 42, 3) := by decide +kernel
theorem dX6_setHistoryLimit_18 : decode cX6_setHistoryLimit 18 = .ok (.ireturn, 1) := by decide +kernel
theorem dX6_setHistoryLimit_19 : decode cX6_setHistoryLimit 19 = .ok (.aload_n 0, 1) := by decide +kernel
theorem dX6_setHistoryLimit_20 : decode cX6_setHistoryLimit 20 = .ok (.invokevirtual 49, 3) := by decide +kernel
theorem dX6_setHistoryLimit_23 : decode cX6_setHistoryLimit 23 = .ok (.aload_n 0, 1) := by decide +kernel
theorem dX6_setHistoryLimit_24 : decode cX6_setHistoryLimit 24 = .ok (.getfield 7, 3) := by decide +kernel
theorem dX6_setHistoryLimit_27 : decode cX6_setHistoryLimit 27 = .ok (.iconst 1, 1) := by decide +kernel
theorem dX6_setHistoryLimit_28 : decode cX6_setHistoryLimit 28 = .ok (.iaload, 1) := by decide +kernel
theorem dX6_setHistoryLimit_29 : decode cX6_setHistoryLimit 29 = .ok (.istore_n 2, 1) := by decide +kernel
theorem dX6_setHistoryLimit_30 : decode cX6_setHistoryLimit 30 = .ok (.aload_n 0, 1) := by decide +kernel
theorem dX6_setHistoryLimit_31 : decode cX6_setHistoryLimit 31 = .ok (.getfield 7, 3) := by decide +kernel
theorem dX6_setHistoryLimit_34 : decode cX6_setHistoryLimit 34 = .ok (.iconst 1, 1) := by decide +kernel
theorem dX6_setHistoryLimit_35 : decode cX6_setHistoryLimit 35 = .ok (.iload_n 1, 1) := by decide +kernel
theorem dX6_setHistoryLimit_36 : decode cX6_setHistoryLimit 36 = .ok (.iastore, 1) := by decide +kernel
theorem dX6_setHistoryLimit_37 : decode cX6_setHistoryLimit 37 = .ok (.iload_n 2, 1) := by decide +kernel
theorem dX6_setHistoryLimit_38 : decode cX6_setHistoryLimit 38 = .ok (.ireturn, 1) := by decide +kernel
theorem dX6_of_0 : decode cX6_of 0 = .ok (.aload_n 0, 1) := by decide +kernel
theorem dX6_of_1 : decode cX6_of 1 = .ok (.getfield 7, 3) := by decide +kernel
theorem dX6_of_4 : decode cX6_of 4 = .ok (.bipush 50, 2) := by decide +kernel
theorem dX6_of_6 : decode cX6_of 6 = .ok (.iconst 5, 1) := by decide +kernel
theorem dX6_of_7 : decode cX6_of 7 = .ok (.iload_n 1, 1) := by decide +kernel
theorem dX6_of_8 : decode cX6_of 8 = .ok (.imul, 1) := by decide +kernel
theorem dX6_of_9 : decode cX6_of 9 = .ok (.iadd, 1) := by decide +kernel
theorem dX6_of_10 : decode cX6_of 10 = .ok (.iload_n 2, 1) := by decide +kernel
theorem dX6_of_11 : decode cX6_of 11 = .ok (.iadd, 1) := by decide +kernel
theorem dX6_of_12 : decode cX6_of 12 = .ok (.iaload, 1) := by decide +kernel
theorem dX6_of_13 : decode cX6_of 13 = .ok (.ireturn, 1) := by decide +kernel
theorem dX6_isIn_0 : decode cX6_isIn 0 = .ok (.aload_n 0, 1) := by decide +kernel
theorem dX6_isIn_1 : decode cX6_isIn 1 = .ok (.getfield 7, 3) := by decide +kernel
theorem dX6_isIn_4 : decode cX6_isIn 4 = .ok (.sipush 380, 3) := by decide +kernel
theorem dX6_isIn_7 : decode cX6_isIn 7 = .ok (.iload_n 1, 1) := by decide +kernel
theorem dX6_isIn_8 : decode cX6_isIn 8 = .ok (.iadd, 1) := by decide +kernel
theorem dX6_isIn_9 : decode cX6_isIn 9 = .ok (.iaload, 1) := by decide +kernel
theorem dX6_isIn_10 : decode cX6_isIn 10 = .ok (.iload_n 2, 1) := by decide +kernel
theorem dX6_isIn_11 : decode cX6_isIn 11 = .ok (.ishr, 1) := by decide +kernel
theorem dX6_isIn_12 : decode cX6_isIn 12 = .ok (.iconst 1, 1) := by decide +kernel
theorem dX6_isIn_13 : decode cX6_isIn 13 = .ok (.iand, 1) := by decide +kernel
theorem dX6_isIn_14 : decode cX6_isIn 14 = .ok (.iconst 1, 1) := by decide +kernel
theorem dX6_isIn_15 : decode cX6_isIn 15 = .ok (.if_icmp .ne 7, 3) := by decide +kernel
theorem dX6_isIn_18 : decode cX6_isIn 18 = .ok (.iconst 1, 1) := by decide +kernel
theorem dX6_isIn_19 : decode cX6_isIn 19 = .ok (.goto 4, 3) := by decide +kernel
theorem dX6_isIn_22 : decode cX6_isIn 22 = .ok (.iconst 0, 1) := by decide +kernel
theorem dX6_isIn_23 : decode cX6_isIn 23 = .ok (.ireturn, 1) := by decide +kernel
theorem dX6_known_0 : decode cX6_known 0 = .ok (.aload_n 0, 1) := by decide +kernel
theorem dX6_known_1 : decode cX6_known 1 = .ok (.getfield 7, 3) := by decide +kernel
theorem dX6_known_4 : decode cX6_known 4 = .ok (.sipush 200, 3) := by decide +kernel
theorem dX6_known_7 : decode cX6_known 7 = .ok (.bipush 30, 2) := by decide +kernel
theorem dX6_known_9 : decode cX6_known 9 = .ok (.iload_n 1, 1) := by decide +kernel
theorem dX6_known_10 : decode cX6_known 10 = .ok (.imul, 1) := by decide +kernel
theorem dX6_known_11 : decode cX6_known 11 = .ok (.iadd, 1) := by decide +kernel
theorem dX6_known_12 : decode cX6_known 12 = .ok (.iload_n 2, 1) := by decide +kernel
theorem dX6_known_13 : decode cX6_known 13 = .ok (.iadd, 1) := by decide +kernel
theorem dX6_known_14 : decode cX6_known 14 = .ok (.iaload, 1) := by decide +kernel
theorem dX6_known_15 : decode cX6_known 15 = .ok (.ireturn, 1) := by decide +kernel
theorem dX6_acts_0 : decode cX6_acts 0 = .ok (.aload_n 0, 1) := by decide +kernel
theorem dX6_acts_1 : decode cX6_acts 1 = .ok (.iload_n 2, 1) := by decide +kernel
theorem dX6_acts_2 : decode cX6_acts 2 = .ok (.iconst 4, 1) := by decide +kernel
theorem dX6_acts_3 : decode cX6_acts 3 = .ok (.invokevirtual 62, 3) := by decide +kernel
theorem dX6_acts_6 : decode cX6_acts 6 = .ok (.istore_n 3, 1) := by decide +kernel
theorem dX6_acts_7 : decode cX6_acts 7 = .ok (.aload_n 0, 1) := by decide +kernel
theorem dX6_acts_8 : decode cX6_acts 8 = .ok (.iload_n 2, 1) := by decide +kernel
theorem dX6_acts_9 : decode cX6_acts 9 = .ok (.iconst 1, 1) := by decide +kernel
theorem dX6_acts_10 : decode cX6_acts 10 = .ok (.invokevirtual 62, 3) := by decide +kernel
theorem dX6_acts_13 : decode cX6_acts 13 = .ok (.istore 4, 2) := by decide +kernel
theorem dX6_acts_15 : decode cX6_acts 15 = .ok (.aload_n 0, 1) := by decide +kernel
theorem dX6_acts_16 : decode cX6_acts 16 = .ok (.iload_n 1, 1) := by decide +kernel
theorem dX6_acts_17 : decode cX6_acts 17 = .ok (.iload_n 3, 1) := by decide +kernel
theorem dX6_acts_18 : decode cX6_acts 18 = .ok (.invokevirtual 65, 3) := by decide +kernel
theorem dX6_acts_21 : decode cX6_acts 21 = .ok (.ifCond .eq 74, 3) := by decide +kernel
theorem dX6_acts_24 : decode cX6_acts 24 = .ok (.aload_n 0, 1) := by decide +kernel
theorem dX6_acts_25 : decode cX6_acts 25 = .ok (.iload_n 3, 1) := by decide +kernel
theorem dX6_acts_26 : decode cX6_acts 26 = .ok (.iconst 1, 1) := by decide +kernel
theorem dX6_acts_27 : decode cX6_acts 27 = .ok (.invokevirtual 62, 3) := by decide +kernel
theorem dX6_acts_30 : decode cX6_acts 30 = .ok (.iload 4, 2) := by decide +kernel
theorem dX6_acts_32 : decode cX6_acts 32 = .ok (.if_icmp .ne 7, 3) := by decide +kernel
theorem dX6_acts_35 : decode cX6_acts 35 = .ok (.iconst 1, 1) := by decide +kernel
theorem dX6_acts_36 : decode cX6_acts 36 = .ok (.goto 4, 3) := by decide +kernel
theorem dX6_acts_39 : decode cX6_acts 39 = .ok (.iconst 0, 1) := by decide +kernel
theorem dX6_acts_40 : decode cX6_acts 40 = .ok (.istore 5, 2) := by decide +kernel
theorem dX6_acts_42 : decode cX6_acts 42 = .ok (.aload_n 0, 1) := by decide +kernel
theorem dX6_acts_43 : decode cX6_acts 43 = .ok (.getfield 7, 3) := by decide +kernel
theorem dX6_acts_46 : decode cX6_acts 46 = .ok (.sipush 380, 3) := by decide +kernel
theorem dX6_acts_49 : decode cX6_acts 49 = .ok (.iload_n 1, 1) := by decide +kernel
theorem dX6_acts_50 : decode cX6_acts 50 = .ok (.iadd, 1) := by decide +kernel
theorem dX6_acts_51 : decode cX6_acts 51 = .ok (.dup2, 1) := by decide +kernel
theorem dX6_acts_52 : decode cX6_acts 52 = .ok (.iaload, 1) := by decide +kernel
theorem dX6_acts_53 : decode cX6_acts 53 = .ok (.iload 5, 2) := by decide +kernel
theorem dX6_acts_55 : decode cX6_acts 55 = .ok (.ifCond .eq 11, 3) := by decide +kernel
theorem dX6_acts_58 : decode cX6_acts 58 = .ok (.iconst 1, 1) := by decide +kernel
theorem dX6_acts_59 : decode cX6_acts 59 = .ok (.iload_n 3, 1) := by decide +kernel
theorem dX6_acts_60 : decode cX6_acts 60 = .ok (.ishl, 1) := by decide +kernel
theorem dX6_acts_61 : decode cX6_acts 61 = .ok (.iconst (-1), 1) := by decide +kernel
theorem dX6_acts_62 : decode cX6_acts 62 = .ok (.ixor, 1) := by decide +kernel
theorem dX6_acts_63 : decode cX6_acts 63 = .ok (.goto 4, 3) := by decide +kernel
theorem dX6_acts_66 : decode cX6_acts 66 = .ok (.iconst (-1), 1) := by decide +kernel
theorem dX6_acts_67 : decode cX6_acts 67 = .ok (.iand, 1) := by decide +kernel
theorem dX6_acts_68 : decode cX6_acts 68 = .ok (.iastore, 1) := by decide +kernel
theorem dX6_acts_69 : decode cX6_acts 69 = .ok (.aload_n 0, 1) := by decide +kernel
theorem dX6_acts_70 : decode cX6_acts 70 = .ok (.getfield 7, 3) := by decide +kernel
theorem dX6_acts_73 : decode cX6_acts 73 = .ok (.sipush 566, 3) := by decide +kernel
theorem dX6_acts_76 : decode cX6_acts 76 = .ok (.iload 5, 2) := by decide +kernel
theorem dX6_acts_78 : decode cX6_acts 78 = .ok (.ifCond .eq 7, 3) := by decide +kernel
theorem dX6_acts_81 : decode cX6_acts 81 = .ok (.iconst 4, 1) := by decide +kernel
theorem dX6_acts_82 : decode cX6_acts 82 = .ok (.goto 4, 3) := by decide +kernel
theorem dX6_acts_85 : decode cX6_acts 85 = .ok (.iconst 5, 1) := by decide +kernel
theorem dX6_acts_86 : decode cX6_acts 86 = .ok (.iadd, 1) := by decide +kernel
theorem dX6_acts_87 : decode cX6_acts 87 = .ok (.dup2, 1) := by decide +kernel
theorem dX6_acts_88 : decode cX6_acts 88 = .ok (.iaload, 1) := by decide +kernel
theorem dX6_acts_89 : decode cX6_acts 89 = .ok (.iconst 1, 1) := by decide +kernel
theorem dX6_acts_90 : decode cX6_acts 90 = .ok (.iadd, 1) := by decide +kernel
theorem dX6_acts_91 : decode cX6_acts 91 = .ok (.iastore, 1) := by decide +kernel
theorem dX6_acts_92 : decode cX6_acts 92 = .ok (.goto 35, 3) := by decide +kernel
theorem dX6_acts_95 : decode cX6_acts 95 = .ok (.aload_n 0, 1) := by decide +kernel
theorem dX6_acts_96 : decode cX6_acts 96 = .ok (.iload_n 1, 1) := by decide +kernel
theorem dX6_acts_97 : decode cX6_acts 97 = .ok (.iload_n 3, 1) := by decide +kernel
theorem dX6_acts_98 : decode cX6_acts 98 = .ok (.invokevirtual 69, 3) := by decide +kernel
theorem dX6_acts_101 : decode cX6_acts 101 = .ok (.iconst (-1), 1) := by decide +kernel
theorem dX6_acts_102 : decode cX6_acts 102 = .ok (.if_icmp .ne 25, 3) := by decide +kernel
theorem dX6_acts_105 : decode cX6_acts 105 = .ok (.aload_n 0, 1) := by decide +kernel
theorem dX6_acts_106 : decode cX6_acts 106 = .ok (.getfield 7, 3) := by decide +kernel
theorem dX6_acts_109 : decode cX6_acts 109 = .ok (.sipush 386, 3) := by decide +kernel
theorem dX6_acts_112 : decode cX6_acts 112 = .ok (.bipush 30, 2) := by decide +kernel
theorem dX6_acts_114 : decode cX6_acts 114 = .ok (.iload_n 1, 1) := by decide +kernel
theorem dX6_acts_115 : decode cX6_acts 115 = .ok (.imul, 1) := by decide +kernel
theorem dX6_acts_116 : decode cX6_acts 116 = .ok (.iadd, 1) := by decide +kernel
theorem dX6_acts_117 : decode cX6_acts 117 = .ok (.iload_n 3, 1) := by decide +kernel
theorem dX6_acts_118 : decode cX6_acts 118 = .ok (.iadd, 1) := by decide +kernel
theorem dX6_acts_119 : decode cX6_acts 119 = .ok (.dup2, 1) := by decide +kernel
theorem dX6_acts_120 : decode cX6_acts 120 = .ok (.iaload, 1) := by decide +kernel
theorem dX6_acts_121 : decode cX6_acts 121 = .ok (.iconst 1, 1) := by decide +kernel
theorem dX6_acts_122 : decode cX6_acts 122 = .ok (.iload 4, 2) := by decide +kernel
theorem dX6_acts_124 : decode cX6_acts 124 = .ok (.ishl, 1) := by decide +kernel
theorem dX6_acts_125 : decode cX6_acts 125 = .ok (.ior, 1) := by decide +kernel
theorem dX6_acts_126 : decode cX6_acts 126 = .ok (.iastore, 1) := by decide +kernel
theorem dX6_acts_127 : decode cX6_acts 127 = .ok (.return_, 1) := by decide +kernel
theorem dX6_arrives_0 : decode cX6_arrives 0 = .ok (.aload_n 0, 1) := by decide +kernel
theorem dX6_arrives_1 : decode cX6_arrives 1 = .ok (.iload_n 1, 1) := by decide +kernel
theorem dX6_arrives_2 : decode cX6_arrives 2 = .ok (.iload_n 2, 1) := by decide +kernel
theorem dX6_arrives_3 : decode cX6_arrives 3 = .ok (.invokevirtual 69, 3) := by decide +kernel
theorem dX6_arrives_6 : decode cX6_arrives 6 = .ok (.iconst (-1), 1) := by decide +kernel
theorem dX6_arrives_7 : decode cX6_arrives 7 = .ok (.if_icmp .eq 17, 3) := by decide +kernel
theorem dX6_arrives_10 : decode cX6_arrives 10 = .ok (.aload_n 0, 1) := by decide +kernel
theorem dX6_arrives_11 : decode cX6_arrives 11 = .ok (.getfield 7, 3) := by decide +kernel
theorem dX6_arrives_14 : decode cX6_arrives 14 = .ok (.sipush 568, 3) := by decide +kernel
theorem dX6_arrives_17 : decode cX6_arrives 17 = .ok (.dup2, 1) := by decide +kernel
theorem dX6_arrives_18 : decode cX6_arrives 18 = .ok (.iaload, 1) := by decide +kernel
theorem dX6_arrives_19 : decode cX6_arrives 19 = .ok (.iconst 1, 1) := by decide +kernel
theorem dX6_arrives_20 : decode cX6_arrives 20 = .ok (.iadd, 1) := by decide +kernel
theorem dX6_arrives_21 : decode cX6_arrives 21 = .ok (.iastore, 1) := by decide +kernel
theorem dX6_arrives_22 : decode cX6_arrives 22 = .ok (.iconst 0, 1) := by decide +kernel
theorem dX6_arrives_23 : decode cX6_arrives 23 = .ok (.ireturn, 1) := by decide +kernel
theorem dX6_arrives_24 : decode cX6_arrives 24 = .ok (.aload_n 0, 1) := by decide +kernel
theorem dX6_arrives_25 : decode cX6_arrives 25 = .ok (.getfield 7, 3) := by decide +kernel
theorem dX6_arrives_28 : decode cX6_arrives 28 = .ok (.iconst 0, 1) := by decide +kernel
theorem dX6_arrives_29 : decode cX6_arrives 29 = .ok (.iaload, 1) := by decide +kernel
theorem dX6_arrives_30 : decode cX6_arrives 30 = .ok (.aload_n 0, 1) := by decide +kernel
theorem dX6_arrives_31 : decode cX6_arrives 31 = .ok (.iload_n 2, 1) := by decide +kernel
theorem dX6_arrives_32 : decode cX6_arrives 32 = .ok (.iconst 2, 1) := by decide +kernel
theorem dX6_arrives_33 : decode cX6_arrives 33 = .ok (.invokevirtual 62, 3) := by decide +kernel
theorem dX6_arrives_36 : decode cX6_arrives 36 = .ok (.isub, 1) := by decide +kernel
theorem dX6_arrives_37 : decode cX6_arrives 37 = .ok (.aload_n 0, 1) := by decide +kernel
theorem dX6_arrives_38 : decode cX6_arrives 38 = .ok (.getfield 7, 3) := by decide +kernel
theorem dX6_arrives_41 : decode cX6_arrives 41 = .ok (.iconst 1, 1) := by decide +kernel
theorem dX6_arrives_42 : decode cX6_arrives 42 = .ok (.iaload, 1) := by decide +kernel
theorem dX6_arrives_43 : decode cX6_arrives 43 = .ok (.if_icmp .lt 17, 3) := by decide +kernel
theorem dX6_arrives_46 : decode cX6_arrives 46 = .ok (.aload_n 0, 1) := by decide +kernel
theorem dX6_arrives_47 : decode cX6_arrives 47 = .ok (.getfield 7, 3) := by decide +kernel
theorem dX6_arrives_50 : decode cX6_arrives 50 = .ok (.sipush 569, 3) := by decide +kernel
theorem dX6_arrives_53 : decode cX6_arrives 53 = .ok (.dup2, 1) := by decide +kernel
theorem dX6_arrives_54 : decode cX6_arrives 54 = .ok (.iaload, 1) := by decide +kernel
theorem dX6_arrives_55 : decode cX6_arrives 55 = .ok (.iconst 1, 1) := by decide +kernel
theorem dX6_arrives_56 : decode cX6_arrives 56 = .ok (.iadd, 1) := by decide +kernel
theorem dX6_arrives_57 : decode cX6_arrives 57 = .ok (.iastore, 1) := by decide +kernel
theorem dX6_arrives_58 : decode cX6_arrives 58 = .ok (.iconst 0, 1) := by decide +kernel
theorem dX6_arrives_59 : decode cX6_arrives 59 = .ok (.ireturn, 1) := by decide +kernel
theorem dX6_arrives_60 : decode cX6_arrives 60 = .ok (.aload_n 0, 1) := by decide +kernel
theorem dX6_arrives_61 : decode cX6_arrives 61 = .ok (.getfield 7, 3) := by decide +kernel
theorem dX6_arrives_64 : decode cX6_arrives 64 = .ok (.sipush 200, 3) := by decide +kernel
theorem dX6_arrives_67 : decode cX6_arrives 67 = .ok (.bipush 30, 2) := by decide +kernel
theorem dX6_arrives_69 : decode cX6_arrives 69 = .ok (.iload_n 1, 1) := by decide +kernel
theorem dX6_arrives_70 : decode cX6_arrives 70 = .ok (.imul, 1) := by decide +kernel
theorem dX6_arrives_71 : decode cX6_arrives 71 = .ok (.iadd, 1) := by decide +kernel
theorem dX6_arrives_72 : decode cX6_arrives 72 = .ok (.iload_n 2, 1) := by decide +kernel
theorem dX6_arrives_73 : decode cX6_arrives 73 = .ok (.iadd, 1) := by decide +kernel
theorem dX6_arrives_74 : decode cX6_arrives 74 = .ok (.aload_n 0, 1) := by decide +kernel
theorem dX6_arrives_75 : decode cX6_arrives 75 = .ok (.getfield 7, 3) := by decide +kernel
theorem dX6_arrives_78 : decode cX6_arrives 78 = .ok (.iconst 0, 1) := by decide +kernel
theorem dX6_arrives_79 : decode cX6_arrives 79 = .ok (.iaload, 1) := by decide +kernel
theorem dX6_arrives_80 : decode cX6_arrives 80 = .ok (.iastore, 1) := by decide +kernel
theorem dX6_arrives_81 : decode cX6_arrives 81 = .ok (.aload_n 0, 1) := by decide +kernel
theorem dX6_arrives_82 : decode cX6_arrives 82 = .ok (.iload_n 2, 1) := by decide +kernel
theorem dX6_arrives_83 : decode cX6_arrives 83 = .ok (.iconst 1, 1) := by decide +kernel
theorem dX6_arrives_84 : decode cX6_arrives 84 = .ok (.invokevirtual 62, 3) := by decide +kernel
theorem dX6_arrives_87 : decode cX6_arrives 87 = .ok (.istore 4, 2) := by decide +kernel
theorem dX6_arrives_89 : decode cX6_arrives 89 = .ok (.sipush 386, 3) := by decide +kernel
theorem dX6_arrives_92 : decode cX6_arrives 92 = .ok (.bipush 30, 2) := by decide +kernel
theorem dX6_arrives_94 : decode cX6_arrives 94 = .ok (.iload_n 1, 1) := by decide +kernel
theorem dX6_arrives_95 : decode cX6_arrives 95 = .ok (.imul, 1) := by decide +kernel
theorem dX6_arrives_96 : decode cX6_arrives 96 = .ok (.iadd, 1) := by decide +kernel
theorem dX6_arrives_97 : decode cX6_arrives 97 = .ok (.iload_n 2, 1) := by decide +kernel
theorem dX6_arrives_98 : decode cX6_arrives 98 = .ok (.iadd, 1) := by decide +kernel
theorem dX6_arrives_99 : decode cX6_arrives 99 = .ok (.istore 5, 2) := by decide +kernel
theorem dX6_arrives_101 : decode cX6_arrives 101 = .ok (.aload_n 0, 1) := by decide +kernel
theorem dX6_arrives_102 : decode cX6_arrives 102 = .ok (.getfield 7, 3) := by decide +kernel
theorem dX6_arrives_105 : decode cX6_arrives 105 = .ok (.iload 5, 2) := by decide +kernel
theorem dX6_arrives_107 : decode cX6_arrives 107 = .ok (.iaload, 1) := by decide +kernel
theorem dX6_arrives_108 : decode cX6_arrives 108 = .ok (.iload 4, 2) := by decide +kernel
theorem dX6_arrives_110 : decode cX6_arrives 110 = .ok (.ishr, 1) := by decide +kernel
theorem dX6_arrives_111 : decode cX6_arrives 111 = .ok (.iconst 1, 1) := by decide +kernel
theorem dX6_arrives_112 : decode cX6_arrives 112 = .ok (.iand, 1) := by decide +kernel
theorem dX6_arrives_113 : decode cX6_arrives 113 = .ok (.iconst 1, 1) := by decide +kernel
theorem dX6_arrives_114 : decode cX6_arrives 114 = .ok (.if_icmp .ne 33, 3) := by decide +kernel
theorem dX6_arrives_117 : decode cX6_arrives 117 = .ok (.aload_n 0, 1) := by decide +kernel
theorem dX6_arrives_118 : decode cX6_arrives 118 = .ok (.getfield 7, 3) := by decide +kernel
theorem dX6_arrives_121 : decode cX6_arrives 121 = .ok (.iload 5, 2) := by decide +kernel
theorem dX6_arrives_123 : decode cX6_arrives 123 = .ok (.dup2, 1) := by decide +kernel
theorem dX6_arrives_124 : decode cX6_arrives 124 = .ok (.iaload, 1) := by decide +kernel
theorem dX6_arrives_125 : decode cX6_arrives 125 = .ok (.iconst 1, 1) := by decide +kernel
theorem dX6_arrives_126 : decode cX6_arrives 126 = .ok (.iload 4, 2) := by decide +kernel
theorem dX6_arrives_128 : decode cX6_arrives 128 = .ok (.ishl, 1) := by decide +kernel
theorem dX6_arrives_129 : decode cX6_arrives 129 = .ok (.iconst (-1), 1) := by decide +kernel
theorem dX6_arrives_130 : decode cX6_arrives 130 = .ok (.ixor, 1) := by decide +kernel
theorem dX6_arrives_131 : decode cX6_arrives 131 = .ok (.iand, 1) := by decide +kernel
theorem dX6_arrives_132 : decode cX6_arrives 132 = .ok (.iastore, 1) := by decide +kernel
theorem dX6_arrives_133 : decode cX6_arrives 133 = .ok (.aload_n 0, 1) := by decide +kernel
theorem dX6_arrives_134 : decode cX6_arrives 134 = .ok (.getfield 7, 3) := by decide +kernel
theorem dX6_arrives_137 : decode cX6_arrives 137 = .ok (.sipush 570, 3) := by decide +kernel
theorem dX6_arrives_140 : decode cX6_arrives 140 = .ok (.dup2, 1) := by decide +kernel
theorem dX6_arrives_141 : decode cX6_arrives 141 = .ok (.iaload, 1) := by decide +kernel
theorem dX6_arrives_142 : decode cX6_arrives 142 = .ok (.iconst 1, 1) := by decide +kernel
theorem dX6_arrives_143 : decode cX6_arrives 143 = .ok (.iadd, 1) := by decide +kernel
theorem dX6_arrives_144 : decode cX6_arrives 144 = .ok (.iastore, 1) := by decide +kernel
theorem dX6_arrives_145 : decode cX6_arrives 145 = .ok (.iconst 0, 1) := by decide +kernel
theorem dX6_arrives_146 : decode cX6_arrives 146 = .ok (.ireturn, 1) := by decide +kernel
theorem dX6_arrives_147 : decode cX6_arrives 147 = .ok (.aload_n 0, 1) := by decide +kernel
theorem dX6_arrives_148 : decode cX6_arrives 148 = .ok (.getfield 7, 3) := by decide +kernel
theorem dX6_arrives_151 : decode cX6_arrives 151 = .ok (.bipush 43, 2) := by decide +kernel
theorem dX6_arrives_153 : decode cX6_arrives 153 = .ok (.iload_n 1, 1) := by decide +kernel
theorem dX6_arrives_154 : decode cX6_arrives 154 = .ok (.iadd, 1) := by decide +kernel
theorem dX6_arrives_155 : decode cX6_arrives 155 = .ok (.iaload, 1) := by decide +kernel
theorem dX6_arrives_156 : decode cX6_arrives 156 = .ok (.aload_n 0, 1) := by decide +kernel
theorem dX6_arrives_157 : decode cX6_arrives 157 = .ok (.iload_n 2, 1) := by decide +kernel
theorem dX6_arrives_158 : decode cX6_arrives 158 = .ok (.iconst 0, 1) := by decide +kernel
theorem dX6_arrives_159 : decode cX6_arrives 159 = .ok (.invokevirtual 62, 3) := by decide +kernel
theorem dX6_arrives_162 : decode cX6_arrives 162 = .ok (.ishr, 1) := by decide +kernel
theorem dX6_arrives_163 : decode cX6_arrives 163 = .ok (.iconst 1, 1) := by decide +kernel
theorem dX6_arrives_164 : decode cX6_arrives 164 = .ok (.iand, 1) := by decide +kernel
theorem dX6_arrives_165 : decode cX6_arrives 165 = .ok (.ifCond .ne 5, 3) := by decide +kernel
theorem dX6_arrives_168 : decode cX6_arrives 168 = .ok (.iconst 0, 1) := by decide +kernel
theorem dX6_arrives_169 : decode cX6_arrives 169 = .ok (.ireturn, 1) := by decide +kernel
theorem dX6_arrives_170 : decode cX6_arrives 170 = .ok (.aload_n 0, 1) := by decide +kernel
theorem dX6_arrives_171 : decode cX6_arrives 171 = .ok (.getfield 7, 3) := by decide +kernel
theorem dX6_arrives_174 : decode cX6_arrives 174 = .ok (.sipush 380, 3) := by decide +kernel
theorem dX6_arrives_177 : decode cX6_arrives 177 = .ok (.iload_n 1, 1) := by decide +kernel
theorem dX6_arrives_178 : decode cX6_arrives 178 = .ok (.iadd, 1) := by decide +kernel
theorem dX6_arrives_179 : decode cX6_arrives 179 = .ok (.dup2, 1) := by decide +kernel
theorem dX6_arrives_180 : decode cX6_arrives 180 = .ok (.iaload, 1) := by decide +kernel
theorem dX6_arrives_181 : decode cX6_arrives 181 = .ok (.iconst 1, 1) := by decide +kernel
theorem dX6_arrives_182 : decode cX6_arrives 182 = .ok (.iload_n 2, 1) := by decide +kernel
theorem dX6_arrives_183 : decode cX6_arrives 183 = .ok (.ishl, 1) := by decide +kernel
theorem dX6_arrives_184 : decode cX6_arrives 184 = .ok (.ior, 1) := by decide +kernel
theorem dX6_arrives_185 : decode cX6_arrives 185 = .ok (.iastore, 1) := by decide +kernel
theorem dX6_arrives_186 : decode cX6_arrives 186 = .ok (.aload_n 0, 1) := by decide +kernel
theorem dX6_arrives_187 : decode cX6_arrives 187 = .ok (.iload_n 2, 1) := by decide +kernel
theorem dX6_arrives_188 : decode cX6_arrives 188 = .ok (.iconst 3, 1) := by decide +kernel
theorem dX6_arrives_189 : decode cX6_arrives 189 = .ok (.invokevirtual 62, 3) := by decide +kernel
theorem dX6_arrives_192 : decode cX6_arrives 192 = .ok (.ifCond .eq 9, 3) := by decide +kernel
theorem dX6_arrives_195 : decode cX6_arrives 195 = .ok (.aload_n 0, 1) := by decide +kernel
theorem dX6_arrives_196 : decode cX6_arrives 196 = .ok (.iload_n 1, 1) := by decide +kernel
theorem dX6_arrives_197 : decode cX6_arrives 197 = .ok (.iload_n 2, 1) := by decide +kernel
theorem dX6_arrives_198 : decode cX6_arrives 198 = .ok (.invokevirtual 72, 3) := by decide +kernel
theorem dX6_arrives_201 : decode cX6_arrives 201 = .ok (.iload_n 3, 1) := by decide +kernel
theorem dX6_arrives_202 : decode cX6_arrives 202 = .ok (.iconst 1, 1) := by decide +kernel
theorem dX6_arrives_203 : decode cX6_arrives 203 = .ok (.iload_n 1, 1) := by decide +kernel
theorem dX6_arrives_204 : decode cX6_arrives 204 = .ok (.ishl, 1) := by decide +kernel
theorem dX6_arrives_205 : decode cX6_arrives 205 = .ok (.ior, 1) := by decide +kernel
theorem dX6_arrives_206 : decode cX6_arrives 206 = .ok (.istore 6, 2) := by decide +kernel
theorem dX6_arrives_208 : decode cX6_arrives 208 = .ok (.iconst 0, 1) := by decide +kernel
theorem dX6_arrives_209 : decode cX6_arrives 209 = .ok (.istore 7, 2) := by decide +kernel
theorem dX6_arrives_211 : decode cX6_arrives 211 = .ok (.iload 7, 2) := by decide +kernel
theorem dX6_arrives_213 : decode cX6_arrives 213 = .ok (.bipush 6, 2) := by decide +kernel
theorem dX6_arrives_215 : decode cX6_arrives 215 = .ok (.if_icmp .ge 77, 3) := by decide +kernel
theorem dX6_arrives_218 : decode cX6_arrives 218 = .ok (.iload 6, 2) := by decide +kernel
theorem dX6_arrives_220 : decode cX6_arrives 220 = .ok (.iload 7, 2) := by decide +kernel
theorem dX6_arrives_222 : decode cX6_arrives 222 = .ok (.ishr, 1) := by decide +kernel
theorem dX6_arrives_223 : decode cX6_arrives 223 = .ok (.iconst 1, 1) := by decide +kernel
theorem dX6_arrives_224 : decode cX6_arrives 224 = .ok (.iand, 1) := by decide +kernel
theorem dX6_arrives_225 : decode cX6_arrives 225 = .ok (.ifCond .ne 61, 3) := by decide +kernel
theorem dX6_arrives_228 : decode cX6_arrives 228 = .ok (.aload_n 0, 1) := by decide +kernel
theorem dX6_arrives_229 : decode cX6_arrives 229 = .ok (.iload_n 1, 1) := by decide +kernel
theorem dX6_arrives_230 : decode cX6_arrives 230 = .ok (.iload 7, 2) := by decide +kernel
theorem dX6_arrives_232 : decode cX6_arrives 232 = .ok (.invokevirtual 46, 3) := by decide +kernel
theorem dX6_arrives_235 : decode cX6_arrives 235 = .ok (.iconst (-1), 1) := by decide +kernel
theorem dX6_arrives_236 : decode cX6_arrives 236 = .ok (.if_icmp .eq 50, 3) := by decide +kernel
theorem dX6_arrives_239 : decode cX6_arrives 239 = .ok (.aload_n 0, 1) := by decide +kernel
theorem dX6_arrives_240 : decode cX6_arrives 240 = .ok (.getfield 7, 3) := by decide +kernel
theorem dX6_arrives_243 : decode cX6_arrives 243 = .ok (.sipush 573, 3) := by decide +kernel
theorem dX6_arrives_246 : decode cX6_arrives 246 = .ok (.aload_n 0, 1) := by decide +kernel
theorem dX6_arrives_247 : decode cX6_arrives 247 = .ok (.getfield 7, 3) := by decide +kernel
theorem dX6_arrives_250 : decode cX6_arrives 250 = .ok (.sipush 572, 3) := by decide +kernel
theorem dX6_arrives_253 : decode cX6_arrives 253 = .ok (.iaload, 1) := by decide +kernel
theorem dX6_arrives_254 : decode cX6_arrives 254 = .ok (.iadd, 1) := by decide +kernel
theorem dX6_arrives_255 : decode cX6_arrives 255 = .ok (.iload_n 2, 1) := by decide +kernel
theorem dX6_arrives_256 : decode cX6_arrives 256 = .ok (.bipush 12, 2) := by decide +kernel
theorem dX6_arrives_258 : decode cX6_arrives 258 = .ok (.ishl, 1) := by decide +kernel
theorem dX6_arrives_259 : decode cX6_arrives 259 = .ok (.iload_n 1, 1) := by decide +kernel
theorem dX6_arrives_260 : decode cX6_arrives 260 = .ok (.bipush 9, 2) := by decide +kernel
theorem dX6_arrives_262 : decode cX6_arrives 262 = .ok (.ishl, 1) := by decide +kernel
theorem dX6_arrives_263 : decode cX6_arrives 263 = .ok (.ior, 1) := by decide +kernel
theorem dX6_arrives_264 : decode cX6_arrives 264 = .ok (.iload 7, 2) := by decide +kernel
theorem dX6_arrives_266 : decode cX6_arrives 266 = .ok (.bipush 6, 2) := by decide +kernel
theorem dX6_arrives_268 : decode cX6_arrives 268 = .ok (.ishl, 1) := by decide +kernel
theorem dX6_arrives_269 : decode cX6_arrives 269 = .ok (.ior, 1) := by decide +kernel
theorem dX6_arrives_270 : decode cX6_arrives 270 = .ok (.iload 6, 2) := by decide +kernel
theorem dX6_arrives_272 : decode cX6_arrives 272 = .ok (.ior, 1) := by decide +kernel
theorem dX6_arrives_273 : decode cX6_arrives 273 = .ok (.iastore, 1) := by decide +kernel
theorem dX6_arrives_274 : decode cX6_arrives 274 = .ok (.aload_n 0, 1) := by decide +kernel
theorem dX6_arrives_275 : decode cX6_arrives 275 = .ok (.getfield 7, 3) := by decide +kernel
theorem dX6_arrives_278 : decode cX6_arrives 278 = .ok (.sipush 572, 3) := by decide +kernel
theorem dX6_arrives_281 : decode cX6_arrives 281 = .ok (.dup2, 1) := by decide +kernel
theorem dX6_arrives_282 : decode cX6_arrives 282 = .ok (.iaload, 1) := by decide +kernel
theorem dX6_arrives_283 : decode cX6_arrives 283 = .ok (.iconst 1, 1) := by decide +kernel
theorem dX6_arrives_284 : decode cX6_arrives 284 = .ok (.iadd, 1) := by decide +kernel
theorem dX6_arrives_285 : decode cX6_arrives 285 = .ok (.iastore, 1) := by decide +kernel
theorem dX6_arrives_286 : decode cX6_arrives 286 = .ok (.iinc 7 1, 3) := by decide +kernel
theorem dX6_arrives_289 : decode cX6_arrives 289 = .ok (.goto (-78), 3) := by decide +kernel
theorem dX6_arrives_292 : decode cX6_arrives 292 = .ok (.iconst 1, 1) := by decide +kernel
theorem dX6_arrives_293 : decode cX6_arrives 293 = .ok (.ireturn, 1) := by decide +kernel
theorem dX6_posts_0 : decode cX6_posts 0 = .ok (.aload_n 0, 1) := by decide +kernel
theorem dX6_posts_1 : decode cX6_posts 1 = .ok (.invokevirtual 49, 3) := by decide +kernel
theorem dX6_posts_4 : decode cX6_posts 4 = .ok (.aload_n 0, 1) := by decide +kernel
theorem dX6_posts_5 : decode cX6_posts 5 = .ok (.getfield 7, 3) := by decide +kernel
theorem dX6_posts_8 : decode cX6_posts 8 = .ok (.bipush 49, 2) := by decide +kernel
theorem dX6_posts_10 : decode cX6_posts 10 = .ok (.iaload, 1) := by decide +kernel
theorem dX6_posts_11 : decode cX6_posts 11 = .ok (.istore 6, 2) := by decide +kernel
theorem dX6_posts_13 : decode cX6_posts 13 = .ok (.bipush 50, 2) := by decide +kernel
theorem dX6_posts_15 : decode cX6_posts 15 = .ok (.iconst 5, 1) := by decide +kernel
theorem dX6_posts_16 : decode cX6_posts 16 = .ok (.iload 6, 2) := by decide +kernel
theorem dX6_posts_18 : decode cX6_posts 18 = .ok (.imul, 1) := by decide +kernel
theorem dX6_posts_19 : decode cX6_posts 19 = .ok (.iadd, 1) := by decide +kernel
theorem dX6_posts_20 : decode cX6_posts 20 = .ok (.istore 7, 2) := by decide +kernel
theorem dX6_posts_22 : decode cX6_posts 22 = .ok (.aload_n 0, 1) := by decide +kernel
theorem dX6_posts_23 : decode cX6_posts 23 = .ok (.getfield 7, 3) := by decide +kernel
theorem dX6_posts_26 : decode cX6_posts 26 = .ok (.iload 7, 2) := by decide +kernel
theorem dX6_posts_28 : decode cX6_posts 28 = .ok (.iload_n 2, 1) := by decide +kernel
theorem dX6_posts_29 : decode cX6_posts 29 = .ok (.iastore, 1) := by decide +kernel
theorem dX6_posts_30 : decode cX6_posts 30 = .ok (.aload_n 0, 1) := by decide +kernel
theorem dX6_posts_31 : decode cX6_posts 31 = .ok (.getfield 7, 3) := by decide +kernel
theorem dX6_posts_34 : decode cX6_posts 34 = .ok (.iload 7, 2) := by decide +kernel
theorem dX6_posts_36 : decode cX6_posts 36 = .ok (.iconst 1, 1) := by decide +kernel
theorem dX6_posts_37 : decode cX6_posts 37 = .ok (.iadd, 1) := by decide +kernel
theorem dX6_posts_38 : decode cX6_posts 38 = .ok (.iload_n 3, 1) := by decide +kernel
theorem dX6_posts_39 : decode cX6_posts 39 = .ok (.iastore, 1) := by decide +kernel
theorem dX6_posts_40 : decode cX6_posts 40 = .ok (.aload_n 0, 1) := by decide +kernel
theorem dX6_posts_41 : decode cX6_posts 41 = .ok (.getfield 7, 3) := by decide +kernel
theorem dX6_posts_44 : decode cX6_posts 44 = .ok (.iload 7, 2) := by decide +kernel
theorem dX6_posts_46 : decode cX6_posts 46 = .ok (.iconst 2, 1) := by decide +kernel
theorem dX6_posts_47 : decode cX6_posts 47 = .ok (.iadd, 1) := by decide +kernel
theorem dX6_posts_48 : decode cX6_posts 48 = .ok (.aload_n 0, 1) := by decide +kernel
theorem dX6_posts_49 : decode cX6_posts 49 = .ok (.getfield 7, 3) := by decide +kernel
theorem dX6_posts_52 : decode cX6_posts 52 = .ok (.iconst 0, 1) := by decide +kernel
theorem dX6_posts_53 : decode cX6_posts 53 = .ok (.iaload, 1) := by decide +kernel
theorem dX6_posts_54 : decode cX6_posts 54 = .ok (.iastore, 1) := by decide +kernel
theorem dX6_posts_55 : decode cX6_posts 55 = .ok (.aload_n 0, 1) := by decide +kernel
theorem dX6_posts_56 : decode cX6_posts 56 = .ok (.getfield 7, 3) := by decide +kernel
theorem dX6_posts_59 : decode cX6_posts 59 = .ok (.iload 7, 2) := by decide +kernel
theorem dX6_posts_61 : decode cX6_posts 61 = .ok (.iconst 3, 1) := by decide +kernel
theorem dX6_posts_62 : decode cX6_posts 62 = .ok (.iadd, 1) := by decide +kernel
theorem dX6_posts_63 : decode cX6_posts 63 = .ok (.iload 4, 2) := by decide +kernel
theorem dX6_posts_65 : decode cX6_posts 65 = .ok (.iastore, 1) := by decide +kernel
theorem dX6_posts_66 : decode cX6_posts 66 = .ok (.aload_n 0, 1) := by decide +kernel
theorem dX6_posts_67 : decode cX6_posts 67 = .ok (.getfield 7, 3) := by decide +kernel
theorem dX6_posts_70 : decode cX6_posts 70 = .ok (.iload 7, 2) := by decide +kernel
theorem dX6_posts_72 : decode cX6_posts 72 = .ok (.iconst 4, 1) := by decide +kernel
theorem dX6_posts_73 : decode cX6_posts 73 = .ok (.iadd, 1) := by decide +kernel
theorem dX6_posts_74 : decode cX6_posts 74 = .ok (.iload 5, 2) := by decide +kernel
theorem dX6_posts_76 : decode cX6_posts 76 = .ok (.iastore, 1) := by decide +kernel
theorem dX6_posts_77 : decode cX6_posts 77 = .ok (.aload_n 0, 1) := by decide +kernel
theorem dX6_posts_78 : decode cX6_posts 78 = .ok (.getfield 7, 3) := by decide +kernel
theorem dX6_posts_81 : decode cX6_posts 81 = .ok (.bipush 49, 2) := by decide +kernel
theorem dX6_posts_83 : decode cX6_posts 83 = .ok (.dup2, 1) := by decide +kernel
theorem dX6_posts_84 : decode cX6_posts 84 = .ok (.iaload, 1) := by decide +kernel
theorem dX6_posts_85 : decode cX6_posts 85 = .ok (.iconst 1, 1) := by decide +kernel
theorem dX6_posts_86 : decode cX6_posts 86 = .ok (.iadd, 1) := by decide +kernel
theorem dX6_posts_87 : decode cX6_posts 87 = .ok (.iastore, 1) := by decide +kernel
theorem dX6_posts_88 : decode cX6_posts 88 = .ok (.aload_n 0, 1) := by decide +kernel
theorem dX6_posts_89 : decode cX6_posts 89 = .ok (.iload_n 1, 1) := by decide +kernel
theorem dX6_posts_90 : decode cX6_posts 90 = .ok (.iload 6, 2) := by decide +kernel
theorem dX6_posts_92 : decode cX6_posts 92 = .ok (.iconst 0, 1) := by decide +kernel
theorem dX6_posts_93 : decode cX6_posts 93 = .ok (.invokevirtual 76, 3) := by decide +kernel
theorem dX6_posts_96 : decode cX6_posts 96 = .ok (.istore 8, 2) := by decide +kernel
theorem dX6_posts_98 : decode cX6_posts 98 = .ok (.iload 6, 2) := by decide +kernel
theorem dX6_posts_100 : decode cX6_posts 100 = .ok (.ireturn, 1) := by decide +kernel
theorem dX6_post_0 : decode cX6_post 0 = .ok (.iload_n 1, 1) := by decide +kernel
theorem dX6_post_1 : decode cX6_post 1 = .ok (.invokestatic 38, 3) := by decide +kernel
theorem dX6_post_4 : decode cX6_post 4 = .ok (.ifCond .eq 22, 3) := by decide +kernel
theorem dX6_post_7 : decode cX6_post 7 = .ok (.iload_n 2, 1) := by decide +kernel
theorem dX6_post_8 : decode cX6_post 8 = .ok (.invokestatic 57, 3) := by decide +kernel
theorem dX6_post_11 : decode cX6_post 11 = .ok (.ifCond .eq 15, 3) := by decide +kernel
theorem dX6_post_14 : decode cX6_post 14 = .ok (.iload_n 3, 1) := by decide +kernel
theorem dX6_post_15 : decode cX6_post 15 = .ok (.i2l, 1) := by decide +kernel
theorem dX6_post_16 : decode cX6_post 16 = .ok (.lconst 0, 1) := by decide +kernel
theorem dX6_post_17 : decode cX6_post 17 = .ok (.ldc2_w 80, 3) := by decide +kernel
theorem dX6_post_20 : decode cX6_post 20 = .ok (.invokestatic 28, 3) := by decide +kernel
theorem dX6_post_23 : decode cX6_post 23 = .ok (.ifCond .ne 10, 3) := by decide +kernel
theorem dX6_post_26 : decode cX6_post 26 = .ok (.aload_n 0, 1) := by decide +kernel
theorem dX6_post_27 : decode cX6_post 27 = .ok (.bipush (-2), 2) := by decide +kernel
theorem dX6_post_29 : decode cX6_post 29 = .ok (.invokevirtual 42, 3) := by decide +kernel
theorem dX6_post_32 : decode cX6_post 32 = .ok (.ireturn, 1) := by decide +kernel
theorem dX6_post_33 : decode cX6_post 33 = .ok (.aload_n 0, 1) := by decide +kernel
theorem dX6_post_34 : decode cX6_post 34 = .ok (.getfield 7, 3) := by decide +kernel
theorem dX6_post_37 : decode cX6_post 37 = .ok (.bipush 49, 2) := by decide +kernel
theorem dX6_post_39 : decode cX6_post 39 = .ok (.iaload, 1) := by decide +kernel
theorem dX6_post_40 : decode cX6_post 40 = .ok (.bipush 30, 2) := by decide +kernel
theorem dX6_post_42 : decode cX6_post 42 = .ok (.if_icmp .ne 12, 3) := by decide +kernel
theorem dX6_post_45 : decode cX6_post 45 = .ok (.aload_n 0, 1) := by decide +kernel
theorem dX6_post_46 : decode cX6_post 46 = .ok (.bipush (-4), 2) := by decide +kernel
theorem dX6_post_48 : decode cX6_post 48 = .ok (.invokevirtual 42, 3) := by decide +kernel
theorem dX6_post_51 : decode cX6_post 51 = .ok (.goto 12, 3) := by decide +kernel
theorem dX6_post_54 : decode cX6_post 54 = .ok (.aload_n 0, 1) := by decide +kernel
theorem dX6_post_55 : decode cX6_post 55 = .ok (.iload_n 1, 1) := by decide +kernel
theorem dX6_post_56 : decode cX6_post 56 = .ok (.iload_n 2, 1) := by decide +kernel
theorem dX6_post_57 : decode cX6_post 57 = .ok (.iload_n 3, 1) := by decide +kernel
theorem dX6_post_58 : decode cX6_post 58 = .ok (.iconst 0, 1) := by decide +kernel
theorem dX6_post_59 : decode cX6_post 59 = .ok (.iconst (-1), 1) := by decide +kernel
theorem dX6_post_60 : decode cX6_post 60 = .ok (.invokevirtual 82, 3) := by decide +kernel
theorem dX6_post_63 : decode cX6_post 63 = .ok (.ireturn, 1) := by decide +kernel
theorem dX6_postAction_0 : decode cX6_postAction 0 = .ok (.iload_n 1, 1) := by decide +kernel
theorem dX6_postAction_1 : decode cX6_postAction 1 = .ok (.invokestatic 38, 3) := by decide +kernel
theorem dX6_postAction_4 : decode cX6_postAction 4 = .ok (.ifCond .eq 36, 3) := by decide +kernel
theorem dX6_postAction_7 : decode cX6_postAction 7 = .ok (.iload_n 2, 1) := by decide +kernel
theorem dX6_postAction_8 : decode cX6_postAction 8 = .ok (.i2l, 1) := by decide +kernel
theorem dX6_postAction_9 : decode cX6_postAction 9 = .ok (.lconst 0, 1) := by decide +kernel
theorem dX6_postAction_10 : decode cX6_postAction 10 = .ok (.ldc2_w 80, 3) := by decide +kernel
theorem dX6_postAction_13 : decode cX6_postAction 13 = .ok (.invokestatic 28, 3) := by decide +kernel
theorem dX6_postAction_16 : decode cX6_postAction 16 = .ok (.ifCond .eq 24, 3) := by decide +kernel
theorem dX6_postAction_19 : decode cX6_postAction 19 = .ok (.iload_n 3, 1) := by decide +kernel
theorem dX6_postAction_20 : decode cX6_postAction 20 = .ok (.i2l, 1) := by decide +kernel
theorem dX6_postAction_21 : decode cX6_postAction 21 = .ok (.lconst 1, 1) := by decide +kernel
theorem dX6_postAction_22 : decode cX6_postAction 22 = .ok (.ldc2_w 86, 3) := by decide +kernel
theorem dX6_postAction_25 : decode cX6_postAction 25 = .ok (.invokestatic 28, 3) := by decide +kernel
theorem dX6_postAction_28 : decode cX6_postAction 28 = .ok (.ifCond .eq 12, 3) := by decide +kernel
theorem dX6_postAction_31 : decode cX6_postAction 31 = .ok (.aload_n 0, 1) := by decide +kernel
theorem dX6_postAction_32 : decode cX6_postAction 32 = .ok (.iload 4, 2) := by decide +kernel
theorem dX6_postAction_34 : decode cX6_postAction 34 = .ok (.invokevirtual 88, 3) := by decide +kernel
theorem dX6_postAction_37 : decode cX6_postAction 37 = .ok (.ifCond .ne 10, 3) := by decide +kernel
theorem dX6_postAction_40 : decode cX6_postAction 40 = .ok (.aload_n 0, 1) := by decide +kernel
theorem dX6_postAction_41 : decode cX6_postAction 41 = .ok (.bipush (-2), 2) := by decide +kernel
theorem dX6_postAction_43 : decode cX6_postAction 43 = .ok (.invokevirtual 42, 3) := by decide +kernel
theorem dX6_postAction_46 : decode cX6_postAction 46 = .ok (.ireturn, 1) := by decide +kernel
theorem dX6_postAction_47 : decode cX6_postAction 47 = .ok (.aload_n 0, 1) := by decide +kernel
theorem dX6_postAction_48 : decode cX6_postAction 48 = .ok (.getfield 7, 3) := by decide +kernel
theorem dX6_postAction_51 : decode cX6_postAction 51 = .ok (.bipush 49, 2) := by decide +kernel
theorem dX6_postAction_53 : decode cX6_postAction 53 = .ok (.iaload, 1) := by decide +kernel
theorem dX6_postAction_54 : decode cX6_postAction 54 = .ok (.bipush 30, 2) := by decide +kernel
theorem dX6_postAction_56 : decode cX6_postAction 56 = .ok (.if_icmp .ne 12, 3) := by decide +kernel
theorem dX6_postAction_59 : decode cX6_postAction 59 = .ok (.aload_n 0, 1) := by decide +kernel
theorem dX6_postAction_60 : decode cX6_postAction 60 = .ok (.bipush (-4), 2) := by decide +kernel
theorem dX6_postAction_62 : decode cX6_postAction 62 = .ok (.invokevirtual 42, 3) := by decide +kernel
theorem dX6_postAction_65 : decode cX6_postAction 65 = .ok (.goto 19, 3) := by decide +kernel
theorem dX6_postAction_68 : decode cX6_postAction 68 = .ok (.aload_n 0, 1) := by decide +kernel
theorem dX6_postAction_69 : decode cX6_postAction 69 = .ok (.iload_n 1, 1) := by decide +kernel
theorem dX6_postAction_70 : decode cX6_postAction 70 = .ok (.aload_n 0, 1) := by decide +kernel
theorem dX6_postAction_71 : decode cX6_postAction 71 = .ok (.iload 4, 2) := by decide +kernel
theorem dX6_postAction_73 : decode cX6_postAction 73 = .ok (.iconst 0, 1) := by decide +kernel
theorem dX6_postAction_74 : decode cX6_postAction 74 = .ok (.invokevirtual 62, 3) := by decide +kernel
theorem dX6_postAction_77 : decode cX6_postAction 77 = .ok (.iload_n 2, 1) := by decide +kernel
theorem dX6_postAction_78 : decode cX6_postAction 78 = .ok (.iload_n 3, 1) := by decide +kernel
theorem dX6_postAction_79 : decode cX6_postAction 79 = .ok (.iload 4, 2) := by decide +kernel
theorem dX6_postAction_81 : decode cX6_postAction 81 = .ok (.invokevirtual 82, 3) := by decide +kernel
theorem dX6_postAction_84 : decode cX6_postAction 84 = .ok (.ireturn, 1) := by decide +kernel
theorem dX6_takes_0 : decode cX6_takes 0 = .ok (.aload_n 0, 1) := by decide +kernel
theorem dX6_takes_1 : decode cX6_takes 1 = .ok (.getfield 7, 3) := by decide +kernel
theorem dX6_takes_4 : decode cX6_takes 4 = .ok (.sipush 572, 3) := by decide +kernel
theorem dX6_takes_7 : decode cX6_takes 7 = .ok (.iaload, 1) := by decide +kernel
theorem dX6_takes_8 : decode cX6_takes 8 = .ok (.istore_n 1, 1) := by decide +kernel
theorem dX6_takes_9 : decode cX6_takes 9 = .ok (.iconst 0, 1) := by decide +kernel
theorem dX6_takes_10 : decode cX6_takes 10 = .ok (.istore_n 2, 1) := by decide +kernel
theorem dX6_takes_11 : decode cX6_takes 11 = .ok (.iload_n 2, 1) := by decide +kernel
theorem dX6_takes_12 : decode cX6_takes 12 = .ok (.iload_n 1, 1) := by decide +kernel
theorem dX6_takes_13 : decode cX6_takes 13 = .ok (.if_icmp .ge 77, 3) := by decide +kernel
theorem dX6_takes_16 : decode cX6_takes 16 = .ok (.aload_n 0, 1) := by decide +kernel
theorem dX6_takes_17 : decode cX6_takes 17 = .ok (.getfield 7, 3) := by decide +kernel
theorem dX6_takes_20 : decode cX6_takes 20 = .ok (.sipush 573, 3) := by decide +kernel
theorem dX6_takes_23 : decode cX6_takes 23 = .ok (.iload_n 2, 1) := by decide +kernel
theorem dX6_takes_24 : decode cX6_takes 24 = .ok (.iadd, 1) := by decide +kernel
theorem dX6_takes_25 : decode cX6_takes 25 = .ok (.iaload, 1) := by decide +kernel
theorem dX6_takes_26 : decode cX6_takes 26 = .ok (.istore_n 3, 1) := by decide +kernel
theorem dX6_takes_27 : decode cX6_takes 27 = .ok (.iload_n 2, 1) := by decide +kernel
theorem dX6_takes_28 : decode cX6_takes 28 = .ok (.istore 4, 2) := by decide +kernel
theorem dX6_takes_30 : decode cX6_takes 30 = .ok (.iload 4, 2) := by decide +kernel
theorem dX6_takes_32 : decode cX6_takes 32 = .ok (.ifCond .le 44, 3) := by decide +kernel
theorem dX6_takes_35 : decode cX6_takes 35 = .ok (.aload_n 0, 1) := by decide +kernel
theorem dX6_takes_36 : decode cX6_takes 36 = .ok (.getfield 19, 3) := by decide +kernel
theorem dX6_takes_39 : decode cX6_takes 39 = .ok (.iload 4, 2) := by decide +kernel
theorem dX6_takes_41 : decode cX6_takes 41 = .ok (.iconst 1, 1) := by decide +kernel
theorem dX6_takes_42 : decode cX6_takes 42 = .ok (.isub, 1) := by decide +kernel
theorem dX6_takes_43 : decode cX6_takes 43 = .ok (.iaload, 1) := by decide +kernel
theorem dX6_takes_44 : decode cX6_takes 44 = .ok (.bipush 6, 2) := by decide +kernel
theorem dX6_takes_46 : decode cX6_takes 46 = .ok (.ishr, 1) := by decide +kernel
theorem dX6_takes_47 : decode cX6_takes 47 = .ok (.iload_n 3, 1) := by decide +kernel
theorem dX6_takes_48 : decode cX6_takes 48 = .ok (.bipush 6, 2) := by decide +kernel
theorem dX6_takes_50 : decode cX6_takes 50 = .ok (.ishr, 1) := by decide +kernel
theorem dX6_takes_51 : decode cX6_takes 51 = .ok (.if_icmp .le 25, 3) := by decide +kernel
theorem dX6_takes_54 : decode cX6_takes 54 = .ok (.aload_n 0, 1) := by decide +kernel
theorem dX6_takes_55 : decode cX6_takes 55 = .ok (.getfield 19, 3) := by decide +kernel
theorem dX6_takes_58 : decode cX6_takes 58 = .ok (.iload 4, 2) := by decide +kernel
theorem dX6_takes_60 : decode cX6_takes 60 = .ok (.aload_n 0, 1) := by decide +kernel
theorem dX6_takes_61 : decode cX6_takes 61 = .ok (.getfield 19, 3) := by decide +kernel
theorem dX6_takes_64 : decode cX6_takes 64 = .ok (.iload 4, 2) := by decide +kernel
theorem dX6_takes_66 : decode cX6_takes 66 = .ok (.iconst 1, 1) := by decide +kernel
theorem dX6_takes_67 : decode cX6_takes 67 = .ok (.isub, 1) := by decide +kernel
theorem dX6_takes_68 : decode cX6_takes 68 = .ok (.iaload, 1) := by decide +kernel
theorem dX6_takes_69 : decode cX6_takes 69 = .ok (.iastore, 1) := by decide +kernel
theorem dX6_takes_70 : decode cX6_takes 70 = .ok (.iinc 4 (-1), 3) := by decide +kernel
theorem dX6_takes_73 : decode cX6_takes 73 = .ok (.goto (-43), 3) := by decide +kernel
theorem dX6_takes_76 : decode cX6_takes 76 = .ok (.aload_n 0, 1) := by decide +kernel
theorem dX6_takes_77 : decode cX6_takes 77 = .ok (.getfield 19, 3) := by decide +kernel
theorem dX6_takes_80 : decode cX6_takes 80 = .ok (.iload 4, 2) := by decide +kernel
theorem dX6_takes_82 : decode cX6_takes 82 = .ok (.iload_n 3, 1) := by decide +kernel
theorem dX6_takes_83 : decode cX6_takes 83 = .ok (.iastore, 1) := by decide +kernel
theorem dX6_takes_84 : decode cX6_takes 84 = .ok (.iinc 2 1, 3) := by decide +kernel
theorem dX6_takes_87 : decode cX6_takes 87 = .ok (.goto (-76), 3) := by decide +kernel
theorem dX6_takes_90 : decode cX6_takes 90 = .ok (.aload_n 0, 1) := by decide +kernel
theorem dX6_takes_91 : decode cX6_takes 91 = .ok (.getfield 7, 3) := by decide +kernel
theorem dX6_takes_94 : decode cX6_takes 94 = .ok (.sipush 572, 3) := by decide +kernel
theorem dX6_takes_97 : decode cX6_takes 97 = .ok (.iconst 0, 1) := by decide +kernel
theorem dX6_takes_98 : decode cX6_takes 98 = .ok (.iastore, 1) := by decide +kernel
theorem dX6_takes_99 : decode cX6_takes 99 = .ok (.iload_n 1, 1) := by decide +kernel
theorem dX6_takes_100 : decode cX6_takes 100 = .ok (.ireturn, 1) := by decide +kernel
theorem dX6_goesRound_0 : decode cX6_goesRound 0 = .ok (.aload_n 0, 1) := by decide +kernel
theorem dX6_goesRound_1 : decode cX6_goesRound 1 = .ok (.invokevirtual 91, 3) := by decide +kernel
theorem dX6_goesRound_4 : decode cX6_goesRound 4 = .ok (.istore_n 1, 1) := by decide +kernel
theorem dX6_goesRound_5 : decode cX6_goesRound 5 = .ok (.iconst 0, 1) := by decide +kernel
theorem dX6_goesRound_6 : decode cX6_goesRound 6 = .ok (.istore_n 2, 1) := by decide +kernel
theorem dX6_goesRound_7 : decode cX6_goesRound 7 = .ok (.iconst 0, 1) := by decide +kernel
theorem dX6_goesRound_8 : decode cX6_goesRound 8 = .ok (.istore_n 3, 1) := by decide +kernel
theorem dX6_goesRound_9 : decode cX6_goesRound 9 = .ok (.iload_n 3, 1) := by decide +kernel
theorem dX6_goesRound_10 : decode cX6_goesRound 10 = .ok (.iload_n 1, 1) := by decide +kernel
theorem dX6_goesRound_11 : decode cX6_goesRound 11 = .ok (.if_icmp .ge 154, 3) := by decide +kernel
theorem dX6_goesRound_14 : decode cX6_goesRound 14 = .ok (.aload_n 0, 1) := by decide +kernel
theorem dX6_goesRound_15 : decode cX6_goesRound 15 = .ok (.getfield 19, 3) := by decide +kernel
theorem dX6_goesRound_18 : decode cX6_goesRound 18 = .ok (.iload_n 3, 1) := by decide +kernel
theorem dX6_goesRound_19 : decode cX6_goesRound 19 = .ok (.iaload, 1) := by decide +kernel
theorem dX6_goesRound_20 : decode cX6_goesRound 20 = .ok (.bipush 12, 2) := by decide +kernel
theorem dX6_goesRound_22 : decode cX6_goesRound 22 = .ok (.ishr, 1) := by decide +kernel
theorem dX6_goesRound_23 : decode cX6_goesRound 23 = .ok (.istore 4, 2) := by decide +kernel
theorem dX6_goesRound_25 : decode cX6_goesRound 25 = .ok (.aload_n 0, 1) := by decide +kernel
theorem dX6_goesRound_26 : decode cX6_goesRound 26 = .ok (.getfield 19, 3) := by decide +kernel
theorem dX6_goesRound_29 : decode cX6_goesRound 29 = .ok (.iload_n 3, 1) := by decide +kernel
theorem dX6_goesRound_30 : decode cX6_goesRound 30 = .ok (.iaload, 1) := by decide +kernel
theorem dX6_goesRound_31 : decode cX6_goesRound 31 = .ok (.bipush 6, 2) := by decide +kernel
theorem dX6_goesRound_33 : decode cX6_goesRound 33 = .ok (.ishr, 1) := by decide +kernel
theorem dX6_goesRound_34 : decode cX6_goesRound 34 = .ok (.bipush 7, 2) := by decide +kernel
theorem dX6_goesRound_36 : decode cX6_goesRound 36 = .ok (.iand, 1) := by decide +kernel
theorem dX6_goesRound_37 : decode cX6_goesRound 37 = .ok (.istore 5, 2) := by decide +kernel
theorem dX6_goesRound_39 : decode cX6_goesRound 39 = .ok (.aload_n 0, 1) := by decide +kernel
theorem dX6_goesRound_40 : decode cX6_goesRound 40 = .ok (.aload_n 0, 1) := by decide +kernel
theorem dX6_goesRound_41 : decode cX6_goesRound 41 = .ok (.getfield 19, 3) := by decide +kernel
theorem dX6_goesRound_44 : decode cX6_goesRound 44 = .ok (.iload_n 3, 1) := by decide +kernel
theorem dX6_goesRound_45 : decode cX6_goesRound 45 = .ok (.iaload, 1) := by decide +kernel
theorem dX6_goesRound_46 : decode cX6_goesRound 46 = .ok (.bipush 9, 2) := by decide +kernel
theorem dX6_goesRound_48 : decode cX6_goesRound 48 = .ok (.ishr, 1) := by decide +kernel
theorem dX6_goesRound_49 : decode cX6_goesRound 49 = .ok (.bipush 7, 2) := by decide +kernel
theorem dX6_goesRound_51 : decode cX6_goesRound 51 = .ok (.iand, 1) := by decide +kernel
theorem dX6_goesRound_52 : decode cX6_goesRound 52 = .ok (.iload 5, 2) := by decide +kernel
theorem dX6_goesRound_54 : decode cX6_goesRound 54 = .ok (.invokevirtual 46, 3) := by decide +kernel
theorem dX6_goesRound_57 : decode cX6_goesRound 57 = .ok (.istore 6, 2) := by decide +kernel
theorem dX6_goesRound_59 : decode cX6_goesRound 59 = .ok (.iload 6, 2) := by decide +kernel
theorem dX6_goesRound_61 : decode cX6_goesRound 61 = .ok (.iconst (-1), 1) := by decide +kernel
theorem dX6_goesRound_62 : decode cX6_goesRound 62 = .ok (.if_icmp .eq 18, 3) := by decide +kernel
theorem dX6_goesRound_65 : decode cX6_goesRound 65 = .ok (.aload_n 0, 1) := by decide +kernel
theorem dX6_goesRound_66 : decode cX6_goesRound 66 = .ok (.iload 6, 2) := by decide +kernel
theorem dX6_goesRound_68 : decode cX6_goesRound 68 = .ok (.iconst 2, 1) := by decide +kernel
theorem dX6_goesRound_69 : decode cX6_goesRound 69 = .ok (.invokevirtual 34, 3) := by decide +kernel
theorem dX6_goesRound_72 : decode cX6_goesRound 72 = .ok (.iconst 1, 1) := by decide +kernel
theorem dX6_goesRound_73 : decode cX6_goesRound 73 = .ok (.if_icmp .ne 7, 3) := by decide +kernel
theorem dX6_goesRound_76 : decode cX6_goesRound 76 = .ok (.iconst 1, 1) := by decide +kernel
theorem dX6_goesRound_77 : decode cX6_goesRound 77 = .ok (.goto 4, 3) := by decide +kernel
theorem dX6_goesRound_80 : decode cX6_goesRound 80 = .ok (.iconst 0, 1) := by decide +kernel
theorem dX6_goesRound_81 : decode cX6_goesRound 81 = .ok (.istore 7, 2) := by decide +kernel
theorem dX6_goesRound_83 : decode cX6_goesRound 83 = .ok (.aload_n 0, 1) := by decide +kernel
theorem dX6_goesRound_84 : decode cX6_goesRound 84 = .ok (.getfield 7, 3) := by decide +kernel
theorem dX6_goesRound_87 : decode cX6_goesRound 87 = .ok (.sipush 567, 3) := by decide +kernel
theorem dX6_goesRound_90 : decode cX6_goesRound 90 = .ok (.dup2, 1) := by decide +kernel
theorem dX6_goesRound_91 : decode cX6_goesRound 91 = .ok (.iaload, 1) := by decide +kernel
theorem dX6_goesRound_92 : decode cX6_goesRound 92 = .ok (.iload 7, 2) := by decide +kernel
theorem dX6_goesRound_94 : decode cX6_goesRound 94 = .ok (.ifCond .eq 7, 3) := by decide +kernel
theorem dX6_goesRound_97 : decode cX6_goesRound 97 = .ok (.iconst 1, 1) := by decide +kernel
theorem dX6_goesRound_98 : decode cX6_goesRound 98 = .ok (.goto 4, 3) := by decide +kernel
theorem dX6_goesRound_101 : decode cX6_goesRound 101 = .ok (.iconst 0, 1) := by decide +kernel
theorem dX6_goesRound_102 : decode cX6_goesRound 102 = .ok (.iadd, 1) := by decide +kernel
theorem dX6_goesRound_103 : decode cX6_goesRound 103 = .ok (.iastore, 1) := by decide +kernel
theorem dX6_goesRound_104 : decode cX6_goesRound 104 = .ok (.iload 6, 2) := by decide +kernel
theorem dX6_goesRound_106 : decode cX6_goesRound 106 = .ok (.iconst (-1), 1) := by decide +kernel
theorem dX6_goesRound_107 : decode cX6_goesRound 107 = .ok (.if_icmp .eq 52, 3) := by decide +kernel
theorem dX6_goesRound_110 : decode cX6_goesRound 110 = .ok (.iload 7, 2) := by decide +kernel
theorem dX6_goesRound_112 : decode cX6_goesRound 112 = .ok (.ifCond .eq 15, 3) := by decide +kernel
theorem dX6_goesRound_115 : decode cX6_goesRound 115 = .ok (.aload_n 0, 1) := by decide +kernel
theorem dX6_goesRound_116 : decode cX6_goesRound 116 = .ok (.iload 5, 2) := by decide +kernel
theorem dX6_goesRound_118 : decode cX6_goesRound 118 = .ok (.iload 4, 2) := by decide +kernel
theorem dX6_goesRound_120 : decode cX6_goesRound 120 = .ok (.invokevirtual 69, 3) := by decide +kernel
theorem dX6_goesRound_123 : decode cX6_goesRound 123 = .ok (.iconst (-1), 1) := by decide +kernel
theorem dX6_goesRound_124 : decode cX6_goesRound 124 = .ok (.if_icmp .ne 35, 3) := by decide +kernel
theorem dX6_goesRound_127 : decode cX6_goesRound 127 = .ok (.aload_n 0, 1) := by decide +kernel
theorem dX6_goesRound_128 : decode cX6_goesRound 128 = .ok (.getfield 7, 3) := by decide +kernel
theorem dX6_goesRound_131 : decode cX6_goesRound 131 = .ok (.sipush 566, 3) := by decide +kernel
theorem dX6_goesRound_134 : decode cX6_goesRound 134 = .ok (.dup2, 1) := by decide +kernel
theorem dX6_goesRound_135 : decode cX6_goesRound 135 = .ok (.iaload, 1) := by decide +kernel
theorem dX6_goesRound_136 : decode cX6_goesRound 136 = .ok (.iconst 1, 1) := by decide +kernel
theorem dX6_goesRound_137 : decode cX6_goesRound 137 = .ok (.iadd, 1) := by decide +kernel
theorem dX6_goesRound_138 : decode cX6_goesRound 138 = .ok (.iastore, 1) := by decide +kernel
theorem dX6_goesRound_139 : decode cX6_goesRound 139 = .ok (.iload_n 2, 1) := by decide +kernel
theorem dX6_goesRound_140 : decode cX6_goesRound 140 = .ok (.aload_n 0, 1) := by decide +kernel
theorem dX6_goesRound_141 : decode cX6_goesRound 141 = .ok (.iload 5, 2) := by decide +kernel
theorem dX6_goesRound_143 : decode cX6_goesRound 143 = .ok (.iload 4, 2) := by decide +kernel
theorem dX6_goesRound_145 : decode cX6_goesRound 145 = .ok (.aload_n 0, 1) := by decide +kernel
theorem dX6_goesRound_146 : decode cX6_goesRound 146 = .ok (.getfield 19, 3) := by decide +kernel
theorem dX6_goesRound_149 : decode cX6_goesRound 149 = .ok (.iload_n 3, 1) := by decide +kernel
theorem dX6_goesRound_150 : decode cX6_goesRound 150 = .ok (.iaload, 1) := by decide +kernel
theorem dX6_goesRound_151 : decode cX6_goesRound 151 = .ok (.bipush 63, 2) := by decide +kernel
theorem dX6_goesRound_153 : decode cX6_goesRound 153 = .ok (.iand, 1) := by decide +kernel
theorem dX6_goesRound_154 : decode cX6_goesRound 154 = .ok (.invokevirtual 76, 3) := by decide +kernel
theorem dX6_goesRound_157 : decode cX6_goesRound 157 = .ok (.iadd, 1) := by decide +kernel
theorem dX6_goesRound_158 : decode cX6_goesRound 158 = .ok (.istore_n 2, 1) := by decide +kernel
theorem dX6_goesRound_159 : decode cX6_goesRound 159 = .ok (.iinc 3 1, 3) := by decide +kernel
theorem dX6_goesRound_162 : decode cX6_goesRound 162 = .ok (.goto (-153), 3) := by decide +kernel
theorem dX6_goesRound_165 : decode cX6_goesRound 165 = .ok (.iload_n 2, 1) := by decide +kernel
theorem dX6_goesRound_166 : decode cX6_goesRound 166 = .ok (.ireturn, 1) := by decide +kernel
theorem dX6_round_0 : decode cX6_round 0 = .ok (.aload_n 0, 1) := by decide +kernel
theorem dX6_round_1 : decode cX6_round 1 = .ok (.invokevirtual 49, 3) := by decide +kernel
theorem dX6_round_4 : decode cX6_round 4 = .ok (.aload_n 0, 1) := by decide +kernel
theorem dX6_round_5 : decode cX6_round 5 = .ok (.invokevirtual 95, 3) := by decide +kernel
theorem dX6_round_8 : decode cX6_round 8 = .ok (.ireturn, 1) := by decide +kernel
theorem dX6_settle_0 : decode cX6_settle 0 = .ok (.aload_n 0, 1) := by decide +kernel
theorem dX6_settle_1 : decode cX6_settle 1 = .ok (.invokevirtual 49, 3) := by decide +kernel
theorem dX6_settle_4 : decode cX6_settle 4 = .ok (.iconst 0, 1) := by decide +kernel
theorem dX6_settle_5 : decode cX6_settle 5 = .ok (.istore_n 1, 1) := by decide +kernel
theorem dX6_settle_6 : decode cX6_settle 6 = .ok (.aload_n 0, 1) := by decide +kernel
theorem dX6_settle_7 : decode cX6_settle 7 = .ok (.getfield 7, 3) := by decide +kernel
theorem dX6_settle_10 : decode cX6_settle 10 = .ok (.sipush 572, 3) := by decide +kernel
theorem dX6_settle_13 : decode cX6_settle 13 = .ok (.iaload, 1) := by decide +kernel
theorem dX6_settle_14 : decode cX6_settle 14 = .ok (.ifCond .le 14, 3) := by decide +kernel
theorem dX6_settle_17 : decode cX6_settle 17 = .ok (.aload_n 0, 1) := by decide +kernel
theorem dX6_settle_18 : decode cX6_settle 18 = .ok (.invokevirtual 95, 3) := by decide +kernel
theorem dX6_settle_21 : decode cX6_settle 21 = .ok (.istore_n 2, 1) := by decide +kernel
theorem dX6_settle_22 : decode cX6_settle 22 = .ok (.iinc 1 1, 3) := by decide +kernel
theorem dX6_settle_25 : decode cX6_settle 25 = .ok (.goto (-19), 3) := by decide +kernel
theorem dX6_settle_28 : decode cX6_settle 28 = .ok (.iload_n 1, 1) := by decide +kernel
theorem dX6_settle_29 : decode cX6_settle 29 = .ok (.ireturn, 1) := by decide +kernel
theorem dX6_nextDay_0 : decode cX6_nextDay 0 = .ok (.aload_n 0, 1) := by decide +kernel
theorem dX6_nextDay_1 : decode cX6_nextDay 1 = .ok (.invokevirtual 49, 3) := by decide +kernel
theorem dX6_nextDay_4 : decode cX6_nextDay 4 = .ok (.aload_n 0, 1) := by decide +kernel
theorem dX6_nextDay_5 : decode cX6_nextDay 5 = .ok (.getfield 7, 3) := by decide +kernel
theorem dX6_nextDay_8 : decode cX6_nextDay 8 = .ok (.iconst 0, 1) := by decide +kernel
theorem dX6_nextDay_9 : decode cX6_nextDay 9 = .ok (.dup2, 1) := by decide +kernel
theorem dX6_nextDay_10 : decode cX6_nextDay 10 = .ok (.iaload, 1) := by decide +kernel
theorem dX6_nextDay_11 : decode cX6_nextDay 11 = .ok (.iconst 1, 1) := by decide +kernel
theorem dX6_nextDay_12 : decode cX6_nextDay 12 = .ok (.iadd, 1) := by decide +kernel
theorem dX6_nextDay_13 : decode cX6_nextDay 13 = .ok (.iastore, 1) := by decide +kernel
theorem dX6_nextDay_14 : decode cX6_nextDay 14 = .ok (.iconst 0, 1) := by decide +kernel
theorem dX6_nextDay_15 : decode cX6_nextDay 15 = .ok (.istore_n 1, 1) := by decide +kernel
theorem dX6_nextDay_16 : decode cX6_nextDay 16 = .ok (.iconst 0, 1) := by decide +kernel
theorem dX6_nextDay_17 : decode cX6_nextDay 17 = .ok (.istore_n 2, 1) := by decide +kernel
theorem dX6_nextDay_18 : decode cX6_nextDay 18 = .ok (.iload_n 2, 1) := by decide +kernel
theorem dX6_nextDay_19 : decode cX6_nextDay 19 = .ok (.sipush 180, 3) := by decide +kernel
theorem dX6_nextDay_22 : decode cX6_nextDay 22 = .ok (.if_icmp .ge 134, 3) := by decide +kernel
theorem dX6_nextDay_25 : decode cX6_nextDay 25 = .ok (.iload_n 2, 1) := by decide +kernel
theorem dX6_nextDay_26 : decode cX6_nextDay 26 = .ok (.bipush 30, 2) := by decide +kernel
theorem dX6_nextDay_28 : decode cX6_nextDay 28 = .ok (.idiv, 1) := by decide +kernel
theorem dX6_nextDay_29 : decode cX6_nextDay 29 = .ok (.istore_n 3, 1) := by decide +kernel
theorem dX6_nextDay_30 : decode cX6_nextDay 30 = .ok (.iload_n 2, 1) := by decide +kernel
theorem dX6_nextDay_31 : decode cX6_nextDay 31 = .ok (.bipush 30, 2) := by decide +kernel
theorem dX6_nextDay_33 : decode cX6_nextDay 33 = .ok (.irem, 1) := by decide +kernel
theorem dX6_nextDay_34 : decode cX6_nextDay 34 = .ok (.istore 4, 2) := by decide +kernel
theorem dX6_nextDay_36 : decode cX6_nextDay 36 = .ok (.aload_n 0, 1) := by decide +kernel
theorem dX6_nextDay_37 : decode cX6_nextDay 37 = .ok (.iload_n 3, 1) := by decide +kernel
theorem dX6_nextDay_38 : decode cX6_nextDay 38 = .ok (.iload 4, 2) := by decide +kernel
theorem dX6_nextDay_40 : decode cX6_nextDay 40 = .ok (.invokevirtual 65, 3) := by decide +kernel
theorem dX6_nextDay_43 : decode cX6_nextDay 43 = .ok (.ifCond .eq 56, 3) := by decide +kernel
theorem dX6_nextDay_46 : decode cX6_nextDay 46 = .ok (.aload_n 0, 1) := by decide +kernel
theorem dX6_nextDay_47 : decode cX6_nextDay 47 = .ok (.getfield 7, 3) := by decide +kernel
theorem dX6_nextDay_50 : decode cX6_nextDay 50 = .ok (.iconst 0, 1) := by decide +kernel
theorem dX6_nextDay_51 : decode cX6_nextDay 51 = .ok (.iaload, 1) := by decide +kernel
theorem dX6_nextDay_52 : decode cX6_nextDay 52 = .ok (.aload_n 0, 1) := by decide +kernel
theorem dX6_nextDay_53 : decode cX6_nextDay 53 = .ok (.iload 4, 2) := by decide +kernel
theorem dX6_nextDay_55 : decode cX6_nextDay 55 = .ok (.iconst 2, 1) := by decide +kernel
theorem dX6_nextDay_56 : decode cX6_nextDay 56 = .ok (.invokevirtual 62, 3) := by decide +kernel
theorem dX6_nextDay_59 : decode cX6_nextDay 59 = .ok (.isub, 1) := by decide +kernel
theorem dX6_nextDay_60 : decode cX6_nextDay 60 = .ok (.aload_n 0, 1) := by decide +kernel
theorem dX6_nextDay_61 : decode cX6_nextDay 61 = .ok (.getfield 7, 3) := by decide +kernel
theorem dX6_nextDay_64 : decode cX6_nextDay 64 = .ok (.iconst 2, 1) := by decide +kernel
theorem dX6_nextDay_65 : decode cX6_nextDay 65 = .ok (.aload_n 0, 1) := by decide +kernel
theorem dX6_nextDay_66 : decode cX6_nextDay 66 = .ok (.iload 4, 2) := by decide +kernel
theorem dX6_nextDay_68 : decode cX6_nextDay 68 = .ok (.iconst 0, 1) := by decide +kernel
theorem dX6_nextDay_69 : decode cX6_nextDay 69 = .ok (.invokevirtual 62, 3) := by decide +kernel
theorem dX6_nextDay_72 : decode cX6_nextDay 72 = .ok (.iadd, 1) := by decide +kernel
theorem dX6_nextDay_73 : decode cX6_nextDay 73 = .ok (.iaload, 1) := by decide +kernel
theorem dX6_nextDay_74 : decode cX6_nextDay 74 = .ok (.if_icmp .lt 25, 3) := by decide +kernel
theorem dX6_nextDay_77 : decode cX6_nextDay 77 = .ok (.aload_n 0, 1) := by decide +kernel
theorem dX6_nextDay_78 : decode cX6_nextDay 78 = .ok (.getfield 7, 3) := by decide +kernel
theorem dX6_nextDay_81 : decode cX6_nextDay 81 = .ok (.sipush 380, 3) := by decide +kernel
theorem dX6_nextDay_84 : decode cX6_nextDay 84 = .ok (.iload_n 3, 1) := by decide +kernel
theorem dX6_nextDay_85 : decode cX6_nextDay 85 = .ok (.iadd, 1) := by decide +kernel
theorem dX6_nextDay_86 : decode cX6_nextDay 86 = .ok (.dup2, 1) := by decide +kernel
theorem dX6_nextDay_87 : decode cX6_nextDay 87 = .ok (.iaload, 1) := by decide +kernel
theorem dX6_nextDay_88 : decode cX6_nextDay 88 = .ok (.iconst 1, 1) := by decide +kernel
theorem dX6_nextDay_89 : decode cX6_nextDay 89 = .ok (.iload 4, 2) := by decide +kernel
theorem dX6_nextDay_91 : decode cX6_nextDay 91 = .ok (.ishl, 1) := by decide +kernel
theorem dX6_nextDay_92 : decode cX6_nextDay 92 = .ok (.iconst (-1), 1) := by decide +kernel
theorem dX6_nextDay_93 : decode cX6_nextDay 93 = .ok (.ixor, 1) := by decide +kernel
theorem dX6_nextDay_94 : decode cX6_nextDay 94 = .ok (.iand, 1) := by decide +kernel
theorem dX6_nextDay_95 : decode cX6_nextDay 95 = .ok (.iastore, 1) := by decide +kernel
theorem dX6_nextDay_96 : decode cX6_nextDay 96 = .ok (.iinc 1 1, 3) := by decide +kernel
theorem dX6_nextDay_99 : decode cX6_nextDay 99 = .ok (.aload_n 0, 1) := by decide +kernel
theorem dX6_nextDay_100 : decode cX6_nextDay 100 = .ok (.getfield 7, 3) := by decide +kernel
theorem dX6_nextDay_103 : decode cX6_nextDay 103 = .ok (.sipush 200, 3) := by decide +kernel
theorem dX6_nextDay_106 : decode cX6_nextDay 106 = .ok (.iload_n 2, 1) := by decide +kernel
theorem dX6_nextDay_107 : decode cX6_nextDay 107 = .ok (.iadd, 1) := by decide +kernel
theorem dX6_nextDay_108 : decode cX6_nextDay 108 = .ok (.iaload, 1) := by decide +kernel
theorem dX6_nextDay_109 : decode cX6_nextDay 109 = .ok (.iconst (-1), 1) := by decide +kernel
theorem dX6_nextDay_110 : decode cX6_nextDay 110 = .ok (.if_icmp .eq 40, 3) := by decide +kernel
theorem dX6_nextDay_113 : decode cX6_nextDay 113 = .ok (.aload_n 0, 1) := by decide +kernel
theorem dX6_nextDay_114 : decode cX6_nextDay 114 = .ok (.getfield 7, 3) := by decide +kernel
theorem dX6_nextDay_117 : decode cX6_nextDay 117 = .ok (.iconst 0, 1) := by decide +kernel
theorem dX6_nextDay_118 : decode cX6_nextDay 118 = .ok (.iaload, 1) := by decide +kernel
theorem dX6_nextDay_119 : decode cX6_nextDay 119 = .ok (.aload_n 0, 1) := by decide +kernel
theorem dX6_nextDay_120 : decode cX6_nextDay 120 = .ok (.getfield 7, 3) := by decide +kernel
theorem dX6_nextDay_123 : decode cX6_nextDay 123 = .ok (.sipush 200, 3) := by decide +kernel
theorem dX6_nextDay_126 : decode cX6_nextDay 126 = .ok (.iload_n 2, 1) := by decide +kernel
theorem dX6_nextDay_127 : decode cX6_nextDay 127 = .ok (.iadd, 1) := by decide +kernel
theorem dX6_nextDay_128 : decode cX6_nextDay 128 = .ok (.iaload, 1) := by decide +kernel
theorem dX6_nextDay_129 : decode cX6_nextDay 129 = .ok (.isub, 1) := by decide +kernel
theorem dX6_nextDay_130 : decode cX6_nextDay 130 = .ok (.aload_n 0, 1) := by decide +kernel
theorem dX6_nextDay_131 : decode cX6_nextDay 131 = .ok (.getfield 7, 3) := by decide +kernel
theorem dX6_nextDay_134 : decode cX6_nextDay 134 = .ok (.iconst 1, 1) := by decide +kernel
theorem dX6_nextDay_135 : decode cX6_nextDay 135 = .ok (.iaload, 1) := by decide +kernel
theorem dX6_nextDay_136 : decode cX6_nextDay 136 = .ok (.if_icmp .lt 14, 3) := by decide +kernel
theorem dX6_nextDay_139 : decode cX6_nextDay 139 = .ok (.aload_n 0, 1) := by decide +kernel
theorem dX6_nextDay_140 : decode cX6_nextDay 140 = .ok (.getfield 7, 3) := by decide +kernel
theorem dX6_nextDay_143 : decode cX6_nextDay 143 = .ok (.sipush 200, 3) := by decide +kernel
theorem dX6_nextDay_146 : decode cX6_nextDay 146 = .ok (.iload_n 2, 1) := by decide +kernel
theorem dX6_nextDay_147 : decode cX6_nextDay 147 = .ok (.iadd, 1) := by decide +kernel
theorem dX6_nextDay_148 : decode cX6_nextDay 148 = .ok (.iconst (-1), 1) := by decide +kernel
theorem dX6_nextDay_149 : decode cX6_nextDay 149 = .ok (.iastore, 1) := by decide +kernel
theorem dX6_nextDay_150 : decode cX6_nextDay 150 = .ok (.iinc 2 1, 3) := by decide +kernel
theorem dX6_nextDay_153 : decode cX6_nextDay 153 = .ok (.goto (-135), 3) := by decide +kernel
theorem dX6_nextDay_156 : decode cX6_nextDay 156 = .ok (.iload_n 1, 1) := by decide +kernel
theorem dX6_nextDay_157 : decode cX6_nextDay 157 = .ok (.ireturn, 1) := by decide +kernel
theorem dX6_isStored_0 : decode cX6_isStored 0 = .ok (.iload_n 1, 1) := by decide +kernel
theorem dX6_isStored_1 : decode cX6_isStored 1 = .ok (.invokestatic 38, 3) := by decide +kernel
theorem dX6_isStored_4 : decode cX6_isStored 4 = .ok (.ifCond .eq 28, 3) := by decide +kernel
theorem dX6_isStored_7 : decode cX6_isStored 7 = .ok (.aload_n 0, 1) := by decide +kernel
theorem dX6_isStored_8 : decode cX6_isStored 8 = .ok (.iload_n 2, 1) := by decide +kernel
theorem dX6_isStored_9 : decode cX6_isStored 9 = .ok (.invokevirtual 88, 3) := by decide +kernel
theorem dX6_isStored_12 : decode cX6_isStored 12 = .ok (.ifCond .eq 20, 3) := by decide +kernel
theorem dX6_isStored_15 : decode cX6_isStored 15 = .ok (.aload_n 0, 1) := by decide +kernel
theorem dX6_isStored_16 : decode cX6_isStored 16 = .ok (.iload_n 1, 1) := by decide +kernel
theorem dX6_isStored_17 : decode cX6_isStored 17 = .ok (.iload_n 2, 1) := by decide +kernel
theorem dX6_isStored_18 : decode cX6_isStored 18 = .ok (.invokevirtual 65, 3) := by decide +kernel
theorem dX6_isStored_21 : decode cX6_isStored 21 = .ok (.ifCond .eq 7, 3) := by decide +kernel
theorem dX6_isStored_24 : decode cX6_isStored 24 = .ok (.iconst 1, 1) := by decide +kernel
theorem dX6_isStored_25 : decode cX6_isStored 25 = .ok (.goto 13, 3) := by decide +kernel
theorem dX6_isStored_28 : decode cX6_isStored 28 = .ok (.iconst 0, 1) := by decide +kernel
theorem dX6_isStored_29 : decode cX6_isStored 29 = .ok (.goto 9, 3) := by decide +kernel
theorem dX6_isStored_32 : decode cX6_isStored 32 = .ok (.aload_n 0, 1) := by decide +kernel
theorem dX6_isStored_33 : decode cX6_isStored 33 = .ok (.bipush (-2), 2) := by decide +kernel
theorem dX6_isStored_35 : decode cX6_isStored 35 = .ok (.invokevirtual 42, 3) := by decide +kernel
theorem dX6_isStored_38 : decode cX6_isStored 38 = .ok (.ireturn, 1) := by decide +kernel
theorem dX6_knownSince_0 : decode cX6_knownSince 0 = .ok (.iload_n 1, 1) := by decide +kernel
theorem dX6_knownSince_1 : decode cX6_knownSince 1 = .ok (.invokestatic 38, 3) := by decide +kernel
theorem dX6_knownSince_4 : decode cX6_knownSince 4 = .ok (.ifCond .eq 20, 3) := by decide +kernel
theorem dX6_knownSince_7 : decode cX6_knownSince 7 = .ok (.aload_n 0, 1) := by decide +kernel
theorem dX6_knownSince_8 : decode cX6_knownSince 8 = .ok (.iload_n 2, 1) := by decide +kernel
theorem dX6_knownSince_9 : decode cX6_knownSince 9 = .ok (.invokevirtual 88, 3) := by decide +kernel
theorem dX6_knownSince_12 : decode cX6_knownSince 12 = .ok (.ifCond .eq 12, 3) := by decide +kernel
theorem dX6_knownSince_15 : decode cX6_knownSince 15 = .ok (.aload_n 0, 1) := by decide +kernel
theorem dX6_knownSince_16 : decode cX6_knownSince 16 = .ok (.iload_n 1, 1) := by decide +kernel
theorem dX6_knownSince_17 : decode cX6_knownSince 17 = .ok (.iload_n 2, 1) := by decide +kernel
theorem dX6_knownSince_18 : decode cX6_knownSince 18 = .ok (.invokevirtual 69, 3) := by decide +kernel
theorem dX6_knownSince_21 : decode cX6_knownSince 21 = .ok (.goto 9, 3) := by decide +kernel
theorem dX6_knownSince_24 : decode cX6_knownSince 24 = .ok (.aload_n 0, 1) := by decide +kernel
theorem dX6_knownSince_25 : decode cX6_knownSince 25 = .ok (.bipush (-2), 2) := by decide +kernel
theorem dX6_knownSince_27 : decode cX6_knownSince 27 = .ok (.invokevirtual 42, 3) := by decide +kernel
theorem dX6_knownSince_30 : decode cX6_knownSince 30 = .ok (.ireturn, 1) := by decide +kernel
theorem dX6_pendingOf_0 : decode cX6_pendingOf 0 = .ok (.iconst 0, 1) := by decide +kernel
theorem dX6_pendingOf_1 : decode cX6_pendingOf 1 = .ok (.istore_n 2, 1) := by decide +kernel
theorem dX6_pendingOf_2 : decode cX6_pendingOf 2 = .ok (.iconst 0, 1) := by decide +kernel
theorem dX6_pendingOf_3 : decode cX6_pendingOf 3 = .ok (.istore_n 3, 1) := by decide +kernel
theorem dX6_pendingOf_4 : decode cX6_pendingOf 4 = .ok (.iload_n 3, 1) := by decide +kernel
theorem dX6_pendingOf_5 : decode cX6_pendingOf 5 = .ok (.bipush 30, 2) := by decide +kernel
theorem dX6_pendingOf_7 : decode cX6_pendingOf 7 = .ok (.if_icmp .ge 47, 3) := by decide +kernel
theorem dX6_pendingOf_10 : decode cX6_pendingOf 10 = .ok (.aload_n 0, 1) := by decide +kernel
theorem dX6_pendingOf_11 : decode cX6_pendingOf 11 = .ok (.getfield 7, 3) := by decide +kernel
theorem dX6_pendingOf_14 : decode cX6_pendingOf 14 = .ok (.sipush 386, 3) := by decide +kernel
theorem dX6_pendingOf_17 : decode cX6_pendingOf 17 = .ok (.bipush 30, 2) := by decide +kernel
theorem dX6_pendingOf_19 : decode cX6_pendingOf 19 = .ok (.iload_n 1, 1) := by decide +kernel
theorem dX6_pendingOf_20 : decode cX6_pendingOf 20 = .ok (.imul, 1) := by decide +kernel
theorem dX6_pendingOf_21 : decode cX6_pendingOf 21 = .ok (.iadd, 1) := by decide +kernel
theorem dX6_pendingOf_22 : decode cX6_pendingOf 22 = .ok (.iload_n 3, 1) := by decide +kernel
theorem dX6_pendingOf_23 : decode cX6_pendingOf 23 = .ok (.iadd, 1) := by decide +kernel
theorem dX6_pendingOf_24 : decode cX6_pendingOf 24 = .ok (.iaload, 1) := by decide +kernel
theorem dX6_pendingOf_25 : decode cX6_pendingOf 25 = .ok (.istore 4, 2) := by decide +kernel
theorem dX6_pendingOf_27 : decode cX6_pendingOf 27 = .ok (.iload 4, 2) := by decide +kernel
theorem dX6_pendingOf_29 : decode cX6_pendingOf 29 = .ok (.ifCond .le 19, 3) := by decide +kernel
theorem dX6_pendingOf_32 : decode cX6_pendingOf 32 = .ok (.iload_n 2, 1) := by decide +kernel
theorem dX6_pendingOf_33 : decode cX6_pendingOf 33 = .ok (.iload 4, 2) := by decide +kernel
theorem dX6_pendingOf_35 : decode cX6_pendingOf 35 = .ok (.iconst 1, 1) := by decide +kernel
theorem dX6_pendingOf_36 : decode cX6_pendingOf 36 = .ok (.iand, 1) := by decide +kernel
theorem dX6_pendingOf_37 : decode cX6_pendingOf 37 = .ok (.iadd, 1) := by decide +kernel
theorem dX6_pendingOf_38 : decode cX6_pendingOf 38 = .ok (.istore_n 2, 1) := by decide +kernel
theorem dX6_pendingOf_39 : decode cX6_pendingOf 39 = .ok (.iload 4, 2) := by decide +kernel
theorem dX6_pendingOf_41 : decode cX6_pendingOf 41 = .ok (.iconst 1, 1) := by decide +kernel
theorem dX6_pendingOf_42 : decode cX6_pendingOf 42 = .ok (.ishr, 1) := by decide +kernel
theorem dX6_pendingOf_43 : decode cX6_pendingOf 43 = .ok (.istore 4, 2) := by decide +kernel
theorem dX6_pendingOf_45 : decode cX6_pendingOf 45 = .ok (.goto (-18), 3) := by decide +kernel
theorem dX6_pendingOf_48 : decode cX6_pendingOf 48 = .ok (.iinc 3 1, 3) := by decide +kernel
theorem dX6_pendingOf_51 : decode cX6_pendingOf 51 = .ok (.goto (-47), 3) := by decide +kernel
theorem dX6_pendingOf_54 : decode cX6_pendingOf 54 = .ok (.iload_n 2, 1) := by decide +kernel
theorem dX6_pendingOf_55 : decode cX6_pendingOf 55 = .ok (.ireturn, 1) := by decide +kernel
theorem dX6_pendingCancels_0 : decode cX6_pendingCancels 0 = .ok (.iload_n 1, 1) := by decide +kernel
theorem dX6_pendingCancels_1 : decode cX6_pendingCancels 1 = .ok (.invokestatic 38, 3) := by decide +kernel
theorem dX6_pendingCancels_4 : decode cX6_pendingCancels 4 = .ok (.ifCond .eq 11, 3) := by decide +kernel
theorem dX6_pendingCancels_7 : decode cX6_pendingCancels 7 = .ok (.aload_n 0, 1) := by decide +kernel
theorem dX6_pendingCancels_8 : decode cX6_pendingCancels 8 = .ok (.iload_n 1, 1) := by decide +kernel
theorem dX6_pendingCancels_9 : decode cX6_pendingCancels 9 = .ok (.invokevirtual 98, 3) := by decide +kernel
theorem dX6_pendingCancels_12 : decode cX6_pendingCancels 12 = .ok (.goto 9, 3) := by decide +kernel
theorem dX6_pendingCancels_15 : decode cX6_pendingCancels 15 = .ok (.aload_n 0, 1) := by decide +kernel
theorem dX6_pendingCancels_16 : decode cX6_pendingCancels 16 = .ok (.bipush (-2), 2) := by decide +kernel
theorem dX6_pendingCancels_18 : decode cX6_pendingCancels 18 = .ok (.invokevirtual 42, 3) := by decide +kernel
theorem dX6_pendingCancels_21 : decode cX6_pendingCancels 21 = .ok (.ireturn, 1) := by decide +kernel
theorem dX6_holders_0 : decode cX6_holders 0 = .ok (.aload_n 0, 1) := by decide +kernel
theorem dX6_holders_1 : decode cX6_holders 1 = .ok (.iload_n 1, 1) := by decide +kernel
theorem dX6_holders_2 : decode cX6_holders 2 = .ok (.invokevirtual 88, 3) := by decide +kernel
theorem dX6_holders_5 : decode cX6_holders 5 = .ok (.ifCond .ne 10, 3) := by decide +kernel
theorem dX6_holders_8 : decode cX6_holders 8 = .ok (.aload_n 0, 1) := by decide +kernel
theorem dX6_holders_9 : decode cX6_holders 9 = .ok (.bipush (-2), 2) := by decide +kernel
theorem dX6_holders_11 : decode cX6_holders 11 = .ok (.invokevirtual 42, 3) := by decide +kernel
theorem dX6_holders_14 : decode cX6_holders 14 = .ok (.ireturn, 1) := by decide +kernel
theorem dX6_holders_15 : decode cX6_holders 15 = .ok (.iconst 0, 1) := by decide +kernel
theorem dX6_holders_16 : decode cX6_holders 16 = .ok (.istore_n 2, 1) := by decide +kernel
theorem dX6_holders_17 : decode cX6_holders 17 = .ok (.iconst 0, 1) := by decide +kernel
theorem dX6_holders_18 : decode cX6_holders 18 = .ok (.istore_n 3, 1) := by decide +kernel
theorem dX6_holders_19 : decode cX6_holders 19 = .ok (.iload_n 3, 1) := by decide +kernel
theorem dX6_holders_20 : decode cX6_holders 20 = .ok (.bipush 6, 2) := by decide +kernel
theorem dX6_holders_22 : decode cX6_holders 22 = .ok (.if_icmp .ge 28, 3) := by decide +kernel
theorem dX6_holders_25 : decode cX6_holders 25 = .ok (.iload_n 2, 1) := by decide +kernel
theorem dX6_holders_26 : decode cX6_holders 26 = .ok (.aload_n 0, 1) := by decide +kernel
theorem dX6_holders_27 : decode cX6_holders 27 = .ok (.iload_n 3, 1) := by decide +kernel
theorem dX6_holders_28 : decode cX6_holders 28 = .ok (.iload_n 1, 1) := by decide +kernel
theorem dX6_holders_29 : decode cX6_holders 29 = .ok (.invokevirtual 65, 3) := by decide +kernel
theorem dX6_holders_32 : decode cX6_holders 32 = .ok (.ifCond .eq 9, 3) := by decide +kernel
theorem dX6_holders_35 : decode cX6_holders 35 = .ok (.iconst 1, 1) := by decide +kernel
theorem dX6_holders_36 : decode cX6_holders 36 = .ok (.iload_n 3, 1) := by decide +kernel
theorem dX6_holders_37 : decode cX6_holders 37 = .ok (.ishl, 1) := by decide +kernel
theorem dX6_holders_38 : decode cX6_holders 38 = .ok (.goto 4, 3) := by decide +kernel
theorem dX6_holders_41 : decode cX6_holders 41 = .ok (.iconst 0, 1) := by decide +kernel
theorem dX6_holders_42 : decode cX6_holders 42 = .ok (.ior, 1) := by decide +kernel
theorem dX6_holders_43 : decode cX6_holders 43 = .ok (.istore_n 2, 1) := by decide +kernel
theorem dX6_holders_44 : decode cX6_holders 44 = .ok (.iinc 3 1, 3) := by decide +kernel
theorem dX6_holders_47 : decode cX6_holders 47 = .ok (.goto (-28), 3) := by decide +kernel
theorem dX6_holders_50 : decode cX6_holders 50 = .ok (.iload_n 2, 1) := by decide +kernel
theorem dX6_holders_51 : decode cX6_holders 51 = .ok (.ireturn, 1) := by decide +kernel
theorem dX6_storedInGroup_0 : decode cX6_storedInGroup 0 = .ok (.iload_n 1, 1) := by decide +kernel
theorem dX6_storedInGroup_1 : decode cX6_storedInGroup 1 = .ok (.invokestatic 38, 3) := by decide +kernel
theorem dX6_storedInGroup_4 : decode cX6_storedInGroup 4 = .ok (.ifCond .eq 10, 3) := by decide +kernel
theorem dX6_storedInGroup_7 : decode cX6_storedInGroup 7 = .ok (.iload_n 2, 1) := by decide +kernel
theorem dX6_storedInGroup_8 : decode cX6_storedInGroup 8 = .ok (.invokestatic 57, 3) := by decide +kernel
theorem dX6_storedInGroup_11 : decode cX6_storedInGroup 11 = .ok (.ifCond .ne 10, 3) := by decide +kernel
theorem dX6_storedInGroup_14 : decode cX6_storedInGroup 14 = .ok (.aload_n 0, 1) := by decide +kernel
theorem dX6_storedInGroup_15 : decode cX6_storedInGroup 15 = .ok (.bipush (-2), 2) := by decide +kernel
theorem dX6_storedInGroup_17 : decode cX6_storedInGroup 17 = .ok (.invokevirtual 42, 3) := by decide +kernel
theorem dX6_storedInGroup_20 : decode cX6_storedInGroup 20 = .ok (.ireturn, 1) := by decide +kernel
theorem dX6_storedInGroup_21 : decode cX6_storedInGroup 21 = .ok (.iconst 0, 1) := by decide +kernel
theorem dX6_storedInGroup_22 : decode cX6_storedInGroup 22 = .ok (.istore_n 3, 1) := by decide +kernel
theorem dX6_storedInGroup_23 : decode cX6_storedInGroup 23 = .ok (.iconst 0, 1) := by decide +kernel
theorem dX6_storedInGroup_24 : decode cX6_storedInGroup 24 = .ok (.istore 4, 2) := by decide +kernel
theorem dX6_storedInGroup_26 : decode cX6_storedInGroup 26 = .ok (.iload 4, 2) := by decide +kernel
theorem dX6_storedInGroup_28 : decode cX6_storedInGroup 28 = .ok (.aload_n 0, 1) := by decide +kernel
theorem dX6_storedInGroup_29 : decode cX6_storedInGroup 29 = .ok (.getfield 7, 3) := by decide +kernel
theorem dX6_storedInGroup_32 : decode cX6_storedInGroup 32 = .ok (.bipush 49, 2) := by decide +kernel
theorem dX6_storedInGroup_34 : decode cX6_storedInGroup 34 = .ok (.iaload, 1) := by decide +kernel
theorem dX6_storedInGroup_35 : decode cX6_storedInGroup 35 = .ok (.if_icmp .ge 38, 3) := by decide +kernel
theorem dX6_storedInGroup_38 : decode cX6_storedInGroup 38 = .ok (.iload_n 3, 1) := by decide +kernel
theorem dX6_storedInGroup_39 : decode cX6_storedInGroup 39 = .ok (.aload_n 0, 1) := by decide +kernel
theorem dX6_storedInGroup_40 : decode cX6_storedInGroup 40 = .ok (.iload_n 1, 1) := by decide +kernel
theorem dX6_storedInGroup_41 : decode cX6_storedInGroup 41 = .ok (.iload 4, 2) := by decide +kernel
theorem dX6_storedInGroup_43 : decode cX6_storedInGroup 43 = .ok (.invokevirtual 65, 3) := by decide +kernel
theorem dX6_storedInGroup_46 : decode cX6_storedInGroup 46 = .ok (.ifCond .eq 18, 3) := by decide +kernel
theorem dX6_storedInGroup_49 : decode cX6_storedInGroup 49 = .ok (.aload_n 0, 1) := by decide +kernel
theorem dX6_storedInGroup_50 : decode cX6_storedInGroup 50 = .ok (.iload 4, 2) := by decide +kernel
theorem dX6_storedInGroup_52 : decode cX6_storedInGroup 52 = .ok (.iconst 0, 1) := by decide +kernel
theorem dX6_storedInGroup_53 : decode cX6_storedInGroup 53 = .ok (.invokevirtual 62, 3) := by decide +kernel
theorem dX6_storedInGroup_56 : decode cX6_storedInGroup 56 = .ok (.iload_n 2, 1) := by decide +kernel
theorem dX6_storedInGroup_57 : decode cX6_storedInGroup 57 = .ok (.if_icmp .ne 7, 3) := by decide +kernel
theorem dX6_storedInGroup_60 : decode cX6_storedInGroup 60 = .ok (.iconst 1, 1) := by decide +kernel
theorem dX6_storedInGroup_61 : decode cX6_storedInGroup 61 = .ok (.goto 4, 3) := by decide +kernel
theorem dX6_storedInGroup_64 : decode cX6_storedInGroup 64 = .ok (.iconst 0, 1) := by decide +kernel
theorem dX6_storedInGroup_65 : decode cX6_storedInGroup 65 = .ok (.iadd, 1) := by decide +kernel
theorem dX6_storedInGroup_66 : decode cX6_storedInGroup 66 = .ok (.istore_n 3, 1) := by decide +kernel
theorem dX6_storedInGroup_67 : decode cX6_storedInGroup 67 = .ok (.iinc 4 1, 3) := by decide +kernel
theorem dX6_storedInGroup_70 : decode cX6_storedInGroup 70 = .ok (.goto (-44), 3) := by decide +kernel
theorem dX6_storedInGroup_73 : decode cX6_storedInGroup 73 = .ok (.iload_n 3, 1) := by decide +kernel
theorem dX6_storedInGroup_74 : decode cX6_storedInGroup 74 = .ok (.ireturn, 1) := by decide +kernel
theorem dX6_distance_0 : decode cX6_distance 0 = .ok (.iload_n 1, 1) := by decide +kernel
theorem dX6_distance_1 : decode cX6_distance 1 = .ok (.invokestatic 38, 3) := by decide +kernel
theorem dX6_distance_4 : decode cX6_distance 4 = .ok (.ifCond .eq 10, 3) := by decide +kernel
theorem dX6_distance_7 : decode cX6_distance 7 = .ok (.iload_n 2, 1) := by decide +kernel
theorem dX6_distance_8 : decode cX6_distance 8 = .ok (.invokestatic 38, 3) := by decide +kernel
theorem dX6_distance_11 : decode cX6_distance 11 = .ok (.ifCond .ne 10, 3) := by decide +kernel
theorem dX6_distance_14 : decode cX6_distance 14 = .ok (.aload_n 0, 1) := by decide +kernel
theorem dX6_distance_15 : decode cX6_distance 15 = .ok (.bipush (-2), 2) := by decide +kernel
theorem dX6_distance_17 : decode cX6_distance 17 = .ok (.invokevirtual 42, 3) := by decide +kernel
theorem dX6_distance_20 : decode cX6_distance 20 = .ok (.ireturn, 1) := by decide +kernel
theorem dX6_distance_21 : decode cX6_distance 21 = .ok (.iconst 1, 1) := by decide +kernel
theorem dX6_distance_22 : decode cX6_distance 22 = .ok (.iload_n 1, 1) := by decide +kernel
theorem dX6_distance_23 : decode cX6_distance 23 = .ok (.ishl, 1) := by decide +kernel
theorem dX6_distance_24 : decode cX6_distance 24 = .ok (.istore_n 3, 1) := by decide +kernel
theorem dX6_distance_25 : decode cX6_distance 25 = .ok (.iconst 0, 1) := by decide +kernel
theorem dX6_distance_26 : decode cX6_distance 26 = .ok (.istore 4, 2) := by decide +kernel
theorem dX6_distance_28 : decode cX6_distance 28 = .ok (.iload 4, 2) := by decide +kernel
theorem dX6_distance_30 : decode cX6_distance 30 = .ok (.bipush 6, 2) := by decide +kernel
theorem dX6_distance_32 : decode cX6_distance 32 = .ok (.if_icmp .ge 87, 3) := by decide +kernel
theorem dX6_distance_35 : decode cX6_distance 35 = .ok (.iload_n 3, 1) := by decide +kernel
theorem dX6_distance_36 : decode cX6_distance 36 = .ok (.iload_n 2, 1) := by decide +kernel
theorem dX6_distance_37 : decode cX6_distance 37 = .ok (.ishr, 1) := by decide +kernel
theorem dX6_distance_38 : decode cX6_distance 38 = .ok (.iconst 1, 1) := by decide +kernel
theorem dX6_distance_39 : decode cX6_distance 39 = .ok (.iand, 1) := by decide +kernel
theorem dX6_distance_40 : decode cX6_distance 40 = .ok (.iconst 1, 1) := by decide +kernel
theorem dX6_distance_41 : decode cX6_distance 41 = .ok (.if_icmp .ne 6, 3) := by decide +kernel
theorem dX6_distance_44 : decode cX6_distance 44 = .ok (.iload 4, 2) := by decide +kernel
theorem dX6_distance_46 : decode cX6_distance 46 = .ok (.ireturn, 1) := by decide +kernel
theorem dX6_distance_47 : decode cX6_distance 47 = .ok (.iload_n 3, 1) := by decide +kernel
theorem dX6_distance_48 : decode cX6_distance 48 = .ok (.istore 5, 2) := by decide +kernel
theorem dX6_distance_50 : decode cX6_distance 50 = .ok (.iconst 0, 1) := by decide +kernel
theorem dX6_distance_51 : decode cX6_distance 51 = .ok (.istore 6, 2) := by decide +kernel
theorem dX6_distance_53 : decode cX6_distance 53 = .ok (.iload 6, 2) := by decide +kernel
theorem dX6_distance_55 : decode cX6_distance 55 = .ok (.aload_n 0, 1) := by decide +kernel
theorem dX6_distance_56 : decode cX6_distance 56 = .ok (.getfield 7, 3) := by decide +kernel
theorem dX6_distance_59 : decode cX6_distance 59 = .ok (.bipush 6, 2) := by decide +kernel
theorem dX6_distance_61 : decode cX6_distance 61 = .ok (.iaload, 1) := by decide +kernel
theorem dX6_distance_62 : decode cX6_distance 62 = .ok (.if_icmp .ge 48, 3) := by decide +kernel
theorem dX6_distance_65 : decode cX6_distance 65 = .ok (.iconst 1, 1) := by decide +kernel
theorem dX6_distance_66 : decode cX6_distance 66 = .ok (.aload_n 0, 1) := by decide +kernel
theorem dX6_distance_67 : decode cX6_distance 67 = .ok (.iload 6, 2) := by decide +kernel
theorem dX6_distance_69 : decode cX6_distance 69 = .ok (.iconst 0, 1) := by decide +kernel
theorem dX6_distance_70 : decode cX6_distance 70 = .ok (.invokevirtual 34, 3) := by decide +kernel
theorem dX6_distance_73 : decode cX6_distance 73 = .ok (.ishl, 1) := by decide +kernel
theorem dX6_distance_74 : decode cX6_distance 74 = .ok (.iconst 1, 1) := by decide +kernel
theorem dX6_distance_75 : decode cX6_distance 75 = .ok (.aload_n 0, 1) := by decide +kernel
theorem dX6_distance_76 : decode cX6_distance 76 = .ok (.iload 6, 2) := by decide +kernel
theorem dX6_distance_78 : decode cX6_distance 78 = .ok (.iconst 1, 1) := by decide +kernel
theorem dX6_distance_79 : decode cX6_distance 79 = .ok (.invokevirtual 34, 3) := by decide +kernel
theorem dX6_distance_82 : decode cX6_distance 82 = .ok (.ishl, 1) := by decide +kernel
theorem dX6_distance_83 : decode cX6_distance 83 = .ok (.ior, 1) := by decide +kernel
theorem dX6_distance_84 : decode cX6_distance 84 = .ok (.istore 7, 2) := by decide +kernel
theorem dX6_distance_86 : decode cX6_distance 86 = .ok (.iload 5, 2) := by decide +kernel
theorem dX6_distance_88 : decode cX6_distance 88 = .ok (.iload_n 3, 1) := by decide +kernel
theorem dX6_distance_89 : decode cX6_distance 89 = .ok (.iload 7, 2) := by decide +kernel
theorem dX6_distance_91 : decode cX6_distance 91 = .ok (.iand, 1) := by decide +kernel
theorem dX6_distance_92 : decode cX6_distance 92 = .ok (.ifCond .eq 8, 3) := by decide +kernel
theorem dX6_distance_95 : decode cX6_distance 95 = .ok (.iload 7, 2) := by decide +kernel
theorem dX6_distance_97 : decode cX6_distance 97 = .ok (.goto 4, 3) := by decide +kernel
theorem dX6_distance_100 : decode cX6_distance 100 = .ok (.iconst 0, 1) := by decide +kernel
theorem dX6_distance_101 : decode cX6_distance 101 = .ok (.ior, 1) := by decide +kernel
theorem dX6_distance_102 : decode cX6_distance 102 = .ok (.istore 5, 2) := by decide +kernel
theorem dX6_distance_104 : decode cX6_distance 104 = .ok (.iinc 6 1, 3) := by decide +kernel
theorem dX6_distance_107 : decode cX6_distance 107 = .ok (.goto (-54), 3) := by decide +kernel
theorem dX6_distance_110 : decode cX6_distance 110 = .ok (.iload 5, 2) := by decide +kernel
theorem dX6_distance_112 : decode cX6_distance 112 = .ok (.istore_n 3, 1) := by decide +kernel
theorem dX6_distance_113 : decode cX6_distance 113 = .ok (.iinc 4 1, 3) := by decide +kernel
theorem dX6_distance_116 : decode cX6_distance 116 = .ok (.goto (-88), 3) := by decide +kernel
theorem dX6_distance_119 : decode cX6_distance 119 = .ok (.iconst (-1), 1) := by decide +kernel
theorem dX6_distance_120 : decode cX6_distance 120 = .ok (.ireturn, 1) := by decide +kernel
theorem dX6_waiting_0 : decode cX6_waiting 0 = .ok (.aload_n 0, 1) := by decide +kernel
theorem dX6_waiting_1 : decode cX6_waiting 1 = .ok (.getfield 7, 3) := by decide +kernel
theorem dX6_waiting_4 : decode cX6_waiting 4 = .ok (.sipush 572, 3) := by decide +kernel
theorem dX6_waiting_7 : decode cX6_waiting 7 = .ok (.iaload, 1) := by decide +kernel
theorem dX6_waiting_8 : decode cX6_waiting 8 = .ok (.ireturn, 1) := by decide +kernel
theorem dX6_total_0 : decode cX6_total 0 = .ok (.iload_n 1, 1) := by decide +kernel
theorem dX6_total_1 : decode cX6_total 1 = .ok (.i2l, 1) := by decide +kernel
theorem dX6_total_2 : decode cX6_total 2 = .ok (.lconst 0, 1) := by decide +kernel
theorem dX6_total_3 : decode cX6_total 3 = .ok (.ldc2_w 26, 3) := by decide +kernel
theorem dX6_total_6 : decode cX6_total 6 = .ok (.invokestatic 28, 3) := by decide +kernel
theorem dX6_total_9 : decode cX6_total 9 = .ok (.ifCond .eq 16, 3) := by decide +kernel
theorem dX6_total_12 : decode cX6_total 12 = .ok (.aload_n 0, 1) := by decide +kernel
theorem dX6_total_13 : decode cX6_total 13 = .ok (.getfield 7, 3) := by decide +kernel
theorem dX6_total_16 : decode cX6_total 16 = .ok (.sipush 566, 3) := by decide +kernel
theorem dX6_total_19 : decode cX6_total 19 = .ok (.iload_n 1, 1) := by decide +kernel
theorem dX6_total_20 : decode cX6_total 20 = .ok (.iadd, 1) := by decide +kernel
theorem dX6_total_21 : decode cX6_total 21 = .ok (.iaload, 1) := by decide +kernel
theorem dX6_total_22 : decode cX6_total 22 = .ok (.goto 9, 3) := by decide +kernel
theorem dX6_total_25 : decode cX6_total 25 = .ok (.aload_n 0, 1) := by decide +kernel
theorem dX6_total_26 : decode cX6_total 26 = .ok (.bipush (-2), 2) := by decide +kernel
theorem dX6_total_28 : decode cX6_total 28 = .ok (.invokevirtual 42, 3) := by decide +kernel
theorem dX6_total_31 : decode cX6_total 31 = .ok (.ireturn, 1) := by decide +kernel
theorem dX6_day_0 : decode cX6_day 0 = .ok (.aload_n 0, 1) := by decide +kernel
theorem dX6_day_1 : decode cX6_day 1 = .ok (.getfield 7, 3) := by decide +kernel
theorem dX6_day_4 : decode cX6_day 4 = .ok (.iconst 0, 1) := by decide +kernel
theorem dX6_day_5 : decode cX6_day 5 = .ok (.iaload, 1) := by decide +kernel
theorem dX6_day_6 : decode cX6_day 6 = .ok (.ireturn, 1) := by decide +kernel
theorem dX6_undo_0 : decode cX6_undo 0 = .ok (.aload_n 0, 1) := by decide +kernel
theorem dX6_undo_1 : decode cX6_undo 1 = .ok (.getfield 22, 3) := by decide +kernel
theorem dX6_undo_4 : decode cX6_undo 4 = .ok (.ifCond .ne 10, 3) := by decide +kernel
theorem dX6_undo_7 : decode cX6_undo 7 = .ok (.aload_n 0, 1) := by decide +kernel
theorem dX6_undo_8 : decode cX6_undo 8 = .ok (.bipush (-5), 2) := by decide +kernel
theorem dX6_undo_10 : decode cX6_undo 10 = .ok (.invokevirtual 42, 3) := by decide +kernel
theorem dX6_undo_13 : decode cX6_undo 13 = .ok (.ireturn, 1) := by decide +kernel
theorem dX6_undo_14 : decode cX6_undo 14 = .ok (.aload_n 0, 1) := by decide +kernel
theorem dX6_undo_15 : decode cX6_undo 15 = .ok (.dup, 1) := by decide +kernel
theorem dX6_undo_16 : decode cX6_undo 16 = .ok (.getfield 22, 3) := by decide +kernel
theorem dX6_undo_19 : decode cX6_undo 19 = .ok (.iconst 1, 1) := by decide +kernel
theorem dX6_undo_20 : decode cX6_undo 20 = .ok (.isub, 1) := by decide +kernel
theorem dX6_undo_21 : decode cX6_undo 21 = .ok (.putfield 22, 3) := by decide +kernel
theorem dX6_undo_24 : decode cX6_undo 24 = .ok (.iconst 0, 1) := by decide +kernel
theorem dX6_undo_25 : decode cX6_undo 25 = .ok (.istore_n 1, 1) := by decide +kernel
theorem dX6_undo_26 : decode cX6_undo 26 = .ok (.iload_n 1, 1) := by decide +kernel
theorem dX6_undo_27 : decode cX6_undo 27 = .ok (.sipush 1597, 3) := by decide +kernel
theorem dX6_undo_30 : decode cX6_undo 30 = .ok (.if_icmp .ge 30, 3) := by decide +kernel
theorem dX6_undo_33 : decode cX6_undo 33 = .ok (.aload_n 0, 1) := by decide +kernel
theorem dX6_undo_34 : decode cX6_undo 34 = .ok (.getfield 7, 3) := by decide +kernel
theorem dX6_undo_37 : decode cX6_undo 37 = .ok (.iload_n 1, 1) := by decide +kernel
theorem dX6_undo_38 : decode cX6_undo 38 = .ok (.aload_n 0, 1) := by decide +kernel
theorem dX6_undo_39 : decode cX6_undo 39 = .ok (.getfield 13, 3) := by decide +kernel
theorem dX6_undo_42 : decode cX6_undo 42 = .ok (.sipush 1597, 3) := by decide +kernel
theorem dX6_undo_45 : decode cX6_undo 45 = .ok (.aload_n 0, 1) := by decide +kernel
theorem dX6_undo_46 : decode cX6_undo 46 = .ok (.getfield 22, 3) := by decide +kernel
theorem dX6_undo_49 : decode cX6_undo 49 = .ok (.imul, 1) := by decide +kernel
theorem dX6_undo_50 : decode cX6_undo 50 = .ok (.iload_n 1, 1) := by decide +kernel
theorem dX6_undo_51 : decode cX6_undo 51 = .ok (.iadd, 1) := by decide +kernel
theorem dX6_undo_52 : decode cX6_undo 52 = .ok (.iaload, 1) := by decide +kernel
theorem dX6_undo_53 : decode cX6_undo 53 = .ok (.iastore, 1) := by decide +kernel
theorem dX6_undo_54 : decode cX6_undo 54 = .ok (.iinc 1 1, 3) := by decide +kernel
theorem dX6_undo_57 : decode cX6_undo 57 = .ok (.goto (-31), 3) := by decide +kernel
theorem dX6_undo_60 : decode cX6_undo 60 = .ok (.aload_n 0, 1) := by decide +kernel
theorem dX6_undo_61 : decode cX6_undo 61 = .ok (.getfield 22, 3) := by decide +kernel
theorem dX6_undo_64 : decode cX6_undo 64 = .ok (.ireturn, 1) := by decide +kernel
theorem dX6_errorCount_0 : decode cX6_errorCount 0 = .ok (.iload_n 1, 1) := by decide +kernel
theorem dX6_errorCount_1 : decode cX6_errorCount 1 = .ok (.i2l, 1) := by decide +kernel
theorem dX6_errorCount_2 : decode cX6_errorCount 2 = .ok (.ldc2_w 101, 3) := by decide +kernel
theorem dX6_errorCount_5 : decode cX6_errorCount 5 = .ok (.ldc2_w 103, 3) := by decide +kernel
theorem dX6_errorCount_8 : decode cX6_errorCount 8 = .ok (.invokestatic 28, 3) := by decide +kernel
theorem dX6_errorCount_11 : decode cX6_errorCount 11 = .ok (.ifCond .eq 15, 3) := by decide +kernel
theorem dX6_errorCount_14 : decode cX6_errorCount 14 = .ok (.aload_n 0, 1) := by decide +kernel
theorem dX6_errorCount_15 : decode cX6_errorCount 15 = .ok (.getfield 16, 3) := by decide +kernel
theorem dX6_errorCount_18 : decode cX6_errorCount 18 = .ok (.bipush (-2), 2) := by decide +kernel
theorem dX6_errorCount_20 : decode cX6_errorCount 20 = .ok (.iload_n 1, 1) := by decide +kernel
theorem dX6_errorCount_21 : decode cX6_errorCount 21 = .ok (.isub, 1) := by decide +kernel
theorem dX6_errorCount_22 : decode cX6_errorCount 22 = .ok (.iaload, 1) := by decide +kernel
theorem dX6_errorCount_23 : decode cX6_errorCount 23 = .ok (.goto 9, 3) := by decide +kernel
theorem dX6_errorCount_26 : decode cX6_errorCount 26 = .ok (.aload_n 0, 1) := by decide +kernel
theorem dX6_errorCount_27 : decode cX6_errorCount 27 = .ok (.bipush (-2), 2) := by decide +kernel
theorem dX6_errorCount_29 : decode cX6_errorCount 29 = .ok (.invokevirtual 42, 3) := by decide +kernel
theorem dX6_errorCount_32 : decode cX6_errorCount 32 = .ok (.ireturn, 1) := by decide +kernel
theorem dX6_digest_0 : decode cX6_digest 0 = .ok (.ldc2_w 105, 3) := by decide +kernel
theorem dX6_digest_3 : decode cX6_digest 3 = .ok (.lstore_n 1, 1) := by decide +kernel
theorem dX6_digest_4 : decode cX6_digest 4 = .ok (.iconst 0, 1) := by decide +kernel
theorem dX6_digest_5 : decode cX6_digest 5 = .ok (.istore_n 3, 1) := by decide +kernel
theorem dX6_digest_6 : decode cX6_digest 6 = .ok (.iload_n 3, 1) := by decide +kernel
theorem dX6_digest_7 : decode cX6_digest 7 = .ok (.iconst 4, 1) := by decide +kernel
theorem dX6_digest_8 : decode cX6_digest 8 = .ok (.if_icmp .ge 23, 3) := by decide +kernel
theorem dX6_digest_11 : decode cX6_digest 11 = .ok (.ldc2_w 107, 3) := by decide +kernel
theorem dX6_digest_14 : decode cX6_digest 14 = .ok (.lload_n 1, 1) := by decide +kernel
theorem dX6_digest_15 : decode cX6_digest 15 = .ok (.lmul, 1) := by decide +kernel
theorem dX6_digest_16 : decode cX6_digest 16 = .ok (.aload_n 0, 1) := by decide +kernel
theorem dX6_digest_17 : decode cX6_digest 17 = .ok (.getfield 16, 3) := by decide +kernel
theorem dX6_digest_20 : decode cX6_digest 20 = .ok (.iload_n 3, 1) := by decide +kernel
theorem dX6_digest_21 : decode cX6_digest 21 = .ok (.iaload, 1) := by decide +kernel
theorem dX6_digest_22 : decode cX6_digest 22 = .ok (.i2l, 1) := by decide +kernel
theorem dX6_digest_23 : decode cX6_digest 23 = .ok (.ladd, 1) := by decide +kernel
theorem dX6_digest_24 : decode cX6_digest 24 = .ok (.lstore_n 1, 1) := by decide +kernel
theorem dX6_digest_25 : decode cX6_digest 25 = .ok (.iinc 3 1, 3) := by decide +kernel
theorem dX6_digest_28 : decode cX6_digest 28 = .ok (.goto (-22), 3) := by decide +kernel
theorem dX6_digest_31 : decode cX6_digest 31 = .ok (.iconst 0, 1) := by decide +kernel
theorem dX6_digest_32 : decode cX6_digest 32 = .ok (.istore_n 3, 1) := by decide +kernel
theorem dX6_digest_33 : decode cX6_digest 33 = .ok (.iload_n 3, 1) := by decide +kernel
theorem dX6_digest_34 : decode cX6_digest 34 = .ok (.bipush 6, 2) := by decide +kernel
theorem dX6_digest_36 : decode cX6_digest 36 = .ok (.if_icmp .ge 23, 3) := by decide +kernel
theorem dX6_digest_39 : decode cX6_digest 39 = .ok (.ldc2_w 107, 3) := by decide +kernel
theorem dX6_digest_42 : decode cX6_digest 42 = .ok (.lload_n 1, 1) := by decide +kernel
theorem dX6_digest_43 : decode cX6_digest 43 = .ok (.lmul, 1) := by decide +kernel
theorem dX6_digest_44 : decode cX6_digest 44 = .ok (.aload_n 0, 1) := by decide +kernel
theorem dX6_digest_45 : decode cX6_digest 45 = .ok (.getfield 7, 3) := by decide +kernel
theorem dX6_digest_48 : decode cX6_digest 48 = .ok (.iload_n 3, 1) := by decide +kernel
theorem dX6_digest_49 : decode cX6_digest 49 = .ok (.iaload, 1) := by decide +kernel
theorem dX6_digest_50 : decode cX6_digest 50 = .ok (.i2l, 1) := by decide +kernel
theorem dX6_digest_51 : decode cX6_digest 51 = .ok (.ladd, 1) := by decide +kernel
theorem dX6_digest_52 : decode cX6_digest 52 = .ok (.lstore_n 1, 1) := by decide +kernel
theorem dX6_digest_53 : decode cX6_digest 53 = .ok (.iinc 3 1, 3) := by decide +kernel
theorem dX6_digest_56 : decode cX6_digest 56 = .ok (.goto (-23), 3) := by decide +kernel
theorem dX6_digest_59 : decode cX6_digest 59 = .ok (.iconst 0, 1) := by decide +kernel
theorem dX6_digest_60 : decode cX6_digest 60 = .ok (.istore_n 3, 1) := by decide +kernel
theorem dX6_digest_61 : decode cX6_digest 61 = .ok (.iload_n 3, 1) := by decide +kernel
theorem dX6_digest_62 : decode cX6_digest 62 = .ok (.iconst 3, 1) := by decide +kernel
theorem dX6_digest_63 : decode cX6_digest 63 = .ok (.aload_n 0, 1) := by decide +kernel
theorem dX6_digest_64 : decode cX6_digest 64 = .ok (.getfield 7, 3) := by decide +kernel
theorem dX6_digest_67 : decode cX6_digest 67 = .ok (.bipush 6, 2) := by decide +kernel
theorem dX6_digest_69 : decode cX6_digest 69 = .ok (.iaload, 1) := by decide +kernel
theorem dX6_digest_70 : decode cX6_digest 70 = .ok (.imul, 1) := by decide +kernel
theorem dX6_digest_71 : decode cX6_digest 71 = .ok (.if_icmp .ge 26, 3) := by decide +kernel
theorem dX6_digest_74 : decode cX6_digest 74 = .ok (.ldc2_w 107, 3) := by decide +kernel
theorem dX6_digest_77 : decode cX6_digest 77 = .ok (.lload_n 1, 1) := by decide +kernel
theorem dX6_digest_78 : decode cX6_digest 78 = .ok (.lmul, 1) := by decide +kernel
theorem dX6_digest_79 : decode cX6_digest 79 = .ok (.aload_n 0, 1) := by decide +kernel
theorem dX6_digest_80 : decode cX6_digest 80 = .ok (.getfield 7, 3) := by decide +kernel
theorem dX6_digest_83 : decode cX6_digest 83 = .ok (.bipush 7, 2) := by decide +kernel
theorem dX6_digest_85 : decode cX6_digest 85 = .ok (.iload_n 3, 1) := by decide +kernel
theorem dX6_digest_86 : decode cX6_digest 86 = .ok (.iadd, 1) := by decide +kernel
theorem dX6_digest_87 : decode cX6_digest 87 = .ok (.iaload, 1) := by decide +kernel
theorem dX6_digest_88 : decode cX6_digest 88 = .ok (.i2l, 1) := by decide +kernel
theorem dX6_digest_89 : decode cX6_digest 89 = .ok (.ladd, 1) := by decide +kernel
theorem dX6_digest_90 : decode cX6_digest 90 = .ok (.lstore_n 1, 1) := by decide +kernel
theorem dX6_digest_91 : decode cX6_digest 91 = .ok (.iinc 3 1, 3) := by decide +kernel
theorem dX6_digest_94 : decode cX6_digest 94 = .ok (.goto (-33), 3) := by decide +kernel
theorem dX6_digest_97 : decode cX6_digest 97 = .ok (.ldc2_w 107, 3) := by decide +kernel
theorem dX6_digest_100 : decode cX6_digest 100 = .ok (.lload_n 1, 1) := by decide +kernel
theorem dX6_digest_101 : decode cX6_digest 101 = .ok (.lmul, 1) := by decide +kernel
theorem dX6_digest_102 : decode cX6_digest 102 = .ok (.aload_n 0, 1) := by decide +kernel
theorem dX6_digest_103 : decode cX6_digest 103 = .ok (.getfield 7, 3) := by decide +kernel
theorem dX6_digest_106 : decode cX6_digest 106 = .ok (.bipush 49, 2) := by decide +kernel
theorem dX6_digest_108 : decode cX6_digest 108 = .ok (.iaload, 1) := by decide +kernel
theorem dX6_digest_109 : decode cX6_digest 109 = .ok (.i2l, 1) := by decide +kernel
theorem dX6_digest_110 : decode cX6_digest 110 = .ok (.ladd, 1) := by decide +kernel
theorem dX6_digest_111 : decode cX6_digest 111 = .ok (.lstore_n 1, 1) := by decide +kernel
theorem dX6_digest_112 : decode cX6_digest 112 = .ok (.iconst 0, 1) := by decide +kernel
theorem dX6_digest_113 : decode cX6_digest 113 = .ok (.istore_n 3, 1) := by decide +kernel
theorem dX6_digest_114 : decode cX6_digest 114 = .ok (.iload_n 3, 1) := by decide +kernel
theorem dX6_digest_115 : decode cX6_digest 115 = .ok (.iconst 5, 1) := by decide +kernel
theorem dX6_digest_116 : decode cX6_digest 116 = .ok (.aload_n 0, 1) := by decide +kernel
theorem dX6_digest_117 : decode cX6_digest 117 = .ok (.getfield 7, 3) := by decide +kernel
theorem dX6_digest_120 : decode cX6_digest 120 = .ok (.bipush 49, 2) := by decide +kernel
theorem dX6_digest_122 : decode cX6_digest 122 = .ok (.iaload, 1) := by decide +kernel
theorem dX6_digest_123 : decode cX6_digest 123 = .ok (.imul, 1) := by decide +kernel
theorem dX6_digest_124 : decode cX6_digest 124 = .ok (.if_icmp .ge 26, 3) := by decide +kernel
theorem dX6_digest_127 : decode cX6_digest 127 = .ok (.ldc2_w 107, 3) := by decide +kernel
theorem dX6_digest_130 : decode cX6_digest 130 = .ok (.lload_n 1, 1) := by decide +kernel
theorem dX6_digest_131 : decode cX6_digest 131 = .ok (.lmul, 1) := by decide +kernel
theorem dX6_digest_132 : decode cX6_digest 132 = .ok (.aload_n 0, 1) := by decide +kernel
theorem dX6_digest_133 : decode cX6_digest 133 = .ok (.getfield 7, 3) := by decide +kernel
theorem dX6_digest_136 : decode cX6_digest 136 = .ok (.bipush 50, 2) := by decide +kernel
theorem dX6_digest_138 : decode cX6_digest 138 = .ok (.iload_n 3, 1) := by decide +kernel
theorem dX6_digest_139 : decode cX6_digest 139 = .ok (.iadd, 1) := by decide +kernel
theorem dX6_digest_140 : decode cX6_digest 140 = .ok (.iaload, 1) := by decide +kernel
theorem dX6_digest_141 : decode cX6_digest 141 = .ok (.i2l, 1) := by decide +kernel
theorem dX6_digest_142 : decode cX6_digest 142 = .ok (.ladd, 1) := by decide +kernel
theorem dX6_digest_143 : decode cX6_digest 143 = .ok (.lstore_n 1, 1) := by decide +kernel
theorem dX6_digest_144 : decode cX6_digest 144 = .ok (.iinc 3 1, 3) := by decide +kernel
theorem dX6_digest_147 : decode cX6_digest 147 = .ok (.goto (-33), 3) := by decide +kernel
theorem dX6_digest_150 : decode cX6_digest 150 = .ok (.iconst 0, 1) := by decide +kernel
theorem dX6_digest_151 : decode cX6_digest 151 = .ok (.istore_n 3, 1) := by decide +kernel
theorem dX6_digest_152 : decode cX6_digest 152 = .ok (.iload_n 3, 1) := by decide +kernel
theorem dX6_digest_153 : decode cX6_digest 153 = .ok (.bipush 6, 2) := by decide +kernel
theorem dX6_digest_155 : decode cX6_digest 155 = .ok (.if_icmp .ge 94, 3) := by decide +kernel
theorem dX6_digest_158 : decode cX6_digest 158 = .ok (.ldc2_w 107, 3) := by decide +kernel
theorem dX6_digest_161 : decode cX6_digest 161 = .ok (.ldc2_w 107, 3) := by decide +kernel
theorem dX6_digest_164 : decode cX6_digest 164 = .ok (.lload_n 1, 1) := by decide +kernel
theorem dX6_digest_165 : decode cX6_digest 165 = .ok (.lmul, 1) := by decide +kernel
theorem dX6_digest_166 : decode cX6_digest 166 = .ok (.aload_n 0, 1) := by decide +kernel
theorem dX6_digest_167 : decode cX6_digest 167 = .ok (.getfield 7, 3) := by decide +kernel
theorem dX6_digest_170 : decode cX6_digest 170 = .ok (.bipush 43, 2) := by decide +kernel
theorem dX6_digest_172 : decode cX6_digest 172 = .ok (.iload_n 3, 1) := by decide +kernel
theorem dX6_digest_173 : decode cX6_digest 173 = .ok (.iadd, 1) := by decide +kernel
theorem dX6_digest_174 : decode cX6_digest 174 = .ok (.iaload, 1) := by decide +kernel
theorem dX6_digest_175 : decode cX6_digest 175 = .ok (.i2l, 1) := by decide +kernel
theorem dX6_digest_176 : decode cX6_digest 176 = .ok (.ladd, 1) := by decide +kernel
theorem dX6_digest_177 : decode cX6_digest 177 = .ok (.lmul, 1) := by decide +kernel
theorem dX6_digest_178 : decode cX6_digest 178 = .ok (.aload_n 0, 1) := by decide +kernel
theorem dX6_digest_179 : decode cX6_digest 179 = .ok (.iload_n 3, 1) := by decide +kernel
theorem dX6_digest_180 : decode cX6_digest 180 = .ok (.invokevirtual 98, 3) := by decide +kernel
theorem dX6_digest_183 : decode cX6_digest 183 = .ok (.i2l, 1) := by decide +kernel
theorem dX6_digest_184 : decode cX6_digest 184 = .ok (.ladd, 1) := by decide +kernel
theorem dX6_digest_185 : decode cX6_digest 185 = .ok (.lstore_n 1, 1) := by decide +kernel
theorem dX6_digest_186 : decode cX6_digest 186 = .ok (.iconst 0, 1) := by decide +kernel
theorem dX6_digest_187 : decode cX6_digest 187 = .ok (.istore 4, 2) := by decide +kernel
theorem dX6_digest_189 : decode cX6_digest 189 = .ok (.iload 4, 2) := by decide +kernel
theorem dX6_digest_191 : decode cX6_digest 191 = .ok (.aload_n 0, 1) := by decide +kernel
theorem dX6_digest_192 : decode cX6_digest 192 = .ok (.getfield 7, 3) := by decide +kernel
theorem dX6_digest_195 : decode cX6_digest 195 = .ok (.bipush 49, 2) := by decide +kernel
theorem dX6_digest_197 : decode cX6_digest 197 = .ok (.iaload, 1) := by decide +kernel
theorem dX6_digest_198 : decode cX6_digest 198 = .ok (.if_icmp .ge 45, 3) := by decide +kernel
theorem dX6_digest_201 : decode cX6_digest 201 = .ok (.ldc2_w 107, 3) := by decide +kernel
theorem dX6_digest_204 : decode cX6_digest 204 = .ok (.ldc2_w 107, 3) := by decide +kernel
theorem dX6_digest_207 : decode cX6_digest 207 = .ok (.lload_n 1, 1) := by decide +kernel
theorem dX6_digest_208 : decode cX6_digest 208 = .ok (.lmul, 1) := by decide +kernel
theorem dX6_digest_209 : decode cX6_digest 209 = .ok (.aload_n 0, 1) := by decide +kernel
theorem dX6_digest_210 : decode cX6_digest 210 = .ok (.iload_n 3, 1) := by decide +kernel
theorem dX6_digest_211 : decode cX6_digest 211 = .ok (.iload 4, 2) := by decide +kernel
theorem dX6_digest_213 : decode cX6_digest 213 = .ok (.invokevirtual 65, 3) := by decide +kernel
theorem dX6_digest_216 : decode cX6_digest 216 = .ok (.ifCond .eq 7, 3) := by decide +kernel
theorem dX6_digest_219 : decode cX6_digest 219 = .ok (.iconst 1, 1) := by decide +kernel
theorem dX6_digest_220 : decode cX6_digest 220 = .ok (.goto 4, 3) := by decide +kernel
theorem dX6_digest_223 : decode cX6_digest 223 = .ok (.iconst 0, 1) := by decide +kernel
theorem dX6_digest_224 : decode cX6_digest 224 = .ok (.i2l, 1) := by decide +kernel
theorem dX6_digest_225 : decode cX6_digest 225 = .ok (.ladd, 1) := by decide +kernel
theorem dX6_digest_226 : decode cX6_digest 226 = .ok (.lmul, 1) := by decide +kernel
theorem dX6_digest_227 : decode cX6_digest 227 = .ok (.aload_n 0, 1) := by decide +kernel
theorem dX6_digest_228 : decode cX6_digest 228 = .ok (.iload_n 3, 1) := by decide +kernel
theorem dX6_digest_229 : decode cX6_digest 229 = .ok (.iload 4, 2) := by decide +kernel
theorem dX6_digest_231 : decode cX6_digest 231 = .ok (.invokevirtual 69, 3) := by decide +kernel
theorem dX6_digest_234 : decode cX6_digest 234 = .ok (.i2l, 1) := by decide +kernel
theorem dX6_digest_235 : decode cX6_digest 235 = .ok (.ladd, 1) := by decide +kernel
theorem dX6_digest_236 : decode cX6_digest 236 = .ok (.lstore_n 1, 1) := by decide +kernel
theorem dX6_digest_237 : decode cX6_digest 237 = .ok (.iinc 4 1, 3) := by decide +kernel
theorem dX6_digest_240 : decode cX6_digest 240 = .ok (.goto (-51), 3) := by decide +kernel
theorem dX6_digest_243 : decode cX6_digest 243 = .ok (.iinc 3 1, 3) := by decide +kernel
theorem dX6_digest_246 : decode cX6_digest 246 = .ok (.goto (-94), 3) := by decide +kernel
theorem dX6_digest_249 : decode cX6_digest 249 = .ok (.iconst 0, 1) := by decide +kernel
theorem dX6_digest_250 : decode cX6_digest 250 = .ok (.istore_n 3, 1) := by decide +kernel
theorem dX6_digest_251 : decode cX6_digest 251 = .ok (.iload_n 3, 1) := by decide +kernel
theorem dX6_digest_252 : decode cX6_digest 252 = .ok (.bipush 6, 2) := by decide +kernel
theorem dX6_digest_254 : decode cX6_digest 254 = .ok (.if_icmp .ge 27, 3) := by decide +kernel
theorem dX6_digest_257 : decode cX6_digest 257 = .ok (.ldc2_w 107, 3) := by decide +kernel
theorem dX6_digest_260 : decode cX6_digest 260 = .ok (.lload_n 1, 1) := by decide +kernel
theorem dX6_digest_261 : decode cX6_digest 261 = .ok (.lmul, 1) := by decide +kernel
theorem dX6_digest_262 : decode cX6_digest 262 = .ok (.aload_n 0, 1) := by decide +kernel
theorem dX6_digest_263 : decode cX6_digest 263 = .ok (.getfield 7, 3) := by decide +kernel
theorem dX6_digest_266 : decode cX6_digest 266 = .ok (.sipush 566, 3) := by decide +kernel
theorem dX6_digest_269 : decode cX6_digest 269 = .ok (.iload_n 3, 1) := by decide +kernel
theorem dX6_digest_270 : decode cX6_digest 270 = .ok (.iadd, 1) := by decide +kernel
theorem dX6_digest_271 : decode cX6_digest 271 = .ok (.iaload, 1) := by decide +kernel
theorem dX6_digest_272 : decode cX6_digest 272 = .ok (.i2l, 1) := by decide +kernel
theorem dX6_digest_273 : decode cX6_digest 273 = .ok (.ladd, 1) := by decide +kernel
theorem dX6_digest_274 : decode cX6_digest 274 = .ok (.lstore_n 1, 1) := by decide +kernel
theorem dX6_digest_275 : decode cX6_digest 275 = .ok (.iinc 3 1, 3) := by decide +kernel
theorem dX6_digest_278 : decode cX6_digest 278 = .ok (.goto (-27), 3) := by decide +kernel
theorem dX6_digest_281 : decode cX6_digest 281 = .ok (.ldc2_w 107, 3) := by decide +kernel
theorem dX6_digest_284 : decode cX6_digest 284 = .ok (.ldc2_w 107, 3) := by decide +kernel
theorem dX6_digest_287 : decode cX6_digest 287 = .ok (.lload_n 1, 1) := by decide +kernel
theorem dX6_digest_288 : decode cX6_digest 288 = .ok (.lmul, 1) := by decide +kernel
theorem dX6_digest_289 : decode cX6_digest 289 = .ok (.aload_n 0, 1) := by decide +kernel
theorem dX6_digest_290 : decode cX6_digest 290 = .ok (.getfield 7, 3) := by decide +kernel
theorem dX6_digest_293 : decode cX6_digest 293 = .ok (.sipush 572, 3) := by decide +kernel
theorem dX6_digest_296 : decode cX6_digest 296 = .ok (.iaload, 1) := by decide +kernel
theorem dX6_digest_297 : decode cX6_digest 297 = .ok (.i2l, 1) := by decide +kernel
theorem dX6_digest_298 : decode cX6_digest 298 = .ok (.ladd, 1) := by decide +kernel
theorem dX6_digest_299 : decode cX6_digest 299 = .ok (.lmul, 1) := by decide +kernel
theorem dX6_digest_300 : decode cX6_digest 300 = .ok (.aload_n 0, 1) := by decide +kernel
theorem dX6_digest_301 : decode cX6_digest 301 = .ok (.getfield 22, 3) := by decide +kernel
theorem dX6_digest_304 : decode cX6_digest 304 = .ok (.i2l, 1) := by decide +kernel
theorem dX6_digest_305 : decode cX6_digest 305 = .ok (.ladd, 1) := by decide +kernel
theorem dX6_digest_306 : decode cX6_digest 306 = .ok (.lreturn, 1) := by decide +kernel
theorem dJ6_bitCount_0f7a4_0 : decode cJ6_bitCount_0f7a4 0 = .ok (.iload_n 0, 1) := by decide +kernel
theorem dJ6_bitCount_0f7a4_1 : decode cJ6_bitCount_0f7a4 1 = .ok (.iload_n 0, 1) := by decide +kernel
theorem dJ6_bitCount_0f7a4_2 : decode cJ6_bitCount_0f7a4 2 = .ok (.iconst 1, 1) := by decide +kernel
theorem dJ6_bitCount_0f7a4_3 : decode cJ6_bitCount_0f7a4 3 = .ok (.iushr, 1) := by decide +kernel
theorem dJ6_bitCount_0f7a4_4 : decode cJ6_bitCount_0f7a4 4 = .ok (.ldc_w 265, 3) := by decide +kernel
theorem dJ6_bitCount_0f7a4_7 : decode cJ6_bitCount_0f7a4 7 = .ok (.iand, 1) := by decide +kernel
theorem dJ6_bitCount_0f7a4_8 : decode cJ6_bitCount_0f7a4 8 = .ok (.isub, 1) := by decide +kernel
theorem dJ6_bitCount_0f7a4_9 : decode cJ6_bitCount_0f7a4 9 = .ok (.istore_n 0, 1) := by decide +kernel
theorem dJ6_bitCount_0f7a4_10 : decode cJ6_bitCount_0f7a4 10 = .ok (.iload_n 0, 1) := by decide +kernel
theorem dJ6_bitCount_0f7a4_11 : decode cJ6_bitCount_0f7a4 11 = .ok (.ldc_w 266, 3) := by decide +kernel
theorem dJ6_bitCount_0f7a4_14 : decode cJ6_bitCount_0f7a4 14 = .ok (.iand, 1) := by decide +kernel
theorem dJ6_bitCount_0f7a4_15 : decode cJ6_bitCount_0f7a4 15 = .ok (.iload_n 0, 1) := by decide +kernel
theorem dJ6_bitCount_0f7a4_16 : decode cJ6_bitCount_0f7a4 16 = .ok (.iconst 2, 1) := by decide +kernel
theorem dJ6_bitCount_0f7a4_17 : decode cJ6_bitCount_0f7a4 17 = .ok (.iushr, 1) := by decide +kernel
theorem dJ6_bitCount_0f7a4_18 : decode cJ6_bitCount_0f7a4 18 = .ok (.ldc_w 266, 3) := by decide +kernel
theorem dJ6_bitCount_0f7a4_21 : decode cJ6_bitCount_0f7a4 21 = .ok (.iand, 1) := by decide +kernel
theorem dJ6_bitCount_0f7a4_22 : decode cJ6_bitCount_0f7a4 22 = .ok (.iadd, 1) := by decide +kernel
theorem dJ6_bitCount_0f7a4_23 : decode cJ6_bitCount_0f7a4 23 = .ok (.istore_n 0, 1) := by decide +kernel
theorem dJ6_bitCount_0f7a4_24 : decode cJ6_bitCount_0f7a4 24 = .ok (.iload_n 0, 1) := by decide +kernel
theorem dJ6_bitCount_0f7a4_25 : decode cJ6_bitCount_0f7a4 25 = .ok (.iload_n 0, 1) := by decide +kernel
theorem dJ6_bitCount_0f7a4_26 : decode cJ6_bitCount_0f7a4 26 = .ok (.iconst 4, 1) := by decide +kernel
theorem dJ6_bitCount_0f7a4_27 : decode cJ6_bitCount_0f7a4 27 = .ok (.iushr, 1) := by decide +kernel
theorem dJ6_bitCount_0f7a4_28 : decode cJ6_bitCount_0f7a4 28 = .ok (.iadd, 1) := by decide +kernel
theorem dJ6_bitCount_0f7a4_29 : decode cJ6_bitCount_0f7a4 29 = .ok (.ldc_w 267, 3) := by decide +kernel
theorem dJ6_bitCount_0f7a4_32 : decode cJ6_bitCount_0f7a4 32 = .ok (.iand, 1) := by decide +kernel
theorem dJ6_bitCount_0f7a4_33 : decode cJ6_bitCount_0f7a4 33 = .ok (.istore_n 0, 1) := by decide +kernel
theorem dJ6_bitCount_0f7a4_34 : decode cJ6_bitCount_0f7a4 34 = .ok (.iload_n 0, 1) := by decide +kernel
theorem dJ6_bitCount_0f7a4_35 : decode cJ6_bitCount_0f7a4 35 = .ok (.iload_n 0, 1) := by decide +kernel
theorem dJ6_bitCount_0f7a4_36 : decode cJ6_bitCount_0f7a4 36 = .ok (.bipush 8, 2) := by decide +kernel
theorem dJ6_bitCount_0f7a4_38 : decode cJ6_bitCount_0f7a4 38 = .ok (.iushr, 1) := by decide +kernel
theorem dJ6_bitCount_0f7a4_39 : decode cJ6_bitCount_0f7a4 39 = .ok (.iadd, 1) := by decide +kernel
theorem dJ6_bitCount_0f7a4_40 : decode cJ6_bitCount_0f7a4 40 = .ok (.istore_n 0, 1) := by decide +kernel
theorem dJ6_bitCount_0f7a4_41 : decode cJ6_bitCount_0f7a4 41 = .ok (.iload_n 0, 1) := by decide +kernel
theorem dJ6_bitCount_0f7a4_42 : decode cJ6_bitCount_0f7a4 42 = .ok (.iload_n 0, 1) := by decide +kernel
theorem dJ6_bitCount_0f7a4_43 : decode cJ6_bitCount_0f7a4 43 = .ok (.bipush 16, 2) := by decide +kernel
theorem dJ6_bitCount_0f7a4_45 : decode cJ6_bitCount_0f7a4 45 = .ok (.iushr, 1) := by decide +kernel
theorem dJ6_bitCount_0f7a4_46 : decode cJ6_bitCount_0f7a4 46 = .ok (.iadd, 1) := by decide +kernel
theorem dJ6_bitCount_0f7a4_47 : decode cJ6_bitCount_0f7a4 47 = .ok (.istore_n 0, 1) := by decide +kernel
theorem dJ6_bitCount_0f7a4_48 : decode cJ6_bitCount_0f7a4 48 = .ok (.iload_n 0, 1) := by decide +kernel
theorem dJ6_bitCount_0f7a4_49 : decode cJ6_bitCount_0f7a4 49 = .ok (.bipush 63, 2) := by decide +kernel
theorem dJ6_bitCount_0f7a4_51 : decode cJ6_bitCount_0f7a4 51 = .ok (.iand, 1) := by decide +kernel
theorem dJ6_bitCount_0f7a4_52 : decode cJ6_bitCount_0f7a4 52 = .ok (.ireturn, 1) := by decide +kernel
theorem dJ7_fill_53178_0 : decode cJ7_fill_53178 0 = .ok (.iconst 0, 1) := by decide +kernel
theorem dJ7_fill_53178_1 : decode cJ7_fill_53178 1 = .ok (.istore_n 2, 1) := by decide +kernel
theorem dJ7_fill_53178_2 : decode cJ7_fill_53178 2 = .ok (.aload_n 0, 1) := by decide +kernel
theorem dJ7_fill_53178_3 : decode cJ7_fill_53178 3 = .ok (.arraylength, 1) := by decide +kernel
theorem dJ7_fill_53178_4 : decode cJ7_fill_53178 4 = .ok (.istore_n 3, 1) := by decide +kernel
theorem dJ7_fill_53178_5 : decode cJ7_fill_53178 5 = .ok (.iload_n 2, 1) := by decide +kernel
theorem dJ7_fill_53178_6 : decode cJ7_fill_53178 6 = .ok (.iload_n 3, 1) := by decide +kernel
theorem dJ7_fill_53178_7 : decode cJ7_fill_53178 7 = .ok (.if_icmp .ge 13, 3) := by decide +kernel
theorem dJ7_fill_53178_10 : decode cJ7_fill_53178 10 = .ok (.aload_n 0, 1) := by decide +kernel
theorem dJ7_fill_53178_11 : decode cJ7_fill_53178 11 = .ok (.iload_n 2, 1) := by decide +kernel
theorem dJ7_fill_53178_12 : decode cJ7_fill_53178 12 = .ok (.iload_n 1, 1) := by decide +kernel
theorem dJ7_fill_53178_13 : decode cJ7_fill_53178 13 = .ok (.iastore, 1) := by decide +kernel
theorem dJ7_fill_53178_14 : decode cJ7_fill_53178 14 = .ok (.iinc 2 1, 3) := by decide +kernel
theorem dJ7_fill_53178_17 : decode cJ7_fill_53178 17 = .ok (.goto (-12), 3) := by decide +kernel
theorem dJ7_fill_53178_20 : decode cJ7_fill_53178 20 = .ok (.return_, 1) := by decide +kernel
theorem dL_law_0 : decode cL_law 0 = .ok (.new 7, 3) := by decide +kernel
theorem dL_law_3 : decode cL_law 3 = .ok (.dup, 1) := by decide +kernel
theorem dL_law_4 : decode cL_law 4 = .ok (.invokespecial 9, 3) := by decide +kernel
theorem dL_law_7 : decode cL_law 7 = .ok (.astore_n 1, 1) := by decide +kernel
theorem dL_law_8 : decode cL_law 8 = .ok (.new 10, 3) := by decide +kernel
theorem dL_law_11 : decode cL_law 11 = .ok (.dup, 1) := by decide +kernel
theorem dL_law_12 : decode cL_law 12 = .ok (.invokespecial 12, 3) := by decide +kernel
theorem dL_law_15 : decode cL_law 15 = .ok (.astore_n 2, 1) := by decide +kernel
theorem dL_law_16 : decode cL_law 16 = .ok (.iconst 0, 1) := by decide +kernel
theorem dL_law_17 : decode cL_law 17 = .ok (.istore_n 3, 1) := by decide +kernel
theorem dL_law_18 : decode cL_law 18 = .ok (.iload_n 3, 1) := by decide +kernel
theorem dL_law_19 : decode cL_law 19 = .ok (.aload_n 0, 1) := by decide +kernel
theorem dL_law_20 : decode cL_law 20 = .ok (.arraylength, 1) := by decide +kernel
theorem dL_law_21 : decode cL_law 21 = .ok (.iconst 5, 1) := by decide +kernel
theorem dL_law_22 : decode cL_law 22 = .ok (.isub, 1) := by decide +kernel
theorem dL_law_23 : decode cL_law 23 = .ok (.if_icmp .gt 723, 3) := by decide +kernel
theorem dL_law_26 : decode cL_law 26 = .ok (.aload_n 0, 1) := by decide +kernel
theorem dL_law_27 : decode cL_law 27 = .ok (.iload_n 3, 1) := by decide +kernel
theorem dL_law_28 : decode cL_law 28 = .ok (.iaload, 1) := by decide +kernel
theorem dL_law_29 : decode cL_law 29 = .ok (.bipush 31, 2) := by decide +kernel
theorem dL_law_31 : decode cL_law 31 = .ok (.iand, 1) := by decide +kernel
theorem dL_law_32 : decode cL_law 32 = .ok (.tableswitch 708 0 22 #[108, 151, 174, 207, 240, 273, 296, 339, 392, 405, 418, 431, 464, 497, 520, 543, 576, 609, 622, 645, 658, 671, 694], 108) := by decide +kernel
theorem dL_law_140 : decode cL_law 140 = .ok (.aload_n 1, 1) := by decide +kernel
theorem dL_law_141 : decode cL_law 141 = .ok (.aload_n 0, 1) := by decide +kernel
theorem dL_law_142 : decode cL_law 142 = .ok (.iload_n 3, 1) := by decide +kernel
theorem dL_law_143 : decode cL_law 143 = .ok (.iconst 1, 1) := by decide +kernel
theorem dL_law_144 : decode cL_law 144 = .ok (.iadd, 1) := by decide +kernel
theorem dL_law_145 : decode cL_law 145 = .ok (.iaload, 1) := by decide +kernel
theorem dL_law_146 : decode cL_law 146 = .ok (.aload_n 0, 1) := by decide +kernel
theorem dL_law_147 : decode cL_law 147 = .ok (.iload_n 3, 1) := by decide +kernel
theorem dL_law_148 : decode cL_law 148 = .ok (.iconst 2, 1) := by decide +kernel
theorem dL_law_149 : decode cL_law 149 = .ok (.iadd, 1) := by decide +kernel
theorem dL_law_150 : decode cL_law 150 = .ok (.iaload, 1) := by decide +kernel
theorem dL_law_151 : decode cL_law 151 = .ok (.aload_n 0, 1) := by decide +kernel
theorem dL_law_152 : decode cL_law 152 = .ok (.iload_n 3, 1) := by decide +kernel
theorem dL_law_153 : decode cL_law 153 = .ok (.iconst 3, 1) := by decide +kernel
theorem dL_law_154 : decode cL_law 154 = .ok (.iadd, 1) := by decide +kernel
theorem dL_law_155 : decode cL_law 155 = .ok (.iaload, 1) := by decide +kernel
theorem dL_law_156 : decode cL_law 156 = .ok (.invokevirtual 13, 3) := by decide +kernel
theorem dL_law_159 : decode cL_law 159 = .ok (.aload_n 2, 1) := by decide +kernel
theorem dL_law_160 : decode cL_law 160 = .ok (.aload_n 0, 1) := by decide +kernel
theorem dL_law_161 : decode cL_law 161 = .ok (.iload_n 3, 1) := by decide +kernel
theorem dL_law_162 : decode cL_law 162 = .ok (.iconst 1, 1) := by decide +kernel
theorem dL_law_163 : decode cL_law 163 = .ok (.iadd, 1) := by decide +kernel
theorem dL_law_164 : decode cL_law 164 = .ok (.iaload, 1) := by decide +kernel
theorem dL_law_165 : decode cL_law 165 = .ok (.aload_n 0, 1) := by decide +kernel
theorem dL_law_166 : decode cL_law 166 = .ok (.iload_n 3, 1) := by decide +kernel
theorem dL_law_167 : decode cL_law 167 = .ok (.iconst 2, 1) := by decide +kernel
theorem dL_law_168 : decode cL_law 168 = .ok (.iadd, 1) := by decide +kernel
theorem dL_law_169 : decode cL_law 169 = .ok (.iaload, 1) := by decide +kernel
theorem dL_law_170 : decode cL_law 170 = .ok (.aload_n 0, 1) := by decide +kernel
theorem dL_law_171 : decode cL_law 171 = .ok (.iload_n 3, 1) := by decide +kernel
theorem dL_law_172 : decode cL_law 172 = .ok (.iconst 3, 1) := by decide +kernel
theorem dL_law_173 : decode cL_law 173 = .ok (.iadd, 1) := by decide +kernel
theorem dL_law_174 : decode cL_law 174 = .ok (.iaload, 1) := by decide +kernel
theorem dL_law_175 : decode cL_law 175 = .ok (.invokevirtual 17, 3) := by decide +kernel
theorem dL_law_178 : decode cL_law 178 = .ok (.if_icmp .eq 562, 3) := by decide +kernel
theorem dL_law_181 : decode cL_law 181 = .ok (.iconst 0, 1) := by decide +kernel
theorem dL_law_182 : decode cL_law 182 = .ok (.ireturn, 1) := by decide +kernel
theorem dL_law_183 : decode cL_law 183 = .ok (.aload_n 1, 1) := by decide +kernel
theorem dL_law_184 : decode cL_law 184 = .ok (.aload_n 0, 1) := by decide +kernel
theorem dL_law_185 : decode cL_law 185 = .ok (.iload_n 3, 1) := by decide +kernel
theorem dL_law_186 : decode cL_law 186 = .ok (.iconst 1, 1) := by decide +kernel
theorem dL_law_187 : decode cL_law 187 = .ok (.iadd, 1) := by decide +kernel
theorem dL_law_188 : decode cL_law 188 = .ok (.iaload, 1) := by decide +kernel
theorem dL_law_189 : decode cL_law 189 = .ok (.invokevirtual 18, 3) := by decide +kernel
theorem dL_law_192 : decode cL_law 192 = .ok (.aload_n 2, 1) := by decide +kernel
theorem dL_law_193 : decode cL_law 193 = .ok (.aload_n 0, 1) := by decide +kernel
theorem dL_law_194 : decode cL_law 194 = .ok (.iload_n 3, 1) := by decide +kernel
theorem dL_law_195 : decode cL_law 195 = .ok (.iconst 1, 1) := by decide +kernel
theorem dL_law_196 : decode cL_law 196 = .ok (.iadd, 1) := by decide +kernel
theorem dL_law_197 : decode cL_law 197 = .ok (.iaload, 1) := by decide +kernel
theorem dL_law_198 : decode cL_law 198 = .ok (.invokevirtual 22, 3) := by decide +kernel
theorem dL_law_201 : decode cL_law 201 = .ok (.if_icmp .eq 539, 3) := by decide +kernel
theorem dL_law_204 : decode cL_law 204 = .ok (.iconst 0, 1) := by decide +kernel
theorem dL_law_205 : decode cL_law 205 = .ok (.ireturn, 1) := by decide +kernel
theorem dL_law_206 : decode cL_law 206 = .ok (.aload_n 1, 1) := by decide +kernel
theorem dL_law_207 : decode cL_law 207 = .ok (.aload_n 0, 1) := by decide +kernel
theorem dL_law_208 : decode cL_law 208 = .ok (.iload_n 3, 1) := by decide +kernel
theorem dL_law_209 : decode cL_law 209 = .ok (.iconst 1, 1) := by decide +kernel
theorem dL_law_210 : decode cL_law 210 = .ok (.iadd, 1) := by decide +kernel
theorem dL_law_211 : decode cL_law 211 = .ok (.iaload, 1) := by decide +kernel
theorem dL_law_212 : decode cL_law 212 = .ok (.aload_n 0, 1) := by decide +kernel
theorem dL_law_213 : decode cL_law 213 = .ok (.iload_n 3, 1) := by decide +kernel
theorem dL_law_214 : decode cL_law 214 = .ok (.iconst 2, 1) := by decide +kernel
theorem dL_law_215 : decode cL_law 215 = .ok (.iadd, 1) := by decide +kernel
theorem dL_law_216 : decode cL_law 216 = .ok (.iaload, 1) := by decide +kernel
theorem dL_law_217 : decode cL_law 217 = .ok (.invokevirtual 23, 3) := by decide +kernel
theorem dL_law_220 : decode cL_law 220 = .ok (.aload_n 2, 1) := by decide +kernel
theorem dL_law_221 : decode cL_law 221 = .ok (.aload_n 0, 1) := by decide +kernel
theorem dL_law_222 : decode cL_law 222 = .ok (.iload_n 3, 1) := by decide +kernel
theorem dL_law_223 : decode cL_law 223 = .ok (.iconst 1, 1) := by decide +kernel
theorem dL_law_224 : decode cL_law 224 = .ok (.iadd, 1) := by decide +kernel
theorem dL_law_225 : decode cL_law 225 = .ok (.iaload, 1) := by decide +kernel
theorem dL_law_226 : decode cL_law 226 = .ok (.aload_n 0, 1) := by decide +kernel
theorem dL_law_227 : decode cL_law 227 = .ok (.iload_n 3, 1) := by decide +kernel
theorem dL_law_228 : decode cL_law 228 = .ok (.iconst 2, 1) := by decide +kernel
theorem dL_law_229 : decode cL_law 229 = .ok (.iadd, 1) := by decide +kernel
theorem dL_law_230 : decode cL_law 230 = .ok (.iaload, 1) := by decide +kernel
theorem dL_law_231 : decode cL_law 231 = .ok (.invokevirtual 27, 3) := by decide +kernel
theorem dL_law_234 : decode cL_law 234 = .ok (.if_icmp .eq 506, 3) := by decide +kernel
theorem dL_law_237 : decode cL_law 237 = .ok (.iconst 0, 1) := by decide +kernel
theorem dL_law_238 : decode cL_law 238 = .ok (.ireturn, 1) := by decide +kernel
theorem dL_law_239 : decode cL_law 239 = .ok (.aload_n 1, 1) := by decide +kernel
theorem dL_law_240 : decode cL_law 240 = .ok (.aload_n 0, 1) := by decide +kernel
theorem dL_law_241 : decode cL_law 241 = .ok (.iload_n 3, 1) := by decide +kernel
theorem dL_law_242 : decode cL_law 242 = .ok (.iconst 1, 1) := by decide +kernel
theorem dL_law_243 : decode cL_law 243 = .ok (.iadd, 1) := by decide +kernel
theorem dL_law_244 : decode cL_law 244 = .ok (.iaload, 1) := by decide +kernel
theorem dL_law_245 : decode cL_law 245 = .ok (.aload_n 0, 1) := by decide +kernel
theorem dL_law_246 : decode cL_law 246 = .ok (.iload_n 3, 1) := by decide +kernel
theorem dL_law_247 : decode cL_law 247 = .ok (.iconst 2, 1) := by decide +kernel
theorem dL_law_248 : decode cL_law 248 = .ok (.iadd, 1) := by decide +kernel
theorem dL_law_249 : decode cL_law 249 = .ok (.iaload, 1) := by decide +kernel
theorem dL_law_250 : decode cL_law 250 = .ok (.invokevirtual 28, 3) := by decide +kernel
theorem dL_law_253 : decode cL_law 253 = .ok (.aload_n 2, 1) := by decide +kernel
theorem dL_law_254 : decode cL_law 254 = .ok (.aload_n 0, 1) := by decide +kernel
theorem dL_law_255 : decode cL_law 255 = .ok (.iload_n 3, 1) := by decide +kernel
theorem dL_law_256 : decode cL_law 256 = .ok (.iconst 1, 1) := by decide +kernel
theorem dL_law_257 : decode cL_law 257 = .ok (.iadd, 1) := by decide +kernel
theorem dL_law_258 : decode cL_law 258 = .ok (.iaload, 1) := by decide +kernel
theorem dL_law_259 : decode cL_law 259 = .ok (.aload_n 0, 1) := by decide +kernel
theorem dL_law_260 : decode cL_law 260 = .ok (.iload_n 3, 1) := by decide +kernel
theorem dL_law_261 : decode cL_law 261 = .ok (.iconst 2, 1) := by decide +kernel
theorem dL_law_262 : decode cL_law 262 = .ok (.iadd, 1) := by decide +kernel
theorem dL_law_263 : decode cL_law 263 = .ok (.iaload, 1) := by decide +kernel
theorem dL_law_264 : decode cL_law 264 = .ok (.invokevirtual 31, 3) := by decide +kernel
theorem dL_law_267 : decode cL_law 267 = .ok (.if_icmp .eq 473, 3) := by decide +kernel
theorem dL_law_270 : decode cL_law 270 = .ok (.iconst 0, 1) := by decide +kernel
theorem dL_law_271 : decode cL_law 271 = .ok (.ireturn, 1) := by decide +kernel
theorem dL_law_272 : decode cL_law 272 = .ok (.aload_n 1, 1) := by decide +kernel
theorem dL_law_273 : decode cL_law 273 = .ok (.aload_n 0, 1) := by decide +kernel
theorem dL_law_274 : decode cL_law 274 = .ok (.iload_n 3, 1) := by decide +kernel
theorem dL_law_275 : decode cL_law 275 = .ok (.iconst 1, 1) := by decide +kernel
theorem dL_law_276 : decode cL_law 276 = .ok (.iadd, 1) := by decide +kernel
theorem dL_law_277 : decode cL_law 277 = .ok (.iaload, 1) := by decide +kernel
theorem dL_law_278 : decode cL_law 278 = .ok (.aload_n 0, 1) := by decide +kernel
theorem dL_law_279 : decode cL_law 279 = .ok (.iload_n 3, 1) := by decide +kernel
theorem dL_law_280 : decode cL_law 280 = .ok (.iconst 2, 1) := by decide +kernel
theorem dL_law_281 : decode cL_law 281 = .ok (.iadd, 1) := by decide +kernel
theorem dL_law_282 : decode cL_law 282 = .ok (.iaload, 1) := by decide +kernel
theorem dL_law_283 : decode cL_law 283 = .ok (.invokevirtual 32, 3) := by decide +kernel
theorem dL_law_286 : decode cL_law 286 = .ok (.aload_n 2, 1) := by decide +kernel
theorem dL_law_287 : decode cL_law 287 = .ok (.aload_n 0, 1) := by decide +kernel
theorem dL_law_288 : decode cL_law 288 = .ok (.iload_n 3, 1) := by decide +kernel
theorem dL_law_289 : decode cL_law 289 = .ok (.iconst 1, 1) := by decide +kernel
theorem dL_law_290 : decode cL_law 290 = .ok (.iadd, 1) := by decide +kernel
theorem dL_law_291 : decode cL_law 291 = .ok (.iaload, 1) := by decide +kernel
theorem dL_law_292 : decode cL_law 292 = .ok (.aload_n 0, 1) := by decide +kernel
theorem dL_law_293 : decode cL_law 293 = .ok (.iload_n 3, 1) := by decide +kernel
theorem dL_law_294 : decode cL_law 294 = .ok (.iconst 2, 1) := by decide +kernel
theorem dL_law_295 : decode cL_law 295 = .ok (.iadd, 1) := by decide +kernel
theorem dL_law_296 : decode cL_law 296 = .ok (.iaload, 1) := by decide +kernel
theorem dL_law_297 : decode cL_law 297 = .ok (.invokevirtual 35, 3) := by decide +kernel
theorem dL_law_300 : decode cL_law 300 = .ok (.if_icmp .eq 440, 3) := by decide +kernel
theorem dL_law_303 : decode cL_law 303 = .ok (.iconst 0, 1) := by decide +kernel
theorem dL_law_304 : decode cL_law 304 = .ok (.ireturn, 1) := by decide +kernel
theorem dL_law_305 : decode cL_law 305 = .ok (.aload_n 1, 1) := by decide +kernel
theorem dL_law_306 : decode cL_law 306 = .ok (.aload_n 0, 1) := by decide +kernel
theorem dL_law_307 : decode cL_law 307 = .ok (.iload_n 3, 1) := by decide +kernel
theorem dL_law_308 : decode cL_law 308 = .ok (.iconst 1, 1) := by decide +kernel
theorem dL_law_309 : decode cL_law 309 = .ok (.iadd, 1) := by decide +kernel
theorem dL_law_310 : decode cL_law 310 = .ok (.iaload, 1) := by decide +kernel
theorem dL_law_311 : decode cL_law 311 = .ok (.invokevirtual 36, 3) := by decide +kernel
theorem dL_law_314 : decode cL_law 314 = .ok (.aload_n 2, 1) := by decide +kernel
theorem dL_law_315 : decode cL_law 315 = .ok (.aload_n 0, 1) := by decide +kernel
theorem dL_law_316 : decode cL_law 316 = .ok (.iload_n 3, 1) := by decide +kernel
theorem dL_law_317 : decode cL_law 317 = .ok (.iconst 1, 1) := by decide +kernel
theorem dL_law_318 : decode cL_law 318 = .ok (.iadd, 1) := by decide +kernel
theorem dL_law_319 : decode cL_law 319 = .ok (.iaload, 1) := by decide +kernel
theorem dL_law_320 : decode cL_law 320 = .ok (.invokevirtual 39, 3) := by decide +kernel
theorem dL_law_323 : decode cL_law 323 = .ok (.if_icmp .eq 417, 3) := by decide +kernel
theorem dL_law_326 : decode cL_law 326 = .ok (.iconst 0, 1) := by decide +kernel
theorem dL_law_327 : decode cL_law 327 = .ok (.ireturn, 1) := by decide +kernel
theorem dL_law_328 : decode cL_law 328 = .ok (.aload_n 1, 1) := by decide +kernel
theorem dL_law_329 : decode cL_law 329 = .ok (.aload_n 0, 1) := by decide +kernel
theorem dL_law_330 : decode cL_law 330 = .ok (.iload_n 3, 1) := by decide +kernel
theorem dL_law_331 : decode cL_law 331 = .ok (.iconst 1, 1) := by decide +kernel
theorem dL_law_332 : decode cL_law 332 = .ok (.iadd, 1) := by decide +kernel
theorem dL_law_333 : decode cL_law 333 = .ok (.iaload, 1) := by decide +kernel
theorem dL_law_334 : decode cL_law 334 = .ok (.aload_n 0, 1) := by decide +kernel
theorem dL_law_335 : decode cL_law 335 = .ok (.iload_n 3, 1) := by decide +kernel
theorem dL_law_336 : decode cL_law 336 = .ok (.iconst 2, 1) := by decide +kernel
theorem dL_law_337 : decode cL_law 337 = .ok (.iadd, 1) := by decide +kernel
theorem dL_law_338 : decode cL_law 338 = .ok (.iaload, 1) := by decide +kernel
theorem dL_law_339 : decode cL_law 339 = .ok (.aload_n 0, 1) := by decide +kernel
theorem dL_law_340 : decode cL_law 340 = .ok (.iload_n 3, 1) := by decide +kernel
theorem dL_law_341 : decode cL_law 341 = .ok (.iconst 3, 1) := by decide +kernel
theorem dL_law_342 : decode cL_law 342 = .ok (.iadd, 1) := by decide +kernel
theorem dL_law_343 : decode cL_law 343 = .ok (.iaload, 1) := by decide +kernel
theorem dL_law_344 : decode cL_law 344 = .ok (.invokevirtual 40, 3) := by decide +kernel
theorem dL_law_347 : decode cL_law 347 = .ok (.aload_n 2, 1) := by decide +kernel
theorem dL_law_348 : decode cL_law 348 = .ok (.aload_n 0, 1) := by decide +kernel
theorem dL_law_349 : decode cL_law 349 = .ok (.iload_n 3, 1) := by decide +kernel
theorem dL_law_350 : decode cL_law 350 = .ok (.iconst 1, 1) := by decide +kernel
theorem dL_law_351 : decode cL_law 351 = .ok (.iadd, 1) := by decide +kernel
theorem dL_law_352 : decode cL_law 352 = .ok (.iaload, 1) := by decide +kernel
theorem dL_law_353 : decode cL_law 353 = .ok (.aload_n 0, 1) := by decide +kernel
theorem dL_law_354 : decode cL_law 354 = .ok (.iload_n 3, 1) := by decide +kernel
theorem dL_law_355 : decode cL_law 355 = .ok (.iconst 2, 1) := by decide +kernel
theorem dL_law_356 : decode cL_law 356 = .ok (.iadd, 1) := by decide +kernel
theorem dL_law_357 : decode cL_law 357 = .ok (.iaload, 1) := by decide +kernel
theorem dL_law_358 : decode cL_law 358 = .ok (.aload_n 0, 1) := by decide +kernel
theorem dL_law_359 : decode cL_law 359 = .ok (.iload_n 3, 1) := by decide +kernel
theorem dL_law_360 : decode cL_law 360 = .ok (.iconst 3, 1) := by decide +kernel
theorem dL_law_361 : decode cL_law 361 = .ok (.iadd, 1) := by decide +kernel
theorem dL_law_362 : decode cL_law 362 = .ok (.iaload, 1) := by decide +kernel
theorem dL_law_363 : decode cL_law 363 = .ok (.invokevirtual 43, 3) := by decide +kernel
theorem dL_law_366 : decode cL_law 366 = .ok (.if_icmp .eq 374, 3) := by decide +kernel
theorem dL_law_369 : decode cL_law 369 = .ok (.iconst 0, 1) := by decide +kernel
theorem dL_law_370 : decode cL_law 370 = .ok (.ireturn, 1) := by decide +kernel
theorem dL_law_371 : decode cL_law 371 = .ok (.aload_n 1, 1) := by decide +kernel
theorem dL_law_372 : decode cL_law 372 = .ok (.aload_n 0, 1) := by decide +kernel
theorem dL_law_373 : decode cL_law 373 = .ok (.iload_n 3, 1) := by decide +kernel
theorem dL_law_374 : decode cL_law 374 = .ok (.iconst 1, 1) := by decide +kernel
theorem dL_law_375 : decode cL_law 375 = .ok (.iadd, 1) := by decide +kernel
theorem dL_law_376 : decode cL_law 376 = .ok (.iaload, 1) := by decide +kernel
theorem dL_law_377 : decode cL_law 377 = .ok (.aload_n 0, 1) := by decide +kernel
theorem dL_law_378 : decode cL_law 378 = .ok (.iload_n 3, 1) := by decide +kernel
theorem dL_law_379 : decode cL_law 379 = .ok (.iconst 2, 1) := by decide +kernel
theorem dL_law_380 : decode cL_law 380 = .ok (.iadd, 1) := by decide +kernel
theorem dL_law_381 : decode cL_law 381 = .ok (.iaload, 1) := by decide +kernel
theorem dL_law_382 : decode cL_law 382 = .ok (.aload_n 0, 1) := by decide +kernel
theorem dL_law_383 : decode cL_law 383 = .ok (.iload_n 3, 1) := by decide +kernel
theorem dL_law_384 : decode cL_law 384 = .ok (.iconst 3, 1) := by decide +kernel
theorem dL_law_385 : decode cL_law 385 = .ok (.iadd, 1) := by decide +kernel
theorem dL_law_386 : decode cL_law 386 = .ok (.iaload, 1) := by decide +kernel
theorem dL_law_387 : decode cL_law 387 = .ok (.aload_n 0, 1) := by decide +kernel
theorem dL_law_388 : decode cL_law 388 = .ok (.iload_n 3, 1) := by decide +kernel
theorem dL_law_389 : decode cL_law 389 = .ok (.iconst 4, 1) := by decide +kernel
theorem dL_law_390 : decode cL_law 390 = .ok (.iadd, 1) := by decide +kernel
theorem dL_law_391 : decode cL_law 391 = .ok (.iaload, 1) := by decide +kernel
theorem dL_law_392 : decode cL_law 392 = .ok (.invokevirtual 44, 3) := by decide +kernel
theorem dL_law_395 : decode cL_law 395 = .ok (.aload_n 2, 1) := by decide +kernel
theorem dL_law_396 : decode cL_law 396 = .ok (.aload_n 0, 1) := by decide +kernel
theorem dL_law_397 : decode cL_law 397 = .ok (.iload_n 3, 1) := by decide +kernel
theorem dL_law_398 : decode cL_law 398 = .ok (.iconst 1, 1) := by decide +kernel
theorem dL_law_399 : decode cL_law 399 = .ok (.iadd, 1) := by decide +kernel
theorem dL_law_400 : decode cL_law 400 = .ok (.iaload, 1) := by decide +kernel
theorem dL_law_401 : decode cL_law 401 = .ok (.aload_n 0, 1) := by decide +kernel
theorem dL_law_402 : decode cL_law 402 = .ok (.iload_n 3, 1) := by decide +kernel
theorem dL_law_403 : decode cL_law 403 = .ok (.iconst 2, 1) := by decide +kernel
theorem dL_law_404 : decode cL_law 404 = .ok (.iadd, 1) := by decide +kernel
theorem dL_law_405 : decode cL_law 405 = .ok (.iaload, 1) := by decide +kernel
theorem dL_law_406 : decode cL_law 406 = .ok (.aload_n 0, 1) := by decide +kernel
theorem dL_law_407 : decode cL_law 407 = .ok (.iload_n 3, 1) := by decide +kernel
theorem dL_law_408 : decode cL_law 408 = .ok (.iconst 3, 1) := by decide +kernel
theorem dL_law_409 : decode cL_law 409 = .ok (.iadd, 1) := by decide +kernel
theorem dL_law_410 : decode cL_law 410 = .ok (.iaload, 1) := by decide +kernel
theorem dL_law_411 : decode cL_law 411 = .ok (.aload_n 0, 1) := by decide +kernel
theorem dL_law_412 : decode cL_law 412 = .ok (.iload_n 3, 1) := by decide +kernel
theorem dL_law_413 : decode cL_law 413 = .ok (.iconst 4, 1) := by decide +kernel
theorem dL_law_414 : decode cL_law 414 = .ok (.iadd, 1) := by decide +kernel
theorem dL_law_415 : decode cL_law 415 = .ok (.iaload, 1) := by decide +kernel
theorem dL_law_416 : decode cL_law 416 = .ok (.invokevirtual 48, 3) := by decide +kernel
theorem dL_law_419 : decode cL_law 419 = .ok (.if_icmp .eq 321, 3) := by decide +kernel
theorem dL_law_422 : decode cL_law 422 = .ok (.iconst 0, 1) := by decide +kernel
theorem dL_law_423 : decode cL_law 423 = .ok (.ireturn, 1) := by decide +kernel
theorem dL_law_424 : decode cL_law 424 = .ok (.aload_n 1, 1) := by decide +kernel
theorem dL_law_425 : decode cL_law 425 = .ok (.invokevirtual 49, 3) := by decide +kernel
theorem dL_law_428 : decode cL_law 428 = .ok (.aload_n 2, 1) := by decide +kernel
theorem dL_law_429 : decode cL_law 429 = .ok (.invokevirtual 53, 3) := by decide +kernel
theorem dL_law_432 : decode cL_law 432 = .ok (.if_icmp .eq 308, 3) := by decide +kernel
theorem dL_law_435 : decode cL_law 435 = .ok (.iconst 0, 1) := by decide +kernel
theorem dL_law_436 : decode cL_law 436 = .ok (.ireturn, 1) := by decide +kernel
theorem dL_law_437 : decode cL_law 437 = .ok (.aload_n 1, 1) := by decide +kernel
theorem dL_law_438 : decode cL_law 438 = .ok (.invokevirtual 54, 3) := by decide +kernel
theorem dL_law_441 : decode cL_law 441 = .ok (.aload_n 2, 1) := by decide +kernel
theorem dL_law_442 : decode cL_law 442 = .ok (.invokevirtual 57, 3) := by decide +kernel
theorem dL_law_445 : decode cL_law 445 = .ok (.if_icmp .eq 295, 3) := by decide +kernel
theorem dL_law_448 : decode cL_law 448 = .ok (.iconst 0, 1) := by decide +kernel
theorem dL_law_449 : decode cL_law 449 = .ok (.ireturn, 1) := by decide +kernel
theorem dL_law_450 : decode cL_law 450 = .ok (.aload_n 1, 1) := by decide +kernel
theorem dL_law_451 : decode cL_law 451 = .ok (.invokevirtual 58, 3) := by decide +kernel
theorem dL_law_454 : decode cL_law 454 = .ok (.aload_n 2, 1) := by decide +kernel
theorem dL_law_455 : decode cL_law 455 = .ok (.invokevirtual 61, 3) := by decide +kernel
theorem dL_law_458 : decode cL_law 458 = .ok (.if_icmp .eq 282, 3) := by decide +kernel
theorem dL_law_461 : decode cL_law 461 = .ok (.iconst 0, 1) := by decide +kernel
theorem dL_law_462 : decode cL_law 462 = .ok (.ireturn, 1) := by decide +kernel
theorem dL_law_463 : decode cL_law 463 = .ok (.aload_n 1, 1) := by decide +kernel
theorem dL_law_464 : decode cL_law 464 = .ok (.aload_n 0, 1) := by decide +kernel
theorem dL_law_465 : decode cL_law 465 = .ok (.iload_n 3, 1) := by decide +kernel
theorem dL_law_466 : decode cL_law 466 = .ok (.iconst 1, 1) := by decide +kernel
theorem dL_law_467 : decode cL_law 467 = .ok (.iadd, 1) := by decide +kernel
theorem dL_law_468 : decode cL_law 468 = .ok (.iaload, 1) := by decide +kernel
theorem dL_law_469 : decode cL_law 469 = .ok (.aload_n 0, 1) := by decide +kernel
theorem dL_law_470 : decode cL_law 470 = .ok (.iload_n 3, 1) := by decide +kernel
theorem dL_law_471 : decode cL_law 471 = .ok (.iconst 2, 1) := by decide +kernel
theorem dL_law_472 : decode cL_law 472 = .ok (.iadd, 1) := by decide +kernel
theorem dL_law_473 : decode cL_law 473 = .ok (.iaload, 1) := by decide +kernel
theorem dL_law_474 : decode cL_law 474 = .ok (.invokevirtual 62, 3) := by decide +kernel
theorem dL_law_477 : decode cL_law 477 = .ok (.aload_n 2, 1) := by decide +kernel
theorem dL_law_478 : decode cL_law 478 = .ok (.aload_n 0, 1) := by decide +kernel
theorem dL_law_479 : decode cL_law 479 = .ok (.iload_n 3, 1) := by decide +kernel
theorem dL_law_480 : decode cL_law 480 = .ok (.iconst 1, 1) := by decide +kernel
theorem dL_law_481 : decode cL_law 481 = .ok (.iadd, 1) := by decide +kernel
theorem dL_law_482 : decode cL_law 482 = .ok (.iaload, 1) := by decide +kernel
theorem dL_law_483 : decode cL_law 483 = .ok (.aload_n 0, 1) := by decide +kernel
theorem dL_law_484 : decode cL_law 484 = .ok (.iload_n 3, 1) := by decide +kernel
theorem dL_law_485 : decode cL_law 485 = .ok (.iconst 2, 1) := by decide +kernel
theorem dL_law_486 : decode cL_law 486 = .ok (.iadd, 1) := by decide +kernel
theorem dL_law_487 : decode cL_law 487 = .ok (.iaload, 1) := by decide +kernel
theorem dL_law_488 : decode cL_law 488 = .ok (.invokevirtual 65, 3) := by decide +kernel
theorem dL_law_491 : decode cL_law 491 = .ok (.if_icmp .eq 249, 3) := by decide +kernel
theorem dL_law_494 : decode cL_law 494 = .ok (.iconst 0, 1) := by decide +kernel
theorem dL_law_495 : decode cL_law 495 = .ok (.ireturn, 1) := by decide +kernel
theorem dL_law_496 : decode cL_law 496 = .ok (.aload_n 1, 1) := by decide +kernel
theorem dL_law_497 : decode cL_law 497 = .ok (.aload_n 0, 1) := by decide +kernel
theorem dL_law_498 : decode cL_law 498 = .ok (.iload_n 3, 1) := by decide +kernel
theorem dL_law_499 : decode cL_law 499 = .ok (.iconst 1, 1) := by decide +kernel
theorem dL_law_500 : decode cL_law 500 = .ok (.iadd, 1) := by decide +kernel
theorem dL_law_501 : decode cL_law 501 = .ok (.iaload, 1) := by decide +kernel
theorem dL_law_502 : decode cL_law 502 = .ok (.aload_n 0, 1) := by decide +kernel
theorem dL_law_503 : decode cL_law 503 = .ok (.iload_n 3, 1) := by decide +kernel
theorem dL_law_504 : decode cL_law 504 = .ok (.iconst 2, 1) := by decide +kernel
theorem dL_law_505 : decode cL_law 505 = .ok (.iadd, 1) := by decide +kernel
theorem dL_law_506 : decode cL_law 506 = .ok (.iaload, 1) := by decide +kernel
theorem dL_law_507 : decode cL_law 507 = .ok (.invokevirtual 66, 3) := by decide +kernel
theorem dL_law_510 : decode cL_law 510 = .ok (.aload_n 2, 1) := by decide +kernel
theorem dL_law_511 : decode cL_law 511 = .ok (.aload_n 0, 1) := by decide +kernel
theorem dL_law_512 : decode cL_law 512 = .ok (.iload_n 3, 1) := by decide +kernel
theorem dL_law_513 : decode cL_law 513 = .ok (.iconst 1, 1) := by decide +kernel
theorem dL_law_514 : decode cL_law 514 = .ok (.iadd, 1) := by decide +kernel
theorem dL_law_515 : decode cL_law 515 = .ok (.iaload, 1) := by decide +kernel
theorem dL_law_516 : decode cL_law 516 = .ok (.aload_n 0, 1) := by decide +kernel
theorem dL_law_517 : decode cL_law 517 = .ok (.iload_n 3, 1) := by decide +kernel
theorem dL_law_518 : decode cL_law 518 = .ok (.iconst 2, 1) := by decide +kernel
theorem dL_law_519 : decode cL_law 519 = .ok (.iadd, 1) := by decide +kernel
theorem dL_law_520 : decode cL_law 520 = .ok (.iaload, 1) := by decide +kernel
theorem dL_law_521 : decode cL_law 521 = .ok (.invokevirtual 69, 3) := by decide +kernel
theorem dL_law_524 : decode cL_law 524 = .ok (.if_icmp .eq 216, 3) := by decide +kernel
theorem dL_law_527 : decode cL_law 527 = .ok (.iconst 0, 1) := by decide +kernel
theorem dL_law_528 : decode cL_law 528 = .ok (.ireturn, 1) := by decide +kernel
theorem dL_law_529 : decode cL_law 529 = .ok (.aload_n 1, 1) := by decide +kernel
theorem dL_law_530 : decode cL_law 530 = .ok (.aload_n 0, 1) := by decide +kernel
theorem dL_law_531 : decode cL_law 531 = .ok (.iload_n 3, 1) := by decide +kernel
theorem dL_law_532 : decode cL_law 532 = .ok (.iconst 1, 1) := by decide +kernel
theorem dL_law_533 : decode cL_law 533 = .ok (.iadd, 1) := by decide +kernel
theorem dL_law_534 : decode cL_law 534 = .ok (.iaload, 1) := by decide +kernel
theorem dL_law_535 : decode cL_law 535 = .ok (.invokevirtual 70, 3) := by decide +kernel
theorem dL_law_538 : decode cL_law 538 = .ok (.aload_n 2, 1) := by decide +kernel
theorem dL_law_539 : decode cL_law 539 = .ok (.aload_n 0, 1) := by decide +kernel
theorem dL_law_540 : decode cL_law 540 = .ok (.iload_n 3, 1) := by decide +kernel
theorem dL_law_541 : decode cL_law 541 = .ok (.iconst 1, 1) := by decide +kernel
theorem dL_law_542 : decode cL_law 542 = .ok (.iadd, 1) := by decide +kernel
theorem dL_law_543 : decode cL_law 543 = .ok (.iaload, 1) := by decide +kernel
theorem dL_law_544 : decode cL_law 544 = .ok (.invokevirtual 73, 3) := by decide +kernel
theorem dL_law_547 : decode cL_law 547 = .ok (.if_icmp .eq 193, 3) := by decide +kernel
theorem dL_law_550 : decode cL_law 550 = .ok (.iconst 0, 1) := by decide +kernel
theorem dL_law_551 : decode cL_law 551 = .ok (.ireturn, 1) := by decide +kernel
theorem dL_law_552 : decode cL_law 552 = .ok (.aload_n 1, 1) := by decide +kernel
theorem dL_law_553 : decode cL_law 553 = .ok (.aload_n 0, 1) := by decide +kernel
theorem dL_law_554 : decode cL_law 554 = .ok (.iload_n 3, 1) := by decide +kernel
theorem dL_law_555 : decode cL_law 555 = .ok (.iconst 1, 1) := by decide +kernel
theorem dL_law_556 : decode cL_law 556 = .ok (.iadd, 1) := by decide +kernel
theorem dL_law_557 : decode cL_law 557 = .ok (.iaload, 1) := by decide +kernel
theorem dL_law_558 : decode cL_law 558 = .ok (.invokevirtual 74, 3) := by decide +kernel
theorem dL_law_561 : decode cL_law 561 = .ok (.aload_n 2, 1) := by decide +kernel
theorem dL_law_562 : decode cL_law 562 = .ok (.aload_n 0, 1) := by decide +kernel
theorem dL_law_563 : decode cL_law 563 = .ok (.iload_n 3, 1) := by decide +kernel
theorem dL_law_564 : decode cL_law 564 = .ok (.iconst 1, 1) := by decide +kernel
theorem dL_law_565 : decode cL_law 565 = .ok (.iadd, 1) := by decide +kernel
theorem dL_law_566 : decode cL_law 566 = .ok (.iaload, 1) := by decide +kernel
theorem dL_law_567 : decode cL_law 567 = .ok (.invokevirtual 77, 3) := by decide +kernel
theorem dL_law_570 : decode cL_law 570 = .ok (.if_icmp .eq 170, 3) := by decide +kernel
theorem dL_law_573 : decode cL_law 573 = .ok (.iconst 0, 1) := by decide +kernel
theorem dL_law_574 : decode cL_law 574 = .ok (.ireturn, 1) := by decide +kernel
theorem dL_law_575 : decode cL_law 575 = .ok (.aload_n 1, 1) := by decide +kernel
theorem dL_law_576 : decode cL_law 576 = .ok (.aload_n 0, 1) := by decide +kernel
theorem dL_law_577 : decode cL_law 577 = .ok (.iload_n 3, 1) := by decide +kernel
theorem dL_law_578 : decode cL_law 578 = .ok (.iconst 1, 1) := by decide +kernel
theorem dL_law_579 : decode cL_law 579 = .ok (.iadd, 1) := by decide +kernel
theorem dL_law_580 : decode cL_law 580 = .ok (.iaload, 1) := by decide +kernel
theorem dL_law_581 : decode cL_law 581 = .ok (.aload_n 0, 1) := by decide +kernel
theorem dL_law_582 : decode cL_law 582 = .ok (.iload_n 3, 1) := by decide +kernel
theorem dL_law_583 : decode cL_law 583 = .ok (.iconst 2, 1) := by decide +kernel
theorem dL_law_584 : decode cL_law 584 = .ok (.iadd, 1) := by decide +kernel
theorem dL_law_585 : decode cL_law 585 = .ok (.iaload, 1) := by decide +kernel
theorem dL_law_586 : decode cL_law 586 = .ok (.invokevirtual 78, 3) := by decide +kernel
theorem dL_law_589 : decode cL_law 589 = .ok (.aload_n 2, 1) := by decide +kernel
theorem dL_law_590 : decode cL_law 590 = .ok (.aload_n 0, 1) := by decide +kernel
theorem dL_law_591 : decode cL_law 591 = .ok (.iload_n 3, 1) := by decide +kernel
theorem dL_law_592 : decode cL_law 592 = .ok (.iconst 1, 1) := by decide +kernel
theorem dL_law_593 : decode cL_law 593 = .ok (.iadd, 1) := by decide +kernel
theorem dL_law_594 : decode cL_law 594 = .ok (.iaload, 1) := by decide +kernel
theorem dL_law_595 : decode cL_law 595 = .ok (.aload_n 0, 1) := by decide +kernel
theorem dL_law_596 : decode cL_law 596 = .ok (.iload_n 3, 1) := by decide +kernel
theorem dL_law_597 : decode cL_law 597 = .ok (.iconst 2, 1) := by decide +kernel
theorem dL_law_598 : decode cL_law 598 = .ok (.iadd, 1) := by decide +kernel
theorem dL_law_599 : decode cL_law 599 = .ok (.iaload, 1) := by decide +kernel
theorem dL_law_600 : decode cL_law 600 = .ok (.invokevirtual 81, 3) := by decide +kernel
theorem dL_law_603 : decode cL_law 603 = .ok (.if_icmp .eq 137, 3) := by decide +kernel
theorem dL_law_606 : decode cL_law 606 = .ok (.iconst 0, 1) := by decide +kernel
theorem dL_law_607 : decode cL_law 607 = .ok (.ireturn, 1) := by decide +kernel
theorem dL_law_608 : decode cL_law 608 = .ok (.aload_n 1, 1) := by decide +kernel
theorem dL_law_609 : decode cL_law 609 = .ok (.aload_n 0, 1) := by decide +kernel
theorem dL_law_610 : decode cL_law 610 = .ok (.iload_n 3, 1) := by decide +kernel
theorem dL_law_611 : decode cL_law 611 = .ok (.iconst 1, 1) := by decide +kernel
theorem dL_law_612 : decode cL_law 612 = .ok (.iadd, 1) := by decide +kernel
theorem dL_law_613 : decode cL_law 613 = .ok (.iaload, 1) := by decide +kernel
theorem dL_law_614 : decode cL_law 614 = .ok (.aload_n 0, 1) := by decide +kernel
theorem dL_law_615 : decode cL_law 615 = .ok (.iload_n 3, 1) := by decide +kernel
theorem dL_law_616 : decode cL_law 616 = .ok (.iconst 2, 1) := by decide +kernel
theorem dL_law_617 : decode cL_law 617 = .ok (.iadd, 1) := by decide +kernel
theorem dL_law_618 : decode cL_law 618 = .ok (.iaload, 1) := by decide +kernel
theorem dL_law_619 : decode cL_law 619 = .ok (.invokevirtual 82, 3) := by decide +kernel
theorem dL_law_622 : decode cL_law 622 = .ok (.aload_n 2, 1) := by decide +kernel
theorem dL_law_623 : decode cL_law 623 = .ok (.aload_n 0, 1) := by decide +kernel
theorem dL_law_624 : decode cL_law 624 = .ok (.iload_n 3, 1) := by decide +kernel
theorem dL_law_625 : decode cL_law 625 = .ok (.iconst 1, 1) := by decide +kernel
theorem dL_law_626 : decode cL_law 626 = .ok (.iadd, 1) := by decide +kernel
theorem dL_law_627 : decode cL_law 627 = .ok (.iaload, 1) := by decide +kernel
theorem dL_law_628 : decode cL_law 628 = .ok (.aload_n 0, 1) := by decide +kernel
theorem dL_law_629 : decode cL_law 629 = .ok (.iload_n 3, 1) := by decide +kernel
theorem dL_law_630 : decode cL_law 630 = .ok (.iconst 2, 1) := by decide +kernel
theorem dL_law_631 : decode cL_law 631 = .ok (.iadd, 1) := by decide +kernel
theorem dL_law_632 : decode cL_law 632 = .ok (.iaload, 1) := by decide +kernel
theorem dL_law_633 : decode cL_law 633 = .ok (.invokevirtual 85, 3) := by decide +kernel
theorem dL_law_636 : decode cL_law 636 = .ok (.if_icmp .eq 104, 3) := by decide +kernel
theorem dL_law_639 : decode cL_law 639 = .ok (.iconst 0, 1) := by decide +kernel
theorem dL_law_640 : decode cL_law 640 = .ok (.ireturn, 1) := by decide +kernel
theorem dL_law_641 : decode cL_law 641 = .ok (.aload_n 1, 1) := by decide +kernel
theorem dL_law_642 : decode cL_law 642 = .ok (.invokevirtual 86, 3) := by decide +kernel
theorem dL_law_645 : decode cL_law 645 = .ok (.aload_n 2, 1) := by decide +kernel
theorem dL_law_646 : decode cL_law 646 = .ok (.invokevirtual 89, 3) := by decide +kernel
theorem dL_law_649 : decode cL_law 649 = .ok (.if_icmp .eq 91, 3) := by decide +kernel
theorem dL_law_652 : decode cL_law 652 = .ok (.iconst 0, 1) := by decide +kernel
theorem dL_law_653 : decode cL_law 653 = .ok (.ireturn, 1) := by decide +kernel
theorem dL_law_654 : decode cL_law 654 = .ok (.aload_n 1, 1) := by decide +kernel
theorem dL_law_655 : decode cL_law 655 = .ok (.aload_n 0, 1) := by decide +kernel
theorem dL_law_656 : decode cL_law 656 = .ok (.iload_n 3, 1) := by decide +kernel
theorem dL_law_657 : decode cL_law 657 = .ok (.iconst 1, 1) := by decide +kernel
theorem dL_law_658 : decode cL_law 658 = .ok (.iadd, 1) := by decide +kernel
theorem dL_law_659 : decode cL_law 659 = .ok (.iaload, 1) := by decide +kernel
theorem dL_law_660 : decode cL_law 660 = .ok (.invokevirtual 90, 3) := by decide +kernel
theorem dL_law_663 : decode cL_law 663 = .ok (.aload_n 2, 1) := by decide +kernel
theorem dL_law_664 : decode cL_law 664 = .ok (.aload_n 0, 1) := by decide +kernel
theorem dL_law_665 : decode cL_law 665 = .ok (.iload_n 3, 1) := by decide +kernel
theorem dL_law_666 : decode cL_law 666 = .ok (.iconst 1, 1) := by decide +kernel
theorem dL_law_667 : decode cL_law 667 = .ok (.iadd, 1) := by decide +kernel
theorem dL_law_668 : decode cL_law 668 = .ok (.iaload, 1) := by decide +kernel
theorem dL_law_669 : decode cL_law 669 = .ok (.invokevirtual 93, 3) := by decide +kernel
theorem dL_law_672 : decode cL_law 672 = .ok (.if_icmp .eq 68, 3) := by decide +kernel
theorem dL_law_675 : decode cL_law 675 = .ok (.iconst 0, 1) := by decide +kernel
theorem dL_law_676 : decode cL_law 676 = .ok (.ireturn, 1) := by decide +kernel
theorem dL_law_677 : decode cL_law 677 = .ok (.aload_n 1, 1) := by decide +kernel
theorem dL_law_678 : decode cL_law 678 = .ok (.invokevirtual 94, 3) := by decide +kernel
theorem dL_law_681 : decode cL_law 681 = .ok (.aload_n 2, 1) := by decide +kernel
theorem dL_law_682 : decode cL_law 682 = .ok (.invokevirtual 97, 3) := by decide +kernel
theorem dL_law_685 : decode cL_law 685 = .ok (.if_icmp .eq 55, 3) := by decide +kernel
theorem dL_law_688 : decode cL_law 688 = .ok (.iconst 0, 1) := by decide +kernel
theorem dL_law_689 : decode cL_law 689 = .ok (.ireturn, 1) := by decide +kernel
theorem dL_law_690 : decode cL_law 690 = .ok (.aload_n 1, 1) := by decide +kernel
theorem dL_law_691 : decode cL_law 691 = .ok (.invokevirtual 98, 3) := by decide +kernel
theorem dL_law_694 : decode cL_law 694 = .ok (.aload_n 2, 1) := by decide +kernel
theorem dL_law_695 : decode cL_law 695 = .ok (.invokevirtual 101, 3) := by decide +kernel
theorem dL_law_698 : decode cL_law 698 = .ok (.if_icmp .eq 42, 3) := by decide +kernel
theorem dL_law_701 : decode cL_law 701 = .ok (.iconst 0, 1) := by decide +kernel
theorem dL_law_702 : decode cL_law 702 = .ok (.ireturn, 1) := by decide +kernel
theorem dL_law_703 : decode cL_law 703 = .ok (.aload_n 1, 1) := by decide +kernel
theorem dL_law_704 : decode cL_law 704 = .ok (.aload_n 0, 1) := by decide +kernel
theorem dL_law_705 : decode cL_law 705 = .ok (.iload_n 3, 1) := by decide +kernel
theorem dL_law_706 : decode cL_law 706 = .ok (.iconst 1, 1) := by decide +kernel
theorem dL_law_707 : decode cL_law 707 = .ok (.iadd, 1) := by decide +kernel
theorem dL_law_708 : decode cL_law 708 = .ok (.iaload, 1) := by decide +kernel
theorem dL_law_709 : decode cL_law 709 = .ok (.invokevirtual 102, 3) := by decide +kernel
theorem dL_law_712 : decode cL_law 712 = .ok (.aload_n 2, 1) := by decide +kernel
theorem dL_law_713 : decode cL_law 713 = .ok (.aload_n 0, 1) := by decide +kernel
theorem dL_law_714 : decode cL_law 714 = .ok (.iload_n 3, 1) := by decide +kernel
theorem dL_law_715 : decode cL_law 715 = .ok (.iconst 1, 1) := by decide +kernel
theorem dL_law_716 : decode cL_law 716 = .ok (.iadd, 1) := by decide +kernel
theorem dL_law_717 : decode cL_law 717 = .ok (.iaload, 1) := by decide +kernel
theorem dL_law_718 : decode cL_law 718 = .ok (.invokevirtual 105, 3) := by decide +kernel
theorem dL_law_721 : decode cL_law 721 = .ok (.if_icmp .eq 19, 3) := by decide +kernel
theorem dL_law_724 : decode cL_law 724 = .ok (.iconst 0, 1) := by decide +kernel
theorem dL_law_725 : decode cL_law 725 = .ok (.ireturn, 1) := by decide +kernel
theorem dL_law_726 : decode cL_law 726 = .ok (.aload_n 1, 1) := by decide +kernel
theorem dL_law_727 : decode cL_law 727 = .ok (.invokevirtual 106, 3) := by decide +kernel
theorem dL_law_730 : decode cL_law 730 = .ok (.aload_n 2, 1) := by decide +kernel
theorem dL_law_731 : decode cL_law 731 = .ok (.invokevirtual 110, 3) := by decide +kernel
theorem dL_law_734 : decode cL_law 734 = .ok (.lcmp, 1) := by decide +kernel
theorem dL_law_735 : decode cL_law 735 = .ok (.ifCond .eq 5, 3) := by decide +kernel
theorem dL_law_738 : decode cL_law 738 = .ok (.iconst 0, 1) := by decide +kernel
theorem dL_law_739 : decode cL_law 739 = .ok (.ireturn, 1) := by decide +kernel
theorem dL_law_740 : decode cL_law 740 = .ok (.iinc 3 5, 3) := by decide +kernel
theorem dL_law_743 : decode cL_law 743 = .ok (.goto (-725), 3) := by decide +kernel
theorem dL_law_746 : decode cL_law 746 = .ok (.iconst 1, 1) := by decide +kernel
theorem dL_law_747 : decode cL_law 747 = .ok (.ireturn, 1) := by decide +kernel
