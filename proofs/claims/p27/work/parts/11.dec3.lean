theorem dX12_text_55 : decode cX12_text 55 = .ok (.invokevirtual 79, 3) := by decide +kernel
theorem dX12_text_58 : decode cX12_text 58 = .ok (.ifCond .ne 11, 3) := by decide +kernel
theorem dX12_text_61 : decode cX12_text 61 = .ok (.new 83, 3) := by decide +kernel
theorem dX12_text_64 : decode cX12_text 64 = .ok (.dup, 1) := by decide +kernel
theorem dX12_text_65 : decode cX12_text 65 = .ok (.invokespecial 85, 3) := by decide +kernel
theorem dX12_text_68 : decode cX12_text 68 = .ok (.athrow, 1) := by decide +kernel
theorem dX12_text_69 : decode cX12_text 69 = .ok (.aload_n 0, 1) := by decide +kernel
theorem dX12_text_70 : decode cX12_text 70 = .ok (.aload 4, 2) := by decide +kernel
theorem dX12_text_72 : decode cX12_text 72 = .ok (.iload_n 2, 1) := by decide +kernel
theorem dX12_text_73 : decode cX12_text 73 = .ok (.iload_n 3, 1) := by decide +kernel
theorem dX12_text_74 : decode cX12_text 74 = .ok (.invokevirtual 86, 3) := by decide +kernel
theorem dX12_text_77 : decode cX12_text 77 = .ok (.istore 5, 2) := by decide +kernel
theorem dX12_text_79 : decode cX12_text 79 = .ok (.aload_n 0, 1) := by decide +kernel
theorem dX12_text_80 : decode cX12_text 80 = .ok (.invokevirtual 89, 3) := by decide +kernel
theorem dX12_text_83 : decode cX12_text 83 = .ok (.iload 5, 2) := by decide +kernel
theorem dX12_text_85 : decode cX12_text 85 = .ok (.ireturn, 1) := by decide +kernel
theorem dX12_word_0 : decode cX12_word 0 = .ok (.aload_n 0, 1) := by decide +kernel
theorem dX12_word_1 : decode cX12_word 1 = .ok (.iload_n 1, 1) := by decide +kernel
theorem dX12_word_2 : decode cX12_word 2 = .ok (.invokevirtual 95, 3) := by decide +kernel
theorem dX12_word_5 : decode cX12_word 5 = .ok (.astore 4, 2) := by decide +kernel
theorem dX12_word_7 : decode cX12_word 7 = .ok (.aload 4, 2) := by decide +kernel
theorem dX12_word_9 : decode cX12_word 9 = .ok (.ifnonnull 11, 3) := by decide +kernel
theorem dX12_word_12 : decode cX12_word 12 = .ok (.new 76, 3) := by decide +kernel
theorem dX12_word_15 : decode cX12_word 15 = .ok (.dup, 1) := by decide +kernel
theorem dX12_word_16 : decode cX12_word 16 = .ok (.invokespecial 78, 3) := by decide +kernel
theorem dX12_word_19 : decode cX12_word 19 = .ok (.athrow, 1) := by decide +kernel
theorem dX12_word_20 : decode cX12_word 20 = .ok (.iload_n 2, 1) := by decide +kernel
theorem dX12_word_21 : decode cX12_word 21 = .ok (.iconst 1, 1) := by decide +kernel
theorem dX12_word_22 : decode cX12_word 22 = .ok (.if_icmp .lt 18, 3) := by decide +kernel
theorem dX12_word_25 : decode cX12_word 25 = .ok (.iload_n 2, 1) := by decide +kernel
theorem dX12_word_26 : decode cX12_word 26 = .ok (.bipush 30, 2) := by decide +kernel
theorem dX12_word_28 : decode cX12_word 28 = .ok (.if_icmp .gt 12, 3) := by decide +kernel
theorem dX12_word_31 : decode cX12_word 31 = .ok (.iload_n 3, 1) := by decide +kernel
theorem dX12_word_32 : decode cX12_word 32 = .ok (.ifCond .lt 8, 3) := by decide +kernel
theorem dX12_word_35 : decode cX12_word 35 = .ok (.iload_n 3, 1) := by decide +kernel
theorem dX12_word_36 : decode cX12_word 36 = .ok (.iload_n 2, 1) := by decide +kernel
theorem dX12_word_37 : decode cX12_word 37 = .ok (.if_icmp .lt 11, 3) := by decide +kernel
theorem dX12_word_40 : decode cX12_word 40 = .ok (.new 92, 3) := by decide +kernel
theorem dX12_word_43 : decode cX12_word 43 = .ok (.dup, 1) := by decide +kernel
theorem dX12_word_44 : decode cX12_word 44 = .ok (.invokespecial 94, 3) := by decide +kernel
theorem dX12_word_47 : decode cX12_word 47 = .ok (.athrow, 1) := by decide +kernel
theorem dX12_word_48 : decode cX12_word 48 = .ok (.aload 4, 2) := by decide +kernel
theorem dX12_word_50 : decode cX12_word 50 = .ok (.getfield 98, 3) := by decide +kernel
theorem dX12_word_53 : decode cX12_word 53 = .ok (.bipush 20, 2) := by decide +kernel
theorem dX12_word_55 : decode cX12_word 55 = .ok (.if_icmp .lt 11, 3) := by decide +kernel
theorem dX12_word_58 : decode cX12_word 58 = .ok (.new 83, 3) := by decide +kernel
theorem dX12_word_61 : decode cX12_word 61 = .ok (.dup, 1) := by decide +kernel
theorem dX12_word_62 : decode cX12_word 62 = .ok (.invokespecial 85, 3) := by decide +kernel
theorem dX12_word_65 : decode cX12_word 65 = .ok (.athrow, 1) := by decide +kernel
theorem dX12_word_66 : decode cX12_word 66 = .ok (.aload 4, 2) := by decide +kernel
theorem dX12_word_68 : decode cX12_word 68 = .ok (.getfield 101, 3) := by decide +kernel
theorem dX12_word_71 : decode cX12_word 71 = .ok (.aload 4, 2) := by decide +kernel
theorem dX12_word_73 : decode cX12_word 73 = .ok (.getfield 98, 3) := by decide +kernel
theorem dX12_word_76 : decode cX12_word 76 = .ok (.iload_n 2, 1) := by decide +kernel
theorem dX12_word_77 : decode cX12_word 77 = .ok (.iastore, 1) := by decide +kernel
theorem dX12_word_78 : decode cX12_word 78 = .ok (.aload 4, 2) := by decide +kernel
theorem dX12_word_80 : decode cX12_word 80 = .ok (.getfield 105, 3) := by decide +kernel
theorem dX12_word_83 : decode cX12_word 83 = .ok (.aload 4, 2) := by decide +kernel
theorem dX12_word_85 : decode cX12_word 85 = .ok (.getfield 98, 3) := by decide +kernel
theorem dX12_word_88 : decode cX12_word 88 = .ok (.iload_n 3, 1) := by decide +kernel
theorem dX12_word_89 : decode cX12_word 89 = .ok (.iastore, 1) := by decide +kernel
theorem dX12_word_90 : decode cX12_word 90 = .ok (.aload 4, 2) := by decide +kernel
theorem dX12_word_92 : decode cX12_word 92 = .ok (.dup, 1) := by decide +kernel
theorem dX12_word_93 : decode cX12_word 93 = .ok (.getfield 98, 3) := by decide +kernel
theorem dX12_word_96 : decode cX12_word 96 = .ok (.iconst 1, 1) := by decide +kernel
theorem dX12_word_97 : decode cX12_word 97 = .ok (.iadd, 1) := by decide +kernel
theorem dX12_word_98 : decode cX12_word 98 = .ok (.putfield 98, 3) := by decide +kernel
theorem dX12_word_101 : decode cX12_word 101 = .ok (.aload_n 0, 1) := by decide +kernel
theorem dX12_word_102 : decode cX12_word 102 = .ok (.aload 4, 2) := by decide +kernel
theorem dX12_word_104 : decode cX12_word 104 = .ok (.invokevirtual 108, 3) := by decide +kernel
theorem dX12_word_107 : decode cX12_word 107 = .ok (.aload_n 0, 1) := by decide +kernel
theorem dX12_word_108 : decode cX12_word 108 = .ok (.invokevirtual 89, 3) := by decide +kernel
theorem dX12_word_111 : decode cX12_word 111 = .ok (.aload 4, 2) := by decide +kernel
theorem dX12_word_113 : decode cX12_word 113 = .ok (.getfield 98, 3) := by decide +kernel
theorem dX12_word_116 : decode cX12_word 116 = .ok (.ireturn, 1) := by decide +kernel
theorem dX12_children_0 : decode cX12_children 0 = .ok (.aload_n 0, 1) := by decide +kernel
theorem dX12_children_1 : decode cX12_children 1 = .ok (.iload_n 1, 1) := by decide +kernel
theorem dX12_children_2 : decode cX12_children 2 = .ok (.invokevirtual 68, 3) := by decide +kernel
theorem dX12_children_5 : decode cX12_children 5 = .ok (.astore_n 2, 1) := by decide +kernel
theorem dX12_children_6 : decode cX12_children 6 = .ok (.aload_n 2, 1) := by decide +kernel
theorem dX12_children_7 : decode cX12_children 7 = .ok (.ifnonnull 11, 3) := by decide +kernel
theorem dX12_children_10 : decode cX12_children 10 = .ok (.new 76, 3) := by decide +kernel
theorem dX12_children_13 : decode cX12_children 13 = .ok (.dup, 1) := by decide +kernel
theorem dX12_children_14 : decode cX12_children 14 = .ok (.invokespecial 78, 3) := by decide +kernel
theorem dX12_children_17 : decode cX12_children 17 = .ok (.athrow, 1) := by decide +kernel
theorem dX12_children_18 : decode cX12_children 18 = .ok (.aload_n 2, 1) := by decide +kernel
theorem dX12_children_19 : decode cX12_children 19 = .ok (.invokevirtual 72, 3) := by decide +kernel
theorem dX12_children_22 : decode cX12_children 22 = .ok (.ireturn, 1) := by decide +kernel
theorem dX12_style_0 : decode cX12_style 0 = .ok (.aload_n 0, 1) := by decide +kernel
theorem dX12_style_1 : decode cX12_style 1 = .ok (.iload_n 1, 1) := by decide +kernel
theorem dX12_style_2 : decode cX12_style 2 = .ok (.invokevirtual 68, 3) := by decide +kernel
theorem dX12_style_5 : decode cX12_style 5 = .ok (.astore 4, 2) := by decide +kernel
theorem dX12_style_7 : decode cX12_style 7 = .ok (.aload 4, 2) := by decide +kernel
theorem dX12_style_9 : decode cX12_style 9 = .ok (.ifnonnull 11, 3) := by decide +kernel
theorem dX12_style_12 : decode cX12_style 12 = .ok (.new 76, 3) := by decide +kernel
theorem dX12_style_15 : decode cX12_style 15 = .ok (.dup, 1) := by decide +kernel
theorem dX12_style_16 : decode cX12_style 16 = .ok (.invokespecial 78, 3) := by decide +kernel
theorem dX12_style_19 : decode cX12_style 19 = .ok (.athrow, 1) := by decide +kernel
theorem dX12_style_20 : decode cX12_style 20 = .ok (.iload_n 2, 1) := by decide +kernel
theorem dX12_style_21 : decode cX12_style 21 = .ok (.ifCond .lt 17, 3) := by decide +kernel
theorem dX12_style_24 : decode cX12_style 24 = .ok (.iload_n 2, 1) := by decide +kernel
theorem dX12_style_25 : decode cX12_style 25 = .ok (.bipush 21, 2) := by decide +kernel
theorem dX12_style_27 : decode cX12_style 27 = .ok (.if_icmp .ge 11, 3) := by decide +kernel
theorem dX12_style_30 : decode cX12_style 30 = .ok (.iload_n 2, 1) := by decide +kernel
theorem dX12_style_31 : decode cX12_style 31 = .ok (.iload_n 3, 1) := by decide +kernel
theorem dX12_style_32 : decode cX12_style 32 = .ok (.invokestatic 127, 3) := by decide +kernel
theorem dX12_style_35 : decode cX12_style 35 = .ok (.ifCond .ne 11, 3) := by decide +kernel
theorem dX12_style_38 : decode cX12_style 38 = .ok (.new 92, 3) := by decide +kernel
theorem dX12_style_41 : decode cX12_style 41 = .ok (.dup, 1) := by decide +kernel
theorem dX12_style_42 : decode cX12_style 42 = .ok (.invokespecial 94, 3) := by decide +kernel
theorem dX12_style_45 : decode cX12_style 45 = .ok (.athrow, 1) := by decide +kernel
theorem dX12_style_46 : decode cX12_style 46 = .ok (.aload 4, 2) := by decide +kernel
theorem dX12_style_48 : decode cX12_style 48 = .ok (.getfield 114, 3) := by decide +kernel
theorem dX12_style_51 : decode cX12_style 51 = .ok (.ifnonnull 11, 3) := by decide +kernel
theorem dX12_style_54 : decode cX12_style 54 = .ok (.new 83, 3) := by decide +kernel
theorem dX12_style_57 : decode cX12_style 57 = .ok (.dup, 1) := by decide +kernel
theorem dX12_style_58 : decode cX12_style 58 = .ok (.invokespecial 85, 3) := by decide +kernel
theorem dX12_style_61 : decode cX12_style 61 = .ok (.athrow, 1) := by decide +kernel
theorem dX12_style_62 : decode cX12_style 62 = .ok (.aload 4, 2) := by decide +kernel
theorem dX12_style_64 : decode cX12_style 64 = .ok (.getfield 131, 3) := by decide +kernel
theorem dX12_style_67 : decode cX12_style 67 = .ok (.iload_n 2, 1) := by decide +kernel
theorem dX12_style_68 : decode cX12_style 68 = .ok (.iaload, 1) := by decide +kernel
theorem dX12_style_69 : decode cX12_style 69 = .ok (.istore 5, 2) := by decide +kernel
theorem dX12_style_71 : decode cX12_style 71 = .ok (.iload 5, 2) := by decide +kernel
theorem dX12_style_73 : decode cX12_style 73 = .ok (.iload_n 3, 1) := by decide +kernel
theorem dX12_style_74 : decode cX12_style 74 = .ok (.if_icmp .eq 34, 3) := by decide +kernel
theorem dX12_style_77 : decode cX12_style 77 = .ok (.aload 4, 2) := by decide +kernel
theorem dX12_style_79 : decode cX12_style 79 = .ok (.getfield 131, 3) := by decide +kernel
theorem dX12_style_82 : decode cX12_style 82 = .ok (.iload_n 2, 1) := by decide +kernel
theorem dX12_style_83 : decode cX12_style 83 = .ok (.iload_n 3, 1) := by decide +kernel
theorem dX12_style_84 : decode cX12_style 84 = .ok (.iastore, 1) := by decide +kernel
theorem dX12_style_85 : decode cX12_style 85 = .ok (.aload_n 0, 1) := by decide +kernel
theorem dX12_style_86 : decode cX12_style 86 = .ok (.aload 4, 2) := by decide +kernel
theorem dX12_style_88 : decode cX12_style 88 = .ok (.invokevirtual 108, 3) := by decide +kernel
theorem dX12_style_91 : decode cX12_style 91 = .ok (.iload_n 2, 1) := by decide +kernel
theorem dX12_style_92 : decode cX12_style 92 = .ok (.invokestatic 134, 3) := by decide +kernel
theorem dX12_style_95 : decode cX12_style 95 = .ok (.ifCond .eq 9, 3) := by decide +kernel
theorem dX12_style_98 : decode cX12_style 98 = .ok (.aload_n 0, 1) := by decide +kernel
theorem dX12_style_99 : decode cX12_style 99 = .ok (.aload 4, 2) := by decide +kernel
theorem dX12_style_101 : decode cX12_style 101 = .ok (.invokevirtual 138, 3) := by decide +kernel
theorem dX12_style_104 : decode cX12_style 104 = .ok (.aload_n 0, 1) := by decide +kernel
theorem dX12_style_105 : decode cX12_style 105 = .ok (.invokevirtual 89, 3) := by decide +kernel
theorem dX12_style_108 : decode cX12_style 108 = .ok (.iload 5, 2) := by decide +kernel
theorem dX12_style_110 : decode cX12_style 110 = .ok (.ireturn, 1) := by decide +kernel
theorem dX12_page_0 : decode cX12_page 0 = .ok (.iload_n 1, 1) := by decide +kernel
theorem dX12_page_1 : decode cX12_page 1 = .ok (.iconst 1, 1) := by decide +kernel
theorem dX12_page_2 : decode cX12_page 2 = .ok (.if_icmp .lt 10, 3) := by decide +kernel
theorem dX12_page_5 : decode cX12_page 5 = .ok (.iload_n 1, 1) := by decide +kernel
theorem dX12_page_6 : decode cX12_page 6 = .ok (.sipush 300, 3) := by decide +kernel
theorem dX12_page_9 : decode cX12_page 9 = .ok (.if_icmp .le 11, 3) := by decide +kernel
theorem dX12_page_12 : decode cX12_page 12 = .ok (.new 92, 3) := by decide +kernel
theorem dX12_page_15 : decode cX12_page 15 = .ok (.dup, 1) := by decide +kernel
theorem dX12_page_16 : decode cX12_page 16 = .ok (.invokespecial 94, 3) := by decide +kernel
theorem dX12_page_19 : decode cX12_page 19 = .ok (.athrow, 1) := by decide +kernel
theorem dX12_page_20 : decode cX12_page 20 = .ok (.aload_n 0, 1) := by decide +kernel
theorem dX12_page_21 : decode cX12_page 21 = .ok (.getfield 33, 3) := by decide +kernel
theorem dX12_page_24 : decode cX12_page 24 = .ok (.istore_n 2, 1) := by decide +kernel
theorem dX12_page_25 : decode cX12_page 25 = .ok (.iload_n 2, 1) := by decide +kernel
theorem dX12_page_26 : decode cX12_page 26 = .ok (.iload_n 1, 1) := by decide +kernel
theorem dX12_page_27 : decode cX12_page 27 = .ok (.if_icmp .eq 12, 3) := by decide +kernel
theorem dX12_page_30 : decode cX12_page 30 = .ok (.aload_n 0, 1) := by decide +kernel
theorem dX12_page_31 : decode cX12_page 31 = .ok (.iload_n 1, 1) := by decide +kernel
theorem dX12_page_32 : decode cX12_page 32 = .ok (.putfield 33, 3) := by decide +kernel
theorem dX12_page_35 : decode cX12_page 35 = .ok (.aload_n 0, 1) := by decide +kernel
theorem dX12_page_36 : decode cX12_page 36 = .ok (.invokevirtual 89, 3) := by decide +kernel
theorem dX12_page_39 : decode cX12_page 39 = .ok (.iload_n 2, 1) := by decide +kernel
theorem dX12_page_40 : decode cX12_page 40 = .ok (.ireturn, 1) := by decide +kernel
theorem dX12_x_0 : decode cX12_x 0 = .ok (.aload_n 0, 1) := by decide +kernel
theorem dX12_x_1 : decode cX12_x 1 = .ok (.iload_n 1, 1) := by decide +kernel
theorem dX12_x_2 : decode cX12_x 2 = .ok (.invokevirtual 141, 3) := by decide +kernel
theorem dX12_x_5 : decode cX12_x 5 = .ok (.iconst 0, 1) := by decide +kernel
theorem dX12_x_6 : decode cX12_x 6 = .ok (.aload_n 0, 1) := by decide +kernel
theorem dX12_x_7 : decode cX12_x 7 = .ok (.getfield 41, 3) := by decide +kernel
theorem dX12_x_10 : decode cX12_x 10 = .ok (.invokestatic 144, 3) := by decide +kernel
theorem dX12_x_13 : decode cX12_x 13 = .ok (.l2i, 1) := by decide +kernel
theorem dX12_x_14 : decode cX12_x 14 = .ok (.ireturn, 1) := by decide +kernel
theorem dX12_y_0 : decode cX12_y 0 = .ok (.aload_n 0, 1) := by decide +kernel
theorem dX12_y_1 : decode cX12_y 1 = .ok (.iload_n 1, 1) := by decide +kernel
theorem dX12_y_2 : decode cX12_y 2 = .ok (.invokevirtual 141, 3) := by decide +kernel
theorem dX12_y_5 : decode cX12_y 5 = .ok (.iconst 1, 1) := by decide +kernel
theorem dX12_y_6 : decode cX12_y 6 = .ok (.aload_n 0, 1) := by decide +kernel
theorem dX12_y_7 : decode cX12_y 7 = .ok (.getfield 41, 3) := by decide +kernel
theorem dX12_y_10 : decode cX12_y 10 = .ok (.invokestatic 144, 3) := by decide +kernel
theorem dX12_y_13 : decode cX12_y 13 = .ok (.l2i, 1) := by decide +kernel
theorem dX12_y_14 : decode cX12_y 14 = .ok (.ireturn, 1) := by decide +kernel
theorem dX12_width_0 : decode cX12_width 0 = .ok (.aload_n 0, 1) := by decide +kernel
theorem dX12_width_1 : decode cX12_width 1 = .ok (.iload_n 1, 1) := by decide +kernel
theorem dX12_width_2 : decode cX12_width 2 = .ok (.invokevirtual 141, 3) := by decide +kernel
theorem dX12_width_5 : decode cX12_width 5 = .ok (.iconst 2, 1) := by decide +kernel
theorem dX12_width_6 : decode cX12_width 6 = .ok (.aload_n 0, 1) := by decide +kernel
theorem dX12_width_7 : decode cX12_width 7 = .ok (.getfield 41, 3) := by decide +kernel
theorem dX12_width_10 : decode cX12_width 10 = .ok (.invokestatic 144, 3) := by decide +kernel
theorem dX12_width_13 : decode cX12_width 13 = .ok (.l2i, 1) := by decide +kernel
theorem dX12_width_14 : decode cX12_width 14 = .ok (.ireturn, 1) := by decide +kernel
theorem dX12_height_0 : decode cX12_height 0 = .ok (.aload_n 0, 1) := by decide +kernel
theorem dX12_height_1 : decode cX12_height 1 = .ok (.iload_n 1, 1) := by decide +kernel
theorem dX12_height_2 : decode cX12_height 2 = .ok (.invokevirtual 141, 3) := by decide +kernel
theorem dX12_height_5 : decode cX12_height 5 = .ok (.iconst 3, 1) := by decide +kernel
theorem dX12_height_6 : decode cX12_height 6 = .ok (.aload_n 0, 1) := by decide +kernel
theorem dX12_height_7 : decode cX12_height 7 = .ok (.getfield 41, 3) := by decide +kernel
theorem dX12_height_10 : decode cX12_height 10 = .ok (.invokestatic 144, 3) := by decide +kernel
theorem dX12_height_13 : decode cX12_height 13 = .ok (.l2i, 1) := by decide +kernel
theorem dX12_height_14 : decode cX12_height 14 = .ok (.ireturn, 1) := by decide +kernel
theorem dX12_fromNothing_0 : decode cX12_fromNothing 0 = .ok (.aload_n 0, 1) := by decide +kernel
theorem dX12_fromNothing_1 : decode cX12_fromNothing 1 = .ok (.iload_n 1, 1) := by decide +kernel
theorem dX12_fromNothing_2 : decode cX12_fromNothing 2 = .ok (.invokevirtual 111, 3) := by decide +kernel
theorem dX12_fromNothing_5 : decode cX12_fromNothing 5 = .ok (.ifnonnull 11, 3) := by decide +kernel
theorem dX12_fromNothing_8 : decode cX12_fromNothing 8 = .ok (.new 76, 3) := by decide +kernel
theorem dX12_fromNothing_11 : decode cX12_fromNothing 11 = .ok (.dup, 1) := by decide +kernel
theorem dX12_fromNothing_12 : decode cX12_fromNothing 12 = .ok (.invokespecial 78, 3) := by decide +kernel
theorem dX12_fromNothing_15 : decode cX12_fromNothing 15 = .ok (.athrow, 1) := by decide +kernel
theorem dX12_fromNothing_16 : decode cX12_fromNothing 16 = .ok (.iload_n 2, 1) := by decide +kernel
theorem dX12_fromNothing_17 : decode cX12_fromNothing 17 = .ok (.ifCond .lt 8, 3) := by decide +kernel
theorem dX12_fromNothing_20 : decode cX12_fromNothing 20 = .ok (.iload_n 2, 1) := by decide +kernel
theorem dX12_fromNothing_21 : decode cX12_fromNothing 21 = .ok (.iconst 3, 1) := by decide +kernel
theorem dX12_fromNothing_22 : decode cX12_fromNothing 22 = .ok (.if_icmp .le 11, 3) := by decide +kernel
theorem dX12_fromNothing_25 : decode cX12_fromNothing 25 = .ok (.new 92, 3) := by decide +kernel
theorem dX12_fromNothing_28 : decode cX12_fromNothing 28 = .ok (.dup, 1) := by decide +kernel
theorem dX12_fromNothing_29 : decode cX12_fromNothing 29 = .ok (.invokespecial 94, 3) := by decide +kernel
theorem dX12_fromNothing_32 : decode cX12_fromNothing 32 = .ok (.athrow, 1) := by decide +kernel
theorem dX12_fromNothing_33 : decode cX12_fromNothing 33 = .ok (.aload_n 0, 1) := by decide +kernel
theorem dX12_fromNothing_34 : decode cX12_fromNothing 34 = .ok (.iload_n 1, 1) := by decide +kernel
theorem dX12_fromNothing_35 : decode cX12_fromNothing 35 = .ok (.invokevirtual 141, 3) := by decide +kernel
theorem dX12_fromNothing_38 : decode cX12_fromNothing 38 = .ok (.astore_n 3, 1) := by decide +kernel
theorem dX12_fromNothing_39 : decode cX12_fromNothing 39 = .ok (.aload_n 0, 1) := by decide +kernel
theorem dX12_fromNothing_40 : decode cX12_fromNothing 40 = .ok (.getfield 45, 3) := by decide +kernel
theorem dX12_fromNothing_43 : decode cX12_fromNothing 43 = .ok (.aload_n 0, 1) := by decide +kernel
theorem dX12_fromNothing_44 : decode cX12_fromNothing 44 = .ok (.getfield 25, 3) := by decide +kernel
theorem dX12_fromNothing_47 : decode cX12_fromNothing 47 = .ok (.invokevirtual 148, 3) := by decide +kernel
theorem dX12_fromNothing_50 : decode cX12_fromNothing 50 = .ok (.aload_n 0, 1) := by decide +kernel
theorem dX12_fromNothing_51 : decode cX12_fromNothing 51 = .ok (.getfield 45, 3) := by decide +kernel
theorem dX12_fromNothing_54 : decode cX12_fromNothing 54 = .ok (.aload_n 0, 1) := by decide +kernel
theorem dX12_fromNothing_55 : decode cX12_fromNothing 55 = .ok (.getfield 25, 3) := by decide +kernel
theorem dX12_fromNothing_58 : decode cX12_fromNothing 58 = .ok (.aload_n 0, 1) := by decide +kernel
theorem dX12_fromNothing_59 : decode cX12_fromNothing 59 = .ok (.getfield 33, 3) := by decide +kernel
theorem dX12_fromNothing_62 : decode cX12_fromNothing 62 = .ok (.aload_n 0, 1) := by decide +kernel
theorem dX12_fromNothing_63 : decode cX12_fromNothing 63 = .ok (.getfield 151, 3) := by decide +kernel
theorem dX12_fromNothing_66 : decode cX12_fromNothing 66 = .ok (.invokevirtual 55, 3) := by decide +kernel
theorem dX12_fromNothing_69 : decode cX12_fromNothing 69 = .ok (.pop, 1) := by decide +kernel
theorem dX12_fromNothing_70 : decode cX12_fromNothing 70 = .ok (.aload_n 3, 1) := by decide +kernel
theorem dX12_fromNothing_71 : decode cX12_fromNothing 71 = .ok (.iload_n 2, 1) := by decide +kernel
theorem dX12_fromNothing_72 : decode cX12_fromNothing 72 = .ok (.aload_n 0, 1) := by decide +kernel
theorem dX12_fromNothing_73 : decode cX12_fromNothing 73 = .ok (.getfield 45, 3) := by decide +kernel
theorem dX12_fromNothing_76 : decode cX12_fromNothing 76 = .ok (.invokestatic 144, 3) := by decide +kernel
theorem dX12_fromNothing_79 : decode cX12_fromNothing 79 = .ok (.l2i, 1) := by decide +kernel
theorem dX12_fromNothing_80 : decode cX12_fromNothing 80 = .ok (.ireturn, 1) := by decide +kernel
theorem dX12_bars_0 : decode cX12_bars 0 = .ok (.aload_n 0, 1) := by decide +kernel
theorem dX12_bars_1 : decode cX12_bars 1 = .ok (.iload_n 1, 1) := by decide +kernel
theorem dX12_bars_2 : decode cX12_bars 2 = .ok (.invokevirtual 68, 3) := by decide +kernel
theorem dX12_bars_5 : decode cX12_bars 5 = .ok (.astore_n 2, 1) := by decide +kernel
theorem dX12_bars_6 : decode cX12_bars 6 = .ok (.aload_n 2, 1) := by decide +kernel
theorem dX12_bars_7 : decode cX12_bars 7 = .ok (.ifnonnull 11, 3) := by decide +kernel
theorem dX12_bars_10 : decode cX12_bars 10 = .ok (.new 76, 3) := by decide +kernel
theorem dX12_bars_13 : decode cX12_bars 13 = .ok (.dup, 1) := by decide +kernel
theorem dX12_bars_14 : decode cX12_bars 14 = .ok (.invokespecial 78, 3) := by decide +kernel
theorem dX12_bars_17 : decode cX12_bars 17 = .ok (.athrow, 1) := by decide +kernel
theorem dX12_bars_18 : decode cX12_bars 18 = .ok (.aload_n 2, 1) := by decide +kernel
theorem dX12_bars_19 : decode cX12_bars 19 = .ok (.getfield 166, 3) := by decide +kernel
theorem dX12_bars_22 : decode cX12_bars 22 = .ok (.getstatic 170, 3) := by decide +kernel
theorem dX12_bars_25 : decode cX12_bars 25 = .ok (.if_acmp .eq 13, 3) := by decide +kernel
theorem dX12_bars_28 : decode cX12_bars 28 = .ok (.aload_n 2, 1) := by decide +kernel
theorem dX12_bars_29 : decode cX12_bars 29 = .ok (.getfield 166, 3) := by decide +kernel
theorem dX12_bars_32 : decode cX12_bars 32 = .ok (.getstatic 175, 3) := by decide +kernel
theorem dX12_bars_35 : decode cX12_bars 35 = .ok (.if_acmp .ne 11, 3) := by decide +kernel
theorem dX12_bars_38 : decode cX12_bars 38 = .ok (.new 83, 3) := by decide +kernel
theorem dX12_bars_41 : decode cX12_bars 41 = .ok (.dup, 1) := by decide +kernel
theorem dX12_bars_42 : decode cX12_bars 42 = .ok (.invokespecial 85, 3) := by decide +kernel
theorem dX12_bars_45 : decode cX12_bars 45 = .ok (.athrow, 1) := by decide +kernel
theorem dX12_bars_46 : decode cX12_bars 46 = .ok (.aload_n 2, 1) := by decide +kernel
theorem dX12_bars_47 : decode cX12_bars 47 = .ok (.getfield 178, 3) := by decide +kernel
theorem dX12_bars_50 : decode cX12_bars 50 = .ok (.ifCond .eq 13, 3) := by decide +kernel
theorem dX12_bars_53 : decode cX12_bars 53 = .ok (.aload_n 2, 1) := by decide +kernel
theorem dX12_bars_54 : decode cX12_bars 54 = .ok (.getfield 182, 3) := by decide +kernel
theorem dX12_bars_57 : decode cX12_bars 57 = .ok (.getfield 185, 3) := by decide +kernel
theorem dX12_bars_60 : decode cX12_bars 60 = .ok (.goto 4, 3) := by decide +kernel
theorem dX12_bars_63 : decode cX12_bars 63 = .ok (.iconst 0, 1) := by decide +kernel
theorem dX12_bars_64 : decode cX12_bars 64 = .ok (.ireturn, 1) := by decide +kernel
theorem dX12_lines_0 : decode cX12_lines 0 = .ok (.aload_n 0, 1) := by decide +kernel
theorem dX12_lines_1 : decode cX12_lines 1 = .ok (.iload_n 1, 1) := by decide +kernel
theorem dX12_lines_2 : decode cX12_lines 2 = .ok (.invokevirtual 68, 3) := by decide +kernel
theorem dX12_lines_5 : decode cX12_lines 5 = .ok (.astore_n 2, 1) := by decide +kernel
theorem dX12_lines_6 : decode cX12_lines 6 = .ok (.aload_n 2, 1) := by decide +kernel
theorem dX12_lines_7 : decode cX12_lines 7 = .ok (.ifnonnull 11, 3) := by decide +kernel
theorem dX12_lines_10 : decode cX12_lines 10 = .ok (.new 76, 3) := by decide +kernel
theorem dX12_lines_13 : decode cX12_lines 13 = .ok (.dup, 1) := by decide +kernel
theorem dX12_lines_14 : decode cX12_lines 14 = .ok (.invokespecial 78, 3) := by decide +kernel
theorem dX12_lines_17 : decode cX12_lines 17 = .ok (.athrow, 1) := by decide +kernel
theorem dX12_lines_18 : decode cX12_lines 18 = .ok (.aload_n 2, 1) := by decide +kernel
theorem dX12_lines_19 : decode cX12_lines 19 = .ok (.invokevirtual 190, 3) := by decide +kernel
theorem dX12_lines_22 : decode cX12_lines 22 = .ok (.ifCond .ne 11, 3) := by decide +kernel
theorem dX12_lines_25 : decode cX12_lines 25 = .ok (.new 83, 3) := by decide +kernel
theorem dX12_lines_28 : decode cX12_lines 28 = .ok (.dup, 1) := by decide +kernel
theorem dX12_lines_29 : decode cX12_lines 29 = .ok (.invokespecial 85, 3) := by decide +kernel
theorem dX12_lines_32 : decode cX12_lines 32 = .ok (.athrow, 1) := by decide +kernel
theorem dX12_lines_33 : decode cX12_lines 33 = .ok (.iconst 0, 1) := by decide +kernel
theorem dX12_lines_34 : decode cX12_lines 34 = .ok (.istore_n 3, 1) := by decide +kernel
theorem dX12_lines_35 : decode cX12_lines 35 = .ok (.aload_n 2, 1) := by decide +kernel
theorem dX12_lines_36 : decode cX12_lines 36 = .ok (.getfield 182, 3) := by decide +kernel
theorem dX12_lines_39 : decode cX12_lines 39 = .ok (.getfield 194, 3) := by decide +kernel
theorem dX12_lines_42 : decode cX12_lines 42 = .ok (.astore 4, 2) := by decide +kernel
theorem dX12_lines_44 : decode cX12_lines 44 = .ok (.aload 4, 2) := by decide +kernel
theorem dX12_lines_46 : decode cX12_lines 46 = .ok (.ifnull 16, 3) := by decide +kernel
theorem dX12_lines_49 : decode cX12_lines 49 = .ok (.iinc 3 1, 3) := by decide +kernel
theorem dX12_lines_52 : decode cX12_lines 52 = .ok (.aload 4, 2) := by decide +kernel
theorem dX12_lines_54 : decode cX12_lines 54 = .ok (.getfield 198, 3) := by decide +kernel
theorem dX12_lines_57 : decode cX12_lines 57 = .ok (.astore 4, 2) := by decide +kernel
theorem dX12_lines_59 : decode cX12_lines 59 = .ok (.goto (-15), 3) := by decide +kernel
theorem dX12_lines_62 : decode cX12_lines 62 = .ok (.iload_n 3, 1) := by decide +kernel
theorem dX12_lines_63 : decode cX12_lines 63 = .ok (.ireturn, 1) := by decide +kernel
theorem dX12_line_0 : decode cX12_line 0 = .ok (.aload_n 0, 1) := by decide +kernel
theorem dX12_line_1 : decode cX12_line 1 = .ok (.iload_n 1, 1) := by decide +kernel
theorem dX12_line_2 : decode cX12_line 2 = .ok (.invokevirtual 68, 3) := by decide +kernel
theorem dX12_line_5 : decode cX12_line 5 = .ok (.astore 4, 2) := by decide +kernel
theorem dX12_line_7 : decode cX12_line 7 = .ok (.aload 4, 2) := by decide +kernel
theorem dX12_line_9 : decode cX12_line 9 = .ok (.ifnonnull 11, 3) := by decide +kernel
theorem dX12_line_12 : decode cX12_line 12 = .ok (.new 76, 3) := by decide +kernel
theorem dX12_line_15 : decode cX12_line 15 = .ok (.dup, 1) := by decide +kernel
theorem dX12_line_16 : decode cX12_line 16 = .ok (.invokespecial 78, 3) := by decide +kernel
theorem dX12_line_19 : decode cX12_line 19 = .ok (.athrow, 1) := by decide +kernel
theorem dX12_line_20 : decode cX12_line 20 = .ok (.iload_n 3, 1) := by decide +kernel
theorem dX12_line_21 : decode cX12_line 21 = .ok (.ifCond .lt 8, 3) := by decide +kernel
theorem dX12_line_24 : decode cX12_line 24 = .ok (.iload_n 3, 1) := by decide +kernel
theorem dX12_line_25 : decode cX12_line 25 = .ok (.iconst 4, 1) := by decide +kernel
theorem dX12_line_26 : decode cX12_line 26 = .ok (.if_icmp .le 7, 3) := by decide +kernel
theorem dX12_line_29 : decode cX12_line 29 = .ok (.iconst 1, 1) := by decide +kernel
theorem dX12_line_30 : decode cX12_line 30 = .ok (.goto 4, 3) := by decide +kernel
theorem dX12_line_33 : decode cX12_line 33 = .ok (.iconst 0, 1) := by decide +kernel
theorem dX12_line_34 : decode cX12_line 34 = .ok (.istore 5, 2) := by decide +kernel
theorem dX12_line_36 : decode cX12_line 36 = .ok (.aload 4, 2) := by decide +kernel
theorem dX12_line_38 : decode cX12_line 38 = .ok (.invokevirtual 190, 3) := by decide +kernel
theorem dX12_line_41 : decode cX12_line 41 = .ok (.ifCond .ne 24, 3) := by decide +kernel
theorem dX12_line_44 : decode cX12_line 44 = .ok (.iload 5, 2) := by decide +kernel
theorem dX12_line_46 : decode cX12_line 46 = .ok (.ifCond .eq 11, 3) := by decide +kernel
theorem dX12_line_49 : decode cX12_line 49 = .ok (.new 92, 3) := by decide +kernel
theorem dX12_line_52 : decode cX12_line 52 = .ok (.dup, 1) := by decide +kernel
theorem dX12_line_53 : decode cX12_line 53 = .ok (.invokespecial 94, 3) := by decide +kernel
theorem dX12_line_56 : decode cX12_line 56 = .ok (.athrow, 1) := by decide +kernel
theorem dX12_line_57 : decode cX12_line 57 = .ok (.new 83, 3) := by decide +kernel
theorem dX12_line_60 : decode cX12_line 60 = .ok (.dup, 1) := by decide +kernel
theorem dX12_line_61 : decode cX12_line 61 = .ok (.invokespecial 85, 3) := by decide +kernel
theorem dX12_line_64 : decode cX12_line 64 = .ok (.athrow, 1) := by decide +kernel
theorem dX12_line_65 : decode cX12_line 65 = .ok (.aload 4, 2) := by decide +kernel
theorem dX12_line_67 : decode cX12_line 67 = .ok (.iload_n 2, 1) := by decide +kernel
theorem dX12_line_68 : decode cX12_line 68 = .ok (.invokestatic 203, 3) := by decide +kernel
theorem dX12_line_71 : decode cX12_line 71 = .ok (.astore 6, 2) := by decide +kernel
theorem dX12_line_73 : decode cX12_line 73 = .ok (.aload 6, 2) := by decide +kernel
theorem dX12_line_75 : decode cX12_line 75 = .ok (.ifnonnull 11, 3) := by decide +kernel
theorem dX12_line_78 : decode cX12_line 78 = .ok (.new 76, 3) := by decide +kernel
theorem dX12_line_81 : decode cX12_line 81 = .ok (.dup, 1) := by decide +kernel
theorem dX12_line_82 : decode cX12_line 82 = .ok (.invokespecial 78, 3) := by decide +kernel
theorem dX12_line_85 : decode cX12_line 85 = .ok (.athrow, 1) := by decide +kernel
theorem dX12_line_86 : decode cX12_line 86 = .ok (.iload 5, 2) := by decide +kernel
theorem dX12_line_88 : decode cX12_line 88 = .ok (.ifCond .eq 11, 3) := by decide +kernel
theorem dX12_line_91 : decode cX12_line 91 = .ok (.new 92, 3) := by decide +kernel
theorem dX12_line_94 : decode cX12_line 94 = .ok (.dup, 1) := by decide +kernel
theorem dX12_line_95 : decode cX12_line 95 = .ok (.invokespecial 94, 3) := by decide +kernel
theorem dX12_line_98 : decode cX12_line 98 = .ok (.athrow, 1) := by decide +kernel
theorem dX12_line_99 : decode cX12_line 99 = .ok (.iload_n 3, 1) := by decide +kernel
theorem dX12_line_100 : decode cX12_line 100 = .ok (.tableswitch 77 0 3 #[32, 48, 65, 71], 32) := by decide +kernel
theorem dX12_line_132 : decode cX12_line 132 = .ok (.aload 4, 2) := by decide +kernel
theorem dX12_line_134 : decode cX12_line 134 = .ok (.getfield 182, 3) := by decide +kernel
theorem dX12_line_137 : decode cX12_line 137 = .ok (.getfield 207, 3) := by decide +kernel
theorem dX12_line_140 : decode cX12_line 140 = .ok (.aload 6, 2) := by decide +kernel
theorem dX12_line_142 : decode cX12_line 142 = .ok (.getfield 211, 3) := by decide +kernel
theorem dX12_line_145 : decode cX12_line 145 = .ok (.ladd, 1) := by decide +kernel
theorem dX12_line_146 : decode cX12_line 146 = .ok (.l2i, 1) := by decide +kernel
theorem dX12_line_147 : decode cX12_line 147 = .ok (.ireturn, 1) := by decide +kernel
theorem dX12_line_148 : decode cX12_line 148 = .ok (.aload 4, 2) := by decide +kernel
theorem dX12_line_150 : decode cX12_line 150 = .ok (.getfield 182, 3) := by decide +kernel
theorem dX12_line_153 : decode cX12_line 153 = .ok (.getfield 214, 3) := by decide +kernel
theorem dX12_line_156 : decode cX12_line 156 = .ok (.aload 6, 2) := by decide +kernel
theorem dX12_line_158 : decode cX12_line 158 = .ok (.getfield 217, 3) := by decide +kernel
theorem dX12_line_161 : decode cX12_line 161 = .ok (.i2l, 1) := by decide +kernel
theorem dX12_line_162 : decode cX12_line 162 = .ok (.ladd, 1) := by decide +kernel
theorem dX12_line_163 : decode cX12_line 163 = .ok (.l2i, 1) := by decide +kernel
theorem dX12_line_164 : decode cX12_line 164 = .ok (.ireturn, 1) := by decide +kernel
theorem dX12_line_165 : decode cX12_line 165 = .ok (.aload 6, 2) := by decide +kernel
theorem dX12_line_167 : decode cX12_line 167 = .ok (.getfield 220, 3) := by decide +kernel
theorem dX12_line_170 : decode cX12_line 170 = .ok (.ireturn, 1) := by decide +kernel
theorem dX12_line_171 : decode cX12_line 171 = .ok (.aload 6, 2) := by decide +kernel
theorem dX12_line_173 : decode cX12_line 173 = .ok (.getfield 223, 3) := by decide +kernel
theorem dX12_line_176 : decode cX12_line 176 = .ok (.ireturn, 1) := by decide +kernel
theorem dX12_line_177 : decode cX12_line 177 = .ok (.aload 6, 2) := by decide +kernel
theorem dX12_line_179 : decode cX12_line 179 = .ok (.getfield 226, 3) := by decide +kernel
theorem dX12_line_182 : decode cX12_line 182 = .ok (.ireturn, 1) := by decide +kernel
theorem dX12_painted_0 : decode cX12_painted 0 = .ok (.aload_n 0, 1) := by decide +kernel
theorem dX12_painted_1 : decode cX12_painted 1 = .ok (.getfield 51, 3) := by decide +kernel
theorem dX12_painted_4 : decode cX12_painted 4 = .ok (.getfield 233, 3) := by decide +kernel
theorem dX12_painted_7 : decode cX12_painted 7 = .ok (.ireturn, 1) := by decide +kernel
theorem dX12_nodeAt_0 : decode cX12_nodeAt 0 = .ok (.iload_n 1, 1) := by decide +kernel
theorem dX12_nodeAt_1 : decode cX12_nodeAt 1 = .ok (.ifCond .lt 9, 3) := by decide +kernel
theorem dX12_nodeAt_4 : decode cX12_nodeAt 4 = .ok (.iload_n 1, 1) := by decide +kernel
theorem dX12_nodeAt_5 : decode cX12_nodeAt 5 = .ok (.bipush 60, 2) := by decide +kernel
theorem dX12_nodeAt_7 : decode cX12_nodeAt 7 = .ok (.if_icmp .lt 7, 3) := by decide +kernel
theorem dX12_nodeAt_10 : decode cX12_nodeAt 10 = .ok (.aconst_null, 1) := by decide +kernel
theorem dX12_nodeAt_11 : decode cX12_nodeAt 11 = .ok (.goto 9, 3) := by decide +kernel
theorem dX12_nodeAt_14 : decode cX12_nodeAt 14 = .ok (.aload_n 0, 1) := by decide +kernel
theorem dX12_nodeAt_15 : decode cX12_nodeAt 15 = .ok (.getfield 21, 3) := by decide +kernel
theorem dX12_nodeAt_18 : decode cX12_nodeAt 18 = .ok (.iload_n 1, 1) := by decide +kernel
theorem dX12_nodeAt_19 : decode cX12_nodeAt 19 = .ok (.aaload, 1) := by decide +kernel
theorem dX12_nodeAt_20 : decode cX12_nodeAt 20 = .ok (.areturn, 1) := by decide +kernel
theorem dX12_boxAt_0 : decode cX12_boxAt 0 = .ok (.aload_n 0, 1) := by decide +kernel
theorem dX12_boxAt_1 : decode cX12_boxAt 1 = .ok (.iload_n 1, 1) := by decide +kernel
theorem dX12_boxAt_2 : decode cX12_boxAt 2 = .ok (.invokevirtual 111, 3) := by decide +kernel
theorem dX12_boxAt_5 : decode cX12_boxAt 5 = .ok (.astore_n 2, 1) := by decide +kernel
theorem dX12_boxAt_6 : decode cX12_boxAt 6 = .ok (.aload_n 2, 1) := by decide +kernel
theorem dX12_boxAt_7 : decode cX12_boxAt 7 = .ok (.ifnull 10, 3) := by decide +kernel
theorem dX12_boxAt_10 : decode cX12_boxAt 10 = .ok (.aload_n 2, 1) := by decide +kernel
theorem dX12_boxAt_11 : decode cX12_boxAt 11 = .ok (.invokevirtual 243, 3) := by decide +kernel
theorem dX12_boxAt_14 : decode cX12_boxAt 14 = .ok (.ifCond .eq 7, 3) := by decide +kernel
theorem dX12_boxAt_17 : decode cX12_boxAt 17 = .ok (.aconst_null, 1) := by decide +kernel
theorem dX12_boxAt_18 : decode cX12_boxAt 18 = .ok (.goto 4, 3) := by decide +kernel
theorem dX12_boxAt_21 : decode cX12_boxAt 21 = .ok (.aload_n 2, 1) := by decide +kernel
theorem dX12_boxAt_22 : decode cX12_boxAt 22 = .ok (.areturn, 1) := by decide +kernel
theorem dX12_textAt_0 : decode cX12_textAt 0 = .ok (.aload_n 0, 1) := by decide +kernel
theorem dX12_textAt_1 : decode cX12_textAt 1 = .ok (.iload_n 1, 1) := by decide +kernel
theorem dX12_textAt_2 : decode cX12_textAt 2 = .ok (.invokevirtual 111, 3) := by decide +kernel
theorem dX12_textAt_5 : decode cX12_textAt 5 = .ok (.astore_n 2, 1) := by decide +kernel
theorem dX12_textAt_6 : decode cX12_textAt 6 = .ok (.aload_n 2, 1) := by decide +kernel
theorem dX12_textAt_7 : decode cX12_textAt 7 = .ok (.ifnull 10, 3) := by decide +kernel
theorem dX12_textAt_10 : decode cX12_textAt 10 = .ok (.aload_n 2, 1) := by decide +kernel
theorem dX12_textAt_11 : decode cX12_textAt 11 = .ok (.invokevirtual 243, 3) := by decide +kernel
theorem dX12_textAt_14 : decode cX12_textAt 14 = .ok (.ifCond .ne 7, 3) := by decide +kernel
theorem dX12_textAt_17 : decode cX12_textAt 17 = .ok (.aconst_null, 1) := by decide +kernel
theorem dX12_textAt_18 : decode cX12_textAt 18 = .ok (.goto 4, 3) := by decide +kernel
theorem dX12_textAt_21 : decode cX12_textAt 21 = .ok (.aload_n 2, 1) := by decide +kernel
theorem dX12_textAt_22 : decode cX12_textAt 22 = .ok (.areturn, 1) := by decide +kernel
theorem dX12_placedAt_0 : decode cX12_placedAt 0 = .ok (.aload_n 0, 1) := by decide +kernel
theorem dX12_placedAt_1 : decode cX12_placedAt 1 = .ok (.iload_n 1, 1) := by decide +kernel
theorem dX12_placedAt_2 : decode cX12_placedAt 2 = .ok (.invokevirtual 111, 3) := by decide +kernel
theorem dX12_placedAt_5 : decode cX12_placedAt 5 = .ok (.astore_n 2, 1) := by decide +kernel
theorem dX12_placedAt_6 : decode cX12_placedAt 6 = .ok (.aload_n 2, 1) := by decide +kernel
theorem dX12_placedAt_7 : decode cX12_placedAt 7 = .ok (.ifnonnull 11, 3) := by decide +kernel
theorem dX12_placedAt_10 : decode cX12_placedAt 10 = .ok (.new 76, 3) := by decide +kernel
theorem dX12_placedAt_13 : decode cX12_placedAt 13 = .ok (.dup, 1) := by decide +kernel
theorem dX12_placedAt_14 : decode cX12_placedAt 14 = .ok (.invokespecial 78, 3) := by decide +kernel
theorem dX12_placedAt_17 : decode cX12_placedAt 17 = .ok (.athrow, 1) := by decide +kernel
theorem dX12_placedAt_18 : decode cX12_placedAt 18 = .ok (.aload_n 2, 1) := by decide +kernel
theorem dX12_placedAt_19 : decode cX12_placedAt 19 = .ok (.invokevirtual 243, 3) := by decide +kernel
theorem dX12_placedAt_22 : decode cX12_placedAt 22 = .ok (.ifCond .eq 14, 3) := by decide +kernel
theorem dX12_placedAt_25 : decode cX12_placedAt 25 = .ok (.aload_n 2, 1) := by decide +kernel
theorem dX12_placedAt_26 : decode cX12_placedAt 26 = .ok (.getfield 98, 3) := by decide +kernel
theorem dX12_placedAt_29 : decode cX12_placedAt 29 = .ok (.ifCond .ne 7, 3) := by decide +kernel
theorem dX12_placedAt_32 : decode cX12_placedAt 32 = .ok (.iconst 1, 1) := by decide +kernel
theorem dX12_placedAt_33 : decode cX12_placedAt 33 = .ok (.goto 4, 3) := by decide +kernel
theorem dX12_placedAt_36 : decode cX12_placedAt 36 = .ok (.iconst 0, 1) := by decide +kernel
theorem dX12_placedAt_37 : decode cX12_placedAt 37 = .ok (.istore_n 3, 1) := by decide +kernel
theorem dX12_placedAt_38 : decode cX12_placedAt 38 = .ok (.aload_n 2, 1) := by decide +kernel
theorem dX12_placedAt_39 : decode cX12_placedAt 39 = .ok (.getfield 166, 3) := by decide +kernel
theorem dX12_placedAt_42 : decode cX12_placedAt 42 = .ok (.getstatic 170, 3) := by decide +kernel
theorem dX12_placedAt_45 : decode cX12_placedAt 45 = .ok (.if_acmp .eq 17, 3) := by decide +kernel
theorem dX12_placedAt_48 : decode cX12_placedAt 48 = .ok (.aload_n 2, 1) := by decide +kernel
theorem dX12_placedAt_49 : decode cX12_placedAt 49 = .ok (.getfield 166, 3) := by decide +kernel
theorem dX12_placedAt_52 : decode cX12_placedAt 52 = .ok (.getstatic 175, 3) := by decide +kernel
theorem dX12_placedAt_55 : decode cX12_placedAt 55 = .ok (.if_acmp .eq 7, 3) := by decide +kernel
theorem dX12_placedAt_58 : decode cX12_placedAt 58 = .ok (.iload_n 3, 1) := by decide +kernel
theorem dX12_placedAt_59 : decode cX12_placedAt 59 = .ok (.ifCond .eq 11, 3) := by decide +kernel
theorem dX12_placedAt_62 : decode cX12_placedAt 62 = .ok (.new 83, 3) := by decide +kernel
theorem dX12_placedAt_65 : decode cX12_placedAt 65 = .ok (.dup, 1) := by decide +kernel
theorem dX12_placedAt_66 : decode cX12_placedAt 66 = .ok (.invokespecial 85, 3) := by decide +kernel
theorem dX12_placedAt_69 : decode cX12_placedAt 69 = .ok (.athrow, 1) := by decide +kernel
theorem dX12_placedAt_70 : decode cX12_placedAt 70 = .ok (.aload_n 2, 1) := by decide +kernel
theorem dX12_placedAt_71 : decode cX12_placedAt 71 = .ok (.areturn, 1) := by decide +kernel
theorem dX12_lineAt_0 : decode cX12_lineAt 0 = .ok (.iload_n 1, 1) := by decide +kernel
theorem dX12_lineAt_1 : decode cX12_lineAt 1 = .ok (.istore_n 2, 1) := by decide +kernel
theorem dX12_lineAt_2 : decode cX12_lineAt 2 = .ok (.iload_n 2, 1) := by decide +kernel
theorem dX12_lineAt_3 : decode cX12_lineAt 3 = .ok (.ifCond .ge 5, 3) := by decide +kernel
theorem dX12_lineAt_6 : decode cX12_lineAt 6 = .ok (.aconst_null, 1) := by decide +kernel
theorem dX12_lineAt_7 : decode cX12_lineAt 7 = .ok (.areturn, 1) := by decide +kernel
theorem dX12_lineAt_8 : decode cX12_lineAt 8 = .ok (.aload_n 0, 1) := by decide +kernel
theorem dX12_lineAt_9 : decode cX12_lineAt 9 = .ok (.getfield 182, 3) := by decide +kernel
theorem dX12_lineAt_12 : decode cX12_lineAt 12 = .ok (.getfield 194, 3) := by decide +kernel
theorem dX12_lineAt_15 : decode cX12_lineAt 15 = .ok (.astore_n 3, 1) := by decide +kernel
theorem dX12_lineAt_16 : decode cX12_lineAt 16 = .ok (.aload_n 3, 1) := by decide +kernel
theorem dX12_lineAt_17 : decode cX12_lineAt 17 = .ok (.ifnull 18, 3) := by decide +kernel
theorem dX12_lineAt_20 : decode cX12_lineAt 20 = .ok (.iload_n 2, 1) := by decide +kernel
theorem dX12_lineAt_21 : decode cX12_lineAt 21 = .ok (.ifCond .le 14, 3) := by decide +kernel
theorem dX12_lineAt_24 : decode cX12_lineAt 24 = .ok (.aload_n 3, 1) := by decide +kernel
theorem dX12_lineAt_25 : decode cX12_lineAt 25 = .ok (.getfield 198, 3) := by decide +kernel
theorem dX12_lineAt_28 : decode cX12_lineAt 28 = .ok (.astore_n 3, 1) := by decide +kernel
theorem dX12_lineAt_29 : decode cX12_lineAt 29 = .ok (.iinc 2 (-1), 3) := by decide +kernel
theorem dX12_lineAt_32 : decode cX12_lineAt 32 = .ok (.goto (-16), 3) := by decide +kernel
theorem dX12_lineAt_35 : decode cX12_lineAt 35 = .ok (.aload_n 3, 1) := by decide +kernel
theorem dX12_lineAt_36 : decode cX12_lineAt 36 = .ok (.areturn, 1) := by decide +kernel
theorem dX12_hasRoom_0 : decode cX12_hasRoom 0 = .ok (.aload_n 0, 1) := by decide +kernel
theorem dX12_hasRoom_1 : decode cX12_hasRoom 1 = .ok (.getfield 29, 3) := by decide +kernel
theorem dX12_hasRoom_4 : decode cX12_hasRoom 4 = .ok (.bipush 60, 2) := by decide +kernel
theorem dX12_hasRoom_6 : decode cX12_hasRoom 6 = .ok (.if_icmp .ge 16, 3) := by decide +kernel
theorem dX12_hasRoom_9 : decode cX12_hasRoom 9 = .ok (.aload_n 1, 1) := by decide +kernel
theorem dX12_hasRoom_10 : decode cX12_hasRoom 10 = .ok (.getfield 249, 3) := by decide +kernel
theorem dX12_hasRoom_13 : decode cX12_hasRoom 13 = .ok (.bipush 20, 2) := by decide +kernel
theorem dX12_hasRoom_15 : decode cX12_hasRoom 15 = .ok (.if_icmp .ge 7, 3) := by decide +kernel
theorem dX12_hasRoom_18 : decode cX12_hasRoom 18 = .ok (.iconst 1, 1) := by decide +kernel
theorem dX12_hasRoom_19 : decode cX12_hasRoom 19 = .ok (.goto 4, 3) := by decide +kernel
theorem dX12_hasRoom_22 : decode cX12_hasRoom 22 = .ok (.iconst 0, 1) := by decide +kernel
theorem dX12_hasRoom_23 : decode cX12_hasRoom 23 = .ok (.ireturn, 1) := by decide +kernel
theorem dX12_insertNode_0 : decode cX12_insertNode 0 = .ok (.aload_n 0, 1) := by decide +kernel
theorem dX12_insertNode_1 : decode cX12_insertNode 1 = .ok (.getfield 29, 3) := by decide +kernel
theorem dX12_insertNode_4 : decode cX12_insertNode 4 = .ok (.istore 4, 2) := by decide +kernel
theorem dX12_insertNode_6 : decode cX12_insertNode 6 = .ok (.iload 4, 2) := by decide +kernel
theorem dX12_insertNode_8 : decode cX12_insertNode 8 = .ok (.ifCond .lt 10, 3) := by decide +kernel
theorem dX12_insertNode_11 : decode cX12_insertNode 11 = .ok (.iload 4, 2) := by decide +kernel
theorem dX12_insertNode_13 : decode cX12_insertNode 13 = .ok (.bipush 60, 2) := by decide +kernel
theorem dX12_insertNode_15 : decode cX12_insertNode 15 = .ok (.if_icmp .lt 5, 3) := by decide +kernel
theorem dX12_insertNode_18 : decode cX12_insertNode 18 = .ok (.iconst (-1), 1) := by decide +kernel
theorem dX12_insertNode_19 : decode cX12_insertNode 19 = .ok (.ireturn, 1) := by decide +kernel
theorem dX12_insertNode_20 : decode cX12_insertNode 20 = .ok (.new 7, 3) := by decide +kernel
theorem dX12_insertNode_23 : decode cX12_insertNode 23 = .ok (.dup, 1) := by decide +kernel
theorem dX12_insertNode_24 : decode cX12_insertNode 24 = .ok (.iload 4, 2) := by decide +kernel
theorem dX12_insertNode_26 : decode cX12_insertNode 26 = .ok (.aload_n 1, 1) := by decide +kernel
theorem dX12_insertNode_27 : decode cX12_insertNode 27 = .ok (.iload_n 3, 1) := by decide +kernel
theorem dX12_insertNode_28 : decode cX12_insertNode 28 = .ok (.invokespecial 9, 3) := by decide +kernel
theorem dX12_insertNode_31 : decode cX12_insertNode 31 = .ok (.astore 5, 2) := by decide +kernel
theorem dX12_insertNode_33 : decode cX12_insertNode 33 = .ok (.aload_n 0, 1) := by decide +kernel
theorem dX12_insertNode_34 : decode cX12_insertNode 34 = .ok (.getfield 21, 3) := by decide +kernel
theorem dX12_insertNode_37 : decode cX12_insertNode 37 = .ok (.iload 4, 2) := by decide +kernel
theorem dX12_insertNode_39 : decode cX12_insertNode 39 = .ok (.aload 5, 2) := by decide +kernel
theorem dX12_insertNode_41 : decode cX12_insertNode 41 = .ok (.aastore, 1) := by decide +kernel
theorem dX12_insertNode_42 : decode cX12_insertNode 42 = .ok (.aload_n 0, 1) := by decide +kernel
theorem dX12_insertNode_43 : decode cX12_insertNode 43 = .ok (.dup, 1) := by decide +kernel
theorem dX12_insertNode_44 : decode cX12_insertNode 44 = .ok (.getfield 29, 3) := by decide +kernel
theorem dX12_insertNode_47 : decode cX12_insertNode 47 = .ok (.iconst 1, 1) := by decide +kernel
theorem dX12_insertNode_48 : decode cX12_insertNode 48 = .ok (.iadd, 1) := by decide +kernel
theorem dX12_insertNode_49 : decode cX12_insertNode 49 = .ok (.putfield 29, 3) := by decide +kernel
theorem dX12_insertNode_52 : decode cX12_insertNode 52 = .ok (.aload_n 1, 1) := by decide +kernel
theorem dX12_insertNode_53 : decode cX12_insertNode 53 = .ok (.aload 5, 2) := by decide +kernel
theorem dX12_insertNode_55 : decode cX12_insertNode 55 = .ok (.iload_n 2, 1) := by decide +kernel
theorem dX12_insertNode_56 : decode cX12_insertNode 56 = .ok (.invokevirtual 252, 3) := by decide +kernel
theorem dX12_insertNode_59 : decode cX12_insertNode 59 = .ok (.aload_n 0, 1) := by decide +kernel
theorem dX12_insertNode_60 : decode cX12_insertNode 60 = .ok (.aload_n 1, 1) := by decide +kernel
theorem dX12_insertNode_61 : decode cX12_insertNode 61 = .ok (.invokevirtual 108, 3) := by decide +kernel
theorem dX12_insertNode_64 : decode cX12_insertNode 64 = .ok (.iload 4, 2) := by decide +kernel
theorem dX12_insertNode_66 : decode cX12_insertNode 66 = .ok (.ireturn, 1) := by decide +kernel
theorem dX12_allows_0 : decode cX12_allows 0 = .ok (.iload_n 0, 1) := by decide +kernel
theorem dX12_allows_1 : decode cX12_allows 1 = .ok (.tableswitch 274 0 20 #[99, 114, 99, 114, 129, 155, 274, 274, 274, 274, 274, 274, 274, 274, 114, 180, 198, 216, 232, 232, 259], 99) := by decide +kernel
theorem dX12_allows_100 : decode cX12_allows 100 = .ok (.iload_n 1, 1) := by decide +kernel
theorem dX12_allows_101 : decode cX12_allows 101 = .ok (.ifCond .lt 12, 3) := by decide +kernel
theorem dX12_allows_104 : decode cX12_allows 104 = .ok (.iload_n 1, 1) := by decide +kernel
theorem dX12_allows_105 : decode cX12_allows 105 = .ok (.iconst 3, 1) := by decide +kernel
theorem dX12_allows_106 : decode cX12_allows 106 = .ok (.if_icmp .gt 7, 3) := by decide +kernel
theorem dX12_allows_109 : decode cX12_allows 109 = .ok (.iconst 1, 1) := by decide +kernel
theorem dX12_allows_110 : decode cX12_allows 110 = .ok (.goto 4, 3) := by decide +kernel
theorem dX12_allows_113 : decode cX12_allows 113 = .ok (.iconst 0, 1) := by decide +kernel
theorem dX12_allows_114 : decode cX12_allows 114 = .ok (.ireturn, 1) := by decide +kernel
theorem dX12_allows_115 : decode cX12_allows 115 = .ok (.iload_n 1, 1) := by decide +kernel
theorem dX12_allows_116 : decode cX12_allows 116 = .ok (.ifCond .lt 12, 3) := by decide +kernel
theorem dX12_allows_119 : decode cX12_allows 119 = .ok (.iload_n 1, 1) := by decide +kernel
theorem dX12_allows_120 : decode cX12_allows 120 = .ok (.iconst 2, 1) := by decide +kernel
theorem dX12_allows_121 : decode cX12_allows 121 = .ok (.if_icmp .gt 7, 3) := by decide +kernel
theorem dX12_allows_124 : decode cX12_allows 124 = .ok (.iconst 1, 1) := by decide +kernel
theorem dX12_allows_125 : decode cX12_allows 125 = .ok (.goto 4, 3) := by decide +kernel
theorem dX12_allows_128 : decode cX12_allows 128 = .ok (.iconst 0, 1) := by decide +kernel
theorem dX12_allows_129 : decode cX12_allows 129 = .ok (.ireturn, 1) := by decide +kernel
theorem dX12_allows_130 : decode cX12_allows 130 = .ok (.iload_n 1, 1) := by decide +kernel
theorem dX12_allows_131 : decode cX12_allows 131 = .ok (.bipush (-4), 2) := by decide +kernel
theorem dX12_allows_133 : decode cX12_allows 133 = .ok (.if_icmp .lt 10, 3) := by decide +kernel
theorem dX12_allows_136 : decode cX12_allows 136 = .ok (.iload_n 1, 1) := by decide +kernel
theorem dX12_allows_137 : decode cX12_allows 137 = .ok (.sipush 200, 3) := by decide +kernel
theorem dX12_allows_140 : decode cX12_allows 140 = .ok (.if_icmp .le 10, 3) := by decide +kernel
theorem dX12_allows_143 : decode cX12_allows 143 = .ok (.iload_n 1, 1) := by decide +kernel
theorem dX12_allows_144 : decode cX12_allows 144 = .ok (.invokestatic 256, 3) := by decide +kernel
theorem dX12_allows_147 : decode cX12_allows 147 = .ok (.ifCond .eq 7, 3) := by decide +kernel
theorem dX12_allows_150 : decode cX12_allows 150 = .ok (.iconst 1, 1) := by decide +kernel
theorem dX12_allows_151 : decode cX12_allows 151 = .ok (.goto 4, 3) := by decide +kernel
theorem dX12_allows_154 : decode cX12_allows 154 = .ok (.iconst 0, 1) := by decide +kernel
theorem dX12_allows_155 : decode cX12_allows 155 = .ok (.ireturn, 1) := by decide +kernel
theorem dX12_allows_156 : decode cX12_allows 156 = .ok (.iload_n 1, 1) := by decide +kernel
theorem dX12_allows_157 : decode cX12_allows 157 = .ok (.iconst (-1), 1) := by decide +kernel
theorem dX12_allows_158 : decode cX12_allows 158 = .ok (.if_icmp .lt 10, 3) := by decide +kernel
theorem dX12_allows_161 : decode cX12_allows 161 = .ok (.iload_n 1, 1) := by decide +kernel
theorem dX12_allows_162 : decode cX12_allows 162 = .ok (.sipush 200, 3) := by decide +kernel
theorem dX12_allows_165 : decode cX12_allows 165 = .ok (.if_icmp .le 10, 3) := by decide +kernel
theorem dX12_allows_168 : decode cX12_allows 168 = .ok (.iload_n 1, 1) := by decide +kernel
theorem dX12_allows_169 : decode cX12_allows 169 = .ok (.invokestatic 256, 3) := by decide +kernel
theorem dX12_allows_172 : decode cX12_allows 172 = .ok (.ifCond .eq 7, 3) := by decide +kernel
theorem dX12_allows_175 : decode cX12_allows 175 = .ok (.iconst 1, 1) := by decide +kernel
theorem dX12_allows_176 : decode cX12_allows 176 = .ok (.goto 4, 3) := by decide +kernel
theorem dX12_allows_179 : decode cX12_allows 179 = .ok (.iconst 0, 1) := by decide +kernel
theorem dX12_allows_180 : decode cX12_allows 180 = .ok (.ireturn, 1) := by decide +kernel
theorem dX12_allows_181 : decode cX12_allows 181 = .ok (.iload_n 1, 1) := by decide +kernel
theorem dX12_allows_182 : decode cX12_allows 182 = .ok (.bipush (-9), 2) := by decide +kernel
theorem dX12_allows_184 : decode cX12_allows 184 = .ok (.if_icmp .lt 13, 3) := by decide +kernel
theorem dX12_allows_187 : decode cX12_allows 187 = .ok (.iload_n 1, 1) := by decide +kernel
theorem dX12_allows_188 : decode cX12_allows 188 = .ok (.bipush 9, 2) := by decide +kernel
theorem dX12_allows_190 : decode cX12_allows 190 = .ok (.if_icmp .gt 7, 3) := by decide +kernel
theorem dX12_allows_193 : decode cX12_allows 193 = .ok (.iconst 1, 1) := by decide +kernel
theorem dX12_allows_194 : decode cX12_allows 194 = .ok (.goto 4, 3) := by decide +kernel
theorem dX12_allows_197 : decode cX12_allows 197 = .ok (.iconst 0, 1) := by decide +kernel
theorem dX12_allows_198 : decode cX12_allows 198 = .ok (.ireturn, 1) := by decide +kernel
theorem dX12_allows_199 : decode cX12_allows 199 = .ok (.iload_n 1, 1) := by decide +kernel
theorem dX12_allows_200 : decode cX12_allows 200 = .ok (.bipush (-10), 2) := by decide +kernel
theorem dX12_allows_202 : decode cX12_allows 202 = .ok (.if_icmp .lt 13, 3) := by decide +kernel
theorem dX12_allows_205 : decode cX12_allows 205 = .ok (.iload_n 1, 1) := by decide +kernel
theorem dX12_allows_206 : decode cX12_allows 206 = .ok (.bipush 10, 2) := by decide +kernel
theorem dX12_allows_208 : decode cX12_allows 208 = .ok (.if_icmp .gt 7, 3) := by decide +kernel
theorem dX12_allows_211 : decode cX12_allows 211 = .ok (.iconst 1, 1) := by decide +kernel
theorem dX12_allows_212 : decode cX12_allows 212 = .ok (.goto 4, 3) := by decide +kernel
theorem dX12_allows_215 : decode cX12_allows 215 = .ok (.iconst 0, 1) := by decide +kernel
theorem dX12_allows_216 : decode cX12_allows 216 = .ok (.ireturn, 1) := by decide +kernel
theorem dX12_allows_217 : decode cX12_allows 217 = .ok (.iload_n 1, 1) := by decide +kernel
theorem dX12_allows_218 : decode cX12_allows 218 = .ok (.iconst 1, 1) := by decide +kernel
theorem dX12_allows_219 : decode cX12_allows 219 = .ok (.if_icmp .lt 12, 3) := by decide +kernel
theorem dX12_allows_222 : decode cX12_allows 222 = .ok (.iload_n 1, 1) := by decide +kernel
theorem dX12_allows_223 : decode cX12_allows 223 = .ok (.iconst 4, 1) := by decide +kernel
theorem dX12_allows_224 : decode cX12_allows 224 = .ok (.if_icmp .gt 7, 3) := by decide +kernel
theorem dX12_allows_227 : decode cX12_allows 227 = .ok (.iconst 1, 1) := by decide +kernel
theorem dX12_allows_228 : decode cX12_allows 228 = .ok (.goto 4, 3) := by decide +kernel
theorem dX12_allows_231 : decode cX12_allows 231 = .ok (.iconst 0, 1) := by decide +kernel
theorem dX12_allows_232 : decode cX12_allows 232 = .ok (.ireturn, 1) := by decide +kernel
theorem dX12_allows_233 : decode cX12_allows 233 = .ok (.iload_n 1, 1) := by decide +kernel
theorem dX12_allows_234 : decode cX12_allows 234 = .ok (.sipush (-200), 3) := by decide +kernel
theorem dX12_allows_237 : decode cX12_allows 237 = .ok (.if_icmp .lt 10, 3) := by decide +kernel
theorem dX12_allows_240 : decode cX12_allows 240 = .ok (.iload_n 1, 1) := by decide +kernel
theorem dX12_allows_241 : decode cX12_allows 241 = .ok (.sipush 200, 3) := by decide +kernel
theorem dX12_allows_244 : decode cX12_allows 244 = .ok (.if_icmp .le 10, 3) := by decide +kernel
theorem dX12_allows_247 : decode cX12_allows 247 = .ok (.iload_n 1, 1) := by decide +kernel
theorem dX12_allows_248 : decode cX12_allows 248 = .ok (.sipush (-1000), 3) := by decide +kernel
theorem dX12_allows_251 : decode cX12_allows 251 = .ok (.if_icmp .ne 7, 3) := by decide +kernel
theorem dX12_allows_254 : decode cX12_allows 254 = .ok (.iconst 1, 1) := by decide +kernel
theorem dX12_allows_255 : decode cX12_allows 255 = .ok (.goto 4, 3) := by decide +kernel
theorem dX12_allows_258 : decode cX12_allows 258 = .ok (.iconst 0, 1) := by decide +kernel
theorem dX12_allows_259 : decode cX12_allows 259 = .ok (.ireturn, 1) := by decide +kernel
theorem dX12_allows_260 : decode cX12_allows 260 = .ok (.iload_n 1, 1) := by decide +kernel
theorem dX12_allows_261 : decode cX12_allows 261 = .ok (.ifCond .eq 8, 3) := by decide +kernel
theorem dX12_allows_264 : decode cX12_allows 264 = .ok (.iload_n 1, 1) := by decide +kernel
theorem dX12_allows_265 : decode cX12_allows 265 = .ok (.iconst 1, 1) := by decide +kernel
theorem dX12_allows_266 : decode cX12_allows 266 = .ok (.if_icmp .ne 7, 3) := by decide +kernel
theorem dX12_allows_269 : decode cX12_allows 269 = .ok (.iconst 1, 1) := by decide +kernel
theorem dX12_allows_270 : decode cX12_allows 270 = .ok (.goto 4, 3) := by decide +kernel
theorem dX12_allows_273 : decode cX12_allows 273 = .ok (.iconst 0, 1) := by decide +kernel
theorem dX12_allows_274 : decode cX12_allows 274 = .ok (.ireturn, 1) := by decide +kernel
theorem dX12_allows_275 : decode cX12_allows 275 = .ok (.iload_n 0, 1) := by decide +kernel
theorem dX12_allows_276 : decode cX12_allows 276 = .ok (.bipush 9, 2) := by decide +kernel
theorem dX12_allows_278 : decode cX12_allows 278 = .ok (.if_icmp .gt 23, 3) := by decide +kernel
theorem dX12_allows_281 : decode cX12_allows 281 = .ok (.iload_n 1, 1) := by decide +kernel
theorem dX12_allows_282 : decode cX12_allows 282 = .ok (.bipush (-40), 2) := by decide +kernel
theorem dX12_allows_284 : decode cX12_allows 284 = .ok (.if_icmp .lt 13, 3) := by decide +kernel
theorem dX12_allows_287 : decode cX12_allows 287 = .ok (.iload_n 1, 1) := by decide +kernel
theorem dX12_allows_288 : decode cX12_allows 288 = .ok (.bipush 40, 2) := by decide +kernel
theorem dX12_allows_290 : decode cX12_allows 290 = .ok (.if_icmp .gt 7, 3) := by decide +kernel
theorem dX12_allows_293 : decode cX12_allows 293 = .ok (.iconst 1, 1) := by decide +kernel
theorem dX12_allows_294 : decode cX12_allows 294 = .ok (.goto 22, 3) := by decide +kernel
theorem dX12_allows_297 : decode cX12_allows 297 = .ok (.iconst 0, 1) := by decide +kernel
theorem dX12_allows_298 : decode cX12_allows 298 = .ok (.goto 18, 3) := by decide +kernel
theorem dX12_allows_301 : decode cX12_allows 301 = .ok (.iload_n 1, 1) := by decide +kernel
theorem dX12_allows_302 : decode cX12_allows 302 = .ok (.ifCond .lt 13, 3) := by decide +kernel
theorem dX12_allows_305 : decode cX12_allows 305 = .ok (.iload_n 1, 1) := by decide +kernel
theorem dX12_allows_306 : decode cX12_allows 306 = .ok (.bipush 20, 2) := by decide +kernel
theorem dX12_allows_308 : decode cX12_allows 308 = .ok (.if_icmp .gt 7, 3) := by decide +kernel
theorem dX12_allows_311 : decode cX12_allows 311 = .ok (.iconst 1, 1) := by decide +kernel
theorem dX12_allows_312 : decode cX12_allows 312 = .ok (.goto 4, 3) := by decide +kernel
theorem dX12_allows_315 : decode cX12_allows 315 = .ok (.iconst 0, 1) := by decide +kernel
theorem dX12_allows_316 : decode cX12_allows 316 = .ok (.ireturn, 1) := by decide +kernel
theorem dX12_isPercentage_0 : decode cX12_isPercentage 0 = .ok (.iload_n 0, 1) := by decide +kernel
theorem dX12_isPercentage_1 : decode cX12_isPercentage 1 = .ok (.sipush 1000, 3) := by decide +kernel
theorem dX12_isPercentage_4 : decode cX12_isPercentage 4 = .ok (.if_icmp .lt 14, 3) := by decide +kernel
theorem dX12_isPercentage_7 : decode cX12_isPercentage 7 = .ok (.iload_n 0, 1) := by decide +kernel
theorem dX12_isPercentage_8 : decode cX12_isPercentage 8 = .ok (.sipush 1100, 3) := by decide +kernel
theorem dX12_isPercentage_11 : decode cX12_isPercentage 11 = .ok (.if_icmp .gt 7, 3) := by decide +kernel
theorem dX12_isPercentage_14 : decode cX12_isPercentage 14 = .ok (.iconst 1, 1) := by decide +kernel
theorem dX12_isPercentage_15 : decode cX12_isPercentage 15 = .ok (.goto 4, 3) := by decide +kernel
theorem dX12_isPercentage_18 : decode cX12_isPercentage 18 = .ok (.iconst 0, 1) := by decide +kernel
theorem dX12_isPercentage_19 : decode cX12_isPercentage 19 = .ok (.ireturn, 1) := by decide +kernel
theorem dX12_reachesInside_0 : decode cX12_reachesInside 0 = .ok (.iload_n 0, 1) := by decide +kernel
theorem dX12_reachesInside_1 : decode cX12_reachesInside 1 = .ok (.ifCond .eq 25, 3) := by decide +kernel
theorem dX12_reachesInside_4 : decode cX12_reachesInside 4 = .ok (.iload_n 0, 1) := by decide +kernel
theorem dX12_reachesInside_5 : decode cX12_reachesInside 5 = .ok (.iconst 1, 1) := by decide +kernel
theorem dX12_reachesInside_6 : decode cX12_reachesInside 6 = .ok (.if_icmp .eq 20, 3) := by decide +kernel
theorem dX12_reachesInside_9 : decode cX12_reachesInside 9 = .ok (.iload_n 0, 1) := by decide +kernel
theorem dX12_reachesInside_10 : decode cX12_reachesInside 10 = .ok (.iconst 3, 1) := by decide +kernel
theorem dX12_reachesInside_11 : decode cX12_reachesInside 11 = .ok (.if_icmp .eq 15, 3) := by decide +kernel
theorem dX12_reachesInside_14 : decode cX12_reachesInside 14 = .ok (.iload_n 0, 1) := by decide +kernel
theorem dX12_reachesInside_15 : decode cX12_reachesInside 15 = .ok (.bipush 14, 2) := by decide +kernel
theorem dX12_reachesInside_17 : decode cX12_reachesInside 17 = .ok (.if_icmp .eq 9, 3) := by decide +kernel
theorem dX12_reachesInside_20 : decode cX12_reachesInside 20 = .ok (.iload_n 0, 1) := by decide +kernel
theorem dX12_reachesInside_21 : decode cX12_reachesInside 21 = .ok (.bipush 17, 2) := by decide +kernel
theorem dX12_reachesInside_23 : decode cX12_reachesInside 23 = .ok (.if_icmp .ne 7, 3) := by decide +kernel
theorem dX12_reachesInside_26 : decode cX12_reachesInside 26 = .ok (.iconst 1, 1) := by decide +kernel
theorem dX12_reachesInside_27 : decode cX12_reachesInside 27 = .ok (.goto 4, 3) := by decide +kernel
theorem dX12_reachesInside_30 : decode cX12_reachesInside 30 = .ok (.iconst 0, 1) := by decide +kernel
theorem dX12_reachesInside_31 : decode cX12_reachesInside 31 = .ok (.ireturn, 1) := by decide +kernel
theorem dX12_noteChange_0 : decode cX12_noteChange 0 = .ok (.aload_n 0, 1) := by decide +kernel
theorem dX12_noteChange_1 : decode cX12_noteChange 1 = .ok (.dup, 1) := by decide +kernel
theorem dX12_noteChange_2 : decode cX12_noteChange 2 = .ok (.getfield 151, 3) := by decide +kernel
theorem dX12_noteChange_5 : decode cX12_noteChange 5 = .ok (.iconst 1, 1) := by decide +kernel
theorem dX12_noteChange_6 : decode cX12_noteChange 6 = .ok (.iadd, 1) := by decide +kernel
theorem dX12_noteChange_7 : decode cX12_noteChange 7 = .ok (.putfield 151, 3) := by decide +kernel
theorem dX12_noteChange_10 : decode cX12_noteChange 10 = .ok (.aload_n 1, 1) := by decide +kernel
theorem dX12_noteChange_11 : decode cX12_noteChange 11 = .ok (.astore_n 2, 1) := by decide +kernel
theorem dX12_noteChange_12 : decode cX12_noteChange 12 = .ok (.aload_n 2, 1) := by decide +kernel
theorem dX12_noteChange_13 : decode cX12_noteChange 13 = .ok (.ifnull 19, 3) := by decide +kernel
theorem dX12_noteChange_16 : decode cX12_noteChange 16 = .ok (.aload_n 2, 1) := by decide +kernel
theorem dX12_noteChange_17 : decode cX12_noteChange 17 = .ok (.aload_n 0, 1) := by decide +kernel
theorem dX12_noteChange_18 : decode cX12_noteChange 18 = .ok (.getfield 151, 3) := by decide +kernel
theorem dX12_noteChange_21 : decode cX12_noteChange 21 = .ok (.putfield 259, 3) := by decide +kernel
theorem dX12_noteChange_24 : decode cX12_noteChange 24 = .ok (.aload_n 2, 1) := by decide +kernel
theorem dX12_noteChange_25 : decode cX12_noteChange 25 = .ok (.getfield 114, 3) := by decide +kernel
theorem dX12_noteChange_28 : decode cX12_noteChange 28 = .ok (.astore_n 2, 1) := by decide +kernel
theorem dX12_noteChange_29 : decode cX12_noteChange 29 = .ok (.goto (-17), 3) := by decide +kernel
theorem dX12_noteChange_32 : decode cX12_noteChange 32 = .ok (.return_, 1) := by decide +kernel
theorem dX12_layAgain_0 : decode cX12_layAgain 0 = .ok (.aload_n 0, 1) := by decide +kernel
theorem dX12_layAgain_1 : decode cX12_layAgain 1 = .ok (.getfield 25, 3) := by decide +kernel
theorem dX12_layAgain_4 : decode cX12_layAgain 4 = .ok (.invokestatic 15, 3) := by decide +kernel
theorem dX12_layAgain_7 : decode cX12_layAgain 7 = .ok (.aload_n 0, 1) := by decide +kernel
theorem dX12_layAgain_8 : decode cX12_layAgain 8 = .ok (.aload_n 0, 1) := by decide +kernel
theorem dX12_layAgain_9 : decode cX12_layAgain 9 = .ok (.getfield 41, 3) := by decide +kernel
theorem dX12_layAgain_12 : decode cX12_layAgain 12 = .ok (.aload_n 0, 1) := by decide +kernel
theorem dX12_layAgain_13 : decode cX12_layAgain 13 = .ok (.getfield 25, 3) := by decide +kernel
theorem dX12_layAgain_16 : decode cX12_layAgain 16 = .ok (.aload_n 0, 1) := by decide +kernel
theorem dX12_layAgain_17 : decode cX12_layAgain 17 = .ok (.getfield 33, 3) := by decide +kernel
theorem dX12_layAgain_20 : decode cX12_layAgain 20 = .ok (.aload_n 0, 1) := by decide +kernel
theorem dX12_layAgain_21 : decode cX12_layAgain 21 = .ok (.getfield 151, 3) := by decide +kernel
theorem dX12_layAgain_24 : decode cX12_layAgain 24 = .ok (.invokevirtual 55, 3) := by decide +kernel
theorem dX12_layAgain_27 : decode cX12_layAgain 27 = .ok (.putfield 59, 3) := by decide +kernel
theorem dX12_layAgain_30 : decode cX12_layAgain 30 = .ok (.aload_n 0, 1) := by decide +kernel
theorem dX12_layAgain_31 : decode cX12_layAgain 31 = .ok (.dup, 1) := by decide +kernel
theorem dX12_layAgain_32 : decode cX12_layAgain 32 = .ok (.getfield 62, 3) := by decide +kernel
theorem dX12_layAgain_35 : decode cX12_layAgain 35 = .ok (.aload_n 0, 1) := by decide +kernel
theorem dX12_layAgain_36 : decode cX12_layAgain 36 = .ok (.getfield 59, 3) := by decide +kernel
theorem dX12_layAgain_39 : decode cX12_layAgain 39 = .ok (.iadd, 1) := by decide +kernel
theorem dX12_layAgain_40 : decode cX12_layAgain 40 = .ok (.putfield 62, 3) := by decide +kernel
theorem dX12_layAgain_43 : decode cX12_layAgain 43 = .ok (.aload_n 0, 1) := by decide +kernel
theorem dX12_layAgain_44 : decode cX12_layAgain 44 = .ok (.getfield 51, 3) := by decide +kernel
theorem dX12_layAgain_47 : decode cX12_layAgain 47 = .ok (.aload_n 0, 1) := by decide +kernel
theorem dX12_layAgain_48 : decode cX12_layAgain 48 = .ok (.getfield 25, 3) := by decide +kernel
theorem dX12_layAgain_51 : decode cX12_layAgain 51 = .ok (.invokevirtual 65, 3) := by decide +kernel
theorem dX12_layAgain_54 : decode cX12_layAgain 54 = .ok (.return_, 1) := by decide +kernel
theorem dX12_sideOf_0 : decode cX12_sideOf 0 = .ok (.aload_n 0, 1) := by decide +kernel
theorem dX12_sideOf_1 : decode cX12_sideOf 1 = .ok (.invokevirtual 243, 3) := by decide +kernel
theorem dX12_sideOf_4 : decode cX12_sideOf 4 = .ok (.ifCond .eq 24, 3) := by decide +kernel
theorem dX12_sideOf_7 : decode cX12_sideOf 7 = .ok (.iload_n 1, 1) := by decide +kernel
theorem dX12_sideOf_8 : decode cX12_sideOf 8 = .ok (.iconst 3, 1) := by decide +kernel
theorem dX12_sideOf_9 : decode cX12_sideOf 9 = .ok (.if_icmp .ne 11, 3) := by decide +kernel
theorem dX12_sideOf_12 : decode cX12_sideOf 12 = .ok (.aload_n 0, 1) := by decide +kernel
theorem dX12_sideOf_13 : decode cX12_sideOf 13 = .ok (.getfield 262, 3) := by decide +kernel
theorem dX12_sideOf_16 : decode cX12_sideOf 16 = .ok (.i2l, 1) := by decide +kernel
theorem dX12_sideOf_17 : decode cX12_sideOf 17 = .ok (.goto 10, 3) := by decide +kernel
theorem dX12_sideOf_20 : decode cX12_sideOf 20 = .ok (.aload_n 0, 1) := by decide +kernel
theorem dX12_sideOf_21 : decode cX12_sideOf 21 = .ok (.iconst 0, 1) := by decide +kernel
theorem dX12_sideOf_22 : decode cX12_sideOf 22 = .ok (.iload_n 1, 1) := by decide +kernel
theorem dX12_sideOf_23 : decode cX12_sideOf 23 = .ok (.aload_n 2, 1) := by decide +kernel
theorem dX12_sideOf_24 : decode cX12_sideOf 24 = .ok (.invokestatic 229, 3) := by decide +kernel
theorem dX12_sideOf_27 : decode cX12_sideOf 27 = .ok (.lreturn, 1) := by decide +kernel
theorem dX12_sideOf_28 : decode cX12_sideOf 28 = .ok (.aload_n 2, 1) := by decide +kernel
theorem dX12_sideOf_29 : decode cX12_sideOf 29 = .ok (.aload_n 0, 1) := by decide +kernel
theorem dX12_sideOf_30 : decode cX12_sideOf 30 = .ok (.invokevirtual 265, 3) := by decide +kernel
theorem dX12_sideOf_33 : decode cX12_sideOf 33 = .ok (.astore_n 3, 1) := by decide +kernel
theorem dX12_sideOf_34 : decode cX12_sideOf 34 = .ok (.iload_n 1, 1) := by decide +kernel
theorem dX12_sideOf_35 : decode cX12_sideOf 35 = .ok (.tableswitch 46 0 2 #[25, 30, 35], 25) := by decide +kernel
theorem dX12_sideOf_60 : decode cX12_sideOf 60 = .ok (.aload_n 3, 1) := by decide +kernel
theorem dX12_sideOf_61 : decode cX12_sideOf 61 = .ok (.getfield 269, 3) := by decide +kernel
theorem dX12_sideOf_64 : decode cX12_sideOf 64 = .ok (.lreturn, 1) := by decide +kernel
theorem dX12_sideOf_65 : decode cX12_sideOf 65 = .ok (.aload_n 3, 1) := by decide +kernel
theorem dX12_sideOf_66 : decode cX12_sideOf 66 = .ok (.getfield 272, 3) := by decide +kernel
theorem dX12_sideOf_69 : decode cX12_sideOf 69 = .ok (.lreturn, 1) := by decide +kernel
theorem dX12_sideOf_70 : decode cX12_sideOf 70 = .ok (.aload_n 3, 1) := by decide +kernel
theorem dX12_sideOf_71 : decode cX12_sideOf 71 = .ok (.getfield 275, 3) := by decide +kernel
theorem dX12_sideOf_74 : decode cX12_sideOf 74 = .ok (.aload_n 0, 1) := by decide +kernel
theorem dX12_sideOf_75 : decode cX12_sideOf 75 = .ok (.invokevirtual 278, 3) := by decide +kernel
theorem dX12_sideOf_78 : decode cX12_sideOf 78 = .ok (.iadd, 1) := by decide +kernel
theorem dX12_sideOf_79 : decode cX12_sideOf 79 = .ok (.i2l, 1) := by decide +kernel
theorem dX12_sideOf_80 : decode cX12_sideOf 80 = .ok (.lreturn, 1) := by decide +kernel
theorem dX12_sideOf_81 : decode cX12_sideOf 81 = .ok (.aload_n 3, 1) := by decide +kernel
theorem dX12_sideOf_82 : decode cX12_sideOf 82 = .ok (.getfield 281, 3) := by decide +kernel
theorem dX12_sideOf_85 : decode cX12_sideOf 85 = .ok (.aload_n 0, 1) := by decide +kernel
theorem dX12_sideOf_86 : decode cX12_sideOf 86 = .ok (.invokevirtual 282, 3) := by decide +kernel
theorem dX12_sideOf_89 : decode cX12_sideOf 89 = .ok (.iadd, 1) := by decide +kernel
theorem dX12_sideOf_90 : decode cX12_sideOf 90 = .ok (.i2l, 1) := by decide +kernel
theorem dX12_sideOf_91 : decode cX12_sideOf 91 = .ok (.lreturn, 1) := by decide +kernel
theorem dX12_pieceSide_0 : decode cX12_pieceSide 0 = .ok (.aload_n 3, 1) := by decide +kernel
theorem dX12_pieceSide_1 : decode cX12_pieceSide 1 = .ok (.aload_n 0, 1) := by decide +kernel
theorem dX12_pieceSide_2 : decode cX12_pieceSide 2 = .ok (.invokevirtual 265, 3) := by decide +kernel
theorem dX12_pieceSide_5 : decode cX12_pieceSide 5 = .ok (.iload_n 1, 1) := by decide +kernel
theorem dX12_pieceSide_6 : decode cX12_pieceSide 6 = .ok (.invokevirtual 285, 3) := by decide +kernel
theorem dX12_pieceSide_9 : decode cX12_pieceSide 9 = .ok (.astore 4, 2) := by decide +kernel
theorem dX12_pieceSide_11 : decode cX12_pieceSide 11 = .ok (.aload_n 0, 1) := by decide +kernel
theorem dX12_pieceSide_12 : decode cX12_pieceSide 12 = .ok (.getfield 114, 3) := by decide +kernel
theorem dX12_pieceSide_15 : decode cX12_pieceSide 15 = .ok (.astore 5, 2) := by decide +kernel
theorem dX12_pieceSide_17 : decode cX12_pieceSide 17 = .ok (.aload 4, 2) := by decide +kernel
theorem dX12_pieceSide_19 : decode cX12_pieceSide 19 = .ok (.ifnull 16, 3) := by decide +kernel
theorem dX12_pieceSide_22 : decode cX12_pieceSide 22 = .ok (.aload 4, 2) := by decide +kernel
theorem dX12_pieceSide_24 : decode cX12_pieceSide 24 = .ok (.getfield 289, 3) := by decide +kernel
theorem dX12_pieceSide_27 : decode cX12_pieceSide 27 = .ok (.ifnull 8, 3) := by decide +kernel
theorem dX12_pieceSide_30 : decode cX12_pieceSide 30 = .ok (.aload 5, 2) := by decide +kernel
theorem dX12_pieceSide_32 : decode cX12_pieceSide 32 = .ok (.ifnonnull 5, 3) := by decide +kernel
theorem dX12_pieceSide_35 : decode cX12_pieceSide 35 = .ok (.lconst 0, 1) := by decide +kernel
theorem dX12_pieceSide_36 : decode cX12_pieceSide 36 = .ok (.lreturn, 1) := by decide +kernel
theorem dX12_pieceSide_37 : decode cX12_pieceSide 37 = .ok (.aload_n 3, 1) := by decide +kernel
theorem dX12_pieceSide_38 : decode cX12_pieceSide 38 = .ok (.aload 5, 2) := by decide +kernel
theorem dX12_pieceSide_40 : decode cX12_pieceSide 40 = .ok (.invokevirtual 265, 3) := by decide +kernel
theorem dX12_pieceSide_43 : decode cX12_pieceSide 43 = .ok (.astore 6, 2) := by decide +kernel
theorem dX12_pieceSide_45 : decode cX12_pieceSide 45 = .ok (.iload_n 2, 1) := by decide +kernel
theorem dX12_pieceSide_46 : decode cX12_pieceSide 46 = .ok (.lookupswitch 51 #[(0, 26), (1, 38)], 26) := by decide +kernel
theorem dX12_pieceSide_72 : decode cX12_pieceSide 72 = .ok (.aload 6, 2) := by decide +kernel
theorem dX12_pieceSide_74 : decode cX12_pieceSide 74 = .ok (.getfield 207, 3) := by decide +kernel
theorem dX12_pieceSide_77 : decode cX12_pieceSide 77 = .ok (.aload 4, 2) := by decide +kernel
theorem dX12_pieceSide_79 : decode cX12_pieceSide 79 = .ok (.invokevirtual 294, 3) := by decide +kernel
theorem dX12_pieceSide_82 : decode cX12_pieceSide 82 = .ok (.ladd, 1) := by decide +kernel
theorem dX12_pieceSide_83 : decode cX12_pieceSide 83 = .ok (.lreturn, 1) := by decide +kernel
theorem dX12_pieceSide_84 : decode cX12_pieceSide 84 = .ok (.aload 6, 2) := by decide +kernel
theorem dX12_pieceSide_86 : decode cX12_pieceSide 86 = .ok (.getfield 214, 3) := by decide +kernel
theorem dX12_pieceSide_89 : decode cX12_pieceSide 89 = .ok (.aload 4, 2) := by decide +kernel
theorem dX12_pieceSide_91 : decode cX12_pieceSide 91 = .ok (.invokevirtual 298, 3) := by decide +kernel
theorem dX12_pieceSide_94 : decode cX12_pieceSide 94 = .ok (.i2l, 1) := by decide +kernel
theorem dX12_pieceSide_95 : decode cX12_pieceSide 95 = .ok (.ladd, 1) := by decide +kernel
theorem dX12_pieceSide_96 : decode cX12_pieceSide 96 = .ok (.lreturn, 1) := by decide +kernel
theorem dX12_pieceSide_97 : decode cX12_pieceSide 97 = .ok (.aload 4, 2) := by decide +kernel
theorem dX12_pieceSide_99 : decode cX12_pieceSide 99 = .ok (.getfield 301, 3) := by decide +kernel
theorem dX12_pieceSide_102 : decode cX12_pieceSide 102 = .ok (.i2l, 1) := by decide +kernel
theorem dX12_pieceSide_103 : decode cX12_pieceSide 103 = .ok (.lreturn, 1) := by decide +kernel
theorem dJx29ce0_ordinal_8abf5_0 : decode cJx29ce0_ordinal_8abf5 0 = .ok (.aload_n 0, 1) := by decide +kernel
theorem dJx29ce0_ordinal_8abf5_1 : decode cJx29ce0_ordinal_8abf5 1 = .ok (.getfield 7, 3) := by decide +kernel
theorem dJx29ce0_ordinal_8abf5_4 : decode cJx29ce0_ordinal_8abf5 4 = .ok (.ireturn, 1) := by decide +kernel
theorem dL_cell_0 : decode cL_cell 0 = .ok (.iload_n 1, 1) := by decide +kernel
theorem dL_cell_1 : decode cL_cell 1 = .ok (.aload_n 0, 1) := by decide +kernel
theorem dL_cell_2 : decode cL_cell 2 = .ok (.arraylength, 1) := by decide +kernel
theorem dL_cell_3 : decode cL_cell 3 = .ok (.if_icmp .ge 9, 3) := by decide +kernel
theorem dL_cell_6 : decode cL_cell 6 = .ok (.aload_n 0, 1) := by decide +kernel
theorem dL_cell_7 : decode cL_cell 7 = .ok (.iload_n 1, 1) := by decide +kernel
theorem dL_cell_8 : decode cL_cell 8 = .ok (.iaload, 1) := by decide +kernel
theorem dL_cell_9 : decode cL_cell 9 = .ok (.goto 13, 3) := by decide +kernel
theorem dL_cell_12 : decode cL_cell 12 = .ok (.ldc 7, 2) := by decide +kernel
theorem dL_cell_14 : decode cL_cell 14 = .ok (.iload_n 1, 1) := by decide +kernel
theorem dL_cell_15 : decode cL_cell 15 = .ok (.bipush 47, 2) := by decide +kernel
theorem dL_cell_17 : decode cL_cell 17 = .ok (.iadd, 1) := by decide +kernel
theorem dL_cell_18 : decode cL_cell 18 = .ok (.imul, 1) := by decide +kernel
theorem dL_cell_19 : decode cL_cell 19 = .ok (.ldc 8, 2) := by decide +kernel
theorem dL_cell_21 : decode cL_cell 21 = .ok (.iadd, 1) := by decide +kernel
theorem dL_cell_22 : decode cL_cell 22 = .ok (.ireturn, 1) := by decide +kernel
theorem dL_low_0 : decode cL_low 0 = .ok (.iload_n 0, 1) := by decide +kernel
theorem dL_low_1 : decode cL_low 1 = .ok (.ldc 9, 2) := by decide +kernel
theorem dL_low_3 : decode cL_low 3 = .ok (.iand, 1) := by decide +kernel
theorem dL_low_4 : decode cL_low 4 = .ok (.iload_n 1, 1) := by decide +kernel
theorem dL_low_5 : decode cL_low 5 = .ok (.irem, 1) := by decide +kernel
theorem dL_low_6 : decode cL_low 6 = .ok (.ireturn, 1) := by decide +kernel
theorem dL_pends_0 : decode cL_pends 0 = .ok (.aload_n 1, 1) := by decide +kernel
theorem dL_pends_1 : decode cL_pends 1 = .ok (.iconst 1, 1) := by decide +kernel
theorem dL_pends_2 : decode cL_pends 2 = .ok (.iload_n 0, 1) := by decide +kernel
theorem dL_pends_3 : decode cL_pends 3 = .ok (.aload_n 1, 1) := by decide +kernel
theorem dL_pends_4 : decode cL_pends 4 = .ok (.iconst 1, 1) := by decide +kernel
theorem dL_pends_5 : decode cL_pends 5 = .ok (.iaload, 1) := by decide +kernel
theorem dL_pends_6 : decode cL_pends 6 = .ok (.if_icmp .le 7, 3) := by decide +kernel
theorem dL_pends_9 : decode cL_pends 9 = .ok (.iload_n 0, 1) := by decide +kernel
theorem dL_pends_10 : decode cL_pends 10 = .ok (.goto 6, 3) := by decide +kernel
theorem dL_pends_13 : decode cL_pends 13 = .ok (.aload_n 1, 1) := by decide +kernel
theorem dL_pends_14 : decode cL_pends 14 = .ok (.iconst 1, 1) := by decide +kernel
theorem dL_pends_15 : decode cL_pends 15 = .ok (.iaload, 1) := by decide +kernel
theorem dL_pends_16 : decode cL_pends 16 = .ok (.iastore, 1) := by decide +kernel
theorem dL_pends_17 : decode cL_pends 17 = .ok (.aload_n 1, 1) := by decide +kernel
theorem dL_pends_18 : decode cL_pends 18 = .ok (.iconst 2, 1) := by decide +kernel
theorem dL_pends_19 : decode cL_pends 19 = .ok (.iload_n 0, 1) := by decide +kernel
theorem dL_pends_20 : decode cL_pends 20 = .ok (.aload_n 1, 1) := by decide +kernel
theorem dL_pends_21 : decode cL_pends 21 = .ok (.iconst 2, 1) := by decide +kernel
theorem dL_pends_22 : decode cL_pends 22 = .ok (.iaload, 1) := by decide +kernel
theorem dL_pends_23 : decode cL_pends 23 = .ok (.if_icmp .ge 7, 3) := by decide +kernel
theorem dL_pends_26 : decode cL_pends 26 = .ok (.iload_n 0, 1) := by decide +kernel
theorem dL_pends_27 : decode cL_pends 27 = .ok (.goto 6, 3) := by decide +kernel
theorem dL_pends_30 : decode cL_pends 30 = .ok (.aload_n 1, 1) := by decide +kernel
theorem dL_pends_31 : decode cL_pends 31 = .ok (.iconst 2, 1) := by decide +kernel
theorem dL_pends_32 : decode cL_pends 32 = .ok (.iaload, 1) := by decide +kernel
theorem dL_pends_33 : decode cL_pends 33 = .ok (.iastore, 1) := by decide +kernel
theorem dL_pends_34 : decode cL_pends 34 = .ok (.return_, 1) := by decide +kernel
theorem dL_ends_0 : decode cL_ends 0 = .ok (.aload_n 0, 1) := by decide +kernel
theorem dL_ends_1 : decode cL_ends 1 = .ok (.iconst 0, 1) := by decide +kernel
theorem dL_ends_2 : decode cL_ends 2 = .ok (.dup2, 1) := by decide +kernel
theorem dL_ends_3 : decode cL_ends 3 = .ok (.iaload, 1) := by decide +kernel
theorem dL_ends_4 : decode cL_ends 4 = .ok (.aload_n 0, 1) := by decide +kernel
theorem dL_ends_5 : decode cL_ends 5 = .ok (.iconst 1, 1) := by decide +kernel
theorem dL_ends_6 : decode cL_ends 6 = .ok (.iaload, 1) := by decide +kernel
theorem dL_ends_7 : decode cL_ends 7 = .ok (.aload_n 0, 1) := by decide +kernel
theorem dL_ends_8 : decode cL_ends 8 = .ok (.iconst 2, 1) := by decide +kernel
theorem dL_ends_9 : decode cL_ends 9 = .ok (.iaload, 1) := by decide +kernel
theorem dL_ends_10 : decode cL_ends 10 = .ok (.iadd, 1) := by decide +kernel
theorem dL_ends_11 : decode cL_ends 11 = .ok (.iadd, 1) := by decide +kernel
theorem dL_ends_12 : decode cL_ends 12 = .ok (.iastore, 1) := by decide +kernel
theorem dL_ends_13 : decode cL_ends 13 = .ok (.aload_n 0, 1) := by decide +kernel
theorem dL_ends_14 : decode cL_ends 14 = .ok (.iconst 1, 1) := by decide +kernel
theorem dL_ends_15 : decode cL_ends 15 = .ok (.iconst 0, 1) := by decide +kernel
theorem dL_ends_16 : decode cL_ends 16 = .ok (.iastore, 1) := by decide +kernel
theorem dL_ends_17 : decode cL_ends 17 = .ok (.aload_n 0, 1) := by decide +kernel
theorem dL_ends_18 : decode cL_ends 18 = .ok (.iconst 2, 1) := by decide +kernel
theorem dL_ends_19 : decode cL_ends 19 = .ok (.iconst 0, 1) := by decide +kernel
theorem dL_ends_20 : decode cL_ends 20 = .ok (.iastore, 1) := by decide +kernel
theorem dL_ends_21 : decode cL_ends 21 = .ok (.iconst 1, 1) := by decide +kernel
theorem dL_ends_22 : decode cL_ends 22 = .ok (.istore_n 2, 1) := by decide +kernel
theorem dL_ends_23 : decode cL_ends 23 = .ok (.iload_n 2, 1) := by decide +kernel
theorem dL_ends_24 : decode cL_ends 24 = .ok (.bipush 12, 2) := by decide +kernel
theorem dL_ends_26 : decode cL_ends 26 = .ok (.if_icmp .ge 38, 3) := by decide +kernel
theorem dL_ends_29 : decode cL_ends 29 = .ok (.aload_n 1, 1) := by decide +kernel
theorem dL_ends_30 : decode cL_ends 30 = .ok (.bipush 16, 2) := by decide +kernel
theorem dL_ends_32 : decode cL_ends 32 = .ok (.iload_n 2, 1) := by decide +kernel
theorem dL_ends_33 : decode cL_ends 33 = .ok (.iadd, 1) := by decide +kernel
theorem dL_ends_34 : decode cL_ends 34 = .ok (.aload_n 0, 1) := by decide +kernel
theorem dL_ends_35 : decode cL_ends 35 = .ok (.iconst 5, 1) := by decide +kernel
theorem dL_ends_36 : decode cL_ends 36 = .ok (.iaload, 1) := by decide +kernel
theorem dL_ends_37 : decode cL_ends 37 = .ok (.iload_n 2, 1) := by decide +kernel
theorem dL_ends_38 : decode cL_ends 38 = .ok (.ishr, 1) := by decide +kernel
theorem dL_ends_39 : decode cL_ends 39 = .ok (.iconst 1, 1) := by decide +kernel
theorem dL_ends_40 : decode cL_ends 40 = .ok (.iand, 1) := by decide +kernel
theorem dL_ends_41 : decode cL_ends 41 = .ok (.iconst 1, 1) := by decide +kernel
theorem dL_ends_42 : decode cL_ends 42 = .ok (.if_icmp .ne 9, 3) := by decide +kernel
theorem dL_ends_45 : decode cL_ends 45 = .ok (.aload_n 0, 1) := by decide +kernel
theorem dL_ends_46 : decode cL_ends 46 = .ok (.iconst 0, 1) := by decide +kernel
theorem dL_ends_47 : decode cL_ends 47 = .ok (.iaload, 1) := by decide +kernel
theorem dL_ends_48 : decode cL_ends 48 = .ok (.goto 9, 3) := by decide +kernel
theorem dL_ends_51 : decode cL_ends 51 = .ok (.aload_n 1, 1) := by decide +kernel
theorem dL_ends_52 : decode cL_ends 52 = .ok (.bipush 16, 2) := by decide +kernel
theorem dL_ends_54 : decode cL_ends 54 = .ok (.iload_n 2, 1) := by decide +kernel
theorem dL_ends_55 : decode cL_ends 55 = .ok (.iadd, 1) := by decide +kernel
theorem dL_ends_56 : decode cL_ends 56 = .ok (.iaload, 1) := by decide +kernel
theorem dL_ends_57 : decode cL_ends 57 = .ok (.iastore, 1) := by decide +kernel
theorem dL_ends_58 : decode cL_ends 58 = .ok (.iinc 2 1, 3) := by decide +kernel
theorem dL_ends_61 : decode cL_ends 61 = .ok (.goto (-38), 3) := by decide +kernel
theorem dL_ends_64 : decode cL_ends 64 = .ok (.aload_n 0, 1) := by decide +kernel
theorem dL_ends_65 : decode cL_ends 65 = .ok (.iconst 5, 1) := by decide +kernel
theorem dL_ends_66 : decode cL_ends 66 = .ok (.iconst 0, 1) := by decide +kernel
theorem dL_ends_67 : decode cL_ends 67 = .ok (.iastore, 1) := by decide +kernel
theorem dL_ends_68 : decode cL_ends 68 = .ok (.return_, 1) := by decide +kernel
theorem dL_next_0 : decode cL_next 0 = .ok (.iload_n 1, 1) := by decide +kernel
theorem dL_next_1 : decode cL_next 1 = .ok (.iconst 1, 1) := by decide +kernel
theorem dL_next_2 : decode cL_next 2 = .ok (.iadd, 1) := by decide +kernel
theorem dL_next_3 : decode cL_next 3 = .ok (.istore 4, 2) := by decide +kernel
theorem dL_next_5 : decode cL_next 5 = .ok (.iload 4, 2) := by decide +kernel
theorem dL_next_7 : decode cL_next 7 = .ok (.aload_n 3, 1) := by decide +kernel
theorem dL_next_8 : decode cL_next 8 = .ok (.iconst 3, 1) := by decide +kernel
theorem dL_next_9 : decode cL_next 9 = .ok (.iaload, 1) := by decide +kernel
theorem dL_next_10 : decode cL_next 10 = .ok (.if_icmp .ge 20, 3) := by decide +kernel
theorem dL_next_13 : decode cL_next 13 = .ok (.aload_n 2, 1) := by decide +kernel
theorem dL_next_14 : decode cL_next 14 = .ok (.iload 4, 2) := by decide +kernel
theorem dL_next_16 : decode cL_next 16 = .ok (.iaload, 1) := by decide +kernel
theorem dL_next_17 : decode cL_next 17 = .ok (.iload_n 0, 1) := by decide +kernel
theorem dL_next_18 : decode cL_next 18 = .ok (.if_icmp .ne 6, 3) := by decide +kernel
theorem dL_next_21 : decode cL_next 21 = .ok (.iload 4, 2) := by decide +kernel
theorem dL_next_23 : decode cL_next 23 = .ok (.ireturn, 1) := by decide +kernel
theorem dL_next_24 : decode cL_next 24 = .ok (.iinc 4 1, 3) := by decide +kernel
theorem dL_next_27 : decode cL_next 27 = .ok (.goto (-22), 3) := by decide +kernel
theorem dL_next_30 : decode cL_next 30 = .ok (.iconst 0, 1) := by decide +kernel
theorem dL_next_31 : decode cL_next 31 = .ok (.ireturn, 1) := by decide +kernel
theorem dL_known_0 : decode cL_known 0 = .ok (.aload_n 1, 1) := by decide +kernel
theorem dL_known_1 : decode cL_known 1 = .ok (.bipush 16, 2) := by decide +kernel
theorem dL_known_3 : decode cL_known 3 = .ok (.iload_n 0, 1) := by decide +kernel
theorem dL_known_4 : decode cL_known 4 = .ok (.iadd, 1) := by decide +kernel
theorem dL_known_5 : decode cL_known 5 = .ok (.iaload, 1) := by decide +kernel
theorem dL_known_6 : decode cL_known 6 = .ok (.istore 4, 2) := by decide +kernel
theorem dL_known_8 : decode cL_known 8 = .ok (.iload 4, 2) := by decide +kernel
theorem dL_known_10 : decode cL_known 10 = .ok (.ifCond .ge 7, 3) := by decide +kernel
theorem dL_known_13 : decode cL_known 13 = .ok (.iconst (-1), 1) := by decide +kernel
theorem dL_known_14 : decode cL_known 14 = .ok (.goto 43, 3) := by decide +kernel
theorem dL_known_17 : decode cL_known 17 = .ok (.iload 4, 2) := by decide +kernel
theorem dL_known_19 : decode cL_known 19 = .ok (.sipush 1000, 3) := by decide +kernel
theorem dL_known_22 : decode cL_known 22 = .ok (.if_icmp .ge 8, 3) := by decide +kernel
theorem dL_known_25 : decode cL_known 25 = .ok (.iload 4, 2) := by decide +kernel
theorem dL_known_27 : decode cL_known 27 = .ok (.goto 30, 3) := by decide +kernel
theorem dL_known_30 : decode cL_known 30 = .ok (.aload_n 3, 1) := by decide +kernel
theorem dL_known_31 : decode cL_known 31 = .ok (.aload_n 2, 1) := by decide +kernel
theorem dL_known_32 : decode cL_known 32 = .ok (.iload_n 0, 1) := by decide +kernel
theorem dL_known_33 : decode cL_known 33 = .ok (.iaload, 1) := by decide +kernel
theorem dL_known_34 : decode cL_known 34 = .ok (.iaload, 1) := by decide +kernel
theorem dL_known_35 : decode cL_known 35 = .ok (.ifCond .ge 7, 3) := by decide +kernel
theorem dL_known_38 : decode cL_known 38 = .ok (.iconst (-1), 1) := by decide +kernel
theorem dL_known_39 : decode cL_known 39 = .ok (.goto 18, 3) := by decide +kernel
theorem dL_known_42 : decode cL_known 42 = .ok (.aload_n 3, 1) := by decide +kernel
theorem dL_known_43 : decode cL_known 43 = .ok (.aload_n 2, 1) := by decide +kernel
theorem dL_known_44 : decode cL_known 44 = .ok (.iload_n 0, 1) := by decide +kernel
theorem dL_known_45 : decode cL_known 45 = .ok (.iaload, 1) := by decide +kernel
theorem dL_known_46 : decode cL_known 46 = .ok (.iaload, 1) := by decide +kernel
theorem dL_known_47 : decode cL_known 47 = .ok (.iload 4, 2) := by decide +kernel
theorem dL_known_49 : decode cL_known 49 = .ok (.sipush 1000, 3) := by decide +kernel
theorem dL_known_52 : decode cL_known 52 = .ok (.isub, 1) := by decide +kernel
theorem dL_known_53 : decode cL_known 53 = .ok (.imul, 1) := by decide +kernel
theorem dL_known_54 : decode cL_known 54 = .ok (.bipush 100, 2) := by decide +kernel
theorem dL_known_56 : decode cL_known 56 = .ok (.idiv, 1) := by decide +kernel
theorem dL_known_57 : decode cL_known 57 = .ok (.ireturn, 1) := by decide +kernel
theorem dL_inside_0 : decode cL_inside 0 = .ok (.iload_n 0, 1) := by decide +kernel
theorem dL_inside_1 : decode cL_inside 1 = .ok (.ifCond .ne 7, 3) := by decide +kernel
theorem dL_inside_4 : decode cL_inside 4 = .ok (.iconst 0, 1) := by decide +kernel
theorem dL_inside_5 : decode cL_inside 5 = .ok (.goto 14, 3) := by decide +kernel
theorem dL_inside_8 : decode cL_inside 8 = .ok (.aload_n 1, 1) := by decide +kernel
theorem dL_inside_9 : decode cL_inside 9 = .ok (.iload_n 0, 1) := by decide +kernel
theorem dL_inside_10 : decode cL_inside 10 = .ok (.iaload, 1) := by decide +kernel
theorem dL_inside_11 : decode cL_inside 11 = .ok (.aload_n 2, 1) := by decide +kernel
theorem dL_inside_12 : decode cL_inside 12 = .ok (.iconst 4, 1) := by decide +kernel
theorem dL_inside_13 : decode cL_inside 13 = .ok (.iload_n 0, 1) := by decide +kernel
theorem dL_inside_14 : decode cL_inside 14 = .ok (.imul, 1) := by decide +kernel
theorem dL_inside_15 : decode cL_inside 15 = .ok (.iconst 3, 1) := by decide +kernel
theorem dL_inside_16 : decode cL_inside 16 = .ok (.iadd, 1) := by decide +kernel
theorem dL_inside_17 : decode cL_inside 17 = .ok (.iaload, 1) := by decide +kernel
theorem dL_inside_18 : decode cL_inside 18 = .ok (.iadd, 1) := by decide +kernel
theorem dL_inside_19 : decode cL_inside 19 = .ok (.ireturn, 1) := by decide +kernel
theorem dL_enters_0 : decode cL_enters 0 = .ok (.aload_n 1, 1) := by decide +kernel
theorem dL_enters_1 : decode cL_enters 1 = .ok (.iload_n 0, 1) := by decide +kernel
theorem dL_enters_2 : decode cL_enters 2 = .ok (.iaload, 1) := by decide +kernel
theorem dL_enters_3 : decode cL_enters 3 = .ok (.istore 8, 2) := by decide +kernel
theorem dL_enters_5 : decode cL_enters 5 = .ok (.aload 5, 2) := by decide +kernel
theorem dL_enters_7 : decode cL_enters 7 = .ok (.bipush 32, 2) := by decide +kernel
theorem dL_enters_9 : decode cL_enters 9 = .ok (.iload 8, 2) := by decide +kernel
theorem dL_enters_11 : decode cL_enters 11 = .ok (.iadd, 1) := by decide +kernel
theorem dL_enters_12 : decode cL_enters 12 = .ok (.iaload, 1) := by decide +kernel
theorem dL_enters_13 : decode cL_enters 13 = .ok (.aload_n 2, 1) := by decide +kernel
theorem dL_enters_14 : decode cL_enters 14 = .ok (.iconst 4, 1) := by decide +kernel
theorem dL_enters_15 : decode cL_enters 15 = .ok (.iload_n 0, 1) := by decide +kernel
theorem dL_enters_16 : decode cL_enters 16 = .ok (.imul, 1) := by decide +kernel
theorem dL_enters_17 : decode cL_enters 17 = .ok (.iconst 1, 1) := by decide +kernel
theorem dL_enters_18 : decode cL_enters 18 = .ok (.iadd, 1) := by decide +kernel
theorem dL_enters_19 : decode cL_enters 19 = .ok (.iaload, 1) := by decide +kernel
theorem dL_enters_20 : decode cL_enters 20 = .ok (.isub, 1) := by decide +kernel
theorem dL_enters_21 : decode cL_enters 21 = .ok (.aload_n 2, 1) := by decide +kernel
theorem dL_enters_22 : decode cL_enters 22 = .ok (.iconst 4, 1) := by decide +kernel
theorem dL_enters_23 : decode cL_enters 23 = .ok (.iload_n 0, 1) := by decide +kernel
theorem dL_enters_24 : decode cL_enters 24 = .ok (.imul, 1) := by decide +kernel
theorem dL_enters_25 : decode cL_enters 25 = .ok (.iconst 3, 1) := by decide +kernel
theorem dL_enters_26 : decode cL_enters 26 = .ok (.iadd, 1) := by decide +kernel
theorem dL_enters_27 : decode cL_enters 27 = .ok (.iaload, 1) := by decide +kernel
theorem dL_enters_28 : decode cL_enters 28 = .ok (.isub, 1) := by decide +kernel
theorem dL_enters_29 : decode cL_enters 29 = .ok (.aload_n 3, 1) := by decide +kernel
theorem dL_enters_30 : decode cL_enters 30 = .ok (.iconst 4, 1) := by decide +kernel
theorem dL_enters_31 : decode cL_enters 31 = .ok (.iload_n 0, 1) := by decide +kernel
theorem dL_enters_32 : decode cL_enters 32 = .ok (.imul, 1) := by decide +kernel
theorem dL_enters_33 : decode cL_enters 33 = .ok (.iconst 1, 1) := by decide +kernel
theorem dL_enters_34 : decode cL_enters 34 = .ok (.iadd, 1) := by decide +kernel
theorem dL_enters_35 : decode cL_enters 35 = .ok (.iaload, 1) := by decide +kernel
theorem dL_enters_36 : decode cL_enters 36 = .ok (.isub, 1) := by decide +kernel
theorem dL_enters_37 : decode cL_enters 37 = .ok (.aload_n 3, 1) := by decide +kernel
theorem dL_enters_38 : decode cL_enters 38 = .ok (.iconst 4, 1) := by decide +kernel
theorem dL_enters_39 : decode cL_enters 39 = .ok (.iload_n 0, 1) := by decide +kernel
theorem dL_enters_40 : decode cL_enters 40 = .ok (.imul, 1) := by decide +kernel
theorem dL_enters_41 : decode cL_enters 41 = .ok (.iconst 3, 1) := by decide +kernel
theorem dL_enters_42 : decode cL_enters 42 = .ok (.iadd, 1) := by decide +kernel
theorem dL_enters_43 : decode cL_enters 43 = .ok (.iaload, 1) := by decide +kernel
theorem dL_enters_44 : decode cL_enters 44 = .ok (.isub, 1) := by decide +kernel
theorem dL_enters_45 : decode cL_enters 45 = .ok (.istore 9, 2) := by decide +kernel
theorem dL_enters_47 : decode cL_enters 47 = .ok (.aload_n 2, 1) := by decide +kernel
theorem dL_enters_48 : decode cL_enters 48 = .ok (.iconst 4, 1) := by decide +kernel
theorem dL_enters_49 : decode cL_enters 49 = .ok (.iload_n 0, 1) := by decide +kernel
theorem dL_enters_50 : decode cL_enters 50 = .ok (.imul, 1) := by decide +kernel
theorem dL_enters_51 : decode cL_enters 51 = .ok (.iaload, 1) := by decide +kernel
theorem dL_enters_52 : decode cL_enters 52 = .ok (.aload 7, 2) := by decide +kernel
theorem dL_enters_54 : decode cL_enters 54 = .ok (.invokestatic 10, 3) := by decide +kernel
theorem dL_enters_57 : decode cL_enters 57 = .ok (.aload 7, 2) := by decide +kernel
theorem dL_enters_59 : decode cL_enters 59 = .ok (.iconst 5, 1) := by decide +kernel
theorem dL_enters_60 : decode cL_enters 60 = .ok (.dup2, 1) := by decide +kernel
theorem dL_enters_61 : decode cL_enters 61 = .ok (.iaload, 1) := by decide +kernel
theorem dL_enters_62 : decode cL_enters 62 = .ok (.iconst 1, 1) := by decide +kernel
theorem dL_enters_63 : decode cL_enters 63 = .ok (.iload_n 0, 1) := by decide +kernel
theorem dL_enters_64 : decode cL_enters 64 = .ok (.ishl, 1) := by decide +kernel
theorem dL_enters_65 : decode cL_enters 65 = .ok (.ior, 1) := by decide +kernel
theorem dL_enters_66 : decode cL_enters 66 = .ok (.iastore, 1) := by decide +kernel
theorem dL_enters_67 : decode cL_enters 67 = .ok (.aload_n 3, 1) := by decide +kernel
theorem dL_enters_68 : decode cL_enters 68 = .ok (.iconst 4, 1) := by decide +kernel
theorem dL_enters_69 : decode cL_enters 69 = .ok (.iload_n 0, 1) := by decide +kernel
theorem dL_enters_70 : decode cL_enters 70 = .ok (.imul, 1) := by decide +kernel
theorem dL_enters_71 : decode cL_enters 71 = .ok (.iaload, 1) := by decide +kernel
theorem dL_enters_72 : decode cL_enters 72 = .ok (.ifCond .le 22, 3) := by decide +kernel
theorem dL_enters_75 : decode cL_enters 75 = .ok (.aload 7, 2) := by decide +kernel
theorem dL_enters_77 : decode cL_enters 77 = .ok (.aload 5, 2) := by decide +kernel
theorem dL_enters_79 : decode cL_enters 79 = .ok (.invokestatic 16, 3) := by decide +kernel
theorem dL_enters_82 : decode cL_enters 82 = .ok (.aload 7, 2) := by decide +kernel
theorem dL_enters_84 : decode cL_enters 84 = .ok (.iconst 0, 1) := by decide +kernel
theorem dL_enters_85 : decode cL_enters 85 = .ok (.dup2, 1) := by decide +kernel
theorem dL_enters_86 : decode cL_enters 86 = .ok (.iaload, 1) := by decide +kernel
theorem dL_enters_87 : decode cL_enters 87 = .ok (.aload_n 3, 1) := by decide +kernel
theorem dL_enters_88 : decode cL_enters 88 = .ok (.iconst 4, 1) := by decide +kernel
theorem dL_enters_89 : decode cL_enters 89 = .ok (.iload_n 0, 1) := by decide +kernel
theorem dL_enters_90 : decode cL_enters 90 = .ok (.imul, 1) := by decide +kernel
theorem dL_enters_91 : decode cL_enters 91 = .ok (.iaload, 1) := by decide +kernel
theorem dL_enters_92 : decode cL_enters 92 = .ok (.iadd, 1) := by decide +kernel
theorem dL_enters_93 : decode cL_enters 93 = .ok (.iastore, 1) := by decide +kernel
theorem dL_enters_94 : decode cL_enters 94 = .ok (.aload 6, 2) := by decide +kernel
theorem dL_enters_96 : decode cL_enters 96 = .ok (.iload_n 0, 1) := by decide +kernel
theorem dL_enters_97 : decode cL_enters 97 = .ok (.iload_n 0, 1) := by decide +kernel
theorem dL_enters_98 : decode cL_enters 98 = .ok (.aload 4, 2) := by decide +kernel
theorem dL_enters_100 : decode cL_enters 100 = .ok (.aload_n 1, 1) := by decide +kernel
theorem dL_enters_101 : decode cL_enters 101 = .ok (.aload 6, 2) := by decide +kernel
theorem dL_enters_103 : decode cL_enters 103 = .ok (.invokestatic 20, 3) := by decide +kernel
theorem dL_enters_106 : decode cL_enters 106 = .ok (.iastore, 1) := by decide +kernel
theorem dL_enters_107 : decode cL_enters 107 = .ok (.aload 5, 2) := by decide +kernel
theorem dL_enters_109 : decode cL_enters 109 = .ok (.iload_n 0, 1) := by decide +kernel
theorem dL_enters_110 : decode cL_enters 110 = .ok (.iload 8, 2) := by decide +kernel
theorem dL_enters_112 : decode cL_enters 112 = .ok (.aload 5, 2) := by decide +kernel
theorem dL_enters_114 : decode cL_enters 114 = .ok (.aload_n 3, 1) := by decide +kernel
theorem dL_enters_115 : decode cL_enters 115 = .ok (.invokestatic 24, 3) := by decide +kernel
theorem dL_enters_118 : decode cL_enters 118 = .ok (.aload_n 2, 1) := by decide +kernel
theorem dL_enters_119 : decode cL_enters 119 = .ok (.iconst 4, 1) := by decide +kernel
theorem dL_enters_120 : decode cL_enters 120 = .ok (.iload_n 0, 1) := by decide +kernel
theorem dL_enters_121 : decode cL_enters 121 = .ok (.imul, 1) := by decide +kernel
theorem dL_enters_122 : decode cL_enters 122 = .ok (.iconst 3, 1) := by decide +kernel
theorem dL_enters_123 : decode cL_enters 123 = .ok (.iadd, 1) := by decide +kernel
theorem dL_enters_124 : decode cL_enters 124 = .ok (.iaload, 1) := by decide +kernel
theorem dL_enters_125 : decode cL_enters 125 = .ok (.iadd, 1) := by decide +kernel
theorem dL_enters_126 : decode cL_enters 126 = .ok (.iastore, 1) := by decide +kernel
theorem dL_enters_127 : decode cL_enters 127 = .ok (.aload 5, 2) := by decide +kernel
theorem dL_enters_129 : decode cL_enters 129 = .ok (.bipush 32, 2) := by decide +kernel
theorem dL_enters_131 : decode cL_enters 131 = .ok (.iload_n 0, 1) := by decide +kernel
theorem dL_enters_132 : decode cL_enters 132 = .ok (.iadd, 1) := by decide +kernel
theorem dL_enters_133 : decode cL_enters 133 = .ok (.aload 4, 2) := by decide +kernel
theorem dL_enters_135 : decode cL_enters 135 = .ok (.iload_n 0, 1) := by decide +kernel
theorem dL_enters_136 : decode cL_enters 136 = .ok (.iaload, 1) := by decide +kernel
theorem dL_enters_137 : decode cL_enters 137 = .ok (.sipush 1000, 3) := by decide +kernel
theorem dL_enters_140 : decode cL_enters 140 = .ok (.if_icmp .lt 26, 3) := by decide +kernel
theorem dL_enters_143 : decode cL_enters 143 = .ok (.aload 5, 2) := by decide +kernel
theorem dL_enters_145 : decode cL_enters 145 = .ok (.bipush 32, 2) := by decide +kernel
theorem dL_enters_147 : decode cL_enters 147 = .ok (.iload 8, 2) := by decide +kernel
theorem dL_enters_149 : decode cL_enters 149 = .ok (.iadd, 1) := by decide +kernel
theorem dL_enters_150 : decode cL_enters 150 = .ok (.iaload, 1) := by decide +kernel
theorem dL_enters_151 : decode cL_enters 151 = .ok (.aload 4, 2) := by decide +kernel
theorem dL_enters_153 : decode cL_enters 153 = .ok (.iload_n 0, 1) := by decide +kernel
theorem dL_enters_154 : decode cL_enters 154 = .ok (.iaload, 1) := by decide +kernel
theorem dL_enters_155 : decode cL_enters 155 = .ok (.sipush 1000, 3) := by decide +kernel
theorem dL_enters_158 : decode cL_enters 158 = .ok (.isub, 1) := by decide +kernel
theorem dL_enters_159 : decode cL_enters 159 = .ok (.imul, 1) := by decide +kernel
theorem dL_enters_160 : decode cL_enters 160 = .ok (.bipush 100, 2) := by decide +kernel
theorem dL_enters_162 : decode cL_enters 162 = .ok (.idiv, 1) := by decide +kernel
theorem dL_enters_163 : decode cL_enters 163 = .ok (.goto 28, 3) := by decide +kernel
theorem dL_enters_166 : decode cL_enters 166 = .ok (.aload 4, 2) := by decide +kernel
theorem dL_enters_168 : decode cL_enters 168 = .ok (.iload_n 0, 1) := by decide +kernel
theorem dL_enters_169 : decode cL_enters 169 = .ok (.iaload, 1) := by decide +kernel
theorem dL_enters_170 : decode cL_enters 170 = .ok (.ifCond .lt 10, 3) := by decide +kernel
theorem dL_enters_173 : decode cL_enters 173 = .ok (.aload 4, 2) := by decide +kernel
theorem dL_enters_175 : decode cL_enters 175 = .ok (.iload_n 0, 1) := by decide +kernel
theorem dL_enters_176 : decode cL_enters 176 = .ok (.iaload, 1) := by decide +kernel
theorem dL_enters_177 : decode cL_enters 177 = .ok (.goto 14, 3) := by decide +kernel
theorem dL_enters_180 : decode cL_enters 180 = .ok (.iload 9, 2) := by decide +kernel
theorem dL_enters_182 : decode cL_enters 182 = .ok (.ifCond .le 8, 3) := by decide +kernel
theorem dL_enters_185 : decode cL_enters 185 = .ok (.iload 9, 2) := by decide +kernel
theorem dL_enters_187 : decode cL_enters 187 = .ok (.goto 4, 3) := by decide +kernel
theorem dL_enters_190 : decode cL_enters 190 = .ok (.iconst 0, 1) := by decide +kernel
theorem dL_enters_191 : decode cL_enters 191 = .ok (.iastore, 1) := by decide +kernel
theorem dL_enters_192 : decode cL_enters 192 = .ok (.return_, 1) := by decide +kernel
theorem dL_leaves_0 : decode cL_leaves 0 = .ok (.aload_n 2, 1) := by decide +kernel
theorem dL_leaves_1 : decode cL_leaves 1 = .ok (.iconst 4, 1) := by decide +kernel
theorem dL_leaves_2 : decode cL_leaves 2 = .ok (.iload_n 0, 1) := by decide +kernel
theorem dL_leaves_3 : decode cL_leaves 3 = .ok (.imul, 1) := by decide +kernel
theorem dL_leaves_4 : decode cL_leaves 4 = .ok (.iconst 2, 1) := by decide +kernel
theorem dL_leaves_5 : decode cL_leaves 5 = .ok (.iadd, 1) := by decide +kernel
theorem dL_leaves_6 : decode cL_leaves 6 = .ok (.iaload, 1) := by decide +kernel
theorem dL_leaves_7 : decode cL_leaves 7 = .ok (.istore 6, 2) := by decide +kernel
theorem dL_leaves_9 : decode cL_leaves 9 = .ok (.aload 5, 2) := by decide +kernel
theorem dL_leaves_11 : decode cL_leaves 11 = .ok (.iconst 5, 1) := by decide +kernel
theorem dL_leaves_12 : decode cL_leaves 12 = .ok (.iaload, 1) := by decide +kernel
theorem dL_leaves_13 : decode cL_leaves 13 = .ok (.iload_n 0, 1) := by decide +kernel
theorem dL_leaves_14 : decode cL_leaves 14 = .ok (.ishr, 1) := by decide +kernel
theorem dL_leaves_15 : decode cL_leaves 15 = .ok (.iconst 1, 1) := by decide +kernel
theorem dL_leaves_16 : decode cL_leaves 16 = .ok (.iand, 1) := by decide +kernel
theorem dL_leaves_17 : decode cL_leaves 17 = .ok (.iconst 1, 1) := by decide +kernel
theorem dL_leaves_18 : decode cL_leaves 18 = .ok (.if_icmp .ne 7, 3) := by decide +kernel
theorem dL_leaves_21 : decode cL_leaves 21 = .ok (.iconst 1, 1) := by decide +kernel
theorem dL_leaves_22 : decode cL_leaves 22 = .ok (.goto 4, 3) := by decide +kernel
theorem dL_leaves_25 : decode cL_leaves 25 = .ok (.iconst 0, 1) := by decide +kernel
theorem dL_leaves_26 : decode cL_leaves 26 = .ok (.istore 7, 2) := by decide +kernel
theorem dL_leaves_28 : decode cL_leaves 28 = .ok (.aload 5, 2) := by decide +kernel
theorem dL_leaves_30 : decode cL_leaves 30 = .ok (.iconst 0, 1) := by decide +kernel
theorem dL_leaves_31 : decode cL_leaves 31 = .ok (.iaload, 1) := by decide +kernel
theorem dL_leaves_32 : decode cL_leaves 32 = .ok (.aload_n 3, 1) := by decide +kernel
theorem dL_leaves_33 : decode cL_leaves 33 = .ok (.bipush 16, 2) := by decide +kernel
theorem dL_leaves_35 : decode cL_leaves 35 = .ok (.iload_n 0, 1) := by decide +kernel
theorem dL_leaves_36 : decode cL_leaves 36 = .ok (.iadd, 1) := by decide +kernel
theorem dL_leaves_37 : decode cL_leaves 37 = .ok (.iaload, 1) := by decide +kernel
theorem dL_leaves_38 : decode cL_leaves 38 = .ok (.isub, 1) := by decide +kernel
theorem dL_leaves_39 : decode cL_leaves 39 = .ok (.aload_n 2, 1) := by decide +kernel
theorem dL_leaves_40 : decode cL_leaves 40 = .ok (.iconst 4, 1) := by decide +kernel
theorem dL_leaves_41 : decode cL_leaves 41 = .ok (.iload_n 0, 1) := by decide +kernel
theorem dL_leaves_42 : decode cL_leaves 42 = .ok (.imul, 1) := by decide +kernel
theorem dL_leaves_43 : decode cL_leaves 43 = .ok (.iaload, 1) := by decide +kernel
theorem dL_leaves_44 : decode cL_leaves 44 = .ok (.isub, 1) := by decide +kernel
theorem dL_leaves_45 : decode cL_leaves 45 = .ok (.istore 8, 2) := by decide +kernel
theorem dL_leaves_47 : decode cL_leaves 47 = .ok (.iload 7, 2) := by decide +kernel
theorem dL_leaves_49 : decode cL_leaves 49 = .ok (.ifCond .eq 57, 3) := by decide +kernel
theorem dL_leaves_52 : decode cL_leaves 52 = .ok (.aload 4, 2) := by decide +kernel
theorem dL_leaves_54 : decode cL_leaves 54 = .ok (.iload_n 0, 1) := by decide +kernel
theorem dL_leaves_55 : decode cL_leaves 55 = .ok (.iaload, 1) := by decide +kernel
theorem dL_leaves_56 : decode cL_leaves 56 = .ok (.ifCond .gt 50, 3) := by decide +kernel
theorem dL_leaves_59 : decode cL_leaves 59 = .ok (.iload 6, 2) := by decide +kernel
theorem dL_leaves_61 : decode cL_leaves 61 = .ok (.ifCond .ne 45, 3) := by decide +kernel
theorem dL_leaves_64 : decode cL_leaves 64 = .ok (.aload_n 3, 1) := by decide +kernel
theorem dL_leaves_65 : decode cL_leaves 65 = .ok (.bipush 16, 2) := by decide +kernel
theorem dL_leaves_67 : decode cL_leaves 67 = .ok (.iload_n 0, 1) := by decide +kernel
theorem dL_leaves_68 : decode cL_leaves 68 = .ok (.iadd, 1) := by decide +kernel
theorem dL_leaves_69 : decode cL_leaves 69 = .ok (.aload 5, 2) := by decide +kernel
theorem dL_leaves_71 : decode cL_leaves 71 = .ok (.iconst 0, 1) := by decide +kernel
theorem dL_leaves_72 : decode cL_leaves 72 = .ok (.iaload, 1) := by decide +kernel
theorem dL_leaves_73 : decode cL_leaves 73 = .ok (.aload 5, 2) := by decide +kernel
theorem dL_leaves_75 : decode cL_leaves 75 = .ok (.iconst 1, 1) := by decide +kernel
theorem dL_leaves_76 : decode cL_leaves 76 = .ok (.iaload, 1) := by decide +kernel
theorem dL_leaves_77 : decode cL_leaves 77 = .ok (.iadd, 1) := by decide +kernel
theorem dL_leaves_78 : decode cL_leaves 78 = .ok (.aload 5, 2) := by decide +kernel
theorem dL_leaves_80 : decode cL_leaves 80 = .ok (.iconst 2, 1) := by decide +kernel
theorem dL_leaves_81 : decode cL_leaves 81 = .ok (.iaload, 1) := by decide +kernel
theorem dL_leaves_82 : decode cL_leaves 82 = .ok (.iadd, 1) := by decide +kernel
theorem dL_leaves_83 : decode cL_leaves 83 = .ok (.iastore, 1) := by decide +kernel
theorem dL_leaves_84 : decode cL_leaves 84 = .ok (.aload_n 3, 1) := by decide +kernel
theorem dL_leaves_85 : decode cL_leaves 85 = .ok (.bipush 48, 2) := by decide +kernel
theorem dL_leaves_87 : decode cL_leaves 87 = .ok (.iload_n 0, 1) := by decide +kernel
theorem dL_leaves_88 : decode cL_leaves 88 = .ok (.iadd, 1) := by decide +kernel
theorem dL_leaves_89 : decode cL_leaves 89 = .ok (.iconst 0, 1) := by decide +kernel
theorem dL_leaves_90 : decode cL_leaves 90 = .ok (.iastore, 1) := by decide +kernel
theorem dL_leaves_91 : decode cL_leaves 91 = .ok (.aload 5, 2) := by decide +kernel
theorem dL_leaves_93 : decode cL_leaves 93 = .ok (.iconst 5, 1) := by decide +kernel
theorem dL_leaves_94 : decode cL_leaves 94 = .ok (.dup2, 1) := by decide +kernel
theorem dL_leaves_95 : decode cL_leaves 95 = .ok (.iaload, 1) := by decide +kernel
theorem dL_leaves_96 : decode cL_leaves 96 = .ok (.iconst 1, 1) := by decide +kernel
theorem dL_leaves_97 : decode cL_leaves 97 = .ok (.iload_n 0, 1) := by decide +kernel
theorem dL_leaves_98 : decode cL_leaves 98 = .ok (.ishl, 1) := by decide +kernel
theorem dL_leaves_99 : decode cL_leaves 99 = .ok (.iconst (-1), 1) := by decide +kernel
theorem dL_leaves_100 : decode cL_leaves 100 = .ok (.ixor, 1) := by decide +kernel
theorem dL_leaves_101 : decode cL_leaves 101 = .ok (.iand, 1) := by decide +kernel
theorem dL_leaves_102 : decode cL_leaves 102 = .ok (.iastore, 1) := by decide +kernel
theorem dL_leaves_103 : decode cL_leaves 103 = .ok (.goto 193, 3) := by decide +kernel
theorem dL_leaves_106 : decode cL_leaves 106 = .ok (.iload 7, 2) := by decide +kernel
theorem dL_leaves_108 : decode cL_leaves 108 = .ok (.ifCond .eq 49, 3) := by decide +kernel
theorem dL_leaves_111 : decode cL_leaves 111 = .ok (.aload 5, 2) := by decide +kernel
theorem dL_leaves_113 : decode cL_leaves 113 = .ok (.aload_n 3, 1) := by decide +kernel
theorem dL_leaves_114 : decode cL_leaves 114 = .ok (.invokestatic 16, 3) := by decide +kernel
theorem dL_leaves_117 : decode cL_leaves 117 = .ok (.aload_n 3, 1) := by decide +kernel
theorem dL_leaves_118 : decode cL_leaves 118 = .ok (.bipush 48, 2) := by decide +kernel
theorem dL_leaves_120 : decode cL_leaves 120 = .ok (.iload_n 0, 1) := by decide +kernel
theorem dL_leaves_121 : decode cL_leaves 121 = .ok (.iadd, 1) := by decide +kernel
theorem dL_leaves_122 : decode cL_leaves 122 = .ok (.aload 4, 2) := by decide +kernel
theorem dL_leaves_124 : decode cL_leaves 124 = .ok (.iload_n 0, 1) := by decide +kernel
theorem dL_leaves_125 : decode cL_leaves 125 = .ok (.iaload, 1) := by decide +kernel
theorem dL_leaves_126 : decode cL_leaves 126 = .ok (.ifCond .le 10, 3) := by decide +kernel
theorem dL_leaves_129 : decode cL_leaves 129 = .ok (.aload 4, 2) := by decide +kernel
theorem dL_leaves_131 : decode cL_leaves 131 = .ok (.iload_n 0, 1) := by decide +kernel
theorem dL_leaves_132 : decode cL_leaves 132 = .ok (.iaload, 1) := by decide +kernel
theorem dL_leaves_133 : decode cL_leaves 133 = .ok (.goto 4, 3) := by decide +kernel
theorem dL_leaves_136 : decode cL_leaves 136 = .ok (.iconst 0, 1) := by decide +kernel
theorem dL_leaves_137 : decode cL_leaves 137 = .ok (.iastore, 1) := by decide +kernel
theorem dL_leaves_138 : decode cL_leaves 138 = .ok (.aload 5, 2) := by decide +kernel
theorem dL_leaves_140 : decode cL_leaves 140 = .ok (.iconst 0, 1) := by decide +kernel
theorem dL_leaves_141 : decode cL_leaves 141 = .ok (.dup2, 1) := by decide +kernel
theorem dL_leaves_142 : decode cL_leaves 142 = .ok (.iaload, 1) := by decide +kernel
theorem dL_leaves_143 : decode cL_leaves 143 = .ok (.aload_n 3, 1) := by decide +kernel
theorem dL_leaves_144 : decode cL_leaves 144 = .ok (.bipush 48, 2) := by decide +kernel
theorem dL_leaves_146 : decode cL_leaves 146 = .ok (.iload_n 0, 1) := by decide +kernel
theorem dL_leaves_147 : decode cL_leaves 147 = .ok (.iadd, 1) := by decide +kernel
theorem dL_leaves_148 : decode cL_leaves 148 = .ok (.iaload, 1) := by decide +kernel
theorem dL_leaves_149 : decode cL_leaves 149 = .ok (.iload 6, 2) := by decide +kernel
theorem dL_leaves_151 : decode cL_leaves 151 = .ok (.iadd, 1) := by decide +kernel
theorem dL_leaves_152 : decode cL_leaves 152 = .ok (.iadd, 1) := by decide +kernel
theorem dL_leaves_153 : decode cL_leaves 153 = .ok (.iastore, 1) := by decide +kernel
theorem dL_leaves_154 : decode cL_leaves 154 = .ok (.goto 142, 3) := by decide +kernel
theorem dL_leaves_157 : decode cL_leaves 157 = .ok (.aload 4, 2) := by decide +kernel
theorem dL_leaves_159 : decode cL_leaves 159 = .ok (.iload_n 0, 1) := by decide +kernel
theorem dL_leaves_160 : decode cL_leaves 160 = .ok (.iaload, 1) := by decide +kernel
theorem dL_leaves_161 : decode cL_leaves 161 = .ok (.ifCond .lt 50, 3) := by decide +kernel
theorem dL_leaves_164 : decode cL_leaves 164 = .ok (.aload 5, 2) := by decide +kernel
theorem dL_leaves_166 : decode cL_leaves 166 = .ok (.iconst 1, 1) := by decide +kernel
theorem dL_leaves_167 : decode cL_leaves 167 = .ok (.iconst 0, 1) := by decide +kernel
theorem dL_leaves_168 : decode cL_leaves 168 = .ok (.iastore, 1) := by decide +kernel
theorem dL_leaves_169 : decode cL_leaves 169 = .ok (.aload 5, 2) := by decide +kernel
theorem dL_leaves_171 : decode cL_leaves 171 = .ok (.iconst 2, 1) := by decide +kernel
theorem dL_leaves_172 : decode cL_leaves 172 = .ok (.iconst 0, 1) := by decide +kernel
theorem dL_leaves_173 : decode cL_leaves 173 = .ok (.iastore, 1) := by decide +kernel
theorem dL_leaves_174 : decode cL_leaves 174 = .ok (.aload_n 3, 1) := by decide +kernel
theorem dL_leaves_175 : decode cL_leaves 175 = .ok (.bipush 48, 2) := by decide +kernel
theorem dL_leaves_177 : decode cL_leaves 177 = .ok (.iload_n 0, 1) := by decide +kernel
theorem dL_leaves_178 : decode cL_leaves 178 = .ok (.iadd, 1) := by decide +kernel
theorem dL_leaves_179 : decode cL_leaves 179 = .ok (.aload 4, 2) := by decide +kernel
theorem dL_leaves_181 : decode cL_leaves 181 = .ok (.iload_n 0, 1) := by decide +kernel
theorem dL_leaves_182 : decode cL_leaves 182 = .ok (.iaload, 1) := by decide +kernel
