theorem dX0_init_0 : decode cX0_init 0 = .ok (.aload_n 0, 1) := by decide +kernel
theorem dX0_init_1 : decode cX0_init 1 = .ok (.invokespecial 3, 3) := by decide +kernel
theorem dX0_init_4 : decode cX0_init 4 = .ok (.aload_n 0, 1) := by decide +kernel
theorem dX0_init_5 : decode cX0_init 5 = .ok (.iconst 0, 1) := by decide +kernel
theorem dX0_init_6 : decode cX0_init 6 = .ok (.putfield 9, 3) := by decide +kernel
theorem dX0_init_9 : decode cX0_init 9 = .ok (.aload_n 0, 1) := by decide +kernel
theorem dX0_init_10 : decode cX0_init 10 = .ok (.bipush 120, 2) := by decide +kernel
theorem dX0_init_12 : decode cX0_init 12 = .ok (.newarray .int, 2) := by decide +kernel
theorem dX0_init_14 : decode cX0_init 14 = .ok (.putfield 15, 3) := by decide +kernel
theorem dX0_init_17 : decode cX0_init 17 = .ok (.aload_n 0, 1) := by decide +kernel
theorem dX0_init_18 : decode cX0_init 18 = .ok (.iconst 0, 1) := by decide +kernel
theorem dX0_init_19 : decode cX0_init 19 = .ok (.putfield 19, 3) := by decide +kernel
theorem dX0_init_22 : decode cX0_init 22 = .ok (.aload_n 0, 1) := by decide +kernel
theorem dX0_init_23 : decode cX0_init 23 = .ok (.iconst 1, 1) := by decide +kernel
theorem dX0_init_24 : decode cX0_init 24 = .ok (.putfield 22, 3) := by decide +kernel
theorem dX0_init_27 : decode cX0_init 27 = .ok (.aload_n 0, 1) := by decide +kernel
theorem dX0_init_28 : decode cX0_init 28 = .ok (.iload_n 1, 1) := by decide +kernel
theorem dX0_init_29 : decode cX0_init 29 = .ok (.putfield 25, 3) := by decide +kernel
theorem dX0_init_32 : decode cX0_init 32 = .ok (.return_, 1) := by decide +kernel
theorem dX0_width_0 : decode cX0_width 0 = .ok (.aload_n 0, 1) := by decide +kernel
theorem dX0_width_1 : decode cX0_width 1 = .ok (.getfield 25, 3) := by decide +kernel
theorem dX0_width_4 : decode cX0_width 4 = .ok (.ireturn, 1) := by decide +kernel
theorem dX0_height_0 : decode cX0_height 0 = .ok (.aload_n 0, 1) := by decide +kernel
theorem dX0_height_1 : decode cX0_height 1 = .ok (.getfield 9, 3) := by decide +kernel
theorem dX0_height_4 : decode cX0_height 4 = .ok (.ireturn, 1) := by decide +kernel
theorem dX0_addRow_0 : decode cX0_addRow 0 = .ok (.iconst 0, 1) := by decide +kernel
theorem dX0_addRow_1 : decode cX0_addRow 1 = .ok (.istore_n 2, 1) := by decide +kernel
theorem dX0_addRow_2 : decode cX0_addRow 2 = .ok (.iload_n 2, 1) := by decide +kernel
theorem dX0_addRow_3 : decode cX0_addRow 3 = .ok (.aload_n 0, 1) := by decide +kernel
theorem dX0_addRow_4 : decode cX0_addRow 4 = .ok (.getfield 25, 3) := by decide +kernel
theorem dX0_addRow_7 : decode cX0_addRow 7 = .ok (.if_icmp .ge 30, 3) := by decide +kernel
theorem dX0_addRow_10 : decode cX0_addRow 10 = .ok (.aload_n 0, 1) := by decide +kernel
theorem dX0_addRow_11 : decode cX0_addRow 11 = .ok (.getfield 15, 3) := by decide +kernel
theorem dX0_addRow_14 : decode cX0_addRow 14 = .ok (.aload_n 0, 1) := by decide +kernel
theorem dX0_addRow_15 : decode cX0_addRow 15 = .ok (.getfield 9, 3) := by decide +kernel
theorem dX0_addRow_18 : decode cX0_addRow 18 = .ok (.bipush 12, 2) := by decide +kernel
theorem dX0_addRow_20 : decode cX0_addRow 20 = .ok (.imul, 1) := by decide +kernel
theorem dX0_addRow_21 : decode cX0_addRow 21 = .ok (.iload_n 2, 1) := by decide +kernel
theorem dX0_addRow_22 : decode cX0_addRow 22 = .ok (.iadd, 1) := by decide +kernel
theorem dX0_addRow_23 : decode cX0_addRow 23 = .ok (.aload_n 1, 1) := by decide +kernel
theorem dX0_addRow_24 : decode cX0_addRow 24 = .ok (.iload_n 2, 1) := by decide +kernel
theorem dX0_addRow_25 : decode cX0_addRow 25 = .ok (.invokestatic 28, 3) := by decide +kernel
theorem dX0_addRow_28 : decode cX0_addRow 28 = .ok (.invokestatic 32, 3) := by decide +kernel
theorem dX0_addRow_31 : decode cX0_addRow 31 = .ok (.iinc 2 1, 3) := by decide +kernel
theorem dX0_addRow_34 : decode cX0_addRow 34 = .ok (.goto (-32), 3) := by decide +kernel
theorem dX0_addRow_37 : decode cX0_addRow 37 = .ok (.aload_n 0, 1) := by decide +kernel
theorem dX0_addRow_38 : decode cX0_addRow 38 = .ok (.dup, 1) := by decide +kernel
theorem dX0_addRow_39 : decode cX0_addRow 39 = .ok (.getfield 9, 3) := by decide +kernel
theorem dX0_addRow_42 : decode cX0_addRow 42 = .ok (.iconst 1, 1) := by decide +kernel
theorem dX0_addRow_43 : decode cX0_addRow 43 = .ok (.iadd, 1) := by decide +kernel
theorem dX0_addRow_44 : decode cX0_addRow 44 = .ok (.putfield 9, 3) := by decide +kernel
theorem dX0_addRow_47 : decode cX0_addRow 47 = .ok (.return_, 1) := by decide +kernel
theorem dX0_hatchBetween_0 : decode cX0_hatchBetween 0 = .ok (.aload_n 0, 1) := by decide +kernel
theorem dX0_hatchBetween_1 : decode cX0_hatchBetween 1 = .ok (.iload_n 1, 1) := by decide +kernel
theorem dX0_hatchBetween_2 : decode cX0_hatchBetween 2 = .ok (.putfield 19, 3) := by decide +kernel
theorem dX0_hatchBetween_5 : decode cX0_hatchBetween 5 = .ok (.aload_n 0, 1) := by decide +kernel
theorem dX0_hatchBetween_6 : decode cX0_hatchBetween 6 = .ok (.iload_n 2, 1) := by decide +kernel
theorem dX0_hatchBetween_7 : decode cX0_hatchBetween 7 = .ok (.putfield 22, 3) := by decide +kernel
theorem dX0_hatchBetween_10 : decode cX0_hatchBetween 10 = .ok (.return_, 1) := by decide +kernel
theorem dX0_colourAt_0 : decode cX0_colourAt 0 = .ok (.iload_n 3, 1) := by decide +kernel
theorem dX0_colourAt_1 : decode cX0_colourAt 1 = .ok (.ifCond .eq 14, 3) := by decide +kernel
theorem dX0_colourAt_4 : decode cX0_colourAt 4 = .ok (.aload_n 0, 1) := by decide +kernel
theorem dX0_colourAt_5 : decode cX0_colourAt 5 = .ok (.getfield 25, 3) := by decide +kernel
theorem dX0_colourAt_8 : decode cX0_colourAt 8 = .ok (.iconst 1, 1) := by decide +kernel
theorem dX0_colourAt_9 : decode cX0_colourAt 9 = .ok (.isub, 1) := by decide +kernel
theorem dX0_colourAt_10 : decode cX0_colourAt 10 = .ok (.iload_n 2, 1) := by decide +kernel
theorem dX0_colourAt_11 : decode cX0_colourAt 11 = .ok (.isub, 1) := by decide +kernel
theorem dX0_colourAt_12 : decode cX0_colourAt 12 = .ok (.goto 4, 3) := by decide +kernel
theorem dX0_colourAt_15 : decode cX0_colourAt 15 = .ok (.iload_n 2, 1) := by decide +kernel
theorem dX0_colourAt_16 : decode cX0_colourAt 16 = .ok (.istore 4, 2) := by decide +kernel
theorem dX0_colourAt_18 : decode cX0_colourAt 18 = .ok (.aload_n 0, 1) := by decide +kernel
theorem dX0_colourAt_19 : decode cX0_colourAt 19 = .ok (.getfield 15, 3) := by decide +kernel
theorem dX0_colourAt_22 : decode cX0_colourAt 22 = .ok (.iload_n 1, 1) := by decide +kernel
theorem dX0_colourAt_23 : decode cX0_colourAt 23 = .ok (.bipush 12, 2) := by decide +kernel
theorem dX0_colourAt_25 : decode cX0_colourAt 25 = .ok (.imul, 1) := by decide +kernel
theorem dX0_colourAt_26 : decode cX0_colourAt 26 = .ok (.iload 4, 2) := by decide +kernel
theorem dX0_colourAt_28 : decode cX0_colourAt 28 = .ok (.iadd, 1) := by decide +kernel
theorem dX0_colourAt_29 : decode cX0_colourAt 29 = .ok (.invokestatic 28, 3) := by decide +kernel
theorem dX0_colourAt_32 : decode cX0_colourAt 32 = .ok (.istore 5, 2) := by decide +kernel
theorem dX0_colourAt_34 : decode cX0_colourAt 34 = .ok (.iload 5, 2) := by decide +kernel
theorem dX0_colourAt_36 : decode cX0_colourAt 36 = .ok (.bipush 6, 2) := by decide +kernel
theorem dX0_colourAt_38 : decode cX0_colourAt 38 = .ok (.if_icmp .eq 6, 3) := by decide +kernel
theorem dX0_colourAt_41 : decode cX0_colourAt 41 = .ok (.iload 5, 2) := by decide +kernel
theorem dX0_colourAt_43 : decode cX0_colourAt 43 = .ok (.ireturn, 1) := by decide +kernel
theorem dX0_colourAt_44 : decode cX0_colourAt 44 = .ok (.iload_n 1, 1) := by decide +kernel
theorem dX0_colourAt_45 : decode cX0_colourAt 45 = .ok (.iload 4, 2) := by decide +kernel
theorem dX0_colourAt_47 : decode cX0_colourAt 47 = .ok (.iadd, 1) := by decide +kernel
theorem dX0_colourAt_48 : decode cX0_colourAt 48 = .ok (.iconst 2, 1) := by decide +kernel
theorem dX0_colourAt_49 : decode cX0_colourAt 49 = .ok (.irem, 1) := by decide +kernel
theorem dX0_colourAt_50 : decode cX0_colourAt 50 = .ok (.ifCond .ne 10, 3) := by decide +kernel
theorem dX0_colourAt_53 : decode cX0_colourAt 53 = .ok (.aload_n 0, 1) := by decide +kernel
theorem dX0_colourAt_54 : decode cX0_colourAt 54 = .ok (.getfield 19, 3) := by decide +kernel
theorem dX0_colourAt_57 : decode cX0_colourAt 57 = .ok (.goto 7, 3) := by decide +kernel
theorem dX0_colourAt_60 : decode cX0_colourAt 60 = .ok (.aload_n 0, 1) := by decide +kernel
theorem dX0_colourAt_61 : decode cX0_colourAt 61 = .ok (.getfield 22, 3) := by decide +kernel
theorem dX0_colourAt_64 : decode cX0_colourAt 64 = .ok (.ireturn, 1) := by decide +kernel
theorem dX1_init_0 : decode cX1_init 0 = .ok (.aload_n 0, 1) := by decide +kernel
theorem dX1_init_1 : decode cX1_init 1 = .ok (.invokespecial 3, 3) := by decide +kernel
theorem dX1_init_4 : decode cX1_init 4 = .ok (.aload_n 0, 1) := by decide +kernel
theorem dX1_init_5 : decode cX1_init 5 = .ok (.iconst 0, 1) := by decide +kernel
theorem dX1_init_6 : decode cX1_init 6 = .ok (.putfield 9, 3) := by decide +kernel
theorem dX1_init_9 : decode cX1_init 9 = .ok (.aload_n 0, 1) := by decide +kernel
theorem dX1_init_10 : decode cX1_init 10 = .ok (.bipush 20, 2) := by decide +kernel
theorem dX1_init_12 : decode cX1_init 12 = .ok (.newarray .int, 2) := by decide +kernel
theorem dX1_init_14 : decode cX1_init 14 = .ok (.putfield 15, 3) := by decide +kernel
theorem dX1_init_17 : decode cX1_init 17 = .ok (.aload_n 0, 1) := by decide +kernel
theorem dX1_init_18 : decode cX1_init 18 = .ok (.bipush 20, 2) := by decide +kernel
theorem dX1_init_20 : decode cX1_init 20 = .ok (.newarray .int, 2) := by decide +kernel
theorem dX1_init_22 : decode cX1_init 22 = .ok (.putfield 19, 3) := by decide +kernel
theorem dX1_init_25 : decode cX1_init 25 = .ok (.aload_n 0, 1) := by decide +kernel
theorem dX1_init_26 : decode cX1_init 26 = .ok (.bipush 20, 2) := by decide +kernel
theorem dX1_init_28 : decode cX1_init 28 = .ok (.newarray .int, 2) := by decide +kernel
theorem dX1_init_30 : decode cX1_init 30 = .ok (.putfield 22, 3) := by decide +kernel
theorem dX1_init_33 : decode cX1_init 33 = .ok (.aload_n 0, 1) := by decide +kernel
theorem dX1_init_34 : decode cX1_init 34 = .ok (.bipush 20, 2) := by decide +kernel
theorem dX1_init_36 : decode cX1_init 36 = .ok (.newarray .int, 2) := by decide +kernel
theorem dX1_init_38 : decode cX1_init 38 = .ok (.putfield 25, 3) := by decide +kernel
theorem dX1_init_41 : decode cX1_init 41 = .ok (.aload_n 0, 1) := by decide +kernel
theorem dX1_init_42 : decode cX1_init 42 = .ok (.bipush 20, 2) := by decide +kernel
theorem dX1_init_44 : decode cX1_init 44 = .ok (.newarray .boolean, 2) := by decide +kernel
theorem dX1_init_46 : decode cX1_init 46 = .ok (.putfield 28, 3) := by decide +kernel
theorem dX1_init_49 : decode cX1_init 49 = .ok (.return_, 1) := by decide +kernel
theorem dX1_count_0 : decode cX1_count 0 = .ok (.aload_n 0, 1) := by decide +kernel
theorem dX1_count_1 : decode cX1_count 1 = .ok (.getfield 9, 3) := by decide +kernel
theorem dX1_count_4 : decode cX1_count 4 = .ok (.ireturn, 1) := by decide +kernel
theorem dX1_add_0 : decode cX1_add 0 = .ok (.aload_n 0, 1) := by decide +kernel
theorem dX1_add_1 : decode cX1_add 1 = .ok (.getfield 9, 3) := by decide +kernel
theorem dX1_add_4 : decode cX1_add 4 = .ok (.istore 5, 2) := by decide +kernel
theorem dX1_add_6 : decode cX1_add 6 = .ok (.aload_n 0, 1) := by decide +kernel
theorem dX1_add_7 : decode cX1_add 7 = .ok (.getfield 15, 3) := by decide +kernel
theorem dX1_add_10 : decode cX1_add 10 = .ok (.iload 5, 2) := by decide +kernel
theorem dX1_add_12 : decode cX1_add 12 = .ok (.iload_n 1, 1) := by decide +kernel
theorem dX1_add_13 : decode cX1_add 13 = .ok (.invokestatic 32, 3) := by decide +kernel
theorem dX1_add_16 : decode cX1_add 16 = .ok (.aload_n 0, 1) := by decide +kernel
theorem dX1_add_17 : decode cX1_add 17 = .ok (.getfield 19, 3) := by decide +kernel
theorem dX1_add_20 : decode cX1_add 20 = .ok (.iload 5, 2) := by decide +kernel
theorem dX1_add_22 : decode cX1_add 22 = .ok (.iload_n 2, 1) := by decide +kernel
theorem dX1_add_23 : decode cX1_add 23 = .ok (.invokestatic 32, 3) := by decide +kernel
theorem dX1_add_26 : decode cX1_add 26 = .ok (.aload_n 0, 1) := by decide +kernel
theorem dX1_add_27 : decode cX1_add 27 = .ok (.getfield 22, 3) := by decide +kernel
theorem dX1_add_30 : decode cX1_add 30 = .ok (.iload 5, 2) := by decide +kernel
theorem dX1_add_32 : decode cX1_add 32 = .ok (.iload_n 2, 1) := by decide +kernel
theorem dX1_add_33 : decode cX1_add 33 = .ok (.invokestatic 32, 3) := by decide +kernel
theorem dX1_add_36 : decode cX1_add 36 = .ok (.aload_n 0, 1) := by decide +kernel
theorem dX1_add_37 : decode cX1_add 37 = .ok (.getfield 25, 3) := by decide +kernel
theorem dX1_add_40 : decode cX1_add 40 = .ok (.iload 5, 2) := by decide +kernel
theorem dX1_add_42 : decode cX1_add 42 = .ok (.iload_n 3, 1) := by decide +kernel
theorem dX1_add_43 : decode cX1_add 43 = .ok (.invokestatic 32, 3) := by decide +kernel
theorem dX1_add_46 : decode cX1_add 46 = .ok (.iload 5, 2) := by decide +kernel
theorem dX1_add_48 : decode cX1_add 48 = .ok (.ifCond .lt 22, 3) := by decide +kernel
theorem dX1_add_51 : decode cX1_add 51 = .ok (.iload 5, 2) := by decide +kernel
theorem dX1_add_53 : decode cX1_add 53 = .ok (.aload_n 0, 1) := by decide +kernel
theorem dX1_add_54 : decode cX1_add 54 = .ok (.getfield 28, 3) := by decide +kernel
theorem dX1_add_57 : decode cX1_add 57 = .ok (.arraylength, 1) := by decide +kernel
theorem dX1_add_58 : decode cX1_add 58 = .ok (.if_icmp .ge 12, 3) := by decide +kernel
theorem dX1_add_61 : decode cX1_add 61 = .ok (.aload_n 0, 1) := by decide +kernel
theorem dX1_add_62 : decode cX1_add 62 = .ok (.getfield 28, 3) := by decide +kernel
theorem dX1_add_65 : decode cX1_add 65 = .ok (.iload 5, 2) := by decide +kernel
theorem dX1_add_67 : decode cX1_add 67 = .ok (.iload 4, 2) := by decide +kernel
theorem dX1_add_69 : decode cX1_add 69 = .ok (.bastore, 1) := by decide +kernel
theorem dX1_add_70 : decode cX1_add 70 = .ok (.aload_n 0, 1) := by decide +kernel
theorem dX1_add_71 : decode cX1_add 71 = .ok (.dup, 1) := by decide +kernel
theorem dX1_add_72 : decode cX1_add 72 = .ok (.getfield 9, 3) := by decide +kernel
theorem dX1_add_75 : decode cX1_add 75 = .ok (.iconst 1, 1) := by decide +kernel
theorem dX1_add_76 : decode cX1_add 76 = .ok (.iadd, 1) := by decide +kernel
theorem dX1_add_77 : decode cX1_add 77 = .ok (.putfield 9, 3) := by decide +kernel
theorem dX1_add_80 : decode cX1_add 80 = .ok (.iload 5, 2) := by decide +kernel
theorem dX1_add_82 : decode cX1_add 82 = .ok (.ireturn, 1) := by decide +kernel
theorem dX1_threadsIn_0 : decode cX1_threadsIn 0 = .ok (.aload_n 0, 1) := by decide +kernel
theorem dX1_threadsIn_1 : decode cX1_threadsIn 1 = .ok (.getfield 22, 3) := by decide +kernel
theorem dX1_threadsIn_4 : decode cX1_threadsIn 4 = .ok (.iload_n 1, 1) := by decide +kernel
theorem dX1_threadsIn_5 : decode cX1_threadsIn 5 = .ok (.invokestatic 36, 3) := by decide +kernel
theorem dX1_threadsIn_8 : decode cX1_threadsIn 8 = .ok (.ireturn, 1) := by decide +kernel
theorem dX1_threadsGivenBy_0 : decode cX1_threadsGivenBy 0 = .ok (.aload_n 0, 1) := by decide +kernel
theorem dX1_threadsGivenBy_1 : decode cX1_threadsGivenBy 1 = .ok (.getfield 19, 3) := by decide +kernel
theorem dX1_threadsGivenBy_4 : decode cX1_threadsGivenBy 4 = .ok (.iload_n 1, 1) := by decide +kernel
theorem dX1_threadsGivenBy_5 : decode cX1_threadsGivenBy 5 = .ok (.invokestatic 36, 3) := by decide +kernel
theorem dX1_threadsGivenBy_8 : decode cX1_threadsGivenBy 8 = .ok (.aload_n 0, 1) := by decide +kernel
theorem dX1_threadsGivenBy_9 : decode cX1_threadsGivenBy 9 = .ok (.getfield 22, 3) := by decide +kernel
theorem dX1_threadsGivenBy_12 : decode cX1_threadsGivenBy 12 = .ok (.iload_n 1, 1) := by decide +kernel
theorem dX1_threadsGivenBy_13 : decode cX1_threadsGivenBy 13 = .ok (.invokestatic 36, 3) := by decide +kernel
theorem dX1_threadsGivenBy_16 : decode cX1_threadsGivenBy 16 = .ok (.isub, 1) := by decide +kernel
theorem dX1_threadsGivenBy_17 : decode cX1_threadsGivenBy 17 = .ok (.ireturn, 1) := by decide +kernel
theorem dX1_fadeOf_0 : decode cX1_fadeOf 0 = .ok (.aload_n 0, 1) := by decide +kernel
theorem dX1_fadeOf_1 : decode cX1_fadeOf 1 = .ok (.getfield 25, 3) := by decide +kernel
theorem dX1_fadeOf_4 : decode cX1_fadeOf 4 = .ok (.iload_n 1, 1) := by decide +kernel
theorem dX1_fadeOf_5 : decode cX1_fadeOf 5 = .ok (.invokestatic 36, 3) := by decide +kernel
theorem dX1_fadeOf_8 : decode cX1_fadeOf 8 = .ok (.ireturn, 1) := by decide +kernel
theorem dX1_isBleeding_0 : decode cX1_isBleeding 0 = .ok (.iload_n 1, 1) := by decide +kernel
theorem dX1_isBleeding_1 : decode cX1_isBleeding 1 = .ok (.ifCond .lt 25, 3) := by decide +kernel
theorem dX1_isBleeding_4 : decode cX1_isBleeding 4 = .ok (.iload_n 1, 1) := by decide +kernel
theorem dX1_isBleeding_5 : decode cX1_isBleeding 5 = .ok (.aload_n 0, 1) := by decide +kernel
theorem dX1_isBleeding_6 : decode cX1_isBleeding 6 = .ok (.getfield 28, 3) := by decide +kernel
theorem dX1_isBleeding_9 : decode cX1_isBleeding 9 = .ok (.arraylength, 1) := by decide +kernel
theorem dX1_isBleeding_10 : decode cX1_isBleeding 10 = .ok (.if_icmp .ge 16, 3) := by decide +kernel
theorem dX1_isBleeding_13 : decode cX1_isBleeding 13 = .ok (.aload_n 0, 1) := by decide +kernel
theorem dX1_isBleeding_14 : decode cX1_isBleeding 14 = .ok (.getfield 28, 3) := by decide +kernel
theorem dX1_isBleeding_17 : decode cX1_isBleeding 17 = .ok (.iload_n 1, 1) := by decide +kernel
theorem dX1_isBleeding_18 : decode cX1_isBleeding 18 = .ok (.baload, 1) := by decide +kernel
theorem dX1_isBleeding_19 : decode cX1_isBleeding 19 = .ok (.ifCond .eq 7, 3) := by decide +kernel
theorem dX1_isBleeding_22 : decode cX1_isBleeding 22 = .ok (.iconst 1, 1) := by decide +kernel
theorem dX1_isBleeding_23 : decode cX1_isBleeding 23 = .ok (.goto 4, 3) := by decide +kernel
theorem dX1_isBleeding_26 : decode cX1_isBleeding 26 = .ok (.iconst 0, 1) := by decide +kernel
theorem dX1_isBleeding_27 : decode cX1_isBleeding 27 = .ok (.ireturn, 1) := by decide +kernel
theorem dX1_threadsOfColour_0 : decode cX1_threadsOfColour 0 = .ok (.iconst 0, 1) := by decide +kernel
theorem dX1_threadsOfColour_1 : decode cX1_threadsOfColour 1 = .ok (.istore_n 2, 1) := by decide +kernel
theorem dX1_threadsOfColour_2 : decode cX1_threadsOfColour 2 = .ok (.iconst 0, 1) := by decide +kernel
theorem dX1_threadsOfColour_3 : decode cX1_threadsOfColour 3 = .ok (.istore_n 3, 1) := by decide +kernel
theorem dX1_threadsOfColour_4 : decode cX1_threadsOfColour 4 = .ok (.iload_n 3, 1) := by decide +kernel
theorem dX1_threadsOfColour_5 : decode cX1_threadsOfColour 5 = .ok (.aload_n 0, 1) := by decide +kernel
theorem dX1_threadsOfColour_6 : decode cX1_threadsOfColour 6 = .ok (.getfield 9, 3) := by decide +kernel
theorem dX1_threadsOfColour_9 : decode cX1_threadsOfColour 9 = .ok (.if_icmp .ge 29, 3) := by decide +kernel
theorem dX1_threadsOfColour_12 : decode cX1_threadsOfColour 12 = .ok (.aload_n 0, 1) := by decide +kernel
theorem dX1_threadsOfColour_13 : decode cX1_threadsOfColour 13 = .ok (.getfield 15, 3) := by decide +kernel
theorem dX1_threadsOfColour_16 : decode cX1_threadsOfColour 16 = .ok (.iload_n 3, 1) := by decide +kernel
theorem dX1_threadsOfColour_17 : decode cX1_threadsOfColour 17 = .ok (.invokestatic 36, 3) := by decide +kernel
theorem dX1_threadsOfColour_20 : decode cX1_threadsOfColour 20 = .ok (.iload_n 1, 1) := by decide +kernel
theorem dX1_threadsOfColour_21 : decode cX1_threadsOfColour 21 = .ok (.if_icmp .ne 11, 3) := by decide +kernel
theorem dX1_threadsOfColour_24 : decode cX1_threadsOfColour 24 = .ok (.iload_n 2, 1) := by decide +kernel
theorem dX1_threadsOfColour_25 : decode cX1_threadsOfColour 25 = .ok (.aload_n 0, 1) := by decide +kernel
theorem dX1_threadsOfColour_26 : decode cX1_threadsOfColour 26 = .ok (.iload_n 3, 1) := by decide +kernel
theorem dX1_threadsOfColour_27 : decode cX1_threadsOfColour 27 = .ok (.invokevirtual 40, 3) := by decide +kernel
theorem dX1_threadsOfColour_30 : decode cX1_threadsOfColour 30 = .ok (.iadd, 1) := by decide +kernel
theorem dX1_threadsOfColour_31 : decode cX1_threadsOfColour 31 = .ok (.istore_n 2, 1) := by decide +kernel
theorem dX1_threadsOfColour_32 : decode cX1_threadsOfColour 32 = .ok (.iinc 3 1, 3) := by decide +kernel
theorem dX1_threadsOfColour_35 : decode cX1_threadsOfColour 35 = .ok (.goto (-31), 3) := by decide +kernel
theorem dX1_threadsOfColour_38 : decode cX1_threadsOfColour 38 = .ok (.iload_n 2, 1) := by decide +kernel
theorem dX1_threadsOfColour_39 : decode cX1_threadsOfColour 39 = .ok (.ireturn, 1) := by decide +kernel
theorem dX1_takeThread_0 : decode cX1_takeThread 0 = .ok (.iconst 0, 1) := by decide +kernel
theorem dX1_takeThread_1 : decode cX1_takeThread 1 = .ok (.istore_n 2, 1) := by decide +kernel
theorem dX1_takeThread_2 : decode cX1_takeThread 2 = .ok (.iload_n 2, 1) := by decide +kernel
theorem dX1_takeThread_3 : decode cX1_takeThread 3 = .ok (.aload_n 0, 1) := by decide +kernel
theorem dX1_takeThread_4 : decode cX1_takeThread 4 = .ok (.getfield 9, 3) := by decide +kernel
theorem dX1_takeThread_7 : decode cX1_takeThread 7 = .ok (.if_icmp .ge 44, 3) := by decide +kernel
theorem dX1_takeThread_10 : decode cX1_takeThread 10 = .ok (.aload_n 0, 1) := by decide +kernel
theorem dX1_takeThread_11 : decode cX1_takeThread 11 = .ok (.iload_n 2, 1) := by decide +kernel
theorem dX1_takeThread_12 : decode cX1_takeThread 12 = .ok (.invokevirtual 40, 3) := by decide +kernel
theorem dX1_takeThread_15 : decode cX1_takeThread 15 = .ok (.istore_n 3, 1) := by decide +kernel
theorem dX1_takeThread_16 : decode cX1_takeThread 16 = .ok (.aload_n 0, 1) := by decide +kernel
theorem dX1_takeThread_17 : decode cX1_takeThread 17 = .ok (.getfield 15, 3) := by decide +kernel
theorem dX1_takeThread_20 : decode cX1_takeThread 20 = .ok (.iload_n 2, 1) := by decide +kernel
theorem dX1_takeThread_21 : decode cX1_takeThread 21 = .ok (.invokestatic 36, 3) := by decide +kernel
theorem dX1_takeThread_24 : decode cX1_takeThread 24 = .ok (.iload_n 1, 1) := by decide +kernel
theorem dX1_takeThread_25 : decode cX1_takeThread 25 = .ok (.if_icmp .ne 20, 3) := by decide +kernel
theorem dX1_takeThread_28 : decode cX1_takeThread 28 = .ok (.iload_n 3, 1) := by decide +kernel
theorem dX1_takeThread_29 : decode cX1_takeThread 29 = .ok (.ifCond .le 16, 3) := by decide +kernel
theorem dX1_takeThread_32 : decode cX1_takeThread 32 = .ok (.aload_n 0, 1) := by decide +kernel
theorem dX1_takeThread_33 : decode cX1_takeThread 33 = .ok (.getfield 22, 3) := by decide +kernel
theorem dX1_takeThread_36 : decode cX1_takeThread 36 = .ok (.iload_n 2, 1) := by decide +kernel
theorem dX1_takeThread_37 : decode cX1_takeThread 37 = .ok (.iload_n 3, 1) := by decide +kernel
theorem dX1_takeThread_38 : decode cX1_takeThread 38 = .ok (.iconst 1, 1) := by decide +kernel
theorem dX1_takeThread_39 : decode cX1_takeThread 39 = .ok (.isub, 1) := by decide +kernel
theorem dX1_takeThread_40 : decode cX1_takeThread 40 = .ok (.invokestatic 32, 3) := by decide +kernel
theorem dX1_takeThread_43 : decode cX1_takeThread 43 = .ok (.iload_n 2, 1) := by decide +kernel
theorem dX1_takeThread_44 : decode cX1_takeThread 44 = .ok (.ireturn, 1) := by decide +kernel
theorem dX1_takeThread_45 : decode cX1_takeThread 45 = .ok (.iinc 2 1, 3) := by decide +kernel
theorem dX1_takeThread_48 : decode cX1_takeThread 48 = .ok (.goto (-46), 3) := by decide +kernel
theorem dX1_takeThread_51 : decode cX1_takeThread 51 = .ok (.iconst (-1), 1) := by decide +kernel
theorem dX1_takeThread_52 : decode cX1_takeThread 52 = .ok (.ireturn, 1) := by decide +kernel
theorem dX2_init_0 : decode cX2_init 0 = .ok (.aload_n 0, 1) := by decide +kernel
theorem dX2_init_1 : decode cX2_init 1 = .ok (.invokespecial 3, 3) := by decide +kernel
theorem dX2_init_4 : decode cX2_init 4 = .ok (.aload_n 0, 1) := by decide +kernel
theorem dX2_init_5 : decode cX2_init 5 = .ok (.iconst 0, 1) := by decide +kernel
theorem dX2_init_6 : decode cX2_init 6 = .ok (.putfield 9, 3) := by decide +kernel
theorem dX2_init_9 : decode cX2_init 9 = .ok (.aload_n 0, 1) := by decide +kernel
theorem dX2_init_10 : decode cX2_init 10 = .ok (.iconst 4, 1) := by decide +kernel
theorem dX2_init_11 : decode cX2_init 11 = .ok (.newarray .int, 2) := by decide +kernel
theorem dX2_init_13 : decode cX2_init 13 = .ok (.putfield 15, 3) := by decide +kernel
theorem dX2_init_16 : decode cX2_init 16 = .ok (.aload_n 0, 1) := by decide +kernel
theorem dX2_init_17 : decode cX2_init 17 = .ok (.sipush 240, 3) := by decide +kernel
theorem dX2_init_20 : decode cX2_init 20 = .ok (.newarray .int, 2) := by decide +kernel
theorem dX2_init_22 : decode cX2_init 22 = .ok (.putfield 19, 3) := by decide +kernel
theorem dX2_init_25 : decode cX2_init 25 = .ok (.aload_n 0, 1) := by decide +kernel
theorem dX2_init_26 : decode cX2_init 26 = .ok (.sipush 240, 3) := by decide +kernel
theorem dX2_init_29 : decode cX2_init 29 = .ok (.newarray .int, 2) := by decide +kernel
theorem dX2_init_31 : decode cX2_init 31 = .ok (.putfield 22, 3) := by decide +kernel
theorem dX2_init_34 : decode cX2_init 34 = .ok (.aload_n 0, 1) := by decide +kernel
theorem dX2_init_35 : decode cX2_init 35 = .ok (.sipush 240, 3) := by decide +kernel
theorem dX2_init_38 : decode cX2_init 38 = .ok (.newarray .int, 2) := by decide +kernel
theorem dX2_init_40 : decode cX2_init 40 = .ok (.putfield 25, 3) := by decide +kernel
theorem dX2_init_43 : decode cX2_init 43 = .ok (.aload_n 0, 1) := by decide +kernel
theorem dX2_init_44 : decode cX2_init 44 = .ok (.bipush 24, 2) := by decide +kernel
theorem dX2_init_46 : decode cX2_init 46 = .ok (.newarray .int, 2) := by decide +kernel
theorem dX2_init_48 : decode cX2_init 48 = .ok (.putfield 28, 3) := by decide +kernel
theorem dX2_init_51 : decode cX2_init 51 = .ok (.aload_n 0, 1) := by decide +kernel
theorem dX2_init_52 : decode cX2_init 52 = .ok (.bipush 24, 2) := by decide +kernel
theorem dX2_init_54 : decode cX2_init 54 = .ok (.newarray .boolean, 2) := by decide +kernel
theorem dX2_init_56 : decode cX2_init 56 = .ok (.putfield 31, 3) := by decide +kernel
theorem dX2_init_59 : decode cX2_init 59 = .ok (.aload_n 0, 1) := by decide +kernel
theorem dX2_init_60 : decode cX2_init 60 = .ok (.iload_n 1, 1) := by decide +kernel
theorem dX2_init_61 : decode cX2_init 61 = .ok (.putfield 35, 3) := by decide +kernel
theorem dX2_init_64 : decode cX2_init 64 = .ok (.aload_n 0, 1) := by decide +kernel
theorem dX2_init_65 : decode cX2_init 65 = .ok (.iload_n 2, 1) := by decide +kernel
theorem dX2_init_66 : decode cX2_init 66 = .ok (.putfield 38, 3) := by decide +kernel
theorem dX2_init_69 : decode cX2_init 69 = .ok (.return_, 1) := by decide +kernel
theorem dX2_width_0 : decode cX2_width 0 = .ok (.aload_n 0, 1) := by decide +kernel
theorem dX2_width_1 : decode cX2_width 1 = .ok (.getfield 9, 3) := by decide +kernel
theorem dX2_width_4 : decode cX2_width 4 = .ok (.ireturn, 1) := by decide +kernel
theorem dX2_height_0 : decode cX2_height 0 = .ok (.aload_n 0, 1) := by decide +kernel
theorem dX2_height_1 : decode cX2_height 1 = .ok (.getfield 35, 3) := by decide +kernel
theorem dX2_height_4 : decode cX2_height 4 = .ok (.ireturn, 1) := by decide +kernel
theorem dX2_weavers_0 : decode cX2_weavers 0 = .ok (.aload_n 0, 1) := by decide +kernel
theorem dX2_weavers_1 : decode cX2_weavers 1 = .ok (.getfield 38, 3) := by decide +kernel
theorem dX2_weavers_4 : decode cX2_weavers 4 = .ok (.ireturn, 1) := by decide +kernel
theorem dX2_holds_0 : decode cX2_holds 0 = .ok (.iload_n 1, 1) := by decide +kernel
theorem dX2_holds_1 : decode cX2_holds 1 = .ok (.ifCond .lt 27, 3) := by decide +kernel
theorem dX2_holds_4 : decode cX2_holds 4 = .ok (.iload_n 1, 1) := by decide +kernel
theorem dX2_holds_5 : decode cX2_holds 5 = .ok (.aload_n 0, 1) := by decide +kernel
theorem dX2_holds_6 : decode cX2_holds 6 = .ok (.getfield 35, 3) := by decide +kernel
theorem dX2_holds_9 : decode cX2_holds 9 = .ok (.if_icmp .ge 19, 3) := by decide +kernel
theorem dX2_holds_12 : decode cX2_holds 12 = .ok (.iload_n 2, 1) := by decide +kernel
theorem dX2_holds_13 : decode cX2_holds 13 = .ok (.ifCond .lt 15, 3) := by decide +kernel
theorem dX2_holds_16 : decode cX2_holds 16 = .ok (.iload_n 2, 1) := by decide +kernel
theorem dX2_holds_17 : decode cX2_holds 17 = .ok (.aload_n 0, 1) := by decide +kernel
theorem dX2_holds_18 : decode cX2_holds 18 = .ok (.getfield 9, 3) := by decide +kernel
theorem dX2_holds_21 : decode cX2_holds 21 = .ok (.if_icmp .ge 7, 3) := by decide +kernel
theorem dX2_holds_24 : decode cX2_holds 24 = .ok (.iconst 1, 1) := by decide +kernel
theorem dX2_holds_25 : decode cX2_holds 25 = .ok (.goto 4, 3) := by decide +kernel
theorem dX2_holds_28 : decode cX2_holds 28 = .ok (.iconst 0, 1) := by decide +kernel
theorem dX2_holds_29 : decode cX2_holds 29 = .ok (.ireturn, 1) := by decide +kernel
theorem dX2_colourAt_0 : decode cX2_colourAt 0 = .ok (.aload_n 0, 1) := by decide +kernel
theorem dX2_colourAt_1 : decode cX2_colourAt 1 = .ok (.getfield 19, 3) := by decide +kernel
theorem dX2_colourAt_4 : decode cX2_colourAt 4 = .ok (.iload_n 1, 1) := by decide +kernel
theorem dX2_colourAt_5 : decode cX2_colourAt 5 = .ok (.iload_n 2, 1) := by decide +kernel
theorem dX2_colourAt_6 : decode cX2_colourAt 6 = .ok (.invokestatic 41, 3) := by decide +kernel
theorem dX2_colourAt_9 : decode cX2_colourAt 9 = .ok (.invokestatic 45, 3) := by decide +kernel
theorem dX2_colourAt_12 : decode cX2_colourAt 12 = .ok (.ireturn, 1) := by decide +kernel
theorem dX2_lotAt_0 : decode cX2_lotAt 0 = .ok (.aload_n 0, 1) := by decide +kernel
theorem dX2_lotAt_1 : decode cX2_lotAt 1 = .ok (.getfield 22, 3) := by decide +kernel
theorem dX2_lotAt_4 : decode cX2_lotAt 4 = .ok (.iload_n 1, 1) := by decide +kernel
theorem dX2_lotAt_5 : decode cX2_lotAt 5 = .ok (.iload_n 2, 1) := by decide +kernel
theorem dX2_lotAt_6 : decode cX2_lotAt 6 = .ok (.invokestatic 41, 3) := by decide +kernel
theorem dX2_lotAt_9 : decode cX2_lotAt 9 = .ok (.invokestatic 45, 3) := by decide +kernel
theorem dX2_lotAt_12 : decode cX2_lotAt 12 = .ok (.ireturn, 1) := by decide +kernel
theorem dX2_shadeAt_0 : decode cX2_shadeAt 0 = .ok (.aload_n 0, 1) := by decide +kernel
theorem dX2_shadeAt_1 : decode cX2_shadeAt 1 = .ok (.getfield 25, 3) := by decide +kernel
theorem dX2_shadeAt_4 : decode cX2_shadeAt 4 = .ok (.iload_n 1, 1) := by decide +kernel
theorem dX2_shadeAt_5 : decode cX2_shadeAt 5 = .ok (.iload_n 2, 1) := by decide +kernel
theorem dX2_shadeAt_6 : decode cX2_shadeAt 6 = .ok (.invokestatic 41, 3) := by decide +kernel
theorem dX2_shadeAt_9 : decode cX2_shadeAt 9 = .ok (.invokestatic 45, 3) := by decide +kernel
theorem dX2_shadeAt_12 : decode cX2_shadeAt 12 = .ok (.ireturn, 1) := by decide +kernel
theorem dX2_placeOf_0 : decode cX2_placeOf 0 = .ok (.iload_n 0, 1) := by decide +kernel
theorem dX2_placeOf_1 : decode cX2_placeOf 1 = .ok (.bipush 24, 2) := by decide +kernel
theorem dX2_placeOf_3 : decode cX2_placeOf 3 = .ok (.imul, 1) := by decide +kernel
theorem dX2_placeOf_4 : decode cX2_placeOf 4 = .ok (.iload_n 1, 1) := by decide +kernel
theorem dX2_placeOf_5 : decode cX2_placeOf 5 = .ok (.iadd, 1) := by decide +kernel
theorem dX2_placeOf_6 : decode cX2_placeOf 6 = .ok (.ireturn, 1) := by decide +kernel
theorem dX2_drawFrom_0 : decode cX2_drawFrom 0 = .ok (.aload_n 0, 1) := by decide +kernel
theorem dX2_drawFrom_1 : decode cX2_drawFrom 1 = .ok (.aload_n 1, 1) := by decide +kernel
theorem dX2_drawFrom_2 : decode cX2_drawFrom 2 = .ok (.invokevirtual 49, 3) := by decide +kernel
theorem dX2_drawFrom_5 : decode cX2_drawFrom 5 = .ok (.putfield 9, 3) := by decide +kernel
theorem dX2_drawFrom_8 : decode cX2_drawFrom 8 = .ok (.iconst 0, 1) := by decide +kernel
theorem dX2_drawFrom_9 : decode cX2_drawFrom 9 = .ok (.istore 4, 2) := by decide +kernel
theorem dX2_drawFrom_11 : decode cX2_drawFrom 11 = .ok (.iload 4, 2) := by decide +kernel
theorem dX2_drawFrom_13 : decode cX2_drawFrom 13 = .ok (.aload_n 0, 1) := by decide +kernel
theorem dX2_drawFrom_14 : decode cX2_drawFrom 14 = .ok (.getfield 9, 3) := by decide +kernel
theorem dX2_drawFrom_17 : decode cX2_drawFrom 17 = .ok (.if_icmp .ge 80, 3) := by decide +kernel
theorem dX2_drawFrom_20 : decode cX2_drawFrom 20 = .ok (.aload_n 0, 1) := by decide +kernel
theorem dX2_drawFrom_21 : decode cX2_drawFrom 21 = .ok (.getfield 28, 3) := by decide +kernel
theorem dX2_drawFrom_24 : decode cX2_drawFrom 24 = .ok (.iload 4, 2) := by decide +kernel
theorem dX2_drawFrom_26 : decode cX2_drawFrom 26 = .ok (.iload_n 3, 1) := by decide +kernel
theorem dX2_drawFrom_27 : decode cX2_drawFrom 27 = .ok (.iload 4, 2) := by decide +kernel
theorem dX2_drawFrom_29 : decode cX2_drawFrom 29 = .ok (.invokestatic 54, 3) := by decide +kernel
theorem dX2_drawFrom_32 : decode cX2_drawFrom 32 = .ok (.invokestatic 57, 3) := by decide +kernel
theorem dX2_drawFrom_35 : decode cX2_drawFrom 35 = .ok (.iconst 0, 1) := by decide +kernel
theorem dX2_drawFrom_36 : decode cX2_drawFrom 36 = .ok (.istore 5, 2) := by decide +kernel
theorem dX2_drawFrom_38 : decode cX2_drawFrom 38 = .ok (.iload 5, 2) := by decide +kernel
theorem dX2_drawFrom_40 : decode cX2_drawFrom 40 = .ok (.aload_n 0, 1) := by decide +kernel
theorem dX2_drawFrom_41 : decode cX2_drawFrom 41 = .ok (.getfield 35, 3) := by decide +kernel
theorem dX2_drawFrom_44 : decode cX2_drawFrom 44 = .ok (.if_icmp .ge 47, 3) := by decide +kernel
theorem dX2_drawFrom_47 : decode cX2_drawFrom 47 = .ok (.aload_n 0, 1) := by decide +kernel
theorem dX2_drawFrom_48 : decode cX2_drawFrom 48 = .ok (.getfield 19, 3) := by decide +kernel
theorem dX2_drawFrom_51 : decode cX2_drawFrom 51 = .ok (.iload 5, 2) := by decide +kernel
theorem dX2_drawFrom_53 : decode cX2_drawFrom 53 = .ok (.iload 4, 2) := by decide +kernel
theorem dX2_drawFrom_55 : decode cX2_drawFrom 55 = .ok (.invokestatic 41, 3) := by decide +kernel
theorem dX2_drawFrom_58 : decode cX2_drawFrom 58 = .ok (.aload_n 1, 1) := by decide +kernel
theorem dX2_drawFrom_59 : decode cX2_drawFrom 59 = .ok (.iload 5, 2) := by decide +kernel
theorem dX2_drawFrom_61 : decode cX2_drawFrom 61 = .ok (.iload 4, 2) := by decide +kernel
theorem dX2_drawFrom_63 : decode cX2_drawFrom 63 = .ok (.iload_n 2, 1) := by decide +kernel
theorem dX2_drawFrom_64 : decode cX2_drawFrom 64 = .ok (.invokevirtual 61, 3) := by decide +kernel
theorem dX2_drawFrom_67 : decode cX2_drawFrom 67 = .ok (.invokestatic 57, 3) := by decide +kernel
theorem dX2_drawFrom_70 : decode cX2_drawFrom 70 = .ok (.aload_n 0, 1) := by decide +kernel
theorem dX2_drawFrom_71 : decode cX2_drawFrom 71 = .ok (.getfield 22, 3) := by decide +kernel
theorem dX2_drawFrom_74 : decode cX2_drawFrom 74 = .ok (.iload 5, 2) := by decide +kernel
theorem dX2_drawFrom_76 : decode cX2_drawFrom 76 = .ok (.iload 4, 2) := by decide +kernel
theorem dX2_drawFrom_78 : decode cX2_drawFrom 78 = .ok (.invokestatic 41, 3) := by decide +kernel
theorem dX2_drawFrom_81 : decode cX2_drawFrom 81 = .ok (.iconst (-1), 1) := by decide +kernel
theorem dX2_drawFrom_82 : decode cX2_drawFrom 82 = .ok (.invokestatic 57, 3) := by decide +kernel
theorem dX2_drawFrom_85 : decode cX2_drawFrom 85 = .ok (.iinc 5 1, 3) := by decide +kernel
theorem dX2_drawFrom_88 : decode cX2_drawFrom 88 = .ok (.goto (-50), 3) := by decide +kernel
theorem dX2_drawFrom_91 : decode cX2_drawFrom 91 = .ok (.iinc 4 1, 3) := by decide +kernel
theorem dX2_drawFrom_94 : decode cX2_drawFrom 94 = .ok (.goto (-83), 3) := by decide +kernel
theorem dX2_drawFrom_97 : decode cX2_drawFrom 97 = .ok (.return_, 1) := by decide +kernel
theorem dX2_originOf_0 : decode cX2_originOf 0 = .ok (.iload_n 0, 1) := by decide +kernel
theorem dX2_originOf_1 : decode cX2_originOf 1 = .ok (.bipush 24, 2) := by decide +kernel
theorem dX2_originOf_3 : decode cX2_originOf 3 = .ok (.imul, 1) := by decide +kernel
theorem dX2_originOf_4 : decode cX2_originOf 4 = .ok (.iload_n 1, 1) := by decide +kernel
theorem dX2_originOf_5 : decode cX2_originOf 5 = .ok (.iadd, 1) := by decide +kernel
theorem dX2_originOf_6 : decode cX2_originOf 6 = .ok (.ireturn, 1) := by decide +kernel
theorem dX2_hasWovenAll_0 : decode cX2_hasWovenAll 0 = .ok (.aload_n 0, 1) := by decide +kernel
theorem dX2_hasWovenAll_1 : decode cX2_hasWovenAll 1 = .ok (.getfield 15, 3) := by decide +kernel
theorem dX2_hasWovenAll_4 : decode cX2_hasWovenAll 4 = .ok (.iload_n 1, 1) := by decide +kernel
theorem dX2_hasWovenAll_5 : decode cX2_hasWovenAll 5 = .ok (.invokestatic 45, 3) := by decide +kernel
theorem dX2_hasWovenAll_8 : decode cX2_hasWovenAll 8 = .ok (.aload_n 0, 1) := by decide +kernel
theorem dX2_hasWovenAll_9 : decode cX2_hasWovenAll 9 = .ok (.getfield 35, 3) := by decide +kernel
theorem dX2_hasWovenAll_12 : decode cX2_hasWovenAll 12 = .ok (.if_icmp .lt 7, 3) := by decide +kernel
theorem dX2_hasWovenAll_15 : decode cX2_hasWovenAll 15 = .ok (.iconst 1, 1) := by decide +kernel
theorem dX2_hasWovenAll_16 : decode cX2_hasWovenAll 16 = .ok (.goto 4, 3) := by decide +kernel
theorem dX2_hasWovenAll_19 : decode cX2_hasWovenAll 19 = .ok (.iconst 0, 1) := by decide +kernel
theorem dX2_hasWovenAll_20 : decode cX2_hasWovenAll 20 = .ok (.ireturn, 1) := by decide +kernel
theorem dX2_isAboveNeighbour_0 : decode cX2_isAboveNeighbour 0 = .ok (.aload_n 0, 1) := by decide +kernel
theorem dX2_isAboveNeighbour_1 : decode cX2_isAboveNeighbour 1 = .ok (.getfield 15, 3) := by decide +kernel
theorem dX2_isAboveNeighbour_4 : decode cX2_isAboveNeighbour 4 = .ok (.iload_n 1, 1) := by decide +kernel
theorem dX2_isAboveNeighbour_5 : decode cX2_isAboveNeighbour 5 = .ok (.invokestatic 45, 3) := by decide +kernel
theorem dX2_isAboveNeighbour_8 : decode cX2_isAboveNeighbour 8 = .ok (.istore_n 2, 1) := by decide +kernel
theorem dX2_isAboveNeighbour_9 : decode cX2_isAboveNeighbour 9 = .ok (.iload_n 1, 1) := by decide +kernel
theorem dX2_isAboveNeighbour_10 : decode cX2_isAboveNeighbour 10 = .ok (.ifCond .le 21, 3) := by decide +kernel
theorem dX2_isAboveNeighbour_13 : decode cX2_isAboveNeighbour 13 = .ok (.aload_n 0, 1) := by decide +kernel
theorem dX2_isAboveNeighbour_14 : decode cX2_isAboveNeighbour 14 = .ok (.getfield 15, 3) := by decide +kernel
theorem dX2_isAboveNeighbour_17 : decode cX2_isAboveNeighbour 17 = .ok (.iload_n 1, 1) := by decide +kernel
theorem dX2_isAboveNeighbour_18 : decode cX2_isAboveNeighbour 18 = .ok (.iconst 1, 1) := by decide +kernel
theorem dX2_isAboveNeighbour_19 : decode cX2_isAboveNeighbour 19 = .ok (.isub, 1) := by decide +kernel
theorem dX2_isAboveNeighbour_20 : decode cX2_isAboveNeighbour 20 = .ok (.invokestatic 45, 3) := by decide +kernel
theorem dX2_isAboveNeighbour_23 : decode cX2_isAboveNeighbour 23 = .ok (.iload_n 2, 1) := by decide +kernel
theorem dX2_isAboveNeighbour_24 : decode cX2_isAboveNeighbour 24 = .ok (.if_icmp .ge 7, 3) := by decide +kernel
theorem dX2_isAboveNeighbour_27 : decode cX2_isAboveNeighbour 27 = .ok (.iconst 1, 1) := by decide +kernel
theorem dX2_isAboveNeighbour_28 : decode cX2_isAboveNeighbour 28 = .ok (.goto 4, 3) := by decide +kernel
theorem dX2_isAboveNeighbour_31 : decode cX2_isAboveNeighbour 31 = .ok (.iconst 0, 1) := by decide +kernel
theorem dX2_isAboveNeighbour_32 : decode cX2_isAboveNeighbour 32 = .ok (.istore_n 3, 1) := by decide +kernel
theorem dX2_isAboveNeighbour_33 : decode cX2_isAboveNeighbour 33 = .ok (.iload_n 1, 1) := by decide +kernel
theorem dX2_isAboveNeighbour_34 : decode cX2_isAboveNeighbour 34 = .ok (.aload_n 0, 1) := by decide +kernel
theorem dX2_isAboveNeighbour_35 : decode cX2_isAboveNeighbour 35 = .ok (.getfield 38, 3) := by decide +kernel
theorem dX2_isAboveNeighbour_38 : decode cX2_isAboveNeighbour 38 = .ok (.iconst 1, 1) := by decide +kernel
theorem dX2_isAboveNeighbour_39 : decode cX2_isAboveNeighbour 39 = .ok (.isub, 1) := by decide +kernel
theorem dX2_isAboveNeighbour_40 : decode cX2_isAboveNeighbour 40 = .ok (.if_icmp .ge 21, 3) := by decide +kernel
theorem dX2_isAboveNeighbour_43 : decode cX2_isAboveNeighbour 43 = .ok (.aload_n 0, 1) := by decide +kernel
theorem dX2_isAboveNeighbour_44 : decode cX2_isAboveNeighbour 44 = .ok (.getfield 15, 3) := by decide +kernel
theorem dX2_isAboveNeighbour_47 : decode cX2_isAboveNeighbour 47 = .ok (.iload_n 1, 1) := by decide +kernel
theorem dX2_isAboveNeighbour_48 : decode cX2_isAboveNeighbour 48 = .ok (.iconst 1, 1) := by decide +kernel
theorem dX2_isAboveNeighbour_49 : decode cX2_isAboveNeighbour 49 = .ok (.iadd, 1) := by decide +kernel
theorem dX2_isAboveNeighbour_50 : decode cX2_isAboveNeighbour 50 = .ok (.invokestatic 45, 3) := by decide +kernel
theorem dX2_isAboveNeighbour_53 : decode cX2_isAboveNeighbour 53 = .ok (.iload_n 2, 1) := by decide +kernel
theorem dX2_isAboveNeighbour_54 : decode cX2_isAboveNeighbour 54 = .ok (.if_icmp .ge 7, 3) := by decide +kernel
theorem dX2_isAboveNeighbour_57 : decode cX2_isAboveNeighbour 57 = .ok (.iconst 1, 1) := by decide +kernel
theorem dX2_isAboveNeighbour_58 : decode cX2_isAboveNeighbour 58 = .ok (.goto 4, 3) := by decide +kernel
theorem dX2_isAboveNeighbour_61 : decode cX2_isAboveNeighbour 61 = .ok (.iconst 0, 1) := by decide +kernel
theorem dX2_isAboveNeighbour_62 : decode cX2_isAboveNeighbour 62 = .ok (.istore 4, 2) := by decide +kernel
theorem dX2_isAboveNeighbour_64 : decode cX2_isAboveNeighbour 64 = .ok (.iload_n 3, 1) := by decide +kernel
theorem dX2_isAboveNeighbour_65 : decode cX2_isAboveNeighbour 65 = .ok (.ifCond .ne 8, 3) := by decide +kernel
theorem dX2_isAboveNeighbour_68 : decode cX2_isAboveNeighbour 68 = .ok (.iload 4, 2) := by decide +kernel
theorem dX2_isAboveNeighbour_70 : decode cX2_isAboveNeighbour 70 = .ok (.ifCond .eq 7, 3) := by decide +kernel
theorem dX2_isAboveNeighbour_73 : decode cX2_isAboveNeighbour 73 = .ok (.iconst 1, 1) := by decide +kernel
theorem dX2_isAboveNeighbour_74 : decode cX2_isAboveNeighbour 74 = .ok (.goto 4, 3) := by decide +kernel
theorem dX2_isAboveNeighbour_77 : decode cX2_isAboveNeighbour 77 = .ok (.iconst 0, 1) := by decide +kernel
theorem dX2_isAboveNeighbour_78 : decode cX2_isAboveNeighbour 78 = .ok (.ireturn, 1) := by decide +kernel
theorem dX2_firstColumnOf_0 : decode cX2_firstColumnOf 0 = .ok (.aload_n 0, 1) := by decide +kernel
theorem dX2_firstColumnOf_1 : decode cX2_firstColumnOf 1 = .ok (.getfield 38, 3) := by decide +kernel
theorem dX2_firstColumnOf_4 : decode cX2_firstColumnOf 4 = .ok (.iconst 1, 1) := by decide +kernel
theorem dX2_firstColumnOf_5 : decode cX2_firstColumnOf 5 = .ok (.if_icmp .ge 7, 3) := by decide +kernel
theorem dX2_firstColumnOf_8 : decode cX2_firstColumnOf 8 = .ok (.iconst 0, 1) := by decide +kernel
theorem dX2_firstColumnOf_9 : decode cX2_firstColumnOf 9 = .ok (.goto 14, 3) := by decide +kernel
theorem dX2_firstColumnOf_12 : decode cX2_firstColumnOf 12 = .ok (.iload_n 1, 1) := by decide +kernel
theorem dX2_firstColumnOf_13 : decode cX2_firstColumnOf 13 = .ok (.aload_n 0, 1) := by decide +kernel
theorem dX2_firstColumnOf_14 : decode cX2_firstColumnOf 14 = .ok (.getfield 9, 3) := by decide +kernel
theorem dX2_firstColumnOf_17 : decode cX2_firstColumnOf 17 = .ok (.imul, 1) := by decide +kernel
theorem dX2_firstColumnOf_18 : decode cX2_firstColumnOf 18 = .ok (.aload_n 0, 1) := by decide +kernel
theorem dX2_firstColumnOf_19 : decode cX2_firstColumnOf 19 = .ok (.getfield 38, 3) := by decide +kernel
theorem dX2_firstColumnOf_22 : decode cX2_firstColumnOf 22 = .ok (.idiv, 1) := by decide +kernel
theorem dX2_firstColumnOf_23 : decode cX2_firstColumnOf 23 = .ok (.ireturn, 1) := by decide +kernel
theorem dX2_threadsSuffice_0 : decode cX2_threadsSuffice 0 = .ok (.iconst 0, 1) := by decide +kernel
theorem dX2_threadsSuffice_1 : decode cX2_threadsSuffice 1 = .ok (.istore_n 3, 1) := by decide +kernel
theorem dX2_threadsSuffice_2 : decode cX2_threadsSuffice 2 = .ok (.iload_n 3, 1) := by decide +kernel
theorem dX2_threadsSuffice_3 : decode cX2_threadsSuffice 3 = .ok (.bipush 6, 2) := by decide +kernel
theorem dX2_threadsSuffice_5 : decode cX2_threadsSuffice 5 = .ok (.if_icmp .ge 25, 3) := by decide +kernel
theorem dX2_threadsSuffice_8 : decode cX2_threadsSuffice 8 = .ok (.aload_n 0, 1) := by decide +kernel
theorem dX2_threadsSuffice_9 : decode cX2_threadsSuffice 9 = .ok (.iload_n 1, 1) := by decide +kernel
theorem dX2_threadsSuffice_10 : decode cX2_threadsSuffice 10 = .ok (.iload_n 3, 1) := by decide +kernel
theorem dX2_threadsSuffice_11 : decode cX2_threadsSuffice 11 = .ok (.invokevirtual 65, 3) := by decide +kernel
theorem dX2_threadsSuffice_14 : decode cX2_threadsSuffice 14 = .ok (.aload_n 2, 1) := by decide +kernel
theorem dX2_threadsSuffice_15 : decode cX2_threadsSuffice 15 = .ok (.iload_n 3, 1) := by decide +kernel
theorem dX2_threadsSuffice_16 : decode cX2_threadsSuffice 16 = .ok (.invokevirtual 68, 3) := by decide +kernel
theorem dX2_threadsSuffice_19 : decode cX2_threadsSuffice 19 = .ok (.if_icmp .le 5, 3) := by decide +kernel
theorem dX2_threadsSuffice_22 : decode cX2_threadsSuffice 22 = .ok (.iconst 0, 1) := by decide +kernel
theorem dX2_threadsSuffice_23 : decode cX2_threadsSuffice 23 = .ok (.ireturn, 1) := by decide +kernel
theorem dX2_threadsSuffice_24 : decode cX2_threadsSuffice 24 = .ok (.iinc 3 1, 3) := by decide +kernel
theorem dX2_threadsSuffice_27 : decode cX2_threadsSuffice 27 = .ok (.goto (-25), 3) := by decide +kernel
theorem dX2_threadsSuffice_30 : decode cX2_threadsSuffice 30 = .ok (.iconst 1, 1) := by decide +kernel
theorem dX2_threadsSuffice_31 : decode cX2_threadsSuffice 31 = .ok (.ireturn, 1) := by decide +kernel
theorem dX2_countInNextRow_0 : decode cX2_countInNextRow 0 = .ok (.aload_n 0, 1) := by decide +kernel
theorem dX2_countInNextRow_1 : decode cX2_countInNextRow 1 = .ok (.getfield 15, 3) := by decide +kernel
theorem dX2_countInNextRow_4 : decode cX2_countInNextRow 4 = .ok (.iload_n 1, 1) := by decide +kernel
theorem dX2_countInNextRow_5 : decode cX2_countInNextRow 5 = .ok (.invokestatic 45, 3) := by decide +kernel
theorem dX2_countInNextRow_8 : decode cX2_countInNextRow 8 = .ok (.istore_n 3, 1) := by decide +kernel
theorem dX2_countInNextRow_9 : decode cX2_countInNextRow 9 = .ok (.aload_n 0, 1) := by decide +kernel
theorem dX2_countInNextRow_10 : decode cX2_countInNextRow 10 = .ok (.iload_n 1, 1) := by decide +kernel
theorem dX2_countInNextRow_11 : decode cX2_countInNextRow 11 = .ok (.iconst 1, 1) := by decide +kernel
theorem dX2_countInNextRow_12 : decode cX2_countInNextRow 12 = .ok (.iadd, 1) := by decide +kernel
theorem dX2_countInNextRow_13 : decode cX2_countInNextRow 13 = .ok (.invokevirtual 74, 3) := by decide +kernel
theorem dX2_countInNextRow_16 : decode cX2_countInNextRow 16 = .ok (.istore 4, 2) := by decide +kernel
theorem dX2_countInNextRow_18 : decode cX2_countInNextRow 18 = .ok (.iconst 0, 1) := by decide +kernel
theorem dX2_countInNextRow_19 : decode cX2_countInNextRow 19 = .ok (.istore 5, 2) := by decide +kernel
theorem dX2_countInNextRow_21 : decode cX2_countInNextRow 21 = .ok (.aload_n 0, 1) := by decide +kernel
theorem dX2_countInNextRow_22 : decode cX2_countInNextRow 22 = .ok (.iload_n 1, 1) := by decide +kernel
theorem dX2_countInNextRow_23 : decode cX2_countInNextRow 23 = .ok (.invokevirtual 74, 3) := by decide +kernel
theorem dX2_countInNextRow_26 : decode cX2_countInNextRow 26 = .ok (.istore 6, 2) := by decide +kernel
theorem dX2_countInNextRow_28 : decode cX2_countInNextRow 28 = .ok (.iload 6, 2) := by decide +kernel
theorem dX2_countInNextRow_30 : decode cX2_countInNextRow 30 = .ok (.iload 4, 2) := by decide +kernel
theorem dX2_countInNextRow_32 : decode cX2_countInNextRow 32 = .ok (.if_icmp .ge 23, 3) := by decide +kernel
theorem dX2_countInNextRow_35 : decode cX2_countInNextRow 35 = .ok (.aload_n 0, 1) := by decide +kernel
theorem dX2_countInNextRow_36 : decode cX2_countInNextRow 36 = .ok (.iload_n 3, 1) := by decide +kernel
theorem dX2_countInNextRow_37 : decode cX2_countInNextRow 37 = .ok (.iload 6, 2) := by decide +kernel
theorem dX2_countInNextRow_39 : decode cX2_countInNextRow 39 = .ok (.invokevirtual 77, 3) := by decide +kernel
theorem dX2_countInNextRow_42 : decode cX2_countInNextRow 42 = .ok (.iload_n 2, 1) := by decide +kernel
theorem dX2_countInNextRow_43 : decode cX2_countInNextRow 43 = .ok (.if_icmp .ne 6, 3) := by decide +kernel
theorem dX2_countInNextRow_46 : decode cX2_countInNextRow 46 = .ok (.iinc 5 1, 3) := by decide +kernel
theorem dX2_countInNextRow_49 : decode cX2_countInNextRow 49 = .ok (.iinc 6 1, 3) := by decide +kernel
theorem dX2_countInNextRow_52 : decode cX2_countInNextRow 52 = .ok (.goto (-24), 3) := by decide +kernel
theorem dX2_countInNextRow_55 : decode cX2_countInNextRow 55 = .ok (.iload 5, 2) := by decide +kernel
theorem dX2_countInNextRow_57 : decode cX2_countInNextRow 57 = .ok (.ireturn, 1) := by decide +kernel
theorem dX2_weaveRow_0 : decode cX2_weaveRow 0 = .ok (.aload_n 0, 1) := by decide +kernel
theorem dX2_weaveRow_1 : decode cX2_weaveRow 1 = .ok (.getfield 15, 3) := by decide +kernel
theorem dX2_weaveRow_4 : decode cX2_weaveRow 4 = .ok (.iload_n 1, 1) := by decide +kernel
theorem dX2_weaveRow_5 : decode cX2_weaveRow 5 = .ok (.invokestatic 45, 3) := by decide +kernel
theorem dX2_weaveRow_8 : decode cX2_weaveRow 8 = .ok (.istore_n 3, 1) := by decide +kernel
theorem dX2_weaveRow_9 : decode cX2_weaveRow 9 = .ok (.aload_n 0, 1) := by decide +kernel
theorem dX2_weaveRow_10 : decode cX2_weaveRow 10 = .ok (.iload_n 1, 1) := by decide +kernel
theorem dX2_weaveRow_11 : decode cX2_weaveRow 11 = .ok (.iconst 1, 1) := by decide +kernel
theorem dX2_weaveRow_12 : decode cX2_weaveRow 12 = .ok (.iadd, 1) := by decide +kernel
theorem dX2_weaveRow_13 : decode cX2_weaveRow 13 = .ok (.invokevirtual 74, 3) := by decide +kernel
theorem dX2_weaveRow_16 : decode cX2_weaveRow 16 = .ok (.istore 4, 2) := by decide +kernel
theorem dX2_weaveRow_18 : decode cX2_weaveRow 18 = .ok (.aload_n 0, 1) := by decide +kernel
theorem dX2_weaveRow_19 : decode cX2_weaveRow 19 = .ok (.iload_n 1, 1) := by decide +kernel
theorem dX2_weaveRow_20 : decode cX2_weaveRow 20 = .ok (.invokevirtual 74, 3) := by decide +kernel
theorem dX2_weaveRow_23 : decode cX2_weaveRow 23 = .ok (.istore 5, 2) := by decide +kernel
theorem dX2_weaveRow_25 : decode cX2_weaveRow 25 = .ok (.iload 5, 2) := by decide +kernel
theorem dX2_weaveRow_27 : decode cX2_weaveRow 27 = .ok (.iload 4, 2) := by decide +kernel
theorem dX2_weaveRow_29 : decode cX2_weaveRow 29 = .ok (.if_icmp .ge 48, 3) := by decide +kernel
theorem dX2_weaveRow_32 : decode cX2_weaveRow 32 = .ok (.aload_n 0, 1) := by decide +kernel
theorem dX2_weaveRow_33 : decode cX2_weaveRow 33 = .ok (.getfield 22, 3) := by decide +kernel
theorem dX2_weaveRow_36 : decode cX2_weaveRow 36 = .ok (.iload_n 3, 1) := by decide +kernel
theorem dX2_weaveRow_37 : decode cX2_weaveRow 37 = .ok (.iload 5, 2) := by decide +kernel
theorem dX2_weaveRow_39 : decode cX2_weaveRow 39 = .ok (.invokestatic 41, 3) := by decide +kernel
theorem dX2_weaveRow_42 : decode cX2_weaveRow 42 = .ok (.aload_n 2, 1) := by decide +kernel
theorem dX2_weaveRow_43 : decode cX2_weaveRow 43 = .ok (.aload_n 0, 1) := by decide +kernel
theorem dX2_weaveRow_44 : decode cX2_weaveRow 44 = .ok (.iload_n 3, 1) := by decide +kernel
theorem dX2_weaveRow_45 : decode cX2_weaveRow 45 = .ok (.iload 5, 2) := by decide +kernel
theorem dX2_weaveRow_47 : decode cX2_weaveRow 47 = .ok (.invokevirtual 77, 3) := by decide +kernel
theorem dX2_weaveRow_50 : decode cX2_weaveRow 50 = .ok (.invokevirtual 79, 3) := by decide +kernel
theorem dX2_weaveRow_53 : decode cX2_weaveRow 53 = .ok (.invokestatic 57, 3) := by decide +kernel
theorem dX2_weaveRow_56 : decode cX2_weaveRow 56 = .ok (.aload_n 0, 1) := by decide +kernel
theorem dX2_weaveRow_57 : decode cX2_weaveRow 57 = .ok (.getfield 25, 3) := by decide +kernel
theorem dX2_weaveRow_60 : decode cX2_weaveRow 60 = .ok (.iload_n 3, 1) := by decide +kernel
theorem dX2_weaveRow_61 : decode cX2_weaveRow 61 = .ok (.iload 5, 2) := by decide +kernel
theorem dX2_weaveRow_63 : decode cX2_weaveRow 63 = .ok (.invokestatic 41, 3) := by decide +kernel
theorem dX2_weaveRow_66 : decode cX2_weaveRow 66 = .ok (.bipush 100, 2) := by decide +kernel
theorem dX2_weaveRow_68 : decode cX2_weaveRow 68 = .ok (.invokestatic 57, 3) := by decide +kernel
theorem dX2_weaveRow_71 : decode cX2_weaveRow 71 = .ok (.iinc 5 1, 3) := by decide +kernel
theorem dX2_weaveRow_74 : decode cX2_weaveRow 74 = .ok (.goto (-49), 3) := by decide +kernel
theorem dX2_weaveRow_77 : decode cX2_weaveRow 77 = .ok (.aload_n 0, 1) := by decide +kernel
theorem dX2_weaveRow_78 : decode cX2_weaveRow 78 = .ok (.getfield 15, 3) := by decide +kernel
theorem dX2_weaveRow_81 : decode cX2_weaveRow 81 = .ok (.iload_n 1, 1) := by decide +kernel
theorem dX2_weaveRow_82 : decode cX2_weaveRow 82 = .ok (.iload_n 3, 1) := by decide +kernel
theorem dX2_weaveRow_83 : decode cX2_weaveRow 83 = .ok (.iconst 1, 1) := by decide +kernel
theorem dX2_weaveRow_84 : decode cX2_weaveRow 84 = .ok (.iadd, 1) := by decide +kernel
theorem dX2_weaveRow_85 : decode cX2_weaveRow 85 = .ok (.invokestatic 57, 3) := by decide +kernel
theorem dX2_weaveRow_88 : decode cX2_weaveRow 88 = .ok (.iload_n 3, 1) := by decide +kernel
theorem dX2_weaveRow_89 : decode cX2_weaveRow 89 = .ok (.ireturn, 1) := by decide +kernel
theorem dX2_countWoven_0 : decode cX2_countWoven 0 = .ok (.iconst 0, 1) := by decide +kernel
theorem dX2_countWoven_1 : decode cX2_countWoven 1 = .ok (.istore_n 1, 1) := by decide +kernel
theorem dX2_countWoven_2 : decode cX2_countWoven 2 = .ok (.iconst 0, 1) := by decide +kernel
theorem dX2_countWoven_3 : decode cX2_countWoven 3 = .ok (.istore_n 2, 1) := by decide +kernel
theorem dX2_countWoven_4 : decode cX2_countWoven 4 = .ok (.iload_n 2, 1) := by decide +kernel
theorem dX2_countWoven_5 : decode cX2_countWoven 5 = .ok (.aload_n 0, 1) := by decide +kernel
theorem dX2_countWoven_6 : decode cX2_countWoven 6 = .ok (.getfield 35, 3) := by decide +kernel
theorem dX2_countWoven_9 : decode cX2_countWoven 9 = .ok (.if_icmp .ge 38, 3) := by decide +kernel
theorem dX2_countWoven_12 : decode cX2_countWoven 12 = .ok (.iconst 0, 1) := by decide +kernel
theorem dX2_countWoven_13 : decode cX2_countWoven 13 = .ok (.istore_n 3, 1) := by decide +kernel
theorem dX2_countWoven_14 : decode cX2_countWoven 14 = .ok (.iload_n 3, 1) := by decide +kernel
theorem dX2_countWoven_15 : decode cX2_countWoven 15 = .ok (.aload_n 0, 1) := by decide +kernel
theorem dX2_countWoven_16 : decode cX2_countWoven 16 = .ok (.getfield 9, 3) := by decide +kernel
theorem dX2_countWoven_19 : decode cX2_countWoven 19 = .ok (.if_icmp .ge 22, 3) := by decide +kernel
theorem dX2_countWoven_22 : decode cX2_countWoven 22 = .ok (.aload_n 0, 1) := by decide +kernel
theorem dX2_countWoven_23 : decode cX2_countWoven 23 = .ok (.iload_n 2, 1) := by decide +kernel
theorem dX2_countWoven_24 : decode cX2_countWoven 24 = .ok (.iload_n 3, 1) := by decide +kernel
theorem dX2_countWoven_25 : decode cX2_countWoven 25 = .ok (.invokevirtual 82, 3) := by decide +kernel
theorem dX2_countWoven_28 : decode cX2_countWoven 28 = .ok (.iconst (-1), 1) := by decide +kernel
theorem dX2_countWoven_29 : decode cX2_countWoven 29 = .ok (.if_icmp .eq 6, 3) := by decide +kernel
theorem dX2_countWoven_32 : decode cX2_countWoven 32 = .ok (.iinc 1 1, 3) := by decide +kernel
theorem dX2_countWoven_35 : decode cX2_countWoven 35 = .ok (.iinc 3 1, 3) := by decide +kernel
theorem dX2_countWoven_38 : decode cX2_countWoven 38 = .ok (.goto (-24), 3) := by decide +kernel
theorem dX2_countWoven_41 : decode cX2_countWoven 41 = .ok (.iinc 2 1, 3) := by decide +kernel
theorem dX2_countWoven_44 : decode cX2_countWoven 44 = .ok (.goto (-40), 3) := by decide +kernel
theorem dX2_countWoven_47 : decode cX2_countWoven 47 = .ok (.iload_n 1, 1) := by decide +kernel
theorem dX2_countWoven_48 : decode cX2_countWoven 48 = .ok (.ireturn, 1) := by decide +kernel
theorem dX2_isDone_0 : decode cX2_isDone 0 = .ok (.aload_n 0, 1) := by decide +kernel
theorem dX2_isDone_1 : decode cX2_isDone 1 = .ok (.invokevirtual 85, 3) := by decide +kernel
theorem dX2_isDone_4 : decode cX2_isDone 4 = .ok (.aload_n 0, 1) := by decide +kernel
theorem dX2_isDone_5 : decode cX2_isDone 5 = .ok (.getfield 9, 3) := by decide +kernel
theorem dX2_isDone_8 : decode cX2_isDone 8 = .ok (.aload_n 0, 1) := by decide +kernel
theorem dX2_isDone_9 : decode cX2_isDone 9 = .ok (.getfield 35, 3) := by decide +kernel
theorem dX2_isDone_12 : decode cX2_isDone 12 = .ok (.imul, 1) := by decide +kernel
theorem dX2_isDone_13 : decode cX2_isDone 13 = .ok (.if_icmp .ne 7, 3) := by decide +kernel
theorem dX2_isDone_16 : decode cX2_isDone 16 = .ok (.iconst 1, 1) := by decide +kernel
theorem dX2_isDone_17 : decode cX2_isDone 17 = .ok (.goto 4, 3) := by decide +kernel
theorem dX2_isDone_20 : decode cX2_isDone 20 = .ok (.iconst 0, 1) := by decide +kernel
theorem dX2_isDone_21 : decode cX2_isDone 21 = .ok (.ireturn, 1) := by decide +kernel
theorem dX2_countWovenOf_0 : decode cX2_countWovenOf 0 = .ok (.iconst 0, 1) := by decide +kernel
theorem dX2_countWovenOf_1 : decode cX2_countWovenOf 1 = .ok (.istore_n 2, 1) := by decide +kernel
theorem dX2_countWovenOf_2 : decode cX2_countWovenOf 2 = .ok (.iconst 0, 1) := by decide +kernel
theorem dX2_countWovenOf_3 : decode cX2_countWovenOf 3 = .ok (.istore_n 3, 1) := by decide +kernel
theorem dX2_countWovenOf_4 : decode cX2_countWovenOf 4 = .ok (.iload_n 3, 1) := by decide +kernel
theorem dX2_countWovenOf_5 : decode cX2_countWovenOf 5 = .ok (.aload_n 0, 1) := by decide +kernel
theorem dX2_countWovenOf_6 : decode cX2_countWovenOf 6 = .ok (.getfield 35, 3) := by decide +kernel
theorem dX2_countWovenOf_9 : decode cX2_countWovenOf 9 = .ok (.if_icmp .ge 52, 3) := by decide +kernel
theorem dX2_countWovenOf_12 : decode cX2_countWovenOf 12 = .ok (.iconst 0, 1) := by decide +kernel
theorem dX2_countWovenOf_13 : decode cX2_countWovenOf 13 = .ok (.istore 4, 2) := by decide +kernel
theorem dX2_countWovenOf_15 : decode cX2_countWovenOf 15 = .ok (.iload 4, 2) := by decide +kernel
theorem dX2_countWovenOf_17 : decode cX2_countWovenOf 17 = .ok (.aload_n 0, 1) := by decide +kernel
theorem dX2_countWovenOf_18 : decode cX2_countWovenOf 18 = .ok (.getfield 9, 3) := by decide +kernel
theorem dX2_countWovenOf_21 : decode cX2_countWovenOf 21 = .ok (.if_icmp .ge 34, 3) := by decide +kernel
theorem dX2_countWovenOf_24 : decode cX2_countWovenOf 24 = .ok (.aload_n 0, 1) := by decide +kernel
theorem dX2_countWovenOf_25 : decode cX2_countWovenOf 25 = .ok (.iload_n 3, 1) := by decide +kernel
theorem dX2_countWovenOf_26 : decode cX2_countWovenOf 26 = .ok (.iload 4, 2) := by decide +kernel
theorem dX2_countWovenOf_28 : decode cX2_countWovenOf 28 = .ok (.invokevirtual 82, 3) := by decide +kernel
theorem dX2_countWovenOf_31 : decode cX2_countWovenOf 31 = .ok (.iconst (-1), 1) := by decide +kernel
theorem dX2_countWovenOf_32 : decode cX2_countWovenOf 32 = .ok (.if_icmp .eq 17, 3) := by decide +kernel
theorem dX2_countWovenOf_35 : decode cX2_countWovenOf 35 = .ok (.aload_n 0, 1) := by decide +kernel
theorem dX2_countWovenOf_36 : decode cX2_countWovenOf 36 = .ok (.iload_n 3, 1) := by decide +kernel
theorem dX2_countWovenOf_37 : decode cX2_countWovenOf 37 = .ok (.iload 4, 2) := by decide +kernel
theorem dX2_countWovenOf_39 : decode cX2_countWovenOf 39 = .ok (.invokevirtual 77, 3) := by decide +kernel
theorem dX2_countWovenOf_42 : decode cX2_countWovenOf 42 = .ok (.iload_n 1, 1) := by decide +kernel
theorem dX2_countWovenOf_43 : decode cX2_countWovenOf 43 = .ok (.if_icmp .ne 6, 3) := by decide +kernel
theorem dX2_countWovenOf_46 : decode cX2_countWovenOf 46 = .ok (.iinc 2 1, 3) := by decide +kernel
theorem dX2_countWovenOf_49 : decode cX2_countWovenOf 49 = .ok (.iinc 4 1, 3) := by decide +kernel
theorem dX2_countWovenOf_52 : decode cX2_countWovenOf 52 = .ok (.goto (-37), 3) := by decide +kernel
theorem dX2_countWovenOf_55 : decode cX2_countWovenOf 55 = .ok (.iinc 3 1, 3) := by decide +kernel
theorem dX2_countWovenOf_58 : decode cX2_countWovenOf 58 = .ok (.goto (-54), 3) := by decide +kernel
theorem dX2_countWovenOf_61 : decode cX2_countWovenOf 61 = .ok (.iload_n 2, 1) := by decide +kernel
theorem dX2_countWovenOf_62 : decode cX2_countWovenOf 62 = .ok (.ireturn, 1) := by decide +kernel
theorem dX2_addThreadsTo_0 : decode cX2_addThreadsTo 0 = .ok (.iconst 0, 1) := by decide +kernel
theorem dX2_addThreadsTo_1 : decode cX2_addThreadsTo 1 = .ok (.istore_n 2, 1) := by decide +kernel
theorem dX2_addThreadsTo_2 : decode cX2_addThreadsTo 2 = .ok (.iload_n 2, 1) := by decide +kernel
theorem dX2_addThreadsTo_3 : decode cX2_addThreadsTo 3 = .ok (.aload_n 0, 1) := by decide +kernel
theorem dX2_addThreadsTo_4 : decode cX2_addThreadsTo 4 = .ok (.getfield 35, 3) := by decide +kernel
theorem dX2_addThreadsTo_7 : decode cX2_addThreadsTo 7 = .ok (.if_icmp .ge 47, 3) := by decide +kernel
theorem dX2_addThreadsTo_10 : decode cX2_addThreadsTo 10 = .ok (.iconst 0, 1) := by decide +kernel
theorem dX2_addThreadsTo_11 : decode cX2_addThreadsTo 11 = .ok (.istore_n 3, 1) := by decide +kernel
theorem dX2_addThreadsTo_12 : decode cX2_addThreadsTo 12 = .ok (.iload_n 3, 1) := by decide +kernel
theorem dX2_addThreadsTo_13 : decode cX2_addThreadsTo 13 = .ok (.aload_n 0, 1) := by decide +kernel
theorem dX2_addThreadsTo_14 : decode cX2_addThreadsTo 14 = .ok (.getfield 9, 3) := by decide +kernel
theorem dX2_addThreadsTo_17 : decode cX2_addThreadsTo 17 = .ok (.if_icmp .ge 31, 3) := by decide +kernel
theorem dX2_addThreadsTo_20 : decode cX2_addThreadsTo 20 = .ok (.aload_n 0, 1) := by decide +kernel
theorem dX2_addThreadsTo_21 : decode cX2_addThreadsTo 21 = .ok (.iload_n 2, 1) := by decide +kernel
theorem dX2_addThreadsTo_22 : decode cX2_addThreadsTo 22 = .ok (.iload_n 3, 1) := by decide +kernel
theorem dX2_addThreadsTo_23 : decode cX2_addThreadsTo 23 = .ok (.invokevirtual 82, 3) := by decide +kernel
theorem dX2_addThreadsTo_26 : decode cX2_addThreadsTo 26 = .ok (.istore 4, 2) := by decide +kernel
theorem dX2_addThreadsTo_28 : decode cX2_addThreadsTo 28 = .ok (.aload_n 1, 1) := by decide +kernel
theorem dX2_addThreadsTo_29 : decode cX2_addThreadsTo 29 = .ok (.iload 4, 2) := by decide +kernel
theorem dX2_addThreadsTo_31 : decode cX2_addThreadsTo 31 = .ok (.aload_n 1, 1) := by decide +kernel
theorem dX2_addThreadsTo_32 : decode cX2_addThreadsTo 32 = .ok (.iload 4, 2) := by decide +kernel
theorem dX2_addThreadsTo_34 : decode cX2_addThreadsTo 34 = .ok (.invokestatic 45, 3) := by decide +kernel
theorem dX2_addThreadsTo_37 : decode cX2_addThreadsTo 37 = .ok (.iconst 1, 1) := by decide +kernel
theorem dX2_addThreadsTo_38 : decode cX2_addThreadsTo 38 = .ok (.iadd, 1) := by decide +kernel
theorem dX2_addThreadsTo_39 : decode cX2_addThreadsTo 39 = .ok (.invokestatic 57, 3) := by decide +kernel
theorem dX2_addThreadsTo_42 : decode cX2_addThreadsTo 42 = .ok (.iinc 3 1, 3) := by decide +kernel
theorem dX2_addThreadsTo_45 : decode cX2_addThreadsTo 45 = .ok (.goto (-33), 3) := by decide +kernel
theorem dX2_addThreadsTo_48 : decode cX2_addThreadsTo 48 = .ok (.iinc 2 1, 3) := by decide +kernel
theorem dX2_addThreadsTo_51 : decode cX2_addThreadsTo 51 = .ok (.goto (-49), 3) := by decide +kernel
theorem dX2_addThreadsTo_54 : decode cX2_addThreadsTo 54 = .ok (.return_, 1) := by decide +kernel
theorem dX2_sumOfShades_0 : decode cX2_sumOfShades 0 = .ok (.iconst 0, 1) := by decide +kernel
theorem dX2_sumOfShades_1 : decode cX2_sumOfShades 1 = .ok (.istore_n 1, 1) := by decide +kernel
theorem dX2_sumOfShades_2 : decode cX2_sumOfShades 2 = .ok (.iconst 0, 1) := by decide +kernel
theorem dX2_sumOfShades_3 : decode cX2_sumOfShades 3 = .ok (.istore_n 2, 1) := by decide +kernel
theorem dX2_sumOfShades_4 : decode cX2_sumOfShades 4 = .ok (.iload_n 2, 1) := by decide +kernel
theorem dX2_sumOfShades_5 : decode cX2_sumOfShades 5 = .ok (.aload_n 0, 1) := by decide +kernel
theorem dX2_sumOfShades_6 : decode cX2_sumOfShades 6 = .ok (.getfield 35, 3) := by decide +kernel
theorem dX2_sumOfShades_9 : decode cX2_sumOfShades 9 = .ok (.if_icmp .ge 34, 3) := by decide +kernel
theorem dX2_sumOfShades_12 : decode cX2_sumOfShades 12 = .ok (.iconst 0, 1) := by decide +kernel
theorem dX2_sumOfShades_13 : decode cX2_sumOfShades 13 = .ok (.istore_n 3, 1) := by decide +kernel
theorem dX2_sumOfShades_14 : decode cX2_sumOfShades 14 = .ok (.iload_n 3, 1) := by decide +kernel
theorem dX2_sumOfShades_15 : decode cX2_sumOfShades 15 = .ok (.aload_n 0, 1) := by decide +kernel
theorem dX2_sumOfShades_16 : decode cX2_sumOfShades 16 = .ok (.getfield 9, 3) := by decide +kernel
theorem dX2_sumOfShades_19 : decode cX2_sumOfShades 19 = .ok (.if_icmp .ge 18, 3) := by decide +kernel
theorem dX2_sumOfShades_22 : decode cX2_sumOfShades 22 = .ok (.iload_n 1, 1) := by decide +kernel
theorem dX2_sumOfShades_23 : decode cX2_sumOfShades 23 = .ok (.aload_n 0, 1) := by decide +kernel
theorem dX2_sumOfShades_24 : decode cX2_sumOfShades 24 = .ok (.iload_n 2, 1) := by decide +kernel
theorem dX2_sumOfShades_25 : decode cX2_sumOfShades 25 = .ok (.iload_n 3, 1) := by decide +kernel
theorem dX2_sumOfShades_26 : decode cX2_sumOfShades 26 = .ok (.invokevirtual 88, 3) := by decide +kernel
theorem dX2_sumOfShades_29 : decode cX2_sumOfShades 29 = .ok (.iadd, 1) := by decide +kernel
theorem dX2_sumOfShades_30 : decode cX2_sumOfShades 30 = .ok (.istore_n 1, 1) := by decide +kernel
theorem dX2_sumOfShades_31 : decode cX2_sumOfShades 31 = .ok (.iinc 3 1, 3) := by decide +kernel
theorem dX2_sumOfShades_34 : decode cX2_sumOfShades 34 = .ok (.goto (-20), 3) := by decide +kernel
theorem dX2_sumOfShades_37 : decode cX2_sumOfShades 37 = .ok (.iinc 2 1, 3) := by decide +kernel
theorem dX2_sumOfShades_40 : decode cX2_sumOfShades 40 = .ok (.goto (-36), 3) := by decide +kernel
theorem dX2_sumOfShades_43 : decode cX2_sumOfShades 43 = .ok (.iload_n 1, 1) := by decide +kernel
theorem dX2_sumOfShades_44 : decode cX2_sumOfShades 44 = .ok (.ireturn, 1) := by decide +kernel
theorem dX2_countLike_0 : decode cX2_countLike 0 = .ok (.iconst 0, 1) := by decide +kernel
theorem dX2_countLike_1 : decode cX2_countLike 1 = .ok (.istore_n 3, 1) := by decide +kernel
theorem dX2_countLike_2 : decode cX2_countLike 2 = .ok (.iconst 0, 1) := by decide +kernel
theorem dX2_countLike_3 : decode cX2_countLike 3 = .ok (.istore 4, 2) := by decide +kernel
theorem dX2_countLike_5 : decode cX2_countLike 5 = .ok (.iload 4, 2) := by decide +kernel
theorem dX2_countLike_7 : decode cX2_countLike 7 = .ok (.aload_n 0, 1) := by decide +kernel
theorem dX2_countLike_8 : decode cX2_countLike 8 = .ok (.getfield 35, 3) := by decide +kernel
theorem dX2_countLike_11 : decode cX2_countLike 11 = .ok (.if_icmp .ge 50, 3) := by decide +kernel
theorem dX2_countLike_14 : decode cX2_countLike 14 = .ok (.iconst 0, 1) := by decide +kernel
theorem dX2_countLike_15 : decode cX2_countLike 15 = .ok (.istore 5, 2) := by decide +kernel
theorem dX2_countLike_17 : decode cX2_countLike 17 = .ok (.iload 5, 2) := by decide +kernel
theorem dX2_countLike_19 : decode cX2_countLike 19 = .ok (.aload_n 0, 1) := by decide +kernel
theorem dX2_countLike_20 : decode cX2_countLike 20 = .ok (.getfield 9, 3) := by decide +kernel
theorem dX2_countLike_23 : decode cX2_countLike 23 = .ok (.if_icmp .ge 32, 3) := by decide +kernel
theorem dX2_countLike_26 : decode cX2_countLike 26 = .ok (.aload_n 0, 1) := by decide +kernel
theorem dX2_countLike_27 : decode cX2_countLike 27 = .ok (.iload 4, 2) := by decide +kernel
theorem dX2_countLike_29 : decode cX2_countLike 29 = .ok (.iload 5, 2) := by decide +kernel
theorem dX2_countLike_31 : decode cX2_countLike 31 = .ok (.invokevirtual 77, 3) := by decide +kernel
theorem dX2_countLike_34 : decode cX2_countLike 34 = .ok (.aload_n 1, 1) := by decide +kernel
theorem dX2_countLike_35 : decode cX2_countLike 35 = .ok (.iload 4, 2) := by decide +kernel
theorem dX2_countLike_37 : decode cX2_countLike 37 = .ok (.iload 5, 2) := by decide +kernel
theorem dX2_countLike_39 : decode cX2_countLike 39 = .ok (.iload_n 2, 1) := by decide +kernel
theorem dX2_countLike_40 : decode cX2_countLike 40 = .ok (.invokevirtual 61, 3) := by decide +kernel
theorem dX2_countLike_43 : decode cX2_countLike 43 = .ok (.if_icmp .ne 6, 3) := by decide +kernel
theorem dX2_countLike_46 : decode cX2_countLike 46 = .ok (.iinc 3 1, 3) := by decide +kernel
theorem dX2_countLike_49 : decode cX2_countLike 49 = .ok (.iinc 5 1, 3) := by decide +kernel
theorem dX2_countLike_52 : decode cX2_countLike 52 = .ok (.goto (-35), 3) := by decide +kernel
theorem dX2_countLike_55 : decode cX2_countLike 55 = .ok (.iinc 4 1, 3) := by decide +kernel
theorem dX2_countLike_58 : decode cX2_countLike 58 = .ok (.goto (-53), 3) := by decide +kernel
theorem dX2_countLike_61 : decode cX2_countLike 61 = .ok (.iload_n 3, 1) := by decide +kernel
theorem dX2_countLike_62 : decode cX2_countLike 62 = .ok (.ireturn, 1) := by decide +kernel
theorem dX2_countSlits_0 : decode cX2_countSlits 0 = .ok (.iconst 0, 1) := by decide +kernel
theorem dX2_countSlits_1 : decode cX2_countSlits 1 = .ok (.istore_n 1, 1) := by decide +kernel
theorem dX2_countSlits_2 : decode cX2_countSlits 2 = .ok (.iconst 1, 1) := by decide +kernel
theorem dX2_countSlits_3 : decode cX2_countSlits 3 = .ok (.istore_n 2, 1) := by decide +kernel
theorem dX2_countSlits_4 : decode cX2_countSlits 4 = .ok (.iload_n 2, 1) := by decide +kernel
theorem dX2_countSlits_5 : decode cX2_countSlits 5 = .ok (.aload_n 0, 1) := by decide +kernel
theorem dX2_countSlits_6 : decode cX2_countSlits 6 = .ok (.getfield 9, 3) := by decide +kernel
theorem dX2_countSlits_9 : decode cX2_countSlits 9 = .ok (.if_icmp .ge 20, 3) := by decide +kernel
theorem dX2_countSlits_12 : decode cX2_countSlits 12 = .ok (.aload_n 0, 1) := by decide +kernel
theorem dX2_countSlits_13 : decode cX2_countSlits 13 = .ok (.iload_n 2, 1) := by decide +kernel
theorem dX2_countSlits_14 : decode cX2_countSlits 14 = .ok (.invokevirtual 91, 3) := by decide +kernel
theorem dX2_countSlits_17 : decode cX2_countSlits 17 = .ok (.ifCond .eq 6, 3) := by decide +kernel
theorem dX2_countSlits_20 : decode cX2_countSlits 20 = .ok (.iinc 1 1, 3) := by decide +kernel
theorem dX2_countSlits_23 : decode cX2_countSlits 23 = .ok (.iinc 2 1, 3) := by decide +kernel
theorem dX2_countSlits_26 : decode cX2_countSlits 26 = .ok (.goto (-22), 3) := by decide +kernel
theorem dX2_countSlits_29 : decode cX2_countSlits 29 = .ok (.iload_n 1, 1) := by decide +kernel
theorem dX2_countSlits_30 : decode cX2_countSlits 30 = .ok (.ireturn, 1) := by decide +kernel
theorem dX2_hasSlitAhead_0 : decode cX2_hasSlitAhead 0 = .ok (.aload_n 0, 1) := by decide +kernel
theorem dX2_hasSlitAhead_1 : decode cX2_hasSlitAhead 1 = .ok (.iload_n 1, 1) := by decide +kernel
theorem dX2_hasSlitAhead_2 : decode cX2_hasSlitAhead 2 = .ok (.invokevirtual 95, 3) := by decide +kernel
theorem dX2_hasSlitAhead_5 : decode cX2_hasSlitAhead 5 = .ok (.ifCond .ne 16, 3) := by decide +kernel
theorem dX2_hasSlitAhead_8 : decode cX2_hasSlitAhead 8 = .ok (.aload_n 0, 1) := by decide +kernel
theorem dX2_hasSlitAhead_9 : decode cX2_hasSlitAhead 9 = .ok (.iload_n 1, 1) := by decide +kernel
theorem dX2_hasSlitAhead_10 : decode cX2_hasSlitAhead 10 = .ok (.invokevirtual 98, 3) := by decide +kernel
theorem dX2_hasSlitAhead_13 : decode cX2_hasSlitAhead 13 = .ok (.iconst 3, 1) := by decide +kernel
theorem dX2_hasSlitAhead_14 : decode cX2_hasSlitAhead 14 = .ok (.if_icmp .lt 7, 3) := by decide +kernel
theorem dX2_hasSlitAhead_17 : decode cX2_hasSlitAhead 17 = .ok (.iconst 1, 1) := by decide +kernel
theorem dX2_hasSlitAhead_18 : decode cX2_hasSlitAhead 18 = .ok (.goto 4, 3) := by decide +kernel
theorem dX2_hasSlitAhead_21 : decode cX2_hasSlitAhead 21 = .ok (.iconst 0, 1) := by decide +kernel
theorem dX2_hasSlitAhead_22 : decode cX2_hasSlitAhead 22 = .ok (.ireturn, 1) := by decide +kernel
theorem dX2_longestUnlikeAhead_0 : decode cX2_longestUnlikeAhead 0 = .ok (.iconst 0, 1) := by decide +kernel
theorem dX2_longestUnlikeAhead_1 : decode cX2_longestUnlikeAhead 1 = .ok (.istore_n 2, 1) := by decide +kernel
theorem dX2_longestUnlikeAhead_2 : decode cX2_longestUnlikeAhead 2 = .ok (.iconst 0, 1) := by decide +kernel
theorem dX2_longestUnlikeAhead_3 : decode cX2_longestUnlikeAhead 3 = .ok (.istore_n 3, 1) := by decide +kernel
theorem dX2_longestUnlikeAhead_4 : decode cX2_longestUnlikeAhead 4 = .ok (.iconst 0, 1) := by decide +kernel
theorem dX2_longestUnlikeAhead_5 : decode cX2_longestUnlikeAhead 5 = .ok (.istore 4, 2) := by decide +kernel
theorem dX2_longestUnlikeAhead_7 : decode cX2_longestUnlikeAhead 7 = .ok (.iload 4, 2) := by decide +kernel
theorem dX2_longestUnlikeAhead_9 : decode cX2_longestUnlikeAhead 9 = .ok (.aload_n 0, 1) := by decide +kernel
theorem dX2_longestUnlikeAhead_10 : decode cX2_longestUnlikeAhead 10 = .ok (.getfield 35, 3) := by decide +kernel
theorem dX2_longestUnlikeAhead_13 : decode cX2_longestUnlikeAhead 13 = .ok (.if_icmp .ge 54, 3) := by decide +kernel
theorem dX2_longestUnlikeAhead_16 : decode cX2_longestUnlikeAhead 16 = .ok (.aload_n 0, 1) := by decide +kernel
theorem dX2_longestUnlikeAhead_17 : decode cX2_longestUnlikeAhead 17 = .ok (.iload 4, 2) := by decide +kernel
theorem dX2_longestUnlikeAhead_19 : decode cX2_longestUnlikeAhead 19 = .ok (.iload_n 1, 1) := by decide +kernel
theorem dX2_longestUnlikeAhead_20 : decode cX2_longestUnlikeAhead 20 = .ok (.iconst 1, 1) := by decide +kernel
theorem dX2_longestUnlikeAhead_21 : decode cX2_longestUnlikeAhead 21 = .ok (.isub, 1) := by decide +kernel
theorem dX2_longestUnlikeAhead_22 : decode cX2_longestUnlikeAhead 22 = .ok (.invokevirtual 77, 3) := by decide +kernel
theorem dX2_longestUnlikeAhead_25 : decode cX2_longestUnlikeAhead 25 = .ok (.aload_n 0, 1) := by decide +kernel
theorem dX2_longestUnlikeAhead_26 : decode cX2_longestUnlikeAhead 26 = .ok (.iload 4, 2) := by decide +kernel
theorem dX2_longestUnlikeAhead_28 : decode cX2_longestUnlikeAhead 28 = .ok (.iload_n 1, 1) := by decide +kernel
theorem dX2_longestUnlikeAhead_29 : decode cX2_longestUnlikeAhead 29 = .ok (.invokevirtual 77, 3) := by decide +kernel
theorem dX2_longestUnlikeAhead_32 : decode cX2_longestUnlikeAhead 32 = .ok (.if_icmp .eq 7, 3) := by decide +kernel
theorem dX2_longestUnlikeAhead_35 : decode cX2_longestUnlikeAhead 35 = .ok (.iconst 1, 1) := by decide +kernel
theorem dX2_longestUnlikeAhead_36 : decode cX2_longestUnlikeAhead 36 = .ok (.goto 4, 3) := by decide +kernel
theorem dX2_longestUnlikeAhead_39 : decode cX2_longestUnlikeAhead 39 = .ok (.iconst 0, 1) := by decide +kernel
theorem dX2_longestUnlikeAhead_40 : decode cX2_longestUnlikeAhead 40 = .ok (.istore 5, 2) := by decide +kernel
theorem dX2_longestUnlikeAhead_42 : decode cX2_longestUnlikeAhead 42 = .ok (.iload 5, 2) := by decide +kernel
theorem dX2_longestUnlikeAhead_44 : decode cX2_longestUnlikeAhead 44 = .ok (.ifCond .eq 9, 3) := by decide +kernel
theorem dX2_longestUnlikeAhead_47 : decode cX2_longestUnlikeAhead 47 = .ok (.iload_n 3, 1) := by decide +kernel
theorem dX2_longestUnlikeAhead_48 : decode cX2_longestUnlikeAhead 48 = .ok (.iconst 1, 1) := by decide +kernel
theorem dX2_longestUnlikeAhead_49 : decode cX2_longestUnlikeAhead 49 = .ok (.iadd, 1) := by decide +kernel
theorem dX2_longestUnlikeAhead_50 : decode cX2_longestUnlikeAhead 50 = .ok (.goto 4, 3) := by decide +kernel
theorem dX2_longestUnlikeAhead_53 : decode cX2_longestUnlikeAhead 53 = .ok (.iconst 0, 1) := by decide +kernel
theorem dX2_longestUnlikeAhead_54 : decode cX2_longestUnlikeAhead 54 = .ok (.istore_n 3, 1) := by decide +kernel
theorem dX2_longestUnlikeAhead_55 : decode cX2_longestUnlikeAhead 55 = .ok (.iload_n 2, 1) := by decide +kernel
theorem dX2_longestUnlikeAhead_56 : decode cX2_longestUnlikeAhead 56 = .ok (.iload_n 3, 1) := by decide +kernel
theorem dX2_longestUnlikeAhead_57 : decode cX2_longestUnlikeAhead 57 = .ok (.invokestatic 101, 3) := by decide +kernel
theorem dX2_longestUnlikeAhead_60 : decode cX2_longestUnlikeAhead 60 = .ok (.istore_n 2, 1) := by decide +kernel
theorem dX2_longestUnlikeAhead_61 : decode cX2_longestUnlikeAhead 61 = .ok (.iinc 4 1, 3) := by decide +kernel
theorem dX2_longestUnlikeAhead_64 : decode cX2_longestUnlikeAhead 64 = .ok (.goto (-57), 3) := by decide +kernel
theorem dX2_longestUnlikeAhead_67 : decode cX2_longestUnlikeAhead 67 = .ok (.iload_n 2, 1) := by decide +kernel
theorem dX2_longestUnlikeAhead_68 : decode cX2_longestUnlikeAhead 68 = .ok (.ireturn, 1) := by decide +kernel
theorem dX2_isSewnAhead_0 : decode cX2_isSewnAhead 0 = .ok (.iload_n 1, 1) := by decide +kernel
theorem dX2_isSewnAhead_1 : decode cX2_isSewnAhead 1 = .ok (.ifCond .lt 25, 3) := by decide +kernel
theorem dX2_isSewnAhead_4 : decode cX2_isSewnAhead 4 = .ok (.iload_n 1, 1) := by decide +kernel
theorem dX2_isSewnAhead_5 : decode cX2_isSewnAhead 5 = .ok (.aload_n 0, 1) := by decide +kernel
theorem dX2_isSewnAhead_6 : decode cX2_isSewnAhead 6 = .ok (.getfield 31, 3) := by decide +kernel
theorem dX2_isSewnAhead_9 : decode cX2_isSewnAhead 9 = .ok (.arraylength, 1) := by decide +kernel
theorem dX2_isSewnAhead_10 : decode cX2_isSewnAhead 10 = .ok (.if_icmp .ge 16, 3) := by decide +kernel
theorem dX2_isSewnAhead_13 : decode cX2_isSewnAhead 13 = .ok (.aload_n 0, 1) := by decide +kernel
theorem dX2_isSewnAhead_14 : decode cX2_isSewnAhead 14 = .ok (.getfield 31, 3) := by decide +kernel
theorem dX2_isSewnAhead_17 : decode cX2_isSewnAhead 17 = .ok (.iload_n 1, 1) := by decide +kernel
theorem dX2_isSewnAhead_18 : decode cX2_isSewnAhead 18 = .ok (.baload, 1) := by decide +kernel
theorem dX2_isSewnAhead_19 : decode cX2_isSewnAhead 19 = .ok (.ifCond .eq 7, 3) := by decide +kernel
theorem dX2_isSewnAhead_22 : decode cX2_isSewnAhead 22 = .ok (.iconst 1, 1) := by decide +kernel
theorem dX2_isSewnAhead_23 : decode cX2_isSewnAhead 23 = .ok (.goto 4, 3) := by decide +kernel
theorem dX2_isSewnAhead_26 : decode cX2_isSewnAhead 26 = .ok (.iconst 0, 1) := by decide +kernel
theorem dX2_isSewnAhead_27 : decode cX2_isSewnAhead 27 = .ok (.ireturn, 1) := by decide +kernel
theorem dX2_sewAhead_0 : decode cX2_sewAhead 0 = .ok (.aload_n 0, 1) := by decide +kernel
theorem dX2_sewAhead_1 : decode cX2_sewAhead 1 = .ok (.iload_n 1, 1) := by decide +kernel
theorem dX2_sewAhead_2 : decode cX2_sewAhead 2 = .ok (.iconst 1, 1) := by decide +kernel
theorem dX2_sewAhead_3 : decode cX2_sewAhead 3 = .ok (.invokevirtual 106, 3) := by decide +kernel
theorem dX2_sewAhead_6 : decode cX2_sewAhead 6 = .ok (.return_, 1) := by decide +kernel
theorem dX2_setSewnAhead_0 : decode cX2_setSewnAhead 0 = .ok (.iload_n 1, 1) := by decide +kernel
theorem dX2_setSewnAhead_1 : decode cX2_setSewnAhead 1 = .ok (.ifCond .lt 19, 3) := by decide +kernel
theorem dX2_setSewnAhead_4 : decode cX2_setSewnAhead 4 = .ok (.iload_n 1, 1) := by decide +kernel
theorem dX2_setSewnAhead_5 : decode cX2_setSewnAhead 5 = .ok (.aload_n 0, 1) := by decide +kernel
theorem dX2_setSewnAhead_6 : decode cX2_setSewnAhead 6 = .ok (.getfield 31, 3) := by decide +kernel
theorem dX2_setSewnAhead_9 : decode cX2_setSewnAhead 9 = .ok (.arraylength, 1) := by decide +kernel
theorem dX2_setSewnAhead_10 : decode cX2_setSewnAhead 10 = .ok (.if_icmp .ge 10, 3) := by decide +kernel
theorem dX2_setSewnAhead_13 : decode cX2_setSewnAhead 13 = .ok (.aload_n 0, 1) := by decide +kernel
theorem dX2_setSewnAhead_14 : decode cX2_setSewnAhead 14 = .ok (.getfield 31, 3) := by decide +kernel
theorem dX2_setSewnAhead_17 : decode cX2_setSewnAhead 17 = .ok (.iload_n 1, 1) := by decide +kernel
theorem dX2_setSewnAhead_18 : decode cX2_setSewnAhead 18 = .ok (.iload_n 2, 1) := by decide +kernel
theorem dX2_setSewnAhead_19 : decode cX2_setSewnAhead 19 = .ok (.bastore, 1) := by decide +kernel
theorem dX2_setSewnAhead_20 : decode cX2_setSewnAhead 20 = .ok (.return_, 1) := by decide +kernel
theorem dX2_fade_0 : decode cX2_fade 0 = .ok (.iconst 0, 1) := by decide +kernel
theorem dX2_fade_1 : decode cX2_fade 1 = .ok (.istore_n 3, 1) := by decide +kernel
theorem dX2_fade_2 : decode cX2_fade 2 = .ok (.iload_n 3, 1) := by decide +kernel
theorem dX2_fade_3 : decode cX2_fade 3 = .ok (.aload_n 0, 1) := by decide +kernel
theorem dX2_fade_4 : decode cX2_fade 4 = .ok (.getfield 35, 3) := by decide +kernel
theorem dX2_fade_7 : decode cX2_fade 7 = .ok (.if_icmp .ge 50, 3) := by decide +kernel
theorem dX2_fade_10 : decode cX2_fade 10 = .ok (.iconst 0, 1) := by decide +kernel
theorem dX2_fade_11 : decode cX2_fade 11 = .ok (.istore 4, 2) := by decide +kernel
theorem dX2_fade_13 : decode cX2_fade 13 = .ok (.iload 4, 2) := by decide +kernel
theorem dX2_fade_15 : decode cX2_fade 15 = .ok (.aload_n 0, 1) := by decide +kernel
theorem dX2_fade_16 : decode cX2_fade 16 = .ok (.getfield 9, 3) := by decide +kernel
theorem dX2_fade_19 : decode cX2_fade 19 = .ok (.if_icmp .ge 32, 3) := by decide +kernel
theorem dX2_fade_22 : decode cX2_fade 22 = .ok (.aload_n 0, 1) := by decide +kernel
theorem dX2_fade_23 : decode cX2_fade 23 = .ok (.iload_n 3, 1) := by decide +kernel
theorem dX2_fade_24 : decode cX2_fade 24 = .ok (.iload 4, 2) := by decide +kernel
theorem dX2_fade_26 : decode cX2_fade 26 = .ok (.iload_n 1, 1) := by decide +kernel
theorem dX2_fade_27 : decode cX2_fade 27 = .ok (.aload_n 2, 1) := by decide +kernel
theorem dX2_fade_28 : decode cX2_fade 28 = .ok (.aload_n 0, 1) := by decide +kernel
theorem dX2_fade_29 : decode cX2_fade 29 = .ok (.iload_n 3, 1) := by decide +kernel
theorem dX2_fade_30 : decode cX2_fade 30 = .ok (.iload 4, 2) := by decide +kernel
theorem dX2_fade_32 : decode cX2_fade 32 = .ok (.invokevirtual 82, 3) := by decide +kernel
theorem dX2_fade_35 : decode cX2_fade 35 = .ok (.invokevirtual 110, 3) := by decide +kernel
theorem dX2_fade_38 : decode cX2_fade 38 = .ok (.imul, 1) := by decide +kernel
theorem dX2_fade_39 : decode cX2_fade 39 = .ok (.bipush 100, 2) := by decide +kernel
theorem dX2_fade_41 : decode cX2_fade 41 = .ok (.idiv, 1) := by decide +kernel
theorem dX2_fade_42 : decode cX2_fade 42 = .ok (.invokevirtual 113, 3) := by decide +kernel
theorem dX2_fade_45 : decode cX2_fade 45 = .ok (.iinc 4 1, 3) := by decide +kernel
theorem dX2_fade_48 : decode cX2_fade 48 = .ok (.goto (-35), 3) := by decide +kernel
theorem dX2_fade_51 : decode cX2_fade 51 = .ok (.iinc 3 1, 3) := by decide +kernel
theorem dX2_fade_54 : decode cX2_fade 54 = .ok (.goto (-52), 3) := by decide +kernel
theorem dX2_fade_57 : decode cX2_fade 57 = .ok (.return_, 1) := by decide +kernel
theorem dX2_bleed_0 : decode cX2_bleed 0 = .ok (.iconst 0, 1) := by decide +kernel
theorem dX2_bleed_1 : decode cX2_bleed 1 = .ok (.istore_n 2, 1) := by decide +kernel
theorem dX2_bleed_2 : decode cX2_bleed 2 = .ok (.iload_n 2, 1) := by decide +kernel
theorem dX2_bleed_3 : decode cX2_bleed 3 = .ok (.aload_n 0, 1) := by decide +kernel
theorem dX2_bleed_4 : decode cX2_bleed 4 = .ok (.getfield 35, 3) := by decide +kernel
theorem dX2_bleed_7 : decode cX2_bleed 7 = .ok (.if_icmp .ge 82, 3) := by decide +kernel
theorem dX2_bleed_10 : decode cX2_bleed 10 = .ok (.iconst 0, 1) := by decide +kernel
theorem dX2_bleed_11 : decode cX2_bleed 11 = .ok (.istore_n 3, 1) := by decide +kernel
theorem dX2_bleed_12 : decode cX2_bleed 12 = .ok (.iload_n 3, 1) := by decide +kernel
theorem dX2_bleed_13 : decode cX2_bleed 13 = .ok (.aload_n 0, 1) := by decide +kernel
theorem dX2_bleed_14 : decode cX2_bleed 14 = .ok (.getfield 9, 3) := by decide +kernel
theorem dX2_bleed_17 : decode cX2_bleed 17 = .ok (.if_icmp .ge 66, 3) := by decide +kernel
theorem dX2_bleed_20 : decode cX2_bleed 20 = .ok (.aload_n 0, 1) := by decide +kernel
theorem dX2_bleed_21 : decode cX2_bleed 21 = .ok (.iload_n 2, 1) := by decide +kernel
theorem dX2_bleed_22 : decode cX2_bleed 22 = .ok (.iload_n 3, 1) := by decide +kernel
theorem dX2_bleed_23 : decode cX2_bleed 23 = .ok (.invokevirtual 82, 3) := by decide +kernel
theorem dX2_bleed_26 : decode cX2_bleed 26 = .ok (.istore 4, 2) := by decide +kernel
theorem dX2_bleed_28 : decode cX2_bleed 28 = .ok (.aload_n 1, 1) := by decide +kernel
theorem dX2_bleed_29 : decode cX2_bleed 29 = .ok (.iload 4, 2) := by decide +kernel
theorem dX2_bleed_31 : decode cX2_bleed 31 = .ok (.invokevirtual 117, 3) := by decide +kernel
theorem dX2_bleed_34 : decode cX2_bleed 34 = .ok (.ifCond .eq 43, 3) := by decide +kernel
theorem dX2_bleed_37 : decode cX2_bleed 37 = .ok (.aload_n 0, 1) := by decide +kernel
theorem dX2_bleed_38 : decode cX2_bleed 38 = .ok (.iload_n 2, 1) := by decide +kernel
theorem dX2_bleed_39 : decode cX2_bleed 39 = .ok (.iload_n 3, 1) := by decide +kernel
theorem dX2_bleed_40 : decode cX2_bleed 40 = .ok (.iconst 1, 1) := by decide +kernel
theorem dX2_bleed_41 : decode cX2_bleed 41 = .ok (.isub, 1) := by decide +kernel
theorem dX2_bleed_42 : decode cX2_bleed 42 = .ok (.iload 4, 2) := by decide +kernel
theorem dX2_bleed_44 : decode cX2_bleed 44 = .ok (.invokevirtual 120, 3) := by decide +kernel
theorem dX2_bleed_47 : decode cX2_bleed 47 = .ok (.aload_n 0, 1) := by decide +kernel
theorem dX2_bleed_48 : decode cX2_bleed 48 = .ok (.iload_n 2, 1) := by decide +kernel
theorem dX2_bleed_49 : decode cX2_bleed 49 = .ok (.iload_n 3, 1) := by decide +kernel
theorem dX2_bleed_50 : decode cX2_bleed 50 = .ok (.iconst 1, 1) := by decide +kernel
theorem dX2_bleed_51 : decode cX2_bleed 51 = .ok (.iadd, 1) := by decide +kernel
theorem dX2_bleed_52 : decode cX2_bleed 52 = .ok (.iload 4, 2) := by decide +kernel
theorem dX2_bleed_54 : decode cX2_bleed 54 = .ok (.invokevirtual 120, 3) := by decide +kernel
theorem dX2_bleed_57 : decode cX2_bleed 57 = .ok (.aload_n 0, 1) := by decide +kernel
theorem dX2_bleed_58 : decode cX2_bleed 58 = .ok (.iload_n 2, 1) := by decide +kernel
theorem dX2_bleed_59 : decode cX2_bleed 59 = .ok (.iconst 1, 1) := by decide +kernel
theorem dX2_bleed_60 : decode cX2_bleed 60 = .ok (.isub, 1) := by decide +kernel
theorem dX2_bleed_61 : decode cX2_bleed 61 = .ok (.iload_n 3, 1) := by decide +kernel
theorem dX2_bleed_62 : decode cX2_bleed 62 = .ok (.iload 4, 2) := by decide +kernel
theorem dX2_bleed_64 : decode cX2_bleed 64 = .ok (.invokevirtual 120, 3) := by decide +kernel
theorem dX2_bleed_67 : decode cX2_bleed 67 = .ok (.aload_n 0, 1) := by decide +kernel
theorem dX2_bleed_68 : decode cX2_bleed 68 = .ok (.iload_n 2, 1) := by decide +kernel
theorem dX2_bleed_69 : decode cX2_bleed 69 = .ok (.iconst 1, 1) := by decide +kernel
theorem dX2_bleed_70 : decode cX2_bleed 70 = .ok (.iadd, 1) := by decide +kernel
theorem dX2_bleed_71 : decode cX2_bleed 71 = .ok (.iload_n 3, 1) := by decide +kernel
theorem dX2_bleed_72 : decode cX2_bleed 72 = .ok (.iload 4, 2) := by decide +kernel
theorem dX2_bleed_74 : decode cX2_bleed 74 = .ok (.invokevirtual 120, 3) := by decide +kernel
theorem dX2_bleed_77 : decode cX2_bleed 77 = .ok (.iinc 3 1, 3) := by decide +kernel
theorem dX2_bleed_80 : decode cX2_bleed 80 = .ok (.goto (-68), 3) := by decide +kernel
theorem dX2_bleed_83 : decode cX2_bleed 83 = .ok (.iinc 2 1, 3) := by decide +kernel
theorem dX2_bleed_86 : decode cX2_bleed 86 = .ok (.goto (-84), 3) := by decide +kernel
theorem dX2_bleed_89 : decode cX2_bleed 89 = .ok (.return_, 1) := by decide +kernel
theorem dX2_stain_0 : decode cX2_stain 0 = .ok (.aload_n 0, 1) := by decide +kernel
theorem dX2_stain_1 : decode cX2_stain 1 = .ok (.iload_n 1, 1) := by decide +kernel
theorem dX2_stain_2 : decode cX2_stain 2 = .ok (.iload_n 2, 1) := by decide +kernel
theorem dX2_stain_3 : decode cX2_stain 3 = .ok (.invokevirtual 123, 3) := by decide +kernel
theorem dX2_stain_6 : decode cX2_stain 6 = .ok (.ifCond .eq 20, 3) := by decide +kernel
theorem dX2_stain_9 : decode cX2_stain 9 = .ok (.aload_n 0, 1) := by decide +kernel
theorem dX2_stain_10 : decode cX2_stain 10 = .ok (.iload_n 1, 1) := by decide +kernel
theorem dX2_stain_11 : decode cX2_stain 11 = .ok (.iload_n 2, 1) := by decide +kernel
theorem dX2_stain_12 : decode cX2_stain 12 = .ok (.invokevirtual 82, 3) := by decide +kernel
theorem dX2_stain_15 : decode cX2_stain 15 = .ok (.iload_n 3, 1) := by decide +kernel
theorem dX2_stain_16 : decode cX2_stain 16 = .ok (.if_icmp .eq 10, 3) := by decide +kernel
theorem dX2_stain_19 : decode cX2_stain 19 = .ok (.aload_n 0, 1) := by decide +kernel
theorem dX2_stain_20 : decode cX2_stain 20 = .ok (.iload_n 1, 1) := by decide +kernel
theorem dX2_stain_21 : decode cX2_stain 21 = .ok (.iload_n 2, 1) := by decide +kernel
theorem dX2_stain_22 : decode cX2_stain 22 = .ok (.iconst 5, 1) := by decide +kernel
theorem dX2_stain_23 : decode cX2_stain 23 = .ok (.invokevirtual 113, 3) := by decide +kernel
theorem dX2_stain_26 : decode cX2_stain 26 = .ok (.return_, 1) := by decide +kernel
theorem dX2_dim_0 : decode cX2_dim 0 = .ok (.aload_n 0, 1) := by decide +kernel
theorem dX2_dim_1 : decode cX2_dim 1 = .ok (.getfield 25, 3) := by decide +kernel
theorem dX2_dim_4 : decode cX2_dim 4 = .ok (.iload_n 1, 1) := by decide +kernel
theorem dX2_dim_5 : decode cX2_dim 5 = .ok (.iload_n 2, 1) := by decide +kernel
theorem dX2_dim_6 : decode cX2_dim 6 = .ok (.invokestatic 41, 3) := by decide +kernel
theorem dX2_dim_9 : decode cX2_dim 9 = .ok (.iconst 0, 1) := by decide +kernel
theorem dX2_dim_10 : decode cX2_dim 10 = .ok (.aload_n 0, 1) := by decide +kernel
theorem dX2_dim_11 : decode cX2_dim 11 = .ok (.iload_n 1, 1) := by decide +kernel
theorem dX2_dim_12 : decode cX2_dim 12 = .ok (.iload_n 2, 1) := by decide +kernel
theorem dX2_dim_13 : decode cX2_dim 13 = .ok (.invokevirtual 88, 3) := by decide +kernel
theorem dX2_dim_16 : decode cX2_dim 16 = .ok (.iload_n 3, 1) := by decide +kernel
theorem dX2_dim_17 : decode cX2_dim 17 = .ok (.isub, 1) := by decide +kernel
theorem dX2_dim_18 : decode cX2_dim 18 = .ok (.invokestatic 101, 3) := by decide +kernel
theorem dX2_dim_21 : decode cX2_dim 21 = .ok (.invokestatic 57, 3) := by decide +kernel
theorem dX2_dim_24 : decode cX2_dim 24 = .ok (.return_, 1) := by decide +kernel
theorem dX2_append_0 : decode cX2_append 0 = .ok (.iload_n 2, 1) := by decide +kernel
theorem dX2_append_1 : decode cX2_append 1 = .ok (.istore_n 3, 1) := by decide +kernel
theorem dX2_append_2 : decode cX2_append 2 = .ok (.iload_n 3, 1) := by decide +kernel
theorem dX2_append_3 : decode cX2_append 3 = .ok (.aload_n 1, 1) := by decide +kernel
theorem dX2_append_4 : decode cX2_append 4 = .ok (.getfield 9, 3) := by decide +kernel
theorem dX2_append_7 : decode cX2_append 7 = .ok (.if_icmp .ge 64, 3) := by decide +kernel
theorem dX2_append_10 : decode cX2_append 10 = .ok (.aload_n 0, 1) := by decide +kernel
theorem dX2_append_11 : decode cX2_append 11 = .ok (.getfield 9, 3) := by decide +kernel
theorem dX2_append_14 : decode cX2_append 14 = .ok (.bipush 24, 2) := by decide +kernel
theorem dX2_append_16 : decode cX2_append 16 = .ok (.if_icmp .ge 55, 3) := by decide +kernel
theorem dX2_append_19 : decode cX2_append 19 = .ok (.aload_n 0, 1) := by decide +kernel
theorem dX2_append_20 : decode cX2_append 20 = .ok (.aload_n 1, 1) := by decide +kernel
theorem dX2_append_21 : decode cX2_append 21 = .ok (.iload_n 3, 1) := by decide +kernel
theorem dX2_append_22 : decode cX2_append 22 = .ok (.aload_n 0, 1) := by decide +kernel
theorem dX2_append_23 : decode cX2_append 23 = .ok (.getfield 9, 3) := by decide +kernel
theorem dX2_append_26 : decode cX2_append 26 = .ok (.invokevirtual 127, 3) := by decide +kernel
theorem dX2_append_29 : decode cX2_append 29 = .ok (.aload_n 0, 1) := by decide +kernel
theorem dX2_append_30 : decode cX2_append 30 = .ok (.aload_n 0, 1) := by decide +kernel
theorem dX2_append_31 : decode cX2_append 31 = .ok (.getfield 9, 3) := by decide +kernel
theorem dX2_append_34 : decode cX2_append 34 = .ok (.iload_n 3, 1) := by decide +kernel
theorem dX2_append_35 : decode cX2_append 35 = .ok (.iload_n 2, 1) := by decide +kernel
theorem dX2_append_36 : decode cX2_append 36 = .ok (.if_icmp .le 15, 3) := by decide +kernel
theorem dX2_append_39 : decode cX2_append 39 = .ok (.aload_n 1, 1) := by decide +kernel
theorem dX2_append_40 : decode cX2_append 40 = .ok (.iload_n 3, 1) := by decide +kernel
theorem dX2_append_41 : decode cX2_append 41 = .ok (.invokevirtual 95, 3) := by decide +kernel
theorem dX2_append_44 : decode cX2_append 44 = .ok (.ifCond .eq 7, 3) := by decide +kernel
theorem dX2_append_47 : decode cX2_append 47 = .ok (.iconst 1, 1) := by decide +kernel
theorem dX2_append_48 : decode cX2_append 48 = .ok (.goto 4, 3) := by decide +kernel
theorem dX2_append_51 : decode cX2_append 51 = .ok (.iconst 0, 1) := by decide +kernel
theorem dX2_append_52 : decode cX2_append 52 = .ok (.invokevirtual 106, 3) := by decide +kernel
theorem dX2_append_55 : decode cX2_append 55 = .ok (.aload_n 0, 1) := by decide +kernel
theorem dX2_append_56 : decode cX2_append 56 = .ok (.dup, 1) := by decide +kernel
theorem dX2_append_57 : decode cX2_append 57 = .ok (.getfield 9, 3) := by decide +kernel
theorem dX2_append_60 : decode cX2_append 60 = .ok (.iconst 1, 1) := by decide +kernel
theorem dX2_append_61 : decode cX2_append 61 = .ok (.iadd, 1) := by decide +kernel
theorem dX2_append_62 : decode cX2_append 62 = .ok (.putfield 9, 3) := by decide +kernel
theorem dX2_append_65 : decode cX2_append 65 = .ok (.iinc 3 1, 3) := by decide +kernel
theorem dX2_append_68 : decode cX2_append 68 = .ok (.goto (-66), 3) := by decide +kernel
theorem dX2_append_71 : decode cX2_append 71 = .ok (.return_, 1) := by decide +kernel
theorem dX2_copyColumn_0 : decode cX2_copyColumn 0 = .ok (.aload_n 0, 1) := by decide +kernel
theorem dX2_copyColumn_1 : decode cX2_copyColumn 1 = .ok (.getfield 28, 3) := by decide +kernel
theorem dX2_copyColumn_4 : decode cX2_copyColumn 4 = .ok (.iload_n 3, 1) := by decide +kernel
theorem dX2_copyColumn_5 : decode cX2_copyColumn 5 = .ok (.aload_n 1, 1) := by decide +kernel
theorem dX2_copyColumn_6 : decode cX2_copyColumn 6 = .ok (.getfield 28, 3) := by decide +kernel
theorem dX2_copyColumn_9 : decode cX2_copyColumn 9 = .ok (.iload_n 2, 1) := by decide +kernel
theorem dX2_copyColumn_10 : decode cX2_copyColumn 10 = .ok (.invokestatic 45, 3) := by decide +kernel
theorem dX2_copyColumn_13 : decode cX2_copyColumn 13 = .ok (.invokestatic 57, 3) := by decide +kernel
theorem dX2_copyColumn_16 : decode cX2_copyColumn 16 = .ok (.iconst 0, 1) := by decide +kernel
theorem dX2_copyColumn_17 : decode cX2_copyColumn 17 = .ok (.istore 4, 2) := by decide +kernel
theorem dX2_copyColumn_19 : decode cX2_copyColumn 19 = .ok (.iload 4, 2) := by decide +kernel
theorem dX2_copyColumn_21 : decode cX2_copyColumn 21 = .ok (.aload_n 0, 1) := by decide +kernel
theorem dX2_copyColumn_22 : decode cX2_copyColumn 22 = .ok (.getfield 35, 3) := by decide +kernel
theorem dX2_copyColumn_25 : decode cX2_copyColumn 25 = .ok (.if_icmp .ge 69, 3) := by decide +kernel
theorem dX2_copyColumn_28 : decode cX2_copyColumn 28 = .ok (.aload_n 0, 1) := by decide +kernel
theorem dX2_copyColumn_29 : decode cX2_copyColumn 29 = .ok (.getfield 19, 3) := by decide +kernel
theorem dX2_copyColumn_32 : decode cX2_copyColumn 32 = .ok (.iload 4, 2) := by decide +kernel
theorem dX2_copyColumn_34 : decode cX2_copyColumn 34 = .ok (.iload_n 3, 1) := by decide +kernel
theorem dX2_copyColumn_35 : decode cX2_copyColumn 35 = .ok (.invokestatic 41, 3) := by decide +kernel
theorem dX2_copyColumn_38 : decode cX2_copyColumn 38 = .ok (.aload_n 1, 1) := by decide +kernel
theorem dX2_copyColumn_39 : decode cX2_copyColumn 39 = .ok (.iload 4, 2) := by decide +kernel
theorem dX2_copyColumn_41 : decode cX2_copyColumn 41 = .ok (.iload_n 2, 1) := by decide +kernel
theorem dX2_copyColumn_42 : decode cX2_copyColumn 42 = .ok (.invokevirtual 77, 3) := by decide +kernel
theorem dX2_copyColumn_45 : decode cX2_copyColumn 45 = .ok (.invokestatic 57, 3) := by decide +kernel
theorem dX2_copyColumn_48 : decode cX2_copyColumn 48 = .ok (.aload_n 0, 1) := by decide +kernel
theorem dX2_copyColumn_49 : decode cX2_copyColumn 49 = .ok (.getfield 22, 3) := by decide +kernel
theorem dX2_copyColumn_52 : decode cX2_copyColumn 52 = .ok (.iload 4, 2) := by decide +kernel
theorem dX2_copyColumn_54 : decode cX2_copyColumn 54 = .ok (.iload_n 3, 1) := by decide +kernel
theorem dX2_copyColumn_55 : decode cX2_copyColumn 55 = .ok (.invokestatic 41, 3) := by decide +kernel
theorem dX2_copyColumn_58 : decode cX2_copyColumn 58 = .ok (.aload_n 1, 1) := by decide +kernel
theorem dX2_copyColumn_59 : decode cX2_copyColumn 59 = .ok (.iload 4, 2) := by decide +kernel
theorem dX2_copyColumn_61 : decode cX2_copyColumn 61 = .ok (.iload_n 2, 1) := by decide +kernel
theorem dX2_copyColumn_62 : decode cX2_copyColumn 62 = .ok (.invokevirtual 82, 3) := by decide +kernel
theorem dX2_copyColumn_65 : decode cX2_copyColumn 65 = .ok (.invokestatic 57, 3) := by decide +kernel
theorem dX2_copyColumn_68 : decode cX2_copyColumn 68 = .ok (.aload_n 0, 1) := by decide +kernel
theorem dX2_copyColumn_69 : decode cX2_copyColumn 69 = .ok (.getfield 25, 3) := by decide +kernel
theorem dX2_copyColumn_72 : decode cX2_copyColumn 72 = .ok (.iload 4, 2) := by decide +kernel
theorem dX2_copyColumn_74 : decode cX2_copyColumn 74 = .ok (.iload_n 3, 1) := by decide +kernel
theorem dX2_copyColumn_75 : decode cX2_copyColumn 75 = .ok (.invokestatic 41, 3) := by decide +kernel
theorem dX2_copyColumn_78 : decode cX2_copyColumn 78 = .ok (.aload_n 1, 1) := by decide +kernel
theorem dX2_copyColumn_79 : decode cX2_copyColumn 79 = .ok (.iload 4, 2) := by decide +kernel
theorem dX2_copyColumn_81 : decode cX2_copyColumn 81 = .ok (.iload_n 2, 1) := by decide +kernel
theorem dX2_copyColumn_82 : decode cX2_copyColumn 82 = .ok (.invokevirtual 88, 3) := by decide +kernel
theorem dX2_copyColumn_85 : decode cX2_copyColumn 85 = .ok (.invokestatic 57, 3) := by decide +kernel
theorem dX2_copyColumn_88 : decode cX2_copyColumn 88 = .ok (.iinc 4 1, 3) := by decide +kernel
theorem dX2_copyColumn_91 : decode cX2_copyColumn 91 = .ok (.goto (-72), 3) := by decide +kernel
theorem dX2_copyColumn_94 : decode cX2_copyColumn 94 = .ok (.return_, 1) := by decide +kernel
theorem dX2_keepAhead_0 : decode cX2_keepAhead 0 = .ok (.aload_n 0, 1) := by decide +kernel
theorem dX2_keepAhead_1 : decode cX2_keepAhead 1 = .ok (.iload_n 1, 1) := by decide +kernel
theorem dX2_keepAhead_2 : decode cX2_keepAhead 2 = .ok (.putfield 9, 3) := by decide +kernel
theorem dX2_keepAhead_5 : decode cX2_keepAhead 5 = .ok (.return_, 1) := by decide +kernel
theorem dX2_countMatching_0 : decode cX2_countMatching 0 = .ok (.iconst 0, 1) := by decide +kernel
theorem dX2_countMatching_1 : decode cX2_countMatching 1 = .ok (.istore_n 2, 1) := by decide +kernel
theorem dX2_countMatching_2 : decode cX2_countMatching 2 = .ok (.iconst 0, 1) := by decide +kernel
theorem dX2_countMatching_3 : decode cX2_countMatching 3 = .ok (.istore_n 3, 1) := by decide +kernel
theorem dX2_countMatching_4 : decode cX2_countMatching 4 = .ok (.iload_n 3, 1) := by decide +kernel
theorem dX2_countMatching_5 : decode cX2_countMatching 5 = .ok (.aload_n 0, 1) := by decide +kernel
theorem dX2_countMatching_6 : decode cX2_countMatching 6 = .ok (.getfield 35, 3) := by decide +kernel
theorem dX2_countMatching_9 : decode cX2_countMatching 9 = .ok (.if_icmp .ge 32, 3) := by decide +kernel
theorem dX2_countMatching_12 : decode cX2_countMatching 12 = .ok (.aload_n 0, 1) := by decide +kernel
theorem dX2_countMatching_13 : decode cX2_countMatching 13 = .ok (.iload_n 3, 1) := by decide +kernel
theorem dX2_countMatching_14 : decode cX2_countMatching 14 = .ok (.aload_n 0, 1) := by decide +kernel
theorem dX2_countMatching_15 : decode cX2_countMatching 15 = .ok (.getfield 9, 3) := by decide +kernel
theorem dX2_countMatching_18 : decode cX2_countMatching 18 = .ok (.iconst 1, 1) := by decide +kernel
theorem dX2_countMatching_19 : decode cX2_countMatching 19 = .ok (.isub, 1) := by decide +kernel
theorem dX2_countMatching_20 : decode cX2_countMatching 20 = .ok (.invokevirtual 82, 3) := by decide +kernel
theorem dX2_countMatching_23 : decode cX2_countMatching 23 = .ok (.aload_n 1, 1) := by decide +kernel
theorem dX2_countMatching_24 : decode cX2_countMatching 24 = .ok (.iload_n 3, 1) := by decide +kernel
theorem dX2_countMatching_25 : decode cX2_countMatching 25 = .ok (.iconst 0, 1) := by decide +kernel
theorem dX2_countMatching_26 : decode cX2_countMatching 26 = .ok (.invokevirtual 82, 3) := by decide +kernel
theorem dX2_countMatching_29 : decode cX2_countMatching 29 = .ok (.if_icmp .ne 6, 3) := by decide +kernel
theorem dX2_countMatching_32 : decode cX2_countMatching 32 = .ok (.iinc 2 1, 3) := by decide +kernel
theorem dX2_countMatching_35 : decode cX2_countMatching 35 = .ok (.iinc 3 1, 3) := by decide +kernel
theorem dX2_countMatching_38 : decode cX2_countMatching 38 = .ok (.goto (-34), 3) := by decide +kernel
theorem dX2_countMatching_41 : decode cX2_countMatching 41 = .ok (.iload_n 2, 1) := by decide +kernel
theorem dX2_countMatching_42 : decode cX2_countMatching 42 = .ok (.ireturn, 1) := by decide +kernel
theorem dX2_isTrueAhead_0 : decode cX2_isTrueAhead 0 = .ok (.aload_n 0, 1) := by decide +kernel
theorem dX2_isTrueAhead_1 : decode cX2_isTrueAhead 1 = .ok (.getfield 28, 3) := by decide +kernel
theorem dX2_isTrueAhead_4 : decode cX2_isTrueAhead 4 = .ok (.iload_n 1, 1) := by decide +kernel
theorem dX2_isTrueAhead_5 : decode cX2_isTrueAhead 5 = .ok (.iconst 1, 1) := by decide +kernel
theorem dX2_isTrueAhead_6 : decode cX2_isTrueAhead 6 = .ok (.isub, 1) := by decide +kernel
theorem dX2_isTrueAhead_7 : decode cX2_isTrueAhead 7 = .ok (.invokestatic 45, 3) := by decide +kernel
theorem dX2_isTrueAhead_10 : decode cX2_isTrueAhead 10 = .ok (.iconst 1, 1) := by decide +kernel
theorem dX2_isTrueAhead_11 : decode cX2_isTrueAhead 11 = .ok (.iadd, 1) := by decide +kernel
theorem dX2_isTrueAhead_12 : decode cX2_isTrueAhead 12 = .ok (.aload_n 0, 1) := by decide +kernel
theorem dX2_isTrueAhead_13 : decode cX2_isTrueAhead 13 = .ok (.getfield 28, 3) := by decide +kernel
theorem dX2_isTrueAhead_16 : decode cX2_isTrueAhead 16 = .ok (.iload_n 1, 1) := by decide +kernel
theorem dX2_isTrueAhead_17 : decode cX2_isTrueAhead 17 = .ok (.invokestatic 45, 3) := by decide +kernel
theorem dX2_isTrueAhead_20 : decode cX2_isTrueAhead 20 = .ok (.if_icmp .ne 7, 3) := by decide +kernel
theorem dX2_isTrueAhead_23 : decode cX2_isTrueAhead 23 = .ok (.iconst 1, 1) := by decide +kernel
theorem dX2_isTrueAhead_24 : decode cX2_isTrueAhead 24 = .ok (.goto 4, 3) := by decide +kernel
theorem dX2_isTrueAhead_27 : decode cX2_isTrueAhead 27 = .ok (.iconst 0, 1) := by decide +kernel
theorem dX2_isTrueAhead_28 : decode cX2_isTrueAhead 28 = .ok (.ireturn, 1) := by decide +kernel
theorem dX2_isAllTrue_0 : decode cX2_isAllTrue 0 = .ok (.iconst 1, 1) := by decide +kernel
theorem dX2_isAllTrue_1 : decode cX2_isAllTrue 1 = .ok (.istore_n 1, 1) := by decide +kernel
theorem dX2_isAllTrue_2 : decode cX2_isAllTrue 2 = .ok (.iload_n 1, 1) := by decide +kernel
theorem dX2_isAllTrue_3 : decode cX2_isAllTrue 3 = .ok (.aload_n 0, 1) := by decide +kernel
theorem dX2_isAllTrue_4 : decode cX2_isAllTrue 4 = .ok (.getfield 9, 3) := by decide +kernel
theorem dX2_isAllTrue_7 : decode cX2_isAllTrue 7 = .ok (.if_icmp .ge 19, 3) := by decide +kernel
theorem dX2_isAllTrue_10 : decode cX2_isAllTrue 10 = .ok (.aload_n 0, 1) := by decide +kernel
theorem dX2_isAllTrue_11 : decode cX2_isAllTrue 11 = .ok (.iload_n 1, 1) := by decide +kernel
theorem dX2_isAllTrue_12 : decode cX2_isAllTrue 12 = .ok (.invokevirtual 131, 3) := by decide +kernel
theorem dX2_isAllTrue_15 : decode cX2_isAllTrue 15 = .ok (.ifCond .ne 5, 3) := by decide +kernel
theorem dX2_isAllTrue_18 : decode cX2_isAllTrue 18 = .ok (.iconst 0, 1) := by decide +kernel
theorem dX2_isAllTrue_19 : decode cX2_isAllTrue 19 = .ok (.ireturn, 1) := by decide +kernel
theorem dX2_isAllTrue_20 : decode cX2_isAllTrue 20 = .ok (.iinc 1 1, 3) := by decide +kernel
theorem dX2_isAllTrue_23 : decode cX2_isAllTrue 23 = .ok (.goto (-21), 3) := by decide +kernel
theorem dX2_isAllTrue_26 : decode cX2_isAllTrue 26 = .ok (.iconst 1, 1) := by decide +kernel
theorem dX2_isAllTrue_27 : decode cX2_isAllTrue 27 = .ok (.ireturn, 1) := by decide +kernel
theorem dX3_init_0 : decode cX3_init 0 = .ok (.aload_n 0, 1) := by decide +kernel
theorem dX3_init_1 : decode cX3_init 1 = .ok (.invokespecial 1, 3) := by decide +kernel
theorem dX3_init_4 : decode cX3_init 4 = .ok (.aload_n 0, 1) := by decide +kernel
theorem dX3_init_5 : decode cX3_init 5 = .ok (.bipush 12, 2) := by decide +kernel
theorem dX3_init_7 : decode cX3_init 7 = .ok (.newarray .int, 2) := by decide +kernel
theorem dX3_init_9 : decode cX3_init 9 = .ok (.putfield 9, 3) := by decide +kernel
theorem dX3_init_12 : decode cX3_init 12 = .ok (.aload_n 0, 1) := by decide +kernel
theorem dX3_init_13 : decode cX3_init 13 = .ok (.iconst 0, 1) := by decide +kernel
theorem dX3_init_14 : decode cX3_init 14 = .ok (.putfield 13, 3) := by decide +kernel
theorem dX3_init_17 : decode cX3_init 17 = .ok (.aload_n 0, 1) := by decide +kernel
theorem dX3_init_18 : decode cX3_init 18 = .ok (.iconst 5, 1) := by decide +kernel
theorem dX3_init_19 : decode cX3_init 19 = .ok (.anewarray 17, 3) := by decide +kernel
theorem dX3_init_22 : decode cX3_init 22 = .ok (.putfield 19, 3) := by decide +kernel
theorem dX3_init_25 : decode cX3_init 25 = .ok (.aload_n 0, 1) := by decide +kernel
theorem dX3_init_26 : decode cX3_init 26 = .ok (.iconst 0, 1) := by decide +kernel
theorem dX3_init_27 : decode cX3_init 27 = .ok (.putfield 23, 3) := by decide +kernel
theorem dX3_init_30 : decode cX3_init 30 = .ok (.aload_n 0, 1) := by decide +kernel
theorem dX3_init_31 : decode cX3_init 31 = .ok (.new 26, 3) := by decide +kernel
theorem dX3_init_34 : decode cX3_init 34 = .ok (.dup, 1) := by decide +kernel
theorem dX3_init_35 : decode cX3_init 35 = .ok (.invokespecial 28, 3) := by decide +kernel
theorem dX3_init_38 : decode cX3_init 38 = .ok (.putfield 29, 3) := by decide +kernel
theorem dX3_init_41 : decode cX3_init 41 = .ok (.aload_n 0, 1) := by decide +kernel
theorem dX3_init_42 : decode cX3_init 42 = .ok (.bipush 20, 2) := by decide +kernel
theorem dX3_init_44 : decode cX3_init 44 = .ok (.anewarray 33, 3) := by decide +kernel
theorem dX3_init_47 : decode cX3_init 47 = .ok (.putfield 35, 3) := by decide +kernel
theorem dX3_init_50 : decode cX3_init 50 = .ok (.aload_n 0, 1) := by decide +kernel
theorem dX3_init_51 : decode cX3_init 51 = .ok (.iconst 0, 1) := by decide +kernel
theorem dX3_init_52 : decode cX3_init 52 = .ok (.putfield 39, 3) := by decide +kernel
theorem dX3_init_55 : decode cX3_init 55 = .ok (.aload_n 0, 1) := by decide +kernel
theorem dX3_init_56 : decode cX3_init 56 = .ok (.bipush 20, 2) := by decide +kernel
theorem dX3_init_58 : decode cX3_init 58 = .ok (.newarray .int, 2) := by decide +kernel
theorem dX3_init_60 : decode cX3_init 60 = .ok (.putfield 42, 3) := by decide +kernel
theorem dX3_init_63 : decode cX3_init 63 = .ok (.return_, 1) := by decide +kernel
theorem dX3_type_0 : decode cX3_type 0 = .ok (.iload_n 1, 1) := by decide +kernel
theorem dX3_type_1 : decode cX3_type 1 = .ok (.invokestatic 45, 3) := by decide +kernel
theorem dX3_type_4 : decode cX3_type 4 = .ok (.istore_n 2, 1) := by decide +kernel
theorem dX3_type_5 : decode cX3_type 5 = .ok (.iload_n 2, 1) := by decide +kernel
theorem dX3_type_6 : decode cX3_type 6 = .ok (.iconst (-1), 1) := by decide +kernel
theorem dX3_type_7 : decode cX3_type 7 = .ok (.if_icmp .ne 13, 3) := by decide +kernel
theorem dX3_type_10 : decode cX3_type 10 = .ok (.new 49, 3) := by decide +kernel
theorem dX3_type_13 : decode cX3_type 13 = .ok (.dup, 1) := by decide +kernel
theorem dX3_type_14 : decode cX3_type 14 = .ok (.ldc 51, 2) := by decide +kernel
theorem dX3_type_16 : decode cX3_type 16 = .ok (.invokespecial 53, 3) := by decide +kernel
theorem dX3_type_19 : decode cX3_type 19 = .ok (.athrow, 1) := by decide +kernel
theorem dX3_type_20 : decode cX3_type 20 = .ok (.aload_n 0, 1) := by decide +kernel
theorem dX3_type_21 : decode cX3_type 21 = .ok (.getfield 13, 3) := by decide +kernel
theorem dX3_type_24 : decode cX3_type 24 = .ok (.bipush 12, 2) := by decide +kernel
theorem dX3_type_26 : decode cX3_type 26 = .ok (.if_icmp .lt 13, 3) := by decide +kernel
theorem dX3_type_29 : decode cX3_type 29 = .ok (.new 56, 3) := by decide +kernel
theorem dX3_type_32 : decode cX3_type 32 = .ok (.dup, 1) := by decide +kernel
theorem dX3_type_33 : decode cX3_type 33 = .ok (.ldc 58, 2) := by decide +kernel
theorem dX3_type_35 : decode cX3_type 35 = .ok (.invokespecial 60, 3) := by decide +kernel
theorem dX3_type_38 : decode cX3_type 38 = .ok (.athrow, 1) := by decide +kernel
theorem dX3_type_39 : decode cX3_type 39 = .ok (.aload_n 0, 1) := by decide +kernel
theorem dX3_type_40 : decode cX3_type 40 = .ok (.getfield 9, 3) := by decide +kernel
theorem dX3_type_43 : decode cX3_type 43 = .ok (.aload_n 0, 1) := by decide +kernel
theorem dX3_type_44 : decode cX3_type 44 = .ok (.getfield 13, 3) := by decide +kernel
theorem dX3_type_47 : decode cX3_type 47 = .ok (.iload_n 2, 1) := by decide +kernel
theorem dX3_type_48 : decode cX3_type 48 = .ok (.invokestatic 61, 3) := by decide +kernel
theorem dX3_type_51 : decode cX3_type 51 = .ok (.aload_n 0, 1) := by decide +kernel
theorem dX3_type_52 : decode cX3_type 52 = .ok (.dup, 1) := by decide +kernel
theorem dX3_type_53 : decode cX3_type 53 = .ok (.getfield 13, 3) := by decide +kernel
theorem dX3_type_56 : decode cX3_type 56 = .ok (.iconst 1, 1) := by decide +kernel
theorem dX3_type_57 : decode cX3_type 57 = .ok (.iadd, 1) := by decide +kernel
theorem dX3_type_58 : decode cX3_type 58 = .ok (.putfield 13, 3) := by decide +kernel
theorem dX3_type_61 : decode cX3_type 61 = .ok (.aload_n 0, 1) := by decide +kernel
theorem dX3_type_62 : decode cX3_type 62 = .ok (.getfield 13, 3) := by decide +kernel
theorem dX3_type_65 : decode cX3_type 65 = .ok (.ireturn, 1) := by decide +kernel
theorem dX3_empty_0 : decode cX3_empty 0 = .ok (.aload_n 0, 1) := by decide +kernel
theorem dX3_empty_1 : decode cX3_empty 1 = .ok (.getfield 13, 3) := by decide +kernel
theorem dX3_empty_4 : decode cX3_empty 4 = .ok (.istore_n 1, 1) := by decide +kernel
theorem dX3_empty_5 : decode cX3_empty 5 = .ok (.aload_n 0, 1) := by decide +kernel
theorem dX3_empty_6 : decode cX3_empty 6 = .ok (.iconst 0, 1) := by decide +kernel
theorem dX3_empty_7 : decode cX3_empty 7 = .ok (.putfield 13, 3) := by decide +kernel
theorem dX3_empty_10 : decode cX3_empty 10 = .ok (.iload_n 1, 1) := by decide +kernel
theorem dX3_empty_11 : decode cX3_empty 11 = .ok (.ireturn, 1) := by decide +kernel
theorem dX3_cartoon_0 : decode cX3_cartoon 0 = .ok (.iload_n 1, 1) := by decide +kernel
theorem dX3_cartoon_1 : decode cX3_cartoon 1 = .ok (.iconst 2, 1) := by decide +kernel
theorem dX3_cartoon_2 : decode cX3_cartoon 2 = .ok (.if_icmp .lt 9, 3) := by decide +kernel
theorem dX3_cartoon_5 : decode cX3_cartoon 5 = .ok (.iload_n 1, 1) := by decide +kernel
theorem dX3_cartoon_6 : decode cX3_cartoon 6 = .ok (.bipush 12, 2) := by decide +kernel
theorem dX3_cartoon_8 : decode cX3_cartoon 8 = .ok (.if_icmp .le 13, 3) := by decide +kernel
theorem dX3_cartoon_11 : decode cX3_cartoon 11 = .ok (.new 49, 3) := by decide +kernel
theorem dX3_cartoon_14 : decode cX3_cartoon 14 = .ok (.dup, 1) := by decide +kernel
theorem dX3_cartoon_15 : decode cX3_cartoon 15 = .ok (.ldc 65, 2) := by decide +kernel
theorem dX3_cartoon_17 : decode cX3_cartoon 17 = .ok (.invokespecial 53, 3) := by decide +kernel
theorem dX3_cartoon_20 : decode cX3_cartoon 20 = .ok (.athrow, 1) := by decide +kernel
theorem dX3_cartoon_21 : decode cX3_cartoon 21 = .ok (.aload_n 0, 1) := by decide +kernel
theorem dX3_cartoon_22 : decode cX3_cartoon 22 = .ok (.getfield 23, 3) := by decide +kernel
theorem dX3_cartoon_25 : decode cX3_cartoon 25 = .ok (.ifCond .lt 15, 3) := by decide +kernel
theorem dX3_cartoon_28 : decode cX3_cartoon 28 = .ok (.aload_n 0, 1) := by decide +kernel
theorem dX3_cartoon_29 : decode cX3_cartoon 29 = .ok (.getfield 23, 3) := by decide +kernel
theorem dX3_cartoon_32 : decode cX3_cartoon 32 = .ok (.aload_n 0, 1) := by decide +kernel
theorem dX3_cartoon_33 : decode cX3_cartoon 33 = .ok (.getfield 19, 3) := by decide +kernel
theorem dX3_cartoon_36 : decode cX3_cartoon 36 = .ok (.arraylength, 1) := by decide +kernel
theorem dX3_cartoon_37 : decode cX3_cartoon 37 = .ok (.if_icmp .lt 13, 3) := by decide +kernel
theorem dX3_cartoon_40 : decode cX3_cartoon 40 = .ok (.new 56, 3) := by decide +kernel
theorem dX3_cartoon_43 : decode cX3_cartoon 43 = .ok (.dup, 1) := by decide +kernel
theorem dX3_cartoon_44 : decode cX3_cartoon 44 = .ok (.ldc 67, 2) := by decide +kernel
theorem dX3_cartoon_46 : decode cX3_cartoon 46 = .ok (.invokespecial 60, 3) := by decide +kernel
theorem dX3_cartoon_49 : decode cX3_cartoon 49 = .ok (.athrow, 1) := by decide +kernel
theorem dX3_cartoon_50 : decode cX3_cartoon 50 = .ok (.aload_n 0, 1) := by decide +kernel
theorem dX3_cartoon_51 : decode cX3_cartoon 51 = .ok (.getfield 23, 3) := by decide +kernel
theorem dX3_cartoon_54 : decode cX3_cartoon 54 = .ok (.istore_n 2, 1) := by decide +kernel
theorem dX3_cartoon_55 : decode cX3_cartoon 55 = .ok (.aload_n 0, 1) := by decide +kernel
theorem dX3_cartoon_56 : decode cX3_cartoon 56 = .ok (.getfield 19, 3) := by decide +kernel
theorem dX3_cartoon_59 : decode cX3_cartoon 59 = .ok (.iload_n 2, 1) := by decide +kernel
theorem dX3_cartoon_60 : decode cX3_cartoon 60 = .ok (.new 17, 3) := by decide +kernel
theorem dX3_cartoon_63 : decode cX3_cartoon 63 = .ok (.dup, 1) := by decide +kernel
theorem dX3_cartoon_64 : decode cX3_cartoon 64 = .ok (.iload_n 1, 1) := by decide +kernel
theorem dX3_cartoon_65 : decode cX3_cartoon 65 = .ok (.invokespecial 69, 3) := by decide +kernel
theorem dX3_cartoon_68 : decode cX3_cartoon 68 = .ok (.aastore, 1) := by decide +kernel
theorem dX3_cartoon_69 : decode cX3_cartoon 69 = .ok (.aload_n 0, 1) := by decide +kernel
theorem dX3_cartoon_70 : decode cX3_cartoon 70 = .ok (.dup, 1) := by decide +kernel
theorem dX3_cartoon_71 : decode cX3_cartoon 71 = .ok (.getfield 23, 3) := by decide +kernel
theorem dX3_cartoon_74 : decode cX3_cartoon 74 = .ok (.iconst 1, 1) := by decide +kernel
theorem dX3_cartoon_75 : decode cX3_cartoon 75 = .ok (.iadd, 1) := by decide +kernel
theorem dX3_cartoon_76 : decode cX3_cartoon 76 = .ok (.putfield 23, 3) := by decide +kernel
theorem dX3_cartoon_79 : decode cX3_cartoon 79 = .ok (.iload_n 2, 1) := by decide +kernel
theorem dX3_cartoon_80 : decode cX3_cartoon 80 = .ok (.ireturn, 1) := by decide +kernel
theorem dX3_row_0 : decode cX3_row 0 = .ok (.aload_n 0, 1) := by decide +kernel
theorem dX3_row_1 : decode cX3_row 1 = .ok (.iload_n 1, 1) := by decide +kernel
theorem dX3_row_2 : decode cX3_row 2 = .ok (.invokevirtual 72, 3) := by decide +kernel
theorem dX3_row_5 : decode cX3_row 5 = .ok (.astore_n 2, 1) := by decide +kernel
theorem dX3_row_6 : decode cX3_row 6 = .ok (.aload_n 0, 1) := by decide +kernel
theorem dX3_row_7 : decode cX3_row 7 = .ok (.getfield 13, 3) := by decide +kernel
theorem dX3_row_10 : decode cX3_row 10 = .ok (.aload_n 2, 1) := by decide +kernel
theorem dX3_row_11 : decode cX3_row 11 = .ok (.invokevirtual 76, 3) := by decide +kernel
theorem dX3_row_14 : decode cX3_row 14 = .ok (.if_icmp .eq 13, 3) := by decide +kernel
theorem dX3_row_17 : decode cX3_row 17 = .ok (.new 56, 3) := by decide +kernel
theorem dX3_row_20 : decode cX3_row 20 = .ok (.dup, 1) := by decide +kernel
theorem dX3_row_21 : decode cX3_row 21 = .ok (.ldc 80, 2) := by decide +kernel
theorem dX3_row_23 : decode cX3_row 23 = .ok (.invokespecial 60, 3) := by decide +kernel
theorem dX3_row_26 : decode cX3_row 26 = .ok (.athrow, 1) := by decide +kernel
theorem dX3_row_27 : decode cX3_row 27 = .ok (.aload_n 2, 1) := by decide +kernel
theorem dX3_row_28 : decode cX3_row 28 = .ok (.invokevirtual 82, 3) := by decide +kernel
theorem dX3_row_31 : decode cX3_row 31 = .ok (.bipush 10, 2) := by decide +kernel
theorem dX3_row_33 : decode cX3_row 33 = .ok (.if_icmp .lt 13, 3) := by decide +kernel
theorem dX3_row_36 : decode cX3_row 36 = .ok (.new 56, 3) := by decide +kernel
theorem dX3_row_39 : decode cX3_row 39 = .ok (.dup, 1) := by decide +kernel
theorem dX3_row_40 : decode cX3_row 40 = .ok (.ldc 85, 2) := by decide +kernel
theorem dX3_row_42 : decode cX3_row 42 = .ok (.invokespecial 60, 3) := by decide +kernel
theorem dX3_row_45 : decode cX3_row 45 = .ok (.athrow, 1) := by decide +kernel
theorem dX3_row_46 : decode cX3_row 46 = .ok (.aload_n 2, 1) := by decide +kernel
theorem dX3_row_47 : decode cX3_row 47 = .ok (.aload_n 0, 1) := by decide +kernel
theorem dX3_row_48 : decode cX3_row 48 = .ok (.getfield 9, 3) := by decide +kernel
theorem dX3_row_51 : decode cX3_row 51 = .ok (.invokevirtual 87, 3) := by decide +kernel
theorem dX3_row_54 : decode cX3_row 54 = .ok (.aload_n 0, 1) := by decide +kernel
theorem dX3_row_55 : decode cX3_row 55 = .ok (.iconst 0, 1) := by decide +kernel
theorem dX3_row_56 : decode cX3_row 56 = .ok (.putfield 13, 3) := by decide +kernel
theorem dX3_row_59 : decode cX3_row 59 = .ok (.aload_n 2, 1) := by decide +kernel
theorem dX3_row_60 : decode cX3_row 60 = .ok (.invokevirtual 82, 3) := by decide +kernel
theorem dX3_row_63 : decode cX3_row 63 = .ok (.ireturn, 1) := by decide +kernel
theorem dX3_hatch_0 : decode cX3_hatch 0 = .ok (.aload_n 0, 1) := by decide +kernel
theorem dX3_hatch_1 : decode cX3_hatch 1 = .ok (.iload_n 1, 1) := by decide +kernel
theorem dX3_hatch_2 : decode cX3_hatch 2 = .ok (.invokevirtual 72, 3) := by decide +kernel
theorem dX3_hatch_5 : decode cX3_hatch 5 = .ok (.astore 4, 2) := by decide +kernel
theorem dX3_hatch_7 : decode cX3_hatch 7 = .ok (.iload_n 2, 1) := by decide +kernel
theorem dX3_hatch_8 : decode cX3_hatch 8 = .ok (.invokestatic 91, 3) := by decide +kernel
theorem dX3_hatch_11 : decode cX3_hatch 11 = .ok (.iload_n 3, 1) := by decide +kernel
theorem dX3_hatch_12 : decode cX3_hatch 12 = .ok (.invokestatic 91, 3) := by decide +kernel
theorem dX3_hatch_15 : decode cX3_hatch 15 = .ok (.aload 4, 2) := by decide +kernel
theorem dX3_hatch_17 : decode cX3_hatch 17 = .ok (.iload_n 2, 1) := by decide +kernel
theorem dX3_hatch_18 : decode cX3_hatch 18 = .ok (.iload_n 3, 1) := by decide +kernel
theorem dX3_hatch_19 : decode cX3_hatch 19 = .ok (.invokevirtual 94, 3) := by decide +kernel
theorem dX3_hatch_22 : decode cX3_hatch 22 = .ok (.return_, 1) := by decide +kernel
theorem dX3_dye_0 : decode cX3_dye 0 = .ok (.iload_n 1, 1) := by decide +kernel
theorem dX3_dye_1 : decode cX3_dye 1 = .ok (.invokestatic 91, 3) := by decide +kernel
theorem dX3_dye_4 : decode cX3_dye 4 = .ok (.iload_n 2, 1) := by decide +kernel
theorem dX3_dye_5 : decode cX3_dye 5 = .ok (.iconst 1, 1) := by decide +kernel
theorem dX3_dye_6 : decode cX3_dye 6 = .ok (.if_icmp .lt 10, 3) := by decide +kernel
theorem dX3_dye_9 : decode cX3_dye 9 = .ok (.iload_n 2, 1) := by decide +kernel
theorem dX3_dye_10 : decode cX3_dye 10 = .ok (.sipush 999, 3) := by decide +kernel
theorem dX3_dye_13 : decode cX3_dye 13 = .ok (.if_icmp .le 13, 3) := by decide +kernel
theorem dX3_dye_16 : decode cX3_dye 16 = .ok (.new 49, 3) := by decide +kernel
theorem dX3_dye_19 : decode cX3_dye 19 = .ok (.dup, 1) := by decide +kernel
theorem dX3_dye_20 : decode cX3_dye 20 = .ok (.ldc 98, 2) := by decide +kernel
theorem dX3_dye_22 : decode cX3_dye 22 = .ok (.invokespecial 53, 3) := by decide +kernel
theorem dX3_dye_25 : decode cX3_dye 25 = .ok (.athrow, 1) := by decide +kernel
theorem dX3_dye_26 : decode cX3_dye 26 = .ok (.iload_n 3, 1) := by decide +kernel
theorem dX3_dye_27 : decode cX3_dye 27 = .ok (.ifCond .lt 9, 3) := by decide +kernel
theorem dX3_dye_30 : decode cX3_dye 30 = .ok (.iload_n 3, 1) := by decide +kernel
theorem dX3_dye_31 : decode cX3_dye 31 = .ok (.bipush 9, 2) := by decide +kernel
theorem dX3_dye_33 : decode cX3_dye 33 = .ok (.if_icmp .le 13, 3) := by decide +kernel
theorem dX3_dye_36 : decode cX3_dye 36 = .ok (.new 49, 3) := by decide +kernel
theorem dX3_dye_39 : decode cX3_dye 39 = .ok (.dup, 1) := by decide +kernel
theorem dX3_dye_40 : decode cX3_dye 40 = .ok (.ldc 100, 2) := by decide +kernel
theorem dX3_dye_42 : decode cX3_dye 42 = .ok (.invokespecial 53, 3) := by decide +kernel
theorem dX3_dye_45 : decode cX3_dye 45 = .ok (.athrow, 1) := by decide +kernel
theorem dX3_dye_46 : decode cX3_dye 46 = .ok (.aload_n 0, 1) := by decide +kernel
theorem dX3_dye_47 : decode cX3_dye 47 = .ok (.getfield 29, 3) := by decide +kernel
theorem dX3_dye_50 : decode cX3_dye 50 = .ok (.invokevirtual 102, 3) := by decide +kernel
theorem dX3_dye_53 : decode cX3_dye 53 = .ok (.bipush 20, 2) := by decide +kernel
theorem dX3_dye_55 : decode cX3_dye 55 = .ok (.if_icmp .lt 13, 3) := by decide +kernel
theorem dX3_dye_58 : decode cX3_dye 58 = .ok (.new 56, 3) := by decide +kernel
theorem dX3_dye_61 : decode cX3_dye 61 = .ok (.dup, 1) := by decide +kernel
theorem dX3_dye_62 : decode cX3_dye 62 = .ok (.ldc 105, 2) := by decide +kernel
theorem dX3_dye_64 : decode cX3_dye 64 = .ok (.invokespecial 60, 3) := by decide +kernel
theorem dX3_dye_67 : decode cX3_dye 67 = .ok (.athrow, 1) := by decide +kernel
theorem dX3_dye_68 : decode cX3_dye 68 = .ok (.aload_n 0, 1) := by decide +kernel
theorem dX3_dye_69 : decode cX3_dye 69 = .ok (.getfield 29, 3) := by decide +kernel
theorem dX3_dye_72 : decode cX3_dye 72 = .ok (.iload_n 1, 1) := by decide +kernel
theorem dX3_dye_73 : decode cX3_dye 73 = .ok (.iload_n 2, 1) := by decide +kernel
theorem dX3_dye_74 : decode cX3_dye 74 = .ok (.iload_n 3, 1) := by decide +kernel
theorem dX3_dye_75 : decode cX3_dye 75 = .ok (.iload 4, 2) := by decide +kernel
theorem dX3_dye_77 : decode cX3_dye 77 = .ok (.invokevirtual 107, 3) := by decide +kernel
theorem dX3_dye_80 : decode cX3_dye 80 = .ok (.ireturn, 1) := by decide +kernel
theorem dX3_left_0 : decode cX3_left 0 = .ok (.iload_n 1, 1) := by decide +kernel
theorem dX3_left_1 : decode cX3_left 1 = .ok (.ifCond .lt 14, 3) := by decide +kernel
theorem dX3_left_4 : decode cX3_left 4 = .ok (.iload_n 1, 1) := by decide +kernel
theorem dX3_left_5 : decode cX3_left 5 = .ok (.aload_n 0, 1) := by decide +kernel
theorem dX3_left_6 : decode cX3_left 6 = .ok (.getfield 29, 3) := by decide +kernel
theorem dX3_left_9 : decode cX3_left 9 = .ok (.invokevirtual 102, 3) := by decide +kernel
theorem dX3_left_12 : decode cX3_left 12 = .ok (.if_icmp .lt 13, 3) := by decide +kernel
theorem dX3_left_15 : decode cX3_left 15 = .ok (.new 111, 3) := by decide +kernel
theorem dX3_left_18 : decode cX3_left 18 = .ok (.dup, 1) := by decide +kernel
theorem dX3_left_19 : decode cX3_left 19 = .ok (.ldc 113, 2) := by decide +kernel
theorem dX3_left_21 : decode cX3_left 21 = .ok (.invokespecial 115, 3) := by decide +kernel
theorem dX3_left_24 : decode cX3_left 24 = .ok (.athrow, 1) := by decide +kernel
theorem dX3_left_25 : decode cX3_left 25 = .ok (.aload_n 0, 1) := by decide +kernel
theorem dX3_left_26 : decode cX3_left 26 = .ok (.getfield 29, 3) := by decide +kernel
theorem dX3_left_29 : decode cX3_left 29 = .ok (.iload_n 1, 1) := by decide +kernel
theorem dX3_left_30 : decode cX3_left 30 = .ok (.invokevirtual 116, 3) := by decide +kernel
theorem dX3_left_33 : decode cX3_left 33 = .ok (.ireturn, 1) := by decide +kernel
theorem dX3_gold_0 : decode cX3_gold 0 = .ok (.iconst 0, 1) := by decide +kernel
theorem dX3_gold_1 : decode cX3_gold 1 = .ok (.istore_n 1, 1) := by decide +kernel
theorem dX3_gold_2 : decode cX3_gold 2 = .ok (.iconst 0, 1) := by decide +kernel
theorem dX3_gold_3 : decode cX3_gold 3 = .ok (.istore_n 2, 1) := by decide +kernel
theorem dX3_gold_4 : decode cX3_gold 4 = .ok (.iload_n 2, 1) := by decide +kernel
theorem dX3_gold_5 : decode cX3_gold 5 = .ok (.aload_n 0, 1) := by decide +kernel
theorem dX3_gold_6 : decode cX3_gold 6 = .ok (.getfield 35, 3) := by decide +kernel
theorem dX3_gold_9 : decode cX3_gold 9 = .ok (.arraylength, 1) := by decide +kernel
theorem dX3_gold_10 : decode cX3_gold 10 = .ok (.if_icmp .ge 28, 3) := by decide +kernel
theorem dX3_gold_13 : decode cX3_gold 13 = .ok (.aload_n 0, 1) := by decide +kernel
theorem dX3_gold_14 : decode cX3_gold 14 = .ok (.getfield 35, 3) := by decide +kernel
theorem dX3_gold_17 : decode cX3_gold 17 = .ok (.iload_n 2, 1) := by decide +kernel
theorem dX3_gold_18 : decode cX3_gold 18 = .ok (.aaload, 1) := by decide +kernel
theorem dX3_gold_19 : decode cX3_gold 19 = .ok (.astore_n 3, 1) := by decide +kernel
theorem dX3_gold_20 : decode cX3_gold 20 = .ok (.aload_n 3, 1) := by decide +kernel
theorem dX3_gold_21 : decode cX3_gold 21 = .ok (.ifnull 11, 3) := by decide +kernel
theorem dX3_gold_24 : decode cX3_gold 24 = .ok (.iload_n 1, 1) := by decide +kernel
theorem dX3_gold_25 : decode cX3_gold 25 = .ok (.aload_n 3, 1) := by decide +kernel
theorem dX3_gold_26 : decode cX3_gold 26 = .ok (.iconst 5, 1) := by decide +kernel
theorem dX3_gold_27 : decode cX3_gold 27 = .ok (.invokevirtual 120, 3) := by decide +kernel
theorem dX3_gold_30 : decode cX3_gold 30 = .ok (.iadd, 1) := by decide +kernel
theorem dX3_gold_31 : decode cX3_gold 31 = .ok (.istore_n 1, 1) := by decide +kernel
theorem dX3_gold_32 : decode cX3_gold 32 = .ok (.iinc 2 1, 3) := by decide +kernel
theorem dX3_gold_35 : decode cX3_gold 35 = .ok (.goto (-31), 3) := by decide +kernel
theorem dX3_gold_38 : decode cX3_gold 38 = .ok (.iload_n 1, 1) := by decide +kernel
theorem dX3_gold_39 : decode cX3_gold 39 = .ok (.ireturn, 1) := by decide +kernel
theorem dX3_loom_0 : decode cX3_loom 0 = .ok (.aload_n 0, 1) := by decide +kernel
theorem dX3_loom_1 : decode cX3_loom 1 = .ok (.iload_n 1, 1) := by decide +kernel
theorem dX3_loom_2 : decode cX3_loom 2 = .ok (.invokevirtual 72, 3) := by decide +kernel
theorem dX3_loom_5 : decode cX3_loom 5 = .ok (.astore 4, 2) := by decide +kernel
theorem dX3_loom_7 : decode cX3_loom 7 = .ok (.iload_n 2, 1) := by decide +kernel
theorem dX3_loom_8 : decode cX3_loom 8 = .ok (.iconst 1, 1) := by decide +kernel
theorem dX3_loom_9 : decode cX3_loom 9 = .ok (.if_icmp .lt 17, 3) := by decide +kernel
theorem dX3_loom_12 : decode cX3_loom 12 = .ok (.iload_n 2, 1) := by decide +kernel
theorem dX3_loom_13 : decode cX3_loom 13 = .ok (.iconst 4, 1) := by decide +kernel
theorem dX3_loom_14 : decode cX3_loom 14 = .ok (.if_icmp .gt 12, 3) := by decide +kernel
theorem dX3_loom_17 : decode cX3_loom 17 = .ok (.iload_n 2, 1) := by decide +kernel
theorem dX3_loom_18 : decode cX3_loom 18 = .ok (.aload 4, 2) := by decide +kernel
theorem dX3_loom_20 : decode cX3_loom 20 = .ok (.invokevirtual 76, 3) := by decide +kernel
theorem dX3_loom_23 : decode cX3_loom 23 = .ok (.if_icmp .le 13, 3) := by decide +kernel
theorem dX3_loom_26 : decode cX3_loom 26 = .ok (.new 49, 3) := by decide +kernel
theorem dX3_loom_29 : decode cX3_loom 29 = .ok (.dup, 1) := by decide +kernel
theorem dX3_loom_30 : decode cX3_loom 30 = .ok (.ldc 123, 2) := by decide +kernel
theorem dX3_loom_32 : decode cX3_loom 32 = .ok (.invokespecial 53, 3) := by decide +kernel
theorem dX3_loom_35 : decode cX3_loom 35 = .ok (.athrow, 1) := by decide +kernel
theorem dX3_loom_36 : decode cX3_loom 36 = .ok (.aload 4, 2) := by decide +kernel
theorem dX3_loom_38 : decode cX3_loom 38 = .ok (.invokevirtual 82, 3) := by decide +kernel
theorem dX3_loom_41 : decode cX3_loom 41 = .ok (.iconst 1, 1) := by decide +kernel
theorem dX3_loom_42 : decode cX3_loom 42 = .ok (.if_icmp .ge 13, 3) := by decide +kernel
theorem dX3_loom_45 : decode cX3_loom 45 = .ok (.new 56, 3) := by decide +kernel
theorem dX3_loom_48 : decode cX3_loom 48 = .ok (.dup, 1) := by decide +kernel
theorem dX3_loom_49 : decode cX3_loom 49 = .ok (.ldc 125, 2) := by decide +kernel
theorem dX3_loom_51 : decode cX3_loom 51 = .ok (.invokespecial 60, 3) := by decide +kernel
theorem dX3_loom_54 : decode cX3_loom 54 = .ok (.athrow, 1) := by decide +kernel
theorem dX3_loom_55 : decode cX3_loom 55 = .ok (.aload_n 0, 1) := by decide +kernel
theorem dX3_loom_56 : decode cX3_loom 56 = .ok (.invokevirtual 127, 3) := by decide +kernel
theorem dX3_loom_59 : decode cX3_loom 59 = .ok (.new 33, 3) := by decide +kernel
theorem dX3_loom_62 : decode cX3_loom 62 = .ok (.dup, 1) := by decide +kernel
theorem dX3_loom_63 : decode cX3_loom 63 = .ok (.aload 4, 2) := by decide +kernel
theorem dX3_loom_65 : decode cX3_loom 65 = .ok (.invokevirtual 82, 3) := by decide +kernel
theorem dX3_loom_68 : decode cX3_loom 68 = .ok (.iload_n 2, 1) := by decide +kernel
theorem dX3_loom_69 : decode cX3_loom 69 = .ok (.invokespecial 130, 3) := by decide +kernel
theorem dX3_loom_72 : decode cX3_loom 72 = .ok (.astore 5, 2) := by decide +kernel
theorem dX3_loom_74 : decode cX3_loom 74 = .ok (.aload 5, 2) := by decide +kernel
theorem dX3_loom_76 : decode cX3_loom 76 = .ok (.aload 4, 2) := by decide +kernel
theorem dX3_loom_78 : decode cX3_loom 78 = .ok (.iload_n 3, 1) := by decide +kernel
theorem dX3_loom_79 : decode cX3_loom 79 = .ok (.aload_n 0, 1) := by decide +kernel
theorem dX3_loom_80 : decode cX3_loom 80 = .ok (.getfield 39, 3) := by decide +kernel
theorem dX3_loom_83 : decode cX3_loom 83 = .ok (.invokevirtual 132, 3) := by decide +kernel
theorem dX3_loom_86 : decode cX3_loom 86 = .ok (.aload_n 0, 1) := by decide +kernel
theorem dX3_loom_87 : decode cX3_loom 87 = .ok (.aload 5, 2) := by decide +kernel
theorem dX3_loom_89 : decode cX3_loom 89 = .ok (.invokevirtual 136, 3) := by decide +kernel
theorem dX3_loom_92 : decode cX3_loom 92 = .ok (.ireturn, 1) := by decide +kernel
theorem dX3_weave_0 : decode cX3_weave 0 = .ok (.aload_n 0, 1) := by decide +kernel
theorem dX3_weave_1 : decode cX3_weave 1 = .ok (.iload_n 1, 1) := by decide +kernel
theorem dX3_weave_2 : decode cX3_weave 2 = .ok (.invokevirtual 140, 3) := by decide +kernel
theorem dX3_weave_5 : decode cX3_weave 5 = .ok (.astore_n 3, 1) := by decide +kernel
theorem dX3_weave_6 : decode cX3_weave 6 = .ok (.iload_n 2, 1) := by decide +kernel
theorem dX3_weave_7 : decode cX3_weave 7 = .ok (.ifCond .lt 11, 3) := by decide +kernel
theorem dX3_weave_10 : decode cX3_weave 10 = .ok (.iload_n 2, 1) := by decide +kernel
theorem dX3_weave_11 : decode cX3_weave 11 = .ok (.aload_n 3, 1) := by decide +kernel
theorem dX3_weave_12 : decode cX3_weave 12 = .ok (.invokevirtual 144, 3) := by decide +kernel
theorem dX3_weave_15 : decode cX3_weave 15 = .ok (.if_icmp .lt 13, 3) := by decide +kernel
theorem dX3_weave_18 : decode cX3_weave 18 = .ok (.new 111, 3) := by decide +kernel
theorem dX3_weave_21 : decode cX3_weave 21 = .ok (.dup, 1) := by decide +kernel
theorem dX3_weave_22 : decode cX3_weave 22 = .ok (.ldc 147, 2) := by decide +kernel
theorem dX3_weave_24 : decode cX3_weave 24 = .ok (.invokespecial 115, 3) := by decide +kernel
theorem dX3_weave_27 : decode cX3_weave 27 = .ok (.athrow, 1) := by decide +kernel
theorem dX3_weave_28 : decode cX3_weave 28 = .ok (.aload_n 3, 1) := by decide +kernel
theorem dX3_weave_29 : decode cX3_weave 29 = .ok (.iload_n 2, 1) := by decide +kernel
theorem dX3_weave_30 : decode cX3_weave 30 = .ok (.invokevirtual 149, 3) := by decide +kernel
theorem dX3_weave_33 : decode cX3_weave 33 = .ok (.ifCond .eq 13, 3) := by decide +kernel
theorem dX3_weave_36 : decode cX3_weave 36 = .ok (.new 56, 3) := by decide +kernel
theorem dX3_weave_39 : decode cX3_weave 39 = .ok (.dup, 1) := by decide +kernel
theorem dX3_weave_40 : decode cX3_weave 40 = .ok (.ldc 153, 2) := by decide +kernel
theorem dX3_weave_42 : decode cX3_weave 42 = .ok (.invokespecial 60, 3) := by decide +kernel
theorem dX3_weave_45 : decode cX3_weave 45 = .ok (.athrow, 1) := by decide +kernel
theorem dX3_weave_46 : decode cX3_weave 46 = .ok (.aload_n 3, 1) := by decide +kernel
theorem dX3_weave_47 : decode cX3_weave 47 = .ok (.iload_n 2, 1) := by decide +kernel
theorem dX3_weave_48 : decode cX3_weave 48 = .ok (.invokevirtual 155, 3) := by decide +kernel
theorem dX3_weave_51 : decode cX3_weave 51 = .ok (.ifCond .eq 13, 3) := by decide +kernel
theorem dX3_weave_54 : decode cX3_weave 54 = .ok (.new 56, 3) := by decide +kernel
theorem dX3_weave_57 : decode cX3_weave 57 = .ok (.dup, 1) := by decide +kernel
theorem dX3_weave_58 : decode cX3_weave 58 = .ok (.ldc 158, 2) := by decide +kernel
theorem dX3_weave_60 : decode cX3_weave 60 = .ok (.invokespecial 60, 3) := by decide +kernel
theorem dX3_weave_63 : decode cX3_weave 63 = .ok (.athrow, 1) := by decide +kernel
theorem dX3_weave_64 : decode cX3_weave 64 = .ok (.aload_n 3, 1) := by decide +kernel
theorem dX3_weave_65 : decode cX3_weave 65 = .ok (.iload_n 2, 1) := by decide +kernel
theorem dX3_weave_66 : decode cX3_weave 66 = .ok (.aload_n 0, 1) := by decide +kernel
theorem dX3_weave_67 : decode cX3_weave 67 = .ok (.getfield 29, 3) := by decide +kernel
theorem dX3_weave_70 : decode cX3_weave 70 = .ok (.invokevirtual 160, 3) := by decide +kernel
theorem dX3_weave_73 : decode cX3_weave 73 = .ok (.ifCond .ne 13, 3) := by decide +kernel
theorem dX3_weave_76 : decode cX3_weave 76 = .ok (.new 56, 3) := by decide +kernel
theorem dX3_weave_79 : decode cX3_weave 79 = .ok (.dup, 1) := by decide +kernel
theorem dX3_weave_80 : decode cX3_weave 80 = .ok (.ldc 164, 2) := by decide +kernel
theorem dX3_weave_82 : decode cX3_weave 82 = .ok (.invokespecial 60, 3) := by decide +kernel
theorem dX3_weave_85 : decode cX3_weave 85 = .ok (.athrow, 1) := by decide +kernel
theorem dX3_weave_86 : decode cX3_weave 86 = .ok (.aload_n 3, 1) := by decide +kernel
theorem dX3_weave_87 : decode cX3_weave 87 = .ok (.iload_n 2, 1) := by decide +kernel
theorem dX3_weave_88 : decode cX3_weave 88 = .ok (.aload_n 0, 1) := by decide +kernel
theorem dX3_weave_89 : decode cX3_weave 89 = .ok (.getfield 29, 3) := by decide +kernel
theorem dX3_weave_92 : decode cX3_weave 92 = .ok (.invokevirtual 166, 3) := by decide +kernel
theorem dX3_weave_95 : decode cX3_weave 95 = .ok (.ireturn, 1) := by decide +kernel
theorem dX3_pieceIs_0 : decode cX3_pieceIs 0 = .ok (.aload_n 0, 1) := by decide +kernel
theorem dX3_pieceIs_1 : decode cX3_pieceIs 1 = .ok (.iload_n 1, 1) := by decide +kernel
theorem dX3_pieceIs_2 : decode cX3_pieceIs 2 = .ok (.invokevirtual 140, 3) := by decide +kernel
theorem dX3_pieceIs_5 : decode cX3_pieceIs 5 = .ok (.astore_n 3, 1) := by decide +kernel
theorem dX3_pieceIs_6 : decode cX3_pieceIs 6 = .ok (.iload_n 2, 1) := by decide +kernel
theorem dX3_pieceIs_7 : decode cX3_pieceIs 7 = .ok (.tableswitch 86 0 5 #[37, 42, 47, 52, 65, 81], 37) := by decide +kernel
theorem dX3_pieceIs_44 : decode cX3_pieceIs 44 = .ok (.aload_n 3, 1) := by decide +kernel
theorem dX3_pieceIs_45 : decode cX3_pieceIs 45 = .ok (.invokevirtual 170, 3) := by decide +kernel
theorem dX3_pieceIs_48 : decode cX3_pieceIs 48 = .ok (.ireturn, 1) := by decide +kernel
theorem dX3_pieceIs_49 : decode cX3_pieceIs 49 = .ok (.aload_n 3, 1) := by decide +kernel
theorem dX3_pieceIs_50 : decode cX3_pieceIs 50 = .ok (.invokevirtual 171, 3) := by decide +kernel
theorem dX3_pieceIs_53 : decode cX3_pieceIs 53 = .ok (.ireturn, 1) := by decide +kernel
theorem dX3_pieceIs_54 : decode cX3_pieceIs 54 = .ok (.aload_n 3, 1) := by decide +kernel
theorem dX3_pieceIs_55 : decode cX3_pieceIs 55 = .ok (.invokevirtual 172, 3) := by decide +kernel
theorem dX3_pieceIs_58 : decode cX3_pieceIs 58 = .ok (.ireturn, 1) := by decide +kernel
theorem dX3_pieceIs_59 : decode cX3_pieceIs 59 = .ok (.aload_n 3, 1) := by decide +kernel
theorem dX3_pieceIs_60 : decode cX3_pieceIs 60 = .ok (.invokevirtual 175, 3) := by decide +kernel
theorem dX3_pieceIs_63 : decode cX3_pieceIs 63 = .ok (.ifCond .eq 7, 3) := by decide +kernel
theorem dX3_pieceIs_66 : decode cX3_pieceIs 66 = .ok (.iconst 1, 1) := by decide +kernel
theorem dX3_pieceIs_67 : decode cX3_pieceIs 67 = .ok (.goto 4, 3) := by decide +kernel
theorem dX3_pieceIs_70 : decode cX3_pieceIs 70 = .ok (.iconst 0, 1) := by decide +kernel
theorem dX3_pieceIs_71 : decode cX3_pieceIs 71 = .ok (.ireturn, 1) := by decide +kernel
theorem dX3_pieceIs_72 : decode cX3_pieceIs 72 = .ok (.aload_n 3, 1) := by decide +kernel
theorem dX3_pieceIs_73 : decode cX3_pieceIs 73 = .ok (.invokevirtual 175, 3) := by decide +kernel
theorem dX3_pieceIs_76 : decode cX3_pieceIs 76 = .ok (.ifCond .eq 10, 3) := by decide +kernel
theorem dX3_pieceIs_79 : decode cX3_pieceIs 79 = .ok (.aload_n 3, 1) := by decide +kernel
theorem dX3_pieceIs_80 : decode cX3_pieceIs 80 = .ok (.invokevirtual 179, 3) := by decide +kernel
theorem dX3_pieceIs_83 : decode cX3_pieceIs 83 = .ok (.goto 4, 3) := by decide +kernel
theorem dX3_pieceIs_86 : decode cX3_pieceIs 86 = .ok (.iconst 0, 1) := by decide +kernel
theorem dX3_pieceIs_87 : decode cX3_pieceIs 87 = .ok (.ireturn, 1) := by decide +kernel
theorem dX3_pieceIs_88 : decode cX3_pieceIs 88 = .ok (.aload_n 3, 1) := by decide +kernel
theorem dX3_pieceIs_89 : decode cX3_pieceIs 89 = .ok (.invokevirtual 182, 3) := by decide +kernel
theorem dX3_pieceIs_92 : decode cX3_pieceIs 92 = .ok (.ireturn, 1) := by decide +kernel
theorem dX3_pieceIs_93 : decode cX3_pieceIs 93 = .ok (.new 49, 3) := by decide +kernel
theorem dX3_pieceIs_96 : decode cX3_pieceIs 96 = .ok (.dup, 1) := by decide +kernel
theorem dX3_pieceIs_97 : decode cX3_pieceIs 97 = .ok (.ldc 185, 2) := by decide +kernel
theorem dX3_pieceIs_99 : decode cX3_pieceIs 99 = .ok (.invokespecial 53, 3) := by decide +kernel
theorem dX3_pieceIs_102 : decode cX3_pieceIs 102 = .ok (.athrow, 1) := by decide +kernel
theorem dX3_cell_0 : decode cX3_cell 0 = .ok (.aload_n 0, 1) := by decide +kernel
theorem dX3_cell_1 : decode cX3_cell 1 = .ok (.iload_n 1, 1) := by decide +kernel
theorem dX3_cell_2 : decode cX3_cell 2 = .ok (.invokevirtual 140, 3) := by decide +kernel
theorem dX3_cell_5 : decode cX3_cell 5 = .ok (.astore 5, 2) := by decide +kernel
theorem dX3_cell_7 : decode cX3_cell 7 = .ok (.aload 5, 2) := by decide +kernel
theorem dX3_cell_9 : decode cX3_cell 9 = .ok (.iload_n 2, 1) := by decide +kernel
theorem dX3_cell_10 : decode cX3_cell 10 = .ok (.iload_n 3, 1) := by decide +kernel
theorem dX3_cell_11 : decode cX3_cell 11 = .ok (.invokevirtual 187, 3) := by decide +kernel
theorem dX3_cell_14 : decode cX3_cell 14 = .ok (.ifCond .ne 13, 3) := by decide +kernel
theorem dX3_cell_17 : decode cX3_cell 17 = .ok (.new 111, 3) := by decide +kernel
theorem dX3_cell_20 : decode cX3_cell 20 = .ok (.dup, 1) := by decide +kernel
theorem dX3_cell_21 : decode cX3_cell 21 = .ok (.ldc 191, 2) := by decide +kernel
theorem dX3_cell_23 : decode cX3_cell 23 = .ok (.invokespecial 115, 3) := by decide +kernel
theorem dX3_cell_26 : decode cX3_cell 26 = .ok (.athrow, 1) := by decide +kernel
theorem dX3_cell_27 : decode cX3_cell 27 = .ok (.iload 4, 2) := by decide +kernel
theorem dX3_cell_29 : decode cX3_cell 29 = .ok (.tableswitch 51 0 2 #[27, 35, 43], 27) := by decide +kernel
theorem dX3_cell_56 : decode cX3_cell 56 = .ok (.aload 5, 2) := by decide +kernel
theorem dX3_cell_58 : decode cX3_cell 58 = .ok (.iload_n 2, 1) := by decide +kernel
theorem dX3_cell_59 : decode cX3_cell 59 = .ok (.iload_n 3, 1) := by decide +kernel
theorem dX3_cell_60 : decode cX3_cell 60 = .ok (.invokevirtual 193, 3) := by decide +kernel
theorem dX3_cell_63 : decode cX3_cell 63 = .ok (.ireturn, 1) := by decide +kernel
theorem dX3_cell_64 : decode cX3_cell 64 = .ok (.aload 5, 2) := by decide +kernel
theorem dX3_cell_66 : decode cX3_cell 66 = .ok (.iload_n 2, 1) := by decide +kernel
theorem dX3_cell_67 : decode cX3_cell 67 = .ok (.iload_n 3, 1) := by decide +kernel
theorem dX3_cell_68 : decode cX3_cell 68 = .ok (.invokevirtual 197, 3) := by decide +kernel
theorem dX3_cell_71 : decode cX3_cell 71 = .ok (.ireturn, 1) := by decide +kernel
theorem dX3_cell_72 : decode cX3_cell 72 = .ok (.aload 5, 2) := by decide +kernel
theorem dX3_cell_74 : decode cX3_cell 74 = .ok (.iload_n 2, 1) := by decide +kernel
theorem dX3_cell_75 : decode cX3_cell 75 = .ok (.iload_n 3, 1) := by decide +kernel
theorem dX3_cell_76 : decode cX3_cell 76 = .ok (.invokevirtual 200, 3) := by decide +kernel
theorem dX3_cell_79 : decode cX3_cell 79 = .ok (.ireturn, 1) := by decide +kernel
theorem dX3_cell_80 : decode cX3_cell 80 = .ok (.new 49, 3) := by decide +kernel
theorem dX3_cell_83 : decode cX3_cell 83 = .ok (.dup, 1) := by decide +kernel
theorem dX3_cell_84 : decode cX3_cell 84 = .ok (.ldc 203, 2) := by decide +kernel
theorem dX3_cell_86 : decode cX3_cell 86 = .ok (.invokespecial 53, 3) := by decide +kernel
theorem dX3_cell_89 : decode cX3_cell 89 = .ok (.athrow, 1) := by decide +kernel
theorem dX3_sew_0 : decode cX3_sew 0 = .ok (.aload_n 0, 1) := by decide +kernel
theorem dX3_sew_1 : decode cX3_sew 1 = .ok (.iload_n 1, 1) := by decide +kernel
theorem dX3_sew_2 : decode cX3_sew 2 = .ok (.invokevirtual 140, 3) := by decide +kernel
theorem dX3_sew_5 : decode cX3_sew 5 = .ok (.astore_n 3, 1) := by decide +kernel
theorem dX3_sew_6 : decode cX3_sew 6 = .ok (.aload_n 3, 1) := by decide +kernel
theorem dX3_sew_7 : decode cX3_sew 7 = .ok (.iload_n 2, 1) := by decide +kernel
theorem dX3_sew_8 : decode cX3_sew 8 = .ok (.invokestatic 205, 3) := by decide +kernel
theorem dX3_sew_11 : decode cX3_sew 11 = .ok (.aload_n 3, 1) := by decide +kernel
theorem dX3_sew_12 : decode cX3_sew 12 = .ok (.invokestatic 209, 3) := by decide +kernel
theorem dX3_sew_15 : decode cX3_sew 15 = .ok (.aload_n 3, 1) := by decide +kernel
theorem dX3_sew_16 : decode cX3_sew 16 = .ok (.iload_n 2, 1) := by decide +kernel
theorem dX3_sew_17 : decode cX3_sew 17 = .ok (.invokevirtual 213, 3) := by decide +kernel
theorem dX3_sew_20 : decode cX3_sew 20 = .ok (.istore 4, 2) := by decide +kernel
theorem dX3_sew_22 : decode cX3_sew 22 = .ok (.aload_n 3, 1) := by decide +kernel
theorem dX3_sew_23 : decode cX3_sew 23 = .ok (.iload_n 2, 1) := by decide +kernel
theorem dX3_sew_24 : decode cX3_sew 24 = .ok (.invokevirtual 216, 3) := by decide +kernel
theorem dX3_sew_27 : decode cX3_sew 27 = .ok (.iload 4, 2) := by decide +kernel
theorem dX3_sew_29 : decode cX3_sew 29 = .ok (.ireturn, 1) := by decide +kernel
theorem dX3_light_0 : decode cX3_light 0 = .ok (.aload_n 0, 1) := by decide +kernel
theorem dX3_light_1 : decode cX3_light 1 = .ok (.iload_n 1, 1) := by decide +kernel
theorem dX3_light_2 : decode cX3_light 2 = .ok (.invokevirtual 140, 3) := by decide +kernel
theorem dX3_light_5 : decode cX3_light 5 = .ok (.astore_n 3, 1) := by decide +kernel
theorem dX3_light_6 : decode cX3_light 6 = .ok (.iload_n 2, 1) := by decide +kernel
theorem dX3_light_7 : decode cX3_light 7 = .ok (.iconst 1, 1) := by decide +kernel
theorem dX3_light_8 : decode cX3_light 8 = .ok (.if_icmp .lt 10, 3) := by decide +kernel
theorem dX3_light_11 : decode cX3_light 11 = .ok (.iload_n 2, 1) := by decide +kernel
theorem dX3_light_12 : decode cX3_light 12 = .ok (.sipush 9999, 3) := by decide +kernel
theorem dX3_light_15 : decode cX3_light 15 = .ok (.if_icmp .le 13, 3) := by decide +kernel
theorem dX3_light_18 : decode cX3_light 18 = .ok (.new 49, 3) := by decide +kernel
theorem dX3_light_21 : decode cX3_light 21 = .ok (.dup, 1) := by decide +kernel
theorem dX3_light_22 : decode cX3_light 22 = .ok (.ldc 219, 2) := by decide +kernel
theorem dX3_light_24 : decode cX3_light 24 = .ok (.invokespecial 53, 3) := by decide +kernel
theorem dX3_light_27 : decode cX3_light 27 = .ok (.athrow, 1) := by decide +kernel
theorem dX3_light_28 : decode cX3_light 28 = .ok (.aload_n 3, 1) := by decide +kernel
theorem dX3_light_29 : decode cX3_light 29 = .ok (.invokestatic 209, 3) := by decide +kernel
theorem dX3_light_32 : decode cX3_light 32 = .ok (.aload_n 3, 1) := by decide +kernel
theorem dX3_light_33 : decode cX3_light 33 = .ok (.iload_n 2, 1) := by decide +kernel
theorem dX3_light_34 : decode cX3_light 34 = .ok (.aload_n 0, 1) := by decide +kernel
theorem dX3_light_35 : decode cX3_light 35 = .ok (.getfield 29, 3) := by decide +kernel
theorem dX3_light_38 : decode cX3_light 38 = .ok (.invokevirtual 221, 3) := by decide +kernel
theorem dX3_light_41 : decode cX3_light 41 = .ok (.aload_n 3, 1) := by decide +kernel
theorem dX3_light_42 : decode cX3_light 42 = .ok (.invokevirtual 182, 3) := by decide +kernel
theorem dX3_light_45 : decode cX3_light 45 = .ok (.ireturn, 1) := by decide +kernel
theorem dX3_wash_0 : decode cX3_wash 0 = .ok (.aload_n 0, 1) := by decide +kernel
theorem dX3_wash_1 : decode cX3_wash 1 = .ok (.iload_n 1, 1) := by decide +kernel
theorem dX3_wash_2 : decode cX3_wash 2 = .ok (.invokevirtual 140, 3) := by decide +kernel
theorem dX3_wash_5 : decode cX3_wash 5 = .ok (.astore_n 2, 1) := by decide +kernel
theorem dX3_wash_6 : decode cX3_wash 6 = .ok (.aload_n 2, 1) := by decide +kernel
theorem dX3_wash_7 : decode cX3_wash 7 = .ok (.invokestatic 209, 3) := by decide +kernel
theorem dX3_wash_10 : decode cX3_wash 10 = .ok (.aload_n 2, 1) := by decide +kernel
theorem dX3_wash_11 : decode cX3_wash 11 = .ok (.aload_n 0, 1) := by decide +kernel
theorem dX3_wash_12 : decode cX3_wash 12 = .ok (.getfield 29, 3) := by decide +kernel
theorem dX3_wash_15 : decode cX3_wash 15 = .ok (.invokevirtual 225, 3) := by decide +kernel
theorem dX3_wash_18 : decode cX3_wash 18 = .ok (.aload_n 2, 1) := by decide +kernel
theorem dX3_wash_19 : decode cX3_wash 19 = .ok (.invokevirtual 182, 3) := by decide +kernel
theorem dX3_wash_22 : decode cX3_wash 22 = .ok (.ireturn, 1) := by decide +kernel
theorem dX3_cut_0 : decode cX3_cut 0 = .ok (.aload_n 0, 1) := by decide +kernel
theorem dX3_cut_1 : decode cX3_cut 1 = .ok (.iload_n 1, 1) := by decide +kernel
theorem dX3_cut_2 : decode cX3_cut 2 = .ok (.invokevirtual 140, 3) := by decide +kernel
theorem dX3_cut_5 : decode cX3_cut 5 = .ok (.astore_n 3, 1) := by decide +kernel
theorem dX3_cut_6 : decode cX3_cut 6 = .ok (.aload_n 3, 1) := by decide +kernel
theorem dX3_cut_7 : decode cX3_cut 7 = .ok (.iload_n 2, 1) := by decide +kernel
theorem dX3_cut_8 : decode cX3_cut 8 = .ok (.invokestatic 205, 3) := by decide +kernel
theorem dX3_cut_11 : decode cX3_cut 11 = .ok (.aload_n 3, 1) := by decide +kernel
theorem dX3_cut_12 : decode cX3_cut 12 = .ok (.invokestatic 209, 3) := by decide +kernel
theorem dX3_cut_15 : decode cX3_cut 15 = .ok (.aload_n 0, 1) := by decide +kernel
theorem dX3_cut_16 : decode cX3_cut 16 = .ok (.invokevirtual 127, 3) := by decide +kernel
theorem dX3_cut_19 : decode cX3_cut 19 = .ok (.new 33, 3) := by decide +kernel
theorem dX3_cut_22 : decode cX3_cut 22 = .ok (.dup, 1) := by decide +kernel
theorem dX3_cut_23 : decode cX3_cut 23 = .ok (.aload_n 3, 1) := by decide +kernel
theorem dX3_cut_24 : decode cX3_cut 24 = .ok (.invokevirtual 171, 3) := by decide +kernel
theorem dX3_cut_27 : decode cX3_cut 27 = .ok (.iconst 0, 1) := by decide +kernel
theorem dX3_cut_28 : decode cX3_cut 28 = .ok (.invokespecial 130, 3) := by decide +kernel
theorem dX3_cut_31 : decode cX3_cut 31 = .ok (.astore 4, 2) := by decide +kernel
theorem dX3_cut_33 : decode cX3_cut 33 = .ok (.aload 4, 2) := by decide +kernel
theorem dX3_cut_35 : decode cX3_cut 35 = .ok (.aload_n 3, 1) := by decide +kernel
theorem dX3_cut_36 : decode cX3_cut 36 = .ok (.iload_n 2, 1) := by decide +kernel
theorem dX3_cut_37 : decode cX3_cut 37 = .ok (.invokevirtual 229, 3) := by decide +kernel
theorem dX3_cut_40 : decode cX3_cut 40 = .ok (.aload_n 3, 1) := by decide +kernel
theorem dX3_cut_41 : decode cX3_cut 41 = .ok (.iload_n 2, 1) := by decide +kernel
theorem dX3_cut_42 : decode cX3_cut 42 = .ok (.invokevirtual 232, 3) := by decide +kernel
theorem dX3_cut_45 : decode cX3_cut 45 = .ok (.aload_n 0, 1) := by decide +kernel
theorem dX3_cut_46 : decode cX3_cut 46 = .ok (.aload 4, 2) := by decide +kernel
theorem dX3_cut_48 : decode cX3_cut 48 = .ok (.invokevirtual 136, 3) := by decide +kernel
theorem dX3_cut_51 : decode cX3_cut 51 = .ok (.ireturn, 1) := by decide +kernel
theorem dX3_match_0 : decode cX3_match 0 = .ok (.aload_n 0, 1) := by decide +kernel
theorem dX3_match_1 : decode cX3_match 1 = .ok (.iload_n 1, 1) := by decide +kernel
theorem dX3_match_2 : decode cX3_match 2 = .ok (.invokevirtual 140, 3) := by decide +kernel
theorem dX3_match_5 : decode cX3_match 5 = .ok (.astore_n 3, 1) := by decide +kernel
theorem dX3_match_6 : decode cX3_match 6 = .ok (.aload_n 0, 1) := by decide +kernel
theorem dX3_match_7 : decode cX3_match 7 = .ok (.iload_n 2, 1) := by decide +kernel
theorem dX3_match_8 : decode cX3_match 8 = .ok (.invokevirtual 140, 3) := by decide +kernel
theorem dX3_match_11 : decode cX3_match 11 = .ok (.astore 4, 2) := by decide +kernel
theorem dX3_match_13 : decode cX3_match 13 = .ok (.iload_n 1, 1) := by decide +kernel
theorem dX3_match_14 : decode cX3_match 14 = .ok (.iload_n 2, 1) := by decide +kernel
theorem dX3_match_15 : decode cX3_match 15 = .ok (.aload_n 3, 1) := by decide +kernel
theorem dX3_match_16 : decode cX3_match 16 = .ok (.aload 4, 2) := by decide +kernel
theorem dX3_match_18 : decode cX3_match 18 = .ok (.invokestatic 235, 3) := by decide +kernel
theorem dX3_match_21 : decode cX3_match 21 = .ok (.aload_n 3, 1) := by decide +kernel
theorem dX3_match_22 : decode cX3_match 22 = .ok (.invokevirtual 171, 3) := by decide +kernel
theorem dX3_match_25 : decode cX3_match 25 = .ok (.aload 4, 2) := by decide +kernel
theorem dX3_match_27 : decode cX3_match 27 = .ok (.invokevirtual 171, 3) := by decide +kernel
theorem dX3_match_30 : decode cX3_match 30 = .ok (.if_icmp .eq 5, 3) := by decide +kernel
theorem dX3_match_33 : decode cX3_match 33 = .ok (.iconst (-1), 1) := by decide +kernel
theorem dX3_match_34 : decode cX3_match 34 = .ok (.ireturn, 1) := by decide +kernel
theorem dX3_match_35 : decode cX3_match 35 = .ok (.aload_n 3, 1) := by decide +kernel
theorem dX3_match_36 : decode cX3_match 36 = .ok (.aload 4, 2) := by decide +kernel
theorem dX3_match_38 : decode cX3_match 38 = .ok (.invokevirtual 239, 3) := by decide +kernel
theorem dX3_match_41 : decode cX3_match 41 = .ok (.ireturn, 1) := by decide +kernel
theorem dX3_join_0 : decode cX3_join 0 = .ok (.aload_n 0, 1) := by decide +kernel
theorem dX3_join_1 : decode cX3_join 1 = .ok (.iload_n 1, 1) := by decide +kernel
theorem dX3_join_2 : decode cX3_join 2 = .ok (.invokevirtual 140, 3) := by decide +kernel
theorem dX3_join_5 : decode cX3_join 5 = .ok (.astore_n 3, 1) := by decide +kernel
theorem dX3_join_6 : decode cX3_join 6 = .ok (.aload_n 0, 1) := by decide +kernel
theorem dX3_join_7 : decode cX3_join 7 = .ok (.iload_n 2, 1) := by decide +kernel
theorem dX3_join_8 : decode cX3_join 8 = .ok (.invokevirtual 140, 3) := by decide +kernel
theorem dX3_join_11 : decode cX3_join 11 = .ok (.astore 4, 2) := by decide +kernel
theorem dX3_join_13 : decode cX3_join 13 = .ok (.iload_n 1, 1) := by decide +kernel
theorem dX3_join_14 : decode cX3_join 14 = .ok (.iload_n 2, 1) := by decide +kernel
theorem dX3_join_15 : decode cX3_join 15 = .ok (.aload_n 3, 1) := by decide +kernel
theorem dX3_join_16 : decode cX3_join 16 = .ok (.aload 4, 2) := by decide +kernel
theorem dX3_join_18 : decode cX3_join 18 = .ok (.invokestatic 235, 3) := by decide +kernel
theorem dX3_join_21 : decode cX3_join 21 = .ok (.aload_n 3, 1) := by decide +kernel
theorem dX3_join_22 : decode cX3_join 22 = .ok (.invokevirtual 171, 3) := by decide +kernel
theorem dX3_join_25 : decode cX3_join 25 = .ok (.aload 4, 2) := by decide +kernel
theorem dX3_join_27 : decode cX3_join 27 = .ok (.invokevirtual 171, 3) := by decide +kernel
theorem dX3_join_30 : decode cX3_join 30 = .ok (.if_icmp .eq 13, 3) := by decide +kernel
theorem dX3_join_33 : decode cX3_join 33 = .ok (.new 56, 3) := by decide +kernel
theorem dX3_join_36 : decode cX3_join 36 = .ok (.dup, 1) := by decide +kernel
theorem dX3_join_37 : decode cX3_join 37 = .ok (.ldc 242, 2) := by decide +kernel
theorem dX3_join_39 : decode cX3_join 39 = .ok (.invokespecial 60, 3) := by decide +kernel
theorem dX3_join_42 : decode cX3_join 42 = .ok (.athrow, 1) := by decide +kernel
theorem dX3_join_43 : decode cX3_join 43 = .ok (.aload_n 3, 1) := by decide +kernel
theorem dX3_join_44 : decode cX3_join 44 = .ok (.invokevirtual 170, 3) := by decide +kernel
theorem dX3_join_47 : decode cX3_join 47 = .ok (.aload 4, 2) := by decide +kernel
theorem dX3_join_49 : decode cX3_join 49 = .ok (.invokevirtual 170, 3) := by decide +kernel
theorem dX3_join_52 : decode cX3_join 52 = .ok (.iadd, 1) := by decide +kernel
theorem dX3_join_53 : decode cX3_join 53 = .ok (.bipush 24, 2) := by decide +kernel
theorem dX3_join_55 : decode cX3_join 55 = .ok (.if_icmp .le 13, 3) := by decide +kernel
theorem dX3_join_58 : decode cX3_join 58 = .ok (.new 56, 3) := by decide +kernel
theorem dX3_join_61 : decode cX3_join 61 = .ok (.dup, 1) := by decide +kernel
theorem dX3_join_62 : decode cX3_join 62 = .ok (.ldc 244, 2) := by decide +kernel
theorem dX3_join_64 : decode cX3_join 64 = .ok (.invokespecial 60, 3) := by decide +kernel
theorem dX3_join_67 : decode cX3_join 67 = .ok (.athrow, 1) := by decide +kernel
theorem dX3_join_68 : decode cX3_join 68 = .ok (.aload_n 3, 1) := by decide +kernel
theorem dX3_join_69 : decode cX3_join 69 = .ok (.invokevirtual 170, 3) := by decide +kernel
theorem dX3_join_72 : decode cX3_join 72 = .ok (.istore 5, 2) := by decide +kernel
theorem dX3_join_74 : decode cX3_join 74 = .ok (.aload_n 3, 1) := by decide +kernel
theorem dX3_join_75 : decode cX3_join 75 = .ok (.aload 4, 2) := by decide +kernel
theorem dX3_join_77 : decode cX3_join 77 = .ok (.iconst 0, 1) := by decide +kernel
theorem dX3_join_78 : decode cX3_join 78 = .ok (.invokevirtual 229, 3) := by decide +kernel
theorem dX3_join_81 : decode cX3_join 81 = .ok (.aload_n 0, 1) := by decide +kernel
theorem dX3_join_82 : decode cX3_join 82 = .ok (.iload_n 2, 1) := by decide +kernel
theorem dX3_join_83 : decode cX3_join 83 = .ok (.invokevirtual 246, 3) := by decide +kernel
theorem dX3_join_86 : decode cX3_join 86 = .ok (.aload_n 3, 1) := by decide +kernel
theorem dX3_join_87 : decode cX3_join 87 = .ok (.iload 5, 2) := by decide +kernel
theorem dX3_join_89 : decode cX3_join 89 = .ok (.invokevirtual 249, 3) := by decide +kernel
theorem dX3_join_92 : decode cX3_join 92 = .ok (.ireturn, 1) := by decide +kernel
theorem dX3_isTrue_0 : decode cX3_isTrue 0 = .ok (.aload_n 0, 1) := by decide +kernel
theorem dX3_isTrue_1 : decode cX3_isTrue 1 = .ok (.iload_n 1, 1) := by decide +kernel
theorem dX3_isTrue_2 : decode cX3_isTrue 2 = .ok (.invokevirtual 140, 3) := by decide +kernel
theorem dX3_isTrue_5 : decode cX3_isTrue 5 = .ok (.invokevirtual 252, 3) := by decide +kernel
theorem dX3_isTrue_8 : decode cX3_isTrue 8 = .ok (.ireturn, 1) := by decide +kernel
theorem dX3_likeness_0 : decode cX3_likeness 0 = .ok (.aload_n 0, 1) := by decide +kernel
theorem dX3_likeness_1 : decode cX3_likeness 1 = .ok (.iload_n 1, 1) := by decide +kernel
theorem dX3_likeness_2 : decode cX3_likeness 2 = .ok (.invokevirtual 140, 3) := by decide +kernel
theorem dX3_likeness_5 : decode cX3_likeness 5 = .ok (.astore_n 3, 1) := by decide +kernel
theorem dX3_likeness_6 : decode cX3_likeness 6 = .ok (.aload_n 0, 1) := by decide +kernel
theorem dX3_likeness_7 : decode cX3_likeness 7 = .ok (.iload_n 2, 1) := by decide +kernel
theorem dX3_likeness_8 : decode cX3_likeness 8 = .ok (.invokevirtual 72, 3) := by decide +kernel
theorem dX3_likeness_11 : decode cX3_likeness 11 = .ok (.astore 4, 2) := by decide +kernel
theorem dX3_likeness_13 : decode cX3_likeness 13 = .ok (.aload_n 3, 1) := by decide +kernel
theorem dX3_likeness_14 : decode cX3_likeness 14 = .ok (.invokevirtual 171, 3) := by decide +kernel
theorem dX3_likeness_17 : decode cX3_likeness 17 = .ok (.aload 4, 2) := by decide +kernel
theorem dX3_likeness_19 : decode cX3_likeness 19 = .ok (.invokevirtual 82, 3) := by decide +kernel
theorem dX3_likeness_22 : decode cX3_likeness 22 = .ok (.if_icmp .ne 15, 3) := by decide +kernel
theorem dX3_likeness_25 : decode cX3_likeness 25 = .ok (.aload_n 3, 1) := by decide +kernel
theorem dX3_likeness_26 : decode cX3_likeness 26 = .ok (.invokevirtual 170, 3) := by decide +kernel
theorem dX3_likeness_29 : decode cX3_likeness 29 = .ok (.aload 4, 2) := by decide +kernel
theorem dX3_likeness_31 : decode cX3_likeness 31 = .ok (.invokevirtual 76, 3) := by decide +kernel
theorem dX3_likeness_34 : decode cX3_likeness 34 = .ok (.if_icmp .eq 5, 3) := by decide +kernel
theorem dX3_likeness_37 : decode cX3_likeness 37 = .ok (.iconst (-1), 1) := by decide +kernel
theorem dX3_likeness_38 : decode cX3_likeness 38 = .ok (.ireturn, 1) := by decide +kernel
theorem dX3_likeness_39 : decode cX3_likeness 39 = .ok (.aload_n 3, 1) := by decide +kernel
theorem dX3_likeness_40 : decode cX3_likeness 40 = .ok (.aload 4, 2) := by decide +kernel
theorem dX3_likeness_42 : decode cX3_likeness 42 = .ok (.iconst 0, 1) := by decide +kernel
theorem dX3_likeness_43 : decode cX3_likeness 43 = .ok (.invokevirtual 255, 3) := by decide +kernel
theorem dX3_likeness_46 : decode cX3_likeness 46 = .ok (.aload_n 3, 1) := by decide +kernel
theorem dX3_likeness_47 : decode cX3_likeness 47 = .ok (.aload 4, 2) := by decide +kernel
theorem dX3_likeness_49 : decode cX3_likeness 49 = .ok (.iconst 1, 1) := by decide +kernel
theorem dX3_likeness_50 : decode cX3_likeness 50 = .ok (.invokevirtual 255, 3) := by decide +kernel
theorem dX3_likeness_53 : decode cX3_likeness 53 = .ok (.invokestatic 259, 3) := by decide +kernel
theorem dX3_likeness_56 : decode cX3_likeness 56 = .ok (.ireturn, 1) := by decide +kernel
theorem dX3_balances_0 : decode cX3_balances 0 = .ok (.iconst 0, 1) := by decide +kernel
theorem dX3_balances_1 : decode cX3_balances 1 = .ok (.istore_n 1, 1) := by decide +kernel
theorem dX3_balances_2 : decode cX3_balances 2 = .ok (.iload_n 1, 1) := by decide +kernel
theorem dX3_balances_3 : decode cX3_balances 3 = .ok (.aload_n 0, 1) := by decide +kernel
theorem dX3_balances_4 : decode cX3_balances 4 = .ok (.getfield 42, 3) := by decide +kernel
theorem dX3_balances_7 : decode cX3_balances 7 = .ok (.arraylength, 1) := by decide +kernel
theorem dX3_balances_8 : decode cX3_balances 8 = .ok (.if_icmp .ge 16, 3) := by decide +kernel
theorem dX3_balances_11 : decode cX3_balances 11 = .ok (.aload_n 0, 1) := by decide +kernel
theorem dX3_balances_12 : decode cX3_balances 12 = .ok (.getfield 42, 3) := by decide +kernel
theorem dX3_balances_15 : decode cX3_balances 15 = .ok (.iload_n 1, 1) := by decide +kernel
theorem dX3_balances_16 : decode cX3_balances 16 = .ok (.iconst 0, 1) := by decide +kernel
theorem dX3_balances_17 : decode cX3_balances 17 = .ok (.iastore, 1) := by decide +kernel
theorem dX3_balances_18 : decode cX3_balances 18 = .ok (.iinc 1 1, 3) := by decide +kernel
theorem dX3_balances_21 : decode cX3_balances 21 = .ok (.goto (-19), 3) := by decide +kernel
theorem dX3_balances_24 : decode cX3_balances 24 = .ok (.iconst 0, 1) := by decide +kernel
theorem dX3_balances_25 : decode cX3_balances 25 = .ok (.istore_n 1, 1) := by decide +kernel
theorem dX3_balances_26 : decode cX3_balances 26 = .ok (.iload_n 1, 1) := by decide +kernel
theorem dX3_balances_27 : decode cX3_balances 27 = .ok (.aload_n 0, 1) := by decide +kernel
theorem dX3_balances_28 : decode cX3_balances 28 = .ok (.getfield 35, 3) := by decide +kernel
theorem dX3_balances_31 : decode cX3_balances 31 = .ok (.arraylength, 1) := by decide +kernel
theorem dX3_balances_32 : decode cX3_balances 32 = .ok (.if_icmp .ge 28, 3) := by decide +kernel
theorem dX3_balances_35 : decode cX3_balances 35 = .ok (.aload_n 0, 1) := by decide +kernel
theorem dX3_balances_36 : decode cX3_balances 36 = .ok (.getfield 35, 3) := by decide +kernel
theorem dX3_balances_39 : decode cX3_balances 39 = .ok (.iload_n 1, 1) := by decide +kernel
theorem dX3_balances_40 : decode cX3_balances 40 = .ok (.aaload, 1) := by decide +kernel
theorem dX3_balances_41 : decode cX3_balances 41 = .ok (.astore_n 2, 1) := by decide +kernel
theorem dX3_balances_42 : decode cX3_balances 42 = .ok (.aload_n 2, 1) := by decide +kernel
theorem dX3_balances_43 : decode cX3_balances 43 = .ok (.ifnull 11, 3) := by decide +kernel
theorem dX3_balances_46 : decode cX3_balances 46 = .ok (.aload_n 2, 1) := by decide +kernel
theorem dX3_balances_47 : decode cX3_balances 47 = .ok (.aload_n 0, 1) := by decide +kernel
theorem dX3_balances_48 : decode cX3_balances 48 = .ok (.getfield 42, 3) := by decide +kernel
theorem dX3_balances_51 : decode cX3_balances 51 = .ok (.invokevirtual 264, 3) := by decide +kernel
theorem dX3_balances_54 : decode cX3_balances 54 = .ok (.iinc 1 1, 3) := by decide +kernel
theorem dX3_balances_57 : decode cX3_balances 57 = .ok (.goto (-31), 3) := by decide +kernel
theorem dX3_balances_60 : decode cX3_balances 60 = .ok (.iconst 0, 1) := by decide +kernel
theorem dX3_balances_61 : decode cX3_balances 61 = .ok (.istore_n 1, 1) := by decide +kernel
theorem dX3_balances_62 : decode cX3_balances 62 = .ok (.iload_n 1, 1) := by decide +kernel
theorem dX3_balances_63 : decode cX3_balances 63 = .ok (.aload_n 0, 1) := by decide +kernel
theorem dX3_balances_64 : decode cX3_balances 64 = .ok (.getfield 42, 3) := by decide +kernel
theorem dX3_balances_67 : decode cX3_balances 67 = .ok (.arraylength, 1) := by decide +kernel
theorem dX3_balances_68 : decode cX3_balances 68 = .ok (.if_icmp .ge 28, 3) := by decide +kernel
theorem dX3_balances_71 : decode cX3_balances 71 = .ok (.aload_n 0, 1) := by decide +kernel
theorem dX3_balances_72 : decode cX3_balances 72 = .ok (.getfield 42, 3) := by decide +kernel
theorem dX3_balances_75 : decode cX3_balances 75 = .ok (.iload_n 1, 1) := by decide +kernel
theorem dX3_balances_76 : decode cX3_balances 76 = .ok (.iaload, 1) := by decide +kernel
theorem dX3_balances_77 : decode cX3_balances 77 = .ok (.aload_n 0, 1) := by decide +kernel
theorem dX3_balances_78 : decode cX3_balances 78 = .ok (.getfield 29, 3) := by decide +kernel
theorem dX3_balances_81 : decode cX3_balances 81 = .ok (.iload_n 1, 1) := by decide +kernel
theorem dX3_balances_82 : decode cX3_balances 82 = .ok (.invokevirtual 267, 3) := by decide +kernel
theorem dX3_balances_85 : decode cX3_balances 85 = .ok (.if_icmp .eq 5, 3) := by decide +kernel
theorem dX3_balances_88 : decode cX3_balances 88 = .ok (.iconst 0, 1) := by decide +kernel
theorem dX3_balances_89 : decode cX3_balances 89 = .ok (.ireturn, 1) := by decide +kernel
theorem dX3_balances_90 : decode cX3_balances 90 = .ok (.iinc 1 1, 3) := by decide +kernel
theorem dX3_balances_93 : decode cX3_balances 93 = .ok (.goto (-31), 3) := by decide +kernel
theorem dX3_balances_96 : decode cX3_balances 96 = .ok (.iconst 1, 1) := by decide +kernel
theorem dX3_balances_97 : decode cX3_balances 97 = .ok (.ireturn, 1) := by decide +kernel
theorem dX3_signOf_0 : decode cX3_signOf 0 = .ok (.iload_n 0, 1) := by decide +kernel
theorem dX3_signOf_1 : decode cX3_signOf 1 = .ok (.tableswitch 130 66 90 #[117, 130, 130, 130, 130, 121, 130, 130, 130, 130, 130, 130, 130, 130, 130, 130, 115, 130, 130, 130, 130, 123, 127, 119, 125], 115) := by decide +kernel
theorem dX3_signOf_116 : decode cX3_signOf 116 = .ok (.iconst 0, 1) := by decide +kernel
theorem dX3_signOf_117 : decode cX3_signOf 117 = .ok (.ireturn, 1) := by decide +kernel
theorem dX3_signOf_118 : decode cX3_signOf 118 = .ok (.iconst 1, 1) := by decide +kernel
theorem dX3_signOf_119 : decode cX3_signOf 119 = .ok (.ireturn, 1) := by decide +kernel
theorem dX3_signOf_120 : decode cX3_signOf 120 = .ok (.iconst 2, 1) := by decide +kernel
theorem dX3_signOf_121 : decode cX3_signOf 121 = .ok (.ireturn, 1) := by decide +kernel
theorem dX3_signOf_122 : decode cX3_signOf 122 = .ok (.iconst 3, 1) := by decide +kernel
theorem dX3_signOf_123 : decode cX3_signOf 123 = .ok (.ireturn, 1) := by decide +kernel
theorem dX3_signOf_124 : decode cX3_signOf 124 = .ok (.iconst 4, 1) := by decide +kernel
theorem dX3_signOf_125 : decode cX3_signOf 125 = .ok (.ireturn, 1) := by decide +kernel
theorem dX3_signOf_126 : decode cX3_signOf 126 = .ok (.iconst 5, 1) := by decide +kernel
theorem dX3_signOf_127 : decode cX3_signOf 127 = .ok (.ireturn, 1) := by decide +kernel
theorem dX3_signOf_128 : decode cX3_signOf 128 = .ok (.bipush 6, 2) := by decide +kernel
theorem dX3_signOf_130 : decode cX3_signOf 130 = .ok (.ireturn, 1) := by decide +kernel
theorem dX3_signOf_131 : decode cX3_signOf 131 = .ok (.iconst (-1), 1) := by decide +kernel
theorem dX3_signOf_132 : decode cX3_signOf 132 = .ok (.ireturn, 1) := by decide +kernel
theorem dX3_cartoonNumbered_0 : decode cX3_cartoonNumbered 0 = .ok (.iload_n 1, 1) := by decide +kernel
theorem dX3_cartoonNumbered_1 : decode cX3_cartoonNumbered 1 = .ok (.ifCond .lt 12, 3) := by decide +kernel
theorem dX3_cartoonNumbered_4 : decode cX3_cartoonNumbered 4 = .ok (.iload_n 1, 1) := by decide +kernel
theorem dX3_cartoonNumbered_5 : decode cX3_cartoonNumbered 5 = .ok (.aload_n 0, 1) := by decide +kernel
theorem dX3_cartoonNumbered_6 : decode cX3_cartoonNumbered 6 = .ok (.getfield 19, 3) := by decide +kernel
theorem dX3_cartoonNumbered_9 : decode cX3_cartoonNumbered 9 = .ok (.arraylength, 1) := by decide +kernel
theorem dX3_cartoonNumbered_10 : decode cX3_cartoonNumbered 10 = .ok (.if_icmp .lt 7, 3) := by decide +kernel
theorem dX3_cartoonNumbered_13 : decode cX3_cartoonNumbered 13 = .ok (.aconst_null, 1) := by decide +kernel
theorem dX3_cartoonNumbered_14 : decode cX3_cartoonNumbered 14 = .ok (.goto 9, 3) := by decide +kernel
theorem dX3_cartoonNumbered_17 : decode cX3_cartoonNumbered 17 = .ok (.aload_n 0, 1) := by decide +kernel
theorem dX3_cartoonNumbered_18 : decode cX3_cartoonNumbered 18 = .ok (.getfield 19, 3) := by decide +kernel
theorem dX3_cartoonNumbered_21 : decode cX3_cartoonNumbered 21 = .ok (.iload_n 1, 1) := by decide +kernel
theorem dX3_cartoonNumbered_22 : decode cX3_cartoonNumbered 22 = .ok (.aaload, 1) := by decide +kernel
theorem dX3_cartoonNumbered_23 : decode cX3_cartoonNumbered 23 = .ok (.astore_n 2, 1) := by decide +kernel
theorem dX3_cartoonNumbered_24 : decode cX3_cartoonNumbered 24 = .ok (.aload_n 2, 1) := by decide +kernel
theorem dX3_cartoonNumbered_25 : decode cX3_cartoonNumbered 25 = .ok (.ifnonnull 14, 3) := by decide +kernel
theorem dX3_cartoonNumbered_28 : decode cX3_cartoonNumbered 28 = .ok (.new 111, 3) := by decide +kernel
theorem dX3_cartoonNumbered_31 : decode cX3_cartoonNumbered 31 = .ok (.dup, 1) := by decide +kernel
theorem dX3_cartoonNumbered_32 : decode cX3_cartoonNumbered 32 = .ok (.ldc_w 270, 3) := by decide +kernel
theorem dX3_cartoonNumbered_35 : decode cX3_cartoonNumbered 35 = .ok (.invokespecial 115, 3) := by decide +kernel
theorem dX3_cartoonNumbered_38 : decode cX3_cartoonNumbered 38 = .ok (.athrow, 1) := by decide +kernel
theorem dX3_cartoonNumbered_39 : decode cX3_cartoonNumbered 39 = .ok (.aload_n 2, 1) := by decide +kernel
theorem dX3_cartoonNumbered_40 : decode cX3_cartoonNumbered 40 = .ok (.areturn, 1) := by decide +kernel
theorem dX3_pieceNumbered_0 : decode cX3_pieceNumbered 0 = .ok (.iload_n 1, 1) := by decide +kernel
theorem dX3_pieceNumbered_1 : decode cX3_pieceNumbered 1 = .ok (.ifCond .lt 12, 3) := by decide +kernel
theorem dX3_pieceNumbered_4 : decode cX3_pieceNumbered 4 = .ok (.iload_n 1, 1) := by decide +kernel
theorem dX3_pieceNumbered_5 : decode cX3_pieceNumbered 5 = .ok (.aload_n 0, 1) := by decide +kernel
theorem dX3_pieceNumbered_6 : decode cX3_pieceNumbered 6 = .ok (.getfield 35, 3) := by decide +kernel
theorem dX3_pieceNumbered_9 : decode cX3_pieceNumbered 9 = .ok (.arraylength, 1) := by decide +kernel
theorem dX3_pieceNumbered_10 : decode cX3_pieceNumbered 10 = .ok (.if_icmp .lt 7, 3) := by decide +kernel
theorem dX3_pieceNumbered_13 : decode cX3_pieceNumbered 13 = .ok (.aconst_null, 1) := by decide +kernel
theorem dX3_pieceNumbered_14 : decode cX3_pieceNumbered 14 = .ok (.goto 9, 3) := by decide +kernel
theorem dX3_pieceNumbered_17 : decode cX3_pieceNumbered 17 = .ok (.aload_n 0, 1) := by decide +kernel
theorem dX3_pieceNumbered_18 : decode cX3_pieceNumbered 18 = .ok (.getfield 35, 3) := by decide +kernel
theorem dX3_pieceNumbered_21 : decode cX3_pieceNumbered 21 = .ok (.iload_n 1, 1) := by decide +kernel
theorem dX3_pieceNumbered_22 : decode cX3_pieceNumbered 22 = .ok (.aaload, 1) := by decide +kernel
theorem dX3_pieceNumbered_23 : decode cX3_pieceNumbered 23 = .ok (.astore_n 2, 1) := by decide +kernel
theorem dX3_pieceNumbered_24 : decode cX3_pieceNumbered 24 = .ok (.aload_n 2, 1) := by decide +kernel
theorem dX3_pieceNumbered_25 : decode cX3_pieceNumbered 25 = .ok (.ifnonnull 14, 3) := by decide +kernel
theorem dX3_pieceNumbered_28 : decode cX3_pieceNumbered 28 = .ok (.new 111, 3) := by decide +kernel
theorem dX3_pieceNumbered_31 : decode cX3_pieceNumbered 31 = .ok (.dup, 1) := by decide +kernel
theorem dX3_pieceNumbered_32 : decode cX3_pieceNumbered 32 = .ok (.ldc_w 272, 3) := by decide +kernel
theorem dX3_pieceNumbered_35 : decode cX3_pieceNumbered 35 = .ok (.invokespecial 115, 3) := by decide +kernel
theorem dX3_pieceNumbered_38 : decode cX3_pieceNumbered 38 = .ok (.athrow, 1) := by decide +kernel
theorem dX3_pieceNumbered_39 : decode cX3_pieceNumbered 39 = .ok (.aload_n 2, 1) := by decide +kernel
theorem dX3_pieceNumbered_40 : decode cX3_pieceNumbered 40 = .ok (.areturn, 1) := by decide +kernel
theorem dX3_requireColour_0 : decode cX3_requireColour 0 = .ok (.iload_n 0, 1) := by decide +kernel
theorem dX3_requireColour_1 : decode cX3_requireColour 1 = .ok (.ifCond .lt 9, 3) := by decide +kernel
theorem dX3_requireColour_4 : decode cX3_requireColour 4 = .ok (.iload_n 0, 1) := by decide +kernel
theorem dX3_requireColour_5 : decode cX3_requireColour 5 = .ok (.bipush 6, 2) := by decide +kernel
theorem dX3_requireColour_7 : decode cX3_requireColour 7 = .ok (.if_icmp .lt 14, 3) := by decide +kernel
theorem dX3_requireColour_10 : decode cX3_requireColour 10 = .ok (.new 111, 3) := by decide +kernel
theorem dX3_requireColour_13 : decode cX3_requireColour 13 = .ok (.dup, 1) := by decide +kernel
theorem dX3_requireColour_14 : decode cX3_requireColour 14 = .ok (.ldc_w 274, 3) := by decide +kernel
theorem dX3_requireColour_17 : decode cX3_requireColour 17 = .ok (.invokespecial 115, 3) := by decide +kernel
theorem dX3_requireColour_20 : decode cX3_requireColour 20 = .ok (.athrow, 1) := by decide +kernel
theorem dX3_requireColour_21 : decode cX3_requireColour 21 = .ok (.return_, 1) := by decide +kernel
theorem dX3_requireSecondColumn_0 : decode cX3_requireSecondColumn 0 = .ok (.iload_n 1, 1) := by decide +kernel
theorem dX3_requireSecondColumn_1 : decode cX3_requireSecondColumn 1 = .ok (.iconst 1, 1) := by decide +kernel
theorem dX3_requireSecondColumn_2 : decode cX3_requireSecondColumn 2 = .ok (.if_icmp .lt 11, 3) := by decide +kernel
theorem dX3_requireSecondColumn_5 : decode cX3_requireSecondColumn 5 = .ok (.iload_n 1, 1) := by decide +kernel
theorem dX3_requireSecondColumn_6 : decode cX3_requireSecondColumn 6 = .ok (.aload_n 0, 1) := by decide +kernel
theorem dX3_requireSecondColumn_7 : decode cX3_requireSecondColumn 7 = .ok (.invokevirtual 170, 3) := by decide +kernel
theorem dX3_requireSecondColumn_10 : decode cX3_requireSecondColumn 10 = .ok (.if_icmp .lt 14, 3) := by decide +kernel
theorem dX3_requireSecondColumn_13 : decode cX3_requireSecondColumn 13 = .ok (.new 111, 3) := by decide +kernel
theorem dX3_requireSecondColumn_16 : decode cX3_requireSecondColumn 16 = .ok (.dup, 1) := by decide +kernel
theorem dX3_requireSecondColumn_17 : decode cX3_requireSecondColumn 17 = .ok (.ldc_w 276, 3) := by decide +kernel
theorem dX3_requireSecondColumn_20 : decode cX3_requireSecondColumn 20 = .ok (.invokespecial 115, 3) := by decide +kernel
theorem dX3_requireSecondColumn_23 : decode cX3_requireSecondColumn 23 = .ok (.athrow, 1) := by decide +kernel
theorem dX3_requireSecondColumn_24 : decode cX3_requireSecondColumn 24 = .ok (.return_, 1) := by decide +kernel
theorem dX3_requireDone_0 : decode cX3_requireDone 0 = .ok (.aload_n 0, 1) := by decide +kernel
theorem dX3_requireDone_1 : decode cX3_requireDone 1 = .ok (.invokevirtual 175, 3) := by decide +kernel
theorem dX3_requireDone_4 : decode cX3_requireDone 4 = .ok (.ifCond .ne 14, 3) := by decide +kernel
theorem dX3_requireDone_7 : decode cX3_requireDone 7 = .ok (.new 56, 3) := by decide +kernel
theorem dX3_requireDone_10 : decode cX3_requireDone 10 = .ok (.dup, 1) := by decide +kernel
theorem dX3_requireDone_11 : decode cX3_requireDone 11 = .ok (.ldc_w 278, 3) := by decide +kernel
theorem dX3_requireDone_14 : decode cX3_requireDone 14 = .ok (.invokespecial 60, 3) := by decide +kernel
theorem dX3_requireDone_17 : decode cX3_requireDone 17 = .ok (.athrow, 1) := by decide +kernel
theorem dX3_requireDone_18 : decode cX3_requireDone 18 = .ok (.return_, 1) := by decide +kernel
theorem dX3_requireTwoDone_0 : decode cX3_requireTwoDone 0 = .ok (.iload_n 0, 1) := by decide +kernel
theorem dX3_requireTwoDone_1 : decode cX3_requireTwoDone 1 = .ok (.iload_n 1, 1) := by decide +kernel
theorem dX3_requireTwoDone_2 : decode cX3_requireTwoDone 2 = .ok (.if_icmp .ne 14, 3) := by decide +kernel
theorem dX3_requireTwoDone_5 : decode cX3_requireTwoDone 5 = .ok (.new 49, 3) := by decide +kernel
theorem dX3_requireTwoDone_8 : decode cX3_requireTwoDone 8 = .ok (.dup, 1) := by decide +kernel
theorem dX3_requireTwoDone_9 : decode cX3_requireTwoDone 9 = .ok (.ldc_w 280, 3) := by decide +kernel
theorem dX3_requireTwoDone_12 : decode cX3_requireTwoDone 12 = .ok (.invokespecial 53, 3) := by decide +kernel
theorem dX3_requireTwoDone_15 : decode cX3_requireTwoDone 15 = .ok (.athrow, 1) := by decide +kernel
theorem dX3_requireTwoDone_16 : decode cX3_requireTwoDone 16 = .ok (.aload_n 2, 1) := by decide +kernel
theorem dX3_requireTwoDone_17 : decode cX3_requireTwoDone 17 = .ok (.invokestatic 209, 3) := by decide +kernel
theorem dX3_requireTwoDone_20 : decode cX3_requireTwoDone 20 = .ok (.aload_n 3, 1) := by decide +kernel
theorem dX3_requireTwoDone_21 : decode cX3_requireTwoDone 21 = .ok (.invokestatic 209, 3) := by decide +kernel
theorem dX3_requireTwoDone_24 : decode cX3_requireTwoDone 24 = .ok (.return_, 1) := by decide +kernel
theorem dX3_requireRoomForPiece_0 : decode cX3_requireRoomForPiece 0 = .ok (.aload_n 0, 1) := by decide +kernel
theorem dX3_requireRoomForPiece_1 : decode cX3_requireRoomForPiece 1 = .ok (.getfield 39, 3) := by decide +kernel
theorem dX3_requireRoomForPiece_4 : decode cX3_requireRoomForPiece 4 = .ok (.bipush 20, 2) := by decide +kernel
theorem dX3_requireRoomForPiece_6 : decode cX3_requireRoomForPiece 6 = .ok (.if_icmp .lt 14, 3) := by decide +kernel
theorem dX3_requireRoomForPiece_9 : decode cX3_requireRoomForPiece 9 = .ok (.new 56, 3) := by decide +kernel
theorem dX3_requireRoomForPiece_12 : decode cX3_requireRoomForPiece 12 = .ok (.dup, 1) := by decide +kernel
theorem dX3_requireRoomForPiece_13 : decode cX3_requireRoomForPiece 13 = .ok (.ldc_w 282, 3) := by decide +kernel
theorem dX3_requireRoomForPiece_16 : decode cX3_requireRoomForPiece 16 = .ok (.invokespecial 60, 3) := by decide +kernel
theorem dX3_requireRoomForPiece_19 : decode cX3_requireRoomForPiece 19 = .ok (.athrow, 1) := by decide +kernel
theorem dX3_requireRoomForPiece_20 : decode cX3_requireRoomForPiece 20 = .ok (.return_, 1) := by decide +kernel
theorem dX3_keepPiece_0 : decode cX3_keepPiece 0 = .ok (.aload_n 0, 1) := by decide +kernel
theorem dX3_keepPiece_1 : decode cX3_keepPiece 1 = .ok (.getfield 39, 3) := by decide +kernel
theorem dX3_keepPiece_4 : decode cX3_keepPiece 4 = .ok (.istore_n 2, 1) := by decide +kernel
theorem dX3_keepPiece_5 : decode cX3_keepPiece 5 = .ok (.iload_n 2, 1) := by decide +kernel
theorem dX3_keepPiece_6 : decode cX3_keepPiece 6 = .ok (.ifCond .lt 29, 3) := by decide +kernel
theorem dX3_keepPiece_9 : decode cX3_keepPiece 9 = .ok (.iload_n 2, 1) := by decide +kernel
theorem dX3_keepPiece_10 : decode cX3_keepPiece 10 = .ok (.aload_n 0, 1) := by decide +kernel
theorem dX3_keepPiece_11 : decode cX3_keepPiece 11 = .ok (.getfield 35, 3) := by decide +kernel
theorem dX3_keepPiece_14 : decode cX3_keepPiece 14 = .ok (.arraylength, 1) := by decide +kernel
theorem dX3_keepPiece_15 : decode cX3_keepPiece 15 = .ok (.if_icmp .ge 20, 3) := by decide +kernel
theorem dX3_keepPiece_18 : decode cX3_keepPiece 18 = .ok (.aload_n 0, 1) := by decide +kernel
theorem dX3_keepPiece_19 : decode cX3_keepPiece 19 = .ok (.getfield 35, 3) := by decide +kernel
theorem dX3_keepPiece_22 : decode cX3_keepPiece 22 = .ok (.iload_n 2, 1) := by decide +kernel
theorem dX3_keepPiece_23 : decode cX3_keepPiece 23 = .ok (.aload_n 1, 1) := by decide +kernel
theorem dX3_keepPiece_24 : decode cX3_keepPiece 24 = .ok (.aastore, 1) := by decide +kernel
theorem dX3_keepPiece_25 : decode cX3_keepPiece 25 = .ok (.aload_n 0, 1) := by decide +kernel
theorem dX3_keepPiece_26 : decode cX3_keepPiece 26 = .ok (.dup, 1) := by decide +kernel
theorem dX3_keepPiece_27 : decode cX3_keepPiece 27 = .ok (.getfield 39, 3) := by decide +kernel
theorem dX3_keepPiece_30 : decode cX3_keepPiece 30 = .ok (.iconst 1, 1) := by decide +kernel
theorem dX3_keepPiece_31 : decode cX3_keepPiece 31 = .ok (.iadd, 1) := by decide +kernel
theorem dX3_keepPiece_32 : decode cX3_keepPiece 32 = .ok (.putfield 39, 3) := by decide +kernel
theorem dX3_keepPiece_35 : decode cX3_keepPiece 35 = .ok (.iload_n 2, 1) := by decide +kernel
theorem dX3_keepPiece_36 : decode cX3_keepPiece 36 = .ok (.ireturn, 1) := by decide +kernel
theorem dX3_dropPiece_0 : decode cX3_dropPiece 0 = .ok (.iload_n 1, 1) := by decide +kernel
theorem dX3_dropPiece_1 : decode cX3_dropPiece 1 = .ok (.ifCond .lt 19, 3) := by decide +kernel
theorem dX3_dropPiece_4 : decode cX3_dropPiece 4 = .ok (.iload_n 1, 1) := by decide +kernel
theorem dX3_dropPiece_5 : decode cX3_dropPiece 5 = .ok (.aload_n 0, 1) := by decide +kernel
theorem dX3_dropPiece_6 : decode cX3_dropPiece 6 = .ok (.getfield 35, 3) := by decide +kernel
theorem dX3_dropPiece_9 : decode cX3_dropPiece 9 = .ok (.arraylength, 1) := by decide +kernel
theorem dX3_dropPiece_10 : decode cX3_dropPiece 10 = .ok (.if_icmp .ge 10, 3) := by decide +kernel
theorem dX3_dropPiece_13 : decode cX3_dropPiece 13 = .ok (.aload_n 0, 1) := by decide +kernel
theorem dX3_dropPiece_14 : decode cX3_dropPiece 14 = .ok (.getfield 35, 3) := by decide +kernel
theorem dX3_dropPiece_17 : decode cX3_dropPiece 17 = .ok (.iload_n 1, 1) := by decide +kernel
theorem dX3_dropPiece_18 : decode cX3_dropPiece 18 = .ok (.aconst_null, 1) := by decide +kernel
theorem dX3_dropPiece_19 : decode cX3_dropPiece 19 = .ok (.aastore, 1) := by decide +kernel
theorem dX3_dropPiece_20 : decode cX3_dropPiece 20 = .ok (.return_, 1) := by decide +kernel
theorem dX3_valueAt_0 : decode cX3_valueAt 0 = .ok (.iload_n 1, 1) := by decide +kernel
theorem dX3_valueAt_1 : decode cX3_valueAt 1 = .ok (.ifCond .lt 9, 3) := by decide +kernel
theorem dX3_valueAt_4 : decode cX3_valueAt 4 = .ok (.iload_n 1, 1) := by decide +kernel
theorem dX3_valueAt_5 : decode cX3_valueAt 5 = .ok (.aload_n 0, 1) := by decide +kernel
theorem dX3_valueAt_6 : decode cX3_valueAt 6 = .ok (.arraylength, 1) := by decide +kernel
theorem dX3_valueAt_7 : decode cX3_valueAt 7 = .ok (.if_icmp .lt 7, 3) := by decide +kernel
theorem dX3_valueAt_10 : decode cX3_valueAt 10 = .ok (.iconst (-1), 1) := by decide +kernel
theorem dX3_valueAt_11 : decode cX3_valueAt 11 = .ok (.goto 6, 3) := by decide +kernel
theorem dX3_valueAt_14 : decode cX3_valueAt 14 = .ok (.aload_n 0, 1) := by decide +kernel
theorem dX3_valueAt_15 : decode cX3_valueAt 15 = .ok (.iload_n 1, 1) := by decide +kernel
theorem dX3_valueAt_16 : decode cX3_valueAt 16 = .ok (.iaload, 1) := by decide +kernel
theorem dX3_valueAt_17 : decode cX3_valueAt 17 = .ok (.ireturn, 1) := by decide +kernel
theorem dX3_setAt_0 : decode cX3_setAt 0 = .ok (.iload_n 1, 1) := by decide +kernel
theorem dX3_setAt_1 : decode cX3_setAt 1 = .ok (.ifCond .lt 13, 3) := by decide +kernel
theorem dX3_setAt_4 : decode cX3_setAt 4 = .ok (.iload_n 1, 1) := by decide +kernel
theorem dX3_setAt_5 : decode cX3_setAt 5 = .ok (.aload_n 0, 1) := by decide +kernel
theorem dX3_setAt_6 : decode cX3_setAt 6 = .ok (.arraylength, 1) := by decide +kernel
theorem dX3_setAt_7 : decode cX3_setAt 7 = .ok (.if_icmp .ge 7, 3) := by decide +kernel
theorem dX3_setAt_10 : decode cX3_setAt 10 = .ok (.aload_n 0, 1) := by decide +kernel
theorem dX3_setAt_11 : decode cX3_setAt 11 = .ok (.iload_n 1, 1) := by decide +kernel
theorem dX3_setAt_12 : decode cX3_setAt 12 = .ok (.iload_n 2, 1) := by decide +kernel
theorem dX3_setAt_13 : decode cX3_setAt 13 = .ok (.iastore, 1) := by decide +kernel
theorem dX3_setAt_14 : decode cX3_setAt 14 = .ok (.return_, 1) := by decide +kernel
theorem dJ9_max_7cf53_0 : decode cJ9_max_7cf53 0 = .ok (.iload_n 0, 1) := by decide +kernel
theorem dJ9_max_7cf53_1 : decode cJ9_max_7cf53 1 = .ok (.iload_n 1, 1) := by decide +kernel
theorem dJ9_max_7cf53_2 : decode cJ9_max_7cf53 2 = .ok (.if_icmp .lt 7, 3) := by decide +kernel
theorem dJ9_max_7cf53_5 : decode cJ9_max_7cf53 5 = .ok (.iload_n 0, 1) := by decide +kernel
theorem dJ9_max_7cf53_6 : decode cJ9_max_7cf53 6 = .ok (.goto 4, 3) := by decide +kernel
theorem dJ9_max_7cf53_9 : decode cJ9_max_7cf53 9 = .ok (.iload_n 1, 1) := by decide +kernel
theorem dJ9_max_7cf53_10 : decode cJ9_max_7cf53 10 = .ok (.ireturn, 1) := by decide +kernel
theorem dL_at_0 : decode cL_at 0 = .ok (.iload_n 1, 1) := by decide +kernel
theorem dL_at_1 : decode cL_at 1 = .ok (.aload_n 0, 1) := by decide +kernel
theorem dL_at_2 : decode cL_at 2 = .ok (.arraylength, 1) := by decide +kernel
theorem dL_at_3 : decode cL_at 3 = .ok (.if_icmp .ge 9, 3) := by decide +kernel
theorem dL_at_6 : decode cL_at 6 = .ok (.aload_n 0, 1) := by decide +kernel
theorem dL_at_7 : decode cL_at 7 = .ok (.iload_n 1, 1) := by decide +kernel
theorem dL_at_8 : decode cL_at 8 = .ok (.iaload, 1) := by decide +kernel
theorem dL_at_9 : decode cL_at 9 = .ok (.goto 12, 3) := by decide +kernel
theorem dL_at_12 : decode cL_at 12 = .ok (.ldc 7, 2) := by decide +kernel
theorem dL_at_14 : decode cL_at 14 = .ok (.iload_n 1, 1) := by decide +kernel
theorem dL_at_15 : decode cL_at 15 = .ok (.iconst 1, 1) := by decide +kernel
theorem dL_at_16 : decode cL_at 16 = .ok (.iadd, 1) := by decide +kernel
theorem dL_at_17 : decode cL_at 17 = .ok (.imul, 1) := by decide +kernel
theorem dL_at_18 : decode cL_at 18 = .ok (.ldc 8, 2) := by decide +kernel
theorem dL_at_20 : decode cL_at 20 = .ok (.iadd, 1) := by decide +kernel
theorem dL_at_21 : decode cL_at 21 = .ok (.ireturn, 1) := by decide +kernel
theorem dL_low_0 : decode cL_low 0 = .ok (.iload_n 0, 1) := by decide +kernel
theorem dL_low_1 : decode cL_low 1 = .ok (.ldc 9, 2) := by decide +kernel
theorem dL_low_3 : decode cL_low 3 = .ok (.iand, 1) := by decide +kernel
theorem dL_low_4 : decode cL_low 4 = .ok (.iload_n 1, 1) := by decide +kernel
theorem dL_low_5 : decode cL_low 5 = .ok (.irem, 1) := by decide +kernel
theorem dL_low_6 : decode cL_low 6 = .ok (.ireturn, 1) := by decide +kernel
theorem dL_type_0 : decode cL_type 0 = .ok (.aload_n 0, 1) := by decide +kernel
theorem dL_type_1 : decode cL_type 1 = .ok (.iload_n 1, 1) := by decide +kernel
theorem dL_type_2 : decode cL_type 2 = .ok (.invokevirtual 10, 3) := by decide +kernel
theorem dL_type_5 : decode cL_type 5 = .ok (.ireturn, 1) := by decide +kernel
theorem dL_type_6 : decode cL_type 6 = .ok (.astore_n 2, 1) := by decide +kernel
theorem dL_type_7 : decode cL_type 7 = .ok (.ldc 18, 2) := by decide +kernel
theorem dL_type_9 : decode cL_type 9 = .ok (.ireturn, 1) := by decide +kernel
theorem dL_type_10 : decode cL_type 10 = .ok (.astore_n 2, 1) := by decide +kernel
theorem dL_type_11 : decode cL_type 11 = .ok (.ldc 21, 2) := by decide +kernel
theorem dL_type_13 : decode cL_type 13 = .ok (.ireturn, 1) := by decide +kernel
theorem dL_cartoon_0 : decode cL_cartoon 0 = .ok (.aload_n 0, 1) := by decide +kernel
theorem dL_cartoon_1 : decode cL_cartoon 1 = .ok (.iload_n 1, 1) := by decide +kernel
theorem dL_cartoon_2 : decode cL_cartoon 2 = .ok (.invokevirtual 22, 3) := by decide +kernel
theorem dL_cartoon_5 : decode cL_cartoon 5 = .ok (.ireturn, 1) := by decide +kernel
theorem dL_cartoon_6 : decode cL_cartoon 6 = .ok (.astore_n 2, 1) := by decide +kernel
theorem dL_cartoon_7 : decode cL_cartoon 7 = .ok (.ldc 18, 2) := by decide +kernel
theorem dL_cartoon_9 : decode cL_cartoon 9 = .ok (.ireturn, 1) := by decide +kernel
theorem dL_cartoon_10 : decode cL_cartoon 10 = .ok (.astore_n 2, 1) := by decide +kernel
theorem dL_cartoon_11 : decode cL_cartoon 11 = .ok (.ldc 21, 2) := by decide +kernel
theorem dL_cartoon_13 : decode cL_cartoon 13 = .ok (.ireturn, 1) := by decide +kernel
theorem dL_row_0 : decode cL_row 0 = .ok (.aload_n 0, 1) := by decide +kernel
theorem dL_row_1 : decode cL_row 1 = .ok (.iload_n 1, 1) := by decide +kernel
theorem dL_row_2 : decode cL_row 2 = .ok (.invokevirtual 26, 3) := by decide +kernel
theorem dL_row_5 : decode cL_row 5 = .ok (.ireturn, 1) := by decide +kernel
theorem dL_row_6 : decode cL_row 6 = .ok (.astore_n 2, 1) := by decide +kernel
theorem dL_row_7 : decode cL_row 7 = .ok (.ldc 31, 2) := by decide +kernel
theorem dL_row_9 : decode cL_row 9 = .ok (.ireturn, 1) := by decide +kernel
theorem dL_row_10 : decode cL_row 10 = .ok (.astore_n 2, 1) := by decide +kernel
theorem dL_row_11 : decode cL_row 11 = .ok (.ldc 21, 2) := by decide +kernel
theorem dL_row_13 : decode cL_row 13 = .ok (.ireturn, 1) := by decide +kernel
theorem dL_hatch_0 : decode cL_hatch 0 = .ok (.aload_n 0, 1) := by decide +kernel
theorem dL_hatch_1 : decode cL_hatch 1 = .ok (.iload_n 1, 1) := by decide +kernel
theorem dL_hatch_2 : decode cL_hatch 2 = .ok (.iload_n 2, 1) := by decide +kernel
theorem dL_hatch_3 : decode cL_hatch 3 = .ok (.iload_n 3, 1) := by decide +kernel
theorem dL_hatch_4 : decode cL_hatch 4 = .ok (.invokevirtual 32, 3) := by decide +kernel
theorem dL_hatch_7 : decode cL_hatch 7 = .ok (.iconst 0, 1) := by decide +kernel
theorem dL_hatch_8 : decode cL_hatch 8 = .ok (.ireturn, 1) := by decide +kernel
theorem dL_hatch_9 : decode cL_hatch 9 = .ok (.astore 4, 2) := by decide +kernel
theorem dL_hatch_11 : decode cL_hatch 11 = .ok (.ldc 31, 2) := by decide +kernel
theorem dL_hatch_13 : decode cL_hatch 13 = .ok (.ireturn, 1) := by decide +kernel
theorem dL_dye_0 : decode cL_dye 0 = .ok (.aload_n 0, 1) := by decide +kernel
theorem dL_dye_1 : decode cL_dye 1 = .ok (.iload_n 1, 1) := by decide +kernel
theorem dL_dye_2 : decode cL_dye 2 = .ok (.iload_n 2, 1) := by decide +kernel
theorem dL_dye_3 : decode cL_dye 3 = .ok (.iload_n 3, 1) := by decide +kernel
theorem dL_dye_4 : decode cL_dye 4 = .ok (.iload 4, 2) := by decide +kernel
theorem dL_dye_6 : decode cL_dye 6 = .ok (.invokevirtual 36, 3) := by decide +kernel
theorem dL_dye_9 : decode cL_dye 9 = .ok (.ireturn, 1) := by decide +kernel
theorem dL_dye_10 : decode cL_dye 10 = .ok (.astore 5, 2) := by decide +kernel
theorem dL_dye_12 : decode cL_dye 12 = .ok (.ldc 31, 2) := by decide +kernel
theorem dL_dye_14 : decode cL_dye 14 = .ok (.ireturn, 1) := by decide +kernel
theorem dL_dye_15 : decode cL_dye 15 = .ok (.astore 5, 2) := by decide +kernel
theorem dL_dye_17 : decode cL_dye 17 = .ok (.ldc 18, 2) := by decide +kernel
theorem dL_dye_19 : decode cL_dye 19 = .ok (.ireturn, 1) := by decide +kernel
theorem dL_dye_20 : decode cL_dye 20 = .ok (.astore 5, 2) := by decide +kernel
theorem dL_dye_22 : decode cL_dye 22 = .ok (.ldc 21, 2) := by decide +kernel
theorem dL_dye_24 : decode cL_dye 24 = .ok (.ireturn, 1) := by decide +kernel
theorem dL_left_0 : decode cL_left 0 = .ok (.aload_n 0, 1) := by decide +kernel
theorem dL_left_1 : decode cL_left 1 = .ok (.iload_n 1, 1) := by decide +kernel
theorem dL_left_2 : decode cL_left 2 = .ok (.invokevirtual 40, 3) := by decide +kernel
theorem dL_left_5 : decode cL_left 5 = .ok (.ireturn, 1) := by decide +kernel
theorem dL_left_6 : decode cL_left 6 = .ok (.astore_n 2, 1) := by decide +kernel
theorem dL_left_7 : decode cL_left 7 = .ok (.ldc 31, 2) := by decide +kernel
theorem dL_left_9 : decode cL_left 9 = .ok (.ireturn, 1) := by decide +kernel
theorem dL_loom_0 : decode cL_loom 0 = .ok (.aload_n 0, 1) := by decide +kernel
theorem dL_loom_1 : decode cL_loom 1 = .ok (.iload_n 1, 1) := by decide +kernel
theorem dL_loom_2 : decode cL_loom 2 = .ok (.iload_n 2, 1) := by decide +kernel
theorem dL_loom_3 : decode cL_loom 3 = .ok (.iload_n 3, 1) := by decide +kernel
theorem dL_loom_4 : decode cL_loom 4 = .ok (.invokevirtual 43, 3) := by decide +kernel
theorem dL_loom_7 : decode cL_loom 7 = .ok (.ireturn, 1) := by decide +kernel
theorem dL_loom_8 : decode cL_loom 8 = .ok (.astore 4, 2) := by decide +kernel
theorem dL_loom_10 : decode cL_loom 10 = .ok (.ldc 31, 2) := by decide +kernel
theorem dL_loom_12 : decode cL_loom 12 = .ok (.ireturn, 1) := by decide +kernel
theorem dL_loom_13 : decode cL_loom 13 = .ok (.astore 4, 2) := by decide +kernel
theorem dL_loom_15 : decode cL_loom 15 = .ok (.ldc 18, 2) := by decide +kernel
theorem dL_loom_17 : decode cL_loom 17 = .ok (.ireturn, 1) := by decide +kernel
theorem dL_loom_18 : decode cL_loom 18 = .ok (.astore 4, 2) := by decide +kernel
theorem dL_loom_20 : decode cL_loom 20 = .ok (.ldc 21, 2) := by decide +kernel
theorem dL_loom_22 : decode cL_loom 22 = .ok (.ireturn, 1) := by decide +kernel
theorem dL_weave_0 : decode cL_weave 0 = .ok (.aload_n 0, 1) := by decide +kernel
theorem dL_weave_1 : decode cL_weave 1 = .ok (.iload_n 1, 1) := by decide +kernel
theorem dL_weave_2 : decode cL_weave 2 = .ok (.iload_n 2, 1) := by decide +kernel
theorem dL_weave_3 : decode cL_weave 3 = .ok (.invokevirtual 47, 3) := by decide +kernel
theorem dL_weave_6 : decode cL_weave 6 = .ok (.ireturn, 1) := by decide +kernel
theorem dL_weave_7 : decode cL_weave 7 = .ok (.astore_n 3, 1) := by decide +kernel
theorem dL_weave_8 : decode cL_weave 8 = .ok (.ldc 31, 2) := by decide +kernel
theorem dL_weave_10 : decode cL_weave 10 = .ok (.ireturn, 1) := by decide +kernel
theorem dL_weave_11 : decode cL_weave 11 = .ok (.astore_n 3, 1) := by decide +kernel
theorem dL_weave_12 : decode cL_weave 12 = .ok (.ldc 21, 2) := by decide +kernel
theorem dL_weave_14 : decode cL_weave 14 = .ok (.ireturn, 1) := by decide +kernel
theorem dL_pieceIs_0 : decode cL_pieceIs 0 = .ok (.aload_n 0, 1) := by decide +kernel
theorem dL_pieceIs_1 : decode cL_pieceIs 1 = .ok (.iload_n 1, 1) := by decide +kernel
theorem dL_pieceIs_2 : decode cL_pieceIs 2 = .ok (.iload_n 2, 1) := by decide +kernel
theorem dL_pieceIs_3 : decode cL_pieceIs 3 = .ok (.invokevirtual 51, 3) := by decide +kernel
theorem dL_pieceIs_6 : decode cL_pieceIs 6 = .ok (.ireturn, 1) := by decide +kernel
theorem dL_pieceIs_7 : decode cL_pieceIs 7 = .ok (.astore_n 3, 1) := by decide +kernel
theorem dL_pieceIs_8 : decode cL_pieceIs 8 = .ok (.ldc 31, 2) := by decide +kernel
theorem dL_pieceIs_10 : decode cL_pieceIs 10 = .ok (.ireturn, 1) := by decide +kernel
theorem dL_pieceIs_11 : decode cL_pieceIs 11 = .ok (.astore_n 3, 1) := by decide +kernel
theorem dL_pieceIs_12 : decode cL_pieceIs 12 = .ok (.ldc 18, 2) := by decide +kernel
theorem dL_pieceIs_14 : decode cL_pieceIs 14 = .ok (.ireturn, 1) := by decide +kernel
theorem dL_cell_0 : decode cL_cell 0 = .ok (.aload_n 0, 1) := by decide +kernel
theorem dL_cell_1 : decode cL_cell 1 = .ok (.iload_n 1, 1) := by decide +kernel
theorem dL_cell_2 : decode cL_cell 2 = .ok (.iload_n 2, 1) := by decide +kernel
theorem dL_cell_3 : decode cL_cell 3 = .ok (.iload_n 3, 1) := by decide +kernel
theorem dL_cell_4 : decode cL_cell 4 = .ok (.iload 4, 2) := by decide +kernel
theorem dL_cell_6 : decode cL_cell 6 = .ok (.invokevirtual 54, 3) := by decide +kernel
theorem dL_cell_9 : decode cL_cell 9 = .ok (.ireturn, 1) := by decide +kernel
theorem dL_cell_10 : decode cL_cell 10 = .ok (.astore 5, 2) := by decide +kernel
theorem dL_cell_12 : decode cL_cell 12 = .ok (.ldc 31, 2) := by decide +kernel
theorem dL_cell_14 : decode cL_cell 14 = .ok (.ireturn, 1) := by decide +kernel
theorem dL_cell_15 : decode cL_cell 15 = .ok (.astore 5, 2) := by decide +kernel
theorem dL_cell_17 : decode cL_cell 17 = .ok (.ldc 18, 2) := by decide +kernel
theorem dL_cell_19 : decode cL_cell 19 = .ok (.ireturn, 1) := by decide +kernel
theorem dL_sew_0 : decode cL_sew 0 = .ok (.aload_n 0, 1) := by decide +kernel
theorem dL_sew_1 : decode cL_sew 1 = .ok (.iload_n 1, 1) := by decide +kernel
theorem dL_sew_2 : decode cL_sew 2 = .ok (.iload_n 2, 1) := by decide +kernel
theorem dL_sew_3 : decode cL_sew 3 = .ok (.invokevirtual 58, 3) := by decide +kernel
theorem dL_sew_6 : decode cL_sew 6 = .ok (.ifCond .eq 7, 3) := by decide +kernel
theorem dL_sew_9 : decode cL_sew 9 = .ok (.iconst 1, 1) := by decide +kernel
theorem dL_sew_10 : decode cL_sew 10 = .ok (.goto 4, 3) := by decide +kernel
theorem dL_sew_13 : decode cL_sew 13 = .ok (.iconst 0, 1) := by decide +kernel
theorem dL_sew_14 : decode cL_sew 14 = .ok (.ireturn, 1) := by decide +kernel
theorem dL_sew_15 : decode cL_sew 15 = .ok (.astore_n 3, 1) := by decide +kernel
theorem dL_sew_16 : decode cL_sew 16 = .ok (.ldc 31, 2) := by decide +kernel
theorem dL_sew_18 : decode cL_sew 18 = .ok (.ireturn, 1) := by decide +kernel
theorem dL_sew_19 : decode cL_sew 19 = .ok (.astore_n 3, 1) := by decide +kernel
theorem dL_sew_20 : decode cL_sew 20 = .ok (.ldc 21, 2) := by decide +kernel
theorem dL_sew_22 : decode cL_sew 22 = .ok (.ireturn, 1) := by decide +kernel
theorem dL_light_0 : decode cL_light 0 = .ok (.aload_n 0, 1) := by decide +kernel
theorem dL_light_1 : decode cL_light 1 = .ok (.iload_n 1, 1) := by decide +kernel
theorem dL_light_2 : decode cL_light 2 = .ok (.iload_n 2, 1) := by decide +kernel
theorem dL_light_3 : decode cL_light 3 = .ok (.invokevirtual 62, 3) := by decide +kernel
theorem dL_light_6 : decode cL_light 6 = .ok (.ireturn, 1) := by decide +kernel
theorem dL_light_7 : decode cL_light 7 = .ok (.astore_n 3, 1) := by decide +kernel
theorem dL_light_8 : decode cL_light 8 = .ok (.ldc 31, 2) := by decide +kernel
theorem dL_light_10 : decode cL_light 10 = .ok (.ireturn, 1) := by decide +kernel
theorem dL_light_11 : decode cL_light 11 = .ok (.astore_n 3, 1) := by decide +kernel
theorem dL_light_12 : decode cL_light 12 = .ok (.ldc 18, 2) := by decide +kernel
theorem dL_light_14 : decode cL_light 14 = .ok (.ireturn, 1) := by decide +kernel
theorem dL_light_15 : decode cL_light 15 = .ok (.astore_n 3, 1) := by decide +kernel
theorem dL_light_16 : decode cL_light 16 = .ok (.ldc 21, 2) := by decide +kernel
theorem dL_light_18 : decode cL_light 18 = .ok (.ireturn, 1) := by decide +kernel
theorem dL_wash_0 : decode cL_wash 0 = .ok (.aload_n 0, 1) := by decide +kernel
theorem dL_wash_1 : decode cL_wash 1 = .ok (.iload_n 1, 1) := by decide +kernel
theorem dL_wash_2 : decode cL_wash 2 = .ok (.invokevirtual 65, 3) := by decide +kernel
theorem dL_wash_5 : decode cL_wash 5 = .ok (.ireturn, 1) := by decide +kernel
theorem dL_wash_6 : decode cL_wash 6 = .ok (.astore_n 2, 1) := by decide +kernel
theorem dL_wash_7 : decode cL_wash 7 = .ok (.ldc 31, 2) := by decide +kernel
theorem dL_wash_9 : decode cL_wash 9 = .ok (.ireturn, 1) := by decide +kernel
theorem dL_wash_10 : decode cL_wash 10 = .ok (.astore_n 2, 1) := by decide +kernel
theorem dL_wash_11 : decode cL_wash 11 = .ok (.ldc 21, 2) := by decide +kernel
theorem dL_wash_13 : decode cL_wash 13 = .ok (.ireturn, 1) := by decide +kernel
theorem dL_cut_0 : decode cL_cut 0 = .ok (.aload_n 0, 1) := by decide +kernel
theorem dL_cut_1 : decode cL_cut 1 = .ok (.iload_n 1, 1) := by decide +kernel
theorem dL_cut_2 : decode cL_cut 2 = .ok (.iload_n 2, 1) := by decide +kernel
theorem dL_cut_3 : decode cL_cut 3 = .ok (.invokevirtual 68, 3) := by decide +kernel
theorem dL_cut_6 : decode cL_cut 6 = .ok (.ireturn, 1) := by decide +kernel
theorem dL_cut_7 : decode cL_cut 7 = .ok (.astore_n 3, 1) := by decide +kernel
theorem dL_cut_8 : decode cL_cut 8 = .ok (.ldc 31, 2) := by decide +kernel
theorem dL_cut_10 : decode cL_cut 10 = .ok (.ireturn, 1) := by decide +kernel
theorem dL_cut_11 : decode cL_cut 11 = .ok (.astore_n 3, 1) := by decide +kernel
theorem dL_cut_12 : decode cL_cut 12 = .ok (.ldc 21, 2) := by decide +kernel
theorem dL_cut_14 : decode cL_cut 14 = .ok (.ireturn, 1) := by decide +kernel
theorem dL_match_0 : decode cL_match 0 = .ok (.aload_n 0, 1) := by decide +kernel
theorem dL_match_1 : decode cL_match 1 = .ok (.iload_n 1, 1) := by decide +kernel
theorem dL_match_2 : decode cL_match 2 = .ok (.iload_n 2, 1) := by decide +kernel
theorem dL_match_3 : decode cL_match 3 = .ok (.invokevirtual 71, 3) := by decide +kernel
theorem dL_match_6 : decode cL_match 6 = .ok (.ireturn, 1) := by decide +kernel
theorem dL_match_7 : decode cL_match 7 = .ok (.astore_n 3, 1) := by decide +kernel
theorem dL_match_8 : decode cL_match 8 = .ok (.ldc 31, 2) := by decide +kernel
theorem dL_match_10 : decode cL_match 10 = .ok (.ireturn, 1) := by decide +kernel
theorem dL_match_11 : decode cL_match 11 = .ok (.astore_n 3, 1) := by decide +kernel
theorem dL_match_12 : decode cL_match 12 = .ok (.ldc 18, 2) := by decide +kernel
theorem dL_match_14 : decode cL_match 14 = .ok (.ireturn, 1) := by decide +kernel
theorem dL_match_15 : decode cL_match 15 = .ok (.astore_n 3, 1) := by decide +kernel
theorem dL_match_16 : decode cL_match 16 = .ok (.ldc 21, 2) := by decide +kernel
theorem dL_match_18 : decode cL_match 18 = .ok (.ireturn, 1) := by decide +kernel
theorem dL_join_0 : decode cL_join 0 = .ok (.aload_n 0, 1) := by decide +kernel
theorem dL_join_1 : decode cL_join 1 = .ok (.iload_n 1, 1) := by decide +kernel
theorem dL_join_2 : decode cL_join 2 = .ok (.iload_n 2, 1) := by decide +kernel
theorem dL_join_3 : decode cL_join 3 = .ok (.invokevirtual 74, 3) := by decide +kernel
theorem dL_join_6 : decode cL_join 6 = .ok (.ifCond .eq 7, 3) := by decide +kernel
theorem dL_join_9 : decode cL_join 9 = .ok (.iconst 1, 1) := by decide +kernel
theorem dL_join_10 : decode cL_join 10 = .ok (.goto 4, 3) := by decide +kernel
theorem dL_join_13 : decode cL_join 13 = .ok (.iconst 0, 1) := by decide +kernel
theorem dL_join_14 : decode cL_join 14 = .ok (.ireturn, 1) := by decide +kernel
theorem dL_join_15 : decode cL_join 15 = .ok (.astore_n 3, 1) := by decide +kernel
theorem dL_join_16 : decode cL_join 16 = .ok (.ldc 31, 2) := by decide +kernel
theorem dL_join_18 : decode cL_join 18 = .ok (.ireturn, 1) := by decide +kernel
theorem dL_join_19 : decode cL_join 19 = .ok (.astore_n 3, 1) := by decide +kernel
theorem dL_join_20 : decode cL_join 20 = .ok (.ldc 18, 2) := by decide +kernel
theorem dL_join_22 : decode cL_join 22 = .ok (.ireturn, 1) := by decide +kernel
theorem dL_join_23 : decode cL_join 23 = .ok (.astore_n 3, 1) := by decide +kernel
theorem dL_join_24 : decode cL_join 24 = .ok (.ldc 21, 2) := by decide +kernel
theorem dL_join_26 : decode cL_join 26 = .ok (.ireturn, 1) := by decide +kernel
theorem dL_isTrue_0 : decode cL_isTrue 0 = .ok (.aload_n 0, 1) := by decide +kernel
theorem dL_isTrue_1 : decode cL_isTrue 1 = .ok (.iload_n 1, 1) := by decide +kernel
theorem dL_isTrue_2 : decode cL_isTrue 2 = .ok (.invokevirtual 77, 3) := by decide +kernel
theorem dL_isTrue_5 : decode cL_isTrue 5 = .ok (.ifCond .eq 7, 3) := by decide +kernel
theorem dL_isTrue_8 : decode cL_isTrue 8 = .ok (.iconst 1, 1) := by decide +kernel
theorem dL_isTrue_9 : decode cL_isTrue 9 = .ok (.goto 4, 3) := by decide +kernel
theorem dL_isTrue_12 : decode cL_isTrue 12 = .ok (.iconst 0, 1) := by decide +kernel
theorem dL_isTrue_13 : decode cL_isTrue 13 = .ok (.ireturn, 1) := by decide +kernel
theorem dL_isTrue_14 : decode cL_isTrue 14 = .ok (.astore_n 2, 1) := by decide +kernel
theorem dL_isTrue_15 : decode cL_isTrue 15 = .ok (.ldc 31, 2) := by decide +kernel
theorem dL_isTrue_17 : decode cL_isTrue 17 = .ok (.ireturn, 1) := by decide +kernel
theorem dL_likeness_0 : decode cL_likeness 0 = .ok (.aload_n 0, 1) := by decide +kernel
theorem dL_likeness_1 : decode cL_likeness 1 = .ok (.iload_n 1, 1) := by decide +kernel
theorem dL_likeness_2 : decode cL_likeness 2 = .ok (.iload_n 2, 1) := by decide +kernel
theorem dL_likeness_3 : decode cL_likeness 3 = .ok (.invokevirtual 81, 3) := by decide +kernel
theorem dL_likeness_6 : decode cL_likeness 6 = .ok (.ireturn, 1) := by decide +kernel
theorem dL_likeness_7 : decode cL_likeness 7 = .ok (.astore_n 3, 1) := by decide +kernel
theorem dL_likeness_8 : decode cL_likeness 8 = .ok (.ldc 31, 2) := by decide +kernel
theorem dL_likeness_10 : decode cL_likeness 10 = .ok (.ireturn, 1) := by decide +kernel
theorem dL_letter_0 : decode cL_letter 0 = .ok (.iload_n 0, 1) := by decide +kernel
theorem dL_letter_1 : decode cL_letter 1 = .ok (.ifCond .ne 8, 3) := by decide +kernel
theorem dL_letter_4 : decode cL_letter 4 = .ok (.bipush 82, 2) := by decide +kernel
theorem dL_letter_6 : decode cL_letter 6 = .ok (.goto 55, 3) := by decide +kernel
theorem dL_letter_9 : decode cL_letter 9 = .ok (.iload_n 0, 1) := by decide +kernel
theorem dL_letter_10 : decode cL_letter 10 = .ok (.iconst 1, 1) := by decide +kernel
theorem dL_letter_11 : decode cL_letter 11 = .ok (.if_icmp .ne 8, 3) := by decide +kernel
theorem dL_letter_14 : decode cL_letter 14 = .ok (.bipush 66, 2) := by decide +kernel
theorem dL_letter_16 : decode cL_letter 16 = .ok (.goto 45, 3) := by decide +kernel
theorem dL_letter_19 : decode cL_letter 19 = .ok (.iload_n 0, 1) := by decide +kernel
theorem dL_letter_20 : decode cL_letter 20 = .ok (.iconst 2, 1) := by decide +kernel
theorem dL_letter_21 : decode cL_letter 21 = .ok (.if_icmp .ne 8, 3) := by decide +kernel
theorem dL_letter_24 : decode cL_letter 24 = .ok (.bipush 89, 2) := by decide +kernel
theorem dL_letter_26 : decode cL_letter 26 = .ok (.goto 35, 3) := by decide +kernel
theorem dL_letter_29 : decode cL_letter 29 = .ok (.iload_n 0, 1) := by decide +kernel
theorem dL_letter_30 : decode cL_letter 30 = .ok (.iconst 3, 1) := by decide +kernel
theorem dL_letter_31 : decode cL_letter 31 = .ok (.if_icmp .ne 8, 3) := by decide +kernel
theorem dL_letter_34 : decode cL_letter 34 = .ok (.bipush 71, 2) := by decide +kernel
theorem dL_letter_36 : decode cL_letter 36 = .ok (.goto 25, 3) := by decide +kernel
theorem dL_letter_39 : decode cL_letter 39 = .ok (.iload_n 0, 1) := by decide +kernel
theorem dL_letter_40 : decode cL_letter 40 = .ok (.iconst 4, 1) := by decide +kernel
theorem dL_letter_41 : decode cL_letter 41 = .ok (.if_icmp .ne 8, 3) := by decide +kernel
theorem dL_letter_44 : decode cL_letter 44 = .ok (.bipush 87, 2) := by decide +kernel
theorem dL_letter_46 : decode cL_letter 46 = .ok (.goto 15, 3) := by decide +kernel
theorem dL_letter_49 : decode cL_letter 49 = .ok (.iload_n 0, 1) := by decide +kernel
theorem dL_letter_50 : decode cL_letter 50 = .ok (.iconst 5, 1) := by decide +kernel
theorem dL_letter_51 : decode cL_letter 51 = .ok (.if_icmp .ne 8, 3) := by decide +kernel
theorem dL_letter_54 : decode cL_letter 54 = .ok (.bipush 90, 2) := by decide +kernel
theorem dL_letter_56 : decode cL_letter 56 = .ok (.goto 5, 3) := by decide +kernel
theorem dL_letter_59 : decode cL_letter 59 = .ok (.bipush 88, 2) := by decide +kernel
theorem dL_letter_61 : decode cL_letter 61 = .ok (.ireturn, 1) := by decide +kernel
theorem dL_isThere_0 : decode cL_isThere 0 = .ok (.aload_n 0, 1) := by decide +kernel
theorem dL_isThere_1 : decode cL_isThere 1 = .ok (.iload_n 1, 1) := by decide +kernel
theorem dL_isThere_2 : decode cL_isThere 2 = .ok (.iconst 0, 1) := by decide +kernel
theorem dL_isThere_3 : decode cL_isThere 3 = .ok (.invokestatic 84, 3) := by decide +kernel
theorem dL_isThere_6 : decode cL_isThere 6 = .ok (.ifCond .le 7, 3) := by decide +kernel
theorem dL_isThere_9 : decode cL_isThere 9 = .ok (.iconst 1, 1) := by decide +kernel
theorem dL_isThere_10 : decode cL_isThere 10 = .ok (.goto 4, 3) := by decide +kernel
theorem dL_isThere_13 : decode cL_isThere 13 = .ok (.iconst 0, 1) := by decide +kernel
theorem dL_isThere_14 : decode cL_isThere 14 = .ok (.ireturn, 1) := by decide +kernel
theorem dL_isPiece_0 : decode cL_isPiece 0 = .ok (.aload_n 0, 1) := by decide +kernel
theorem dL_isPiece_1 : decode cL_isPiece 1 = .ok (.iload_n 2, 1) := by decide +kernel
theorem dL_isPiece_2 : decode cL_isPiece 2 = .ok (.iconst 0, 1) := by decide +kernel
theorem dL_isPiece_3 : decode cL_isPiece 3 = .ok (.invokestatic 84, 3) := by decide +kernel
theorem dL_isPiece_6 : decode cL_isPiece 6 = .ok (.istore_n 3, 1) := by decide +kernel
theorem dL_isPiece_7 : decode cL_isPiece 7 = .ok (.aload_n 0, 1) := by decide +kernel
theorem dL_isPiece_8 : decode cL_isPiece 8 = .ok (.iload_n 2, 1) := by decide +kernel
theorem dL_isPiece_9 : decode cL_isPiece 9 = .ok (.iconst 1, 1) := by decide +kernel
theorem dL_isPiece_10 : decode cL_isPiece 10 = .ok (.invokestatic 84, 3) := by decide +kernel
theorem dL_isPiece_13 : decode cL_isPiece 13 = .ok (.istore 4, 2) := by decide +kernel
theorem dL_isPiece_15 : decode cL_isPiece 15 = .ok (.iconst 0, 1) := by decide +kernel
theorem dL_isPiece_16 : decode cL_isPiece 16 = .ok (.istore 5, 2) := by decide +kernel
theorem dL_isPiece_18 : decode cL_isPiece 18 = .ok (.iconst 0, 1) := by decide +kernel
theorem dL_isPiece_19 : decode cL_isPiece 19 = .ok (.istore 6, 2) := by decide +kernel
theorem dL_isPiece_21 : decode cL_isPiece 21 = .ok (.iload_n 3, 1) := by decide +kernel
theorem dL_isPiece_22 : decode cL_isPiece 22 = .ok (.bipush 24, 2) := by decide +kernel
theorem dL_isPiece_24 : decode cL_isPiece 24 = .ok (.if_icmp .gt 66, 3) := by decide +kernel
theorem dL_isPiece_27 : decode cL_isPiece 27 = .ok (.iload 4, 2) := by decide +kernel
theorem dL_isPiece_29 : decode cL_isPiece 29 = .ok (.bipush 10, 2) := by decide +kernel
theorem dL_isPiece_31 : decode cL_isPiece 31 = .ok (.if_icmp .gt 59, 3) := by decide +kernel
theorem dL_isPiece_34 : decode cL_isPiece 34 = .ok (.aload_n 0, 1) := by decide +kernel
theorem dL_isPiece_35 : decode cL_isPiece 35 = .ok (.iload_n 2, 1) := by decide +kernel
theorem dL_isPiece_36 : decode cL_isPiece 36 = .ok (.bipush 6, 2) := by decide +kernel
theorem dL_isPiece_38 : decode cL_isPiece 38 = .ok (.invokestatic 84, 3) := by decide +kernel
theorem dL_isPiece_41 : decode cL_isPiece 41 = .ok (.ldc 18, 2) := by decide +kernel
theorem dL_isPiece_43 : decode cL_isPiece 43 = .ok (.if_icmp .ne 47, 3) := by decide +kernel
theorem dL_isPiece_46 : decode cL_isPiece 46 = .ok (.aload_n 0, 1) := by decide +kernel
theorem dL_isPiece_47 : decode cL_isPiece 47 = .ok (.iload_n 2, 1) := by decide +kernel
theorem dL_isPiece_48 : decode cL_isPiece 48 = .ok (.iload 4, 2) := by decide +kernel
theorem dL_isPiece_50 : decode cL_isPiece 50 = .ok (.iconst 0, 1) := by decide +kernel
theorem dL_isPiece_51 : decode cL_isPiece 51 = .ok (.iconst 0, 1) := by decide +kernel
theorem dL_isPiece_52 : decode cL_isPiece 52 = .ok (.invokestatic 89, 3) := by decide +kernel
theorem dL_isPiece_55 : decode cL_isPiece 55 = .ok (.ldc 31, 2) := by decide +kernel
theorem dL_isPiece_57 : decode cL_isPiece 57 = .ok (.if_icmp .ne 33, 3) := by decide +kernel
theorem dL_isPiece_60 : decode cL_isPiece 60 = .ok (.aload_n 0, 1) := by decide +kernel
theorem dL_isPiece_61 : decode cL_isPiece 61 = .ok (.iload_n 2, 1) := by decide +kernel
theorem dL_isPiece_62 : decode cL_isPiece 62 = .ok (.iconst 0, 1) := by decide +kernel
theorem dL_isPiece_63 : decode cL_isPiece 63 = .ok (.iload_n 3, 1) := by decide +kernel
theorem dL_isPiece_64 : decode cL_isPiece 64 = .ok (.iconst 0, 1) := by decide +kernel
theorem dL_isPiece_65 : decode cL_isPiece 65 = .ok (.invokestatic 89, 3) := by decide +kernel
theorem dL_isPiece_68 : decode cL_isPiece 68 = .ok (.ldc 31, 2) := by decide +kernel
theorem dL_isPiece_70 : decode cL_isPiece 70 = .ok (.if_icmp .ne 20, 3) := by decide +kernel
theorem dL_isPiece_73 : decode cL_isPiece 73 = .ok (.aload_n 0, 1) := by decide +kernel
theorem dL_isPiece_74 : decode cL_isPiece 74 = .ok (.iload_n 2, 1) := by decide +kernel
theorem dL_isPiece_75 : decode cL_isPiece 75 = .ok (.iconst 0, 1) := by decide +kernel
theorem dL_isPiece_76 : decode cL_isPiece 76 = .ok (.iconst 0, 1) := by decide +kernel
theorem dL_isPiece_77 : decode cL_isPiece 77 = .ok (.iconst 3, 1) := by decide +kernel
theorem dL_isPiece_78 : decode cL_isPiece 78 = .ok (.invokestatic 89, 3) := by decide +kernel
theorem dL_isPiece_81 : decode cL_isPiece 81 = .ok (.ldc 18, 2) := by decide +kernel
theorem dL_isPiece_83 : decode cL_isPiece 83 = .ok (.if_icmp .ne 7, 3) := by decide +kernel
theorem dL_isPiece_86 : decode cL_isPiece 86 = .ok (.iconst 1, 1) := by decide +kernel
theorem dL_isPiece_87 : decode cL_isPiece 87 = .ok (.goto 4, 3) := by decide +kernel
theorem dL_isPiece_90 : decode cL_isPiece 90 = .ok (.iconst 0, 1) := by decide +kernel
theorem dL_isPiece_91 : decode cL_isPiece 91 = .ok (.istore 7, 2) := by decide +kernel
theorem dL_isPiece_93 : decode cL_isPiece 93 = .ok (.iconst 0, 1) := by decide +kernel
theorem dL_isPiece_94 : decode cL_isPiece 94 = .ok (.istore 8, 2) := by decide +kernel
theorem dL_isPiece_96 : decode cL_isPiece 96 = .ok (.iload 8, 2) := by decide +kernel
theorem dL_isPiece_98 : decode cL_isPiece 98 = .ok (.iload_n 3, 1) := by decide +kernel
theorem dL_isPiece_99 : decode cL_isPiece 99 = .ok (.iload 4, 2) := by decide +kernel
theorem dL_isPiece_101 : decode cL_isPiece 101 = .ok (.imul, 1) := by decide +kernel
theorem dL_isPiece_102 : decode cL_isPiece 102 = .ok (.if_icmp .ge 121, 3) := by decide +kernel
theorem dL_isPiece_105 : decode cL_isPiece 105 = .ok (.iload 7, 2) := by decide +kernel
theorem dL_isPiece_107 : decode cL_isPiece 107 = .ok (.ifCond .eq 116, 3) := by decide +kernel
theorem dL_isPiece_110 : decode cL_isPiece 110 = .ok (.aload_n 0, 1) := by decide +kernel
theorem dL_isPiece_111 : decode cL_isPiece 111 = .ok (.iload_n 2, 1) := by decide +kernel
theorem dL_isPiece_112 : decode cL_isPiece 112 = .ok (.iload 8, 2) := by decide +kernel
theorem dL_isPiece_114 : decode cL_isPiece 114 = .ok (.iload_n 3, 1) := by decide +kernel
theorem dL_isPiece_115 : decode cL_isPiece 115 = .ok (.idiv, 1) := by decide +kernel
theorem dL_isPiece_116 : decode cL_isPiece 116 = .ok (.iload 8, 2) := by decide +kernel
theorem dL_isPiece_118 : decode cL_isPiece 118 = .ok (.iload_n 3, 1) := by decide +kernel
theorem dL_isPiece_119 : decode cL_isPiece 119 = .ok (.irem, 1) := by decide +kernel
theorem dL_isPiece_120 : decode cL_isPiece 120 = .ok (.iconst 1, 1) := by decide +kernel
theorem dL_isPiece_121 : decode cL_isPiece 121 = .ok (.invokestatic 89, 3) := by decide +kernel
theorem dL_isPiece_124 : decode cL_isPiece 124 = .ok (.istore 9, 2) := by decide +kernel
theorem dL_isPiece_126 : decode cL_isPiece 126 = .ok (.aload_n 0, 1) := by decide +kernel
theorem dL_isPiece_127 : decode cL_isPiece 127 = .ok (.iload_n 2, 1) := by decide +kernel
theorem dL_isPiece_128 : decode cL_isPiece 128 = .ok (.iload 8, 2) := by decide +kernel
theorem dL_isPiece_130 : decode cL_isPiece 130 = .ok (.iload_n 3, 1) := by decide +kernel
theorem dL_isPiece_131 : decode cL_isPiece 131 = .ok (.idiv, 1) := by decide +kernel
theorem dL_isPiece_132 : decode cL_isPiece 132 = .ok (.iload 8, 2) := by decide +kernel
theorem dL_isPiece_134 : decode cL_isPiece 134 = .ok (.iload_n 3, 1) := by decide +kernel
theorem dL_isPiece_135 : decode cL_isPiece 135 = .ok (.irem, 1) := by decide +kernel
theorem dL_isPiece_136 : decode cL_isPiece 136 = .ok (.iconst 2, 1) := by decide +kernel
theorem dL_isPiece_137 : decode cL_isPiece 137 = .ok (.invokestatic 89, 3) := by decide +kernel
theorem dL_isPiece_140 : decode cL_isPiece 140 = .ok (.istore 10, 2) := by decide +kernel
theorem dL_isPiece_142 : decode cL_isPiece 142 = .ok (.iload 5, 2) := by decide +kernel
theorem dL_isPiece_144 : decode cL_isPiece 144 = .ok (.iload 9, 2) := by decide +kernel
theorem dL_isPiece_146 : decode cL_isPiece 146 = .ok (.ifCond .lt 7, 3) := by decide +kernel
theorem dL_isPiece_149 : decode cL_isPiece 149 = .ok (.iconst 1, 1) := by decide +kernel
theorem dL_isPiece_150 : decode cL_isPiece 150 = .ok (.goto 4, 3) := by decide +kernel
theorem dL_isPiece_153 : decode cL_isPiece 153 = .ok (.iconst 0, 1) := by decide +kernel
theorem dL_isPiece_154 : decode cL_isPiece 154 = .ok (.iadd, 1) := by decide +kernel
theorem dL_isPiece_155 : decode cL_isPiece 155 = .ok (.istore 5, 2) := by decide +kernel
theorem dL_isPiece_157 : decode cL_isPiece 157 = .ok (.iload 6, 2) := by decide +kernel
theorem dL_isPiece_159 : decode cL_isPiece 159 = .ok (.iload 10, 2) := by decide +kernel
theorem dL_isPiece_161 : decode cL_isPiece 161 = .ok (.iadd, 1) := by decide +kernel
theorem dL_isPiece_162 : decode cL_isPiece 162 = .ok (.istore 6, 2) := by decide +kernel
theorem dL_isPiece_164 : decode cL_isPiece 164 = .ok (.iload 10, 2) := by decide +kernel
theorem dL_isPiece_166 : decode cL_isPiece 166 = .ok (.ifCond .lt 48, 3) := by decide +kernel
theorem dL_isPiece_169 : decode cL_isPiece 169 = .ok (.iload 10, 2) := by decide +kernel
theorem dL_isPiece_171 : decode cL_isPiece 171 = .ok (.bipush 100, 2) := by decide +kernel
theorem dL_isPiece_173 : decode cL_isPiece 173 = .ok (.if_icmp .gt 41, 3) := by decide +kernel
theorem dL_isPiece_176 : decode cL_isPiece 176 = .ok (.iload 9, 2) := by decide +kernel
theorem dL_isPiece_178 : decode cL_isPiece 178 = .ok (.ifCond .ge 11, 3) := by decide +kernel
theorem dL_isPiece_181 : decode cL_isPiece 181 = .ok (.iload 10, 2) := by decide +kernel
theorem dL_isPiece_183 : decode cL_isPiece 183 = .ok (.ifCond .ne 31, 3) := by decide +kernel
theorem dL_isPiece_186 : decode cL_isPiece 186 = .ok (.goto 24, 3) := by decide +kernel
theorem dL_isPiece_189 : decode cL_isPiece 189 = .ok (.aload_n 1, 1) := by decide +kernel
theorem dL_isPiece_190 : decode cL_isPiece 190 = .ok (.iload 9, 2) := by decide +kernel
theorem dL_isPiece_192 : decode cL_isPiece 192 = .ok (.iaload, 1) := by decide +kernel
theorem dL_isPiece_193 : decode cL_isPiece 193 = .ok (.aload_n 0, 1) := by decide +kernel
theorem dL_isPiece_194 : decode cL_isPiece 194 = .ok (.iload_n 2, 1) := by decide +kernel
theorem dL_isPiece_195 : decode cL_isPiece 195 = .ok (.iload 8, 2) := by decide +kernel
theorem dL_isPiece_197 : decode cL_isPiece 197 = .ok (.iload_n 3, 1) := by decide +kernel
theorem dL_isPiece_198 : decode cL_isPiece 198 = .ok (.idiv, 1) := by decide +kernel
theorem dL_isPiece_199 : decode cL_isPiece 199 = .ok (.iload 8, 2) := by decide +kernel
theorem dL_isPiece_201 : decode cL_isPiece 201 = .ok (.iload_n 3, 1) := by decide +kernel
theorem dL_isPiece_202 : decode cL_isPiece 202 = .ok (.irem, 1) := by decide +kernel
theorem dL_isPiece_203 : decode cL_isPiece 203 = .ok (.iconst 0, 1) := by decide +kernel
theorem dL_isPiece_204 : decode cL_isPiece 204 = .ok (.invokestatic 89, 3) := by decide +kernel
theorem dL_isPiece_207 : decode cL_isPiece 207 = .ok (.if_icmp .ne 7, 3) := by decide +kernel
theorem dL_isPiece_210 : decode cL_isPiece 210 = .ok (.iconst 1, 1) := by decide +kernel
theorem dL_isPiece_211 : decode cL_isPiece 211 = .ok (.goto 4, 3) := by decide +kernel
theorem dL_isPiece_214 : decode cL_isPiece 214 = .ok (.iconst 0, 1) := by decide +kernel
theorem dL_isPiece_215 : decode cL_isPiece 215 = .ok (.istore 7, 2) := by decide +kernel
theorem dL_isPiece_217 : decode cL_isPiece 217 = .ok (.iinc 8 1, 3) := by decide +kernel
theorem dL_isPiece_220 : decode cL_isPiece 220 = .ok (.goto (-124), 3) := by decide +kernel
theorem dL_isPiece_223 : decode cL_isPiece 223 = .ok (.aload_n 0, 1) := by decide +kernel
theorem dL_isPiece_224 : decode cL_isPiece 224 = .ok (.iload_n 2, 1) := by decide +kernel
theorem dL_isPiece_225 : decode cL_isPiece 225 = .ok (.iconst 3, 1) := by decide +kernel
theorem dL_isPiece_226 : decode cL_isPiece 226 = .ok (.invokestatic 84, 3) := by decide +kernel
theorem dL_isPiece_229 : decode cL_isPiece 229 = .ok (.istore 8, 2) := by decide +kernel
theorem dL_isPiece_231 : decode cL_isPiece 231 = .ok (.aload_n 0, 1) := by decide +kernel
theorem dL_isPiece_232 : decode cL_isPiece 232 = .ok (.iload_n 2, 1) := by decide +kernel
theorem dL_isPiece_233 : decode cL_isPiece 233 = .ok (.iconst 4, 1) := by decide +kernel
theorem dL_isPiece_234 : decode cL_isPiece 234 = .ok (.invokestatic 84, 3) := by decide +kernel
theorem dL_isPiece_237 : decode cL_isPiece 237 = .ok (.istore 9, 2) := by decide +kernel
theorem dL_isPiece_239 : decode cL_isPiece 239 = .ok (.iload 7, 2) := by decide +kernel
theorem dL_isPiece_241 : decode cL_isPiece 241 = .ok (.ifCond .eq 76, 3) := by decide +kernel
theorem dL_isPiece_244 : decode cL_isPiece 244 = .ok (.aload_n 0, 1) := by decide +kernel
theorem dL_isPiece_245 : decode cL_isPiece 245 = .ok (.iload_n 2, 1) := by decide +kernel
theorem dL_isPiece_246 : decode cL_isPiece 246 = .ok (.iconst 2, 1) := by decide +kernel
theorem dL_isPiece_247 : decode cL_isPiece 247 = .ok (.invokestatic 84, 3) := by decide +kernel
theorem dL_isPiece_250 : decode cL_isPiece 250 = .ok (.iload 5, 2) := by decide +kernel
theorem dL_isPiece_252 : decode cL_isPiece 252 = .ok (.if_icmp .ne 65, 3) := by decide +kernel
theorem dL_isPiece_255 : decode cL_isPiece 255 = .ok (.aload_n 0, 1) := by decide +kernel
theorem dL_isPiece_256 : decode cL_isPiece 256 = .ok (.iload_n 2, 1) := by decide +kernel
theorem dL_isPiece_257 : decode cL_isPiece 257 = .ok (.iconst 5, 1) := by decide +kernel
theorem dL_isPiece_258 : decode cL_isPiece 258 = .ok (.invokestatic 84, 3) := by decide +kernel
theorem dL_isPiece_261 : decode cL_isPiece 261 = .ok (.iload 6, 2) := by decide +kernel
theorem dL_isPiece_263 : decode cL_isPiece 263 = .ok (.if_icmp .ne 54, 3) := by decide +kernel
theorem dL_isPiece_266 : decode cL_isPiece 266 = .ok (.iload 8, 2) := by decide +kernel
theorem dL_isPiece_268 : decode cL_isPiece 268 = .ok (.iload 5, 2) := by decide +kernel
theorem dL_isPiece_270 : decode cL_isPiece 270 = .ok (.iload_n 3, 1) := by decide +kernel
theorem dL_isPiece_271 : decode cL_isPiece 271 = .ok (.iload 4, 2) := by decide +kernel
theorem dL_isPiece_273 : decode cL_isPiece 273 = .ok (.imul, 1) := by decide +kernel
theorem dL_isPiece_274 : decode cL_isPiece 274 = .ok (.if_icmp .ne 7, 3) := by decide +kernel
theorem dL_isPiece_277 : decode cL_isPiece 277 = .ok (.iconst 1, 1) := by decide +kernel
theorem dL_isPiece_278 : decode cL_isPiece 278 = .ok (.goto 4, 3) := by decide +kernel
theorem dL_isPiece_281 : decode cL_isPiece 281 = .ok (.iconst 0, 1) := by decide +kernel
theorem dL_isPiece_282 : decode cL_isPiece 282 = .ok (.if_icmp .ne 35, 3) := by decide +kernel
theorem dL_isPiece_285 : decode cL_isPiece 285 = .ok (.iload 9, 2) := by decide +kernel
theorem dL_isPiece_287 : decode cL_isPiece 287 = .ok (.ifCond .lt 30, 3) := by decide +kernel
theorem dL_isPiece_290 : decode cL_isPiece 290 = .ok (.iload 9, 2) := by decide +kernel
theorem dL_isPiece_292 : decode cL_isPiece 292 = .ok (.iload_n 3, 1) := by decide +kernel
theorem dL_isPiece_293 : decode cL_isPiece 293 = .ok (.if_icmp .ge 24, 3) := by decide +kernel
theorem dL_isPiece_296 : decode cL_isPiece 296 = .ok (.iload 8, 2) := by decide +kernel
theorem dL_isPiece_298 : decode cL_isPiece 298 = .ok (.iconst 1, 1) := by decide +kernel
theorem dL_isPiece_299 : decode cL_isPiece 299 = .ok (.if_icmp .ne 9, 3) := by decide +kernel
theorem dL_isPiece_302 : decode cL_isPiece 302 = .ok (.iload 4, 2) := by decide +kernel
theorem dL_isPiece_304 : decode cL_isPiece 304 = .ok (.iconst 2, 1) := by decide +kernel
theorem dL_isPiece_305 : decode cL_isPiece 305 = .ok (.if_icmp .gt 8, 3) := by decide +kernel
theorem dL_isPiece_308 : decode cL_isPiece 308 = .ok (.iload 9, 2) := by decide +kernel
theorem dL_isPiece_310 : decode cL_isPiece 310 = .ok (.ifCond .ne 7, 3) := by decide +kernel
theorem dL_isPiece_313 : decode cL_isPiece 313 = .ok (.iconst 1, 1) := by decide +kernel
theorem dL_isPiece_314 : decode cL_isPiece 314 = .ok (.goto 4, 3) := by decide +kernel
theorem dL_isPiece_317 : decode cL_isPiece 317 = .ok (.iconst 0, 1) := by decide +kernel
theorem dL_isPiece_318 : decode cL_isPiece 318 = .ok (.ireturn, 1) := by decide +kernel
theorem dL_draws_0 : decode cL_draws 0 = .ok (.iload_n 3, 1) := by decide +kernel
theorem dL_draws_1 : decode cL_draws 1 = .ok (.iconst 4, 1) := by decide +kernel
theorem dL_draws_2 : decode cL_draws 2 = .ok (.invokestatic 92, 3) := by decide +kernel
theorem dL_draws_5 : decode cL_draws 5 = .ok (.istore 5, 2) := by decide +kernel
theorem dL_draws_7 : decode cL_draws 7 = .ok (.iload 5, 2) := by decide +kernel
theorem dL_draws_9 : decode cL_draws 9 = .ok (.ifCond .ne 56, 3) := by decide +kernel
theorem dL_draws_12 : decode cL_draws 12 = .ok (.aload_n 1, 1) := by decide +kernel
theorem dL_draws_13 : decode cL_draws 13 = .ok (.iconst 0, 1) := by decide +kernel
theorem dL_draws_14 : decode cL_draws 14 = .ok (.iaload, 1) := by decide +kernel
theorem dL_draws_15 : decode cL_draws 15 = .ok (.iconst 5, 1) := by decide +kernel
theorem dL_draws_16 : decode cL_draws 16 = .ok (.if_icmp .ge 49, 3) := by decide +kernel
theorem dL_draws_19 : decode cL_draws 19 = .ok (.iconst 2, 1) := by decide +kernel
theorem dL_draws_20 : decode cL_draws 20 = .ok (.iload 4, 2) := by decide +kernel
theorem dL_draws_22 : decode cL_draws 22 = .ok (.iconst 5, 1) := by decide +kernel
theorem dL_draws_23 : decode cL_draws 23 = .ok (.invokestatic 92, 3) := by decide +kernel
theorem dL_draws_26 : decode cL_draws 26 = .ok (.iadd, 1) := by decide +kernel
theorem dL_draws_27 : decode cL_draws 27 = .ok (.istore 6, 2) := by decide +kernel
theorem dL_draws_29 : decode cL_draws 29 = .ok (.aload_n 2, 1) := by decide +kernel
theorem dL_draws_30 : decode cL_draws 30 = .ok (.iconst 2, 1) := by decide +kernel
theorem dL_draws_31 : decode cL_draws 31 = .ok (.aload_n 1, 1) := by decide +kernel
theorem dL_draws_32 : decode cL_draws 32 = .ok (.iconst 0, 1) := by decide +kernel
theorem dL_draws_33 : decode cL_draws 33 = .ok (.iaload, 1) := by decide +kernel
theorem dL_draws_34 : decode cL_draws 34 = .ok (.imul, 1) := by decide +kernel
theorem dL_draws_35 : decode cL_draws 35 = .ok (.iload 6, 2) := by decide +kernel
theorem dL_draws_37 : decode cL_draws 37 = .ok (.iastore, 1) := by decide +kernel
theorem dL_draws_38 : decode cL_draws 38 = .ok (.aload_n 1, 1) := by decide +kernel
theorem dL_draws_39 : decode cL_draws 39 = .ok (.iconst 0, 1) := by decide +kernel
theorem dL_draws_40 : decode cL_draws 40 = .ok (.dup2, 1) := by decide +kernel
theorem dL_draws_41 : decode cL_draws 41 = .ok (.iaload, 1) := by decide +kernel
theorem dL_draws_42 : decode cL_draws 42 = .ok (.iconst 1, 1) := by decide +kernel
theorem dL_draws_43 : decode cL_draws 43 = .ok (.iadd, 1) := by decide +kernel
theorem dL_draws_44 : decode cL_draws 44 = .ok (.iastore, 1) := by decide +kernel
theorem dL_draws_45 : decode cL_draws 45 = .ok (.aload_n 0, 1) := by decide +kernel
theorem dL_draws_46 : decode cL_draws 46 = .ok (.iload 6, 2) := by decide +kernel
theorem dL_draws_48 : decode cL_draws 48 = .ok (.invokestatic 95, 3) := by decide +kernel
theorem dL_draws_51 : decode cL_draws 51 = .ok (.aload_n 1, 1) := by decide +kernel
theorem dL_draws_52 : decode cL_draws 52 = .ok (.iconst 0, 1) := by decide +kernel
theorem dL_draws_53 : decode cL_draws 53 = .ok (.iaload, 1) := by decide +kernel
theorem dL_draws_54 : decode cL_draws 54 = .ok (.iconst 1, 1) := by decide +kernel
theorem dL_draws_55 : decode cL_draws 55 = .ok (.isub, 1) := by decide +kernel
theorem dL_draws_56 : decode cL_draws 56 = .ok (.if_icmp .ne 7, 3) := by decide +kernel
theorem dL_draws_59 : decode cL_draws 59 = .ok (.iconst 1, 1) := by decide +kernel
theorem dL_draws_60 : decode cL_draws 60 = .ok (.goto 4, 3) := by decide +kernel
theorem dL_draws_63 : decode cL_draws 63 = .ok (.iconst 0, 1) := by decide +kernel
theorem dL_draws_64 : decode cL_draws 64 = .ok (.ireturn, 1) := by decide +kernel
theorem dL_draws_65 : decode cL_draws 65 = .ok (.iload 5, 2) := by decide +kernel
theorem dL_draws_67 : decode cL_draws 67 = .ok (.iconst 3, 1) := by decide +kernel
theorem dL_draws_68 : decode cL_draws 68 = .ok (.if_icmp .ge 185, 3) := by decide +kernel
theorem dL_draws_71 : decode cL_draws 71 = .ok (.aload_n 1, 1) := by decide +kernel
theorem dL_draws_72 : decode cL_draws 72 = .ok (.iconst 0, 1) := by decide +kernel
theorem dL_draws_73 : decode cL_draws 73 = .ok (.iaload, 1) := by decide +kernel
theorem dL_draws_74 : decode cL_draws 74 = .ok (.ifCond .le 179, 3) := by decide +kernel
theorem dL_draws_77 : decode cL_draws 77 = .ok (.iload_n 3, 1) := by decide +kernel
theorem dL_draws_78 : decode cL_draws 78 = .ok (.iconst 2, 1) := by decide +kernel
theorem dL_draws_79 : decode cL_draws 79 = .ok (.ishr, 1) := by decide +kernel
theorem dL_draws_80 : decode cL_draws 80 = .ok (.aload_n 1, 1) := by decide +kernel
theorem dL_draws_81 : decode cL_draws 81 = .ok (.iconst 0, 1) := by decide +kernel
theorem dL_draws_82 : decode cL_draws 82 = .ok (.iaload, 1) := by decide +kernel
theorem dL_draws_83 : decode cL_draws 83 = .ok (.invokestatic 92, 3) := by decide +kernel
theorem dL_draws_86 : decode cL_draws 86 = .ok (.istore 6, 2) := by decide +kernel
theorem dL_draws_88 : decode cL_draws 88 = .ok (.aload_n 0, 1) := by decide +kernel
theorem dL_draws_89 : decode cL_draws 89 = .ok (.invokevirtual 98, 3) := by decide +kernel
theorem dL_draws_92 : decode cL_draws 92 = .ok (.ifCond .lt 7, 3) := by decide +kernel
theorem dL_draws_95 : decode cL_draws 95 = .ok (.iconst 1, 1) := by decide +kernel
theorem dL_draws_96 : decode cL_draws 96 = .ok (.goto 4, 3) := by decide +kernel
theorem dL_draws_99 : decode cL_draws 99 = .ok (.iconst 0, 1) := by decide +kernel
theorem dL_draws_100 : decode cL_draws 100 = .ok (.istore 7, 2) := by decide +kernel
theorem dL_draws_102 : decode cL_draws 102 = .ok (.iconst 0, 1) := by decide +kernel
theorem dL_draws_103 : decode cL_draws 103 = .ok (.istore 8, 2) := by decide +kernel
theorem dL_draws_105 : decode cL_draws 105 = .ok (.iload 8, 2) := by decide +kernel
theorem dL_draws_107 : decode cL_draws 107 = .ok (.aload_n 2, 1) := by decide +kernel
theorem dL_draws_108 : decode cL_draws 108 = .ok (.iconst 2, 1) := by decide +kernel
theorem dL_draws_109 : decode cL_draws 109 = .ok (.iload 6, 2) := by decide +kernel
theorem dL_draws_111 : decode cL_draws 111 = .ok (.imul, 1) := by decide +kernel
theorem dL_draws_112 : decode cL_draws 112 = .ok (.iaload, 1) := by decide +kernel
theorem dL_draws_113 : decode cL_draws 113 = .ok (.if_icmp .ge 47, 3) := by decide +kernel
theorem dL_draws_116 : decode cL_draws 116 = .ok (.iload 7, 2) := by decide +kernel
theorem dL_draws_118 : decode cL_draws 118 = .ok (.ifCond .eq 33, 3) := by decide +kernel
theorem dL_draws_121 : decode cL_draws 121 = .ok (.aload_n 0, 1) := by decide +kernel
theorem dL_draws_122 : decode cL_draws 122 = .ok (.iload 4, 2) := by decide +kernel
theorem dL_draws_124 : decode cL_draws 124 = .ok (.iconst 3, 1) := by decide +kernel
theorem dL_draws_125 : decode cL_draws 125 = .ok (.iload 8, 2) := by decide +kernel
theorem dL_draws_127 : decode cL_draws 127 = .ok (.imul, 1) := by decide +kernel
theorem dL_draws_128 : decode cL_draws 128 = .ok (.ishr, 1) := by decide +kernel
theorem dL_draws_129 : decode cL_draws 129 = .ok (.bipush 7, 2) := by decide +kernel
theorem dL_draws_131 : decode cL_draws 131 = .ok (.invokestatic 92, 3) := by decide +kernel
theorem dL_draws_134 : decode cL_draws 134 = .ok (.invokestatic 102, 3) := by decide +kernel
theorem dL_draws_137 : decode cL_draws 137 = .ok (.invokestatic 106, 3) := by decide +kernel
theorem dL_draws_140 : decode cL_draws 140 = .ok (.iload 8, 2) := by decide +kernel
theorem dL_draws_142 : decode cL_draws 142 = .ok (.iconst 1, 1) := by decide +kernel
theorem dL_draws_143 : decode cL_draws 143 = .ok (.iadd, 1) := by decide +kernel
theorem dL_draws_144 : decode cL_draws 144 = .ok (.if_icmp .ne 7, 3) := by decide +kernel
theorem dL_draws_147 : decode cL_draws 147 = .ok (.iconst 1, 1) := by decide +kernel
theorem dL_draws_148 : decode cL_draws 148 = .ok (.goto 4, 3) := by decide +kernel
theorem dL_draws_151 : decode cL_draws 151 = .ok (.iconst 0, 1) := by decide +kernel
theorem dL_draws_152 : decode cL_draws 152 = .ok (.istore 7, 2) := by decide +kernel
theorem dL_draws_154 : decode cL_draws 154 = .ok (.iinc 8 1, 3) := by decide +kernel
theorem dL_draws_157 : decode cL_draws 157 = .ok (.goto (-52), 3) := by decide +kernel
theorem dL_draws_160 : decode cL_draws 160 = .ok (.aload_n 2, 1) := by decide +kernel
theorem dL_draws_161 : decode cL_draws 161 = .ok (.iconst 2, 1) := by decide +kernel
theorem dL_draws_162 : decode cL_draws 162 = .ok (.iload 6, 2) := by decide +kernel
theorem dL_draws_164 : decode cL_draws 164 = .ok (.imul, 1) := by decide +kernel
theorem dL_draws_165 : decode cL_draws 165 = .ok (.iconst 1, 1) := by decide +kernel
theorem dL_draws_166 : decode cL_draws 166 = .ok (.iadd, 1) := by decide +kernel
theorem dL_draws_167 : decode cL_draws 167 = .ok (.iaload, 1) := by decide +kernel
theorem dL_draws_168 : decode cL_draws 168 = .ok (.bipush 10, 2) := by decide +kernel
theorem dL_draws_170 : decode cL_draws 170 = .ok (.if_icmp .ne 25, 3) := by decide +kernel
theorem dL_draws_173 : decode cL_draws 173 = .ok (.iload 7, 2) := by decide +kernel
theorem dL_draws_175 : decode cL_draws 175 = .ok (.ifCond .eq 18, 3) := by decide +kernel
theorem dL_draws_178 : decode cL_draws 178 = .ok (.aload_n 0, 1) := by decide +kernel
theorem dL_draws_179 : decode cL_draws 179 = .ok (.iload 6, 2) := by decide +kernel
theorem dL_draws_181 : decode cL_draws 181 = .ok (.invokestatic 109, 3) := by decide +kernel
theorem dL_draws_184 : decode cL_draws 184 = .ok (.ldc 21, 2) := by decide +kernel
theorem dL_draws_186 : decode cL_draws 186 = .ok (.if_icmp .ne 7, 3) := by decide +kernel
theorem dL_draws_189 : decode cL_draws 189 = .ok (.iconst 1, 1) := by decide +kernel
theorem dL_draws_190 : decode cL_draws 190 = .ok (.goto 4, 3) := by decide +kernel
theorem dL_draws_193 : decode cL_draws 193 = .ok (.iconst 0, 1) := by decide +kernel
theorem dL_draws_194 : decode cL_draws 194 = .ok (.ireturn, 1) := by decide +kernel
theorem dL_draws_195 : decode cL_draws 195 = .ok (.aload_n 2, 1) := by decide +kernel
theorem dL_draws_196 : decode cL_draws 196 = .ok (.iconst 2, 1) := by decide +kernel
theorem dL_draws_197 : decode cL_draws 197 = .ok (.iload 6, 2) := by decide +kernel
theorem dL_draws_199 : decode cL_draws 199 = .ok (.imul, 1) := by decide +kernel
theorem dL_draws_200 : decode cL_draws 200 = .ok (.iconst 1, 1) := by decide +kernel
theorem dL_draws_201 : decode cL_draws 201 = .ok (.iadd, 1) := by decide +kernel
theorem dL_draws_202 : decode cL_draws 202 = .ok (.dup2, 1) := by decide +kernel
theorem dL_draws_203 : decode cL_draws 203 = .ok (.iaload, 1) := by decide +kernel
theorem dL_draws_204 : decode cL_draws 204 = .ok (.iconst 1, 1) := by decide +kernel
theorem dL_draws_205 : decode cL_draws 205 = .ok (.iadd, 1) := by decide +kernel
theorem dL_draws_206 : decode cL_draws 206 = .ok (.iastore, 1) := by decide +kernel
theorem dL_draws_207 : decode cL_draws 207 = .ok (.iload 7, 2) := by decide +kernel
theorem dL_draws_209 : decode cL_draws 209 = .ok (.ifCond .eq 42, 3) := by decide +kernel
theorem dL_draws_212 : decode cL_draws 212 = .ok (.aload_n 0, 1) := by decide +kernel
theorem dL_draws_213 : decode cL_draws 213 = .ok (.iload 6, 2) := by decide +kernel
theorem dL_draws_215 : decode cL_draws 215 = .ok (.invokestatic 109, 3) := by decide +kernel
theorem dL_draws_218 : decode cL_draws 218 = .ok (.aload_n 2, 1) := by decide +kernel
theorem dL_draws_219 : decode cL_draws 219 = .ok (.iconst 2, 1) := by decide +kernel
theorem dL_draws_220 : decode cL_draws 220 = .ok (.iload 6, 2) := by decide +kernel
theorem dL_draws_222 : decode cL_draws 222 = .ok (.imul, 1) := by decide +kernel
theorem dL_draws_223 : decode cL_draws 223 = .ok (.iconst 1, 1) := by decide +kernel
theorem dL_draws_224 : decode cL_draws 224 = .ok (.iadd, 1) := by decide +kernel
theorem dL_draws_225 : decode cL_draws 225 = .ok (.iaload, 1) := by decide +kernel
theorem dL_draws_226 : decode cL_draws 226 = .ok (.if_icmp .ne 25, 3) := by decide +kernel
theorem dL_draws_229 : decode cL_draws 229 = .ok (.aload_n 0, 1) := by decide +kernel
theorem dL_draws_230 : decode cL_draws 230 = .ok (.iload 6, 2) := by decide +kernel
theorem dL_draws_232 : decode cL_draws 232 = .ok (.invokestatic 109, 3) := by decide +kernel
theorem dL_draws_235 : decode cL_draws 235 = .ok (.ldc 21, 2) := by decide +kernel
theorem dL_draws_237 : decode cL_draws 237 = .ok (.if_icmp .ne 14, 3) := by decide +kernel
theorem dL_draws_240 : decode cL_draws 240 = .ok (.aload_n 0, 1) := by decide +kernel
theorem dL_draws_241 : decode cL_draws 241 = .ok (.invokevirtual 98, 3) := by decide +kernel
theorem dL_draws_244 : decode cL_draws 244 = .ok (.ifCond .ne 7, 3) := by decide +kernel
theorem dL_draws_247 : decode cL_draws 247 = .ok (.iconst 1, 1) := by decide +kernel
theorem dL_draws_248 : decode cL_draws 248 = .ok (.goto 4, 3) := by decide +kernel
theorem dL_draws_251 : decode cL_draws 251 = .ok (.iconst 0, 1) := by decide +kernel
theorem dL_draws_252 : decode cL_draws 252 = .ok (.ireturn, 1) := by decide +kernel
theorem dL_draws_253 : decode cL_draws 253 = .ok (.aload_n 0, 1) := by decide +kernel
theorem dL_draws_254 : decode cL_draws 254 = .ok (.aload_n 1, 1) := by decide +kernel
theorem dL_draws_255 : decode cL_draws 255 = .ok (.iconst 0, 1) := by decide +kernel
theorem dL_draws_256 : decode cL_draws 256 = .ok (.iaload, 1) := by decide +kernel
theorem dL_draws_257 : decode cL_draws 257 = .ok (.iconst 0, 1) := by decide +kernel
theorem dL_draws_258 : decode cL_draws 258 = .ok (.iconst 0, 1) := by decide +kernel
theorem dL_draws_259 : decode cL_draws 259 = .ok (.invokestatic 111, 3) := by decide +kernel
theorem dL_draws_262 : decode cL_draws 262 = .ok (.ldc 31, 2) := by decide +kernel
theorem dL_draws_264 : decode cL_draws 264 = .ok (.if_icmp .ne 45, 3) := by decide +kernel
theorem dL_draws_267 : decode cL_draws 267 = .ok (.aload_n 1, 1) := by decide +kernel
theorem dL_draws_268 : decode cL_draws 268 = .ok (.iconst 0, 1) := by decide +kernel
theorem dL_draws_269 : decode cL_draws 269 = .ok (.iaload, 1) := by decide +kernel
theorem dL_draws_270 : decode cL_draws 270 = .ok (.ifCond .eq 35, 3) := by decide +kernel
theorem dL_draws_273 : decode cL_draws 273 = .ok (.aload_n 0, 1) := by decide +kernel
theorem dL_draws_274 : decode cL_draws 274 = .ok (.iload_n 3, 1) := by decide +kernel
theorem dL_draws_275 : decode cL_draws 275 = .ok (.iconst 2, 1) := by decide +kernel
theorem dL_draws_276 : decode cL_draws 276 = .ok (.ishr, 1) := by decide +kernel
theorem dL_draws_277 : decode cL_draws 277 = .ok (.aload_n 1, 1) := by decide +kernel
theorem dL_draws_278 : decode cL_draws 278 = .ok (.iconst 0, 1) := by decide +kernel
theorem dL_draws_279 : decode cL_draws 279 = .ok (.iaload, 1) := by decide +kernel
theorem dL_draws_280 : decode cL_draws 280 = .ok (.invokestatic 92, 3) := by decide +kernel
theorem dL_draws_283 : decode cL_draws 283 = .ok (.iload 4, 2) := by decide +kernel
theorem dL_draws_285 : decode cL_draws 285 = .ok (.bipush 6, 2) := by decide +kernel
theorem dL_draws_287 : decode cL_draws 287 = .ok (.invokestatic 92, 3) := by decide +kernel
theorem dL_draws_290 : decode cL_draws 290 = .ok (.iload 4, 2) := by decide +kernel
theorem dL_draws_292 : decode cL_draws 292 = .ok (.iconst 3, 1) := by decide +kernel
theorem dL_draws_293 : decode cL_draws 293 = .ok (.ishr, 1) := by decide +kernel
theorem dL_draws_294 : decode cL_draws 294 = .ok (.bipush 6, 2) := by decide +kernel
theorem dL_draws_296 : decode cL_draws 296 = .ok (.invokestatic 92, 3) := by decide +kernel
theorem dL_draws_299 : decode cL_draws 299 = .ok (.invokestatic 111, 3) := by decide +kernel
theorem dL_draws_302 : decode cL_draws 302 = .ok (.ifCond .ne 7, 3) := by decide +kernel
theorem dL_draws_305 : decode cL_draws 305 = .ok (.iconst 1, 1) := by decide +kernel
theorem dL_draws_306 : decode cL_draws 306 = .ok (.goto 4, 3) := by decide +kernel
theorem dL_draws_309 : decode cL_draws 309 = .ok (.iconst 0, 1) := by decide +kernel
theorem dL_draws_310 : decode cL_draws 310 = .ok (.ireturn, 1) := by decide +kernel
theorem dL_weaves_0 : decode cL_weaves 0 = .ok (.iload_n 2, 1) := by decide +kernel
theorem dL_weaves_1 : decode cL_weaves 1 = .ok (.aload_n 1, 1) := by decide +kernel
theorem dL_weaves_2 : decode cL_weaves 2 = .ok (.iconst 2, 1) := by decide +kernel
theorem dL_weaves_3 : decode cL_weaves 3 = .ok (.iaload, 1) := by decide +kernel
theorem dL_weaves_4 : decode cL_weaves 4 = .ok (.invokestatic 92, 3) := by decide +kernel
theorem dL_weaves_7 : decode cL_weaves 7 = .ok (.istore 4, 2) := by decide +kernel
theorem dL_weaves_9 : decode cL_weaves 9 = .ok (.iload_n 3, 1) := by decide +kernel
theorem dL_weaves_10 : decode cL_weaves 10 = .ok (.iconst 4, 1) := by decide +kernel
theorem dL_weaves_11 : decode cL_weaves 11 = .ok (.invokestatic 92, 3) := by decide +kernel
theorem dL_weaves_14 : decode cL_weaves 14 = .ok (.istore 5, 2) := by decide +kernel
theorem dL_weaves_16 : decode cL_weaves 16 = .ok (.aload_n 0, 1) := by decide +kernel
theorem dL_weaves_17 : decode cL_weaves 17 = .ok (.iload 4, 2) := by decide +kernel
theorem dL_weaves_19 : decode cL_weaves 19 = .ok (.iconst 2, 1) := by decide +kernel
theorem dL_weaves_20 : decode cL_weaves 20 = .ok (.invokestatic 84, 3) := by decide +kernel
theorem dL_weaves_23 : decode cL_weaves 23 = .ok (.istore 6, 2) := by decide +kernel
theorem dL_weaves_25 : decode cL_weaves 25 = .ok (.aload_n 0, 1) := by decide +kernel
theorem dL_weaves_26 : decode cL_weaves 26 = .ok (.iload 4, 2) := by decide +kernel
theorem dL_weaves_28 : decode cL_weaves 28 = .ok (.iload 5, 2) := by decide +kernel
theorem dL_weaves_30 : decode cL_weaves 30 = .ok (.invokestatic 114, 3) := by decide +kernel
theorem dL_weaves_33 : decode cL_weaves 33 = .ok (.istore 7, 2) := by decide +kernel
theorem dL_weaves_35 : decode cL_weaves 35 = .ok (.aload_n 0, 1) := by decide +kernel
theorem dL_weaves_36 : decode cL_weaves 36 = .ok (.iload 4, 2) := by decide +kernel
theorem dL_weaves_38 : decode cL_weaves 38 = .ok (.iconst 2, 1) := by decide +kernel
theorem dL_weaves_39 : decode cL_weaves 39 = .ok (.invokestatic 84, 3) := by decide +kernel
theorem dL_weaves_42 : decode cL_weaves 42 = .ok (.istore 8, 2) := by decide +kernel
theorem dL_weaves_44 : decode cL_weaves 44 = .ok (.iload 7, 2) := by decide +kernel
theorem dL_weaves_46 : decode cL_weaves 46 = .ok (.ldc 31, 2) := by decide +kernel
theorem dL_weaves_48 : decode cL_weaves 48 = .ok (.if_icmp .eq 10, 3) := by decide +kernel
theorem dL_weaves_51 : decode cL_weaves 51 = .ok (.iload 7, 2) := by decide +kernel
theorem dL_weaves_53 : decode cL_weaves 53 = .ok (.ldc 21, 2) := by decide +kernel
theorem dL_weaves_55 : decode cL_weaves 55 = .ok (.if_icmp .ne 18, 3) := by decide +kernel
theorem dL_weaves_58 : decode cL_weaves 58 = .ok (.iload 8, 2) := by decide +kernel
theorem dL_weaves_60 : decode cL_weaves 60 = .ok (.iload 6, 2) := by decide +kernel
theorem dL_weaves_62 : decode cL_weaves 62 = .ok (.if_icmp .ne 7, 3) := by decide +kernel
theorem dL_weaves_65 : decode cL_weaves 65 = .ok (.iconst 1, 1) := by decide +kernel
theorem dL_weaves_66 : decode cL_weaves 66 = .ok (.goto 36, 3) := by decide +kernel
theorem dL_weaves_69 : decode cL_weaves 69 = .ok (.iconst 0, 1) := by decide +kernel
theorem dL_weaves_70 : decode cL_weaves 70 = .ok (.goto 32, 3) := by decide +kernel
theorem dL_weaves_73 : decode cL_weaves 73 = .ok (.iload 7, 2) := by decide +kernel
theorem dL_weaves_75 : decode cL_weaves 75 = .ok (.ifCond .lt 26, 3) := by decide +kernel
theorem dL_weaves_78 : decode cL_weaves 78 = .ok (.iload 7, 2) := by decide +kernel
theorem dL_weaves_80 : decode cL_weaves 80 = .ok (.aload_n 0, 1) := by decide +kernel
theorem dL_weaves_81 : decode cL_weaves 81 = .ok (.iload 4, 2) := by decide +kernel
theorem dL_weaves_83 : decode cL_weaves 83 = .ok (.iconst 1, 1) := by decide +kernel
theorem dL_weaves_84 : decode cL_weaves 84 = .ok (.invokestatic 84, 3) := by decide +kernel
theorem dL_weaves_87 : decode cL_weaves 87 = .ok (.if_icmp .ge 14, 3) := by decide +kernel
theorem dL_weaves_90 : decode cL_weaves 90 = .ok (.iload 8, 2) := by decide +kernel
theorem dL_weaves_92 : decode cL_weaves 92 = .ok (.iload 6, 2) := by decide +kernel
theorem dL_weaves_94 : decode cL_weaves 94 = .ok (.if_icmp .le 7, 3) := by decide +kernel
theorem dL_weaves_97 : decode cL_weaves 97 = .ok (.iconst 1, 1) := by decide +kernel
theorem dL_weaves_98 : decode cL_weaves 98 = .ok (.goto 4, 3) := by decide +kernel
theorem dL_weaves_101 : decode cL_weaves 101 = .ok (.iconst 0, 1) := by decide +kernel
theorem dL_weaves_102 : decode cL_weaves 102 = .ok (.ireturn, 1) := by decide +kernel
theorem dL_wears_0 : decode cL_wears 0 = .ok (.aload_n 0, 1) := by decide +kernel
theorem dL_wears_1 : decode cL_wears 1 = .ok (.iload_n 2, 1) := by decide +kernel
theorem dL_wears_2 : decode cL_wears 2 = .ok (.iconst 5, 1) := by decide +kernel
theorem dL_wears_3 : decode cL_wears 3 = .ok (.invokestatic 84, 3) := by decide +kernel
theorem dL_wears_6 : decode cL_wears 6 = .ok (.istore 5, 2) := by decide +kernel
theorem dL_wears_8 : decode cL_wears 8 = .ok (.iload_n 3, 1) := by decide +kernel
theorem dL_wears_9 : decode cL_wears 9 = .ok (.iconst 2, 1) := by decide +kernel
theorem dL_wears_10 : decode cL_wears 10 = .ok (.invokestatic 92, 3) := by decide +kernel
theorem dL_wears_13 : decode cL_wears 13 = .ok (.ifCond .ne 21, 3) := by decide +kernel
theorem dL_wears_16 : decode cL_wears 16 = .ok (.aload_n 0, 1) := by decide +kernel
theorem dL_wears_17 : decode cL_wears 17 = .ok (.iload_n 2, 1) := by decide +kernel
theorem dL_wears_18 : decode cL_wears 18 = .ok (.iconst 1, 1) := by decide +kernel
theorem dL_wears_19 : decode cL_wears 19 = .ok (.iload 4, 2) := by decide +kernel
theorem dL_wears_21 : decode cL_wears 21 = .ok (.sipush 600, 3) := by decide +kernel
theorem dL_wears_24 : decode cL_wears 24 = .ok (.invokestatic 92, 3) := by decide +kernel
theorem dL_wears_27 : decode cL_wears 27 = .ok (.iadd, 1) := by decide +kernel
theorem dL_wears_28 : decode cL_wears 28 = .ok (.invokestatic 116, 3) := by decide +kernel
theorem dL_wears_31 : decode cL_wears 31 = .ok (.goto 8, 3) := by decide +kernel
theorem dL_wears_34 : decode cL_wears 34 = .ok (.aload_n 0, 1) := by decide +kernel
theorem dL_wears_35 : decode cL_wears 35 = .ok (.iload_n 2, 1) := by decide +kernel
theorem dL_wears_36 : decode cL_wears 36 = .ok (.invokestatic 118, 3) := by decide +kernel
theorem dL_wears_39 : decode cL_wears 39 = .ok (.istore 6, 2) := by decide +kernel
theorem dL_wears_41 : decode cL_wears 41 = .ok (.aload_n 0, 1) := by decide +kernel
theorem dL_wears_42 : decode cL_wears 42 = .ok (.iload_n 2, 1) := by decide +kernel
theorem dL_wears_43 : decode cL_wears 43 = .ok (.iconst 3, 1) := by decide +kernel
theorem dL_wears_44 : decode cL_wears 44 = .ok (.invokestatic 84, 3) := by decide +kernel
theorem dL_wears_47 : decode cL_wears 47 = .ok (.ifCond .ne 27, 3) := by decide +kernel
theorem dL_wears_50 : decode cL_wears 50 = .ok (.iload 6, 2) := by decide +kernel
theorem dL_wears_52 : decode cL_wears 52 = .ok (.ldc 21, 2) := by decide +kernel
theorem dL_wears_54 : decode cL_wears 54 = .ok (.if_icmp .ne 18, 3) := by decide +kernel
theorem dL_wears_57 : decode cL_wears 57 = .ok (.aload_n 0, 1) := by decide +kernel
theorem dL_wears_58 : decode cL_wears 58 = .ok (.iload_n 2, 1) := by decide +kernel
theorem dL_wears_59 : decode cL_wears 59 = .ok (.iconst 5, 1) := by decide +kernel
theorem dL_wears_60 : decode cL_wears 60 = .ok (.invokestatic 84, 3) := by decide +kernel
theorem dL_wears_63 : decode cL_wears 63 = .ok (.iload 5, 2) := by decide +kernel
theorem dL_wears_65 : decode cL_wears 65 = .ok (.if_icmp .ne 7, 3) := by decide +kernel
theorem dL_wears_68 : decode cL_wears 68 = .ok (.iconst 1, 1) := by decide +kernel
theorem dL_wears_69 : decode cL_wears 69 = .ok (.goto 4, 3) := by decide +kernel
theorem dL_wears_72 : decode cL_wears 72 = .ok (.iconst 0, 1) := by decide +kernel
theorem dL_wears_73 : decode cL_wears 73 = .ok (.ireturn, 1) := by decide +kernel
theorem dL_wears_74 : decode cL_wears 74 = .ok (.aload_n 1, 1) := by decide +kernel
theorem dL_wears_75 : decode cL_wears 75 = .ok (.iload_n 2, 1) := by decide +kernel
theorem dL_wears_76 : decode cL_wears 76 = .ok (.iload 6, 2) := by decide +kernel
theorem dL_wears_78 : decode cL_wears 78 = .ok (.iastore, 1) := by decide +kernel
theorem dL_wears_79 : decode cL_wears 79 = .ok (.iload 6, 2) := by decide +kernel
theorem dL_wears_81 : decode cL_wears 81 = .ok (.ifCond .lt 25, 3) := by decide +kernel
theorem dL_wears_84 : decode cL_wears 84 = .ok (.iload 6, 2) := by decide +kernel
theorem dL_wears_86 : decode cL_wears 86 = .ok (.iload 5, 2) := by decide +kernel
theorem dL_wears_88 : decode cL_wears 88 = .ok (.if_icmp .gt 18, 3) := by decide +kernel
theorem dL_wears_91 : decode cL_wears 91 = .ok (.iload 6, 2) := by decide +kernel
theorem dL_wears_93 : decode cL_wears 93 = .ok (.aload_n 0, 1) := by decide +kernel
theorem dL_wears_94 : decode cL_wears 94 = .ok (.iload_n 2, 1) := by decide +kernel
theorem dL_wears_95 : decode cL_wears 95 = .ok (.iconst 5, 1) := by decide +kernel
theorem dL_wears_96 : decode cL_wears 96 = .ok (.invokestatic 84, 3) := by decide +kernel
theorem dL_wears_99 : decode cL_wears 99 = .ok (.if_icmp .ne 7, 3) := by decide +kernel
theorem dL_wears_102 : decode cL_wears 102 = .ok (.iconst 1, 1) := by decide +kernel
theorem dL_wears_103 : decode cL_wears 103 = .ok (.goto 4, 3) := by decide +kernel
theorem dL_wears_106 : decode cL_wears 106 = .ok (.iconst 0, 1) := by decide +kernel
theorem dL_wears_107 : decode cL_wears 107 = .ok (.ireturn, 1) := by decide +kernel
theorem dL_sews_0 : decode cL_sews 0 = .ok (.aload_n 0, 1) := by decide +kernel
theorem dL_sews_1 : decode cL_sews 1 = .ok (.iload_n 1, 1) := by decide +kernel
theorem dL_sews_2 : decode cL_sews 2 = .ok (.iconst 0, 1) := by decide +kernel
theorem dL_sews_3 : decode cL_sews 3 = .ok (.invokestatic 84, 3) := by decide +kernel
theorem dL_sews_6 : decode cL_sews 6 = .ok (.istore_n 3, 1) := by decide +kernel
theorem dL_sews_7 : decode cL_sews 7 = .ok (.iload_n 2, 1) := by decide +kernel
theorem dL_sews_8 : decode cL_sews 8 = .ok (.bipush 14, 2) := by decide +kernel
theorem dL_sews_10 : decode cL_sews 10 = .ok (.invokestatic 92, 3) := by decide +kernel
theorem dL_sews_13 : decode cL_sews 13 = .ok (.istore 4, 2) := by decide +kernel
theorem dL_sews_15 : decode cL_sews 15 = .ok (.aload_n 0, 1) := by decide +kernel
theorem dL_sews_16 : decode cL_sews 16 = .ok (.iload_n 1, 1) := by decide +kernel
theorem dL_sews_17 : decode cL_sews 17 = .ok (.iconst 4, 1) := by decide +kernel
theorem dL_sews_18 : decode cL_sews 18 = .ok (.invokestatic 84, 3) := by decide +kernel
theorem dL_sews_21 : decode cL_sews 21 = .ok (.istore 5, 2) := by decide +kernel
theorem dL_sews_23 : decode cL_sews 23 = .ok (.aload_n 0, 1) := by decide +kernel
theorem dL_sews_24 : decode cL_sews 24 = .ok (.iload_n 1, 1) := by decide +kernel
theorem dL_sews_25 : decode cL_sews 25 = .ok (.iload 4, 2) := by decide +kernel
theorem dL_sews_27 : decode cL_sews 27 = .ok (.invokestatic 120, 3) := by decide +kernel
theorem dL_sews_30 : decode cL_sews 30 = .ok (.istore 6, 2) := by decide +kernel
theorem dL_sews_32 : decode cL_sews 32 = .ok (.iload 4, 2) := by decide +kernel
theorem dL_sews_34 : decode cL_sews 34 = .ok (.ifCond .eq 9, 3) := by decide +kernel
theorem dL_sews_37 : decode cL_sews 37 = .ok (.iload 4, 2) := by decide +kernel
theorem dL_sews_39 : decode cL_sews 39 = .ok (.iload_n 3, 1) := by decide +kernel
theorem dL_sews_40 : decode cL_sews 40 = .ok (.if_icmp .lt 16, 3) := by decide +kernel
theorem dL_sews_43 : decode cL_sews 43 = .ok (.iload 6, 2) := by decide +kernel
theorem dL_sews_45 : decode cL_sews 45 = .ok (.ldc 31, 2) := by decide +kernel
theorem dL_sews_47 : decode cL_sews 47 = .ok (.if_icmp .ne 7, 3) := by decide +kernel
theorem dL_sews_50 : decode cL_sews 50 = .ok (.iconst 1, 1) := by decide +kernel
theorem dL_sews_51 : decode cL_sews 51 = .ok (.goto 4, 3) := by decide +kernel
theorem dL_sews_54 : decode cL_sews 54 = .ok (.iconst 0, 1) := by decide +kernel
theorem dL_sews_55 : decode cL_sews 55 = .ok (.ireturn, 1) := by decide +kernel
theorem dL_sews_56 : decode cL_sews 56 = .ok (.aload_n 0, 1) := by decide +kernel
theorem dL_sews_57 : decode cL_sews 57 = .ok (.iload_n 1, 1) := by decide +kernel
theorem dL_sews_58 : decode cL_sews 58 = .ok (.iconst 3, 1) := by decide +kernel
theorem dL_sews_59 : decode cL_sews 59 = .ok (.invokestatic 84, 3) := by decide +kernel
theorem dL_sews_62 : decode cL_sews 62 = .ok (.ifCond .ne 16, 3) := by decide +kernel
theorem dL_sews_65 : decode cL_sews 65 = .ok (.iload 6, 2) := by decide +kernel
theorem dL_sews_67 : decode cL_sews 67 = .ok (.ldc 21, 2) := by decide +kernel
theorem dL_sews_69 : decode cL_sews 69 = .ok (.if_icmp .ne 7, 3) := by decide +kernel
theorem dL_sews_72 : decode cL_sews 72 = .ok (.iconst 1, 1) := by decide +kernel
theorem dL_sews_73 : decode cL_sews 73 = .ok (.goto 4, 3) := by decide +kernel
theorem dL_sews_76 : decode cL_sews 76 = .ok (.iconst 0, 1) := by decide +kernel
theorem dL_sews_77 : decode cL_sews 77 = .ok (.ireturn, 1) := by decide +kernel
theorem dL_sews_78 : decode cL_sews 78 = .ok (.iload 6, 2) := by decide +kernel
theorem dL_sews_80 : decode cL_sews 80 = .ok (.ifCond .lt 31, 3) := by decide +kernel
theorem dL_sews_83 : decode cL_sews 83 = .ok (.aload_n 0, 1) := by decide +kernel
theorem dL_sews_84 : decode cL_sews 84 = .ok (.iload_n 1, 1) := by decide +kernel
theorem dL_sews_85 : decode cL_sews 85 = .ok (.iconst 4, 1) := by decide +kernel
theorem dL_sews_86 : decode cL_sews 86 = .ok (.invokestatic 84, 3) := by decide +kernel
theorem dL_sews_89 : decode cL_sews 89 = .ok (.iload 5, 2) := by decide +kernel
theorem dL_sews_91 : decode cL_sews 91 = .ok (.iload 6, 2) := by decide +kernel
theorem dL_sews_93 : decode cL_sews 93 = .ok (.isub, 1) := by decide +kernel
theorem dL_sews_94 : decode cL_sews 94 = .ok (.if_icmp .ne 17, 3) := by decide +kernel
theorem dL_sews_97 : decode cL_sews 97 = .ok (.aload_n 0, 1) := by decide +kernel
theorem dL_sews_98 : decode cL_sews 98 = .ok (.iload_n 1, 1) := by decide +kernel
theorem dL_sews_99 : decode cL_sews 99 = .ok (.iload 4, 2) := by decide +kernel
theorem dL_sews_101 : decode cL_sews 101 = .ok (.invokestatic 120, 3) := by decide +kernel
theorem dL_sews_104 : decode cL_sews 104 = .ok (.ifCond .ne 7, 3) := by decide +kernel
theorem dL_sews_107 : decode cL_sews 107 = .ok (.iconst 1, 1) := by decide +kernel
theorem dL_sews_108 : decode cL_sews 108 = .ok (.goto 4, 3) := by decide +kernel
theorem dL_sews_111 : decode cL_sews 111 = .ok (.iconst 0, 1) := by decide +kernel
theorem dL_sews_112 : decode cL_sews 112 = .ok (.ireturn, 1) := by decide +kernel
theorem dL_cuts_0 : decode cL_cuts 0 = .ok (.aload_n 0, 1) := by decide +kernel
theorem dL_cuts_1 : decode cL_cuts 1 = .ok (.iload_n 3, 1) := by decide +kernel
theorem dL_cuts_2 : decode cL_cuts 2 = .ok (.iconst 0, 1) := by decide +kernel
theorem dL_cuts_3 : decode cL_cuts 3 = .ok (.invokestatic 84, 3) := by decide +kernel
theorem dL_cuts_6 : decode cL_cuts 6 = .ok (.istore 5, 2) := by decide +kernel
theorem dL_cuts_8 : decode cL_cuts 8 = .ok (.iload 4, 2) := by decide +kernel
theorem dL_cuts_10 : decode cL_cuts 10 = .ok (.bipush 14, 2) := by decide +kernel
theorem dL_cuts_12 : decode cL_cuts 12 = .ok (.invokestatic 92, 3) := by decide +kernel
theorem dL_cuts_15 : decode cL_cuts 15 = .ok (.istore 6, 2) := by decide +kernel
theorem dL_cuts_17 : decode cL_cuts 17 = .ok (.aload_n 0, 1) := by decide +kernel
theorem dL_cuts_18 : decode cL_cuts 18 = .ok (.iload_n 3, 1) := by decide +kernel
theorem dL_cuts_19 : decode cL_cuts 19 = .ok (.iconst 5, 1) := by decide +kernel
theorem dL_cuts_20 : decode cL_cuts 20 = .ok (.invokestatic 84, 3) := by decide +kernel
theorem dL_cuts_23 : decode cL_cuts 23 = .ok (.istore 7, 2) := by decide +kernel
theorem dL_cuts_25 : decode cL_cuts 25 = .ok (.aload_n 0, 1) := by decide +kernel
theorem dL_cuts_26 : decode cL_cuts 26 = .ok (.iload_n 3, 1) := by decide +kernel
theorem dL_cuts_27 : decode cL_cuts 27 = .ok (.invokestatic 122, 3) := by decide +kernel
theorem dL_cuts_30 : decode cL_cuts 30 = .ok (.istore 8, 2) := by decide +kernel
theorem dL_cuts_32 : decode cL_cuts 32 = .ok (.aload_n 0, 1) := by decide +kernel
theorem dL_cuts_33 : decode cL_cuts 33 = .ok (.iload_n 3, 1) := by decide +kernel
theorem dL_cuts_34 : decode cL_cuts 34 = .ok (.iload 6, 2) := by decide +kernel
theorem dL_cuts_36 : decode cL_cuts 36 = .ok (.invokestatic 124, 3) := by decide +kernel
theorem dL_cuts_39 : decode cL_cuts 39 = .ok (.istore 9, 2) := by decide +kernel
theorem dL_cuts_41 : decode cL_cuts 41 = .ok (.iload 6, 2) := by decide +kernel
theorem dL_cuts_43 : decode cL_cuts 43 = .ok (.ifCond .eq 10, 3) := by decide +kernel
theorem dL_cuts_46 : decode cL_cuts 46 = .ok (.iload 6, 2) := by decide +kernel
theorem dL_cuts_48 : decode cL_cuts 48 = .ok (.iload 5, 2) := by decide +kernel
theorem dL_cuts_50 : decode cL_cuts 50 = .ok (.if_icmp .lt 16, 3) := by decide +kernel
theorem dL_cuts_53 : decode cL_cuts 53 = .ok (.iload 9, 2) := by decide +kernel
theorem dL_cuts_55 : decode cL_cuts 55 = .ok (.ldc 31, 2) := by decide +kernel
theorem dL_cuts_57 : decode cL_cuts 57 = .ok (.if_icmp .ne 7, 3) := by decide +kernel
theorem dL_cuts_60 : decode cL_cuts 60 = .ok (.iconst 1, 1) := by decide +kernel
theorem dL_cuts_61 : decode cL_cuts 61 = .ok (.goto 4, 3) := by decide +kernel
theorem dL_cuts_64 : decode cL_cuts 64 = .ok (.iconst 0, 1) := by decide +kernel
theorem dL_cuts_65 : decode cL_cuts 65 = .ok (.ireturn, 1) := by decide +kernel
theorem dL_cuts_66 : decode cL_cuts 66 = .ok (.aload_n 0, 1) := by decide +kernel
theorem dL_cuts_67 : decode cL_cuts 67 = .ok (.iload_n 3, 1) := by decide +kernel
theorem dL_cuts_68 : decode cL_cuts 68 = .ok (.iconst 3, 1) := by decide +kernel
theorem dL_cuts_69 : decode cL_cuts 69 = .ok (.invokestatic 84, 3) := by decide +kernel
theorem dL_cuts_72 : decode cL_cuts 72 = .ok (.ifCond .eq 11, 3) := by decide +kernel
theorem dL_cuts_75 : decode cL_cuts 75 = .ok (.aload_n 1, 1) := by decide +kernel
theorem dL_cuts_76 : decode cL_cuts 76 = .ok (.iconst 2, 1) := by decide +kernel
theorem dL_cuts_77 : decode cL_cuts 77 = .ok (.iaload, 1) := by decide +kernel
theorem dL_cuts_78 : decode cL_cuts 78 = .ok (.bipush 20, 2) := by decide +kernel
theorem dL_cuts_80 : decode cL_cuts 80 = .ok (.if_icmp .ne 16, 3) := by decide +kernel
theorem dL_cuts_83 : decode cL_cuts 83 = .ok (.iload 9, 2) := by decide +kernel
theorem dL_cuts_85 : decode cL_cuts 85 = .ok (.ldc 21, 2) := by decide +kernel
theorem dL_cuts_87 : decode cL_cuts 87 = .ok (.if_icmp .ne 7, 3) := by decide +kernel
theorem dL_cuts_90 : decode cL_cuts 90 = .ok (.iconst 1, 1) := by decide +kernel
theorem dL_cuts_91 : decode cL_cuts 91 = .ok (.goto 4, 3) := by decide +kernel
theorem dL_cuts_94 : decode cL_cuts 94 = .ok (.iconst 0, 1) := by decide +kernel
theorem dL_cuts_95 : decode cL_cuts 95 = .ok (.ireturn, 1) := by decide +kernel
theorem dL_cuts_96 : decode cL_cuts 96 = .ok (.aload_n 1, 1) := by decide +kernel
theorem dL_cuts_97 : decode cL_cuts 97 = .ok (.iconst 2, 1) := by decide +kernel
theorem dL_cuts_98 : decode cL_cuts 98 = .ok (.dup2, 1) := by decide +kernel
theorem dL_cuts_99 : decode cL_cuts 99 = .ok (.iaload, 1) := by decide +kernel
theorem dL_cuts_100 : decode cL_cuts 100 = .ok (.iconst 1, 1) := by decide +kernel
theorem dL_cuts_101 : decode cL_cuts 101 = .ok (.iadd, 1) := by decide +kernel
theorem dL_cuts_102 : decode cL_cuts 102 = .ok (.iastore, 1) := by decide +kernel
theorem dL_cuts_103 : decode cL_cuts 103 = .ok (.iload 9, 2) := by decide +kernel
theorem dL_cuts_105 : decode cL_cuts 105 = .ok (.aload_n 1, 1) := by decide +kernel
theorem dL_cuts_106 : decode cL_cuts 106 = .ok (.iconst 2, 1) := by decide +kernel
theorem dL_cuts_107 : decode cL_cuts 107 = .ok (.iaload, 1) := by decide +kernel
theorem dL_cuts_108 : decode cL_cuts 108 = .ok (.iconst 1, 1) := by decide +kernel
theorem dL_cuts_109 : decode cL_cuts 109 = .ok (.isub, 1) := by decide +kernel
theorem dL_cuts_110 : decode cL_cuts 110 = .ok (.if_icmp .ne 107, 3) := by decide +kernel
theorem dL_cuts_113 : decode cL_cuts 113 = .ok (.aload_n 0, 1) := by decide +kernel
theorem dL_cuts_114 : decode cL_cuts 114 = .ok (.iload_n 3, 1) := by decide +kernel
theorem dL_cuts_115 : decode cL_cuts 115 = .ok (.iconst 0, 1) := by decide +kernel
theorem dL_cuts_116 : decode cL_cuts 116 = .ok (.invokestatic 84, 3) := by decide +kernel
theorem dL_cuts_119 : decode cL_cuts 119 = .ok (.iload 6, 2) := by decide +kernel
theorem dL_cuts_121 : decode cL_cuts 121 = .ok (.if_icmp .ne 96, 3) := by decide +kernel
theorem dL_cuts_124 : decode cL_cuts 124 = .ok (.aload_n 0, 1) := by decide +kernel
theorem dL_cuts_125 : decode cL_cuts 125 = .ok (.iload 9, 2) := by decide +kernel
theorem dL_cuts_127 : decode cL_cuts 127 = .ok (.iconst 0, 1) := by decide +kernel
theorem dL_cuts_128 : decode cL_cuts 128 = .ok (.invokestatic 84, 3) := by decide +kernel
theorem dL_cuts_131 : decode cL_cuts 131 = .ok (.iload 5, 2) := by decide +kernel
theorem dL_cuts_133 : decode cL_cuts 133 = .ok (.iload 6, 2) := by decide +kernel
theorem dL_cuts_135 : decode cL_cuts 135 = .ok (.isub, 1) := by decide +kernel
theorem dL_cuts_136 : decode cL_cuts 136 = .ok (.if_icmp .ne 81, 3) := by decide +kernel
theorem dL_cuts_139 : decode cL_cuts 139 = .ok (.aload_n 0, 1) := by decide +kernel
theorem dL_cuts_140 : decode cL_cuts 140 = .ok (.iload_n 3, 1) := by decide +kernel
theorem dL_cuts_141 : decode cL_cuts 141 = .ok (.iconst 5, 1) := by decide +kernel
theorem dL_cuts_142 : decode cL_cuts 142 = .ok (.invokestatic 84, 3) := by decide +kernel
theorem dL_cuts_145 : decode cL_cuts 145 = .ok (.aload_n 0, 1) := by decide +kernel
theorem dL_cuts_146 : decode cL_cuts 146 = .ok (.iload 9, 2) := by decide +kernel
theorem dL_cuts_148 : decode cL_cuts 148 = .ok (.iconst 5, 1) := by decide +kernel
theorem dL_cuts_149 : decode cL_cuts 149 = .ok (.invokestatic 84, 3) := by decide +kernel
theorem dL_cuts_152 : decode cL_cuts 152 = .ok (.iadd, 1) := by decide +kernel
theorem dL_cuts_153 : decode cL_cuts 153 = .ok (.iload 7, 2) := by decide +kernel
theorem dL_cuts_155 : decode cL_cuts 155 = .ok (.if_icmp .ne 62, 3) := by decide +kernel
theorem dL_cuts_158 : decode cL_cuts 158 = .ok (.iload 8, 2) := by decide +kernel
theorem dL_cuts_160 : decode cL_cuts 160 = .ok (.ifCond .eq 22, 3) := by decide +kernel
theorem dL_cuts_163 : decode cL_cuts 163 = .ok (.aload_n 0, 1) := by decide +kernel
theorem dL_cuts_164 : decode cL_cuts 164 = .ok (.iload_n 3, 1) := by decide +kernel
theorem dL_cuts_165 : decode cL_cuts 165 = .ok (.invokestatic 122, 3) := by decide +kernel
theorem dL_cuts_168 : decode cL_cuts 168 = .ok (.iconst 1, 1) := by decide +kernel
theorem dL_cuts_169 : decode cL_cuts 169 = .ok (.if_icmp .ne 48, 3) := by decide +kernel
theorem dL_cuts_172 : decode cL_cuts 172 = .ok (.aload_n 0, 1) := by decide +kernel
theorem dL_cuts_173 : decode cL_cuts 173 = .ok (.iload 9, 2) := by decide +kernel
theorem dL_cuts_175 : decode cL_cuts 175 = .ok (.invokestatic 122, 3) := by decide +kernel
theorem dL_cuts_178 : decode cL_cuts 178 = .ok (.iconst 1, 1) := by decide +kernel
theorem dL_cuts_179 : decode cL_cuts 179 = .ok (.if_icmp .ne 38, 3) := by decide +kernel
theorem dL_cuts_182 : decode cL_cuts 182 = .ok (.aload_n 0, 1) := by decide +kernel
theorem dL_cuts_183 : decode cL_cuts 183 = .ok (.iload 9, 2) := by decide +kernel
theorem dL_cuts_185 : decode cL_cuts 185 = .ok (.iconst 0, 1) := by decide +kernel
theorem dL_cuts_186 : decode cL_cuts 186 = .ok (.invokestatic 114, 3) := by decide +kernel
theorem dL_cuts_189 : decode cL_cuts 189 = .ok (.ldc 31, 2) := by decide +kernel
theorem dL_cuts_191 : decode cL_cuts 191 = .ok (.if_icmp .ne 26, 3) := by decide +kernel
theorem dL_cuts_194 : decode cL_cuts 194 = .ok (.aload_n 0, 1) := by decide +kernel
theorem dL_cuts_195 : decode cL_cuts 195 = .ok (.aload_n 2, 1) := by decide +kernel
theorem dL_cuts_196 : decode cL_cuts 196 = .ok (.iload_n 3, 1) := by decide +kernel
theorem dL_cuts_197 : decode cL_cuts 197 = .ok (.invokestatic 126, 3) := by decide +kernel
theorem dL_cuts_200 : decode cL_cuts 200 = .ok (.ifCond .eq 17, 3) := by decide +kernel
theorem dL_cuts_203 : decode cL_cuts 203 = .ok (.aload_n 0, 1) := by decide +kernel
theorem dL_cuts_204 : decode cL_cuts 204 = .ok (.aload_n 2, 1) := by decide +kernel
theorem dL_cuts_205 : decode cL_cuts 205 = .ok (.iload 9, 2) := by decide +kernel
theorem dL_cuts_207 : decode cL_cuts 207 = .ok (.invokestatic 126, 3) := by decide +kernel
theorem dL_cuts_210 : decode cL_cuts 210 = .ok (.ifCond .eq 7, 3) := by decide +kernel
theorem dL_cuts_213 : decode cL_cuts 213 = .ok (.iconst 1, 1) := by decide +kernel
theorem dL_cuts_214 : decode cL_cuts 214 = .ok (.goto 4, 3) := by decide +kernel
theorem dL_cuts_217 : decode cL_cuts 217 = .ok (.iconst 0, 1) := by decide +kernel
theorem dL_cuts_218 : decode cL_cuts 218 = .ok (.istore 10, 2) := by decide +kernel
theorem dL_cuts_220 : decode cL_cuts 220 = .ok (.iload 10, 2) := by decide +kernel
theorem dL_cuts_222 : decode cL_cuts 222 = .ok (.ifCond .eq 14, 3) := by decide +kernel
theorem dL_cuts_225 : decode cL_cuts 225 = .ok (.iload 4, 2) := by decide +kernel
theorem dL_cuts_227 : decode cL_cuts 227 = .ok (.iconst 5, 1) := by decide +kernel
theorem dL_cuts_228 : decode cL_cuts 228 = .ok (.ishr, 1) := by decide +kernel
theorem dL_cuts_229 : decode cL_cuts 229 = .ok (.iconst 2, 1) := by decide +kernel
theorem dL_cuts_230 : decode cL_cuts 230 = .ok (.invokestatic 92, 3) := by decide +kernel
theorem dL_cuts_233 : decode cL_cuts 233 = .ok (.ifCond .ne 6, 3) := by decide +kernel
theorem dL_cuts_236 : decode cL_cuts 236 = .ok (.iload 10, 2) := by decide +kernel
theorem dL_cuts_238 : decode cL_cuts 238 = .ok (.ireturn, 1) := by decide +kernel
theorem dL_cuts_239 : decode cL_cuts 239 = .ok (.aload_n 0, 1) := by decide +kernel
theorem dL_cuts_240 : decode cL_cuts 240 = .ok (.iload_n 3, 1) := by decide +kernel
theorem dL_cuts_241 : decode cL_cuts 241 = .ok (.iload 9, 2) := by decide +kernel
theorem dL_cuts_243 : decode cL_cuts 243 = .ok (.invokestatic 130, 3) := by decide +kernel
theorem dL_cuts_246 : decode cL_cuts 246 = .ok (.istore 11, 2) := by decide +kernel
theorem dL_cuts_248 : decode cL_cuts 248 = .ok (.iload 8, 2) := by decide +kernel
theorem dL_cuts_250 : decode cL_cuts 250 = .ok (.ifCond .eq 9, 3) := by decide +kernel
theorem dL_cuts_253 : decode cL_cuts 253 = .ok (.iload 11, 2) := by decide +kernel
theorem dL_cuts_255 : decode cL_cuts 255 = .ok (.iconst 1, 1) := by decide +kernel
theorem dL_cuts_256 : decode cL_cuts 256 = .ok (.if_icmp .ne 51, 3) := by decide +kernel
theorem dL_cuts_259 : decode cL_cuts 259 = .ok (.aload_n 0, 1) := by decide +kernel
theorem dL_cuts_260 : decode cL_cuts 260 = .ok (.iload_n 3, 1) := by decide +kernel
theorem dL_cuts_261 : decode cL_cuts 261 = .ok (.invokestatic 122, 3) := by decide +kernel
theorem dL_cuts_264 : decode cL_cuts 264 = .ok (.iload 8, 2) := by decide +kernel
theorem dL_cuts_266 : decode cL_cuts 266 = .ok (.if_icmp .lt 41, 3) := by decide +kernel
theorem dL_cuts_269 : decode cL_cuts 269 = .ok (.aload_n 0, 1) := by decide +kernel
theorem dL_cuts_270 : decode cL_cuts 270 = .ok (.iload_n 3, 1) := by decide +kernel
theorem dL_cuts_271 : decode cL_cuts 271 = .ok (.iconst 0, 1) := by decide +kernel
theorem dL_cuts_272 : decode cL_cuts 272 = .ok (.invokestatic 84, 3) := by decide +kernel
theorem dL_cuts_275 : decode cL_cuts 275 = .ok (.iload 5, 2) := by decide +kernel
theorem dL_cuts_277 : decode cL_cuts 277 = .ok (.if_icmp .ne 30, 3) := by decide +kernel
theorem dL_cuts_280 : decode cL_cuts 280 = .ok (.aload_n 0, 1) := by decide +kernel
theorem dL_cuts_281 : decode cL_cuts 281 = .ok (.iload 9, 2) := by decide +kernel
theorem dL_cuts_283 : decode cL_cuts 283 = .ok (.iconst 0, 1) := by decide +kernel
theorem dL_cuts_284 : decode cL_cuts 284 = .ok (.invokestatic 84, 3) := by decide +kernel
theorem dL_cuts_287 : decode cL_cuts 287 = .ok (.ldc 31, 2) := by decide +kernel
theorem dL_cuts_289 : decode cL_cuts 289 = .ok (.if_icmp .ne 18, 3) := by decide +kernel
theorem dL_cuts_292 : decode cL_cuts 292 = .ok (.aload_n 0, 1) := by decide +kernel
theorem dL_cuts_293 : decode cL_cuts 293 = .ok (.iload_n 3, 1) := by decide +kernel
theorem dL_cuts_294 : decode cL_cuts 294 = .ok (.iconst 5, 1) := by decide +kernel
theorem dL_cuts_295 : decode cL_cuts 295 = .ok (.invokestatic 84, 3) := by decide +kernel
theorem dL_cuts_298 : decode cL_cuts 298 = .ok (.iload 7, 2) := by decide +kernel
theorem dL_cuts_300 : decode cL_cuts 300 = .ok (.if_icmp .ne 7, 3) := by decide +kernel
theorem dL_cuts_303 : decode cL_cuts 303 = .ok (.iconst 1, 1) := by decide +kernel
theorem dL_cuts_304 : decode cL_cuts 304 = .ok (.goto 4, 3) := by decide +kernel
theorem dL_cuts_307 : decode cL_cuts 307 = .ok (.iconst 0, 1) := by decide +kernel
theorem dL_cuts_308 : decode cL_cuts 308 = .ok (.ireturn, 1) := by decide +kernel
theorem dL_joins_0 : decode cL_joins 0 = .ok (.aload_n 0, 1) := by decide +kernel
theorem dL_joins_1 : decode cL_joins 1 = .ok (.iload_n 2, 1) := by decide +kernel
theorem dL_joins_2 : decode cL_joins 2 = .ok (.iload_n 3, 1) := by decide +kernel
theorem dL_joins_3 : decode cL_joins 3 = .ok (.invokestatic 132, 3) := by decide +kernel
theorem dL_joins_6 : decode cL_joins 6 = .ok (.istore 4, 2) := by decide +kernel
theorem dL_joins_8 : decode cL_joins 8 = .ok (.aload_n 0, 1) := by decide +kernel
theorem dL_joins_9 : decode cL_joins 9 = .ok (.iload_n 2, 1) := by decide +kernel
theorem dL_joins_10 : decode cL_joins 10 = .ok (.invokestatic 134, 3) := by decide +kernel
theorem dL_joins_13 : decode cL_joins 13 = .ok (.ifCond .eq 11, 3) := by decide +kernel
theorem dL_joins_16 : decode cL_joins 16 = .ok (.aload_n 0, 1) := by decide +kernel
theorem dL_joins_17 : decode cL_joins 17 = .ok (.iload_n 3, 1) := by decide +kernel
theorem dL_joins_18 : decode cL_joins 18 = .ok (.invokestatic 134, 3) := by decide +kernel
theorem dL_joins_21 : decode cL_joins 21 = .ok (.ifCond .ne 27, 3) := by decide +kernel
theorem dL_joins_24 : decode cL_joins 24 = .ok (.iload 4, 2) := by decide +kernel
theorem dL_joins_26 : decode cL_joins 26 = .ok (.ldc 31, 2) := by decide +kernel
theorem dL_joins_28 : decode cL_joins 28 = .ok (.if_icmp .ne 18, 3) := by decide +kernel
theorem dL_joins_31 : decode cL_joins 31 = .ok (.aload_n 0, 1) := by decide +kernel
theorem dL_joins_32 : decode cL_joins 32 = .ok (.iload_n 2, 1) := by decide +kernel
theorem dL_joins_33 : decode cL_joins 33 = .ok (.iload_n 3, 1) := by decide +kernel
theorem dL_joins_34 : decode cL_joins 34 = .ok (.invokestatic 130, 3) := by decide +kernel
theorem dL_joins_37 : decode cL_joins 37 = .ok (.ldc 31, 2) := by decide +kernel
theorem dL_joins_39 : decode cL_joins 39 = .ok (.if_icmp .ne 7, 3) := by decide +kernel
theorem dL_joins_42 : decode cL_joins 42 = .ok (.iconst 1, 1) := by decide +kernel
theorem dL_joins_43 : decode cL_joins 43 = .ok (.goto 4, 3) := by decide +kernel
theorem dL_joins_46 : decode cL_joins 46 = .ok (.iconst 0, 1) := by decide +kernel
theorem dL_joins_47 : decode cL_joins 47 = .ok (.ireturn, 1) := by decide +kernel
theorem dL_joins_48 : decode cL_joins 48 = .ok (.iload_n 2, 1) := by decide +kernel
theorem dL_joins_49 : decode cL_joins 49 = .ok (.iload_n 3, 1) := by decide +kernel
theorem dL_joins_50 : decode cL_joins 50 = .ok (.if_icmp .ne 27, 3) := by decide +kernel
theorem dL_joins_53 : decode cL_joins 53 = .ok (.iload 4, 2) := by decide +kernel
theorem dL_joins_55 : decode cL_joins 55 = .ok (.ldc 18, 2) := by decide +kernel
theorem dL_joins_57 : decode cL_joins 57 = .ok (.if_icmp .ne 18, 3) := by decide +kernel
theorem dL_joins_60 : decode cL_joins 60 = .ok (.aload_n 0, 1) := by decide +kernel
theorem dL_joins_61 : decode cL_joins 61 = .ok (.iload_n 2, 1) := by decide +kernel
theorem dL_joins_62 : decode cL_joins 62 = .ok (.iload_n 3, 1) := by decide +kernel
theorem dL_joins_63 : decode cL_joins 63 = .ok (.invokestatic 130, 3) := by decide +kernel
theorem dL_joins_66 : decode cL_joins 66 = .ok (.ldc 18, 2) := by decide +kernel
theorem dL_joins_68 : decode cL_joins 68 = .ok (.if_icmp .ne 7, 3) := by decide +kernel
theorem dL_joins_71 : decode cL_joins 71 = .ok (.iconst 1, 1) := by decide +kernel
theorem dL_joins_72 : decode cL_joins 72 = .ok (.goto 4, 3) := by decide +kernel
theorem dL_joins_75 : decode cL_joins 75 = .ok (.iconst 0, 1) := by decide +kernel
theorem dL_joins_76 : decode cL_joins 76 = .ok (.ireturn, 1) := by decide +kernel
theorem dL_joins_77 : decode cL_joins 77 = .ok (.aload_n 0, 1) := by decide +kernel
theorem dL_joins_78 : decode cL_joins 78 = .ok (.iload_n 2, 1) := by decide +kernel
theorem dL_joins_79 : decode cL_joins 79 = .ok (.iconst 0, 1) := by decide +kernel
theorem dL_joins_80 : decode cL_joins 80 = .ok (.invokestatic 84, 3) := by decide +kernel
theorem dL_joins_83 : decode cL_joins 83 = .ok (.aload_n 0, 1) := by decide +kernel
theorem dL_joins_84 : decode cL_joins 84 = .ok (.iload_n 3, 1) := by decide +kernel
theorem dL_joins_85 : decode cL_joins 85 = .ok (.iconst 0, 1) := by decide +kernel
theorem dL_joins_86 : decode cL_joins 86 = .ok (.invokestatic 84, 3) := by decide +kernel
theorem dL_joins_89 : decode cL_joins 89 = .ok (.iadd, 1) := by decide +kernel
theorem dL_joins_90 : decode cL_joins 90 = .ok (.istore 5, 2) := by decide +kernel
theorem dL_joins_92 : decode cL_joins 92 = .ok (.aload_n 0, 1) := by decide +kernel
theorem dL_joins_93 : decode cL_joins 93 = .ok (.iload_n 2, 1) := by decide +kernel
theorem dL_joins_94 : decode cL_joins 94 = .ok (.iconst 5, 1) := by decide +kernel
theorem dL_joins_95 : decode cL_joins 95 = .ok (.invokestatic 84, 3) := by decide +kernel
theorem dL_joins_98 : decode cL_joins 98 = .ok (.aload_n 0, 1) := by decide +kernel
theorem dL_joins_99 : decode cL_joins 99 = .ok (.iload_n 3, 1) := by decide +kernel
theorem dL_joins_100 : decode cL_joins 100 = .ok (.iconst 5, 1) := by decide +kernel
theorem dL_joins_101 : decode cL_joins 101 = .ok (.invokestatic 84, 3) := by decide +kernel
theorem dL_joins_104 : decode cL_joins 104 = .ok (.iadd, 1) := by decide +kernel
theorem dL_joins_105 : decode cL_joins 105 = .ok (.istore 6, 2) := by decide +kernel
theorem dL_joins_107 : decode cL_joins 107 = .ok (.aload_n 0, 1) := by decide +kernel
theorem dL_joins_108 : decode cL_joins 108 = .ok (.iload_n 2, 1) := by decide +kernel
theorem dL_joins_109 : decode cL_joins 109 = .ok (.iconst 1, 1) := by decide +kernel
theorem dL_joins_110 : decode cL_joins 110 = .ok (.invokestatic 84, 3) := by decide +kernel
theorem dL_joins_113 : decode cL_joins 113 = .ok (.istore 7, 2) := by decide +kernel
theorem dL_joins_115 : decode cL_joins 115 = .ok (.iload 7, 2) := by decide +kernel
theorem dL_joins_117 : decode cL_joins 117 = .ok (.aload_n 0, 1) := by decide +kernel
theorem dL_joins_118 : decode cL_joins 118 = .ok (.iload_n 3, 1) := by decide +kernel
theorem dL_joins_119 : decode cL_joins 119 = .ok (.iconst 1, 1) := by decide +kernel
theorem dL_joins_120 : decode cL_joins 120 = .ok (.invokestatic 84, 3) := by decide +kernel
theorem dL_joins_123 : decode cL_joins 123 = .ok (.if_icmp .ne 7, 3) := by decide +kernel
theorem dL_joins_126 : decode cL_joins 126 = .ok (.iconst 1, 1) := by decide +kernel
theorem dL_joins_127 : decode cL_joins 127 = .ok (.goto 4, 3) := by decide +kernel
theorem dL_joins_130 : decode cL_joins 130 = .ok (.iconst 0, 1) := by decide +kernel
theorem dL_joins_131 : decode cL_joins 131 = .ok (.istore 8, 2) := by decide +kernel
theorem dL_joins_133 : decode cL_joins 133 = .ok (.aload_n 0, 1) := by decide +kernel
theorem dL_joins_134 : decode cL_joins 134 = .ok (.iload_n 2, 1) := by decide +kernel
theorem dL_joins_135 : decode cL_joins 135 = .ok (.iconst 3, 1) := by decide +kernel
theorem dL_joins_136 : decode cL_joins 136 = .ok (.invokestatic 84, 3) := by decide +kernel
theorem dL_joins_139 : decode cL_joins 139 = .ok (.aload_n 0, 1) := by decide +kernel
theorem dL_joins_140 : decode cL_joins 140 = .ok (.iload_n 3, 1) := by decide +kernel
theorem dL_joins_141 : decode cL_joins 141 = .ok (.iconst 3, 1) := by decide +kernel
theorem dL_joins_142 : decode cL_joins 142 = .ok (.invokestatic 84, 3) := by decide +kernel
theorem dL_joins_145 : decode cL_joins 145 = .ok (.iadd, 1) := by decide +kernel
theorem dL_joins_146 : decode cL_joins 146 = .ok (.iconst 2, 1) := by decide +kernel
theorem dL_joins_147 : decode cL_joins 147 = .ok (.if_icmp .ne 7, 3) := by decide +kernel
theorem dL_joins_150 : decode cL_joins 150 = .ok (.iconst 1, 1) := by decide +kernel
theorem dL_joins_151 : decode cL_joins 151 = .ok (.goto 4, 3) := by decide +kernel
theorem dL_joins_154 : decode cL_joins 154 = .ok (.iconst 0, 1) := by decide +kernel
theorem dL_joins_155 : decode cL_joins 155 = .ok (.istore 9, 2) := by decide +kernel
theorem dL_joins_157 : decode cL_joins 157 = .ok (.aload_n 0, 1) := by decide +kernel
theorem dL_joins_158 : decode cL_joins 158 = .ok (.iload_n 2, 1) := by decide +kernel
theorem dL_joins_159 : decode cL_joins 159 = .ok (.invokestatic 122, 3) := by decide +kernel
theorem dL_joins_162 : decode cL_joins 162 = .ok (.aload_n 0, 1) := by decide +kernel
theorem dL_joins_163 : decode cL_joins 163 = .ok (.iload_n 3, 1) := by decide +kernel
theorem dL_joins_164 : decode cL_joins 164 = .ok (.invokestatic 122, 3) := by decide +kernel
theorem dL_joins_167 : decode cL_joins 167 = .ok (.iadd, 1) := by decide +kernel
theorem dL_joins_168 : decode cL_joins 168 = .ok (.istore 10, 2) := by decide +kernel
theorem dL_joins_170 : decode cL_joins 170 = .ok (.aload_n 0, 1) := by decide +kernel
theorem dL_joins_171 : decode cL_joins 171 = .ok (.iload_n 2, 1) := by decide +kernel
theorem dL_joins_172 : decode cL_joins 172 = .ok (.iload_n 3, 1) := by decide +kernel
theorem dL_joins_173 : decode cL_joins 173 = .ok (.invokestatic 130, 3) := by decide +kernel
theorem dL_joins_176 : decode cL_joins 176 = .ok (.istore 11, 2) := by decide +kernel
theorem dL_joins_178 : decode cL_joins 178 = .ok (.iload 9, 2) := by decide +kernel
theorem dL_joins_180 : decode cL_joins 180 = .ok (.ifCond .eq 15, 3) := by decide +kernel
theorem dL_joins_183 : decode cL_joins 183 = .ok (.iload 8, 2) := by decide +kernel
theorem dL_joins_185 : decode cL_joins 185 = .ok (.ifCond .eq 10, 3) := by decide +kernel
theorem dL_joins_188 : decode cL_joins 188 = .ok (.iload 5, 2) := by decide +kernel
theorem dL_joins_190 : decode cL_joins 190 = .ok (.bipush 24, 2) := by decide +kernel
theorem dL_joins_192 : decode cL_joins 192 = .ok (.if_icmp .le 57, 3) := by decide +kernel
theorem dL_joins_195 : decode cL_joins 195 = .ok (.iload 11, 2) := by decide +kernel
theorem dL_joins_197 : decode cL_joins 197 = .ok (.ldc 21, 2) := by decide +kernel
theorem dL_joins_199 : decode cL_joins 199 = .ok (.if_icmp .ne 48, 3) := by decide +kernel
theorem dL_joins_202 : decode cL_joins 202 = .ok (.iload 9, 2) := by decide +kernel
theorem dL_joins_204 : decode cL_joins 204 = .ok (.ifCond .ne 13, 3) := by decide +kernel
theorem dL_joins_207 : decode cL_joins 207 = .ok (.iload 4, 2) := by decide +kernel
theorem dL_joins_209 : decode cL_joins 209 = .ok (.ldc 21, 2) := by decide +kernel
theorem dL_joins_211 : decode cL_joins 211 = .ok (.if_icmp .ne 36, 3) := by decide +kernel
theorem dL_joins_214 : decode cL_joins 214 = .ok (.goto 29, 3) := by decide +kernel
theorem dL_joins_217 : decode cL_joins 217 = .ok (.iload 8, 2) := by decide +kernel
theorem dL_joins_219 : decode cL_joins 219 = .ok (.ifCond .eq 18, 3) := by decide +kernel
theorem dL_joins_222 : decode cL_joins 222 = .ok (.iload 4, 2) := by decide +kernel
theorem dL_joins_224 : decode cL_joins 224 = .ok (.ifCond .lt 23, 3) := by decide +kernel
theorem dL_joins_227 : decode cL_joins 227 = .ok (.iload 4, 2) := by decide +kernel
theorem dL_joins_229 : decode cL_joins 229 = .ok (.iload 7, 2) := by decide +kernel
theorem dL_joins_231 : decode cL_joins 231 = .ok (.if_icmp .gt 16, 3) := by decide +kernel
theorem dL_joins_234 : decode cL_joins 234 = .ok (.goto 9, 3) := by decide +kernel
theorem dL_joins_237 : decode cL_joins 237 = .ok (.iload 4, 2) := by decide +kernel
theorem dL_joins_239 : decode cL_joins 239 = .ok (.iconst (-1), 1) := by decide +kernel
theorem dL_joins_240 : decode cL_joins 240 = .ok (.if_icmp .ne 7, 3) := by decide +kernel
theorem dL_joins_243 : decode cL_joins 243 = .ok (.iconst 1, 1) := by decide +kernel
theorem dL_joins_244 : decode cL_joins 244 = .ok (.goto 4, 3) := by decide +kernel
theorem dL_joins_247 : decode cL_joins 247 = .ok (.iconst 0, 1) := by decide +kernel
theorem dL_joins_248 : decode cL_joins 248 = .ok (.ireturn, 1) := by decide +kernel
theorem dL_joins_249 : decode cL_joins 249 = .ok (.iload 4, 2) := by decide +kernel
theorem dL_joins_251 : decode cL_joins 251 = .ok (.ifCond .lt 81, 3) := by decide +kernel
theorem dL_joins_254 : decode cL_joins 254 = .ok (.iload 4, 2) := by decide +kernel
theorem dL_joins_256 : decode cL_joins 256 = .ok (.iload 7, 2) := by decide +kernel
theorem dL_joins_258 : decode cL_joins 258 = .ok (.if_icmp .gt 74, 3) := by decide +kernel
theorem dL_joins_261 : decode cL_joins 261 = .ok (.iload 11, 2) := by decide +kernel
theorem dL_joins_263 : decode cL_joins 263 = .ok (.ifCond .lt 69, 3) := by decide +kernel
theorem dL_joins_266 : decode cL_joins 266 = .ok (.aload_n 0, 1) := by decide +kernel
theorem dL_joins_267 : decode cL_joins 267 = .ok (.iload_n 2, 1) := by decide +kernel
theorem dL_joins_268 : decode cL_joins 268 = .ok (.iconst 0, 1) := by decide +kernel
theorem dL_joins_269 : decode cL_joins 269 = .ok (.invokestatic 84, 3) := by decide +kernel
theorem dL_joins_272 : decode cL_joins 272 = .ok (.iload 5, 2) := by decide +kernel
theorem dL_joins_274 : decode cL_joins 274 = .ok (.if_icmp .ne 58, 3) := by decide +kernel
theorem dL_joins_277 : decode cL_joins 277 = .ok (.aload_n 0, 1) := by decide +kernel
theorem dL_joins_278 : decode cL_joins 278 = .ok (.iload_n 2, 1) := by decide +kernel
theorem dL_joins_279 : decode cL_joins 279 = .ok (.iconst 5, 1) := by decide +kernel
theorem dL_joins_280 : decode cL_joins 280 = .ok (.invokestatic 84, 3) := by decide +kernel
theorem dL_joins_283 : decode cL_joins 283 = .ok (.iload 6, 2) := by decide +kernel
theorem dL_joins_285 : decode cL_joins 285 = .ok (.if_icmp .ne 47, 3) := by decide +kernel
theorem dL_joins_288 : decode cL_joins 288 = .ok (.aload_n 0, 1) := by decide +kernel
theorem dL_joins_289 : decode cL_joins 289 = .ok (.iload_n 3, 1) := by decide +kernel
theorem dL_joins_290 : decode cL_joins 290 = .ok (.iconst 0, 1) := by decide +kernel
theorem dL_joins_291 : decode cL_joins 291 = .ok (.invokestatic 84, 3) := by decide +kernel
theorem dL_joins_294 : decode cL_joins 294 = .ok (.ldc 31, 2) := by decide +kernel
theorem dL_joins_296 : decode cL_joins 296 = .ok (.if_icmp .ne 36, 3) := by decide +kernel
theorem dL_joins_299 : decode cL_joins 299 = .ok (.aload_n 0, 1) := by decide +kernel
theorem dL_joins_300 : decode cL_joins 300 = .ok (.iload_n 2, 1) := by decide +kernel
theorem dL_joins_301 : decode cL_joins 301 = .ok (.invokestatic 122, 3) := by decide +kernel
theorem dL_joins_304 : decode cL_joins 304 = .ok (.iload 10, 2) := by decide +kernel
theorem dL_joins_306 : decode cL_joins 306 = .ok (.iconst 2, 1) := by decide +kernel
theorem dL_joins_307 : decode cL_joins 307 = .ok (.if_icmp .ne 8, 3) := by decide +kernel
theorem dL_joins_310 : decode cL_joins 310 = .ok (.iload 11, 2) := by decide +kernel
theorem dL_joins_312 : decode cL_joins 312 = .ok (.goto 4, 3) := by decide +kernel
theorem dL_joins_315 : decode cL_joins 315 = .ok (.iconst 0, 1) := by decide +kernel
theorem dL_joins_316 : decode cL_joins 316 = .ok (.if_icmp .ne 16, 3) := by decide +kernel
theorem dL_joins_319 : decode cL_joins 319 = .ok (.aload_n 0, 1) := by decide +kernel
theorem dL_joins_320 : decode cL_joins 320 = .ok (.aload_n 1, 1) := by decide +kernel
theorem dL_joins_321 : decode cL_joins 321 = .ok (.iload_n 2, 1) := by decide +kernel
theorem dL_joins_322 : decode cL_joins 322 = .ok (.invokestatic 126, 3) := by decide +kernel
theorem dL_joins_325 : decode cL_joins 325 = .ok (.ifCond .eq 7, 3) := by decide +kernel
theorem dL_joins_328 : decode cL_joins 328 = .ok (.iconst 1, 1) := by decide +kernel
theorem dL_joins_329 : decode cL_joins 329 = .ok (.goto 4, 3) := by decide +kernel
theorem dL_joins_332 : decode cL_joins 332 = .ok (.iconst 0, 1) := by decide +kernel
theorem dL_joins_333 : decode cL_joins 333 = .ok (.ireturn, 1) := by decide +kernel
theorem dL_acts_0 : decode cL_acts 0 = .ok (.iload 5, 2) := by decide +kernel
theorem dL_acts_2 : decode cL_acts 2 = .ok (.bipush 16, 2) := by decide +kernel
theorem dL_acts_4 : decode cL_acts 4 = .ok (.invokestatic 92, 3) := by decide +kernel
theorem dL_acts_7 : decode cL_acts 7 = .ok (.istore 7, 2) := by decide +kernel
theorem dL_acts_9 : decode cL_acts 9 = .ok (.iload 7, 2) := by decide +kernel
theorem dL_acts_11 : decode cL_acts 11 = .ok (.iconst 3, 1) := by decide +kernel
theorem dL_acts_12 : decode cL_acts 12 = .ok (.if_icmp .lt 9, 3) := by decide +kernel
theorem dL_acts_15 : decode cL_acts 15 = .ok (.aload_n 1, 1) := by decide +kernel
theorem dL_acts_16 : decode cL_acts 16 = .ok (.iconst 0, 1) := by decide +kernel
theorem dL_acts_17 : decode cL_acts 17 = .ok (.iaload, 1) := by decide +kernel
theorem dL_acts_18 : decode cL_acts 18 = .ok (.ifCond .ne 16, 3) := by decide +kernel
theorem dL_acts_21 : decode cL_acts 21 = .ok (.aload_n 0, 1) := by decide +kernel
theorem dL_acts_22 : decode cL_acts 22 = .ok (.aload_n 1, 1) := by decide +kernel
theorem dL_acts_23 : decode cL_acts 23 = .ok (.aload_n 2, 1) := by decide +kernel
theorem dL_acts_24 : decode cL_acts 24 = .ok (.iload 5, 2) := by decide +kernel
theorem dL_acts_26 : decode cL_acts 26 = .ok (.iconst 4, 1) := by decide +kernel
theorem dL_acts_27 : decode cL_acts 27 = .ok (.ishr, 1) := by decide +kernel
theorem dL_acts_28 : decode cL_acts 28 = .ok (.iload 6, 2) := by decide +kernel
theorem dL_acts_30 : decode cL_acts 30 = .ok (.invokestatic 138, 3) := by decide +kernel
theorem dL_acts_33 : decode cL_acts 33 = .ok (.ireturn, 1) := by decide +kernel
theorem dL_acts_34 : decode cL_acts 34 = .ok (.iload 7, 2) := by decide +kernel
theorem dL_acts_36 : decode cL_acts 36 = .ok (.iconst 3, 1) := by decide +kernel
theorem dL_acts_37 : decode cL_acts 37 = .ok (.if_icmp .ne 94, 3) := by decide +kernel
theorem dL_acts_40 : decode cL_acts 40 = .ok (.aload_n 1, 1) := by decide +kernel
theorem dL_acts_41 : decode cL_acts 41 = .ok (.iconst 1, 1) := by decide +kernel
theorem dL_acts_42 : decode cL_acts 42 = .ok (.iaload, 1) := by decide +kernel
theorem dL_acts_43 : decode cL_acts 43 = .ok (.bipush 20, 2) := by decide +kernel
theorem dL_acts_45 : decode cL_acts 45 = .ok (.if_icmp .ge 86, 3) := by decide +kernel
theorem dL_acts_48 : decode cL_acts 48 = .ok (.aload_n 3, 1) := by decide +kernel
theorem dL_acts_49 : decode cL_acts 49 = .ok (.aload_n 1, 1) := by decide +kernel
theorem dL_acts_50 : decode cL_acts 50 = .ok (.iconst 1, 1) := by decide +kernel
theorem dL_acts_51 : decode cL_acts 51 = .ok (.iaload, 1) := by decide +kernel
theorem dL_acts_52 : decode cL_acts 52 = .ok (.iload 6, 2) := by decide +kernel
theorem dL_acts_54 : decode cL_acts 54 = .ok (.bipush 6, 2) := by decide +kernel
theorem dL_acts_56 : decode cL_acts 56 = .ok (.invokestatic 92, 3) := by decide +kernel
theorem dL_acts_59 : decode cL_acts 59 = .ok (.iastore, 1) := by decide +kernel
theorem dL_acts_60 : decode cL_acts 60 = .ok (.aload_n 1, 1) := by decide +kernel
theorem dL_acts_61 : decode cL_acts 61 = .ok (.iconst 1, 1) := by decide +kernel
theorem dL_acts_62 : decode cL_acts 62 = .ok (.dup2, 1) := by decide +kernel
theorem dL_acts_63 : decode cL_acts 63 = .ok (.iaload, 1) := by decide +kernel
theorem dL_acts_64 : decode cL_acts 64 = .ok (.iconst 1, 1) := by decide +kernel
theorem dL_acts_65 : decode cL_acts 65 = .ok (.iadd, 1) := by decide +kernel
theorem dL_acts_66 : decode cL_acts 66 = .ok (.iastore, 1) := by decide +kernel
theorem dL_acts_67 : decode cL_acts 67 = .ok (.aload_n 0, 1) := by decide +kernel
theorem dL_acts_68 : decode cL_acts 68 = .ok (.aload_n 3, 1) := by decide +kernel
theorem dL_acts_69 : decode cL_acts 69 = .ok (.aload_n 1, 1) := by decide +kernel
theorem dL_acts_70 : decode cL_acts 70 = .ok (.iconst 1, 1) := by decide +kernel
theorem dL_acts_71 : decode cL_acts 71 = .ok (.iaload, 1) := by decide +kernel
theorem dL_acts_72 : decode cL_acts 72 = .ok (.iconst 1, 1) := by decide +kernel
theorem dL_acts_73 : decode cL_acts 73 = .ok (.isub, 1) := by decide +kernel
theorem dL_acts_74 : decode cL_acts 74 = .ok (.iaload, 1) := by decide +kernel
theorem dL_acts_75 : decode cL_acts 75 = .ok (.iconst 1, 1) := by decide +kernel
theorem dL_acts_76 : decode cL_acts 76 = .ok (.iload 6, 2) := by decide +kernel
theorem dL_acts_78 : decode cL_acts 78 = .ok (.iconst 3, 1) := by decide +kernel
theorem dL_acts_79 : decode cL_acts 79 = .ok (.ishr, 1) := by decide +kernel
theorem dL_acts_80 : decode cL_acts 80 = .ok (.sipush 200, 3) := by decide +kernel
theorem dL_acts_83 : decode cL_acts 83 = .ok (.invokestatic 92, 3) := by decide +kernel
theorem dL_acts_86 : decode cL_acts 86 = .ok (.iadd, 1) := by decide +kernel
theorem dL_acts_87 : decode cL_acts 87 = .ok (.iload 6, 2) := by decide +kernel
theorem dL_acts_89 : decode cL_acts 89 = .ok (.bipush 11, 2) := by decide +kernel
theorem dL_acts_91 : decode cL_acts 91 = .ok (.ishr, 1) := by decide +kernel
theorem dL_acts_92 : decode cL_acts 92 = .ok (.bipush 10, 2) := by decide +kernel
theorem dL_acts_94 : decode cL_acts 94 = .ok (.invokestatic 92, 3) := by decide +kernel
theorem dL_acts_97 : decode cL_acts 97 = .ok (.iload 6, 2) := by decide +kernel
theorem dL_acts_99 : decode cL_acts 99 = .ok (.bipush 15, 2) := by decide +kernel
theorem dL_acts_101 : decode cL_acts 101 = .ok (.ishr, 1) := by decide +kernel
theorem dL_acts_102 : decode cL_acts 102 = .ok (.iconst 2, 1) := by decide +kernel
theorem dL_acts_103 : decode cL_acts 103 = .ok (.invokestatic 92, 3) := by decide +kernel
theorem dL_acts_106 : decode cL_acts 106 = .ok (.ifCond .ne 7, 3) := by decide +kernel
theorem dL_acts_109 : decode cL_acts 109 = .ok (.iconst 1, 1) := by decide +kernel
theorem dL_acts_110 : decode cL_acts 110 = .ok (.goto 4, 3) := by decide +kernel
theorem dL_acts_113 : decode cL_acts 113 = .ok (.iconst 0, 1) := by decide +kernel
theorem dL_acts_114 : decode cL_acts 114 = .ok (.invokestatic 142, 3) := by decide +kernel
theorem dL_acts_117 : decode cL_acts 117 = .ok (.aload_n 1, 1) := by decide +kernel
theorem dL_acts_118 : decode cL_acts 118 = .ok (.iconst 1, 1) := by decide +kernel
theorem dL_acts_119 : decode cL_acts 119 = .ok (.iaload, 1) := by decide +kernel
theorem dL_acts_120 : decode cL_acts 120 = .ok (.iconst 1, 1) := by decide +kernel
theorem dL_acts_121 : decode cL_acts 121 = .ok (.isub, 1) := by decide +kernel
theorem dL_acts_122 : decode cL_acts 122 = .ok (.if_icmp .ne 7, 3) := by decide +kernel
theorem dL_acts_125 : decode cL_acts 125 = .ok (.iconst 1, 1) := by decide +kernel
theorem dL_acts_126 : decode cL_acts 126 = .ok (.goto 4, 3) := by decide +kernel
theorem dL_acts_129 : decode cL_acts 129 = .ok (.iconst 0, 1) := by decide +kernel
theorem dL_acts_130 : decode cL_acts 130 = .ok (.ireturn, 1) := by decide +kernel
theorem dL_acts_131 : decode cL_acts 131 = .ok (.iload 7, 2) := by decide +kernel
theorem dL_acts_133 : decode cL_acts 133 = .ok (.iconst 4, 1) := by decide +kernel
theorem dL_acts_134 : decode cL_acts 134 = .ok (.if_icmp .eq 9, 3) := by decide +kernel
theorem dL_acts_137 : decode cL_acts 137 = .ok (.aload_n 1, 1) := by decide +kernel
theorem dL_acts_138 : decode cL_acts 138 = .ok (.iconst 2, 1) := by decide +kernel
theorem dL_acts_139 : decode cL_acts 139 = .ok (.iaload, 1) := by decide +kernel
theorem dL_acts_140 : decode cL_acts 140 = .ok (.ifCond .ne 176, 3) := by decide +kernel
theorem dL_acts_143 : decode cL_acts 143 = .ok (.iload 5, 2) := by decide +kernel
theorem dL_acts_145 : decode cL_acts 145 = .ok (.iconst 4, 1) := by decide +kernel
theorem dL_acts_146 : decode cL_acts 146 = .ok (.ishr, 1) := by decide +kernel
theorem dL_acts_147 : decode cL_acts 147 = .ok (.aload_n 1, 1) := by decide +kernel
theorem dL_acts_148 : decode cL_acts 148 = .ok (.iconst 0, 1) := by decide +kernel
theorem dL_acts_149 : decode cL_acts 149 = .ok (.iaload, 1) := by decide +kernel
theorem dL_acts_150 : decode cL_acts 150 = .ok (.invokestatic 92, 3) := by decide +kernel
theorem dL_acts_153 : decode cL_acts 153 = .ok (.istore 8, 2) := by decide +kernel
theorem dL_acts_155 : decode cL_acts 155 = .ok (.iconst 1, 1) := by decide +kernel
theorem dL_acts_156 : decode cL_acts 156 = .ok (.iload 6, 2) := by decide +kernel
theorem dL_acts_158 : decode cL_acts 158 = .ok (.iconst 4, 1) := by decide +kernel
theorem dL_acts_159 : decode cL_acts 159 = .ok (.invokestatic 92, 3) := by decide +kernel
theorem dL_acts_162 : decode cL_acts 162 = .ok (.iadd, 1) := by decide +kernel
theorem dL_acts_163 : decode cL_acts 163 = .ok (.istore 9, 2) := by decide +kernel
theorem dL_acts_165 : decode cL_acts 165 = .ok (.aload_n 0, 1) := by decide +kernel
theorem dL_acts_166 : decode cL_acts 166 = .ok (.iload 8, 2) := by decide +kernel
theorem dL_acts_168 : decode cL_acts 168 = .ok (.iload 9, 2) := by decide +kernel
theorem dL_acts_170 : decode cL_acts 170 = .ok (.iload 6, 2) := by decide +kernel
theorem dL_acts_172 : decode cL_acts 172 = .ok (.iconst 2, 1) := by decide +kernel
theorem dL_acts_173 : decode cL_acts 173 = .ok (.ishr, 1) := by decide +kernel
theorem dL_acts_174 : decode cL_acts 174 = .ok (.iconst 2, 1) := by decide +kernel
theorem dL_acts_175 : decode cL_acts 175 = .ok (.invokestatic 92, 3) := by decide +kernel
theorem dL_acts_178 : decode cL_acts 178 = .ok (.ifCond .ne 7, 3) := by decide +kernel
theorem dL_acts_181 : decode cL_acts 181 = .ok (.iconst 1, 1) := by decide +kernel
theorem dL_acts_182 : decode cL_acts 182 = .ok (.goto 4, 3) := by decide +kernel
theorem dL_acts_185 : decode cL_acts 185 = .ok (.iconst 0, 1) := by decide +kernel
theorem dL_acts_186 : decode cL_acts 186 = .ok (.invokestatic 145, 3) := by decide +kernel
theorem dL_acts_189 : decode cL_acts 189 = .ok (.istore 10, 2) := by decide +kernel
theorem dL_acts_191 : decode cL_acts 191 = .ok (.iload 9, 2) := by decide +kernel
theorem dL_acts_193 : decode cL_acts 193 = .ok (.aload_n 2, 1) := by decide +kernel
theorem dL_acts_194 : decode cL_acts 194 = .ok (.iconst 2, 1) := by decide +kernel
theorem dL_acts_195 : decode cL_acts 195 = .ok (.iload 8, 2) := by decide +kernel
theorem dL_acts_197 : decode cL_acts 197 = .ok (.imul, 1) := by decide +kernel
theorem dL_acts_198 : decode cL_acts 198 = .ok (.iaload, 1) := by decide +kernel
theorem dL_acts_199 : decode cL_acts 199 = .ok (.if_icmp .le 16, 3) := by decide +kernel
theorem dL_acts_202 : decode cL_acts 202 = .ok (.iload 10, 2) := by decide +kernel
theorem dL_acts_204 : decode cL_acts 204 = .ok (.ldc 18, 2) := by decide +kernel
theorem dL_acts_206 : decode cL_acts 206 = .ok (.if_icmp .ne 7, 3) := by decide +kernel
theorem dL_acts_209 : decode cL_acts 209 = .ok (.iconst 1, 1) := by decide +kernel
theorem dL_acts_210 : decode cL_acts 210 = .ok (.goto 4, 3) := by decide +kernel
theorem dL_acts_213 : decode cL_acts 213 = .ok (.iconst 0, 1) := by decide +kernel
theorem dL_acts_214 : decode cL_acts 214 = .ok (.ireturn, 1) := by decide +kernel
theorem dL_acts_215 : decode cL_acts 215 = .ok (.aload_n 2, 1) := by decide +kernel
theorem dL_acts_216 : decode cL_acts 216 = .ok (.iconst 2, 1) := by decide +kernel
theorem dL_acts_217 : decode cL_acts 217 = .ok (.iload 8, 2) := by decide +kernel
theorem dL_acts_219 : decode cL_acts 219 = .ok (.imul, 1) := by decide +kernel
theorem dL_acts_220 : decode cL_acts 220 = .ok (.iconst 1, 1) := by decide +kernel
theorem dL_acts_221 : decode cL_acts 221 = .ok (.iadd, 1) := by decide +kernel
theorem dL_acts_222 : decode cL_acts 222 = .ok (.iaload, 1) := by decide +kernel
theorem dL_acts_223 : decode cL_acts 223 = .ok (.ifCond .eq 11, 3) := by decide +kernel
theorem dL_acts_226 : decode cL_acts 226 = .ok (.aload_n 1, 1) := by decide +kernel
theorem dL_acts_227 : decode cL_acts 227 = .ok (.iconst 2, 1) := by decide +kernel
theorem dL_acts_228 : decode cL_acts 228 = .ok (.iaload, 1) := by decide +kernel
theorem dL_acts_229 : decode cL_acts 229 = .ok (.bipush 20, 2) := by decide +kernel
theorem dL_acts_231 : decode cL_acts 231 = .ok (.if_icmp .ne 16, 3) := by decide +kernel
theorem dL_acts_234 : decode cL_acts 234 = .ok (.iload 10, 2) := by decide +kernel
theorem dL_acts_236 : decode cL_acts 236 = .ok (.ldc 21, 2) := by decide +kernel
theorem dL_acts_238 : decode cL_acts 238 = .ok (.if_icmp .ne 7, 3) := by decide +kernel
theorem dL_acts_241 : decode cL_acts 241 = .ok (.iconst 1, 1) := by decide +kernel
theorem dL_acts_242 : decode cL_acts 242 = .ok (.goto 4, 3) := by decide +kernel
theorem dL_acts_245 : decode cL_acts 245 = .ok (.iconst 0, 1) := by decide +kernel
theorem dL_acts_246 : decode cL_acts 246 = .ok (.ireturn, 1) := by decide +kernel
theorem dL_acts_247 : decode cL_acts 247 = .ok (.aload_n 1, 1) := by decide +kernel
theorem dL_acts_248 : decode cL_acts 248 = .ok (.iconst 2, 1) := by decide +kernel
theorem dL_acts_249 : decode cL_acts 249 = .ok (.dup2, 1) := by decide +kernel
theorem dL_acts_250 : decode cL_acts 250 = .ok (.iaload, 1) := by decide +kernel
theorem dL_acts_251 : decode cL_acts 251 = .ok (.iconst 1, 1) := by decide +kernel
theorem dL_acts_252 : decode cL_acts 252 = .ok (.iadd, 1) := by decide +kernel
theorem dL_acts_253 : decode cL_acts 253 = .ok (.iastore, 1) := by decide +kernel
theorem dL_acts_254 : decode cL_acts 254 = .ok (.iload 10, 2) := by decide +kernel
theorem dL_acts_256 : decode cL_acts 256 = .ok (.aload_n 1, 1) := by decide +kernel
theorem dL_acts_257 : decode cL_acts 257 = .ok (.iconst 2, 1) := by decide +kernel
theorem dL_acts_258 : decode cL_acts 258 = .ok (.iaload, 1) := by decide +kernel
theorem dL_acts_259 : decode cL_acts 259 = .ok (.iconst 1, 1) := by decide +kernel
theorem dL_acts_260 : decode cL_acts 260 = .ok (.isub, 1) := by decide +kernel
theorem dL_acts_261 : decode cL_acts 261 = .ok (.if_icmp .ne 53, 3) := by decide +kernel
theorem dL_acts_264 : decode cL_acts 264 = .ok (.aload_n 0, 1) := by decide +kernel
theorem dL_acts_265 : decode cL_acts 265 = .ok (.iload 10, 2) := by decide +kernel
theorem dL_acts_267 : decode cL_acts 267 = .ok (.iload 8, 2) := by decide +kernel
theorem dL_acts_269 : decode cL_acts 269 = .ok (.invokestatic 148, 3) := by decide +kernel
theorem dL_acts_272 : decode cL_acts 272 = .ok (.aload_n 2, 1) := by decide +kernel
theorem dL_acts_273 : decode cL_acts 273 = .ok (.iconst 2, 1) := by decide +kernel
theorem dL_acts_274 : decode cL_acts 274 = .ok (.iload 8, 2) := by decide +kernel
theorem dL_acts_276 : decode cL_acts 276 = .ok (.imul, 1) := by decide +kernel
theorem dL_acts_277 : decode cL_acts 277 = .ok (.iaload, 1) := by decide +kernel
theorem dL_acts_278 : decode cL_acts 278 = .ok (.aload_n 2, 1) := by decide +kernel
theorem dL_acts_279 : decode cL_acts 279 = .ok (.iconst 2, 1) := by decide +kernel
theorem dL_acts_280 : decode cL_acts 280 = .ok (.iload 8, 2) := by decide +kernel
theorem dL_acts_282 : decode cL_acts 282 = .ok (.imul, 1) := by decide +kernel
theorem dL_acts_283 : decode cL_acts 283 = .ok (.iconst 1, 1) := by decide +kernel
theorem dL_acts_284 : decode cL_acts 284 = .ok (.iadd, 1) := by decide +kernel
theorem dL_acts_285 : decode cL_acts 285 = .ok (.iaload, 1) := by decide +kernel
theorem dL_acts_286 : decode cL_acts 286 = .ok (.imul, 1) := by decide +kernel
theorem dL_acts_287 : decode cL_acts 287 = .ok (.if_icmp .ne 27, 3) := by decide +kernel
theorem dL_acts_290 : decode cL_acts 290 = .ok (.aload_n 0, 1) := by decide +kernel
theorem dL_acts_291 : decode cL_acts 291 = .ok (.iload 10, 2) := by decide +kernel
theorem dL_acts_293 : decode cL_acts 293 = .ok (.invokestatic 122, 3) := by decide +kernel
theorem dL_acts_296 : decode cL_acts 296 = .ok (.iconst 1, 1) := by decide +kernel
theorem dL_acts_297 : decode cL_acts 297 = .ok (.if_icmp .ne 17, 3) := by decide +kernel
theorem dL_acts_300 : decode cL_acts 300 = .ok (.aload_n 0, 1) := by decide +kernel
theorem dL_acts_301 : decode cL_acts 301 = .ok (.aload_n 3, 1) := by decide +kernel
theorem dL_acts_302 : decode cL_acts 302 = .ok (.iload 10, 2) := by decide +kernel
theorem dL_acts_304 : decode cL_acts 304 = .ok (.invokestatic 126, 3) := by decide +kernel
theorem dL_acts_307 : decode cL_acts 307 = .ok (.ifCond .eq 7, 3) := by decide +kernel
theorem dL_acts_310 : decode cL_acts 310 = .ok (.iconst 1, 1) := by decide +kernel
theorem dL_acts_311 : decode cL_acts 311 = .ok (.goto 4, 3) := by decide +kernel
theorem dL_acts_314 : decode cL_acts 314 = .ok (.iconst 0, 1) := by decide +kernel
theorem dL_acts_315 : decode cL_acts 315 = .ok (.ireturn, 1) := by decide +kernel
theorem dL_acts_316 : decode cL_acts 316 = .ok (.iload 7, 2) := by decide +kernel
theorem dL_acts_318 : decode cL_acts 318 = .ok (.bipush 11, 2) := by decide +kernel
theorem dL_acts_320 : decode cL_acts 320 = .ok (.if_icmp .ge 50, 3) := by decide +kernel
theorem dL_acts_323 : decode cL_acts 323 = .ok (.aload_n 0, 1) := by decide +kernel
theorem dL_acts_324 : decode cL_acts 324 = .ok (.aload_n 1, 1) := by decide +kernel
theorem dL_acts_325 : decode cL_acts 325 = .ok (.iload 5, 2) := by decide +kernel
theorem dL_acts_327 : decode cL_acts 327 = .ok (.iconst 4, 1) := by decide +kernel
theorem dL_acts_328 : decode cL_acts 328 = .ok (.ishr, 1) := by decide +kernel
theorem dL_acts_329 : decode cL_acts 329 = .ok (.iload 6, 2) := by decide +kernel
theorem dL_acts_331 : decode cL_acts 331 = .ok (.invokestatic 150, 3) := by decide +kernel
theorem dL_acts_334 : decode cL_acts 334 = .ok (.ifCond .eq 34, 3) := by decide +kernel
theorem dL_acts_337 : decode cL_acts 337 = .ok (.iload 6, 2) := by decide +kernel
theorem dL_acts_339 : decode cL_acts 339 = .ok (.iconst 3, 1) := by decide +kernel
theorem dL_acts_340 : decode cL_acts 340 = .ok (.ishr, 1) := by decide +kernel
theorem dL_acts_341 : decode cL_acts 341 = .ok (.iconst 3, 1) := by decide +kernel
theorem dL_acts_342 : decode cL_acts 342 = .ok (.invokestatic 92, 3) := by decide +kernel
theorem dL_acts_345 : decode cL_acts 345 = .ok (.ifCond .gt 19, 3) := by decide +kernel
theorem dL_acts_348 : decode cL_acts 348 = .ok (.aload_n 0, 1) := by decide +kernel
theorem dL_acts_349 : decode cL_acts 349 = .ok (.aload_n 1, 1) := by decide +kernel
theorem dL_acts_350 : decode cL_acts 350 = .ok (.iload 5, 2) := by decide +kernel
theorem dL_acts_352 : decode cL_acts 352 = .ok (.iconst 4, 1) := by decide +kernel
theorem dL_acts_353 : decode cL_acts 353 = .ok (.ishr, 1) := by decide +kernel
theorem dL_acts_354 : decode cL_acts 354 = .ok (.iload 6, 2) := by decide +kernel
theorem dL_acts_356 : decode cL_acts 356 = .ok (.iconst 1, 1) := by decide +kernel
theorem dL_acts_357 : decode cL_acts 357 = .ok (.iadd, 1) := by decide +kernel
theorem dL_acts_358 : decode cL_acts 358 = .ok (.invokestatic 150, 3) := by decide +kernel
theorem dL_acts_361 : decode cL_acts 361 = .ok (.ifCond .eq 7, 3) := by decide +kernel
theorem dL_acts_364 : decode cL_acts 364 = .ok (.iconst 1, 1) := by decide +kernel
theorem dL_acts_365 : decode cL_acts 365 = .ok (.goto 4, 3) := by decide +kernel
theorem dL_acts_368 : decode cL_acts 368 = .ok (.iconst 0, 1) := by decide +kernel
theorem dL_acts_369 : decode cL_acts 369 = .ok (.ireturn, 1) := by decide +kernel
theorem dL_acts_370 : decode cL_acts 370 = .ok (.iload 5, 2) := by decide +kernel
theorem dL_acts_372 : decode cL_acts 372 = .ok (.iconst 4, 1) := by decide +kernel
theorem dL_acts_373 : decode cL_acts 373 = .ok (.ishr, 1) := by decide +kernel
theorem dL_acts_374 : decode cL_acts 374 = .ok (.aload_n 1, 1) := by decide +kernel
theorem dL_acts_375 : decode cL_acts 375 = .ok (.iconst 2, 1) := by decide +kernel
theorem dL_acts_376 : decode cL_acts 376 = .ok (.iaload, 1) := by decide +kernel
theorem dL_acts_377 : decode cL_acts 377 = .ok (.invokestatic 92, 3) := by decide +kernel
theorem dL_acts_380 : decode cL_acts 380 = .ok (.istore 8, 2) := by decide +kernel
theorem dL_acts_382 : decode cL_acts 382 = .ok (.iload 7, 2) := by decide +kernel
theorem dL_acts_384 : decode cL_acts 384 = .ok (.bipush 11, 2) := by decide +kernel
theorem dL_acts_386 : decode cL_acts 386 = .ok (.if_icmp .ne 19, 3) := by decide +kernel
theorem dL_acts_389 : decode cL_acts 389 = .ok (.aload_n 0, 1) := by decide +kernel
theorem dL_acts_390 : decode cL_acts 390 = .ok (.aload_n 3, 1) := by decide +kernel
theorem dL_acts_391 : decode cL_acts 391 = .ok (.iload 8, 2) := by decide +kernel
theorem dL_acts_393 : decode cL_acts 393 = .ok (.iload 6, 2) := by decide +kernel
theorem dL_acts_395 : decode cL_acts 395 = .ok (.aload_n 1, 1) := by decide +kernel
theorem dL_acts_396 : decode cL_acts 396 = .ok (.iconst 2, 1) := by decide +kernel
theorem dL_acts_397 : decode cL_acts 397 = .ok (.iaload, 1) := by decide +kernel
theorem dL_acts_398 : decode cL_acts 398 = .ok (.invokestatic 92, 3) := by decide +kernel
theorem dL_acts_401 : decode cL_acts 401 = .ok (.invokestatic 154, 3) := by decide +kernel
theorem dL_acts_404 : decode cL_acts 404 = .ok (.ireturn, 1) := by decide +kernel
theorem dL_acts_405 : decode cL_acts 405 = .ok (.aload_n 0, 1) := by decide +kernel
theorem dL_acts_406 : decode cL_acts 406 = .ok (.iload 8, 2) := by decide +kernel
theorem dL_acts_408 : decode cL_acts 408 = .ok (.invokestatic 134, 3) := by decide +kernel
theorem dL_acts_411 : decode cL_acts 411 = .ok (.ifCond .ne 43, 3) := by decide +kernel
theorem dL_acts_414 : decode cL_acts 414 = .ok (.aload_n 0, 1) := by decide +kernel
theorem dL_acts_415 : decode cL_acts 415 = .ok (.iload 8, 2) := by decide +kernel
theorem dL_acts_417 : decode cL_acts 417 = .ok (.iconst 0, 1) := by decide +kernel
theorem dL_acts_418 : decode cL_acts 418 = .ok (.invokestatic 84, 3) := by decide +kernel
theorem dL_acts_421 : decode cL_acts 421 = .ok (.ldc 31, 2) := by decide +kernel
theorem dL_acts_423 : decode cL_acts 423 = .ok (.if_icmp .ne 29, 3) := by decide +kernel
theorem dL_acts_426 : decode cL_acts 426 = .ok (.aload_n 0, 1) := by decide +kernel
theorem dL_acts_427 : decode cL_acts 427 = .ok (.iload 8, 2) := by decide +kernel
theorem dL_acts_429 : decode cL_acts 429 = .ok (.invokestatic 118, 3) := by decide +kernel
theorem dL_acts_432 : decode cL_acts 432 = .ok (.ldc 31, 2) := by decide +kernel
theorem dL_acts_434 : decode cL_acts 434 = .ok (.if_icmp .ne 18, 3) := by decide +kernel
theorem dL_acts_437 : decode cL_acts 437 = .ok (.aload_n 0, 1) := by decide +kernel
theorem dL_acts_438 : decode cL_acts 438 = .ok (.iload 8, 2) := by decide +kernel
theorem dL_acts_440 : decode cL_acts 440 = .ok (.invokestatic 122, 3) := by decide +kernel
theorem dL_acts_443 : decode cL_acts 443 = .ok (.ldc 31, 2) := by decide +kernel
theorem dL_acts_445 : decode cL_acts 445 = .ok (.if_icmp .ne 7, 3) := by decide +kernel
theorem dL_acts_448 : decode cL_acts 448 = .ok (.iconst 1, 1) := by decide +kernel
theorem dL_acts_449 : decode cL_acts 449 = .ok (.goto 4, 3) := by decide +kernel
theorem dL_acts_452 : decode cL_acts 452 = .ok (.iconst 0, 1) := by decide +kernel
theorem dL_acts_453 : decode cL_acts 453 = .ok (.ireturn, 1) := by decide +kernel
theorem dL_acts_454 : decode cL_acts 454 = .ok (.iload 6, 2) := by decide +kernel
theorem dL_acts_456 : decode cL_acts 456 = .ok (.iconst 3, 1) := by decide +kernel
theorem dL_acts_457 : decode cL_acts 457 = .ok (.ishr, 1) := by decide +kernel
theorem dL_acts_458 : decode cL_acts 458 = .ok (.aload_n 1, 1) := by decide +kernel
theorem dL_acts_459 : decode cL_acts 459 = .ok (.iconst 0, 1) := by decide +kernel
theorem dL_acts_460 : decode cL_acts 460 = .ok (.iaload, 1) := by decide +kernel
theorem dL_acts_461 : decode cL_acts 461 = .ok (.invokestatic 92, 3) := by decide +kernel
theorem dL_acts_464 : decode cL_acts 464 = .ok (.istore 9, 2) := by decide +kernel
theorem dL_acts_466 : decode cL_acts 466 = .ok (.aload_n 0, 1) := by decide +kernel
theorem dL_acts_467 : decode cL_acts 467 = .ok (.iload 8, 2) := by decide +kernel
theorem dL_acts_469 : decode cL_acts 469 = .ok (.iload 9, 2) := by decide +kernel
theorem dL_acts_471 : decode cL_acts 471 = .ok (.invokestatic 148, 3) := by decide +kernel
theorem dL_acts_474 : decode cL_acts 474 = .ok (.istore 10, 2) := by decide +kernel
theorem dL_acts_476 : decode cL_acts 476 = .ok (.aload_n 0, 1) := by decide +kernel
theorem dL_acts_477 : decode cL_acts 477 = .ok (.iload 8, 2) := by decide +kernel
theorem dL_acts_479 : decode cL_acts 479 = .ok (.iconst 0, 1) := by decide +kernel
theorem dL_acts_480 : decode cL_acts 480 = .ok (.invokestatic 84, 3) := by decide +kernel
theorem dL_acts_483 : decode cL_acts 483 = .ok (.aload_n 2, 1) := by decide +kernel
theorem dL_acts_484 : decode cL_acts 484 = .ok (.iconst 2, 1) := by decide +kernel
theorem dL_acts_485 : decode cL_acts 485 = .ok (.iload 9, 2) := by decide +kernel
theorem dL_acts_487 : decode cL_acts 487 = .ok (.imul, 1) := by decide +kernel
theorem dL_acts_488 : decode cL_acts 488 = .ok (.iaload, 1) := by decide +kernel
theorem dL_acts_489 : decode cL_acts 489 = .ok (.if_icmp .ne 25, 3) := by decide +kernel
theorem dL_acts_492 : decode cL_acts 492 = .ok (.aload_n 0, 1) := by decide +kernel
theorem dL_acts_493 : decode cL_acts 493 = .ok (.iload 8, 2) := by decide +kernel
theorem dL_acts_495 : decode cL_acts 495 = .ok (.iconst 1, 1) := by decide +kernel
theorem dL_acts_496 : decode cL_acts 496 = .ok (.invokestatic 84, 3) := by decide +kernel
theorem dL_acts_499 : decode cL_acts 499 = .ok (.aload_n 2, 1) := by decide +kernel
theorem dL_acts_500 : decode cL_acts 500 = .ok (.iconst 2, 1) := by decide +kernel
theorem dL_acts_501 : decode cL_acts 501 = .ok (.iload 9, 2) := by decide +kernel
theorem dL_acts_503 : decode cL_acts 503 = .ok (.imul, 1) := by decide +kernel
theorem dL_acts_504 : decode cL_acts 504 = .ok (.iconst 1, 1) := by decide +kernel
theorem dL_acts_505 : decode cL_acts 505 = .ok (.iadd, 1) := by decide +kernel
theorem dL_acts_506 : decode cL_acts 506 = .ok (.iaload, 1) := by decide +kernel
theorem dL_acts_507 : decode cL_acts 507 = .ok (.if_icmp .ne 7, 3) := by decide +kernel
theorem dL_acts_510 : decode cL_acts 510 = .ok (.iconst 1, 1) := by decide +kernel
theorem dL_acts_511 : decode cL_acts 511 = .ok (.goto 4, 3) := by decide +kernel
theorem dL_acts_514 : decode cL_acts 514 = .ok (.iconst 0, 1) := by decide +kernel
theorem dL_acts_515 : decode cL_acts 515 = .ok (.istore 11, 2) := by decide +kernel
theorem dL_acts_517 : decode cL_acts 517 = .ok (.iload 11, 2) := by decide +kernel
theorem dL_acts_519 : decode cL_acts 519 = .ok (.ifCond .eq 36, 3) := by decide +kernel
theorem dL_acts_522 : decode cL_acts 522 = .ok (.iload 10, 2) := by decide +kernel
theorem dL_acts_524 : decode cL_acts 524 = .ok (.ifCond .lt 27, 3) := by decide +kernel
theorem dL_acts_527 : decode cL_acts 527 = .ok (.iload 10, 2) := by decide +kernel
theorem dL_acts_529 : decode cL_acts 529 = .ok (.aload_n 2, 1) := by decide +kernel
theorem dL_acts_530 : decode cL_acts 530 = .ok (.iconst 2, 1) := by decide +kernel
theorem dL_acts_531 : decode cL_acts 531 = .ok (.iload 9, 2) := by decide +kernel
theorem dL_acts_533 : decode cL_acts 533 = .ok (.imul, 1) := by decide +kernel
theorem dL_acts_534 : decode cL_acts 534 = .ok (.iaload, 1) := by decide +kernel
theorem dL_acts_535 : decode cL_acts 535 = .ok (.aload_n 2, 1) := by decide +kernel
theorem dL_acts_536 : decode cL_acts 536 = .ok (.iconst 2, 1) := by decide +kernel
theorem dL_acts_537 : decode cL_acts 537 = .ok (.iload 9, 2) := by decide +kernel
theorem dL_acts_539 : decode cL_acts 539 = .ok (.imul, 1) := by decide +kernel
theorem dL_acts_540 : decode cL_acts 540 = .ok (.iconst 1, 1) := by decide +kernel
theorem dL_acts_541 : decode cL_acts 541 = .ok (.iadd, 1) := by decide +kernel
theorem dL_acts_542 : decode cL_acts 542 = .ok (.iaload, 1) := by decide +kernel
theorem dL_acts_543 : decode cL_acts 543 = .ok (.imul, 1) := by decide +kernel
theorem dL_acts_544 : decode cL_acts 544 = .ok (.if_icmp .gt 7, 3) := by decide +kernel
theorem dL_acts_547 : decode cL_acts 547 = .ok (.iconst 1, 1) := by decide +kernel
theorem dL_acts_548 : decode cL_acts 548 = .ok (.goto 18, 3) := by decide +kernel
theorem dL_acts_551 : decode cL_acts 551 = .ok (.iconst 0, 1) := by decide +kernel
theorem dL_acts_552 : decode cL_acts 552 = .ok (.goto 14, 3) := by decide +kernel
theorem dL_acts_555 : decode cL_acts 555 = .ok (.iload 10, 2) := by decide +kernel
theorem dL_acts_557 : decode cL_acts 557 = .ok (.iconst (-1), 1) := by decide +kernel
theorem dL_acts_558 : decode cL_acts 558 = .ok (.if_icmp .ne 7, 3) := by decide +kernel
theorem dL_acts_561 : decode cL_acts 561 = .ok (.iconst 1, 1) := by decide +kernel
theorem dL_acts_562 : decode cL_acts 562 = .ok (.goto 4, 3) := by decide +kernel
theorem dL_acts_565 : decode cL_acts 565 = .ok (.iconst 0, 1) := by decide +kernel
theorem dL_acts_566 : decode cL_acts 566 = .ok (.istore 12, 2) := by decide +kernel
theorem dL_acts_568 : decode cL_acts 568 = .ok (.iload 12, 2) := by decide +kernel
theorem dL_acts_570 : decode cL_acts 570 = .ok (.ifCond .eq 103, 3) := by decide +kernel
theorem dL_acts_573 : decode cL_acts 573 = .ok (.iload 7, 2) := by decide +kernel
theorem dL_acts_575 : decode cL_acts 575 = .ok (.bipush 12, 2) := by decide +kernel
theorem dL_acts_577 : decode cL_acts 577 = .ok (.if_icmp .ne 19, 3) := by decide +kernel
theorem dL_acts_580 : decode cL_acts 580 = .ok (.aload_n 0, 1) := by decide +kernel
theorem dL_acts_581 : decode cL_acts 581 = .ok (.aload_n 1, 1) := by decide +kernel
theorem dL_acts_582 : decode cL_acts 582 = .ok (.aload_n 3, 1) := by decide +kernel
theorem dL_acts_583 : decode cL_acts 583 = .ok (.iload 8, 2) := by decide +kernel
theorem dL_acts_585 : decode cL_acts 585 = .ok (.iload 6, 2) := by decide +kernel
theorem dL_acts_587 : decode cL_acts 587 = .ok (.invokestatic 157, 3) := by decide +kernel
theorem dL_acts_590 : decode cL_acts 590 = .ok (.ifCond .eq 83, 3) := by decide +kernel
theorem dL_acts_593 : decode cL_acts 593 = .ok (.goto 76, 3) := by decide +kernel
theorem dL_acts_596 : decode cL_acts 596 = .ok (.iload 7, 2) := by decide +kernel
theorem dL_acts_598 : decode cL_acts 598 = .ok (.bipush 13, 2) := by decide +kernel
theorem dL_acts_600 : decode cL_acts 600 = .ok (.if_icmp .ne 17, 3) := by decide +kernel
theorem dL_acts_603 : decode cL_acts 603 = .ok (.aload_n 0, 1) := by decide +kernel
theorem dL_acts_604 : decode cL_acts 604 = .ok (.iload 8, 2) := by decide +kernel
theorem dL_acts_606 : decode cL_acts 606 = .ok (.iload 6, 2) := by decide +kernel
theorem dL_acts_608 : decode cL_acts 608 = .ok (.invokestatic 160, 3) := by decide +kernel
theorem dL_acts_611 : decode cL_acts 611 = .ok (.ifCond .eq 62, 3) := by decide +kernel
theorem dL_acts_614 : decode cL_acts 614 = .ok (.goto 55, 3) := by decide +kernel
theorem dL_acts_617 : decode cL_acts 617 = .ok (.iload 7, 2) := by decide +kernel
theorem dL_acts_619 : decode cL_acts 619 = .ok (.bipush 14, 2) := by decide +kernel
theorem dL_acts_621 : decode cL_acts 621 = .ok (.if_icmp .ne 24, 3) := by decide +kernel
theorem dL_acts_624 : decode cL_acts 624 = .ok (.aload_n 0, 1) := by decide +kernel
theorem dL_acts_625 : decode cL_acts 625 = .ok (.aload 4, 2) := by decide +kernel
theorem dL_acts_627 : decode cL_acts 627 = .ok (.iload 8, 2) := by decide +kernel
theorem dL_acts_629 : decode cL_acts 629 = .ok (.iload 5, 2) := by decide +kernel
theorem dL_acts_631 : decode cL_acts 631 = .ok (.bipush 9, 2) := by decide +kernel
theorem dL_acts_633 : decode cL_acts 633 = .ok (.ishr, 1) := by decide +kernel
theorem dL_acts_634 : decode cL_acts 634 = .ok (.iload 6, 2) := by decide +kernel
theorem dL_acts_636 : decode cL_acts 636 = .ok (.invokestatic 164, 3) := by decide +kernel
theorem dL_acts_639 : decode cL_acts 639 = .ok (.ifCond .eq 34, 3) := by decide +kernel
theorem dL_acts_642 : decode cL_acts 642 = .ok (.goto 27, 3) := by decide +kernel
theorem dL_acts_645 : decode cL_acts 645 = .ok (.aload_n 0, 1) := by decide +kernel
theorem dL_acts_646 : decode cL_acts 646 = .ok (.aload_n 3, 1) := by decide +kernel
theorem dL_acts_647 : decode cL_acts 647 = .ok (.iload 8, 2) := by decide +kernel
theorem dL_acts_649 : decode cL_acts 649 = .ok (.invokestatic 126, 3) := by decide +kernel
theorem dL_acts_652 : decode cL_acts 652 = .ok (.ifCond .eq 21, 3) := by decide +kernel
theorem dL_acts_655 : decode cL_acts 655 = .ok (.aload_n 0, 1) := by decide +kernel
theorem dL_acts_656 : decode cL_acts 656 = .ok (.invokevirtual 168, 3) := by decide +kernel
theorem dL_acts_659 : decode cL_acts 659 = .ok (.ifCond .eq 14, 3) := by decide +kernel
theorem dL_acts_662 : decode cL_acts 662 = .ok (.aload_n 0, 1) := by decide +kernel
theorem dL_acts_663 : decode cL_acts 663 = .ok (.invokevirtual 172, 3) := by decide +kernel
theorem dL_acts_666 : decode cL_acts 666 = .ok (.ifCond .lt 7, 3) := by decide +kernel
theorem dL_acts_669 : decode cL_acts 669 = .ok (.iconst 1, 1) := by decide +kernel
theorem dL_acts_670 : decode cL_acts 670 = .ok (.goto 4, 3) := by decide +kernel
theorem dL_acts_673 : decode cL_acts 673 = .ok (.iconst 0, 1) := by decide +kernel
theorem dL_acts_674 : decode cL_acts 674 = .ok (.ireturn, 1) := by decide +kernel
theorem dL_law_0 : decode cL_law 0 = .ok (.new 11, 3) := by decide +kernel
theorem dL_law_3 : decode cL_law 3 = .ok (.dup, 1) := by decide +kernel
theorem dL_law_4 : decode cL_law 4 = .ok (.invokespecial 175, 3) := by decide +kernel
theorem dL_law_7 : decode cL_law 7 = .ok (.astore_n 1, 1) := by decide +kernel
theorem dL_law_8 : decode cL_law 8 = .ok (.iconst 4, 1) := by decide +kernel
theorem dL_law_9 : decode cL_law 9 = .ok (.newarray .int, 2) := by decide +kernel
theorem dL_law_11 : decode cL_law 11 = .ok (.astore_n 2, 1) := by decide +kernel
theorem dL_law_12 : decode cL_law 12 = .ok (.bipush 10, 2) := by decide +kernel
theorem dL_law_14 : decode cL_law 14 = .ok (.newarray .int, 2) := by decide +kernel
theorem dL_law_16 : decode cL_law 16 = .ok (.astore_n 3, 1) := by decide +kernel
theorem dL_law_17 : decode cL_law 17 = .ok (.bipush 20, 2) := by decide +kernel
theorem dL_law_19 : decode cL_law 19 = .ok (.newarray .int, 2) := by decide +kernel
theorem dL_law_21 : decode cL_law 21 = .ok (.astore 4, 2) := by decide +kernel
theorem dL_law_23 : decode cL_law 23 = .ok (.bipush 20, 2) := by decide +kernel
theorem dL_law_25 : decode cL_law 25 = .ok (.newarray .int, 2) := by decide +kernel
theorem dL_law_27 : decode cL_law 27 = .ok (.astore 5, 2) := by decide +kernel
theorem dL_law_29 : decode cL_law 29 = .ok (.aload_n 1, 1) := by decide +kernel
theorem dL_law_30 : decode cL_law 30 = .ok (.aload_n 2, 1) := by decide +kernel
theorem dL_law_31 : decode cL_law 31 = .ok (.aload_n 3, 1) := by decide +kernel
theorem dL_law_32 : decode cL_law 32 = .ok (.iconst 0, 1) := by decide +kernel
theorem dL_law_33 : decode cL_law 33 = .ok (.aload_n 0, 1) := by decide +kernel
theorem dL_law_34 : decode cL_law 34 = .ok (.iconst 0, 1) := by decide +kernel
theorem dL_law_35 : decode cL_law 35 = .ok (.invokestatic 176, 3) := by decide +kernel
theorem dL_law_38 : decode cL_law 38 = .ok (.invokestatic 138, 3) := by decide +kernel
theorem dL_law_41 : decode cL_law 41 = .ok (.ifCond .eq 52, 3) := by decide +kernel
theorem dL_law_44 : decode cL_law 44 = .ok (.aload_n 1, 1) := by decide +kernel
theorem dL_law_45 : decode cL_law 45 = .ok (.aload_n 2, 1) := by decide +kernel
theorem dL_law_46 : decode cL_law 46 = .ok (.aload_n 3, 1) := by decide +kernel
theorem dL_law_47 : decode cL_law 47 = .ok (.iconst 1, 1) := by decide +kernel
theorem dL_law_48 : decode cL_law 48 = .ok (.aload_n 0, 1) := by decide +kernel
theorem dL_law_49 : decode cL_law 49 = .ok (.iconst 1, 1) := by decide +kernel
theorem dL_law_50 : decode cL_law 50 = .ok (.invokestatic 176, 3) := by decide +kernel
theorem dL_law_53 : decode cL_law 53 = .ok (.invokestatic 138, 3) := by decide +kernel
theorem dL_law_56 : decode cL_law 56 = .ok (.ifCond .eq 37, 3) := by decide +kernel
theorem dL_law_59 : decode cL_law 59 = .ok (.aload_n 1, 1) := by decide +kernel
theorem dL_law_60 : decode cL_law 60 = .ok (.aload_n 2, 1) := by decide +kernel
theorem dL_law_61 : decode cL_law 61 = .ok (.aload_n 3, 1) := by decide +kernel
theorem dL_law_62 : decode cL_law 62 = .ok (.iconst 1, 1) := by decide +kernel
theorem dL_law_63 : decode cL_law 63 = .ok (.aload_n 0, 1) := by decide +kernel
theorem dL_law_64 : decode cL_law 64 = .ok (.iconst 2, 1) := by decide +kernel
theorem dL_law_65 : decode cL_law 65 = .ok (.invokestatic 176, 3) := by decide +kernel
theorem dL_law_68 : decode cL_law 68 = .ok (.invokestatic 138, 3) := by decide +kernel
theorem dL_law_71 : decode cL_law 71 = .ok (.ifCond .eq 22, 3) := by decide +kernel
theorem dL_law_74 : decode cL_law 74 = .ok (.aload_n 1, 1) := by decide +kernel
theorem dL_law_75 : decode cL_law 75 = .ok (.aload_n 2, 1) := by decide +kernel
theorem dL_law_76 : decode cL_law 76 = .ok (.aload_n 3, 1) := by decide +kernel
theorem dL_law_77 : decode cL_law 77 = .ok (.iconst 1, 1) := by decide +kernel
theorem dL_law_78 : decode cL_law 78 = .ok (.aload_n 0, 1) := by decide +kernel
theorem dL_law_79 : decode cL_law 79 = .ok (.iconst 3, 1) := by decide +kernel
theorem dL_law_80 : decode cL_law 80 = .ok (.invokestatic 176, 3) := by decide +kernel
theorem dL_law_83 : decode cL_law 83 = .ok (.invokestatic 138, 3) := by decide +kernel
theorem dL_law_86 : decode cL_law 86 = .ok (.ifCond .eq 7, 3) := by decide +kernel
theorem dL_law_89 : decode cL_law 89 = .ok (.iconst 1, 1) := by decide +kernel
theorem dL_law_90 : decode cL_law 90 = .ok (.goto 4, 3) := by decide +kernel
theorem dL_law_93 : decode cL_law 93 = .ok (.iconst 0, 1) := by decide +kernel
theorem dL_law_94 : decode cL_law 94 = .ok (.istore 6, 2) := by decide +kernel
theorem dL_law_96 : decode cL_law 96 = .ok (.iconst 0, 1) := by decide +kernel
theorem dL_law_97 : decode cL_law 97 = .ok (.istore 7, 2) := by decide +kernel
theorem dL_law_99 : decode cL_law 99 = .ok (.iload 7, 2) := by decide +kernel
theorem dL_law_101 : decode cL_law 101 = .ok (.bipush 6, 2) := by decide +kernel
theorem dL_law_103 : decode cL_law 103 = .ok (.if_icmp .ge 79, 3) := by decide +kernel
theorem dL_law_106 : decode cL_law 106 = .ok (.aload 4, 2) := by decide +kernel
theorem dL_law_108 : decode cL_law 108 = .ok (.iload 7, 2) := by decide +kernel
theorem dL_law_110 : decode cL_law 110 = .ok (.iload 7, 2) := by decide +kernel
theorem dL_law_112 : decode cL_law 112 = .ok (.iastore, 1) := by decide +kernel
theorem dL_law_113 : decode cL_law 113 = .ok (.aload_n 2, 1) := by decide +kernel
theorem dL_law_114 : decode cL_law 114 = .ok (.iconst 1, 1) := by decide +kernel
theorem dL_law_115 : decode cL_law 115 = .ok (.dup2, 1) := by decide +kernel
theorem dL_law_116 : decode cL_law 116 = .ok (.iaload, 1) := by decide +kernel
theorem dL_law_117 : decode cL_law 117 = .ok (.iconst 1, 1) := by decide +kernel
theorem dL_law_118 : decode cL_law 118 = .ok (.iadd, 1) := by decide +kernel
theorem dL_law_119 : decode cL_law 119 = .ok (.iastore, 1) := by decide +kernel
theorem dL_law_120 : decode cL_law 120 = .ok (.iload 6, 2) := by decide +kernel
theorem dL_law_122 : decode cL_law 122 = .ok (.ifCond .eq 51, 3) := by decide +kernel
theorem dL_law_125 : decode cL_law 125 = .ok (.aload_n 1, 1) := by decide +kernel
theorem dL_law_126 : decode cL_law 126 = .ok (.iload 7, 2) := by decide +kernel
theorem dL_law_128 : decode cL_law 128 = .ok (.bipush 20, 2) := by decide +kernel
theorem dL_law_130 : decode cL_law 130 = .ok (.aload_n 0, 1) := by decide +kernel
theorem dL_law_131 : decode cL_law 131 = .ok (.iconst 4, 1) := by decide +kernel
theorem dL_law_132 : decode cL_law 132 = .ok (.invokestatic 176, 3) := by decide +kernel
theorem dL_law_135 : decode cL_law 135 = .ok (.iconst 4, 1) := by decide +kernel
theorem dL_law_136 : decode cL_law 136 = .ok (.iload 7, 2) := by decide +kernel
theorem dL_law_138 : decode cL_law 138 = .ok (.imul, 1) := by decide +kernel
theorem dL_law_139 : decode cL_law 139 = .ok (.ishr, 1) := by decide +kernel
theorem dL_law_140 : decode cL_law 140 = .ok (.sipush 200, 3) := by decide +kernel
theorem dL_law_143 : decode cL_law 143 = .ok (.invokestatic 92, 3) := by decide +kernel
theorem dL_law_146 : decode cL_law 146 = .ok (.iadd, 1) := by decide +kernel
theorem dL_law_147 : decode cL_law 147 = .ok (.iload 7, 2) := by decide +kernel
theorem dL_law_149 : decode cL_law 149 = .ok (.iload 7, 2) := by decide +kernel
theorem dL_law_151 : decode cL_law 151 = .ok (.iconst 2, 1) := by decide +kernel
theorem dL_law_152 : decode cL_law 152 = .ok (.irem, 1) := by decide +kernel
theorem dL_law_153 : decode cL_law 153 = .ok (.ifCond .ne 7, 3) := by decide +kernel
theorem dL_law_156 : decode cL_law 156 = .ok (.iconst 1, 1) := by decide +kernel
theorem dL_law_157 : decode cL_law 157 = .ok (.goto 4, 3) := by decide +kernel
theorem dL_law_160 : decode cL_law 160 = .ok (.iconst 0, 1) := by decide +kernel
theorem dL_law_161 : decode cL_law 161 = .ok (.invokestatic 142, 3) := by decide +kernel
theorem dL_law_164 : decode cL_law 164 = .ok (.iload 7, 2) := by decide +kernel
theorem dL_law_166 : decode cL_law 166 = .ok (.if_icmp .ne 7, 3) := by decide +kernel
theorem dL_law_169 : decode cL_law 169 = .ok (.iconst 1, 1) := by decide +kernel
theorem dL_law_170 : decode cL_law 170 = .ok (.goto 4, 3) := by decide +kernel
theorem dL_law_173 : decode cL_law 173 = .ok (.iconst 0, 1) := by decide +kernel
theorem dL_law_174 : decode cL_law 174 = .ok (.istore 6, 2) := by decide +kernel
theorem dL_law_176 : decode cL_law 176 = .ok (.iinc 7 1, 3) := by decide +kernel
theorem dL_law_179 : decode cL_law 179 = .ok (.goto (-80), 3) := by decide +kernel
theorem dL_law_182 : decode cL_law 182 = .ok (.iconst 3, 1) := by decide +kernel
theorem dL_law_183 : decode cL_law 183 = .ok (.istore 7, 2) := by decide +kernel
theorem dL_law_185 : decode cL_law 185 = .ok (.iload 7, 2) := by decide +kernel
theorem dL_law_187 : decode cL_law 187 = .ok (.bipush 60, 2) := by decide +kernel
theorem dL_law_189 : decode cL_law 189 = .ok (.if_icmp .ge 44, 3) := by decide +kernel
theorem dL_law_192 : decode cL_law 192 = .ok (.iload 6, 2) := by decide +kernel
theorem dL_law_194 : decode cL_law 194 = .ok (.ifCond .eq 39, 3) := by decide +kernel
theorem dL_law_197 : decode cL_law 197 = .ok (.aload_n 1, 1) := by decide +kernel
theorem dL_law_198 : decode cL_law 198 = .ok (.aload_n 2, 1) := by decide +kernel
theorem dL_law_199 : decode cL_law 199 = .ok (.aload_n 3, 1) := by decide +kernel
theorem dL_law_200 : decode cL_law 200 = .ok (.aload 4, 2) := by decide +kernel
theorem dL_law_202 : decode cL_law 202 = .ok (.aload 5, 2) := by decide +kernel
theorem dL_law_204 : decode cL_law 204 = .ok (.aload_n 0, 1) := by decide +kernel
theorem dL_law_205 : decode cL_law 205 = .ok (.iconst 2, 1) := by decide +kernel
theorem dL_law_206 : decode cL_law 206 = .ok (.iload 7, 2) := by decide +kernel
theorem dL_law_208 : decode cL_law 208 = .ok (.imul, 1) := by decide +kernel
theorem dL_law_209 : decode cL_law 209 = .ok (.invokestatic 176, 3) := by decide +kernel
theorem dL_law_212 : decode cL_law 212 = .ok (.aload_n 0, 1) := by decide +kernel
theorem dL_law_213 : decode cL_law 213 = .ok (.iconst 2, 1) := by decide +kernel
theorem dL_law_214 : decode cL_law 214 = .ok (.iload 7, 2) := by decide +kernel
theorem dL_law_216 : decode cL_law 216 = .ok (.imul, 1) := by decide +kernel
theorem dL_law_217 : decode cL_law 217 = .ok (.iconst 1, 1) := by decide +kernel
theorem dL_law_218 : decode cL_law 218 = .ok (.iadd, 1) := by decide +kernel
theorem dL_law_219 : decode cL_law 219 = .ok (.invokestatic 176, 3) := by decide +kernel
theorem dL_law_222 : decode cL_law 222 = .ok (.invokestatic 180, 3) := by decide +kernel
theorem dL_law_225 : decode cL_law 225 = .ok (.istore 6, 2) := by decide +kernel
theorem dL_law_227 : decode cL_law 227 = .ok (.iinc 7 1, 3) := by decide +kernel
theorem dL_law_230 : decode cL_law 230 = .ok (.goto (-45), 3) := by decide +kernel
theorem dL_law_233 : decode cL_law 233 = .ok (.iconst 0, 1) := by decide +kernel
theorem dL_law_234 : decode cL_law 234 = .ok (.istore 7, 2) := by decide +kernel
theorem dL_law_236 : decode cL_law 236 = .ok (.iconst 0, 1) := by decide +kernel
theorem dL_law_237 : decode cL_law 237 = .ok (.istore 8, 2) := by decide +kernel
theorem dL_law_239 : decode cL_law 239 = .ok (.iload 8, 2) := by decide +kernel
theorem dL_law_241 : decode cL_law 241 = .ok (.aload_n 2, 1) := by decide +kernel
theorem dL_law_242 : decode cL_law 242 = .ok (.iconst 1, 1) := by decide +kernel
theorem dL_law_243 : decode cL_law 243 = .ok (.iaload, 1) := by decide +kernel
theorem dL_law_244 : decode cL_law 244 = .ok (.if_icmp .ge 41, 3) := by decide +kernel
theorem dL_law_247 : decode cL_law 247 = .ok (.iload 6, 2) := by decide +kernel
theorem dL_law_249 : decode cL_law 249 = .ok (.ifCond .eq 36, 3) := by decide +kernel
theorem dL_law_252 : decode cL_law 252 = .ok (.aload_n 1, 1) := by decide +kernel
theorem dL_law_253 : decode cL_law 253 = .ok (.iload 8, 2) := by decide +kernel
theorem dL_law_255 : decode cL_law 255 = .ok (.invokestatic 184, 3) := by decide +kernel
theorem dL_law_258 : decode cL_law 258 = .ok (.istore 9, 2) := by decide +kernel
theorem dL_law_260 : decode cL_law 260 = .ok (.iload 7, 2) := by decide +kernel
theorem dL_law_262 : decode cL_law 262 = .ok (.iload 9, 2) := by decide +kernel
theorem dL_law_264 : decode cL_law 264 = .ok (.iadd, 1) := by decide +kernel
theorem dL_law_265 : decode cL_law 265 = .ok (.istore 7, 2) := by decide +kernel
theorem dL_law_267 : decode cL_law 267 = .ok (.iload 9, 2) := by decide +kernel
theorem dL_law_269 : decode cL_law 269 = .ok (.ifCond .lt 7, 3) := by decide +kernel
theorem dL_law_272 : decode cL_law 272 = .ok (.iconst 1, 1) := by decide +kernel
theorem dL_law_273 : decode cL_law 273 = .ok (.goto 4, 3) := by decide +kernel
theorem dL_law_276 : decode cL_law 276 = .ok (.iconst 0, 1) := by decide +kernel
theorem dL_law_277 : decode cL_law 277 = .ok (.istore 6, 2) := by decide +kernel
theorem dL_law_279 : decode cL_law 279 = .ok (.iinc 8 1, 3) := by decide +kernel
theorem dL_law_282 : decode cL_law 282 = .ok (.goto (-43), 3) := by decide +kernel
theorem dL_law_285 : decode cL_law 285 = .ok (.iconst 0, 1) := by decide +kernel
theorem dL_law_286 : decode cL_law 286 = .ok (.istore 8, 2) := by decide +kernel
theorem dL_law_288 : decode cL_law 288 = .ok (.iload 8, 2) := by decide +kernel
theorem dL_law_290 : decode cL_law 290 = .ok (.aload_n 2, 1) := by decide +kernel
theorem dL_law_291 : decode cL_law 291 = .ok (.iconst 2, 1) := by decide +kernel
theorem dL_law_292 : decode cL_law 292 = .ok (.iaload, 1) := by decide +kernel
theorem dL_law_293 : decode cL_law 293 = .ok (.if_icmp .ge 41, 3) := by decide +kernel
theorem dL_law_296 : decode cL_law 296 = .ok (.iload 6, 2) := by decide +kernel
theorem dL_law_298 : decode cL_law 298 = .ok (.ifCond .eq 36, 3) := by decide +kernel
theorem dL_law_301 : decode cL_law 301 = .ok (.aload_n 1, 1) := by decide +kernel
theorem dL_law_302 : decode cL_law 302 = .ok (.iload 8, 2) := by decide +kernel
theorem dL_law_304 : decode cL_law 304 = .ok (.invokestatic 134, 3) := by decide +kernel
theorem dL_law_307 : decode cL_law 307 = .ok (.ifCond .eq 14, 3) := by decide +kernel
theorem dL_law_310 : decode cL_law 310 = .ok (.aload_n 1, 1) := by decide +kernel
theorem dL_law_311 : decode cL_law 311 = .ok (.aload 4, 2) := by decide +kernel
theorem dL_law_313 : decode cL_law 313 = .ok (.iload 8, 2) := by decide +kernel
theorem dL_law_315 : decode cL_law 315 = .ok (.invokestatic 126, 3) := by decide +kernel
theorem dL_law_318 : decode cL_law 318 = .ok (.ifCond .eq 7, 3) := by decide +kernel
theorem dL_law_321 : decode cL_law 321 = .ok (.iconst 1, 1) := by decide +kernel
theorem dL_law_322 : decode cL_law 322 = .ok (.goto 4, 3) := by decide +kernel
theorem dL_law_325 : decode cL_law 325 = .ok (.iconst 0, 1) := by decide +kernel
theorem dL_law_326 : decode cL_law 326 = .ok (.istore 6, 2) := by decide +kernel
theorem dL_law_328 : decode cL_law 328 = .ok (.iinc 8 1, 3) := by decide +kernel
theorem dL_law_331 : decode cL_law 331 = .ok (.goto (-43), 3) := by decide +kernel
theorem dL_law_334 : decode cL_law 334 = .ok (.iload 6, 2) := by decide +kernel
theorem dL_law_336 : decode cL_law 336 = .ok (.ifCond .eq 19, 3) := by decide +kernel
theorem dL_law_339 : decode cL_law 339 = .ok (.iload 7, 2) := by decide +kernel
theorem dL_law_341 : decode cL_law 341 = .ok (.ifCond .lt 14, 3) := by decide +kernel
theorem dL_law_344 : decode cL_law 344 = .ok (.aload_n 1, 1) := by decide +kernel
theorem dL_law_345 : decode cL_law 345 = .ok (.invokevirtual 168, 3) := by decide +kernel
theorem dL_law_348 : decode cL_law 348 = .ok (.ifCond .eq 7, 3) := by decide +kernel
theorem dL_law_351 : decode cL_law 351 = .ok (.iconst 1, 1) := by decide +kernel
theorem dL_law_352 : decode cL_law 352 = .ok (.goto 4, 3) := by decide +kernel
theorem dL_law_355 : decode cL_law 355 = .ok (.iconst 0, 1) := by decide +kernel
theorem dL_law_356 : decode cL_law 356 = .ok (.ireturn, 1) := by decide +kernel
