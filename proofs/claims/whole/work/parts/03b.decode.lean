theorem dX6_recipe_17 : decode cX6_recipe 17 = .ok (.getfield 19, 3) := by decide +kernel
theorem dX6_recipe_20 : decode cX6_recipe 20 = .ok (.getfield 115, 3) := by decide +kernel
theorem dX6_recipe_23 : decode cX6_recipe 23 = .ok (.ifCond .eq 6, 3) := by decide +kernel
theorem dX6_recipe_26 : decode cX6_recipe 26 = .ok (.bipush (-2), 2) := by decide +kernel
theorem dX6_recipe_28 : decode cX6_recipe 28 = .ok (.ireturn, 1) := by decide +kernel
theorem dX6_recipe_29 : decode cX6_recipe 29 = .ok (.aload_n 0, 1) := by decide +kernel
theorem dX6_recipe_30 : decode cX6_recipe 30 = .ok (.getfield 28, 3) := by decide +kernel
theorem dX6_recipe_33 : decode cX6_recipe 33 = .ok (.getfield 118, 3) := by decide +kernel
theorem dX6_recipe_36 : decode cX6_recipe 36 = .ok (.iload_n 1, 1) := by decide +kernel
theorem dX6_recipe_37 : decode cX6_recipe 37 = .ok (.iaload, 1) := by decide +kernel
theorem dX6_recipe_38 : decode cX6_recipe 38 = .ok (.bipush 9, 2) := by decide +kernel
theorem dX6_recipe_40 : decode cX6_recipe 40 = .ok (.if_icmp .lt 6, 3) := by decide +kernel
theorem dX6_recipe_43 : decode cX6_recipe 43 = .ok (.bipush (-3), 2) := by decide +kernel
theorem dX6_recipe_45 : decode cX6_recipe 45 = .ok (.ireturn, 1) := by decide +kernel
theorem dX6_recipe_46 : decode cX6_recipe 46 = .ok (.aload_n 0, 1) := by decide +kernel
theorem dX6_recipe_47 : decode cX6_recipe 47 = .ok (.invokevirtual 47, 3) := by decide +kernel
theorem dX6_recipe_50 : decode cX6_recipe 50 = .ok (.aload_n 0, 1) := by decide +kernel
theorem dX6_recipe_51 : decode cX6_recipe 51 = .ok (.getfield 28, 3) := by decide +kernel
theorem dX6_recipe_54 : decode cX6_recipe 54 = .ok (.getfield 118, 3) := by decide +kernel
theorem dX6_recipe_57 : decode cX6_recipe 57 = .ok (.iload_n 1, 1) := by decide +kernel
theorem dX6_recipe_58 : decode cX6_recipe 58 = .ok (.dup2, 1) := by decide +kernel
theorem dX6_recipe_59 : decode cX6_recipe 59 = .ok (.iaload, 1) := by decide +kernel
theorem dX6_recipe_60 : decode cX6_recipe 60 = .ok (.iconst 1, 1) := by decide +kernel
theorem dX6_recipe_61 : decode cX6_recipe 61 = .ok (.iadd, 1) := by decide +kernel
theorem dX6_recipe_62 : decode cX6_recipe 62 = .ok (.iastore, 1) := by decide +kernel
theorem dX6_recipe_63 : decode cX6_recipe 63 = .ok (.aload_n 0, 1) := by decide +kernel
theorem dX6_recipe_64 : decode cX6_recipe 64 = .ok (.getfield 28, 3) := by decide +kernel
theorem dX6_recipe_67 : decode cX6_recipe 67 = .ok (.getfield 118, 3) := by decide +kernel
theorem dX6_recipe_70 : decode cX6_recipe 70 = .ok (.iload_n 1, 1) := by decide +kernel
theorem dX6_recipe_71 : decode cX6_recipe 71 = .ok (.iaload, 1) := by decide +kernel
theorem dX6_recipe_72 : decode cX6_recipe 72 = .ok (.istore_n 2, 1) := by decide +kernel
theorem dX6_recipe_73 : decode cX6_recipe 73 = .ok (.aload_n 0, 1) := by decide +kernel
theorem dX6_recipe_74 : decode cX6_recipe 74 = .ok (.getfield 10, 3) := by decide +kernel
theorem dX6_recipe_77 : decode cX6_recipe 77 = .ok (.iload_n 1, 1) := by decide +kernel
theorem dX6_recipe_78 : decode cX6_recipe 78 = .ok (.iload_n 2, 1) := by decide +kernel
theorem dX6_recipe_79 : decode cX6_recipe 79 = .ok (.invokestatic 121, 3) := by decide +kernel
theorem dX6_recipe_82 : decode cX6_recipe 82 = .ok (.aload_n 0, 1) := by decide +kernel
theorem dX6_recipe_83 : decode cX6_recipe 83 = .ok (.getfield 19, 3) := by decide +kernel
theorem dX6_recipe_86 : decode cX6_recipe 86 = .ok (.invokevirtual 124, 3) := by decide +kernel
theorem dX6_recipe_89 : decode cX6_recipe 89 = .ok (.iload_n 2, 1) := by decide +kernel
theorem dX6_recipe_90 : decode cX6_recipe 90 = .ok (.ireturn, 1) := by decide +kernel
theorem dX6_versions_0 : decode cX6_versions 0 = .ok (.iload_n 1, 1) := by decide +kernel
theorem dX6_versions_1 : decode cX6_versions 1 = .ok (.invokestatic 109, 3) := by decide +kernel
theorem dX6_versions_4 : decode cX6_versions 4 = .ok (.ifCond .eq 15, 3) := by decide +kernel
theorem dX6_versions_7 : decode cX6_versions 7 = .ok (.aload_n 0, 1) := by decide +kernel
theorem dX6_versions_8 : decode cX6_versions 8 = .ok (.getfield 28, 3) := by decide +kernel
theorem dX6_versions_11 : decode cX6_versions 11 = .ok (.getfield 118, 3) := by decide +kernel
theorem dX6_versions_14 : decode cX6_versions 14 = .ok (.iload_n 1, 1) := by decide +kernel
theorem dX6_versions_15 : decode cX6_versions 15 = .ok (.iaload, 1) := by decide +kernel
theorem dX6_versions_16 : decode cX6_versions 16 = .ok (.goto 4, 3) := by decide +kernel
theorem dX6_versions_19 : decode cX6_versions 19 = .ok (.iconst (-1), 1) := by decide +kernel
theorem dX6_versions_20 : decode cX6_versions 20 = .ok (.ireturn, 1) := by decide +kernel
theorem dX6_phase_0 : decode cX6_phase 0 = .ok (.iload_n 1, 1) := by decide +kernel
theorem dX6_phase_1 : decode cX6_phase 1 = .ok (.invokestatic 109, 3) := by decide +kernel
theorem dX6_phase_4 : decode cX6_phase 4 = .ok (.ifCond .eq 20, 3) := by decide +kernel
theorem dX6_phase_7 : decode cX6_phase 7 = .ok (.iload_n 2, 1) := by decide +kernel
theorem dX6_phase_8 : decode cX6_phase 8 = .ok (.iconst 1, 1) := by decide +kernel
theorem dX6_phase_9 : decode cX6_phase 9 = .ok (.aload_n 0, 1) := by decide +kernel
theorem dX6_phase_10 : decode cX6_phase 10 = .ok (.getfield 28, 3) := by decide +kernel
theorem dX6_phase_13 : decode cX6_phase 13 = .ok (.getfield 118, 3) := by decide +kernel
theorem dX6_phase_16 : decode cX6_phase 16 = .ok (.iload_n 1, 1) := by decide +kernel
theorem dX6_phase_17 : decode cX6_phase 17 = .ok (.iaload, 1) := by decide +kernel
theorem dX6_phase_18 : decode cX6_phase 18 = .ok (.invokestatic 39, 3) := by decide +kernel
theorem dX6_phase_21 : decode cX6_phase 21 = .ok (.ifCond .ne 5, 3) := by decide +kernel
theorem dX6_phase_24 : decode cX6_phase 24 = .ok (.iconst (-1), 1) := by decide +kernel
theorem dX6_phase_25 : decode cX6_phase 25 = .ok (.ireturn, 1) := by decide +kernel
theorem dX6_phase_26 : decode cX6_phase 26 = .ok (.iload_n 3, 1) := by decide +kernel
theorem dX6_phase_27 : decode cX6_phase 27 = .ok (.ifCond .lt 13, 3) := by decide +kernel
theorem dX6_phase_30 : decode cX6_phase 30 = .ok (.iload 4, 2) := by decide +kernel
theorem dX6_phase_32 : decode cX6_phase 32 = .ok (.iconst 0, 1) := by decide +kernel
theorem dX6_phase_33 : decode cX6_phase 33 = .ok (.iconst 4, 1) := by decide +kernel
theorem dX6_phase_34 : decode cX6_phase 34 = .ok (.invokestatic 39, 3) := by decide +kernel
theorem dX6_phase_37 : decode cX6_phase 37 = .ok (.ifCond .ne 5, 3) := by decide +kernel
theorem dX6_phase_40 : decode cX6_phase 40 = .ok (.iconst (-1), 1) := by decide +kernel
theorem dX6_phase_41 : decode cX6_phase 41 = .ok (.ireturn, 1) := by decide +kernel
theorem dX6_phase_42 : decode cX6_phase 42 = .ok (.aload_n 0, 1) := by decide +kernel
theorem dX6_phase_43 : decode cX6_phase 43 = .ok (.getfield 10, 3) := by decide +kernel
theorem dX6_phase_46 : decode cX6_phase 46 = .ok (.iload_n 1, 1) := by decide +kernel
theorem dX6_phase_47 : decode cX6_phase 47 = .ok (.iload_n 2, 1) := by decide +kernel
theorem dX6_phase_48 : decode cX6_phase 48 = .ok (.invokestatic 121, 3) := by decide +kernel
theorem dX6_phase_51 : decode cX6_phase 51 = .ok (.iload_n 3, 1) := by decide +kernel
theorem dX6_phase_52 : decode cX6_phase 52 = .ok (.iload 4, 2) := by decide +kernel
theorem dX6_phase_54 : decode cX6_phase 54 = .ok (.invokevirtual 128, 3) := by decide +kernel
theorem dX6_phase_57 : decode cX6_phase 57 = .ok (.invokestatic 72, 3) := by decide +kernel
theorem dX6_phase_60 : decode cX6_phase 60 = .ok (.ireturn, 1) := by decide +kernel
theorem dX6_batch_0 : decode cX6_batch 0 = .ok (.iload_n 1, 1) := by decide +kernel
theorem dX6_batch_1 : decode cX6_batch 1 = .ok (.invokestatic 109, 3) := by decide +kernel
theorem dX6_batch_4 : decode cX6_batch 4 = .ok (.ifCond .eq 21, 3) := by decide +kernel
theorem dX6_batch_7 : decode cX6_batch 7 = .ok (.iload_n 2, 1) := by decide +kernel
theorem dX6_batch_8 : decode cX6_batch 8 = .ok (.iconst 1, 1) := by decide +kernel
theorem dX6_batch_9 : decode cX6_batch 9 = .ok (.sipush 10000, 3) := by decide +kernel
theorem dX6_batch_12 : decode cX6_batch 12 = .ok (.invokestatic 39, 3) := by decide +kernel
theorem dX6_batch_15 : decode cX6_batch 15 = .ok (.ifCond .eq 10, 3) := by decide +kernel
theorem dX6_batch_18 : decode cX6_batch 18 = .ok (.iload_n 3, 1) := by decide +kernel
theorem dX6_batch_19 : decode cX6_batch 19 = .ok (.invokestatic 132, 3) := by decide +kernel
theorem dX6_batch_22 : decode cX6_batch 22 = .ok (.ifCond .ne 5, 3) := by decide +kernel
theorem dX6_batch_25 : decode cX6_batch 25 = .ok (.iconst (-1), 1) := by decide +kernel
theorem dX6_batch_26 : decode cX6_batch 26 = .ok (.ireturn, 1) := by decide +kernel
theorem dX6_batch_27 : decode cX6_batch 27 = .ok (.iload 4, 2) := by decide +kernel
theorem dX6_batch_29 : decode cX6_batch 29 = .ok (.iconst (-1), 1) := by decide +kernel
theorem dX6_batch_30 : decode cX6_batch 30 = .ok (.if_icmp .eq 14, 3) := by decide +kernel
theorem dX6_batch_33 : decode cX6_batch 33 = .ok (.aload_n 0, 1) := by decide +kernel
theorem dX6_batch_34 : decode cX6_batch 34 = .ok (.iload 4, 2) := by decide +kernel
theorem dX6_batch_36 : decode cX6_batch 36 = .ok (.invokevirtual 135, 3) := by decide +kernel
theorem dX6_batch_39 : decode cX6_batch 39 = .ok (.ifCond .ne 5, 3) := by decide +kernel
theorem dX6_batch_42 : decode cX6_batch 42 = .ok (.iconst (-1), 1) := by decide +kernel
theorem dX6_batch_43 : decode cX6_batch 43 = .ok (.ireturn, 1) := by decide +kernel
theorem dX6_batch_44 : decode cX6_batch 44 = .ok (.aload_n 0, 1) := by decide +kernel
theorem dX6_batch_45 : decode cX6_batch 45 = .ok (.getfield 28, 3) := by decide +kernel
theorem dX6_batch_48 : decode cX6_batch 48 = .ok (.getfield 118, 3) := by decide +kernel
theorem dX6_batch_51 : decode cX6_batch 51 = .ok (.iload_n 1, 1) := by decide +kernel
theorem dX6_batch_52 : decode cX6_batch 52 = .ok (.iaload, 1) := by decide +kernel
theorem dX6_batch_53 : decode cX6_batch 53 = .ok (.ifCond .eq 15, 3) := by decide +kernel
theorem dX6_batch_56 : decode cX6_batch 56 = .ok (.aload_n 0, 1) := by decide +kernel
theorem dX6_batch_57 : decode cX6_batch 57 = .ok (.getfield 28, 3) := by decide +kernel
theorem dX6_batch_60 : decode cX6_batch 60 = .ok (.iload 4, 2) := by decide +kernel
theorem dX6_batch_62 : decode cX6_batch 62 = .ok (.invokevirtual 138, 3) := by decide +kernel
theorem dX6_batch_65 : decode cX6_batch 65 = .ok (.ifCond .eq 6, 3) := by decide +kernel
theorem dX6_batch_68 : decode cX6_batch 68 = .ok (.bipush (-2), 2) := by decide +kernel
theorem dX6_batch_70 : decode cX6_batch 70 = .ok (.ireturn, 1) := by decide +kernel
theorem dX6_batch_71 : decode cX6_batch 71 = .ok (.aload_n 0, 1) := by decide +kernel
theorem dX6_batch_72 : decode cX6_batch 72 = .ok (.getfield 28, 3) := by decide +kernel
theorem dX6_batch_75 : decode cX6_batch 75 = .ok (.getfield 141, 3) := by decide +kernel
theorem dX6_batch_78 : decode cX6_batch 78 = .ok (.bipush 12, 2) := by decide +kernel
theorem dX6_batch_80 : decode cX6_batch 80 = .ok (.if_icmp .lt 6, 3) := by decide +kernel
theorem dX6_batch_83 : decode cX6_batch 83 = .ok (.bipush (-3), 2) := by decide +kernel
theorem dX6_batch_85 : decode cX6_batch 85 = .ok (.ireturn, 1) := by decide +kernel
theorem dX6_batch_86 : decode cX6_batch 86 = .ok (.aload_n 0, 1) := by decide +kernel
theorem dX6_batch_87 : decode cX6_batch 87 = .ok (.invokevirtual 47, 3) := by decide +kernel
theorem dX6_batch_90 : decode cX6_batch 90 = .ok (.aload_n 0, 1) := by decide +kernel
theorem dX6_batch_91 : decode cX6_batch 91 = .ok (.getfield 28, 3) := by decide +kernel
theorem dX6_batch_94 : decode cX6_batch 94 = .ok (.iload_n 1, 1) := by decide +kernel
theorem dX6_batch_95 : decode cX6_batch 95 = .ok (.iload_n 2, 1) := by decide +kernel
theorem dX6_batch_96 : decode cX6_batch 96 = .ok (.iload_n 3, 1) := by decide +kernel
theorem dX6_batch_97 : decode cX6_batch 97 = .ok (.iload 4, 2) := by decide +kernel
theorem dX6_batch_99 : decode cX6_batch 99 = .ok (.invokevirtual 144, 3) := by decide +kernel
theorem dX6_batch_102 : decode cX6_batch 102 = .ok (.ireturn, 1) := by decide +kernel
theorem dX6_start_0 : decode cX6_start 0 = .ok (.aload_n 0, 1) := by decide +kernel
theorem dX6_start_1 : decode cX6_start 1 = .ok (.iload_n 1, 1) := by decide +kernel
theorem dX6_start_2 : decode cX6_start 2 = .ok (.invokevirtual 135, 3) := by decide +kernel
theorem dX6_start_5 : decode cX6_start 5 = .ok (.ifCond .ne 5, 3) := by decide +kernel
theorem dX6_start_8 : decode cX6_start 8 = .ok (.iconst (-1), 1) := by decide +kernel
theorem dX6_start_9 : decode cX6_start 9 = .ok (.ireturn, 1) := by decide +kernel
theorem dX6_start_10 : decode cX6_start 10 = .ok (.aload_n 0, 1) := by decide +kernel
theorem dX6_start_11 : decode cX6_start 11 = .ok (.getfield 28, 3) := by decide +kernel
theorem dX6_start_14 : decode cX6_start 14 = .ok (.getfield 148, 3) := by decide +kernel
theorem dX6_start_17 : decode cX6_start 17 = .ok (.iload_n 1, 1) := by decide +kernel
theorem dX6_start_18 : decode cX6_start 18 = .ok (.aaload, 1) := by decide +kernel
theorem dX6_start_19 : decode cX6_start 19 = .ok (.getfield 152, 3) := by decide +kernel
theorem dX6_start_22 : decode cX6_start 22 = .ok (.ifCond .eq 6, 3) := by decide +kernel
theorem dX6_start_25 : decode cX6_start 25 = .ok (.bipush (-2), 2) := by decide +kernel
theorem dX6_start_27 : decode cX6_start 27 = .ok (.ireturn, 1) := by decide +kernel
theorem dX6_start_28 : decode cX6_start 28 = .ok (.aload_n 0, 1) := by decide +kernel
theorem dX6_start_29 : decode cX6_start 29 = .ok (.invokevirtual 47, 3) := by decide +kernel
theorem dX6_start_32 : decode cX6_start 32 = .ok (.aload_n 0, 1) := by decide +kernel
theorem dX6_start_33 : decode cX6_start 33 = .ok (.getfield 28, 3) := by decide +kernel
theorem dX6_start_36 : decode cX6_start 36 = .ok (.getfield 148, 3) := by decide +kernel
theorem dX6_start_39 : decode cX6_start 39 = .ok (.iload_n 1, 1) := by decide +kernel
theorem dX6_start_40 : decode cX6_start 40 = .ok (.aaload, 1) := by decide +kernel
theorem dX6_start_41 : decode cX6_start 41 = .ok (.iconst 1, 1) := by decide +kernel
theorem dX6_start_42 : decode cX6_start 42 = .ok (.putfield 152, 3) := by decide +kernel
theorem dX6_start_45 : decode cX6_start 45 = .ok (.aload_n 0, 1) := by decide +kernel
theorem dX6_start_46 : decode cX6_start 46 = .ok (.getfield 28, 3) := by decide +kernel
theorem dX6_start_49 : decode cX6_start 49 = .ok (.iconst 1, 1) := by decide +kernel
theorem dX6_start_50 : decode cX6_start 50 = .ok (.invokevirtual 157, 3) := by decide +kernel
theorem dX6_start_53 : decode cX6_start 53 = .ok (.ireturn, 1) := by decide +kernel
theorem dX6_hold_0 : decode cX6_hold 0 = .ok (.aload_n 0, 1) := by decide +kernel
theorem dX6_hold_1 : decode cX6_hold 1 = .ok (.iload_n 1, 1) := by decide +kernel
theorem dX6_hold_2 : decode cX6_hold 2 = .ok (.invokevirtual 135, 3) := by decide +kernel
theorem dX6_hold_5 : decode cX6_hold 5 = .ok (.ifCond .ne 5, 3) := by decide +kernel
theorem dX6_hold_8 : decode cX6_hold 8 = .ok (.iconst (-1), 1) := by decide +kernel
theorem dX6_hold_9 : decode cX6_hold 9 = .ok (.ireturn, 1) := by decide +kernel
theorem dX6_hold_10 : decode cX6_hold 10 = .ok (.aload_n 0, 1) := by decide +kernel
theorem dX6_hold_11 : decode cX6_hold 11 = .ok (.getfield 28, 3) := by decide +kernel
theorem dX6_hold_14 : decode cX6_hold 14 = .ok (.getfield 148, 3) := by decide +kernel
theorem dX6_hold_17 : decode cX6_hold 17 = .ok (.iload_n 1, 1) := by decide +kernel
theorem dX6_hold_18 : decode cX6_hold 18 = .ok (.aaload, 1) := by decide +kernel
theorem dX6_hold_19 : decode cX6_hold 19 = .ok (.invokevirtual 160, 3) := by decide +kernel
theorem dX6_hold_22 : decode cX6_hold 22 = .ok (.ifCond .ne 6, 3) := by decide +kernel
theorem dX6_hold_25 : decode cX6_hold 25 = .ok (.bipush (-2), 2) := by decide +kernel
theorem dX6_hold_27 : decode cX6_hold 27 = .ok (.ireturn, 1) := by decide +kernel
theorem dX6_hold_28 : decode cX6_hold 28 = .ok (.aload_n 0, 1) := by decide +kernel
theorem dX6_hold_29 : decode cX6_hold 29 = .ok (.invokevirtual 47, 3) := by decide +kernel
theorem dX6_hold_32 : decode cX6_hold 32 = .ok (.aload_n 0, 1) := by decide +kernel
theorem dX6_hold_33 : decode cX6_hold 33 = .ok (.getfield 28, 3) := by decide +kernel
theorem dX6_hold_36 : decode cX6_hold 36 = .ok (.iload_n 1, 1) := by decide +kernel
theorem dX6_hold_37 : decode cX6_hold 37 = .ok (.invokevirtual 164, 3) := by decide +kernel
theorem dX6_hold_40 : decode cX6_hold 40 = .ok (.aload_n 0, 1) := by decide +kernel
theorem dX6_hold_41 : decode cX6_hold 41 = .ok (.getfield 28, 3) := by decide +kernel
theorem dX6_hold_44 : decode cX6_hold 44 = .ok (.iconst 2, 1) := by decide +kernel
theorem dX6_hold_45 : decode cX6_hold 45 = .ok (.invokevirtual 157, 3) := by decide +kernel
theorem dX6_hold_48 : decode cX6_hold 48 = .ok (.ireturn, 1) := by decide +kernel
theorem dX6_restart_0 : decode cX6_restart 0 = .ok (.aload_n 0, 1) := by decide +kernel
theorem dX6_restart_1 : decode cX6_restart 1 = .ok (.iload_n 1, 1) := by decide +kernel
theorem dX6_restart_2 : decode cX6_restart 2 = .ok (.invokevirtual 135, 3) := by decide +kernel
theorem dX6_restart_5 : decode cX6_restart 5 = .ok (.ifCond .ne 5, 3) := by decide +kernel
theorem dX6_restart_8 : decode cX6_restart 8 = .ok (.iconst (-1), 1) := by decide +kernel
theorem dX6_restart_9 : decode cX6_restart 9 = .ok (.ireturn, 1) := by decide +kernel
theorem dX6_restart_10 : decode cX6_restart 10 = .ok (.aload_n 0, 1) := by decide +kernel
theorem dX6_restart_11 : decode cX6_restart 11 = .ok (.getfield 28, 3) := by decide +kernel
theorem dX6_restart_14 : decode cX6_restart 14 = .ok (.getfield 148, 3) := by decide +kernel
theorem dX6_restart_17 : decode cX6_restart 17 = .ok (.iload_n 1, 1) := by decide +kernel
theorem dX6_restart_18 : decode cX6_restart 18 = .ok (.aaload, 1) := by decide +kernel
theorem dX6_restart_19 : decode cX6_restart 19 = .ok (.getfield 152, 3) := by decide +kernel
theorem dX6_restart_22 : decode cX6_restart 22 = .ok (.iconst 2, 1) := by decide +kernel
theorem dX6_restart_23 : decode cX6_restart 23 = .ok (.if_icmp .ne 14, 3) := by decide +kernel
theorem dX6_restart_26 : decode cX6_restart 26 = .ok (.aload_n 0, 1) := by decide +kernel
theorem dX6_restart_27 : decode cX6_restart 27 = .ok (.getfield 28, 3) := by decide +kernel
theorem dX6_restart_30 : decode cX6_restart 30 = .ok (.iload_n 1, 1) := by decide +kernel
theorem dX6_restart_31 : decode cX6_restart 31 = .ok (.invokevirtual 168, 3) := by decide +kernel
theorem dX6_restart_34 : decode cX6_restart 34 = .ok (.ifCond .eq 6, 3) := by decide +kernel
theorem dX6_restart_37 : decode cX6_restart 37 = .ok (.bipush (-2), 2) := by decide +kernel
theorem dX6_restart_39 : decode cX6_restart 39 = .ok (.ireturn, 1) := by decide +kernel
theorem dX6_restart_40 : decode cX6_restart 40 = .ok (.aload_n 0, 1) := by decide +kernel
theorem dX6_restart_41 : decode cX6_restart 41 = .ok (.invokevirtual 47, 3) := by decide +kernel
theorem dX6_restart_44 : decode cX6_restart 44 = .ok (.aload_n 0, 1) := by decide +kernel
theorem dX6_restart_45 : decode cX6_restart 45 = .ok (.getfield 28, 3) := by decide +kernel
theorem dX6_restart_48 : decode cX6_restart 48 = .ok (.iload_n 1, 1) := by decide +kernel
theorem dX6_restart_49 : decode cX6_restart 49 = .ok (.invokevirtual 171, 3) := by decide +kernel
theorem dX6_restart_52 : decode cX6_restart 52 = .ok (.aload_n 0, 1) := by decide +kernel
theorem dX6_restart_53 : decode cX6_restart 53 = .ok (.getfield 28, 3) := by decide +kernel
theorem dX6_restart_56 : decode cX6_restart 56 = .ok (.iload_n 1, 1) := by decide +kernel
theorem dX6_restart_57 : decode cX6_restart 57 = .ok (.invokevirtual 174, 3) := by decide +kernel
theorem dX6_restart_60 : decode cX6_restart 60 = .ok (.ireturn, 1) := by decide +kernel
theorem dX6_stop_0 : decode cX6_stop 0 = .ok (.aload_n 0, 1) := by decide +kernel
theorem dX6_stop_1 : decode cX6_stop 1 = .ok (.iload_n 1, 1) := by decide +kernel
theorem dX6_stop_2 : decode cX6_stop 2 = .ok (.invokevirtual 135, 3) := by decide +kernel
theorem dX6_stop_5 : decode cX6_stop 5 = .ok (.ifCond .ne 5, 3) := by decide +kernel
theorem dX6_stop_8 : decode cX6_stop 8 = .ok (.iconst (-1), 1) := by decide +kernel
theorem dX6_stop_9 : decode cX6_stop 9 = .ok (.ireturn, 1) := by decide +kernel
theorem dX6_stop_10 : decode cX6_stop 10 = .ok (.aload_n 0, 1) := by decide +kernel
theorem dX6_stop_11 : decode cX6_stop 11 = .ok (.getfield 28, 3) := by decide +kernel
theorem dX6_stop_14 : decode cX6_stop 14 = .ok (.getfield 148, 3) := by decide +kernel
theorem dX6_stop_17 : decode cX6_stop 17 = .ok (.iload_n 1, 1) := by decide +kernel
theorem dX6_stop_18 : decode cX6_stop 18 = .ok (.aaload, 1) := by decide +kernel
theorem dX6_stop_19 : decode cX6_stop 19 = .ok (.getfield 152, 3) := by decide +kernel
theorem dX6_stop_22 : decode cX6_stop 22 = .ok (.istore_n 2, 1) := by decide +kernel
theorem dX6_stop_23 : decode cX6_stop 23 = .ok (.iload_n 2, 1) := by decide +kernel
theorem dX6_stop_24 : decode cX6_stop 24 = .ok (.iconst 1, 1) := by decide +kernel
theorem dX6_stop_25 : decode cX6_stop 25 = .ok (.if_icmp .eq 11, 3) := by decide +kernel
theorem dX6_stop_28 : decode cX6_stop 28 = .ok (.iload_n 2, 1) := by decide +kernel
theorem dX6_stop_29 : decode cX6_stop 29 = .ok (.iconst 2, 1) := by decide +kernel
theorem dX6_stop_30 : decode cX6_stop 30 = .ok (.if_icmp .eq 6, 3) := by decide +kernel
theorem dX6_stop_33 : decode cX6_stop 33 = .ok (.bipush (-2), 2) := by decide +kernel
theorem dX6_stop_35 : decode cX6_stop 35 = .ok (.ireturn, 1) := by decide +kernel
theorem dX6_stop_36 : decode cX6_stop 36 = .ok (.aload_n 0, 1) := by decide +kernel
theorem dX6_stop_37 : decode cX6_stop 37 = .ok (.invokevirtual 47, 3) := by decide +kernel
theorem dX6_stop_40 : decode cX6_stop 40 = .ok (.aload_n 0, 1) := by decide +kernel
theorem dX6_stop_41 : decode cX6_stop 41 = .ok (.getfield 28, 3) := by decide +kernel
theorem dX6_stop_44 : decode cX6_stop 44 = .ok (.iload_n 1, 1) := by decide +kernel
theorem dX6_stop_45 : decode cX6_stop 45 = .ok (.invokevirtual 177, 3) := by decide +kernel
theorem dX6_stop_48 : decode cX6_stop 48 = .ok (.aload_n 0, 1) := by decide +kernel
theorem dX6_stop_49 : decode cX6_stop 49 = .ok (.getfield 28, 3) := by decide +kernel
theorem dX6_stop_52 : decode cX6_stop 52 = .ok (.getfield 148, 3) := by decide +kernel
theorem dX6_stop_55 : decode cX6_stop 55 = .ok (.iload_n 1, 1) := by decide +kernel
theorem dX6_stop_56 : decode cX6_stop 56 = .ok (.aaload, 1) := by decide +kernel
theorem dX6_stop_57 : decode cX6_stop 57 = .ok (.getfield 152, 3) := by decide +kernel
theorem dX6_stop_60 : decode cX6_stop 60 = .ok (.ireturn, 1) := by decide +kernel
theorem dX6_abort_0 : decode cX6_abort 0 = .ok (.aload_n 0, 1) := by decide +kernel
theorem dX6_abort_1 : decode cX6_abort 1 = .ok (.iload_n 1, 1) := by decide +kernel
theorem dX6_abort_2 : decode cX6_abort 2 = .ok (.invokevirtual 135, 3) := by decide +kernel
theorem dX6_abort_5 : decode cX6_abort 5 = .ok (.ifCond .ne 5, 3) := by decide +kernel
theorem dX6_abort_8 : decode cX6_abort 8 = .ok (.iconst (-1), 1) := by decide +kernel
theorem dX6_abort_9 : decode cX6_abort 9 = .ok (.ireturn, 1) := by decide +kernel
theorem dX6_abort_10 : decode cX6_abort 10 = .ok (.aload_n 0, 1) := by decide +kernel
theorem dX6_abort_11 : decode cX6_abort 11 = .ok (.getfield 28, 3) := by decide +kernel
theorem dX6_abort_14 : decode cX6_abort 14 = .ok (.getfield 148, 3) := by decide +kernel
theorem dX6_abort_17 : decode cX6_abort 17 = .ok (.iload_n 1, 1) := by decide +kernel
theorem dX6_abort_18 : decode cX6_abort 18 = .ok (.aaload, 1) := by decide +kernel
theorem dX6_abort_19 : decode cX6_abort 19 = .ok (.invokevirtual 180, 3) := by decide +kernel
theorem dX6_abort_22 : decode cX6_abort 22 = .ok (.ifCond .eq 6, 3) := by decide +kernel
theorem dX6_abort_25 : decode cX6_abort 25 = .ok (.bipush (-2), 2) := by decide +kernel
theorem dX6_abort_27 : decode cX6_abort 27 = .ok (.ireturn, 1) := by decide +kernel
theorem dX6_abort_28 : decode cX6_abort 28 = .ok (.aload_n 0, 1) := by decide +kernel
theorem dX6_abort_29 : decode cX6_abort 29 = .ok (.invokevirtual 47, 3) := by decide +kernel
theorem dX6_abort_32 : decode cX6_abort 32 = .ok (.aload_n 0, 1) := by decide +kernel
theorem dX6_abort_33 : decode cX6_abort 33 = .ok (.getfield 28, 3) := by decide +kernel
theorem dX6_abort_36 : decode cX6_abort 36 = .ok (.iload_n 1, 1) := by decide +kernel
theorem dX6_abort_37 : decode cX6_abort 37 = .ok (.invokevirtual 183, 3) := by decide +kernel
theorem dX6_abort_40 : decode cX6_abort 40 = .ok (.ireturn, 1) := by decide +kernel
theorem dX6_priority_0 : decode cX6_priority 0 = .ok (.aload_n 0, 1) := by decide +kernel
theorem dX6_priority_1 : decode cX6_priority 1 = .ok (.iload_n 1, 1) := by decide +kernel
theorem dX6_priority_2 : decode cX6_priority 2 = .ok (.invokevirtual 135, 3) := by decide +kernel
theorem dX6_priority_5 : decode cX6_priority 5 = .ok (.ifCond .eq 10, 3) := by decide +kernel
theorem dX6_priority_8 : decode cX6_priority 8 = .ok (.iload_n 2, 1) := by decide +kernel
theorem dX6_priority_9 : decode cX6_priority 9 = .ok (.invokestatic 132, 3) := by decide +kernel
theorem dX6_priority_12 : decode cX6_priority 12 = .ok (.ifCond .ne 5, 3) := by decide +kernel
theorem dX6_priority_15 : decode cX6_priority 15 = .ok (.iconst (-1), 1) := by decide +kernel
theorem dX6_priority_16 : decode cX6_priority 16 = .ok (.ireturn, 1) := by decide +kernel
theorem dX6_priority_17 : decode cX6_priority 17 = .ok (.aload_n 0, 1) := by decide +kernel
theorem dX6_priority_18 : decode cX6_priority 18 = .ok (.invokevirtual 47, 3) := by decide +kernel
theorem dX6_priority_21 : decode cX6_priority 21 = .ok (.aload_n 0, 1) := by decide +kernel
theorem dX6_priority_22 : decode cX6_priority 22 = .ok (.getfield 28, 3) := by decide +kernel
theorem dX6_priority_25 : decode cX6_priority 25 = .ok (.getfield 148, 3) := by decide +kernel
theorem dX6_priority_28 : decode cX6_priority 28 = .ok (.iload_n 1, 1) := by decide +kernel
theorem dX6_priority_29 : decode cX6_priority 29 = .ok (.aaload, 1) := by decide +kernel
theorem dX6_priority_30 : decode cX6_priority 30 = .ok (.getfield 186, 3) := by decide +kernel
theorem dX6_priority_33 : decode cX6_priority 33 = .ok (.istore_n 3, 1) := by decide +kernel
theorem dX6_priority_34 : decode cX6_priority 34 = .ok (.aload_n 0, 1) := by decide +kernel
theorem dX6_priority_35 : decode cX6_priority 35 = .ok (.getfield 28, 3) := by decide +kernel
theorem dX6_priority_38 : decode cX6_priority 38 = .ok (.getfield 148, 3) := by decide +kernel
theorem dX6_priority_41 : decode cX6_priority 41 = .ok (.iload_n 1, 1) := by decide +kernel
theorem dX6_priority_42 : decode cX6_priority 42 = .ok (.aaload, 1) := by decide +kernel
theorem dX6_priority_43 : decode cX6_priority 43 = .ok (.iload_n 2, 1) := by decide +kernel
theorem dX6_priority_44 : decode cX6_priority 44 = .ok (.putfield 186, 3) := by decide +kernel
theorem dX6_priority_47 : decode cX6_priority 47 = .ok (.iload_n 3, 1) := by decide +kernel
theorem dX6_priority_48 : decode cX6_priority 48 = .ok (.ireturn, 1) := by decide +kernel
theorem dX6_batchInfo_0 : decode cX6_batchInfo 0 = .ok (.aload_n 0, 1) := by decide +kernel
theorem dX6_batchInfo_1 : decode cX6_batchInfo 1 = .ok (.iload_n 1, 1) := by decide +kernel
theorem dX6_batchInfo_2 : decode cX6_batchInfo 2 = .ok (.invokevirtual 135, 3) := by decide +kernel
theorem dX6_batchInfo_5 : decode cX6_batchInfo 5 = .ok (.ifCond .ne 5, 3) := by decide +kernel
theorem dX6_batchInfo_8 : decode cX6_batchInfo 8 = .ok (.iconst (-1), 1) := by decide +kernel
theorem dX6_batchInfo_9 : decode cX6_batchInfo 9 = .ok (.ireturn, 1) := by decide +kernel
theorem dX6_batchInfo_10 : decode cX6_batchInfo 10 = .ok (.aload_n 0, 1) := by decide +kernel
theorem dX6_batchInfo_11 : decode cX6_batchInfo 11 = .ok (.getfield 28, 3) := by decide +kernel
theorem dX6_batchInfo_14 : decode cX6_batchInfo 14 = .ok (.getfield 148, 3) := by decide +kernel
theorem dX6_batchInfo_17 : decode cX6_batchInfo 17 = .ok (.iload_n 1, 1) := by decide +kernel
theorem dX6_batchInfo_18 : decode cX6_batchInfo 18 = .ok (.aaload, 1) := by decide +kernel
theorem dX6_batchInfo_19 : decode cX6_batchInfo 19 = .ok (.astore_n 3, 1) := by decide +kernel
theorem dX6_batchInfo_20 : decode cX6_batchInfo 20 = .ok (.iload_n 2, 1) := by decide +kernel
theorem dX6_batchInfo_21 : decode cX6_batchInfo 21 = .ok (.tableswitch 168 0 11 #[63, 68, 73, 78, 83, 91, 96, 115, 138, 146, 154, 162], 63) := by decide +kernel
theorem dX6_batchInfo_84 : decode cX6_batchInfo 84 = .ok (.aload_n 3, 1) := by decide +kernel
theorem dX6_batchInfo_85 : decode cX6_batchInfo 85 = .ok (.getfield 189, 3) := by decide +kernel
theorem dX6_batchInfo_88 : decode cX6_batchInfo 88 = .ok (.ireturn, 1) := by decide +kernel
theorem dX6_batchInfo_89 : decode cX6_batchInfo 89 = .ok (.aload_n 3, 1) := by decide +kernel
theorem dX6_batchInfo_90 : decode cX6_batchInfo 90 = .ok (.getfield 192, 3) := by decide +kernel
theorem dX6_batchInfo_93 : decode cX6_batchInfo 93 = .ok (.ireturn, 1) := by decide +kernel
theorem dX6_batchInfo_94 : decode cX6_batchInfo 94 = .ok (.aload_n 3, 1) := by decide +kernel
theorem dX6_batchInfo_95 : decode cX6_batchInfo 95 = .ok (.getfield 195, 3) := by decide +kernel
theorem dX6_batchInfo_98 : decode cX6_batchInfo 98 = .ok (.ireturn, 1) := by decide +kernel
theorem dX6_batchInfo_99 : decode cX6_batchInfo 99 = .ok (.aload_n 3, 1) := by decide +kernel
theorem dX6_batchInfo_100 : decode cX6_batchInfo 100 = .ok (.getfield 186, 3) := by decide +kernel
theorem dX6_batchInfo_103 : decode cX6_batchInfo 103 = .ok (.ireturn, 1) := by decide +kernel
theorem dX6_batchInfo_104 : decode cX6_batchInfo 104 = .ok (.aload_n 3, 1) := by decide +kernel
theorem dX6_batchInfo_105 : decode cX6_batchInfo 105 = .ok (.getfield 198, 3) := by decide +kernel
theorem dX6_batchInfo_108 : decode cX6_batchInfo 108 = .ok (.invokestatic 72, 3) := by decide +kernel
theorem dX6_batchInfo_111 : decode cX6_batchInfo 111 = .ok (.ireturn, 1) := by decide +kernel
theorem dX6_batchInfo_112 : decode cX6_batchInfo 112 = .ok (.aload_n 3, 1) := by decide +kernel
theorem dX6_batchInfo_113 : decode cX6_batchInfo 113 = .ok (.getfield 152, 3) := by decide +kernel
theorem dX6_batchInfo_116 : decode cX6_batchInfo 116 = .ok (.ireturn, 1) := by decide +kernel
theorem dX6_batchInfo_117 : decode cX6_batchInfo 117 = .ok (.aload_n 3, 1) := by decide +kernel
theorem dX6_batchInfo_118 : decode cX6_batchInfo 118 = .ok (.getfield 152, 3) := by decide +kernel
theorem dX6_batchInfo_121 : decode cX6_batchInfo 121 = .ok (.bipush 6, 2) := by decide +kernel
theorem dX6_batchInfo_123 : decode cX6_batchInfo 123 = .ok (.if_icmp .ne 8, 3) := by decide +kernel
theorem dX6_batchInfo_126 : decode cX6_batchInfo 126 = .ok (.bipush (-4), 2) := by decide +kernel
theorem dX6_batchInfo_128 : decode cX6_batchInfo 128 = .ok (.goto 7, 3) := by decide +kernel
theorem dX6_batchInfo_131 : decode cX6_batchInfo 131 = .ok (.aload_n 3, 1) := by decide +kernel
theorem dX6_batchInfo_132 : decode cX6_batchInfo 132 = .ok (.getfield 201, 3) := by decide +kernel
theorem dX6_batchInfo_135 : decode cX6_batchInfo 135 = .ok (.ireturn, 1) := by decide +kernel
theorem dX6_batchInfo_136 : decode cX6_batchInfo 136 = .ok (.aload_n 3, 1) := by decide +kernel
theorem dX6_batchInfo_137 : decode cX6_batchInfo 137 = .ok (.getfield 152, 3) := by decide +kernel
theorem dX6_batchInfo_140 : decode cX6_batchInfo 140 = .ok (.bipush 6, 2) := by decide +kernel
theorem dX6_batchInfo_142 : decode cX6_batchInfo 142 = .ok (.if_icmp .ne 8, 3) := by decide +kernel
theorem dX6_batchInfo_145 : decode cX6_batchInfo 145 = .ok (.bipush (-4), 2) := by decide +kernel
theorem dX6_batchInfo_147 : decode cX6_batchInfo 147 = .ok (.goto 11, 3) := by decide +kernel
theorem dX6_batchInfo_150 : decode cX6_batchInfo 150 = .ok (.aload_n 0, 1) := by decide +kernel
theorem dX6_batchInfo_151 : decode cX6_batchInfo 151 = .ok (.getfield 28, 3) := by decide +kernel
theorem dX6_batchInfo_154 : decode cX6_batchInfo 154 = .ok (.iload_n 1, 1) := by decide +kernel
theorem dX6_batchInfo_155 : decode cX6_batchInfo 155 = .ok (.invokevirtual 174, 3) := by decide +kernel
theorem dX6_batchInfo_158 : decode cX6_batchInfo 158 = .ok (.ireturn, 1) := by decide +kernel
theorem dX6_batchInfo_159 : decode cX6_batchInfo 159 = .ok (.aload_n 3, 1) := by decide +kernel
theorem dX6_batchInfo_160 : decode cX6_batchInfo 160 = .ok (.getfield 204, 3) := by decide +kernel
theorem dX6_batchInfo_163 : decode cX6_batchInfo 163 = .ok (.invokestatic 72, 3) := by decide +kernel
theorem dX6_batchInfo_166 : decode cX6_batchInfo 166 = .ok (.ireturn, 1) := by decide +kernel
theorem dX6_batchInfo_167 : decode cX6_batchInfo 167 = .ok (.aload_n 3, 1) := by decide +kernel
theorem dX6_batchInfo_168 : decode cX6_batchInfo 168 = .ok (.invokevirtual 207, 3) := by decide +kernel
theorem dX6_batchInfo_171 : decode cX6_batchInfo 171 = .ok (.invokestatic 88, 3) := by decide +kernel
theorem dX6_batchInfo_174 : decode cX6_batchInfo 174 = .ok (.ireturn, 1) := by decide +kernel
theorem dX6_batchInfo_175 : decode cX6_batchInfo 175 = .ok (.aload_n 3, 1) := by decide +kernel
theorem dX6_batchInfo_176 : decode cX6_batchInfo 176 = .ok (.getfield 210, 3) := by decide +kernel
theorem dX6_batchInfo_179 : decode cX6_batchInfo 179 = .ok (.invokestatic 214, 3) := by decide +kernel
theorem dX6_batchInfo_182 : decode cX6_batchInfo 182 = .ok (.ireturn, 1) := by decide +kernel
theorem dX6_batchInfo_183 : decode cX6_batchInfo 183 = .ok (.aload_n 3, 1) := by decide +kernel
theorem dX6_batchInfo_184 : decode cX6_batchInfo 184 = .ok (.getfield 210, 3) := by decide +kernel
theorem dX6_batchInfo_187 : decode cX6_batchInfo 187 = .ok (.f2i, 1) := by decide +kernel
theorem dX6_batchInfo_188 : decode cX6_batchInfo 188 = .ok (.ireturn, 1) := by decide +kernel
theorem dX6_batchInfo_189 : decode cX6_batchInfo 189 = .ok (.iconst (-1), 1) := by decide +kernel
theorem dX6_batchInfo_190 : decode cX6_batchInfo 190 = .ok (.ireturn, 1) := by decide +kernel
theorem dX6_waits_0 : decode cX6_waits 0 = .ok (.aload_n 0, 1) := by decide +kernel
theorem dX6_waits_1 : decode cX6_waits 1 = .ok (.iload_n 1, 1) := by decide +kernel
theorem dX6_waits_2 : decode cX6_waits 2 = .ok (.invokevirtual 135, 3) := by decide +kernel
theorem dX6_waits_5 : decode cX6_waits 5 = .ok (.ifCond .ne 5, 3) := by decide +kernel
theorem dX6_waits_8 : decode cX6_waits 8 = .ok (.iconst (-1), 1) := by decide +kernel
theorem dX6_waits_9 : decode cX6_waits 9 = .ok (.ireturn, 1) := by decide +kernel
theorem dX6_waits_10 : decode cX6_waits 10 = .ok (.aload_n 0, 1) := by decide +kernel
theorem dX6_waits_11 : decode cX6_waits 11 = .ok (.getfield 28, 3) := by decide +kernel
theorem dX6_waits_14 : decode cX6_waits 14 = .ok (.getfield 148, 3) := by decide +kernel
theorem dX6_waits_17 : decode cX6_waits 17 = .ok (.iload_n 1, 1) := by decide +kernel
theorem dX6_waits_18 : decode cX6_waits 18 = .ok (.aaload, 1) := by decide +kernel
theorem dX6_waits_19 : decode cX6_waits 19 = .ok (.invokevirtual 160, 3) := by decide +kernel
theorem dX6_waits_22 : decode cX6_waits 22 = .ok (.ifCond .ne 6, 3) := by decide +kernel
theorem dX6_waits_25 : decode cX6_waits 25 = .ok (.bipush (-4), 2) := by decide +kernel
theorem dX6_waits_27 : decode cX6_waits 27 = .ok (.ireturn, 1) := by decide +kernel
theorem dX6_waits_28 : decode cX6_waits 28 = .ok (.aload_n 0, 1) := by decide +kernel
theorem dX6_waits_29 : decode cX6_waits 29 = .ok (.getfield 28, 3) := by decide +kernel
theorem dX6_waits_32 : decode cX6_waits 32 = .ok (.iload_n 1, 1) := by decide +kernel
theorem dX6_waits_33 : decode cX6_waits 33 = .ok (.iconst 1, 1) := by decide +kernel
theorem dX6_waits_34 : decode cX6_waits 34 = .ok (.invokevirtual 218, 3) := by decide +kernel
theorem dX6_waits_37 : decode cX6_waits 37 = .ok (.ireturn, 1) := by decide +kernel
theorem dX6_inOrder_0 : decode cX6_inOrder 0 = .ok (.iload_n 1, 1) := by decide +kernel
theorem dX6_inOrder_1 : decode cX6_inOrder 1 = .ok (.ifCond .ge 5, 3) := by decide +kernel
theorem dX6_inOrder_4 : decode cX6_inOrder 4 = .ok (.iconst (-1), 1) := by decide +kernel
theorem dX6_inOrder_5 : decode cX6_inOrder 5 = .ok (.ireturn, 1) := by decide +kernel
theorem dX6_inOrder_6 : decode cX6_inOrder 6 = .ok (.aload_n 0, 1) := by decide +kernel
theorem dX6_inOrder_7 : decode cX6_inOrder 7 = .ok (.getfield 28, 3) := by decide +kernel
theorem dX6_inOrder_10 : decode cX6_inOrder 10 = .ok (.invokevirtual 221, 3) := by decide +kernel
theorem dX6_inOrder_13 : decode cX6_inOrder 13 = .ok (.iload_n 1, 1) := by decide +kernel
theorem dX6_inOrder_14 : decode cX6_inOrder 14 = .ok (.aload_n 0, 1) := by decide +kernel
theorem dX6_inOrder_15 : decode cX6_inOrder 15 = .ok (.getfield 28, 3) := by decide +kernel
theorem dX6_inOrder_18 : decode cX6_inOrder 18 = .ok (.getfield 224, 3) := by decide +kernel
theorem dX6_inOrder_21 : decode cX6_inOrder 21 = .ok (.if_icmp .ge 15, 3) := by decide +kernel
theorem dX6_inOrder_24 : decode cX6_inOrder 24 = .ok (.aload_n 0, 1) := by decide +kernel
theorem dX6_inOrder_25 : decode cX6_inOrder 25 = .ok (.getfield 28, 3) := by decide +kernel
theorem dX6_inOrder_28 : decode cX6_inOrder 28 = .ok (.getfield 227, 3) := by decide +kernel
theorem dX6_inOrder_31 : decode cX6_inOrder 31 = .ok (.iload_n 1, 1) := by decide +kernel
theorem dX6_inOrder_32 : decode cX6_inOrder 32 = .ok (.iaload, 1) := by decide +kernel
theorem dX6_inOrder_33 : decode cX6_inOrder 33 = .ok (.goto 5, 3) := by decide +kernel
theorem dX6_inOrder_36 : decode cX6_inOrder 36 = .ok (.bipush (-4), 2) := by decide +kernel
theorem dX6_inOrder_38 : decode cX6_inOrder 38 = .ok (.ireturn, 1) := by decide +kernel
theorem dX6_run_0 : decode cX6_run 0 = .ok (.iload_n 1, 1) := by decide +kernel
theorem dX6_run_1 : decode cX6_run 1 = .ok (.iconst 1, 1) := by decide +kernel
theorem dX6_run_2 : decode cX6_run 2 = .ok (.sipush 500, 3) := by decide +kernel
theorem dX6_run_5 : decode cX6_run 5 = .ok (.invokestatic 39, 3) := by decide +kernel
theorem dX6_run_8 : decode cX6_run 8 = .ok (.ifCond .ne 5, 3) := by decide +kernel
theorem dX6_run_11 : decode cX6_run 11 = .ok (.iconst (-1), 1) := by decide +kernel
theorem dX6_run_12 : decode cX6_run 12 = .ok (.ireturn, 1) := by decide +kernel
theorem dX6_run_13 : decode cX6_run 13 = .ok (.aload_n 0, 1) := by decide +kernel
theorem dX6_run_14 : decode cX6_run 14 = .ok (.getfield 28, 3) := by decide +kernel
theorem dX6_run_17 : decode cX6_run 17 = .ok (.getfield 230, 3) := by decide +kernel
theorem dX6_run_20 : decode cX6_run 20 = .ok (.iload_n 1, 1) := by decide +kernel
theorem dX6_run_21 : decode cX6_run 21 = .ok (.iadd, 1) := by decide +kernel
theorem dX6_run_22 : decode cX6_run 22 = .ok (.ldc 233, 2) := by decide +kernel
theorem dX6_run_24 : decode cX6_run 24 = .ok (.if_icmp .le 6, 3) := by decide +kernel
theorem dX6_run_27 : decode cX6_run 27 = .ok (.bipush (-3), 2) := by decide +kernel
theorem dX6_run_29 : decode cX6_run 29 = .ok (.ireturn, 1) := by decide +kernel
theorem dX6_run_30 : decode cX6_run 30 = .ok (.aload_n 0, 1) := by decide +kernel
theorem dX6_run_31 : decode cX6_run 31 = .ok (.invokevirtual 47, 3) := by decide +kernel
theorem dX6_run_34 : decode cX6_run 34 = .ok (.aload_n 0, 1) := by decide +kernel
theorem dX6_run_35 : decode cX6_run 35 = .ok (.getfield 28, 3) := by decide +kernel
theorem dX6_run_38 : decode cX6_run 38 = .ok (.bipush 6, 2) := by decide +kernel
theorem dX6_run_40 : decode cX6_run 40 = .ok (.invokevirtual 157, 3) := by decide +kernel
theorem dX6_run_43 : decode cX6_run 43 = .ok (.istore_n 2, 1) := by decide +kernel
theorem dX6_run_44 : decode cX6_run 44 = .ok (.aload_n 0, 1) := by decide +kernel
theorem dX6_run_45 : decode cX6_run 45 = .ok (.getfield 28, 3) := by decide +kernel
theorem dX6_run_48 : decode cX6_run 48 = .ok (.invokevirtual 221, 3) := by decide +kernel
theorem dX6_run_51 : decode cX6_run 51 = .ok (.iconst 0, 1) := by decide +kernel
theorem dX6_run_52 : decode cX6_run 52 = .ok (.istore_n 3, 1) := by decide +kernel
theorem dX6_run_53 : decode cX6_run 53 = .ok (.iload_n 3, 1) := by decide +kernel
theorem dX6_run_54 : decode cX6_run 54 = .ok (.iload_n 1, 1) := by decide +kernel
theorem dX6_run_55 : decode cX6_run 55 = .ok (.if_icmp .ge 17, 3) := by decide +kernel
theorem dX6_run_58 : decode cX6_run 58 = .ok (.aload_n 0, 1) := by decide +kernel
theorem dX6_run_59 : decode cX6_run 59 = .ok (.getfield 28, 3) := by decide +kernel
theorem dX6_run_62 : decode cX6_run 62 = .ok (.invokevirtual 234, 3) := by decide +kernel
theorem dX6_run_65 : decode cX6_run 65 = .ok (.pop, 1) := by decide +kernel
theorem dX6_run_66 : decode cX6_run 66 = .ok (.iinc 3 1, 3) := by decide +kernel
theorem dX6_run_69 : decode cX6_run 69 = .ok (.goto (-16), 3) := by decide +kernel
theorem dX6_run_72 : decode cX6_run 72 = .ok (.aload_n 0, 1) := by decide +kernel
theorem dX6_run_73 : decode cX6_run 73 = .ok (.getfield 28, 3) := by decide +kernel
theorem dX6_run_76 : decode cX6_run 76 = .ok (.bipush 6, 2) := by decide +kernel
theorem dX6_run_78 : decode cX6_run 78 = .ok (.invokevirtual 157, 3) := by decide +kernel
theorem dX6_run_81 : decode cX6_run 81 = .ok (.iload_n 2, 1) := by decide +kernel
theorem dX6_run_82 : decode cX6_run 82 = .ok (.isub, 1) := by decide +kernel
theorem dX6_run_83 : decode cX6_run 83 = .ok (.ireturn, 1) := by decide +kernel
theorem dX6_ticksTo_0 : decode cX6_ticksTo 0 = .ok (.aload_n 0, 1) := by decide +kernel
theorem dX6_ticksTo_1 : decode cX6_ticksTo 1 = .ok (.iload_n 1, 1) := by decide +kernel
theorem dX6_ticksTo_2 : decode cX6_ticksTo 2 = .ok (.invokevirtual 135, 3) := by decide +kernel
theorem dX6_ticksTo_5 : decode cX6_ticksTo 5 = .ok (.ifCond .ne 5, 3) := by decide +kernel
theorem dX6_ticksTo_8 : decode cX6_ticksTo 8 = .ok (.iconst (-1), 1) := by decide +kernel
theorem dX6_ticksTo_9 : decode cX6_ticksTo 9 = .ok (.ireturn, 1) := by decide +kernel
theorem dX6_ticksTo_10 : decode cX6_ticksTo 10 = .ok (.aload_n 0, 1) := by decide +kernel
theorem dX6_ticksTo_11 : decode cX6_ticksTo 11 = .ok (.getfield 28, 3) := by decide +kernel
theorem dX6_ticksTo_14 : decode cX6_ticksTo 14 = .ok (.getfield 148, 3) := by decide +kernel
theorem dX6_ticksTo_17 : decode cX6_ticksTo 17 = .ok (.iload_n 1, 1) := by decide +kernel
theorem dX6_ticksTo_18 : decode cX6_ticksTo 18 = .ok (.aaload, 1) := by decide +kernel
theorem dX6_ticksTo_19 : decode cX6_ticksTo 19 = .ok (.getfield 152, 3) := by decide +kernel
theorem dX6_ticksTo_22 : decode cX6_ticksTo 22 = .ok (.bipush 6, 2) := by decide +kernel
theorem dX6_ticksTo_24 : decode cX6_ticksTo 24 = .ok (.if_icmp .ne 5, 3) := by decide +kernel
theorem dX6_ticksTo_27 : decode cX6_ticksTo 27 = .ok (.iconst 0, 1) := by decide +kernel
theorem dX6_ticksTo_28 : decode cX6_ticksTo 28 = .ok (.ireturn, 1) := by decide +kernel
theorem dX6_ticksTo_29 : decode cX6_ticksTo 29 = .ok (.aload_n 0, 1) := by decide +kernel
theorem dX6_ticksTo_30 : decode cX6_ticksTo 30 = .ok (.getfield 32, 3) := by decide +kernel
theorem dX6_ticksTo_33 : decode cX6_ticksTo 33 = .ok (.aload_n 0, 1) := by decide +kernel
theorem dX6_ticksTo_34 : decode cX6_ticksTo 34 = .ok (.getfield 28, 3) := by decide +kernel
theorem dX6_ticksTo_37 : decode cX6_ticksTo 37 = .ok (.invokevirtual 237, 3) := by decide +kernel
theorem dX6_ticksTo_40 : decode cX6_ticksTo 40 = .ok (.aload_n 0, 1) := by decide +kernel
theorem dX6_ticksTo_41 : decode cX6_ticksTo 41 = .ok (.getfield 32, 3) := by decide +kernel
theorem dX6_ticksTo_44 : decode cX6_ticksTo 44 = .ok (.invokevirtual 221, 3) := by decide +kernel
theorem dX6_ticksTo_47 : decode cX6_ticksTo 47 = .ok (.aload_n 0, 1) := by decide +kernel
theorem dX6_ticksTo_48 : decode cX6_ticksTo 48 = .ok (.getfield 32, 3) := by decide +kernel
theorem dX6_ticksTo_51 : decode cX6_ticksTo 51 = .ok (.getfield 148, 3) := by decide +kernel
theorem dX6_ticksTo_54 : decode cX6_ticksTo 54 = .ok (.iload_n 1, 1) := by decide +kernel
theorem dX6_ticksTo_55 : decode cX6_ticksTo 55 = .ok (.aaload, 1) := by decide +kernel
theorem dX6_ticksTo_56 : decode cX6_ticksTo 56 = .ok (.astore_n 2, 1) := by decide +kernel
theorem dX6_ticksTo_57 : decode cX6_ticksTo 57 = .ok (.iconst 1, 1) := by decide +kernel
theorem dX6_ticksTo_58 : decode cX6_ticksTo 58 = .ok (.istore_n 3, 1) := by decide +kernel
theorem dX6_ticksTo_59 : decode cX6_ticksTo 59 = .ok (.iload_n 3, 1) := by decide +kernel
theorem dX6_ticksTo_60 : decode cX6_ticksTo 60 = .ok (.sipush 2000, 3) := by decide +kernel
theorem dX6_ticksTo_63 : decode cX6_ticksTo 63 = .ok (.if_icmp .gt 44, 3) := by decide +kernel
theorem dX6_ticksTo_66 : decode cX6_ticksTo 66 = .ok (.aload_n 2, 1) := by decide +kernel
theorem dX6_ticksTo_67 : decode cX6_ticksTo 67 = .ok (.invokevirtual 160, 3) := by decide +kernel
theorem dX6_ticksTo_70 : decode cX6_ticksTo 70 = .ok (.ifCond .eq 37, 3) := by decide +kernel
theorem dX6_ticksTo_73 : decode cX6_ticksTo 73 = .ok (.aload_n 0, 1) := by decide +kernel
theorem dX6_ticksTo_74 : decode cX6_ticksTo 74 = .ok (.getfield 32, 3) := by decide +kernel
theorem dX6_ticksTo_77 : decode cX6_ticksTo 77 = .ok (.invokevirtual 234, 3) := by decide +kernel
theorem dX6_ticksTo_80 : decode cX6_ticksTo 80 = .ok (.istore 4, 2) := by decide +kernel
theorem dX6_ticksTo_82 : decode cX6_ticksTo 82 = .ok (.aload_n 2, 1) := by decide +kernel
theorem dX6_ticksTo_83 : decode cX6_ticksTo 83 = .ok (.getfield 152, 3) := by decide +kernel
theorem dX6_ticksTo_86 : decode cX6_ticksTo 86 = .ok (.bipush 6, 2) := by decide +kernel
theorem dX6_ticksTo_88 : decode cX6_ticksTo 88 = .ok (.if_icmp .ne 5, 3) := by decide +kernel
theorem dX6_ticksTo_91 : decode cX6_ticksTo 91 = .ok (.iload_n 3, 1) := by decide +kernel
theorem dX6_ticksTo_92 : decode cX6_ticksTo 92 = .ok (.ireturn, 1) := by decide +kernel
theorem dX6_ticksTo_93 : decode cX6_ticksTo 93 = .ok (.iload 4, 2) := by decide +kernel
theorem dX6_ticksTo_95 : decode cX6_ticksTo 95 = .ok (.ifCond .ne 6, 3) := by decide +kernel
theorem dX6_ticksTo_98 : decode cX6_ticksTo 98 = .ok (.bipush (-4), 2) := by decide +kernel
theorem dX6_ticksTo_100 : decode cX6_ticksTo 100 = .ok (.ireturn, 1) := by decide +kernel
theorem dX6_ticksTo_101 : decode cX6_ticksTo 101 = .ok (.iinc 3 1, 3) := by decide +kernel
theorem dX6_ticksTo_104 : decode cX6_ticksTo 104 = .ok (.goto (-45), 3) := by decide +kernel
theorem dX6_ticksTo_107 : decode cX6_ticksTo 107 = .ok (.bipush (-4), 2) := by decide +kernel
theorem dX6_ticksTo_109 : decode cX6_ticksTo 109 = .ok (.ireturn, 1) := by decide +kernel
theorem dX6_count_0 : decode cX6_count 0 = .ok (.iload_n 1, 1) := by decide +kernel
theorem dX6_count_1 : decode cX6_count 1 = .ok (.tableswitch 186 0 17 #[87, 95, 103, 111, 119, 119, 119, 119, 119, 119, 119, 130, 138, 146, 157, 162, 170, 178], 87) := by decide +kernel
theorem dX6_count_88 : decode cX6_count 88 = .ok (.aload_n 0, 1) := by decide +kernel
theorem dX6_count_89 : decode cX6_count 89 = .ok (.getfield 28, 3) := by decide +kernel
theorem dX6_count_92 : decode cX6_count 92 = .ok (.getfield 43, 3) := by decide +kernel
theorem dX6_count_95 : decode cX6_count 95 = .ok (.ireturn, 1) := by decide +kernel
theorem dX6_count_96 : decode cX6_count 96 = .ok (.aload_n 0, 1) := by decide +kernel
theorem dX6_count_97 : decode cX6_count 97 = .ok (.getfield 28, 3) := by decide +kernel
theorem dX6_count_100 : decode cX6_count 100 = .ok (.invokevirtual 75, 3) := by decide +kernel
theorem dX6_count_103 : decode cX6_count 103 = .ok (.ireturn, 1) := by decide +kernel
theorem dX6_count_104 : decode cX6_count 104 = .ok (.aload_n 0, 1) := by decide +kernel
theorem dX6_count_105 : decode cX6_count 105 = .ok (.getfield 28, 3) := by decide +kernel
theorem dX6_count_108 : decode cX6_count 108 = .ok (.invokevirtual 241, 3) := by decide +kernel
theorem dX6_count_111 : decode cX6_count 111 = .ok (.ireturn, 1) := by decide +kernel
theorem dX6_count_112 : decode cX6_count 112 = .ok (.aload_n 0, 1) := by decide +kernel
theorem dX6_count_113 : decode cX6_count 113 = .ok (.getfield 28, 3) := by decide +kernel
theorem dX6_count_116 : decode cX6_count 116 = .ok (.getfield 141, 3) := by decide +kernel
theorem dX6_count_119 : decode cX6_count 119 = .ok (.ireturn, 1) := by decide +kernel
theorem dX6_count_120 : decode cX6_count 120 = .ok (.aload_n 0, 1) := by decide +kernel
theorem dX6_count_121 : decode cX6_count 121 = .ok (.getfield 28, 3) := by decide +kernel
theorem dX6_count_124 : decode cX6_count 124 = .ok (.iload_n 1, 1) := by decide +kernel
theorem dX6_count_125 : decode cX6_count 125 = .ok (.iconst 4, 1) := by decide +kernel
theorem dX6_count_126 : decode cX6_count 126 = .ok (.isub, 1) := by decide +kernel
theorem dX6_count_127 : decode cX6_count 127 = .ok (.invokevirtual 157, 3) := by decide +kernel
theorem dX6_count_130 : decode cX6_count 130 = .ok (.ireturn, 1) := by decide +kernel
theorem dX6_count_131 : decode cX6_count 131 = .ok (.aload_n 0, 1) := by decide +kernel
theorem dX6_count_132 : decode cX6_count 132 = .ok (.getfield 28, 3) := by decide +kernel
theorem dX6_count_135 : decode cX6_count 135 = .ok (.getfield 230, 3) := by decide +kernel
theorem dX6_count_138 : decode cX6_count 138 = .ok (.ireturn, 1) := by decide +kernel
theorem dX6_count_139 : decode cX6_count 139 = .ok (.aload_n 0, 1) := by decide +kernel
theorem dX6_count_140 : decode cX6_count 140 = .ok (.getfield 28, 3) := by decide +kernel
theorem dX6_count_143 : decode cX6_count 143 = .ok (.getfield 108, 3) := by decide +kernel
theorem dX6_count_146 : decode cX6_count 146 = .ok (.ireturn, 1) := by decide +kernel
theorem dX6_count_147 : decode cX6_count 147 = .ok (.aload_n 0, 1) := by decide +kernel
theorem dX6_count_148 : decode cX6_count 148 = .ok (.getfield 28, 3) := by decide +kernel
theorem dX6_count_151 : decode cX6_count 151 = .ok (.getfield 244, 3) := by decide +kernel
theorem dX6_count_154 : decode cX6_count 154 = .ok (.getfield 248, 3) := by decide +kernel
theorem dX6_count_157 : decode cX6_count 157 = .ok (.ireturn, 1) := by decide +kernel
theorem dX6_count_158 : decode cX6_count 158 = .ok (.aload_n 0, 1) := by decide +kernel
theorem dX6_count_159 : decode cX6_count 159 = .ok (.getfield 253, 3) := by decide +kernel
theorem dX6_count_162 : decode cX6_count 162 = .ok (.ireturn, 1) := by decide +kernel
theorem dX6_count_163 : decode cX6_count 163 = .ok (.aload_n 0, 1) := by decide +kernel
theorem dX6_count_164 : decode cX6_count 164 = .ok (.getfield 19, 3) := by decide +kernel
theorem dX6_count_167 : decode cX6_count 167 = .ok (.getfield 256, 3) := by decide +kernel
theorem dX6_count_170 : decode cX6_count 170 = .ok (.ireturn, 1) := by decide +kernel
theorem dX6_count_171 : decode cX6_count 171 = .ok (.aload_n 0, 1) := by decide +kernel
theorem dX6_count_172 : decode cX6_count 172 = .ok (.getfield 28, 3) := by decide +kernel
theorem dX6_count_175 : decode cX6_count 175 = .ok (.invokevirtual 257, 3) := by decide +kernel
theorem dX6_count_178 : decode cX6_count 178 = .ok (.ireturn, 1) := by decide +kernel
theorem dX6_count_179 : decode cX6_count 179 = .ok (.aload_n 0, 1) := by decide +kernel
theorem dX6_count_180 : decode cX6_count 180 = .ok (.getfield 28, 3) := by decide +kernel
theorem dX6_count_183 : decode cX6_count 183 = .ok (.invokevirtual 260, 3) := by decide +kernel
theorem dX6_count_186 : decode cX6_count 186 = .ok (.ireturn, 1) := by decide +kernel
theorem dX6_count_187 : decode cX6_count 187 = .ok (.iconst (-1), 1) := by decide +kernel
theorem dX6_count_188 : decode cX6_count 188 = .ok (.ireturn, 1) := by decide +kernel
theorem dX6_event_0 : decode cX6_event 0 = .ok (.iload_n 1, 1) := by decide +kernel
theorem dX6_event_1 : decode cX6_event 1 = .ok (.ifCond .lt 12, 3) := by decide +kernel
theorem dX6_event_4 : decode cX6_event 4 = .ok (.iload_n 2, 1) := by decide +kernel
theorem dX6_event_5 : decode cX6_event 5 = .ok (.iconst 0, 1) := by decide +kernel
theorem dX6_event_6 : decode cX6_event 6 = .ok (.iconst 2, 1) := by decide +kernel
theorem dX6_event_7 : decode cX6_event 7 = .ok (.invokestatic 39, 3) := by decide +kernel
theorem dX6_event_10 : decode cX6_event 10 = .ok (.ifCond .ne 5, 3) := by decide +kernel
theorem dX6_event_13 : decode cX6_event 13 = .ok (.iconst (-1), 1) := by decide +kernel
theorem dX6_event_14 : decode cX6_event 14 = .ok (.ireturn, 1) := by decide +kernel
theorem dX6_event_15 : decode cX6_event 15 = .ok (.iload_n 1, 1) := by decide +kernel
theorem dX6_event_16 : decode cX6_event 16 = .ok (.aload_n 0, 1) := by decide +kernel
theorem dX6_event_17 : decode cX6_event 17 = .ok (.getfield 28, 3) := by decide +kernel
theorem dX6_event_20 : decode cX6_event 20 = .ok (.getfield 244, 3) := by decide +kernel
theorem dX6_event_23 : decode cX6_event 23 = .ok (.getfield 248, 3) := by decide +kernel
theorem dX6_event_26 : decode cX6_event 26 = .ok (.if_icmp .ge 18, 3) := by decide +kernel
theorem dX6_event_29 : decode cX6_event 29 = .ok (.aload_n 0, 1) := by decide +kernel
theorem dX6_event_30 : decode cX6_event 30 = .ok (.getfield 28, 3) := by decide +kernel
theorem dX6_event_33 : decode cX6_event 33 = .ok (.getfield 244, 3) := by decide +kernel
theorem dX6_event_36 : decode cX6_event 36 = .ok (.iload_n 1, 1) := by decide +kernel
theorem dX6_event_37 : decode cX6_event 37 = .ok (.iload_n 2, 1) := by decide +kernel
theorem dX6_event_38 : decode cX6_event 38 = .ok (.invokevirtual 263, 3) := by decide +kernel
theorem dX6_event_41 : decode cX6_event 41 = .ok (.goto 5, 3) := by decide +kernel
theorem dX6_event_44 : decode cX6_event 44 = .ok (.bipush (-4), 2) := by decide +kernel
theorem dX6_event_46 : decode cX6_event 46 = .ok (.ireturn, 1) := by decide +kernel
theorem dX6_undo_0 : decode cX6_undo 0 = .ok (.aload_n 0, 1) := by decide +kernel
theorem dX6_undo_1 : decode cX6_undo 1 = .ok (.getfield 253, 3) := by decide +kernel
theorem dX6_undo_4 : decode cX6_undo 4 = .ok (.ifCond .gt 6, 3) := by decide +kernel
theorem dX6_undo_7 : decode cX6_undo 7 = .ok (.bipush (-2), 2) := by decide +kernel
theorem dX6_undo_9 : decode cX6_undo 9 = .ok (.ireturn, 1) := by decide +kernel
theorem dX6_undo_10 : decode cX6_undo 10 = .ok (.aload_n 0, 1) := by decide +kernel
theorem dX6_undo_11 : decode cX6_undo 11 = .ok (.dup, 1) := by decide +kernel
theorem dX6_undo_12 : decode cX6_undo 12 = .ok (.getfield 253, 3) := by decide +kernel
theorem dX6_undo_15 : decode cX6_undo 15 = .ok (.iconst 1, 1) := by decide +kernel
theorem dX6_undo_16 : decode cX6_undo 16 = .ok (.isub, 1) := by decide +kernel
theorem dX6_undo_17 : decode cX6_undo 17 = .ok (.putfield 253, 3) := by decide +kernel
theorem dX6_undo_20 : decode cX6_undo 20 = .ok (.aload_n 0, 1) := by decide +kernel
theorem dX6_undo_21 : decode cX6_undo 21 = .ok (.getfield 28, 3) := by decide +kernel
theorem dX6_undo_24 : decode cX6_undo 24 = .ok (.aload_n 0, 1) := by decide +kernel
theorem dX6_undo_25 : decode cX6_undo 25 = .ok (.getfield 35, 3) := by decide +kernel
theorem dX6_undo_28 : decode cX6_undo 28 = .ok (.aload_n 0, 1) := by decide +kernel
theorem dX6_undo_29 : decode cX6_undo 29 = .ok (.getfield 253, 3) := by decide +kernel
theorem dX6_undo_32 : decode cX6_undo 32 = .ok (.aaload, 1) := by decide +kernel
theorem dX6_undo_33 : decode cX6_undo 33 = .ok (.invokevirtual 237, 3) := by decide +kernel
theorem dX6_undo_36 : decode cX6_undo 36 = .ok (.aload_n 0, 1) := by decide +kernel
theorem dX6_undo_37 : decode cX6_undo 37 = .ok (.getfield 253, 3) := by decide +kernel
theorem dX6_undo_40 : decode cX6_undo 40 = .ok (.ireturn, 1) := by decide +kernel
theorem dX6_type_0 : decode cX6_type 0 = .ok (.iload_n 1, 1) := by decide +kernel
theorem dX6_type_1 : decode cX6_type 1 = .ok (.bipush 32, 2) := by decide +kernel
theorem dX6_type_3 : decode cX6_type 3 = .ok (.bipush 126, 2) := by decide +kernel
theorem dX6_type_5 : decode cX6_type 5 = .ok (.invokestatic 39, 3) := by decide +kernel
theorem dX6_type_8 : decode cX6_type 8 = .ok (.ifCond .ne 5, 3) := by decide +kernel
theorem dX6_type_11 : decode cX6_type 11 = .ok (.iconst (-1), 1) := by decide +kernel
theorem dX6_type_12 : decode cX6_type 12 = .ok (.ireturn, 1) := by decide +kernel
theorem dX6_type_13 : decode cX6_type 13 = .ok (.aload_n 0, 1) := by decide +kernel
theorem dX6_type_14 : decode cX6_type 14 = .ok (.getfield 19, 3) := by decide +kernel
theorem dX6_type_17 : decode cX6_type 17 = .ok (.getfield 256, 3) := by decide +kernel
theorem dX6_type_20 : decode cX6_type 20 = .ok (.bipush 100, 2) := by decide +kernel
theorem dX6_type_22 : decode cX6_type 22 = .ok (.if_icmp .lt 6, 3) := by decide +kernel
theorem dX6_type_25 : decode cX6_type 25 = .ok (.bipush (-3), 2) := by decide +kernel
theorem dX6_type_27 : decode cX6_type 27 = .ok (.ireturn, 1) := by decide +kernel
theorem dX6_type_28 : decode cX6_type 28 = .ok (.aload_n 0, 1) := by decide +kernel
theorem dX6_type_29 : decode cX6_type 29 = .ok (.getfield 19, 3) := by decide +kernel
theorem dX6_type_32 : decode cX6_type 32 = .ok (.iload_n 1, 1) := by decide +kernel
theorem dX6_type_33 : decode cX6_type 33 = .ok (.i2c, 1) := by decide +kernel
theorem dX6_type_34 : decode cX6_type 34 = .ok (.invokevirtual 265, 3) := by decide +kernel
theorem dX6_type_37 : decode cX6_type 37 = .ok (.aload_n 0, 1) := by decide +kernel
theorem dX6_type_38 : decode cX6_type 38 = .ok (.getfield 19, 3) := by decide +kernel
theorem dX6_type_41 : decode cX6_type 41 = .ok (.getfield 256, 3) := by decide +kernel
theorem dX6_type_44 : decode cX6_type 44 = .ok (.ireturn, 1) := by decide +kernel
theorem dX6_clearText_0 : decode cX6_clearText 0 = .ok (.aload_n 0, 1) := by decide +kernel
theorem dX6_clearText_1 : decode cX6_clearText 1 = .ok (.getfield 19, 3) := by decide +kernel
theorem dX6_clearText_4 : decode cX6_clearText 4 = .ok (.getfield 256, 3) := by decide +kernel
theorem dX6_clearText_7 : decode cX6_clearText 7 = .ok (.istore_n 1, 1) := by decide +kernel
theorem dX6_clearText_8 : decode cX6_clearText 8 = .ok (.aload_n 0, 1) := by decide +kernel
theorem dX6_clearText_9 : decode cX6_clearText 9 = .ok (.getfield 19, 3) := by decide +kernel
theorem dX6_clearText_12 : decode cX6_clearText 12 = .ok (.iconst 0, 1) := by decide +kernel
theorem dX6_clearText_13 : decode cX6_clearText 13 = .ok (.putfield 256, 3) := by decide +kernel
theorem dX6_clearText_16 : decode cX6_clearText 16 = .ok (.iload_n 1, 1) := by decide +kernel
theorem dX6_clearText_17 : decode cX6_clearText 17 = .ok (.ireturn, 1) := by decide +kernel
theorem dX6_fault_0 : decode cX6_fault 0 = .ok (.iload_n 1, 1) := by decide +kernel
theorem dX6_fault_1 : decode cX6_fault 1 = .ok (.iconst 0, 1) := by decide +kernel
theorem dX6_fault_2 : decode cX6_fault 2 = .ok (.iconst 1, 1) := by decide +kernel
theorem dX6_fault_3 : decode cX6_fault 3 = .ok (.invokestatic 39, 3) := by decide +kernel
theorem dX6_fault_6 : decode cX6_fault 6 = .ok (.ifCond .ne 5, 3) := by decide +kernel
theorem dX6_fault_9 : decode cX6_fault 9 = .ok (.iconst (-1), 1) := by decide +kernel
theorem dX6_fault_10 : decode cX6_fault 10 = .ok (.ireturn, 1) := by decide +kernel
theorem dX6_fault_11 : decode cX6_fault 11 = .ok (.aload_n 0, 1) := by decide +kernel
theorem dX6_fault_12 : decode cX6_fault 12 = .ok (.getfield 19, 3) := by decide +kernel
theorem dX6_fault_15 : decode cX6_fault 15 = .ok (.invokevirtual 112, 3) := by decide +kernel
theorem dX6_fault_18 : decode cX6_fault 18 = .ok (.aload_n 0, 1) := by decide +kernel
theorem dX6_fault_19 : decode cX6_fault 19 = .ok (.getfield 19, 3) := by decide +kernel
theorem dX6_fault_22 : decode cX6_fault 22 = .ok (.getfield 115, 3) := by decide +kernel
theorem dX6_fault_25 : decode cX6_fault 25 = .ok (.ifCond .ne 6, 3) := by decide +kernel
theorem dX6_fault_28 : decode cX6_fault 28 = .ok (.bipush (-4), 2) := by decide +kernel
theorem dX6_fault_30 : decode cX6_fault 30 = .ok (.ireturn, 1) := by decide +kernel
theorem dX6_fault_31 : decode cX6_fault 31 = .ok (.iload_n 1, 1) := by decide +kernel
theorem dX6_fault_32 : decode cX6_fault 32 = .ok (.ifCond .ne 13, 3) := by decide +kernel
theorem dX6_fault_35 : decode cX6_fault 35 = .ok (.aload_n 0, 1) := by decide +kernel
theorem dX6_fault_36 : decode cX6_fault 36 = .ok (.getfield 19, 3) := by decide +kernel
theorem dX6_fault_39 : decode cX6_fault 39 = .ok (.getfield 269, 3) := by decide +kernel
theorem dX6_fault_42 : decode cX6_fault 42 = .ok (.goto 10, 3) := by decide +kernel
theorem dX6_fault_45 : decode cX6_fault 45 = .ok (.aload_n 0, 1) := by decide +kernel
theorem dX6_fault_46 : decode cX6_fault 46 = .ok (.getfield 19, 3) := by decide +kernel
theorem dX6_fault_49 : decode cX6_fault 49 = .ok (.getfield 115, 3) := by decide +kernel
theorem dX6_fault_52 : decode cX6_fault 52 = .ok (.ireturn, 1) := by decide +kernel
theorem dX6_record_0 : decode cX6_record 0 = .ok (.aload_n 0, 1) := by decide +kernel
theorem dX6_record_1 : decode cX6_record 1 = .ok (.getfield 253, 3) := by decide +kernel
theorem dX6_record_4 : decode cX6_record 4 = .ok (.iconst 4, 1) := by decide +kernel
theorem dX6_record_5 : decode cX6_record 5 = .ok (.if_icmp .lt 49, 3) := by decide +kernel
theorem dX6_record_8 : decode cX6_record 8 = .ok (.aload_n 0, 1) := by decide +kernel
theorem dX6_record_9 : decode cX6_record 9 = .ok (.getfield 35, 3) := by decide +kernel
theorem dX6_record_12 : decode cX6_record 12 = .ok (.iconst 0, 1) := by decide +kernel
theorem dX6_record_13 : decode cX6_record 13 = .ok (.aaload, 1) := by decide +kernel
theorem dX6_record_14 : decode cX6_record 14 = .ok (.astore_n 1, 1) := by decide +kernel
theorem dX6_record_15 : decode cX6_record 15 = .ok (.iconst 1, 1) := by decide +kernel
theorem dX6_record_16 : decode cX6_record 16 = .ok (.istore_n 2, 1) := by decide +kernel
theorem dX6_record_17 : decode cX6_record 17 = .ok (.iload_n 2, 1) := by decide +kernel
theorem dX6_record_18 : decode cX6_record 18 = .ok (.iconst 4, 1) := by decide +kernel
theorem dX6_record_19 : decode cX6_record 19 = .ok (.if_icmp .ge 23, 3) := by decide +kernel
theorem dX6_record_22 : decode cX6_record 22 = .ok (.aload_n 0, 1) := by decide +kernel
theorem dX6_record_23 : decode cX6_record 23 = .ok (.getfield 35, 3) := by decide +kernel
theorem dX6_record_26 : decode cX6_record 26 = .ok (.iload_n 2, 1) := by decide +kernel
theorem dX6_record_27 : decode cX6_record 27 = .ok (.iconst 1, 1) := by decide +kernel
theorem dX6_record_28 : decode cX6_record 28 = .ok (.isub, 1) := by decide +kernel
theorem dX6_record_29 : decode cX6_record 29 = .ok (.aload_n 0, 1) := by decide +kernel
theorem dX6_record_30 : decode cX6_record 30 = .ok (.getfield 35, 3) := by decide +kernel
theorem dX6_record_33 : decode cX6_record 33 = .ok (.iload_n 2, 1) := by decide +kernel
theorem dX6_record_34 : decode cX6_record 34 = .ok (.aaload, 1) := by decide +kernel
theorem dX6_record_35 : decode cX6_record 35 = .ok (.aastore, 1) := by decide +kernel
theorem dX6_record_36 : decode cX6_record 36 = .ok (.iinc 2 1, 3) := by decide +kernel
theorem dX6_record_39 : decode cX6_record 39 = .ok (.goto (-22), 3) := by decide +kernel
theorem dX6_record_42 : decode cX6_record 42 = .ok (.aload_n 0, 1) := by decide +kernel
theorem dX6_record_43 : decode cX6_record 43 = .ok (.getfield 35, 3) := by decide +kernel
theorem dX6_record_46 : decode cX6_record 46 = .ok (.iconst 3, 1) := by decide +kernel
theorem dX6_record_47 : decode cX6_record 47 = .ok (.aload_n 1, 1) := by decide +kernel
theorem dX6_record_48 : decode cX6_record 48 = .ok (.aastore, 1) := by decide +kernel
theorem dX6_record_49 : decode cX6_record 49 = .ok (.aload_n 0, 1) := by decide +kernel
theorem dX6_record_50 : decode cX6_record 50 = .ok (.iconst 3, 1) := by decide +kernel
theorem dX6_record_51 : decode cX6_record 51 = .ok (.putfield 253, 3) := by decide +kernel
theorem dX6_record_54 : decode cX6_record 54 = .ok (.aload_n 0, 1) := by decide +kernel
theorem dX6_record_55 : decode cX6_record 55 = .ok (.getfield 35, 3) := by decide +kernel
theorem dX6_record_58 : decode cX6_record 58 = .ok (.aload_n 0, 1) := by decide +kernel
theorem dX6_record_59 : decode cX6_record 59 = .ok (.getfield 253, 3) := by decide +kernel
theorem dX6_record_62 : decode cX6_record 62 = .ok (.aaload, 1) := by decide +kernel
theorem dX6_record_63 : decode cX6_record 63 = .ok (.aload_n 0, 1) := by decide +kernel
theorem dX6_record_64 : decode cX6_record 64 = .ok (.getfield 28, 3) := by decide +kernel
theorem dX6_record_67 : decode cX6_record 67 = .ok (.invokevirtual 237, 3) := by decide +kernel
theorem dX6_record_70 : decode cX6_record 70 = .ok (.aload_n 0, 1) := by decide +kernel
theorem dX6_record_71 : decode cX6_record 71 = .ok (.dup, 1) := by decide +kernel
theorem dX6_record_72 : decode cX6_record 72 = .ok (.getfield 253, 3) := by decide +kernel
theorem dX6_record_75 : decode cX6_record 75 = .ok (.iconst 1, 1) := by decide +kernel
theorem dX6_record_76 : decode cX6_record 76 = .ok (.iadd, 1) := by decide +kernel
theorem dX6_record_77 : decode cX6_record 77 = .ok (.putfield 253, 3) := by decide +kernel
theorem dX6_record_80 : decode cX6_record 80 = .ok (.return_, 1) := by decide +kernel
theorem dX6_isUnit_0 : decode cX6_isUnit 0 = .ok (.aload_n 0, 1) := by decide +kernel
theorem dX6_isUnit_1 : decode cX6_isUnit 1 = .ok (.getfield 28, 3) := by decide +kernel
theorem dX6_isUnit_4 : decode cX6_isUnit 4 = .ok (.iload_n 1, 1) := by decide +kernel
theorem dX6_isUnit_5 : decode cX6_isUnit 5 = .ok (.invokevirtual 272, 3) := by decide +kernel
theorem dX6_isUnit_8 : decode cX6_isUnit 8 = .ok (.ireturn, 1) := by decide +kernel
theorem dX6_isBatch_0 : decode cX6_isBatch 0 = .ok (.aload_n 0, 1) := by decide +kernel
theorem dX6_isBatch_1 : decode cX6_isBatch 1 = .ok (.getfield 28, 3) := by decide +kernel
theorem dX6_isBatch_4 : decode cX6_isBatch 4 = .ok (.iload_n 1, 1) := by decide +kernel
theorem dX6_isBatch_5 : decode cX6_isBatch 5 = .ok (.invokevirtual 275, 3) := by decide +kernel
theorem dX6_isBatch_8 : decode cX6_isBatch 8 = .ok (.ireturn, 1) := by decide +kernel
theorem dX6_isPiece_0 : decode cX6_isPiece 0 = .ok (.iload_n 0, 1) := by decide +kernel
theorem dX6_isPiece_1 : decode cX6_isPiece 1 = .ok (.iconst 0, 1) := by decide +kernel
theorem dX6_isPiece_2 : decode cX6_isPiece 2 = .ok (.iconst 2, 1) := by decide +kernel
theorem dX6_isPiece_3 : decode cX6_isPiece 3 = .ok (.invokestatic 39, 3) := by decide +kernel
theorem dX6_isPiece_6 : decode cX6_isPiece 6 = .ok (.ireturn, 1) := by decide +kernel
theorem dX6_isRecipe_0 : decode cX6_isRecipe 0 = .ok (.iload_n 0, 1) := by decide +kernel
theorem dX6_isRecipe_1 : decode cX6_isRecipe 1 = .ok (.iconst 0, 1) := by decide +kernel
theorem dX6_isRecipe_2 : decode cX6_isRecipe 2 = .ok (.iconst 5, 1) := by decide +kernel
theorem dX6_isRecipe_3 : decode cX6_isRecipe 3 = .ok (.invokestatic 39, 3) := by decide +kernel
theorem dX6_isRecipe_6 : decode cX6_isRecipe 6 = .ok (.ireturn, 1) := by decide +kernel
theorem dX6_isPriority_0 : decode cX6_isPriority 0 = .ok (.iload_n 0, 1) := by decide +kernel
theorem dX6_isPriority_1 : decode cX6_isPriority 1 = .ok (.iconst 0, 1) := by decide +kernel
theorem dX6_isPriority_2 : decode cX6_isPriority 2 = .ok (.bipush 9, 2) := by decide +kernel
theorem dX6_isPriority_4 : decode cX6_isPriority 4 = .ok (.invokestatic 39, 3) := by decide +kernel
theorem dX6_isPriority_7 : decode cX6_isPriority 7 = .ok (.ireturn, 1) := by decide +kernel
theorem dX6_isWithin_0 : decode cX6_isWithin 0 = .ok (.iload_n 0, 1) := by decide +kernel
theorem dX6_isWithin_1 : decode cX6_isWithin 1 = .ok (.iload_n 1, 1) := by decide +kernel
theorem dX6_isWithin_2 : decode cX6_isWithin 2 = .ok (.if_icmp .lt 12, 3) := by decide +kernel
theorem dX6_isWithin_5 : decode cX6_isWithin 5 = .ok (.iload_n 0, 1) := by decide +kernel
theorem dX6_isWithin_6 : decode cX6_isWithin 6 = .ok (.iload_n 2, 1) := by decide +kernel
theorem dX6_isWithin_7 : decode cX6_isWithin 7 = .ok (.if_icmp .gt 7, 3) := by decide +kernel
theorem dX6_isWithin_10 : decode cX6_isWithin 10 = .ok (.iconst 1, 1) := by decide +kernel
theorem dX6_isWithin_11 : decode cX6_isWithin 11 = .ok (.goto 4, 3) := by decide +kernel
theorem dX6_isWithin_14 : decode cX6_isWithin 14 = .ok (.iconst 0, 1) := by decide +kernel
theorem dX6_isWithin_15 : decode cX6_isWithin 15 = .ok (.ireturn, 1) := by decide +kernel
theorem dX6_orNotFound_0 : decode cX6_orNotFound 0 = .ok (.iload_n 0, 1) := by decide +kernel
theorem dX6_orNotFound_1 : decode cX6_orNotFound 1 = .ok (.iconst (-1), 1) := by decide +kernel
theorem dX6_orNotFound_2 : decode cX6_orNotFound 2 = .ok (.if_icmp .ne 8, 3) := by decide +kernel
theorem dX6_orNotFound_5 : decode cX6_orNotFound 5 = .ok (.bipush (-4), 2) := by decide +kernel
theorem dX6_orNotFound_7 : decode cX6_orNotFound 7 = .ok (.goto 4, 3) := by decide +kernel
theorem dX6_orNotFound_10 : decode cX6_orNotFound 10 = .ok (.iload_n 0, 1) := by decide +kernel
theorem dX6_orNotFound_11 : decode cX6_orNotFound 11 = .ok (.ireturn, 1) := by decide +kernel
theorem dX6_oneIf_0 : decode cX6_oneIf 0 = .ok (.iload_n 0, 1) := by decide +kernel
theorem dX6_oneIf_1 : decode cX6_oneIf 1 = .ok (.ifCond .eq 7, 3) := by decide +kernel
theorem dX6_oneIf_4 : decode cX6_oneIf 4 = .ok (.iconst 1, 1) := by decide +kernel
theorem dX6_oneIf_5 : decode cX6_oneIf 5 = .ok (.goto 4, 3) := by decide +kernel
theorem dX6_oneIf_8 : decode cX6_oneIf 8 = .ok (.iconst 0, 1) := by decide +kernel
theorem dX6_oneIf_9 : decode cX6_oneIf 9 = .ok (.ireturn, 1) := by decide +kernel
theorem dX6_bitsOf_0 : decode cX6_bitsOf 0 = .ok (.fload_n 0, 1) := by decide +kernel
theorem dX6_bitsOf_1 : decode cX6_bitsOf 1 = .ok (.fstore_n 1, 1) := by decide +kernel
theorem dX6_bitsOf_2 : decode cX6_bitsOf 2 = .ok (.bipush 127, 2) := by decide +kernel
theorem dX6_bitsOf_4 : decode cX6_bitsOf 4 = .ok (.istore_n 2, 1) := by decide +kernel
theorem dX6_bitsOf_5 : decode cX6_bitsOf 5 = .ok (.iconst 0, 1) := by decide +kernel
theorem dX6_bitsOf_6 : decode cX6_bitsOf 6 = .ok (.istore_n 3, 1) := by decide +kernel
theorem dX6_bitsOf_7 : decode cX6_bitsOf 7 = .ok (.iload_n 3, 1) := by decide +kernel
theorem dX6_bitsOf_8 : decode cX6_bitsOf 8 = .ok (.bipush 127, 2) := by decide +kernel
theorem dX6_bitsOf_10 : decode cX6_bitsOf 10 = .ok (.if_icmp .ge 22, 3) := by decide +kernel
theorem dX6_bitsOf_13 : decode cX6_bitsOf 13 = .ok (.fload_n 1, 1) := by decide +kernel
theorem dX6_bitsOf_14 : decode cX6_bitsOf 14 = .ok (.fconst 2, 1) := by decide +kernel
theorem dX6_bitsOf_15 : decode cX6_bitsOf 15 = .ok (.fcmp .l, 1) := by decide +kernel
theorem dX6_bitsOf_16 : decode cX6_bitsOf 16 = .ok (.ifCond .lt 16, 3) := by decide +kernel
theorem dX6_bitsOf_19 : decode cX6_bitsOf 19 = .ok (.fload_n 1, 1) := by decide +kernel
theorem dX6_bitsOf_20 : decode cX6_bitsOf 20 = .ok (.fconst 2, 1) := by decide +kernel
theorem dX6_bitsOf_21 : decode cX6_bitsOf 21 = .ok (.fdiv, 1) := by decide +kernel
theorem dX6_bitsOf_22 : decode cX6_bitsOf 22 = .ok (.fstore_n 1, 1) := by decide +kernel
theorem dX6_bitsOf_23 : decode cX6_bitsOf 23 = .ok (.iinc 2 1, 3) := by decide +kernel
theorem dX6_bitsOf_26 : decode cX6_bitsOf 26 = .ok (.iinc 3 1, 3) := by decide +kernel
theorem dX6_bitsOf_29 : decode cX6_bitsOf 29 = .ok (.goto (-22), 3) := by decide +kernel
theorem dX6_bitsOf_32 : decode cX6_bitsOf 32 = .ok (.iconst 0, 1) := by decide +kernel
theorem dX6_bitsOf_33 : decode cX6_bitsOf 33 = .ok (.istore_n 3, 1) := by decide +kernel
theorem dX6_bitsOf_34 : decode cX6_bitsOf 34 = .ok (.iload_n 3, 1) := by decide +kernel
theorem dX6_bitsOf_35 : decode cX6_bitsOf 35 = .ok (.bipush 127, 2) := by decide +kernel
theorem dX6_bitsOf_37 : decode cX6_bitsOf 37 = .ok (.if_icmp .ge 22, 3) := by decide +kernel
theorem dX6_bitsOf_40 : decode cX6_bitsOf 40 = .ok (.fload_n 1, 1) := by decide +kernel
theorem dX6_bitsOf_41 : decode cX6_bitsOf 41 = .ok (.fconst 1, 1) := by decide +kernel
theorem dX6_bitsOf_42 : decode cX6_bitsOf 42 = .ok (.fcmp .g, 1) := by decide +kernel
theorem dX6_bitsOf_43 : decode cX6_bitsOf 43 = .ok (.ifCond .ge 16, 3) := by decide +kernel
theorem dX6_bitsOf_46 : decode cX6_bitsOf 46 = .ok (.fload_n 1, 1) := by decide +kernel
theorem dX6_bitsOf_47 : decode cX6_bitsOf 47 = .ok (.fconst 2, 1) := by decide +kernel
theorem dX6_bitsOf_48 : decode cX6_bitsOf 48 = .ok (.fmul, 1) := by decide +kernel
theorem dX6_bitsOf_49 : decode cX6_bitsOf 49 = .ok (.fstore_n 1, 1) := by decide +kernel
theorem dX6_bitsOf_50 : decode cX6_bitsOf 50 = .ok (.iinc 2 (-1), 3) := by decide +kernel
theorem dX6_bitsOf_53 : decode cX6_bitsOf 53 = .ok (.iinc 3 1, 3) := by decide +kernel
theorem dX6_bitsOf_56 : decode cX6_bitsOf 56 = .ok (.goto (-22), 3) := by decide +kernel
theorem dX6_bitsOf_59 : decode cX6_bitsOf 59 = .ok (.fload_n 1, 1) := by decide +kernel
theorem dX6_bitsOf_60 : decode cX6_bitsOf 60 = .ok (.fconst 1, 1) := by decide +kernel
theorem dX6_bitsOf_61 : decode cX6_bitsOf 61 = .ok (.fsub, 1) := by decide +kernel
theorem dX6_bitsOf_62 : decode cX6_bitsOf 62 = .ok (.ldc_w 278, 3) := by decide +kernel
theorem dX6_bitsOf_65 : decode cX6_bitsOf 65 = .ok (.fmul, 1) := by decide +kernel
theorem dX6_bitsOf_66 : decode cX6_bitsOf 66 = .ok (.f2i, 1) := by decide +kernel
theorem dX6_bitsOf_67 : decode cX6_bitsOf 67 = .ok (.istore_n 3, 1) := by decide +kernel
theorem dX6_bitsOf_68 : decode cX6_bitsOf 68 = .ok (.iload_n 2, 1) := by decide +kernel
theorem dX6_bitsOf_69 : decode cX6_bitsOf 69 = .ok (.bipush 23, 2) := by decide +kernel
theorem dX6_bitsOf_71 : decode cX6_bitsOf 71 = .ok (.ishl, 1) := by decide +kernel
theorem dX6_bitsOf_72 : decode cX6_bitsOf 72 = .ok (.iload_n 3, 1) := by decide +kernel
theorem dX6_bitsOf_73 : decode cX6_bitsOf 73 = .ok (.ior, 1) := by decide +kernel
theorem dX6_bitsOf_74 : decode cX6_bitsOf 74 = .ok (.ireturn, 1) := by decide +kernel
theorem dX7_init_0 : decode cX7_init 0 = .ok (.aload_n 0, 1) := by decide +kernel
theorem dX7_init_1 : decode cX7_init 1 = .ok (.invokespecial 1, 3) := by decide +kernel
theorem dX7_init_4 : decode cX7_init 4 = .ok (.aload_n 0, 1) := by decide +kernel
theorem dX7_init_5 : decode cX7_init 5 = .ok (.sipush 788, 3) := by decide +kernel
theorem dX7_init_8 : decode cX7_init 8 = .ok (.newarray .int, 2) := by decide +kernel
theorem dX7_init_10 : decode cX7_init 10 = .ok (.putfield 7, 3) := by decide +kernel
theorem dX7_init_13 : decode cX7_init 13 = .ok (.aload_n 0, 1) := by decide +kernel
theorem dX7_init_14 : decode cX7_init 14 = .ok (.sipush 788, 3) := by decide +kernel
theorem dX7_init_17 : decode cX7_init 17 = .ok (.newarray .int, 2) := by decide +kernel
theorem dX7_init_19 : decode cX7_init 19 = .ok (.putfield 13, 3) := by decide +kernel
theorem dX7_init_22 : decode cX7_init 22 = .ok (.aload_n 0, 1) := by decide +kernel
theorem dX7_init_23 : decode cX7_init 23 = .ok (.sipush 3152, 3) := by decide +kernel
theorem dX7_init_26 : decode cX7_init 26 = .ok (.newarray .int, 2) := by decide +kernel
theorem dX7_init_28 : decode cX7_init 28 = .ok (.putfield 16, 3) := by decide +kernel
theorem dX7_init_31 : decode cX7_init 31 = .ok (.aload_n 0, 1) := by decide +kernel
theorem dX7_init_32 : decode cX7_init 32 = .ok (.bipush 100, 2) := by decide +kernel
theorem dX7_init_34 : decode cX7_init 34 = .ok (.newarray .int, 2) := by decide +kernel
theorem dX7_init_36 : decode cX7_init 36 = .ok (.putfield 19, 3) := by decide +kernel
theorem dX7_init_39 : decode cX7_init 39 = .ok (.aload_n 0, 1) := by decide +kernel
theorem dX7_init_40 : decode cX7_init 40 = .ok (.bipush 8, 2) := by decide +kernel
theorem dX7_init_42 : decode cX7_init 42 = .ok (.newarray .int, 2) := by decide +kernel
theorem dX7_init_44 : decode cX7_init 44 = .ok (.putfield 22, 3) := by decide +kernel
theorem dX7_init_47 : decode cX7_init 47 = .ok (.aload_n 0, 1) := by decide +kernel
theorem dX7_init_48 : decode cX7_init 48 = .ok (.bipush 12, 2) := by decide +kernel
theorem dX7_init_50 : decode cX7_init 50 = .ok (.newarray .int, 2) := by decide +kernel
theorem dX7_init_52 : decode cX7_init 52 = .ok (.putfield 25, 3) := by decide +kernel
theorem dX7_init_55 : decode cX7_init 55 = .ok (.aload_n 0, 1) := by decide +kernel
theorem dX7_init_56 : decode cX7_init 56 = .ok (.getfield 7, 3) := by decide +kernel
theorem dX7_init_59 : decode cX7_init 59 = .ok (.iconst 0, 1) := by decide +kernel
theorem dX7_init_60 : decode cX7_init 60 = .ok (.iconst 2, 1) := by decide +kernel
theorem dX7_init_61 : decode cX7_init 61 = .ok (.iastore, 1) := by decide +kernel
theorem dX7_init_62 : decode cX7_init 62 = .ok (.iconst 0, 1) := by decide +kernel
theorem dX7_init_63 : decode cX7_init 63 = .ok (.istore_n 1, 1) := by decide +kernel
theorem dX7_init_64 : decode cX7_init 64 = .ok (.iload_n 1, 1) := by decide +kernel
theorem dX7_init_65 : decode cX7_init 65 = .ok (.iconst 3, 1) := by decide +kernel
theorem dX7_init_66 : decode cX7_init 66 = .ok (.if_icmp .ge 19, 3) := by decide +kernel
theorem dX7_init_69 : decode cX7_init 69 = .ok (.aload_n 0, 1) := by decide +kernel
theorem dX7_init_70 : decode cX7_init 70 = .ok (.getfield 7, 3) := by decide +kernel
theorem dX7_init_73 : decode cX7_init 73 = .ok (.bipush 53, 2) := by decide +kernel
theorem dX7_init_75 : decode cX7_init 75 = .ok (.iload_n 1, 1) := by decide +kernel
theorem dX7_init_76 : decode cX7_init 76 = .ok (.iadd, 1) := by decide +kernel
theorem dX7_init_77 : decode cX7_init 77 = .ok (.iconst (-1), 1) := by decide +kernel
theorem dX7_init_78 : decode cX7_init 78 = .ok (.iastore, 1) := by decide +kernel
theorem dX7_init_79 : decode cX7_init 79 = .ok (.iinc 1 1, 3) := by decide +kernel
theorem dX7_init_82 : decode cX7_init 82 = .ok (.goto (-18), 3) := by decide +kernel
theorem dX7_init_85 : decode cX7_init 85 = .ok (.return_, 1) := by decide +kernel
theorem dX7_in_0 : decode cX7_in 0 = .ok (.iload_n 0, 1) := by decide +kernel
theorem dX7_in_1 : decode cX7_in 1 = .ok (.iload_n 1, 1) := by decide +kernel
theorem dX7_in_2 : decode cX7_in 2 = .ok (.if_icmp .lt 12, 3) := by decide +kernel
theorem dX7_in_5 : decode cX7_in 5 = .ok (.iload_n 0, 1) := by decide +kernel
theorem dX7_in_6 : decode cX7_in 6 = .ok (.iload_n 2, 1) := by decide +kernel
theorem dX7_in_7 : decode cX7_in 7 = .ok (.if_icmp .gt 7, 3) := by decide +kernel
theorem dX7_in_10 : decode cX7_in 10 = .ok (.iconst 1, 1) := by decide +kernel
theorem dX7_in_11 : decode cX7_in 11 = .ok (.goto 4, 3) := by decide +kernel
theorem dX7_in_14 : decode cX7_in 14 = .ok (.iconst 0, 1) := by decide +kernel
theorem dX7_in_15 : decode cX7_in 15 = .ok (.ireturn, 1) := by decide +kernel
theorem dX7_bring_0 : decode cX7_bring 0 = .ok (.iconst 0, 1) := by decide +kernel
theorem dX7_bring_1 : decode cX7_bring 1 = .ok (.istore 4, 2) := by decide +kernel
theorem dX7_bring_3 : decode cX7_bring 3 = .ok (.iload 4, 2) := by decide +kernel
theorem dX7_bring_5 : decode cX7_bring 5 = .ok (.sipush 788, 3) := by decide +kernel
theorem dX7_bring_8 : decode cX7_bring 8 = .ok (.if_icmp .ge 21, 3) := by decide +kernel
theorem dX7_bring_11 : decode cX7_bring 11 = .ok (.aload_n 2, 1) := by decide +kernel
theorem dX7_bring_12 : decode cX7_bring 12 = .ok (.iload_n 3, 1) := by decide +kernel
theorem dX7_bring_13 : decode cX7_bring 13 = .ok (.iload 4, 2) := by decide +kernel
theorem dX7_bring_15 : decode cX7_bring 15 = .ok (.iadd, 1) := by decide +kernel
theorem dX7_bring_16 : decode cX7_bring 16 = .ok (.aload_n 0, 1) := by decide +kernel
theorem dX7_bring_17 : decode cX7_bring 17 = .ok (.iload_n 1, 1) := by decide +kernel
theorem dX7_bring_18 : decode cX7_bring 18 = .ok (.iload 4, 2) := by decide +kernel
theorem dX7_bring_20 : decode cX7_bring 20 = .ok (.iadd, 1) := by decide +kernel
theorem dX7_bring_21 : decode cX7_bring 21 = .ok (.iaload, 1) := by decide +kernel
theorem dX7_bring_22 : decode cX7_bring 22 = .ok (.iastore, 1) := by decide +kernel
theorem dX7_bring_23 : decode cX7_bring 23 = .ok (.iinc 4 1, 3) := by decide +kernel
theorem dX7_bring_26 : decode cX7_bring 26 = .ok (.goto (-23), 3) := by decide +kernel
theorem dX7_bring_29 : decode cX7_bring 29 = .ok (.return_, 1) := by decide +kernel
theorem dX7_keep_0 : decode cX7_keep 0 = .ok (.aload_n 0, 1) := by decide +kernel
theorem dX7_keep_1 : decode cX7_keep 1 = .ok (.getfield 28, 3) := by decide +kernel
theorem dX7_keep_4 : decode cX7_keep 4 = .ok (.iconst 4, 1) := by decide +kernel
theorem dX7_keep_5 : decode cX7_keep 5 = .ok (.if_icmp .ne 44, 3) := by decide +kernel
theorem dX7_keep_8 : decode cX7_keep 8 = .ok (.iconst 0, 1) := by decide +kernel
theorem dX7_keep_9 : decode cX7_keep 9 = .ok (.istore_n 1, 1) := by decide +kernel
theorem dX7_keep_10 : decode cX7_keep 10 = .ok (.iload_n 1, 1) := by decide +kernel
theorem dX7_keep_11 : decode cX7_keep 11 = .ok (.sipush 2364, 3) := by decide +kernel
theorem dX7_keep_14 : decode cX7_keep 14 = .ok (.if_icmp .ge 25, 3) := by decide +kernel
theorem dX7_keep_17 : decode cX7_keep 17 = .ok (.aload_n 0, 1) := by decide +kernel
theorem dX7_keep_18 : decode cX7_keep 18 = .ok (.getfield 16, 3) := by decide +kernel
theorem dX7_keep_21 : decode cX7_keep 21 = .ok (.iload_n 1, 1) := by decide +kernel
theorem dX7_keep_22 : decode cX7_keep 22 = .ok (.aload_n 0, 1) := by decide +kernel
theorem dX7_keep_23 : decode cX7_keep 23 = .ok (.getfield 16, 3) := by decide +kernel
theorem dX7_keep_26 : decode cX7_keep 26 = .ok (.iload_n 1, 1) := by decide +kernel
theorem dX7_keep_27 : decode cX7_keep 27 = .ok (.sipush 788, 3) := by decide +kernel
theorem dX7_keep_30 : decode cX7_keep 30 = .ok (.iadd, 1) := by decide +kernel
theorem dX7_keep_31 : decode cX7_keep 31 = .ok (.iaload, 1) := by decide +kernel
theorem dX7_keep_32 : decode cX7_keep 32 = .ok (.iastore, 1) := by decide +kernel
theorem dX7_keep_33 : decode cX7_keep 33 = .ok (.iinc 1 1, 3) := by decide +kernel
theorem dX7_keep_36 : decode cX7_keep 36 = .ok (.goto (-26), 3) := by decide +kernel
theorem dX7_keep_39 : decode cX7_keep 39 = .ok (.aload_n 0, 1) := by decide +kernel
theorem dX7_keep_40 : decode cX7_keep 40 = .ok (.dup, 1) := by decide +kernel
theorem dX7_keep_41 : decode cX7_keep 41 = .ok (.getfield 28, 3) := by decide +kernel
theorem dX7_keep_44 : decode cX7_keep 44 = .ok (.iconst 1, 1) := by decide +kernel
theorem dX7_keep_45 : decode cX7_keep 45 = .ok (.isub, 1) := by decide +kernel
theorem dX7_keep_46 : decode cX7_keep 46 = .ok (.putfield 28, 3) := by decide +kernel
theorem dX7_keep_49 : decode cX7_keep 49 = .ok (.aload_n 0, 1) := by decide +kernel
theorem dX7_keep_50 : decode cX7_keep 50 = .ok (.getfield 7, 3) := by decide +kernel
theorem dX7_keep_53 : decode cX7_keep 53 = .ok (.iconst 0, 1) := by decide +kernel
theorem dX7_keep_54 : decode cX7_keep 54 = .ok (.aload_n 0, 1) := by decide +kernel
theorem dX7_keep_55 : decode cX7_keep 55 = .ok (.getfield 16, 3) := by decide +kernel
theorem dX7_keep_58 : decode cX7_keep 58 = .ok (.sipush 788, 3) := by decide +kernel
theorem dX7_keep_61 : decode cX7_keep 61 = .ok (.aload_n 0, 1) := by decide +kernel
theorem dX7_keep_62 : decode cX7_keep 62 = .ok (.getfield 28, 3) := by decide +kernel
theorem dX7_keep_65 : decode cX7_keep 65 = .ok (.imul, 1) := by decide +kernel
theorem dX7_keep_66 : decode cX7_keep 66 = .ok (.invokestatic 32, 3) := by decide +kernel
theorem dX7_keep_69 : decode cX7_keep 69 = .ok (.aload_n 0, 1) := by decide +kernel
theorem dX7_keep_70 : decode cX7_keep 70 = .ok (.dup, 1) := by decide +kernel
theorem dX7_keep_71 : decode cX7_keep 71 = .ok (.getfield 28, 3) := by decide +kernel
theorem dX7_keep_74 : decode cX7_keep 74 = .ok (.iconst 1, 1) := by decide +kernel
theorem dX7_keep_75 : decode cX7_keep 75 = .ok (.iadd, 1) := by decide +kernel
theorem dX7_keep_76 : decode cX7_keep 76 = .ok (.putfield 28, 3) := by decide +kernel
theorem dX7_keep_79 : decode cX7_keep 79 = .ok (.return_, 1) := by decide +kernel
theorem dX7_isUnit_0 : decode cX7_isUnit 0 = .ok (.iload_n 1, 1) := by decide +kernel
theorem dX7_isUnit_1 : decode cX7_isUnit 1 = .ok (.iconst 0, 1) := by decide +kernel
theorem dX7_isUnit_2 : decode cX7_isUnit 2 = .ok (.aload_n 0, 1) := by decide +kernel
theorem dX7_isUnit_3 : decode cX7_isUnit 3 = .ok (.getfield 7, 3) := by decide +kernel
theorem dX7_isUnit_6 : decode cX7_isUnit 6 = .ok (.iconst 2, 1) := by decide +kernel
theorem dX7_isUnit_7 : decode cX7_isUnit 7 = .ok (.iaload, 1) := by decide +kernel
theorem dX7_isUnit_8 : decode cX7_isUnit 8 = .ok (.iconst 1, 1) := by decide +kernel
theorem dX7_isUnit_9 : decode cX7_isUnit 9 = .ok (.isub, 1) := by decide +kernel
theorem dX7_isUnit_10 : decode cX7_isUnit 10 = .ok (.invokestatic 36, 3) := by decide +kernel
theorem dX7_isUnit_13 : decode cX7_isUnit 13 = .ok (.ireturn, 1) := by decide +kernel
theorem dX7_isBatch_0 : decode cX7_isBatch 0 = .ok (.iload_n 1, 1) := by decide +kernel
theorem dX7_isBatch_1 : decode cX7_isBatch 1 = .ok (.iconst 0, 1) := by decide +kernel
theorem dX7_isBatch_2 : decode cX7_isBatch 2 = .ok (.aload_n 0, 1) := by decide +kernel
theorem dX7_isBatch_3 : decode cX7_isBatch 3 = .ok (.getfield 7, 3) := by decide +kernel
theorem dX7_isBatch_6 : decode cX7_isBatch 6 = .ok (.iconst 3, 1) := by decide +kernel
theorem dX7_isBatch_7 : decode cX7_isBatch 7 = .ok (.iaload, 1) := by decide +kernel
theorem dX7_isBatch_8 : decode cX7_isBatch 8 = .ok (.iconst 1, 1) := by decide +kernel
theorem dX7_isBatch_9 : decode cX7_isBatch 9 = .ok (.isub, 1) := by decide +kernel
theorem dX7_isBatch_10 : decode cX7_isBatch 10 = .ok (.invokestatic 36, 3) := by decide +kernel
theorem dX7_isBatch_13 : decode cX7_isBatch 13 = .ok (.ireturn, 1) := by decide +kernel
theorem dX7_ofUnit_0 : decode cX7_ofUnit 0 = .ok (.aload_n 0, 1) := by decide +kernel
theorem dX7_ofUnit_1 : decode cX7_ofUnit 1 = .ok (.getfield 7, 3) := by decide +kernel
theorem dX7_ofUnit_4 : decode cX7_ofUnit 4 = .ok (.iconst 5, 1) := by decide +kernel
theorem dX7_ofUnit_5 : decode cX7_ofUnit 5 = .ok (.bipush 6, 2) := by decide +kernel
theorem dX7_ofUnit_7 : decode cX7_ofUnit 7 = .ok (.iload_n 1, 1) := by decide +kernel
theorem dX7_ofUnit_8 : decode cX7_ofUnit 8 = .ok (.imul, 1) := by decide +kernel
theorem dX7_ofUnit_9 : decode cX7_ofUnit 9 = .ok (.iadd, 1) := by decide +kernel
theorem dX7_ofUnit_10 : decode cX7_ofUnit 10 = .ok (.iload_n 2, 1) := by decide +kernel
theorem dX7_ofUnit_11 : decode cX7_ofUnit 11 = .ok (.iadd, 1) := by decide +kernel
theorem dX7_ofUnit_12 : decode cX7_ofUnit 12 = .ok (.iaload, 1) := by decide +kernel
theorem dX7_ofUnit_13 : decode cX7_ofUnit 13 = .ok (.ireturn, 1) := by decide +kernel
theorem dX7_putUnit_0 : decode cX7_putUnit 0 = .ok (.aload_n 0, 1) := by decide +kernel
theorem dX7_putUnit_1 : decode cX7_putUnit 1 = .ok (.getfield 7, 3) := by decide +kernel
theorem dX7_putUnit_4 : decode cX7_putUnit 4 = .ok (.iconst 5, 1) := by decide +kernel
theorem dX7_putUnit_5 : decode cX7_putUnit 5 = .ok (.bipush 6, 2) := by decide +kernel
theorem dX7_putUnit_7 : decode cX7_putUnit 7 = .ok (.iload_n 1, 1) := by decide +kernel
theorem dX7_putUnit_8 : decode cX7_putUnit 8 = .ok (.imul, 1) := by decide +kernel
theorem dX7_putUnit_9 : decode cX7_putUnit 9 = .ok (.iadd, 1) := by decide +kernel
theorem dX7_putUnit_10 : decode cX7_putUnit 10 = .ok (.iload_n 2, 1) := by decide +kernel
theorem dX7_putUnit_11 : decode cX7_putUnit 11 = .ok (.iadd, 1) := by decide +kernel
theorem dX7_putUnit_12 : decode cX7_putUnit 12 = .ok (.iload_n 3, 1) := by decide +kernel
theorem dX7_putUnit_13 : decode cX7_putUnit 13 = .ok (.iastore, 1) := by decide +kernel
theorem dX7_putUnit_14 : decode cX7_putUnit 14 = .ok (.return_, 1) := by decide +kernel
theorem dX7_of_0 : decode cX7_of 0 = .ok (.aload_n 0, 1) := by decide +kernel
theorem dX7_of_1 : decode cX7_of 1 = .ok (.getfield 7, 3) := by decide +kernel
theorem dX7_of_4 : decode cX7_of 4 = .ok (.sipush 548, 3) := by decide +kernel
theorem dX7_of_7 : decode cX7_of 7 = .ok (.bipush 10, 2) := by decide +kernel
theorem dX7_of_9 : decode cX7_of 9 = .ok (.iload_n 1, 1) := by decide +kernel
theorem dX7_of_10 : decode cX7_of 10 = .ok (.imul, 1) := by decide +kernel
theorem dX7_of_11 : decode cX7_of 11 = .ok (.iadd, 1) := by decide +kernel
theorem dX7_of_12 : decode cX7_of 12 = .ok (.iload_n 2, 1) := by decide +kernel
theorem dX7_of_13 : decode cX7_of 13 = .ok (.iadd, 1) := by decide +kernel
theorem dX7_of_14 : decode cX7_of 14 = .ok (.iaload, 1) := by decide +kernel
theorem dX7_of_15 : decode cX7_of 15 = .ok (.ireturn, 1) := by decide +kernel
theorem dX7_put_0 : decode cX7_put 0 = .ok (.aload_n 0, 1) := by decide +kernel
theorem dX7_put_1 : decode cX7_put 1 = .ok (.getfield 7, 3) := by decide +kernel
theorem dX7_put_4 : decode cX7_put 4 = .ok (.sipush 548, 3) := by decide +kernel
theorem dX7_put_7 : decode cX7_put 7 = .ok (.bipush 10, 2) := by decide +kernel
theorem dX7_put_9 : decode cX7_put 9 = .ok (.iload_n 1, 1) := by decide +kernel
theorem dX7_put_10 : decode cX7_put 10 = .ok (.imul, 1) := by decide +kernel
theorem dX7_put_11 : decode cX7_put 11 = .ok (.iadd, 1) := by decide +kernel
theorem dX7_put_12 : decode cX7_put 12 = .ok (.iload_n 2, 1) := by decide +kernel
theorem dX7_put_13 : decode cX7_put 13 = .ok (.iadd, 1) := by decide +kernel
theorem dX7_put_14 : decode cX7_put 14 = .ok (.iload_n 3, 1) := by decide +kernel
theorem dX7_put_15 : decode cX7_put 15 = .ok (.iastore, 1) := by decide +kernel
theorem dX7_put_16 : decode cX7_put 16 = .ok (.return_, 1) := by decide +kernel
theorem dX7_many_0 : decode cX7_many 0 = .ok (.iconst 0, 1) := by decide +kernel
theorem dX7_many_1 : decode cX7_many 1 = .ok (.istore_n 2, 1) := by decide +kernel
theorem dX7_many_2 : decode cX7_many 2 = .ok (.iconst 0, 1) := by decide +kernel
theorem dX7_many_3 : decode cX7_many 3 = .ok (.istore_n 3, 1) := by decide +kernel
theorem dX7_many_4 : decode cX7_many 4 = .ok (.iload_n 3, 1) := by decide +kernel
theorem dX7_many_5 : decode cX7_many 5 = .ok (.aload_n 0, 1) := by decide +kernel
theorem dX7_many_6 : decode cX7_many 6 = .ok (.getfield 7, 3) := by decide +kernel
theorem dX7_many_9 : decode cX7_many 9 = .ok (.iconst 3, 1) := by decide +kernel
theorem dX7_many_10 : decode cX7_many 10 = .ok (.iaload, 1) := by decide +kernel
theorem dX7_many_11 : decode cX7_many 11 = .ok (.if_icmp .ge 27, 3) := by decide +kernel
theorem dX7_many_14 : decode cX7_many 14 = .ok (.iload_n 2, 1) := by decide +kernel
theorem dX7_many_15 : decode cX7_many 15 = .ok (.aload_n 0, 1) := by decide +kernel
theorem dX7_many_16 : decode cX7_many 16 = .ok (.iload_n 3, 1) := by decide +kernel
theorem dX7_many_17 : decode cX7_many 17 = .ok (.iconst 5, 1) := by decide +kernel
theorem dX7_many_18 : decode cX7_many 18 = .ok (.invokevirtual 40, 3) := by decide +kernel
theorem dX7_many_21 : decode cX7_many 21 = .ok (.iload_n 1, 1) := by decide +kernel
theorem dX7_many_22 : decode cX7_many 22 = .ok (.if_icmp .ne 7, 3) := by decide +kernel
theorem dX7_many_25 : decode cX7_many 25 = .ok (.iconst 1, 1) := by decide +kernel
theorem dX7_many_26 : decode cX7_many 26 = .ok (.goto 4, 3) := by decide +kernel
theorem dX7_many_29 : decode cX7_many 29 = .ok (.iconst 0, 1) := by decide +kernel
theorem dX7_many_30 : decode cX7_many 30 = .ok (.iadd, 1) := by decide +kernel
theorem dX7_many_31 : decode cX7_many 31 = .ok (.istore_n 2, 1) := by decide +kernel
theorem dX7_many_32 : decode cX7_many 32 = .ok (.iinc 3 1, 3) := by decide +kernel
theorem dX7_many_35 : decode cX7_many 35 = .ok (.goto (-31), 3) := by decide +kernel
theorem dX7_many_38 : decode cX7_many 38 = .ok (.iload_n 2, 1) := by decide +kernel
theorem dX7_many_39 : decode cX7_many 39 = .ok (.ireturn, 1) := by decide +kernel
theorem dX7_note_0 : decode cX7_note 0 = .ok (.bipush 119, 2) := by decide +kernel
theorem dX7_note_2 : decode cX7_note 2 = .ok (.istore_n 3, 1) := by decide +kernel
theorem dX7_note_3 : decode cX7_note 3 = .ok (.iload_n 3, 1) := by decide +kernel
theorem dX7_note_4 : decode cX7_note 4 = .ok (.iconst 2, 1) := by decide +kernel
theorem dX7_note_5 : decode cX7_note 5 = .ok (.if_icmp .le 31, 3) := by decide +kernel
theorem dX7_note_8 : decode cX7_note 8 = .ok (.aload_n 0, 1) := by decide +kernel
theorem dX7_note_9 : decode cX7_note 9 = .ok (.getfield 7, 3) := by decide +kernel
theorem dX7_note_12 : decode cX7_note 12 = .ok (.sipush 668, 3) := by decide +kernel
theorem dX7_note_15 : decode cX7_note 15 = .ok (.iload_n 3, 1) := by decide +kernel
theorem dX7_note_16 : decode cX7_note 16 = .ok (.iadd, 1) := by decide +kernel
theorem dX7_note_17 : decode cX7_note 17 = .ok (.aload_n 0, 1) := by decide +kernel
theorem dX7_note_18 : decode cX7_note 18 = .ok (.getfield 7, 3) := by decide +kernel
theorem dX7_note_21 : decode cX7_note 21 = .ok (.sipush 668, 3) := by decide +kernel
theorem dX7_note_24 : decode cX7_note 24 = .ok (.iload_n 3, 1) := by decide +kernel
theorem dX7_note_25 : decode cX7_note 25 = .ok (.iadd, 1) := by decide +kernel
theorem dX7_note_26 : decode cX7_note 26 = .ok (.iconst 3, 1) := by decide +kernel
theorem dX7_note_27 : decode cX7_note 27 = .ok (.isub, 1) := by decide +kernel
theorem dX7_note_28 : decode cX7_note 28 = .ok (.iaload, 1) := by decide +kernel
theorem dX7_note_29 : decode cX7_note 29 = .ok (.iastore, 1) := by decide +kernel
theorem dX7_note_30 : decode cX7_note 30 = .ok (.iinc 3 (-1), 3) := by decide +kernel
theorem dX7_note_33 : decode cX7_note 33 = .ok (.goto (-30), 3) := by decide +kernel
theorem dX7_note_36 : decode cX7_note 36 = .ok (.aload_n 0, 1) := by decide +kernel
theorem dX7_note_37 : decode cX7_note 37 = .ok (.getfield 7, 3) := by decide +kernel
theorem dX7_note_40 : decode cX7_note 40 = .ok (.sipush 668, 3) := by decide +kernel
theorem dX7_note_43 : decode cX7_note 43 = .ok (.aload_n 0, 1) := by decide +kernel
theorem dX7_note_44 : decode cX7_note 44 = .ok (.getfield 7, 3) := by decide +kernel
theorem dX7_note_47 : decode cX7_note 47 = .ok (.iconst 1, 1) := by decide +kernel
theorem dX7_note_48 : decode cX7_note 48 = .ok (.iaload, 1) := by decide +kernel
theorem dX7_note_49 : decode cX7_note 49 = .ok (.iastore, 1) := by decide +kernel
theorem dX7_note_50 : decode cX7_note 50 = .ok (.aload_n 0, 1) := by decide +kernel
theorem dX7_note_51 : decode cX7_note 51 = .ok (.getfield 7, 3) := by decide +kernel
theorem dX7_note_54 : decode cX7_note 54 = .ok (.sipush 669, 3) := by decide +kernel
theorem dX7_note_57 : decode cX7_note 57 = .ok (.iload_n 1, 1) := by decide +kernel
theorem dX7_note_58 : decode cX7_note 58 = .ok (.iastore, 1) := by decide +kernel
theorem dX7_note_59 : decode cX7_note 59 = .ok (.aload_n 0, 1) := by decide +kernel
theorem dX7_note_60 : decode cX7_note 60 = .ok (.getfield 7, 3) := by decide +kernel
theorem dX7_note_63 : decode cX7_note 63 = .ok (.sipush 670, 3) := by decide +kernel
theorem dX7_note_66 : decode cX7_note 66 = .ok (.iload_n 2, 1) := by decide +kernel
theorem dX7_note_67 : decode cX7_note 67 = .ok (.iastore, 1) := by decide +kernel
theorem dX7_note_68 : decode cX7_note 68 = .ok (.aload_n 0, 1) := by decide +kernel
theorem dX7_note_69 : decode cX7_note 69 = .ok (.getfield 7, 3) := by decide +kernel
theorem dX7_note_72 : decode cX7_note 72 = .ok (.iconst 4, 1) := by decide +kernel
theorem dX7_note_73 : decode cX7_note 73 = .ok (.aload_n 0, 1) := by decide +kernel
theorem dX7_note_74 : decode cX7_note 74 = .ok (.getfield 7, 3) := by decide +kernel
theorem dX7_note_77 : decode cX7_note 77 = .ok (.iconst 4, 1) := by decide +kernel
theorem dX7_note_78 : decode cX7_note 78 = .ok (.iaload, 1) := by decide +kernel
theorem dX7_note_79 : decode cX7_note 79 = .ok (.bipush 40, 2) := by decide +kernel
theorem dX7_note_81 : decode cX7_note 81 = .ok (.if_icmp .ne 8, 3) := by decide +kernel
theorem dX7_note_84 : decode cX7_note 84 = .ok (.bipush 40, 2) := by decide +kernel
theorem dX7_note_86 : decode cX7_note 86 = .ok (.goto 11, 3) := by decide +kernel
theorem dX7_note_89 : decode cX7_note 89 = .ok (.aload_n 0, 1) := by decide +kernel
theorem dX7_note_90 : decode cX7_note 90 = .ok (.getfield 7, 3) := by decide +kernel
theorem dX7_note_93 : decode cX7_note 93 = .ok (.iconst 4, 1) := by decide +kernel
theorem dX7_note_94 : decode cX7_note 94 = .ok (.iaload, 1) := by decide +kernel
theorem dX7_note_95 : decode cX7_note 95 = .ok (.iconst 1, 1) := by decide +kernel
theorem dX7_note_96 : decode cX7_note 96 = .ok (.iadd, 1) := by decide +kernel
theorem dX7_note_97 : decode cX7_note 97 = .ok (.iastore, 1) := by decide +kernel
theorem dX7_note_98 : decode cX7_note 98 = .ok (.return_, 1) := by decide +kernel
theorem dX7_unit_0 : decode cX7_unit 0 = .ok (.iload_n 1, 1) := by decide +kernel
theorem dX7_unit_1 : decode cX7_unit 1 = .ok (.iconst 0, 1) := by decide +kernel
theorem dX7_unit_2 : decode cX7_unit 2 = .ok (.iconst 3, 1) := by decide +kernel
theorem dX7_unit_3 : decode cX7_unit 3 = .ok (.invokestatic 36, 3) := by decide +kernel
theorem dX7_unit_6 : decode cX7_unit 6 = .ok (.ifCond .eq 14, 3) := by decide +kernel
theorem dX7_unit_9 : decode cX7_unit 9 = .ok (.iload_n 2, 1) := by decide +kernel
theorem dX7_unit_10 : decode cX7_unit 10 = .ok (.iconst 1, 1) := by decide +kernel
theorem dX7_unit_11 : decode cX7_unit 11 = .ok (.sipush 10000, 3) := by decide +kernel
theorem dX7_unit_14 : decode cX7_unit 14 = .ok (.invokestatic 36, 3) := by decide +kernel
theorem dX7_unit_17 : decode cX7_unit 17 = .ok (.ifCond .ne 5, 3) := by decide +kernel
theorem dX7_unit_20 : decode cX7_unit 20 = .ok (.iconst (-1), 1) := by decide +kernel
theorem dX7_unit_21 : decode cX7_unit 21 = .ok (.ireturn, 1) := by decide +kernel
theorem dX7_unit_22 : decode cX7_unit 22 = .ok (.aload_n 0, 1) := by decide +kernel
theorem dX7_unit_23 : decode cX7_unit 23 = .ok (.getfield 7, 3) := by decide +kernel
theorem dX7_unit_26 : decode cX7_unit 26 = .ok (.iconst 2, 1) := by decide +kernel
theorem dX7_unit_27 : decode cX7_unit 27 = .ok (.iaload, 1) := by decide +kernel
theorem dX7_unit_28 : decode cX7_unit 28 = .ok (.bipush 8, 2) := by decide +kernel
theorem dX7_unit_30 : decode cX7_unit 30 = .ok (.if_icmp .ne 6, 3) := by decide +kernel
theorem dX7_unit_33 : decode cX7_unit 33 = .ok (.bipush (-3), 2) := by decide +kernel
theorem dX7_unit_35 : decode cX7_unit 35 = .ok (.ireturn, 1) := by decide +kernel
theorem dX7_unit_36 : decode cX7_unit 36 = .ok (.aload_n 0, 1) := by decide +kernel
theorem dX7_unit_37 : decode cX7_unit 37 = .ok (.invokevirtual 44, 3) := by decide +kernel
theorem dX7_unit_40 : decode cX7_unit 40 = .ok (.aload_n 0, 1) := by decide +kernel
theorem dX7_unit_41 : decode cX7_unit 41 = .ok (.getfield 7, 3) := by decide +kernel
theorem dX7_unit_44 : decode cX7_unit 44 = .ok (.iconst 2, 1) := by decide +kernel
theorem dX7_unit_45 : decode cX7_unit 45 = .ok (.iaload, 1) := by decide +kernel
theorem dX7_unit_46 : decode cX7_unit 46 = .ok (.istore_n 3, 1) := by decide +kernel
theorem dX7_unit_47 : decode cX7_unit 47 = .ok (.aload_n 0, 1) := by decide +kernel
theorem dX7_unit_48 : decode cX7_unit 48 = .ok (.getfield 7, 3) := by decide +kernel
theorem dX7_unit_51 : decode cX7_unit 51 = .ok (.iconst 2, 1) := by decide +kernel
theorem dX7_unit_52 : decode cX7_unit 52 = .ok (.dup2, 1) := by decide +kernel
theorem dX7_unit_53 : decode cX7_unit 53 = .ok (.iaload, 1) := by decide +kernel
theorem dX7_unit_54 : decode cX7_unit 54 = .ok (.iconst 1, 1) := by decide +kernel
theorem dX7_unit_55 : decode cX7_unit 55 = .ok (.iadd, 1) := by decide +kernel
theorem dX7_unit_56 : decode cX7_unit 56 = .ok (.iastore, 1) := by decide +kernel
theorem dX7_unit_57 : decode cX7_unit 57 = .ok (.aload_n 0, 1) := by decide +kernel
theorem dX7_unit_58 : decode cX7_unit 58 = .ok (.iload_n 3, 1) := by decide +kernel
theorem dX7_unit_59 : decode cX7_unit 59 = .ok (.iconst 0, 1) := by decide +kernel
theorem dX7_unit_60 : decode cX7_unit 60 = .ok (.iload_n 1, 1) := by decide +kernel
theorem dX7_unit_61 : decode cX7_unit 61 = .ok (.invokevirtual 47, 3) := by decide +kernel
theorem dX7_unit_64 : decode cX7_unit 64 = .ok (.aload_n 0, 1) := by decide +kernel
theorem dX7_unit_65 : decode cX7_unit 65 = .ok (.iload_n 3, 1) := by decide +kernel
theorem dX7_unit_66 : decode cX7_unit 66 = .ok (.iconst 1, 1) := by decide +kernel
theorem dX7_unit_67 : decode cX7_unit 67 = .ok (.iload_n 2, 1) := by decide +kernel
theorem dX7_unit_68 : decode cX7_unit 68 = .ok (.invokevirtual 47, 3) := by decide +kernel
theorem dX7_unit_71 : decode cX7_unit 71 = .ok (.aload_n 0, 1) := by decide +kernel
theorem dX7_unit_72 : decode cX7_unit 72 = .ok (.iload_n 3, 1) := by decide +kernel
theorem dX7_unit_73 : decode cX7_unit 73 = .ok (.iconst 2, 1) := by decide +kernel
theorem dX7_unit_74 : decode cX7_unit 74 = .ok (.iconst (-1), 1) := by decide +kernel
theorem dX7_unit_75 : decode cX7_unit 75 = .ok (.invokevirtual 47, 3) := by decide +kernel
theorem dX7_unit_78 : decode cX7_unit 78 = .ok (.aload_n 0, 1) := by decide +kernel
theorem dX7_unit_79 : decode cX7_unit 79 = .ok (.iload_n 3, 1) := by decide +kernel
theorem dX7_unit_80 : decode cX7_unit 80 = .ok (.iconst 3, 1) := by decide +kernel
theorem dX7_unit_81 : decode cX7_unit 81 = .ok (.iconst 0, 1) := by decide +kernel
theorem dX7_unit_82 : decode cX7_unit 82 = .ok (.invokevirtual 47, 3) := by decide +kernel
theorem dX7_unit_85 : decode cX7_unit 85 = .ok (.aload_n 0, 1) := by decide +kernel
theorem dX7_unit_86 : decode cX7_unit 86 = .ok (.iload_n 3, 1) := by decide +kernel
theorem dX7_unit_87 : decode cX7_unit 87 = .ok (.iconst 4, 1) := by decide +kernel
theorem dX7_unit_88 : decode cX7_unit 88 = .ok (.iconst 0, 1) := by decide +kernel
theorem dX7_unit_89 : decode cX7_unit 89 = .ok (.invokevirtual 47, 3) := by decide +kernel
theorem dX7_unit_92 : decode cX7_unit 92 = .ok (.aload_n 0, 1) := by decide +kernel
theorem dX7_unit_93 : decode cX7_unit 93 = .ok (.iload_n 3, 1) := by decide +kernel
theorem dX7_unit_94 : decode cX7_unit 94 = .ok (.iconst 5, 1) := by decide +kernel
theorem dX7_unit_95 : decode cX7_unit 95 = .ok (.iconst 0, 1) := by decide +kernel
theorem dX7_unit_96 : decode cX7_unit 96 = .ok (.invokevirtual 47, 3) := by decide +kernel
theorem dX7_unit_99 : decode cX7_unit 99 = .ok (.iload_n 3, 1) := by decide +kernel
theorem dX7_unit_100 : decode cX7_unit 100 = .ok (.ireturn, 1) := by decide +kernel
theorem dX7_isFree_0 : decode cX7_isFree 0 = .ok (.aload_n 0, 1) := by decide +kernel
theorem dX7_isFree_1 : decode cX7_isFree 1 = .ok (.iload_n 1, 1) := by decide +kernel
theorem dX7_isFree_2 : decode cX7_isFree 2 = .ok (.iconst 2, 1) := by decide +kernel
theorem dX7_isFree_3 : decode cX7_isFree 3 = .ok (.invokevirtual 51, 3) := by decide +kernel
theorem dX7_isFree_6 : decode cX7_isFree 6 = .ok (.iconst (-1), 1) := by decide +kernel
theorem dX7_isFree_7 : decode cX7_isFree 7 = .ok (.if_icmp .ne 25, 3) := by decide +kernel
theorem dX7_isFree_10 : decode cX7_isFree 10 = .ok (.aload_n 0, 1) := by decide +kernel
theorem dX7_isFree_11 : decode cX7_isFree 11 = .ok (.iload_n 1, 1) := by decide +kernel
theorem dX7_isFree_12 : decode cX7_isFree 12 = .ok (.iconst 3, 1) := by decide +kernel
theorem dX7_isFree_13 : decode cX7_isFree 13 = .ok (.invokevirtual 51, 3) := by decide +kernel
theorem dX7_isFree_16 : decode cX7_isFree 16 = .ok (.ifCond .ne 16, 3) := by decide +kernel
theorem dX7_isFree_19 : decode cX7_isFree 19 = .ok (.aload_n 0, 1) := by decide +kernel
theorem dX7_isFree_20 : decode cX7_isFree 20 = .ok (.iload_n 1, 1) := by decide +kernel
theorem dX7_isFree_21 : decode cX7_isFree 21 = .ok (.iconst 4, 1) := by decide +kernel
theorem dX7_isFree_22 : decode cX7_isFree 22 = .ok (.invokevirtual 51, 3) := by decide +kernel
theorem dX7_isFree_25 : decode cX7_isFree 25 = .ok (.ifCond .ne 7, 3) := by decide +kernel
theorem dX7_isFree_28 : decode cX7_isFree 28 = .ok (.iconst 1, 1) := by decide +kernel
theorem dX7_isFree_29 : decode cX7_isFree 29 = .ok (.goto 4, 3) := by decide +kernel
theorem dX7_isFree_32 : decode cX7_isFree 32 = .ok (.iconst 0, 1) := by decide +kernel
theorem dX7_isFree_33 : decode cX7_isFree 33 = .ok (.ireturn, 1) := by decide +kernel
theorem dX7_releaseUnit_0 : decode cX7_releaseUnit 0 = .ok (.aload_n 0, 1) := by decide +kernel
theorem dX7_releaseUnit_1 : decode cX7_releaseUnit 1 = .ok (.iload_n 1, 1) := by decide +kernel
theorem dX7_releaseUnit_2 : decode cX7_releaseUnit 2 = .ok (.bipush 8, 2) := by decide +kernel
theorem dX7_releaseUnit_4 : decode cX7_releaseUnit 4 = .ok (.invokevirtual 40, 3) := by decide +kernel
theorem dX7_releaseUnit_7 : decode cX7_releaseUnit 7 = .ok (.istore_n 2, 1) := by decide +kernel
theorem dX7_releaseUnit_8 : decode cX7_releaseUnit 8 = .ok (.iload_n 2, 1) := by decide +kernel
theorem dX7_releaseUnit_9 : decode cX7_releaseUnit 9 = .ok (.iconst (-1), 1) := by decide +kernel
theorem dX7_releaseUnit_10 : decode cX7_releaseUnit 10 = .ok (.if_icmp .eq 30, 3) := by decide +kernel
theorem dX7_releaseUnit_13 : decode cX7_releaseUnit 13 = .ok (.aload_n 0, 1) := by decide +kernel
theorem dX7_releaseUnit_14 : decode cX7_releaseUnit 14 = .ok (.iload_n 2, 1) := by decide +kernel
theorem dX7_releaseUnit_15 : decode cX7_releaseUnit 15 = .ok (.iconst 2, 1) := by decide +kernel
theorem dX7_releaseUnit_16 : decode cX7_releaseUnit 16 = .ok (.iconst (-1), 1) := by decide +kernel
theorem dX7_releaseUnit_17 : decode cX7_releaseUnit 17 = .ok (.invokevirtual 47, 3) := by decide +kernel
theorem dX7_releaseUnit_20 : decode cX7_releaseUnit 20 = .ok (.aload_n 0, 1) := by decide +kernel
theorem dX7_releaseUnit_21 : decode cX7_releaseUnit 21 = .ok (.iload_n 2, 1) := by decide +kernel
theorem dX7_releaseUnit_22 : decode cX7_releaseUnit 22 = .ok (.iconst 4, 1) := by decide +kernel
theorem dX7_releaseUnit_23 : decode cX7_releaseUnit 23 = .ok (.aload_n 0, 1) := by decide +kernel
theorem dX7_releaseUnit_24 : decode cX7_releaseUnit 24 = .ok (.getfield 7, 3) := by decide +kernel
theorem dX7_releaseUnit_27 : decode cX7_releaseUnit 27 = .ok (.iconst 0, 1) := by decide +kernel
theorem dX7_releaseUnit_28 : decode cX7_releaseUnit 28 = .ok (.iaload, 1) := by decide +kernel
theorem dX7_releaseUnit_29 : decode cX7_releaseUnit 29 = .ok (.invokevirtual 47, 3) := by decide +kernel
theorem dX7_releaseUnit_32 : decode cX7_releaseUnit 32 = .ok (.aload_n 0, 1) := by decide +kernel
theorem dX7_releaseUnit_33 : decode cX7_releaseUnit 33 = .ok (.iload_n 1, 1) := by decide +kernel
theorem dX7_releaseUnit_34 : decode cX7_releaseUnit 34 = .ok (.bipush 8, 2) := by decide +kernel
theorem dX7_releaseUnit_36 : decode cX7_releaseUnit 36 = .ok (.iconst (-1), 1) := by decide +kernel
theorem dX7_releaseUnit_37 : decode cX7_releaseUnit 37 = .ok (.invokevirtual 54, 3) := by decide +kernel
theorem dX7_releaseUnit_40 : decode cX7_releaseUnit 40 = .ok (.return_, 1) := by decide +kernel
theorem dX7_releaseShared_0 : decode cX7_releaseShared 0 = .ok (.iconst 0, 1) := by decide +kernel
theorem dX7_releaseShared_1 : decode cX7_releaseShared 1 = .ok (.istore_n 2, 1) := by decide +kernel
theorem dX7_releaseShared_2 : decode cX7_releaseShared 2 = .ok (.iload_n 2, 1) := by decide +kernel
theorem dX7_releaseShared_3 : decode cX7_releaseShared 3 = .ok (.iconst 3, 1) := by decide +kernel
theorem dX7_releaseShared_4 : decode cX7_releaseShared 4 = .ok (.if_icmp .ge 44, 3) := by decide +kernel
theorem dX7_releaseShared_7 : decode cX7_releaseShared 7 = .ok (.aload_n 0, 1) := by decide +kernel
theorem dX7_releaseShared_8 : decode cX7_releaseShared 8 = .ok (.getfield 7, 3) := by decide +kernel
theorem dX7_releaseShared_11 : decode cX7_releaseShared 11 = .ok (.bipush 53, 2) := by decide +kernel
theorem dX7_releaseShared_13 : decode cX7_releaseShared 13 = .ok (.iload_n 2, 1) := by decide +kernel
theorem dX7_releaseShared_14 : decode cX7_releaseShared 14 = .ok (.iadd, 1) := by decide +kernel
theorem dX7_releaseShared_15 : decode cX7_releaseShared 15 = .ok (.aload_n 0, 1) := by decide +kernel
theorem dX7_releaseShared_16 : decode cX7_releaseShared 16 = .ok (.getfield 7, 3) := by decide +kernel
theorem dX7_releaseShared_19 : decode cX7_releaseShared 19 = .ok (.bipush 53, 2) := by decide +kernel
theorem dX7_releaseShared_21 : decode cX7_releaseShared 21 = .ok (.iload_n 2, 1) := by decide +kernel
theorem dX7_releaseShared_22 : decode cX7_releaseShared 22 = .ok (.iadd, 1) := by decide +kernel
theorem dX7_releaseShared_23 : decode cX7_releaseShared 23 = .ok (.iaload, 1) := by decide +kernel
theorem dX7_releaseShared_24 : decode cX7_releaseShared 24 = .ok (.iload_n 1, 1) := by decide +kernel
theorem dX7_releaseShared_25 : decode cX7_releaseShared 25 = .ok (.if_icmp .ne 7, 3) := by decide +kernel
theorem dX7_releaseShared_28 : decode cX7_releaseShared 28 = .ok (.iconst (-1), 1) := by decide +kernel
theorem dX7_releaseShared_29 : decode cX7_releaseShared 29 = .ok (.goto 12, 3) := by decide +kernel
theorem dX7_releaseShared_32 : decode cX7_releaseShared 32 = .ok (.aload_n 0, 1) := by decide +kernel
theorem dX7_releaseShared_33 : decode cX7_releaseShared 33 = .ok (.getfield 7, 3) := by decide +kernel
theorem dX7_releaseShared_36 : decode cX7_releaseShared 36 = .ok (.bipush 53, 2) := by decide +kernel
theorem dX7_releaseShared_38 : decode cX7_releaseShared 38 = .ok (.iload_n 2, 1) := by decide +kernel
theorem dX7_releaseShared_39 : decode cX7_releaseShared 39 = .ok (.iadd, 1) := by decide +kernel
theorem dX7_releaseShared_40 : decode cX7_releaseShared 40 = .ok (.iaload, 1) := by decide +kernel
theorem dX7_releaseShared_41 : decode cX7_releaseShared 41 = .ok (.iastore, 1) := by decide +kernel
theorem dX7_releaseShared_42 : decode cX7_releaseShared 42 = .ok (.iinc 2 1, 3) := by decide +kernel
theorem dX7_releaseShared_45 : decode cX7_releaseShared 45 = .ok (.goto (-43), 3) := by decide +kernel
theorem dX7_releaseShared_48 : decode cX7_releaseShared 48 = .ok (.return_, 1) := by decide +kernel
theorem dX7_endsBy_0 : decode cX7_endsBy 0 = .ok (.aload_n 0, 1) := by decide +kernel
theorem dX7_endsBy_1 : decode cX7_endsBy 1 = .ok (.iload_n 1, 1) := by decide +kernel
theorem dX7_endsBy_2 : decode cX7_endsBy 2 = .ok (.invokevirtual 57, 3) := by decide +kernel
theorem dX7_endsBy_5 : decode cX7_endsBy 5 = .ok (.aload_n 0, 1) := by decide +kernel
theorem dX7_endsBy_6 : decode cX7_endsBy 6 = .ok (.iload_n 1, 1) := by decide +kernel
theorem dX7_endsBy_7 : decode cX7_endsBy 7 = .ok (.invokevirtual 61, 3) := by decide +kernel
theorem dX7_endsBy_10 : decode cX7_endsBy 10 = .ok (.aload_n 0, 1) := by decide +kernel
theorem dX7_endsBy_11 : decode cX7_endsBy 11 = .ok (.iload_n 1, 1) := by decide +kernel
theorem dX7_endsBy_12 : decode cX7_endsBy 12 = .ok (.iconst 5, 1) := by decide +kernel
theorem dX7_endsBy_13 : decode cX7_endsBy 13 = .ok (.iload_n 2, 1) := by decide +kernel
theorem dX7_endsBy_14 : decode cX7_endsBy 14 = .ok (.invokevirtual 54, 3) := by decide +kernel
theorem dX7_endsBy_17 : decode cX7_endsBy 17 = .ok (.aload_n 0, 1) := by decide +kernel
theorem dX7_endsBy_18 : decode cX7_endsBy 18 = .ok (.iload_n 1, 1) := by decide +kernel
theorem dX7_endsBy_19 : decode cX7_endsBy 19 = .ok (.iload_n 3, 1) := by decide +kernel
theorem dX7_endsBy_20 : decode cX7_endsBy 20 = .ok (.invokevirtual 64, 3) := by decide +kernel
theorem dX7_endsBy_23 : decode cX7_endsBy 23 = .ok (.return_, 1) := by decide +kernel
theorem dX7_holds_0 : decode cX7_holds 0 = .ok (.aload_n 0, 1) := by decide +kernel
theorem dX7_holds_1 : decode cX7_holds 1 = .ok (.iload_n 1, 1) := by decide +kernel
theorem dX7_holds_2 : decode cX7_holds 2 = .ok (.invokevirtual 57, 3) := by decide +kernel
theorem dX7_holds_5 : decode cX7_holds 5 = .ok (.aload_n 0, 1) := by decide +kernel
theorem dX7_holds_6 : decode cX7_holds 6 = .ok (.iload_n 1, 1) := by decide +kernel
theorem dX7_holds_7 : decode cX7_holds 7 = .ok (.iconst 5, 1) := by decide +kernel
theorem dX7_holds_8 : decode cX7_holds 8 = .ok (.iconst 2, 1) := by decide +kernel
theorem dX7_holds_9 : decode cX7_holds 9 = .ok (.invokevirtual 54, 3) := by decide +kernel
theorem dX7_holds_12 : decode cX7_holds 12 = .ok (.aload_n 0, 1) := by decide +kernel
theorem dX7_holds_13 : decode cX7_holds 13 = .ok (.iload_n 1, 1) := by decide +kernel
theorem dX7_holds_14 : decode cX7_holds 14 = .ok (.iconst 2, 1) := by decide +kernel
theorem dX7_holds_15 : decode cX7_holds 15 = .ok (.invokevirtual 64, 3) := by decide +kernel
theorem dX7_holds_18 : decode cX7_holds 18 = .ok (.return_, 1) := by decide +kernel
theorem dX7_isActive_0 : decode cX7_isActive 0 = .ok (.aload_n 0, 1) := by decide +kernel
theorem dX7_isActive_1 : decode cX7_isActive 1 = .ok (.iload_n 1, 1) := by decide +kernel
theorem dX7_isActive_2 : decode cX7_isActive 2 = .ok (.iconst 5, 1) := by decide +kernel
theorem dX7_isActive_3 : decode cX7_isActive 3 = .ok (.invokevirtual 40, 3) := by decide +kernel
theorem dX7_isActive_6 : decode cX7_isActive 6 = .ok (.iconst 1, 1) := by decide +kernel
theorem dX7_isActive_7 : decode cX7_isActive 7 = .ok (.if_icmp .eq 13, 3) := by decide +kernel
theorem dX7_isActive_10 : decode cX7_isActive 10 = .ok (.aload_n 0, 1) := by decide +kernel
theorem dX7_isActive_11 : decode cX7_isActive 11 = .ok (.iload_n 1, 1) := by decide +kernel
theorem dX7_isActive_12 : decode cX7_isActive 12 = .ok (.iconst 5, 1) := by decide +kernel
theorem dX7_isActive_13 : decode cX7_isActive 13 = .ok (.invokevirtual 40, 3) := by decide +kernel
theorem dX7_isActive_16 : decode cX7_isActive 16 = .ok (.iconst 3, 1) := by decide +kernel
theorem dX7_isActive_17 : decode cX7_isActive 17 = .ok (.if_icmp .ne 7, 3) := by decide +kernel
theorem dX7_isActive_20 : decode cX7_isActive 20 = .ok (.iconst 1, 1) := by decide +kernel
theorem dX7_isActive_21 : decode cX7_isActive 21 = .ok (.goto 4, 3) := by decide +kernel
theorem dX7_isActive_24 : decode cX7_isActive 24 = .ok (.iconst 0, 1) := by decide +kernel
theorem dX7_isActive_25 : decode cX7_isActive 25 = .ok (.ireturn, 1) := by decide +kernel
theorem dX7_fail_0 : decode cX7_fail 0 = .ok (.aload_n 0, 1) := by decide +kernel
theorem dX7_fail_1 : decode cX7_fail 1 = .ok (.iload_n 1, 1) := by decide +kernel
theorem dX7_fail_2 : decode cX7_fail 2 = .ok (.invokevirtual 68, 3) := by decide +kernel
theorem dX7_fail_5 : decode cX7_fail 5 = .ok (.ifCond .ne 5, 3) := by decide +kernel
theorem dX7_fail_8 : decode cX7_fail 8 = .ok (.iconst (-1), 1) := by decide +kernel
theorem dX7_fail_9 : decode cX7_fail 9 = .ok (.ireturn, 1) := by decide +kernel
theorem dX7_fail_10 : decode cX7_fail 10 = .ok (.aload_n 0, 1) := by decide +kernel
theorem dX7_fail_11 : decode cX7_fail 11 = .ok (.iload_n 1, 1) := by decide +kernel
theorem dX7_fail_12 : decode cX7_fail 12 = .ok (.iconst 3, 1) := by decide +kernel
theorem dX7_fail_13 : decode cX7_fail 13 = .ok (.invokevirtual 51, 3) := by decide +kernel
theorem dX7_fail_16 : decode cX7_fail 16 = .ok (.iconst 1, 1) := by decide +kernel
theorem dX7_fail_17 : decode cX7_fail 17 = .ok (.if_icmp .ne 6, 3) := by decide +kernel
theorem dX7_fail_20 : decode cX7_fail 20 = .ok (.bipush (-2), 2) := by decide +kernel
theorem dX7_fail_22 : decode cX7_fail 22 = .ok (.ireturn, 1) := by decide +kernel
theorem dX7_fail_23 : decode cX7_fail 23 = .ok (.aload_n 0, 1) := by decide +kernel
theorem dX7_fail_24 : decode cX7_fail 24 = .ok (.invokevirtual 44, 3) := by decide +kernel
theorem dX7_fail_27 : decode cX7_fail 27 = .ok (.aload_n 0, 1) := by decide +kernel
theorem dX7_fail_28 : decode cX7_fail 28 = .ok (.iload_n 1, 1) := by decide +kernel
theorem dX7_fail_29 : decode cX7_fail 29 = .ok (.iconst 3, 1) := by decide +kernel
theorem dX7_fail_30 : decode cX7_fail 30 = .ok (.iconst 1, 1) := by decide +kernel
theorem dX7_fail_31 : decode cX7_fail 31 = .ok (.invokevirtual 47, 3) := by decide +kernel
theorem dX7_fail_34 : decode cX7_fail 34 = .ok (.aload_n 0, 1) := by decide +kernel
theorem dX7_fail_35 : decode cX7_fail 35 = .ok (.iload_n 1, 1) := by decide +kernel
theorem dX7_fail_36 : decode cX7_fail 36 = .ok (.iconst 2, 1) := by decide +kernel
theorem dX7_fail_37 : decode cX7_fail 37 = .ok (.invokevirtual 51, 3) := by decide +kernel
theorem dX7_fail_40 : decode cX7_fail 40 = .ok (.istore_n 2, 1) := by decide +kernel
theorem dX7_fail_41 : decode cX7_fail 41 = .ok (.iload_n 2, 1) := by decide +kernel
theorem dX7_fail_42 : decode cX7_fail 42 = .ok (.iconst (-1), 1) := by decide +kernel
theorem dX7_fail_43 : decode cX7_fail 43 = .ok (.if_icmp .eq 11, 3) := by decide +kernel
theorem dX7_fail_46 : decode cX7_fail 46 = .ok (.aload_n 0, 1) := by decide +kernel
theorem dX7_fail_47 : decode cX7_fail 47 = .ok (.iload_n 2, 1) := by decide +kernel
theorem dX7_fail_48 : decode cX7_fail 48 = .ok (.invokevirtual 72, 3) := by decide +kernel
theorem dX7_fail_51 : decode cX7_fail 51 = .ok (.ifCond .ne 6, 3) := by decide +kernel
theorem dX7_fail_54 : decode cX7_fail 54 = .ok (.bipush (-4), 2) := by decide +kernel
theorem dX7_fail_56 : decode cX7_fail 56 = .ok (.ireturn, 1) := by decide +kernel
theorem dX7_fail_57 : decode cX7_fail 57 = .ok (.aload_n 0, 1) := by decide +kernel
theorem dX7_fail_58 : decode cX7_fail 58 = .ok (.iload_n 2, 1) := by decide +kernel
theorem dX7_fail_59 : decode cX7_fail 59 = .ok (.invokevirtual 75, 3) := by decide +kernel
theorem dX7_fail_62 : decode cX7_fail 62 = .ok (.iload_n 2, 1) := by decide +kernel
theorem dX7_fail_63 : decode cX7_fail 63 = .ok (.ireturn, 1) := by decide +kernel
theorem dX7_broken_0 : decode cX7_broken 0 = .ok (.iconst 0, 1) := by decide +kernel
theorem dX7_broken_1 : decode cX7_broken 1 = .ok (.istore_n 1, 1) := by decide +kernel
theorem dX7_broken_2 : decode cX7_broken 2 = .ok (.iconst 0, 1) := by decide +kernel
theorem dX7_broken_3 : decode cX7_broken 3 = .ok (.istore_n 2, 1) := by decide +kernel
theorem dX7_broken_4 : decode cX7_broken 4 = .ok (.iload_n 2, 1) := by decide +kernel
theorem dX7_broken_5 : decode cX7_broken 5 = .ok (.aload_n 0, 1) := by decide +kernel
theorem dX7_broken_6 : decode cX7_broken 6 = .ok (.getfield 7, 3) := by decide +kernel
theorem dX7_broken_9 : decode cX7_broken 9 = .ok (.iconst 2, 1) := by decide +kernel
theorem dX7_broken_10 : decode cX7_broken 10 = .ok (.iaload, 1) := by decide +kernel
theorem dX7_broken_11 : decode cX7_broken 11 = .ok (.if_icmp .ge 18, 3) := by decide +kernel
theorem dX7_broken_14 : decode cX7_broken 14 = .ok (.iload_n 1, 1) := by decide +kernel
theorem dX7_broken_15 : decode cX7_broken 15 = .ok (.aload_n 0, 1) := by decide +kernel
theorem dX7_broken_16 : decode cX7_broken 16 = .ok (.iload_n 2, 1) := by decide +kernel
theorem dX7_broken_17 : decode cX7_broken 17 = .ok (.iconst 3, 1) := by decide +kernel
theorem dX7_broken_18 : decode cX7_broken 18 = .ok (.invokevirtual 51, 3) := by decide +kernel
theorem dX7_broken_21 : decode cX7_broken 21 = .ok (.iadd, 1) := by decide +kernel
theorem dX7_broken_22 : decode cX7_broken 22 = .ok (.istore_n 1, 1) := by decide +kernel
theorem dX7_broken_23 : decode cX7_broken 23 = .ok (.iinc 2 1, 3) := by decide +kernel
theorem dX7_broken_26 : decode cX7_broken 26 = .ok (.goto (-22), 3) := by decide +kernel
theorem dX7_broken_29 : decode cX7_broken 29 = .ok (.iload_n 1, 1) := by decide +kernel
theorem dX7_broken_30 : decode cX7_broken 30 = .ok (.ireturn, 1) := by decide +kernel
theorem dX7_repair_0 : decode cX7_repair 0 = .ok (.aload_n 0, 1) := by decide +kernel
theorem dX7_repair_1 : decode cX7_repair 1 = .ok (.iload_n 1, 1) := by decide +kernel
theorem dX7_repair_2 : decode cX7_repair 2 = .ok (.invokevirtual 68, 3) := by decide +kernel
theorem dX7_repair_5 : decode cX7_repair 5 = .ok (.ifCond .ne 5, 3) := by decide +kernel
theorem dX7_repair_8 : decode cX7_repair 8 = .ok (.iconst (-1), 1) := by decide +kernel
theorem dX7_repair_9 : decode cX7_repair 9 = .ok (.ireturn, 1) := by decide +kernel
theorem dX7_repair_10 : decode cX7_repair 10 = .ok (.aload_n 0, 1) := by decide +kernel
theorem dX7_repair_11 : decode cX7_repair 11 = .ok (.iload_n 1, 1) := by decide +kernel
theorem dX7_repair_12 : decode cX7_repair 12 = .ok (.iconst 3, 1) := by decide +kernel
theorem dX7_repair_13 : decode cX7_repair 13 = .ok (.invokevirtual 51, 3) := by decide +kernel
theorem dX7_repair_16 : decode cX7_repair 16 = .ok (.ifCond .ne 6, 3) := by decide +kernel
theorem dX7_repair_19 : decode cX7_repair 19 = .ok (.bipush (-2), 2) := by decide +kernel
theorem dX7_repair_21 : decode cX7_repair 21 = .ok (.ireturn, 1) := by decide +kernel
theorem dX7_repair_22 : decode cX7_repair 22 = .ok (.aload_n 0, 1) := by decide +kernel
theorem dX7_repair_23 : decode cX7_repair 23 = .ok (.invokevirtual 44, 3) := by decide +kernel
theorem dX7_repair_26 : decode cX7_repair 26 = .ok (.aload_n 0, 1) := by decide +kernel
theorem dX7_repair_27 : decode cX7_repair 27 = .ok (.iload_n 1, 1) := by decide +kernel
theorem dX7_repair_28 : decode cX7_repair 28 = .ok (.iconst 3, 1) := by decide +kernel
theorem dX7_repair_29 : decode cX7_repair 29 = .ok (.iconst 0, 1) := by decide +kernel
theorem dX7_repair_30 : decode cX7_repair 30 = .ok (.invokevirtual 47, 3) := by decide +kernel
theorem dX7_repair_33 : decode cX7_repair 33 = .ok (.aload_n 0, 1) := by decide +kernel
theorem dX7_repair_34 : decode cX7_repair 34 = .ok (.invokevirtual 78, 3) := by decide +kernel
theorem dX7_repair_37 : decode cX7_repair 37 = .ok (.ireturn, 1) := by decide +kernel
theorem dX7_unitInfo_0 : decode cX7_unitInfo 0 = .ok (.aload_n 0, 1) := by decide +kernel
theorem dX7_unitInfo_1 : decode cX7_unitInfo 1 = .ok (.iload_n 1, 1) := by decide +kernel
theorem dX7_unitInfo_2 : decode cX7_unitInfo 2 = .ok (.invokevirtual 68, 3) := by decide +kernel
theorem dX7_unitInfo_5 : decode cX7_unitInfo 5 = .ok (.ifCond .eq 13, 3) := by decide +kernel
theorem dX7_unitInfo_8 : decode cX7_unitInfo 8 = .ok (.iload_n 2, 1) := by decide +kernel
theorem dX7_unitInfo_9 : decode cX7_unitInfo 9 = .ok (.iconst 0, 1) := by decide +kernel
theorem dX7_unitInfo_10 : decode cX7_unitInfo 10 = .ok (.bipush 6, 2) := by decide +kernel
theorem dX7_unitInfo_12 : decode cX7_unitInfo 12 = .ok (.invokestatic 36, 3) := by decide +kernel
theorem dX7_unitInfo_15 : decode cX7_unitInfo 15 = .ok (.ifCond .ne 5, 3) := by decide +kernel
theorem dX7_unitInfo_18 : decode cX7_unitInfo 18 = .ok (.iconst (-1), 1) := by decide +kernel
theorem dX7_unitInfo_19 : decode cX7_unitInfo 19 = .ok (.ireturn, 1) := by decide +kernel
theorem dX7_unitInfo_20 : decode cX7_unitInfo 20 = .ok (.iload_n 2, 1) := by decide +kernel
theorem dX7_unitInfo_21 : decode cX7_unitInfo 21 = .ok (.iconst 2, 1) := by decide +kernel
theorem dX7_unitInfo_22 : decode cX7_unitInfo 22 = .ok (.if_icmp .ne 16, 3) := by decide +kernel
theorem dX7_unitInfo_25 : decode cX7_unitInfo 25 = .ok (.aload_n 0, 1) := by decide +kernel
theorem dX7_unitInfo_26 : decode cX7_unitInfo 26 = .ok (.iload_n 1, 1) := by decide +kernel
theorem dX7_unitInfo_27 : decode cX7_unitInfo 27 = .ok (.iconst 2, 1) := by decide +kernel
theorem dX7_unitInfo_28 : decode cX7_unitInfo 28 = .ok (.invokevirtual 51, 3) := by decide +kernel
theorem dX7_unitInfo_31 : decode cX7_unitInfo 31 = .ok (.iconst (-1), 1) := by decide +kernel
theorem dX7_unitInfo_32 : decode cX7_unitInfo 32 = .ok (.if_icmp .ne 6, 3) := by decide +kernel
theorem dX7_unitInfo_35 : decode cX7_unitInfo 35 = .ok (.bipush (-4), 2) := by decide +kernel
theorem dX7_unitInfo_37 : decode cX7_unitInfo 37 = .ok (.ireturn, 1) := by decide +kernel
theorem dX7_unitInfo_38 : decode cX7_unitInfo 38 = .ok (.iload_n 2, 1) := by decide +kernel
theorem dX7_unitInfo_39 : decode cX7_unitInfo 39 = .ok (.bipush 6, 2) := by decide +kernel
theorem dX7_unitInfo_41 : decode cX7_unitInfo 41 = .ok (.if_icmp .ge 12, 3) := by decide +kernel
theorem dX7_unitInfo_44 : decode cX7_unitInfo 44 = .ok (.aload_n 0, 1) := by decide +kernel
theorem dX7_unitInfo_45 : decode cX7_unitInfo 45 = .ok (.iload_n 1, 1) := by decide +kernel
theorem dX7_unitInfo_46 : decode cX7_unitInfo 46 = .ok (.iload_n 2, 1) := by decide +kernel
theorem dX7_unitInfo_47 : decode cX7_unitInfo 47 = .ok (.invokevirtual 51, 3) := by decide +kernel
theorem dX7_unitInfo_50 : decode cX7_unitInfo 50 = .ok (.goto 16, 3) := by decide +kernel
theorem dX7_unitInfo_53 : decode cX7_unitInfo 53 = .ok (.aload_n 0, 1) := by decide +kernel
theorem dX7_unitInfo_54 : decode cX7_unitInfo 54 = .ok (.iload_n 1, 1) := by decide +kernel
theorem dX7_unitInfo_55 : decode cX7_unitInfo 55 = .ok (.invokevirtual 82, 3) := by decide +kernel
theorem dX7_unitInfo_58 : decode cX7_unitInfo 58 = .ok (.ifCond .eq 7, 3) := by decide +kernel
theorem dX7_unitInfo_61 : decode cX7_unitInfo 61 = .ok (.iconst 1, 1) := by decide +kernel
theorem dX7_unitInfo_62 : decode cX7_unitInfo 62 = .ok (.goto 4, 3) := by decide +kernel
theorem dX7_unitInfo_65 : decode cX7_unitInfo 65 = .ok (.iconst 0, 1) := by decide +kernel
theorem dX7_unitInfo_66 : decode cX7_unitInfo 66 = .ok (.ireturn, 1) := by decide +kernel
theorem dX7_shared_0 : decode cX7_shared 0 = .ok (.iload_n 1, 1) := by decide +kernel
theorem dX7_shared_1 : decode cX7_shared 1 = .ok (.iconst 0, 1) := by decide +kernel
theorem dX7_shared_2 : decode cX7_shared 2 = .ok (.iconst 2, 1) := by decide +kernel
theorem dX7_shared_3 : decode cX7_shared 3 = .ok (.invokestatic 36, 3) := by decide +kernel
theorem dX7_shared_6 : decode cX7_shared 6 = .ok (.ifCond .ne 5, 3) := by decide +kernel
theorem dX7_shared_9 : decode cX7_shared 9 = .ok (.iconst (-1), 1) := by decide +kernel
theorem dX7_shared_10 : decode cX7_shared 10 = .ok (.ireturn, 1) := by decide +kernel
theorem dX7_shared_11 : decode cX7_shared 11 = .ok (.aload_n 0, 1) := by decide +kernel
theorem dX7_shared_12 : decode cX7_shared 12 = .ok (.getfield 7, 3) := by decide +kernel
theorem dX7_shared_15 : decode cX7_shared 15 = .ok (.bipush 53, 2) := by decide +kernel
theorem dX7_shared_17 : decode cX7_shared 17 = .ok (.iload_n 1, 1) := by decide +kernel
theorem dX7_shared_18 : decode cX7_shared 18 = .ok (.iadd, 1) := by decide +kernel
theorem dX7_shared_19 : decode cX7_shared 19 = .ok (.iaload, 1) := by decide +kernel
theorem dX7_shared_20 : decode cX7_shared 20 = .ok (.iconst (-1), 1) := by decide +kernel
theorem dX7_shared_21 : decode cX7_shared 21 = .ok (.if_icmp .ne 8, 3) := by decide +kernel
theorem dX7_shared_24 : decode cX7_shared 24 = .ok (.bipush (-4), 2) := by decide +kernel
theorem dX7_shared_26 : decode cX7_shared 26 = .ok (.goto 12, 3) := by decide +kernel
theorem dX7_shared_29 : decode cX7_shared 29 = .ok (.aload_n 0, 1) := by decide +kernel
theorem dX7_shared_30 : decode cX7_shared 30 = .ok (.getfield 7, 3) := by decide +kernel
theorem dX7_shared_33 : decode cX7_shared 33 = .ok (.bipush 53, 2) := by decide +kernel
theorem dX7_shared_35 : decode cX7_shared 35 = .ok (.iload_n 1, 1) := by decide +kernel
theorem dX7_shared_36 : decode cX7_shared 36 = .ok (.iadd, 1) := by decide +kernel
theorem dX7_shared_37 : decode cX7_shared 37 = .ok (.iaload, 1) := by decide +kernel
theorem dX7_shared_38 : decode cX7_shared 38 = .ok (.ireturn, 1) := by decide +kernel
theorem dX7_setCleaning_0 : decode cX7_setCleaning 0 = .ok (.iload_n 1, 1) := by decide +kernel
theorem dX7_setCleaning_1 : decode cX7_setCleaning 1 = .ok (.iconst 0, 1) := by decide +kernel
theorem dX7_setCleaning_2 : decode cX7_setCleaning 2 = .ok (.bipush 30, 2) := by decide +kernel
theorem dX7_setCleaning_4 : decode cX7_setCleaning 4 = .ok (.invokestatic 36, 3) := by decide +kernel
theorem dX7_setCleaning_7 : decode cX7_setCleaning 7 = .ok (.ifCond .ne 5, 3) := by decide +kernel
theorem dX7_setCleaning_10 : decode cX7_setCleaning 10 = .ok (.iconst (-1), 1) := by decide +kernel
theorem dX7_setCleaning_11 : decode cX7_setCleaning 11 = .ok (.ireturn, 1) := by decide +kernel
theorem dX7_setCleaning_12 : decode cX7_setCleaning 12 = .ok (.aload_n 0, 1) := by decide +kernel
theorem dX7_setCleaning_13 : decode cX7_setCleaning 13 = .ok (.invokevirtual 44, 3) := by decide +kernel
theorem dX7_setCleaning_16 : decode cX7_setCleaning 16 = .ok (.aload_n 0, 1) := by decide +kernel
theorem dX7_setCleaning_17 : decode cX7_setCleaning 17 = .ok (.getfield 7, 3) := by decide +kernel
theorem dX7_setCleaning_20 : decode cX7_setCleaning 20 = .ok (.iconst 0, 1) := by decide +kernel
theorem dX7_setCleaning_21 : decode cX7_setCleaning 21 = .ok (.iaload, 1) := by decide +kernel
theorem dX7_setCleaning_22 : decode cX7_setCleaning 22 = .ok (.istore_n 2, 1) := by decide +kernel
theorem dX7_setCleaning_23 : decode cX7_setCleaning 23 = .ok (.aload_n 0, 1) := by decide +kernel
theorem dX7_setCleaning_24 : decode cX7_setCleaning 24 = .ok (.getfield 7, 3) := by decide +kernel
theorem dX7_setCleaning_27 : decode cX7_setCleaning 27 = .ok (.iconst 0, 1) := by decide +kernel
theorem dX7_setCleaning_28 : decode cX7_setCleaning 28 = .ok (.iload_n 1, 1) := by decide +kernel
theorem dX7_setCleaning_29 : decode cX7_setCleaning 29 = .ok (.iastore, 1) := by decide +kernel
theorem dX7_setCleaning_30 : decode cX7_setCleaning 30 = .ok (.iload_n 2, 1) := by decide +kernel
theorem dX7_setCleaning_31 : decode cX7_setCleaning 31 = .ok (.ireturn, 1) := by decide +kernel
theorem dX7_kindOf_0 : decode cX7_kindOf 0 = .ok (.iload_n 0, 1) := by decide +kernel
theorem dX7_kindOf_1 : decode cX7_kindOf 1 = .ok (.iconst 3, 1) := by decide +kernel
theorem dX7_kindOf_2 : decode cX7_kindOf 2 = .ok (.iand, 1) := by decide +kernel
theorem dX7_kindOf_3 : decode cX7_kindOf 3 = .ok (.ireturn, 1) := by decide +kernel
theorem dX7_durationOf_0 : decode cX7_durationOf 0 = .ok (.iload_n 0, 1) := by decide +kernel
theorem dX7_durationOf_1 : decode cX7_durationOf 1 = .ok (.iconst 2, 1) := by decide +kernel
theorem dX7_durationOf_2 : decode cX7_durationOf 2 = .ok (.ishr, 1) := by decide +kernel
theorem dX7_durationOf_3 : decode cX7_durationOf 3 = .ok (.bipush 127, 2) := by decide +kernel
theorem dX7_durationOf_5 : decode cX7_durationOf 5 = .ok (.iand, 1) := by decide +kernel
theorem dX7_durationOf_6 : decode cX7_durationOf 6 = .ok (.ireturn, 1) := by decide +kernel
theorem dX7_sharedOf_0 : decode cX7_sharedOf 0 = .ok (.iload_n 0, 1) := by decide +kernel
theorem dX7_sharedOf_1 : decode cX7_sharedOf 1 = .ok (.bipush 9, 2) := by decide +kernel
theorem dX7_sharedOf_3 : decode cX7_sharedOf 3 = .ok (.ishr, 1) := by decide +kernel
theorem dX7_sharedOf_4 : decode cX7_sharedOf 4 = .ok (.iconst 3, 1) := by decide +kernel
theorem dX7_sharedOf_5 : decode cX7_sharedOf 5 = .ok (.iand, 1) := by decide +kernel
theorem dX7_sharedOf_6 : decode cX7_sharedOf 6 = .ok (.iconst 1, 1) := by decide +kernel
theorem dX7_sharedOf_7 : decode cX7_sharedOf 7 = .ok (.isub, 1) := by decide +kernel
theorem dX7_sharedOf_8 : decode cX7_sharedOf 8 = .ok (.ireturn, 1) := by decide +kernel
theorem dX7_yieldOf_0 : decode cX7_yieldOf 0 = .ok (.iload_n 0, 1) := by decide +kernel
theorem dX7_yieldOf_1 : decode cX7_yieldOf 1 = .ok (.bipush 11, 2) := by decide +kernel
theorem dX7_yieldOf_3 : decode cX7_yieldOf 3 = .ok (.ishr, 1) := by decide +kernel
theorem dX7_yieldOf_4 : decode cX7_yieldOf 4 = .ok (.bipush 127, 2) := by decide +kernel
theorem dX7_yieldOf_6 : decode cX7_yieldOf 6 = .ok (.iand, 1) := by decide +kernel
theorem dX7_yieldOf_7 : decode cX7_yieldOf 7 = .ok (.ireturn, 1) := by decide +kernel
theorem dX7_markOf_0 : decode cX7_markOf 0 = .ok (.iload_n 0, 1) := by decide +kernel
theorem dX7_markOf_1 : decode cX7_markOf 1 = .ok (.bipush 18, 2) := by decide +kernel
theorem dX7_markOf_3 : decode cX7_markOf 3 = .ok (.ishr, 1) := by decide +kernel
theorem dX7_markOf_4 : decode cX7_markOf 4 = .ok (.iconst 1, 1) := by decide +kernel
theorem dX7_markOf_5 : decode cX7_markOf 5 = .ok (.iand, 1) := by decide +kernel
theorem dX7_markOf_6 : decode cX7_markOf 6 = .ok (.ireturn, 1) := by decide +kernel
theorem dX7_phasesOf_0 : decode cX7_phasesOf 0 = .ok (.aload_n 0, 1) := by decide +kernel
theorem dX7_phasesOf_1 : decode cX7_phasesOf 1 = .ok (.getfield 7, 3) := by decide +kernel
theorem dX7_phasesOf_4 : decode cX7_phasesOf 4 = .ok (.bipush 62, 2) := by decide +kernel
theorem dX7_phasesOf_6 : decode cX7_phasesOf 6 = .ok (.bipush 9, 2) := by decide +kernel
theorem dX7_phasesOf_8 : decode cX7_phasesOf 8 = .ok (.iload_n 1, 1) := by decide +kernel
theorem dX7_phasesOf_9 : decode cX7_phasesOf 9 = .ok (.imul, 1) := by decide +kernel
theorem dX7_phasesOf_10 : decode cX7_phasesOf 10 = .ok (.iadd, 1) := by decide +kernel
theorem dX7_phasesOf_11 : decode cX7_phasesOf 11 = .ok (.iload_n 2, 1) := by decide +kernel
theorem dX7_phasesOf_12 : decode cX7_phasesOf 12 = .ok (.iadd, 1) := by decide +kernel
theorem dX7_phasesOf_13 : decode cX7_phasesOf 13 = .ok (.iconst 1, 1) := by decide +kernel
theorem dX7_phasesOf_14 : decode cX7_phasesOf 14 = .ok (.isub, 1) := by decide +kernel
theorem dX7_phasesOf_15 : decode cX7_phasesOf 15 = .ok (.iaload, 1) := by decide +kernel
theorem dX7_phasesOf_16 : decode cX7_phasesOf 16 = .ok (.ireturn, 1) := by decide +kernel
theorem dX7_phaseIn_0 : decode cX7_phaseIn 0 = .ok (.aload_n 0, 1) := by decide +kernel
theorem dX7_phaseIn_1 : decode cX7_phaseIn 1 = .ok (.getfield 7, 3) := by decide +kernel
theorem dX7_phaseIn_4 : decode cX7_phaseIn 4 = .ok (.bipush 116, 2) := by decide +kernel
theorem dX7_phaseIn_6 : decode cX7_phaseIn 6 = .ok (.bipush 8, 2) := by decide +kernel
theorem dX7_phaseIn_8 : decode cX7_phaseIn 8 = .ok (.bipush 9, 2) := by decide +kernel
theorem dX7_phaseIn_10 : decode cX7_phaseIn 10 = .ok (.iload_n 1, 1) := by decide +kernel
theorem dX7_phaseIn_11 : decode cX7_phaseIn 11 = .ok (.imul, 1) := by decide +kernel
theorem dX7_phaseIn_12 : decode cX7_phaseIn 12 = .ok (.iload_n 2, 1) := by decide +kernel
theorem dX7_phaseIn_13 : decode cX7_phaseIn 13 = .ok (.iadd, 1) := by decide +kernel
theorem dX7_phaseIn_14 : decode cX7_phaseIn 14 = .ok (.iconst 1, 1) := by decide +kernel
theorem dX7_phaseIn_15 : decode cX7_phaseIn 15 = .ok (.isub, 1) := by decide +kernel
theorem dX7_phaseIn_16 : decode cX7_phaseIn 16 = .ok (.imul, 1) := by decide +kernel
theorem dX7_phaseIn_17 : decode cX7_phaseIn 17 = .ok (.iadd, 1) := by decide +kernel
theorem dX7_phaseIn_18 : decode cX7_phaseIn 18 = .ok (.iload_n 3, 1) := by decide +kernel
theorem dX7_phaseIn_19 : decode cX7_phaseIn 19 = .ok (.iadd, 1) := by decide +kernel
theorem dX7_phaseIn_20 : decode cX7_phaseIn 20 = .ok (.iaload, 1) := by decide +kernel
theorem dX7_phaseIn_21 : decode cX7_phaseIn 21 = .ok (.ireturn, 1) := by decide +kernel
theorem dX7_phaseAt_0 : decode cX7_phaseAt 0 = .ok (.aload_n 0, 1) := by decide +kernel
theorem dX7_phaseAt_1 : decode cX7_phaseAt 1 = .ok (.aload_n 0, 1) := by decide +kernel
theorem dX7_phaseAt_2 : decode cX7_phaseAt 2 = .ok (.iload_n 1, 1) := by decide +kernel
theorem dX7_phaseAt_3 : decode cX7_phaseAt 3 = .ok (.iconst 0, 1) := by decide +kernel
theorem dX7_phaseAt_4 : decode cX7_phaseAt 4 = .ok (.invokevirtual 40, 3) := by decide +kernel
theorem dX7_phaseAt_7 : decode cX7_phaseAt 7 = .ok (.aload_n 0, 1) := by decide +kernel
theorem dX7_phaseAt_8 : decode cX7_phaseAt 8 = .ok (.iload_n 1, 1) := by decide +kernel
theorem dX7_phaseAt_9 : decode cX7_phaseAt 9 = .ok (.iconst 1, 1) := by decide +kernel
theorem dX7_phaseAt_10 : decode cX7_phaseAt 10 = .ok (.invokevirtual 40, 3) := by decide +kernel
theorem dX7_phaseAt_13 : decode cX7_phaseAt 13 = .ok (.iload_n 2, 1) := by decide +kernel
theorem dX7_phaseAt_14 : decode cX7_phaseAt 14 = .ok (.invokevirtual 85, 3) := by decide +kernel
theorem dX7_phaseAt_17 : decode cX7_phaseAt 17 = .ok (.ireturn, 1) := by decide +kernel
theorem dX7_phaseNow_0 : decode cX7_phaseNow 0 = .ok (.aload_n 0, 1) := by decide +kernel
theorem dX7_phaseNow_1 : decode cX7_phaseNow 1 = .ok (.iload_n 1, 1) := by decide +kernel
theorem dX7_phaseNow_2 : decode cX7_phaseNow 2 = .ok (.aload_n 0, 1) := by decide +kernel
theorem dX7_phaseNow_3 : decode cX7_phaseNow 3 = .ok (.iload_n 1, 1) := by decide +kernel
theorem dX7_phaseNow_4 : decode cX7_phaseNow 4 = .ok (.bipush 6, 2) := by decide +kernel
theorem dX7_phaseNow_6 : decode cX7_phaseNow 6 = .ok (.invokevirtual 40, 3) := by decide +kernel
theorem dX7_phaseNow_9 : decode cX7_phaseNow 9 = .ok (.invokevirtual 89, 3) := by decide +kernel
theorem dX7_phaseNow_12 : decode cX7_phaseNow 12 = .ok (.ireturn, 1) := by decide +kernel
theorem dX7_isRecipe_0 : decode cX7_isRecipe 0 = .ok (.iload_n 0, 1) := by decide +kernel
theorem dX7_isRecipe_1 : decode cX7_isRecipe 1 = .ok (.iconst 0, 1) := by decide +kernel
theorem dX7_isRecipe_2 : decode cX7_isRecipe 2 = .ok (.iconst 5, 1) := by decide +kernel
theorem dX7_isRecipe_3 : decode cX7_isRecipe 3 = .ok (.invokestatic 36, 3) := by decide +kernel
theorem dX7_isRecipe_6 : decode cX7_isRecipe 6 = .ok (.ireturn, 1) := by decide +kernel
theorem dX7_here_0 : decode cX7_here 0 = .ok (.aload_n 0, 1) := by decide +kernel
theorem dX7_here_1 : decode cX7_here 1 = .ok (.getfield 92, 3) := by decide +kernel
theorem dX7_here_4 : decode cX7_here 4 = .ok (.aload_n 0, 1) := by decide +kernel
theorem dX7_here_5 : decode cX7_here 5 = .ok (.getfield 95, 3) := by decide +kernel
theorem dX7_here_8 : decode cX7_here 8 = .ok (.if_icmp .ge 15, 3) := by decide +kernel
theorem dX7_here_11 : decode cX7_here 11 = .ok (.aload_n 0, 1) := by decide +kernel
theorem dX7_here_12 : decode cX7_here 12 = .ok (.getfield 19, 3) := by decide +kernel
theorem dX7_here_15 : decode cX7_here 15 = .ok (.aload_n 0, 1) := by decide +kernel
theorem dX7_here_16 : decode cX7_here 16 = .ok (.getfield 92, 3) := by decide +kernel
theorem dX7_here_19 : decode cX7_here 19 = .ok (.iaload, 1) := by decide +kernel
theorem dX7_here_20 : decode cX7_here 20 = .ok (.goto 4, 3) := by decide +kernel
theorem dX7_here_23 : decode cX7_here 23 = .ok (.iconst (-1), 1) := by decide +kernel
theorem dX7_here_24 : decode cX7_here 24 = .ok (.ireturn, 1) := by decide +kernel
theorem dX7_isFault_0 : decode cX7_isFault 0 = .ok (.aload_n 0, 1) := by decide +kernel
theorem dX7_isFault_1 : decode cX7_isFault 1 = .ok (.aload_n 0, 1) := by decide +kernel
theorem dX7_isFault_2 : decode cX7_isFault 2 = .ok (.getfield 92, 3) := by decide +kernel
theorem dX7_isFault_5 : decode cX7_isFault 5 = .ok (.aload_n 0, 1) := by decide +kernel
theorem dX7_isFault_6 : decode cX7_isFault 6 = .ok (.getfield 95, 3) := by decide +kernel
theorem dX7_isFault_9 : decode cX7_isFault 9 = .ok (.if_icmp .ne 7, 3) := by decide +kernel
theorem dX7_isFault_12 : decode cX7_isFault 12 = .ok (.iconst 3, 1) := by decide +kernel
theorem dX7_isFault_13 : decode cX7_isFault 13 = .ok (.goto 4, 3) := by decide +kernel
theorem dX7_isFault_16 : decode cX7_isFault 16 = .ok (.iconst 1, 1) := by decide +kernel
theorem dX7_isFault_17 : decode cX7_isFault 17 = .ok (.putfield 98, 3) := by decide +kernel
theorem dX7_isFault_20 : decode cX7_isFault 20 = .ok (.iconst 0, 1) := by decide +kernel
theorem dX7_isFault_21 : decode cX7_isFault 21 = .ok (.ireturn, 1) := by decide +kernel
theorem dX7_readNumber_0 : decode cX7_readNumber 0 = .ok (.aload_n 0, 1) := by decide +kernel
theorem dX7_readNumber_1 : decode cX7_readNumber 1 = .ok (.getfield 92, 3) := by decide +kernel
theorem dX7_readNumber_4 : decode cX7_readNumber 4 = .ok (.istore_n 3, 1) := by decide +kernel
theorem dX7_readNumber_5 : decode cX7_readNumber 5 = .ok (.aload_n 0, 1) := by decide +kernel
theorem dX7_readNumber_6 : decode cX7_readNumber 6 = .ok (.iconst 0, 1) := by decide +kernel
theorem dX7_readNumber_7 : decode cX7_readNumber 7 = .ok (.putfield 101, 3) := by decide +kernel
theorem dX7_readNumber_10 : decode cX7_readNumber 10 = .ok (.aload_n 0, 1) := by decide +kernel
theorem dX7_readNumber_11 : decode cX7_readNumber 11 = .ok (.getfield 92, 3) := by decide +kernel
theorem dX7_readNumber_14 : decode cX7_readNumber 14 = .ok (.iload_n 3, 1) := by decide +kernel
theorem dX7_readNumber_15 : decode cX7_readNumber 15 = .ok (.iload_n 1, 1) := by decide +kernel
theorem dX7_readNumber_16 : decode cX7_readNumber 16 = .ok (.iadd, 1) := by decide +kernel
theorem dX7_readNumber_17 : decode cX7_readNumber 17 = .ok (.if_icmp .ge 49, 3) := by decide +kernel
theorem dX7_readNumber_20 : decode cX7_readNumber 20 = .ok (.aload_n 0, 1) := by decide +kernel
theorem dX7_readNumber_21 : decode cX7_readNumber 21 = .ok (.invokevirtual 104, 3) := by decide +kernel
theorem dX7_readNumber_24 : decode cX7_readNumber 24 = .ok (.bipush 48, 2) := by decide +kernel
theorem dX7_readNumber_26 : decode cX7_readNumber 26 = .ok (.bipush 57, 2) := by decide +kernel
theorem dX7_readNumber_28 : decode cX7_readNumber 28 = .ok (.invokestatic 36, 3) := by decide +kernel
theorem dX7_readNumber_31 : decode cX7_readNumber 31 = .ok (.ifCond .eq 35, 3) := by decide +kernel
theorem dX7_readNumber_34 : decode cX7_readNumber 34 = .ok (.aload_n 0, 1) := by decide +kernel
theorem dX7_readNumber_35 : decode cX7_readNumber 35 = .ok (.bipush 10, 2) := by decide +kernel
theorem dX7_readNumber_37 : decode cX7_readNumber 37 = .ok (.aload_n 0, 1) := by decide +kernel
theorem dX7_readNumber_38 : decode cX7_readNumber 38 = .ok (.getfield 101, 3) := by decide +kernel
theorem dX7_readNumber_41 : decode cX7_readNumber 41 = .ok (.imul, 1) := by decide +kernel
theorem dX7_readNumber_42 : decode cX7_readNumber 42 = .ok (.aload_n 0, 1) := by decide +kernel
theorem dX7_readNumber_43 : decode cX7_readNumber 43 = .ok (.invokevirtual 104, 3) := by decide +kernel
theorem dX7_readNumber_46 : decode cX7_readNumber 46 = .ok (.iadd, 1) := by decide +kernel
theorem dX7_readNumber_47 : decode cX7_readNumber 47 = .ok (.bipush 48, 2) := by decide +kernel
theorem dX7_readNumber_49 : decode cX7_readNumber 49 = .ok (.isub, 1) := by decide +kernel
theorem dX7_readNumber_50 : decode cX7_readNumber 50 = .ok (.putfield 101, 3) := by decide +kernel
theorem dX7_readNumber_53 : decode cX7_readNumber 53 = .ok (.aload_n 0, 1) := by decide +kernel
theorem dX7_readNumber_54 : decode cX7_readNumber 54 = .ok (.dup, 1) := by decide +kernel
theorem dX7_readNumber_55 : decode cX7_readNumber 55 = .ok (.getfield 92, 3) := by decide +kernel
theorem dX7_readNumber_58 : decode cX7_readNumber 58 = .ok (.iconst 1, 1) := by decide +kernel
theorem dX7_readNumber_59 : decode cX7_readNumber 59 = .ok (.iadd, 1) := by decide +kernel
theorem dX7_readNumber_60 : decode cX7_readNumber 60 = .ok (.putfield 92, 3) := by decide +kernel
theorem dX7_readNumber_63 : decode cX7_readNumber 63 = .ok (.goto (-53), 3) := by decide +kernel
theorem dX7_readNumber_66 : decode cX7_readNumber 66 = .ok (.aload_n 0, 1) := by decide +kernel
theorem dX7_readNumber_67 : decode cX7_readNumber 67 = .ok (.getfield 92, 3) := by decide +kernel
theorem dX7_readNumber_70 : decode cX7_readNumber 70 = .ok (.iload_n 3, 1) := by decide +kernel
theorem dX7_readNumber_71 : decode cX7_readNumber 71 = .ok (.if_icmp .ne 8, 3) := by decide +kernel
theorem dX7_readNumber_74 : decode cX7_readNumber 74 = .ok (.aload_n 0, 1) := by decide +kernel
theorem dX7_readNumber_75 : decode cX7_readNumber 75 = .ok (.invokevirtual 107, 3) := by decide +kernel
theorem dX7_readNumber_78 : decode cX7_readNumber 78 = .ok (.ireturn, 1) := by decide +kernel
theorem dX7_readNumber_79 : decode cX7_readNumber 79 = .ok (.aload_n 0, 1) := by decide +kernel
theorem dX7_readNumber_80 : decode cX7_readNumber 80 = .ok (.getfield 101, 3) := by decide +kernel
theorem dX7_readNumber_83 : decode cX7_readNumber 83 = .ok (.iconst 1, 1) := by decide +kernel
theorem dX7_readNumber_84 : decode cX7_readNumber 84 = .ok (.iload_n 2, 1) := by decide +kernel
theorem dX7_readNumber_85 : decode cX7_readNumber 85 = .ok (.invokestatic 36, 3) := by decide +kernel
theorem dX7_readNumber_88 : decode cX7_readNumber 88 = .ok (.ifCond .ne 15, 3) := by decide +kernel
theorem dX7_readNumber_91 : decode cX7_readNumber 91 = .ok (.aload_n 0, 1) := by decide +kernel
theorem dX7_readNumber_92 : decode cX7_readNumber 92 = .ok (.iload_n 3, 1) := by decide +kernel
theorem dX7_readNumber_93 : decode cX7_readNumber 93 = .ok (.putfield 92, 3) := by decide +kernel
theorem dX7_readNumber_96 : decode cX7_readNumber 96 = .ok (.aload_n 0, 1) := by decide +kernel
theorem dX7_readNumber_97 : decode cX7_readNumber 97 = .ok (.iconst 2, 1) := by decide +kernel
theorem dX7_readNumber_98 : decode cX7_readNumber 98 = .ok (.putfield 98, 3) := by decide +kernel
theorem dX7_readNumber_101 : decode cX7_readNumber 101 = .ok (.iconst 0, 1) := by decide +kernel
theorem dX7_readNumber_102 : decode cX7_readNumber 102 = .ok (.ireturn, 1) := by decide +kernel
theorem dX7_readNumber_103 : decode cX7_readNumber 103 = .ok (.aload_n 0, 1) := by decide +kernel
theorem dX7_readNumber_104 : decode cX7_readNumber 104 = .ok (.invokevirtual 104, 3) := by decide +kernel
theorem dX7_readNumber_107 : decode cX7_readNumber 107 = .ok (.bipush 48, 2) := by decide +kernel
theorem dX7_readNumber_109 : decode cX7_readNumber 109 = .ok (.bipush 57, 2) := by decide +kernel
theorem dX7_readNumber_111 : decode cX7_readNumber 111 = .ok (.invokestatic 36, 3) := by decide +kernel
theorem dX7_readNumber_114 : decode cX7_readNumber 114 = .ok (.ifCond .eq 10, 3) := by decide +kernel
theorem dX7_readNumber_117 : decode cX7_readNumber 117 = .ok (.aload_n 0, 1) := by decide +kernel
theorem dX7_readNumber_118 : decode cX7_readNumber 118 = .ok (.invokevirtual 107, 3) := by decide +kernel
theorem dX7_readNumber_121 : decode cX7_readNumber 121 = .ok (.ifCond .eq 7, 3) := by decide +kernel
theorem dX7_readNumber_124 : decode cX7_readNumber 124 = .ok (.iconst 1, 1) := by decide +kernel
theorem dX7_readNumber_125 : decode cX7_readNumber 125 = .ok (.goto 4, 3) := by decide +kernel
theorem dX7_readNumber_128 : decode cX7_readNumber 128 = .ok (.iconst 0, 1) := by decide +kernel
theorem dX7_readNumber_129 : decode cX7_readNumber 129 = .ok (.ireturn, 1) := by decide +kernel
theorem dX7_kindBy_0 : decode cX7_kindBy 0 = .ok (.iload_n 0, 1) := by decide +kernel
theorem dX7_kindBy_1 : decode cX7_kindBy 1 = .ok (.bipush 109, 2) := by decide +kernel
theorem dX7_kindBy_3 : decode cX7_kindBy 3 = .ok (.if_icmp .ne 7, 3) := by decide +kernel
theorem dX7_kindBy_6 : decode cX7_kindBy 6 = .ok (.iconst 0, 1) := by decide +kernel
theorem dX7_kindBy_7 : decode cX7_kindBy 7 = .ok (.goto 34, 3) := by decide +kernel
theorem dX7_kindBy_10 : decode cX7_kindBy 10 = .ok (.iload_n 0, 1) := by decide +kernel
theorem dX7_kindBy_11 : decode cX7_kindBy 11 = .ok (.bipush 114, 2) := by decide +kernel
theorem dX7_kindBy_13 : decode cX7_kindBy 13 = .ok (.if_icmp .ne 7, 3) := by decide +kernel
theorem dX7_kindBy_16 : decode cX7_kindBy 16 = .ok (.iconst 1, 1) := by decide +kernel
theorem dX7_kindBy_17 : decode cX7_kindBy 17 = .ok (.goto 24, 3) := by decide +kernel
theorem dX7_kindBy_20 : decode cX7_kindBy 20 = .ok (.iload_n 0, 1) := by decide +kernel
theorem dX7_kindBy_21 : decode cX7_kindBy 21 = .ok (.bipush 102, 2) := by decide +kernel
theorem dX7_kindBy_23 : decode cX7_kindBy 23 = .ok (.if_icmp .ne 7, 3) := by decide +kernel
theorem dX7_kindBy_26 : decode cX7_kindBy 26 = .ok (.iconst 2, 1) := by decide +kernel
theorem dX7_kindBy_27 : decode cX7_kindBy 27 = .ok (.goto 14, 3) := by decide +kernel
theorem dX7_kindBy_30 : decode cX7_kindBy 30 = .ok (.iload_n 0, 1) := by decide +kernel
theorem dX7_kindBy_31 : decode cX7_kindBy 31 = .ok (.bipush 112, 2) := by decide +kernel
theorem dX7_kindBy_33 : decode cX7_kindBy 33 = .ok (.if_icmp .ne 7, 3) := by decide +kernel
theorem dX7_kindBy_36 : decode cX7_kindBy 36 = .ok (.iconst 3, 1) := by decide +kernel
theorem dX7_kindBy_37 : decode cX7_kindBy 37 = .ok (.goto 4, 3) := by decide +kernel
theorem dX7_kindBy_40 : decode cX7_kindBy 40 = .ok (.iconst (-1), 1) := by decide +kernel
theorem dX7_kindBy_41 : decode cX7_kindBy 41 = .ok (.ireturn, 1) := by decide +kernel
theorem dX7_takes_0 : decode cX7_takes 0 = .ok (.aload_n 0, 1) := by decide +kernel
theorem dX7_takes_1 : decode cX7_takes 1 = .ok (.invokevirtual 104, 3) := by decide +kernel
theorem dX7_takes_4 : decode cX7_takes 4 = .ok (.iload_n 1, 1) := by decide +kernel
theorem dX7_takes_5 : decode cX7_takes 5 = .ok (.if_icmp .ne 7, 3) := by decide +kernel
theorem dX7_takes_8 : decode cX7_takes 8 = .ok (.iconst 1, 1) := by decide +kernel
theorem dX7_takes_9 : decode cX7_takes 9 = .ok (.goto 4, 3) := by decide +kernel
theorem dX7_takes_12 : decode cX7_takes 12 = .ok (.iconst 0, 1) := by decide +kernel
theorem dX7_takes_13 : decode cX7_takes 13 = .ok (.istore_n 2, 1) := by decide +kernel
theorem dX7_takes_14 : decode cX7_takes 14 = .ok (.aload_n 0, 1) := by decide +kernel
theorem dX7_takes_15 : decode cX7_takes 15 = .ok (.dup, 1) := by decide +kernel
theorem dX7_takes_16 : decode cX7_takes 16 = .ok (.getfield 92, 3) := by decide +kernel
theorem dX7_takes_19 : decode cX7_takes 19 = .ok (.iload_n 2, 1) := by decide +kernel
theorem dX7_takes_20 : decode cX7_takes 20 = .ok (.ifCond .eq 7, 3) := by decide +kernel
theorem dX7_takes_23 : decode cX7_takes 23 = .ok (.iconst 1, 1) := by decide +kernel
theorem dX7_takes_24 : decode cX7_takes 24 = .ok (.goto 4, 3) := by decide +kernel
theorem dX7_takes_27 : decode cX7_takes 27 = .ok (.iconst 0, 1) := by decide +kernel
theorem dX7_takes_28 : decode cX7_takes 28 = .ok (.iadd, 1) := by decide +kernel
theorem dX7_takes_29 : decode cX7_takes 29 = .ok (.putfield 92, 3) := by decide +kernel
theorem dX7_takes_32 : decode cX7_takes 32 = .ok (.iload_n 2, 1) := by decide +kernel
theorem dX7_takes_33 : decode cX7_takes 33 = .ok (.ireturn, 1) := by decide +kernel
theorem dX7_readPhase_0 : decode cX7_readPhase 0 = .ok (.aload_n 0, 1) := by decide +kernel
theorem dX7_readPhase_1 : decode cX7_readPhase 1 = .ok (.invokevirtual 104, 3) := by decide +kernel
theorem dX7_readPhase_4 : decode cX7_readPhase 4 = .ok (.invokestatic 111, 3) := by decide +kernel
theorem dX7_readPhase_7 : decode cX7_readPhase 7 = .ok (.istore_n 2, 1) := by decide +kernel
theorem dX7_readPhase_8 : decode cX7_readPhase 8 = .ok (.iload_n 2, 1) := by decide +kernel
theorem dX7_readPhase_9 : decode cX7_readPhase 9 = .ok (.iconst (-1), 1) := by decide +kernel
theorem dX7_readPhase_10 : decode cX7_readPhase 10 = .ok (.if_icmp .ne 8, 3) := by decide +kernel
theorem dX7_readPhase_13 : decode cX7_readPhase 13 = .ok (.aload_n 0, 1) := by decide +kernel
theorem dX7_readPhase_14 : decode cX7_readPhase 14 = .ok (.invokevirtual 107, 3) := by decide +kernel
theorem dX7_readPhase_17 : decode cX7_readPhase 17 = .ok (.ireturn, 1) := by decide +kernel
theorem dX7_readPhase_18 : decode cX7_readPhase 18 = .ok (.iload_n 1, 1) := by decide +kernel
theorem dX7_readPhase_19 : decode cX7_readPhase 19 = .ok (.bipush 8, 2) := by decide +kernel
theorem dX7_readPhase_21 : decode cX7_readPhase 21 = .ok (.if_icmp .ne 10, 3) := by decide +kernel
theorem dX7_readPhase_24 : decode cX7_readPhase 24 = .ok (.aload_n 0, 1) := by decide +kernel
theorem dX7_readPhase_25 : decode cX7_readPhase 25 = .ok (.iconst 4, 1) := by decide +kernel
theorem dX7_readPhase_26 : decode cX7_readPhase 26 = .ok (.putfield 98, 3) := by decide +kernel
theorem dX7_readPhase_29 : decode cX7_readPhase 29 = .ok (.iconst 0, 1) := by decide +kernel
theorem dX7_readPhase_30 : decode cX7_readPhase 30 = .ok (.ireturn, 1) := by decide +kernel
theorem dX7_readPhase_31 : decode cX7_readPhase 31 = .ok (.aload_n 0, 1) := by decide +kernel
theorem dX7_readPhase_32 : decode cX7_readPhase 32 = .ok (.dup, 1) := by decide +kernel
theorem dX7_readPhase_33 : decode cX7_readPhase 33 = .ok (.getfield 92, 3) := by decide +kernel
theorem dX7_readPhase_36 : decode cX7_readPhase 36 = .ok (.iconst 1, 1) := by decide +kernel
theorem dX7_readPhase_37 : decode cX7_readPhase 37 = .ok (.iadd, 1) := by decide +kernel
theorem dX7_readPhase_38 : decode cX7_readPhase 38 = .ok (.putfield 92, 3) := by decide +kernel
theorem dX7_readPhase_41 : decode cX7_readPhase 41 = .ok (.aload_n 0, 1) := by decide +kernel
theorem dX7_readPhase_42 : decode cX7_readPhase 42 = .ok (.iconst 2, 1) := by decide +kernel
theorem dX7_readPhase_43 : decode cX7_readPhase 43 = .ok (.bipush 99, 2) := by decide +kernel
theorem dX7_readPhase_45 : decode cX7_readPhase 45 = .ok (.invokevirtual 115, 3) := by decide +kernel
theorem dX7_readPhase_48 : decode cX7_readPhase 48 = .ok (.ifCond .ne 5, 3) := by decide +kernel
theorem dX7_readPhase_51 : decode cX7_readPhase 51 = .ok (.iconst 0, 1) := by decide +kernel
theorem dX7_readPhase_52 : decode cX7_readPhase 52 = .ok (.ireturn, 1) := by decide +kernel
theorem dX7_readPhase_53 : decode cX7_readPhase 53 = .ok (.aload_n 0, 1) := by decide +kernel
theorem dX7_readPhase_54 : decode cX7_readPhase 54 = .ok (.getfield 101, 3) := by decide +kernel
theorem dX7_readPhase_57 : decode cX7_readPhase 57 = .ok (.istore_n 3, 1) := by decide +kernel
theorem dX7_readPhase_58 : decode cX7_readPhase 58 = .ok (.iconst (-1), 1) := by decide +kernel
theorem dX7_readPhase_59 : decode cX7_readPhase 59 = .ok (.istore 4, 2) := by decide +kernel
theorem dX7_readPhase_61 : decode cX7_readPhase 61 = .ok (.aload_n 0, 1) := by decide +kernel
theorem dX7_readPhase_62 : decode cX7_readPhase 62 = .ok (.bipush 115, 2) := by decide +kernel
theorem dX7_readPhase_64 : decode cX7_readPhase 64 = .ok (.invokevirtual 119, 3) := by decide +kernel
theorem dX7_readPhase_67 : decode cX7_readPhase 67 = .ok (.ifCond .eq 51, 3) := by decide +kernel
theorem dX7_readPhase_70 : decode cX7_readPhase 70 = .ok (.aload_n 0, 1) := by decide +kernel
theorem dX7_readPhase_71 : decode cX7_readPhase 71 = .ok (.invokevirtual 104, 3) := by decide +kernel
theorem dX7_readPhase_74 : decode cX7_readPhase 74 = .ok (.bipush 48, 2) := by decide +kernel
theorem dX7_readPhase_76 : decode cX7_readPhase 76 = .ok (.bipush 50, 2) := by decide +kernel
theorem dX7_readPhase_78 : decode cX7_readPhase 78 = .ok (.invokestatic 36, 3) := by decide +kernel
theorem dX7_readPhase_81 : decode cX7_readPhase 81 = .ok (.ifCond .eq 13, 3) := by decide +kernel
theorem dX7_readPhase_84 : decode cX7_readPhase 84 = .ok (.aload_n 0, 1) := by decide +kernel
theorem dX7_readPhase_85 : decode cX7_readPhase 85 = .ok (.invokevirtual 104, 3) := by decide +kernel
theorem dX7_readPhase_88 : decode cX7_readPhase 88 = .ok (.bipush 48, 2) := by decide +kernel
theorem dX7_readPhase_90 : decode cX7_readPhase 90 = .ok (.isub, 1) := by decide +kernel
theorem dX7_readPhase_91 : decode cX7_readPhase 91 = .ok (.goto 4, 3) := by decide +kernel
theorem dX7_readPhase_94 : decode cX7_readPhase 94 = .ok (.iconst (-1), 1) := by decide +kernel
theorem dX7_readPhase_95 : decode cX7_readPhase 95 = .ok (.istore 4, 2) := by decide +kernel
theorem dX7_readPhase_97 : decode cX7_readPhase 97 = .ok (.iload 4, 2) := by decide +kernel
theorem dX7_readPhase_99 : decode cX7_readPhase 99 = .ok (.iconst (-1), 1) := by decide +kernel
theorem dX7_readPhase_100 : decode cX7_readPhase 100 = .ok (.if_icmp .ne 8, 3) := by decide +kernel
theorem dX7_readPhase_103 : decode cX7_readPhase 103 = .ok (.aload_n 0, 1) := by decide +kernel
theorem dX7_readPhase_104 : decode cX7_readPhase 104 = .ok (.invokevirtual 107, 3) := by decide +kernel
theorem dX7_readPhase_107 : decode cX7_readPhase 107 = .ok (.ireturn, 1) := by decide +kernel
theorem dX7_readPhase_108 : decode cX7_readPhase 108 = .ok (.aload_n 0, 1) := by decide +kernel
theorem dX7_readPhase_109 : decode cX7_readPhase 109 = .ok (.dup, 1) := by decide +kernel
theorem dX7_readPhase_110 : decode cX7_readPhase 110 = .ok (.getfield 92, 3) := by decide +kernel
theorem dX7_readPhase_113 : decode cX7_readPhase 113 = .ok (.iconst 1, 1) := by decide +kernel
theorem dX7_readPhase_114 : decode cX7_readPhase 114 = .ok (.iadd, 1) := by decide +kernel
theorem dX7_readPhase_115 : decode cX7_readPhase 115 = .ok (.putfield 92, 3) := by decide +kernel
theorem dX7_readPhase_118 : decode cX7_readPhase 118 = .ok (.aload_n 0, 1) := by decide +kernel
theorem dX7_readPhase_119 : decode cX7_readPhase 119 = .ok (.bipush 100, 2) := by decide +kernel
theorem dX7_readPhase_121 : decode cX7_readPhase 121 = .ok (.putfield 101, 3) := by decide +kernel
theorem dX7_readPhase_124 : decode cX7_readPhase 124 = .ok (.aload_n 0, 1) := by decide +kernel
theorem dX7_readPhase_125 : decode cX7_readPhase 125 = .ok (.bipush 121, 2) := by decide +kernel
theorem dX7_readPhase_127 : decode cX7_readPhase 127 = .ok (.invokevirtual 119, 3) := by decide +kernel
theorem dX7_readPhase_130 : decode cX7_readPhase 130 = .ok (.ifCond .eq 15, 3) := by decide +kernel
theorem dX7_readPhase_133 : decode cX7_readPhase 133 = .ok (.aload_n 0, 1) := by decide +kernel
theorem dX7_readPhase_134 : decode cX7_readPhase 134 = .ok (.iconst 3, 1) := by decide +kernel
theorem dX7_readPhase_135 : decode cX7_readPhase 135 = .ok (.bipush 100, 2) := by decide +kernel
theorem dX7_readPhase_137 : decode cX7_readPhase 137 = .ok (.invokevirtual 115, 3) := by decide +kernel
theorem dX7_readPhase_140 : decode cX7_readPhase 140 = .ok (.ifCond .ne 5, 3) := by decide +kernel
theorem dX7_readPhase_143 : decode cX7_readPhase 143 = .ok (.iconst 0, 1) := by decide +kernel
theorem dX7_readPhase_144 : decode cX7_readPhase 144 = .ok (.ireturn, 1) := by decide +kernel
theorem dX7_readPhase_145 : decode cX7_readPhase 145 = .ok (.aload_n 0, 1) := by decide +kernel
theorem dX7_readPhase_146 : decode cX7_readPhase 146 = .ok (.bipush 97, 2) := by decide +kernel
theorem dX7_readPhase_148 : decode cX7_readPhase 148 = .ok (.invokevirtual 119, 3) := by decide +kernel
theorem dX7_readPhase_151 : decode cX7_readPhase 151 = .ok (.ifCond .eq 7, 3) := by decide +kernel
theorem dX7_readPhase_154 : decode cX7_readPhase 154 = .ok (.iconst 1, 1) := by decide +kernel
theorem dX7_readPhase_155 : decode cX7_readPhase 155 = .ok (.goto 4, 3) := by decide +kernel
theorem dX7_readPhase_158 : decode cX7_readPhase 158 = .ok (.iconst 0, 1) := by decide +kernel
theorem dX7_readPhase_159 : decode cX7_readPhase 159 = .ok (.istore 5, 2) := by decide +kernel
theorem dX7_readPhase_161 : decode cX7_readPhase 161 = .ok (.aload_n 0, 1) := by decide +kernel
theorem dX7_readPhase_162 : decode cX7_readPhase 162 = .ok (.bipush 59, 2) := by decide +kernel
theorem dX7_readPhase_164 : decode cX7_readPhase 164 = .ok (.invokevirtual 119, 3) := by decide +kernel
theorem dX7_readPhase_167 : decode cX7_readPhase 167 = .ok (.ifCond .ne 8, 3) := by decide +kernel
theorem dX7_readPhase_170 : decode cX7_readPhase 170 = .ok (.aload_n 0, 1) := by decide +kernel
theorem dX7_readPhase_171 : decode cX7_readPhase 171 = .ok (.invokevirtual 107, 3) := by decide +kernel
theorem dX7_readPhase_174 : decode cX7_readPhase 174 = .ok (.ireturn, 1) := by decide +kernel
theorem dX7_readPhase_175 : decode cX7_readPhase 175 = .ok (.aload_n 0, 1) := by decide +kernel
theorem dX7_readPhase_176 : decode cX7_readPhase 176 = .ok (.getfield 22, 3) := by decide +kernel
theorem dX7_readPhase_179 : decode cX7_readPhase 179 = .ok (.iload_n 1, 1) := by decide +kernel
theorem dX7_readPhase_180 : decode cX7_readPhase 180 = .ok (.iload_n 2, 1) := by decide +kernel
theorem dX7_readPhase_181 : decode cX7_readPhase 181 = .ok (.iload_n 3, 1) := by decide +kernel
theorem dX7_readPhase_182 : decode cX7_readPhase 182 = .ok (.iconst 2, 1) := by decide +kernel
theorem dX7_readPhase_183 : decode cX7_readPhase 183 = .ok (.ishl, 1) := by decide +kernel
theorem dX7_readPhase_184 : decode cX7_readPhase 184 = .ok (.ior, 1) := by decide +kernel
theorem dX7_readPhase_185 : decode cX7_readPhase 185 = .ok (.iload 4, 2) := by decide +kernel
theorem dX7_readPhase_187 : decode cX7_readPhase 187 = .ok (.iconst 1, 1) := by decide +kernel
theorem dX7_readPhase_188 : decode cX7_readPhase 188 = .ok (.iadd, 1) := by decide +kernel
theorem dX7_readPhase_189 : decode cX7_readPhase 189 = .ok (.bipush 9, 2) := by decide +kernel
theorem dX7_readPhase_191 : decode cX7_readPhase 191 = .ok (.ishl, 1) := by decide +kernel
theorem dX7_readPhase_192 : decode cX7_readPhase 192 = .ok (.ior, 1) := by decide +kernel
theorem dX7_readPhase_193 : decode cX7_readPhase 193 = .ok (.aload_n 0, 1) := by decide +kernel
theorem dX7_readPhase_194 : decode cX7_readPhase 194 = .ok (.getfield 101, 3) := by decide +kernel
theorem dX7_readPhase_197 : decode cX7_readPhase 197 = .ok (.bipush 11, 2) := by decide +kernel
theorem dX7_readPhase_199 : decode cX7_readPhase 199 = .ok (.ishl, 1) := by decide +kernel
theorem dX7_readPhase_200 : decode cX7_readPhase 200 = .ok (.ior, 1) := by decide +kernel
theorem dX7_readPhase_201 : decode cX7_readPhase 201 = .ok (.iload 5, 2) := by decide +kernel
theorem dX7_readPhase_203 : decode cX7_readPhase 203 = .ok (.bipush 18, 2) := by decide +kernel
theorem dX7_readPhase_205 : decode cX7_readPhase 205 = .ok (.ishl, 1) := by decide +kernel
theorem dX7_readPhase_206 : decode cX7_readPhase 206 = .ok (.ior, 1) := by decide +kernel
theorem dX7_readPhase_207 : decode cX7_readPhase 207 = .ok (.iastore, 1) := by decide +kernel
theorem dX7_readPhase_208 : decode cX7_readPhase 208 = .ok (.iconst 1, 1) := by decide +kernel
theorem dX7_readPhase_209 : decode cX7_readPhase 209 = .ok (.ireturn, 1) := by decide +kernel
theorem dX7_readText_0 : decode cX7_readText 0 = .ok (.aload_n 0, 1) := by decide +kernel
theorem dX7_readText_1 : decode cX7_readText 1 = .ok (.iconst 0, 1) := by decide +kernel
theorem dX7_readText_2 : decode cX7_readText 2 = .ok (.putfield 92, 3) := by decide +kernel
theorem dX7_readText_5 : decode cX7_readText 5 = .ok (.aload_n 0, 1) := by decide +kernel
theorem dX7_readText_6 : decode cX7_readText 6 = .ok (.iconst 0, 1) := by decide +kernel
theorem dX7_readText_7 : decode cX7_readText 7 = .ok (.putfield 98, 3) := by decide +kernel
theorem dX7_readText_10 : decode cX7_readText 10 = .ok (.iconst 0, 1) := by decide +kernel
theorem dX7_readText_11 : decode cX7_readText 11 = .ok (.istore_n 1, 1) := by decide +kernel
theorem dX7_readText_12 : decode cX7_readText 12 = .ok (.iconst 1, 1) := by decide +kernel
theorem dX7_readText_13 : decode cX7_readText 13 = .ok (.istore_n 2, 1) := by decide +kernel
theorem dX7_readText_14 : decode cX7_readText 14 = .ok (.iload_n 2, 1) := by decide +kernel
theorem dX7_readText_15 : decode cX7_readText 15 = .ok (.ifCond .eq 30, 3) := by decide +kernel
theorem dX7_readText_18 : decode cX7_readText 18 = .ok (.iload_n 1, 1) := by decide +kernel
theorem dX7_readText_19 : decode cX7_readText 19 = .ok (.ifCond .eq 14, 3) := by decide +kernel
theorem dX7_readText_22 : decode cX7_readText 22 = .ok (.aload_n 0, 1) := by decide +kernel
theorem dX7_readText_23 : decode cX7_readText 23 = .ok (.getfield 92, 3) := by decide +kernel
theorem dX7_readText_26 : decode cX7_readText 26 = .ok (.aload_n 0, 1) := by decide +kernel
theorem dX7_readText_27 : decode cX7_readText 27 = .ok (.getfield 95, 3) := by decide +kernel
theorem dX7_readText_30 : decode cX7_readText 30 = .ok (.if_icmp .ge 15, 3) := by decide +kernel
theorem dX7_readText_33 : decode cX7_readText 33 = .ok (.aload_n 0, 1) := by decide +kernel
theorem dX7_readText_34 : decode cX7_readText 34 = .ok (.iload_n 1, 1) := by decide +kernel
theorem dX7_readText_35 : decode cX7_readText 35 = .ok (.invokevirtual 122, 3) := by decide +kernel
theorem dX7_readText_38 : decode cX7_readText 38 = .ok (.istore_n 2, 1) := by decide +kernel
theorem dX7_readText_39 : decode cX7_readText 39 = .ok (.iinc 1 1, 3) := by decide +kernel
theorem dX7_readText_42 : decode cX7_readText 42 = .ok (.goto (-28), 3) := by decide +kernel
theorem dX7_readText_45 : decode cX7_readText 45 = .ok (.iload_n 2, 1) := by decide +kernel
theorem dX7_readText_46 : decode cX7_readText 46 = .ok (.ifCond .eq 7, 3) := by decide +kernel
theorem dX7_readText_49 : decode cX7_readText 49 = .ok (.iload_n 1, 1) := by decide +kernel
theorem dX7_readText_50 : decode cX7_readText 50 = .ok (.goto 4, 3) := by decide +kernel
theorem dX7_readText_53 : decode cX7_readText 53 = .ok (.iconst (-1), 1) := by decide +kernel
theorem dX7_readText_54 : decode cX7_readText 54 = .ok (.ireturn, 1) := by decide +kernel
theorem dX7_recipe_0 : decode cX7_recipe 0 = .ok (.iload_n 1, 1) := by decide +kernel
theorem dX7_recipe_1 : decode cX7_recipe 1 = .ok (.invokestatic 125, 3) := by decide +kernel
theorem dX7_recipe_4 : decode cX7_recipe 4 = .ok (.ifCond .ne 5, 3) := by decide +kernel
theorem dX7_recipe_7 : decode cX7_recipe 7 = .ok (.iconst (-1), 1) := by decide +kernel
theorem dX7_recipe_8 : decode cX7_recipe 8 = .ok (.ireturn, 1) := by decide +kernel
theorem dX7_recipe_9 : decode cX7_recipe 9 = .ok (.aload_n 0, 1) := by decide +kernel
theorem dX7_recipe_10 : decode cX7_recipe 10 = .ok (.invokevirtual 128, 3) := by decide +kernel
theorem dX7_recipe_13 : decode cX7_recipe 13 = .ok (.istore_n 2, 1) := by decide +kernel
theorem dX7_recipe_14 : decode cX7_recipe 14 = .ok (.iload_n 2, 1) := by decide +kernel
theorem dX7_recipe_15 : decode cX7_recipe 15 = .ok (.iconst (-1), 1) := by decide +kernel
theorem dX7_recipe_16 : decode cX7_recipe 16 = .ok (.if_icmp .ne 6, 3) := by decide +kernel
theorem dX7_recipe_19 : decode cX7_recipe 19 = .ok (.bipush (-2), 2) := by decide +kernel
theorem dX7_recipe_21 : decode cX7_recipe 21 = .ok (.ireturn, 1) := by decide +kernel
theorem dX7_recipe_22 : decode cX7_recipe 22 = .ok (.aload_n 0, 1) := by decide +kernel
theorem dX7_recipe_23 : decode cX7_recipe 23 = .ok (.getfield 7, 3) := by decide +kernel
theorem dX7_recipe_26 : decode cX7_recipe 26 = .ok (.bipush 56, 2) := by decide +kernel
theorem dX7_recipe_28 : decode cX7_recipe 28 = .ok (.iload_n 1, 1) := by decide +kernel
theorem dX7_recipe_29 : decode cX7_recipe 29 = .ok (.iadd, 1) := by decide +kernel
theorem dX7_recipe_30 : decode cX7_recipe 30 = .ok (.iaload, 1) := by decide +kernel
theorem dX7_recipe_31 : decode cX7_recipe 31 = .ok (.bipush 9, 2) := by decide +kernel
theorem dX7_recipe_33 : decode cX7_recipe 33 = .ok (.if_icmp .ne 6, 3) := by decide +kernel
theorem dX7_recipe_36 : decode cX7_recipe 36 = .ok (.bipush (-3), 2) := by decide +kernel
theorem dX7_recipe_38 : decode cX7_recipe 38 = .ok (.ireturn, 1) := by decide +kernel
theorem dX7_recipe_39 : decode cX7_recipe 39 = .ok (.aload_n 0, 1) := by decide +kernel
theorem dX7_recipe_40 : decode cX7_recipe 40 = .ok (.invokevirtual 44, 3) := by decide +kernel
theorem dX7_recipe_43 : decode cX7_recipe 43 = .ok (.bipush 9, 2) := by decide +kernel
theorem dX7_recipe_45 : decode cX7_recipe 45 = .ok (.iload_n 1, 1) := by decide +kernel
theorem dX7_recipe_46 : decode cX7_recipe 46 = .ok (.imul, 1) := by decide +kernel
theorem dX7_recipe_47 : decode cX7_recipe 47 = .ok (.aload_n 0, 1) := by decide +kernel
theorem dX7_recipe_48 : decode cX7_recipe 48 = .ok (.getfield 7, 3) := by decide +kernel
theorem dX7_recipe_51 : decode cX7_recipe 51 = .ok (.bipush 56, 2) := by decide +kernel
theorem dX7_recipe_53 : decode cX7_recipe 53 = .ok (.iload_n 1, 1) := by decide +kernel
theorem dX7_recipe_54 : decode cX7_recipe 54 = .ok (.iadd, 1) := by decide +kernel
theorem dX7_recipe_55 : decode cX7_recipe 55 = .ok (.iaload, 1) := by decide +kernel
theorem dX7_recipe_56 : decode cX7_recipe 56 = .ok (.iadd, 1) := by decide +kernel
theorem dX7_recipe_57 : decode cX7_recipe 57 = .ok (.istore_n 3, 1) := by decide +kernel
theorem dX7_recipe_58 : decode cX7_recipe 58 = .ok (.aload_n 0, 1) := by decide +kernel
theorem dX7_recipe_59 : decode cX7_recipe 59 = .ok (.getfield 7, 3) := by decide +kernel
theorem dX7_recipe_62 : decode cX7_recipe 62 = .ok (.bipush 62, 2) := by decide +kernel
theorem dX7_recipe_64 : decode cX7_recipe 64 = .ok (.iload_n 3, 1) := by decide +kernel
theorem dX7_recipe_65 : decode cX7_recipe 65 = .ok (.iadd, 1) := by decide +kernel
theorem dX7_recipe_66 : decode cX7_recipe 66 = .ok (.iload_n 2, 1) := by decide +kernel
theorem dX7_recipe_67 : decode cX7_recipe 67 = .ok (.iastore, 1) := by decide +kernel
theorem dX7_recipe_68 : decode cX7_recipe 68 = .ok (.iconst 0, 1) := by decide +kernel
theorem dX7_recipe_69 : decode cX7_recipe 69 = .ok (.istore 4, 2) := by decide +kernel
theorem dX7_recipe_71 : decode cX7_recipe 71 = .ok (.iload 4, 2) := by decide +kernel
theorem dX7_recipe_73 : decode cX7_recipe 73 = .ok (.iload_n 2, 1) := by decide +kernel
theorem dX7_recipe_74 : decode cX7_recipe 74 = .ok (.if_icmp .ge 31, 3) := by decide +kernel
theorem dX7_recipe_77 : decode cX7_recipe 77 = .ok (.aload_n 0, 1) := by decide +kernel
theorem dX7_recipe_78 : decode cX7_recipe 78 = .ok (.getfield 7, 3) := by decide +kernel
theorem dX7_recipe_81 : decode cX7_recipe 81 = .ok (.bipush 116, 2) := by decide +kernel
theorem dX7_recipe_83 : decode cX7_recipe 83 = .ok (.bipush 8, 2) := by decide +kernel
theorem dX7_recipe_85 : decode cX7_recipe 85 = .ok (.iload_n 3, 1) := by decide +kernel
theorem dX7_recipe_86 : decode cX7_recipe 86 = .ok (.imul, 1) := by decide +kernel
theorem dX7_recipe_87 : decode cX7_recipe 87 = .ok (.iadd, 1) := by decide +kernel
theorem dX7_recipe_88 : decode cX7_recipe 88 = .ok (.iload 4, 2) := by decide +kernel
theorem dX7_recipe_90 : decode cX7_recipe 90 = .ok (.iadd, 1) := by decide +kernel
theorem dX7_recipe_91 : decode cX7_recipe 91 = .ok (.aload_n 0, 1) := by decide +kernel
theorem dX7_recipe_92 : decode cX7_recipe 92 = .ok (.getfield 22, 3) := by decide +kernel
theorem dX7_recipe_95 : decode cX7_recipe 95 = .ok (.iload 4, 2) := by decide +kernel
theorem dX7_recipe_97 : decode cX7_recipe 97 = .ok (.iaload, 1) := by decide +kernel
theorem dX7_recipe_98 : decode cX7_recipe 98 = .ok (.iastore, 1) := by decide +kernel
theorem dX7_recipe_99 : decode cX7_recipe 99 = .ok (.iinc 4 1, 3) := by decide +kernel
theorem dX7_recipe_102 : decode cX7_recipe 102 = .ok (.goto (-31), 3) := by decide +kernel
theorem dX7_recipe_105 : decode cX7_recipe 105 = .ok (.aload_n 0, 1) := by decide +kernel
theorem dX7_recipe_106 : decode cX7_recipe 106 = .ok (.getfield 7, 3) := by decide +kernel
theorem dX7_recipe_109 : decode cX7_recipe 109 = .ok (.bipush 56, 2) := by decide +kernel
theorem dX7_recipe_111 : decode cX7_recipe 111 = .ok (.iload_n 1, 1) := by decide +kernel
theorem dX7_recipe_112 : decode cX7_recipe 112 = .ok (.iadd, 1) := by decide +kernel
theorem dX7_recipe_113 : decode cX7_recipe 113 = .ok (.dup2, 1) := by decide +kernel
theorem dX7_recipe_114 : decode cX7_recipe 114 = .ok (.iaload, 1) := by decide +kernel
theorem dX7_recipe_115 : decode cX7_recipe 115 = .ok (.iconst 1, 1) := by decide +kernel
theorem dX7_recipe_116 : decode cX7_recipe 116 = .ok (.iadd, 1) := by decide +kernel
theorem dX7_recipe_117 : decode cX7_recipe 117 = .ok (.iastore, 1) := by decide +kernel
theorem dX7_recipe_118 : decode cX7_recipe 118 = .ok (.aload_n 0, 1) := by decide +kernel
theorem dX7_recipe_119 : decode cX7_recipe 119 = .ok (.getfield 7, 3) := by decide +kernel
theorem dX7_recipe_122 : decode cX7_recipe 122 = .ok (.bipush 56, 2) := by decide +kernel
theorem dX7_recipe_124 : decode cX7_recipe 124 = .ok (.iload_n 1, 1) := by decide +kernel
theorem dX7_recipe_125 : decode cX7_recipe 125 = .ok (.iadd, 1) := by decide +kernel
theorem dX7_recipe_126 : decode cX7_recipe 126 = .ok (.iaload, 1) := by decide +kernel
theorem dX7_recipe_127 : decode cX7_recipe 127 = .ok (.ireturn, 1) := by decide +kernel
theorem dX7_versions_0 : decode cX7_versions 0 = .ok (.iload_n 1, 1) := by decide +kernel
theorem dX7_versions_1 : decode cX7_versions 1 = .ok (.invokestatic 125, 3) := by decide +kernel
theorem dX7_versions_4 : decode cX7_versions 4 = .ok (.ifCond .eq 15, 3) := by decide +kernel
theorem dX7_versions_7 : decode cX7_versions 7 = .ok (.aload_n 0, 1) := by decide +kernel
theorem dX7_versions_8 : decode cX7_versions 8 = .ok (.getfield 7, 3) := by decide +kernel
theorem dX7_versions_11 : decode cX7_versions 11 = .ok (.bipush 56, 2) := by decide +kernel
theorem dX7_versions_13 : decode cX7_versions 13 = .ok (.iload_n 1, 1) := by decide +kernel
theorem dX7_versions_14 : decode cX7_versions 14 = .ok (.iadd, 1) := by decide +kernel
theorem dX7_versions_15 : decode cX7_versions 15 = .ok (.iaload, 1) := by decide +kernel
theorem dX7_versions_16 : decode cX7_versions 16 = .ok (.goto 4, 3) := by decide +kernel
theorem dX7_versions_19 : decode cX7_versions 19 = .ok (.iconst (-1), 1) := by decide +kernel
theorem dX7_versions_20 : decode cX7_versions 20 = .ok (.ireturn, 1) := by decide +kernel
theorem dX7_partOf_0 : decode cX7_partOf 0 = .ok (.iload_n 1, 1) := by decide +kernel
theorem dX7_partOf_1 : decode cX7_partOf 1 = .ok (.tableswitch 64 0 3 #[31, 36, 41, 59], 31) := by decide +kernel
theorem dX7_partOf_32 : decode cX7_partOf 32 = .ok (.iload_n 0, 1) := by decide +kernel
theorem dX7_partOf_33 : decode cX7_partOf 33 = .ok (.invokestatic 131, 3) := by decide +kernel
theorem dX7_partOf_36 : decode cX7_partOf 36 = .ok (.ireturn, 1) := by decide +kernel
theorem dX7_partOf_37 : decode cX7_partOf 37 = .ok (.iload_n 0, 1) := by decide +kernel
theorem dX7_partOf_38 : decode cX7_partOf 38 = .ok (.invokestatic 134, 3) := by decide +kernel
theorem dX7_partOf_41 : decode cX7_partOf 41 = .ok (.ireturn, 1) := by decide +kernel
