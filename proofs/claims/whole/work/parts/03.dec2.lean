theorem dX3_remove_8 : decode cX3_remove 8 = .ok (.invokevirtual 191, 3) := by decide +kernel
theorem dX3_remove_11 : decode cX3_remove 11 = .ok (.astore 4, 2) := by decide +kernel
theorem dX3_remove_13 : decode cX3_remove 13 = .ok (.aload_n 3, 1) := by decide +kernel
theorem dX3_remove_14 : decode cX3_remove 14 = .ok (.ifnull 8, 3) := by decide +kernel
theorem dX3_remove_17 : decode cX3_remove 17 = .ok (.aload 4, 2) := by decide +kernel
theorem dX3_remove_19 : decode cX3_remove 19 = .ok (.ifnonnull 6, 3) := by decide +kernel
theorem dX3_remove_22 : decode cX3_remove 22 = .ok (.ldc 51, 2) := by decide +kernel
theorem dX3_remove_24 : decode cX3_remove 24 = .ok (.ireturn, 1) := by decide +kernel
theorem dX3_remove_25 : decode cX3_remove 25 = .ok (.aload_n 0, 1) := by decide +kernel
theorem dX3_remove_26 : decode cX3_remove 26 = .ok (.aload 4, 2) := by decide +kernel
theorem dX3_remove_28 : decode cX3_remove 28 = .ok (.getfield 194, 3) := by decide +kernel
theorem dX3_remove_31 : decode cX3_remove 31 = .ok (.invokevirtual 191, 3) := by decide +kernel
theorem dX3_remove_34 : decode cX3_remove 34 = .ok (.astore 5, 2) := by decide +kernel
theorem dX3_remove_36 : decode cX3_remove 36 = .ok (.aload 5, 2) := by decide +kernel
theorem dX3_remove_38 : decode cX3_remove 38 = .ok (.ifnull 21, 3) := by decide +kernel
theorem dX3_remove_41 : decode cX3_remove 41 = .ok (.aload_n 3, 1) := by decide +kernel
theorem dX3_remove_42 : decode cX3_remove 42 = .ok (.aload 5, 2) := by decide +kernel
theorem dX3_remove_44 : decode cX3_remove 44 = .ok (.invokestatic 197, 3) := by decide +kernel
theorem dX3_remove_47 : decode cX3_remove 47 = .ok (.ifCond .eq 12, 3) := by decide +kernel
theorem dX3_remove_50 : decode cX3_remove 50 = .ok (.aload_n 3, 1) := by decide +kernel
theorem dX3_remove_51 : decode cX3_remove 51 = .ok (.aload 5, 2) := by decide +kernel
theorem dX3_remove_53 : decode cX3_remove 53 = .ok (.invokestatic 201, 3) := by decide +kernel
theorem dX3_remove_56 : decode cX3_remove 56 = .ok (.ifCond .ne 6, 3) := by decide +kernel
theorem dX3_remove_59 : decode cX3_remove 59 = .ok (.ldc 98, 2) := by decide +kernel
theorem dX3_remove_61 : decode cX3_remove 61 = .ok (.ireturn, 1) := by decide +kernel
theorem dX3_remove_62 : decode cX3_remove 62 = .ok (.aload_n 0, 1) := by decide +kernel
theorem dX3_remove_63 : decode cX3_remove 63 = .ok (.aload_n 0, 1) := by decide +kernel
theorem dX3_remove_64 : decode cX3_remove 64 = .ok (.iload_n 2, 1) := by decide +kernel
theorem dX3_remove_65 : decode cX3_remove 65 = .ok (.invokevirtual 204, 3) := by decide +kernel
theorem dX3_remove_68 : decode cX3_remove 68 = .ok (.iconst 1, 1) := by decide +kernel
theorem dX3_remove_69 : decode cX3_remove 69 = .ok (.iadd, 1) := by decide +kernel
theorem dX3_remove_70 : decode cX3_remove 70 = .ok (.invokevirtual 207, 3) := by decide +kernel
theorem dX3_remove_73 : decode cX3_remove 73 = .ok (.ifCond .eq 8, 3) := by decide +kernel
theorem dX3_remove_76 : decode cX3_remove 76 = .ok (.aload_n 0, 1) := by decide +kernel
theorem dX3_remove_77 : decode cX3_remove 77 = .ok (.iload_n 2, 1) := by decide +kernel
theorem dX3_remove_78 : decode cX3_remove 78 = .ok (.invokevirtual 210, 3) := by decide +kernel
theorem dX3_remove_81 : decode cX3_remove 81 = .ok (.aload_n 0, 1) := by decide +kernel
theorem dX3_remove_82 : decode cX3_remove 82 = .ok (.iconst 1, 1) := by decide +kernel
theorem dX3_remove_83 : decode cX3_remove 83 = .ok (.invokevirtual 213, 3) := by decide +kernel
theorem dX3_remove_86 : decode cX3_remove 86 = .ok (.ireturn, 1) := by decide +kernel
theorem dX3_write_0 : decode cX3_write 0 = .ok (.aload_n 0, 1) := by decide +kernel
theorem dX3_write_1 : decode cX3_write 1 = .ok (.iload_n 1, 1) := by decide +kernel
theorem dX3_write_2 : decode cX3_write 2 = .ok (.invokevirtual 47, 3) := by decide +kernel
theorem dX3_write_5 : decode cX3_write 5 = .ok (.astore 5, 2) := by decide +kernel
theorem dX3_write_7 : decode cX3_write 7 = .ok (.aload_n 0, 1) := by decide +kernel
theorem dX3_write_8 : decode cX3_write 8 = .ok (.iload_n 2, 1) := by decide +kernel
theorem dX3_write_9 : decode cX3_write 9 = .ok (.invokevirtual 216, 3) := by decide +kernel
theorem dX3_write_12 : decode cX3_write 12 = .ok (.astore 6, 2) := by decide +kernel
theorem dX3_write_14 : decode cX3_write 14 = .ok (.aload 5, 2) := by decide +kernel
theorem dX3_write_16 : decode cX3_write 16 = .ok (.ifnull 8, 3) := by decide +kernel
theorem dX3_write_19 : decode cX3_write 19 = .ok (.aload 6, 2) := by decide +kernel
theorem dX3_write_21 : decode cX3_write 21 = .ok (.ifnonnull 6, 3) := by decide +kernel
theorem dX3_write_24 : decode cX3_write 24 = .ok (.ldc 51, 2) := by decide +kernel
theorem dX3_write_26 : decode cX3_write 26 = .ok (.ireturn, 1) := by decide +kernel
theorem dX3_write_27 : decode cX3_write 27 = .ok (.iload_n 3, 1) := by decide +kernel
theorem dX3_write_28 : decode cX3_write 28 = .ok (.ifCond .lt 9, 3) := by decide +kernel
theorem dX3_write_31 : decode cX3_write 31 = .ok (.iload_n 3, 1) := by decide +kernel
theorem dX3_write_32 : decode cX3_write 32 = .ok (.bipush 32, 2) := by decide +kernel
theorem dX3_write_34 : decode cX3_write 34 = .ok (.if_icmp .lt 6, 3) := by decide +kernel
theorem dX3_write_37 : decode cX3_write 37 = .ok (.ldc 52, 2) := by decide +kernel
theorem dX3_write_39 : decode cX3_write 39 = .ok (.ireturn, 1) := by decide +kernel
theorem dX3_write_40 : decode cX3_write 40 = .ok (.aload 5, 2) := by decide +kernel
theorem dX3_write_42 : decode cX3_write 42 = .ok (.aload 6, 2) := by decide +kernel
theorem dX3_write_44 : decode cX3_write 44 = .ok (.invokestatic 201, 3) := by decide +kernel
theorem dX3_write_47 : decode cX3_write 47 = .ok (.ifCond .ne 6, 3) := by decide +kernel
theorem dX3_write_50 : decode cX3_write 50 = .ok (.ldc 98, 2) := by decide +kernel
theorem dX3_write_52 : decode cX3_write 52 = .ok (.ireturn, 1) := by decide +kernel
theorem dX3_write_53 : decode cX3_write 53 = .ok (.aload 5, 2) := by decide +kernel
theorem dX3_write_55 : decode cX3_write 55 = .ok (.aload 6, 2) := by decide +kernel
theorem dX3_write_57 : decode cX3_write 57 = .ok (.invokestatic 197, 3) := by decide +kernel
theorem dX3_write_60 : decode cX3_write 60 = .ok (.ifCond .ne 7, 3) := by decide +kernel
theorem dX3_write_63 : decode cX3_write 63 = .ok (.iconst 1, 1) := by decide +kernel
theorem dX3_write_64 : decode cX3_write 64 = .ok (.goto 4, 3) := by decide +kernel
theorem dX3_write_67 : decode cX3_write 67 = .ok (.iconst 0, 1) := by decide +kernel
theorem dX3_write_68 : decode cX3_write 68 = .ok (.istore 7, 2) := by decide +kernel
theorem dX3_write_70 : decode cX3_write 70 = .ok (.iload_n 3, 1) := by decide +kernel
theorem dX3_write_71 : decode cX3_write 71 = .ok (.aload 6, 2) := by decide +kernel
theorem dX3_write_73 : decode cX3_write 73 = .ok (.getfield 219, 3) := by decide +kernel
theorem dX3_write_76 : decode cX3_write 76 = .ok (.if_icmp .le 15, 3) := by decide +kernel
theorem dX3_write_79 : decode cX3_write 79 = .ok (.iload 7, 2) := by decide +kernel
theorem dX3_write_81 : decode cX3_write 81 = .ok (.ifCond .eq 7, 3) := by decide +kernel
theorem dX3_write_84 : decode cX3_write 84 = .ok (.iconst 1, 1) := by decide +kernel
theorem dX3_write_85 : decode cX3_write 85 = .ok (.goto 5, 3) := by decide +kernel
theorem dX3_write_88 : decode cX3_write 88 = .ok (.ldc 52, 2) := by decide +kernel
theorem dX3_write_90 : decode cX3_write 90 = .ok (.ireturn, 1) := by decide +kernel
theorem dX3_write_91 : decode cX3_write 91 = .ok (.aload_n 0, 1) := by decide +kernel
theorem dX3_write_92 : decode cX3_write 92 = .ok (.aload 6, 2) := by decide +kernel
theorem dX3_write_94 : decode cX3_write 94 = .ok (.iload 7, 2) := by decide +kernel
theorem dX3_write_96 : decode cX3_write 96 = .ok (.iload_n 3, 1) := by decide +kernel
theorem dX3_write_97 : decode cX3_write 97 = .ok (.iconst 1, 1) := by decide +kernel
theorem dX3_write_98 : decode cX3_write 98 = .ok (.iload 4, 2) := by decide +kernel
theorem dX3_write_100 : decode cX3_write 100 = .ok (.invokevirtual 222, 3) := by decide +kernel
theorem dX3_write_103 : decode cX3_write 103 = .ok (.ireturn, 1) := by decide +kernel
theorem dX3_append_0 : decode cX3_append 0 = .ok (.aload_n 0, 1) := by decide +kernel
theorem dX3_append_1 : decode cX3_append 1 = .ok (.iload_n 1, 1) := by decide +kernel
theorem dX3_append_2 : decode cX3_append 2 = .ok (.invokevirtual 47, 3) := by decide +kernel
theorem dX3_append_5 : decode cX3_append 5 = .ok (.astore 5, 2) := by decide +kernel
theorem dX3_append_7 : decode cX3_append 7 = .ok (.aload_n 0, 1) := by decide +kernel
theorem dX3_append_8 : decode cX3_append 8 = .ok (.iload_n 2, 1) := by decide +kernel
theorem dX3_append_9 : decode cX3_append 9 = .ok (.invokevirtual 216, 3) := by decide +kernel
theorem dX3_append_12 : decode cX3_append 12 = .ok (.astore 6, 2) := by decide +kernel
theorem dX3_append_14 : decode cX3_append 14 = .ok (.aload 5, 2) := by decide +kernel
theorem dX3_append_16 : decode cX3_append 16 = .ok (.ifnull 8, 3) := by decide +kernel
theorem dX3_append_19 : decode cX3_append 19 = .ok (.aload 6, 2) := by decide +kernel
theorem dX3_append_21 : decode cX3_append 21 = .ok (.ifnonnull 6, 3) := by decide +kernel
theorem dX3_append_24 : decode cX3_append 24 = .ok (.ldc 51, 2) := by decide +kernel
theorem dX3_append_26 : decode cX3_append 26 = .ok (.ireturn, 1) := by decide +kernel
theorem dX3_append_27 : decode cX3_append 27 = .ok (.iload_n 3, 1) := by decide +kernel
theorem dX3_append_28 : decode cX3_append 28 = .ok (.iconst 1, 1) := by decide +kernel
theorem dX3_append_29 : decode cX3_append 29 = .ok (.if_icmp .lt 9, 3) := by decide +kernel
theorem dX3_append_32 : decode cX3_append 32 = .ok (.iload_n 3, 1) := by decide +kernel
theorem dX3_append_33 : decode cX3_append 33 = .ok (.bipush 8, 2) := by decide +kernel
theorem dX3_append_35 : decode cX3_append 35 = .ok (.if_icmp .le 6, 3) := by decide +kernel
theorem dX3_append_38 : decode cX3_append 38 = .ok (.ldc 52, 2) := by decide +kernel
theorem dX3_append_40 : decode cX3_append 40 = .ok (.ireturn, 1) := by decide +kernel
theorem dX3_append_41 : decode cX3_append 41 = .ok (.aload 5, 2) := by decide +kernel
theorem dX3_append_43 : decode cX3_append 43 = .ok (.aload 6, 2) := by decide +kernel
theorem dX3_append_45 : decode cX3_append 45 = .ok (.invokestatic 201, 3) := by decide +kernel
theorem dX3_append_48 : decode cX3_append 48 = .ok (.ifCond .ne 6, 3) := by decide +kernel
theorem dX3_append_51 : decode cX3_append 51 = .ok (.ldc 98, 2) := by decide +kernel
theorem dX3_append_53 : decode cX3_append 53 = .ok (.ireturn, 1) := by decide +kernel
theorem dX3_append_54 : decode cX3_append 54 = .ok (.aload_n 0, 1) := by decide +kernel
theorem dX3_append_55 : decode cX3_append 55 = .ok (.aload 6, 2) := by decide +kernel
theorem dX3_append_57 : decode cX3_append 57 = .ok (.aload 5, 2) := by decide +kernel
theorem dX3_append_59 : decode cX3_append 59 = .ok (.aload 6, 2) := by decide +kernel
theorem dX3_append_61 : decode cX3_append 61 = .ok (.invokestatic 197, 3) := by decide +kernel
theorem dX3_append_64 : decode cX3_append 64 = .ok (.ifCond .ne 7, 3) := by decide +kernel
theorem dX3_append_67 : decode cX3_append 67 = .ok (.iconst 1, 1) := by decide +kernel
theorem dX3_append_68 : decode cX3_append 68 = .ok (.goto 4, 3) := by decide +kernel
theorem dX3_append_71 : decode cX3_append 71 = .ok (.iconst 0, 1) := by decide +kernel
theorem dX3_append_72 : decode cX3_append 72 = .ok (.aload 6, 2) := by decide +kernel
theorem dX3_append_74 : decode cX3_append 74 = .ok (.getfield 219, 3) := by decide +kernel
theorem dX3_append_77 : decode cX3_append 77 = .ok (.iload_n 3, 1) := by decide +kernel
theorem dX3_append_78 : decode cX3_append 78 = .ok (.iload 4, 2) := by decide +kernel
theorem dX3_append_80 : decode cX3_append 80 = .ok (.invokevirtual 222, 3) := by decide +kernel
theorem dX3_append_83 : decode cX3_append 83 = .ok (.ireturn, 1) := by decide +kernel
theorem dX3_read_0 : decode cX3_read 0 = .ok (.aload_n 0, 1) := by decide +kernel
theorem dX3_read_1 : decode cX3_read 1 = .ok (.iload_n 1, 1) := by decide +kernel
theorem dX3_read_2 : decode cX3_read 2 = .ok (.invokevirtual 47, 3) := by decide +kernel
theorem dX3_read_5 : decode cX3_read 5 = .ok (.astore 4, 2) := by decide +kernel
theorem dX3_read_7 : decode cX3_read 7 = .ok (.aload_n 0, 1) := by decide +kernel
theorem dX3_read_8 : decode cX3_read 8 = .ok (.iload_n 2, 1) := by decide +kernel
theorem dX3_read_9 : decode cX3_read 9 = .ok (.invokevirtual 216, 3) := by decide +kernel
theorem dX3_read_12 : decode cX3_read 12 = .ok (.astore 5, 2) := by decide +kernel
theorem dX3_read_14 : decode cX3_read 14 = .ok (.aload 4, 2) := by decide +kernel
theorem dX3_read_16 : decode cX3_read 16 = .ok (.ifnull 8, 3) := by decide +kernel
theorem dX3_read_19 : decode cX3_read 19 = .ok (.aload 5, 2) := by decide +kernel
theorem dX3_read_21 : decode cX3_read 21 = .ok (.ifnonnull 6, 3) := by decide +kernel
theorem dX3_read_24 : decode cX3_read 24 = .ok (.ldc 51, 2) := by decide +kernel
theorem dX3_read_26 : decode cX3_read 26 = .ok (.ireturn, 1) := by decide +kernel
theorem dX3_read_27 : decode cX3_read 27 = .ok (.aload 4, 2) := by decide +kernel
theorem dX3_read_29 : decode cX3_read 29 = .ok (.aload 5, 2) := by decide +kernel
theorem dX3_read_31 : decode cX3_read 31 = .ok (.invokestatic 197, 3) := by decide +kernel
theorem dX3_read_34 : decode cX3_read 34 = .ok (.ifCond .ne 6, 3) := by decide +kernel
theorem dX3_read_37 : decode cX3_read 37 = .ok (.ldc 98, 2) := by decide +kernel
theorem dX3_read_39 : decode cX3_read 39 = .ok (.ireturn, 1) := by decide +kernel
theorem dX3_read_40 : decode cX3_read 40 = .ok (.iload_n 3, 1) := by decide +kernel
theorem dX3_read_41 : decode cX3_read 41 = .ok (.ifCond .lt 22, 3) := by decide +kernel
theorem dX3_read_44 : decode cX3_read 44 = .ok (.iload_n 3, 1) := by decide +kernel
theorem dX3_read_45 : decode cX3_read 45 = .ok (.aload 5, 2) := by decide +kernel
theorem dX3_read_47 : decode cX3_read 47 = .ok (.getfield 219, 3) := by decide +kernel
theorem dX3_read_50 : decode cX3_read 50 = .ok (.if_icmp .ge 13, 3) := by decide +kernel
theorem dX3_read_53 : decode cX3_read 53 = .ok (.iload_n 3, 1) := by decide +kernel
theorem dX3_read_54 : decode cX3_read 54 = .ok (.aload 5, 2) := by decide +kernel
theorem dX3_read_56 : decode cX3_read 56 = .ok (.getfield 226, 3) := by decide +kernel
theorem dX3_read_59 : decode cX3_read 59 = .ok (.arraylength, 1) := by decide +kernel
theorem dX3_read_60 : decode cX3_read 60 = .ok (.if_icmp .lt 6, 3) := by decide +kernel
theorem dX3_read_63 : decode cX3_read 63 = .ok (.ldc 52, 2) := by decide +kernel
theorem dX3_read_65 : decode cX3_read 65 = .ok (.ireturn, 1) := by decide +kernel
theorem dX3_read_66 : decode cX3_read 66 = .ok (.aload 5, 2) := by decide +kernel
theorem dX3_read_68 : decode cX3_read 68 = .ok (.getfield 226, 3) := by decide +kernel
theorem dX3_read_71 : decode cX3_read 71 = .ok (.iload_n 3, 1) := by decide +kernel
theorem dX3_read_72 : decode cX3_read 72 = .ok (.iaload, 1) := by decide +kernel
theorem dX3_read_73 : decode cX3_read 73 = .ok (.ireturn, 1) := by decide +kernel
theorem dX3_object_0 : decode cX3_object 0 = .ok (.aload_n 0, 1) := by decide +kernel
theorem dX3_object_1 : decode cX3_object 1 = .ok (.iload_n 1, 1) := by decide +kernel
theorem dX3_object_2 : decode cX3_object 2 = .ok (.invokevirtual 47, 3) := by decide +kernel
theorem dX3_object_5 : decode cX3_object 5 = .ok (.astore 4, 2) := by decide +kernel
theorem dX3_object_7 : decode cX3_object 7 = .ok (.aload_n 0, 1) := by decide +kernel
theorem dX3_object_8 : decode cX3_object 8 = .ok (.iload_n 2, 1) := by decide +kernel
theorem dX3_object_9 : decode cX3_object 9 = .ok (.invokevirtual 191, 3) := by decide +kernel
theorem dX3_object_12 : decode cX3_object 12 = .ok (.astore 5, 2) := by decide +kernel
theorem dX3_object_14 : decode cX3_object 14 = .ok (.aload 4, 2) := by decide +kernel
theorem dX3_object_16 : decode cX3_object 16 = .ok (.ifnull 8, 3) := by decide +kernel
theorem dX3_object_19 : decode cX3_object 19 = .ok (.aload 5, 2) := by decide +kernel
theorem dX3_object_21 : decode cX3_object 21 = .ok (.ifnonnull 6, 3) := by decide +kernel
theorem dX3_object_24 : decode cX3_object 24 = .ok (.ldc 51, 2) := by decide +kernel
theorem dX3_object_26 : decode cX3_object 26 = .ok (.ireturn, 1) := by decide +kernel
theorem dX3_object_27 : decode cX3_object 27 = .ok (.iload_n 3, 1) := by decide +kernel
theorem dX3_object_28 : decode cX3_object 28 = .ok (.ifCond .lt 9, 3) := by decide +kernel
theorem dX3_object_31 : decode cX3_object 31 = .ok (.iload_n 3, 1) := by decide +kernel
theorem dX3_object_32 : decode cX3_object 32 = .ok (.bipush 6, 2) := by decide +kernel
theorem dX3_object_34 : decode cX3_object 34 = .ok (.if_icmp .le 6, 3) := by decide +kernel
theorem dX3_object_37 : decode cX3_object 37 = .ok (.ldc 52, 2) := by decide +kernel
theorem dX3_object_39 : decode cX3_object 39 = .ok (.ireturn, 1) := by decide +kernel
theorem dX3_object_40 : decode cX3_object 40 = .ok (.iload_n 3, 1) := by decide +kernel
theorem dX3_object_41 : decode cX3_object 41 = .ok (.iconst 4, 1) := by decide +kernel
theorem dX3_object_42 : decode cX3_object 42 = .ok (.if_icmp .lt 8, 3) := by decide +kernel
theorem dX3_object_45 : decode cX3_object 45 = .ok (.aload 5, 2) := by decide +kernel
theorem dX3_object_47 : decode cX3_object 47 = .ok (.goto 12, 3) := by decide +kernel
theorem dX3_object_50 : decode cX3_object 50 = .ok (.aload_n 0, 1) := by decide +kernel
theorem dX3_object_51 : decode cX3_object 51 = .ok (.aload 5, 2) := by decide +kernel
theorem dX3_object_53 : decode cX3_object 53 = .ok (.getfield 194, 3) := by decide +kernel
theorem dX3_object_56 : decode cX3_object 56 = .ok (.invokevirtual 191, 3) := by decide +kernel
theorem dX3_object_59 : decode cX3_object 59 = .ok (.astore 6, 2) := by decide +kernel
theorem dX3_object_61 : decode cX3_object 61 = .ok (.aload 6, 2) := by decide +kernel
theorem dX3_object_63 : decode cX3_object 63 = .ok (.ifnull 16, 3) := by decide +kernel
theorem dX3_object_66 : decode cX3_object 66 = .ok (.aload 4, 2) := by decide +kernel
theorem dX3_object_68 : decode cX3_object 68 = .ok (.aload 6, 2) := by decide +kernel
theorem dX3_object_70 : decode cX3_object 70 = .ok (.invokestatic 197, 3) := by decide +kernel
theorem dX3_object_73 : decode cX3_object 73 = .ok (.ifCond .ne 6, 3) := by decide +kernel
theorem dX3_object_76 : decode cX3_object 76 = .ok (.ldc 98, 2) := by decide +kernel
theorem dX3_object_78 : decode cX3_object 78 = .ok (.ireturn, 1) := by decide +kernel
theorem dX3_object_79 : decode cX3_object 79 = .ok (.iload_n 3, 1) := by decide +kernel
theorem dX3_object_80 : decode cX3_object 80 = .ok (.tableswitch 84 0 5 #[40, 54, 60, 66, 72, 78], 40) := by decide +kernel
theorem dX3_object_120 : decode cX3_object 120 = .ok (.aload 5, 2) := by decide +kernel
theorem dX3_object_122 : decode cX3_object 122 = .ok (.getfield 229, 3) := by decide +kernel
theorem dX3_object_125 : decode cX3_object 125 = .ok (.ifCond .eq 7, 3) := by decide +kernel
theorem dX3_object_128 : decode cX3_object 128 = .ok (.iconst 1, 1) := by decide +kernel
theorem dX3_object_129 : decode cX3_object 129 = .ok (.goto 4, 3) := by decide +kernel
theorem dX3_object_132 : decode cX3_object 132 = .ok (.iconst 0, 1) := by decide +kernel
theorem dX3_object_133 : decode cX3_object 133 = .ok (.ireturn, 1) := by decide +kernel
theorem dX3_object_134 : decode cX3_object 134 = .ok (.aload 5, 2) := by decide +kernel
theorem dX3_object_136 : decode cX3_object 136 = .ok (.getfield 232, 3) := by decide +kernel
theorem dX3_object_139 : decode cX3_object 139 = .ok (.ireturn, 1) := by decide +kernel
theorem dX3_object_140 : decode cX3_object 140 = .ok (.aload 5, 2) := by decide +kernel
theorem dX3_object_142 : decode cX3_object 142 = .ok (.getfield 233, 3) := by decide +kernel
theorem dX3_object_145 : decode cX3_object 145 = .ok (.ireturn, 1) := by decide +kernel
theorem dX3_object_146 : decode cX3_object 146 = .ok (.aload 5, 2) := by decide +kernel
theorem dX3_object_148 : decode cX3_object 148 = .ok (.getfield 194, 3) := by decide +kernel
theorem dX3_object_151 : decode cX3_object 151 = .ok (.ireturn, 1) := by decide +kernel
theorem dX3_object_152 : decode cX3_object 152 = .ok (.aload 5, 2) := by decide +kernel
theorem dX3_object_154 : decode cX3_object 154 = .ok (.getfield 219, 3) := by decide +kernel
theorem dX3_object_157 : decode cX3_object 157 = .ok (.ireturn, 1) := by decide +kernel
theorem dX3_object_158 : decode cX3_object 158 = .ok (.aload_n 0, 1) := by decide +kernel
theorem dX3_object_159 : decode cX3_object 159 = .ok (.iload_n 2, 1) := by decide +kernel
theorem dX3_object_160 : decode cX3_object 160 = .ok (.invokevirtual 181, 3) := by decide +kernel
theorem dX3_object_163 : decode cX3_object 163 = .ok (.ireturn, 1) := by decide +kernel
theorem dX3_object_164 : decode cX3_object 164 = .ok (.aload_n 0, 1) := by decide +kernel
theorem dX3_object_165 : decode cX3_object 165 = .ok (.iload_n 2, 1) := by decide +kernel
theorem dX3_object_166 : decode cX3_object 166 = .ok (.invokevirtual 184, 3) := by decide +kernel
theorem dX3_object_169 : decode cX3_object 169 = .ok (.ireturn, 1) := by decide +kernel
theorem dX3_list_0 : decode cX3_list 0 = .ok (.aload_n 0, 1) := by decide +kernel
theorem dX3_list_1 : decode cX3_list 1 = .ok (.iload_n 1, 1) := by decide +kernel
theorem dX3_list_2 : decode cX3_list 2 = .ok (.invokevirtual 47, 3) := by decide +kernel
theorem dX3_list_5 : decode cX3_list 5 = .ok (.astore 4, 2) := by decide +kernel
theorem dX3_list_7 : decode cX3_list 7 = .ok (.aload_n 0, 1) := by decide +kernel
theorem dX3_list_8 : decode cX3_list 8 = .ok (.iload_n 2, 1) := by decide +kernel
theorem dX3_list_9 : decode cX3_list 9 = .ok (.invokevirtual 173, 3) := by decide +kernel
theorem dX3_list_12 : decode cX3_list 12 = .ok (.astore 5, 2) := by decide +kernel
theorem dX3_list_14 : decode cX3_list 14 = .ok (.aload 4, 2) := by decide +kernel
theorem dX3_list_16 : decode cX3_list 16 = .ok (.ifnull 8, 3) := by decide +kernel
theorem dX3_list_19 : decode cX3_list 19 = .ok (.aload 5, 2) := by decide +kernel
theorem dX3_list_21 : decode cX3_list 21 = .ok (.ifnonnull 6, 3) := by decide +kernel
theorem dX3_list_24 : decode cX3_list 24 = .ok (.ldc 51, 2) := by decide +kernel
theorem dX3_list_26 : decode cX3_list 26 = .ok (.ireturn, 1) := by decide +kernel
theorem dX3_list_27 : decode cX3_list 27 = .ok (.aload 4, 2) := by decide +kernel
theorem dX3_list_29 : decode cX3_list 29 = .ok (.aload 5, 2) := by decide +kernel
theorem dX3_list_31 : decode cX3_list 31 = .ok (.invokestatic 197, 3) := by decide +kernel
theorem dX3_list_34 : decode cX3_list 34 = .ok (.ifCond .ne 6, 3) := by decide +kernel
theorem dX3_list_37 : decode cX3_list 37 = .ok (.ldc 98, 2) := by decide +kernel
theorem dX3_list_39 : decode cX3_list 39 = .ok (.ireturn, 1) := by decide +kernel
theorem dX3_list_40 : decode cX3_list 40 = .ok (.iconst 0, 1) := by decide +kernel
theorem dX3_list_41 : decode cX3_list 41 = .ok (.istore 6, 2) := by decide +kernel
theorem dX3_list_43 : decode cX3_list 43 = .ok (.iconst 0, 1) := by decide +kernel
theorem dX3_list_44 : decode cX3_list 44 = .ok (.istore 7, 2) := by decide +kernel
theorem dX3_list_46 : decode cX3_list 46 = .ok (.iload 7, 2) := by decide +kernel
theorem dX3_list_48 : decode cX3_list 48 = .ok (.aload_n 0, 1) := by decide +kernel
theorem dX3_list_49 : decode cX3_list 49 = .ok (.getfield 41, 3) := by decide +kernel
theorem dX3_list_52 : decode cX3_list 52 = .ok (.if_icmp .ge 31, 3) := by decide +kernel
theorem dX3_list_55 : decode cX3_list 55 = .ok (.aload_n 0, 1) := by decide +kernel
theorem dX3_list_56 : decode cX3_list 56 = .ok (.iload 7, 2) := by decide +kernel
theorem dX3_list_58 : decode cX3_list 58 = .ok (.iload_n 2, 1) := by decide +kernel
theorem dX3_list_59 : decode cX3_list 59 = .ok (.invokevirtual 234, 3) := by decide +kernel
theorem dX3_list_62 : decode cX3_list 62 = .ok (.ifCond .eq 15, 3) := by decide +kernel
theorem dX3_list_65 : decode cX3_list 65 = .ok (.iload 6, 2) := by decide +kernel
theorem dX3_list_67 : decode cX3_list 67 = .ok (.iload_n 3, 1) := by decide +kernel
theorem dX3_list_68 : decode cX3_list 68 = .ok (.if_icmp .ne 6, 3) := by decide +kernel
theorem dX3_list_71 : decode cX3_list 71 = .ok (.iload 7, 2) := by decide +kernel
theorem dX3_list_73 : decode cX3_list 73 = .ok (.ireturn, 1) := by decide +kernel
theorem dX3_list_74 : decode cX3_list 74 = .ok (.iinc 6 1, 3) := by decide +kernel
theorem dX3_list_77 : decode cX3_list 77 = .ok (.iinc 7 1, 3) := by decide +kernel
theorem dX3_list_80 : decode cX3_list 80 = .ok (.goto (-34), 3) := by decide +kernel
theorem dX3_list_83 : decode cX3_list 83 = .ok (.iconst (-1), 1) := by decide +kernel
theorem dX3_list_84 : decode cX3_list 84 = .ok (.ireturn, 1) := by decide +kernel
theorem dX3_crash_0 : decode cX3_crash 0 = .ok (.iload_n 1, 1) := by decide +kernel
theorem dX3_crash_1 : decode cX3_crash 1 = .ok (.iconst (-1), 1) := by decide +kernel
theorem dX3_crash_2 : decode cX3_crash 2 = .ok (.if_icmp .lt 9, 3) := by decide +kernel
theorem dX3_crash_5 : decode cX3_crash 5 = .ok (.iload_n 1, 1) := by decide +kernel
theorem dX3_crash_6 : decode cX3_crash 6 = .ok (.bipush 100, 2) := by decide +kernel
theorem dX3_crash_8 : decode cX3_crash 8 = .ok (.if_icmp .le 6, 3) := by decide +kernel
theorem dX3_crash_11 : decode cX3_crash 11 = .ok (.ldc 52, 2) := by decide +kernel
theorem dX3_crash_13 : decode cX3_crash 13 = .ok (.ireturn, 1) := by decide +kernel
theorem dX3_crash_14 : decode cX3_crash 14 = .ok (.aload_n 0, 1) := by decide +kernel
theorem dX3_crash_15 : decode cX3_crash 15 = .ok (.iload_n 1, 1) := by decide +kernel
theorem dX3_crash_16 : decode cX3_crash 16 = .ok (.putfield 44, 3) := by decide +kernel
theorem dX3_crash_19 : decode cX3_crash 19 = .ok (.iconst 1, 1) := by decide +kernel
theorem dX3_crash_20 : decode cX3_crash 20 = .ok (.ireturn, 1) := by decide +kernel
theorem dX3_count_0 : decode cX3_count 0 = .ok (.iload_n 1, 1) := by decide +kernel
theorem dX3_count_1 : decode cX3_count 1 = .ok (.tableswitch 78 0 6 #[43, 48, 53, 58, 63, 68, 73], 43) := by decide +kernel
theorem dX3_count_44 : decode cX3_count 44 = .ok (.aload_n 0, 1) := by decide +kernel
theorem dX3_count_45 : decode cX3_count 45 = .ok (.getfield 53, 3) := by decide +kernel
theorem dX3_count_48 : decode cX3_count 48 = .ok (.ireturn, 1) := by decide +kernel
theorem dX3_count_49 : decode cX3_count 49 = .ok (.aload_n 0, 1) := by decide +kernel
theorem dX3_count_50 : decode cX3_count 50 = .ok (.invokevirtual 237, 3) := by decide +kernel
theorem dX3_count_53 : decode cX3_count 53 = .ok (.ireturn, 1) := by decide +kernel
theorem dX3_count_54 : decode cX3_count 54 = .ok (.aload_n 0, 1) := by decide +kernel
theorem dX3_count_55 : decode cX3_count 55 = .ok (.invokevirtual 241, 3) := by decide +kernel
theorem dX3_count_58 : decode cX3_count 58 = .ok (.ireturn, 1) := by decide +kernel
theorem dX3_count_59 : decode cX3_count 59 = .ok (.aload_n 0, 1) := by decide +kernel
theorem dX3_count_60 : decode cX3_count 60 = .ok (.invokevirtual 244, 3) := by decide +kernel
theorem dX3_count_63 : decode cX3_count 63 = .ok (.ireturn, 1) := by decide +kernel
theorem dX3_count_64 : decode cX3_count 64 = .ok (.aload_n 0, 1) := by decide +kernel
theorem dX3_count_65 : decode cX3_count 65 = .ok (.getfield 247, 3) := by decide +kernel
theorem dX3_count_68 : decode cX3_count 68 = .ok (.ireturn, 1) := by decide +kernel
theorem dX3_count_69 : decode cX3_count 69 = .ok (.aload_n 0, 1) := by decide +kernel
theorem dX3_count_70 : decode cX3_count 70 = .ok (.getfield 250, 3) := by decide +kernel
theorem dX3_count_73 : decode cX3_count 73 = .ok (.ireturn, 1) := by decide +kernel
theorem dX3_count_74 : decode cX3_count 74 = .ok (.aload_n 0, 1) := by decide +kernel
theorem dX3_count_75 : decode cX3_count 75 = .ok (.getfield 145, 3) := by decide +kernel
theorem dX3_count_78 : decode cX3_count 78 = .ok (.ireturn, 1) := by decide +kernel
theorem dX3_count_79 : decode cX3_count 79 = .ok (.ldc 52, 2) := by decide +kernel
theorem dX3_count_81 : decode cX3_count 81 = .ok (.ireturn, 1) := by decide +kernel
theorem dX3_isWithin_0 : decode cX3_isWithin 0 = .ok (.iload_n 0, 1) := by decide +kernel
theorem dX3_isWithin_1 : decode cX3_isWithin 1 = .ok (.iload_n 1, 1) := by decide +kernel
theorem dX3_isWithin_2 : decode cX3_isWithin 2 = .ok (.iconst (-1), 1) := by decide +kernel
theorem dX3_isWithin_3 : decode cX3_isWithin 3 = .ok (.ixor, 1) := by decide +kernel
theorem dX3_isWithin_4 : decode cX3_isWithin 4 = .ok (.iand, 1) := by decide +kernel
theorem dX3_isWithin_5 : decode cX3_isWithin 5 = .ok (.ifCond .ne 7, 3) := by decide +kernel
theorem dX3_isWithin_8 : decode cX3_isWithin 8 = .ok (.iconst 1, 1) := by decide +kernel
theorem dX3_isWithin_9 : decode cX3_isWithin 9 = .ok (.goto 4, 3) := by decide +kernel
theorem dX3_isWithin_12 : decode cX3_isWithin 12 = .ok (.iconst 0, 1) := by decide +kernel
theorem dX3_isWithin_13 : decode cX3_isWithin 13 = .ok (.ireturn, 1) := by decide +kernel
theorem dX3_flows_0 : decode cX3_flows 0 = .ok (.iload_n 0, 1) := by decide +kernel
theorem dX3_flows_1 : decode cX3_flows 1 = .ok (.iload_n 2, 1) := by decide +kernel
theorem dX3_flows_2 : decode cX3_flows 2 = .ok (.invokestatic 110, 3) := by decide +kernel
theorem dX3_flows_5 : decode cX3_flows 5 = .ok (.ifCond .eq 15, 3) := by decide +kernel
theorem dX3_flows_8 : decode cX3_flows 8 = .ok (.iload_n 3, 1) := by decide +kernel
theorem dX3_flows_9 : decode cX3_flows 9 = .ok (.iload_n 1, 1) := by decide +kernel
theorem dX3_flows_10 : decode cX3_flows 10 = .ok (.invokestatic 110, 3) := by decide +kernel
theorem dX3_flows_13 : decode cX3_flows 13 = .ok (.ifCond .eq 7, 3) := by decide +kernel
theorem dX3_flows_16 : decode cX3_flows 16 = .ok (.iconst 1, 1) := by decide +kernel
theorem dX3_flows_17 : decode cX3_flows 17 = .ok (.goto 4, 3) := by decide +kernel
theorem dX3_flows_20 : decode cX3_flows 20 = .ok (.iconst 0, 1) := by decide +kernel
theorem dX3_flows_21 : decode cX3_flows 21 = .ok (.ireturn, 1) := by decide +kernel
theorem dX3_isSet_0 : decode cX3_isSet 0 = .ok (.iload_n 1, 1) := by decide +kernel
theorem dX3_isSet_1 : decode cX3_isSet 1 = .ok (.aload_n 0, 1) := by decide +kernel
theorem dX3_isSet_2 : decode cX3_isSet 2 = .ok (.getfield 53, 3) := by decide +kernel
theorem dX3_isSet_5 : decode cX3_isSet 5 = .ok (.iushr, 1) := by decide +kernel
theorem dX3_isSet_6 : decode cX3_isSet 6 = .ok (.ifCond .ne 7, 3) := by decide +kernel
theorem dX3_isSet_9 : decode cX3_isSet 9 = .ok (.iconst 1, 1) := by decide +kernel
theorem dX3_isSet_10 : decode cX3_isSet 10 = .ok (.goto 4, 3) := by decide +kernel
theorem dX3_isSet_13 : decode cX3_isSet 13 = .ok (.iconst 0, 1) := by decide +kernel
theorem dX3_isSet_14 : decode cX3_isSet 14 = .ok (.ireturn, 1) := by decide +kernel
theorem dX3_both_0 : decode cX3_both 0 = .ok (.iload_n 1, 1) := by decide +kernel
theorem dX3_both_1 : decode cX3_both 1 = .ok (.aload_n 0, 1) := by decide +kernel
theorem dX3_both_2 : decode cX3_both 2 = .ok (.getfield 57, 3) := by decide +kernel
theorem dX3_both_5 : decode cX3_both 5 = .ok (.ior, 1) := by decide +kernel
theorem dX3_both_6 : decode cX3_both 6 = .ok (.iload_n 2, 1) := by decide +kernel
theorem dX3_both_7 : decode cX3_both 7 = .ok (.aload_n 0, 1) := by decide +kernel
theorem dX3_both_8 : decode cX3_both 8 = .ok (.getfield 63, 3) := by decide +kernel
theorem dX3_both_11 : decode cX3_both 11 = .ok (.ior, 1) := by decide +kernel
theorem dX3_both_12 : decode cX3_both 12 = .ok (.iand, 1) := by decide +kernel
theorem dX3_both_13 : decode cX3_both 13 = .ok (.ireturn, 1) := by decide +kernel
theorem dX3_isSafe_0 : decode cX3_isSafe 0 = .ok (.iload_n 3, 1) := by decide +kernel
theorem dX3_isSafe_1 : decode cX3_isSafe 1 = .ok (.iload_n 2, 1) := by decide +kernel
theorem dX3_isSafe_2 : decode cX3_isSafe 2 = .ok (.iconst (-1), 1) := by decide +kernel
theorem dX3_isSafe_3 : decode cX3_isSafe 3 = .ok (.ixor, 1) := by decide +kernel
theorem dX3_isSafe_4 : decode cX3_isSafe 4 = .ok (.iand, 1) := by decide +kernel
theorem dX3_isSafe_5 : decode cX3_isSafe 5 = .ok (.aload_n 1, 1) := by decide +kernel
theorem dX3_isSafe_6 : decode cX3_isSafe 6 = .ok (.getfield 60, 3) := by decide +kernel
theorem dX3_isSafe_9 : decode cX3_isSafe 9 = .ok (.aload_n 0, 1) := by decide +kernel
theorem dX3_isSafe_10 : decode cX3_isSafe 10 = .ok (.getfield 57, 3) := by decide +kernel
theorem dX3_isSafe_13 : decode cX3_isSafe 13 = .ok (.ior, 1) := by decide +kernel
theorem dX3_isSafe_14 : decode cX3_isSafe 14 = .ok (.invokestatic 110, 3) := by decide +kernel
theorem dX3_isSafe_17 : decode cX3_isSafe 17 = .ok (.ifCond .eq 27, 3) := by decide +kernel
theorem dX3_isSafe_20 : decode cX3_isSafe 20 = .ok (.iload_n 2, 1) := by decide +kernel
theorem dX3_isSafe_21 : decode cX3_isSafe 21 = .ok (.iload_n 3, 1) := by decide +kernel
theorem dX3_isSafe_22 : decode cX3_isSafe 22 = .ok (.iconst (-1), 1) := by decide +kernel
theorem dX3_isSafe_23 : decode cX3_isSafe 23 = .ok (.ixor, 1) := by decide +kernel
theorem dX3_isSafe_24 : decode cX3_isSafe 24 = .ok (.iand, 1) := by decide +kernel
theorem dX3_isSafe_25 : decode cX3_isSafe 25 = .ok (.aload_n 1, 1) := by decide +kernel
theorem dX3_isSafe_26 : decode cX3_isSafe 26 = .ok (.getfield 66, 3) := by decide +kernel
theorem dX3_isSafe_29 : decode cX3_isSafe 29 = .ok (.aload_n 0, 1) := by decide +kernel
theorem dX3_isSafe_30 : decode cX3_isSafe 30 = .ok (.getfield 63, 3) := by decide +kernel
theorem dX3_isSafe_33 : decode cX3_isSafe 33 = .ok (.ior, 1) := by decide +kernel
theorem dX3_isSafe_34 : decode cX3_isSafe 34 = .ok (.invokestatic 110, 3) := by decide +kernel
theorem dX3_isSafe_37 : decode cX3_isSafe 37 = .ok (.ifCond .eq 7, 3) := by decide +kernel
theorem dX3_isSafe_40 : decode cX3_isSafe 40 = .ok (.iconst 1, 1) := by decide +kernel
theorem dX3_isSafe_41 : decode cX3_isSafe 41 = .ok (.goto 4, 3) := by decide +kernel
theorem dX3_isSafe_44 : decode cX3_isSafe 44 = .ok (.iconst 0, 1) := by decide +kernel
theorem dX3_isSafe_45 : decode cX3_isSafe 45 = .ok (.ireturn, 1) := by decide +kernel
theorem dX3_owns_0 : decode cX3_owns 0 = .ok (.iload_n 1, 1) := by decide +kernel
theorem dX3_owns_1 : decode cX3_owns 1 = .ok (.aload_n 0, 1) := by decide +kernel
theorem dX3_owns_2 : decode cX3_owns 2 = .ok (.getfield 60, 3) := by decide +kernel
theorem dX3_owns_5 : decode cX3_owns 5 = .ok (.invokestatic 110, 3) := by decide +kernel
theorem dX3_owns_8 : decode cX3_owns 8 = .ok (.ifCond .eq 18, 3) := by decide +kernel
theorem dX3_owns_11 : decode cX3_owns 11 = .ok (.iload_n 2, 1) := by decide +kernel
theorem dX3_owns_12 : decode cX3_owns 12 = .ok (.aload_n 0, 1) := by decide +kernel
theorem dX3_owns_13 : decode cX3_owns 13 = .ok (.getfield 66, 3) := by decide +kernel
theorem dX3_owns_16 : decode cX3_owns 16 = .ok (.invokestatic 110, 3) := by decide +kernel
theorem dX3_owns_19 : decode cX3_owns 19 = .ok (.ifCond .eq 7, 3) := by decide +kernel
theorem dX3_owns_22 : decode cX3_owns 22 = .ok (.iconst 1, 1) := by decide +kernel
theorem dX3_owns_23 : decode cX3_owns 23 = .ok (.goto 4, 3) := by decide +kernel
theorem dX3_owns_26 : decode cX3_owns 26 = .ok (.iconst 0, 1) := by decide +kernel
theorem dX3_owns_27 : decode cX3_owns 27 = .ok (.ireturn, 1) := by decide +kernel
theorem dX3_canRead_0 : decode cX3_canRead 0 = .ok (.aload_n 1, 1) := by decide +kernel
theorem dX3_canRead_1 : decode cX3_canRead 1 = .ok (.getfield 232, 3) := by decide +kernel
theorem dX3_canRead_4 : decode cX3_canRead 4 = .ok (.aload_n 1, 1) := by decide +kernel
theorem dX3_canRead_5 : decode cX3_canRead 5 = .ok (.getfield 233, 3) := by decide +kernel
theorem dX3_canRead_8 : decode cX3_canRead 8 = .ok (.aload_n 0, 1) := by decide +kernel
theorem dX3_canRead_9 : decode cX3_canRead 9 = .ok (.getfield 69, 3) := by decide +kernel
theorem dX3_canRead_12 : decode cX3_canRead 12 = .ok (.aload_n 0, 1) := by decide +kernel
theorem dX3_canRead_13 : decode cX3_canRead 13 = .ok (.getfield 72, 3) := by decide +kernel
theorem dX3_canRead_16 : decode cX3_canRead 16 = .ok (.invokestatic 139, 3) := by decide +kernel
theorem dX3_canRead_19 : decode cX3_canRead 19 = .ok (.ireturn, 1) := by decide +kernel
theorem dX3_canWrite_0 : decode cX3_canWrite 0 = .ok (.aload_n 0, 1) := by decide +kernel
theorem dX3_canWrite_1 : decode cX3_canWrite 1 = .ok (.getfield 69, 3) := by decide +kernel
theorem dX3_canWrite_4 : decode cX3_canWrite 4 = .ok (.aload_n 0, 1) := by decide +kernel
theorem dX3_canWrite_5 : decode cX3_canWrite 5 = .ok (.getfield 72, 3) := by decide +kernel
theorem dX3_canWrite_8 : decode cX3_canWrite 8 = .ok (.aload_n 1, 1) := by decide +kernel
theorem dX3_canWrite_9 : decode cX3_canWrite 9 = .ok (.getfield 232, 3) := by decide +kernel
theorem dX3_canWrite_12 : decode cX3_canWrite 12 = .ok (.aload_n 1, 1) := by decide +kernel
theorem dX3_canWrite_13 : decode cX3_canWrite 13 = .ok (.getfield 233, 3) := by decide +kernel
theorem dX3_canWrite_16 : decode cX3_canWrite 16 = .ok (.invokestatic 139, 3) := by decide +kernel
theorem dX3_canWrite_19 : decode cX3_canWrite 19 = .ok (.ireturn, 1) := by decide +kernel
theorem dX3_processAt_0 : decode cX3_processAt 0 = .ok (.iload_n 1, 1) := by decide +kernel
theorem dX3_processAt_1 : decode cX3_processAt 1 = .ok (.ifCond .lt 24, 3) := by decide +kernel
theorem dX3_processAt_4 : decode cX3_processAt 4 = .ok (.iload_n 1, 1) := by decide +kernel
theorem dX3_processAt_5 : decode cX3_processAt 5 = .ok (.aload_n 0, 1) := by decide +kernel
theorem dX3_processAt_6 : decode cX3_processAt 6 = .ok (.getfield 11, 3) := by decide +kernel
theorem dX3_processAt_9 : decode cX3_processAt 9 = .ok (.arraylength, 1) := by decide +kernel
theorem dX3_processAt_10 : decode cX3_processAt 10 = .ok (.if_icmp .ge 15, 3) := by decide +kernel
theorem dX3_processAt_13 : decode cX3_processAt 13 = .ok (.aload_n 0, 1) := by decide +kernel
theorem dX3_processAt_14 : decode cX3_processAt 14 = .ok (.getfield 11, 3) := by decide +kernel
theorem dX3_processAt_17 : decode cX3_processAt 17 = .ok (.iload_n 1, 1) := by decide +kernel
theorem dX3_processAt_18 : decode cX3_processAt 18 = .ok (.aaload, 1) := by decide +kernel
theorem dX3_processAt_19 : decode cX3_processAt 19 = .ok (.getfield 102, 3) := by decide +kernel
theorem dX3_processAt_22 : decode cX3_processAt 22 = .ok (.ifCond .ne 5, 3) := by decide +kernel
theorem dX3_processAt_25 : decode cX3_processAt 25 = .ok (.aconst_null, 1) := by decide +kernel
theorem dX3_processAt_26 : decode cX3_processAt 26 = .ok (.areturn, 1) := by decide +kernel
theorem dX3_processAt_27 : decode cX3_processAt 27 = .ok (.aload_n 0, 1) := by decide +kernel
theorem dX3_processAt_28 : decode cX3_processAt 28 = .ok (.getfield 11, 3) := by decide +kernel
theorem dX3_processAt_31 : decode cX3_processAt 31 = .ok (.iload_n 1, 1) := by decide +kernel
theorem dX3_processAt_32 : decode cX3_processAt 32 = .ok (.aaload, 1) := by decide +kernel
theorem dX3_processAt_33 : decode cX3_processAt 33 = .ok (.areturn, 1) := by decide +kernel
theorem dX3_endpointAt_0 : decode cX3_endpointAt 0 = .ok (.iload_n 1, 1) := by decide +kernel
theorem dX3_endpointAt_1 : decode cX3_endpointAt 1 = .ok (.ifCond .lt 24, 3) := by decide +kernel
theorem dX3_endpointAt_4 : decode cX3_endpointAt 4 = .ok (.iload_n 1, 1) := by decide +kernel
theorem dX3_endpointAt_5 : decode cX3_endpointAt 5 = .ok (.aload_n 0, 1) := by decide +kernel
theorem dX3_endpointAt_6 : decode cX3_endpointAt 6 = .ok (.getfield 18, 3) := by decide +kernel
theorem dX3_endpointAt_9 : decode cX3_endpointAt 9 = .ok (.arraylength, 1) := by decide +kernel
theorem dX3_endpointAt_10 : decode cX3_endpointAt 10 = .ok (.if_icmp .ge 15, 3) := by decide +kernel
theorem dX3_endpointAt_13 : decode cX3_endpointAt 13 = .ok (.aload_n 0, 1) := by decide +kernel
theorem dX3_endpointAt_14 : decode cX3_endpointAt 14 = .ok (.getfield 18, 3) := by decide +kernel
theorem dX3_endpointAt_17 : decode cX3_endpointAt 17 = .ok (.iload_n 1, 1) := by decide +kernel
theorem dX3_endpointAt_18 : decode cX3_endpointAt 18 = .ok (.aaload, 1) := by decide +kernel
theorem dX3_endpointAt_19 : decode cX3_endpointAt 19 = .ok (.getfield 127, 3) := by decide +kernel
theorem dX3_endpointAt_22 : decode cX3_endpointAt 22 = .ok (.ifCond .ne 5, 3) := by decide +kernel
theorem dX3_endpointAt_25 : decode cX3_endpointAt 25 = .ok (.aconst_null, 1) := by decide +kernel
theorem dX3_endpointAt_26 : decode cX3_endpointAt 26 = .ok (.areturn, 1) := by decide +kernel
theorem dX3_endpointAt_27 : decode cX3_endpointAt 27 = .ok (.aload_n 0, 1) := by decide +kernel
theorem dX3_endpointAt_28 : decode cX3_endpointAt 28 = .ok (.getfield 18, 3) := by decide +kernel
theorem dX3_endpointAt_31 : decode cX3_endpointAt 31 = .ok (.iload_n 1, 1) := by decide +kernel
theorem dX3_endpointAt_32 : decode cX3_endpointAt 32 = .ok (.aaload, 1) := by decide +kernel
theorem dX3_endpointAt_33 : decode cX3_endpointAt 33 = .ok (.areturn, 1) := by decide +kernel
theorem dX3_openEndpointsOf_0 : decode cX3_openEndpointsOf 0 = .ok (.iconst 0, 1) := by decide +kernel
theorem dX3_openEndpointsOf_1 : decode cX3_openEndpointsOf 1 = .ok (.istore_n 2, 1) := by decide +kernel
theorem dX3_openEndpointsOf_2 : decode cX3_openEndpointsOf 2 = .ok (.iconst 0, 1) := by decide +kernel
theorem dX3_openEndpointsOf_3 : decode cX3_openEndpointsOf 3 = .ok (.istore_n 3, 1) := by decide +kernel
theorem dX3_openEndpointsOf_4 : decode cX3_openEndpointsOf 4 = .ok (.iload_n 3, 1) := by decide +kernel
theorem dX3_openEndpointsOf_5 : decode cX3_openEndpointsOf 5 = .ok (.aload_n 0, 1) := by decide +kernel
theorem dX3_openEndpointsOf_6 : decode cX3_openEndpointsOf 6 = .ok (.getfield 18, 3) := by decide +kernel
theorem dX3_openEndpointsOf_9 : decode cX3_openEndpointsOf 9 = .ok (.arraylength, 1) := by decide +kernel
theorem dX3_openEndpointsOf_10 : decode cX3_openEndpointsOf 10 = .ok (.if_icmp .ge 37, 3) := by decide +kernel
theorem dX3_openEndpointsOf_13 : decode cX3_openEndpointsOf 13 = .ok (.aload_n 0, 1) := by decide +kernel
theorem dX3_openEndpointsOf_14 : decode cX3_openEndpointsOf 14 = .ok (.getfield 18, 3) := by decide +kernel
theorem dX3_openEndpointsOf_17 : decode cX3_openEndpointsOf 17 = .ok (.iload_n 3, 1) := by decide +kernel
theorem dX3_openEndpointsOf_18 : decode cX3_openEndpointsOf 18 = .ok (.aaload, 1) := by decide +kernel
theorem dX3_openEndpointsOf_19 : decode cX3_openEndpointsOf 19 = .ok (.getfield 127, 3) := by decide +kernel
theorem dX3_openEndpointsOf_22 : decode cX3_openEndpointsOf 22 = .ok (.ifCond .eq 19, 3) := by decide +kernel
theorem dX3_openEndpointsOf_25 : decode cX3_openEndpointsOf 25 = .ok (.aload_n 0, 1) := by decide +kernel
theorem dX3_openEndpointsOf_26 : decode cX3_openEndpointsOf 26 = .ok (.getfield 18, 3) := by decide +kernel
theorem dX3_openEndpointsOf_29 : decode cX3_openEndpointsOf 29 = .ok (.iload_n 3, 1) := by decide +kernel
theorem dX3_openEndpointsOf_30 : decode cX3_openEndpointsOf 30 = .ok (.aaload, 1) := by decide +kernel
theorem dX3_openEndpointsOf_31 : decode cX3_openEndpointsOf 31 = .ok (.getfield 124, 3) := by decide +kernel
theorem dX3_openEndpointsOf_34 : decode cX3_openEndpointsOf 34 = .ok (.iload_n 1, 1) := by decide +kernel
theorem dX3_openEndpointsOf_35 : decode cX3_openEndpointsOf 35 = .ok (.if_icmp .ne 6, 3) := by decide +kernel
theorem dX3_openEndpointsOf_38 : decode cX3_openEndpointsOf 38 = .ok (.iinc 2 1, 3) := by decide +kernel
theorem dX3_openEndpointsOf_41 : decode cX3_openEndpointsOf 41 = .ok (.iinc 3 1, 3) := by decide +kernel
theorem dX3_openEndpointsOf_44 : decode cX3_openEndpointsOf 44 = .ok (.goto (-40), 3) := by decide +kernel
theorem dX3_openEndpointsOf_47 : decode cX3_openEndpointsOf 47 = .ok (.iload_n 2, 1) := by decide +kernel
theorem dX3_openEndpointsOf_48 : decode cX3_openEndpointsOf 48 = .ok (.ireturn, 1) := by decide +kernel
theorem dX3_closeEndpointsOf_0 : decode cX3_closeEndpointsOf 0 = .ok (.iconst 0, 1) := by decide +kernel
theorem dX3_closeEndpointsOf_1 : decode cX3_closeEndpointsOf 1 = .ok (.istore_n 2, 1) := by decide +kernel
theorem dX3_closeEndpointsOf_2 : decode cX3_closeEndpointsOf 2 = .ok (.iload_n 2, 1) := by decide +kernel
theorem dX3_closeEndpointsOf_3 : decode cX3_closeEndpointsOf 3 = .ok (.aload_n 0, 1) := by decide +kernel
theorem dX3_closeEndpointsOf_4 : decode cX3_closeEndpointsOf 4 = .ok (.getfield 18, 3) := by decide +kernel
theorem dX3_closeEndpointsOf_7 : decode cX3_closeEndpointsOf 7 = .ok (.arraylength, 1) := by decide +kernel
theorem dX3_closeEndpointsOf_8 : decode cX3_closeEndpointsOf 8 = .ok (.if_icmp .ge 32, 3) := by decide +kernel
theorem dX3_closeEndpointsOf_11 : decode cX3_closeEndpointsOf 11 = .ok (.aload_n 0, 1) := by decide +kernel
theorem dX3_closeEndpointsOf_12 : decode cX3_closeEndpointsOf 12 = .ok (.getfield 18, 3) := by decide +kernel
theorem dX3_closeEndpointsOf_15 : decode cX3_closeEndpointsOf 15 = .ok (.iload_n 2, 1) := by decide +kernel
theorem dX3_closeEndpointsOf_16 : decode cX3_closeEndpointsOf 16 = .ok (.aaload, 1) := by decide +kernel
theorem dX3_closeEndpointsOf_17 : decode cX3_closeEndpointsOf 17 = .ok (.getfield 124, 3) := by decide +kernel
theorem dX3_closeEndpointsOf_20 : decode cX3_closeEndpointsOf 20 = .ok (.iload_n 1, 1) := by decide +kernel
theorem dX3_closeEndpointsOf_21 : decode cX3_closeEndpointsOf 21 = .ok (.if_icmp .ne 13, 3) := by decide +kernel
theorem dX3_closeEndpointsOf_24 : decode cX3_closeEndpointsOf 24 = .ok (.aload_n 0, 1) := by decide +kernel
theorem dX3_closeEndpointsOf_25 : decode cX3_closeEndpointsOf 25 = .ok (.getfield 18, 3) := by decide +kernel
theorem dX3_closeEndpointsOf_28 : decode cX3_closeEndpointsOf 28 = .ok (.iload_n 2, 1) := by decide +kernel
theorem dX3_closeEndpointsOf_29 : decode cX3_closeEndpointsOf 29 = .ok (.aaload, 1) := by decide +kernel
theorem dX3_closeEndpointsOf_30 : decode cX3_closeEndpointsOf 30 = .ok (.iconst 0, 1) := by decide +kernel
theorem dX3_closeEndpointsOf_31 : decode cX3_closeEndpointsOf 31 = .ok (.putfield 127, 3) := by decide +kernel
theorem dX3_closeEndpointsOf_34 : decode cX3_closeEndpointsOf 34 = .ok (.iinc 2 1, 3) := by decide +kernel
theorem dX3_closeEndpointsOf_37 : decode cX3_closeEndpointsOf 37 = .ok (.goto (-35), 3) := by decide +kernel
theorem dX3_closeEndpointsOf_40 : decode cX3_closeEndpointsOf 40 = .ok (.return_, 1) := by decide +kernel
theorem dX3_endpointsFit_0 : decode cX3_endpointsFit 0 = .ok (.iconst 0, 1) := by decide +kernel
theorem dX3_endpointsFit_1 : decode cX3_endpointsFit 1 = .ok (.istore 5, 2) := by decide +kernel
theorem dX3_endpointsFit_3 : decode cX3_endpointsFit 3 = .ok (.iload 5, 2) := by decide +kernel
theorem dX3_endpointsFit_5 : decode cX3_endpointsFit 5 = .ok (.aload_n 0, 1) := by decide +kernel
theorem dX3_endpointsFit_6 : decode cX3_endpointsFit 6 = .ok (.getfield 18, 3) := by decide +kernel
theorem dX3_endpointsFit_9 : decode cX3_endpointsFit 9 = .ok (.arraylength, 1) := by decide +kernel
theorem dX3_endpointsFit_10 : decode cX3_endpointsFit 10 = .ok (.if_icmp .ge 64, 3) := by decide +kernel
theorem dX3_endpointsFit_13 : decode cX3_endpointsFit 13 = .ok (.aload_n 0, 1) := by decide +kernel
theorem dX3_endpointsFit_14 : decode cX3_endpointsFit 14 = .ok (.getfield 18, 3) := by decide +kernel
theorem dX3_endpointsFit_17 : decode cX3_endpointsFit 17 = .ok (.iload 5, 2) := by decide +kernel
theorem dX3_endpointsFit_19 : decode cX3_endpointsFit 19 = .ok (.aaload, 1) := by decide +kernel
theorem dX3_endpointsFit_20 : decode cX3_endpointsFit 20 = .ok (.astore 6, 2) := by decide +kernel
theorem dX3_endpointsFit_22 : decode cX3_endpointsFit 22 = .ok (.aload 6, 2) := by decide +kernel
theorem dX3_endpointsFit_24 : decode cX3_endpointsFit 24 = .ok (.getfield 133, 3) := by decide +kernel
theorem dX3_endpointsFit_27 : decode cX3_endpointsFit 27 = .ok (.iload_n 2, 1) := by decide +kernel
theorem dX3_endpointsFit_28 : decode cX3_endpointsFit 28 = .ok (.ixor, 1) := by decide +kernel
theorem dX3_endpointsFit_29 : decode cX3_endpointsFit 29 = .ok (.aload 6, 2) := by decide +kernel
theorem dX3_endpointsFit_31 : decode cX3_endpointsFit 31 = .ok (.getfield 134, 3) := by decide +kernel
theorem dX3_endpointsFit_34 : decode cX3_endpointsFit 34 = .ok (.iload_n 3, 1) := by decide +kernel
theorem dX3_endpointsFit_35 : decode cX3_endpointsFit 35 = .ok (.ixor, 1) := by decide +kernel
theorem dX3_endpointsFit_36 : decode cX3_endpointsFit 36 = .ok (.ior, 1) := by decide +kernel
theorem dX3_endpointsFit_37 : decode cX3_endpointsFit 37 = .ok (.istore 7, 2) := by decide +kernel
theorem dX3_endpointsFit_39 : decode cX3_endpointsFit 39 = .ok (.aload 6, 2) := by decide +kernel
theorem dX3_endpointsFit_41 : decode cX3_endpointsFit 41 = .ok (.getfield 127, 3) := by decide +kernel
theorem dX3_endpointsFit_44 : decode cX3_endpointsFit 44 = .ok (.ifCond .eq 24, 3) := by decide +kernel
theorem dX3_endpointsFit_47 : decode cX3_endpointsFit 47 = .ok (.aload 6, 2) := by decide +kernel
theorem dX3_endpointsFit_49 : decode cX3_endpointsFit 49 = .ok (.getfield 124, 3) := by decide +kernel
theorem dX3_endpointsFit_52 : decode cX3_endpointsFit 52 = .ok (.iload_n 1, 1) := by decide +kernel
theorem dX3_endpointsFit_53 : decode cX3_endpointsFit 53 = .ok (.if_icmp .ne 15, 3) := by decide +kernel
theorem dX3_endpointsFit_56 : decode cX3_endpointsFit 56 = .ok (.iload 7, 2) := by decide +kernel
theorem dX3_endpointsFit_58 : decode cX3_endpointsFit 58 = .ok (.iload 4, 2) := by decide +kernel
theorem dX3_endpointsFit_60 : decode cX3_endpointsFit 60 = .ok (.invokestatic 110, 3) := by decide +kernel
theorem dX3_endpointsFit_63 : decode cX3_endpointsFit 63 = .ok (.ifCond .ne 5, 3) := by decide +kernel
theorem dX3_endpointsFit_66 : decode cX3_endpointsFit 66 = .ok (.iconst 0, 1) := by decide +kernel
theorem dX3_endpointsFit_67 : decode cX3_endpointsFit 67 = .ok (.ireturn, 1) := by decide +kernel
theorem dX3_endpointsFit_68 : decode cX3_endpointsFit 68 = .ok (.iinc 5 1, 3) := by decide +kernel
theorem dX3_endpointsFit_71 : decode cX3_endpointsFit 71 = .ok (.goto (-68), 3) := by decide +kernel
theorem dX3_endpointsFit_74 : decode cX3_endpointsFit 74 = .ok (.iconst 1, 1) := by decide +kernel
theorem dX3_endpointsFit_75 : decode cX3_endpointsFit 75 = .ok (.ireturn, 1) := by decide +kernel
theorem dX3_livingProcesses_0 : decode cX3_livingProcesses 0 = .ok (.iconst 0, 1) := by decide +kernel
theorem dX3_livingProcesses_1 : decode cX3_livingProcesses 1 = .ok (.istore_n 1, 1) := by decide +kernel
theorem dX3_livingProcesses_2 : decode cX3_livingProcesses 2 = .ok (.iconst 0, 1) := by decide +kernel
theorem dX3_livingProcesses_3 : decode cX3_livingProcesses 3 = .ok (.istore_n 2, 1) := by decide +kernel
theorem dX3_livingProcesses_4 : decode cX3_livingProcesses 4 = .ok (.iload_n 2, 1) := by decide +kernel
theorem dX3_livingProcesses_5 : decode cX3_livingProcesses 5 = .ok (.aload_n 0, 1) := by decide +kernel
theorem dX3_livingProcesses_6 : decode cX3_livingProcesses 6 = .ok (.getfield 11, 3) := by decide +kernel
theorem dX3_livingProcesses_9 : decode cX3_livingProcesses 9 = .ok (.arraylength, 1) := by decide +kernel
theorem dX3_livingProcesses_10 : decode cX3_livingProcesses 10 = .ok (.if_icmp .ge 24, 3) := by decide +kernel
theorem dX3_livingProcesses_13 : decode cX3_livingProcesses 13 = .ok (.aload_n 0, 1) := by decide +kernel
theorem dX3_livingProcesses_14 : decode cX3_livingProcesses 14 = .ok (.getfield 11, 3) := by decide +kernel
theorem dX3_livingProcesses_17 : decode cX3_livingProcesses 17 = .ok (.iload_n 2, 1) := by decide +kernel
theorem dX3_livingProcesses_18 : decode cX3_livingProcesses 18 = .ok (.aaload, 1) := by decide +kernel
theorem dX3_livingProcesses_19 : decode cX3_livingProcesses 19 = .ok (.getfield 102, 3) := by decide +kernel
theorem dX3_livingProcesses_22 : decode cX3_livingProcesses 22 = .ok (.ifCond .eq 6, 3) := by decide +kernel
theorem dX3_livingProcesses_25 : decode cX3_livingProcesses 25 = .ok (.iinc 1 1, 3) := by decide +kernel
theorem dX3_livingProcesses_28 : decode cX3_livingProcesses 28 = .ok (.iinc 2 1, 3) := by decide +kernel
theorem dX3_livingProcesses_31 : decode cX3_livingProcesses 31 = .ok (.goto (-27), 3) := by decide +kernel
theorem dX3_livingProcesses_34 : decode cX3_livingProcesses 34 = .ok (.iload_n 1, 1) := by decide +kernel
theorem dX3_livingProcesses_35 : decode cX3_livingProcesses 35 = .ok (.ireturn, 1) := by decide +kernel
theorem dX3_openEndpoints_0 : decode cX3_openEndpoints 0 = .ok (.iconst 0, 1) := by decide +kernel
theorem dX3_openEndpoints_1 : decode cX3_openEndpoints 1 = .ok (.istore_n 1, 1) := by decide +kernel
theorem dX3_openEndpoints_2 : decode cX3_openEndpoints 2 = .ok (.iconst 0, 1) := by decide +kernel
theorem dX3_openEndpoints_3 : decode cX3_openEndpoints 3 = .ok (.istore_n 2, 1) := by decide +kernel
theorem dX3_openEndpoints_4 : decode cX3_openEndpoints 4 = .ok (.iload_n 2, 1) := by decide +kernel
theorem dX3_openEndpoints_5 : decode cX3_openEndpoints 5 = .ok (.aload_n 0, 1) := by decide +kernel
theorem dX3_openEndpoints_6 : decode cX3_openEndpoints 6 = .ok (.getfield 18, 3) := by decide +kernel
theorem dX3_openEndpoints_9 : decode cX3_openEndpoints 9 = .ok (.arraylength, 1) := by decide +kernel
theorem dX3_openEndpoints_10 : decode cX3_openEndpoints 10 = .ok (.if_icmp .ge 24, 3) := by decide +kernel
theorem dX3_openEndpoints_13 : decode cX3_openEndpoints 13 = .ok (.aload_n 0, 1) := by decide +kernel
theorem dX3_openEndpoints_14 : decode cX3_openEndpoints 14 = .ok (.getfield 18, 3) := by decide +kernel
theorem dX3_openEndpoints_17 : decode cX3_openEndpoints 17 = .ok (.iload_n 2, 1) := by decide +kernel
theorem dX3_openEndpoints_18 : decode cX3_openEndpoints 18 = .ok (.aaload, 1) := by decide +kernel
theorem dX3_openEndpoints_19 : decode cX3_openEndpoints 19 = .ok (.getfield 127, 3) := by decide +kernel
theorem dX3_openEndpoints_22 : decode cX3_openEndpoints 22 = .ok (.ifCond .eq 6, 3) := by decide +kernel
theorem dX3_openEndpoints_25 : decode cX3_openEndpoints 25 = .ok (.iinc 1 1, 3) := by decide +kernel
theorem dX3_openEndpoints_28 : decode cX3_openEndpoints 28 = .ok (.iinc 2 1, 3) := by decide +kernel
theorem dX3_openEndpoints_31 : decode cX3_openEndpoints 31 = .ok (.goto (-27), 3) := by decide +kernel
theorem dX3_openEndpoints_34 : decode cX3_openEndpoints 34 = .ok (.iload_n 1, 1) := by decide +kernel
theorem dX3_openEndpoints_35 : decode cX3_openEndpoints 35 = .ok (.ireturn, 1) := by decide +kernel
theorem dX3_objectAt_0 : decode cX3_objectAt 0 = .ok (.iload_n 1, 1) := by decide +kernel
theorem dX3_objectAt_1 : decode cX3_objectAt 1 = .ok (.ifCond .lt 24, 3) := by decide +kernel
theorem dX3_objectAt_4 : decode cX3_objectAt 4 = .ok (.iload_n 1, 1) := by decide +kernel
theorem dX3_objectAt_5 : decode cX3_objectAt 5 = .ok (.aload_n 0, 1) := by decide +kernel
theorem dX3_objectAt_6 : decode cX3_objectAt 6 = .ok (.getfield 25, 3) := by decide +kernel
theorem dX3_objectAt_9 : decode cX3_objectAt 9 = .ok (.arraylength, 1) := by decide +kernel
theorem dX3_objectAt_10 : decode cX3_objectAt 10 = .ok (.if_icmp .ge 15, 3) := by decide +kernel
theorem dX3_objectAt_13 : decode cX3_objectAt 13 = .ok (.aload_n 0, 1) := by decide +kernel
theorem dX3_objectAt_14 : decode cX3_objectAt 14 = .ok (.getfield 25, 3) := by decide +kernel
theorem dX3_objectAt_17 : decode cX3_objectAt 17 = .ok (.iload_n 1, 1) := by decide +kernel
theorem dX3_objectAt_18 : decode cX3_objectAt 18 = .ok (.aaload, 1) := by decide +kernel
theorem dX3_objectAt_19 : decode cX3_objectAt 19 = .ok (.getfield 253, 3) := by decide +kernel
theorem dX3_objectAt_22 : decode cX3_objectAt 22 = .ok (.ifCond .ne 5, 3) := by decide +kernel
theorem dX3_objectAt_25 : decode cX3_objectAt 25 = .ok (.aconst_null, 1) := by decide +kernel
theorem dX3_objectAt_26 : decode cX3_objectAt 26 = .ok (.areturn, 1) := by decide +kernel
theorem dX3_objectAt_27 : decode cX3_objectAt 27 = .ok (.aload_n 0, 1) := by decide +kernel
theorem dX3_objectAt_28 : decode cX3_objectAt 28 = .ok (.getfield 25, 3) := by decide +kernel
theorem dX3_objectAt_31 : decode cX3_objectAt 31 = .ok (.iload_n 1, 1) := by decide +kernel
theorem dX3_objectAt_32 : decode cX3_objectAt 32 = .ok (.aaload, 1) := by decide +kernel
theorem dX3_objectAt_33 : decode cX3_objectAt 33 = .ok (.areturn, 1) := by decide +kernel
theorem dX3_containerAt_0 : decode cX3_containerAt 0 = .ok (.aload_n 0, 1) := by decide +kernel
theorem dX3_containerAt_1 : decode cX3_containerAt 1 = .ok (.iload_n 1, 1) := by decide +kernel
theorem dX3_containerAt_2 : decode cX3_containerAt 2 = .ok (.invokevirtual 191, 3) := by decide +kernel
theorem dX3_containerAt_5 : decode cX3_containerAt 5 = .ok (.astore_n 2, 1) := by decide +kernel
theorem dX3_containerAt_6 : decode cX3_containerAt 6 = .ok (.aload_n 2, 1) := by decide +kernel
theorem dX3_containerAt_7 : decode cX3_containerAt 7 = .ok (.ifnull 14, 3) := by decide +kernel
theorem dX3_containerAt_10 : decode cX3_containerAt 10 = .ok (.aload_n 2, 1) := by decide +kernel
theorem dX3_containerAt_11 : decode cX3_containerAt 11 = .ok (.getfield 229, 3) := by decide +kernel
theorem dX3_containerAt_14 : decode cX3_containerAt 14 = .ok (.ifCond .eq 7, 3) := by decide +kernel
theorem dX3_containerAt_17 : decode cX3_containerAt 17 = .ok (.aload_n 2, 1) := by decide +kernel
theorem dX3_containerAt_18 : decode cX3_containerAt 18 = .ok (.goto 4, 3) := by decide +kernel
theorem dX3_containerAt_21 : decode cX3_containerAt 21 = .ok (.aconst_null, 1) := by decide +kernel
theorem dX3_containerAt_22 : decode cX3_containerAt 22 = .ok (.areturn, 1) := by decide +kernel
theorem dX3_fileAt_0 : decode cX3_fileAt 0 = .ok (.aload_n 0, 1) := by decide +kernel
theorem dX3_fileAt_1 : decode cX3_fileAt 1 = .ok (.iload_n 1, 1) := by decide +kernel
theorem dX3_fileAt_2 : decode cX3_fileAt 2 = .ok (.invokevirtual 191, 3) := by decide +kernel
theorem dX3_fileAt_5 : decode cX3_fileAt 5 = .ok (.astore_n 2, 1) := by decide +kernel
theorem dX3_fileAt_6 : decode cX3_fileAt 6 = .ok (.aload_n 2, 1) := by decide +kernel
theorem dX3_fileAt_7 : decode cX3_fileAt 7 = .ok (.ifnull 14, 3) := by decide +kernel
theorem dX3_fileAt_10 : decode cX3_fileAt 10 = .ok (.aload_n 2, 1) := by decide +kernel
theorem dX3_fileAt_11 : decode cX3_fileAt 11 = .ok (.getfield 229, 3) := by decide +kernel
theorem dX3_fileAt_14 : decode cX3_fileAt 14 = .ok (.ifCond .ne 7, 3) := by decide +kernel
theorem dX3_fileAt_17 : decode cX3_fileAt 17 = .ok (.aload_n 2, 1) := by decide +kernel
theorem dX3_fileAt_18 : decode cX3_fileAt 18 = .ok (.goto 4, 3) := by decide +kernel
theorem dX3_fileAt_21 : decode cX3_fileAt 21 = .ok (.aconst_null, 1) := by decide +kernel
theorem dX3_fileAt_22 : decode cX3_fileAt 22 = .ok (.areturn, 1) := by decide +kernel
theorem dX3_standsIn_0 : decode cX3_standsIn 0 = .ok (.aload_n 0, 1) := by decide +kernel
theorem dX3_standsIn_1 : decode cX3_standsIn 1 = .ok (.iload_n 1, 1) := by decide +kernel
theorem dX3_standsIn_2 : decode cX3_standsIn 2 = .ok (.invokevirtual 191, 3) := by decide +kernel
theorem dX3_standsIn_5 : decode cX3_standsIn 5 = .ok (.astore_n 3, 1) := by decide +kernel
theorem dX3_standsIn_6 : decode cX3_standsIn 6 = .ok (.aload_n 3, 1) := by decide +kernel
theorem dX3_standsIn_7 : decode cX3_standsIn 7 = .ok (.ifnull 15, 3) := by decide +kernel
theorem dX3_standsIn_10 : decode cX3_standsIn 10 = .ok (.aload_n 3, 1) := by decide +kernel
theorem dX3_standsIn_11 : decode cX3_standsIn 11 = .ok (.getfield 194, 3) := by decide +kernel
theorem dX3_standsIn_14 : decode cX3_standsIn 14 = .ok (.iload_n 2, 1) := by decide +kernel
theorem dX3_standsIn_15 : decode cX3_standsIn 15 = .ok (.if_icmp .ne 7, 3) := by decide +kernel
theorem dX3_standsIn_18 : decode cX3_standsIn 18 = .ok (.iconst 1, 1) := by decide +kernel
theorem dX3_standsIn_19 : decode cX3_standsIn 19 = .ok (.goto 4, 3) := by decide +kernel
theorem dX3_standsIn_22 : decode cX3_standsIn 22 = .ok (.iconst 0, 1) := by decide +kernel
theorem dX3_standsIn_23 : decode cX3_standsIn 23 = .ok (.ireturn, 1) := by decide +kernel
theorem dX3_objectsThere_0 : decode cX3_objectsThere 0 = .ok (.iconst 0, 1) := by decide +kernel
theorem dX3_objectsThere_1 : decode cX3_objectsThere 1 = .ok (.istore_n 1, 1) := by decide +kernel
theorem dX3_objectsThere_2 : decode cX3_objectsThere 2 = .ok (.iconst 0, 1) := by decide +kernel
theorem dX3_objectsThere_3 : decode cX3_objectsThere 3 = .ok (.istore_n 2, 1) := by decide +kernel
theorem dX3_objectsThere_4 : decode cX3_objectsThere 4 = .ok (.iload_n 2, 1) := by decide +kernel
theorem dX3_objectsThere_5 : decode cX3_objectsThere 5 = .ok (.aload_n 0, 1) := by decide +kernel
theorem dX3_objectsThere_6 : decode cX3_objectsThere 6 = .ok (.getfield 25, 3) := by decide +kernel
theorem dX3_objectsThere_9 : decode cX3_objectsThere 9 = .ok (.arraylength, 1) := by decide +kernel
theorem dX3_objectsThere_10 : decode cX3_objectsThere 10 = .ok (.if_icmp .ge 24, 3) := by decide +kernel
theorem dX3_objectsThere_13 : decode cX3_objectsThere 13 = .ok (.aload_n 0, 1) := by decide +kernel
theorem dX3_objectsThere_14 : decode cX3_objectsThere 14 = .ok (.getfield 25, 3) := by decide +kernel
theorem dX3_objectsThere_17 : decode cX3_objectsThere 17 = .ok (.iload_n 2, 1) := by decide +kernel
theorem dX3_objectsThere_18 : decode cX3_objectsThere 18 = .ok (.aaload, 1) := by decide +kernel
theorem dX3_objectsThere_19 : decode cX3_objectsThere 19 = .ok (.getfield 253, 3) := by decide +kernel
theorem dX3_objectsThere_22 : decode cX3_objectsThere 22 = .ok (.ifCond .eq 6, 3) := by decide +kernel
theorem dX3_objectsThere_25 : decode cX3_objectsThere 25 = .ok (.iinc 1 1, 3) := by decide +kernel
theorem dX3_objectsThere_28 : decode cX3_objectsThere 28 = .ok (.iinc 2 1, 3) := by decide +kernel
theorem dX3_objectsThere_31 : decode cX3_objectsThere 31 = .ok (.goto (-27), 3) := by decide +kernel
theorem dX3_objectsThere_34 : decode cX3_objectsThere 34 = .ok (.iload_n 1, 1) := by decide +kernel
theorem dX3_objectsThere_35 : decode cX3_objectsThere 35 = .ok (.ireturn, 1) := by decide +kernel
theorem dX3_blocksLeft_0 : decode cX3_blocksLeft 0 = .ok (.aload_n 0, 1) := by decide +kernel
theorem dX3_blocksLeft_1 : decode cX3_blocksLeft 1 = .ok (.iload_n 1, 1) := by decide +kernel
theorem dX3_blocksLeft_2 : decode cX3_blocksLeft 2 = .ok (.invokevirtual 173, 3) := by decide +kernel
theorem dX3_blocksLeft_5 : decode cX3_blocksLeft 5 = .ok (.astore_n 2, 1) := by decide +kernel
theorem dX3_blocksLeft_6 : decode cX3_blocksLeft 6 = .ok (.aload_n 2, 1) := by decide +kernel
theorem dX3_blocksLeft_7 : decode cX3_blocksLeft 7 = .ok (.ifnonnull 5, 3) := by decide +kernel
theorem dX3_blocksLeft_10 : decode cX3_blocksLeft 10 = .ok (.iconst 0, 1) := by decide +kernel
theorem dX3_blocksLeft_11 : decode cX3_blocksLeft 11 = .ok (.ireturn, 1) := by decide +kernel
theorem dX3_blocksLeft_12 : decode cX3_blocksLeft 12 = .ok (.aload_n 2, 1) := by decide +kernel
theorem dX3_blocksLeft_13 : decode cX3_blocksLeft 13 = .ok (.getfield 256, 3) := by decide +kernel
theorem dX3_blocksLeft_16 : decode cX3_blocksLeft 16 = .ok (.istore_n 3, 1) := by decide +kernel
theorem dX3_blocksLeft_17 : decode cX3_blocksLeft 17 = .ok (.iconst 0, 1) := by decide +kernel
theorem dX3_blocksLeft_18 : decode cX3_blocksLeft 18 = .ok (.istore 4, 2) := by decide +kernel
theorem dX3_blocksLeft_20 : decode cX3_blocksLeft 20 = .ok (.iload 4, 2) := by decide +kernel
theorem dX3_blocksLeft_22 : decode cX3_blocksLeft 22 = .ok (.aload_n 0, 1) := by decide +kernel
theorem dX3_blocksLeft_23 : decode cX3_blocksLeft 23 = .ok (.getfield 25, 3) := by decide +kernel
theorem dX3_blocksLeft_26 : decode cX3_blocksLeft 26 = .ok (.arraylength, 1) := by decide +kernel
theorem dX3_blocksLeft_27 : decode cX3_blocksLeft 27 = .ok (.if_icmp .ge 32, 3) := by decide +kernel
theorem dX3_blocksLeft_30 : decode cX3_blocksLeft 30 = .ok (.aload_n 0, 1) := by decide +kernel
theorem dX3_blocksLeft_31 : decode cX3_blocksLeft 31 = .ok (.iload 4, 2) := by decide +kernel
theorem dX3_blocksLeft_33 : decode cX3_blocksLeft 33 = .ok (.iload_n 1, 1) := by decide +kernel
theorem dX3_blocksLeft_34 : decode cX3_blocksLeft 34 = .ok (.invokevirtual 234, 3) := by decide +kernel
theorem dX3_blocksLeft_37 : decode cX3_blocksLeft 37 = .ok (.ifCond .eq 16, 3) := by decide +kernel
theorem dX3_blocksLeft_40 : decode cX3_blocksLeft 40 = .ok (.iload_n 3, 1) := by decide +kernel
theorem dX3_blocksLeft_41 : decode cX3_blocksLeft 41 = .ok (.aload_n 0, 1) := by decide +kernel
theorem dX3_blocksLeft_42 : decode cX3_blocksLeft 42 = .ok (.getfield 25, 3) := by decide +kernel
theorem dX3_blocksLeft_45 : decode cX3_blocksLeft 45 = .ok (.iload 4, 2) := by decide +kernel
theorem dX3_blocksLeft_47 : decode cX3_blocksLeft 47 = .ok (.aaload, 1) := by decide +kernel
theorem dX3_blocksLeft_48 : decode cX3_blocksLeft 48 = .ok (.invokevirtual 259, 3) := by decide +kernel
theorem dX3_blocksLeft_51 : decode cX3_blocksLeft 51 = .ok (.isub, 1) := by decide +kernel
theorem dX3_blocksLeft_52 : decode cX3_blocksLeft 52 = .ok (.istore_n 3, 1) := by decide +kernel
theorem dX3_blocksLeft_53 : decode cX3_blocksLeft 53 = .ok (.iinc 4 1, 3) := by decide +kernel
theorem dX3_blocksLeft_56 : decode cX3_blocksLeft 56 = .ok (.goto (-36), 3) := by decide +kernel
theorem dX3_blocksLeft_59 : decode cX3_blocksLeft 59 = .ok (.iload_n 3, 1) := by decide +kernel
theorem dX3_blocksLeft_60 : decode cX3_blocksLeft 60 = .ok (.ireturn, 1) := by decide +kernel
theorem dX3_placesLeft_0 : decode cX3_placesLeft 0 = .ok (.aload_n 0, 1) := by decide +kernel
theorem dX3_placesLeft_1 : decode cX3_placesLeft 1 = .ok (.iload_n 1, 1) := by decide +kernel
theorem dX3_placesLeft_2 : decode cX3_placesLeft 2 = .ok (.invokevirtual 173, 3) := by decide +kernel
theorem dX3_placesLeft_5 : decode cX3_placesLeft 5 = .ok (.astore_n 2, 1) := by decide +kernel
theorem dX3_placesLeft_6 : decode cX3_placesLeft 6 = .ok (.aload_n 2, 1) := by decide +kernel
theorem dX3_placesLeft_7 : decode cX3_placesLeft 7 = .ok (.ifnonnull 5, 3) := by decide +kernel
theorem dX3_placesLeft_10 : decode cX3_placesLeft 10 = .ok (.iconst 0, 1) := by decide +kernel
theorem dX3_placesLeft_11 : decode cX3_placesLeft 11 = .ok (.ireturn, 1) := by decide +kernel
theorem dX3_placesLeft_12 : decode cX3_placesLeft 12 = .ok (.aload_n 2, 1) := by decide +kernel
theorem dX3_placesLeft_13 : decode cX3_placesLeft 13 = .ok (.getfield 262, 3) := by decide +kernel
theorem dX3_placesLeft_16 : decode cX3_placesLeft 16 = .ok (.istore_n 3, 1) := by decide +kernel
theorem dX3_placesLeft_17 : decode cX3_placesLeft 17 = .ok (.iconst 0, 1) := by decide +kernel
theorem dX3_placesLeft_18 : decode cX3_placesLeft 18 = .ok (.istore 4, 2) := by decide +kernel
theorem dX3_placesLeft_20 : decode cX3_placesLeft 20 = .ok (.iload 4, 2) := by decide +kernel
theorem dX3_placesLeft_22 : decode cX3_placesLeft 22 = .ok (.aload_n 0, 1) := by decide +kernel
theorem dX3_placesLeft_23 : decode cX3_placesLeft 23 = .ok (.getfield 25, 3) := by decide +kernel
theorem dX3_placesLeft_26 : decode cX3_placesLeft 26 = .ok (.arraylength, 1) := by decide +kernel
theorem dX3_placesLeft_27 : decode cX3_placesLeft 27 = .ok (.if_icmp .ge 34, 3) := by decide +kernel
theorem dX3_placesLeft_30 : decode cX3_placesLeft 30 = .ok (.aload_n 0, 1) := by decide +kernel
theorem dX3_placesLeft_31 : decode cX3_placesLeft 31 = .ok (.iload 4, 2) := by decide +kernel
theorem dX3_placesLeft_33 : decode cX3_placesLeft 33 = .ok (.iload_n 1, 1) := by decide +kernel
theorem dX3_placesLeft_34 : decode cX3_placesLeft 34 = .ok (.invokevirtual 234, 3) := by decide +kernel
theorem dX3_placesLeft_37 : decode cX3_placesLeft 37 = .ok (.ifCond .eq 18, 3) := by decide +kernel
theorem dX3_placesLeft_40 : decode cX3_placesLeft 40 = .ok (.iload_n 3, 1) := by decide +kernel
theorem dX3_placesLeft_41 : decode cX3_placesLeft 41 = .ok (.iconst 1, 1) := by decide +kernel
theorem dX3_placesLeft_42 : decode cX3_placesLeft 42 = .ok (.aload_n 0, 1) := by decide +kernel
theorem dX3_placesLeft_43 : decode cX3_placesLeft 43 = .ok (.getfield 25, 3) := by decide +kernel
theorem dX3_placesLeft_46 : decode cX3_placesLeft 46 = .ok (.iload 4, 2) := by decide +kernel
theorem dX3_placesLeft_48 : decode cX3_placesLeft 48 = .ok (.aaload, 1) := by decide +kernel
theorem dX3_placesLeft_49 : decode cX3_placesLeft 49 = .ok (.getfield 262, 3) := by decide +kernel
theorem dX3_placesLeft_52 : decode cX3_placesLeft 52 = .ok (.iadd, 1) := by decide +kernel
theorem dX3_placesLeft_53 : decode cX3_placesLeft 53 = .ok (.isub, 1) := by decide +kernel
theorem dX3_placesLeft_54 : decode cX3_placesLeft 54 = .ok (.istore_n 3, 1) := by decide +kernel
theorem dX3_placesLeft_55 : decode cX3_placesLeft 55 = .ok (.iinc 4 1, 3) := by decide +kernel
theorem dX3_placesLeft_58 : decode cX3_placesLeft 58 = .ok (.goto (-38), 3) := by decide +kernel
theorem dX3_placesLeft_61 : decode cX3_placesLeft 61 = .ok (.iload_n 3, 1) := by decide +kernel
theorem dX3_placesLeft_62 : decode cX3_placesLeft 62 = .ok (.ireturn, 1) := by decide +kernel
theorem dX3_blocksFor_0 : decode cX3_blocksFor 0 = .ok (.iload_n 0, 1) := by decide +kernel
theorem dX3_blocksFor_1 : decode cX3_blocksFor 1 = .ok (.iconst 4, 1) := by decide +kernel
theorem dX3_blocksFor_2 : decode cX3_blocksFor 2 = .ok (.iadd, 1) := by decide +kernel
theorem dX3_blocksFor_3 : decode cX3_blocksFor 3 = .ok (.iconst 1, 1) := by decide +kernel
theorem dX3_blocksFor_4 : decode cX3_blocksFor 4 = .ok (.isub, 1) := by decide +kernel
theorem dX3_blocksFor_5 : decode cX3_blocksFor 5 = .ok (.iconst 4, 1) := by decide +kernel
theorem dX3_blocksFor_6 : decode cX3_blocksFor 6 = .ok (.idiv, 1) := by decide +kernel
theorem dX3_blocksFor_7 : decode cX3_blocksFor 7 = .ok (.ireturn, 1) := by decide +kernel
theorem dX3_mayMake_0 : decode cX3_mayMake 0 = .ok (.aload_n 0, 1) := by decide +kernel
theorem dX3_mayMake_1 : decode cX3_mayMake 1 = .ok (.aload_n 1, 1) := by decide +kernel
theorem dX3_mayMake_2 : decode cX3_mayMake 2 = .ok (.invokestatic 197, 3) := by decide +kernel
theorem dX3_mayMake_5 : decode cX3_mayMake 5 = .ok (.ifCond .eq 47, 3) := by decide +kernel
theorem dX3_mayMake_8 : decode cX3_mayMake 8 = .ok (.aload_n 0, 1) := by decide +kernel
theorem dX3_mayMake_9 : decode cX3_mayMake 9 = .ok (.aload_n 1, 1) := by decide +kernel
theorem dX3_mayMake_10 : decode cX3_mayMake 10 = .ok (.invokestatic 201, 3) := by decide +kernel
theorem dX3_mayMake_13 : decode cX3_mayMake 13 = .ok (.ifCond .eq 39, 3) := by decide +kernel
theorem dX3_mayMake_16 : decode cX3_mayMake 16 = .ok (.aload_n 1, 1) := by decide +kernel
theorem dX3_mayMake_17 : decode cX3_mayMake 17 = .ok (.getfield 232, 3) := by decide +kernel
theorem dX3_mayMake_20 : decode cX3_mayMake 20 = .ok (.aload_n 1, 1) := by decide +kernel
theorem dX3_mayMake_21 : decode cX3_mayMake 21 = .ok (.getfield 233, 3) := by decide +kernel
theorem dX3_mayMake_24 : decode cX3_mayMake 24 = .ok (.iload_n 2, 1) := by decide +kernel
theorem dX3_mayMake_25 : decode cX3_mayMake 25 = .ok (.iload_n 3, 1) := by decide +kernel
theorem dX3_mayMake_26 : decode cX3_mayMake 26 = .ok (.invokestatic 139, 3) := by decide +kernel
theorem dX3_mayMake_29 : decode cX3_mayMake 29 = .ok (.ifCond .eq 23, 3) := by decide +kernel
theorem dX3_mayMake_32 : decode cX3_mayMake 32 = .ok (.aload_n 0, 1) := by decide +kernel
theorem dX3_mayMake_33 : decode cX3_mayMake 33 = .ok (.getfield 69, 3) := by decide +kernel
theorem dX3_mayMake_36 : decode cX3_mayMake 36 = .ok (.aload_n 0, 1) := by decide +kernel
theorem dX3_mayMake_37 : decode cX3_mayMake 37 = .ok (.getfield 72, 3) := by decide +kernel
theorem dX3_mayMake_40 : decode cX3_mayMake 40 = .ok (.iload_n 2, 1) := by decide +kernel
theorem dX3_mayMake_41 : decode cX3_mayMake 41 = .ok (.iload_n 3, 1) := by decide +kernel
theorem dX3_mayMake_42 : decode cX3_mayMake 42 = .ok (.invokestatic 139, 3) := by decide +kernel
theorem dX3_mayMake_45 : decode cX3_mayMake 45 = .ok (.ifCond .eq 7, 3) := by decide +kernel
theorem dX3_mayMake_48 : decode cX3_mayMake 48 = .ok (.iconst 1, 1) := by decide +kernel
theorem dX3_mayMake_49 : decode cX3_mayMake 49 = .ok (.goto 4, 3) := by decide +kernel
theorem dX3_mayMake_52 : decode cX3_mayMake 52 = .ok (.iconst 0, 1) := by decide +kernel
theorem dX3_mayMake_53 : decode cX3_mayMake 53 = .ok (.ireturn, 1) := by decide +kernel
theorem dX3_make_0 : decode cX3_make 0 = .ok (.aload_n 0, 1) := by decide +kernel
theorem dX3_make_1 : decode cX3_make 1 = .ok (.getfield 41, 3) := by decide +kernel
theorem dX3_make_4 : decode cX3_make 4 = .ok (.istore 7, 2) := by decide +kernel
theorem dX3_make_6 : decode cX3_make 6 = .ok (.iload 7, 2) := by decide +kernel
theorem dX3_make_8 : decode cX3_make 8 = .ok (.aload_n 0, 1) := by decide +kernel
theorem dX3_make_9 : decode cX3_make 9 = .ok (.getfield 25, 3) := by decide +kernel
theorem dX3_make_12 : decode cX3_make 12 = .ok (.arraylength, 1) := by decide +kernel
theorem dX3_make_13 : decode cX3_make 13 = .ok (.if_icmp .lt 6, 3) := by decide +kernel
theorem dX3_make_16 : decode cX3_make 16 = .ok (.ldc 56, 2) := by decide +kernel
theorem dX3_make_18 : decode cX3_make 18 = .ok (.ireturn, 1) := by decide +kernel
theorem dX3_make_19 : decode cX3_make 19 = .ok (.aload_n 0, 1) := by decide +kernel
theorem dX3_make_20 : decode cX3_make 20 = .ok (.iconst 3, 1) := by decide +kernel
theorem dX3_make_21 : decode cX3_make 21 = .ok (.invokevirtual 207, 3) := by decide +kernel
theorem dX3_make_24 : decode cX3_make 24 = .ok (.ifCond .eq 30, 3) := by decide +kernel
theorem dX3_make_27 : decode cX3_make 27 = .ok (.aload_n 0, 1) := by decide +kernel
theorem dX3_make_28 : decode cX3_make 28 = .ok (.getfield 25, 3) := by decide +kernel
theorem dX3_make_31 : decode cX3_make 31 = .ok (.iload 7, 2) := by decide +kernel
theorem dX3_make_33 : decode cX3_make 33 = .ok (.aaload, 1) := by decide +kernel
theorem dX3_make_34 : decode cX3_make 34 = .ok (.iload_n 1, 1) := by decide +kernel
theorem dX3_make_35 : decode cX3_make 35 = .ok (.iload_n 2, 1) := by decide +kernel
theorem dX3_make_36 : decode cX3_make 36 = .ok (.iload_n 3, 1) := by decide +kernel
theorem dX3_make_37 : decode cX3_make 37 = .ok (.iload 4, 2) := by decide +kernel
theorem dX3_make_39 : decode cX3_make 39 = .ok (.iload 5, 2) := by decide +kernel
theorem dX3_make_41 : decode cX3_make 41 = .ok (.iload 6, 2) := by decide +kernel
theorem dX3_make_43 : decode cX3_make 43 = .ok (.invokevirtual 38, 3) := by decide +kernel
theorem dX3_make_46 : decode cX3_make 46 = .ok (.aload_n 0, 1) := by decide +kernel
theorem dX3_make_47 : decode cX3_make 47 = .ok (.iload 7, 2) := by decide +kernel
theorem dX3_make_49 : decode cX3_make 49 = .ok (.iconst 1, 1) := by decide +kernel
theorem dX3_make_50 : decode cX3_make 50 = .ok (.iadd, 1) := by decide +kernel
theorem dX3_make_51 : decode cX3_make 51 = .ok (.putfield 41, 3) := by decide +kernel
theorem dX3_make_54 : decode cX3_make 54 = .ok (.aload_n 0, 1) := by decide +kernel
theorem dX3_make_55 : decode cX3_make 55 = .ok (.iload 7, 2) := by decide +kernel
theorem dX3_make_57 : decode cX3_make 57 = .ok (.invokevirtual 213, 3) := by decide +kernel
theorem dX3_make_60 : decode cX3_make 60 = .ok (.ireturn, 1) := by decide +kernel
theorem dX3_writeRun_0 : decode cX3_writeRun 0 = .ok (.aload_n 0, 1) := by decide +kernel
theorem dX3_writeRun_1 : decode cX3_writeRun 1 = .ok (.aload_n 1, 1) := by decide +kernel
theorem dX3_writeRun_2 : decode cX3_writeRun 2 = .ok (.iload_n 3, 1) := by decide +kernel
theorem dX3_writeRun_3 : decode cX3_writeRun 3 = .ok (.iload 4, 2) := by decide +kernel
theorem dX3_writeRun_5 : decode cX3_writeRun 5 = .ok (.iadd, 1) := by decide +kernel
theorem dX3_writeRun_6 : decode cX3_writeRun 6 = .ok (.invokevirtual 265, 3) := by decide +kernel
theorem dX3_writeRun_9 : decode cX3_writeRun 9 = .ok (.ifCond .ne 14, 3) := by decide +kernel
theorem dX3_writeRun_12 : decode cX3_writeRun 12 = .ok (.iload_n 2, 1) := by decide +kernel
theorem dX3_writeRun_13 : decode cX3_writeRun 13 = .ok (.ifCond .eq 7, 3) := by decide +kernel
theorem dX3_writeRun_16 : decode cX3_writeRun 16 = .ok (.iconst 1, 1) := by decide +kernel
theorem dX3_writeRun_17 : decode cX3_writeRun 17 = .ok (.goto 5, 3) := by decide +kernel
theorem dX3_writeRun_20 : decode cX3_writeRun 20 = .ok (.ldc 56, 2) := by decide +kernel
theorem dX3_writeRun_22 : decode cX3_writeRun 22 = .ok (.ireturn, 1) := by decide +kernel
theorem dX3_writeRun_23 : decode cX3_writeRun 23 = .ok (.aload_n 0, 1) := by decide +kernel
theorem dX3_writeRun_24 : decode cX3_writeRun 24 = .ok (.iload 4, 2) := by decide +kernel
theorem dX3_writeRun_26 : decode cX3_writeRun 26 = .ok (.iconst 1, 1) := by decide +kernel
theorem dX3_writeRun_27 : decode cX3_writeRun 27 = .ok (.iadd, 1) := by decide +kernel
theorem dX3_writeRun_28 : decode cX3_writeRun 28 = .ok (.invokevirtual 207, 3) := by decide +kernel
theorem dX3_writeRun_31 : decode cX3_writeRun 31 = .ok (.ifCond .eq 32, 3) := by decide +kernel
theorem dX3_writeRun_34 : decode cX3_writeRun 34 = .ok (.iconst 0, 1) := by decide +kernel
theorem dX3_writeRun_35 : decode cX3_writeRun 35 = .ok (.istore 6, 2) := by decide +kernel
theorem dX3_writeRun_37 : decode cX3_writeRun 37 = .ok (.iload 6, 2) := by decide +kernel
theorem dX3_writeRun_39 : decode cX3_writeRun 39 = .ok (.iload 4, 2) := by decide +kernel
theorem dX3_writeRun_41 : decode cX3_writeRun 41 = .ok (.if_icmp .ge 22, 3) := by decide +kernel
theorem dX3_writeRun_44 : decode cX3_writeRun 44 = .ok (.aload_n 1, 1) := by decide +kernel
theorem dX3_writeRun_45 : decode cX3_writeRun 45 = .ok (.iload_n 3, 1) := by decide +kernel
theorem dX3_writeRun_46 : decode cX3_writeRun 46 = .ok (.iload 6, 2) := by decide +kernel
theorem dX3_writeRun_48 : decode cX3_writeRun 48 = .ok (.iadd, 1) := by decide +kernel
theorem dX3_writeRun_49 : decode cX3_writeRun 49 = .ok (.iload 5, 2) := by decide +kernel
theorem dX3_writeRun_51 : decode cX3_writeRun 51 = .ok (.iload 6, 2) := by decide +kernel
theorem dX3_writeRun_53 : decode cX3_writeRun 53 = .ok (.iadd, 1) := by decide +kernel
theorem dX3_writeRun_54 : decode cX3_writeRun 54 = .ok (.invokevirtual 269, 3) := by decide +kernel
theorem dX3_writeRun_57 : decode cX3_writeRun 57 = .ok (.iinc 6 1, 3) := by decide +kernel
theorem dX3_writeRun_60 : decode cX3_writeRun 60 = .ok (.goto (-23), 3) := by decide +kernel
theorem dX3_writeRun_63 : decode cX3_writeRun 63 = .ok (.aload_n 0, 1) := by decide +kernel
theorem dX3_writeRun_64 : decode cX3_writeRun 64 = .ok (.iconst 1, 1) := by decide +kernel
theorem dX3_writeRun_65 : decode cX3_writeRun 65 = .ok (.invokevirtual 213, 3) := by decide +kernel
theorem dX3_writeRun_68 : decode cX3_writeRun 68 = .ok (.ireturn, 1) := by decide +kernel
theorem dX3_hasRoomUpTo_0 : decode cX3_hasRoomUpTo 0 = .ok (.iload_n 2, 1) := by decide +kernel
theorem dX3_hasRoomUpTo_1 : decode cX3_hasRoomUpTo 1 = .ok (.bipush 32, 2) := by decide +kernel
theorem dX3_hasRoomUpTo_3 : decode cX3_hasRoomUpTo 3 = .ok (.if_icmp .le 5, 3) := by decide +kernel
theorem dX3_hasRoomUpTo_6 : decode cX3_hasRoomUpTo 6 = .ok (.iconst 0, 1) := by decide +kernel
theorem dX3_hasRoomUpTo_7 : decode cX3_hasRoomUpTo 7 = .ok (.ireturn, 1) := by decide +kernel
theorem dX3_hasRoomUpTo_8 : decode cX3_hasRoomUpTo 8 = .ok (.iload_n 2, 1) := by decide +kernel
theorem dX3_hasRoomUpTo_9 : decode cX3_hasRoomUpTo 9 = .ok (.invokestatic 272, 3) := by decide +kernel
theorem dX3_hasRoomUpTo_12 : decode cX3_hasRoomUpTo 12 = .ok (.aload_n 1, 1) := by decide +kernel
theorem dX3_hasRoomUpTo_13 : decode cX3_hasRoomUpTo 13 = .ok (.getfield 219, 3) := by decide +kernel
theorem dX3_hasRoomUpTo_16 : decode cX3_hasRoomUpTo 16 = .ok (.invokestatic 272, 3) := by decide +kernel
theorem dX3_hasRoomUpTo_19 : decode cX3_hasRoomUpTo 19 = .ok (.isub, 1) := by decide +kernel
theorem dX3_hasRoomUpTo_20 : decode cX3_hasRoomUpTo 20 = .ok (.aload_n 0, 1) := by decide +kernel
theorem dX3_hasRoomUpTo_21 : decode cX3_hasRoomUpTo 21 = .ok (.aload_n 1, 1) := by decide +kernel
theorem dX3_hasRoomUpTo_22 : decode cX3_hasRoomUpTo 22 = .ok (.getfield 194, 3) := by decide +kernel
theorem dX3_hasRoomUpTo_25 : decode cX3_hasRoomUpTo 25 = .ok (.invokevirtual 181, 3) := by decide +kernel
theorem dX3_hasRoomUpTo_28 : decode cX3_hasRoomUpTo 28 = .ok (.if_icmp .gt 7, 3) := by decide +kernel
theorem dX3_hasRoomUpTo_31 : decode cX3_hasRoomUpTo 31 = .ok (.iconst 1, 1) := by decide +kernel
theorem dX3_hasRoomUpTo_32 : decode cX3_hasRoomUpTo 32 = .ok (.goto 4, 3) := by decide +kernel
theorem dX3_hasRoomUpTo_35 : decode cX3_hasRoomUpTo 35 = .ok (.iconst 0, 1) := by decide +kernel
theorem dX3_hasRoomUpTo_36 : decode cX3_hasRoomUpTo 36 = .ok (.ireturn, 1) := by decide +kernel
theorem dX3_isPartOf_0 : decode cX3_isPartOf 0 = .ok (.iload_n 1, 1) := by decide +kernel
theorem dX3_isPartOf_1 : decode cX3_isPartOf 1 = .ok (.istore_n 3, 1) := by decide +kernel
theorem dX3_isPartOf_2 : decode cX3_isPartOf 2 = .ok (.iconst 0, 1) := by decide +kernel
theorem dX3_isPartOf_3 : decode cX3_isPartOf 3 = .ok (.istore 4, 2) := by decide +kernel
theorem dX3_isPartOf_5 : decode cX3_isPartOf 5 = .ok (.iload 4, 2) := by decide +kernel
theorem dX3_isPartOf_7 : decode cX3_isPartOf 7 = .ok (.bipush 60, 2) := by decide +kernel
theorem dX3_isPartOf_9 : decode cX3_isPartOf 9 = .ok (.if_icmp .ge 34, 3) := by decide +kernel
theorem dX3_isPartOf_12 : decode cX3_isPartOf 12 = .ok (.iload_n 3, 1) := by decide +kernel
theorem dX3_isPartOf_13 : decode cX3_isPartOf 13 = .ok (.iload_n 2, 1) := by decide +kernel
theorem dX3_isPartOf_14 : decode cX3_isPartOf 14 = .ok (.if_icmp .eq 29, 3) := by decide +kernel
theorem dX3_isPartOf_17 : decode cX3_isPartOf 17 = .ok (.aload_n 0, 1) := by decide +kernel
theorem dX3_isPartOf_18 : decode cX3_isPartOf 18 = .ok (.iload_n 3, 1) := by decide +kernel
theorem dX3_isPartOf_19 : decode cX3_isPartOf 19 = .ok (.invokevirtual 191, 3) := by decide +kernel
theorem dX3_isPartOf_22 : decode cX3_isPartOf 22 = .ok (.astore 5, 2) := by decide +kernel
theorem dX3_isPartOf_24 : decode cX3_isPartOf 24 = .ok (.aload 5, 2) := by decide +kernel
theorem dX3_isPartOf_26 : decode cX3_isPartOf 26 = .ok (.ifnonnull 5, 3) := by decide +kernel
theorem dX3_isPartOf_29 : decode cX3_isPartOf 29 = .ok (.iconst 0, 1) := by decide +kernel
theorem dX3_isPartOf_30 : decode cX3_isPartOf 30 = .ok (.ireturn, 1) := by decide +kernel
theorem dX3_isPartOf_31 : decode cX3_isPartOf 31 = .ok (.aload 5, 2) := by decide +kernel
theorem dX3_isPartOf_33 : decode cX3_isPartOf 33 = .ok (.getfield 194, 3) := by decide +kernel
theorem dX3_isPartOf_36 : decode cX3_isPartOf 36 = .ok (.istore_n 3, 1) := by decide +kernel
theorem dX3_isPartOf_37 : decode cX3_isPartOf 37 = .ok (.iinc 4 1, 3) := by decide +kernel
theorem dX3_isPartOf_40 : decode cX3_isPartOf 40 = .ok (.goto (-35), 3) := by decide +kernel
theorem dX3_isPartOf_43 : decode cX3_isPartOf 43 = .ok (.iload_n 3, 1) := by decide +kernel
theorem dX3_isPartOf_44 : decode cX3_isPartOf 44 = .ok (.iload_n 2, 1) := by decide +kernel
theorem dX3_isPartOf_45 : decode cX3_isPartOf 45 = .ok (.if_icmp .ne 7, 3) := by decide +kernel
theorem dX3_isPartOf_48 : decode cX3_isPartOf 48 = .ok (.iconst 1, 1) := by decide +kernel
theorem dX3_isPartOf_49 : decode cX3_isPartOf 49 = .ok (.goto 4, 3) := by decide +kernel
theorem dX3_isPartOf_52 : decode cX3_isPartOf 52 = .ok (.iconst 0, 1) := by decide +kernel
theorem dX3_isPartOf_53 : decode cX3_isPartOf 53 = .ok (.ireturn, 1) := by decide +kernel
theorem dX3_sizeOfTree_0 : decode cX3_sizeOfTree 0 = .ok (.iconst 0, 1) := by decide +kernel
theorem dX3_sizeOfTree_1 : decode cX3_sizeOfTree 1 = .ok (.istore_n 2, 1) := by decide +kernel
theorem dX3_sizeOfTree_2 : decode cX3_sizeOfTree 2 = .ok (.iconst 0, 1) := by decide +kernel
theorem dX3_sizeOfTree_3 : decode cX3_sizeOfTree 3 = .ok (.istore_n 3, 1) := by decide +kernel
theorem dX3_sizeOfTree_4 : decode cX3_sizeOfTree 4 = .ok (.iload_n 3, 1) := by decide +kernel
theorem dX3_sizeOfTree_5 : decode cX3_sizeOfTree 5 = .ok (.aload_n 0, 1) := by decide +kernel
theorem dX3_sizeOfTree_6 : decode cX3_sizeOfTree 6 = .ok (.getfield 25, 3) := by decide +kernel
theorem dX3_sizeOfTree_9 : decode cX3_sizeOfTree 9 = .ok (.arraylength, 1) := by decide +kernel
theorem dX3_sizeOfTree_10 : decode cX3_sizeOfTree 10 = .ok (.if_icmp .ge 33, 3) := by decide +kernel
theorem dX3_sizeOfTree_13 : decode cX3_sizeOfTree 13 = .ok (.aload_n 0, 1) := by decide +kernel
theorem dX3_sizeOfTree_14 : decode cX3_sizeOfTree 14 = .ok (.getfield 25, 3) := by decide +kernel
theorem dX3_sizeOfTree_17 : decode cX3_sizeOfTree 17 = .ok (.iload_n 3, 1) := by decide +kernel
theorem dX3_sizeOfTree_18 : decode cX3_sizeOfTree 18 = .ok (.aaload, 1) := by decide +kernel
theorem dX3_sizeOfTree_19 : decode cX3_sizeOfTree 19 = .ok (.getfield 253, 3) := by decide +kernel
theorem dX3_sizeOfTree_22 : decode cX3_sizeOfTree 22 = .ok (.ifCond .eq 15, 3) := by decide +kernel
theorem dX3_sizeOfTree_25 : decode cX3_sizeOfTree 25 = .ok (.aload_n 0, 1) := by decide +kernel
theorem dX3_sizeOfTree_26 : decode cX3_sizeOfTree 26 = .ok (.iload_n 3, 1) := by decide +kernel
theorem dX3_sizeOfTree_27 : decode cX3_sizeOfTree 27 = .ok (.iload_n 1, 1) := by decide +kernel
theorem dX3_sizeOfTree_28 : decode cX3_sizeOfTree 28 = .ok (.invokevirtual 275, 3) := by decide +kernel
theorem dX3_sizeOfTree_31 : decode cX3_sizeOfTree 31 = .ok (.ifCond .eq 6, 3) := by decide +kernel
theorem dX3_sizeOfTree_34 : decode cX3_sizeOfTree 34 = .ok (.iinc 2 1, 3) := by decide +kernel
theorem dX3_sizeOfTree_37 : decode cX3_sizeOfTree 37 = .ok (.iinc 3 1, 3) := by decide +kernel
theorem dX3_sizeOfTree_40 : decode cX3_sizeOfTree 40 = .ok (.goto (-36), 3) := by decide +kernel
theorem dX3_sizeOfTree_43 : decode cX3_sizeOfTree 43 = .ok (.iload_n 2, 1) := by decide +kernel
theorem dX3_sizeOfTree_44 : decode cX3_sizeOfTree 44 = .ok (.ireturn, 1) := by decide +kernel
theorem dX3_removeTree_0 : decode cX3_removeTree 0 = .ok (.aload_n 0, 1) := by decide +kernel
theorem dX3_removeTree_1 : decode cX3_removeTree 1 = .ok (.getfield 25, 3) := by decide +kernel
theorem dX3_removeTree_4 : decode cX3_removeTree 4 = .ok (.arraylength, 1) := by decide +kernel
theorem dX3_removeTree_5 : decode cX3_removeTree 5 = .ok (.iconst 1, 1) := by decide +kernel
theorem dX3_removeTree_6 : decode cX3_removeTree 6 = .ok (.isub, 1) := by decide +kernel
theorem dX3_removeTree_7 : decode cX3_removeTree 7 = .ok (.istore_n 2, 1) := by decide +kernel
theorem dX3_removeTree_8 : decode cX3_removeTree 8 = .ok (.iload_n 2, 1) := by decide +kernel
theorem dX3_removeTree_9 : decode cX3_removeTree 9 = .ok (.iload_n 1, 1) := by decide +kernel
theorem dX3_removeTree_10 : decode cX3_removeTree 10 = .ok (.if_icmp .lt 40, 3) := by decide +kernel
theorem dX3_removeTree_13 : decode cX3_removeTree 13 = .ok (.aload_n 0, 1) := by decide +kernel
theorem dX3_removeTree_14 : decode cX3_removeTree 14 = .ok (.getfield 25, 3) := by decide +kernel
theorem dX3_removeTree_17 : decode cX3_removeTree 17 = .ok (.iload_n 2, 1) := by decide +kernel
theorem dX3_removeTree_18 : decode cX3_removeTree 18 = .ok (.aaload, 1) := by decide +kernel
theorem dX3_removeTree_19 : decode cX3_removeTree 19 = .ok (.getfield 253, 3) := by decide +kernel
theorem dX3_removeTree_22 : decode cX3_removeTree 22 = .ok (.ifCond .eq 22, 3) := by decide +kernel
theorem dX3_removeTree_25 : decode cX3_removeTree 25 = .ok (.aload_n 0, 1) := by decide +kernel
theorem dX3_removeTree_26 : decode cX3_removeTree 26 = .ok (.iload_n 2, 1) := by decide +kernel
theorem dX3_removeTree_27 : decode cX3_removeTree 27 = .ok (.iload_n 1, 1) := by decide +kernel
theorem dX3_removeTree_28 : decode cX3_removeTree 28 = .ok (.invokevirtual 275, 3) := by decide +kernel
theorem dX3_removeTree_31 : decode cX3_removeTree 31 = .ok (.ifCond .eq 13, 3) := by decide +kernel
theorem dX3_removeTree_34 : decode cX3_removeTree 34 = .ok (.aload_n 0, 1) := by decide +kernel
theorem dX3_removeTree_35 : decode cX3_removeTree 35 = .ok (.getfield 25, 3) := by decide +kernel
theorem dX3_removeTree_38 : decode cX3_removeTree 38 = .ok (.iload_n 2, 1) := by decide +kernel
theorem dX3_removeTree_39 : decode cX3_removeTree 39 = .ok (.aaload, 1) := by decide +kernel
theorem dX3_removeTree_40 : decode cX3_removeTree 40 = .ok (.iconst 0, 1) := by decide +kernel
theorem dX3_removeTree_41 : decode cX3_removeTree 41 = .ok (.putfield 253, 3) := by decide +kernel
theorem dX3_removeTree_44 : decode cX3_removeTree 44 = .ok (.iinc 2 (-1), 3) := by decide +kernel
theorem dX3_removeTree_47 : decode cX3_removeTree 47 = .ok (.goto (-39), 3) := by decide +kernel
theorem dX3_removeTree_50 : decode cX3_removeTree 50 = .ok (.return_, 1) := by decide +kernel
theorem dX3_enter_0 : decode cX3_enter 0 = .ok (.aload_n 0, 1) := by decide +kernel
theorem dX3_enter_1 : decode cX3_enter 1 = .ok (.getfield 44, 3) := by decide +kernel
theorem dX3_enter_4 : decode cX3_enter 4 = .ok (.iconst (-1), 1) := by decide +kernel
theorem dX3_enter_5 : decode cX3_enter 5 = .ok (.if_icmp .eq 13, 3) := by decide +kernel
theorem dX3_enter_8 : decode cX3_enter 8 = .ok (.iload_n 1, 1) := by decide +kernel
theorem dX3_enter_9 : decode cX3_enter 9 = .ok (.aload_n 0, 1) := by decide +kernel
theorem dX3_enter_10 : decode cX3_enter 10 = .ok (.getfield 44, 3) := by decide +kernel
theorem dX3_enter_13 : decode cX3_enter 13 = .ok (.if_icmp .le 5, 3) := by decide +kernel
theorem dX3_enter_16 : decode cX3_enter 16 = .ok (.iconst 0, 1) := by decide +kernel
theorem dX3_enter_17 : decode cX3_enter 17 = .ok (.ireturn, 1) := by decide +kernel
theorem dX3_enter_18 : decode cX3_enter 18 = .ok (.aload_n 0, 1) := by decide +kernel
theorem dX3_enter_19 : decode cX3_enter 19 = .ok (.dup, 1) := by decide +kernel
theorem dX3_enter_20 : decode cX3_enter 20 = .ok (.getfield 247, 3) := by decide +kernel
theorem dX3_enter_23 : decode cX3_enter 23 = .ok (.iload_n 1, 1) := by decide +kernel
theorem dX3_enter_24 : decode cX3_enter 24 = .ok (.iadd, 1) := by decide +kernel
theorem dX3_enter_25 : decode cX3_enter 25 = .ok (.putfield 247, 3) := by decide +kernel
theorem dX3_enter_28 : decode cX3_enter 28 = .ok (.iconst 1, 1) := by decide +kernel
theorem dX3_enter_29 : decode cX3_enter 29 = .ok (.ireturn, 1) := by decide +kernel
theorem dX3_outcome_0 : decode cX3_outcome 0 = .ok (.aload_n 0, 1) := by decide +kernel
theorem dX3_outcome_1 : decode cX3_outcome 1 = .ok (.getfield 44, 3) := by decide +kernel
theorem dX3_outcome_4 : decode cX3_outcome 4 = .ok (.iconst (-1), 1) := by decide +kernel
theorem dX3_outcome_5 : decode cX3_outcome 5 = .ok (.if_icmp .ne 5, 3) := by decide +kernel
theorem dX3_outcome_8 : decode cX3_outcome 8 = .ok (.iload_n 1, 1) := by decide +kernel
theorem dX3_outcome_9 : decode cX3_outcome 9 = .ok (.ireturn, 1) := by decide +kernel
theorem dX3_outcome_10 : decode cX3_outcome 10 = .ok (.aload_n 0, 1) := by decide +kernel
theorem dX3_outcome_11 : decode cX3_outcome 11 = .ok (.iconst (-1), 1) := by decide +kernel
theorem dX3_outcome_12 : decode cX3_outcome 12 = .ok (.putfield 44, 3) := by decide +kernel
theorem dX3_outcome_15 : decode cX3_outcome 15 = .ok (.aload_n 0, 1) := by decide +kernel
theorem dX3_outcome_16 : decode cX3_outcome 16 = .ok (.dup, 1) := by decide +kernel
theorem dX3_outcome_17 : decode cX3_outcome 17 = .ok (.getfield 250, 3) := by decide +kernel
theorem dX3_outcome_20 : decode cX3_outcome 20 = .ok (.iconst 1, 1) := by decide +kernel
theorem dX3_outcome_21 : decode cX3_outcome 21 = .ok (.iadd, 1) := by decide +kernel
theorem dX3_outcome_22 : decode cX3_outcome 22 = .ok (.putfield 250, 3) := by decide +kernel
theorem dX3_outcome_25 : decode cX3_outcome 25 = .ok (.aload_n 0, 1) := by decide +kernel
theorem dX3_outcome_26 : decode cX3_outcome 26 = .ok (.invokevirtual 278, 3) := by decide +kernel
theorem dX3_outcome_29 : decode cX3_outcome 29 = .ok (.ldc_w 281, 3) := by decide +kernel
theorem dX3_outcome_32 : decode cX3_outcome 32 = .ok (.ireturn, 1) := by decide +kernel
theorem dX3_startAnew_0 : decode cX3_startAnew 0 = .ok (.iconst 0, 1) := by decide +kernel
theorem dX3_startAnew_1 : decode cX3_startAnew 1 = .ok (.istore_n 1, 1) := by decide +kernel
theorem dX3_startAnew_2 : decode cX3_startAnew 2 = .ok (.iload_n 1, 1) := by decide +kernel
theorem dX3_startAnew_3 : decode cX3_startAnew 3 = .ok (.aload_n 0, 1) := by decide +kernel
theorem dX3_startAnew_4 : decode cX3_startAnew 4 = .ok (.getfield 18, 3) := by decide +kernel
theorem dX3_startAnew_7 : decode cX3_startAnew 7 = .ok (.arraylength, 1) := by decide +kernel
theorem dX3_startAnew_8 : decode cX3_startAnew 8 = .ok (.if_icmp .ge 19, 3) := by decide +kernel
theorem dX3_startAnew_11 : decode cX3_startAnew 11 = .ok (.aload_n 0, 1) := by decide +kernel
theorem dX3_startAnew_12 : decode cX3_startAnew 12 = .ok (.getfield 18, 3) := by decide +kernel
theorem dX3_startAnew_15 : decode cX3_startAnew 15 = .ok (.iload_n 1, 1) := by decide +kernel
theorem dX3_startAnew_16 : decode cX3_startAnew 16 = .ok (.aaload, 1) := by decide +kernel
theorem dX3_startAnew_17 : decode cX3_startAnew 17 = .ok (.iconst 0, 1) := by decide +kernel
theorem dX3_startAnew_18 : decode cX3_startAnew 18 = .ok (.putfield 127, 3) := by decide +kernel
theorem dX3_startAnew_21 : decode cX3_startAnew 21 = .ok (.iinc 1 1, 3) := by decide +kernel
theorem dX3_startAnew_24 : decode cX3_startAnew 24 = .ok (.goto (-22), 3) := by decide +kernel
theorem dX3_startAnew_27 : decode cX3_startAnew 27 = .ok (.iconst 0, 1) := by decide +kernel
theorem dX3_startAnew_28 : decode cX3_startAnew 28 = .ok (.istore_n 1, 1) := by decide +kernel
theorem dX3_startAnew_29 : decode cX3_startAnew 29 = .ok (.iload_n 1, 1) := by decide +kernel
theorem dX3_startAnew_30 : decode cX3_startAnew 30 = .ok (.aload_n 0, 1) := by decide +kernel
theorem dX3_startAnew_31 : decode cX3_startAnew 31 = .ok (.getfield 11, 3) := by decide +kernel
theorem dX3_startAnew_34 : decode cX3_startAnew 34 = .ok (.arraylength, 1) := by decide +kernel
theorem dX3_startAnew_35 : decode cX3_startAnew 35 = .ok (.if_icmp .ge 19, 3) := by decide +kernel
theorem dX3_startAnew_38 : decode cX3_startAnew 38 = .ok (.aload_n 0, 1) := by decide +kernel
theorem dX3_startAnew_39 : decode cX3_startAnew 39 = .ok (.getfield 11, 3) := by decide +kernel
theorem dX3_startAnew_42 : decode cX3_startAnew 42 = .ok (.iload_n 1, 1) := by decide +kernel
theorem dX3_startAnew_43 : decode cX3_startAnew 43 = .ok (.aaload, 1) := by decide +kernel
theorem dX3_startAnew_44 : decode cX3_startAnew 44 = .ok (.iconst 0, 1) := by decide +kernel
theorem dX3_startAnew_45 : decode cX3_startAnew 45 = .ok (.putfield 102, 3) := by decide +kernel
theorem dX3_startAnew_48 : decode cX3_startAnew 48 = .ok (.iinc 1 1, 3) := by decide +kernel
theorem dX3_startAnew_51 : decode cX3_startAnew 51 = .ok (.goto (-22), 3) := by decide +kernel
theorem dX3_startAnew_54 : decode cX3_startAnew 54 = .ok (.aload_n 0, 1) := by decide +kernel
theorem dX3_startAnew_55 : decode cX3_startAnew 55 = .ok (.getfield 11, 3) := by decide +kernel
theorem dX3_startAnew_58 : decode cX3_startAnew 58 = .ok (.iconst 0, 1) := by decide +kernel
theorem dX3_startAnew_59 : decode cX3_startAnew 59 = .ok (.aaload, 1) := by decide +kernel
theorem dX3_startAnew_60 : decode cX3_startAnew 60 = .ok (.iconst (-1), 1) := by decide +kernel
theorem dX3_startAnew_61 : decode cX3_startAnew 61 = .ok (.iconst 0, 1) := by decide +kernel
theorem dX3_startAnew_62 : decode cX3_startAnew 62 = .ok (.iconst 0, 1) := by decide +kernel
theorem dX3_startAnew_63 : decode cX3_startAnew 63 = .ok (.iconst 0, 1) := by decide +kernel
theorem dX3_startAnew_64 : decode cX3_startAnew 64 = .ok (.iconst 0, 1) := by decide +kernel
theorem dX3_startAnew_65 : decode cX3_startAnew 65 = .ok (.invokevirtual 30, 3) := by decide +kernel
theorem dX3_startAnew_68 : decode cX3_startAnew 68 = .ok (.return_, 1) := by decide +kernel
theorem dX4_init_0 : decode cX4_init 0 = .ok (.aload_n 0, 1) := by decide +kernel
theorem dX4_init_1 : decode cX4_init 1 = .ok (.invokespecial 1, 3) := by decide +kernel
theorem dX4_init_4 : decode cX4_init 4 = .ok (.aload_n 0, 1) := by decide +kernel
theorem dX4_init_5 : decode cX4_init 5 = .ok (.bipush 24, 2) := by decide +kernel
theorem dX4_init_7 : decode cX4_init 7 = .ok (.newarray .boolean, 2) := by decide +kernel
theorem dX4_init_9 : decode cX4_init 9 = .ok (.putfield 7, 3) := by decide +kernel
theorem dX4_init_12 : decode cX4_init 12 = .ok (.aload_n 0, 1) := by decide +kernel
theorem dX4_init_13 : decode cX4_init 13 = .ok (.bipush 24, 2) := by decide +kernel
theorem dX4_init_15 : decode cX4_init 15 = .ok (.newarray .int, 2) := by decide +kernel
theorem dX4_init_17 : decode cX4_init 17 = .ok (.putfield 13, 3) := by decide +kernel
theorem dX4_init_20 : decode cX4_init 20 = .ok (.aload_n 0, 1) := by decide +kernel
theorem dX4_init_21 : decode cX4_init 21 = .ok (.bipush 24, 2) := by decide +kernel
